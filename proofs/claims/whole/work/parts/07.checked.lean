theorem am_allz {z : Nat} (h : z < am_count) : am_all z = true := by
  have key : ∀ (n b : Nat), (List.range n).all (fun k => am_all (b + k)) = true → b ≤ z → z < b + n → am_all z = true := by
    intro n b hh h1 h2
    have := List.all_eq_true.mp hh (z - b) (List.mem_range.mpr (by omega))
    rw [show b + (z - b) = z by omega] at this
    exact this
  have h' : z < 173 := h
  rcases Nat.lt_or_ge z 12 with q0 | q0
  · exact key _ _ am_all_0 (by omega) (by omega)
  rcases Nat.lt_or_ge z 24 with q1 | q1
  · exact key _ _ am_all_1 (by omega) (by omega)
  rcases Nat.lt_or_ge z 36 with q2 | q2
  · exact key _ _ am_all_2 (by omega) (by omega)
  rcases Nat.lt_or_ge z 48 with q3 | q3
  · exact key _ _ am_all_3 (by omega) (by omega)
  rcases Nat.lt_or_ge z 60 with q4 | q4
  · exact key _ _ am_all_4 (by omega) (by omega)
  rcases Nat.lt_or_ge z 72 with q5 | q5
  · exact key _ _ am_all_5 (by omega) (by omega)
  rcases Nat.lt_or_ge z 84 with q6 | q6
  · exact key _ _ am_all_6 (by omega) (by omega)
  rcases Nat.lt_or_ge z 96 with q7 | q7
  · exact key _ _ am_all_7 (by omega) (by omega)
  rcases Nat.lt_or_ge z 108 with q8 | q8
  · exact key _ _ am_all_8 (by omega) (by omega)
  rcases Nat.lt_or_ge z 120 with q9 | q9
  · exact key _ _ am_all_9 (by omega) (by omega)
  rcases Nat.lt_or_ge z 132 with q10 | q10
  · exact key _ _ am_all_10 (by omega) (by omega)
  rcases Nat.lt_or_ge z 144 with q11 | q11
  · exact key _ _ am_all_11 (by omega) (by omega)
  rcases Nat.lt_or_ge z 156 with q12 | q12
  · exact key _ _ am_all_12 (by omega) (by omega)
  rcases Nat.lt_or_ge z 168 with q13 | q13
  · exact key _ _ am_all_13 (by omega) (by omega)
  rcases Nat.lt_or_ge z 173 with q14 | q14
  · exact key _ _ am_all_14 (by omega) (by omega)
  omega
theorem am_chkz {z pc : Nat} {e : ClassFile.Instr × Nat × Nat} (h : z < am_count) (hf : am_fetch z pc = some e) : decode (am_info z).2.1 pc = .ok (e.1, e.2.1) ∧ (am_len e.1 = 0 ∨ am_len e.1 = e.2.1) ∧ am_res (am_info z).1.cls (am_info z).1.name pc e.1 e.2.2 = true := by
  unfold am_fetch at hf
  cases hb : Nat.blt pc (am_meth z).1 with
  | false => rw [hb] at hf; cases hf
  | true =>
    rw [hb] at hf
    have hlt : pc < (am_meth z).1 := by simpa [Nat.blt_eq] using hb
    have h1 := List.all_eq_true.mp (am_allz h) pc (List.mem_range.mpr hlt)
    unfold am_chk at h1
    have hf' : (am_meth z).2.1 pc = some e := hf
    rw [hf'] at h1
    obtain ⟨i, len, aux⟩ := e
    simp only [Bool.and_eq_true, Bool.or_eq_true, decide_eq_true_eq] at h1
    refine ⟨h1.1.1, ?_, h1.2⟩
    rcases h1.1.2 with q | q
    · exact Or.inl (Nat.eq_of_beq_eq_true q)
    · exact Or.inr (Nat.eq_of_beq_eq_true q)
theorem am_mokz {z : Nat} (h : z < am_count) : am_mok z = true := by
  have key : ∀ (n b : Nat), (List.range n).all (fun k => am_mok (b + k)) = true → b ≤ z → z < b + n → am_mok z = true := by
    intro n b hh h1 h2
    have := List.all_eq_true.mp hh (z - b) (List.mem_range.mpr (by omega))
    rw [show b + (z - b) = z by omega] at this
    exact this
  have h' : z < 173 := h
  rcases Nat.lt_or_ge z 30 with q0 | q0
  · exact key _ _ am_moks_0 (by omega) (by omega)
  rcases Nat.lt_or_ge z 60 with q1 | q1
  · exact key _ _ am_moks_1 (by omega) (by omega)
  rcases Nat.lt_or_ge z 90 with q2 | q2
  · exact key _ _ am_moks_2 (by omega) (by omega)
  rcases Nat.lt_or_ge z 120 with q3 | q3
  · exact key _ _ am_moks_3 (by omega) (by omega)
  rcases Nat.lt_or_ge z 150 with q4 | q4
  · exact key _ _ am_moks_4 (by omega) (by omega)
  rcases Nat.lt_or_ge z 173 with q5 | q5
  · exact key _ _ am_moks_5 (by omega) (by omega)
  omega
