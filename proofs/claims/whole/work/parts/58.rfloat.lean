/-! floats, on both sides -/
theorem se_run {s : Nat → Int32} {w : Int32} : ∀ (m e j : Nat), e ≤ j → j < sp_end s w m e → s j = w
  | 0, e, j, h1, h2 => absurd h2 (by show ¬ j < e; omega)
  | m + 1, e, j, h1, h2 => by
    unfold sp_end at h2
    by_cases z : s e = w
    · rw [if_pos z] at h2
      by_cases ej : j = e
      · subst ej; exact z
      · exact se_run m (e + 1) j (by omega) h2
    · rw [if_neg z] at h2
      exact absurd h2 (by omega)
theorem se_stop {s : Nat → Int32} {w : Int32} : ∀ (m e : Nat), sp_end s w m e < e + m → ¬ s (sp_end s w m e) = w
  | 0, e, h => absurd h (by show ¬ e < e + 0; omega)
  | m + 1, e, h => by
    unfold sp_end at h ⊢
    by_cases z : s e = w
    · rw [if_pos z] at h ⊢
      exact se_stop m (e + 1) (by omega)
    · rw [if_neg z]
      exact z
theorem se_if {s s' : Nat → Int32} {w : Int32} {C : Nat} (h : ∀ j, j < C → s j = s' j) : ∀ (m e : Nat), e + m ≤ C → sp_end s w m e = sp_end s' w m e
  | 0, _, _ => rfl
  | m + 1, e, he => by
    unfold sp_end
    rw [h e (by omega), se_if h m (e + 1) (by omega)]
theorem mf_if {s s' : Nat → Int32} {C r : Nat} {n i wh : Int32} (h : ∀ j, j < C → s j = s' j) : ∀ (f c : Nat) (p : Int32), mf_r s C r n i wh f c p = mf_r s' C r n i wh f c p
  | 0, _, _ => rfl
  | f + 1, c, p => by
    unfold mf_r
    by_cases z : C ≤ c
    · rw [if_pos z, if_pos z]
    · rw [if_neg z, if_neg z, h c (by omega), se_if h (C - (c + 1)) (c + 1) (by omega), mf_if h f, mf_if h f]
theorem ffr_skip {s : Nat → Int32} {C r : Nat} {n i wh : Int32} (hn : 0 ≤ n) : ∀ (k m c : Nat) (p : Int32), (∀ j, c ≤ j → j < c + k → sp_len s C j = 0) → sp_ffr s C r n i wh (k + m) c p = sp_ffr s C r n i wh m (c + k) p
  | 0, m, c, p, _ => by rw [Nat.zero_add]; rfl
  | k + 1, m, c, p, h => by
    rw [show k + 1 + m = (k + m) + 1 by omega]
    show (if nI (sp_len s C c) ≤ n then sp_ffr s C r n i wh (k + m) (c + 1) p else if p = i then Sum.inl (sp_tell r c (sp_len s C c) (s c) wh) else sp_ffr s C r n i wh (k + m) (c + 1) (p + 1)) = sp_ffr s C r n i wh m (c + (k + 1)) p
    rw [h c (by omega) (by omega), if_pos (show nI 0 ≤ n from hn), ffr_skip hn k m (c + 1) p (fun j h1 h2 => h j (by omega) (by omega)), show c + 1 + k = c + (k + 1) by omega]
theorem mf_eq {s : Nat → Int32} {C r : Nat} {n i wh : Int32} (hn : 0 ≤ n) : ∀ (f m c : Nat) (p : Int32), c + m = C → m < f → (c = 0 ∨ C ≤ c ∨ ¬ s (c - 1) = s c) → mf_r s C r n i wh f c p = sp_ffr s C r n i wh m c p
  | 0, m, c, p, _, hf, _ => absurd hf (by omega)
  | f + 1, m, c, p, hm, hf, hb => by
    by_cases z : C ≤ c
    · rw [show m = 0 by omega]
      unfold mf_r sp_ffr
      rw [if_pos z]
    · obtain ⟨e, he⟩ : ∃ e, sp_end s (s c) (C - (c + 1)) (c + 1) = e := ⟨_, rfl⟩
      have hle := sp_end_le s (s c) (C - (c + 1)) (c + 1)
      rw [he] at hle
      have run : ∀ j, c ≤ j → j < e → s j = s c := fun j h1 h2 => by
        by_cases ej : j = c
        · rw [ej]
        · exact se_run _ (c + 1) j (by omega) (by rw [he]; exact h2)
      have zl : ∀ j, c < j → j < e → sp_len s C j = 0 := fun j h1 h2 => by
        unfold sp_len
        exact if_pos (Or.inr ⟨by omega, by rw [run (j - 1) (by omega) (by omega), run j (by omega) h2]⟩)
      have nb : e = 0 ∨ C ≤ e ∨ ¬ s (e - 1) = s e := by
        by_cases ze : C ≤ e
        · exact Or.inr (Or.inl ze)
        · refine Or.inr (Or.inr ?_)
          rw [run (e - 1) (by omega) (by omega)]
          have := se_stop (s := s) (w := s c) (C - (c + 1)) (c + 1) (by rw [he]; omega)
          rw [he] at this
          exact fun q => this q.symm
      have IH : ∀ p, mf_r s C r n i wh f e p = sp_ffr s C r n i wh (C - e) e p := fun p => mf_eq hn f (C - e) e p (by omega) (by omega) nb
      have skip : ∀ p, sp_ffr s C r n i wh (C - (c + 1)) (c + 1) p = sp_ffr s C r n i wh (C - e) e p := fun p => by
        have := ffr_skip (s := s) (C := C) (r := r) (i := i) (wh := wh) hn (e - (c + 1)) (C - e) (c + 1) p (fun j h1 h2 => zl j (by omega) (by omega))
        rw [show e - (c + 1) + (C - e) = C - (c + 1) by omega, show c + 1 + (e - (c + 1)) = e by omega] at this
        exact this
      obtain ⟨m', rfl⟩ : ∃ m', m = m' + 1 := ⟨m - 1, by omega⟩
      have em : m' = C - (c + 1) := by omega
      unfold mf_r sp_ffr
      rw [if_neg z, he, em]
      by_cases z0 : s c = 0
      · have l0 : sp_len s C c = 0 := if_pos (Or.inl z0)
        rw [if_neg (fun q => q.1 z0), l0, if_pos (show nI 0 ≤ n from hn), IH, skip]
      · have l1 : sp_len s C c = e - c := by
          unfold sp_len
          rw [if_neg (fun q => q.elim z0 (fun q2 => by
            rcases hb with b | b | b
            · omega
            · exact z b
            · exact b q2.2)), he]
        rw [l1]
        by_cases zn : n < nI (e - c)
        · rw [if_pos ⟨z0, zn⟩, if_neg (Int32.not_le.mpr zn)]
          by_cases zp : p = i
          · rw [if_pos zp, if_pos zp]
          · rw [if_neg zp, if_neg zp, IH, skip]
        · rw [if_neg (fun q => zn q.2), if_pos (Int32.not_lt.mp zn), IH, skip]
theorem mo_ff {s s' : Nat → Nat → Int32} {C : Nat} {n i wh : Int32} (hn : 0 ≤ n) : ∀ (m r : Nat) (p : Int32), (∀ k j, r ≤ k → k < r + m → j < C → s k j = s' k j) → mf_o s C n i wh m r p = sp_ff s' C n i wh m r p
  | 0, _, _, _ => rfl
  | m + 1, r, p, h => by
    unfold mf_o sp_ff
    rw [mf_if (fun j hj => h r j (by omega) (by omega) hj), mf_eq hn (C + 1) C 0 p (by omega) (by omega) (Or.inl rfl)]
    cases sp_ffr (s' r) C r n i wh C 0 p with
    | inl x => rfl
    | inr q => exact mo_ff hn m (r + 1) q (fun k j h1 h2 hj => h k j (by omega) (by omega) hj)
theorem CO_floats {d : Nat} (hd : 5 < d) {X : am_H} (hX : WO X) {n i wh : Int32} : CO d z_Desk_floats z_Model_floats [.int n, .int i, .int wh] X := by
  obtain ⟨g, σ, τ, t, A, B, P, R, C, nh, nm, ev, c9, PA, KF, rfl, q⟩ := hX
  obtain ⟨⟨t0, t1, s1, s2⟩, ⟨u, hu, t2, s5⟩, s6, hcr, _⟩ := q.rw
  by_cases hb : 0 ≤ n ∧ (0 ≤ wh ∧ wh ≤ 3)
  · refine co_read (v := .int (sp_ff (sp_row (τ 3) (B 0)) C n i wh R 0 0)) q (fun h hn _ => D_fl hn hd q.hR q.hC t0 t1 hb) (fun h hn => ?_)
    have e := m_floats (d := d) (h := h) (σ := σ) (t := t) (A := A) (i := i) hn (by omega) q.hR q.hC s1 s2 hb
    rw [mo_ff hb.1 R 0 0 (s' := sp_row (τ 3) (B 0)) (fun k j _ hk hj => by
      show sp_seen (σ 6) _ = sp_seen (τ 3) _
      rw [s6]
      exact seen_if (fun l hl => (hcr.1 k j (by omega) hj).1 l hl))] at e
    exact e
  · exact co_read (v := .int (-1)) q (fun h hn _ => D_flB hn hd hb) (fun h hn => m_floatsB hn (by omega) hb)
