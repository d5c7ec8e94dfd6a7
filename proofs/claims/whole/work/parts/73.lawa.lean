/-! one call of the script, on both sides, in the law -/
def lw_aOK1 (pc t : Nat) : Bool := decide (decode code pc = .ok (.aload_n 0, 1)) && (decide (decode code (pc + 1) = .ok (.iload_n 3, 1)) && (if t = 5 then decide (decode code (pc + 2) = .ok (.bipush 6, 2)) && (decide (decode code (pc + 4) = .ok (.iadd, 1)) && decide (decode code (pc + 5) = .ok (.iaload, 1))) else decide (decode code (pc + 2) = .ok (.iconst (((t + 1 : Nat)) : Int), 1)) && (decide (decode code (pc + 3) = .ok (.iadd, 1)) && decide (decode code (pc + 4) = .ok (.iaload, 1)))))
def lw_w (n : Nat) : Nat := 5 * n + (if n = 6 then 1 else 0)
def lw_aOKn (pc n : Nat) : Bool := decide (n ≤ 6) && (List.range n).all (fun t => lw_aOK1 (pc + 5 * t) t)
def lw_vs (xs : Nat → Int32) (i : Nat) : Nat → List Value
  | 0 => []
  | n + 1 => .int (xs (i + (n + 1))) :: lw_vs xs i n
theorem lw_vs_map {base : Nat} {tS : Nat → Nat} {xs : Nat → Int32} {i : Nat} : ∀ n : Nat, (((lw_vs xs i n).reverse).map (am_v base tS)).reverse = lw_vs xs i n
  | 0 => rfl
  | n + 1 => by
    have h := lw_vs_map (base := base) (tS := tS) (xs := xs) (i := i) n
    rw [List.map_reverse, List.reverse_reverse] at h ⊢
    show Value.int (xs (i + (n + 1))) :: (lw_vs xs i n).map (am_v base tS) = _
    rw [h]
    rfl
theorem lw_vs_c1 {xs : Nat → Int32} {i : Nat} (n : Nat) : (lw_vs xs i n).all am_c1 = true := by
  induction n with
  | zero => rfl
  | succ n ih => exact ih
theorem lw_vs_len {xs : Nat → Int32} {i : Nat} (n : Nat) : (lw_vs xs i n).length = n := by
  induction n with
  | zero => rfl
  | succ n ih => exact congrArg Nat.succ ih
def lw_lv (b base : Nat) (i : Nat) : List (Nat × Value) := [(0, .ref b), (1, .ref base), (2, .ref (base + 18)), (3, .int (nI i))]
section LWA
variable {p : Program} {l : Launch} {e : Env} {s : State} {m : MethodId} {below : List Frame} {meth : Method} {c : Code} {b L : Nat} {xs : Nat → Int32} {D : va_G} {cA : Nat → ClassId} {tS : Nat → Nat} {Q : State → Prop} {H : Heap} {locs : List Loc} {ls : Array Slot} {rest : List Value} {pc i cells slots : Nat} {h h1 X : am_H}
theorem lw_arg (C : lw_C p s m meth c b L xs D cA tS) (hS : lw_S D cA tS s h H locs) (hl : lv_has ls 4 (lw_lv b s.heap.size i)) (hi : i + 7 ≤ L) (hL : L ≤ 3584) {t : Nat} (ht : t < 6) (hok : lw_aOK1 pc t = true)
    (k : W p l e room_1 s m #[Value.ref b] below meth c H locs cells slots Q (F0 m (pc + (if t = 5 then 6 else 5)) ls (.int (xs (i + (t + 1))) :: rest))) : W p l e room_1 s m #[Value.ref b] below meth c H locs cells slots Q (F0 m pc ls rest) := by
  obtain ⟨hx, hb, hrt, hml, hown, hts, hscr, hbl, hlocks, hX⟩ := C
  have hbA : ¬ (fun q : Nat => s.heap.size ≤ q) b := Nat.not_le.mpr hbl
  unfold lw_aOK1 at hok
  rw [Bool.and_eq_true, Bool.and_eq_true, decide_eq_true_eq, decide_eq_true_eq] at hok
  obtain ⟨d0, d1, hok⟩ := hok
  have hin : vp_in (nI (i + (t + 1))) L := vp_in_nI (by omega) (by omega)
  have hcl : (nI (i + (t + 1))).toNatClampNeg = i + (t + 1) := nI_clamp (by omega)
  refine lv_aload_n hx hb d0 rfl (lv_at hl 0 rfl) ?_
  refine lv_iload_n hx hb d1 rfl (lv_at hl 3 rfl) ?_
  by_cases h5 : t = 5
  · subst h5
    rw [if_pos rfl, Bool.and_eq_true, Bool.and_eq_true, decide_eq_true_eq, decide_eq_true_eq, decide_eq_true_eq] at hok
    rw [if_pos rfl] at k
    refine lv_bipush (v := nI (5 + 1)) hx hb hok.1 (by decide +kernel) ?_
    refine lv_iadd hx hb hok.2.1 ?_
    rw [nI_add]
    refine va_sld hx hb hscr hbl hbA hS.vaS hin hok.2.2 ?_
    rw [hcl]
    exact k
  · rw [if_neg h5, Bool.and_eq_true, Bool.and_eq_true, decide_eq_true_eq, decide_eq_true_eq, decide_eq_true_eq] at hok
    rw [if_neg h5] at k
    refine lv_iconst (v := nI (t + 1)) hx hb hok.1 rfl ?_
    refine lv_iadd hx hb hok.2.1 ?_
    rw [nI_add]
    refine va_sld hx hb hscr hbl hbA hS.vaS hin hok.2.2 ?_
    rw [hcl]
    exact k
theorem lw_args (C : lw_C p s m meth c b L xs D cA tS) (hS : lw_S D cA tS s h H locs) (hl : lv_has ls 4 (lw_lv b s.heap.size i)) (hi : i + 7 ≤ L) (hL : L ≤ 3584) : ∀ (n : Nat), lw_aOKn pc n = true →
    W p l e room_1 s m #[Value.ref b] below meth c H locs cells slots Q (F0 m (pc + lw_w n) ls (lw_vs xs i n ++ rest)) → W p l e room_1 s m #[Value.ref b] below meth c H locs cells slots Q (F0 m pc ls rest)
  | 0, _, k => k
  | n + 1, hok, k => by
    unfold lw_aOKn at hok
    rw [Bool.and_eq_true, decide_eq_true_eq, List.all_eq_true] at hok
    refine lw_args C hS hl hi hL n ?_ ?_
    · unfold lw_aOKn
      rw [Bool.and_eq_true, decide_eq_true_eq, List.all_eq_true]
      exact ⟨by omega, fun t ht => hok.2 t (List.mem_range.mpr (by have := List.mem_range.mp ht; omega))⟩
    · have hw : lw_w n = 5 * n := by unfold lw_w; rw [if_neg (by omega)]; rfl
      rw [hw]
      refine lw_arg C hS hl hi hL (t := n) (by omega) (hok.2 n (List.mem_range.mpr (by omega))) ?_
      have e1 : pc + 5 * n + (if n = 5 then 6 else 5) = pc + lw_w (n + 1) := by
        unfold lw_w
        by_cases h5 : n = 5
        · rw [if_pos h5, if_pos (by omega)]; omega
        · rw [if_neg h5, if_neg (by omega)]; omega
      rw [e1]
      exact k
end LWA
def lw_end (pc k : Nat) : Bool := if k = 3 then decide (decode code pc = .ok (.lcmp, 1)) && decide (decode code (pc + 1) = .ok (.ifCond .eq (981 - ((pc + 1 : Nat) : Int)), 3)) else decide (decode code pc = .ok (.if_icmp .eq (981 - (pc : Int)), 3))
def lw_mOK (n z ci nn : Nat) : Bool := decide (z < am_count) && (decide ((am_meth z).2.2.2.1 = n + 1) && (decide ((am_meth z).2.2.2.2.2 = ci + 1) && decide (Cond.methodLink R_law nn (am_info z).1 ∈ lw_tbl)))
def lw_cOK (pc n nc nm zc zm k : Nat) : Bool := decide (decode code pc = .ok (.aload_n 1, 1)) && (lw_aOKn (pc + 1) n && (decide (decode code (pc + 1 + lw_w n) = .ok (.invokevirtual nc, 3)) && (decide (decode code (pc + 1 + lw_w n + 3) = .ok (.aload_n 2, 1)) && (lw_aOKn (pc + 1 + lw_w n + 3 + 1) n && (decide (decode code (pc + 1 + lw_w n + 3 + 1 + lw_w n) = .ok (.invokevirtual nm, 3)) && (lw_end (pc + 1 + lw_w n + 3 + 1 + lw_w n + 3) k && (lw_mOK n zc 11 nc && (lw_mOK n zm 12 nm && (decide ((am_meth zc).2.2.2.2.1 = k) && decide (k = 1 ∨ k = 3))))))))))
theorem lw_cmp (x : Int64) : lg_cmp x x = 0 := by
  unfold lg_cmp
  rw [if_neg (fun z : x < x => Int64.lt_irrefl z), if_pos rfl]
theorem WO.c0 {X : am_H} (hX : WO X) : 0 < X.1 ∧ ∃ fs, X.2.2 0 = .inr (11, fs) := by
  obtain ⟨g, σ, τ, t, A, B, P, R, C, nh, nm, ev, c, PA, KF, rfl, q⟩ := hX
  exact ⟨by show 0 < g.1; have := q.g43; omega, _, rfl⟩
theorem WO.c18 {X : am_H} (hX : WO X) : 18 < X.1 ∧ ∃ fs, X.2.2 18 = .inr (12, fs) := by
  obtain ⟨g, σ, τ, t, A, B, P, R, C, nh, nm, ev, c, PA, KF, rfl, q⟩ := hX
  exact ⟨by show 18 < g.1; have := q.g43; omega, _, rfl⟩
theorem lw_rcv {z ci k : Nat} {as : List Value} {h : am_H} (ha : as.all am_c1 = true) (hk : k < h.1) (hc : ∃ fs, h.2.2 k = .inr (ci, fs)) (he : (am_meth z).2.2.2.2.2 = ci + 1) : am_rcv 2 z (.ref k :: as) h = true := by
  obtain ⟨fs, hc⟩ := hc
  show ((Value.ref k :: as).all am_c1 && (Nat.blt k h.1 && (match h.2.2 k with
      | .inr (ci, _) => Nat.beq (ci + 1) (am_meth z).2.2.2.2.2
      | _ => false))) = true
  rw [hc, he, Bool.and_eq_true, Bool.and_eq_true, Nat.blt_eq]
  exact ⟨ha, hk, Nat.beq_refl _⟩
section LWB
variable {p : Program} {l : Launch} {e : Env} {s : State} {m : MethodId} {below : List Frame} {meth : Method} {c : Code} {b L : Nat} {xs : Nat → Int32} {D : va_G} {cA : Nat → ClassId} {tS : Nat → Nat} {Q : State → Prop} {H : Heap} {locs : List Loc} {ls : Array Slot} {pc i : Nat} {X : am_H}
/-- a case of the switch: both calls, the same answer, on to the loop's end -/
theorem lw_case (C : lw_C p s m meth c b L xs D cA tS) (hS : lw_S D cA tS s X H locs) (hX : WO X) (hl : lv_has ls 4 (lw_lv b s.heap.size i)) (hi : i + 7 ≤ L) (hL : L ≤ 3584) {n nc nm zc zm d : Nat} (k : Nat) (hok : lw_cOK pc n nc nm zc zm k = true) (hd : d + 1 ≤ 2048 ∧ 64 * d + 64 ≤ 84000) (hco : CO d zc zm (lw_vs xs i n).reverse X) (hr : X.1 + 5 ≤ 600000 ∧ X.2.1 + 450 ≤ 7302249)
    (kk : ∀ (X2 : am_H) (H1 : Heap) (locs1 : List Loc), WO X2 → X2.1 ≤ X.1 + 5 → X2.2.1 ≤ X.2.1 + 450 → lw_S D cA tS s X2 H1 locs1 → W p l e room_1 s m #[Value.ref b] below meth c H1 locs1 X2.1 X2.2.1 Q (F0 m 981 ls [])) : W p l e room_1 s m #[Value.ref b] below meth c H locs X.1 X.2.1 Q (F0 m pc ls []) := by
  obtain ⟨v, X1, X2, hm1, hm2, hX2, b1, b2, b3, b4⟩ := hco
  unfold lw_cOK lw_mOK at hok
  simp only [Bool.and_eq_true, decide_eq_true_eq] at hok
  obtain ⟨d0, o1, d1, d2, o2, d3, oe, ⟨z1, z2, z3, z4⟩, ⟨y1, y2, y3, y4⟩, ek, hk⟩ := hok
  have hc1 : (lw_vs xs i n).reverse.all am_c1 = true := by rw [List.all_reverse]; exact lw_vs_c1 n
  have hln : (lw_vs xs i n).reverse.length = n := by rw [List.length_reverse]; exact lw_vs_len n
  obtain ⟨g0, fs0, f0⟩ := hX.c0
  obtain ⟨g18, fs18, f18⟩ := hX.c18
  obtain ⟨g18', c18'⟩ := am_m_keep z1 hm1 g18 f18
  have hx := C.1
  have hb := C.2.1
  refine lv_aload_n hx hb d0 rfl (lv_at hl 1 rfl) ?_
  refine lw_args C hS hl hi hL n o1 ?_
  rw [← lw_vs_map (base := s.heap.size) (tS := tS) (xs := xs) (i := i) n]
  refine lw_call (b0 := 0) (rest := []) C hS z1 hm1 (lw_rcv hc1 g0 ⟨fs0, f0⟩ z3) (by rw [hln, z2]) (by omega) (List.mem_filter.mpr ⟨z4, rfl⟩) d1 hd (by omega) (Nat.zero_le _) hl.1 (fun H1 locs1 hS1 => ?_)
  refine lv_aload_n hx hb d2 rfl (lv_at hl 2 rfl) ?_
  refine lw_args C hS1 hl hi hL n o2 ?_
  rw [← lw_vs_map (base := s.heap.size) (tS := tS) (xs := xs) (i := i) n]
  have hcat : ((((some v).map (am_v s.heap.size tS)).toList ++ ([] : List Value)).map fun v => v.category).sum ≤ 8 := by
    show (am_v s.heap.size tS v).category + 0 ≤ 8
    rw [am_cat]
    cases v <;> exact Nat.le_of_ble_eq_true rfl
  refine lw_call (b0 := 18) C hS1 y1 hm2 (lw_rcv hc1 g18' c18' y3) (by rw [hln, y2]) (by omega) (List.mem_filter.mpr ⟨y4, rfl⟩) d3 hd (by omega) hcat hl.1 (fun H2 locs2 hS2 => ?_)
  have k2 := kk X2 H2 locs2 hX2 b2 b4 hS2
  unfold lw_end at oe
  rcases hk with hk | hk
  · obtain ⟨x, rfl⟩ := am_m_int hm1 (ek.trans hk)
    rw [if_neg (by omega), decide_eq_true_eq] at oe
    exact lv_icmp_eq (x := x) (y := x) (tgt := 981) hx hb oe (by omega) (fun _ => k2) (fun z => absurd rfl z)
  · obtain ⟨x, rfl⟩ := am_m_long hm1 (ek.trans hk)
    rw [if_pos hk, Bool.and_eq_true, decide_eq_true_eq, decide_eq_true_eq] at oe
    refine W.lcmp (x := x) (y := x) hx hb oe.1 ?_
    exact lv_if_eq (tgt := 981) hx hb oe.2 (by omega) (fun _ => k2) (fun z => absurd (lw_cmp x) z)
end LWB
