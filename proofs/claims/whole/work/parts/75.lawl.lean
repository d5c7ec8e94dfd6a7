section LWL
variable {p : Program} {l : Launch} {e : Env} {s : State} {m : MethodId} {below : List Frame} {meth : Method} {c : Code} {b L : Nat} {xs : Nat → Int32} {D : va_G} {cA : Nat → ClassId} {tS : Nat → Nat}
theorem lw_sw {Q : State → Prop} {H : Heap} {locs : List Loc} {ls : Array Slot} {i : Nat} {X : am_H} (C : lw_C p s m meth c b L xs D cA tS) (hS : lw_S D cA tS s X H locs) (hX : WO X) (hl : lv_has ls 4 (lw_lv b s.heap.size i)) (hi : i + 7 ≤ L) (hL : L ≤ 3584) (hr : X.1 + 5 ≤ 600000 ∧ X.2.1 + 450 ≤ 7302249)
    (kk : ∀ (X2 : am_H) (H1 : Heap) (locs1 : List Loc), WO X2 → X2.1 ≤ X.1 + 5 → X2.2.1 ≤ X.2.1 + 450 → lw_S D cA tS s X2 H1 locs1 → W p l e room_1 s m #[Value.ref b] below meth c H1 locs1 X2.1 X2.2.1 Q (F0 m 981 ls [])) : ∀ k : Nat, k < 25 → W p l e room_1 s m #[Value.ref b] below meth c H locs X.1 X.2.1 Q (F0 m (lw_tgt k) ls [])
  | 0, _ => lw_case (d := 100) C hS hX hl hi hL 1 lw_k0 ⟨Nat.le_of_ble_eq_true rfl, Nat.le_of_ble_eq_true rfl⟩ (CO_cloth (d := 100) (Nat.le_of_ble_eq_true rfl) hX) hr kk
  | 1, _ => lw_case (d := 100) C hS hX hl hi hL 1 lw_k1 ⟨Nat.le_of_ble_eq_true rfl, Nat.le_of_ble_eq_true rfl⟩ (CO_at (d := 100) (Nat.le_of_ble_eq_true rfl) hX) hr kk
  | 2, _ => lw_case (d := 100) C hS hX hl hi hL 1 lw_k2 ⟨Nat.le_of_ble_eq_true rfl, Nat.le_of_ble_eq_true rfl⟩ (CO_isSelected (d := 100) (Nat.le_of_ble_eq_true rfl) hX) hr kk
  | 3, _ => lw_case (d := 100) C hS hX hl hi hL 1 lw_k3 ⟨Nat.le_of_ble_eq_true rfl, Nat.le_of_ble_eq_true rfl⟩ (CO_about (d := 100) (Nat.le_of_ble_eq_true rfl) hX) hr kk
  | 4, _ => lw_case (d := 100) C hS hX hl hi hL 1 lw_k4 ⟨Nat.le_of_ble_eq_true rfl, Nat.le_of_ble_eq_true rfl⟩ (CO_used (d := 100) (Nat.le_of_ble_eq_true rfl) hX) hr kk
  | 5, _ => lw_case (d := 100) C hS hX hl hi hL 1 lw_k5 ⟨Nat.le_of_ble_eq_true rfl, Nat.le_of_ble_eq_true rfl⟩ (CO_floats (d := 100) (Nat.le_of_ble_eq_true rfl) hX) hr kk
  | 6, _ => lw_case (d := 100) C hS hX hl hi hL 1 lw_k6 ⟨Nat.le_of_ble_eq_true rfl, Nat.le_of_ble_eq_true rfl⟩ (CO_run (d := 100) (Nat.le_of_ble_eq_true rfl) hX) hr kk
  | 7, _ => lw_case (d := 100) C hS hX hl hi hL 1 lw_k7 ⟨Nat.le_of_ble_eq_true rfl, Nat.le_of_ble_eq_true rfl⟩ (CO_handle (d := 100) (Nat.le_of_ble_eq_true rfl) hX) hr kk
  | 8, _ => lw_case (d := 100) C hS hX hl hi hL 1 lw_k8 ⟨Nat.le_of_ble_eq_true rfl, Nat.le_of_ble_eq_true rfl⟩ (CO_bind (d := 100) (Nat.le_of_ble_eq_true rfl) hX) hr kk
  | 9, _ => lw_case (d := 100) C hS hX hl hi hL 1 lw_k9 ⟨Nat.le_of_ble_eq_true rfl, Nat.le_of_ble_eq_true rfl⟩ (CO_same (d := 100) (Nat.le_of_ble_eq_true rfl) hX) hr kk
  | 10, _ => lw_case (d := 100) C hS hX hl hi hL 1 lw_k10 ⟨Nat.le_of_ble_eq_true rfl, Nat.le_of_ble_eq_true rfl⟩ (CO_call (d := 100) (Nat.le_of_ble_eq_true rfl) hX) hr kk
  | 11, _ => lw_case (d := 100) C hS hX hl hi hL 1 lw_k11 ⟨Nat.le_of_ble_eq_true rfl, Nat.le_of_ble_eq_true rfl⟩ (CO_macro (d := 100) (Nat.le_of_ble_eq_true rfl) hX) hr kk
  | 12, _ => lw_case (d := 100) C hS hX hl hi hL 1 lw_k12 ⟨Nat.le_of_ble_eq_true rfl, Nat.le_of_ble_eq_true rfl⟩ (CO_part (d := 100) (Nat.le_of_ble_eq_true rfl) hX) hr kk
  | 13, _ => lw_case (d := 100) C hS hX hl hi hL 1 lw_k13 ⟨Nat.le_of_ble_eq_true rfl, Nat.le_of_ble_eq_true rfl⟩ (CO_nest (d := 100) (Nat.le_of_ble_eq_true rfl) hX) hr kk
  | 14, _ => lw_case (d := 100) C hS hX hl hi hL 1 lw_k14 ⟨Nat.le_of_ble_eq_true rfl, Nat.le_of_ble_eq_true rfl⟩ (CO_times (d := 100) (Nat.le_of_ble_eq_true rfl) hX) hr kk
  | 15, _ => lw_case (d := 100) C hS hX hl hi hL 1 lw_k15 ⟨Nat.le_of_ble_eq_true rfl, Nat.le_of_ble_eq_true rfl⟩ (CO_play (d := 100) (Nat.le_of_ble_eq_true rfl) hX) hr kk
  | 16, _ => lw_case (d := 100) C hS hX hl hi hL 1 lw_k16 ⟨Nat.le_of_ble_eq_true rfl, Nat.le_of_ble_eq_true rfl⟩ (CO_outcome (d := 100) (Nat.le_of_ble_eq_true rfl) hX) hr kk
  | 17, _ => lw_case (d := 100) C hS hX hl hi hL 1 lw_k17 ⟨Nat.le_of_ble_eq_true rfl, Nat.le_of_ble_eq_true rfl⟩ (CO_node (d := 100) (Nat.le_of_ble_eq_true rfl) hX) hr kk
  | 18, _ => lw_case (d := 100) C hS hX hl hi hL 1 lw_k18 ⟨Nat.le_of_ble_eq_true rfl, Nat.le_of_ble_eq_true rfl⟩ (CO_go (d := 100) (Nat.le_of_ble_eq_true rfl) hX) hr kk
  | 19, _ => lw_case (d := 100) C hS hX hl hi hL 1 lw_k19 ⟨Nat.le_of_ble_eq_true rfl, Nat.le_of_ble_eq_true rfl⟩ (CO_undo (d := 100) (Nat.le_of_ble_eq_true rfl) hX) hr kk
  | 20, _ => lw_case (d := 100) C hS hX hl hi hL 1 lw_k20 ⟨Nat.le_of_ble_eq_true rfl, Nat.le_of_ble_eq_true rfl⟩ (CO_redo (d := 100) (Nat.le_of_ble_eq_true rfl) hX) hr kk
  | 21, _ => lw_case (d := 100) C hS hX hl hi hL 1 lw_k21 ⟨Nat.le_of_ble_eq_true rfl, Nat.le_of_ble_eq_true rfl⟩ (CO_told (d := 100) (Nat.le_of_ble_eq_true rfl) hX) hr kk
  | 22, _ => lw_case (d := 100) C hS hX hl hi hL 1 lw_k22 ⟨Nat.le_of_ble_eq_true rfl, Nat.le_of_ble_eq_true rfl⟩ (CO_squeeze (d := 100) (Nat.le_of_ble_eq_true rfl) hX) hr kk
  | 23, _ => lw_case (d := 100) C hS hX hl hi hL 3 lw_k23 ⟨Nat.le_of_ble_eq_true rfl, Nat.le_of_ble_eq_true rfl⟩ (CO_trace (d := 100) (Nat.le_of_ble_eq_true rfl) hX) hr kk
  | 24, _ => lw_case (d := 100) C hS hX hl hi hL 3 lw_k24 ⟨Nat.le_of_ble_eq_true rfl, Nat.le_of_ble_eq_true rfl⟩ (CO_digest (d := 100) (Nat.le_of_ble_eq_true rfl) hX) hr kk
  | k + 25, h => absurd h (by omega)
set_option maxRecDepth 100000 in
theorem law_loop (hL : L ≤ 3584) (C : lw_C p s m meth c b L xs D cA tS) : ∀ (n i : Nat) (X : am_H) (H : Heap) (locs : List Loc) (ls : Array Slot), i ≤ L → L + 1 ≤ i + n → WO X → X.1 ≤ 43 + i → X.2.1 ≤ 27510 + 65 * i → lw_S D cA tS s X H locs → lv_has ls 4 (lw_lv b s.heap.size i) → W p l e room_1 s m #[Value.ref b] below meth c H locs X.1 X.2.1 (lw_Z below #[Value.ref b] s) (F0 m 18 ls []) := by
  intro n
  induction n with
  | zero =>
    intro i X H locs ls h1 h2
    exact absurd h2 (by omega)
  | succ n ih =>
    intro i X H locs ls hiL hin hX c1 c2 hS hl
    obtain ⟨hx, hb, hrt, hml, hown, hts, hscr, hbl, hlocks, hXX⟩ := id C
    have hbA : ¬ (fun q : Nat => s.heap.size ≤ q) b := Nat.not_le.mpr hbl
    refine lv_iload_n hx hb d_law_18 rfl (lv_at hl 3 rfl) ?_
    refine lv_aload_n hx hb d_law_19 rfl (lv_at hl 0 rfl) ?_
    refine va_slen hx hb hscr hbl hbA hS.vaS d_law_20 ?_
    refine lv_bipush (v := 7) hx hb d_law_21 (by decide +kernel) ?_
    refine lv_isub hx hb d_law_23 ?_
    refine lv_icmp_gt (tgt := 987) hx hb d_law_24 (by decide) (fun _ => ?_) (fun hgt => ?_)
    · refine lv_iconst (v := 1) hx hb d_law_987 (by decide +kernel) ?_
      refine va_forget (fun q hq => hS.2.2 q hq) ?_
      refine W.widen (k := 600000) (n := 7302249) (by omega) (by omega) ?_
      exact lw_ret hx hb hrt hlocks d_law_988
    · have hi : i + 7 ≤ L := lw_gt hL hiL hgt
      refine lv_aload_n hx hb d_law_27 rfl (lv_at hl 0 rfl) ?_
      refine lv_iload_n hx hb d_law_28 rfl (lv_at hl 3 rfl) ?_
      refine va_sld hx hb hscr hbl hbA hS.vaS (vp_in_nI (by omega) (by omega)) d_law_29 ?_
      refine lv_bipush (v := 31) hx hb d_law_30 (by decide +kernel) ?_
      refine lv_iand hx hb d_law_32 ?_
      generalize xs (nI i).toNatClampNeg &&& 31 = x
      have fin : ∀ (X2 : am_H) (H1 : Heap) (locs1 : List Loc), WO X2 → X2.1 ≤ X.1 + 5 → X2.2.1 ≤ X.2.1 + 450 → lw_S D cA tS s X2 H1 locs1 → W p l e room_1 s m #[Value.ref b] below meth c H1 locs1 X2.1 X2.2.1 (lw_Z below #[Value.ref b] s) (F0 m 981 ls []) := by
        intro X2 H1 locs1 w1 w2 w3 w4
        refine lv_iinc (v := nI (i + 7)) (lv' := [(3, .int (nI (i + 7))), (0, .ref b), (1, .ref s.heap.size), (2, .ref (s.heap.size + 18))]) hx hb d_law_981 hl (k := 3) rfl (nI_add i 7) (by decide) rfl (fun ls' hl' => ?_)
        refine lv_goto (tgt := 18) hx hb d_law_984 (by decide) ?_
        exact ih (i + 7) X2 H1 locs1 ls' (by omega) (by omega) w1 (by omega) (by omega) w4 (lv_sub hl' [1, 2, 3, 0] rfl)
      by_cases ho : x.toInt < 0 ∨ 24 < x.toInt
      · exact lv_tableOut (tgt := 981) hx hb d_law_33 ho (by decide) (fin X H locs hX (by omega) (by omega) hS)
      · have hk : (x.toInt - 0).toNat < 25 := by omega
        refine lv_tableIn (tgt := lw_tgt (x.toInt - 0).toNat) hx hb d_law_33 (fun z => ho (Or.inl z)) (fun z => ho (Or.inr z)) (lw_tgts _ hk) (by omega) ?_
        exact lw_sw C hS hX hl hi hL (by omega) fin _ hk
end LWL
