/-! the class: handles, macros, parts -/
abbrev hd_c (k : Int32) (b v : Nat) : am_C := .inr (2, [.int k, .ref b, .ref v])
abbrev mc_c (k m x n : Int32) (p : Int32) (a : Nat) : am_C := .inr (4, [.int k, .int m, .int x, .int n, .int p, .ref a])
abbrev pt_c (hr mr gr : Value) : am_C := .inr (7, [hr, mr, gr])
abbrev pa_c (f : Nat → Option Nat) : am_C := .inl (5, 8, .inr f)
theorem hx {n m : Nat} {f g : Nat → am_C} (h : ∀ j, f j = g j) : ((n, m, f) : am_H) = (n, m, g) := by rw [show f = g from funext h]
def WB (h : am_H) (n : Nat) (k : Int32) (F G : Nat → Int32) : am_H := am_new (am_new (am_new h n (hd_c k (h.1 + 1) (h.1 + 2))) 5 (am_za 5 F)) 5 (am_ia 5 G)
section E1
variable {d n s : Nat} {h h' : am_H} {res : Option Value} {k : Int32} {F G : Nat → Int32}
theorem WB_0 : am_is (WB h n k F G) h.1 (hd_c k (h.1 + 1) (h.1 + 2)) := (am_is.made.new).new
theorem WB_1 : am_is (WB h n k F G) (h.1 + 1) (am_za 5 F) := (am_is.made (h := am_new h n (hd_c k (h.1 + 1) (h.1 + 2)))).new
theorem WB_2 : am_is (WB h n k F G) (h.1 + 2) (am_ia 5 G) := am_is.made (h := am_new (am_new h n (hd_c k (h.1 + 1) (h.1 + 2))) 5 (am_za 5 F))
theorem WB_o {a : Nat} {x : am_C} (q : am_is h a x) : am_is (WB h n k F G) a x := (q.new.new).new
theorem WB_u1 {F' : Nat → Int32} : am_up (WB h n k F G) (h.1 + 1) (am_za 5 F') = WB h n k F' G := by
  refine hx (fun j => ?_)
  show va_up (va_up (va_up (va_up h.2.2 h.1 _) (h.1 + 1) _) (h.1 + 1 + 1) _) (h.1 + 1) _ j = va_up (va_up (va_up h.2.2 h.1 _) (h.1 + 1) _) (h.1 + 1 + 1) _ j
  by_cases e : j = h.1 + 1
  · subst e; rw [va_up_self, va_up_ne _ _ (by omega), va_up_self]
  · rw [va_up_ne _ _ e]
    by_cases e2 : j = h.1 + 1 + 1
    · subst e2; rw [va_up_self, va_up_self]
    · rw [va_up_ne _ _ e2, va_up_ne _ _ e2, va_up_ne _ _ e, va_up_ne _ _ e]
theorem WB_u2 {G' : Nat → Int32} : am_up (WB h n k F G) (h.1 + 2) (am_ia 5 G') = WB h n k F G' := by
  refine hx (fun j => ?_)
  show va_up (va_up (va_up (va_up h.2.2 h.1 _) (h.1 + 1) _) (h.1 + 1 + 1) _) (h.1 + 2) _ j = va_up (va_up (va_up h.2.2 h.1 _) (h.1 + 1) _) (h.1 + 1 + 1) _ j
  by_cases e : j = h.1 + 2
  · subst e; rw [va_up_self, va_up_self]
  · rw [va_up_ne _ _ e, va_up_ne _ _ (show j ≠ h.1 + 1 + 1 by omega), va_up_ne _ _ (show j ≠ h.1 + 1 + 1 by omega)]
abbrev hd_0 : am_C := .inr (2, [.int 0, .null, .null])
theorem k_hinit (hd : 0 < d) : am_m d z_Handle_init [.ref h.1, .int k] (am_new h n hd_0) none (WB h n k (fun _ => 0) (fun _ => 0)) := by
  refine ev_go 1 (q := 1) rfl ?_
  refine ev_oinit (q := 4) rfl rfl (by omega) (by decide) rfl ?_
  refine ev_go 2 (q := 6) (st' := .int 5 :: _ :: _) rfl ?_
  refine ev_newa (N := 5) (q := 8) rfl rfl (by decide) rfl ?_
  refine ev_put (q := 11) rfl (am_is.made (h := h)).new rfl (Nat.le_of_ble_eq_true rfl) rfl rfl rfl ?_
  refine ev_go 2 (q := 13) (st' := .int 5 :: _ :: _) rfl ?_
  refine ev_newa (N := 5) (q := 15) rfl rfl (by decide) rfl ?_
  refine ev_put (q := 18) rfl ((am_is.made (h := h)).new.self).new rfl (Nat.le_of_ble_eq_true rfl) rfl rfl rfl ?_
  refine ev_go 2 (q := 20) rfl ?_
  refine ev_put (q := 23) rfl (((am_is.made (h := h)).new.self).new).self rfl (Nat.le_of_ble_eq_true rfl) rfl rfl rfl ?_
  exact ev_vret rfl rfl (by
      refine hx (fun j => ?_)
      show va_up (va_up (va_up (va_up (va_up (va_up h.2.2 h.1 _) (h.1 + 1) _) h.1 _) (h.1 + 1 + 1) _) h.1 _) h.1 _ j = va_up (va_up (va_up h.2.2 h.1 _) (h.1 + 1) _) (h.1 + 1 + 1) _ j
      by_cases e : j = h.1
      · subst e; rw [va_up_self, va_up_ne _ _ (by omega), va_up_ne _ _ (by omega), va_up_self]; rfl
      · rw [va_up_ne _ _ e, va_up_ne _ _ e]
        by_cases e2 : j = h.1 + 1 + 1
        · subst e2; rw [va_up_self, va_up_self]
        · rw [va_up_ne _ _ e2, va_up_ne _ _ e2, va_up_ne _ _ e]
          by_cases e3 : j = h.1 + 1
          · subst e3; rw [va_up_self, va_up_self]
          · rw [va_up_ne _ _ e3, va_up_ne _ _ e3, va_up_ne _ _ e, va_up_ne _ _ e])
theorem k_isB {a b v : Nat} {i : Nat} (hi : i < 5) (h0 : am_is h a (hd_c k b v)) (h1 : am_is h b (am_za 5 F)) : am_m d z_Handle_isBound [.ref a, .int (nI i)] h (some (.int (am_b (¬ F i = 0)))) h := by
  refine ev_go 1 (q := 1) rfl ?_
  refine ev_if_lt (t := 26) (q := 4) rfl rfl rfl (fun c => absurd c (nI_nlt (b := 0) (by omega) (by omega))) (fun zc1 => ?_)
  refine ev_go 2 (q := 6) rfl ?_
  refine ev_get (q := 9) rfl h0 rfl rfl rfl ?_
  refine ev_alen (v := 5) (q := 10) rfl h1 (by decide) rfl rfl ?_
  refine ev_icmp_ge (t := 26) (q := 13) rfl rfl rfl (fun c => absurd c (nI_ge (b := 5) (by omega) (by omega))) (fun zc2 => ?_)
  refine ev_go 1 (q := 14) rfl ?_
  refine ev_get (q := 17) rfl h0 rfl rfl rfl ?_
  refine ev_go 1 (q := 18) rfl ?_
  refine ev_zaldn (q := 19) rfl h1 rfl hi (by decide) rfl ?_
  refine ev_if_eq (t := 26) (q := 22) rfl rfl rfl (fun zc3 => ?_) (fun zc3 => ?_)
  · refine ev_go 1 (q := 27) (st' := .int 0 :: _) rfl ?_
    exact ev_zret rfl rfl (by first | exact Or.inl rfl | exact Or.inr rfl | assumption) (by first | exact (am_b1 zc3).symm | exact (am_bz (fun q => q zc3)).symm) (rfl)
  · refine ev_go 2 (q := 27) (st' := .int 1 :: _) rfl ?_
    exact ev_zret rfl rfl (by first | exact Or.inl rfl | exact Or.inr rfl | assumption) (by first | exact (am_b1 zc3).symm | exact (am_bz (fun q => q zc3)).symm) (rfl)
def wb_s (i : Nat) (v : Int32) (F G : Nat → Int32) (j : Nat) (S : (Nat → Int32) × (Nat → Int32)) : (Nat → Int32) × (Nat → Int32) := (va_up S.1 j (am_b (¬ F j = 0 ∨ j = i)), va_up S.2 j (if j = i then v else G j))
theorem l_wb {i : Nat} (hi : i < 5) {v : Int32} {a b c : Nat} (h0 : am_is h a (hd_c k b c)) (h1 : am_is h b (am_za 5 F)) (h2 : am_is h c (am_ia 5 G)) : ∀ (m j : Nat) (S : (Nat → Int32) × (Nat → Int32)), j + m = 5 → am_ev d z_Handle_withBound (79, [some (.ref a), some (.int (nI i)), some (.int v), some (.ref h.1), some (.int (nI 5))], [], WB h n k (sp_it (wb_s i v F G) j m S).1 (sp_it (wb_s i v F G) j m S).2) res h' → am_ev d z_Handle_withBound (18, [some (.ref a), some (.int (nI i)), some (.int v), some (.ref h.1), some (.int (nI j))], [.int 5, .int (nI j)], WB h n k S.1 S.2) res h'
  | 0, j, S, hm, K => by
    refine ev_icmp_ge (t := 79) (q := 21) rfl rfl rfl (fun _ => ?_) (fun c1 => absurd (nI_end (b := 5) hm (by omega)) c1)
    have hc : j = 5 := hm
    subst hc
    exact K
  | m + 1, j, S, hm, K => by
    refine ev_icmp_ge (t := 79) (q := 21) rfl rfl rfl (fun c1 => absurd c1 (nI_ge (b := 5) (by omega) (by omega))) (fun _ => ?_)
    simp only [sp_it] at K
    have ij : nI j = nI i ↔ j = i := ⟨fun q => nI_ij (by omega) (by omega) q, fun q => by rw [q]⟩
    have K2 : ∀ x : Int32, x = (if j = i then v else G j) → am_ev d z_Handle_withBound (72, [some (.ref a), some (.int (nI i)), some (.int v), some (.ref h.1), some (.int (nI j))], [.int x, .int (nI j), .ref (h.1 + 2)], WB h n k (va_up S.1 j (am_b (¬ F j = 0 ∨ j = i))) S.2) res h' := by
      intro x e9
      subst e9
      refine ev_iastn (q := 73) rfl WB_2 rfl (show j < 5 by omega) (by decide) rfl ?_
      refine ev_hp WB_u2 ?_
      refine ev_go 4 (q := 18) (st' := .int 5 :: _ :: _) rfl ?_
      rw [nI_s]
      exact l_wb hi h0 h1 h2 m (j + 1) (wb_s i v F G j S) (by omega) K
    have K1 : ∀ x : Int32, x = am_b (¬ F j = 0 ∨ j = i) → am_ev d z_Handle_withBound (48, [some (.ref a), some (.int (nI i)), some (.int v), some (.ref h.1), some (.int (nI j))], [.int x, .int (nI j), .ref (h.1 + 1)], WB h n k S.1 S.2) res h' := by
      intro x e9
      have e8 : x &&& 1 = x := by
        rcases am_b01 (p := (¬ F j = 0 ∨ j = i)) with q | q
        · rw [e9, q]; rfl
        · rw [e9, q]; rfl
      refine ev_zastn (q := 49) rfl WB_1 rfl (show j < 5 by omega) (by decide) rfl ?_
      rw [e8]
      refine ev_hp WB_u1 ?_
      rw [e9]
      refine ev_go 1 (q := 50) rfl ?_
      refine ev_get (q := 53) rfl WB_0 rfl rfl rfl ?_
      refine ev_go 3 (q := 58) rfl ?_
      refine ev_icmp_ne (t := 65) (q := 61) rfl rfl rfl (fun zc1 => ?_) (fun zc1 => ?_)
      · refine ev_go 1 (q := 66) rfl ?_
        refine ev_get (q := 69) rfl (WB_o h0) rfl rfl rfl ?_
        refine ev_go 1 (q := 71) rfl ?_
        refine ev_ialdn (q := 72) rfl (WB_o h2) rfl (show j < 5 by omega) (by decide) rfl ?_
        exact K2 _ (if_neg (fun q => zc1 (ij.mpr q))).symm
      · refine ev_go 2 (q := 72) rfl ?_
        exact K2 _ (if_pos (ij.mp zc1)).symm
    refine ev_go 1 (q := 22) rfl ?_
    refine ev_get (q := 25) rfl WB_0 rfl rfl rfl ?_
    refine ev_go 2 (q := 28) rfl ?_
    refine ev_get (q := 31) rfl (WB_o h0) rfl rfl rfl ?_
    refine ev_go 1 (q := 33) rfl ?_
    refine ev_zaldn (q := 34) rfl (WB_o h1) rfl (show j < 5 by omega) (by decide) rfl ?_
    refine ev_if_ne (t := 43) (q := 37) rfl rfl rfl (fun zc1 => ?_) (fun zc1 => ?_)
    · refine ev_go 2 (q := 48) (st' := .int 1 :: _ :: _ :: _) rfl ?_
      exact K1 1 (am_b1 (Or.inl zc1)).symm
    · refine ev_go 2 (q := 40) rfl ?_
      refine ev_icmp_ne (t := 47) (q := 43) rfl rfl rfl (fun zc2 => ?_) (fun zc2 => ?_)
      · refine ev_go 1 (q := 48) (st' := .int 0 :: _ :: _ :: _) rfl ?_
        exact K1 0 (am_bz (fun q => q.elim (fun q => q zc1) (fun q => zc2 (ij.mpr q)))).symm
      · refine ev_go 2 (q := 48) (st' := .int 1 :: _ :: _ :: _) rfl ?_
        exact K1 1 (am_b1 (Or.inr (ij.mp zc2))).symm
theorem k_withB (hd : 1 < d) {i : Nat} (hi : i < 5) {v : Int32} {a b c : Nat} (h0 : am_is h a (hd_c k b c)) (h1 : am_is h b (am_za 5 F)) (h2 : am_is h c (am_ia 5 G)) : am_m d z_Handle_withBound [.ref a, .int (nI i), .int v] h (some (.ref h.1)) (WB h 3 k (sp_it (wb_s i v F G) 0 5 (fun _ => 0, fun _ => 0)).1 (sp_it (wb_s i v F G) 0 5 (fun _ => 0, fun _ => 0)).2) := by
  refine ev_new (q := 3) rfl rfl rfl rfl rfl ?_
  refine ev_go 2 (q := 5) rfl ?_
  refine ev_get (q := 8) rfl h0.new rfl rfl rfl ?_
  refine ev_init (z' := z_Handle_init) (q := 11) rfl rfl (by decide) rfl rfl (by simp [Value.category]) rfl (by omega) (k_hinit (by omega)) ?_
  refine ev_go 5 (q := 18) (st' := .int 5 :: _ :: _) rfl ?_
  rw [show Int32.ofInt 0 = nI 0 from rfl]
  refine l_wb hi h0 h1 h2 5 0 (fun _ => 0, fun _ => 0) (by omega) ?_
  refine ev_go 1 (q := 80) rfl ?_
  exact ev_aret (x := some h.1) (v := some h.1) rfl rfl rfl rfl
def hl_p (k k2 : Int32) (F G F2 G2 : Nat → Int32) (m : Nat) : Prop := k = k2 ∧ ∀ j, j < m → F j = F2 j ∧ G j = G2 j
theorem hl_s {k k2 : Int32} {F G F2 G2 : Nat → Int32} {m : Nat} : hl_p k k2 F G F2 G2 (m + 1) ↔ hl_p k k2 F G F2 G2 m ∧ F m = F2 m ∧ G m = G2 m := by
  constructor
  · intro q
    exact ⟨⟨q.1, fun j hj => q.2 j (by omega)⟩, q.2 m (by omega)⟩
  · intro q
    refine ⟨q.1.1, fun j hj => ?_⟩
    by_cases e : j = m
    · subst e; exact q.2
    · exact q.1.2 j (by omega)
theorem l_hl {k2 : Int32} {F2 G2 : Nat → Int32} {a b c a2 b2 c2 : Nat} (h0 : am_is h a (hd_c k b c)) (h1 : am_is h b (am_za 5 F)) (h2 : am_is h c (am_ia 5 G)) (g0 : am_is h a2 (hd_c k2 b2 c2)) (g1 : am_is h b2 (am_za 5 F2)) (g2 : am_is h c2 (am_ia 5 G2)) : ∀ (m j : Nat), j + m = 5 → am_ev d z_Handle_isLike (70, [some (.ref a), some (.ref a2), some (.int (cb (hl_p k k2 F G F2 G2 5))), some (.int (nI 5))], [], h) res h' → am_ev d z_Handle_isLike (21, [some (.ref a), some (.ref a2), some (.int (cb (hl_p k k2 F G F2 G2 j))), some (.int (nI j))], [.int 5, .int (nI j)], h) res h'
  | 0, j, hm, K => by
    refine ev_icmp_ge (t := 70) (q := 24) rfl rfl rfl (fun _ => ?_) (fun c1 => absurd (nI_end (b := 5) hm (by omega)) c1)
    have hc : j = 5 := hm
    subst hc
    exact K
  | m + 1, j, hm, K => by
    refine ev_icmp_ge (t := 70) (q := 24) rfl rfl rfl (fun c1 => absurd c1 (nI_ge (b := 5) (by omega) (by omega))) (fun _ => ?_)
    have K1 : ∀ x : Int32, x = cb (hl_p k k2 F G F2 G2 (j + 1)) → am_ev d z_Handle_isLike (63, [some (.ref a), some (.ref a2), some (.int (cb (hl_p k k2 F G F2 G2 j))), some (.int (nI j))], [.int x], h) res h' := by
      intro x e9
      subst e9
      refine ev_go 5 (q := 21) (st' := .int 5 :: _ :: _) rfl ?_
      rw [nI_s]
      exact l_hl h0 h1 h2 g0 g1 g2 m (j + 1) (by omega) K
    refine ev_go 1 (q := 25) rfl ?_
    refine ev_if_eq (t := 62) (q := 28) rfl rfl rfl (fun zc1 => ?_) (fun zc1 => ?_)
    · refine ev_go 1 (q := 63) (st' := .int 0 :: _) rfl ?_
      exact K1 0 (cb_z (fun q => cb_0.mp zc1 (hl_s.mp q).1)).symm
    · refine ev_go 1 (q := 29) rfl ?_
      refine ev_get (q := 32) rfl h0 rfl rfl rfl ?_
      refine ev_go 1 (q := 33) rfl ?_
      refine ev_zaldn (q := 34) rfl h1 rfl (show j < 5 by omega) (by decide) rfl ?_
      refine ev_go 1 (q := 35) rfl ?_
      refine ev_get (q := 38) rfl g0 rfl rfl rfl ?_
      refine ev_go 1 (q := 39) rfl ?_
      refine ev_zaldn (q := 40) rfl g1 rfl (show j < 5 by omega) (by decide) rfl ?_
      refine ev_icmp_ne (t := 62) (q := 43) rfl rfl rfl (fun zc2 => ?_) (fun zc2 => ?_)
      · refine ev_go 1 (q := 63) (st' := .int 0 :: _) rfl ?_
        exact K1 0 (cb_z (fun q => zc2 (hl_s.mp q).2.1)).symm
      · refine ev_go 1 (q := 44) rfl ?_
        refine ev_get (q := 47) rfl h0 rfl rfl rfl ?_
        refine ev_go 1 (q := 48) rfl ?_
        refine ev_ialdn (q := 49) rfl h2 rfl (show j < 5 by omega) (by decide) rfl ?_
        refine ev_go 1 (q := 50) rfl ?_
        refine ev_get (q := 53) rfl g0 rfl rfl rfl ?_
        refine ev_go 1 (q := 54) rfl ?_
        refine ev_ialdn (q := 55) rfl g2 rfl (show j < 5 by omega) (by decide) rfl ?_
        refine ev_icmp_ne (t := 62) (q := 58) rfl rfl rfl (fun zc3 => ?_) (fun zc3 => ?_)
        · refine ev_go 1 (q := 63) (st' := .int 0 :: _) rfl ?_
          exact K1 0 (cb_z (fun q => zc3 (hl_s.mp q).2.2)).symm
        · refine ev_go 2 (q := 63) (st' := .int 1 :: _) rfl ?_
          exact K1 1 (cb_1 (hl_s.mpr ⟨cb_n.mp zc1, zc2, zc3⟩)).symm
theorem k_isLike {k2 : Int32} {F2 G2 : Nat → Int32} {a b c a2 b2 c2 : Nat} (h0 : am_is h a (hd_c k b c)) (h1 : am_is h b (am_za 5 F)) (h2 : am_is h c (am_ia 5 G)) (g0 : am_is h a2 (hd_c k2 b2 c2)) (g1 : am_is h b2 (am_za 5 F2)) (g2 : am_is h c2 (am_ia 5 G2)) : am_m d z_Handle_isLike [.ref a, .ref a2] h (some (.int (cb (hl_p k k2 F G F2 G2 5)))) h := by
  have hl9 : ∀ x : Int32, x = cb (hl_p k k2 F G F2 G2 0) → am_ev d z_Handle_isLike (21, [some (.ref a), some (.ref a2), some (.int x), some (.int (nI 0))], [.int 5, .int (nI 0)], h) (some (.int (cb (hl_p k k2 F G F2 G2 5)))) h := by
    intro x e9
    subst e9
    refine l_hl h0 h1 h2 g0 g1 g2 5 0 (by omega) ?_
    refine ev_go 1 (q := 71) rfl ?_
    exact ev_zret rfl rfl cb_01 rfl rfl
  refine ev_go 1 (q := 1) rfl ?_
  refine ev_get (q := 4) rfl h0 rfl rfl rfl ?_
  refine ev_go 1 (q := 5) rfl ?_
  refine ev_get (q := 8) rfl g0 rfl rfl rfl ?_
  refine ev_icmp_ne (t := 15) (q := 11) rfl rfl rfl (fun zc1 => ?_) (fun zc1 => ?_)
  · refine ev_go 6 (q := 21) (st' := .int 5 :: _ :: _) rfl ?_
    have e9 : Int32.ofInt 0 = cb (hl_p k k2 F G F2 G2 0) := (cb_z (fun q => zc1 q.1)).symm
    exact hl9 _ e9
  · refine ev_go 7 (q := 21) (st' := .int 5 :: _ :: _) rfl ?_
    have e9 : Int32.ofInt 1 = cb (hl_p k k2 F G F2 G2 0) := (cb_1 ⟨zc1, fun j q => absurd q (by omega)⟩).symm
    exact hl9 _ e9
abbrev mc_0 : am_C := .inr (4, [.int 0, .int 0, .int 0, .int 0, .int 0, .null])
def WM (h : am_H) (nn : Nat) (c : am_C) (f : Nat → Option Nat) : am_H := am_new (am_new h nn c) 8 (pa_c f)
theorem k_minit (hd : 0 < d) {k1 k2 k3 k4 : Int32} : am_m d z_Macro_init [.ref h.1, .int k1, .int k2, .int k3, .int k4] (am_new h n mc_0) none (WM h n (mc_c k1 k3 k4 k2 0 (h.1 + 1)) (fun _ => none)) := by
  refine ev_go 1 (q := 1) rfl ?_
  refine ev_oinit (q := 4) rfl rfl (by omega) (by decide) rfl ?_
  refine ev_go 2 (q := 6) (st' := .int 0 :: _ :: _) rfl ?_
  refine ev_put (q := 9) rfl (am_is.made (h := h)) rfl (Nat.le_of_ble_eq_true rfl) rfl rfl rfl ?_
  refine ev_go 2 (q := 12) (st' := .int 8 :: _ :: _) rfl ?_
  refine ev_anew (N := 8) (q := 15) rfl rfl (by decide) rfl ?_
  refine ev_put (q := 18) rfl (am_is.made (h := h)).self.new rfl (Nat.le_of_ble_eq_true rfl) rfl rfl rfl ?_
  refine ev_go 2 (q := 20) rfl ?_
  refine ev_put (q := 23) rfl (am_is.made (h := h)).self.new.self rfl (Nat.le_of_ble_eq_true rfl) rfl rfl rfl ?_
  refine ev_go 2 (q := 25) rfl ?_
  refine ev_put (q := 28) rfl (am_is.made (h := h)).self.new.self.self rfl (Nat.le_of_ble_eq_true rfl) rfl rfl rfl ?_
  refine ev_go 2 (q := 30) rfl ?_
  refine ev_put (q := 33) rfl (am_is.made (h := h)).self.new.self.self.self rfl (Nat.le_of_ble_eq_true rfl) rfl rfl rfl ?_
  refine ev_go 2 (q := 36) rfl ?_
  refine ev_put (q := 39) rfl (am_is.made (h := h)).self.new.self.self.self.self rfl (Nat.le_of_ble_eq_true rfl) rfl rfl rfl ?_
  exact ev_vret rfl rfl (by
      refine hx (fun j => ?_)
      show va_up (va_up (va_up (va_up (va_up (va_up (va_up (va_up h.2.2 h.1 _) h.1 _) (h.1 + 1) _) h.1 _) h.1 _) h.1 _) h.1 _) h.1 _ j = va_up (va_up h.2.2 h.1 _) (h.1 + 1) _ j
      by_cases e : j = h.1
      · subst e; rw [va_up_self, va_up_ne _ _ (by omega), va_up_self]; rfl
      · rw [va_up_ne _ _ e, va_up_ne _ _ e, va_up_ne _ _ e, va_up_ne _ _ e, va_up_ne _ _ e]
        by_cases e2 : j = h.1 + 1
        · subst e2; rw [va_up_self, va_up_self]
        · rw [va_up_ne _ _ e2, va_up_ne _ _ e2, va_up_ne _ _ e, va_up_ne _ _ e, va_up_ne _ _ e])
theorem k_mfull {a b p : Nat} {k1 k2 k3 k4 : Int32} {f : Nat → Option Nat} (hp : p ≤ 8) (h0 : am_is h a (mc_c k1 k2 k3 k4 (nI p) b)) (h1 : am_is h b (pa_c f)) : am_m d z_Macro_isFull [.ref a] h (some (.int (am_b (p = 8)))) h := by
  refine ev_go 1 (q := 1) rfl ?_
  refine ev_get (q := 4) rfl h0 rfl rfl rfl ?_
  refine ev_go 1 (q := 5) rfl ?_
  refine ev_get (q := 8) rfl h0 rfl rfl rfl ?_
  refine ev_alen (v := 8) (q := 9) rfl h1 (by decide) rfl rfl ?_
  refine ev_icmp_lt (t := 16) (q := 12) rfl rfl rfl (fun zc1 => ?_) (fun zc1 => ?_)
  · refine ev_go 1 (q := 17) (st' := .int 0 :: _) rfl ?_
    exact ev_zret rfl rfl (by first | exact Or.inl rfl | exact Or.inr rfl | assumption) (by first | exact (am_b1 (by have := Nat.le_of_not_lt (fun q => zc1 (nI_lt (b := 8) q (by omega))); omega)).symm | exact (am_bz (fun q => absurd zc1 (by rw [q]; decide))).symm) (rfl)
  · refine ev_go 2 (q := 17) (st' := .int 1 :: _) rfl ?_
    exact ev_zret rfl rfl (by first | exact Or.inl rfl | exact Or.inr rfl | assumption) (by first | exact (am_b1 (by have := Nat.le_of_not_lt (fun q => zc1 (nI_lt (b := 8) q (by omega))); omega)).symm | exact (am_bz (fun q => absurd zc1 (by rw [q]; decide))).symm) (rfl)
theorem k_join (hd : 0 < d) {a b p v : Nat} {k1 k2 k3 k4 : Int32} {f : Nat → Option Nat} {x1 x2 x3 : Value} (hp : p < 8) (h0 : am_is h a (mc_c k1 k2 k3 k4 (nI p) b)) (h1 : am_is h b (pa_c f)) (hv : am_is h v (pt_c x1 x2 x3)) : am_m d z_Macro_join [.ref a, .ref v] h (some (.int (nI (p + 1)))) (am_up (am_up h b (pa_c (va_up f p (some v)))) a (mc_c k1 k2 k3 k4 (nI (p + 1)) b)) := by
  have hab : a ≠ b := fun q => by
    subst q
    have := h0.2.symm.trans h1.2
    exact absurd this (by intro z; cases z)
  refine ev_go 1 (q := 1) rfl ?_
  refine ev_virt (z' := z_Macro_isFull) (q := 4) rfl rfl (by decide) rfl (by simp [Value.category]) rfl (by omega) rfl rfl h0 (k_mfull (by omega) h0 h1) ?_
  refine ev_tp (y := 0) (am_bz (by omega)) ?_
  refine ev_if_ne (t := 27) (q := 7) rfl rfl rfl (fun c => absurd (by decide) c) (fun _ => ?_)
  refine ev_go 1 (q := 8) rfl ?_
  refine ev_get (q := 11) rfl h0 rfl rfl rfl ?_
  refine ev_go 1 (q := 12) rfl ?_
  refine ev_get (q := 15) rfl h0 rfl rfl rfl ?_
  refine ev_go 1 (q := 16) rfl ?_
  refine ev_aastn (q := 17) rfl h1 hv (by decide) rfl hp (by decide) rfl ?_
  refine ev_go 2 (q := 19) rfl ?_
  refine ev_get (q := 22) rfl (h0.ne hab) rfl rfl rfl ?_
  refine ev_go 2 (q := 24) (st' := .int (_ + 1) :: _ :: _) rfl ?_
  rw [nI_1]
  refine ev_put (q := 27) rfl (h0.ne hab) rfl (Nat.le_of_ble_eq_true rfl) rfl rfl rfl ?_
  refine ev_go 1 (q := 28) rfl ?_
  refine ev_get (q := 31) rfl (h0.ne hab).self rfl rfl rfl ?_
  exact ev_iret rfl rfl (rfl) (rfl)
theorem k_partOf {a b i : Nat} {k1 k2 k3 k4 k5 : Int32} {f : Nat → Option Nat} (hi : i < 8) (h0 : am_is h a (mc_c k1 k2 k3 k4 k5 b)) (h1 : am_is h b (pa_c f)) : am_m d z_Macro_partOf [.ref a, .int (nI i)] h (some (va_rf (f i))) h := by
  refine ev_go 1 (q := 1) rfl ?_
  refine ev_if_lt (t := 22) (q := 4) rfl rfl rfl (fun c => absurd c (nI_nlt (b := 0) (by omega) (by omega))) (fun zc1 => ?_)
  refine ev_go 2 (q := 6) rfl ?_
  refine ev_get (q := 9) rfl h0 rfl rfl rfl ?_
  refine ev_alen (v := 8) (q := 10) rfl h1 (by decide) rfl rfl ?_
  refine ev_icmp_ge (t := 22) (q := 13) rfl rfl rfl (fun c => absurd c (nI_ge (b := 8) (by omega) (by omega))) (fun zc2 => ?_)
  refine ev_go 1 (q := 14) rfl ?_
  refine ev_get (q := 17) rfl h0 rfl rfl rfl ?_
  refine ev_go 1 (q := 18) rfl ?_
  refine ev_aaldn (q := 19) rfl h1 (by decide) rfl hi (by decide) rfl ?_
  refine ev_go 1 (q := 23) rfl ?_
  exact ev_aret rfl rfl (rfl) (rfl)
end E1
