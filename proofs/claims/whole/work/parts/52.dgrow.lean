/-! the class: the tree, grown and changed -/
section F2
variable {d n : Nat} {h h' H : am_H} {res : Option Value} {τ : Nat → Int32} {t : Int64} {B : Nat → Nat → Int32} {P : Nat → Nat → Option Nat} {TH : Nat → Prop} {PA : Nat → Int32} {HC : Nat → Nat} {R C k : Nat} {x : Int32}
abbrev nd_0 : am_C := .inr (5, [.int 0, .int 0, .null])
def NW (h : am_H) (n : Nat) : am_H := am_new (am_new (am_new h n (nd_c (-9) 0 (h.1 + 1))) 5 (am_cloth 1 1 0 0 (h.1 + 2))) 400 (am_ia 400 (fun _ => 0))
theorem NW_0 : am_is (NW h n) h.1 (nd_c (-9) 0 (h.1 + 1)) := (am_is.made.new).new
theorem NW_1 : am_is (NW h n) (h.1 + 1) (am_cloth 1 1 0 0 (h.1 + 2)) := (am_is.made (h := am_new h n (nd_c (-9) 0 (h.1 + 1)))).new
theorem NW_2 : am_is (NW h n) (h.1 + 2) (am_ia 400 (fun _ => 0)) := am_is.made (h := am_new (am_new h n (nd_c (-9) 0 (h.1 + 1))) 5 (am_cloth 1 1 0 0 (h.1 + 2)))
theorem NW_o {a : Nat} {y : am_C} (q : am_is h a y) : am_is (NW h n) a y := (q.new.new).new
theorem k_ninit (hd : 1 < d) : am_m d z_Node_init [.ref h.1] (am_new h n nd_0) none (NW h n) := by
  refine ev_go 1 (q := 1) rfl ?_
  refine ev_oinit (q := 4) rfl rfl (by omega) (by decide) rfl ?_
  refine ev_go 2 (q := 7) (st' := .int (-9) :: _ :: _) rfl ?_
  refine ev_put (q := 10) rfl (am_is.made (h := h)) rfl (Nat.le_of_ble_eq_true rfl) rfl rfl rfl ?_
  refine ev_go 2 (q := 12) (st' := .int 0 :: _ :: _) rfl ?_
  refine ev_put (q := 15) rfl (am_is.made (h := h)).self rfl (Nat.le_of_ble_eq_true rfl) rfl rfl rfl ?_
  refine ev_go 1 (q := 16) rfl ?_
  refine ev_new (q := 19) rfl rfl rfl rfl rfl ?_
  refine ev_go 1 (q := 20) rfl ?_
  refine ev_init (z' := z_Cloth_init) (q := 23) rfl rfl (by decide) rfl rfl (by simp [Value.category]) rfl (by omega) (k_Cloth_init (c0 := []) (by omega) am_is.made) ?_
  refine ev_put (q := 26) rfl ((am_is.made (h := h)).self.self.new.ne (by show h.1 ≠ h.1 + 1; omega)).new rfl (Nat.le_of_ble_eq_true rfl) rfl rfl rfl ?_
  exact ev_vret rfl rfl (by
      refine hx (fun j => ?_)
      show va_up (va_up (va_up (va_up (va_up (va_up (va_up h.2.2 h.1 _) h.1 _) h.1 _) (h.1 + 1) _) (h.1 + 1) _) (h.1 + 1 + 1) _) h.1 _ j = va_up (va_up (va_up h.2.2 h.1 _) (h.1 + 1) _) (h.1 + 1 + 1) _ j
      by_cases e : j = h.1
      · subst e; rw [va_up_self, va_up_ne _ _ (by omega), va_up_ne _ _ (by omega), va_up_self]; rfl
      · rw [va_up_ne _ _ e]
        by_cases e2 : j = h.1 + 1 + 1
        · subst e2; rw [va_up_self, va_up_self]
        · rw [va_up_ne _ _ e2, va_up_ne _ _ e2]
          by_cases e3 : j = h.1 + 1
          · subst e3; rw [va_up_self, va_up_self]; rfl
          · rw [va_up_ne _ _ e3, va_up_ne _ _ e3, va_up_ne _ _ e3, va_up_ne _ _ e, va_up_ne _ _ e, va_up_ne _ _ e, va_up_ne _ _ e])
theorem c_chgT (hn : 15 ≤ h.1) (hw : TW h P TH PA HC) (hd : 3 < d) (hR : R ≤ 10) (hC : C ≤ 10) {ra rb : Nat} {f f2 : Nat → Int32} {us sh us2 sh2 : Int32} {p : Nat} (hk : k < 60) (ht : TH k) (hp : p < 60) (tp : TH p) (ep : PA k = nI p) (g1 : 15 ≤ HC k ∧ 15 ≤ ra ∧ 15 ≤ HC p ∧ 15 ≤ rb) (i1 : am_is h (HC k) (am_cloth (nI R) (nI C) us sh ra)) (i2 : am_is h ra (am_ia 400 f)) (i3 : am_is h (HC p) (am_cloth (nI R) (nI C) us2 sh2 rb)) (i4 : am_is h rb (am_ia 400 f2)) : am_m d z_Tree_changedIn [.ref 3, .int (nI k)] (dH h τ t B P) (some (.int (sp_chg f f2 R C))) (dH h τ t B P) := by
  refine ev_go 2 (q := 2) rfl ?_
  refine ev_virt (z' := z_Tree_clothOf) (q := 5) rfl rfl (by decide) rfl (by simp [Value.category]) rfl (by omega) rfl rfl (d_3 hn) (c_clT hn hw hk ht (by omega)) ?_
  refine ev_go 4 (q := 9) rfl ?_
  refine ev_virt (z' := z_Tree_parentOf) (q := 12) rfl rfl (by decide) rfl (by simp [Value.category]) rfl (by omega) rfl rfl (d_3 hn) (c_paT hn hw hk ht (by omega)) ?_
  refine ev_tp (y := nI p) ep ?_
  refine ev_virt (z' := z_Tree_clothOf) (q := 15) rfl rfl (by decide) rfl (by simp [Value.category]) rfl (by omega) rfl rfl (d_3 hn) (c_clT hn hw hp tp (by omega)) ?_
  refine ev_go 2 (q := 17) rfl ?_
  refine ev_go 1 (q := 20) rfl ?_
  refine ev_go 1 (q := 21) rfl ?_
  refine ev_go 1 (q := 28) rfl ?_
  refine ev_go 2 (q := 30) rfl ?_
  refine ev_virt (z' := z_Cloth_changedFrom) (q := 33) rfl rfl (by decide) rfl (by simp [Value.category]) rfl (by omega) rfl rfl (dH_ge g1.1 i1) (k_changedFrom (by omega) hR hC (dH_ge g1.1 i1) (dH_ge g1.2.1 i2) (dH_ge g1.2.2.1 i3) (dH_ge g1.2.2.2 i4)) ?_
  exact ev_iret rfl rfl (rfl) (rfl)
theorem c_chg0 (hn : 15 ≤ h.1) (hw : TW h P TH PA HC) (hd : 3 < d) (hk : k < 60) (ht : TH k) (ep : PA k = -9) : am_m d z_Tree_changedIn [.ref 3, .int (nI k)] (dH h τ t B P) (some (.int 0)) (dH h τ t B P) := by
  have hno : ∀ j, j < 60 → (-9 : Int32) = nI j → ¬ TH j := fun j hj e => by
    have := congrArg Int32.toInt e
    rw [nI_toInt (by omega), show (-9 : Int32).toInt = -9 by decide] at this
    omega
  refine ev_go 2 (q := 2) rfl ?_
  refine ev_virt (z' := z_Tree_clothOf) (q := 5) rfl rfl (by decide) rfl (by simp [Value.category]) rfl (by omega) rfl rfl (d_3 hn) (c_clT hn hw hk ht (by omega)) ?_
  refine ev_go 4 (q := 9) rfl ?_
  refine ev_virt (z' := z_Tree_parentOf) (q := 12) rfl rfl (by decide) rfl (by simp [Value.category]) rfl (by omega) rfl rfl (d_3 hn) (c_paT hn hw hk ht (by omega)) ?_
  refine ev_tp (y := (-9)) ep ?_
  refine ev_virt (z' := z_Tree_clothOf) (q := 15) rfl rfl (by decide) rfl (by simp [Value.category]) rfl (by omega) rfl rfl (d_3 hn) (c_clN hn hw hno (by omega)) ?_
  refine ev_go 2 (q := 17) rfl ?_
  refine ev_go 1 (q := 20) rfl ?_
  refine ev_go 1 (q := 21) rfl ?_
  refine ev_go 1 (q := 24) rfl ?_
  refine ev_go 2 (q := 33) (st' := .int 0 :: _) rfl ?_
  exact ev_iret rfl rfl (rfl) (rfl)
theorem c_out (hn : 15 ≤ h.1) (hw : TW h P TH PA HC) (hd : 3 < d) {a b p : Nat} (hk : k < 60) (ht : TH k) (ea : P 0 k = some a) (ga : 15 ≤ a) (ia : am_is h a (nd_c (PA k) (cb (TH k)) (HC k))) (hp : p < 60) (tp : TH p) (eb : P 0 p = some b) (gb : 15 ≤ b) (ib : am_is h b (nd_c (PA p) (cb (TH p)) (HC p))) (hab : a ≠ b) (hh : hu TH PA (nI k) 60 = nI p) : am_m d z_Tree_takeOut [.ref 3, .int (nI k)] (dH h τ t B P) (some (.int (nI p))) (dH (am_up (am_up h b (nd_c (PA k) (cb (TH p)) (HC p))) a (nd_c (PA k) 0 (HC k))) τ t B P) := by
  refine ev_go 2 (q := 2) rfl ?_
  refine ev_virt (z' := z_Tree_find) (q := 5) rfl rfl (by decide) rfl (by simp [Value.category]) rfl (by omega) rfl rfl (d_3 hn) (c_findT hn hk ht ea ga ia) ?_
  refine ev_go 3 (q := 8) rfl ?_
  refine ev_virt (z' := z_Tree_highestUnder) (q := 11) rfl rfl (by decide) rfl (by simp [Value.category]) rfl (by omega) rfl rfl (d_3 hn) (c_highest hn hw (by omega)) ?_
  refine ev_tp (y := nI p) hh ?_
  refine ev_go 3 (q := 14) rfl ?_
  refine ev_virt (z' := z_Tree_find) (q := 17) rfl rfl (by decide) rfl (by simp [Value.category]) rfl (by omega) rfl rfl (d_3 hn) (c_findT hn hp tp eb gb ib) ?_
  refine ev_go 2 (q := 20) rfl ?_
  refine ev_go 1 (q := 23) rfl ?_
  refine ev_go 1 (q := 25) rfl ?_
  refine ev_go 1 (q := 28) rfl ?_
  refine ev_go 2 (q := 31) rfl ?_
  refine ev_get (q := 34) rfl (dH_ge ga ia) rfl rfl rfl ?_
  refine ev_put (q := 37) rfl (dH_ge gb ib) rfl (Nat.le_of_ble_eq_true rfl) rfl rfl rfl ?_
  rw [dH_far gb]
  refine ev_go 2 (q := 39) (st' := .int 0 :: _ :: _) rfl ?_
  refine ev_put (q := 42) rfl (dH_ge ga (ia.ne hab)) rfl (Nat.le_of_ble_eq_true rfl) rfl rfl rfl ?_
  rw [dH_far ga]
  refine ev_go 1 (q := 43) rfl ?_
  exact ev_iret rfl rfl (rfl) (rfl)
def gr_h (h : am_H) (a hc rc : Nat) (τ : Nat → Int32) (B : Nat → Nat → Int32) (f0 : Nat → Int32) : am_H := am_up (am_up (am_up h a (nd_c (τ 4) 1 hc)) hc (am_cloth (τ 0) (τ 1) (τ 2) (τ 3) rc)) rc (am_ia 400 (va_cpy (B 0) f0 0 0 400))
theorem t_grow (hn : 15 ≤ h.1) (hd : 2 < d) (h5 : τ 5 = nI n) (hb : n < 60) {a hc rc : Nat} {p0 th0 r0 c0 u0 s0 : Int32} {f0 : Nat → Int32} (ea : P 0 n = some a) (ga : 15 ≤ a ∧ 15 ≤ hc ∧ 15 ≤ rc) (ia : am_is h a (nd_c p0 th0 hc)) (ic : am_is h hc (am_cloth r0 c0 u0 s0 rc)) (ir : am_is h rc (am_ia 400 f0)) {e2 : Option Value} : am_ev d z_Tree_grow (38, [some (.ref 3), some (.ref 1), e2], [], dH h τ t B P) (some (.int (nI n))) (dH (gr_h h a hc rc τ B f0) (va_up (va_up τ 4 (nI n)) 5 (nI (n + 1))) t B P) := by
  have n1 : hc ≠ a := fun q => by
    subst q
    exact absurd (ia.2.symm.trans ic.2) (by intro z; cases z)
  have n2 : rc ≠ a := fun q => by
    subst q
    exact absurd (ia.2.symm.trans ir.2) (by intro z; cases z)
  have n3 : rc ≠ hc := fun q => by
    subst q
    exact absurd (ic.2.symm.trans ir.2) (by intro z; cases z)
  have cp := k_copyFrom (d := d - 1) (h := dH (am_up h a (nd_c (τ 4) 1 hc)) τ t B P) (a := hc) (k := rc) (a2 := 1) (k2 := 2) (by omega) (dH_ge ga.2.1 (ic.ne n1)) (dH_ge ga.2.2 (ir.ne n2)) (d_1 hn) (d_2 hn) (by omega) (fun q => n3 q.symm) (by omega)
  rw [dH_far ga.2.1, dH_far ga.2.2] at cp
  refine ev_go 1 (q := 39) rfl ?_
  refine ev_get (q := 42) rfl (d_3 hn) rfl rfl rfl ?_
  refine ev_go 1 (q := 43) rfl ?_
  refine ev_get (q := 46) rfl (d_3 hn) rfl rfl rfl ?_
  refine ev_tp (y := nI n) h5 ?_
  refine ev_aaldn (q := 47) rfl (d_4 hn) (by decide) rfl hb (by decide) rfl ?_
  rw [ea]
  refine ev_go 3 (q := 50) rfl ?_
  refine ev_get (q := 53) rfl (d_3 hn) rfl rfl rfl ?_
  refine ev_put (q := 56) rfl (dH_ge ga.1 ia) rfl (Nat.le_of_ble_eq_true rfl) rfl rfl rfl ?_
  rw [dH_far ga.1]
  refine ev_go 2 (q := 58) (st' := .int 1 :: _ :: _) rfl ?_
  refine ev_put (q := 61) rfl (dH_ge ga.1 ia.self) rfl (Nat.le_of_ble_eq_true rfl) rfl rfl rfl ?_
  rw [dH_far ga.1, am_up_up]
  refine ev_go 1 (q := 62) rfl ?_
  refine ev_get (q := 65) rfl (dH_ge ga.1 ia.self) rfl rfl rfl ?_
  skip
  refine ev_go 1 (q := 66) rfl ?_
  refine ev_virt (z' := z_Cloth_copyFrom) (q := 69) rfl rfl (by decide) rfl (by simp [Value.category]) rfl (by omega) rfl rfl (dH_ge ga.2.1 (ic.ne n1)) cp ?_
  refine ev_go 2 (q := 71) rfl ?_
  refine ev_get (q := 74) rfl (d_3 hn) rfl rfl rfl ?_
  refine ev_tp (y := nI n) h5 ?_
  refine ev_put (q := 77) rfl (d_3 hn) rfl (Nat.le_of_ble_eq_true rfl) rfl rfl rfl ?_
  refine ev_hp du_3_1 ?_
  refine ev_go 2 (q := 79) rfl ?_
  refine ev_get (q := 82) rfl (d_3 hn) rfl rfl rfl ?_
  refine ev_tp (y := nI n) h5 ?_
  refine ev_go 2 (q := 84) (st' := .int (_ + 1) :: _ :: _) rfl ?_
  rw [nI_1]
  refine ev_put (q := 87) rfl (d_3 hn) rfl (Nat.le_of_ble_eq_true rfl) rfl rfl rfl ?_
  refine ev_hp du_3_2 ?_
  refine ev_go 1 (q := 88) rfl ?_
  refine ev_get (q := 91) rfl (d_3 hn) rfl rfl rfl ?_
  exact ev_iret rfl rfl (rfl) (rfl)
theorem c_growS (hn : 15 ≤ h.1) (hd : 3 < d) (h5 : τ 5 = nI n) (hb : n < 60) {a hc rc : Nat} {p0 th0 r0 c0 u0 s0 : Int32} {f0 : Nat → Int32} (ea : P 0 n = some a) (ga : 15 ≤ a ∧ 15 ≤ hc ∧ 15 ≤ rc) (ia : am_is h a (nd_c p0 th0 hc)) (ic : am_is h hc (am_cloth r0 c0 u0 s0 rc)) (ir : am_is h rc (am_ia 400 f0)) : am_m d z_Tree_grow [.ref 3, .ref 1] (dH h τ t B P) (some (.int (nI n))) (dH (gr_h h a hc rc τ B f0) (va_up (va_up τ 4 (nI n)) 5 (nI (n + 1))) t B P) := by
  refine ev_go 1 (q := 1) rfl ?_
  refine ev_virt (z' := z_Tree_isFull) (q := 4) rfl rfl (by decide) rfl (by simp [Value.category]) rfl (by omega) rfl rfl (d_3 hn) (c_isFull hn h5 (by omega)) ?_
  refine ev_tp (y := 0) (am_bz (by omega)) ?_
  refine ev_if_eq (t := 10) (q := 7) rfl rfl rfl (fun _ => ?_) (fun c => absurd (by decide) c)
  refine ev_go 1 (q := 11) rfl ?_
  refine ev_get (q := 14) rfl (d_3 hn) rfl rfl rfl ?_
  refine ev_go 1 (q := 15) rfl ?_
  refine ev_get (q := 18) rfl (d_3 hn) rfl rfl rfl ?_
  refine ev_tp (y := nI n) h5 ?_
  refine ev_aaldn (q := 19) rfl (d_4 hn) (by decide) rfl hb (by decide) rfl ?_
  rw [ea]
  refine ev_go 1 (q := 38) rfl ?_
  exact t_grow hn (by omega) h5 hb ea ga ia ic ir
theorem c_growN (hn : 15 ≤ h.1) (hd : 3 < d) (h5 : τ 5 = nI n) (hb : n < 60) (ea : P 0 n = none) : am_m d z_Tree_grow [.ref 3, .ref 1] (dH h τ t B P) (some (.int (nI n))) (dH (gr_h (NW h 3) h.1 (h.1 + 1) (h.1 + 2) τ B (fun _ => 0)) (va_up (va_up τ 4 (nI n)) 5 (nI (n + 1))) t B (va_up P 0 (va_up (P 0) n (some h.1)))) := by
  have hn3 : 15 ≤ (NW h 3).1 := by show 15 ≤ h.1 + 1 + 1 + 1; omega
  have ni := k_ninit (d := d - 1) (n := 3) (h := dH h τ t B P) (by omega)
  have e1 : am_new (dH h τ t B P) 3 nd_0 = dH (am_new h 3 nd_0) τ t B P := dH_new hn
  have e2 : NW (dH h τ t B P) 3 = dH (NW h 3) τ t B P := by
    unfold NW
    rw [dH_new hn, dH_new (by show 15 ≤ h.1 + 1; omega), dH_new (by show 15 ≤ h.1 + 1 + 1; omega)]
    rfl
  refine ev_go 1 (q := 1) rfl ?_
  refine ev_virt (z' := z_Tree_isFull) (q := 4) rfl rfl (by decide) rfl (by simp [Value.category]) rfl (by omega) rfl rfl (d_3 hn) (c_isFull hn h5 (by omega)) ?_
  refine ev_tp (y := 0) (am_bz (by omega)) ?_
  refine ev_if_eq (t := 10) (q := 7) rfl rfl rfl (fun _ => ?_) (fun c => absurd (by decide) c)
  refine ev_go 1 (q := 11) rfl ?_
  refine ev_get (q := 14) rfl (d_3 hn) rfl rfl rfl ?_
  refine ev_go 1 (q := 15) rfl ?_
  refine ev_get (q := 18) rfl (d_3 hn) rfl rfl rfl ?_
  refine ev_tp (y := nI n) h5 ?_
  refine ev_aaldn (q := 19) rfl (d_4 hn) (by decide) rfl hb (by decide) rfl ?_
  rw [ea]
  refine ev_go 1 (q := 22) rfl ?_
  refine ev_go 1 (q := 23) rfl ?_
  refine ev_get (q := 26) rfl (d_3 hn) rfl rfl rfl ?_
  refine ev_go 1 (q := 27) rfl ?_
  refine ev_get (q := 30) rfl (d_3 hn) rfl rfl rfl ?_
  refine ev_tp (y := nI n) h5 ?_
  refine ev_new (q := 33) rfl rfl rfl rfl rfl ?_
  refine ev_go 1 (q := 34) rfl ?_
  refine ev_init (z' := z_Node_init) (q := 37) rfl rfl (by decide) rfl rfl (by simp [Value.category]) rfl (by omega) ni ?_
  rw [e2]
  refine ev_aastn (q := 38) rfl (d_4 hn3) (dH_ge hn NW_0) (by decide) rfl hb (by decide) rfl ?_
  refine ev_hp du_4 ?_
  exact t_grow (d := d) (h := NW h 3) (P := va_up P 0 (va_up (P 0) n (some h.1))) hn3 (by omega) h5 hb (by rw [va_up_self, va_up_self]) ⟨by omega, by omega, by omega⟩ NW_0 NW_1 NW_2
end F2
