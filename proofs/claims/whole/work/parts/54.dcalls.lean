/-! the class: its calls that change -/
theorem nI_lo {x : Int32} {n : Nat} (hn : n < 1000) (h : 0 ≤ x ∧ x < nI n) : ∃ m, m < n ∧ x = nI m := by
  have g1 := Int32.le_iff_toInt_le.mp h.1
  have g2 := Int32.lt_iff_toInt_lt.mp h.2
  rw [show (0 : Int32).toInt = 0 by decide] at g1
  rw [nI_toInt (by omega)] at g2
  refine ⟨x.toInt.toNat, by omega, Int32.toInt_inj.mp ?_⟩
  rw [nI_toInt (by omega)]
  omega
section F4
variable {d n k : Nat} {h h' H : am_H} {res : Option Value} {τ τ2 : Nat → Int32} {t t2 : Int64} {B B2 : Nat → Nat → Int32} {P : Nat → Nat → Option Nat} {TH : Nat → Prop} {PA : Nat → Int32} {HC : Nat → Nat} {R C : Nat} {x y : Int32}
def mv_τ (a b c e : Int32) (τ : Nat → Int32) : Nat → Int32 := va_up (va_up (va_up (va_up τ 0 a) 1 b) 2 c) 3 e
theorem du_1 {a b c e : Int32} : am_up (dH h τ t B P) 1 (am_cloth a b c e 2) = dH h (mv_τ a b c e τ) t B P := by
  refine congrArg (fun f => ((h.1, h.2.1, f) : am_H)) (funext fun j => ?_)
  match j with
  | 0 => rfl
  | 1 => rfl
  | 2 => rfl
  | 3 => rfl
  | 4 => rfl
  | 5 => rfl
  | 6 => rfl
  | 7 => rfl
  | 8 => rfl
  | 9 => rfl
  | 10 => rfl
  | 11 => rfl
  | 12 => rfl
  | 13 => rfl
  | 14 => rfl
  | j + 15 => rfl
theorem c_copy (hn : 15 ≤ h.1) (hd : 0 < d) {ra : Nat} {f : Nat → Int32} {r0 c0 u0 s0 : Int32} (g : 15 ≤ HC k ∧ 15 ≤ ra) (i1 : am_is h (HC k) (am_cloth r0 c0 u0 s0 ra)) (i2 : am_is h ra (am_ia 400 f)) : am_m d z_Cloth_copyFrom [.ref 1, .ref (HC k)] (dH h τ t B P) none (dH h (mv_τ r0 c0 u0 s0 τ) t (va_up B 0 (va_cpy f (B 0) 0 0 400)) P) := by
  rw [← du_2, ← du_1]
  exact k_copyFrom hd (d_1 hn) (d_2 hn) (dH_ge g.1 i1) (dH_ge g.2 i2) (by omega) (by omega) (by omega)
theorem D_move (hn : 15 ≤ h.1) (hd : 2 < d) (hw : TW h P TH PA HC) (hk : k < 60) (ht : TH k) {ra : Nat} {f : Nat → Int32} {r0 c0 u0 s0 : Int32} (g : 15 ≤ HC k ∧ 15 ≤ ra) (i1 : am_is h (HC k) (am_cloth r0 c0 u0 s0 ra)) (i2 : am_is h ra (am_ia 400 f)) : am_m d z_Desk_moveTo [.ref 0, .int (nI k)] (dH h τ t B P) (some (.int (nI k))) (dH h (va_up (mv_τ r0 c0 u0 s0 τ) 4 (nI k)) t (va_up B 0 (va_cpy f (B 0) 0 0 400)) P) := by
  refine ev_go 1 (q := 1) rfl ?_
  refine ev_get (q := 4) rfl (d_0 hn) rfl rfl rfl ?_
  refine ev_go 1 (q := 5) rfl ?_
  refine ev_virt (z' := z_Tree_clothOf) (q := 8) rfl rfl (by decide) rfl (by simp [Value.category]) rfl (by omega) rfl rfl (d_3 hn) (c_clT hn hw hk ht (by omega)) ?_
  refine ev_go 2 (q := 10) rfl ?_
  refine ev_go 1 (q := 13) rfl ?_
  refine ev_go 1 (q := 14) rfl ?_
  refine ev_get (q := 17) rfl (d_0 hn) rfl rfl rfl ?_
  refine ev_go 1 (q := 18) rfl ?_
  refine ev_virt (z' := z_Cloth_copyFrom) (q := 21) rfl rfl (by decide) rfl (by simp [Value.category]) rfl (by omega) rfl rfl (d_1 hn) (c_copy hn (by omega) g i1 i2) ?_
  refine ev_go 1 (q := 22) rfl ?_
  refine ev_get (q := 25) rfl (d_0 hn) rfl rfl rfl ?_
  refine ev_go 1 (q := 26) rfl ?_
  refine ev_put (q := 29) rfl (d_3 hn) rfl (Nat.le_of_ble_eq_true rfl) rfl rfl rfl ?_
  refine ev_hp du_3_1 ?_
  refine ev_go 1 (q := 30) rfl ?_
  exact ev_iret rfl rfl (rfl) (rfl)
theorem D_setF (hn : 15 ≤ h.1) (hd : 3 < d) (hw : TW h P TH PA HC) (hk : k < 60) (ht : TH k) {ra : Nat} {f : Nat → Int32} {r0 c0 u0 s0 : Int32} (g : 15 ≤ HC k ∧ 15 ≤ ra) (i1 : am_is h (HC k) (am_cloth r0 c0 u0 s0 ra)) (i2 : am_is h ra (am_ia 400 f)) (h4 : τ 4 = nI k) (h6 : ¬ τ 6 = 0) : am_m d z_Desk_settle [.ref 0] (dH h τ t B P) (some (.int (-5))) (dH h (mv_τ r0 c0 u0 s0 τ) t (va_up B 0 (va_cpy f (B 0) 0 0 400)) P) := by
  refine ev_go 1 (q := 1) rfl ?_
  refine ev_get (q := 4) rfl (d_0 hn) rfl rfl rfl ?_
  refine ev_go 1 (q := 5) rfl ?_
  refine ev_get (q := 8) rfl (d_0 hn) rfl rfl rfl ?_
  refine ev_get (q := 11) rfl (d_3 hn) rfl rfl rfl ?_
  refine ev_tp (y := nI k) h4 ?_
  refine ev_virt (z' := z_Tree_clothOf) (q := 14) rfl rfl (by decide) rfl (by simp [Value.category]) rfl (by omega) rfl rfl (d_3 hn) (c_clT hn hw hk ht (by omega)) ?_
  refine ev_go 2 (q := 16) rfl ?_
  refine ev_go 1 (q := 22) rfl ?_
  refine ev_go 1 (q := 23) rfl ?_
  refine ev_get (q := 26) rfl (d_0 hn) rfl rfl rfl ?_
  refine ev_get (q := 29) rfl (d_5 hn) rfl rfl rfl ?_
  refine ev_if_eq (t := 43) (q := 32) rfl rfl rfl (fun c => absurd c h6) (fun zc1 => ?_)
  refine ev_go 1 (q := 33) rfl ?_
  refine ev_get (q := 36) rfl (d_0 hn) rfl rfl rfl ?_
  refine ev_go 1 (q := 37) rfl ?_
  refine ev_virt (z' := z_Cloth_copyFrom) (q := 40) rfl rfl (by decide) rfl (by simp [Value.category]) rfl (by omega) rfl rfl (d_1 hn) (c_copy hn (by omega) g i1 i2) ?_
  refine ev_go 1 (q := 42) (st' := .int (-5) :: _) rfl ?_
  exact ev_iret rfl rfl (rfl) (rfl)
theorem D_set0 (hn : 15 ≤ h.1) (hd : 4 < d) (hw : TW h P TH PA HC) (hk : k < 60) (ht : TH k) (hR : 1 ≤ R ∧ R ≤ 10) (hC : 1 ≤ C ∧ C ≤ 10) (h0 : τ 0 = nI R) (h1 : τ 1 = nI C) {ra : Nat} {f : Nat → Int32} {u0 s0 : Int32} (g : 15 ≤ HC k ∧ 15 ≤ ra) (i1 : am_is h (HC k) (am_cloth (nI R) (nI C) u0 s0 ra)) (i2 : am_is h ra (am_ia 400 f)) (h4 : τ 4 = nI k) (h6 : τ 6 = 0) (hg : am_m (d - 1) z_Tree_grow [.ref 3, .ref 1] (dH h (va_up τ 7 (sp_chg (B 0) f R C)) t B P) (some (.int x)) H) : am_m d z_Desk_settle [.ref 0] (dH h τ t B P) (some (.int x)) H := by
  refine ev_go 1 (q := 1) rfl ?_
  refine ev_get (q := 4) rfl (d_0 hn) rfl rfl rfl ?_
  refine ev_go 1 (q := 5) rfl ?_
  refine ev_get (q := 8) rfl (d_0 hn) rfl rfl rfl ?_
  refine ev_get (q := 11) rfl (d_3 hn) rfl rfl rfl ?_
  refine ev_tp (y := nI k) h4 ?_
  refine ev_virt (z' := z_Tree_clothOf) (q := 14) rfl rfl (by decide) rfl (by simp [Value.category]) rfl (by omega) rfl rfl (d_3 hn) (c_clT hn hw hk ht (by omega)) ?_
  refine ev_go 2 (q := 16) rfl ?_
  refine ev_go 1 (q := 22) rfl ?_
  refine ev_go 1 (q := 23) rfl ?_
  refine ev_get (q := 26) rfl (d_0 hn) rfl rfl rfl ?_
  refine ev_get (q := 29) rfl (d_5 hn) rfl rfl rfl ?_
  refine ev_tp (y := 0) h6 ?_
  refine ev_if_eq (t := 43) (q := 32) rfl rfl rfl (fun _ => ?_) (fun c => absurd (by decide) c)
  refine ev_go 1 (q := 44) rfl ?_
  refine ev_get (q := 47) rfl (d_0 hn) rfl rfl rfl ?_
  refine ev_go 1 (q := 48) rfl ?_
  refine ev_get (q := 51) rfl (d_0 hn) rfl rfl rfl ?_
  refine ev_go 1 (q := 52) rfl ?_
  refine ev_virt (z' := z_Cloth_changedFrom) (q := 55) rfl rfl (by decide) rfl (by simp [Value.category]) rfl (by omega) rfl rfl (d_1 hn) (k_changedFrom (by omega) hR.2 hC.2 (d_cl hn h0 h1) (d_2 hn) (dH_ge g.1 i1) (dH_ge g.2 i2)) ?_
  refine ev_put (q := 58) rfl (d_5 hn) rfl (Nat.le_of_ble_eq_true rfl) rfl rfl rfl ?_
  refine ev_hp du_5_2 ?_
  refine ev_go 1 (q := 59) rfl ?_
  refine ev_get (q := 62) rfl (d_0 hn) rfl rfl rfl ?_
  refine ev_go 1 (q := 63) rfl ?_
  refine ev_get (q := 66) rfl (d_0 hn) rfl rfl rfl ?_
  refine ev_virt (z' := z_Tree_grow) (q := 69) rfl rfl (by decide) rfl (by simp [Value.category]) rfl (by omega) rfl rfl (d_3 hn) hg ?_
  exact ev_iret rfl rfl (rfl) (rfl)
theorem D_goN (hn : 15 ≤ h.1) (hd : 5 < d) (hw : TW h P TH PA HC) (hno : ∀ k, k < 60 → x = nI k → ¬ TH k) : am_m d z_Desk_go [.ref 0, .int x] (dH h τ t B P) (some (.int (-1))) (dH h τ t B P) := by
  refine ev_go 1 (q := 1) rfl ?_
  refine ev_get (q := 4) rfl (d_0 hn) rfl rfl rfl ?_
  refine ev_go 1 (q := 5) rfl ?_
  refine ev_virt (z' := z_Tree_has) (q := 8) rfl rfl (by decide) rfl (by simp [Value.category]) rfl (by omega) rfl rfl (d_3 hn) (c_hasN hn hw hno (by omega)) ?_
  refine ev_tp (y := 0) rfl ?_
  refine ev_if_ne (t := 13) (q := 11) rfl rfl rfl (fun c => absurd (by decide) c) (fun _ => ?_)
  refine ev_go 1 (q := 12) (st' := .int (-1) :: _) rfl ?_
  exact ev_iret rfl rfl (rfl) (rfl)
theorem D_go (hn : 15 ≤ h.1) (hd : 5 < d) (hw : TW h P TH PA HC) (hk : k < 60) (ht : TH k) (hf : WF TH PA) {c : Nat} (h4 : τ 4 = nI c) (hc : c < 60) (tc : TH c) (hm : am_m (d - 1) z_Desk_moveTo [.ref 0, .int (nI k)] (dH h τ t B P) (some (.int y)) H) : am_m d z_Desk_go [.ref 0, .int (nI k)] (dH h τ t B P) (some (.int (nI (ct PA 120 c k)))) H := by
  refine ev_go 1 (q := 1) rfl ?_
  refine ev_get (q := 4) rfl (d_0 hn) rfl rfl rfl ?_
  refine ev_go 1 (q := 5) rfl ?_
  refine ev_virt (z' := z_Tree_has) (q := 8) rfl rfl (by decide) rfl (by simp [Value.category]) rfl (by omega) rfl rfl (d_3 hn) (c_hasT hn hw hk ht (by omega)) ?_
  refine ev_tp (y := 1) rfl ?_
  refine ev_if_ne (t := 13) (q := 11) rfl rfl rfl (fun _ => ?_) (fun c => absurd c (by decide))
  refine ev_go 1 (q := 14) rfl ?_
  refine ev_get (q := 17) rfl (d_0 hn) rfl rfl rfl ?_
  refine ev_go 1 (q := 18) rfl ?_
  refine ev_get (q := 21) rfl (d_0 hn) rfl rfl rfl ?_
  refine ev_get (q := 24) rfl (d_3 hn) rfl rfl rfl ?_
  refine ev_tp (y := nI c) h4 ?_
  refine ev_go 1 (q := 25) rfl ?_
  refine ev_virt (z' := z_Tree_stepsBetween) (q := 28) rfl rfl (by decide) rfl (by simp [Value.category]) rfl (by omega) rfl rfl (d_3 hn) (c_steps hn hw hf (by omega) hc hk tc ht) ?_
  refine ev_go 3 (q := 31) rfl ?_
  refine ev_virt (z' := z_Desk_moveTo) (q := 34) rfl rfl (by decide) rfl (by simp [Value.category]) rfl (by omega) rfl rfl (d_0 hn) hm ?_
  refine ev_go 2 (q := 36) rfl ?_
  exact ev_iret rfl rfl (rfl) (rfl)
theorem D_undS (hn : 15 ≤ h.1) (hd : 5 < d) (hp : am_m (d - 1) z_Tree_parentOf [.ref 3, .int (τ 4)] (dH h τ t B P) (some (.int (-9))) (dH h τ t B P)) : am_m d z_Desk_undo [.ref 0] (dH h τ t B P) (some (.int (-2))) (dH h τ t B P) := by
  refine ev_go 1 (q := 1) rfl ?_
  refine ev_get (q := 4) rfl (d_0 hn) rfl rfl rfl ?_
  refine ev_go 1 (q := 5) rfl ?_
  refine ev_get (q := 8) rfl (d_0 hn) rfl rfl rfl ?_
  refine ev_get (q := 11) rfl (d_3 hn) rfl rfl rfl ?_
  refine ev_virt (z' := z_Tree_parentOf) (q := 14) rfl rfl (by decide) rfl (by simp [Value.category]) rfl (by omega) rfl rfl (d_3 hn) hp ?_
  refine ev_tp (y := (-9)) rfl ?_
  refine ev_go 3 (q := 18) (st' := .int (-9) :: _ :: _) rfl ?_
  refine ev_icmp_ne (t := 26) (q := 21) rfl rfl rfl (fun c => absurd (by decide) c) (fun _ => ?_)
  refine ev_go 2 (q := 31) (st' := .int (-2) :: _) rfl ?_
  exact ev_iret rfl rfl (rfl) (rfl)
theorem D_und (hn : 15 ≤ h.1) (hd : 5 < d) (hp : am_m (d - 1) z_Tree_parentOf [.ref 3, .int (τ 4)] (dH h τ t B P) (some (.int x)) (dH h τ t B P)) (hx9 : ¬ x = -9) (hm : am_m (d - 1) z_Desk_moveTo [.ref 0, .int x] (dH h τ t B P) (some (.int y)) H) : am_m d z_Desk_undo [.ref 0] (dH h τ t B P) (some (.int y)) H := by
  refine ev_go 1 (q := 1) rfl ?_
  refine ev_get (q := 4) rfl (d_0 hn) rfl rfl rfl ?_
  refine ev_go 1 (q := 5) rfl ?_
  refine ev_get (q := 8) rfl (d_0 hn) rfl rfl rfl ?_
  refine ev_get (q := 11) rfl (d_3 hn) rfl rfl rfl ?_
  refine ev_virt (z' := z_Tree_parentOf) (q := 14) rfl rfl (by decide) rfl (by simp [Value.category]) rfl (by omega) rfl rfl (d_3 hn) hp ?_
  refine ev_go 3 (q := 18) (st' := .int (-9) :: _ :: _) rfl ?_
  refine ev_icmp_ne (t := 26) (q := 21) rfl rfl rfl (fun zc1 => ?_) (fun c => absurd c hx9)
  refine ev_go 2 (q := 28) rfl ?_
  refine ev_virt (z' := z_Desk_moveTo) (q := 31) rfl rfl (by decide) rfl (by simp [Value.category]) rfl (by omega) rfl rfl (d_0 hn) hm ?_
  exact ev_iret rfl rfl (rfl) (rfl)
theorem D_redS (hn : 15 ≤ h.1) (hd : 5 < d) (hp : am_m (d - 1) z_Tree_highestUnder [.ref 3, .int (τ 4)] (dH h τ t B P) (some (.int (-9))) (dH h τ t B P)) : am_m d z_Desk_redo [.ref 0] (dH h τ t B P) (some (.int (-2))) (dH h τ t B P) := by
  refine ev_go 1 (q := 1) rfl ?_
  refine ev_get (q := 4) rfl (d_0 hn) rfl rfl rfl ?_
  refine ev_go 1 (q := 5) rfl ?_
  refine ev_get (q := 8) rfl (d_0 hn) rfl rfl rfl ?_
  refine ev_get (q := 11) rfl (d_3 hn) rfl rfl rfl ?_
  refine ev_virt (z' := z_Tree_highestUnder) (q := 14) rfl rfl (by decide) rfl (by simp [Value.category]) rfl (by omega) rfl rfl (d_3 hn) hp ?_
  refine ev_tp (y := (-9)) rfl ?_
  refine ev_go 3 (q := 18) (st' := .int (-9) :: _ :: _) rfl ?_
  refine ev_icmp_ne (t := 26) (q := 21) rfl rfl rfl (fun c => absurd (by decide) c) (fun _ => ?_)
  refine ev_go 2 (q := 31) (st' := .int (-2) :: _) rfl ?_
  exact ev_iret rfl rfl (rfl) (rfl)
theorem D_red (hn : 15 ≤ h.1) (hd : 5 < d) (hp : am_m (d - 1) z_Tree_highestUnder [.ref 3, .int (τ 4)] (dH h τ t B P) (some (.int x)) (dH h τ t B P)) (hx9 : ¬ x = -9) (hm : am_m (d - 1) z_Desk_moveTo [.ref 0, .int x] (dH h τ t B P) (some (.int y)) H) : am_m d z_Desk_redo [.ref 0] (dH h τ t B P) (some (.int y)) H := by
  refine ev_go 1 (q := 1) rfl ?_
  refine ev_get (q := 4) rfl (d_0 hn) rfl rfl rfl ?_
  refine ev_go 1 (q := 5) rfl ?_
  refine ev_get (q := 8) rfl (d_0 hn) rfl rfl rfl ?_
  refine ev_get (q := 11) rfl (d_3 hn) rfl rfl rfl ?_
  refine ev_virt (z' := z_Tree_highestUnder) (q := 14) rfl rfl (by decide) rfl (by simp [Value.category]) rfl (by omega) rfl rfl (d_3 hn) hp ?_
  refine ev_go 3 (q := 18) (st' := .int (-9) :: _ :: _) rfl ?_
  refine ev_icmp_ne (t := 26) (q := 21) rfl rfl rfl (fun zc1 => ?_) (fun c => absurd c hx9)
  refine ev_go 2 (q := 28) rfl ?_
  refine ev_virt (z' := z_Desk_moveTo) (q := 31) rfl rfl (by decide) rfl (by simp [Value.category]) rfl (by omega) rfl rfl (d_0 hn) hm ?_
  exact ev_iret rfl rfl (rfl) (rfl)
theorem D_sqN (hn : 15 ≤ h.1) (hd : 5 < d) (hw : TW h P TH PA HC) (hno : ∀ k, k < 60 → x = nI k → ¬ TH k) : am_m d z_Desk_squeeze [.ref 0, .int x] (dH h τ t B P) (some (.int (-1))) (dH h τ t B P) := by
  refine ev_go 1 (q := 1) rfl ?_
  refine ev_get (q := 4) rfl (d_0 hn) rfl rfl rfl ?_
  refine ev_go 1 (q := 5) rfl ?_
  refine ev_virt (z' := z_Tree_has) (q := 8) rfl rfl (by decide) rfl (by simp [Value.category]) rfl (by omega) rfl rfl (d_3 hn) (c_hasN hn hw hno (by omega)) ?_
  refine ev_tp (y := 0) rfl ?_
  refine ev_if_ne (t := 13) (q := 11) rfl rfl rfl (fun c => absurd (by decide) c) (fun _ => ?_)
  refine ev_go 1 (q := 12) (st' := .int (-1) :: _) rfl ?_
  exact ev_iret rfl rfl (rfl) (rfl)
theorem D_sqS (hn : 15 ≤ h.1) (hd : 5 < d) (hw : TW h P TH PA HC) (hk : k < 60) (ht : TH k) (hb : ¬ (¬ k = 0 ∧ ¬ nI k = τ 4 ∧ sp_it (fun j (y : Int32) => y + cb (TH j ∧ PA j = nI k)) 0 60 0 = 1)) : am_m d z_Desk_squeeze [.ref 0, .int (nI k)] (dH h τ t B P) (some (.int (-2))) (dH h τ t B P) := by
  refine ev_go 1 (q := 1) rfl ?_
  refine ev_get (q := 4) rfl (d_0 hn) rfl rfl rfl ?_
  refine ev_go 1 (q := 5) rfl ?_
  refine ev_virt (z' := z_Tree_has) (q := 8) rfl rfl (by decide) rfl (by simp [Value.category]) rfl (by omega) rfl rfl (d_3 hn) (c_hasT hn hw hk ht (by omega)) ?_
  refine ev_tp (y := 1) rfl ?_
  refine ev_if_ne (t := 13) (q := 11) rfl rfl rfl (fun _ => ?_) (fun c => absurd c (by decide))
  refine ev_go 1 (q := 14) rfl ?_
  refine ev_if_eq (t := 40) (q := 17) rfl rfl rfl (fun zc1 => ?_) (fun zc1 => ?_)
  · refine ev_go 1 (q := 42) (st' := .int (-2) :: _) rfl ?_
    exact ev_iret rfl rfl (rfl) (rfl)
  · refine ev_go 2 (q := 19) rfl ?_
    refine ev_get (q := 22) rfl (d_0 hn) rfl rfl rfl ?_
    refine ev_get (q := 25) rfl (d_3 hn) rfl rfl rfl ?_
    refine ev_icmp_eq (t := 40) (q := 28) rfl rfl rfl (fun zc2 => ?_) (fun zc2 => ?_)
    · refine ev_go 1 (q := 42) (st' := .int (-2) :: _) rfl ?_
      exact ev_iret rfl rfl (rfl) (rfl)
    · refine ev_go 1 (q := 29) rfl ?_
      refine ev_get (q := 32) rfl (d_0 hn) rfl rfl rfl ?_
      refine ev_go 1 (q := 33) rfl ?_
      refine ev_virt (z' := z_Tree_countUnder) (q := 36) rfl rfl (by decide) rfl (by simp [Value.category]) rfl (by omega) rfl rfl (d_3 hn) (c_under hn hw (by omega)) ?_
      refine ev_go 1 (q := 37) (st' := .int 1 :: _ :: _) rfl ?_
      refine ev_icmp_eq (t := 43) (q := 40) rfl rfl rfl (fun zc3 => ?_) (fun zc3 => ?_)
      · exact absurd ⟨fun q => zc1 (by rw [q]; rfl), zc2, zc3⟩ hb
      · refine ev_go 1 (q := 42) (st' := .int (-2) :: _) rfl ?_
        exact ev_iret rfl rfl (rfl) (rfl)
theorem D_sq (hn : 15 ≤ h.1) (hd : 5 < d) (hw : TW h P TH PA HC) (hk : k < 60) (ht : TH k) (hb : ¬ k = 0 ∧ ¬ nI k = τ 4 ∧ sp_it (fun j (y : Int32) => y + cb (TH j ∧ PA j = nI k)) 0 60 0 = 1) (ho : am_m (d - 1) z_Tree_takeOut [.ref 3, .int (nI k)] (dH h τ t B P) (some (.int x)) H) : am_m d z_Desk_squeeze [.ref 0, .int (nI k)] (dH h τ t B P) (some (.int x)) H := by
  refine ev_go 1 (q := 1) rfl ?_
  refine ev_get (q := 4) rfl (d_0 hn) rfl rfl rfl ?_
  refine ev_go 1 (q := 5) rfl ?_
  refine ev_virt (z' := z_Tree_has) (q := 8) rfl rfl (by decide) rfl (by simp [Value.category]) rfl (by omega) rfl rfl (d_3 hn) (c_hasT hn hw hk ht (by omega)) ?_
  refine ev_tp (y := 1) rfl ?_
  refine ev_if_ne (t := 13) (q := 11) rfl rfl rfl (fun _ => ?_) (fun c => absurd c (by decide))
  refine ev_go 1 (q := 14) rfl ?_
  refine ev_if_eq (t := 40) (q := 17) rfl rfl rfl (fun c => absurd c (fun q => hb.1 (nI_eq0 (by omega) q))) (fun zc1 => ?_)
  refine ev_go 2 (q := 19) rfl ?_
  refine ev_get (q := 22) rfl (d_0 hn) rfl rfl rfl ?_
  refine ev_get (q := 25) rfl (d_3 hn) rfl rfl rfl ?_
  refine ev_icmp_eq (t := 40) (q := 28) rfl rfl rfl (fun c => absurd c hb.2.1) (fun zc2 => ?_)
  refine ev_go 1 (q := 29) rfl ?_
  refine ev_get (q := 32) rfl (d_0 hn) rfl rfl rfl ?_
  refine ev_go 1 (q := 33) rfl ?_
  refine ev_virt (z' := z_Tree_countUnder) (q := 36) rfl rfl (by decide) rfl (by simp [Value.category]) rfl (by omega) rfl rfl (d_3 hn) (c_under hn hw (by omega)) ?_
  refine ev_go 1 (q := 37) (st' := .int 1 :: _ :: _) rfl ?_
  refine ev_icmp_eq (t := 43) (q := 40) rfl rfl rfl (fun zc3 => ?_) (fun c => absurd hb.2.2 c)
  refine ev_go 1 (q := 44) rfl ?_
  refine ev_get (q := 47) rfl (d_0 hn) rfl rfl rfl ?_
  refine ev_go 1 (q := 48) rfl ?_
  refine ev_virt (z' := z_Tree_takeOut) (q := 51) rfl rfl (by decide) rfl (by simp [Value.category]) rfl (by omega) rfl rfl (d_3 hn) ho ?_
  exact ev_iret rfl rfl (rfl) (rfl)
theorem D_keep (hn : 15 ≤ h.1) {a : Nat} {v : List Value} (h28 : τ 28 = nI n) (hb : n < 40) (ia : am_is (dH h τ t B P) a (.inr (2, v))) : am_m d z_Desk_keepHandle [.ref 0, .ref a] (dH h τ t B P) (some (.int (nI n))) (dH h (va_up τ 28 (nI (n + 1))) t B (va_up P 1 (va_up (P 1) n (some a)))) := by
  refine ev_go 1 (q := 1) rfl ?_
  refine ev_get (q := 4) rfl (d_0 hn) rfl rfl rfl ?_
  refine ev_tp (y := nI n) h28 ?_
  refine ev_go 3 (q := 7) rfl ?_
  refine ev_get (q := 10) rfl (d_0 hn) rfl rfl rfl ?_
  refine ev_alen (v := 40) (q := 11) rfl (d_13 hn) (by decide) rfl rfl ?_
  refine ev_icmp_ge (t := 31) (q := 14) rfl rfl rfl (fun c => absurd c (nI_ge (b := 40) (by omega) (by omega))) (fun zc1 => ?_)
  refine ev_go 1 (q := 15) rfl ?_
  refine ev_get (q := 18) rfl (d_0 hn) rfl rfl rfl ?_
  refine ev_go 2 (q := 20) rfl ?_
  refine ev_aastn (q := 21) rfl (d_13 hn) ia (by decide) rfl (show n < 40 by omega) (by decide) rfl ?_
  refine ev_hp du_13 ?_
  refine ev_go 2 (q := 23) rfl ?_
  refine ev_get (q := 26) rfl (d_0 hn) rfl rfl rfl ?_
  refine ev_tp (y := nI n) h28 ?_
  refine ev_go 2 (q := 28) (st' := .int (_ + 1) :: _ :: _) rfl ?_
  rw [nI_1]
  refine ev_put (q := 31) rfl (d_0 hn) rfl (Nat.le_of_ble_eq_true rfl) rfl rfl rfl ?_
  refine ev_hp du_0_6 ?_
  refine ev_go 1 (q := 32) rfl ?_
  exact ev_iret rfl rfl (rfl) (rfl)
theorem D_hB (hn : 15 ≤ h.1) (hd : 5 < d) (hb : ¬ (0 ≤ x ∧ x ≤ 12)) : am_m d z_Desk_handle [.ref 0, .int x] (dH h τ t B P) (some (.int (-1))) (dH h τ t B P) := by
  refine ev_go 3 (q := 4) (st' := .int 12 :: .int 0 :: _ :: _) rfl ?_
  refine ev_static (z' := z_Desk_within) (q := 7) rfl rfl (by decide) rfl rfl (by simp [Value.category]) rfl (by omega) (k_within _ _ _) ?_
  refine ev_tp (y := 0) (am_bz hb) ?_
  refine ev_if_ne (t := 12) (q := 10) rfl rfl rfl (fun c => absurd (by decide) c) (fun _ => ?_)
  refine ev_go 1 (q := 11) (st' := .int (-1) :: _) rfl ?_
  exact ev_iret rfl rfl (rfl) (rfl)
theorem D_hF (hn : 15 ≤ h.1) (hd : 5 < d) (hb : 0 ≤ x ∧ x ≤ 12) (h28 : τ 28 = nI 40) : am_m d z_Desk_handle [.ref 0, .int x] (dH h τ t B P) (some (.int (-3))) (dH h τ t B P) := by
  refine ev_go 3 (q := 4) (st' := .int 12 :: .int 0 :: _ :: _) rfl ?_
  refine ev_static (z' := z_Desk_within) (q := 7) rfl rfl (by decide) rfl rfl (by simp [Value.category]) rfl (by omega) (k_within _ _ _) ?_
  refine ev_tp (y := 1) (am_b1 hb) ?_
  refine ev_if_ne (t := 12) (q := 10) rfl rfl rfl (fun _ => ?_) (fun c => absurd c (by decide))
  refine ev_go 1 (q := 13) rfl ?_
  refine ev_get (q := 16) rfl (d_0 hn) rfl rfl rfl ?_
  refine ev_tp (y := 40) h28 ?_
  refine ev_go 1 (q := 17) rfl ?_
  refine ev_get (q := 20) rfl (d_0 hn) rfl rfl rfl ?_
  refine ev_alen (v := 40) (q := 21) rfl (d_13 hn) (by decide) rfl rfl ?_
  refine ev_icmp_lt (t := 27) (q := 24) rfl rfl rfl (fun c => absurd c (by decide)) (fun _ => ?_)
  refine ev_go 1 (q := 26) (st' := .int (-3) :: _) rfl ?_
  exact ev_iret rfl rfl (rfl) (rfl)
theorem WB_d {k : Int32} {F G : Nat → Int32} (hn : 15 ≤ h.1) : WB (dH h τ t B P) n k F G = dH (WB h n k F G) τ t B P := by
  unfold WB
  rw [dH_new hn, dH_new (by show 15 ≤ h.1 + 1; omega), dH_new (by show 15 ≤ h.1 + 1 + 1; omega)]
  rfl
theorem WB_n {k : Int32} {F G : Nat → Int32} (hn : 15 ≤ h.1) : 15 ≤ (WB h n k F G).1 := by show 15 ≤ h.1 + 1 + 1 + 1; omega
theorem D_h (hn : 15 ≤ h.1) (hd : 5 < d) (hb : 0 ≤ x ∧ x ≤ 12) (h28 : τ 28 = nI n) (hn40 : n < 40) : am_m d z_Desk_handle [.ref 0, .int x] (dH h τ t B P) (some (.int (nI n))) (dH (WB h 3 x (fun _ => 0) (fun _ => 0)) (va_up τ 28 (nI (n + 1))) t B (va_up P 1 (va_up (P 1) n (some h.1)))) := by
  have hi := k_hinit (d := d - 1) (h := dH h τ t B P) (n := 3) (k := x) (by omega)
  rw [WB_d hn] at hi
  refine ev_go 3 (q := 4) (st' := .int 12 :: .int 0 :: _ :: _) rfl ?_
  refine ev_static (z' := z_Desk_within) (q := 7) rfl rfl (by decide) rfl rfl (by simp [Value.category]) rfl (by omega) (k_within _ _ _) ?_
  refine ev_tp (y := 1) (am_b1 hb) ?_
  refine ev_if_ne (t := 12) (q := 10) rfl rfl rfl (fun _ => ?_) (fun c => absurd c (by decide))
  refine ev_go 1 (q := 13) rfl ?_
  refine ev_get (q := 16) rfl (d_0 hn) rfl rfl rfl ?_
  refine ev_tp (y := nI n) h28 ?_
  refine ev_go 1 (q := 17) rfl ?_
  refine ev_get (q := 20) rfl (d_0 hn) rfl rfl rfl ?_
  refine ev_alen (v := 40) (q := 21) rfl (d_13 hn) (by decide) rfl rfl ?_
  refine ev_icmp_lt (t := 27) (q := 24) rfl rfl rfl (fun zc1 => ?_) (fun c => absurd (nI_lt (b := 40) hn40 (by omega)) c)
  refine ev_go 1 (q := 28) rfl ?_
  refine ev_new (q := 31) rfl rfl rfl rfl rfl ?_
  refine ev_go 2 (q := 33) rfl ?_
  refine ev_init (z' := z_Handle_init) (q := 36) rfl rfl (by decide) rfl rfl (by simp [Value.category]) rfl (by omega) hi ?_
  refine ev_virt (z' := z_Desk_keepHandle) (q := 39) rfl rfl (by decide) rfl (by simp [Value.category]) rfl (by omega) rfl rfl (d_0 (WB_n hn)) (D_keep (WB_n hn) h28 hn40 (dH_ge hn WB_0)) ?_
  exact ev_iret rfl rfl (rfl) (rfl)
theorem D_bB (hn : 15 ≤ h.1) (hd : 5 < d) (h28 : τ 28 = nI n) (hn40 : n ≤ 40) {i v : Int32} (ho : ∀ m, m < n → ∃ a, P 1 m = some a) (hb : ¬ ((0 ≤ x ∧ x < nI n) ∧ (0 ≤ i ∧ i ≤ 4))) : am_m d z_Desk_bind [.ref 0, .int x, .int i, .int v] (dH h τ t B P) (some (.int (-1))) (dH h τ t B P) := by
  by_cases zx : 0 ≤ x ∧ x < nI n
  · obtain ⟨m, hm, rfl⟩ := nI_lo (by omega) zx
    obtain ⟨a, ea⟩ := ho m hm
    refine ev_go 2 (q := 2) rfl ?_
    refine ev_virt (z' := z_Desk_handleOf) (q := 5) rfl rfl (by decide) rfl (by simp [Value.category]) rfl (by omega) rfl rfl (d_0 hn) (D_hof hn h28 hn40 hm ea) ?_
    refine ev_go 2 (q := 9) rfl ?_
    refine ev_go 1 (q := 12) rfl ?_
    refine ev_go 3 (q := 15) (st' := .int 4 :: .int 0 :: _ :: _) rfl ?_
    refine ev_static (z' := z_Desk_within) (q := 18) rfl rfl (by decide) rfl rfl (by simp [Value.category]) rfl (by omega) (k_within _ _ _) ?_
    refine ev_tp (y := 0) (am_bz (fun q => hb ⟨zx, q⟩)) ?_
    refine ev_if_ne (t := 23) (q := 21) rfl rfl rfl (fun c => absurd (by decide) c) (fun _ => ?_)
    refine ev_go 1 (q := 22) (st' := .int (-1) :: _) rfl ?_
    exact ev_iret rfl rfl (rfl) (rfl)
  · refine ev_go 2 (q := 2) rfl ?_
    refine ev_virt (z' := z_Desk_handleOf) (q := 5) rfl rfl (by decide) rfl (by simp [Value.category]) rfl (by omega) rfl rfl (d_0 hn) (D_hofN hn h28 hn40 zx) ?_
    refine ev_go 2 (q := 9) rfl ?_
    refine ev_go 1 (q := 21) rfl ?_
    refine ev_go 1 (q := 22) (st' := .int (-1) :: _) rfl ?_
    exact ev_iret rfl rfl (rfl) (rfl)
theorem D_bS (hn : 15 ≤ h.1) (hd : 5 < d) (h28 : τ 28 = nI n) (hn40 : n ≤ 40) {a b c m i : Nat} {kk v : Int32} {F G : Nat → Int32} (hm : m < n) (hi : i < 5) (ea : P 1 m = some a) (ga : 15 ≤ a ∧ 15 ≤ b ∧ 15 ≤ c) (i0 : am_is h a (hd_c kk b c)) (i1 : am_is h b (am_za 5 F)) (i2 : am_is h c (am_ia 5 G)) (hs : ¬ F i = 0) : am_m d z_Desk_bind [.ref 0, .int (nI m), .int (nI i), .int v] (dH h τ t B P) (some (.int (-2))) (dH h τ t B P) := by
  refine ev_go 2 (q := 2) rfl ?_
  refine ev_virt (z' := z_Desk_handleOf) (q := 5) rfl rfl (by decide) rfl (by simp [Value.category]) rfl (by omega) rfl rfl (d_0 hn) (D_hof hn h28 hn40 hm ea) ?_
  refine ev_go 2 (q := 9) rfl ?_
  refine ev_go 1 (q := 12) rfl ?_
  refine ev_go 3 (q := 15) (st' := .int 4 :: .int 0 :: _ :: _) rfl ?_
  refine ev_static (z' := z_Desk_within) (q := 18) rfl rfl (by decide) rfl rfl (by simp [Value.category]) rfl (by omega) (k_within _ _ _) ?_
  refine ev_tp (y := 1) (am_b1 ⟨nI_le (a := 0) (by omega) (by omega), nI_le (b := 4) (by omega) (by omega)⟩) ?_
  refine ev_if_ne (t := 23) (q := 21) rfl rfl rfl (fun _ => ?_) (fun c => absurd c (by decide))
  refine ev_go 2 (q := 26) rfl ?_
  refine ev_virt (z' := z_Handle_isBound) (q := 29) rfl rfl (by decide) rfl (by simp [Value.category]) rfl (by omega) rfl rfl (dH_ge ga.1 i0) (k_isB hi (dH_ge ga.1 i0) (dH_ge ga.2.1 i1)) ?_
  refine ev_tp (y := 1) (am_b1 hs) ?_
  refine ev_if_eq (t := 35) (q := 32) rfl rfl rfl (fun c => absurd c (by decide)) (fun _ => ?_)
  refine ev_go 1 (q := 34) (st' := .int (-2) :: _) rfl ?_
  exact ev_iret rfl rfl (rfl) (rfl)
theorem D_bF (hn : 15 ≤ h.1) (hd : 5 < d) (h28 : τ 28 = nI n) (hn40 : n ≤ 40) {a b c m i : Nat} {kk v : Int32} {F G : Nat → Int32} (hm : m < n) (hi : i < 5) (ea : P 1 m = some a) (ga : 15 ≤ a ∧ 15 ≤ b ∧ 15 ≤ c) (i0 : am_is h a (hd_c kk b c)) (i1 : am_is h b (am_za 5 F)) (i2 : am_is h c (am_ia 5 G)) (hs : F i = 0) (hf : n = 40) : am_m d z_Desk_bind [.ref 0, .int (nI m), .int (nI i), .int v] (dH h τ t B P) (some (.int (-3))) (dH h τ t B P) := by
  refine ev_go 2 (q := 2) rfl ?_
  refine ev_virt (z' := z_Desk_handleOf) (q := 5) rfl rfl (by decide) rfl (by simp [Value.category]) rfl (by omega) rfl rfl (d_0 hn) (D_hof hn h28 hn40 hm ea) ?_
  refine ev_go 2 (q := 9) rfl ?_
  refine ev_go 1 (q := 12) rfl ?_
  refine ev_go 3 (q := 15) (st' := .int 4 :: .int 0 :: _ :: _) rfl ?_
  refine ev_static (z' := z_Desk_within) (q := 18) rfl rfl (by decide) rfl rfl (by simp [Value.category]) rfl (by omega) (k_within _ _ _) ?_
  refine ev_tp (y := 1) (am_b1 ⟨nI_le (a := 0) (by omega) (by omega), nI_le (b := 4) (by omega) (by omega)⟩) ?_
  refine ev_if_ne (t := 23) (q := 21) rfl rfl rfl (fun _ => ?_) (fun c => absurd c (by decide))
  refine ev_go 2 (q := 26) rfl ?_
  refine ev_virt (z' := z_Handle_isBound) (q := 29) rfl rfl (by decide) rfl (by simp [Value.category]) rfl (by omega) rfl rfl (dH_ge ga.1 i0) (k_isB hi (dH_ge ga.1 i0) (dH_ge ga.2.1 i1)) ?_
  refine ev_tp (y := 0) (am_bz (fun q => q hs)) ?_
  refine ev_if_eq (t := 35) (q := 32) rfl rfl rfl (fun _ => ?_) (fun c => absurd (by decide) c)
  refine ev_go 1 (q := 36) rfl ?_
  refine ev_get (q := 39) rfl (d_0 hn) rfl rfl rfl ?_
  refine ev_tp (y := 40) (by rw [h28, hf]; rfl) ?_
  refine ev_go 1 (q := 40) rfl ?_
  refine ev_get (q := 43) rfl (d_0 hn) rfl rfl rfl ?_
  refine ev_alen (v := 40) (q := 44) rfl (d_13 hn) (by decide) rfl rfl ?_
  refine ev_icmp_lt (t := 50) (q := 47) rfl rfl rfl (fun c => absurd c (by decide)) (fun _ => ?_)
  refine ev_go 1 (q := 49) (st' := .int (-3) :: _) rfl ?_
  exact ev_iret rfl rfl (rfl) (rfl)
theorem D_b (hn : 15 ≤ h.1) (hd : 5 < d) (h28 : τ 28 = nI n) (hn40 : n ≤ 40) {a b c m i : Nat} {kk v : Int32} {F G : Nat → Int32} (hm : m < n) (hi : i < 5) (ea : P 1 m = some a) (ga : 15 ≤ a ∧ 15 ≤ b ∧ 15 ≤ c) (i0 : am_is h a (hd_c kk b c)) (i1 : am_is h b (am_za 5 F)) (i2 : am_is h c (am_ia 5 G)) (hs : F i = 0) (hf : n < 40) : am_m d z_Desk_bind [.ref 0, .int (nI m), .int (nI i), .int v] (dH h τ t B P) (some (.int (nI n))) (dH (WB h 3 kk (sp_it (wb_s i v F G) 0 5 (fun _ => 0, fun _ => 0)).1 (sp_it (wb_s i v F G) 0 5 (fun _ => 0, fun _ => 0)).2) (va_up τ 28 (nI (n + 1))) t B (va_up P 1 (va_up (P 1) n (some h.1)))) := by
  have hi9 := k_withB (d := d - 1) (h := dH h τ t B P) (v := v) (by omega) hi (dH_ge ga.1 i0) (dH_ge ga.2.1 i1) (dH_ge ga.2.2 i2)
  rw [WB_d hn] at hi9
  refine ev_go 2 (q := 2) rfl ?_
  refine ev_virt (z' := z_Desk_handleOf) (q := 5) rfl rfl (by decide) rfl (by simp [Value.category]) rfl (by omega) rfl rfl (d_0 hn) (D_hof hn h28 hn40 hm ea) ?_
  refine ev_go 2 (q := 9) rfl ?_
  refine ev_go 1 (q := 12) rfl ?_
  refine ev_go 3 (q := 15) (st' := .int 4 :: .int 0 :: _ :: _) rfl ?_
  refine ev_static (z' := z_Desk_within) (q := 18) rfl rfl (by decide) rfl rfl (by simp [Value.category]) rfl (by omega) (k_within _ _ _) ?_
  refine ev_tp (y := 1) (am_b1 ⟨nI_le (a := 0) (by omega) (by omega), nI_le (b := 4) (by omega) (by omega)⟩) ?_
  refine ev_if_ne (t := 23) (q := 21) rfl rfl rfl (fun _ => ?_) (fun c => absurd c (by decide))
  refine ev_go 2 (q := 26) rfl ?_
  refine ev_virt (z' := z_Handle_isBound) (q := 29) rfl rfl (by decide) rfl (by simp [Value.category]) rfl (by omega) rfl rfl (dH_ge ga.1 i0) (k_isB hi (dH_ge ga.1 i0) (dH_ge ga.2.1 i1)) ?_
  refine ev_tp (y := 0) (am_bz (fun q => q hs)) ?_
  refine ev_if_eq (t := 35) (q := 32) rfl rfl rfl (fun _ => ?_) (fun c => absurd (by decide) c)
  refine ev_go 1 (q := 36) rfl ?_
  refine ev_get (q := 39) rfl (d_0 hn) rfl rfl rfl ?_
  refine ev_tp (y := nI n) h28 ?_
  refine ev_go 1 (q := 40) rfl ?_
  refine ev_get (q := 43) rfl (d_0 hn) rfl rfl rfl ?_
  refine ev_alen (v := 40) (q := 44) rfl (d_13 hn) (by decide) rfl rfl ?_
  refine ev_icmp_lt (t := 50) (q := 47) rfl rfl rfl (fun zc1 => ?_) (fun c => absurd (nI_lt (b := 40) hf (by omega)) c)
  refine ev_go 4 (q := 55) rfl ?_
  refine ev_virt (z' := z_Handle_withBound) (q := 58) rfl rfl (by decide) rfl (by simp [Value.category]) rfl (by omega) rfl rfl (dH_ge ga.1 i0) hi9 ?_
  refine ev_virt (z' := z_Desk_keepHandle) (q := 61) rfl rfl (by decide) rfl (by simp [Value.category]) rfl (by omega) rfl rfl (d_0 (WB_n hn)) (D_keep (WB_n hn) h28 hf (dH_ge hn WB_0)) ?_
  exact ev_iret rfl rfl (rfl) (rfl)
theorem D_smB (hn : 15 ≤ h.1) (hd : 5 < d) (h28 : τ 28 = nI n) (hn40 : n ≤ 40) (ho : ∀ m, m < n → ∃ a, P 1 m = some a) (hb : ¬ ((0 ≤ x ∧ x < nI n) ∧ (0 ≤ y ∧ y < nI n))) : am_m d z_Desk_same [.ref 0, .int x, .int y] (dH h τ t B P) (some (.int (-1))) (dH h τ t B P) := by
  by_cases zx : 0 ≤ x ∧ x < nI n
  · obtain ⟨m, hm, rfl⟩ := nI_lo (by omega) zx
    obtain ⟨a, ea⟩ := ho m hm
    refine ev_go 2 (q := 2) rfl ?_
    refine ev_virt (z' := z_Desk_handleOf) (q := 5) rfl rfl (by decide) rfl (by simp [Value.category]) rfl (by omega) rfl rfl (d_0 hn) (D_hof hn h28 hn40 hm ea) ?_
    refine ev_go 3 (q := 8) rfl ?_
    refine ev_virt (z' := z_Desk_handleOf) (q := 11) rfl rfl (by decide) rfl (by simp [Value.category]) rfl (by omega) rfl rfl (d_0 hn) (D_hofN hn h28 hn40 (fun q => hb ⟨zx, q⟩)) ?_
    refine ev_go 2 (q := 14) rfl ?_
    refine ev_go 1 (q := 17) rfl ?_
    refine ev_go 1 (q := 19) rfl ?_
    refine ev_go 1 (q := 22) rfl ?_
    refine ev_go 1 (q := 23) (st' := .int (-1) :: _) rfl ?_
    exact ev_iret rfl rfl (rfl) (rfl)
  · by_cases zy : 0 ≤ y ∧ y < nI n
    · obtain ⟨m, hm, rfl⟩ := nI_lo (by omega) zy
      obtain ⟨a, ea⟩ := ho m hm
      refine ev_go 2 (q := 2) rfl ?_
      refine ev_virt (z' := z_Desk_handleOf) (q := 5) rfl rfl (by decide) rfl (by simp [Value.category]) rfl (by omega) rfl rfl (d_0 hn) (D_hofN hn h28 hn40 zx) ?_
      refine ev_go 3 (q := 8) rfl ?_
      refine ev_virt (z' := z_Desk_handleOf) (q := 11) rfl rfl (by decide) rfl (by simp [Value.category]) rfl (by omega) rfl rfl (d_0 hn) (D_hof hn h28 hn40 hm ea) ?_
      refine ev_go 2 (q := 14) rfl ?_
      refine ev_go 1 (q := 22) rfl ?_
      refine ev_go 1 (q := 23) (st' := .int (-1) :: _) rfl ?_
      exact ev_iret rfl rfl (rfl) (rfl)
    · refine ev_go 2 (q := 2) rfl ?_
      refine ev_virt (z' := z_Desk_handleOf) (q := 5) rfl rfl (by decide) rfl (by simp [Value.category]) rfl (by omega) rfl rfl (d_0 hn) (D_hofN hn h28 hn40 zx) ?_
      refine ev_go 3 (q := 8) rfl ?_
      refine ev_virt (z' := z_Desk_handleOf) (q := 11) rfl rfl (by decide) rfl (by simp [Value.category]) rfl (by omega) rfl rfl (d_0 hn) (D_hofN hn h28 hn40 zy) ?_
      refine ev_go 2 (q := 14) rfl ?_
      refine ev_go 1 (q := 22) rfl ?_
      refine ev_go 1 (q := 23) (st' := .int (-1) :: _) rfl ?_
      exact ev_iret rfl rfl (rfl) (rfl)
theorem D_sm (hn : 15 ≤ h.1) (hd : 5 < d) (h28 : τ 28 = nI n) (hn40 : n ≤ 40) {m m2 a a2 : Nat} {v : List Value} (hm : m < n) (hm2 : m2 < n) (ea : P 1 m = some a) (ea2 : P 1 m2 = some a2) (ia : am_is (dH h τ t B P) a (.inr (2, v))) {p : Prop} (hl : am_m (d - 1) z_Handle_isLike [.ref a, .ref a2] (dH h τ t B P) (some (.int (cb p))) (dH h τ t B P)) : am_m d z_Desk_same [.ref 0, .int (nI m), .int (nI m2)] (dH h τ t B P) (some (.int (cb p))) (dH h τ t B P) := by
  refine ev_go 2 (q := 2) rfl ?_
  refine ev_virt (z' := z_Desk_handleOf) (q := 5) rfl rfl (by decide) rfl (by simp [Value.category]) rfl (by omega) rfl rfl (d_0 hn) (D_hof hn h28 hn40 hm ea) ?_
  refine ev_go 3 (q := 8) rfl ?_
  refine ev_virt (z' := z_Desk_handleOf) (q := 11) rfl rfl (by decide) rfl (by simp [Value.category]) rfl (by omega) rfl rfl (d_0 hn) (D_hof hn h28 hn40 hm2 ea2) ?_
  refine ev_go 2 (q := 14) rfl ?_
  refine ev_go 1 (q := 17) rfl ?_
  refine ev_go 1 (q := 19) rfl ?_
  refine ev_go 1 (q := 24) rfl ?_
  refine ev_go 2 (q := 27) rfl ?_
  refine ev_virt (z' := z_Handle_isLike) (q := 30) rfl rfl (by decide) rfl (by simp [Value.category]) rfl (by omega) rfl rfl ia hl ?_
  refine ev_if_eq (t := 37) (q := 33) rfl rfl rfl (fun zc1 => ?_) (fun zc1 => ?_)
  · refine ev_go 1 (q := 38) (st' := .int 0 :: _) rfl ?_
    exact ev_iret rfl rfl (by first | exact (cb_z (cb_0.mp zc1)).symm | exact (cb_1 (cb_n.mp zc1)).symm) (rfl)
  · refine ev_go 2 (q := 38) (st' := .int 1 :: _) rfl ?_
    exact ev_iret rfl rfl (by first | exact (cb_z (cb_0.mp zc1)).symm | exact (cb_1 (cb_n.mp zc1)).symm) (rfl)
end F4
