/-! the class: its calls of macros, runs, cloth -/
section F5
variable {d n k : Nat} {h h' H : am_H} {res : Option Value} {τ τ2 : Nat → Int32} {t t2 : Int64} {B B2 : Nat → Nat → Int32} {P : Nat → Nat → Option Nat} {TH : Nat → Prop} {PA : Nat → Int32} {HC : Nat → Nat} {R C : Nat} {x y : Int32}
theorem mm_k {k n m x : Int32} (hb : mm_ok k n m x) : k = 0 ∨ k = 1 ∨ k = 2 ∨ k = 3 := by
  have e0 : (0 : Int32).toInt = 0 := by decide
  have e3 : (3 : Int32).toInt = 3 := by decide
  have g1 := Int32.le_iff_toInt_le.mp hb.1.1
  have g2 := Int32.le_iff_toInt_le.mp hb.1.2
  have g3 : k.toInt = 0 ∨ k.toInt = 1 ∨ k.toInt = 2 ∨ k.toInt = 3 := by omega
  rcases g3 with e | e | e | e
  · exact Or.inl (Int32.toInt_inj.mp (e.trans (by decide)))
  · exact Or.inr (Or.inl (Int32.toInt_inj.mp (e.trans (by decide))))
  · exact Or.inr (Or.inr (Or.inl (Int32.toInt_inj.mp (e.trans (by decide)))))
  · exact Or.inr (Or.inr (Or.inr (Int32.toInt_inj.mp (e.trans (by decide)))))
theorem t_mac1 (hn : 15 ≤ h.1) (hd : 5 < d) {k1 k2 k3 k4 : Int32} (K : ∀ y : Int32, y = cb (mm_ok k1 k2 k3 k4) → am_ev d z_Desk_macro (94, [some (.ref 0), some (.int k1), some (.int k2), some (.int k3), some (.int k4), some (.int y)], [], dH h τ t B P) res H) : am_m d z_Desk_macro [.ref 0, .int k1, .int k2, .int k3, .int k4] (dH h τ t B P) res H := by
  by_cases z0 : 0 ≤ k1 ∧ k1 ≤ 3
  · have hk : k1 = 0 ∨ k1 = 1 ∨ k1 = 2 ∨ k1 = 3 := by
      by_cases z : mm_ok k1 0 0 0
      · exact mm_k z
      · exact absurd ⟨z0, fun _ => ⟨by decide, by decide⟩, fun _ => ⟨⟨by decide, by decide⟩, ⟨by decide, by decide⟩, by decide, by decide⟩⟩ z
    rcases hk with rfl | rfl | rfl | rfl
    · refine ev_go 5 (q := 94) rfl ?_
      exact K _ (cb_1 ⟨by decide, fun z => absurd z (by decide), fun z => absurd z (by decide)⟩).symm
    · refine ev_go 5 (q := 42) (st' := .int 9 :: .int 0 :: _ :: _) rfl ?_
      refine ev_static (z' := z_Desk_within) (q := 45) rfl rfl (by decide) rfl rfl (by simp [Value.category]) rfl (by omega) (k_within _ _ _) ?_
      refine ev_go 2 (q := 94) rfl ?_
      refine K _ ?_
      by_cases z : 0 ≤ k2 ∧ k2 ≤ 9
      · rw [am_b1 z]; exact (cb_1 ⟨by decide, fun _ => z, fun z => absurd z (by decide)⟩).symm
      · rw [am_bz z]; exact (cb_z (fun q => z (q.2.1 rfl))).symm
    · refine ev_go 5 (q := 54) (st' := .int 9 :: .int 0 :: _ :: _) rfl ?_
      refine ev_static (z' := z_Desk_within) (q := 57) rfl rfl (by decide) rfl rfl (by simp [Value.category]) rfl (by omega) (k_within _ _ _) ?_
      refine ev_if_eq (t := 85) (q := 60) rfl rfl rfl (fun zc1 => ?_) (fun zc1 => ?_)
      · refine ev_go 3 (q := 94) rfl ?_
        exact K _ (cb_z (fun q => am_b0.mp zc1 (q.2.2 rfl).1)).symm
      · refine ev_go 3 (q := 64) (st' := .int 9 :: .int 0 :: _ :: _) rfl ?_
        refine ev_static (z' := z_Desk_within) (q := 67) rfl rfl (by decide) rfl rfl (by simp [Value.category]) rfl (by omega) (k_within _ _ _) ?_
        refine ev_if_eq (t := 85) (q := 70) rfl rfl rfl (fun zc2 => ?_) (fun zc2 => ?_)
        · refine ev_go 3 (q := 94) rfl ?_
          exact K _ (cb_z (fun q => am_b0.mp zc2 (q.2.2 rfl).2.1)).symm
        · refine ev_go 3 (q := 75) (st' := .int 9 :: .int 0 :: _ :: _) rfl ?_
          refine ev_static (z' := z_Desk_within) (q := 78) rfl rfl (by decide) rfl rfl (by simp [Value.category]) rfl (by omega) (k_within _ _ _) ?_
          refine ev_if_eq (t := 85) (q := 81) rfl rfl rfl (fun zc3 => ?_) (fun zc3 => ?_)
          · refine ev_go 3 (q := 94) rfl ?_
            exact K _ (cb_z (fun q => am_b0.mp zc3 (q.2.2 rfl).2.2)).symm
          · refine ev_go 4 (q := 94) rfl ?_
            exact K _ (cb_1 ⟨by decide, fun z => absurd z (by decide), fun _ => ⟨am_bn.mp zc1, am_bn.mp zc2, am_bn.mp zc3⟩⟩).symm
    · refine ev_go 5 (q := 94) rfl ?_
      exact K _ (cb_1 ⟨by decide, fun z => absurd z (by decide), fun z => absurd z (by decide)⟩).symm
  · refine ev_go 1 (q := 1) rfl ?_
    refine ev_tsd rfl (sw_out (n := 3) (by decide) z0) rfl ?_
    refine ev_go 2 (q := 94) rfl ?_
    exact K _ (cb_z (fun q => z0 q.1)).symm
theorem D_mB (hn : 15 ≤ h.1) (hd : 5 < d) {k1 k2 k3 k4 : Int32} (hb : ¬ mm_ok k1 k2 k3 k4) : am_m d z_Desk_macro [.ref 0, .int k1, .int k2, .int k3, .int k4] (dH h τ t B P) (some (.int (-1))) (dH h τ t B P) := by
  refine t_mac1 hn hd (fun y ey => ?_)
  rw [cb_z hb] at ey
  subst ey
  refine ev_go 1 (q := 96) rfl ?_
  refine ev_if_ne (t := 101) (q := 99) rfl rfl rfl (fun c => absurd (by decide) c) (fun _ => ?_)
  refine ev_go 1 (q := 100) (st' := .int (-1) :: _) rfl ?_
  exact ev_iret rfl rfl (rfl) (rfl)
theorem D_mF (hn : 15 ≤ h.1) (hd : 5 < d) {k1 k2 k3 k4 : Int32} (hb : mm_ok k1 k2 k3 k4) (h29 : τ 29 = nI 20) : am_m d z_Desk_macro [.ref 0, .int k1, .int k2, .int k3, .int k4] (dH h τ t B P) (some (.int (-3))) (dH h τ t B P) := by
  refine t_mac1 hn hd (fun y ey => ?_)
  rw [cb_1 hb] at ey
  subst ey
  refine ev_go 1 (q := 96) rfl ?_
  refine ev_if_ne (t := 101) (q := 99) rfl rfl rfl (fun _ => ?_) (fun c => absurd c (by decide))
  refine ev_go 1 (q := 102) rfl ?_
  refine ev_get (q := 105) rfl (d_0 hn) rfl rfl rfl ?_
  refine ev_tp (y := 20) h29 ?_
  refine ev_go 1 (q := 106) rfl ?_
  refine ev_get (q := 109) rfl (d_0 hn) rfl rfl rfl ?_
  refine ev_alen (v := 20) (q := 110) rfl (d_14 hn) (by decide) rfl rfl ?_
  refine ev_icmp_lt (t := 116) (q := 113) rfl rfl rfl (fun c => absurd c (by decide)) (fun _ => ?_)
  refine ev_go 1 (q := 115) (st' := .int (-3) :: _) rfl ?_
  exact ev_iret rfl rfl (rfl) (rfl)
theorem WM_d {c : am_C} {f : Nat → Option Nat} (hn : 15 ≤ h.1) : WM (dH h τ t B P) n c f = dH (WM h n c f) τ t B P := by
  unfold WM
  rw [dH_new hn, dH_new (by show 15 ≤ h.1 + 1; omega)]
theorem WM_n {c : am_C} {f : Nat → Option Nat} (hn : 15 ≤ h.1) : 15 ≤ (WM h n c f).1 := by show 15 ≤ h.1 + 1 + 1; omega
theorem WM_0 {c : am_C} {f : Nat → Option Nat} : am_is (WM h n c f) h.1 c := am_is.made.new
theorem WM_1 {c : am_C} {f : Nat → Option Nat} : am_is (WM h n c f) (h.1 + 1) (pa_c f) := am_is.made (h := am_new h n c)
theorem WM_o {c x : am_C} {f : Nat → Option Nat} {a : Nat} (q : am_is h a x) : am_is (WM h n c f) a x := q.new.new
theorem D_m (hn : 15 ≤ h.1) (hd : 5 < d) {k1 k2 k3 k4 : Int32} (hb : mm_ok k1 k2 k3 k4) {q : Nat} (h29 : τ 29 = nI q) (hq : q < 20) : am_m d z_Desk_macro [.ref 0, .int k1, .int k2, .int k3, .int k4] (dH h τ t B P) (some (.int (nI q))) (dH (WM h 6 (mc_c k1 k3 k4 k2 0 (h.1 + 1)) (fun _ => none)) (va_up τ 29 (nI (q + 1))) t B (va_up P 2 (va_up (P 2) q (some h.1)))) := by
  refine t_mac1 hn hd (fun y ey => ?_)
  rw [cb_1 hb] at ey
  subst ey
  have mi := k_minit (d := d - 1) (h := dH h τ t B P) (n := 6) (k1 := k1) (k2 := k2) (k3 := k3) (k4 := k4) (by omega)
  rw [WM_d hn] at mi
  refine ev_go 1 (q := 96) rfl ?_
  refine ev_if_ne (t := 101) (q := 99) rfl rfl rfl (fun _ => ?_) (fun c => absurd c (by decide))
  refine ev_go 1 (q := 102) rfl ?_
  refine ev_get (q := 105) rfl (d_0 hn) rfl rfl rfl ?_
  refine ev_tp (y := nI q) h29 ?_
  refine ev_go 1 (q := 106) rfl ?_
  refine ev_get (q := 109) rfl (d_0 hn) rfl rfl rfl ?_
  refine ev_alen (v := 20) (q := 110) rfl (d_14 hn) (by decide) rfl rfl ?_
  refine ev_icmp_lt (t := 116) (q := 113) rfl rfl rfl (fun zc1 => ?_) (fun c => absurd (nI_lt (b := 20) hq (by omega)) c)
  refine ev_go 1 (q := 117) rfl ?_
  refine ev_get (q := 120) rfl (d_0 hn) rfl rfl rfl ?_
  refine ev_go 1 (q := 121) rfl ?_
  refine ev_get (q := 124) rfl (d_0 hn) rfl rfl rfl ?_
  refine ev_tp (y := nI q) h29 ?_
  refine ev_new (q := 127) rfl rfl rfl rfl rfl ?_
  refine ev_go 5 (q := 133) rfl ?_
  refine ev_init (z' := z_Macro_init) (q := 136) rfl rfl (by decide) rfl rfl (by simp [Value.category]) rfl (by omega) mi ?_
  refine ev_aastn (q := 137) rfl (d_14 (WM_n hn)) (dH_ge hn WM_0) (by decide) rfl hq (by decide) rfl ?_
  refine ev_hp du_14 ?_
  refine ev_go 2 (q := 139) rfl ?_
  refine ev_get (q := 142) rfl (d_0 (WM_n hn)) rfl rfl rfl ?_
  refine ev_tp (y := nI q) h29 ?_
  refine ev_go 2 (q := 144) (st' := .int (_ + 1) :: _ :: _) rfl ?_
  rw [nI_1]
  refine ev_put (q := 147) rfl (d_0 (WM_n hn)) rfl (Nat.le_of_ble_eq_true rfl) rfl rfl rfl ?_
  refine ev_hp du_0_7 ?_
  refine ev_go 1 (q := 148) rfl ?_
  refine ev_get (q := 151) rfl (d_0 (WM_n hn)) rfl rfl rfl ?_
  refine ev_go 2 (q := 153) (st' := .int (_ - 1) :: _) rfl ?_
  exact ev_iret rfl rfl (by rw [show va_up τ 29 (nI (q + 1)) 29 = nI (q + 1) from va_up_self _ _ _]; exact pk_sub (a := q + 1) (b := 1) (by omega)) (rfl)
theorem D_tB (hn : 15 ≤ h.1) (hd : 5 < d) {q : Nat} (h29 : τ 29 = nI q) (hq : q ≤ 20) {v : Int32} (ho : ∀ m, m < q → ∃ a kk y1 y2 y3 y4 y5, P 2 m = some a ∧ 15 ≤ a ∧ am_is h a (.inr (4, [.int kk, y1, y2, y3, y4, y5])) ∧ (x = nI m → ¬ (kk = 1 ∧ (0 ≤ v ∧ v ≤ 9)))) : am_m d z_Desk_times [.ref 0, .int x, .int v] (dH h τ t B P) (some (.int (-1))) (dH h τ t B P) := by
  by_cases zx : 0 ≤ x ∧ x < nI q
  · obtain ⟨m, hm, rfl⟩ := nI_lo (by omega) zx
    obtain ⟨a, kk, y1, y2, y3, y4, y5, ea, ga, ia, hb⟩ := ho m hm
    refine ev_go 2 (q := 2) rfl ?_
    refine ev_virt (z' := z_Desk_macroOf) (q := 5) rfl rfl (by decide) rfl (by simp [Value.category]) rfl (by omega) rfl rfl (d_0 hn) (D_mof hn h29 hq hm ea) ?_
    refine ev_go 2 (q := 7) rfl ?_
    refine ev_go 1 (q := 10) rfl ?_
    refine ev_go 1 (q := 11) rfl ?_
    refine ev_get (q := 14) rfl (dH_ge ga ia) rfl rfl rfl ?_
    refine ev_go 1 (q := 15) (st' := .int 1 :: _ :: _) rfl ?_
    refine ev_icmp_ne (t := 28) (q := 18) rfl rfl rfl (fun zc1 => ?_) (fun zc1 => ?_)
    · refine ev_go 1 (q := 29) (st' := .int (-1) :: _) rfl ?_
      exact ev_iret rfl rfl (rfl) (rfl)
    · refine ev_go 3 (q := 22) (st' := .int 9 :: .int 0 :: _ :: _) rfl ?_
      refine ev_static (z' := z_Desk_within) (q := 25) rfl rfl (by decide) rfl rfl (by simp [Value.category]) rfl (by omega) (k_within _ _ _) ?_
      refine ev_if_ne (t := 30) (q := 28) rfl rfl rfl (fun zc2 => ?_) (fun zc2 => ?_)
      · exact absurd ⟨zc1, am_bn.mp zc2⟩ (hb rfl)
      · refine ev_go 1 (q := 29) (st' := .int (-1) :: _) rfl ?_
        exact ev_iret rfl rfl (rfl) (rfl)
  · refine ev_go 2 (q := 2) rfl ?_
    refine ev_virt (z' := z_Desk_macroOf) (q := 5) rfl rfl (by decide) rfl (by simp [Value.category]) rfl (by omega) rfl rfl (d_0 hn) (D_mofN hn h29 hq zx) ?_
    refine ev_go 2 (q := 7) rfl ?_
    refine ev_go 1 (q := 28) rfl ?_
    refine ev_go 1 (q := 29) (st' := .int (-1) :: _) rfl ?_
    exact ev_iret rfl rfl (rfl) (rfl)
theorem D_t (hn : 15 ≤ h.1) (hd : 5 < d) {q : Nat} (h29 : τ 29 = nI q) (hq : q ≤ 20) {a b m pc : Nat} {k1 k2 k3 k4 : Int32} {f : Nat → Option Nat} (hm : m < q) (ea : P 2 m = some a) (ga : 15 ≤ a ∧ 15 ≤ b) (i0 : am_is h a (mc_c k1 k2 k3 k4 (nI pc) b)) (i1 : am_is h b (pa_c f)) (hpc : pc ≤ 8) {v : Int32} (hk : k1 = 1) (hv : 0 ≤ v ∧ v ≤ 9) : am_m d z_Desk_times [.ref 0, .int (nI m), .int v] (dH h τ t B P) (some (.int k4)) (dH (am_up h a (mc_c k1 k2 k3 v (nI pc) b)) τ t B P) := by
  refine ev_go 2 (q := 2) rfl ?_
  refine ev_virt (z' := z_Desk_macroOf) (q := 5) rfl rfl (by decide) rfl (by simp [Value.category]) rfl (by omega) rfl rfl (d_0 hn) (D_mof hn h29 hq hm ea) ?_
  refine ev_go 2 (q := 7) rfl ?_
  refine ev_go 1 (q := 10) rfl ?_
  refine ev_go 1 (q := 11) rfl ?_
  refine ev_get (q := 14) rfl (dH_ge ga.1 i0) rfl rfl rfl ?_
  refine ev_go 1 (q := 15) (st' := .int 1 :: _ :: _) rfl ?_
  refine ev_icmp_ne (t := 28) (q := 18) rfl rfl rfl (fun c => absurd hk c) (fun zc1 => ?_)
  refine ev_go 3 (q := 22) (st' := .int 9 :: .int 0 :: _ :: _) rfl ?_
  refine ev_static (z' := z_Desk_within) (q := 25) rfl rfl (by decide) rfl rfl (by simp [Value.category]) rfl (by omega) (k_within _ _ _) ?_
  refine ev_tp (y := 1) (am_b1 hv) ?_
  refine ev_if_ne (t := 30) (q := 28) rfl rfl rfl (fun _ => ?_) (fun c => absurd c (by decide))
  refine ev_go 1 (q := 31) rfl ?_
  refine ev_get (q := 34) rfl (dH_ge ga.1 i0) rfl rfl rfl ?_
  refine ev_go 3 (q := 38) rfl ?_
  refine ev_put (q := 41) rfl (dH_ge ga.1 i0) rfl (Nat.le_of_ble_eq_true rfl) rfl rfl rfl ?_
  rw [dH_far ga.1]
  refine ev_go 1 (q := 43) rfl ?_
  exact ev_iret rfl rfl (rfl) (rfl)
theorem D_pB (hn : 15 ≤ h.1) (hd : 5 < d) {q : Nat} (h29 : τ 29 = nI q) (hq : q ≤ 20) (h28 : τ 28 = nI n) (hn40 : n ≤ 40) {g0 g1 g2 g3 : Int32} (ho : ∀ m, m < n → ∃ a, P 1 m = some a) (hm : ∀ m, m < q → ∃ a, P 2 m = some a) (hb : ¬ ((0 ≤ x ∧ x < nI q) ∧ (0 ≤ y ∧ y < nI n))) : am_m d z_Desk_part [.ref 0, .int x, .int y, .int g0, .int g1, .int g2, .int g3] (dH h τ t B P) (some (.int (-1))) (dH h τ t B P) := by
  by_cases zx : 0 ≤ x ∧ x < nI q
  · obtain ⟨m, hm1, rfl⟩ := nI_lo (by omega) zx
    obtain ⟨a, ea⟩ := hm m hm1
    refine ev_go 2 (q := 2) rfl ?_
    refine ev_virt (z' := z_Desk_macroOf) (q := 5) rfl rfl (by decide) rfl (by simp [Value.category]) rfl (by omega) rfl rfl (d_0 hn) (D_mof hn h29 hq hm1 ea) ?_
    refine ev_go 3 (q := 9) rfl ?_
    refine ev_virt (z' := z_Desk_handleOf) (q := 12) rfl rfl (by decide) rfl (by simp [Value.category]) rfl (by omega) rfl rfl (d_0 hn) (D_hofN hn h28 hn40 (fun q => hb ⟨zx, q⟩)) ?_
    refine ev_go 2 (q := 16) rfl ?_
    refine ev_go 1 (q := 19) rfl ?_
    refine ev_go 1 (q := 21) rfl ?_
    refine ev_go 1 (q := 24) rfl ?_
    refine ev_go 1 (q := 25) (st' := .int (-1) :: _) rfl ?_
    exact ev_iret rfl rfl (rfl) (rfl)
  · by_cases zy : 0 ≤ y ∧ y < nI n
    · obtain ⟨m, hm1, rfl⟩ := nI_lo (by omega) zy
      obtain ⟨a, ea⟩ := ho m hm1
      refine ev_go 2 (q := 2) rfl ?_
      refine ev_virt (z' := z_Desk_macroOf) (q := 5) rfl rfl (by decide) rfl (by simp [Value.category]) rfl (by omega) rfl rfl (d_0 hn) (D_mofN hn h29 hq zx) ?_
      refine ev_go 3 (q := 9) rfl ?_
      refine ev_virt (z' := z_Desk_handleOf) (q := 12) rfl rfl (by decide) rfl (by simp [Value.category]) rfl (by omega) rfl rfl (d_0 hn) (D_hof hn h28 hn40 hm1 ea) ?_
      refine ev_go 2 (q := 16) rfl ?_
      refine ev_go 1 (q := 24) rfl ?_
      refine ev_go 1 (q := 25) (st' := .int (-1) :: _) rfl ?_
      exact ev_iret rfl rfl (rfl) (rfl)
    · refine ev_go 2 (q := 2) rfl ?_
      refine ev_virt (z' := z_Desk_macroOf) (q := 5) rfl rfl (by decide) rfl (by simp [Value.category]) rfl (by omega) rfl rfl (d_0 hn) (D_mofN hn h29 hq zx) ?_
      refine ev_go 3 (q := 9) rfl ?_
      refine ev_virt (z' := z_Desk_handleOf) (q := 12) rfl rfl (by decide) rfl (by simp [Value.category]) rfl (by omega) rfl rfl (d_0 hn) (D_hofN hn h28 hn40 zy) ?_
      refine ev_go 2 (q := 16) rfl ?_
      refine ev_go 1 (q := 24) rfl ?_
      refine ev_go 1 (q := 25) (st' := .int (-1) :: _) rfl ?_
      exact ev_iret rfl rfl (rfl) (rfl)
theorem D_pF (hn : 15 ≤ h.1) (hd : 5 < d) {q : Nat} (h29 : τ 29 = nI q) (hq : q ≤ 20) (h28 : τ 28 = nI n) (hn40 : n ≤ 40) {a b m pc : Nat} {k1 k2 k3 k4 : Int32} {f : Nat → Option Nat} (hm : m < q) (ea : P 2 m = some a) (ga : 15 ≤ a ∧ 15 ≤ b) (i0 : am_is h a (mc_c k1 k2 k3 k4 (nI pc) b)) (i1 : am_is h b (pa_c f)) (hpc : pc ≤ 8) {hh ah : Nat} (hhn : hh < n) (eh : P 1 hh = some ah) {g0 g1 g2 g3 : Int32} (hf : pc = 8) : am_m d z_Desk_part [.ref 0, .int (nI m), .int (nI hh), .int g0, .int g1, .int g2, .int g3] (dH h τ t B P) (some (.int (-3))) (dH h τ t B P) := by
  refine ev_go 2 (q := 2) rfl ?_
  refine ev_virt (z' := z_Desk_macroOf) (q := 5) rfl rfl (by decide) rfl (by simp [Value.category]) rfl (by omega) rfl rfl (d_0 hn) (D_mof hn h29 hq hm ea) ?_
  refine ev_go 3 (q := 9) rfl ?_
  refine ev_virt (z' := z_Desk_handleOf) (q := 12) rfl rfl (by decide) rfl (by simp [Value.category]) rfl (by omega) rfl rfl (d_0 hn) (D_hof hn h28 hn40 hhn eh) ?_
  refine ev_go 2 (q := 16) rfl ?_
  refine ev_go 1 (q := 19) rfl ?_
  refine ev_go 1 (q := 21) rfl ?_
  refine ev_go 1 (q := 26) rfl ?_
  refine ev_go 1 (q := 28) rfl ?_
  refine ev_virt (z' := z_Macro_isFull) (q := 31) rfl rfl (by decide) rfl (by simp [Value.category]) rfl (by omega) rfl rfl (dH_ge ga.1 i0) (k_mfull hpc (dH_ge ga.1 i0) (dH_ge ga.2 i1)) ?_
  refine ev_tp (y := 1) (am_b1 hf) ?_
  refine ev_if_eq (t := 37) (q := 34) rfl rfl rfl (fun c => absurd c (by decide)) (fun _ => ?_)
  refine ev_go 1 (q := 36) (st' := .int (-3) :: _) rfl ?_
  exact ev_iret rfl rfl (rfl) (rfl)
def gv4 (g0 g1 g2 g3 : Int32) : Nat → Int32 := va_up (va_up (va_up (va_up (fun _ => 0) 0 g0) 1 g1) 2 g2) 3 g3
abbrev pt_0 : am_C := .inr (7, [.null, .null, .null])
theorem k_pinit {H0 : am_H} {x1 x2 x3 : Value} (q1 : x1 = .null ∨ ∃ a v, x1 = .ref a ∧ am_is H0 a (.inr (2, v))) (q2 : x2 = .null ∨ ∃ a v, x2 = .ref a ∧ am_is H0 a (.inr (4, v))) (q3 : x3 = .null ∨ ∃ a f, x3 = .ref a ∧ am_is H0 a (am_ia 4 f)) : True := trivial
end F5
