/-! the class: its calls that read -/
section F3
variable {d n k : Nat} {h h' H : am_H} {res : Option Value} {τ : Nat → Int32} {t : Int64} {B : Nat → Nat → Int32} {P : Nat → Nat → Option Nat} {TH : Nat → Prop} {PA : Nat → Int32} {HC : Nat → Nat} {R C : Nat} {x y : Int32}
theorem D_atB (hn : 15 ≤ h.1) (hd : 5 < d) (hR : 1 ≤ R ∧ R ≤ 10) (hC : 1 ≤ C ∧ C ≤ 10) (h0 : τ 0 = nI R) (h1 : τ 1 = nI C) {r c l : Int32} (hb : ¬ (cl_kn R C r c ∧ (-1 ≤ l ∧ l ≤ 2))) : am_m d z_Desk_at [.ref 0, .int r, .int c, .int l] (dH h τ t B P) (some (.int (-1))) (dH h τ t B P) := by
  refine ev_go 1 (q := 1) rfl ?_
  refine ev_get (q := 4) rfl (d_0 hn) rfl rfl rfl ?_
  refine ev_go 2 (q := 6) rfl ?_
  refine ev_virt (z' := z_Cloth_isKnot) (q := 9) rfl rfl (by decide) rfl (by simp [Value.category]) rfl (by omega) rfl rfl (d_1 hn) (c_kn hn h0 h1) ?_
  refine ev_if_eq (t := 21) (q := 12) rfl rfl rfl (fun zc1 => ?_) (fun zc1 => ?_)
  · refine ev_go 1 (q := 22) (st' := .int (-1) :: _) rfl ?_
    exact ev_iret rfl rfl (rfl) (rfl)
  · refine ev_go 3 (q := 15) (st' := .int 2 :: .int (-1) :: _ :: _) rfl ?_
    refine ev_static (z' := z_Desk_within) (q := 18) rfl rfl (by decide) rfl rfl (by simp [Value.category]) rfl (by omega) (k_within _ _ _) ?_
    refine ev_if_ne (t := 23) (q := 21) rfl rfl rfl (fun zc2 => ?_) (fun zc2 => ?_)
    · exact absurd ⟨am_bn.mp zc1, am_bn.mp zc2⟩ hb
    · refine ev_go 1 (q := 22) (st' := .int (-1) :: _) rfl ?_
      exact ev_iret rfl rfl (rfl) (rfl)
theorem D_atS (hn : 15 ≤ h.1) (hd : 5 < d) (hR : 1 ≤ R ∧ R ≤ 10) (hC : 1 ≤ C ∧ C ≤ 10) (h0 : τ 0 = nI R) (h1 : τ 1 = nI C) {r c : Nat} (hr : r < R) (hc : c < C) : am_m d z_Desk_at [.ref 0, .int (nI r), .int (nI c), .int (-1)] (dH h τ t B P) (some (.int (sp_seen (τ 3) (fun l => B 0 (cx r c l))))) (dH h τ t B P) := by
  refine ev_go 1 (q := 1) rfl ?_
  refine ev_get (q := 4) rfl (d_0 hn) rfl rfl rfl ?_
  refine ev_go 2 (q := 6) rfl ?_
  refine ev_virt (z' := z_Cloth_isKnot) (q := 9) rfl rfl (by decide) rfl (by simp [Value.category]) rfl (by omega) rfl rfl (d_1 hn) (c_kn hn h0 h1) ?_
  refine ev_tp (y := 1) (am_b1 (kn_in hR.2 hC.2 hr hc)) ?_
  refine ev_if_eq (t := 21) (q := 12) rfl rfl rfl (fun c => absurd c (by decide)) (fun _ => ?_)
  refine ev_go 3 (q := 15) (st' := .int 2 :: .int (-1) :: _ :: _) rfl ?_
  refine ev_static (z' := z_Desk_within) (q := 18) rfl rfl (by decide) rfl rfl (by simp [Value.category]) rfl (by omega) (k_within _ _ _) ?_
  refine ev_tp (y := 1) (am_b1 (by decide)) ?_
  refine ev_if_ne (t := 23) (q := 21) rfl rfl rfl (fun _ => ?_) (fun c => absurd c (by decide))
  refine ev_go 2 (q := 25) (st' := .int (-1) :: _ :: _) rfl ?_
  refine ev_icmp_ne (t := 40) (q := 28) rfl rfl rfl (fun c => absurd rfl c) (fun zc1 => ?_)
  refine ev_go 1 (q := 29) rfl ?_
  refine ev_get (q := 32) rfl (d_0 hn) rfl rfl rfl ?_
  refine ev_go 2 (q := 34) rfl ?_
  refine ev_virt (z' := z_Cloth_seenAt) (q := 37) rfl rfl (by decide) rfl (by simp [Value.category]) rfl (by omega) rfl rfl (d_1 hn) (c_seen hn (by omega) hR.2 hC.2 h0 h1 hr hc) ?_
  refine ev_go 1 (q := 50) rfl ?_
  exact ev_iret rfl rfl (rfl) (rfl)
theorem nI_m1 {l : Nat} (hl : l < 3) : ¬ nI l = -1 := fun q => by
  have := congrArg Int32.toInt q
  rw [nI_toInt (by omega), show (-1 : Int32).toInt = -1 by decide] at this
  omega
theorem nI_bt {l : Nat} (hl : l < 3) : (-1 : Int32) ≤ nI l ∧ nI l ≤ 2 := ⟨Int32.le_trans (by decide : (-1 : Int32) ≤ 0) (nI_le (a := 0) (by omega) (by omega)), nI_le (b := 2) (by omega) (by omega)⟩
theorem D_atW (hn : 15 ≤ h.1) (hd : 5 < d) (hR : 1 ≤ R ∧ R ≤ 10) (hC : 1 ≤ C ∧ C ≤ 10) (h0 : τ 0 = nI R) (h1 : τ 1 = nI C) {r c l : Nat} (hr : r < R) (hc : c < C) (hl : l < 3) : am_m d z_Desk_at [.ref 0, .int (nI r), .int (nI c), .int (nI l)] (dH h τ t B P) (some (.int (B 0 (cx r c l)))) (dH h τ t B P) := by
  refine ev_go 1 (q := 1) rfl ?_
  refine ev_get (q := 4) rfl (d_0 hn) rfl rfl rfl ?_
  refine ev_go 2 (q := 6) rfl ?_
  refine ev_virt (z' := z_Cloth_isKnot) (q := 9) rfl rfl (by decide) rfl (by simp [Value.category]) rfl (by omega) rfl rfl (d_1 hn) (c_kn hn h0 h1) ?_
  refine ev_tp (y := 1) (am_b1 (kn_in hR.2 hC.2 hr hc)) ?_
  refine ev_if_eq (t := 21) (q := 12) rfl rfl rfl (fun c => absurd c (by decide)) (fun _ => ?_)
  refine ev_go 3 (q := 15) (st' := .int 2 :: .int (-1) :: _ :: _) rfl ?_
  refine ev_static (z' := z_Desk_within) (q := 18) rfl rfl (by decide) rfl rfl (by simp [Value.category]) rfl (by omega) (k_within _ _ _) ?_
  refine ev_tp (y := 1) (am_b1 (nI_bt hl)) ?_
  refine ev_if_ne (t := 23) (q := 21) rfl rfl rfl (fun _ => ?_) (fun c => absurd c (by decide))
  refine ev_go 2 (q := 25) (st' := .int (-1) :: _ :: _) rfl ?_
  refine ev_icmp_ne (t := 40) (q := 28) rfl rfl rfl (fun zc1 => ?_) (fun c => absurd c (nI_m1 hl))
  refine ev_go 1 (q := 41) rfl ?_
  refine ev_get (q := 44) rfl (d_0 hn) rfl rfl rfl ?_
  refine ev_go 3 (q := 47) rfl ?_
  refine ev_virt (z' := z_Cloth_woolAt) (q := 50) rfl rfl (by decide) rfl (by simp [Value.category]) rfl (by omega) rfl rfl (d_1 hn) (c_wool hn (by omega) hR.2 hC.2 h0 h1 hr hc hl) ?_
  exact ev_iret rfl rfl (rfl) (rfl)
theorem D_isB (hn : 15 ≤ h.1) (hd : 5 < d) (hR : 1 ≤ R ∧ R ≤ 10) (hC : 1 ≤ C ∧ C ≤ 10) (h0 : τ 0 = nI R) (h1 : τ 1 = nI C) {r c : Int32} (hb : ¬ cl_kn R C r c) : am_m d z_Desk_isSelected [.ref 0, .int r, .int c] (dH h τ t B P) (some (.int (-1))) (dH h τ t B P) := by
  refine ev_go 1 (q := 1) rfl ?_
  refine ev_get (q := 4) rfl (d_0 hn) rfl rfl rfl ?_
  refine ev_go 2 (q := 6) rfl ?_
  refine ev_virt (z' := z_Cloth_isKnot) (q := 9) rfl rfl (by decide) rfl (by simp [Value.category]) rfl (by omega) rfl rfl (d_1 hn) (c_kn hn h0 h1) ?_
  refine ev_tp (y := 0) (am_bz hb) ?_
  refine ev_if_ne (t := 14) (q := 12) rfl rfl rfl (fun c => absurd (by decide) c) (fun _ => ?_)
  refine ev_go 1 (q := 13) (st' := .int (-1) :: _) rfl ?_
  exact ev_iret rfl rfl (rfl) (rfl)
theorem D_is (hn : 15 ≤ h.1) (hd : 5 < d) (hR : 1 ≤ R ∧ R ≤ 10) (hC : 1 ≤ C ∧ C ≤ 10) (h0 : τ 0 = nI R) (h1 : τ 1 = nI C) {r c : Nat} (hr : r < R) (hc : c < C) : am_m d z_Desk_isSelected [.ref 0, .int (nI r), .int (nI c)] (dH h τ t B P) (some (.int (am_b (B 0 (cx r c 3) = 1)))) (dH h τ t B P) := by
  refine ev_go 1 (q := 1) rfl ?_
  refine ev_get (q := 4) rfl (d_0 hn) rfl rfl rfl ?_
  refine ev_go 2 (q := 6) rfl ?_
  refine ev_virt (z' := z_Cloth_isKnot) (q := 9) rfl rfl (by decide) rfl (by simp [Value.category]) rfl (by omega) rfl rfl (d_1 hn) (c_kn hn h0 h1) ?_
  refine ev_tp (y := 1) (am_b1 (kn_in hR.2 hC.2 hr hc)) ?_
  refine ev_if_ne (t := 14) (q := 12) rfl rfl rfl (fun _ => ?_) (fun c => absurd c (by decide))
  refine ev_go 1 (q := 15) rfl ?_
  refine ev_get (q := 18) rfl (d_0 hn) rfl rfl rfl ?_
  refine ev_go 2 (q := 20) rfl ?_
  refine ev_virt (z' := z_Cloth_isChosen) (q := 23) rfl rfl (by decide) rfl (by simp [Value.category]) rfl (by omega) rfl rfl (d_1 hn) (c_chosen hn (by omega) hR.2 hC.2 h0 h1 hr hc) ?_
  refine ev_if_eq (t := 30) (q := 26) rfl rfl rfl (fun zc1 => ?_) (fun zc1 => ?_)
  · refine ev_go 1 (q := 31) (st' := .int 0 :: _) rfl ?_
    exact ev_iret rfl rfl (by first | exact (am_bz (am_b0.mp zc1)).symm | exact (am_b1 (am_bn.mp zc1)).symm) (rfl)
  · refine ev_go 2 (q := 31) (st' := .int 1 :: _) rfl ?_
    exact ev_iret rfl rfl (by first | exact (am_bz (am_b0.mp zc1)).symm | exact (am_b1 (am_bn.mp zc1)).symm) (rfl)
theorem D_about0 (hn : 15 ≤ h.1) (hd : 5 < d)  : am_m d z_Desk_about [.ref 0, .int 0] (dH h τ t B P) (some (.int (τ 0))) (dH h τ t B P) := by
  refine ev_go 3 (q := 53) rfl ?_
  refine ev_get (q := 56) rfl (d_0 hn) rfl rfl rfl ?_
  refine ev_get (q := 59) rfl (d_1 hn) rfl rfl rfl ?_
  exact ev_iret rfl rfl (rfl) (rfl)
theorem D_about1 (hn : 15 ≤ h.1) (hd : 5 < d)  : am_m d z_Desk_about [.ref 0, .int 1] (dH h τ t B P) (some (.int (τ 1))) (dH h τ t B P) := by
  refine ev_go 3 (q := 61) rfl ?_
  refine ev_get (q := 64) rfl (d_0 hn) rfl rfl rfl ?_
  refine ev_get (q := 67) rfl (d_1 hn) rfl rfl rfl ?_
  exact ev_iret rfl rfl (rfl) (rfl)
theorem D_about2 (hn : 15 ≤ h.1) (hd : 5 < d)  : am_m d z_Desk_about [.ref 0, .int 2] (dH h τ t B P) (some (.int (τ 2))) (dH h τ t B P) := by
  refine ev_go 3 (q := 69) rfl ?_
  refine ev_get (q := 72) rfl (d_0 hn) rfl rfl rfl ?_
  refine ev_get (q := 75) rfl (d_1 hn) rfl rfl rfl ?_
  exact ev_iret rfl rfl (rfl) (rfl)
theorem D_about3 (hn : 15 ≤ h.1) (hd : 5 < d)  : am_m d z_Desk_about [.ref 0, .int 3] (dH h τ t B P) (some (.int (τ 3))) (dH h τ t B P) := by
  refine ev_go 3 (q := 77) rfl ?_
  refine ev_get (q := 80) rfl (d_0 hn) rfl rfl rfl ?_
  refine ev_get (q := 83) rfl (d_1 hn) rfl rfl rfl ?_
  exact ev_iret rfl rfl (rfl) (rfl)
theorem D_about4 (hn : 15 ≤ h.1) (hd : 5 < d) (hR : 1 ≤ R ∧ R ≤ 10) (hC : 1 ≤ C ∧ C ≤ 10) (h0 : τ 0 = nI R) (h1 : τ 1 = nI C) : am_m d z_Desk_about [.ref 0, .int 4] (dH h τ t B P) (some (.int (sp_sel (B 0) R C))) (dH h τ t B P) := by
  refine ev_go 3 (q := 85) rfl ?_
  refine ev_get (q := 88) rfl (d_0 hn) rfl rfl rfl ?_
  refine ev_virt (z' := z_Cloth_chosenCount) (q := 91) rfl rfl (by decide) rfl (by simp [Value.category]) rfl (by omega) rfl rfl (d_1 hn) (c_count hn hR.2 hC.2 h0 h1) ?_
  exact ev_iret rfl rfl (rfl) (rfl)
theorem D_about5 (hn : 15 ≤ h.1) (hd : 5 < d)  : am_m d z_Desk_about [.ref 0, .int 5] (dH h τ t B P) (some (.int (τ 28))) (dH h τ t B P) := by
  refine ev_go 3 (q := 93) rfl ?_
  refine ev_get (q := 96) rfl (d_0 hn) rfl rfl rfl ?_
  exact ev_iret rfl rfl (rfl) (rfl)
theorem D_about6 (hn : 15 ≤ h.1) (hd : 5 < d)  : am_m d z_Desk_about [.ref 0, .int 6] (dH h τ t B P) (some (.int (τ 29))) (dH h τ t B P) := by
  refine ev_go 3 (q := 98) rfl ?_
  refine ev_get (q := 101) rfl (d_0 hn) rfl rfl rfl ?_
  exact ev_iret rfl rfl (rfl) (rfl)
theorem D_about7 (hn : 15 ≤ h.1) (hd : 5 < d) (hw : TW h P TH PA HC) : am_m d z_Desk_about [.ref 0, .int 7] (dH h τ t B P) (some (.int (sp_it (fun k (y : Int32) => y + cb (TH k)) 0 60 0))) (dH h τ t B P) := by
  refine ev_go 3 (q := 103) rfl ?_
  refine ev_get (q := 106) rfl (d_0 hn) rfl rfl rfl ?_
  refine ev_virt (z' := z_Tree_thereCount) (q := 109) rfl rfl (by decide) rfl (by simp [Value.category]) rfl (by omega) rfl rfl (d_3 hn) (c_there hn hw (by omega)) ?_
  exact ev_iret rfl rfl (rfl) (rfl)
theorem D_about8 (hn : 15 ≤ h.1) (hd : 5 < d)  : am_m d z_Desk_about [.ref 0, .int 8] (dH h τ t B P) (some (.int (τ 5))) (dH h τ t B P) := by
  refine ev_go 3 (q := 111) rfl ?_
  refine ev_get (q := 114) rfl (d_0 hn) rfl rfl rfl ?_
  refine ev_get (q := 117) rfl (d_3 hn) rfl rfl rfl ?_
  exact ev_iret rfl rfl (rfl) (rfl)
theorem D_aboutB (hn : 15 ≤ h.1) (hb : ¬ (0 ≤ x ∧ x ≤ nI 8)) : am_m d z_Desk_about [.ref 0, .int x] (dH h τ t B P) (some (.int (-1))) (dH h τ t B P) := by
  refine ev_go 1 (q := 1) rfl ?_
  refine ev_tsd rfl (sw_out (by decide) hb) rfl ?_
  refine ev_go 1 (q := 119) (st' := .int (-1) :: _) rfl ?_
  exact ev_iret rfl rfl (rfl) (rfl)
theorem D_usedB (hn : 15 ≤ h.1) (hd : 5 < d) (hb : ¬ (0 ≤ x ∧ x ≤ 9)) : am_m d z_Desk_used [.ref 0, .int x] (dH h τ t B P) (some (.int (-1))) (dH h τ t B P) := by
  refine ev_go 1 (q := 1) rfl ?_
  refine ev_static (z' := z_Desk_isWool) (q := 4) rfl rfl (by decide) rfl rfl (by simp [Value.category]) rfl (by omega) (k_isWool _) ?_
  refine ev_tp (y := 0) (am_bz hb) ?_
  refine ev_if_eq (t := 18) (q := 7) rfl rfl rfl (fun _ => ?_) (fun c => absurd (by decide) c)
  refine ev_go 1 (q := 19) (st' := .int (-1) :: _) rfl ?_
  exact ev_iret rfl rfl (rfl) (rfl)
theorem D_used (hn : 15 ≤ h.1) (hd : 5 < d) (hR : 1 ≤ R ∧ R ≤ 10) (hC : 1 ≤ C ∧ C ≤ 10) (h0 : τ 0 = nI R) (h1 : τ 1 = nI C) (hb : 0 ≤ x ∧ x ≤ 9) : am_m d z_Desk_used [.ref 0, .int x] (dH h τ t B P) (some (.int (sp_seenC (τ 3) (B 0) x R C))) (dH h τ t B P) := by
  refine ev_go 1 (q := 1) rfl ?_
  refine ev_static (z' := z_Desk_isWool) (q := 4) rfl rfl (by decide) rfl rfl (by simp [Value.category]) rfl (by omega) (k_isWool _) ?_
  refine ev_tp (y := 1) (am_b1 hb) ?_
  refine ev_if_eq (t := 18) (q := 7) rfl rfl rfl (fun c => absurd c (by decide)) (fun _ => ?_)
  refine ev_go 1 (q := 8) rfl ?_
  refine ev_get (q := 11) rfl (d_0 hn) rfl rfl rfl ?_
  refine ev_go 1 (q := 12) rfl ?_
  refine ev_virt (z' := z_Cloth_seenCount) (q := 15) rfl rfl (by decide) rfl (by simp [Value.category]) rfl (by omega) rfl rfl (d_1 hn) (c_seenC hn (by omega) hR.2 hC.2 h0 h1) ?_
  refine ev_go 1 (q := 19) rfl ?_
  exact ev_iret rfl rfl (rfl) (rfl)
theorem D_flB (hn : 15 ≤ h.1) (hd : 5 < d) {n i wh : Int32} (hb : ¬ (0 ≤ n ∧ (0 ≤ wh ∧ wh ≤ 3))) : am_m d z_Desk_floats [.ref 0, .int n, .int i, .int wh] (dH h τ t B P) (some (.int (-1))) (dH h τ t B P) := by
  refine ev_go 1 (q := 1) rfl ?_
  refine ev_if_lt (t := 13) (q := 4) rfl rfl rfl (fun zc1 => ?_) (fun zc1 => ?_)
  · refine ev_go 1 (q := 14) (st' := .int (-1) :: _) rfl ?_
    exact ev_iret rfl rfl (rfl) (rfl)
  · refine ev_go 3 (q := 7) (st' := .int 3 :: .int 0 :: _ :: _) rfl ?_
    refine ev_static (z' := z_Desk_within) (q := 10) rfl rfl (by decide) rfl rfl (by simp [Value.category]) rfl (by omega) (k_within _ _ _) ?_
    refine ev_if_ne (t := 15) (q := 13) rfl rfl rfl (fun zc2 => ?_) (fun zc2 => ?_)
    · exact absurd ⟨Int32.not_lt.mp zc1, am_bn.mp zc2⟩ hb
    · refine ev_go 1 (q := 14) (st' := .int (-1) :: _) rfl ?_
      exact ev_iret rfl rfl (rfl) (rfl)
theorem D_fl (hn : 15 ≤ h.1) (hd : 5 < d) (hR : 1 ≤ R ∧ R ≤ 10) (hC : 1 ≤ C ∧ C ≤ 10) (h0 : τ 0 = nI R) (h1 : τ 1 = nI C) {n i wh : Int32} (hb : 0 ≤ n ∧ (0 ≤ wh ∧ wh ≤ 3)) : am_m d z_Desk_floats [.ref 0, .int n, .int i, .int wh] (dH h τ t B P) (some (.int (sp_ff (sp_row (τ 3) (B 0)) C n i wh R 0 0))) (dH h τ t B P) := by
  refine ev_go 1 (q := 1) rfl ?_
  refine ev_if_lt (t := 13) (q := 4) rfl rfl rfl (fun c => absurd c (Int32.not_lt.mpr hb.1)) (fun zc1 => ?_)
  refine ev_go 3 (q := 7) (st' := .int 3 :: .int 0 :: _ :: _) rfl ?_
  refine ev_static (z' := z_Desk_within) (q := 10) rfl rfl (by decide) rfl rfl (by simp [Value.category]) rfl (by omega) (k_within _ _ _) ?_
  refine ev_tp (y := 1) (am_b1 hb.2) ?_
  refine ev_if_ne (t := 15) (q := 13) rfl rfl rfl (fun _ => ?_) (fun c => absurd c (by decide))
  refine ev_go 1 (q := 16) rfl ?_
  refine ev_get (q := 19) rfl (d_0 hn) rfl rfl rfl ?_
  refine ev_go 3 (q := 22) rfl ?_
  refine ev_virt (z' := z_Cloth_findFloat) (q := 25) rfl rfl (by decide) rfl (by simp [Value.category]) rfl (by omega) rfl rfl (d_1 hn) (c_float hn (by omega) hR.2 hC.2 h0 h1 hb.2) ?_
  exact ev_iret rfl rfl (rfl) (rfl)
theorem D_out0 (hn : 15 ≤ h.1) : am_m d z_Desk_outcome [.ref 0, .int 0] (dH h τ t B P) (some (.int (τ 6))) (dH h τ t B P) := by
  refine ev_go 3 (q := 37) rfl ?_
  refine ev_get (q := 40) rfl (d_0 hn) rfl rfl rfl ?_
  refine ev_get (q := 43) rfl (d_5 hn) rfl rfl rfl ?_
  exact ev_iret rfl rfl (rfl) (rfl)
theorem D_out1 (hn : 15 ≤ h.1) : am_m d z_Desk_outcome [.ref 0, .int 1] (dH h τ t B P) (some (.int (τ 7))) (dH h τ t B P) := by
  refine ev_go 3 (q := 45) rfl ?_
  refine ev_get (q := 48) rfl (d_0 hn) rfl rfl rfl ?_
  refine ev_get (q := 51) rfl (d_5 hn) rfl rfl rfl ?_
  exact ev_iret rfl rfl (rfl) (rfl)
theorem D_out2 (hn : 15 ≤ h.1) : am_m d z_Desk_outcome [.ref 0, .int 2] (dH h τ t B P) (some (.int (τ 8))) (dH h τ t B P) := by
  refine ev_go 3 (q := 53) rfl ?_
  refine ev_get (q := 56) rfl (d_0 hn) rfl rfl rfl ?_
  refine ev_get (q := 59) rfl (d_5 hn) rfl rfl rfl ?_
  exact ev_iret rfl rfl (rfl) (rfl)
theorem D_out3 (hn : 15 ≤ h.1) : am_m d z_Desk_outcome [.ref 0, .int 3] (dH h τ t B P) (some (.int (τ 9))) (dH h τ t B P) := by
  refine ev_go 3 (q := 61) rfl ?_
  refine ev_get (q := 64) rfl (d_0 hn) rfl rfl rfl ?_
  refine ev_get (q := 67) rfl (d_5 hn) rfl rfl rfl ?_
  exact ev_iret rfl rfl (rfl) (rfl)
theorem D_out4 (hn : 15 ≤ h.1) : am_m d z_Desk_outcome [.ref 0, .int 4] (dH h τ t B P) (some (.int (τ 10))) (dH h τ t B P) := by
  refine ev_go 3 (q := 69) rfl ?_
  refine ev_get (q := 72) rfl (d_0 hn) rfl rfl rfl ?_
  refine ev_get (q := 75) rfl (d_5 hn) rfl rfl rfl ?_
  exact ev_iret rfl rfl (rfl) (rfl)
theorem D_outB (hn : 15 ≤ h.1) (hb : ¬ (0 ≤ x ∧ x ≤ nI 4)) : am_m d z_Desk_outcome [.ref 0, .int x] (dH h τ t B P) (some (.int (-1))) (dH h τ t B P) := by
  refine ev_go 1 (q := 1) rfl ?_
  refine ev_tsd rfl (sw_out (by decide) hb) rfl ?_
  refine ev_go 1 (q := 77) (st' := .int (-1) :: _) rfl ?_
  exact ev_iret rfl rfl (rfl) (rfl)
theorem D_node (hn : 15 ≤ h.1) (hd : 5 < d)  : am_m d z_Desk_node [.ref 0] (dH h τ t B P) (some (.int (τ 4))) (dH h τ t B P) := by
  refine ev_go 1 (q := 1) rfl ?_
  refine ev_get (q := 4) rfl (d_0 hn) rfl rfl rfl ?_
  refine ev_get (q := 7) rfl (d_3 hn) rfl rfl rfl ?_
  exact ev_iret rfl rfl (rfl) (rfl)
theorem D_trace (hn : 15 ≤ h.1) (hd : 5 < d)  : am_m d z_Desk_trace [.ref 0] (dH h τ t B P) (some (.long (t))) (dH h τ t B P) := by
  refine ev_go 1 (q := 1) rfl ?_
  refine ev_get (q := 4) rfl (d_0 hn) rfl rfl rfl ?_
  refine ev_get (q := 7) rfl (d_5 hn) rfl rfl rfl ?_
  refine ev_get (q := 10) rfl (d_6 hn) rfl rfl rfl ?_
  exact ev_lret rfl rfl (rfl) (rfl)
theorem D_digest (hn : 15 ≤ h.1) (hd : 5 < d) (hR : 1 ≤ R ∧ R ≤ 10) (hC : 1 ≤ C ∧ C ≤ 10) (h0 : τ 0 = nI R) (h1 : τ 1 = nI C) : am_m d z_Desk_digest [.ref 0] (dH h τ t B P) (some (.long (sp_fp (B 0) R C (τ 2) (τ 3)))) (dH h τ t B P) := by
  refine ev_go 1 (q := 1) rfl ?_
  refine ev_get (q := 4) rfl (d_0 hn) rfl rfl rfl ?_
  refine ev_virt (z' := z_Cloth_fingerprint) (q := 7) rfl rfl (by decide) rfl (by simp [Value.category]) rfl (by omega) rfl rfl (d_1 hn) (c_fp hn (by omega) hR.2 hC.2 h0 h1) ?_
  exact ev_lret rfl rfl (rfl) (rfl)
theorem D_toldN (hn : 15 ≤ h.1) (hd : 5 < d) (hw : TW h P TH PA HC) (hno : ∀ k, k < 60 → x = nI k → ¬ TH k) : am_m d z_Desk_told [.ref 0, .int x, .int y] (dH h τ t B P) (some (.int (-1))) (dH h τ t B P) := by
  refine ev_go 1 (q := 1) rfl ?_
  refine ev_get (q := 4) rfl (d_0 hn) rfl rfl rfl ?_
  refine ev_go 1 (q := 5) rfl ?_
  refine ev_virt (z' := z_Tree_has) (q := 8) rfl rfl (by decide) rfl (by simp [Value.category]) rfl (by omega) rfl rfl (d_3 hn) (c_hasN hn hw hno (by omega)) ?_
  refine ev_tp (y := 0) rfl ?_
  refine ev_if_ne (t := 13) (q := 11) rfl rfl rfl (fun c => absurd (by decide) c) (fun _ => ?_)
  refine ev_go 1 (q := 12) (st' := .int (-1) :: _) rfl ?_
  exact ev_iret rfl rfl (rfl) (rfl)
theorem D_told0 (hn : 15 ≤ h.1) (hd : 5 < d) (hw : TW h P TH PA HC) (hk : k < 60) (ht : TH k)  : am_m d z_Desk_told [.ref 0, .int (nI k), .int 0] (dH h τ t B P) (some (.int (PA k))) (dH h τ t B P) := by
  refine ev_go 1 (q := 1) rfl ?_
  refine ev_get (q := 4) rfl (d_0 hn) rfl rfl rfl ?_
  refine ev_go 1 (q := 5) rfl ?_
  refine ev_virt (z' := z_Tree_has) (q := 8) rfl rfl (by decide) rfl (by simp [Value.category]) rfl (by omega) rfl rfl (d_3 hn) (c_hasT hn hw hk ht (by omega)) ?_
  refine ev_tp (y := 1) rfl ?_
  refine ev_if_ne (t := 13) (q := 11) rfl rfl rfl (fun _ => ?_) (fun c => absurd c (by decide))
  refine ev_go 3 (q := 49) rfl ?_
  refine ev_get (q := 52) rfl (d_0 hn) rfl rfl rfl ?_
  refine ev_go 1 (q := 53) rfl ?_
  refine ev_virt (z' := z_Tree_parentOf) (q := 56) rfl rfl (by decide) rfl (by simp [Value.category]) rfl (by omega) rfl rfl (d_3 hn) (c_paT hn hw hk ht (by omega)) ?_
  exact ev_iret rfl rfl (rfl) (rfl)
theorem D_told1 (hn : 15 ≤ h.1) (hd : 5 < d) (hw : TW h P TH PA HC) (hk : k < 60) (ht : TH k)  : am_m d z_Desk_told [.ref 0, .int (nI k), .int 1] (dH h τ t B P) (some (.int (sp_it (fun j (y : Int32) => y + cb (TH j ∧ PA j = nI k)) 0 60 0))) (dH h τ t B P) := by
  refine ev_go 1 (q := 1) rfl ?_
  refine ev_get (q := 4) rfl (d_0 hn) rfl rfl rfl ?_
  refine ev_go 1 (q := 5) rfl ?_
  refine ev_virt (z' := z_Tree_has) (q := 8) rfl rfl (by decide) rfl (by simp [Value.category]) rfl (by omega) rfl rfl (d_3 hn) (c_hasT hn hw hk ht (by omega)) ?_
  refine ev_tp (y := 1) rfl ?_
  refine ev_if_ne (t := 13) (q := 11) rfl rfl rfl (fun _ => ?_) (fun c => absurd c (by decide))
  refine ev_go 3 (q := 58) rfl ?_
  refine ev_get (q := 61) rfl (d_0 hn) rfl rfl rfl ?_
  refine ev_go 1 (q := 62) rfl ?_
  refine ev_virt (z' := z_Tree_countUnder) (q := 65) rfl rfl (by decide) rfl (by simp [Value.category]) rfl (by omega) rfl rfl (d_3 hn) (c_under hn hw (by omega)) ?_
  exact ev_iret rfl rfl (rfl) (rfl)
theorem D_told2 (hn : 15 ≤ h.1) (hd : 5 < d) (hw : TW h P TH PA HC) (hk : k < 60) (ht : TH k)  : am_m d z_Desk_told [.ref 0, .int (nI k), .int 2] (dH h τ t B P) (some (.int (hu TH PA (nI k) 60))) (dH h τ t B P) := by
  refine ev_go 1 (q := 1) rfl ?_
  refine ev_get (q := 4) rfl (d_0 hn) rfl rfl rfl ?_
  refine ev_go 1 (q := 5) rfl ?_
  refine ev_virt (z' := z_Tree_has) (q := 8) rfl rfl (by decide) rfl (by simp [Value.category]) rfl (by omega) rfl rfl (d_3 hn) (c_hasT hn hw hk ht (by omega)) ?_
  refine ev_tp (y := 1) rfl ?_
  refine ev_if_ne (t := 13) (q := 11) rfl rfl rfl (fun _ => ?_) (fun c => absurd c (by decide))
  refine ev_go 3 (q := 67) rfl ?_
  refine ev_get (q := 70) rfl (d_0 hn) rfl rfl rfl ?_
  refine ev_go 1 (q := 71) rfl ?_
  refine ev_virt (z' := z_Tree_highestUnder) (q := 74) rfl rfl (by decide) rfl (by simp [Value.category]) rfl (by omega) rfl rfl (d_3 hn) (c_highest hn hw (by omega)) ?_
  exact ev_iret rfl rfl (rfl) (rfl)
theorem D_told3 (hn : 15 ≤ h.1) (hd : 5 < d) (hw : TW h P TH PA HC) (hk : k < 60) (ht : TH k) (hc : am_m (d - 1) z_Tree_changedIn [.ref 3, .int (nI k)] (dH h τ t B P) (some (.int x)) (dH h τ t B P)) : am_m d z_Desk_told [.ref 0, .int (nI k), .int 3] (dH h τ t B P) (some (.int (x))) (dH h τ t B P) := by
  refine ev_go 1 (q := 1) rfl ?_
  refine ev_get (q := 4) rfl (d_0 hn) rfl rfl rfl ?_
  refine ev_go 1 (q := 5) rfl ?_
  refine ev_virt (z' := z_Tree_has) (q := 8) rfl rfl (by decide) rfl (by simp [Value.category]) rfl (by omega) rfl rfl (d_3 hn) (c_hasT hn hw hk ht (by omega)) ?_
  refine ev_tp (y := 1) rfl ?_
  refine ev_if_ne (t := 13) (q := 11) rfl rfl rfl (fun _ => ?_) (fun c => absurd c (by decide))
  refine ev_go 3 (q := 76) rfl ?_
  refine ev_get (q := 79) rfl (d_0 hn) rfl rfl rfl ?_
  refine ev_go 1 (q := 80) rfl ?_
  refine ev_virt (z' := z_Tree_changedIn) (q := 83) rfl rfl (by decide) rfl (by simp [Value.category]) rfl (by omega) rfl rfl (d_3 hn) hc ?_
  exact ev_iret rfl rfl (rfl) (rfl)
theorem D_told4 (hn : 15 ≤ h.1) (hd : 5 < d) (hw : TW h P TH PA HC) (hk : k < 60) (ht : TH k) (hf : WF TH PA) (t0 : TH 0) : am_m d z_Desk_told [.ref 0, .int (nI k), .int 4] (dH h τ t B P) (some (.int (nI (ct PA 120 k 0)))) (dH h τ t B P) := by
  refine ev_go 1 (q := 1) rfl ?_
  refine ev_get (q := 4) rfl (d_0 hn) rfl rfl rfl ?_
  refine ev_go 1 (q := 5) rfl ?_
  refine ev_virt (z' := z_Tree_has) (q := 8) rfl rfl (by decide) rfl (by simp [Value.category]) rfl (by omega) rfl rfl (d_3 hn) (c_hasT hn hw hk ht (by omega)) ?_
  refine ev_tp (y := 1) rfl ?_
  refine ev_if_ne (t := 13) (q := 11) rfl rfl rfl (fun _ => ?_) (fun c => absurd c (by decide))
  refine ev_go 3 (q := 85) rfl ?_
  refine ev_get (q := 88) rfl (d_0 hn) rfl rfl rfl ?_
  refine ev_go 2 (q := 90) (st' := .int 0 :: _ :: _ :: _) rfl ?_
  refine ev_virt (z' := z_Tree_stepsBetween) (q := 93) rfl rfl (by decide) rfl (by simp [Value.category]) rfl (by omega) rfl rfl (d_3 hn) (c_steps hn hw hf (by omega) (y := 0) hk (by omega) ht t0) ?_
  exact ev_iret rfl rfl (rfl) (rfl)
theorem D_toldB (hn : 15 ≤ h.1) (hd : 5 < d) (hw : TW h P TH PA HC) (hk : k < 60) (ht : TH k) (hb : ¬ (0 ≤ y ∧ y ≤ nI 4)) : am_m d z_Desk_told [.ref 0, .int (nI k), .int y] (dH h τ t B P) (some (.int (-1))) (dH h τ t B P) := by
  refine ev_go 1 (q := 1) rfl ?_
  refine ev_get (q := 4) rfl (d_0 hn) rfl rfl rfl ?_
  refine ev_go 1 (q := 5) rfl ?_
  refine ev_virt (z' := z_Tree_has) (q := 8) rfl rfl (by decide) rfl (by simp [Value.category]) rfl (by omega) rfl rfl (d_3 hn) (c_hasT hn hw hk ht (by omega)) ?_
  refine ev_tp (y := 1) rfl ?_
  refine ev_if_ne (t := 13) (q := 11) rfl rfl rfl (fun _ => ?_) (fun c => absurd c (by decide))
  refine ev_go 1 (q := 14) rfl ?_
  refine ev_tsd rfl (sw_out (by decide) hb) rfl ?_
  refine ev_go 1 (q := 95) rfl ?_
  exact ev_iret rfl rfl rfl rfl
theorem D_hof (hn : 15 ≤ h.1) {m a : Nat} (hc : τ 28 = nI n) (hb : n ≤ 40) (hm : m < n) (ea : P 1 m = some a) : am_m d z_Desk_handleOf [.ref 0, .int (nI m)] (dH h τ t B P) (some (.ref a)) (dH h τ t B P) := by
  refine ev_go 1 (q := 1) rfl ?_
  refine ev_if_lt (t := 30) (q := 4) rfl rfl rfl (fun c => absurd c (nI_nlt (b := 0) (by omega) (by omega))) (fun zc1 => ?_)
  refine ev_go 2 (q := 6) rfl ?_
  refine ev_get (q := 9) rfl (d_0 hn) rfl rfl rfl ?_
  refine ev_tp (y := nI n) hc ?_
  refine ev_icmp_ge (t := 30) (q := 12) rfl rfl rfl (fun c => absurd c (nI_ge (by omega) (by omega))) (fun zc2 => ?_)
  refine ev_go 2 (q := 14) rfl ?_
  refine ev_get (q := 17) rfl (d_0 hn) rfl rfl rfl ?_
  refine ev_alen (v := 40) (q := 18) rfl (d_13 hn) (by decide) rfl rfl ?_
  refine ev_icmp_ge (t := 30) (q := 21) rfl rfl rfl (fun c => absurd c (nI_ge (b := 40) (by omega) (by omega))) (fun zc3 => ?_)
  refine ev_go 1 (q := 22) rfl ?_
  refine ev_get (q := 25) rfl (d_0 hn) rfl rfl rfl ?_
  refine ev_go 1 (q := 26) rfl ?_
  refine ev_aaldn (q := 27) rfl (d_13 hn) (by decide) rfl (show m < 40 by omega) (by decide) rfl ?_
  rw [ea]
  refine ev_go 1 (q := 31) rfl ?_
  exact ev_aret (x := some a) (v := some a) rfl rfl rfl rfl
theorem D_hofN (hn : 15 ≤ h.1) (hc : τ 28 = nI n) (hb : n ≤ 40) (hx : ¬ (0 ≤ x ∧ x < nI n)) : am_m d z_Desk_handleOf [.ref 0, .int x] (dH h τ t B P) (some .null) (dH h τ t B P) := by
  refine ev_go 1 (q := 1) rfl ?_
  refine ev_if_lt (t := 30) (q := 4) rfl rfl rfl (fun zc1 => ?_) (fun zc1 => ?_)
  · refine ev_go 1 (q := 31) rfl ?_
    exact ev_aret (x := none) (v := none) rfl rfl rfl rfl
  · refine ev_go 2 (q := 6) rfl ?_
    refine ev_get (q := 9) rfl (d_0 hn) rfl rfl rfl ?_
    refine ev_tp (y := nI n) hc ?_
    refine ev_icmp_ge (t := 30) (q := 12) rfl rfl rfl (fun zc2 => ?_) (fun zc2 => ?_)
    · refine ev_go 1 (q := 31) rfl ?_
      exact ev_aret (x := none) (v := none) rfl rfl rfl rfl
    · exact absurd ⟨Int32.not_lt.mp zc1, Int32.not_le.mp zc2⟩ hx
theorem D_mof (hn : 15 ≤ h.1) {m a : Nat} (hc : τ 29 = nI n) (hb : n ≤ 20) (hm : m < n) (ea : P 2 m = some a) : am_m d z_Desk_macroOf [.ref 0, .int (nI m)] (dH h τ t B P) (some (.ref a)) (dH h τ t B P) := by
  refine ev_go 1 (q := 1) rfl ?_
  refine ev_if_lt (t := 30) (q := 4) rfl rfl rfl (fun c => absurd c (nI_nlt (b := 0) (by omega) (by omega))) (fun zc1 => ?_)
  refine ev_go 2 (q := 6) rfl ?_
  refine ev_get (q := 9) rfl (d_0 hn) rfl rfl rfl ?_
  refine ev_tp (y := nI n) hc ?_
  refine ev_icmp_ge (t := 30) (q := 12) rfl rfl rfl (fun c => absurd c (nI_ge (by omega) (by omega))) (fun zc2 => ?_)
  refine ev_go 2 (q := 14) rfl ?_
  refine ev_get (q := 17) rfl (d_0 hn) rfl rfl rfl ?_
  refine ev_alen (v := 20) (q := 18) rfl (d_14 hn) (by decide) rfl rfl ?_
  refine ev_icmp_ge (t := 30) (q := 21) rfl rfl rfl (fun c => absurd c (nI_ge (b := 20) (by omega) (by omega))) (fun zc3 => ?_)
  refine ev_go 1 (q := 22) rfl ?_
  refine ev_get (q := 25) rfl (d_0 hn) rfl rfl rfl ?_
  refine ev_go 1 (q := 26) rfl ?_
  refine ev_aaldn (q := 27) rfl (d_14 hn) (by decide) rfl (show m < 20 by omega) (by decide) rfl ?_
  rw [ea]
  refine ev_go 1 (q := 31) rfl ?_
  exact ev_aret (x := some a) (v := some a) rfl rfl rfl rfl
theorem D_mofN (hn : 15 ≤ h.1) (hc : τ 29 = nI n) (hb : n ≤ 20) (hx : ¬ (0 ≤ x ∧ x < nI n)) : am_m d z_Desk_macroOf [.ref 0, .int x] (dH h τ t B P) (some .null) (dH h τ t B P) := by
  refine ev_go 1 (q := 1) rfl ?_
  refine ev_if_lt (t := 30) (q := 4) rfl rfl rfl (fun zc1 => ?_) (fun zc1 => ?_)
  · refine ev_go 1 (q := 31) rfl ?_
    exact ev_aret (x := none) (v := none) rfl rfl rfl rfl
  · refine ev_go 2 (q := 6) rfl ?_
    refine ev_get (q := 9) rfl (d_0 hn) rfl rfl rfl ?_
    refine ev_tp (y := nI n) hc ?_
    refine ev_icmp_ge (t := 30) (q := 12) rfl rfl rfl (fun zc2 => ?_) (fun zc2 => ?_)
    · refine ev_go 1 (q := 31) rfl ?_
      exact ev_aret (x := none) (v := none) rfl rfl rfl rfl
    · exact absurd ⟨Int32.not_lt.mp zc1, Int32.not_le.mp zc2⟩ hx
end F3
