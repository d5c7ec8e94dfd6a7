/-! the class: a command carried out, performed -/
section D9
variable {d : Nat} {h h' H : am_H} {res : Option Value} {τ : Nat → Int32} {t : Int64} {B : Nat → Nat → Int32} {P : Nat → Nat → Option Nat} {R C u q o : Nat}
abbrev bx_τ (R C : Nat) (B : Nat → Nat → Int32) (τ : Nat → Int32) : Nat → Int32 := sp_it (fun r => sp_it (mx_g (B 0) r) 0 C) 0 R (mx_0 τ)
abbrev kb_B (R C u : Nat) (B : Nat → Nat → Int32) : Nat → Nat → Int32 := sp_it (kb_g R C u) 0 100 B
theorem bx_keep {B : Nat → Nat → Int32} {τ : Nat → Int32} {j : Nat} (hj : j < 18 ∨ 21 < j) : bx_τ R C B τ j = τ j := by
  unfold bx_τ
  rw [l_mb_far2 hj]
  unfold mx_0
  rw [va_up_ne _ _ (by omega), va_up_ne _ _ (by omega), va_up_ne _ _ (by omega), va_up_ne _ _ (by omega)]
theorem cmd_o {q o : Nat} (hq : cmd_at q o) : o = 12 ∨ o = 22 := by
  rcases hq with ⟨_, e⟩ | ⟨_, e⟩
  · exact Or.inl e
  · exact Or.inr e
theorem cv_8 {q o : Nat} {x : Int32} {τ : Nat → Int32} (hq : cmd_at q o) : cv o (va_up τ 8 x) = cv o τ := by
  funext j
  have := cmd_o hq
  exact va_up_ne _ _ (by omega)
theorem c_co0 (hn : 15 ≤ h.1) (hR : 1 ≤ R ∧ R ≤ 10) (hC : 1 ≤ C ∧ C ≤ 10) (h0 : τ 0 = nI R) (h1 : τ 1 = nI C) (h2 : τ 2 = nI u) (hu : u < 3) (hd : 2 < d) (hq : cmd_at q o) (hk : τ o = 0) (hc : am_m (d - 1) z_Cloth_paint [.ref 1, .int (τ (o + 1)), .int (τ (o + 2)), .int (τ (o + 5))] (dH h τ t B P) none H) : am_m d z_Painter_carryOut [.ref 8, .ref q] (dH h τ t B P) none H := by
  refine ev_go 1 (q := 1) rfl ?_
  refine ev_get (q := 4) rfl (d_cmd hn hq) rfl rfl rfl ?_
  refine ev_tp (y := 0) hk ?_
  refine ev_go 1 (q := 5) (st' := .int 4 :: _ :: _) rfl ?_
  refine ev_icmp_lt (t := 16) (q := 8) rfl rfl rfl (fun _ => ?_) (fun c => absurd (by decide) c)
  refine ev_go 1 (q := 17) rfl ?_
  refine ev_get (q := 20) rfl (d_cmd hn hq) rfl rfl rfl ?_
  refine ev_tp (y := 0) hk ?_
  refine ev_go 2 (q := 73) rfl ?_
  refine ev_get (q := 76) rfl (d_8 hn) rfl rfl rfl ?_
  refine ev_go 1 (q := 77) rfl ?_
  refine ev_get (q := 80) rfl (d_cmd hn hq) rfl rfl rfl ?_
  refine ev_go 1 (q := 81) rfl ?_
  refine ev_get (q := 84) rfl (d_cmd hn hq) rfl rfl rfl ?_
  refine ev_go 1 (q := 85) rfl ?_
  refine ev_get (q := 88) rfl (d_cmd hn hq) rfl rfl rfl ?_
  refine ev_virt (z' := z_Cloth_paint) (q := 91) rfl rfl (by decide) rfl (by simp [Value.category]) rfl (by omega) rfl rfl (d_1 hn) hc ?_
  refine ev_go 1 (q := 196) rfl ?_
  exact ev_vret rfl rfl (rfl)
theorem c_co1 (hn : 15 ≤ h.1) (hR : 1 ≤ R ∧ R ≤ 10) (hC : 1 ≤ C ∧ C ≤ 10) (h0 : τ 0 = nI R) (h1 : τ 1 = nI C) (h2 : τ 2 = nI u) (hu : u < 3) (hd : 2 < d) (hq : cmd_at q o) (hk : τ o = 1) (hc : am_m (d - 1) z_Painter_fill [.ref 8, .int (τ (o + 1)), .int (τ (o + 2)), .int (τ (o + 5))] (dH h τ t B P) none H) : am_m d z_Painter_carryOut [.ref 8, .ref q] (dH h τ t B P) none H := by
  refine ev_go 1 (q := 1) rfl ?_
  refine ev_get (q := 4) rfl (d_cmd hn hq) rfl rfl rfl ?_
  refine ev_tp (y := 1) hk ?_
  refine ev_go 1 (q := 5) (st' := .int 4 :: _ :: _) rfl ?_
  refine ev_icmp_lt (t := 16) (q := 8) rfl rfl rfl (fun _ => ?_) (fun c => absurd (by decide) c)
  refine ev_go 1 (q := 17) rfl ?_
  refine ev_get (q := 20) rfl (d_cmd hn hq) rfl rfl rfl ?_
  refine ev_tp (y := 1) hk ?_
  refine ev_go 3 (q := 96) rfl ?_
  refine ev_get (q := 99) rfl (d_cmd hn hq) rfl rfl rfl ?_
  refine ev_go 1 (q := 100) rfl ?_
  refine ev_get (q := 103) rfl (d_cmd hn hq) rfl rfl rfl ?_
  refine ev_go 1 (q := 104) rfl ?_
  refine ev_get (q := 107) rfl (d_cmd hn hq) rfl rfl rfl ?_
  refine ev_virt (z' := z_Painter_fill) (q := 110) rfl rfl (by decide) rfl (by simp [Value.category]) rfl (by omega) rfl rfl (d_8 hn) hc ?_
  refine ev_go 1 (q := 196) rfl ?_
  exact ev_vret rfl rfl (rfl)
theorem c_co2 (hn : 15 ≤ h.1) (hR : 1 ≤ R ∧ R ≤ 10) (hC : 1 ≤ C ∧ C ≤ 10) (h0 : τ 0 = nI R) (h1 : τ 1 = nI C) (h2 : τ 2 = nI u) (hu : u < 3) (hd : 2 < d) (hq : cmd_at q o) (hk : τ o = 2) (hc : am_m (d - 1) z_Painter_line [.ref 8, .ref q] (dH h τ t B P) none H) : am_m d z_Painter_carryOut [.ref 8, .ref q] (dH h τ t B P) none H := by
  refine ev_go 1 (q := 1) rfl ?_
  refine ev_get (q := 4) rfl (d_cmd hn hq) rfl rfl rfl ?_
  refine ev_tp (y := 2) hk ?_
  refine ev_go 1 (q := 5) (st' := .int 4 :: _ :: _) rfl ?_
  refine ev_icmp_lt (t := 16) (q := 8) rfl rfl rfl (fun _ => ?_) (fun c => absurd (by decide) c)
  refine ev_go 1 (q := 17) rfl ?_
  refine ev_get (q := 20) rfl (d_cmd hn hq) rfl rfl rfl ?_
  refine ev_tp (y := 2) hk ?_
  refine ev_go 3 (q := 115) rfl ?_
  refine ev_virt (z' := z_Painter_line) (q := 118) rfl rfl (by decide) rfl (by simp [Value.category]) rfl (by omega) rfl rfl (d_8 hn) hc ?_
  refine ev_go 1 (q := 196) rfl ?_
  exact ev_vret rfl rfl (rfl)
theorem c_co3 (hn : 15 ≤ h.1) (hR : 1 ≤ R ∧ R ≤ 10) (hC : 1 ≤ C ∧ C ≤ 10) (h0 : τ 0 = nI R) (h1 : τ 1 = nI C) (h2 : τ 2 = nI u) (hu : u < 3) (hd : 2 < d) (hq : cmd_at q o) (hk : τ o = 3) (hc : am_m (d - 1) z_Painter_stamp [.ref 8, .ref q] (dH h τ t B P) none H) : am_m d z_Painter_carryOut [.ref 8, .ref q] (dH h τ t B P) none H := by
  refine ev_go 1 (q := 1) rfl ?_
  refine ev_get (q := 4) rfl (d_cmd hn hq) rfl rfl rfl ?_
  refine ev_tp (y := 3) hk ?_
  refine ev_go 1 (q := 5) (st' := .int 4 :: _ :: _) rfl ?_
  refine ev_icmp_lt (t := 16) (q := 8) rfl rfl rfl (fun _ => ?_) (fun c => absurd (by decide) c)
  refine ev_go 1 (q := 17) rfl ?_
  refine ev_get (q := 20) rfl (d_cmd hn hq) rfl rfl rfl ?_
  refine ev_tp (y := 3) hk ?_
  refine ev_go 3 (q := 123) rfl ?_
  refine ev_virt (z' := z_Painter_stamp) (q := 126) rfl rfl (by decide) rfl (by simp [Value.category]) rfl (by omega) rfl rfl (d_8 hn) hc ?_
  refine ev_go 1 (q := 196) rfl ?_
  exact ev_vret rfl rfl (rfl)
theorem c_co4 (hn : 15 ≤ h.1) (hR : 1 ≤ R ∧ R ≤ 10) (hC : 1 ≤ C ∧ C ≤ 10) (h0 : τ 0 = nI R) (h1 : τ 1 = nI C) (h2 : τ 2 = nI u) (hu : u < 3) (hd : 2 < d) (hq : cmd_at q o) (hk : τ o = 4) (hc : am_m (d - 1) z_Painter_mirror [.ref 8, .int ((bx_τ R C B τ) (o + 1))] (dH h (bx_τ R C B τ) t (kb_B R C u B) P) none H) : am_m d z_Painter_carryOut [.ref 8, .ref q] (dH h τ t B P) none H := by
  have hk2 : bx_τ R C B τ o = 4 := (bx_keep (by have := cmd_o hq; omega)).trans hk
  refine ev_go 1 (q := 1) rfl ?_
  refine ev_get (q := 4) rfl (d_cmd hn hq) rfl rfl rfl ?_
  refine ev_tp (y := 4) hk ?_
  refine ev_go 1 (q := 5) (st' := .int 4 :: _ :: _) rfl ?_
  refine ev_icmp_lt (t := 16) (q := 8) rfl rfl rfl (fun c => absurd c (by decide)) (fun _ => ?_)
  refine ev_go 1 (q := 9) rfl ?_
  refine ev_virt (z' := z_Painter_measureBox) (q := 12) rfl rfl (by decide) rfl (by simp [Value.category]) rfl (by omega) rfl rfl (d_8 hn) (c_box hn hR hC h0 h1 (by omega)) ?_
  refine ev_go 1 (q := 13) rfl ?_
  refine ev_virt (z' := z_Painter_keepBefore) (q := 16) rfl rfl (by decide) rfl (by simp [Value.category]) rfl (by omega) rfl rfl (d_8 hn) (c_keepB (h := h) (τ := bx_τ R C B τ) hn hR hC ((bx_keep (by omega)).trans h0) ((bx_keep (by omega)).trans h1) ((bx_keep (by omega)).trans h2) hu (by omega)) ?_
  refine ev_go 1 (q := 17) rfl ?_
  refine ev_get (q := 20) rfl (d_cmd hn hq) rfl rfl rfl ?_
  refine ev_tp (y := 4) hk2 ?_
  refine ev_go 3 (q := 131) rfl ?_
  refine ev_get (q := 134) rfl (d_cmd hn hq) rfl rfl rfl ?_
  refine ev_virt (z' := z_Painter_mirror) (q := 137) rfl rfl (by decide) rfl (by simp [Value.category]) rfl (by omega) rfl rfl (d_8 hn) hc ?_
  refine ev_go 1 (q := 196) rfl ?_
  exact ev_vret rfl rfl (rfl)
theorem c_co5 (hn : 15 ≤ h.1) (hR : 1 ≤ R ∧ R ≤ 10) (hC : 1 ≤ C ∧ C ≤ 10) (h0 : τ 0 = nI R) (h1 : τ 1 = nI C) (h2 : τ 2 = nI u) (hu : u < 3) (hd : 2 < d) (hq : cmd_at q o) (hk : τ o = 5) (hc : am_m (d - 1) z_Painter_shift [.ref 8, .int ((bx_τ R C B τ) (o + 1)), .int ((bx_τ R C B τ) (o + 2))] (dH h (bx_τ R C B τ) t (kb_B R C u B) P) none H) : am_m d z_Painter_carryOut [.ref 8, .ref q] (dH h τ t B P) none H := by
  have hk2 : bx_τ R C B τ o = 5 := (bx_keep (by have := cmd_o hq; omega)).trans hk
  refine ev_go 1 (q := 1) rfl ?_
  refine ev_get (q := 4) rfl (d_cmd hn hq) rfl rfl rfl ?_
  refine ev_tp (y := 5) hk ?_
  refine ev_go 1 (q := 5) (st' := .int 4 :: _ :: _) rfl ?_
  refine ev_icmp_lt (t := 16) (q := 8) rfl rfl rfl (fun c => absurd c (by decide)) (fun _ => ?_)
  refine ev_go 1 (q := 9) rfl ?_
  refine ev_virt (z' := z_Painter_measureBox) (q := 12) rfl rfl (by decide) rfl (by simp [Value.category]) rfl (by omega) rfl rfl (d_8 hn) (c_box hn hR hC h0 h1 (by omega)) ?_
  refine ev_go 1 (q := 13) rfl ?_
  refine ev_virt (z' := z_Painter_keepBefore) (q := 16) rfl rfl (by decide) rfl (by simp [Value.category]) rfl (by omega) rfl rfl (d_8 hn) (c_keepB (h := h) (τ := bx_τ R C B τ) hn hR hC ((bx_keep (by omega)).trans h0) ((bx_keep (by omega)).trans h1) ((bx_keep (by omega)).trans h2) hu (by omega)) ?_
  refine ev_go 1 (q := 17) rfl ?_
  refine ev_get (q := 20) rfl (d_cmd hn hq) rfl rfl rfl ?_
  refine ev_tp (y := 5) hk2 ?_
  refine ev_go 3 (q := 142) rfl ?_
  refine ev_get (q := 145) rfl (d_cmd hn hq) rfl rfl rfl ?_
  refine ev_go 1 (q := 146) rfl ?_
  refine ev_get (q := 149) rfl (d_cmd hn hq) rfl rfl rfl ?_
  refine ev_virt (z' := z_Painter_shift) (q := 152) rfl rfl (by decide) rfl (by simp [Value.category]) rfl (by omega) rfl rfl (d_8 hn) hc ?_
  refine ev_go 1 (q := 196) rfl ?_
  exact ev_vret rfl rfl (rfl)
theorem c_co6 (hn : 15 ≤ h.1) (hR : 1 ≤ R ∧ R ≤ 10) (hC : 1 ≤ C ∧ C ≤ 10) (h0 : τ 0 = nI R) (h1 : τ 1 = nI C) (h2 : τ 2 = nI u) (hu : u < 3) (hd : 2 < d) (hq : cmd_at q o) (hk : τ o = 6) (hc : am_m (d - 1) z_Painter_border [.ref 8, .int ((bx_τ R C B τ) (o + 1)), .int ((bx_τ R C B τ) (o + 5))] (dH h (bx_τ R C B τ) t (kb_B R C u B) P) none H) : am_m d z_Painter_carryOut [.ref 8, .ref q] (dH h τ t B P) none H := by
  have hk2 : bx_τ R C B τ o = 6 := (bx_keep (by have := cmd_o hq; omega)).trans hk
  refine ev_go 1 (q := 1) rfl ?_
  refine ev_get (q := 4) rfl (d_cmd hn hq) rfl rfl rfl ?_
  refine ev_tp (y := 6) hk ?_
  refine ev_go 1 (q := 5) (st' := .int 4 :: _ :: _) rfl ?_
  refine ev_icmp_lt (t := 16) (q := 8) rfl rfl rfl (fun c => absurd c (by decide)) (fun _ => ?_)
  refine ev_go 1 (q := 9) rfl ?_
  refine ev_virt (z' := z_Painter_measureBox) (q := 12) rfl rfl (by decide) rfl (by simp [Value.category]) rfl (by omega) rfl rfl (d_8 hn) (c_box hn hR hC h0 h1 (by omega)) ?_
  refine ev_go 1 (q := 13) rfl ?_
  refine ev_virt (z' := z_Painter_keepBefore) (q := 16) rfl rfl (by decide) rfl (by simp [Value.category]) rfl (by omega) rfl rfl (d_8 hn) (c_keepB (h := h) (τ := bx_τ R C B τ) hn hR hC ((bx_keep (by omega)).trans h0) ((bx_keep (by omega)).trans h1) ((bx_keep (by omega)).trans h2) hu (by omega)) ?_
  refine ev_go 1 (q := 17) rfl ?_
  refine ev_get (q := 20) rfl (d_cmd hn hq) rfl rfl rfl ?_
  refine ev_tp (y := 6) hk2 ?_
  refine ev_go 3 (q := 157) rfl ?_
  refine ev_get (q := 160) rfl (d_cmd hn hq) rfl rfl rfl ?_
  refine ev_go 1 (q := 161) rfl ?_
  refine ev_get (q := 164) rfl (d_cmd hn hq) rfl rfl rfl ?_
  refine ev_virt (z' := z_Painter_border) (q := 167) rfl rfl (by decide) rfl (by simp [Value.category]) rfl (by omega) rfl rfl (d_8 hn) hc ?_
  refine ev_go 1 (q := 196) rfl ?_
  exact ev_vret rfl rfl (rfl)
theorem c_co7 (hn : 15 ≤ h.1) (hR : 1 ≤ R ∧ R ≤ 10) (hC : 1 ≤ C ∧ C ≤ 10) (h0 : τ 0 = nI R) (h1 : τ 1 = nI C) (h2 : τ 2 = nI u) (hu : u < 3) (hd : 2 < d) (hq : cmd_at q o) (hk : τ o = 7) (hc : am_m (d - 1) z_Painter_swap [.ref 8, .int ((bx_τ R C B τ) (o + 1)), .int ((bx_τ R C B τ) (o + 2))] (dH h (bx_τ R C B τ) t (kb_B R C u B) P) none H) : am_m d z_Painter_carryOut [.ref 8, .ref q] (dH h τ t B P) none H := by
  have hk2 : bx_τ R C B τ o = 7 := (bx_keep (by have := cmd_o hq; omega)).trans hk
  refine ev_go 1 (q := 1) rfl ?_
  refine ev_get (q := 4) rfl (d_cmd hn hq) rfl rfl rfl ?_
  refine ev_tp (y := 7) hk ?_
  refine ev_go 1 (q := 5) (st' := .int 4 :: _ :: _) rfl ?_
  refine ev_icmp_lt (t := 16) (q := 8) rfl rfl rfl (fun c => absurd c (by decide)) (fun _ => ?_)
  refine ev_go 1 (q := 9) rfl ?_
  refine ev_virt (z' := z_Painter_measureBox) (q := 12) rfl rfl (by decide) rfl (by simp [Value.category]) rfl (by omega) rfl rfl (d_8 hn) (c_box hn hR hC h0 h1 (by omega)) ?_
  refine ev_go 1 (q := 13) rfl ?_
  refine ev_virt (z' := z_Painter_keepBefore) (q := 16) rfl rfl (by decide) rfl (by simp [Value.category]) rfl (by omega) rfl rfl (d_8 hn) (c_keepB (h := h) (τ := bx_τ R C B τ) hn hR hC ((bx_keep (by omega)).trans h0) ((bx_keep (by omega)).trans h1) ((bx_keep (by omega)).trans h2) hu (by omega)) ?_
  refine ev_go 1 (q := 17) rfl ?_
  refine ev_get (q := 20) rfl (d_cmd hn hq) rfl rfl rfl ?_
  refine ev_tp (y := 7) hk2 ?_
  refine ev_go 3 (q := 172) rfl ?_
  refine ev_get (q := 175) rfl (d_cmd hn hq) rfl rfl rfl ?_
  refine ev_go 1 (q := 176) rfl ?_
  refine ev_get (q := 179) rfl (d_cmd hn hq) rfl rfl rfl ?_
  refine ev_virt (z' := z_Painter_swap) (q := 182) rfl rfl (by decide) rfl (by simp [Value.category]) rfl (by omega) rfl rfl (d_8 hn) hc ?_
  refine ev_go 1 (q := 196) rfl ?_
  exact ev_vret rfl rfl (rfl)
theorem c_co8 (hn : 15 ≤ h.1) (hR : 1 ≤ R ∧ R ≤ 10) (hC : 1 ≤ C ∧ C ≤ 10) (h0 : τ 0 = nI R) (h1 : τ 1 = nI C) (h2 : τ 2 = nI u) (hu : u < 3) (hd : 2 < d) (hq : cmd_at q o) (hk : τ o = 8) (hc : am_m (d - 1) z_Painter_mend [.ref 8, .int ((bx_τ R C B τ) (o + 1))] (dH h (bx_τ R C B τ) t (kb_B R C u B) P) none H) : am_m d z_Painter_carryOut [.ref 8, .ref q] (dH h τ t B P) none H := by
  have hk2 : bx_τ R C B τ o = 8 := (bx_keep (by have := cmd_o hq; omega)).trans hk
  refine ev_go 1 (q := 1) rfl ?_
  refine ev_get (q := 4) rfl (d_cmd hn hq) rfl rfl rfl ?_
  refine ev_tp (y := 8) hk ?_
  refine ev_go 1 (q := 5) (st' := .int 4 :: _ :: _) rfl ?_
  refine ev_icmp_lt (t := 16) (q := 8) rfl rfl rfl (fun c => absurd c (by decide)) (fun _ => ?_)
  refine ev_go 1 (q := 9) rfl ?_
  refine ev_virt (z' := z_Painter_measureBox) (q := 12) rfl rfl (by decide) rfl (by simp [Value.category]) rfl (by omega) rfl rfl (d_8 hn) (c_box hn hR hC h0 h1 (by omega)) ?_
  refine ev_go 1 (q := 13) rfl ?_
  refine ev_virt (z' := z_Painter_keepBefore) (q := 16) rfl rfl (by decide) rfl (by simp [Value.category]) rfl (by omega) rfl rfl (d_8 hn) (c_keepB (h := h) (τ := bx_τ R C B τ) hn hR hC ((bx_keep (by omega)).trans h0) ((bx_keep (by omega)).trans h1) ((bx_keep (by omega)).trans h2) hu (by omega)) ?_
  refine ev_go 1 (q := 17) rfl ?_
  refine ev_get (q := 20) rfl (d_cmd hn hq) rfl rfl rfl ?_
  refine ev_tp (y := 8) hk2 ?_
  refine ev_go 3 (q := 187) rfl ?_
  refine ev_get (q := 190) rfl (d_cmd hn hq) rfl rfl rfl ?_
  refine ev_virt (z' := z_Painter_mend) (q := 193) rfl rfl (by decide) rfl (by simp [Value.category]) rfl (by omega) rfl rfl (d_8 hn) hc ?_
  refine ev_go 1 (q := 196) rfl ?_
  exact ev_vret rfl rfl (rfl)
theorem c_fail (hn : 15 ≤ h.1) {x k e : Int32} : am_m d z_Runner_fail [.ref 5, .int x, .int k, .int e] (dH h τ t B P) none (dH h (va_up (va_up (va_up τ 6 x) 9 k) 10 e) t B P) := by
  refine ev_go 2 (q := 2) rfl ?_
  refine ev_put (q := 5) rfl (d_5 hn) rfl (Nat.le_of_ble_eq_true rfl) rfl rfl rfl ?_
  refine ev_hp du_5_1 ?_
  refine ev_go 2 (q := 7) rfl ?_
  refine ev_put (q := 10) rfl (d_5 hn) rfl (Nat.le_of_ble_eq_true rfl) rfl rfl rfl ?_
  refine ev_hp du_5_4 ?_
  refine ev_go 2 (q := 12) rfl ?_
  refine ev_put (q := 15) rfl (d_5 hn) rfl (Nat.le_of_ble_eq_true rfl) rfl rfl rfl ?_
  refine ev_hp du_5_5 ?_
  exact ev_vret rfl rfl (rfl)
theorem c_begin (hn : 15 ≤ h.1) : am_m d z_Runner_begin [.ref 5] (dH h τ t B P) none (dH h (va_up (va_up (va_up (va_up (va_up (va_up τ 6 0) 7 0) 8 0) 9 (-9)) 10 0) 11 0) t B P) := by
  refine ev_go 2 (q := 2) (st' := .int 0 :: _ :: _) rfl ?_
  refine ev_put (q := 5) rfl (d_5 hn) rfl (Nat.le_of_ble_eq_true rfl) rfl rfl rfl ?_
  refine ev_hp du_5_1 ?_
  refine ev_go 2 (q := 7) (st' := .int 0 :: _ :: _) rfl ?_
  refine ev_put (q := 10) rfl (d_5 hn) rfl (Nat.le_of_ble_eq_true rfl) rfl rfl rfl ?_
  refine ev_hp du_5_2 ?_
  refine ev_go 2 (q := 12) (st' := .int 0 :: _ :: _) rfl ?_
  refine ev_put (q := 15) rfl (d_5 hn) rfl (Nat.le_of_ble_eq_true rfl) rfl rfl rfl ?_
  refine ev_hp du_5_3 ?_
  refine ev_go 2 (q := 18) (st' := .int (-9) :: _ :: _) rfl ?_
  refine ev_put (q := 21) rfl (d_5 hn) rfl (Nat.le_of_ble_eq_true rfl) rfl rfl rfl ?_
  refine ev_hp du_5_4 ?_
  refine ev_go 2 (q := 23) (st' := .int 0 :: _ :: _) rfl ?_
  refine ev_put (q := 26) rfl (d_5 hn) rfl (Nat.le_of_ble_eq_true rfl) rfl rfl rfl ?_
  refine ev_hp du_5_5 ?_
  refine ev_go 2 (q := 28) (st' := .int 0 :: _ :: _) rfl ?_
  refine ev_put (q := 31) rfl (d_5 hn) rfl (Nat.le_of_ble_eq_true rfl) rfl rfl rfl ?_
  refine ev_hp du_5_10 ?_
  exact ev_vret rfl rfl (rfl)
abbrev p8 (τ : Nat → Int32) : Nat → Int32 := va_up τ 8 (τ 8 + 1)
theorem c_pfF0 (hn : 15 ≤ h.1) (hR : 1 ≤ R ∧ R ≤ 10) (hC : 1 ≤ C ∧ C ≤ 10) (h0 : τ 0 = nI R) (h1 : τ 1 = nI C) (hd : 5 < d) (hq : cmd_at q o) (hk : τ o = 0) (hs : 0 < sp_sel (B 0) R C ↔ ¬ sp_sel (B 0) R C = 0) {e : Int32} {x : Int32} (hx : (rdy R C (sp_sel (B 0) R C) (cv o τ) t 0).1 = x) (hx0 : ¬ x = 0) : am_m d z_Runner_perform [.ref 5, .ref q, .int e] (dH h τ t B P) none (dH h (va_up (va_up (va_up (p8 τ) 6 x) 9 0) 10 e) (rdy R C (sp_sel (B 0) R C) (cv o τ) t 0).2 B P) := by
  have hk1 : p8 τ o = 0 := (va_up_ne _ _ (by have := cmd_o hq; omega)).trans hk
  have ha := c_ask0 (h := h) (τ := p8 τ) (t := t) (B := B) (P := P) (d := d - 1) hn hR hC h0 h1 (by omega) hq hk1 hs
  rw [show cv o (p8 τ) = cv o τ from cv_8 hq] at ha
  refine ev_go 2 (q := 2) rfl ?_
  refine ev_get (q := 5) rfl (d_5 hn) rfl rfl rfl ?_
  refine ev_go 2 (q := 7) (st' := .int (_ + 1) :: _ :: _) rfl ?_
  refine ev_put (q := 10) rfl (d_5 hn) rfl (Nat.le_of_ble_eq_true rfl) rfl rfl rfl ?_
  refine ev_hp du_5_3 ?_
  refine ev_go 1 (q := 11) rfl ?_
  refine ev_get (q := 14) rfl (d_5 hn) rfl rfl rfl ?_
  refine ev_go 2 (q := 16) rfl ?_
  refine ev_get (q := 19) rfl (d_5 hn) rfl rfl rfl ?_
  refine ev_virt (z' := z_Readiness_ask) (q := 22) rfl rfl (by decide) rfl (by simp [Value.category]) rfl (by omega) rfl rfl (d_6 hn) ha ?_
  refine ev_tp (y := x) hx ?_
  refine ev_go 2 (q := 24) rfl ?_
  refine ev_if_eq (t := 40) (q := 27) rfl rfl rfl (fun c => absurd c hx0) (fun zc1 => ?_)
  refine ev_go 3 (q := 30) rfl ?_
  refine ev_get (q := 33) rfl (d_cmd hn hq) rfl rfl rfl ?_
  refine ev_tp (y := 0) hk1 ?_
  refine ev_go 1 (q := 34) rfl ?_
  refine ev_virt (z' := z_Runner_fail) (q := 37) rfl rfl (by decide) rfl (by simp [Value.category]) rfl (by omega) rfl rfl (d_5 hn) (c_fail hn) ?_
  refine ev_go 1 (q := 68) rfl ?_
  exact ev_vret rfl rfl (rfl)
theorem c_pf0 (hn : 15 ≤ h.1) (hR : 1 ≤ R ∧ R ≤ 10) (hC : 1 ≤ C ∧ C ≤ 10) (h0 : τ 0 = nI R) (h1 : τ 1 = nI C) (hd : 5 < d) (hq : cmd_at q o) (hk : τ o = 0) (hs : 0 < sp_sel (B 0) R C ↔ ¬ sp_sel (B 0) R C = 0) {e : Int32} (hx : (rdy R C (sp_sel (B 0) R C) (cv o τ) t 0).1 = 0) (hc : am_m (d - 1) z_Painter_carryOut [.ref 8, .ref q] (dH h (p8 τ) (rdy R C (sp_sel (B 0) R C) (cv o τ) t 0).2 B P) none H) : am_m d z_Runner_perform [.ref 5, .ref q, .int e] (dH h τ t B P) none H := by
  have hk1 : p8 τ o = 0 := (va_up_ne _ _ (by have := cmd_o hq; omega)).trans hk
  have ha := c_ask0 (h := h) (τ := p8 τ) (t := t) (B := B) (P := P) (d := d - 1) hn hR hC h0 h1 (by omega) hq hk1 hs
  rw [show cv o (p8 τ) = cv o τ from cv_8 hq] at ha
  refine ev_go 2 (q := 2) rfl ?_
  refine ev_get (q := 5) rfl (d_5 hn) rfl rfl rfl ?_
  refine ev_go 2 (q := 7) (st' := .int (_ + 1) :: _ :: _) rfl ?_
  refine ev_put (q := 10) rfl (d_5 hn) rfl (Nat.le_of_ble_eq_true rfl) rfl rfl rfl ?_
  refine ev_hp du_5_3 ?_
  refine ev_go 1 (q := 11) rfl ?_
  refine ev_get (q := 14) rfl (d_5 hn) rfl rfl rfl ?_
  refine ev_go 2 (q := 16) rfl ?_
  refine ev_get (q := 19) rfl (d_5 hn) rfl rfl rfl ?_
  refine ev_virt (z' := z_Readiness_ask) (q := 22) rfl rfl (by decide) rfl (by simp [Value.category]) rfl (by omega) rfl rfl (d_6 hn) ha ?_
  refine ev_tp (y := 0) hx ?_
  refine ev_go 2 (q := 24) rfl ?_
  refine ev_if_eq (t := 40) (q := 27) rfl rfl rfl (fun _ => ?_) (fun c => absurd (by decide) c)
  refine ev_go 1 (q := 41) rfl ?_
  refine ev_get (q := 44) rfl (d_cmd hn hq) rfl rfl rfl ?_
  refine ev_tp (y := 0) hk1 ?_
  refine ev_go 1 (q := 46) (st' := .int 8 :: _ :: _) rfl ?_
  refine ev_icmp_gt (t := 60) (q := 49) rfl rfl rfl (fun c => absurd c (by decide)) (fun _ => ?_)
  refine ev_go 1 (q := 50) rfl ?_
  refine ev_get (q := 53) rfl (d_5 hn) rfl rfl rfl ?_
  refine ev_go 1 (q := 54) rfl ?_
  refine ev_virt (z' := z_Painter_carryOut) (q := 57) rfl rfl (by decide) rfl (by simp [Value.category]) rfl (by omega) rfl rfl (d_8 hn) hc ?_
  refine ev_go 1 (q := 68) rfl ?_
  exact ev_vret rfl rfl (rfl)
theorem c_pfF1 (hn : 15 ≤ h.1) (hR : 1 ≤ R ∧ R ≤ 10) (hC : 1 ≤ C ∧ C ≤ 10) (h0 : τ 0 = nI R) (h1 : τ 1 = nI C) (hd : 5 < d) (hq : cmd_at q o) (hk : τ o = 1) (hs : 0 < sp_sel (B 0) R C ↔ ¬ sp_sel (B 0) R C = 0) {e : Int32} {x : Int32} (hx : (rdy R C (sp_sel (B 0) R C) (cv o τ) t 1).1 = x) (hx0 : ¬ x = 0) : am_m d z_Runner_perform [.ref 5, .ref q, .int e] (dH h τ t B P) none (dH h (va_up (va_up (va_up (p8 τ) 6 x) 9 1) 10 e) (rdy R C (sp_sel (B 0) R C) (cv o τ) t 1).2 B P) := by
  have hk1 : p8 τ o = 1 := (va_up_ne _ _ (by have := cmd_o hq; omega)).trans hk
  have ha := c_ask1 (h := h) (τ := p8 τ) (t := t) (B := B) (P := P) (d := d - 1) hn hR hC h0 h1 (by omega) hq hk1 hs
  rw [show cv o (p8 τ) = cv o τ from cv_8 hq] at ha
  refine ev_go 2 (q := 2) rfl ?_
  refine ev_get (q := 5) rfl (d_5 hn) rfl rfl rfl ?_
  refine ev_go 2 (q := 7) (st' := .int (_ + 1) :: _ :: _) rfl ?_
  refine ev_put (q := 10) rfl (d_5 hn) rfl (Nat.le_of_ble_eq_true rfl) rfl rfl rfl ?_
  refine ev_hp du_5_3 ?_
  refine ev_go 1 (q := 11) rfl ?_
  refine ev_get (q := 14) rfl (d_5 hn) rfl rfl rfl ?_
  refine ev_go 2 (q := 16) rfl ?_
  refine ev_get (q := 19) rfl (d_5 hn) rfl rfl rfl ?_
  refine ev_virt (z' := z_Readiness_ask) (q := 22) rfl rfl (by decide) rfl (by simp [Value.category]) rfl (by omega) rfl rfl (d_6 hn) ha ?_
  refine ev_tp (y := x) hx ?_
  refine ev_go 2 (q := 24) rfl ?_
  refine ev_if_eq (t := 40) (q := 27) rfl rfl rfl (fun c => absurd c hx0) (fun zc1 => ?_)
  refine ev_go 3 (q := 30) rfl ?_
  refine ev_get (q := 33) rfl (d_cmd hn hq) rfl rfl rfl ?_
  refine ev_tp (y := 1) hk1 ?_
  refine ev_go 1 (q := 34) rfl ?_
  refine ev_virt (z' := z_Runner_fail) (q := 37) rfl rfl (by decide) rfl (by simp [Value.category]) rfl (by omega) rfl rfl (d_5 hn) (c_fail hn) ?_
  refine ev_go 1 (q := 68) rfl ?_
  exact ev_vret rfl rfl (rfl)
theorem c_pf1 (hn : 15 ≤ h.1) (hR : 1 ≤ R ∧ R ≤ 10) (hC : 1 ≤ C ∧ C ≤ 10) (h0 : τ 0 = nI R) (h1 : τ 1 = nI C) (hd : 5 < d) (hq : cmd_at q o) (hk : τ o = 1) (hs : 0 < sp_sel (B 0) R C ↔ ¬ sp_sel (B 0) R C = 0) {e : Int32} (hx : (rdy R C (sp_sel (B 0) R C) (cv o τ) t 1).1 = 0) (hc : am_m (d - 1) z_Painter_carryOut [.ref 8, .ref q] (dH h (p8 τ) (rdy R C (sp_sel (B 0) R C) (cv o τ) t 1).2 B P) none H) : am_m d z_Runner_perform [.ref 5, .ref q, .int e] (dH h τ t B P) none H := by
  have hk1 : p8 τ o = 1 := (va_up_ne _ _ (by have := cmd_o hq; omega)).trans hk
  have ha := c_ask1 (h := h) (τ := p8 τ) (t := t) (B := B) (P := P) (d := d - 1) hn hR hC h0 h1 (by omega) hq hk1 hs
  rw [show cv o (p8 τ) = cv o τ from cv_8 hq] at ha
  refine ev_go 2 (q := 2) rfl ?_
  refine ev_get (q := 5) rfl (d_5 hn) rfl rfl rfl ?_
  refine ev_go 2 (q := 7) (st' := .int (_ + 1) :: _ :: _) rfl ?_
  refine ev_put (q := 10) rfl (d_5 hn) rfl (Nat.le_of_ble_eq_true rfl) rfl rfl rfl ?_
  refine ev_hp du_5_3 ?_
  refine ev_go 1 (q := 11) rfl ?_
  refine ev_get (q := 14) rfl (d_5 hn) rfl rfl rfl ?_
  refine ev_go 2 (q := 16) rfl ?_
  refine ev_get (q := 19) rfl (d_5 hn) rfl rfl rfl ?_
  refine ev_virt (z' := z_Readiness_ask) (q := 22) rfl rfl (by decide) rfl (by simp [Value.category]) rfl (by omega) rfl rfl (d_6 hn) ha ?_
  refine ev_tp (y := 0) hx ?_
  refine ev_go 2 (q := 24) rfl ?_
  refine ev_if_eq (t := 40) (q := 27) rfl rfl rfl (fun _ => ?_) (fun c => absurd (by decide) c)
  refine ev_go 1 (q := 41) rfl ?_
  refine ev_get (q := 44) rfl (d_cmd hn hq) rfl rfl rfl ?_
  refine ev_tp (y := 1) hk1 ?_
  refine ev_go 1 (q := 46) (st' := .int 8 :: _ :: _) rfl ?_
  refine ev_icmp_gt (t := 60) (q := 49) rfl rfl rfl (fun c => absurd c (by decide)) (fun _ => ?_)
  refine ev_go 1 (q := 50) rfl ?_
  refine ev_get (q := 53) rfl (d_5 hn) rfl rfl rfl ?_
  refine ev_go 1 (q := 54) rfl ?_
  refine ev_virt (z' := z_Painter_carryOut) (q := 57) rfl rfl (by decide) rfl (by simp [Value.category]) rfl (by omega) rfl rfl (d_8 hn) hc ?_
  refine ev_go 1 (q := 68) rfl ?_
  exact ev_vret rfl rfl (rfl)
theorem c_pfF2 (hn : 15 ≤ h.1) (hR : 1 ≤ R ∧ R ≤ 10) (hC : 1 ≤ C ∧ C ≤ 10) (h0 : τ 0 = nI R) (h1 : τ 1 = nI C) (hd : 5 < d) (hq : cmd_at q o) (hk : τ o = 2) (hs : 0 < sp_sel (B 0) R C ↔ ¬ sp_sel (B 0) R C = 0) {e : Int32} {x : Int32} (hx : (rdy R C (sp_sel (B 0) R C) (cv o τ) t 2).1 = x) (hx0 : ¬ x = 0) : am_m d z_Runner_perform [.ref 5, .ref q, .int e] (dH h τ t B P) none (dH h (va_up (va_up (va_up (p8 τ) 6 x) 9 2) 10 e) (rdy R C (sp_sel (B 0) R C) (cv o τ) t 2).2 B P) := by
  have hk1 : p8 τ o = 2 := (va_up_ne _ _ (by have := cmd_o hq; omega)).trans hk
  have ha := c_ask2 (h := h) (τ := p8 τ) (t := t) (B := B) (P := P) (d := d - 1) hn hR hC h0 h1 (by omega) hq hk1 hs
  rw [show cv o (p8 τ) = cv o τ from cv_8 hq] at ha
  refine ev_go 2 (q := 2) rfl ?_
  refine ev_get (q := 5) rfl (d_5 hn) rfl rfl rfl ?_
  refine ev_go 2 (q := 7) (st' := .int (_ + 1) :: _ :: _) rfl ?_
  refine ev_put (q := 10) rfl (d_5 hn) rfl (Nat.le_of_ble_eq_true rfl) rfl rfl rfl ?_
  refine ev_hp du_5_3 ?_
  refine ev_go 1 (q := 11) rfl ?_
  refine ev_get (q := 14) rfl (d_5 hn) rfl rfl rfl ?_
  refine ev_go 2 (q := 16) rfl ?_
  refine ev_get (q := 19) rfl (d_5 hn) rfl rfl rfl ?_
  refine ev_virt (z' := z_Readiness_ask) (q := 22) rfl rfl (by decide) rfl (by simp [Value.category]) rfl (by omega) rfl rfl (d_6 hn) ha ?_
  refine ev_tp (y := x) hx ?_
  refine ev_go 2 (q := 24) rfl ?_
  refine ev_if_eq (t := 40) (q := 27) rfl rfl rfl (fun c => absurd c hx0) (fun zc1 => ?_)
  refine ev_go 3 (q := 30) rfl ?_
  refine ev_get (q := 33) rfl (d_cmd hn hq) rfl rfl rfl ?_
  refine ev_tp (y := 2) hk1 ?_
  refine ev_go 1 (q := 34) rfl ?_
  refine ev_virt (z' := z_Runner_fail) (q := 37) rfl rfl (by decide) rfl (by simp [Value.category]) rfl (by omega) rfl rfl (d_5 hn) (c_fail hn) ?_
  refine ev_go 1 (q := 68) rfl ?_
  exact ev_vret rfl rfl (rfl)
theorem c_pf2 (hn : 15 ≤ h.1) (hR : 1 ≤ R ∧ R ≤ 10) (hC : 1 ≤ C ∧ C ≤ 10) (h0 : τ 0 = nI R) (h1 : τ 1 = nI C) (hd : 5 < d) (hq : cmd_at q o) (hk : τ o = 2) (hs : 0 < sp_sel (B 0) R C ↔ ¬ sp_sel (B 0) R C = 0) {e : Int32} (hx : (rdy R C (sp_sel (B 0) R C) (cv o τ) t 2).1 = 0) (hc : am_m (d - 1) z_Painter_carryOut [.ref 8, .ref q] (dH h (p8 τ) (rdy R C (sp_sel (B 0) R C) (cv o τ) t 2).2 B P) none H) : am_m d z_Runner_perform [.ref 5, .ref q, .int e] (dH h τ t B P) none H := by
  have hk1 : p8 τ o = 2 := (va_up_ne _ _ (by have := cmd_o hq; omega)).trans hk
  have ha := c_ask2 (h := h) (τ := p8 τ) (t := t) (B := B) (P := P) (d := d - 1) hn hR hC h0 h1 (by omega) hq hk1 hs
  rw [show cv o (p8 τ) = cv o τ from cv_8 hq] at ha
  refine ev_go 2 (q := 2) rfl ?_
  refine ev_get (q := 5) rfl (d_5 hn) rfl rfl rfl ?_
  refine ev_go 2 (q := 7) (st' := .int (_ + 1) :: _ :: _) rfl ?_
  refine ev_put (q := 10) rfl (d_5 hn) rfl (Nat.le_of_ble_eq_true rfl) rfl rfl rfl ?_
  refine ev_hp du_5_3 ?_
  refine ev_go 1 (q := 11) rfl ?_
  refine ev_get (q := 14) rfl (d_5 hn) rfl rfl rfl ?_
  refine ev_go 2 (q := 16) rfl ?_
  refine ev_get (q := 19) rfl (d_5 hn) rfl rfl rfl ?_
  refine ev_virt (z' := z_Readiness_ask) (q := 22) rfl rfl (by decide) rfl (by simp [Value.category]) rfl (by omega) rfl rfl (d_6 hn) ha ?_
  refine ev_tp (y := 0) hx ?_
  refine ev_go 2 (q := 24) rfl ?_
  refine ev_if_eq (t := 40) (q := 27) rfl rfl rfl (fun _ => ?_) (fun c => absurd (by decide) c)
  refine ev_go 1 (q := 41) rfl ?_
  refine ev_get (q := 44) rfl (d_cmd hn hq) rfl rfl rfl ?_
  refine ev_tp (y := 2) hk1 ?_
  refine ev_go 1 (q := 46) (st' := .int 8 :: _ :: _) rfl ?_
  refine ev_icmp_gt (t := 60) (q := 49) rfl rfl rfl (fun c => absurd c (by decide)) (fun _ => ?_)
  refine ev_go 1 (q := 50) rfl ?_
  refine ev_get (q := 53) rfl (d_5 hn) rfl rfl rfl ?_
  refine ev_go 1 (q := 54) rfl ?_
  refine ev_virt (z' := z_Painter_carryOut) (q := 57) rfl rfl (by decide) rfl (by simp [Value.category]) rfl (by omega) rfl rfl (d_8 hn) hc ?_
  refine ev_go 1 (q := 68) rfl ?_
  exact ev_vret rfl rfl (rfl)
theorem c_pfF3 (hn : 15 ≤ h.1) (hR : 1 ≤ R ∧ R ≤ 10) (hC : 1 ≤ C ∧ C ≤ 10) (h0 : τ 0 = nI R) (h1 : τ 1 = nI C) (hd : 5 < d) (hq : cmd_at q o) (hk : τ o = 3) (hs : 0 < sp_sel (B 0) R C ↔ ¬ sp_sel (B 0) R C = 0) {e : Int32} {x : Int32} (hx : (rdy R C (sp_sel (B 0) R C) (cv o τ) t 3).1 = x) (hx0 : ¬ x = 0) : am_m d z_Runner_perform [.ref 5, .ref q, .int e] (dH h τ t B P) none (dH h (va_up (va_up (va_up (p8 τ) 6 x) 9 3) 10 e) (rdy R C (sp_sel (B 0) R C) (cv o τ) t 3).2 B P) := by
  have hk1 : p8 τ o = 3 := (va_up_ne _ _ (by have := cmd_o hq; omega)).trans hk
  have ha := c_ask3 (h := h) (τ := p8 τ) (t := t) (B := B) (P := P) (d := d - 1) hn hR hC h0 h1 (by omega) hq hk1 hs
  rw [show cv o (p8 τ) = cv o τ from cv_8 hq] at ha
  refine ev_go 2 (q := 2) rfl ?_
  refine ev_get (q := 5) rfl (d_5 hn) rfl rfl rfl ?_
  refine ev_go 2 (q := 7) (st' := .int (_ + 1) :: _ :: _) rfl ?_
  refine ev_put (q := 10) rfl (d_5 hn) rfl (Nat.le_of_ble_eq_true rfl) rfl rfl rfl ?_
  refine ev_hp du_5_3 ?_
  refine ev_go 1 (q := 11) rfl ?_
  refine ev_get (q := 14) rfl (d_5 hn) rfl rfl rfl ?_
  refine ev_go 2 (q := 16) rfl ?_
  refine ev_get (q := 19) rfl (d_5 hn) rfl rfl rfl ?_
  refine ev_virt (z' := z_Readiness_ask) (q := 22) rfl rfl (by decide) rfl (by simp [Value.category]) rfl (by omega) rfl rfl (d_6 hn) ha ?_
  refine ev_tp (y := x) hx ?_
  refine ev_go 2 (q := 24) rfl ?_
  refine ev_if_eq (t := 40) (q := 27) rfl rfl rfl (fun c => absurd c hx0) (fun zc1 => ?_)
  refine ev_go 3 (q := 30) rfl ?_
  refine ev_get (q := 33) rfl (d_cmd hn hq) rfl rfl rfl ?_
  refine ev_tp (y := 3) hk1 ?_
  refine ev_go 1 (q := 34) rfl ?_
  refine ev_virt (z' := z_Runner_fail) (q := 37) rfl rfl (by decide) rfl (by simp [Value.category]) rfl (by omega) rfl rfl (d_5 hn) (c_fail hn) ?_
  refine ev_go 1 (q := 68) rfl ?_
  exact ev_vret rfl rfl (rfl)
theorem c_pf3 (hn : 15 ≤ h.1) (hR : 1 ≤ R ∧ R ≤ 10) (hC : 1 ≤ C ∧ C ≤ 10) (h0 : τ 0 = nI R) (h1 : τ 1 = nI C) (hd : 5 < d) (hq : cmd_at q o) (hk : τ o = 3) (hs : 0 < sp_sel (B 0) R C ↔ ¬ sp_sel (B 0) R C = 0) {e : Int32} (hx : (rdy R C (sp_sel (B 0) R C) (cv o τ) t 3).1 = 0) (hc : am_m (d - 1) z_Painter_carryOut [.ref 8, .ref q] (dH h (p8 τ) (rdy R C (sp_sel (B 0) R C) (cv o τ) t 3).2 B P) none H) : am_m d z_Runner_perform [.ref 5, .ref q, .int e] (dH h τ t B P) none H := by
  have hk1 : p8 τ o = 3 := (va_up_ne _ _ (by have := cmd_o hq; omega)).trans hk
  have ha := c_ask3 (h := h) (τ := p8 τ) (t := t) (B := B) (P := P) (d := d - 1) hn hR hC h0 h1 (by omega) hq hk1 hs
  rw [show cv o (p8 τ) = cv o τ from cv_8 hq] at ha
  refine ev_go 2 (q := 2) rfl ?_
  refine ev_get (q := 5) rfl (d_5 hn) rfl rfl rfl ?_
  refine ev_go 2 (q := 7) (st' := .int (_ + 1) :: _ :: _) rfl ?_
  refine ev_put (q := 10) rfl (d_5 hn) rfl (Nat.le_of_ble_eq_true rfl) rfl rfl rfl ?_
  refine ev_hp du_5_3 ?_
  refine ev_go 1 (q := 11) rfl ?_
  refine ev_get (q := 14) rfl (d_5 hn) rfl rfl rfl ?_
  refine ev_go 2 (q := 16) rfl ?_
  refine ev_get (q := 19) rfl (d_5 hn) rfl rfl rfl ?_
  refine ev_virt (z' := z_Readiness_ask) (q := 22) rfl rfl (by decide) rfl (by simp [Value.category]) rfl (by omega) rfl rfl (d_6 hn) ha ?_
  refine ev_tp (y := 0) hx ?_
  refine ev_go 2 (q := 24) rfl ?_
  refine ev_if_eq (t := 40) (q := 27) rfl rfl rfl (fun _ => ?_) (fun c => absurd (by decide) c)
  refine ev_go 1 (q := 41) rfl ?_
  refine ev_get (q := 44) rfl (d_cmd hn hq) rfl rfl rfl ?_
  refine ev_tp (y := 3) hk1 ?_
  refine ev_go 1 (q := 46) (st' := .int 8 :: _ :: _) rfl ?_
  refine ev_icmp_gt (t := 60) (q := 49) rfl rfl rfl (fun c => absurd c (by decide)) (fun _ => ?_)
  refine ev_go 1 (q := 50) rfl ?_
  refine ev_get (q := 53) rfl (d_5 hn) rfl rfl rfl ?_
  refine ev_go 1 (q := 54) rfl ?_
  refine ev_virt (z' := z_Painter_carryOut) (q := 57) rfl rfl (by decide) rfl (by simp [Value.category]) rfl (by omega) rfl rfl (d_8 hn) hc ?_
  refine ev_go 1 (q := 68) rfl ?_
  exact ev_vret rfl rfl (rfl)
theorem c_pfF4 (hn : 15 ≤ h.1) (hR : 1 ≤ R ∧ R ≤ 10) (hC : 1 ≤ C ∧ C ≤ 10) (h0 : τ 0 = nI R) (h1 : τ 1 = nI C) (hd : 5 < d) (hq : cmd_at q o) (hk : τ o = 4) (hs : 0 < sp_sel (B 0) R C ↔ ¬ sp_sel (B 0) R C = 0) {e : Int32} {x : Int32} (hx : (rdy R C (sp_sel (B 0) R C) (cv o τ) t 4).1 = x) (hx0 : ¬ x = 0) : am_m d z_Runner_perform [.ref 5, .ref q, .int e] (dH h τ t B P) none (dH h (va_up (va_up (va_up (p8 τ) 6 x) 9 4) 10 e) (rdy R C (sp_sel (B 0) R C) (cv o τ) t 4).2 B P) := by
  have hk1 : p8 τ o = 4 := (va_up_ne _ _ (by have := cmd_o hq; omega)).trans hk
  have ha := c_ask4 (h := h) (τ := p8 τ) (t := t) (B := B) (P := P) (d := d - 1) hn hR hC h0 h1 (by omega) hq hk1 hs
  rw [show cv o (p8 τ) = cv o τ from cv_8 hq] at ha
  refine ev_go 2 (q := 2) rfl ?_
  refine ev_get (q := 5) rfl (d_5 hn) rfl rfl rfl ?_
  refine ev_go 2 (q := 7) (st' := .int (_ + 1) :: _ :: _) rfl ?_
  refine ev_put (q := 10) rfl (d_5 hn) rfl (Nat.le_of_ble_eq_true rfl) rfl rfl rfl ?_
  refine ev_hp du_5_3 ?_
  refine ev_go 1 (q := 11) rfl ?_
  refine ev_get (q := 14) rfl (d_5 hn) rfl rfl rfl ?_
  refine ev_go 2 (q := 16) rfl ?_
  refine ev_get (q := 19) rfl (d_5 hn) rfl rfl rfl ?_
  refine ev_virt (z' := z_Readiness_ask) (q := 22) rfl rfl (by decide) rfl (by simp [Value.category]) rfl (by omega) rfl rfl (d_6 hn) ha ?_
  refine ev_tp (y := x) hx ?_
  refine ev_go 2 (q := 24) rfl ?_
  refine ev_if_eq (t := 40) (q := 27) rfl rfl rfl (fun c => absurd c hx0) (fun zc1 => ?_)
  refine ev_go 3 (q := 30) rfl ?_
  refine ev_get (q := 33) rfl (d_cmd hn hq) rfl rfl rfl ?_
  refine ev_tp (y := 4) hk1 ?_
  refine ev_go 1 (q := 34) rfl ?_
  refine ev_virt (z' := z_Runner_fail) (q := 37) rfl rfl (by decide) rfl (by simp [Value.category]) rfl (by omega) rfl rfl (d_5 hn) (c_fail hn) ?_
  refine ev_go 1 (q := 68) rfl ?_
  exact ev_vret rfl rfl (rfl)
theorem c_pf4 (hn : 15 ≤ h.1) (hR : 1 ≤ R ∧ R ≤ 10) (hC : 1 ≤ C ∧ C ≤ 10) (h0 : τ 0 = nI R) (h1 : τ 1 = nI C) (hd : 5 < d) (hq : cmd_at q o) (hk : τ o = 4) (hs : 0 < sp_sel (B 0) R C ↔ ¬ sp_sel (B 0) R C = 0) {e : Int32} (hx : (rdy R C (sp_sel (B 0) R C) (cv o τ) t 4).1 = 0) (hc : am_m (d - 1) z_Painter_carryOut [.ref 8, .ref q] (dH h (p8 τ) (rdy R C (sp_sel (B 0) R C) (cv o τ) t 4).2 B P) none H) : am_m d z_Runner_perform [.ref 5, .ref q, .int e] (dH h τ t B P) none H := by
  have hk1 : p8 τ o = 4 := (va_up_ne _ _ (by have := cmd_o hq; omega)).trans hk
  have ha := c_ask4 (h := h) (τ := p8 τ) (t := t) (B := B) (P := P) (d := d - 1) hn hR hC h0 h1 (by omega) hq hk1 hs
  rw [show cv o (p8 τ) = cv o τ from cv_8 hq] at ha
  refine ev_go 2 (q := 2) rfl ?_
  refine ev_get (q := 5) rfl (d_5 hn) rfl rfl rfl ?_
  refine ev_go 2 (q := 7) (st' := .int (_ + 1) :: _ :: _) rfl ?_
  refine ev_put (q := 10) rfl (d_5 hn) rfl (Nat.le_of_ble_eq_true rfl) rfl rfl rfl ?_
  refine ev_hp du_5_3 ?_
  refine ev_go 1 (q := 11) rfl ?_
  refine ev_get (q := 14) rfl (d_5 hn) rfl rfl rfl ?_
  refine ev_go 2 (q := 16) rfl ?_
  refine ev_get (q := 19) rfl (d_5 hn) rfl rfl rfl ?_
  refine ev_virt (z' := z_Readiness_ask) (q := 22) rfl rfl (by decide) rfl (by simp [Value.category]) rfl (by omega) rfl rfl (d_6 hn) ha ?_
  refine ev_tp (y := 0) hx ?_
  refine ev_go 2 (q := 24) rfl ?_
  refine ev_if_eq (t := 40) (q := 27) rfl rfl rfl (fun _ => ?_) (fun c => absurd (by decide) c)
  refine ev_go 1 (q := 41) rfl ?_
  refine ev_get (q := 44) rfl (d_cmd hn hq) rfl rfl rfl ?_
  refine ev_tp (y := 4) hk1 ?_
  refine ev_go 1 (q := 46) (st' := .int 8 :: _ :: _) rfl ?_
  refine ev_icmp_gt (t := 60) (q := 49) rfl rfl rfl (fun c => absurd c (by decide)) (fun _ => ?_)
  refine ev_go 1 (q := 50) rfl ?_
  refine ev_get (q := 53) rfl (d_5 hn) rfl rfl rfl ?_
  refine ev_go 1 (q := 54) rfl ?_
  refine ev_virt (z' := z_Painter_carryOut) (q := 57) rfl rfl (by decide) rfl (by simp [Value.category]) rfl (by omega) rfl rfl (d_8 hn) hc ?_
  refine ev_go 1 (q := 68) rfl ?_
  exact ev_vret rfl rfl (rfl)
theorem c_pfF5 (hn : 15 ≤ h.1) (hR : 1 ≤ R ∧ R ≤ 10) (hC : 1 ≤ C ∧ C ≤ 10) (h0 : τ 0 = nI R) (h1 : τ 1 = nI C) (hd : 5 < d) (hq : cmd_at q o) (hk : τ o = 5) (hs : 0 < sp_sel (B 0) R C ↔ ¬ sp_sel (B 0) R C = 0) {e : Int32} {x : Int32} (hx : (rdy R C (sp_sel (B 0) R C) (cv o τ) t 5).1 = x) (hx0 : ¬ x = 0) : am_m d z_Runner_perform [.ref 5, .ref q, .int e] (dH h τ t B P) none (dH h (va_up (va_up (va_up (p8 τ) 6 x) 9 5) 10 e) (rdy R C (sp_sel (B 0) R C) (cv o τ) t 5).2 B P) := by
  have hk1 : p8 τ o = 5 := (va_up_ne _ _ (by have := cmd_o hq; omega)).trans hk
  have ha := c_ask5 (h := h) (τ := p8 τ) (t := t) (B := B) (P := P) (d := d - 1) hn hR hC h0 h1 (by omega) hq hk1 hs
  rw [show cv o (p8 τ) = cv o τ from cv_8 hq] at ha
  refine ev_go 2 (q := 2) rfl ?_
  refine ev_get (q := 5) rfl (d_5 hn) rfl rfl rfl ?_
  refine ev_go 2 (q := 7) (st' := .int (_ + 1) :: _ :: _) rfl ?_
  refine ev_put (q := 10) rfl (d_5 hn) rfl (Nat.le_of_ble_eq_true rfl) rfl rfl rfl ?_
  refine ev_hp du_5_3 ?_
  refine ev_go 1 (q := 11) rfl ?_
  refine ev_get (q := 14) rfl (d_5 hn) rfl rfl rfl ?_
  refine ev_go 2 (q := 16) rfl ?_
  refine ev_get (q := 19) rfl (d_5 hn) rfl rfl rfl ?_
  refine ev_virt (z' := z_Readiness_ask) (q := 22) rfl rfl (by decide) rfl (by simp [Value.category]) rfl (by omega) rfl rfl (d_6 hn) ha ?_
  refine ev_tp (y := x) hx ?_
  refine ev_go 2 (q := 24) rfl ?_
  refine ev_if_eq (t := 40) (q := 27) rfl rfl rfl (fun c => absurd c hx0) (fun zc1 => ?_)
  refine ev_go 3 (q := 30) rfl ?_
  refine ev_get (q := 33) rfl (d_cmd hn hq) rfl rfl rfl ?_
  refine ev_tp (y := 5) hk1 ?_
  refine ev_go 1 (q := 34) rfl ?_
  refine ev_virt (z' := z_Runner_fail) (q := 37) rfl rfl (by decide) rfl (by simp [Value.category]) rfl (by omega) rfl rfl (d_5 hn) (c_fail hn) ?_
  refine ev_go 1 (q := 68) rfl ?_
  exact ev_vret rfl rfl (rfl)
theorem c_pf5 (hn : 15 ≤ h.1) (hR : 1 ≤ R ∧ R ≤ 10) (hC : 1 ≤ C ∧ C ≤ 10) (h0 : τ 0 = nI R) (h1 : τ 1 = nI C) (hd : 5 < d) (hq : cmd_at q o) (hk : τ o = 5) (hs : 0 < sp_sel (B 0) R C ↔ ¬ sp_sel (B 0) R C = 0) {e : Int32} (hx : (rdy R C (sp_sel (B 0) R C) (cv o τ) t 5).1 = 0) (hc : am_m (d - 1) z_Painter_carryOut [.ref 8, .ref q] (dH h (p8 τ) (rdy R C (sp_sel (B 0) R C) (cv o τ) t 5).2 B P) none H) : am_m d z_Runner_perform [.ref 5, .ref q, .int e] (dH h τ t B P) none H := by
  have hk1 : p8 τ o = 5 := (va_up_ne _ _ (by have := cmd_o hq; omega)).trans hk
  have ha := c_ask5 (h := h) (τ := p8 τ) (t := t) (B := B) (P := P) (d := d - 1) hn hR hC h0 h1 (by omega) hq hk1 hs
  rw [show cv o (p8 τ) = cv o τ from cv_8 hq] at ha
  refine ev_go 2 (q := 2) rfl ?_
  refine ev_get (q := 5) rfl (d_5 hn) rfl rfl rfl ?_
  refine ev_go 2 (q := 7) (st' := .int (_ + 1) :: _ :: _) rfl ?_
  refine ev_put (q := 10) rfl (d_5 hn) rfl (Nat.le_of_ble_eq_true rfl) rfl rfl rfl ?_
  refine ev_hp du_5_3 ?_
  refine ev_go 1 (q := 11) rfl ?_
  refine ev_get (q := 14) rfl (d_5 hn) rfl rfl rfl ?_
  refine ev_go 2 (q := 16) rfl ?_
  refine ev_get (q := 19) rfl (d_5 hn) rfl rfl rfl ?_
  refine ev_virt (z' := z_Readiness_ask) (q := 22) rfl rfl (by decide) rfl (by simp [Value.category]) rfl (by omega) rfl rfl (d_6 hn) ha ?_
  refine ev_tp (y := 0) hx ?_
  refine ev_go 2 (q := 24) rfl ?_
  refine ev_if_eq (t := 40) (q := 27) rfl rfl rfl (fun _ => ?_) (fun c => absurd (by decide) c)
  refine ev_go 1 (q := 41) rfl ?_
  refine ev_get (q := 44) rfl (d_cmd hn hq) rfl rfl rfl ?_
  refine ev_tp (y := 5) hk1 ?_
  refine ev_go 1 (q := 46) (st' := .int 8 :: _ :: _) rfl ?_
  refine ev_icmp_gt (t := 60) (q := 49) rfl rfl rfl (fun c => absurd c (by decide)) (fun _ => ?_)
  refine ev_go 1 (q := 50) rfl ?_
  refine ev_get (q := 53) rfl (d_5 hn) rfl rfl rfl ?_
  refine ev_go 1 (q := 54) rfl ?_
  refine ev_virt (z' := z_Painter_carryOut) (q := 57) rfl rfl (by decide) rfl (by simp [Value.category]) rfl (by omega) rfl rfl (d_8 hn) hc ?_
  refine ev_go 1 (q := 68) rfl ?_
  exact ev_vret rfl rfl (rfl)
theorem c_pfF6 (hn : 15 ≤ h.1) (hR : 1 ≤ R ∧ R ≤ 10) (hC : 1 ≤ C ∧ C ≤ 10) (h0 : τ 0 = nI R) (h1 : τ 1 = nI C) (hd : 5 < d) (hq : cmd_at q o) (hk : τ o = 6) (hs : 0 < sp_sel (B 0) R C ↔ ¬ sp_sel (B 0) R C = 0) {e : Int32} {x : Int32} (hx : (rdy R C (sp_sel (B 0) R C) (cv o τ) t 6).1 = x) (hx0 : ¬ x = 0) : am_m d z_Runner_perform [.ref 5, .ref q, .int e] (dH h τ t B P) none (dH h (va_up (va_up (va_up (p8 τ) 6 x) 9 6) 10 e) (rdy R C (sp_sel (B 0) R C) (cv o τ) t 6).2 B P) := by
  have hk1 : p8 τ o = 6 := (va_up_ne _ _ (by have := cmd_o hq; omega)).trans hk
  have ha := c_ask6 (h := h) (τ := p8 τ) (t := t) (B := B) (P := P) (d := d - 1) hn hR hC h0 h1 (by omega) hq hk1 hs
  rw [show cv o (p8 τ) = cv o τ from cv_8 hq] at ha
  refine ev_go 2 (q := 2) rfl ?_
  refine ev_get (q := 5) rfl (d_5 hn) rfl rfl rfl ?_
  refine ev_go 2 (q := 7) (st' := .int (_ + 1) :: _ :: _) rfl ?_
  refine ev_put (q := 10) rfl (d_5 hn) rfl (Nat.le_of_ble_eq_true rfl) rfl rfl rfl ?_
  refine ev_hp du_5_3 ?_
  refine ev_go 1 (q := 11) rfl ?_
  refine ev_get (q := 14) rfl (d_5 hn) rfl rfl rfl ?_
  refine ev_go 2 (q := 16) rfl ?_
  refine ev_get (q := 19) rfl (d_5 hn) rfl rfl rfl ?_
  refine ev_virt (z' := z_Readiness_ask) (q := 22) rfl rfl (by decide) rfl (by simp [Value.category]) rfl (by omega) rfl rfl (d_6 hn) ha ?_
  refine ev_tp (y := x) hx ?_
  refine ev_go 2 (q := 24) rfl ?_
  refine ev_if_eq (t := 40) (q := 27) rfl rfl rfl (fun c => absurd c hx0) (fun zc1 => ?_)
  refine ev_go 3 (q := 30) rfl ?_
  refine ev_get (q := 33) rfl (d_cmd hn hq) rfl rfl rfl ?_
  refine ev_tp (y := 6) hk1 ?_
  refine ev_go 1 (q := 34) rfl ?_
  refine ev_virt (z' := z_Runner_fail) (q := 37) rfl rfl (by decide) rfl (by simp [Value.category]) rfl (by omega) rfl rfl (d_5 hn) (c_fail hn) ?_
  refine ev_go 1 (q := 68) rfl ?_
  exact ev_vret rfl rfl (rfl)
theorem c_pf6 (hn : 15 ≤ h.1) (hR : 1 ≤ R ∧ R ≤ 10) (hC : 1 ≤ C ∧ C ≤ 10) (h0 : τ 0 = nI R) (h1 : τ 1 = nI C) (hd : 5 < d) (hq : cmd_at q o) (hk : τ o = 6) (hs : 0 < sp_sel (B 0) R C ↔ ¬ sp_sel (B 0) R C = 0) {e : Int32} (hx : (rdy R C (sp_sel (B 0) R C) (cv o τ) t 6).1 = 0) (hc : am_m (d - 1) z_Painter_carryOut [.ref 8, .ref q] (dH h (p8 τ) (rdy R C (sp_sel (B 0) R C) (cv o τ) t 6).2 B P) none H) : am_m d z_Runner_perform [.ref 5, .ref q, .int e] (dH h τ t B P) none H := by
  have hk1 : p8 τ o = 6 := (va_up_ne _ _ (by have := cmd_o hq; omega)).trans hk
  have ha := c_ask6 (h := h) (τ := p8 τ) (t := t) (B := B) (P := P) (d := d - 1) hn hR hC h0 h1 (by omega) hq hk1 hs
  rw [show cv o (p8 τ) = cv o τ from cv_8 hq] at ha
  refine ev_go 2 (q := 2) rfl ?_
  refine ev_get (q := 5) rfl (d_5 hn) rfl rfl rfl ?_
  refine ev_go 2 (q := 7) (st' := .int (_ + 1) :: _ :: _) rfl ?_
  refine ev_put (q := 10) rfl (d_5 hn) rfl (Nat.le_of_ble_eq_true rfl) rfl rfl rfl ?_
  refine ev_hp du_5_3 ?_
  refine ev_go 1 (q := 11) rfl ?_
  refine ev_get (q := 14) rfl (d_5 hn) rfl rfl rfl ?_
  refine ev_go 2 (q := 16) rfl ?_
  refine ev_get (q := 19) rfl (d_5 hn) rfl rfl rfl ?_
  refine ev_virt (z' := z_Readiness_ask) (q := 22) rfl rfl (by decide) rfl (by simp [Value.category]) rfl (by omega) rfl rfl (d_6 hn) ha ?_
  refine ev_tp (y := 0) hx ?_
  refine ev_go 2 (q := 24) rfl ?_
  refine ev_if_eq (t := 40) (q := 27) rfl rfl rfl (fun _ => ?_) (fun c => absurd (by decide) c)
  refine ev_go 1 (q := 41) rfl ?_
  refine ev_get (q := 44) rfl (d_cmd hn hq) rfl rfl rfl ?_
  refine ev_tp (y := 6) hk1 ?_
  refine ev_go 1 (q := 46) (st' := .int 8 :: _ :: _) rfl ?_
  refine ev_icmp_gt (t := 60) (q := 49) rfl rfl rfl (fun c => absurd c (by decide)) (fun _ => ?_)
  refine ev_go 1 (q := 50) rfl ?_
  refine ev_get (q := 53) rfl (d_5 hn) rfl rfl rfl ?_
  refine ev_go 1 (q := 54) rfl ?_
  refine ev_virt (z' := z_Painter_carryOut) (q := 57) rfl rfl (by decide) rfl (by simp [Value.category]) rfl (by omega) rfl rfl (d_8 hn) hc ?_
  refine ev_go 1 (q := 68) rfl ?_
  exact ev_vret rfl rfl (rfl)
theorem c_pfF7 (hn : 15 ≤ h.1) (hR : 1 ≤ R ∧ R ≤ 10) (hC : 1 ≤ C ∧ C ≤ 10) (h0 : τ 0 = nI R) (h1 : τ 1 = nI C) (hd : 5 < d) (hq : cmd_at q o) (hk : τ o = 7) (hs : 0 < sp_sel (B 0) R C ↔ ¬ sp_sel (B 0) R C = 0) {e : Int32} {x : Int32} (hx : (rdy R C (sp_sel (B 0) R C) (cv o τ) t 7).1 = x) (hx0 : ¬ x = 0) : am_m d z_Runner_perform [.ref 5, .ref q, .int e] (dH h τ t B P) none (dH h (va_up (va_up (va_up (p8 τ) 6 x) 9 7) 10 e) (rdy R C (sp_sel (B 0) R C) (cv o τ) t 7).2 B P) := by
  have hk1 : p8 τ o = 7 := (va_up_ne _ _ (by have := cmd_o hq; omega)).trans hk
  have ha := c_ask7 (h := h) (τ := p8 τ) (t := t) (B := B) (P := P) (d := d - 1) hn hR hC h0 h1 (by omega) hq hk1 hs
  rw [show cv o (p8 τ) = cv o τ from cv_8 hq] at ha
  refine ev_go 2 (q := 2) rfl ?_
  refine ev_get (q := 5) rfl (d_5 hn) rfl rfl rfl ?_
  refine ev_go 2 (q := 7) (st' := .int (_ + 1) :: _ :: _) rfl ?_
  refine ev_put (q := 10) rfl (d_5 hn) rfl (Nat.le_of_ble_eq_true rfl) rfl rfl rfl ?_
  refine ev_hp du_5_3 ?_
  refine ev_go 1 (q := 11) rfl ?_
  refine ev_get (q := 14) rfl (d_5 hn) rfl rfl rfl ?_
  refine ev_go 2 (q := 16) rfl ?_
  refine ev_get (q := 19) rfl (d_5 hn) rfl rfl rfl ?_
  refine ev_virt (z' := z_Readiness_ask) (q := 22) rfl rfl (by decide) rfl (by simp [Value.category]) rfl (by omega) rfl rfl (d_6 hn) ha ?_
  refine ev_tp (y := x) hx ?_
  refine ev_go 2 (q := 24) rfl ?_
  refine ev_if_eq (t := 40) (q := 27) rfl rfl rfl (fun c => absurd c hx0) (fun zc1 => ?_)
  refine ev_go 3 (q := 30) rfl ?_
  refine ev_get (q := 33) rfl (d_cmd hn hq) rfl rfl rfl ?_
  refine ev_tp (y := 7) hk1 ?_
  refine ev_go 1 (q := 34) rfl ?_
  refine ev_virt (z' := z_Runner_fail) (q := 37) rfl rfl (by decide) rfl (by simp [Value.category]) rfl (by omega) rfl rfl (d_5 hn) (c_fail hn) ?_
  refine ev_go 1 (q := 68) rfl ?_
  exact ev_vret rfl rfl (rfl)
theorem c_pf7 (hn : 15 ≤ h.1) (hR : 1 ≤ R ∧ R ≤ 10) (hC : 1 ≤ C ∧ C ≤ 10) (h0 : τ 0 = nI R) (h1 : τ 1 = nI C) (hd : 5 < d) (hq : cmd_at q o) (hk : τ o = 7) (hs : 0 < sp_sel (B 0) R C ↔ ¬ sp_sel (B 0) R C = 0) {e : Int32} (hx : (rdy R C (sp_sel (B 0) R C) (cv o τ) t 7).1 = 0) (hc : am_m (d - 1) z_Painter_carryOut [.ref 8, .ref q] (dH h (p8 τ) (rdy R C (sp_sel (B 0) R C) (cv o τ) t 7).2 B P) none H) : am_m d z_Runner_perform [.ref 5, .ref q, .int e] (dH h τ t B P) none H := by
  have hk1 : p8 τ o = 7 := (va_up_ne _ _ (by have := cmd_o hq; omega)).trans hk
  have ha := c_ask7 (h := h) (τ := p8 τ) (t := t) (B := B) (P := P) (d := d - 1) hn hR hC h0 h1 (by omega) hq hk1 hs
  rw [show cv o (p8 τ) = cv o τ from cv_8 hq] at ha
  refine ev_go 2 (q := 2) rfl ?_
  refine ev_get (q := 5) rfl (d_5 hn) rfl rfl rfl ?_
  refine ev_go 2 (q := 7) (st' := .int (_ + 1) :: _ :: _) rfl ?_
  refine ev_put (q := 10) rfl (d_5 hn) rfl (Nat.le_of_ble_eq_true rfl) rfl rfl rfl ?_
  refine ev_hp du_5_3 ?_
  refine ev_go 1 (q := 11) rfl ?_
  refine ev_get (q := 14) rfl (d_5 hn) rfl rfl rfl ?_
  refine ev_go 2 (q := 16) rfl ?_
  refine ev_get (q := 19) rfl (d_5 hn) rfl rfl rfl ?_
  refine ev_virt (z' := z_Readiness_ask) (q := 22) rfl rfl (by decide) rfl (by simp [Value.category]) rfl (by omega) rfl rfl (d_6 hn) ha ?_
  refine ev_tp (y := 0) hx ?_
  refine ev_go 2 (q := 24) rfl ?_
  refine ev_if_eq (t := 40) (q := 27) rfl rfl rfl (fun _ => ?_) (fun c => absurd (by decide) c)
  refine ev_go 1 (q := 41) rfl ?_
  refine ev_get (q := 44) rfl (d_cmd hn hq) rfl rfl rfl ?_
  refine ev_tp (y := 7) hk1 ?_
  refine ev_go 1 (q := 46) (st' := .int 8 :: _ :: _) rfl ?_
  refine ev_icmp_gt (t := 60) (q := 49) rfl rfl rfl (fun c => absurd c (by decide)) (fun _ => ?_)
  refine ev_go 1 (q := 50) rfl ?_
  refine ev_get (q := 53) rfl (d_5 hn) rfl rfl rfl ?_
  refine ev_go 1 (q := 54) rfl ?_
  refine ev_virt (z' := z_Painter_carryOut) (q := 57) rfl rfl (by decide) rfl (by simp [Value.category]) rfl (by omega) rfl rfl (d_8 hn) hc ?_
  refine ev_go 1 (q := 68) rfl ?_
  exact ev_vret rfl rfl (rfl)
theorem c_pfF8 (hn : 15 ≤ h.1) (hR : 1 ≤ R ∧ R ≤ 10) (hC : 1 ≤ C ∧ C ≤ 10) (h0 : τ 0 = nI R) (h1 : τ 1 = nI C) (hd : 5 < d) (hq : cmd_at q o) (hk : τ o = 8) (hs : 0 < sp_sel (B 0) R C ↔ ¬ sp_sel (B 0) R C = 0) {e : Int32} {x : Int32} (hx : (rdy R C (sp_sel (B 0) R C) (cv o τ) t 8).1 = x) (hx0 : ¬ x = 0) : am_m d z_Runner_perform [.ref 5, .ref q, .int e] (dH h τ t B P) none (dH h (va_up (va_up (va_up (p8 τ) 6 x) 9 8) 10 e) (rdy R C (sp_sel (B 0) R C) (cv o τ) t 8).2 B P) := by
  have hk1 : p8 τ o = 8 := (va_up_ne _ _ (by have := cmd_o hq; omega)).trans hk
  have ha := c_ask8 (h := h) (τ := p8 τ) (t := t) (B := B) (P := P) (d := d - 1) hn hR hC h0 h1 (by omega) hq hk1 hs
  rw [show cv o (p8 τ) = cv o τ from cv_8 hq] at ha
  refine ev_go 2 (q := 2) rfl ?_
  refine ev_get (q := 5) rfl (d_5 hn) rfl rfl rfl ?_
  refine ev_go 2 (q := 7) (st' := .int (_ + 1) :: _ :: _) rfl ?_
  refine ev_put (q := 10) rfl (d_5 hn) rfl (Nat.le_of_ble_eq_true rfl) rfl rfl rfl ?_
  refine ev_hp du_5_3 ?_
  refine ev_go 1 (q := 11) rfl ?_
  refine ev_get (q := 14) rfl (d_5 hn) rfl rfl rfl ?_
  refine ev_go 2 (q := 16) rfl ?_
  refine ev_get (q := 19) rfl (d_5 hn) rfl rfl rfl ?_
  refine ev_virt (z' := z_Readiness_ask) (q := 22) rfl rfl (by decide) rfl (by simp [Value.category]) rfl (by omega) rfl rfl (d_6 hn) ha ?_
  refine ev_tp (y := x) hx ?_
  refine ev_go 2 (q := 24) rfl ?_
  refine ev_if_eq (t := 40) (q := 27) rfl rfl rfl (fun c => absurd c hx0) (fun zc1 => ?_)
  refine ev_go 3 (q := 30) rfl ?_
  refine ev_get (q := 33) rfl (d_cmd hn hq) rfl rfl rfl ?_
  refine ev_tp (y := 8) hk1 ?_
  refine ev_go 1 (q := 34) rfl ?_
  refine ev_virt (z' := z_Runner_fail) (q := 37) rfl rfl (by decide) rfl (by simp [Value.category]) rfl (by omega) rfl rfl (d_5 hn) (c_fail hn) ?_
  refine ev_go 1 (q := 68) rfl ?_
  exact ev_vret rfl rfl (rfl)
theorem c_pf8 (hn : 15 ≤ h.1) (hR : 1 ≤ R ∧ R ≤ 10) (hC : 1 ≤ C ∧ C ≤ 10) (h0 : τ 0 = nI R) (h1 : τ 1 = nI C) (hd : 5 < d) (hq : cmd_at q o) (hk : τ o = 8) (hs : 0 < sp_sel (B 0) R C ↔ ¬ sp_sel (B 0) R C = 0) {e : Int32} (hx : (rdy R C (sp_sel (B 0) R C) (cv o τ) t 8).1 = 0) (hc : am_m (d - 1) z_Painter_carryOut [.ref 8, .ref q] (dH h (p8 τ) (rdy R C (sp_sel (B 0) R C) (cv o τ) t 8).2 B P) none H) : am_m d z_Runner_perform [.ref 5, .ref q, .int e] (dH h τ t B P) none H := by
  have hk1 : p8 τ o = 8 := (va_up_ne _ _ (by have := cmd_o hq; omega)).trans hk
  have ha := c_ask8 (h := h) (τ := p8 τ) (t := t) (B := B) (P := P) (d := d - 1) hn hR hC h0 h1 (by omega) hq hk1 hs
  rw [show cv o (p8 τ) = cv o τ from cv_8 hq] at ha
  refine ev_go 2 (q := 2) rfl ?_
  refine ev_get (q := 5) rfl (d_5 hn) rfl rfl rfl ?_
  refine ev_go 2 (q := 7) (st' := .int (_ + 1) :: _ :: _) rfl ?_
  refine ev_put (q := 10) rfl (d_5 hn) rfl (Nat.le_of_ble_eq_true rfl) rfl rfl rfl ?_
  refine ev_hp du_5_3 ?_
  refine ev_go 1 (q := 11) rfl ?_
  refine ev_get (q := 14) rfl (d_5 hn) rfl rfl rfl ?_
  refine ev_go 2 (q := 16) rfl ?_
  refine ev_get (q := 19) rfl (d_5 hn) rfl rfl rfl ?_
  refine ev_virt (z' := z_Readiness_ask) (q := 22) rfl rfl (by decide) rfl (by simp [Value.category]) rfl (by omega) rfl rfl (d_6 hn) ha ?_
  refine ev_tp (y := 0) hx ?_
  refine ev_go 2 (q := 24) rfl ?_
  refine ev_if_eq (t := 40) (q := 27) rfl rfl rfl (fun _ => ?_) (fun c => absurd (by decide) c)
  refine ev_go 1 (q := 41) rfl ?_
  refine ev_get (q := 44) rfl (d_cmd hn hq) rfl rfl rfl ?_
  refine ev_tp (y := 8) hk1 ?_
  refine ev_go 1 (q := 46) (st' := .int 8 :: _ :: _) rfl ?_
  refine ev_icmp_gt (t := 60) (q := 49) rfl rfl rfl (fun c => absurd c (by decide)) (fun _ => ?_)
  refine ev_go 1 (q := 50) rfl ?_
  refine ev_get (q := 53) rfl (d_5 hn) rfl rfl rfl ?_
  refine ev_go 1 (q := 54) rfl ?_
  refine ev_virt (z' := z_Painter_carryOut) (q := 57) rfl rfl (by decide) rfl (by simp [Value.category]) rfl (by omega) rfl rfl (d_8 hn) hc ?_
  refine ev_go 1 (q := 68) rfl ?_
  exact ev_vret rfl rfl (rfl)
theorem c_pfF9 (hn : 15 ≤ h.1) (hR : 1 ≤ R ∧ R ≤ 10) (hC : 1 ≤ C ∧ C ≤ 10) (h0 : τ 0 = nI R) (h1 : τ 1 = nI C) (hd : 5 < d) (hq : cmd_at q o) (hk : τ o = 9) (hs : 0 < sp_sel (B 0) R C ↔ ¬ sp_sel (B 0) R C = 0) {e : Int32} {x : Int32} (hx : (rdy R C (sp_sel (B 0) R C) (cv o τ) t 9).1 = x) (hx0 : ¬ x = 0) : am_m d z_Runner_perform [.ref 5, .ref q, .int e] (dH h τ t B P) none (dH h (va_up (va_up (va_up (p8 τ) 6 x) 9 9) 10 e) (rdy R C (sp_sel (B 0) R C) (cv o τ) t 9).2 B P) := by
  have hk1 : p8 τ o = 9 := (va_up_ne _ _ (by have := cmd_o hq; omega)).trans hk
  have ha := c_ask9 (h := h) (τ := p8 τ) (t := t) (B := B) (P := P) (d := d - 1) hn hR hC h0 h1 (by omega) hq hk1 hs
  rw [show cv o (p8 τ) = cv o τ from cv_8 hq] at ha
  refine ev_go 2 (q := 2) rfl ?_
  refine ev_get (q := 5) rfl (d_5 hn) rfl rfl rfl ?_
  refine ev_go 2 (q := 7) (st' := .int (_ + 1) :: _ :: _) rfl ?_
  refine ev_put (q := 10) rfl (d_5 hn) rfl (Nat.le_of_ble_eq_true rfl) rfl rfl rfl ?_
  refine ev_hp du_5_3 ?_
  refine ev_go 1 (q := 11) rfl ?_
  refine ev_get (q := 14) rfl (d_5 hn) rfl rfl rfl ?_
  refine ev_go 2 (q := 16) rfl ?_
  refine ev_get (q := 19) rfl (d_5 hn) rfl rfl rfl ?_
  refine ev_virt (z' := z_Readiness_ask) (q := 22) rfl rfl (by decide) rfl (by simp [Value.category]) rfl (by omega) rfl rfl (d_6 hn) ha ?_
  refine ev_tp (y := x) hx ?_
  refine ev_go 2 (q := 24) rfl ?_
  refine ev_if_eq (t := 40) (q := 27) rfl rfl rfl (fun c => absurd c hx0) (fun zc1 => ?_)
  refine ev_go 3 (q := 30) rfl ?_
  refine ev_get (q := 33) rfl (d_cmd hn hq) rfl rfl rfl ?_
  refine ev_tp (y := 9) hk1 ?_
  refine ev_go 1 (q := 34) rfl ?_
  refine ev_virt (z' := z_Runner_fail) (q := 37) rfl rfl (by decide) rfl (by simp [Value.category]) rfl (by omega) rfl rfl (d_5 hn) (c_fail hn) ?_
  refine ev_go 1 (q := 68) rfl ?_
  exact ev_vret rfl rfl (rfl)
theorem c_pf9 (hn : 15 ≤ h.1) (hR : 1 ≤ R ∧ R ≤ 10) (hC : 1 ≤ C ∧ C ≤ 10) (h0 : τ 0 = nI R) (h1 : τ 1 = nI C) (hd : 5 < d) (hq : cmd_at q o) (hk : τ o = 9) (hs : 0 < sp_sel (B 0) R C ↔ ¬ sp_sel (B 0) R C = 0) {e : Int32} (hx : (rdy R C (sp_sel (B 0) R C) (cv o τ) t 9).1 = 0) (hc : am_m (d - 1) z_Looker_carryOut [.ref 11, .ref q] (dH h (p8 τ) (rdy R C (sp_sel (B 0) R C) (cv o τ) t 9).2 B P) none H) : am_m d z_Runner_perform [.ref 5, .ref q, .int e] (dH h τ t B P) none H := by
  have hk1 : p8 τ o = 9 := (va_up_ne _ _ (by have := cmd_o hq; omega)).trans hk
  have ha := c_ask9 (h := h) (τ := p8 τ) (t := t) (B := B) (P := P) (d := d - 1) hn hR hC h0 h1 (by omega) hq hk1 hs
  rw [show cv o (p8 τ) = cv o τ from cv_8 hq] at ha
  refine ev_go 2 (q := 2) rfl ?_
  refine ev_get (q := 5) rfl (d_5 hn) rfl rfl rfl ?_
  refine ev_go 2 (q := 7) (st' := .int (_ + 1) :: _ :: _) rfl ?_
  refine ev_put (q := 10) rfl (d_5 hn) rfl (Nat.le_of_ble_eq_true rfl) rfl rfl rfl ?_
  refine ev_hp du_5_3 ?_
  refine ev_go 1 (q := 11) rfl ?_
  refine ev_get (q := 14) rfl (d_5 hn) rfl rfl rfl ?_
  refine ev_go 2 (q := 16) rfl ?_
  refine ev_get (q := 19) rfl (d_5 hn) rfl rfl rfl ?_
  refine ev_virt (z' := z_Readiness_ask) (q := 22) rfl rfl (by decide) rfl (by simp [Value.category]) rfl (by omega) rfl rfl (d_6 hn) ha ?_
  refine ev_tp (y := 0) hx ?_
  refine ev_go 2 (q := 24) rfl ?_
  refine ev_if_eq (t := 40) (q := 27) rfl rfl rfl (fun _ => ?_) (fun c => absurd (by decide) c)
  refine ev_go 1 (q := 41) rfl ?_
  refine ev_get (q := 44) rfl (d_cmd hn hq) rfl rfl rfl ?_
  refine ev_tp (y := 9) hk1 ?_
  refine ev_go 1 (q := 46) (st' := .int 8 :: _ :: _) rfl ?_
  refine ev_icmp_gt (t := 60) (q := 49) rfl rfl rfl (fun _ => ?_) (fun c => absurd (by decide) c)
  refine ev_go 1 (q := 61) rfl ?_
  refine ev_get (q := 64) rfl (d_5 hn) rfl rfl rfl ?_
  refine ev_go 1 (q := 65) rfl ?_
  refine ev_virt (z' := z_Looker_carryOut) (q := 68) rfl rfl (by decide) rfl (by simp [Value.category]) rfl (by omega) rfl rfl (d_11 hn) hc ?_
  exact ev_vret rfl rfl (rfl)
theorem c_pfF10 (hn : 15 ≤ h.1) (hR : 1 ≤ R ∧ R ≤ 10) (hC : 1 ≤ C ∧ C ≤ 10) (h0 : τ 0 = nI R) (h1 : τ 1 = nI C) (hd : 5 < d) (hq : cmd_at q o) (hk : τ o = 10) (hs : 0 < sp_sel (B 0) R C ↔ ¬ sp_sel (B 0) R C = 0) {e : Int32} {x : Int32} (hx : (rdy R C (sp_sel (B 0) R C) (cv o τ) t 10).1 = x) (hx0 : ¬ x = 0) : am_m d z_Runner_perform [.ref 5, .ref q, .int e] (dH h τ t B P) none (dH h (va_up (va_up (va_up (p8 τ) 6 x) 9 10) 10 e) (rdy R C (sp_sel (B 0) R C) (cv o τ) t 10).2 B P) := by
  have hk1 : p8 τ o = 10 := (va_up_ne _ _ (by have := cmd_o hq; omega)).trans hk
  have ha := c_ask10 (h := h) (τ := p8 τ) (t := t) (B := B) (P := P) (d := d - 1) hn hR hC h0 h1 (by omega) hq hk1 hs
  rw [show cv o (p8 τ) = cv o τ from cv_8 hq] at ha
  refine ev_go 2 (q := 2) rfl ?_
  refine ev_get (q := 5) rfl (d_5 hn) rfl rfl rfl ?_
  refine ev_go 2 (q := 7) (st' := .int (_ + 1) :: _ :: _) rfl ?_
  refine ev_put (q := 10) rfl (d_5 hn) rfl (Nat.le_of_ble_eq_true rfl) rfl rfl rfl ?_
  refine ev_hp du_5_3 ?_
  refine ev_go 1 (q := 11) rfl ?_
  refine ev_get (q := 14) rfl (d_5 hn) rfl rfl rfl ?_
  refine ev_go 2 (q := 16) rfl ?_
  refine ev_get (q := 19) rfl (d_5 hn) rfl rfl rfl ?_
  refine ev_virt (z' := z_Readiness_ask) (q := 22) rfl rfl (by decide) rfl (by simp [Value.category]) rfl (by omega) rfl rfl (d_6 hn) ha ?_
  refine ev_tp (y := x) hx ?_
  refine ev_go 2 (q := 24) rfl ?_
  refine ev_if_eq (t := 40) (q := 27) rfl rfl rfl (fun c => absurd c hx0) (fun zc1 => ?_)
  refine ev_go 3 (q := 30) rfl ?_
  refine ev_get (q := 33) rfl (d_cmd hn hq) rfl rfl rfl ?_
  refine ev_tp (y := 10) hk1 ?_
  refine ev_go 1 (q := 34) rfl ?_
  refine ev_virt (z' := z_Runner_fail) (q := 37) rfl rfl (by decide) rfl (by simp [Value.category]) rfl (by omega) rfl rfl (d_5 hn) (c_fail hn) ?_
  refine ev_go 1 (q := 68) rfl ?_
  exact ev_vret rfl rfl (rfl)
theorem c_pf10 (hn : 15 ≤ h.1) (hR : 1 ≤ R ∧ R ≤ 10) (hC : 1 ≤ C ∧ C ≤ 10) (h0 : τ 0 = nI R) (h1 : τ 1 = nI C) (hd : 5 < d) (hq : cmd_at q o) (hk : τ o = 10) (hs : 0 < sp_sel (B 0) R C ↔ ¬ sp_sel (B 0) R C = 0) {e : Int32} (hx : (rdy R C (sp_sel (B 0) R C) (cv o τ) t 10).1 = 0) (hc : am_m (d - 1) z_Looker_carryOut [.ref 11, .ref q] (dH h (p8 τ) (rdy R C (sp_sel (B 0) R C) (cv o τ) t 10).2 B P) none H) : am_m d z_Runner_perform [.ref 5, .ref q, .int e] (dH h τ t B P) none H := by
  have hk1 : p8 τ o = 10 := (va_up_ne _ _ (by have := cmd_o hq; omega)).trans hk
  have ha := c_ask10 (h := h) (τ := p8 τ) (t := t) (B := B) (P := P) (d := d - 1) hn hR hC h0 h1 (by omega) hq hk1 hs
  rw [show cv o (p8 τ) = cv o τ from cv_8 hq] at ha
  refine ev_go 2 (q := 2) rfl ?_
  refine ev_get (q := 5) rfl (d_5 hn) rfl rfl rfl ?_
  refine ev_go 2 (q := 7) (st' := .int (_ + 1) :: _ :: _) rfl ?_
  refine ev_put (q := 10) rfl (d_5 hn) rfl (Nat.le_of_ble_eq_true rfl) rfl rfl rfl ?_
  refine ev_hp du_5_3 ?_
  refine ev_go 1 (q := 11) rfl ?_
  refine ev_get (q := 14) rfl (d_5 hn) rfl rfl rfl ?_
  refine ev_go 2 (q := 16) rfl ?_
  refine ev_get (q := 19) rfl (d_5 hn) rfl rfl rfl ?_
  refine ev_virt (z' := z_Readiness_ask) (q := 22) rfl rfl (by decide) rfl (by simp [Value.category]) rfl (by omega) rfl rfl (d_6 hn) ha ?_
  refine ev_tp (y := 0) hx ?_
  refine ev_go 2 (q := 24) rfl ?_
  refine ev_if_eq (t := 40) (q := 27) rfl rfl rfl (fun _ => ?_) (fun c => absurd (by decide) c)
  refine ev_go 1 (q := 41) rfl ?_
  refine ev_get (q := 44) rfl (d_cmd hn hq) rfl rfl rfl ?_
  refine ev_tp (y := 10) hk1 ?_
  refine ev_go 1 (q := 46) (st' := .int 8 :: _ :: _) rfl ?_
  refine ev_icmp_gt (t := 60) (q := 49) rfl rfl rfl (fun _ => ?_) (fun c => absurd (by decide) c)
  refine ev_go 1 (q := 61) rfl ?_
  refine ev_get (q := 64) rfl (d_5 hn) rfl rfl rfl ?_
  refine ev_go 1 (q := 65) rfl ?_
  refine ev_virt (z' := z_Looker_carryOut) (q := 68) rfl rfl (by decide) rfl (by simp [Value.category]) rfl (by omega) rfl rfl (d_11 hn) hc ?_
  exact ev_vret rfl rfl (rfl)
theorem c_pfF11 (hn : 15 ≤ h.1) (hR : 1 ≤ R ∧ R ≤ 10) (hC : 1 ≤ C ∧ C ≤ 10) (h0 : τ 0 = nI R) (h1 : τ 1 = nI C) (hd : 5 < d) (hq : cmd_at q o) (hk : τ o = 11) (hs : 0 < sp_sel (B 0) R C ↔ ¬ sp_sel (B 0) R C = 0) {e : Int32} {x : Int32} (hx : (rdy R C (sp_sel (B 0) R C) (cv o τ) t 11).1 = x) (hx0 : ¬ x = 0) : am_m d z_Runner_perform [.ref 5, .ref q, .int e] (dH h τ t B P) none (dH h (va_up (va_up (va_up (p8 τ) 6 x) 9 11) 10 e) (rdy R C (sp_sel (B 0) R C) (cv o τ) t 11).2 B P) := by
  have hk1 : p8 τ o = 11 := (va_up_ne _ _ (by have := cmd_o hq; omega)).trans hk
  have ha := c_ask11 (h := h) (τ := p8 τ) (t := t) (B := B) (P := P) (d := d - 1) hn hR hC h0 h1 (by omega) hq hk1 hs
  rw [show cv o (p8 τ) = cv o τ from cv_8 hq] at ha
  refine ev_go 2 (q := 2) rfl ?_
  refine ev_get (q := 5) rfl (d_5 hn) rfl rfl rfl ?_
  refine ev_go 2 (q := 7) (st' := .int (_ + 1) :: _ :: _) rfl ?_
  refine ev_put (q := 10) rfl (d_5 hn) rfl (Nat.le_of_ble_eq_true rfl) rfl rfl rfl ?_
  refine ev_hp du_5_3 ?_
  refine ev_go 1 (q := 11) rfl ?_
  refine ev_get (q := 14) rfl (d_5 hn) rfl rfl rfl ?_
  refine ev_go 2 (q := 16) rfl ?_
  refine ev_get (q := 19) rfl (d_5 hn) rfl rfl rfl ?_
  refine ev_virt (z' := z_Readiness_ask) (q := 22) rfl rfl (by decide) rfl (by simp [Value.category]) rfl (by omega) rfl rfl (d_6 hn) ha ?_
  refine ev_tp (y := x) hx ?_
  refine ev_go 2 (q := 24) rfl ?_
  refine ev_if_eq (t := 40) (q := 27) rfl rfl rfl (fun c => absurd c hx0) (fun zc1 => ?_)
  refine ev_go 3 (q := 30) rfl ?_
  refine ev_get (q := 33) rfl (d_cmd hn hq) rfl rfl rfl ?_
  refine ev_tp (y := 11) hk1 ?_
  refine ev_go 1 (q := 34) rfl ?_
  refine ev_virt (z' := z_Runner_fail) (q := 37) rfl rfl (by decide) rfl (by simp [Value.category]) rfl (by omega) rfl rfl (d_5 hn) (c_fail hn) ?_
  refine ev_go 1 (q := 68) rfl ?_
  exact ev_vret rfl rfl (rfl)
theorem c_pf11 (hn : 15 ≤ h.1) (hR : 1 ≤ R ∧ R ≤ 10) (hC : 1 ≤ C ∧ C ≤ 10) (h0 : τ 0 = nI R) (h1 : τ 1 = nI C) (hd : 5 < d) (hq : cmd_at q o) (hk : τ o = 11) (hs : 0 < sp_sel (B 0) R C ↔ ¬ sp_sel (B 0) R C = 0) {e : Int32} (hx : (rdy R C (sp_sel (B 0) R C) (cv o τ) t 11).1 = 0) (hc : am_m (d - 1) z_Looker_carryOut [.ref 11, .ref q] (dH h (p8 τ) (rdy R C (sp_sel (B 0) R C) (cv o τ) t 11).2 B P) none H) : am_m d z_Runner_perform [.ref 5, .ref q, .int e] (dH h τ t B P) none H := by
  have hk1 : p8 τ o = 11 := (va_up_ne _ _ (by have := cmd_o hq; omega)).trans hk
  have ha := c_ask11 (h := h) (τ := p8 τ) (t := t) (B := B) (P := P) (d := d - 1) hn hR hC h0 h1 (by omega) hq hk1 hs
  rw [show cv o (p8 τ) = cv o τ from cv_8 hq] at ha
  refine ev_go 2 (q := 2) rfl ?_
  refine ev_get (q := 5) rfl (d_5 hn) rfl rfl rfl ?_
  refine ev_go 2 (q := 7) (st' := .int (_ + 1) :: _ :: _) rfl ?_
  refine ev_put (q := 10) rfl (d_5 hn) rfl (Nat.le_of_ble_eq_true rfl) rfl rfl rfl ?_
  refine ev_hp du_5_3 ?_
  refine ev_go 1 (q := 11) rfl ?_
  refine ev_get (q := 14) rfl (d_5 hn) rfl rfl rfl ?_
  refine ev_go 2 (q := 16) rfl ?_
  refine ev_get (q := 19) rfl (d_5 hn) rfl rfl rfl ?_
  refine ev_virt (z' := z_Readiness_ask) (q := 22) rfl rfl (by decide) rfl (by simp [Value.category]) rfl (by omega) rfl rfl (d_6 hn) ha ?_
  refine ev_tp (y := 0) hx ?_
  refine ev_go 2 (q := 24) rfl ?_
  refine ev_if_eq (t := 40) (q := 27) rfl rfl rfl (fun _ => ?_) (fun c => absurd (by decide) c)
  refine ev_go 1 (q := 41) rfl ?_
  refine ev_get (q := 44) rfl (d_cmd hn hq) rfl rfl rfl ?_
  refine ev_tp (y := 11) hk1 ?_
  refine ev_go 1 (q := 46) (st' := .int 8 :: _ :: _) rfl ?_
  refine ev_icmp_gt (t := 60) (q := 49) rfl rfl rfl (fun _ => ?_) (fun c => absurd (by decide) c)
  refine ev_go 1 (q := 61) rfl ?_
  refine ev_get (q := 64) rfl (d_5 hn) rfl rfl rfl ?_
  refine ev_go 1 (q := 65) rfl ?_
  refine ev_virt (z' := z_Looker_carryOut) (q := 68) rfl rfl (by decide) rfl (by simp [Value.category]) rfl (by omega) rfl rfl (d_11 hn) hc ?_
  exact ev_vret rfl rfl (rfl)
theorem c_pfF12 (hn : 15 ≤ h.1) (hR : 1 ≤ R ∧ R ≤ 10) (hC : 1 ≤ C ∧ C ≤ 10) (h0 : τ 0 = nI R) (h1 : τ 1 = nI C) (hd : 5 < d) (hq : cmd_at q o) (hk : τ o = 12) (hs : 0 < sp_sel (B 0) R C ↔ ¬ sp_sel (B 0) R C = 0) {e : Int32} {x : Int32} (hx : (rdy R C (sp_sel (B 0) R C) (cv o τ) t 12).1 = x) (hx0 : ¬ x = 0) : am_m d z_Runner_perform [.ref 5, .ref q, .int e] (dH h τ t B P) none (dH h (va_up (va_up (va_up (p8 τ) 6 x) 9 12) 10 e) (rdy R C (sp_sel (B 0) R C) (cv o τ) t 12).2 B P) := by
  have hk1 : p8 τ o = 12 := (va_up_ne _ _ (by have := cmd_o hq; omega)).trans hk
  have ha := c_ask12 (h := h) (τ := p8 τ) (t := t) (B := B) (P := P) (d := d - 1) hn hR hC h0 h1 (by omega) hq hk1 hs
  rw [show cv o (p8 τ) = cv o τ from cv_8 hq] at ha
  refine ev_go 2 (q := 2) rfl ?_
  refine ev_get (q := 5) rfl (d_5 hn) rfl rfl rfl ?_
  refine ev_go 2 (q := 7) (st' := .int (_ + 1) :: _ :: _) rfl ?_
  refine ev_put (q := 10) rfl (d_5 hn) rfl (Nat.le_of_ble_eq_true rfl) rfl rfl rfl ?_
  refine ev_hp du_5_3 ?_
  refine ev_go 1 (q := 11) rfl ?_
  refine ev_get (q := 14) rfl (d_5 hn) rfl rfl rfl ?_
  refine ev_go 2 (q := 16) rfl ?_
  refine ev_get (q := 19) rfl (d_5 hn) rfl rfl rfl ?_
  refine ev_virt (z' := z_Readiness_ask) (q := 22) rfl rfl (by decide) rfl (by simp [Value.category]) rfl (by omega) rfl rfl (d_6 hn) ha ?_
  refine ev_tp (y := x) hx ?_
  refine ev_go 2 (q := 24) rfl ?_
  refine ev_if_eq (t := 40) (q := 27) rfl rfl rfl (fun c => absurd c hx0) (fun zc1 => ?_)
  refine ev_go 3 (q := 30) rfl ?_
  refine ev_get (q := 33) rfl (d_cmd hn hq) rfl rfl rfl ?_
  refine ev_tp (y := 12) hk1 ?_
  refine ev_go 1 (q := 34) rfl ?_
  refine ev_virt (z' := z_Runner_fail) (q := 37) rfl rfl (by decide) rfl (by simp [Value.category]) rfl (by omega) rfl rfl (d_5 hn) (c_fail hn) ?_
  refine ev_go 1 (q := 68) rfl ?_
  exact ev_vret rfl rfl (rfl)
theorem c_pf12 (hn : 15 ≤ h.1) (hR : 1 ≤ R ∧ R ≤ 10) (hC : 1 ≤ C ∧ C ≤ 10) (h0 : τ 0 = nI R) (h1 : τ 1 = nI C) (hd : 5 < d) (hq : cmd_at q o) (hk : τ o = 12) (hs : 0 < sp_sel (B 0) R C ↔ ¬ sp_sel (B 0) R C = 0) {e : Int32} (hx : (rdy R C (sp_sel (B 0) R C) (cv o τ) t 12).1 = 0) (hc : am_m (d - 1) z_Looker_carryOut [.ref 11, .ref q] (dH h (p8 τ) (rdy R C (sp_sel (B 0) R C) (cv o τ) t 12).2 B P) none H) : am_m d z_Runner_perform [.ref 5, .ref q, .int e] (dH h τ t B P) none H := by
  have hk1 : p8 τ o = 12 := (va_up_ne _ _ (by have := cmd_o hq; omega)).trans hk
  have ha := c_ask12 (h := h) (τ := p8 τ) (t := t) (B := B) (P := P) (d := d - 1) hn hR hC h0 h1 (by omega) hq hk1 hs
  rw [show cv o (p8 τ) = cv o τ from cv_8 hq] at ha
  refine ev_go 2 (q := 2) rfl ?_
  refine ev_get (q := 5) rfl (d_5 hn) rfl rfl rfl ?_
  refine ev_go 2 (q := 7) (st' := .int (_ + 1) :: _ :: _) rfl ?_
  refine ev_put (q := 10) rfl (d_5 hn) rfl (Nat.le_of_ble_eq_true rfl) rfl rfl rfl ?_
  refine ev_hp du_5_3 ?_
  refine ev_go 1 (q := 11) rfl ?_
  refine ev_get (q := 14) rfl (d_5 hn) rfl rfl rfl ?_
  refine ev_go 2 (q := 16) rfl ?_
  refine ev_get (q := 19) rfl (d_5 hn) rfl rfl rfl ?_
  refine ev_virt (z' := z_Readiness_ask) (q := 22) rfl rfl (by decide) rfl (by simp [Value.category]) rfl (by omega) rfl rfl (d_6 hn) ha ?_
  refine ev_tp (y := 0) hx ?_
  refine ev_go 2 (q := 24) rfl ?_
  refine ev_if_eq (t := 40) (q := 27) rfl rfl rfl (fun _ => ?_) (fun c => absurd (by decide) c)
  refine ev_go 1 (q := 41) rfl ?_
  refine ev_get (q := 44) rfl (d_cmd hn hq) rfl rfl rfl ?_
  refine ev_tp (y := 12) hk1 ?_
  refine ev_go 1 (q := 46) (st' := .int 8 :: _ :: _) rfl ?_
  refine ev_icmp_gt (t := 60) (q := 49) rfl rfl rfl (fun _ => ?_) (fun c => absurd (by decide) c)
  refine ev_go 1 (q := 61) rfl ?_
  refine ev_get (q := 64) rfl (d_5 hn) rfl rfl rfl ?_
  refine ev_go 1 (q := 65) rfl ?_
  refine ev_virt (z' := z_Looker_carryOut) (q := 68) rfl rfl (by decide) rfl (by simp [Value.category]) rfl (by omega) rfl rfl (d_11 hn) hc ?_
  exact ev_vret rfl rfl (rfl)
end D9
