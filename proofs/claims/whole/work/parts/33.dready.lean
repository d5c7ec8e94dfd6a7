/-! the class: commands, readiness, the looker -/
section D2
variable {d : Nat} {h h' : am_H} {res : Option Value} {τ : Nat → Int32} {t : Int64} {B : Nat → Nat → Int32} {P : Nat → Nat → Option Nat} {R C u q o : Nat}
theorem c_put0 (hn : 15 ≤ h.1) (hq : cmd_at q o) {x : Int32} : am_m d z_Command_put [.ref q, .int 0, .int x] (dH h τ t B P) none (dH h (va_up τ (o + 1) x) t B P) := by
  refine ev_go 4 (q := 34) rfl ?_
  refine ev_put (q := 37) rfl (d_cmd hn hq) rfl (Nat.le_of_ble_eq_true rfl) rfl rfl rfl ?_
  refine ev_hp (du_q_1 hq) ?_
  refine ev_go 1 (q := 69) rfl ?_
  exact ev_vret rfl rfl (rfl)
theorem c_put1 (hn : 15 ≤ h.1) (hq : cmd_at q o) {x : Int32} : am_m d z_Command_put [.ref q, .int 1, .int x] (dH h τ t B P) none (dH h (va_up τ (o + 2) x) t B P) := by
  refine ev_go 4 (q := 42) rfl ?_
  refine ev_put (q := 45) rfl (d_cmd hn hq) rfl (Nat.le_of_ble_eq_true rfl) rfl rfl rfl ?_
  refine ev_hp (du_q_2 hq) ?_
  refine ev_go 1 (q := 69) rfl ?_
  exact ev_vret rfl rfl (rfl)
theorem c_put2 (hn : 15 ≤ h.1) (hq : cmd_at q o) {x : Int32} : am_m d z_Command_put [.ref q, .int 2, .int x] (dH h τ t B P) none (dH h (va_up τ (o + 3) x) t B P) := by
  refine ev_go 4 (q := 50) rfl ?_
  refine ev_put (q := 53) rfl (d_cmd hn hq) rfl (Nat.le_of_ble_eq_true rfl) rfl rfl rfl ?_
  refine ev_hp (du_q_3 hq) ?_
  refine ev_go 1 (q := 69) rfl ?_
  exact ev_vret rfl rfl (rfl)
theorem c_put3 (hn : 15 ≤ h.1) (hq : cmd_at q o) {x : Int32} : am_m d z_Command_put [.ref q, .int 3, .int x] (dH h τ t B P) none (dH h (va_up τ (o + 4) x) t B P) := by
  refine ev_go 4 (q := 58) rfl ?_
  refine ev_put (q := 61) rfl (d_cmd hn hq) rfl (Nat.le_of_ble_eq_true rfl) rfl rfl rfl ?_
  refine ev_hp (du_q_4 hq) ?_
  refine ev_go 1 (q := 69) rfl ?_
  exact ev_vret rfl rfl (rfl)
theorem c_put4 (hn : 15 ≤ h.1) (hq : cmd_at q o) {x : Int32} : am_m d z_Command_put [.ref q, .int 4, .int x] (dH h τ t B P) none (dH h (va_up τ (o + 5) x) t B P) := by
  refine ev_go 4 (q := 66) rfl ?_
  refine ev_put (q := 69) rfl (d_cmd hn hq) rfl (Nat.le_of_ble_eq_true rfl) rfl rfl rfl ?_
  refine ev_hp (du_q_5 hq) ?_
  exact ev_vret rfl rfl (rfl)
theorem c_put (hn : 15 ≤ h.1) (hq : cmd_at q o) {x : Int32} : ∀ {k : Nat}, k < 5 → am_m d z_Command_put [.ref q, .int (nI k), .int x] (dH h τ t B P) none (dH h (va_up τ (o + (k + 1)) x) t B P)
  | 0, _ => c_put0 hn hq
  | 1, _ => c_put1 hn hq
  | 2, _ => c_put2 hn hq
  | 3, _ => c_put3 hn hq
  | 4, _ => c_put4 hn hq
def cf_τ (o : Nat) (k : Int32) (g : Nat → Int32) (τ : Nat → Int32) : Nat → Int32 := va_up (va_up (va_up (va_up (va_up (va_up τ o k) (o + 1) (g 0)) (o + 2) (g 1)) (o + 3) (g 2)) (o + 4) (g 3)) (o + 5) (g 4)
theorem c_fillIn (hn : 15 ≤ h.1) (hd : 0 < d) (hq : cmd_at q o) {k : Int32} {a : Nat} {g : Nat → Int32} (ha : 15 ≤ a) (hg : am_is h a (am_ia 5 g)) : am_m d z_Command_fillIn [.ref q, .int k, .ref a] (dH h τ t B P) none (dH h (cf_τ o k g τ) t B P) := by
  refine ev_go 2 (q := 2) rfl ?_
  refine ev_put (q := 5) rfl (d_cmd hn hq) rfl (Nat.le_of_ble_eq_true rfl) rfl rfl rfl ?_
  refine ev_hp (du_q_0 hq) ?_
  refine ev_go 4 (q := 9) (st' := .int 5 :: _ :: _) rfl ?_
  rw [show Int32.ofInt 0 = nI 0 from rfl]
  refine ev_icmp_ge (t := 36) (q := 12) rfl rfl rfl (fun c => absurd c (by decide)) (fun _ => ?_)
  refine ev_go 4 (q := 16) rfl ?_
  refine ev_alen (v := 5) (q := 17) rfl (dH_ge ha hg) (by decide) rfl rfl ?_
  refine ev_icmp_ge (t := 26) (q := 20) rfl rfl rfl (fun c => absurd c (by decide)) (fun _ => ?_)
  refine ev_go 2 (q := 22) rfl ?_
  refine ev_ialdn (q := 23) rfl (dH_ge ha hg) rfl (show 0 < 5 by decide) (by decide) rfl ?_
  refine ev_go 1 (q := 27) rfl ?_
  refine ev_virt (z' := z_Command_put) (q := 30) rfl rfl (by decide) rfl (by simp [Value.category]) rfl (by omega) rfl rfl (d_cmd hn hq) (c_put (k := 0) hn hq (by decide)) ?_
  refine ev_go 2 (q := 7) rfl ?_
  rw [nI_s]
  refine ev_go 2 (q := 9) (st' := .int 5 :: _) rfl ?_
  refine ev_icmp_ge (t := 36) (q := 12) rfl rfl rfl (fun c => absurd c (by decide)) (fun _ => ?_)
  refine ev_go 4 (q := 16) rfl ?_
  refine ev_alen (v := 5) (q := 17) rfl (dH_ge ha hg) (by decide) rfl rfl ?_
  refine ev_icmp_ge (t := 26) (q := 20) rfl rfl rfl (fun c => absurd c (by decide)) (fun _ => ?_)
  refine ev_go 2 (q := 22) rfl ?_
  refine ev_ialdn (q := 23) rfl (dH_ge ha hg) rfl (show 1 < 5 by decide) (by decide) rfl ?_
  refine ev_go 1 (q := 27) rfl ?_
  refine ev_virt (z' := z_Command_put) (q := 30) rfl rfl (by decide) rfl (by simp [Value.category]) rfl (by omega) rfl rfl (d_cmd hn hq) (c_put (k := 1) hn hq (by decide)) ?_
  refine ev_go 2 (q := 7) rfl ?_
  rw [nI_s]
  refine ev_go 2 (q := 9) (st' := .int 5 :: _) rfl ?_
  refine ev_icmp_ge (t := 36) (q := 12) rfl rfl rfl (fun c => absurd c (by decide)) (fun _ => ?_)
  refine ev_go 4 (q := 16) rfl ?_
  refine ev_alen (v := 5) (q := 17) rfl (dH_ge ha hg) (by decide) rfl rfl ?_
  refine ev_icmp_ge (t := 26) (q := 20) rfl rfl rfl (fun c => absurd c (by decide)) (fun _ => ?_)
  refine ev_go 2 (q := 22) rfl ?_
  refine ev_ialdn (q := 23) rfl (dH_ge ha hg) rfl (show 2 < 5 by decide) (by decide) rfl ?_
  refine ev_go 1 (q := 27) rfl ?_
  refine ev_virt (z' := z_Command_put) (q := 30) rfl rfl (by decide) rfl (by simp [Value.category]) rfl (by omega) rfl rfl (d_cmd hn hq) (c_put (k := 2) hn hq (by decide)) ?_
  refine ev_go 2 (q := 7) rfl ?_
  rw [nI_s]
  refine ev_go 2 (q := 9) (st' := .int 5 :: _) rfl ?_
  refine ev_icmp_ge (t := 36) (q := 12) rfl rfl rfl (fun c => absurd c (by decide)) (fun _ => ?_)
  refine ev_go 4 (q := 16) rfl ?_
  refine ev_alen (v := 5) (q := 17) rfl (dH_ge ha hg) (by decide) rfl rfl ?_
  refine ev_icmp_ge (t := 26) (q := 20) rfl rfl rfl (fun c => absurd c (by decide)) (fun _ => ?_)
  refine ev_go 2 (q := 22) rfl ?_
  refine ev_ialdn (q := 23) rfl (dH_ge ha hg) rfl (show 3 < 5 by decide) (by decide) rfl ?_
  refine ev_go 1 (q := 27) rfl ?_
  refine ev_virt (z' := z_Command_put) (q := 30) rfl rfl (by decide) rfl (by simp [Value.category]) rfl (by omega) rfl rfl (d_cmd hn hq) (c_put (k := 3) hn hq (by decide)) ?_
  refine ev_go 2 (q := 7) rfl ?_
  rw [nI_s]
  refine ev_go 2 (q := 9) (st' := .int 5 :: _) rfl ?_
  refine ev_icmp_ge (t := 36) (q := 12) rfl rfl rfl (fun c => absurd c (by decide)) (fun _ => ?_)
  refine ev_go 4 (q := 16) rfl ?_
  refine ev_alen (v := 5) (q := 17) rfl (dH_ge ha hg) (by decide) rfl rfl ?_
  refine ev_icmp_ge (t := 26) (q := 20) rfl rfl rfl (fun c => absurd c (by decide)) (fun _ => ?_)
  refine ev_go 2 (q := 22) rfl ?_
  refine ev_ialdn (q := 23) rfl (dH_ge ha hg) rfl (show 4 < 5 by decide) (by decide) rfl ?_
  refine ev_go 1 (q := 27) rfl ?_
  refine ev_virt (z' := z_Command_put) (q := 30) rfl rfl (by decide) rfl (by simp [Value.category]) rfl (by omega) rfl rfl (d_cmd hn hq) (c_put (k := 4) hn hq (by decide)) ?_
  refine ev_go 2 (q := 7) rfl ?_
  rw [nI_s]
  refine ev_go 2 (q := 9) (st' := .int 5 :: _) rfl ?_
  refine ev_icmp_ge (t := 36) (q := 12) rfl rfl rfl (fun _ => ?_) (fun c => absurd (by decide) c)
  exact ev_vret rfl rfl rfl
abbrev cv (o : Nat) (τ : Nat → Int32) : Nat → Int32 := fun j => τ (o + (j + 1))
theorem c_fw0 (hn : 15 ≤ h.1) (hd : 1 < d) (hq : cmd_at q o) (hk : τ o = 0) : am_m d z_Readiness_hasFitWools [.ref 6, .ref q] (dH h τ t B P) (some (.int (am_b (bt 0 (cv o τ 4) 9)))) (dH h τ t B P) := by
  refine ev_go 1 (q := 1) rfl ?_
  refine ev_get (q := 4) rfl (d_cmd hn hq) rfl rfl rfl ?_
  refine ev_tp (y := 0) hk ?_
  refine ev_go 2 (q := 53) rfl ?_
  refine ev_get (q := 56) rfl (d_cmd hn hq) rfl rfl rfl ?_
  refine ev_static (z' := z_Desk_isWool) (q := 59) rfl rfl (by decide) rfl rfl (by simp [Value.category]) rfl (by omega) (k_isWool _) ?_
  exact ev_zret rfl rfl (by first | exact Or.inl rfl | exact Or.inr rfl | exact am_b01) (rfl) (rfl)
theorem c_fw1 (hn : 15 ≤ h.1) (hd : 1 < d) (hq : cmd_at q o) (hk : τ o = 1) : am_m d z_Readiness_hasFitWools [.ref 6, .ref q] (dH h τ t B P) (some (.int (am_b (bt 0 (cv o τ 4) 9)))) (dH h τ t B P) := by
  refine ev_go 1 (q := 1) rfl ?_
  refine ev_get (q := 4) rfl (d_cmd hn hq) rfl rfl rfl ?_
  refine ev_tp (y := 1) hk ?_
  refine ev_go 2 (q := 53) rfl ?_
  refine ev_get (q := 56) rfl (d_cmd hn hq) rfl rfl rfl ?_
  refine ev_static (z' := z_Desk_isWool) (q := 59) rfl rfl (by decide) rfl rfl (by simp [Value.category]) rfl (by omega) (k_isWool _) ?_
  exact ev_zret rfl rfl (by first | exact Or.inl rfl | exact Or.inr rfl | exact am_b01) (rfl) (rfl)
theorem c_fw2 (hn : 15 ≤ h.1) (hd : 1 < d) (hq : cmd_at q o) (hk : τ o = 2) : am_m d z_Readiness_hasFitWools [.ref 6, .ref q] (dH h τ t B P) (some (.int (am_b (bt 0 (cv o τ 4) 9)))) (dH h τ t B P) := by
  refine ev_go 1 (q := 1) rfl ?_
  refine ev_get (q := 4) rfl (d_cmd hn hq) rfl rfl rfl ?_
  refine ev_tp (y := 2) hk ?_
  refine ev_go 2 (q := 53) rfl ?_
  refine ev_get (q := 56) rfl (d_cmd hn hq) rfl rfl rfl ?_
  refine ev_static (z' := z_Desk_isWool) (q := 59) rfl rfl (by decide) rfl rfl (by simp [Value.category]) rfl (by omega) (k_isWool _) ?_
  exact ev_zret rfl rfl (by first | exact Or.inl rfl | exact Or.inr rfl | exact am_b01) (rfl) (rfl)
theorem c_fw3 (hn : 15 ≤ h.1) (hd : 1 < d) (hq : cmd_at q o) (hk : τ o = 3) : am_m d z_Readiness_hasFitWools [.ref 6, .ref q] (dH h τ t B P) (some (.int (am_b (bt 0 (cv o τ 4) 9)))) (dH h τ t B P) := by
  refine ev_go 1 (q := 1) rfl ?_
  refine ev_get (q := 4) rfl (d_cmd hn hq) rfl rfl rfl ?_
  refine ev_tp (y := 3) hk ?_
  refine ev_go 2 (q := 53) rfl ?_
  refine ev_get (q := 56) rfl (d_cmd hn hq) rfl rfl rfl ?_
  refine ev_static (z' := z_Desk_isWool) (q := 59) rfl rfl (by decide) rfl rfl (by simp [Value.category]) rfl (by omega) (k_isWool _) ?_
  exact ev_zret rfl rfl (by first | exact Or.inl rfl | exact Or.inr rfl | exact am_b01) (rfl) (rfl)
theorem c_fw4 (hn : 15 ≤ h.1) (hd : 1 < d) (hq : cmd_at q o) (hk : τ o = 4) : am_m d z_Readiness_hasFitWools [.ref 6, .ref q] (dH h τ t B P) (some (.int (am_b (True)))) (dH h τ t B P) := by
  refine ev_go 1 (q := 1) rfl ?_
  refine ev_get (q := 4) rfl (d_cmd hn hq) rfl rfl rfl ?_
  refine ev_tp (y := 4) hk ?_
  refine ev_go 2 (q := 87) (st' := .int 1 :: _) rfl ?_
  exact ev_zret rfl rfl (by first | exact Or.inl rfl | exact Or.inr rfl | exact am_b01) ((am_b1 trivial).symm) (rfl)
theorem c_fw5 (hn : 15 ≤ h.1) (hd : 1 < d) (hq : cmd_at q o) (hk : τ o = 5) : am_m d z_Readiness_hasFitWools [.ref 6, .ref q] (dH h τ t B P) (some (.int (am_b (True)))) (dH h τ t B P) := by
  refine ev_go 1 (q := 1) rfl ?_
  refine ev_get (q := 4) rfl (d_cmd hn hq) rfl rfl rfl ?_
  refine ev_tp (y := 5) hk ?_
  refine ev_go 2 (q := 87) (st' := .int 1 :: _) rfl ?_
  exact ev_zret rfl rfl (by first | exact Or.inl rfl | exact Or.inr rfl | exact am_b01) ((am_b1 trivial).symm) (rfl)
theorem c_fw6 (hn : 15 ≤ h.1) (hd : 1 < d) (hq : cmd_at q o) (hk : τ o = 6) : am_m d z_Readiness_hasFitWools [.ref 6, .ref q] (dH h τ t B P) (some (.int (am_b (bt 0 (cv o τ 4) 9)))) (dH h τ t B P) := by
  refine ev_go 1 (q := 1) rfl ?_
  refine ev_get (q := 4) rfl (d_cmd hn hq) rfl rfl rfl ?_
  refine ev_tp (y := 6) hk ?_
  refine ev_go 2 (q := 53) rfl ?_
  refine ev_get (q := 56) rfl (d_cmd hn hq) rfl rfl rfl ?_
  refine ev_static (z' := z_Desk_isWool) (q := 59) rfl rfl (by decide) rfl rfl (by simp [Value.category]) rfl (by omega) (k_isWool _) ?_
  exact ev_zret rfl rfl (by first | exact Or.inl rfl | exact Or.inr rfl | exact am_b01) (rfl) (rfl)
theorem c_fw7 (hn : 15 ≤ h.1) (hd : 1 < d) (hq : cmd_at q o) (hk : τ o = 7) : am_m d z_Readiness_hasFitWools [.ref 6, .ref q] (dH h τ t B P) (some (.int (am_b (bt 0 (cv o τ 0) 9 ∧ bt 0 (cv o τ 1) 9)))) (dH h τ t B P) := by
  refine ev_go 1 (q := 1) rfl ?_
  refine ev_get (q := 4) rfl (d_cmd hn hq) rfl rfl rfl ?_
  refine ev_tp (y := 7) hk ?_
  refine ev_go 2 (q := 61) rfl ?_
  refine ev_get (q := 64) rfl (d_cmd hn hq) rfl rfl rfl ?_
  refine ev_static (z' := z_Desk_isWool) (q := 67) rfl rfl (by decide) rfl rfl (by simp [Value.category]) rfl (by omega) (k_isWool _) ?_
  refine ev_if_eq (t := 84) (q := 70) rfl rfl rfl (fun zc1 => ?_) (fun zc1 => ?_)
  · refine ev_go 1 (q := 85) (st' := .int 0 :: _) rfl ?_
    exact ev_zret rfl rfl (by first | exact Or.inl rfl | exact Or.inr rfl | exact am_b01) (by first | exact (am_b1 ⟨am_bn.mp zc1, am_bn.mp zc2⟩).symm | exact (am_bz (fun z => am_b0.mp zc1 z.1)).symm | exact (am_bz (fun z => am_b0.mp zc2 z.2)).symm) (rfl)
  · refine ev_go 1 (q := 71) rfl ?_
    refine ev_get (q := 74) rfl (d_cmd hn hq) rfl rfl rfl ?_
    refine ev_static (z' := z_Desk_isWool) (q := 77) rfl rfl (by decide) rfl rfl (by simp [Value.category]) rfl (by omega) (k_isWool _) ?_
    refine ev_if_eq (t := 84) (q := 80) rfl rfl rfl (fun zc2 => ?_) (fun zc2 => ?_)
    · refine ev_go 1 (q := 85) (st' := .int 0 :: _) rfl ?_
      exact ev_zret rfl rfl (by first | exact Or.inl rfl | exact Or.inr rfl | exact am_b01) (by first | exact (am_b1 ⟨am_bn.mp zc1, am_bn.mp zc2⟩).symm | exact (am_bz (fun z => am_b0.mp zc1 z.1)).symm | exact (am_bz (fun z => am_b0.mp zc2 z.2)).symm) (rfl)
    · refine ev_go 2 (q := 85) (st' := .int 1 :: _) rfl ?_
      exact ev_zret rfl rfl (by first | exact Or.inl rfl | exact Or.inr rfl | exact am_b01) (by first | exact (am_b1 ⟨am_bn.mp zc1, am_bn.mp zc2⟩).symm | exact (am_bz (fun z => am_b0.mp zc1 z.1)).symm | exact (am_bz (fun z => am_b0.mp zc2 z.2)).symm) (rfl)
theorem c_fw8 (hn : 15 ≤ h.1) (hd : 1 < d) (hq : cmd_at q o) (hk : τ o = 8) : am_m d z_Readiness_hasFitWools [.ref 6, .ref q] (dH h τ t B P) (some (.int (am_b (True)))) (dH h τ t B P) := by
  refine ev_go 1 (q := 1) rfl ?_
  refine ev_get (q := 4) rfl (d_cmd hn hq) rfl rfl rfl ?_
  refine ev_tp (y := 8) hk ?_
  refine ev_go 2 (q := 87) (st' := .int 1 :: _) rfl ?_
  exact ev_zret rfl rfl (by first | exact Or.inl rfl | exact Or.inr rfl | exact am_b01) ((am_b1 trivial).symm) (rfl)
theorem c_fn0 (hn : 15 ≤ h.1) (hd : 1 < d) (hq : cmd_at q o) (hk : τ o = 0) : am_m d z_Readiness_hasFitNumbers [.ref 6, .ref q] (dH h τ t B P) (some (.int (am_b (True)))) (dH h τ t B P) := by
  refine ev_go 1 (q := 1) rfl ?_
  refine ev_get (q := 4) rfl (d_cmd hn hq) rfl rfl rfl ?_
  refine ev_tp (y := 0) hk ?_
  refine ev_go 2 (q := 179) (st' := .int 1 :: _) rfl ?_
  exact ev_zret rfl rfl (by first | exact Or.inl rfl | exact Or.inr rfl | exact am_b01) ((am_b1 trivial).symm) (rfl)
theorem c_fn1 (hn : 15 ≤ h.1) (hd : 1 < d) (hq : cmd_at q o) (hk : τ o = 1) : am_m d z_Readiness_hasFitNumbers [.ref 6, .ref q] (dH h τ t B P) (some (.int (am_b (True)))) (dH h τ t B P) := by
  refine ev_go 1 (q := 1) rfl ?_
  refine ev_get (q := 4) rfl (d_cmd hn hq) rfl rfl rfl ?_
  refine ev_tp (y := 1) hk ?_
  refine ev_go 2 (q := 179) (st' := .int 1 :: _) rfl ?_
  exact ev_zret rfl rfl (by first | exact Or.inl rfl | exact Or.inr rfl | exact am_b01) ((am_b1 trivial).symm) (rfl)
theorem c_fn2 (hn : 15 ≤ h.1) (hd : 1 < d) (hq : cmd_at q o) (hk : τ o = 2) : am_m d z_Readiness_hasFitNumbers [.ref 6, .ref q] (dH h τ t B P) (some (.int (am_b (True)))) (dH h τ t B P) := by
  refine ev_go 1 (q := 1) rfl ?_
  refine ev_get (q := 4) rfl (d_cmd hn hq) rfl rfl rfl ?_
  refine ev_tp (y := 2) hk ?_
  refine ev_go 2 (q := 179) (st' := .int 1 :: _) rfl ?_
  exact ev_zret rfl rfl (by first | exact Or.inl rfl | exact Or.inr rfl | exact am_b01) ((am_b1 trivial).symm) (rfl)
theorem c_fn3 (hn : 15 ≤ h.1) (hd : 1 < d) (hq : cmd_at q o) (hk : τ o = 3) : am_m d z_Readiness_hasFitNumbers [.ref 6, .ref q] (dH h τ t B P) (some (.int (am_b (bt 0 (cv o τ 2) 511 ∧ bt 0 (cv o τ 3) 7)))) (dH h τ t B P) := by
  refine ev_go 1 (q := 1) rfl ?_
  refine ev_get (q := 4) rfl (d_cmd hn hq) rfl rfl rfl ?_
  refine ev_tp (y := 3) hk ?_
  refine ev_go 2 (q := 61) rfl ?_
  refine ev_get (q := 64) rfl (d_cmd hn hq) rfl rfl rfl ?_
  refine ev_go 2 (q := 68) (st' := .int 511 :: .int 0 :: _ :: _) rfl ?_
  refine ev_static (z' := z_Desk_within) (q := 71) rfl rfl (by decide) rfl rfl (by simp [Value.category]) rfl (by omega) (k_within _ _ _) ?_
  refine ev_if_eq (t := 91) (q := 74) rfl rfl rfl (fun zc1 => ?_) (fun zc1 => ?_)
  · refine ev_go 1 (q := 92) (st' := .int 0 :: _) rfl ?_
    exact ev_zret rfl rfl (by first | exact Or.inl rfl | exact Or.inr rfl | exact am_b01) (by first | exact (am_b1 ⟨am_bn.mp zc1, am_bn.mp zc2⟩).symm | exact (am_bz (fun z => am_b0.mp zc1 z.1)).symm | exact (am_bz (fun z => am_b0.mp zc2 z.2)).symm) (rfl)
  · refine ev_go 1 (q := 75) rfl ?_
    refine ev_get (q := 78) rfl (d_cmd hn hq) rfl rfl rfl ?_
    refine ev_go 2 (q := 81) (st' := .int 7 :: .int 0 :: _ :: _) rfl ?_
    refine ev_static (z' := z_Desk_within) (q := 84) rfl rfl (by decide) rfl rfl (by simp [Value.category]) rfl (by omega) (k_within _ _ _) ?_
    refine ev_if_eq (t := 91) (q := 87) rfl rfl rfl (fun zc2 => ?_) (fun zc2 => ?_)
    · refine ev_go 1 (q := 92) (st' := .int 0 :: _) rfl ?_
      exact ev_zret rfl rfl (by first | exact Or.inl rfl | exact Or.inr rfl | exact am_b01) (by first | exact (am_b1 ⟨am_bn.mp zc1, am_bn.mp zc2⟩).symm | exact (am_bz (fun z => am_b0.mp zc1 z.1)).symm | exact (am_bz (fun z => am_b0.mp zc2 z.2)).symm) (rfl)
    · refine ev_go 2 (q := 92) (st' := .int 1 :: _) rfl ?_
      exact ev_zret rfl rfl (by first | exact Or.inl rfl | exact Or.inr rfl | exact am_b01) (by first | exact (am_b1 ⟨am_bn.mp zc1, am_bn.mp zc2⟩).symm | exact (am_bz (fun z => am_b0.mp zc1 z.1)).symm | exact (am_bz (fun z => am_b0.mp zc2 z.2)).symm) (rfl)
theorem c_fn4 (hn : 15 ≤ h.1) (hd : 1 < d) (hq : cmd_at q o) (hk : τ o = 4) : am_m d z_Readiness_hasFitNumbers [.ref 6, .ref q] (dH h τ t B P) (some (.int (am_b (bt 0 (cv o τ 0) 1)))) (dH h τ t B P) := by
  refine ev_go 1 (q := 1) rfl ?_
  refine ev_get (q := 4) rfl (d_cmd hn hq) rfl rfl rfl ?_
  refine ev_tp (y := 4) hk ?_
  refine ev_go 2 (q := 94) rfl ?_
  refine ev_get (q := 97) rfl (d_cmd hn hq) rfl rfl rfl ?_
  refine ev_go 2 (q := 99) (st' := .int 1 :: .int 0 :: _ :: _) rfl ?_
  refine ev_static (z' := z_Desk_within) (q := 102) rfl rfl (by decide) rfl rfl (by simp [Value.category]) rfl (by omega) (k_within _ _ _) ?_
  exact ev_zret rfl rfl (by first | exact Or.inl rfl | exact Or.inr rfl | exact am_b01) (rfl) (rfl)
theorem c_fn5 (hn : 15 ≤ h.1) (hd : 1 < d) (hq : cmd_at q o) (hk : τ o = 5) : am_m d z_Readiness_hasFitNumbers [.ref 6, .ref q] (dH h τ t B P) (some (.int (am_b (bt (-20) (cv o τ 0) 20 ∧ bt (-20) (cv o τ 1) 20)))) (dH h τ t B P) := by
  refine ev_go 1 (q := 1) rfl ?_
  refine ev_get (q := 4) rfl (d_cmd hn hq) rfl rfl rfl ?_
  refine ev_tp (y := 5) hk ?_
  refine ev_go 2 (q := 104) rfl ?_
  refine ev_get (q := 107) rfl (d_cmd hn hq) rfl rfl rfl ?_
  refine ev_go 2 (q := 111) (st' := .int 20 :: .int (-20) :: _ :: _) rfl ?_
  refine ev_static (z' := z_Desk_within) (q := 114) rfl rfl (by decide) rfl rfl (by simp [Value.category]) rfl (by omega) (k_within _ _ _) ?_
  refine ev_if_eq (t := 135) (q := 117) rfl rfl rfl (fun zc1 => ?_) (fun zc1 => ?_)
  · refine ev_go 1 (q := 136) (st' := .int 0 :: _) rfl ?_
    exact ev_zret rfl rfl (by first | exact Or.inl rfl | exact Or.inr rfl | exact am_b01) (by first | exact (am_b1 ⟨am_bn.mp zc1, am_bn.mp zc2⟩).symm | exact (am_bz (fun z => am_b0.mp zc1 z.1)).symm | exact (am_bz (fun z => am_b0.mp zc2 z.2)).symm) (rfl)
  · refine ev_go 1 (q := 118) rfl ?_
    refine ev_get (q := 121) rfl (d_cmd hn hq) rfl rfl rfl ?_
    refine ev_go 2 (q := 125) (st' := .int 20 :: .int (-20) :: _ :: _) rfl ?_
    refine ev_static (z' := z_Desk_within) (q := 128) rfl rfl (by decide) rfl rfl (by simp [Value.category]) rfl (by omega) (k_within _ _ _) ?_
    refine ev_if_eq (t := 135) (q := 131) rfl rfl rfl (fun zc2 => ?_) (fun zc2 => ?_)
    · refine ev_go 1 (q := 136) (st' := .int 0 :: _) rfl ?_
      exact ev_zret rfl rfl (by first | exact Or.inl rfl | exact Or.inr rfl | exact am_b01) (by first | exact (am_b1 ⟨am_bn.mp zc1, am_bn.mp zc2⟩).symm | exact (am_bz (fun z => am_b0.mp zc1 z.1)).symm | exact (am_bz (fun z => am_b0.mp zc2 z.2)).symm) (rfl)
    · refine ev_go 2 (q := 136) (st' := .int 1 :: _) rfl ?_
      exact ev_zret rfl rfl (by first | exact Or.inl rfl | exact Or.inr rfl | exact am_b01) (by first | exact (am_b1 ⟨am_bn.mp zc1, am_bn.mp zc2⟩).symm | exact (am_bz (fun z => am_b0.mp zc1 z.1)).symm | exact (am_bz (fun z => am_b0.mp zc2 z.2)).symm) (rfl)
theorem c_fn6 (hn : 15 ≤ h.1) (hd : 1 < d) (hq : cmd_at q o) (hk : τ o = 6) : am_m d z_Readiness_hasFitNumbers [.ref 6, .ref q] (dH h τ t B P) (some (.int (am_b (bt 1 (cv o τ 0) 5)))) (dH h τ t B P) := by
  refine ev_go 1 (q := 1) rfl ?_
  refine ev_get (q := 4) rfl (d_cmd hn hq) rfl rfl rfl ?_
  refine ev_tp (y := 6) hk ?_
  refine ev_go 2 (q := 138) rfl ?_
  refine ev_get (q := 141) rfl (d_cmd hn hq) rfl rfl rfl ?_
  refine ev_go 2 (q := 143) (st' := .int 5 :: .int 1 :: _ :: _) rfl ?_
  refine ev_static (z' := z_Desk_within) (q := 146) rfl rfl (by decide) rfl rfl (by simp [Value.category]) rfl (by omega) (k_within _ _ _) ?_
  exact ev_zret rfl rfl (by first | exact Or.inl rfl | exact Or.inr rfl | exact am_b01) (rfl) (rfl)
theorem c_fn7 (hn : 15 ≤ h.1) (hd : 1 < d) (hq : cmd_at q o) (hk : τ o = 7) : am_m d z_Readiness_hasFitNumbers [.ref 6, .ref q] (dH h τ t B P) (some (.int (am_b (True)))) (dH h τ t B P) := by
  refine ev_go 1 (q := 1) rfl ?_
  refine ev_get (q := 4) rfl (d_cmd hn hq) rfl rfl rfl ?_
  refine ev_tp (y := 7) hk ?_
  refine ev_go 2 (q := 179) (st' := .int 1 :: _) rfl ?_
  exact ev_zret rfl rfl (by first | exact Or.inl rfl | exact Or.inr rfl | exact am_b01) ((am_b1 trivial).symm) (rfl)
theorem c_fn8 (hn : 15 ≤ h.1) (hd : 1 < d) (hq : cmd_at q o) (hk : τ o = 8) : am_m d z_Readiness_hasFitNumbers [.ref 6, .ref q] (dH h τ t B P) (some (.int (am_b (bt 1 (cv o τ 0) 9)))) (dH h τ t B P) := by
  refine ev_go 1 (q := 1) rfl ?_
  refine ev_get (q := 4) rfl (d_cmd hn hq) rfl rfl rfl ?_
  refine ev_tp (y := 8) hk ?_
  refine ev_go 2 (q := 148) rfl ?_
  refine ev_get (q := 151) rfl (d_cmd hn hq) rfl rfl rfl ?_
  refine ev_go 2 (q := 154) (st' := .int 9 :: .int 1 :: _ :: _) rfl ?_
  refine ev_static (z' := z_Desk_within) (q := 157) rfl rfl (by decide) rfl rfl (by simp [Value.category]) rfl (by omega) (k_within _ _ _) ?_
  exact ev_zret rfl rfl (by first | exact Or.inl rfl | exact Or.inr rfl | exact am_b01) (rfl) (rfl)
theorem c_fn9 (hn : 15 ≤ h.1) (hd : 1 < d) (hq : cmd_at q o) (hk : τ o = 9) : am_m d z_Readiness_hasFitNumbers [.ref 6, .ref q] (dH h τ t B P) (some (.int (am_b (bt 0 (cv o τ 4) 3)))) (dH h τ t B P) := by
  refine ev_go 1 (q := 1) rfl ?_
  refine ev_get (q := 4) rfl (d_cmd hn hq) rfl rfl rfl ?_
  refine ev_tp (y := 9) hk ?_
  refine ev_go 2 (q := 159) rfl ?_
  refine ev_get (q := 162) rfl (d_cmd hn hq) rfl rfl rfl ?_
  refine ev_go 2 (q := 164) (st' := .int 3 :: .int 0 :: _ :: _) rfl ?_
  refine ev_static (z' := z_Desk_within) (q := 167) rfl rfl (by decide) rfl rfl (by simp [Value.category]) rfl (by omega) (k_within _ _ _) ?_
  exact ev_zret rfl rfl (by first | exact Or.inl rfl | exact Or.inr rfl | exact am_b01) (rfl) (rfl)
theorem c_fn10 (hn : 15 ≤ h.1) (hd : 1 < d) (hq : cmd_at q o) (hk : τ o = 10) : am_m d z_Readiness_hasFitNumbers [.ref 6, .ref q] (dH h τ t B P) (some (.int (am_b (True)))) (dH h τ t B P) := by
  refine ev_go 1 (q := 1) rfl ?_
  refine ev_get (q := 4) rfl (d_cmd hn hq) rfl rfl rfl ?_
  refine ev_tp (y := 10) hk ?_
  refine ev_go 2 (q := 179) (st' := .int 1 :: _) rfl ?_
  exact ev_zret rfl rfl (by first | exact Or.inl rfl | exact Or.inr rfl | exact am_b01) ((am_b1 trivial).symm) (rfl)
theorem c_fn11 (hn : 15 ≤ h.1) (hd : 1 < d) (hq : cmd_at q o) (hk : τ o = 11) : am_m d z_Readiness_hasFitNumbers [.ref 6, .ref q] (dH h τ t B P) (some (.int (am_b (True)))) (dH h τ t B P) := by
  refine ev_go 1 (q := 1) rfl ?_
  refine ev_get (q := 4) rfl (d_cmd hn hq) rfl rfl rfl ?_
  refine ev_tp (y := 11) hk ?_
  refine ev_go 2 (q := 179) (st' := .int 1 :: _) rfl ?_
  exact ev_zret rfl rfl (by first | exact Or.inl rfl | exact Or.inr rfl | exact am_b01) ((am_b1 trivial).symm) (rfl)
theorem c_fn12 (hn : 15 ≤ h.1) (hd : 1 < d) (hq : cmd_at q o) (hk : τ o = 12) : am_m d z_Readiness_hasFitNumbers [.ref 6, .ref q] (dH h τ t B P) (some (.int (am_b (bt 0 (cv o τ 1) 1)))) (dH h τ t B P) := by
  refine ev_go 1 (q := 1) rfl ?_
  refine ev_get (q := 4) rfl (d_cmd hn hq) rfl rfl rfl ?_
  refine ev_tp (y := 12) hk ?_
  refine ev_go 2 (q := 169) rfl ?_
  refine ev_get (q := 172) rfl (d_cmd hn hq) rfl rfl rfl ?_
  refine ev_go 2 (q := 174) (st' := .int 1 :: .int 0 :: _ :: _) rfl ?_
  refine ev_static (z' := z_Desk_within) (q := 177) rfl rfl (by decide) rfl rfl (by simp [Value.category]) rfl (by omega) (k_within _ _ _) ?_
  exact ev_zret rfl rfl (by first | exact Or.inl rfl | exact Or.inr rfl | exact am_b01) (rfl) (rfl)
theorem i32_sub {R : Nat} (hR : R ≤ 10) {a : Int32} (ha : 0 ≤ a.toInt) : (nI R - a).toInt = R - a.toInt := by
  have h1 := a.toInt_lt
  rw [Int32.toInt_sub, nI_toInt (by omega)]
  rw [Int.bmod_eq_of_le] <;> omega
theorem c_blk (hn : 15 ≤ h.1) (hR : 1 ≤ R ∧ R ≤ 10) (hC : 1 ≤ C ∧ C ≤ 10) (h0 : τ 0 = nI R) (h1 : τ 1 = nI C) (hd : 1 < d) (hq : cmd_at q o) : am_m d z_Readiness_hasItsBlock [.ref 6, .ref q, .ref 1] (dH h τ t B P) (some (.int (am_b (blk R C (cv o τ))))) (dH h τ t B P) := by
  have e5 : (1 : Int32).toInt = 1 := by decide
  have e0 : (0 : Int32).toInt = 0 := by decide
  have g1 : τ (o + 1) < 0 → ¬ blk R C (cv o τ) := fun z p => by
    have z1 := Int32.lt_iff_toInt_lt.mp z
    have p1 : 0 ≤ (τ (o + 1)).toInt := p.1.1
    omega
  have g2 : τ (o + 2) < 0 → ¬ blk R C (cv o τ) := fun z p => by
    have z1 := Int32.lt_iff_toInt_lt.mp z
    have p1 : 0 ≤ (τ (o + 2)).toInt := p.1.2.1
    omega
  have g3 : τ (o + 3) < 1 → ¬ blk R C (cv o τ) := fun z p => by
    have z1 := Int32.lt_iff_toInt_lt.mp z
    have p1 : 1 ≤ (τ (o + 3)).toInt := p.1.2.2.1
    omega
  have g4 : τ (o + 4) < 1 → ¬ blk R C (cv o τ) := fun z p => by
    have z1 := Int32.lt_iff_toInt_lt.mp z
    have p1 : 1 ≤ (τ (o + 4)).toInt := p.1.2.2.2
    omega
  have g5 : τ 0 - τ (o + 1) < τ (o + 3) → ¬ blk R C (cv o τ) := fun z p => by
    have p0 : 0 ≤ (τ (o + 1)).toInt := p.1.1
    have z1 := Int32.lt_iff_toInt_lt.mp z
    rw [h0, i32_sub hR.2 p0] at z1
    have p1 : (τ (o + 1)).toInt + (τ (o + 3)).toInt ≤ (R : Int) := p.2.1
    omega
  have g6 : τ 1 - τ (o + 2) < τ (o + 4) → ¬ blk R C (cv o τ) := fun z p => by
    have p0 : 0 ≤ (τ (o + 2)).toInt := p.1.2.1
    have z1 := Int32.lt_iff_toInt_lt.mp z
    rw [h1, i32_sub hC.2 p0] at z1
    have p1 : (τ (o + 2)).toInt + (τ (o + 4)).toInt ≤ (C : Int) := p.2.2
    omega
  have gy : ¬ τ (o + 1) < 0 → ¬ τ (o + 2) < 0 → ¬ τ (o + 3) < 1 → ¬ τ (o + 4) < 1 → ¬ τ 0 - τ (o + 1) < τ (o + 3) → ¬ τ 1 - τ (o + 2) < τ (o + 4) → blk R C (cv o τ) := by
    intro z1 z2 z3 z4 z5 z6
    have y1 := Int32.le_iff_toInt_le.mp (Int32.not_lt.mp z1)
    have y2 := Int32.le_iff_toInt_le.mp (Int32.not_lt.mp z2)
    have y3 := Int32.le_iff_toInt_le.mp (Int32.not_lt.mp z3)
    have y4 := Int32.le_iff_toInt_le.mp (Int32.not_lt.mp z4)
    have y5 := Int32.le_iff_toInt_le.mp (Int32.not_lt.mp z5)
    have y6 := Int32.le_iff_toInt_le.mp (Int32.not_lt.mp z6)
    rw [h0, i32_sub hR.2 (by omega)] at y5
    rw [h1, i32_sub hC.2 (by omega)] at y6
    refine ⟨⟨?_, ?_, ?_, ?_⟩, ?_, ?_⟩
    · show 0 ≤ (τ (o + 1)).toInt; omega
    · show 0 ≤ (τ (o + 2)).toInt; omega
    · show 1 ≤ (τ (o + 3)).toInt; omega
    · show 1 ≤ (τ (o + 4)).toInt; omega
    · show (τ (o + 1)).toInt + (τ (o + 3)).toInt ≤ (R : Int); omega
    · show (τ (o + 2)).toInt + (τ (o + 4)).toInt ≤ (C : Int); omega
  refine ev_go 1 (q := 1) rfl ?_
  refine ev_get (q := 4) rfl (d_cmd hn hq) rfl rfl rfl ?_
  refine ev_if_lt (t := 66) (q := 7) rfl rfl rfl (fun zc1 => ?_) (fun zc1 => ?_)
  · refine ev_go 1 (q := 67) (st' := .int 0 :: _) rfl ?_
    exact ev_zret rfl rfl (by first | exact Or.inl rfl | exact Or.inr rfl | assumption) (by first | exact (am_b1 (gy zc1 zc2 zc3 zc4 zc5 zc6)).symm | exact (am_bz (g1 zc1)).symm | exact (am_bz (g2 zc2)).symm | exact (am_bz (g3 zc3)).symm | exact (am_bz (g4 zc4)).symm | exact (am_bz (g5 zc5)).symm | exact (am_bz (g6 zc6)).symm) (rfl)
  · refine ev_go 1 (q := 8) rfl ?_
    refine ev_get (q := 11) rfl (d_cmd hn hq) rfl rfl rfl ?_
    refine ev_if_lt (t := 66) (q := 14) rfl rfl rfl (fun zc2 => ?_) (fun zc2 => ?_)
    · refine ev_go 1 (q := 67) (st' := .int 0 :: _) rfl ?_
      exact ev_zret rfl rfl (by first | exact Or.inl rfl | exact Or.inr rfl | assumption) (by first | exact (am_b1 (gy zc1 zc2 zc3 zc4 zc5 zc6)).symm | exact (am_bz (g1 zc1)).symm | exact (am_bz (g2 zc2)).symm | exact (am_bz (g3 zc3)).symm | exact (am_bz (g4 zc4)).symm | exact (am_bz (g5 zc5)).symm | exact (am_bz (g6 zc6)).symm) (rfl)
    · refine ev_go 1 (q := 15) rfl ?_
      refine ev_get (q := 18) rfl (d_cmd hn hq) rfl rfl rfl ?_
      refine ev_go 1 (q := 19) (st' := .int 1 :: _ :: _) rfl ?_
      refine ev_icmp_lt (t := 66) (q := 22) rfl rfl rfl (fun zc3 => ?_) (fun zc3 => ?_)
      · refine ev_go 1 (q := 67) (st' := .int 0 :: _) rfl ?_
        exact ev_zret rfl rfl (by first | exact Or.inl rfl | exact Or.inr rfl | assumption) (by first | exact (am_b1 (gy zc1 zc2 zc3 zc4 zc5 zc6)).symm | exact (am_bz (g1 zc1)).symm | exact (am_bz (g2 zc2)).symm | exact (am_bz (g3 zc3)).symm | exact (am_bz (g4 zc4)).symm | exact (am_bz (g5 zc5)).symm | exact (am_bz (g6 zc6)).symm) (rfl)
      · refine ev_go 1 (q := 23) rfl ?_
        refine ev_get (q := 26) rfl (d_cmd hn hq) rfl rfl rfl ?_
        refine ev_go 1 (q := 27) (st' := .int 1 :: _ :: _) rfl ?_
        refine ev_icmp_lt (t := 66) (q := 30) rfl rfl rfl (fun zc4 => ?_) (fun zc4 => ?_)
        · refine ev_go 1 (q := 67) (st' := .int 0 :: _) rfl ?_
          exact ev_zret rfl rfl (by first | exact Or.inl rfl | exact Or.inr rfl | assumption) (by first | exact (am_b1 (gy zc1 zc2 zc3 zc4 zc5 zc6)).symm | exact (am_bz (g1 zc1)).symm | exact (am_bz (g2 zc2)).symm | exact (am_bz (g3 zc3)).symm | exact (am_bz (g4 zc4)).symm | exact (am_bz (g5 zc5)).symm | exact (am_bz (g6 zc6)).symm) (rfl)
        · refine ev_go 1 (q := 31) rfl ?_
          refine ev_get (q := 34) rfl (d_cmd hn hq) rfl rfl rfl ?_
          refine ev_go 1 (q := 35) rfl ?_
          refine ev_get (q := 38) rfl (d_1 hn) rfl rfl rfl ?_
          refine ev_go 1 (q := 39) rfl ?_
          refine ev_get (q := 42) rfl (d_cmd hn hq) rfl rfl rfl ?_
          refine ev_go 1 (q := 43) rfl ?_
          refine ev_icmp_gt (t := 66) (q := 46) rfl rfl rfl (fun zc5 => ?_) (fun zc5 => ?_)
          · refine ev_go 1 (q := 67) (st' := .int 0 :: _) rfl ?_
            exact ev_zret rfl rfl (by first | exact Or.inl rfl | exact Or.inr rfl | assumption) (by first | exact (am_b1 (gy zc1 zc2 zc3 zc4 zc5 zc6)).symm | exact (am_bz (g1 zc1)).symm | exact (am_bz (g2 zc2)).symm | exact (am_bz (g3 zc3)).symm | exact (am_bz (g4 zc4)).symm | exact (am_bz (g5 zc5)).symm | exact (am_bz (g6 zc6)).symm) (rfl)
          · refine ev_go 1 (q := 47) rfl ?_
            refine ev_get (q := 50) rfl (d_cmd hn hq) rfl rfl rfl ?_
            refine ev_go 1 (q := 51) rfl ?_
            refine ev_get (q := 54) rfl (d_1 hn) rfl rfl rfl ?_
            refine ev_go 1 (q := 55) rfl ?_
            refine ev_get (q := 58) rfl (d_cmd hn hq) rfl rfl rfl ?_
            refine ev_go 1 (q := 59) rfl ?_
            refine ev_icmp_gt (t := 66) (q := 62) rfl rfl rfl (fun zc6 => ?_) (fun zc6 => ?_)
            · refine ev_go 1 (q := 67) (st' := .int 0 :: _) rfl ?_
              exact ev_zret rfl rfl (by first | exact Or.inl rfl | exact Or.inr rfl | assumption) (by first | exact (am_b1 (gy zc1 zc2 zc3 zc4 zc5 zc6)).symm | exact (am_bz (g1 zc1)).symm | exact (am_bz (g2 zc2)).symm | exact (am_bz (g3 zc3)).symm | exact (am_bz (g4 zc4)).symm | exact (am_bz (g5 zc5)).symm | exact (am_bz (g6 zc6)).symm) (rfl)
            · refine ev_go 2 (q := 67) (st' := .int 1 :: _) rfl ?_
              exact ev_zret rfl rfl (by first | exact Or.inl rfl | exact Or.inr rfl | assumption) (by first | exact (am_b1 (gy zc1 zc2 zc3 zc4 zc5 zc6)).symm | exact (am_bz (g1 zc1)).symm | exact (am_bz (g2 zc2)).symm | exact (am_bz (g3 zc3)).symm | exact (am_bz (g4 zc4)).symm | exact (am_bz (g5 zc5)).symm | exact (am_bz (g6 zc6)).symm) (rfl)
theorem c_fl9 (hn : 15 ≤ h.1) (hR : 1 ≤ R ∧ R ≤ 10) (hC : 1 ≤ C ∧ C ≤ 10) (h0 : τ 0 = nI R) (h1 : τ 1 = nI C) (hd : 2 < d) (hq : cmd_at q o) (hk : τ o = 9) : am_m d z_Readiness_failureAsLook [.ref 6, .ref q, .ref 1] (dH h τ t B P) (some (.int (if blk R C (cv o τ) then 0 else 1))) (dH h τ t B P) := by
  refine ev_go 1 (q := 1) rfl ?_
  refine ev_get (q := 4) rfl (d_cmd hn hq) rfl rfl rfl ?_
  refine ev_tp (y := 9) hk ?_
  refine ev_go 4 (q := 35) rfl ?_
  refine ev_virt (z' := z_Readiness_hasItsBlock) (q := 38) rfl rfl (by decide) rfl (by simp [Value.category]) rfl (by omega) rfl rfl (d_6 hn) (c_blk hn hR hC h0 h1 (by omega) hq) ?_
  refine ev_if_eq (t := 45) (q := 41) rfl rfl rfl (fun zc1 => ?_) (fun zc1 => ?_)
  · refine ev_go 1 (q := 46) (st' := .int 1 :: _) rfl ?_
    exact ev_iret rfl rfl (by first | exact (if_pos (am_bn.mp zc1)).symm | exact (if_neg (am_b0.mp zc1)).symm) (rfl)
  · refine ev_go 2 (q := 46) (st' := .int 0 :: _) rfl ?_
    exact ev_iret rfl rfl (by first | exact (if_pos (am_bn.mp zc1)).symm | exact (if_neg (am_b0.mp zc1)).symm) (rfl)
theorem c_fl10 (hn : 15 ≤ h.1) (hR : 1 ≤ R ∧ R ≤ 10) (hC : 1 ≤ C ∧ C ≤ 10) (h0 : τ 0 = nI R) (h1 : τ 1 = nI C) (hd : 2 < d) (hq : cmd_at q o) (hk : τ o = 10) : am_m d z_Readiness_failureAsLook [.ref 6, .ref q, .ref 1] (dH h τ t B P) (some (.int (if bt 0 (cv o τ 0) 9 then 0 else 2))) (dH h τ t B P) := by
  refine ev_go 1 (q := 1) rfl ?_
  refine ev_get (q := 4) rfl (d_cmd hn hq) rfl rfl rfl ?_
  refine ev_tp (y := 10) hk ?_
  refine ev_go 2 (q := 48) rfl ?_
  refine ev_get (q := 51) rfl (d_cmd hn hq) rfl rfl rfl ?_
  refine ev_static (z' := z_Desk_isWool) (q := 54) rfl rfl (by decide) rfl rfl (by simp [Value.category]) rfl (by omega) (k_isWool _) ?_
  refine ev_if_eq (t := 61) (q := 57) rfl rfl rfl (fun zc1 => ?_) (fun zc1 => ?_)
  · refine ev_go 1 (q := 62) (st' := .int 2 :: _) rfl ?_
    exact ev_iret rfl rfl (by first | exact (if_pos (am_bn.mp zc1)).symm | exact (if_neg (am_b0.mp zc1)).symm) (rfl)
  · refine ev_go 2 (q := 62) (st' := .int 0 :: _) rfl ?_
    exact ev_iret rfl rfl (by first | exact (if_pos (am_bn.mp zc1)).symm | exact (if_neg (am_b0.mp zc1)).symm) (rfl)
theorem c_fl11 (hn : 15 ≤ h.1) (hR : 1 ≤ R ∧ R ≤ 10) (hC : 1 ≤ C ∧ C ≤ 10) (h0 : τ 0 = nI R) (h1 : τ 1 = nI C) (hd : 2 < d) (hq : cmd_at q o) (hk : τ o = 11) : am_m d z_Readiness_failureAsLook [.ref 6, .ref q, .ref 1] (dH h τ t B P) (some (.int (if bt 0 (cv o τ 0) 2 then 0 else 1))) (dH h τ t B P) := by
  refine ev_go 1 (q := 1) rfl ?_
  refine ev_get (q := 4) rfl (d_cmd hn hq) rfl rfl rfl ?_
  refine ev_tp (y := 11) hk ?_
  refine ev_go 2 (q := 64) rfl ?_
  refine ev_get (q := 67) rfl (d_cmd hn hq) rfl rfl rfl ?_
  refine ev_go 2 (q := 69) (st' := .int 2 :: .int 0 :: _ :: _) rfl ?_
  refine ev_static (z' := z_Desk_within) (q := 72) rfl rfl (by decide) rfl rfl (by simp [Value.category]) rfl (by omega) (k_within _ _ _) ?_
  refine ev_if_eq (t := 79) (q := 75) rfl rfl rfl (fun zc1 => ?_) (fun zc1 => ?_)
  · refine ev_go 1 (q := 80) (st' := .int 1 :: _) rfl ?_
    exact ev_iret rfl rfl (by first | exact (if_pos (am_bn.mp zc1)).symm | exact (if_neg (am_b0.mp zc1)).symm) (rfl)
  · refine ev_go 2 (q := 80) (st' := .int 0 :: _) rfl ?_
    exact ev_iret rfl rfl (by first | exact (if_pos (am_bn.mp zc1)).symm | exact (if_neg (am_b0.mp zc1)).symm) (rfl)
theorem c_fl12 (hn : 15 ≤ h.1) (hR : 1 ≤ R ∧ R ≤ 10) (hC : 1 ≤ C ∧ C ≤ 10) (h0 : τ 0 = nI R) (h1 : τ 1 = nI C) (hd : 2 < d) (hq : cmd_at q o) (hk : τ o = 12) : am_m d z_Readiness_failureAsLook [.ref 6, .ref q, .ref 1] (dH h τ t B P) (some (.int (if bt 0 (cv o τ 0) 2 then 0 else 1))) (dH h τ t B P) := by
  refine ev_go 1 (q := 1) rfl ?_
  refine ev_get (q := 4) rfl (d_cmd hn hq) rfl rfl rfl ?_
  refine ev_tp (y := 12) hk ?_
  refine ev_go 2 (q := 64) rfl ?_
  refine ev_get (q := 67) rfl (d_cmd hn hq) rfl rfl rfl ?_
  refine ev_go 2 (q := 69) (st' := .int 2 :: .int 0 :: _ :: _) rfl ?_
  refine ev_static (z' := z_Desk_within) (q := 72) rfl rfl (by decide) rfl rfl (by simp [Value.category]) rfl (by omega) (k_within _ _ _) ?_
  refine ev_if_eq (t := 79) (q := 75) rfl rfl rfl (fun zc1 => ?_) (fun zc1 => ?_)
  · refine ev_go 1 (q := 80) (st' := .int 1 :: _) rfl ?_
    exact ev_iret rfl rfl (by first | exact (if_pos (am_bn.mp zc1)).symm | exact (if_neg (am_b0.mp zc1)).symm) (rfl)
  · refine ev_go 2 (q := 80) (st' := .int 0 :: _) rfl ?_
    exact ev_iret rfl rfl (by first | exact (if_pos (am_bn.mp zc1)).symm | exact (if_neg (am_b0.mp zc1)).symm) (rfl)
theorem c_fa0 (hn : 15 ≤ h.1) (hR : 1 ≤ R ∧ R ≤ 10) (hC : 1 ≤ C ∧ C ≤ 10) (h0 : τ 0 = nI R) (h1 : τ 1 = nI C) (hd : 3 < d) (hq : cmd_at q o)  : am_m d z_Readiness_failureAt [.ref 6, .int 0, .ref q, .ref 1] (dH h τ t B P) (some (.int (if cl_kn R C (cv o τ 2) (cv o τ 3) then 0 else 1))) (dH h τ t B P) := by
  refine ev_go 4 (q := 38) rfl ?_
  refine ev_get (q := 41) rfl (d_cmd hn hq) rfl rfl rfl ?_
  refine ev_go 1 (q := 42) rfl ?_
  refine ev_get (q := 45) rfl (d_cmd hn hq) rfl rfl rfl ?_
  refine ev_virt (z' := z_Cloth_isKnot) (q := 48) rfl rfl (by decide) rfl (by simp [Value.category]) rfl (by omega) rfl rfl (d_1 hn) (c_kn hn h0 h1) ?_
  refine ev_if_eq (t := 55) (q := 51) rfl rfl rfl (fun zc1 => ?_) (fun zc1 => ?_)
  · refine ev_go 1 (q := 56) (st' := .int 1 :: _) rfl ?_
    exact ev_iret rfl rfl (by first | exact (if_pos (am_bn.mp zc1)).symm | exact (if_neg (am_b0.mp zc1)).symm) (rfl)
  · refine ev_go 2 (q := 56) (st' := .int 0 :: _) rfl ?_
    exact ev_iret rfl rfl (by first | exact (if_pos (am_bn.mp zc1)).symm | exact (if_neg (am_b0.mp zc1)).symm) (rfl)
theorem c_fa1 (hn : 15 ≤ h.1) (hR : 1 ≤ R ∧ R ≤ 10) (hC : 1 ≤ C ∧ C ≤ 10) (h0 : τ 0 = nI R) (h1 : τ 1 = nI C) (hd : 3 < d) (hq : cmd_at q o)  : am_m d z_Readiness_failureAt [.ref 6, .int 1, .ref q, .ref 1] (dH h τ t B P) (some (.int (if cl_kn R C (cv o τ 0) (cv o τ 1) then 0 else 1))) (dH h τ t B P) := by
  refine ev_go 4 (q := 59) rfl ?_
  refine ev_get (q := 62) rfl (d_cmd hn hq) rfl rfl rfl ?_
  refine ev_go 1 (q := 63) rfl ?_
  refine ev_get (q := 66) rfl (d_cmd hn hq) rfl rfl rfl ?_
  refine ev_virt (z' := z_Cloth_isKnot) (q := 69) rfl rfl (by decide) rfl (by simp [Value.category]) rfl (by omega) rfl rfl (d_1 hn) (c_kn hn h0 h1) ?_
  refine ev_if_eq (t := 76) (q := 72) rfl rfl rfl (fun zc1 => ?_) (fun zc1 => ?_)
  · refine ev_go 1 (q := 77) (st' := .int 1 :: _) rfl ?_
    exact ev_iret rfl rfl (by first | exact (if_pos (am_bn.mp zc1)).symm | exact (if_neg (am_b0.mp zc1)).symm) (rfl)
  · refine ev_go 2 (q := 77) (st' := .int 0 :: _) rfl ?_
    exact ev_iret rfl rfl (by first | exact (if_pos (am_bn.mp zc1)).symm | exact (if_neg (am_b0.mp zc1)).symm) (rfl)
theorem c_fa2 (hn : 15 ≤ h.1) (hR : 1 ≤ R ∧ R ≤ 10) (hC : 1 ≤ C ∧ C ≤ 10) (h0 : τ 0 = nI R) (h1 : τ 1 = nI C) (hd : 3 < d) (hq : cmd_at q o)  : am_m d z_Readiness_failureAt [.ref 6, .int 2, .ref q, .ref 1] (dH h τ t B P) (some (.int (if 0 < sp_sel (B 0) R C then 0 else 3))) (dH h τ t B P) := by
  refine ev_go 3 (q := 79) rfl ?_
  refine ev_virt (z' := z_Cloth_chosenCount) (q := 82) rfl rfl (by decide) rfl (by simp [Value.category]) rfl (by omega) rfl rfl (d_1 hn) (c_count hn hR.2 hC.2 h0 h1) ?_
  refine ev_if_le (t := 89) (q := 85) rfl rfl rfl (fun zc1 => ?_) (fun zc1 => ?_)
  · refine ev_go 1 (q := 90) (st' := .int 3 :: _) rfl ?_
    exact ev_iret rfl rfl (by first | exact (if_neg (Int32.not_lt.mpr zc1)).symm | exact (if_pos (Int32.not_le.mp zc1)).symm) (rfl)
  · refine ev_go 2 (q := 90) (st' := .int 0 :: _) rfl ?_
    exact ev_iret rfl rfl (by first | exact (if_neg (Int32.not_lt.mpr zc1)).symm | exact (if_pos (Int32.not_le.mp zc1)).symm) (rfl)
theorem c_fa3_0 (hn : 15 ≤ h.1) (hR : 1 ≤ R ∧ R ≤ 10) (hC : 1 ≤ C ∧ C ≤ 10) (h0 : τ 0 = nI R) (h1 : τ 1 = nI C) (hd : 3 < d) (hq : cmd_at q o) (hk : τ o = 0) : am_m d z_Readiness_failureAt [.ref 6, .int 3, .ref q, .ref 1] (dH h τ t B P) (some (.int (if bt 0 (cv o τ 4) 9 then 0 else 2))) (dH h τ t B P) := by
  refine ev_go 4 (q := 93) rfl ?_
  refine ev_virt (z' := z_Readiness_hasFitWools) (q := 96) rfl rfl (by decide) rfl (by simp [Value.category]) rfl (by omega) rfl rfl (d_6 hn) (c_fw0 hn (by omega) hq hk) ?_
  refine ev_if_eq (t := 103) (q := 99) rfl rfl rfl (fun zc1 => ?_) (fun zc1 => ?_)
  · refine ev_go 1 (q := 104) (st' := .int 2 :: _) rfl ?_
    exact ev_iret rfl rfl (by first | exact (if_pos (am_bn.mp zc1)).symm | exact (if_neg (am_b0.mp zc1)).symm) (rfl)
  · refine ev_go 2 (q := 104) (st' := .int 0 :: _) rfl ?_
    exact ev_iret rfl rfl (by first | exact (if_pos (am_bn.mp zc1)).symm | exact (if_neg (am_b0.mp zc1)).symm) (rfl)
theorem c_fa3_1 (hn : 15 ≤ h.1) (hR : 1 ≤ R ∧ R ≤ 10) (hC : 1 ≤ C ∧ C ≤ 10) (h0 : τ 0 = nI R) (h1 : τ 1 = nI C) (hd : 3 < d) (hq : cmd_at q o) (hk : τ o = 1) : am_m d z_Readiness_failureAt [.ref 6, .int 3, .ref q, .ref 1] (dH h τ t B P) (some (.int (if bt 0 (cv o τ 4) 9 then 0 else 2))) (dH h τ t B P) := by
  refine ev_go 4 (q := 93) rfl ?_
  refine ev_virt (z' := z_Readiness_hasFitWools) (q := 96) rfl rfl (by decide) rfl (by simp [Value.category]) rfl (by omega) rfl rfl (d_6 hn) (c_fw1 hn (by omega) hq hk) ?_
  refine ev_if_eq (t := 103) (q := 99) rfl rfl rfl (fun zc1 => ?_) (fun zc1 => ?_)
  · refine ev_go 1 (q := 104) (st' := .int 2 :: _) rfl ?_
    exact ev_iret rfl rfl (by first | exact (if_pos (am_bn.mp zc1)).symm | exact (if_neg (am_b0.mp zc1)).symm) (rfl)
  · refine ev_go 2 (q := 104) (st' := .int 0 :: _) rfl ?_
    exact ev_iret rfl rfl (by first | exact (if_pos (am_bn.mp zc1)).symm | exact (if_neg (am_b0.mp zc1)).symm) (rfl)
theorem c_fa3_2 (hn : 15 ≤ h.1) (hR : 1 ≤ R ∧ R ≤ 10) (hC : 1 ≤ C ∧ C ≤ 10) (h0 : τ 0 = nI R) (h1 : τ 1 = nI C) (hd : 3 < d) (hq : cmd_at q o) (hk : τ o = 2) : am_m d z_Readiness_failureAt [.ref 6, .int 3, .ref q, .ref 1] (dH h τ t B P) (some (.int (if bt 0 (cv o τ 4) 9 then 0 else 2))) (dH h τ t B P) := by
  refine ev_go 4 (q := 93) rfl ?_
  refine ev_virt (z' := z_Readiness_hasFitWools) (q := 96) rfl rfl (by decide) rfl (by simp [Value.category]) rfl (by omega) rfl rfl (d_6 hn) (c_fw2 hn (by omega) hq hk) ?_
  refine ev_if_eq (t := 103) (q := 99) rfl rfl rfl (fun zc1 => ?_) (fun zc1 => ?_)
  · refine ev_go 1 (q := 104) (st' := .int 2 :: _) rfl ?_
    exact ev_iret rfl rfl (by first | exact (if_pos (am_bn.mp zc1)).symm | exact (if_neg (am_b0.mp zc1)).symm) (rfl)
  · refine ev_go 2 (q := 104) (st' := .int 0 :: _) rfl ?_
    exact ev_iret rfl rfl (by first | exact (if_pos (am_bn.mp zc1)).symm | exact (if_neg (am_b0.mp zc1)).symm) (rfl)
theorem c_fa3_3 (hn : 15 ≤ h.1) (hR : 1 ≤ R ∧ R ≤ 10) (hC : 1 ≤ C ∧ C ≤ 10) (h0 : τ 0 = nI R) (h1 : τ 1 = nI C) (hd : 3 < d) (hq : cmd_at q o) (hk : τ o = 3) : am_m d z_Readiness_failureAt [.ref 6, .int 3, .ref q, .ref 1] (dH h τ t B P) (some (.int (if bt 0 (cv o τ 4) 9 then 0 else 2))) (dH h τ t B P) := by
  refine ev_go 4 (q := 93) rfl ?_
  refine ev_virt (z' := z_Readiness_hasFitWools) (q := 96) rfl rfl (by decide) rfl (by simp [Value.category]) rfl (by omega) rfl rfl (d_6 hn) (c_fw3 hn (by omega) hq hk) ?_
  refine ev_if_eq (t := 103) (q := 99) rfl rfl rfl (fun zc1 => ?_) (fun zc1 => ?_)
  · refine ev_go 1 (q := 104) (st' := .int 2 :: _) rfl ?_
    exact ev_iret rfl rfl (by first | exact (if_pos (am_bn.mp zc1)).symm | exact (if_neg (am_b0.mp zc1)).symm) (rfl)
  · refine ev_go 2 (q := 104) (st' := .int 0 :: _) rfl ?_
    exact ev_iret rfl rfl (by first | exact (if_pos (am_bn.mp zc1)).symm | exact (if_neg (am_b0.mp zc1)).symm) (rfl)
theorem c_fa3_4 (hn : 15 ≤ h.1) (hR : 1 ≤ R ∧ R ≤ 10) (hC : 1 ≤ C ∧ C ≤ 10) (h0 : τ 0 = nI R) (h1 : τ 1 = nI C) (hd : 3 < d) (hq : cmd_at q o) (hk : τ o = 4) : am_m d z_Readiness_failureAt [.ref 6, .int 3, .ref q, .ref 1] (dH h τ t B P) (some (.int (if True then 0 else 2))) (dH h τ t B P) := by
  refine ev_go 4 (q := 93) rfl ?_
  refine ev_virt (z' := z_Readiness_hasFitWools) (q := 96) rfl rfl (by decide) rfl (by simp [Value.category]) rfl (by omega) rfl rfl (d_6 hn) (c_fw4 hn (by omega) hq hk) ?_
  refine ev_if_eq (t := 103) (q := 99) rfl rfl rfl (fun zc1 => ?_) (fun zc1 => ?_)
  · refine ev_go 1 (q := 104) (st' := .int 2 :: _) rfl ?_
    exact ev_iret rfl rfl (by first | exact (if_pos (am_bn.mp zc1)).symm | exact (if_neg (am_b0.mp zc1)).symm) (rfl)
  · refine ev_go 2 (q := 104) (st' := .int 0 :: _) rfl ?_
    exact ev_iret rfl rfl (by first | exact (if_pos (am_bn.mp zc1)).symm | exact (if_neg (am_b0.mp zc1)).symm) (rfl)
theorem c_fa3_5 (hn : 15 ≤ h.1) (hR : 1 ≤ R ∧ R ≤ 10) (hC : 1 ≤ C ∧ C ≤ 10) (h0 : τ 0 = nI R) (h1 : τ 1 = nI C) (hd : 3 < d) (hq : cmd_at q o) (hk : τ o = 5) : am_m d z_Readiness_failureAt [.ref 6, .int 3, .ref q, .ref 1] (dH h τ t B P) (some (.int (if True then 0 else 2))) (dH h τ t B P) := by
  refine ev_go 4 (q := 93) rfl ?_
  refine ev_virt (z' := z_Readiness_hasFitWools) (q := 96) rfl rfl (by decide) rfl (by simp [Value.category]) rfl (by omega) rfl rfl (d_6 hn) (c_fw5 hn (by omega) hq hk) ?_
  refine ev_if_eq (t := 103) (q := 99) rfl rfl rfl (fun zc1 => ?_) (fun zc1 => ?_)
  · refine ev_go 1 (q := 104) (st' := .int 2 :: _) rfl ?_
    exact ev_iret rfl rfl (by first | exact (if_pos (am_bn.mp zc1)).symm | exact (if_neg (am_b0.mp zc1)).symm) (rfl)
  · refine ev_go 2 (q := 104) (st' := .int 0 :: _) rfl ?_
    exact ev_iret rfl rfl (by first | exact (if_pos (am_bn.mp zc1)).symm | exact (if_neg (am_b0.mp zc1)).symm) (rfl)
theorem c_fa3_6 (hn : 15 ≤ h.1) (hR : 1 ≤ R ∧ R ≤ 10) (hC : 1 ≤ C ∧ C ≤ 10) (h0 : τ 0 = nI R) (h1 : τ 1 = nI C) (hd : 3 < d) (hq : cmd_at q o) (hk : τ o = 6) : am_m d z_Readiness_failureAt [.ref 6, .int 3, .ref q, .ref 1] (dH h τ t B P) (some (.int (if bt 0 (cv o τ 4) 9 then 0 else 2))) (dH h τ t B P) := by
  refine ev_go 4 (q := 93) rfl ?_
  refine ev_virt (z' := z_Readiness_hasFitWools) (q := 96) rfl rfl (by decide) rfl (by simp [Value.category]) rfl (by omega) rfl rfl (d_6 hn) (c_fw6 hn (by omega) hq hk) ?_
  refine ev_if_eq (t := 103) (q := 99) rfl rfl rfl (fun zc1 => ?_) (fun zc1 => ?_)
  · refine ev_go 1 (q := 104) (st' := .int 2 :: _) rfl ?_
    exact ev_iret rfl rfl (by first | exact (if_pos (am_bn.mp zc1)).symm | exact (if_neg (am_b0.mp zc1)).symm) (rfl)
  · refine ev_go 2 (q := 104) (st' := .int 0 :: _) rfl ?_
    exact ev_iret rfl rfl (by first | exact (if_pos (am_bn.mp zc1)).symm | exact (if_neg (am_b0.mp zc1)).symm) (rfl)
theorem c_fa3_7 (hn : 15 ≤ h.1) (hR : 1 ≤ R ∧ R ≤ 10) (hC : 1 ≤ C ∧ C ≤ 10) (h0 : τ 0 = nI R) (h1 : τ 1 = nI C) (hd : 3 < d) (hq : cmd_at q o) (hk : τ o = 7) : am_m d z_Readiness_failureAt [.ref 6, .int 3, .ref q, .ref 1] (dH h τ t B P) (some (.int (if bt 0 (cv o τ 0) 9 ∧ bt 0 (cv o τ 1) 9 then 0 else 2))) (dH h τ t B P) := by
  refine ev_go 4 (q := 93) rfl ?_
  refine ev_virt (z' := z_Readiness_hasFitWools) (q := 96) rfl rfl (by decide) rfl (by simp [Value.category]) rfl (by omega) rfl rfl (d_6 hn) (c_fw7 hn (by omega) hq hk) ?_
  refine ev_if_eq (t := 103) (q := 99) rfl rfl rfl (fun zc1 => ?_) (fun zc1 => ?_)
  · refine ev_go 1 (q := 104) (st' := .int 2 :: _) rfl ?_
    exact ev_iret rfl rfl (by first | exact (if_pos (am_bn.mp zc1)).symm | exact (if_neg (am_b0.mp zc1)).symm) (rfl)
  · refine ev_go 2 (q := 104) (st' := .int 0 :: _) rfl ?_
    exact ev_iret rfl rfl (by first | exact (if_pos (am_bn.mp zc1)).symm | exact (if_neg (am_b0.mp zc1)).symm) (rfl)
theorem c_fa3_8 (hn : 15 ≤ h.1) (hR : 1 ≤ R ∧ R ≤ 10) (hC : 1 ≤ C ∧ C ≤ 10) (h0 : τ 0 = nI R) (h1 : τ 1 = nI C) (hd : 3 < d) (hq : cmd_at q o) (hk : τ o = 8) : am_m d z_Readiness_failureAt [.ref 6, .int 3, .ref q, .ref 1] (dH h τ t B P) (some (.int (if True then 0 else 2))) (dH h τ t B P) := by
  refine ev_go 4 (q := 93) rfl ?_
  refine ev_virt (z' := z_Readiness_hasFitWools) (q := 96) rfl rfl (by decide) rfl (by simp [Value.category]) rfl (by omega) rfl rfl (d_6 hn) (c_fw8 hn (by omega) hq hk) ?_
  refine ev_if_eq (t := 103) (q := 99) rfl rfl rfl (fun zc1 => ?_) (fun zc1 => ?_)
  · refine ev_go 1 (q := 104) (st' := .int 2 :: _) rfl ?_
    exact ev_iret rfl rfl (by first | exact (if_pos (am_bn.mp zc1)).symm | exact (if_neg (am_b0.mp zc1)).symm) (rfl)
  · refine ev_go 2 (q := 104) (st' := .int 0 :: _) rfl ?_
    exact ev_iret rfl rfl (by first | exact (if_pos (am_bn.mp zc1)).symm | exact (if_neg (am_b0.mp zc1)).symm) (rfl)
theorem c_fa4_9 (hn : 15 ≤ h.1) (hR : 1 ≤ R ∧ R ≤ 10) (hC : 1 ≤ C ∧ C ≤ 10) (h0 : τ 0 = nI R) (h1 : τ 1 = nI C) (hd : 3 < d) (hq : cmd_at q o) (hk : τ o = 9) : am_m d z_Readiness_failureAt [.ref 6, .int 4, .ref q, .ref 1] (dH h τ t B P) (some (.int (if blk R C (cv o τ) then 0 else 1))) (dH h τ t B P) := by
  refine ev_go 5 (q := 108) rfl ?_
  refine ev_virt (z' := z_Readiness_failureAsLook) (q := 111) rfl rfl (by decide) rfl (by simp [Value.category]) rfl (by omega) rfl rfl (d_6 hn) (c_fl9 hn hR hC h0 h1 (by omega) hq hk) ?_
  exact ev_iret rfl rfl (rfl) (rfl)
theorem c_fa4_10 (hn : 15 ≤ h.1) (hR : 1 ≤ R ∧ R ≤ 10) (hC : 1 ≤ C ∧ C ≤ 10) (h0 : τ 0 = nI R) (h1 : τ 1 = nI C) (hd : 3 < d) (hq : cmd_at q o) (hk : τ o = 10) : am_m d z_Readiness_failureAt [.ref 6, .int 4, .ref q, .ref 1] (dH h τ t B P) (some (.int (if bt 0 (cv o τ 0) 9 then 0 else 2))) (dH h τ t B P) := by
  refine ev_go 5 (q := 108) rfl ?_
  refine ev_virt (z' := z_Readiness_failureAsLook) (q := 111) rfl rfl (by decide) rfl (by simp [Value.category]) rfl (by omega) rfl rfl (d_6 hn) (c_fl10 hn hR hC h0 h1 (by omega) hq hk) ?_
  exact ev_iret rfl rfl (rfl) (rfl)
theorem c_fa4_11 (hn : 15 ≤ h.1) (hR : 1 ≤ R ∧ R ≤ 10) (hC : 1 ≤ C ∧ C ≤ 10) (h0 : τ 0 = nI R) (h1 : τ 1 = nI C) (hd : 3 < d) (hq : cmd_at q o) (hk : τ o = 11) : am_m d z_Readiness_failureAt [.ref 6, .int 4, .ref q, .ref 1] (dH h τ t B P) (some (.int (if bt 0 (cv o τ 0) 2 then 0 else 1))) (dH h τ t B P) := by
  refine ev_go 5 (q := 108) rfl ?_
  refine ev_virt (z' := z_Readiness_failureAsLook) (q := 111) rfl rfl (by decide) rfl (by simp [Value.category]) rfl (by omega) rfl rfl (d_6 hn) (c_fl11 hn hR hC h0 h1 (by omega) hq hk) ?_
  exact ev_iret rfl rfl (rfl) (rfl)
theorem c_fa4_12 (hn : 15 ≤ h.1) (hR : 1 ≤ R ∧ R ≤ 10) (hC : 1 ≤ C ∧ C ≤ 10) (h0 : τ 0 = nI R) (h1 : τ 1 = nI C) (hd : 3 < d) (hq : cmd_at q o) (hk : τ o = 12) : am_m d z_Readiness_failureAt [.ref 6, .int 4, .ref q, .ref 1] (dH h τ t B P) (some (.int (if bt 0 (cv o τ 0) 2 then 0 else 1))) (dH h τ t B P) := by
  refine ev_go 5 (q := 108) rfl ?_
  refine ev_virt (z' := z_Readiness_failureAsLook) (q := 111) rfl rfl (by decide) rfl (by simp [Value.category]) rfl (by omega) rfl rfl (d_6 hn) (c_fl12 hn hR hC h0 h1 (by omega) hq hk) ?_
  exact ev_iret rfl rfl (rfl) (rfl)
theorem c_fa5_0 (hn : 15 ≤ h.1) (hR : 1 ≤ R ∧ R ≤ 10) (hC : 1 ≤ C ∧ C ≤ 10) (h0 : τ 0 = nI R) (h1 : τ 1 = nI C) (hd : 3 < d) (hq : cmd_at q o) (hk : τ o = 0) : am_m d z_Readiness_failureAt [.ref 6, .int 5, .ref q, .ref 1] (dH h τ t B P) (some (.int (if True then 0 else 4))) (dH h τ t B P) := by
  refine ev_go 4 (q := 114) rfl ?_
  refine ev_virt (z' := z_Readiness_hasFitNumbers) (q := 117) rfl rfl (by decide) rfl (by simp [Value.category]) rfl (by omega) rfl rfl (d_6 hn) (c_fn0 hn (by omega) hq hk) ?_
  refine ev_if_eq (t := 124) (q := 120) rfl rfl rfl (fun zc1 => ?_) (fun zc1 => ?_)
  · refine ev_go 1 (q := 125) (st' := .int 4 :: _) rfl ?_
    exact ev_iret rfl rfl (by first | exact (if_pos (am_bn.mp zc1)).symm | exact (if_neg (am_b0.mp zc1)).symm) (rfl)
  · refine ev_go 2 (q := 125) (st' := .int 0 :: _) rfl ?_
    exact ev_iret rfl rfl (by first | exact (if_pos (am_bn.mp zc1)).symm | exact (if_neg (am_b0.mp zc1)).symm) (rfl)
theorem c_fa5_1 (hn : 15 ≤ h.1) (hR : 1 ≤ R ∧ R ≤ 10) (hC : 1 ≤ C ∧ C ≤ 10) (h0 : τ 0 = nI R) (h1 : τ 1 = nI C) (hd : 3 < d) (hq : cmd_at q o) (hk : τ o = 1) : am_m d z_Readiness_failureAt [.ref 6, .int 5, .ref q, .ref 1] (dH h τ t B P) (some (.int (if True then 0 else 4))) (dH h τ t B P) := by
  refine ev_go 4 (q := 114) rfl ?_
  refine ev_virt (z' := z_Readiness_hasFitNumbers) (q := 117) rfl rfl (by decide) rfl (by simp [Value.category]) rfl (by omega) rfl rfl (d_6 hn) (c_fn1 hn (by omega) hq hk) ?_
  refine ev_if_eq (t := 124) (q := 120) rfl rfl rfl (fun zc1 => ?_) (fun zc1 => ?_)
  · refine ev_go 1 (q := 125) (st' := .int 4 :: _) rfl ?_
    exact ev_iret rfl rfl (by first | exact (if_pos (am_bn.mp zc1)).symm | exact (if_neg (am_b0.mp zc1)).symm) (rfl)
  · refine ev_go 2 (q := 125) (st' := .int 0 :: _) rfl ?_
    exact ev_iret rfl rfl (by first | exact (if_pos (am_bn.mp zc1)).symm | exact (if_neg (am_b0.mp zc1)).symm) (rfl)
theorem c_fa5_2 (hn : 15 ≤ h.1) (hR : 1 ≤ R ∧ R ≤ 10) (hC : 1 ≤ C ∧ C ≤ 10) (h0 : τ 0 = nI R) (h1 : τ 1 = nI C) (hd : 3 < d) (hq : cmd_at q o) (hk : τ o = 2) : am_m d z_Readiness_failureAt [.ref 6, .int 5, .ref q, .ref 1] (dH h τ t B P) (some (.int (if True then 0 else 4))) (dH h τ t B P) := by
  refine ev_go 4 (q := 114) rfl ?_
  refine ev_virt (z' := z_Readiness_hasFitNumbers) (q := 117) rfl rfl (by decide) rfl (by simp [Value.category]) rfl (by omega) rfl rfl (d_6 hn) (c_fn2 hn (by omega) hq hk) ?_
  refine ev_if_eq (t := 124) (q := 120) rfl rfl rfl (fun zc1 => ?_) (fun zc1 => ?_)
  · refine ev_go 1 (q := 125) (st' := .int 4 :: _) rfl ?_
    exact ev_iret rfl rfl (by first | exact (if_pos (am_bn.mp zc1)).symm | exact (if_neg (am_b0.mp zc1)).symm) (rfl)
  · refine ev_go 2 (q := 125) (st' := .int 0 :: _) rfl ?_
    exact ev_iret rfl rfl (by first | exact (if_pos (am_bn.mp zc1)).symm | exact (if_neg (am_b0.mp zc1)).symm) (rfl)
theorem c_fa5_3 (hn : 15 ≤ h.1) (hR : 1 ≤ R ∧ R ≤ 10) (hC : 1 ≤ C ∧ C ≤ 10) (h0 : τ 0 = nI R) (h1 : τ 1 = nI C) (hd : 3 < d) (hq : cmd_at q o) (hk : τ o = 3) : am_m d z_Readiness_failureAt [.ref 6, .int 5, .ref q, .ref 1] (dH h τ t B P) (some (.int (if bt 0 (cv o τ 2) 511 ∧ bt 0 (cv o τ 3) 7 then 0 else 4))) (dH h τ t B P) := by
  refine ev_go 4 (q := 114) rfl ?_
  refine ev_virt (z' := z_Readiness_hasFitNumbers) (q := 117) rfl rfl (by decide) rfl (by simp [Value.category]) rfl (by omega) rfl rfl (d_6 hn) (c_fn3 hn (by omega) hq hk) ?_
  refine ev_if_eq (t := 124) (q := 120) rfl rfl rfl (fun zc1 => ?_) (fun zc1 => ?_)
  · refine ev_go 1 (q := 125) (st' := .int 4 :: _) rfl ?_
    exact ev_iret rfl rfl (by first | exact (if_pos (am_bn.mp zc1)).symm | exact (if_neg (am_b0.mp zc1)).symm) (rfl)
  · refine ev_go 2 (q := 125) (st' := .int 0 :: _) rfl ?_
    exact ev_iret rfl rfl (by first | exact (if_pos (am_bn.mp zc1)).symm | exact (if_neg (am_b0.mp zc1)).symm) (rfl)
theorem c_fa5_4 (hn : 15 ≤ h.1) (hR : 1 ≤ R ∧ R ≤ 10) (hC : 1 ≤ C ∧ C ≤ 10) (h0 : τ 0 = nI R) (h1 : τ 1 = nI C) (hd : 3 < d) (hq : cmd_at q o) (hk : τ o = 4) : am_m d z_Readiness_failureAt [.ref 6, .int 5, .ref q, .ref 1] (dH h τ t B P) (some (.int (if bt 0 (cv o τ 0) 1 then 0 else 4))) (dH h τ t B P) := by
  refine ev_go 4 (q := 114) rfl ?_
  refine ev_virt (z' := z_Readiness_hasFitNumbers) (q := 117) rfl rfl (by decide) rfl (by simp [Value.category]) rfl (by omega) rfl rfl (d_6 hn) (c_fn4 hn (by omega) hq hk) ?_
  refine ev_if_eq (t := 124) (q := 120) rfl rfl rfl (fun zc1 => ?_) (fun zc1 => ?_)
  · refine ev_go 1 (q := 125) (st' := .int 4 :: _) rfl ?_
    exact ev_iret rfl rfl (by first | exact (if_pos (am_bn.mp zc1)).symm | exact (if_neg (am_b0.mp zc1)).symm) (rfl)
  · refine ev_go 2 (q := 125) (st' := .int 0 :: _) rfl ?_
    exact ev_iret rfl rfl (by first | exact (if_pos (am_bn.mp zc1)).symm | exact (if_neg (am_b0.mp zc1)).symm) (rfl)
theorem c_fa5_5 (hn : 15 ≤ h.1) (hR : 1 ≤ R ∧ R ≤ 10) (hC : 1 ≤ C ∧ C ≤ 10) (h0 : τ 0 = nI R) (h1 : τ 1 = nI C) (hd : 3 < d) (hq : cmd_at q o) (hk : τ o = 5) : am_m d z_Readiness_failureAt [.ref 6, .int 5, .ref q, .ref 1] (dH h τ t B P) (some (.int (if bt (-20) (cv o τ 0) 20 ∧ bt (-20) (cv o τ 1) 20 then 0 else 4))) (dH h τ t B P) := by
  refine ev_go 4 (q := 114) rfl ?_
  refine ev_virt (z' := z_Readiness_hasFitNumbers) (q := 117) rfl rfl (by decide) rfl (by simp [Value.category]) rfl (by omega) rfl rfl (d_6 hn) (c_fn5 hn (by omega) hq hk) ?_
  refine ev_if_eq (t := 124) (q := 120) rfl rfl rfl (fun zc1 => ?_) (fun zc1 => ?_)
  · refine ev_go 1 (q := 125) (st' := .int 4 :: _) rfl ?_
    exact ev_iret rfl rfl (by first | exact (if_pos (am_bn.mp zc1)).symm | exact (if_neg (am_b0.mp zc1)).symm) (rfl)
  · refine ev_go 2 (q := 125) (st' := .int 0 :: _) rfl ?_
    exact ev_iret rfl rfl (by first | exact (if_pos (am_bn.mp zc1)).symm | exact (if_neg (am_b0.mp zc1)).symm) (rfl)
theorem c_fa5_6 (hn : 15 ≤ h.1) (hR : 1 ≤ R ∧ R ≤ 10) (hC : 1 ≤ C ∧ C ≤ 10) (h0 : τ 0 = nI R) (h1 : τ 1 = nI C) (hd : 3 < d) (hq : cmd_at q o) (hk : τ o = 6) : am_m d z_Readiness_failureAt [.ref 6, .int 5, .ref q, .ref 1] (dH h τ t B P) (some (.int (if bt 1 (cv o τ 0) 5 then 0 else 4))) (dH h τ t B P) := by
  refine ev_go 4 (q := 114) rfl ?_
  refine ev_virt (z' := z_Readiness_hasFitNumbers) (q := 117) rfl rfl (by decide) rfl (by simp [Value.category]) rfl (by omega) rfl rfl (d_6 hn) (c_fn6 hn (by omega) hq hk) ?_
  refine ev_if_eq (t := 124) (q := 120) rfl rfl rfl (fun zc1 => ?_) (fun zc1 => ?_)
  · refine ev_go 1 (q := 125) (st' := .int 4 :: _) rfl ?_
    exact ev_iret rfl rfl (by first | exact (if_pos (am_bn.mp zc1)).symm | exact (if_neg (am_b0.mp zc1)).symm) (rfl)
  · refine ev_go 2 (q := 125) (st' := .int 0 :: _) rfl ?_
    exact ev_iret rfl rfl (by first | exact (if_pos (am_bn.mp zc1)).symm | exact (if_neg (am_b0.mp zc1)).symm) (rfl)
theorem c_fa5_7 (hn : 15 ≤ h.1) (hR : 1 ≤ R ∧ R ≤ 10) (hC : 1 ≤ C ∧ C ≤ 10) (h0 : τ 0 = nI R) (h1 : τ 1 = nI C) (hd : 3 < d) (hq : cmd_at q o) (hk : τ o = 7) : am_m d z_Readiness_failureAt [.ref 6, .int 5, .ref q, .ref 1] (dH h τ t B P) (some (.int (if True then 0 else 4))) (dH h τ t B P) := by
  refine ev_go 4 (q := 114) rfl ?_
  refine ev_virt (z' := z_Readiness_hasFitNumbers) (q := 117) rfl rfl (by decide) rfl (by simp [Value.category]) rfl (by omega) rfl rfl (d_6 hn) (c_fn7 hn (by omega) hq hk) ?_
  refine ev_if_eq (t := 124) (q := 120) rfl rfl rfl (fun zc1 => ?_) (fun zc1 => ?_)
  · refine ev_go 1 (q := 125) (st' := .int 4 :: _) rfl ?_
    exact ev_iret rfl rfl (by first | exact (if_pos (am_bn.mp zc1)).symm | exact (if_neg (am_b0.mp zc1)).symm) (rfl)
  · refine ev_go 2 (q := 125) (st' := .int 0 :: _) rfl ?_
    exact ev_iret rfl rfl (by first | exact (if_pos (am_bn.mp zc1)).symm | exact (if_neg (am_b0.mp zc1)).symm) (rfl)
theorem c_fa5_8 (hn : 15 ≤ h.1) (hR : 1 ≤ R ∧ R ≤ 10) (hC : 1 ≤ C ∧ C ≤ 10) (h0 : τ 0 = nI R) (h1 : τ 1 = nI C) (hd : 3 < d) (hq : cmd_at q o) (hk : τ o = 8) : am_m d z_Readiness_failureAt [.ref 6, .int 5, .ref q, .ref 1] (dH h τ t B P) (some (.int (if bt 1 (cv o τ 0) 9 then 0 else 4))) (dH h τ t B P) := by
  refine ev_go 4 (q := 114) rfl ?_
  refine ev_virt (z' := z_Readiness_hasFitNumbers) (q := 117) rfl rfl (by decide) rfl (by simp [Value.category]) rfl (by omega) rfl rfl (d_6 hn) (c_fn8 hn (by omega) hq hk) ?_
  refine ev_if_eq (t := 124) (q := 120) rfl rfl rfl (fun zc1 => ?_) (fun zc1 => ?_)
  · refine ev_go 1 (q := 125) (st' := .int 4 :: _) rfl ?_
    exact ev_iret rfl rfl (by first | exact (if_pos (am_bn.mp zc1)).symm | exact (if_neg (am_b0.mp zc1)).symm) (rfl)
  · refine ev_go 2 (q := 125) (st' := .int 0 :: _) rfl ?_
    exact ev_iret rfl rfl (by first | exact (if_pos (am_bn.mp zc1)).symm | exact (if_neg (am_b0.mp zc1)).symm) (rfl)
theorem c_fa5_9 (hn : 15 ≤ h.1) (hR : 1 ≤ R ∧ R ≤ 10) (hC : 1 ≤ C ∧ C ≤ 10) (h0 : τ 0 = nI R) (h1 : τ 1 = nI C) (hd : 3 < d) (hq : cmd_at q o) (hk : τ o = 9) : am_m d z_Readiness_failureAt [.ref 6, .int 5, .ref q, .ref 1] (dH h τ t B P) (some (.int (if bt 0 (cv o τ 4) 3 then 0 else 4))) (dH h τ t B P) := by
  refine ev_go 4 (q := 114) rfl ?_
  refine ev_virt (z' := z_Readiness_hasFitNumbers) (q := 117) rfl rfl (by decide) rfl (by simp [Value.category]) rfl (by omega) rfl rfl (d_6 hn) (c_fn9 hn (by omega) hq hk) ?_
  refine ev_if_eq (t := 124) (q := 120) rfl rfl rfl (fun zc1 => ?_) (fun zc1 => ?_)
  · refine ev_go 1 (q := 125) (st' := .int 4 :: _) rfl ?_
    exact ev_iret rfl rfl (by first | exact (if_pos (am_bn.mp zc1)).symm | exact (if_neg (am_b0.mp zc1)).symm) (rfl)
  · refine ev_go 2 (q := 125) (st' := .int 0 :: _) rfl ?_
    exact ev_iret rfl rfl (by first | exact (if_pos (am_bn.mp zc1)).symm | exact (if_neg (am_b0.mp zc1)).symm) (rfl)
theorem c_fa5_10 (hn : 15 ≤ h.1) (hR : 1 ≤ R ∧ R ≤ 10) (hC : 1 ≤ C ∧ C ≤ 10) (h0 : τ 0 = nI R) (h1 : τ 1 = nI C) (hd : 3 < d) (hq : cmd_at q o) (hk : τ o = 10) : am_m d z_Readiness_failureAt [.ref 6, .int 5, .ref q, .ref 1] (dH h τ t B P) (some (.int (if True then 0 else 4))) (dH h τ t B P) := by
  refine ev_go 4 (q := 114) rfl ?_
  refine ev_virt (z' := z_Readiness_hasFitNumbers) (q := 117) rfl rfl (by decide) rfl (by simp [Value.category]) rfl (by omega) rfl rfl (d_6 hn) (c_fn10 hn (by omega) hq hk) ?_
  refine ev_if_eq (t := 124) (q := 120) rfl rfl rfl (fun zc1 => ?_) (fun zc1 => ?_)
  · refine ev_go 1 (q := 125) (st' := .int 4 :: _) rfl ?_
    exact ev_iret rfl rfl (by first | exact (if_pos (am_bn.mp zc1)).symm | exact (if_neg (am_b0.mp zc1)).symm) (rfl)
  · refine ev_go 2 (q := 125) (st' := .int 0 :: _) rfl ?_
    exact ev_iret rfl rfl (by first | exact (if_pos (am_bn.mp zc1)).symm | exact (if_neg (am_b0.mp zc1)).symm) (rfl)
theorem c_fa5_11 (hn : 15 ≤ h.1) (hR : 1 ≤ R ∧ R ≤ 10) (hC : 1 ≤ C ∧ C ≤ 10) (h0 : τ 0 = nI R) (h1 : τ 1 = nI C) (hd : 3 < d) (hq : cmd_at q o) (hk : τ o = 11) : am_m d z_Readiness_failureAt [.ref 6, .int 5, .ref q, .ref 1] (dH h τ t B P) (some (.int (if True then 0 else 4))) (dH h τ t B P) := by
  refine ev_go 4 (q := 114) rfl ?_
  refine ev_virt (z' := z_Readiness_hasFitNumbers) (q := 117) rfl rfl (by decide) rfl (by simp [Value.category]) rfl (by omega) rfl rfl (d_6 hn) (c_fn11 hn (by omega) hq hk) ?_
  refine ev_if_eq (t := 124) (q := 120) rfl rfl rfl (fun zc1 => ?_) (fun zc1 => ?_)
  · refine ev_go 1 (q := 125) (st' := .int 4 :: _) rfl ?_
    exact ev_iret rfl rfl (by first | exact (if_pos (am_bn.mp zc1)).symm | exact (if_neg (am_b0.mp zc1)).symm) (rfl)
  · refine ev_go 2 (q := 125) (st' := .int 0 :: _) rfl ?_
    exact ev_iret rfl rfl (by first | exact (if_pos (am_bn.mp zc1)).symm | exact (if_neg (am_b0.mp zc1)).symm) (rfl)
theorem c_fa5_12 (hn : 15 ≤ h.1) (hR : 1 ≤ R ∧ R ≤ 10) (hC : 1 ≤ C ∧ C ≤ 10) (h0 : τ 0 = nI R) (h1 : τ 1 = nI C) (hd : 3 < d) (hq : cmd_at q o) (hk : τ o = 12) : am_m d z_Readiness_failureAt [.ref 6, .int 5, .ref q, .ref 1] (dH h τ t B P) (some (.int (if bt 0 (cv o τ 1) 1 then 0 else 4))) (dH h τ t B P) := by
  refine ev_go 4 (q := 114) rfl ?_
  refine ev_virt (z' := z_Readiness_hasFitNumbers) (q := 117) rfl rfl (by decide) rfl (by simp [Value.category]) rfl (by omega) rfl rfl (d_6 hn) (c_fn12 hn (by omega) hq hk) ?_
  refine ev_if_eq (t := 124) (q := 120) rfl rfl rfl (fun zc1 => ?_) (fun zc1 => ?_)
  · refine ev_go 1 (q := 125) (st' := .int 4 :: _) rfl ?_
    exact ev_iret rfl rfl (by first | exact (if_pos (am_bn.mp zc1)).symm | exact (if_neg (am_b0.mp zc1)).symm) (rfl)
  · refine ev_go 2 (q := 125) (st' := .int 0 :: _) rfl ?_
    exact ev_iret rfl rfl (by first | exact (if_pos (am_bn.mp zc1)).symm | exact (if_neg (am_b0.mp zc1)).symm) (rfl)
end D2
