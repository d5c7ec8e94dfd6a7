/-! the class: readiness asked, the looker -/
section D3
variable {d : Nat} {h h' : am_H} {res : Option Value} {τ : Nat → Int32} {t : Int64} {B : Nat → Nat → Int32} {P : Nat → Nat → Option Nat} {R C u q o : Nat}
theorem il_100000 : (100000 : Int32).toInt64 = (100000 : Int64) := by decide
theorem il_1000 : (1000 : Int32).toInt64 = (1000 : Int64) := by decide
theorem il_10000 : (10000 : Int32).toInt64 = (10000 : Int64) := by decide
theorem il_10 : (10 : Int32).toInt64 = (10 : Int64) := by decide
theorem il_100 : (100 : Int32).toInt64 = (100 : Int64) := by decide
theorem il_1 : (1 : Int32).toInt64 = (1 : Int64) := by decide
theorem c_ask0 (hn : 15 ≤ h.1) (hR : 1 ≤ R ∧ R ≤ 10) (hC : 1 ≤ C ∧ C ≤ 10) (h0 : τ 0 = nI R) (h1 : τ 1 = nI C) (hd : 4 < d) (hq : cmd_at q o) (hk : τ o = 0) (hs : 0 < sp_sel (B 0) R C ↔ ¬ sp_sel (B 0) R C = 0) : am_m d z_Readiness_ask [.ref 6, .ref q, .ref 1] (dH h τ t B P) (some (.int (rdy R C (sp_sel (B 0) R C) (cv o τ) t 0).1)) (dH h τ (rdy R C (sp_sel (B 0) R C) (cv o τ) t 0).2 B P) := by
  by_cases zp0 : cl_kn R C (cv o τ 0) (cv o τ 1)
  · by_cases zp1 : bt 0 (cv o τ 4) 9
    · have zp2 : True := trivial
      have ze : rdy R C (sp_sel (B 0) R C) (cv o τ) t 0 = (0, t + 1000 + 10 + 1) := (if_pos zp0).trans ((if_pos zp1).trans (congrArg (fun z : Int32 => (z, t + 1000 + 10 + 1)) (if_pos zp2)))
      refine ev_go 1 (q := 1) (L' := [_, _, _, _, _, _]) rfl ?_
      refine ev_get (q := 4) rfl (d_cmd hn hq) rfl rfl rfl ?_
      refine ev_tp (y := 0) hk ?_
      refine ev_go 2 (q := 8) (st' := _ :: .int 0 :: _ :: _) (L' := [_, _, _, _, _, _]) rfl ?_
      refine ev_go 1 (q := 9) (st' := .int 13 :: _) rfl ?_
      refine ev_go 2 (q := 11) (st' := .int (_ - 1) :: _ :: _ :: _) (L' := [_, _, _, _, _, _]) rfl ?_
      refine ev_static (z' := z_Desk_within) (q := 14) rfl rfl (by decide) rfl rfl (by simp [Value.category]) rfl (by omega) (k_within _ _ _) ?_
      refine ev_if_eq (t := 28) (q := 17) rfl rfl rfl (fun c => absurd c (by decide)) (fun zc1 => ?_)
      refine ev_go 2 (q := 21) (L' := [_, _, _, _, _, _]) rfl ?_
      refine ev_get (q := 24) rfl (d_cmd hn hq) rfl rfl rfl ?_
      refine ev_tp (y := 0) hk ?_
      refine ev_go 1 (q := 25) (st' := .int 1 :: _) rfl ?_
      refine ev_go 8 (q := 41) (st' := .int 6 :: _ :: _) (L' := [_, _, _, some (.int 1), some (.int 0), some (.int 0)]) rfl ?_
      refine ev_icmp_ge (t := 91) (q := 44) rfl rfl rfl (fun c => absurd c (by decide)) (fun _ => ?_)
      refine ev_go 2 (q := 47) (st' := .int 6 :: _ :: _) (L' := [_, _, _, some (.int 1), some (.int 0), some (.int 0)]) rfl ?_
      refine ev_icmp_ge (t := 91) (q := 50) rfl rfl rfl (fun c => absurd c (by decide)) (fun _ => ?_)
      refine ev_go 1 (q := 52) (L' := [_, _, _, some (.int 1), some (.int 0), some (.int 0)]) rfl ?_
      refine ev_if_ne (t := 91) (q := 55) rfl rfl rfl (fun c => absurd (by decide) c) (fun _ => ?_)
      refine ev_go 2 (q := 57) (L' := [_, _, _, some (.int 1), some (.int 0), some (.int 0)]) rfl ?_
      refine ev_get (q := 60) rfl (d_6 hn) rfl rfl rfl ?_
      refine ev_go 2 (q := 64) (L' := [_, _, _, some (.int 1), some (.int 0), some (.int 0)]) rfl ?_
      refine ev_go 1 (q := 65) (st' := .int 1000 :: _) rfl ?_
      refine ev_go 2 (q := 67) (L' := [_, _, _, some (.int 1), some (.int 0), some (.int 0)]) rfl ?_
      rw [il_1000]
      refine ev_put (q := 70) rfl (d_6 hn) rfl (Nat.le_of_ble_eq_true rfl) rfl rfl rfl ?_
      refine ev_hp du_6_0 ?_
      refine ev_go 4 (q := 74) (L' := [_, _, _, some (.int 1), some (.int 0), some (.int 0)]) rfl ?_
      refine ev_virt (z' := z_Readiness_failureAt) (q := 77) rfl rfl (by decide) rfl (by simp [Value.category]) rfl (by omega) rfl rfl (d_6 hn) (c_fa1 hn hR hC h0 h1 (by omega) hq) ?_
      refine ev_tp (y := 0) (if_pos zp0) ?_
      refine ev_go 3 (q := 83) (L' := [_, _, _, some (.int 1), some (.int 0), some (.int 0)]) rfl ?_
      refine ev_go 1 (q := 84) (st' := .int 3 :: _) rfl ?_
      refine ev_go 5 (q := 41) (st' := .int 6 :: _ :: _) (L' := [_, _, _, some (.int 3), some (.int 0), some (.int 1)]) rfl ?_
      refine ev_icmp_ge (t := 91) (q := 44) rfl rfl rfl (fun c => absurd c (by decide)) (fun _ => ?_)
      refine ev_go 2 (q := 47) (st' := .int 6 :: _ :: _) (L' := [_, _, _, some (.int 3), some (.int 0), some (.int 1)]) rfl ?_
      refine ev_icmp_ge (t := 91) (q := 50) rfl rfl rfl (fun c => absurd c (by decide)) (fun _ => ?_)
      refine ev_go 1 (q := 52) (L' := [_, _, _, some (.int 3), some (.int 0), some (.int 1)]) rfl ?_
      refine ev_if_ne (t := 91) (q := 55) rfl rfl rfl (fun c => absurd (by decide) c) (fun _ => ?_)
      refine ev_go 2 (q := 57) (L' := [_, _, _, some (.int 3), some (.int 0), some (.int 1)]) rfl ?_
      refine ev_get (q := 60) rfl (d_6 hn) rfl rfl rfl ?_
      refine ev_go 2 (q := 64) (L' := [_, _, _, some (.int 3), some (.int 0), some (.int 1)]) rfl ?_
      refine ev_go 1 (q := 65) (st' := .int 10 :: _) rfl ?_
      refine ev_go 2 (q := 67) (L' := [_, _, _, some (.int 3), some (.int 0), some (.int 1)]) rfl ?_
      rw [il_10]
      refine ev_put (q := 70) rfl (d_6 hn) rfl (Nat.le_of_ble_eq_true rfl) rfl rfl rfl ?_
      refine ev_hp du_6_0 ?_
      refine ev_go 4 (q := 74) (L' := [_, _, _, some (.int 3), some (.int 0), some (.int 1)]) rfl ?_
      refine ev_virt (z' := z_Readiness_failureAt) (q := 77) rfl rfl (by decide) rfl (by simp [Value.category]) rfl (by omega) rfl rfl (d_6 hn) (c_fa3_0 hn hR hC h0 h1 (by omega) hq hk) ?_
      refine ev_tp (y := 0) (if_pos zp1) ?_
      refine ev_go 3 (q := 83) (L' := [_, _, _, some (.int 3), some (.int 0), some (.int 1)]) rfl ?_
      refine ev_go 1 (q := 84) (st' := .int 5 :: _) rfl ?_
      refine ev_go 5 (q := 41) (st' := .int 6 :: _ :: _) (L' := [_, _, _, some (.int 5), some (.int 0), some (.int 2)]) rfl ?_
      refine ev_icmp_ge (t := 91) (q := 44) rfl rfl rfl (fun c => absurd c (by decide)) (fun _ => ?_)
      refine ev_go 2 (q := 47) (st' := .int 6 :: _ :: _) (L' := [_, _, _, some (.int 5), some (.int 0), some (.int 2)]) rfl ?_
      refine ev_icmp_ge (t := 91) (q := 50) rfl rfl rfl (fun c => absurd c (by decide)) (fun _ => ?_)
      refine ev_go 1 (q := 52) (L' := [_, _, _, some (.int 5), some (.int 0), some (.int 2)]) rfl ?_
      refine ev_if_ne (t := 91) (q := 55) rfl rfl rfl (fun c => absurd (by decide) c) (fun _ => ?_)
      refine ev_go 2 (q := 57) (L' := [_, _, _, some (.int 5), some (.int 0), some (.int 2)]) rfl ?_
      refine ev_get (q := 60) rfl (d_6 hn) rfl rfl rfl ?_
      refine ev_go 2 (q := 64) (L' := [_, _, _, some (.int 5), some (.int 0), some (.int 2)]) rfl ?_
      refine ev_go 1 (q := 65) (st' := .int 1 :: _) rfl ?_
      refine ev_go 2 (q := 67) (L' := [_, _, _, some (.int 5), some (.int 0), some (.int 2)]) rfl ?_
      rw [il_1]
      refine ev_put (q := 70) rfl (d_6 hn) rfl (Nat.le_of_ble_eq_true rfl) rfl rfl rfl ?_
      refine ev_hp du_6_0 ?_
      refine ev_go 4 (q := 74) (L' := [_, _, _, some (.int 5), some (.int 0), some (.int 2)]) rfl ?_
      refine ev_virt (z' := z_Readiness_failureAt) (q := 77) rfl rfl (by decide) rfl (by simp [Value.category]) rfl (by omega) rfl rfl (d_6 hn) (c_fa5_0 hn hR hC h0 h1 (by omega) hq hk) ?_
      refine ev_tp (y := 0) (if_pos zp2) ?_
      refine ev_go 3 (q := 83) (L' := [_, _, _, some (.int 5), some (.int 0), some (.int 2)]) rfl ?_
      refine ev_go 1 (q := 84) (st' := .int 6 :: _) rfl ?_
      refine ev_go 5 (q := 41) (st' := .int 6 :: _ :: _) (L' := [_, _, _, some (.int 6), some (.int 0), some (.int 3)]) rfl ?_
      refine ev_icmp_ge (t := 91) (q := 44) rfl rfl rfl (fun c => absurd c (by decide)) (fun _ => ?_)
      refine ev_go 2 (q := 47) (st' := .int 6 :: _ :: _) (L' := [_, _, _, some (.int 6), some (.int 0), some (.int 3)]) rfl ?_
      refine ev_icmp_ge (t := 91) (q := 50) rfl rfl rfl (fun _ => ?_) (fun c => absurd (by decide) c)
      refine ev_go 1 (q := 93) (L' := [_, _, _, some (.int 6), some (.int 0), some (.int 3)]) rfl ?_
      exact ev_iret rfl rfl ((congrArg Prod.fst ze).symm) (congrArg (fun z => dH h τ z B P) (congrArg Prod.snd ze).symm)
    · have ze : rdy R C (sp_sel (B 0) R C) (cv o τ) t 0 = (2, t + 1000 + 10) := (if_pos zp0).trans (if_neg zp1)
      refine ev_go 1 (q := 1) (L' := [_, _, _, _, _, _]) rfl ?_
      refine ev_get (q := 4) rfl (d_cmd hn hq) rfl rfl rfl ?_
      refine ev_tp (y := 0) hk ?_
      refine ev_go 2 (q := 8) (st' := _ :: .int 0 :: _ :: _) (L' := [_, _, _, _, _, _]) rfl ?_
      refine ev_go 1 (q := 9) (st' := .int 13 :: _) rfl ?_
      refine ev_go 2 (q := 11) (st' := .int (_ - 1) :: _ :: _ :: _) (L' := [_, _, _, _, _, _]) rfl ?_
      refine ev_static (z' := z_Desk_within) (q := 14) rfl rfl (by decide) rfl rfl (by simp [Value.category]) rfl (by omega) (k_within _ _ _) ?_
      refine ev_if_eq (t := 28) (q := 17) rfl rfl rfl (fun c => absurd c (by decide)) (fun zc1 => ?_)
      refine ev_go 2 (q := 21) (L' := [_, _, _, _, _, _]) rfl ?_
      refine ev_get (q := 24) rfl (d_cmd hn hq) rfl rfl rfl ?_
      refine ev_tp (y := 0) hk ?_
      refine ev_go 1 (q := 25) (st' := .int 1 :: _) rfl ?_
      refine ev_go 8 (q := 41) (st' := .int 6 :: _ :: _) (L' := [_, _, _, some (.int 1), some (.int 0), some (.int 0)]) rfl ?_
      refine ev_icmp_ge (t := 91) (q := 44) rfl rfl rfl (fun c => absurd c (by decide)) (fun _ => ?_)
      refine ev_go 2 (q := 47) (st' := .int 6 :: _ :: _) (L' := [_, _, _, some (.int 1), some (.int 0), some (.int 0)]) rfl ?_
      refine ev_icmp_ge (t := 91) (q := 50) rfl rfl rfl (fun c => absurd c (by decide)) (fun _ => ?_)
      refine ev_go 1 (q := 52) (L' := [_, _, _, some (.int 1), some (.int 0), some (.int 0)]) rfl ?_
      refine ev_if_ne (t := 91) (q := 55) rfl rfl rfl (fun c => absurd (by decide) c) (fun _ => ?_)
      refine ev_go 2 (q := 57) (L' := [_, _, _, some (.int 1), some (.int 0), some (.int 0)]) rfl ?_
      refine ev_get (q := 60) rfl (d_6 hn) rfl rfl rfl ?_
      refine ev_go 2 (q := 64) (L' := [_, _, _, some (.int 1), some (.int 0), some (.int 0)]) rfl ?_
      refine ev_go 1 (q := 65) (st' := .int 1000 :: _) rfl ?_
      refine ev_go 2 (q := 67) (L' := [_, _, _, some (.int 1), some (.int 0), some (.int 0)]) rfl ?_
      rw [il_1000]
      refine ev_put (q := 70) rfl (d_6 hn) rfl (Nat.le_of_ble_eq_true rfl) rfl rfl rfl ?_
      refine ev_hp du_6_0 ?_
      refine ev_go 4 (q := 74) (L' := [_, _, _, some (.int 1), some (.int 0), some (.int 0)]) rfl ?_
      refine ev_virt (z' := z_Readiness_failureAt) (q := 77) rfl rfl (by decide) rfl (by simp [Value.category]) rfl (by omega) rfl rfl (d_6 hn) (c_fa1 hn hR hC h0 h1 (by omega) hq) ?_
      refine ev_tp (y := 0) (if_pos zp0) ?_
      refine ev_go 3 (q := 83) (L' := [_, _, _, some (.int 1), some (.int 0), some (.int 0)]) rfl ?_
      refine ev_go 1 (q := 84) (st' := .int 3 :: _) rfl ?_
      refine ev_go 5 (q := 41) (st' := .int 6 :: _ :: _) (L' := [_, _, _, some (.int 3), some (.int 0), some (.int 1)]) rfl ?_
      refine ev_icmp_ge (t := 91) (q := 44) rfl rfl rfl (fun c => absurd c (by decide)) (fun _ => ?_)
      refine ev_go 2 (q := 47) (st' := .int 6 :: _ :: _) (L' := [_, _, _, some (.int 3), some (.int 0), some (.int 1)]) rfl ?_
      refine ev_icmp_ge (t := 91) (q := 50) rfl rfl rfl (fun c => absurd c (by decide)) (fun _ => ?_)
      refine ev_go 1 (q := 52) (L' := [_, _, _, some (.int 3), some (.int 0), some (.int 1)]) rfl ?_
      refine ev_if_ne (t := 91) (q := 55) rfl rfl rfl (fun c => absurd (by decide) c) (fun _ => ?_)
      refine ev_go 2 (q := 57) (L' := [_, _, _, some (.int 3), some (.int 0), some (.int 1)]) rfl ?_
      refine ev_get (q := 60) rfl (d_6 hn) rfl rfl rfl ?_
      refine ev_go 2 (q := 64) (L' := [_, _, _, some (.int 3), some (.int 0), some (.int 1)]) rfl ?_
      refine ev_go 1 (q := 65) (st' := .int 10 :: _) rfl ?_
      refine ev_go 2 (q := 67) (L' := [_, _, _, some (.int 3), some (.int 0), some (.int 1)]) rfl ?_
      rw [il_10]
      refine ev_put (q := 70) rfl (d_6 hn) rfl (Nat.le_of_ble_eq_true rfl) rfl rfl rfl ?_
      refine ev_hp du_6_0 ?_
      refine ev_go 4 (q := 74) (L' := [_, _, _, some (.int 3), some (.int 0), some (.int 1)]) rfl ?_
      refine ev_virt (z' := z_Readiness_failureAt) (q := 77) rfl rfl (by decide) rfl (by simp [Value.category]) rfl (by omega) rfl rfl (d_6 hn) (c_fa3_0 hn hR hC h0 h1 (by omega) hq hk) ?_
      refine ev_tp (y := 2) (if_neg zp1) ?_
      refine ev_go 3 (q := 83) (L' := [_, _, _, some (.int 3), some (.int 2), some (.int 1)]) rfl ?_
      refine ev_go 1 (q := 84) (st' := .int 5 :: _) rfl ?_
      refine ev_go 5 (q := 41) (st' := .int 6 :: _ :: _) (L' := [_, _, _, some (.int 5), some (.int 2), some (.int 2)]) rfl ?_
      refine ev_icmp_ge (t := 91) (q := 44) rfl rfl rfl (fun c => absurd c (by decide)) (fun _ => ?_)
      refine ev_go 2 (q := 47) (st' := .int 6 :: _ :: _) (L' := [_, _, _, some (.int 5), some (.int 2), some (.int 2)]) rfl ?_
      refine ev_icmp_ge (t := 91) (q := 50) rfl rfl rfl (fun c => absurd c (by decide)) (fun _ => ?_)
      refine ev_go 1 (q := 52) (L' := [_, _, _, some (.int 5), some (.int 2), some (.int 2)]) rfl ?_
      refine ev_if_ne (t := 91) (q := 55) rfl rfl rfl (fun _ => ?_) (fun c => absurd c (by decide))
      refine ev_go 1 (q := 93) (L' := [_, _, _, some (.int 5), some (.int 2), some (.int 2)]) rfl ?_
      exact ev_iret rfl rfl ((congrArg Prod.fst ze).symm) (congrArg (fun z => dH h τ z B P) (congrArg Prod.snd ze).symm)
  · have ze : rdy R C (sp_sel (B 0) R C) (cv o τ) t 0 = (1, t + 1000) := if_neg zp0
    refine ev_go 1 (q := 1) (L' := [_, _, _, _, _, _]) rfl ?_
    refine ev_get (q := 4) rfl (d_cmd hn hq) rfl rfl rfl ?_
    refine ev_tp (y := 0) hk ?_
    refine ev_go 2 (q := 8) (st' := _ :: .int 0 :: _ :: _) (L' := [_, _, _, _, _, _]) rfl ?_
    refine ev_go 1 (q := 9) (st' := .int 13 :: _) rfl ?_
    refine ev_go 2 (q := 11) (st' := .int (_ - 1) :: _ :: _ :: _) (L' := [_, _, _, _, _, _]) rfl ?_
    refine ev_static (z' := z_Desk_within) (q := 14) rfl rfl (by decide) rfl rfl (by simp [Value.category]) rfl (by omega) (k_within _ _ _) ?_
    refine ev_if_eq (t := 28) (q := 17) rfl rfl rfl (fun c => absurd c (by decide)) (fun zc1 => ?_)
    refine ev_go 2 (q := 21) (L' := [_, _, _, _, _, _]) rfl ?_
    refine ev_get (q := 24) rfl (d_cmd hn hq) rfl rfl rfl ?_
    refine ev_tp (y := 0) hk ?_
    refine ev_go 1 (q := 25) (st' := .int 1 :: _) rfl ?_
    refine ev_go 8 (q := 41) (st' := .int 6 :: _ :: _) (L' := [_, _, _, some (.int 1), some (.int 0), some (.int 0)]) rfl ?_
    refine ev_icmp_ge (t := 91) (q := 44) rfl rfl rfl (fun c => absurd c (by decide)) (fun _ => ?_)
    refine ev_go 2 (q := 47) (st' := .int 6 :: _ :: _) (L' := [_, _, _, some (.int 1), some (.int 0), some (.int 0)]) rfl ?_
    refine ev_icmp_ge (t := 91) (q := 50) rfl rfl rfl (fun c => absurd c (by decide)) (fun _ => ?_)
    refine ev_go 1 (q := 52) (L' := [_, _, _, some (.int 1), some (.int 0), some (.int 0)]) rfl ?_
    refine ev_if_ne (t := 91) (q := 55) rfl rfl rfl (fun c => absurd (by decide) c) (fun _ => ?_)
    refine ev_go 2 (q := 57) (L' := [_, _, _, some (.int 1), some (.int 0), some (.int 0)]) rfl ?_
    refine ev_get (q := 60) rfl (d_6 hn) rfl rfl rfl ?_
    refine ev_go 2 (q := 64) (L' := [_, _, _, some (.int 1), some (.int 0), some (.int 0)]) rfl ?_
    refine ev_go 1 (q := 65) (st' := .int 1000 :: _) rfl ?_
    refine ev_go 2 (q := 67) (L' := [_, _, _, some (.int 1), some (.int 0), some (.int 0)]) rfl ?_
    rw [il_1000]
    refine ev_put (q := 70) rfl (d_6 hn) rfl (Nat.le_of_ble_eq_true rfl) rfl rfl rfl ?_
    refine ev_hp du_6_0 ?_
    refine ev_go 4 (q := 74) (L' := [_, _, _, some (.int 1), some (.int 0), some (.int 0)]) rfl ?_
    refine ev_virt (z' := z_Readiness_failureAt) (q := 77) rfl rfl (by decide) rfl (by simp [Value.category]) rfl (by omega) rfl rfl (d_6 hn) (c_fa1 hn hR hC h0 h1 (by omega) hq) ?_
    refine ev_tp (y := 1) (if_neg zp0) ?_
    refine ev_go 3 (q := 83) (L' := [_, _, _, some (.int 1), some (.int 1), some (.int 0)]) rfl ?_
    refine ev_go 1 (q := 84) (st' := .int 3 :: _) rfl ?_
    refine ev_go 5 (q := 41) (st' := .int 6 :: _ :: _) (L' := [_, _, _, some (.int 3), some (.int 1), some (.int 1)]) rfl ?_
    refine ev_icmp_ge (t := 91) (q := 44) rfl rfl rfl (fun c => absurd c (by decide)) (fun _ => ?_)
    refine ev_go 2 (q := 47) (st' := .int 6 :: _ :: _) (L' := [_, _, _, some (.int 3), some (.int 1), some (.int 1)]) rfl ?_
    refine ev_icmp_ge (t := 91) (q := 50) rfl rfl rfl (fun c => absurd c (by decide)) (fun _ => ?_)
    refine ev_go 1 (q := 52) (L' := [_, _, _, some (.int 3), some (.int 1), some (.int 1)]) rfl ?_
    refine ev_if_ne (t := 91) (q := 55) rfl rfl rfl (fun _ => ?_) (fun c => absurd c (by decide))
    refine ev_go 1 (q := 93) (L' := [_, _, _, some (.int 3), some (.int 1), some (.int 1)]) rfl ?_
    exact ev_iret rfl rfl ((congrArg Prod.fst ze).symm) (congrArg (fun z => dH h τ z B P) (congrArg Prod.snd ze).symm)
theorem c_ask1 (hn : 15 ≤ h.1) (hR : 1 ≤ R ∧ R ≤ 10) (hC : 1 ≤ C ∧ C ≤ 10) (h0 : τ 0 = nI R) (h1 : τ 1 = nI C) (hd : 4 < d) (hq : cmd_at q o) (hk : τ o = 1) (hs : 0 < sp_sel (B 0) R C ↔ ¬ sp_sel (B 0) R C = 0) : am_m d z_Readiness_ask [.ref 6, .ref q, .ref 1] (dH h τ t B P) (some (.int (rdy R C (sp_sel (B 0) R C) (cv o τ) t 1).1)) (dH h τ (rdy R C (sp_sel (B 0) R C) (cv o τ) t 1).2 B P) := by
  by_cases zp0 : cl_kn R C (cv o τ 0) (cv o τ 1)
  · by_cases zp1 : bt 0 (cv o τ 4) 9
    · have zp2 : True := trivial
      have ze : rdy R C (sp_sel (B 0) R C) (cv o τ) t 1 = (0, t + 1000 + 10 + 1) := (if_pos zp0).trans ((if_pos zp1).trans (congrArg (fun z : Int32 => (z, t + 1000 + 10 + 1)) (if_pos zp2)))
      refine ev_go 1 (q := 1) (L' := [_, _, _, _, _, _]) rfl ?_
      refine ev_get (q := 4) rfl (d_cmd hn hq) rfl rfl rfl ?_
      refine ev_tp (y := 1) hk ?_
      refine ev_go 2 (q := 8) (st' := _ :: .int 0 :: _ :: _) (L' := [_, _, _, _, _, _]) rfl ?_
      refine ev_go 1 (q := 9) (st' := .int 13 :: _) rfl ?_
      refine ev_go 2 (q := 11) (st' := .int (_ - 1) :: _ :: _ :: _) (L' := [_, _, _, _, _, _]) rfl ?_
      refine ev_static (z' := z_Desk_within) (q := 14) rfl rfl (by decide) rfl rfl (by simp [Value.category]) rfl (by omega) (k_within _ _ _) ?_
      refine ev_if_eq (t := 28) (q := 17) rfl rfl rfl (fun c => absurd c (by decide)) (fun zc1 => ?_)
      refine ev_go 2 (q := 21) (L' := [_, _, _, _, _, _]) rfl ?_
      refine ev_get (q := 24) rfl (d_cmd hn hq) rfl rfl rfl ?_
      refine ev_tp (y := 1) hk ?_
      refine ev_go 1 (q := 25) (st' := .int 1 :: _) rfl ?_
      refine ev_go 8 (q := 41) (st' := .int 6 :: _ :: _) (L' := [_, _, _, some (.int 1), some (.int 0), some (.int 0)]) rfl ?_
      refine ev_icmp_ge (t := 91) (q := 44) rfl rfl rfl (fun c => absurd c (by decide)) (fun _ => ?_)
      refine ev_go 2 (q := 47) (st' := .int 6 :: _ :: _) (L' := [_, _, _, some (.int 1), some (.int 0), some (.int 0)]) rfl ?_
      refine ev_icmp_ge (t := 91) (q := 50) rfl rfl rfl (fun c => absurd c (by decide)) (fun _ => ?_)
      refine ev_go 1 (q := 52) (L' := [_, _, _, some (.int 1), some (.int 0), some (.int 0)]) rfl ?_
      refine ev_if_ne (t := 91) (q := 55) rfl rfl rfl (fun c => absurd (by decide) c) (fun _ => ?_)
      refine ev_go 2 (q := 57) (L' := [_, _, _, some (.int 1), some (.int 0), some (.int 0)]) rfl ?_
      refine ev_get (q := 60) rfl (d_6 hn) rfl rfl rfl ?_
      refine ev_go 2 (q := 64) (L' := [_, _, _, some (.int 1), some (.int 0), some (.int 0)]) rfl ?_
      refine ev_go 1 (q := 65) (st' := .int 1000 :: _) rfl ?_
      refine ev_go 2 (q := 67) (L' := [_, _, _, some (.int 1), some (.int 0), some (.int 0)]) rfl ?_
      rw [il_1000]
      refine ev_put (q := 70) rfl (d_6 hn) rfl (Nat.le_of_ble_eq_true rfl) rfl rfl rfl ?_
      refine ev_hp du_6_0 ?_
      refine ev_go 4 (q := 74) (L' := [_, _, _, some (.int 1), some (.int 0), some (.int 0)]) rfl ?_
      refine ev_virt (z' := z_Readiness_failureAt) (q := 77) rfl rfl (by decide) rfl (by simp [Value.category]) rfl (by omega) rfl rfl (d_6 hn) (c_fa1 hn hR hC h0 h1 (by omega) hq) ?_
      refine ev_tp (y := 0) (if_pos zp0) ?_
      refine ev_go 3 (q := 83) (L' := [_, _, _, some (.int 1), some (.int 0), some (.int 0)]) rfl ?_
      refine ev_go 1 (q := 84) (st' := .int 3 :: _) rfl ?_
      refine ev_go 5 (q := 41) (st' := .int 6 :: _ :: _) (L' := [_, _, _, some (.int 3), some (.int 0), some (.int 1)]) rfl ?_
      refine ev_icmp_ge (t := 91) (q := 44) rfl rfl rfl (fun c => absurd c (by decide)) (fun _ => ?_)
      refine ev_go 2 (q := 47) (st' := .int 6 :: _ :: _) (L' := [_, _, _, some (.int 3), some (.int 0), some (.int 1)]) rfl ?_
      refine ev_icmp_ge (t := 91) (q := 50) rfl rfl rfl (fun c => absurd c (by decide)) (fun _ => ?_)
      refine ev_go 1 (q := 52) (L' := [_, _, _, some (.int 3), some (.int 0), some (.int 1)]) rfl ?_
      refine ev_if_ne (t := 91) (q := 55) rfl rfl rfl (fun c => absurd (by decide) c) (fun _ => ?_)
      refine ev_go 2 (q := 57) (L' := [_, _, _, some (.int 3), some (.int 0), some (.int 1)]) rfl ?_
      refine ev_get (q := 60) rfl (d_6 hn) rfl rfl rfl ?_
      refine ev_go 2 (q := 64) (L' := [_, _, _, some (.int 3), some (.int 0), some (.int 1)]) rfl ?_
      refine ev_go 1 (q := 65) (st' := .int 10 :: _) rfl ?_
      refine ev_go 2 (q := 67) (L' := [_, _, _, some (.int 3), some (.int 0), some (.int 1)]) rfl ?_
      rw [il_10]
      refine ev_put (q := 70) rfl (d_6 hn) rfl (Nat.le_of_ble_eq_true rfl) rfl rfl rfl ?_
      refine ev_hp du_6_0 ?_
      refine ev_go 4 (q := 74) (L' := [_, _, _, some (.int 3), some (.int 0), some (.int 1)]) rfl ?_
      refine ev_virt (z' := z_Readiness_failureAt) (q := 77) rfl rfl (by decide) rfl (by simp [Value.category]) rfl (by omega) rfl rfl (d_6 hn) (c_fa3_1 hn hR hC h0 h1 (by omega) hq hk) ?_
      refine ev_tp (y := 0) (if_pos zp1) ?_
      refine ev_go 3 (q := 83) (L' := [_, _, _, some (.int 3), some (.int 0), some (.int 1)]) rfl ?_
      refine ev_go 1 (q := 84) (st' := .int 5 :: _) rfl ?_
      refine ev_go 5 (q := 41) (st' := .int 6 :: _ :: _) (L' := [_, _, _, some (.int 5), some (.int 0), some (.int 2)]) rfl ?_
      refine ev_icmp_ge (t := 91) (q := 44) rfl rfl rfl (fun c => absurd c (by decide)) (fun _ => ?_)
      refine ev_go 2 (q := 47) (st' := .int 6 :: _ :: _) (L' := [_, _, _, some (.int 5), some (.int 0), some (.int 2)]) rfl ?_
      refine ev_icmp_ge (t := 91) (q := 50) rfl rfl rfl (fun c => absurd c (by decide)) (fun _ => ?_)
      refine ev_go 1 (q := 52) (L' := [_, _, _, some (.int 5), some (.int 0), some (.int 2)]) rfl ?_
      refine ev_if_ne (t := 91) (q := 55) rfl rfl rfl (fun c => absurd (by decide) c) (fun _ => ?_)
      refine ev_go 2 (q := 57) (L' := [_, _, _, some (.int 5), some (.int 0), some (.int 2)]) rfl ?_
      refine ev_get (q := 60) rfl (d_6 hn) rfl rfl rfl ?_
      refine ev_go 2 (q := 64) (L' := [_, _, _, some (.int 5), some (.int 0), some (.int 2)]) rfl ?_
      refine ev_go 1 (q := 65) (st' := .int 1 :: _) rfl ?_
      refine ev_go 2 (q := 67) (L' := [_, _, _, some (.int 5), some (.int 0), some (.int 2)]) rfl ?_
      rw [il_1]
      refine ev_put (q := 70) rfl (d_6 hn) rfl (Nat.le_of_ble_eq_true rfl) rfl rfl rfl ?_
      refine ev_hp du_6_0 ?_
      refine ev_go 4 (q := 74) (L' := [_, _, _, some (.int 5), some (.int 0), some (.int 2)]) rfl ?_
      refine ev_virt (z' := z_Readiness_failureAt) (q := 77) rfl rfl (by decide) rfl (by simp [Value.category]) rfl (by omega) rfl rfl (d_6 hn) (c_fa5_1 hn hR hC h0 h1 (by omega) hq hk) ?_
      refine ev_tp (y := 0) (if_pos zp2) ?_
      refine ev_go 3 (q := 83) (L' := [_, _, _, some (.int 5), some (.int 0), some (.int 2)]) rfl ?_
      refine ev_go 1 (q := 84) (st' := .int 6 :: _) rfl ?_
      refine ev_go 5 (q := 41) (st' := .int 6 :: _ :: _) (L' := [_, _, _, some (.int 6), some (.int 0), some (.int 3)]) rfl ?_
      refine ev_icmp_ge (t := 91) (q := 44) rfl rfl rfl (fun c => absurd c (by decide)) (fun _ => ?_)
      refine ev_go 2 (q := 47) (st' := .int 6 :: _ :: _) (L' := [_, _, _, some (.int 6), some (.int 0), some (.int 3)]) rfl ?_
      refine ev_icmp_ge (t := 91) (q := 50) rfl rfl rfl (fun _ => ?_) (fun c => absurd (by decide) c)
      refine ev_go 1 (q := 93) (L' := [_, _, _, some (.int 6), some (.int 0), some (.int 3)]) rfl ?_
      exact ev_iret rfl rfl ((congrArg Prod.fst ze).symm) (congrArg (fun z => dH h τ z B P) (congrArg Prod.snd ze).symm)
    · have ze : rdy R C (sp_sel (B 0) R C) (cv o τ) t 1 = (2, t + 1000 + 10) := (if_pos zp0).trans (if_neg zp1)
      refine ev_go 1 (q := 1) (L' := [_, _, _, _, _, _]) rfl ?_
      refine ev_get (q := 4) rfl (d_cmd hn hq) rfl rfl rfl ?_
      refine ev_tp (y := 1) hk ?_
      refine ev_go 2 (q := 8) (st' := _ :: .int 0 :: _ :: _) (L' := [_, _, _, _, _, _]) rfl ?_
      refine ev_go 1 (q := 9) (st' := .int 13 :: _) rfl ?_
      refine ev_go 2 (q := 11) (st' := .int (_ - 1) :: _ :: _ :: _) (L' := [_, _, _, _, _, _]) rfl ?_
      refine ev_static (z' := z_Desk_within) (q := 14) rfl rfl (by decide) rfl rfl (by simp [Value.category]) rfl (by omega) (k_within _ _ _) ?_
      refine ev_if_eq (t := 28) (q := 17) rfl rfl rfl (fun c => absurd c (by decide)) (fun zc1 => ?_)
      refine ev_go 2 (q := 21) (L' := [_, _, _, _, _, _]) rfl ?_
      refine ev_get (q := 24) rfl (d_cmd hn hq) rfl rfl rfl ?_
      refine ev_tp (y := 1) hk ?_
      refine ev_go 1 (q := 25) (st' := .int 1 :: _) rfl ?_
      refine ev_go 8 (q := 41) (st' := .int 6 :: _ :: _) (L' := [_, _, _, some (.int 1), some (.int 0), some (.int 0)]) rfl ?_
      refine ev_icmp_ge (t := 91) (q := 44) rfl rfl rfl (fun c => absurd c (by decide)) (fun _ => ?_)
      refine ev_go 2 (q := 47) (st' := .int 6 :: _ :: _) (L' := [_, _, _, some (.int 1), some (.int 0), some (.int 0)]) rfl ?_
      refine ev_icmp_ge (t := 91) (q := 50) rfl rfl rfl (fun c => absurd c (by decide)) (fun _ => ?_)
      refine ev_go 1 (q := 52) (L' := [_, _, _, some (.int 1), some (.int 0), some (.int 0)]) rfl ?_
      refine ev_if_ne (t := 91) (q := 55) rfl rfl rfl (fun c => absurd (by decide) c) (fun _ => ?_)
      refine ev_go 2 (q := 57) (L' := [_, _, _, some (.int 1), some (.int 0), some (.int 0)]) rfl ?_
      refine ev_get (q := 60) rfl (d_6 hn) rfl rfl rfl ?_
      refine ev_go 2 (q := 64) (L' := [_, _, _, some (.int 1), some (.int 0), some (.int 0)]) rfl ?_
      refine ev_go 1 (q := 65) (st' := .int 1000 :: _) rfl ?_
      refine ev_go 2 (q := 67) (L' := [_, _, _, some (.int 1), some (.int 0), some (.int 0)]) rfl ?_
      rw [il_1000]
      refine ev_put (q := 70) rfl (d_6 hn) rfl (Nat.le_of_ble_eq_true rfl) rfl rfl rfl ?_
      refine ev_hp du_6_0 ?_
      refine ev_go 4 (q := 74) (L' := [_, _, _, some (.int 1), some (.int 0), some (.int 0)]) rfl ?_
      refine ev_virt (z' := z_Readiness_failureAt) (q := 77) rfl rfl (by decide) rfl (by simp [Value.category]) rfl (by omega) rfl rfl (d_6 hn) (c_fa1 hn hR hC h0 h1 (by omega) hq) ?_
      refine ev_tp (y := 0) (if_pos zp0) ?_
      refine ev_go 3 (q := 83) (L' := [_, _, _, some (.int 1), some (.int 0), some (.int 0)]) rfl ?_
      refine ev_go 1 (q := 84) (st' := .int 3 :: _) rfl ?_
      refine ev_go 5 (q := 41) (st' := .int 6 :: _ :: _) (L' := [_, _, _, some (.int 3), some (.int 0), some (.int 1)]) rfl ?_
      refine ev_icmp_ge (t := 91) (q := 44) rfl rfl rfl (fun c => absurd c (by decide)) (fun _ => ?_)
      refine ev_go 2 (q := 47) (st' := .int 6 :: _ :: _) (L' := [_, _, _, some (.int 3), some (.int 0), some (.int 1)]) rfl ?_
      refine ev_icmp_ge (t := 91) (q := 50) rfl rfl rfl (fun c => absurd c (by decide)) (fun _ => ?_)
      refine ev_go 1 (q := 52) (L' := [_, _, _, some (.int 3), some (.int 0), some (.int 1)]) rfl ?_
      refine ev_if_ne (t := 91) (q := 55) rfl rfl rfl (fun c => absurd (by decide) c) (fun _ => ?_)
      refine ev_go 2 (q := 57) (L' := [_, _, _, some (.int 3), some (.int 0), some (.int 1)]) rfl ?_
      refine ev_get (q := 60) rfl (d_6 hn) rfl rfl rfl ?_
      refine ev_go 2 (q := 64) (L' := [_, _, _, some (.int 3), some (.int 0), some (.int 1)]) rfl ?_
      refine ev_go 1 (q := 65) (st' := .int 10 :: _) rfl ?_
      refine ev_go 2 (q := 67) (L' := [_, _, _, some (.int 3), some (.int 0), some (.int 1)]) rfl ?_
      rw [il_10]
      refine ev_put (q := 70) rfl (d_6 hn) rfl (Nat.le_of_ble_eq_true rfl) rfl rfl rfl ?_
      refine ev_hp du_6_0 ?_
      refine ev_go 4 (q := 74) (L' := [_, _, _, some (.int 3), some (.int 0), some (.int 1)]) rfl ?_
      refine ev_virt (z' := z_Readiness_failureAt) (q := 77) rfl rfl (by decide) rfl (by simp [Value.category]) rfl (by omega) rfl rfl (d_6 hn) (c_fa3_1 hn hR hC h0 h1 (by omega) hq hk) ?_
      refine ev_tp (y := 2) (if_neg zp1) ?_
      refine ev_go 3 (q := 83) (L' := [_, _, _, some (.int 3), some (.int 2), some (.int 1)]) rfl ?_
      refine ev_go 1 (q := 84) (st' := .int 5 :: _) rfl ?_
      refine ev_go 5 (q := 41) (st' := .int 6 :: _ :: _) (L' := [_, _, _, some (.int 5), some (.int 2), some (.int 2)]) rfl ?_
      refine ev_icmp_ge (t := 91) (q := 44) rfl rfl rfl (fun c => absurd c (by decide)) (fun _ => ?_)
      refine ev_go 2 (q := 47) (st' := .int 6 :: _ :: _) (L' := [_, _, _, some (.int 5), some (.int 2), some (.int 2)]) rfl ?_
      refine ev_icmp_ge (t := 91) (q := 50) rfl rfl rfl (fun c => absurd c (by decide)) (fun _ => ?_)
      refine ev_go 1 (q := 52) (L' := [_, _, _, some (.int 5), some (.int 2), some (.int 2)]) rfl ?_
      refine ev_if_ne (t := 91) (q := 55) rfl rfl rfl (fun _ => ?_) (fun c => absurd c (by decide))
      refine ev_go 1 (q := 93) (L' := [_, _, _, some (.int 5), some (.int 2), some (.int 2)]) rfl ?_
      exact ev_iret rfl rfl ((congrArg Prod.fst ze).symm) (congrArg (fun z => dH h τ z B P) (congrArg Prod.snd ze).symm)
  · have ze : rdy R C (sp_sel (B 0) R C) (cv o τ) t 1 = (1, t + 1000) := if_neg zp0
    refine ev_go 1 (q := 1) (L' := [_, _, _, _, _, _]) rfl ?_
    refine ev_get (q := 4) rfl (d_cmd hn hq) rfl rfl rfl ?_
    refine ev_tp (y := 1) hk ?_
    refine ev_go 2 (q := 8) (st' := _ :: .int 0 :: _ :: _) (L' := [_, _, _, _, _, _]) rfl ?_
    refine ev_go 1 (q := 9) (st' := .int 13 :: _) rfl ?_
    refine ev_go 2 (q := 11) (st' := .int (_ - 1) :: _ :: _ :: _) (L' := [_, _, _, _, _, _]) rfl ?_
    refine ev_static (z' := z_Desk_within) (q := 14) rfl rfl (by decide) rfl rfl (by simp [Value.category]) rfl (by omega) (k_within _ _ _) ?_
    refine ev_if_eq (t := 28) (q := 17) rfl rfl rfl (fun c => absurd c (by decide)) (fun zc1 => ?_)
    refine ev_go 2 (q := 21) (L' := [_, _, _, _, _, _]) rfl ?_
    refine ev_get (q := 24) rfl (d_cmd hn hq) rfl rfl rfl ?_
    refine ev_tp (y := 1) hk ?_
    refine ev_go 1 (q := 25) (st' := .int 1 :: _) rfl ?_
    refine ev_go 8 (q := 41) (st' := .int 6 :: _ :: _) (L' := [_, _, _, some (.int 1), some (.int 0), some (.int 0)]) rfl ?_
    refine ev_icmp_ge (t := 91) (q := 44) rfl rfl rfl (fun c => absurd c (by decide)) (fun _ => ?_)
    refine ev_go 2 (q := 47) (st' := .int 6 :: _ :: _) (L' := [_, _, _, some (.int 1), some (.int 0), some (.int 0)]) rfl ?_
    refine ev_icmp_ge (t := 91) (q := 50) rfl rfl rfl (fun c => absurd c (by decide)) (fun _ => ?_)
    refine ev_go 1 (q := 52) (L' := [_, _, _, some (.int 1), some (.int 0), some (.int 0)]) rfl ?_
    refine ev_if_ne (t := 91) (q := 55) rfl rfl rfl (fun c => absurd (by decide) c) (fun _ => ?_)
    refine ev_go 2 (q := 57) (L' := [_, _, _, some (.int 1), some (.int 0), some (.int 0)]) rfl ?_
    refine ev_get (q := 60) rfl (d_6 hn) rfl rfl rfl ?_
    refine ev_go 2 (q := 64) (L' := [_, _, _, some (.int 1), some (.int 0), some (.int 0)]) rfl ?_
    refine ev_go 1 (q := 65) (st' := .int 1000 :: _) rfl ?_
    refine ev_go 2 (q := 67) (L' := [_, _, _, some (.int 1), some (.int 0), some (.int 0)]) rfl ?_
    rw [il_1000]
    refine ev_put (q := 70) rfl (d_6 hn) rfl (Nat.le_of_ble_eq_true rfl) rfl rfl rfl ?_
    refine ev_hp du_6_0 ?_
    refine ev_go 4 (q := 74) (L' := [_, _, _, some (.int 1), some (.int 0), some (.int 0)]) rfl ?_
    refine ev_virt (z' := z_Readiness_failureAt) (q := 77) rfl rfl (by decide) rfl (by simp [Value.category]) rfl (by omega) rfl rfl (d_6 hn) (c_fa1 hn hR hC h0 h1 (by omega) hq) ?_
    refine ev_tp (y := 1) (if_neg zp0) ?_
    refine ev_go 3 (q := 83) (L' := [_, _, _, some (.int 1), some (.int 1), some (.int 0)]) rfl ?_
    refine ev_go 1 (q := 84) (st' := .int 3 :: _) rfl ?_
    refine ev_go 5 (q := 41) (st' := .int 6 :: _ :: _) (L' := [_, _, _, some (.int 3), some (.int 1), some (.int 1)]) rfl ?_
    refine ev_icmp_ge (t := 91) (q := 44) rfl rfl rfl (fun c => absurd c (by decide)) (fun _ => ?_)
    refine ev_go 2 (q := 47) (st' := .int 6 :: _ :: _) (L' := [_, _, _, some (.int 3), some (.int 1), some (.int 1)]) rfl ?_
    refine ev_icmp_ge (t := 91) (q := 50) rfl rfl rfl (fun c => absurd c (by decide)) (fun _ => ?_)
    refine ev_go 1 (q := 52) (L' := [_, _, _, some (.int 3), some (.int 1), some (.int 1)]) rfl ?_
    refine ev_if_ne (t := 91) (q := 55) rfl rfl rfl (fun _ => ?_) (fun c => absurd c (by decide))
    refine ev_go 1 (q := 93) (L' := [_, _, _, some (.int 3), some (.int 1), some (.int 1)]) rfl ?_
    exact ev_iret rfl rfl ((congrArg Prod.fst ze).symm) (congrArg (fun z => dH h τ z B P) (congrArg Prod.snd ze).symm)
theorem c_ask2 (hn : 15 ≤ h.1) (hR : 1 ≤ R ∧ R ≤ 10) (hC : 1 ≤ C ∧ C ≤ 10) (h0 : τ 0 = nI R) (h1 : τ 1 = nI C) (hd : 4 < d) (hq : cmd_at q o) (hk : τ o = 2) (hs : 0 < sp_sel (B 0) R C ↔ ¬ sp_sel (B 0) R C = 0) : am_m d z_Readiness_ask [.ref 6, .ref q, .ref 1] (dH h τ t B P) (some (.int (rdy R C (sp_sel (B 0) R C) (cv o τ) t 2).1)) (dH h τ (rdy R C (sp_sel (B 0) R C) (cv o τ) t 2).2 B P) := by
  by_cases zp0 : cl_kn R C (cv o τ 2) (cv o τ 3)
  · by_cases zp1 : cl_kn R C (cv o τ 0) (cv o τ 1)
    · by_cases zp2 : bt 0 (cv o τ 4) 9
      · have zp3 : True := trivial
        have ze : rdy R C (sp_sel (B 0) R C) (cv o τ) t 2 = (0, t + 100000 + 1000 + 10 + 1) := (if_pos zp0).trans ((if_pos zp1).trans ((if_pos zp2).trans (congrArg (fun z : Int32 => (z, t + 100000 + 1000 + 10 + 1)) (if_pos zp3))))
        refine ev_go 1 (q := 1) (L' := [_, _, _, _, _, _]) rfl ?_
        refine ev_get (q := 4) rfl (d_cmd hn hq) rfl rfl rfl ?_
        refine ev_tp (y := 2) hk ?_
        refine ev_go 2 (q := 8) (st' := _ :: .int 0 :: _ :: _) (L' := [_, _, _, _, _, _]) rfl ?_
        refine ev_go 1 (q := 9) (st' := .int 13 :: _) rfl ?_
        refine ev_go 2 (q := 11) (st' := .int (_ - 1) :: _ :: _ :: _) (L' := [_, _, _, _, _, _]) rfl ?_
        refine ev_static (z' := z_Desk_within) (q := 14) rfl rfl (by decide) rfl rfl (by simp [Value.category]) rfl (by omega) (k_within _ _ _) ?_
        refine ev_if_eq (t := 28) (q := 17) rfl rfl rfl (fun c => absurd c (by decide)) (fun zc1 => ?_)
        refine ev_go 2 (q := 21) (L' := [_, _, _, _, _, _]) rfl ?_
        refine ev_get (q := 24) rfl (d_cmd hn hq) rfl rfl rfl ?_
        refine ev_tp (y := 2) hk ?_
        refine ev_go 1 (q := 25) (st' := .int 0 :: _) rfl ?_
        refine ev_go 8 (q := 41) (st' := .int 6 :: _ :: _) (L' := [_, _, _, some (.int 0), some (.int 0), some (.int 0)]) rfl ?_
        refine ev_icmp_ge (t := 91) (q := 44) rfl rfl rfl (fun c => absurd c (by decide)) (fun _ => ?_)
        refine ev_go 2 (q := 47) (st' := .int 6 :: _ :: _) (L' := [_, _, _, some (.int 0), some (.int 0), some (.int 0)]) rfl ?_
        refine ev_icmp_ge (t := 91) (q := 50) rfl rfl rfl (fun c => absurd c (by decide)) (fun _ => ?_)
        refine ev_go 1 (q := 52) (L' := [_, _, _, some (.int 0), some (.int 0), some (.int 0)]) rfl ?_
        refine ev_if_ne (t := 91) (q := 55) rfl rfl rfl (fun c => absurd (by decide) c) (fun _ => ?_)
        refine ev_go 2 (q := 57) (L' := [_, _, _, some (.int 0), some (.int 0), some (.int 0)]) rfl ?_
        refine ev_get (q := 60) rfl (d_6 hn) rfl rfl rfl ?_
        refine ev_go 2 (q := 64) (L' := [_, _, _, some (.int 0), some (.int 0), some (.int 0)]) rfl ?_
        refine ev_go 1 (q := 65) (st' := .int 100000 :: _) rfl ?_
        refine ev_go 2 (q := 67) (L' := [_, _, _, some (.int 0), some (.int 0), some (.int 0)]) rfl ?_
        rw [il_100000]
        refine ev_put (q := 70) rfl (d_6 hn) rfl (Nat.le_of_ble_eq_true rfl) rfl rfl rfl ?_
        refine ev_hp du_6_0 ?_
        refine ev_go 4 (q := 74) (L' := [_, _, _, some (.int 0), some (.int 0), some (.int 0)]) rfl ?_
        refine ev_virt (z' := z_Readiness_failureAt) (q := 77) rfl rfl (by decide) rfl (by simp [Value.category]) rfl (by omega) rfl rfl (d_6 hn) (c_fa0 hn hR hC h0 h1 (by omega) hq) ?_
        refine ev_tp (y := 0) (if_pos zp0) ?_
        refine ev_go 3 (q := 83) (L' := [_, _, _, some (.int 0), some (.int 0), some (.int 0)]) rfl ?_
        refine ev_go 1 (q := 84) (st' := .int 1 :: _) rfl ?_
        refine ev_go 5 (q := 41) (st' := .int 6 :: _ :: _) (L' := [_, _, _, some (.int 1), some (.int 0), some (.int 1)]) rfl ?_
        refine ev_icmp_ge (t := 91) (q := 44) rfl rfl rfl (fun c => absurd c (by decide)) (fun _ => ?_)
        refine ev_go 2 (q := 47) (st' := .int 6 :: _ :: _) (L' := [_, _, _, some (.int 1), some (.int 0), some (.int 1)]) rfl ?_
        refine ev_icmp_ge (t := 91) (q := 50) rfl rfl rfl (fun c => absurd c (by decide)) (fun _ => ?_)
        refine ev_go 1 (q := 52) (L' := [_, _, _, some (.int 1), some (.int 0), some (.int 1)]) rfl ?_
        refine ev_if_ne (t := 91) (q := 55) rfl rfl rfl (fun c => absurd (by decide) c) (fun _ => ?_)
        refine ev_go 2 (q := 57) (L' := [_, _, _, some (.int 1), some (.int 0), some (.int 1)]) rfl ?_
        refine ev_get (q := 60) rfl (d_6 hn) rfl rfl rfl ?_
        refine ev_go 2 (q := 64) (L' := [_, _, _, some (.int 1), some (.int 0), some (.int 1)]) rfl ?_
        refine ev_go 1 (q := 65) (st' := .int 1000 :: _) rfl ?_
        refine ev_go 2 (q := 67) (L' := [_, _, _, some (.int 1), some (.int 0), some (.int 1)]) rfl ?_
        rw [il_1000]
        refine ev_put (q := 70) rfl (d_6 hn) rfl (Nat.le_of_ble_eq_true rfl) rfl rfl rfl ?_
        refine ev_hp du_6_0 ?_
        refine ev_go 4 (q := 74) (L' := [_, _, _, some (.int 1), some (.int 0), some (.int 1)]) rfl ?_
        refine ev_virt (z' := z_Readiness_failureAt) (q := 77) rfl rfl (by decide) rfl (by simp [Value.category]) rfl (by omega) rfl rfl (d_6 hn) (c_fa1 hn hR hC h0 h1 (by omega) hq) ?_
        refine ev_tp (y := 0) (if_pos zp1) ?_
        refine ev_go 3 (q := 83) (L' := [_, _, _, some (.int 1), some (.int 0), some (.int 1)]) rfl ?_
        refine ev_go 1 (q := 84) (st' := .int 3 :: _) rfl ?_
        refine ev_go 5 (q := 41) (st' := .int 6 :: _ :: _) (L' := [_, _, _, some (.int 3), some (.int 0), some (.int 2)]) rfl ?_
        refine ev_icmp_ge (t := 91) (q := 44) rfl rfl rfl (fun c => absurd c (by decide)) (fun _ => ?_)
        refine ev_go 2 (q := 47) (st' := .int 6 :: _ :: _) (L' := [_, _, _, some (.int 3), some (.int 0), some (.int 2)]) rfl ?_
        refine ev_icmp_ge (t := 91) (q := 50) rfl rfl rfl (fun c => absurd c (by decide)) (fun _ => ?_)
        refine ev_go 1 (q := 52) (L' := [_, _, _, some (.int 3), some (.int 0), some (.int 2)]) rfl ?_
        refine ev_if_ne (t := 91) (q := 55) rfl rfl rfl (fun c => absurd (by decide) c) (fun _ => ?_)
        refine ev_go 2 (q := 57) (L' := [_, _, _, some (.int 3), some (.int 0), some (.int 2)]) rfl ?_
        refine ev_get (q := 60) rfl (d_6 hn) rfl rfl rfl ?_
        refine ev_go 2 (q := 64) (L' := [_, _, _, some (.int 3), some (.int 0), some (.int 2)]) rfl ?_
        refine ev_go 1 (q := 65) (st' := .int 10 :: _) rfl ?_
        refine ev_go 2 (q := 67) (L' := [_, _, _, some (.int 3), some (.int 0), some (.int 2)]) rfl ?_
        rw [il_10]
        refine ev_put (q := 70) rfl (d_6 hn) rfl (Nat.le_of_ble_eq_true rfl) rfl rfl rfl ?_
        refine ev_hp du_6_0 ?_
        refine ev_go 4 (q := 74) (L' := [_, _, _, some (.int 3), some (.int 0), some (.int 2)]) rfl ?_
        refine ev_virt (z' := z_Readiness_failureAt) (q := 77) rfl rfl (by decide) rfl (by simp [Value.category]) rfl (by omega) rfl rfl (d_6 hn) (c_fa3_2 hn hR hC h0 h1 (by omega) hq hk) ?_
        refine ev_tp (y := 0) (if_pos zp2) ?_
        refine ev_go 3 (q := 83) (L' := [_, _, _, some (.int 3), some (.int 0), some (.int 2)]) rfl ?_
        refine ev_go 1 (q := 84) (st' := .int 5 :: _) rfl ?_
        refine ev_go 5 (q := 41) (st' := .int 6 :: _ :: _) (L' := [_, _, _, some (.int 5), some (.int 0), some (.int 3)]) rfl ?_
        refine ev_icmp_ge (t := 91) (q := 44) rfl rfl rfl (fun c => absurd c (by decide)) (fun _ => ?_)
        refine ev_go 2 (q := 47) (st' := .int 6 :: _ :: _) (L' := [_, _, _, some (.int 5), some (.int 0), some (.int 3)]) rfl ?_
        refine ev_icmp_ge (t := 91) (q := 50) rfl rfl rfl (fun c => absurd c (by decide)) (fun _ => ?_)
        refine ev_go 1 (q := 52) (L' := [_, _, _, some (.int 5), some (.int 0), some (.int 3)]) rfl ?_
        refine ev_if_ne (t := 91) (q := 55) rfl rfl rfl (fun c => absurd (by decide) c) (fun _ => ?_)
        refine ev_go 2 (q := 57) (L' := [_, _, _, some (.int 5), some (.int 0), some (.int 3)]) rfl ?_
        refine ev_get (q := 60) rfl (d_6 hn) rfl rfl rfl ?_
        refine ev_go 2 (q := 64) (L' := [_, _, _, some (.int 5), some (.int 0), some (.int 3)]) rfl ?_
        refine ev_go 1 (q := 65) (st' := .int 1 :: _) rfl ?_
        refine ev_go 2 (q := 67) (L' := [_, _, _, some (.int 5), some (.int 0), some (.int 3)]) rfl ?_
        rw [il_1]
        refine ev_put (q := 70) rfl (d_6 hn) rfl (Nat.le_of_ble_eq_true rfl) rfl rfl rfl ?_
        refine ev_hp du_6_0 ?_
        refine ev_go 4 (q := 74) (L' := [_, _, _, some (.int 5), some (.int 0), some (.int 3)]) rfl ?_
        refine ev_virt (z' := z_Readiness_failureAt) (q := 77) rfl rfl (by decide) rfl (by simp [Value.category]) rfl (by omega) rfl rfl (d_6 hn) (c_fa5_2 hn hR hC h0 h1 (by omega) hq hk) ?_
        refine ev_tp (y := 0) (if_pos zp3) ?_
        refine ev_go 3 (q := 83) (L' := [_, _, _, some (.int 5), some (.int 0), some (.int 3)]) rfl ?_
        refine ev_go 1 (q := 84) (st' := .int 6 :: _) rfl ?_
        refine ev_go 5 (q := 41) (st' := .int 6 :: _ :: _) (L' := [_, _, _, some (.int 6), some (.int 0), some (.int 4)]) rfl ?_
        refine ev_icmp_ge (t := 91) (q := 44) rfl rfl rfl (fun c => absurd c (by decide)) (fun _ => ?_)
        refine ev_go 2 (q := 47) (st' := .int 6 :: _ :: _) (L' := [_, _, _, some (.int 6), some (.int 0), some (.int 4)]) rfl ?_
        refine ev_icmp_ge (t := 91) (q := 50) rfl rfl rfl (fun _ => ?_) (fun c => absurd (by decide) c)
        refine ev_go 1 (q := 93) (L' := [_, _, _, some (.int 6), some (.int 0), some (.int 4)]) rfl ?_
        exact ev_iret rfl rfl ((congrArg Prod.fst ze).symm) (congrArg (fun z => dH h τ z B P) (congrArg Prod.snd ze).symm)
      · have ze : rdy R C (sp_sel (B 0) R C) (cv o τ) t 2 = (2, t + 100000 + 1000 + 10) := (if_pos zp0).trans ((if_pos zp1).trans (if_neg zp2))
        refine ev_go 1 (q := 1) (L' := [_, _, _, _, _, _]) rfl ?_
        refine ev_get (q := 4) rfl (d_cmd hn hq) rfl rfl rfl ?_
        refine ev_tp (y := 2) hk ?_
        refine ev_go 2 (q := 8) (st' := _ :: .int 0 :: _ :: _) (L' := [_, _, _, _, _, _]) rfl ?_
        refine ev_go 1 (q := 9) (st' := .int 13 :: _) rfl ?_
        refine ev_go 2 (q := 11) (st' := .int (_ - 1) :: _ :: _ :: _) (L' := [_, _, _, _, _, _]) rfl ?_
        refine ev_static (z' := z_Desk_within) (q := 14) rfl rfl (by decide) rfl rfl (by simp [Value.category]) rfl (by omega) (k_within _ _ _) ?_
        refine ev_if_eq (t := 28) (q := 17) rfl rfl rfl (fun c => absurd c (by decide)) (fun zc1 => ?_)
        refine ev_go 2 (q := 21) (L' := [_, _, _, _, _, _]) rfl ?_
        refine ev_get (q := 24) rfl (d_cmd hn hq) rfl rfl rfl ?_
        refine ev_tp (y := 2) hk ?_
        refine ev_go 1 (q := 25) (st' := .int 0 :: _) rfl ?_
        refine ev_go 8 (q := 41) (st' := .int 6 :: _ :: _) (L' := [_, _, _, some (.int 0), some (.int 0), some (.int 0)]) rfl ?_
        refine ev_icmp_ge (t := 91) (q := 44) rfl rfl rfl (fun c => absurd c (by decide)) (fun _ => ?_)
        refine ev_go 2 (q := 47) (st' := .int 6 :: _ :: _) (L' := [_, _, _, some (.int 0), some (.int 0), some (.int 0)]) rfl ?_
        refine ev_icmp_ge (t := 91) (q := 50) rfl rfl rfl (fun c => absurd c (by decide)) (fun _ => ?_)
        refine ev_go 1 (q := 52) (L' := [_, _, _, some (.int 0), some (.int 0), some (.int 0)]) rfl ?_
        refine ev_if_ne (t := 91) (q := 55) rfl rfl rfl (fun c => absurd (by decide) c) (fun _ => ?_)
        refine ev_go 2 (q := 57) (L' := [_, _, _, some (.int 0), some (.int 0), some (.int 0)]) rfl ?_
        refine ev_get (q := 60) rfl (d_6 hn) rfl rfl rfl ?_
        refine ev_go 2 (q := 64) (L' := [_, _, _, some (.int 0), some (.int 0), some (.int 0)]) rfl ?_
        refine ev_go 1 (q := 65) (st' := .int 100000 :: _) rfl ?_
        refine ev_go 2 (q := 67) (L' := [_, _, _, some (.int 0), some (.int 0), some (.int 0)]) rfl ?_
        rw [il_100000]
        refine ev_put (q := 70) rfl (d_6 hn) rfl (Nat.le_of_ble_eq_true rfl) rfl rfl rfl ?_
        refine ev_hp du_6_0 ?_
        refine ev_go 4 (q := 74) (L' := [_, _, _, some (.int 0), some (.int 0), some (.int 0)]) rfl ?_
        refine ev_virt (z' := z_Readiness_failureAt) (q := 77) rfl rfl (by decide) rfl (by simp [Value.category]) rfl (by omega) rfl rfl (d_6 hn) (c_fa0 hn hR hC h0 h1 (by omega) hq) ?_
        refine ev_tp (y := 0) (if_pos zp0) ?_
        refine ev_go 3 (q := 83) (L' := [_, _, _, some (.int 0), some (.int 0), some (.int 0)]) rfl ?_
        refine ev_go 1 (q := 84) (st' := .int 1 :: _) rfl ?_
        refine ev_go 5 (q := 41) (st' := .int 6 :: _ :: _) (L' := [_, _, _, some (.int 1), some (.int 0), some (.int 1)]) rfl ?_
        refine ev_icmp_ge (t := 91) (q := 44) rfl rfl rfl (fun c => absurd c (by decide)) (fun _ => ?_)
        refine ev_go 2 (q := 47) (st' := .int 6 :: _ :: _) (L' := [_, _, _, some (.int 1), some (.int 0), some (.int 1)]) rfl ?_
        refine ev_icmp_ge (t := 91) (q := 50) rfl rfl rfl (fun c => absurd c (by decide)) (fun _ => ?_)
        refine ev_go 1 (q := 52) (L' := [_, _, _, some (.int 1), some (.int 0), some (.int 1)]) rfl ?_
        refine ev_if_ne (t := 91) (q := 55) rfl rfl rfl (fun c => absurd (by decide) c) (fun _ => ?_)
        refine ev_go 2 (q := 57) (L' := [_, _, _, some (.int 1), some (.int 0), some (.int 1)]) rfl ?_
        refine ev_get (q := 60) rfl (d_6 hn) rfl rfl rfl ?_
        refine ev_go 2 (q := 64) (L' := [_, _, _, some (.int 1), some (.int 0), some (.int 1)]) rfl ?_
        refine ev_go 1 (q := 65) (st' := .int 1000 :: _) rfl ?_
        refine ev_go 2 (q := 67) (L' := [_, _, _, some (.int 1), some (.int 0), some (.int 1)]) rfl ?_
        rw [il_1000]
        refine ev_put (q := 70) rfl (d_6 hn) rfl (Nat.le_of_ble_eq_true rfl) rfl rfl rfl ?_
        refine ev_hp du_6_0 ?_
        refine ev_go 4 (q := 74) (L' := [_, _, _, some (.int 1), some (.int 0), some (.int 1)]) rfl ?_
        refine ev_virt (z' := z_Readiness_failureAt) (q := 77) rfl rfl (by decide) rfl (by simp [Value.category]) rfl (by omega) rfl rfl (d_6 hn) (c_fa1 hn hR hC h0 h1 (by omega) hq) ?_
        refine ev_tp (y := 0) (if_pos zp1) ?_
        refine ev_go 3 (q := 83) (L' := [_, _, _, some (.int 1), some (.int 0), some (.int 1)]) rfl ?_
        refine ev_go 1 (q := 84) (st' := .int 3 :: _) rfl ?_
        refine ev_go 5 (q := 41) (st' := .int 6 :: _ :: _) (L' := [_, _, _, some (.int 3), some (.int 0), some (.int 2)]) rfl ?_
        refine ev_icmp_ge (t := 91) (q := 44) rfl rfl rfl (fun c => absurd c (by decide)) (fun _ => ?_)
        refine ev_go 2 (q := 47) (st' := .int 6 :: _ :: _) (L' := [_, _, _, some (.int 3), some (.int 0), some (.int 2)]) rfl ?_
        refine ev_icmp_ge (t := 91) (q := 50) rfl rfl rfl (fun c => absurd c (by decide)) (fun _ => ?_)
        refine ev_go 1 (q := 52) (L' := [_, _, _, some (.int 3), some (.int 0), some (.int 2)]) rfl ?_
        refine ev_if_ne (t := 91) (q := 55) rfl rfl rfl (fun c => absurd (by decide) c) (fun _ => ?_)
        refine ev_go 2 (q := 57) (L' := [_, _, _, some (.int 3), some (.int 0), some (.int 2)]) rfl ?_
        refine ev_get (q := 60) rfl (d_6 hn) rfl rfl rfl ?_
        refine ev_go 2 (q := 64) (L' := [_, _, _, some (.int 3), some (.int 0), some (.int 2)]) rfl ?_
        refine ev_go 1 (q := 65) (st' := .int 10 :: _) rfl ?_
        refine ev_go 2 (q := 67) (L' := [_, _, _, some (.int 3), some (.int 0), some (.int 2)]) rfl ?_
        rw [il_10]
        refine ev_put (q := 70) rfl (d_6 hn) rfl (Nat.le_of_ble_eq_true rfl) rfl rfl rfl ?_
        refine ev_hp du_6_0 ?_
        refine ev_go 4 (q := 74) (L' := [_, _, _, some (.int 3), some (.int 0), some (.int 2)]) rfl ?_
        refine ev_virt (z' := z_Readiness_failureAt) (q := 77) rfl rfl (by decide) rfl (by simp [Value.category]) rfl (by omega) rfl rfl (d_6 hn) (c_fa3_2 hn hR hC h0 h1 (by omega) hq hk) ?_
        refine ev_tp (y := 2) (if_neg zp2) ?_
        refine ev_go 3 (q := 83) (L' := [_, _, _, some (.int 3), some (.int 2), some (.int 2)]) rfl ?_
        refine ev_go 1 (q := 84) (st' := .int 5 :: _) rfl ?_
        refine ev_go 5 (q := 41) (st' := .int 6 :: _ :: _) (L' := [_, _, _, some (.int 5), some (.int 2), some (.int 3)]) rfl ?_
        refine ev_icmp_ge (t := 91) (q := 44) rfl rfl rfl (fun c => absurd c (by decide)) (fun _ => ?_)
        refine ev_go 2 (q := 47) (st' := .int 6 :: _ :: _) (L' := [_, _, _, some (.int 5), some (.int 2), some (.int 3)]) rfl ?_
        refine ev_icmp_ge (t := 91) (q := 50) rfl rfl rfl (fun c => absurd c (by decide)) (fun _ => ?_)
        refine ev_go 1 (q := 52) (L' := [_, _, _, some (.int 5), some (.int 2), some (.int 3)]) rfl ?_
        refine ev_if_ne (t := 91) (q := 55) rfl rfl rfl (fun _ => ?_) (fun c => absurd c (by decide))
        refine ev_go 1 (q := 93) (L' := [_, _, _, some (.int 5), some (.int 2), some (.int 3)]) rfl ?_
        exact ev_iret rfl rfl ((congrArg Prod.fst ze).symm) (congrArg (fun z => dH h τ z B P) (congrArg Prod.snd ze).symm)
    · have ze : rdy R C (sp_sel (B 0) R C) (cv o τ) t 2 = (1, t + 100000 + 1000) := (if_pos zp0).trans (if_neg zp1)
      refine ev_go 1 (q := 1) (L' := [_, _, _, _, _, _]) rfl ?_
      refine ev_get (q := 4) rfl (d_cmd hn hq) rfl rfl rfl ?_
      refine ev_tp (y := 2) hk ?_
      refine ev_go 2 (q := 8) (st' := _ :: .int 0 :: _ :: _) (L' := [_, _, _, _, _, _]) rfl ?_
      refine ev_go 1 (q := 9) (st' := .int 13 :: _) rfl ?_
      refine ev_go 2 (q := 11) (st' := .int (_ - 1) :: _ :: _ :: _) (L' := [_, _, _, _, _, _]) rfl ?_
      refine ev_static (z' := z_Desk_within) (q := 14) rfl rfl (by decide) rfl rfl (by simp [Value.category]) rfl (by omega) (k_within _ _ _) ?_
      refine ev_if_eq (t := 28) (q := 17) rfl rfl rfl (fun c => absurd c (by decide)) (fun zc1 => ?_)
      refine ev_go 2 (q := 21) (L' := [_, _, _, _, _, _]) rfl ?_
      refine ev_get (q := 24) rfl (d_cmd hn hq) rfl rfl rfl ?_
      refine ev_tp (y := 2) hk ?_
      refine ev_go 1 (q := 25) (st' := .int 0 :: _) rfl ?_
      refine ev_go 8 (q := 41) (st' := .int 6 :: _ :: _) (L' := [_, _, _, some (.int 0), some (.int 0), some (.int 0)]) rfl ?_
      refine ev_icmp_ge (t := 91) (q := 44) rfl rfl rfl (fun c => absurd c (by decide)) (fun _ => ?_)
      refine ev_go 2 (q := 47) (st' := .int 6 :: _ :: _) (L' := [_, _, _, some (.int 0), some (.int 0), some (.int 0)]) rfl ?_
      refine ev_icmp_ge (t := 91) (q := 50) rfl rfl rfl (fun c => absurd c (by decide)) (fun _ => ?_)
      refine ev_go 1 (q := 52) (L' := [_, _, _, some (.int 0), some (.int 0), some (.int 0)]) rfl ?_
      refine ev_if_ne (t := 91) (q := 55) rfl rfl rfl (fun c => absurd (by decide) c) (fun _ => ?_)
      refine ev_go 2 (q := 57) (L' := [_, _, _, some (.int 0), some (.int 0), some (.int 0)]) rfl ?_
      refine ev_get (q := 60) rfl (d_6 hn) rfl rfl rfl ?_
      refine ev_go 2 (q := 64) (L' := [_, _, _, some (.int 0), some (.int 0), some (.int 0)]) rfl ?_
      refine ev_go 1 (q := 65) (st' := .int 100000 :: _) rfl ?_
      refine ev_go 2 (q := 67) (L' := [_, _, _, some (.int 0), some (.int 0), some (.int 0)]) rfl ?_
      rw [il_100000]
      refine ev_put (q := 70) rfl (d_6 hn) rfl (Nat.le_of_ble_eq_true rfl) rfl rfl rfl ?_
      refine ev_hp du_6_0 ?_
      refine ev_go 4 (q := 74) (L' := [_, _, _, some (.int 0), some (.int 0), some (.int 0)]) rfl ?_
      refine ev_virt (z' := z_Readiness_failureAt) (q := 77) rfl rfl (by decide) rfl (by simp [Value.category]) rfl (by omega) rfl rfl (d_6 hn) (c_fa0 hn hR hC h0 h1 (by omega) hq) ?_
      refine ev_tp (y := 0) (if_pos zp0) ?_
      refine ev_go 3 (q := 83) (L' := [_, _, _, some (.int 0), some (.int 0), some (.int 0)]) rfl ?_
      refine ev_go 1 (q := 84) (st' := .int 1 :: _) rfl ?_
      refine ev_go 5 (q := 41) (st' := .int 6 :: _ :: _) (L' := [_, _, _, some (.int 1), some (.int 0), some (.int 1)]) rfl ?_
      refine ev_icmp_ge (t := 91) (q := 44) rfl rfl rfl (fun c => absurd c (by decide)) (fun _ => ?_)
      refine ev_go 2 (q := 47) (st' := .int 6 :: _ :: _) (L' := [_, _, _, some (.int 1), some (.int 0), some (.int 1)]) rfl ?_
      refine ev_icmp_ge (t := 91) (q := 50) rfl rfl rfl (fun c => absurd c (by decide)) (fun _ => ?_)
      refine ev_go 1 (q := 52) (L' := [_, _, _, some (.int 1), some (.int 0), some (.int 1)]) rfl ?_
      refine ev_if_ne (t := 91) (q := 55) rfl rfl rfl (fun c => absurd (by decide) c) (fun _ => ?_)
      refine ev_go 2 (q := 57) (L' := [_, _, _, some (.int 1), some (.int 0), some (.int 1)]) rfl ?_
      refine ev_get (q := 60) rfl (d_6 hn) rfl rfl rfl ?_
      refine ev_go 2 (q := 64) (L' := [_, _, _, some (.int 1), some (.int 0), some (.int 1)]) rfl ?_
      refine ev_go 1 (q := 65) (st' := .int 1000 :: _) rfl ?_
      refine ev_go 2 (q := 67) (L' := [_, _, _, some (.int 1), some (.int 0), some (.int 1)]) rfl ?_
      rw [il_1000]
      refine ev_put (q := 70) rfl (d_6 hn) rfl (Nat.le_of_ble_eq_true rfl) rfl rfl rfl ?_
      refine ev_hp du_6_0 ?_
      refine ev_go 4 (q := 74) (L' := [_, _, _, some (.int 1), some (.int 0), some (.int 1)]) rfl ?_
      refine ev_virt (z' := z_Readiness_failureAt) (q := 77) rfl rfl (by decide) rfl (by simp [Value.category]) rfl (by omega) rfl rfl (d_6 hn) (c_fa1 hn hR hC h0 h1 (by omega) hq) ?_
      refine ev_tp (y := 1) (if_neg zp1) ?_
      refine ev_go 3 (q := 83) (L' := [_, _, _, some (.int 1), some (.int 1), some (.int 1)]) rfl ?_
      refine ev_go 1 (q := 84) (st' := .int 3 :: _) rfl ?_
      refine ev_go 5 (q := 41) (st' := .int 6 :: _ :: _) (L' := [_, _, _, some (.int 3), some (.int 1), some (.int 2)]) rfl ?_
      refine ev_icmp_ge (t := 91) (q := 44) rfl rfl rfl (fun c => absurd c (by decide)) (fun _ => ?_)
      refine ev_go 2 (q := 47) (st' := .int 6 :: _ :: _) (L' := [_, _, _, some (.int 3), some (.int 1), some (.int 2)]) rfl ?_
      refine ev_icmp_ge (t := 91) (q := 50) rfl rfl rfl (fun c => absurd c (by decide)) (fun _ => ?_)
      refine ev_go 1 (q := 52) (L' := [_, _, _, some (.int 3), some (.int 1), some (.int 2)]) rfl ?_
      refine ev_if_ne (t := 91) (q := 55) rfl rfl rfl (fun _ => ?_) (fun c => absurd c (by decide))
      refine ev_go 1 (q := 93) (L' := [_, _, _, some (.int 3), some (.int 1), some (.int 2)]) rfl ?_
      exact ev_iret rfl rfl ((congrArg Prod.fst ze).symm) (congrArg (fun z => dH h τ z B P) (congrArg Prod.snd ze).symm)
  · have ze : rdy R C (sp_sel (B 0) R C) (cv o τ) t 2 = (1, t + 100000) := if_neg zp0
    refine ev_go 1 (q := 1) (L' := [_, _, _, _, _, _]) rfl ?_
    refine ev_get (q := 4) rfl (d_cmd hn hq) rfl rfl rfl ?_
    refine ev_tp (y := 2) hk ?_
    refine ev_go 2 (q := 8) (st' := _ :: .int 0 :: _ :: _) (L' := [_, _, _, _, _, _]) rfl ?_
    refine ev_go 1 (q := 9) (st' := .int 13 :: _) rfl ?_
    refine ev_go 2 (q := 11) (st' := .int (_ - 1) :: _ :: _ :: _) (L' := [_, _, _, _, _, _]) rfl ?_
    refine ev_static (z' := z_Desk_within) (q := 14) rfl rfl (by decide) rfl rfl (by simp [Value.category]) rfl (by omega) (k_within _ _ _) ?_
    refine ev_if_eq (t := 28) (q := 17) rfl rfl rfl (fun c => absurd c (by decide)) (fun zc1 => ?_)
    refine ev_go 2 (q := 21) (L' := [_, _, _, _, _, _]) rfl ?_
    refine ev_get (q := 24) rfl (d_cmd hn hq) rfl rfl rfl ?_
    refine ev_tp (y := 2) hk ?_
    refine ev_go 1 (q := 25) (st' := .int 0 :: _) rfl ?_
    refine ev_go 8 (q := 41) (st' := .int 6 :: _ :: _) (L' := [_, _, _, some (.int 0), some (.int 0), some (.int 0)]) rfl ?_
    refine ev_icmp_ge (t := 91) (q := 44) rfl rfl rfl (fun c => absurd c (by decide)) (fun _ => ?_)
    refine ev_go 2 (q := 47) (st' := .int 6 :: _ :: _) (L' := [_, _, _, some (.int 0), some (.int 0), some (.int 0)]) rfl ?_
    refine ev_icmp_ge (t := 91) (q := 50) rfl rfl rfl (fun c => absurd c (by decide)) (fun _ => ?_)
    refine ev_go 1 (q := 52) (L' := [_, _, _, some (.int 0), some (.int 0), some (.int 0)]) rfl ?_
    refine ev_if_ne (t := 91) (q := 55) rfl rfl rfl (fun c => absurd (by decide) c) (fun _ => ?_)
    refine ev_go 2 (q := 57) (L' := [_, _, _, some (.int 0), some (.int 0), some (.int 0)]) rfl ?_
    refine ev_get (q := 60) rfl (d_6 hn) rfl rfl rfl ?_
    refine ev_go 2 (q := 64) (L' := [_, _, _, some (.int 0), some (.int 0), some (.int 0)]) rfl ?_
    refine ev_go 1 (q := 65) (st' := .int 100000 :: _) rfl ?_
    refine ev_go 2 (q := 67) (L' := [_, _, _, some (.int 0), some (.int 0), some (.int 0)]) rfl ?_
    rw [il_100000]
    refine ev_put (q := 70) rfl (d_6 hn) rfl (Nat.le_of_ble_eq_true rfl) rfl rfl rfl ?_
    refine ev_hp du_6_0 ?_
    refine ev_go 4 (q := 74) (L' := [_, _, _, some (.int 0), some (.int 0), some (.int 0)]) rfl ?_
    refine ev_virt (z' := z_Readiness_failureAt) (q := 77) rfl rfl (by decide) rfl (by simp [Value.category]) rfl (by omega) rfl rfl (d_6 hn) (c_fa0 hn hR hC h0 h1 (by omega) hq) ?_
    refine ev_tp (y := 1) (if_neg zp0) ?_
    refine ev_go 3 (q := 83) (L' := [_, _, _, some (.int 0), some (.int 1), some (.int 0)]) rfl ?_
    refine ev_go 1 (q := 84) (st' := .int 1 :: _) rfl ?_
    refine ev_go 5 (q := 41) (st' := .int 6 :: _ :: _) (L' := [_, _, _, some (.int 1), some (.int 1), some (.int 1)]) rfl ?_
    refine ev_icmp_ge (t := 91) (q := 44) rfl rfl rfl (fun c => absurd c (by decide)) (fun _ => ?_)
    refine ev_go 2 (q := 47) (st' := .int 6 :: _ :: _) (L' := [_, _, _, some (.int 1), some (.int 1), some (.int 1)]) rfl ?_
    refine ev_icmp_ge (t := 91) (q := 50) rfl rfl rfl (fun c => absurd c (by decide)) (fun _ => ?_)
    refine ev_go 1 (q := 52) (L' := [_, _, _, some (.int 1), some (.int 1), some (.int 1)]) rfl ?_
    refine ev_if_ne (t := 91) (q := 55) rfl rfl rfl (fun _ => ?_) (fun c => absurd c (by decide))
    refine ev_go 1 (q := 93) (L' := [_, _, _, some (.int 1), some (.int 1), some (.int 1)]) rfl ?_
    exact ev_iret rfl rfl ((congrArg Prod.fst ze).symm) (congrArg (fun z => dH h τ z B P) (congrArg Prod.snd ze).symm)
theorem c_ask3 (hn : 15 ≤ h.1) (hR : 1 ≤ R ∧ R ≤ 10) (hC : 1 ≤ C ∧ C ≤ 10) (h0 : τ 0 = nI R) (h1 : τ 1 = nI C) (hd : 4 < d) (hq : cmd_at q o) (hk : τ o = 3) (hs : 0 < sp_sel (B 0) R C ↔ ¬ sp_sel (B 0) R C = 0) : am_m d z_Readiness_ask [.ref 6, .ref q, .ref 1] (dH h τ t B P) (some (.int (rdy R C (sp_sel (B 0) R C) (cv o τ) t 3).1)) (dH h τ (rdy R C (sp_sel (B 0) R C) (cv o τ) t 3).2 B P) := by
  by_cases zp0 : cl_kn R C (cv o τ 0) (cv o τ 1)
  · by_cases zp1 : bt 0 (cv o τ 4) 9
    · by_cases zp2 : bt 0 (cv o τ 2) 511 ∧ bt 0 (cv o τ 3) 7
      · have ze : rdy R C (sp_sel (B 0) R C) (cv o τ) t 3 = (0, t + 1000 + 10 + 1) := (if_pos zp0).trans ((if_pos zp1).trans (congrArg (fun z : Int32 => (z, t + 1000 + 10 + 1)) (if_pos zp2)))
        refine ev_go 1 (q := 1) (L' := [_, _, _, _, _, _]) rfl ?_
        refine ev_get (q := 4) rfl (d_cmd hn hq) rfl rfl rfl ?_
        refine ev_tp (y := 3) hk ?_
        refine ev_go 2 (q := 8) (st' := _ :: .int 0 :: _ :: _) (L' := [_, _, _, _, _, _]) rfl ?_
        refine ev_go 1 (q := 9) (st' := .int 13 :: _) rfl ?_
        refine ev_go 2 (q := 11) (st' := .int (_ - 1) :: _ :: _ :: _) (L' := [_, _, _, _, _, _]) rfl ?_
        refine ev_static (z' := z_Desk_within) (q := 14) rfl rfl (by decide) rfl rfl (by simp [Value.category]) rfl (by omega) (k_within _ _ _) ?_
        refine ev_if_eq (t := 28) (q := 17) rfl rfl rfl (fun c => absurd c (by decide)) (fun zc1 => ?_)
        refine ev_go 2 (q := 21) (L' := [_, _, _, _, _, _]) rfl ?_
        refine ev_get (q := 24) rfl (d_cmd hn hq) rfl rfl rfl ?_
        refine ev_tp (y := 3) hk ?_
        refine ev_go 1 (q := 25) (st' := .int 1 :: _) rfl ?_
        refine ev_go 8 (q := 41) (st' := .int 6 :: _ :: _) (L' := [_, _, _, some (.int 1), some (.int 0), some (.int 0)]) rfl ?_
        refine ev_icmp_ge (t := 91) (q := 44) rfl rfl rfl (fun c => absurd c (by decide)) (fun _ => ?_)
        refine ev_go 2 (q := 47) (st' := .int 6 :: _ :: _) (L' := [_, _, _, some (.int 1), some (.int 0), some (.int 0)]) rfl ?_
        refine ev_icmp_ge (t := 91) (q := 50) rfl rfl rfl (fun c => absurd c (by decide)) (fun _ => ?_)
        refine ev_go 1 (q := 52) (L' := [_, _, _, some (.int 1), some (.int 0), some (.int 0)]) rfl ?_
        refine ev_if_ne (t := 91) (q := 55) rfl rfl rfl (fun c => absurd (by decide) c) (fun _ => ?_)
        refine ev_go 2 (q := 57) (L' := [_, _, _, some (.int 1), some (.int 0), some (.int 0)]) rfl ?_
        refine ev_get (q := 60) rfl (d_6 hn) rfl rfl rfl ?_
        refine ev_go 2 (q := 64) (L' := [_, _, _, some (.int 1), some (.int 0), some (.int 0)]) rfl ?_
        refine ev_go 1 (q := 65) (st' := .int 1000 :: _) rfl ?_
        refine ev_go 2 (q := 67) (L' := [_, _, _, some (.int 1), some (.int 0), some (.int 0)]) rfl ?_
        rw [il_1000]
        refine ev_put (q := 70) rfl (d_6 hn) rfl (Nat.le_of_ble_eq_true rfl) rfl rfl rfl ?_
        refine ev_hp du_6_0 ?_
        refine ev_go 4 (q := 74) (L' := [_, _, _, some (.int 1), some (.int 0), some (.int 0)]) rfl ?_
        refine ev_virt (z' := z_Readiness_failureAt) (q := 77) rfl rfl (by decide) rfl (by simp [Value.category]) rfl (by omega) rfl rfl (d_6 hn) (c_fa1 hn hR hC h0 h1 (by omega) hq) ?_
        refine ev_tp (y := 0) (if_pos zp0) ?_
        refine ev_go 3 (q := 83) (L' := [_, _, _, some (.int 1), some (.int 0), some (.int 0)]) rfl ?_
        refine ev_go 1 (q := 84) (st' := .int 3 :: _) rfl ?_
        refine ev_go 5 (q := 41) (st' := .int 6 :: _ :: _) (L' := [_, _, _, some (.int 3), some (.int 0), some (.int 1)]) rfl ?_
        refine ev_icmp_ge (t := 91) (q := 44) rfl rfl rfl (fun c => absurd c (by decide)) (fun _ => ?_)
        refine ev_go 2 (q := 47) (st' := .int 6 :: _ :: _) (L' := [_, _, _, some (.int 3), some (.int 0), some (.int 1)]) rfl ?_
        refine ev_icmp_ge (t := 91) (q := 50) rfl rfl rfl (fun c => absurd c (by decide)) (fun _ => ?_)
        refine ev_go 1 (q := 52) (L' := [_, _, _, some (.int 3), some (.int 0), some (.int 1)]) rfl ?_
        refine ev_if_ne (t := 91) (q := 55) rfl rfl rfl (fun c => absurd (by decide) c) (fun _ => ?_)
        refine ev_go 2 (q := 57) (L' := [_, _, _, some (.int 3), some (.int 0), some (.int 1)]) rfl ?_
        refine ev_get (q := 60) rfl (d_6 hn) rfl rfl rfl ?_
        refine ev_go 2 (q := 64) (L' := [_, _, _, some (.int 3), some (.int 0), some (.int 1)]) rfl ?_
        refine ev_go 1 (q := 65) (st' := .int 10 :: _) rfl ?_
        refine ev_go 2 (q := 67) (L' := [_, _, _, some (.int 3), some (.int 0), some (.int 1)]) rfl ?_
        rw [il_10]
        refine ev_put (q := 70) rfl (d_6 hn) rfl (Nat.le_of_ble_eq_true rfl) rfl rfl rfl ?_
        refine ev_hp du_6_0 ?_
        refine ev_go 4 (q := 74) (L' := [_, _, _, some (.int 3), some (.int 0), some (.int 1)]) rfl ?_
        refine ev_virt (z' := z_Readiness_failureAt) (q := 77) rfl rfl (by decide) rfl (by simp [Value.category]) rfl (by omega) rfl rfl (d_6 hn) (c_fa3_3 hn hR hC h0 h1 (by omega) hq hk) ?_
        refine ev_tp (y := 0) (if_pos zp1) ?_
        refine ev_go 3 (q := 83) (L' := [_, _, _, some (.int 3), some (.int 0), some (.int 1)]) rfl ?_
        refine ev_go 1 (q := 84) (st' := .int 5 :: _) rfl ?_
        refine ev_go 5 (q := 41) (st' := .int 6 :: _ :: _) (L' := [_, _, _, some (.int 5), some (.int 0), some (.int 2)]) rfl ?_
        refine ev_icmp_ge (t := 91) (q := 44) rfl rfl rfl (fun c => absurd c (by decide)) (fun _ => ?_)
        refine ev_go 2 (q := 47) (st' := .int 6 :: _ :: _) (L' := [_, _, _, some (.int 5), some (.int 0), some (.int 2)]) rfl ?_
        refine ev_icmp_ge (t := 91) (q := 50) rfl rfl rfl (fun c => absurd c (by decide)) (fun _ => ?_)
        refine ev_go 1 (q := 52) (L' := [_, _, _, some (.int 5), some (.int 0), some (.int 2)]) rfl ?_
        refine ev_if_ne (t := 91) (q := 55) rfl rfl rfl (fun c => absurd (by decide) c) (fun _ => ?_)
        refine ev_go 2 (q := 57) (L' := [_, _, _, some (.int 5), some (.int 0), some (.int 2)]) rfl ?_
        refine ev_get (q := 60) rfl (d_6 hn) rfl rfl rfl ?_
        refine ev_go 2 (q := 64) (L' := [_, _, _, some (.int 5), some (.int 0), some (.int 2)]) rfl ?_
        refine ev_go 1 (q := 65) (st' := .int 1 :: _) rfl ?_
        refine ev_go 2 (q := 67) (L' := [_, _, _, some (.int 5), some (.int 0), some (.int 2)]) rfl ?_
        rw [il_1]
        refine ev_put (q := 70) rfl (d_6 hn) rfl (Nat.le_of_ble_eq_true rfl) rfl rfl rfl ?_
        refine ev_hp du_6_0 ?_
        refine ev_go 4 (q := 74) (L' := [_, _, _, some (.int 5), some (.int 0), some (.int 2)]) rfl ?_
        refine ev_virt (z' := z_Readiness_failureAt) (q := 77) rfl rfl (by decide) rfl (by simp [Value.category]) rfl (by omega) rfl rfl (d_6 hn) (c_fa5_3 hn hR hC h0 h1 (by omega) hq hk) ?_
        refine ev_tp (y := 0) (if_pos zp2) ?_
        refine ev_go 3 (q := 83) (L' := [_, _, _, some (.int 5), some (.int 0), some (.int 2)]) rfl ?_
        refine ev_go 1 (q := 84) (st' := .int 6 :: _) rfl ?_
        refine ev_go 5 (q := 41) (st' := .int 6 :: _ :: _) (L' := [_, _, _, some (.int 6), some (.int 0), some (.int 3)]) rfl ?_
        refine ev_icmp_ge (t := 91) (q := 44) rfl rfl rfl (fun c => absurd c (by decide)) (fun _ => ?_)
        refine ev_go 2 (q := 47) (st' := .int 6 :: _ :: _) (L' := [_, _, _, some (.int 6), some (.int 0), some (.int 3)]) rfl ?_
        refine ev_icmp_ge (t := 91) (q := 50) rfl rfl rfl (fun _ => ?_) (fun c => absurd (by decide) c)
        refine ev_go 1 (q := 93) (L' := [_, _, _, some (.int 6), some (.int 0), some (.int 3)]) rfl ?_
        exact ev_iret rfl rfl ((congrArg Prod.fst ze).symm) (congrArg (fun z => dH h τ z B P) (congrArg Prod.snd ze).symm)
      · have ze : rdy R C (sp_sel (B 0) R C) (cv o τ) t 3 = (4, t + 1000 + 10 + 1) := (if_pos zp0).trans ((if_pos zp1).trans (congrArg (fun z : Int32 => (z, t + 1000 + 10 + 1)) (if_neg zp2)))
        refine ev_go 1 (q := 1) (L' := [_, _, _, _, _, _]) rfl ?_
        refine ev_get (q := 4) rfl (d_cmd hn hq) rfl rfl rfl ?_
        refine ev_tp (y := 3) hk ?_
        refine ev_go 2 (q := 8) (st' := _ :: .int 0 :: _ :: _) (L' := [_, _, _, _, _, _]) rfl ?_
        refine ev_go 1 (q := 9) (st' := .int 13 :: _) rfl ?_
        refine ev_go 2 (q := 11) (st' := .int (_ - 1) :: _ :: _ :: _) (L' := [_, _, _, _, _, _]) rfl ?_
        refine ev_static (z' := z_Desk_within) (q := 14) rfl rfl (by decide) rfl rfl (by simp [Value.category]) rfl (by omega) (k_within _ _ _) ?_
        refine ev_if_eq (t := 28) (q := 17) rfl rfl rfl (fun c => absurd c (by decide)) (fun zc1 => ?_)
        refine ev_go 2 (q := 21) (L' := [_, _, _, _, _, _]) rfl ?_
        refine ev_get (q := 24) rfl (d_cmd hn hq) rfl rfl rfl ?_
        refine ev_tp (y := 3) hk ?_
        refine ev_go 1 (q := 25) (st' := .int 1 :: _) rfl ?_
        refine ev_go 8 (q := 41) (st' := .int 6 :: _ :: _) (L' := [_, _, _, some (.int 1), some (.int 0), some (.int 0)]) rfl ?_
        refine ev_icmp_ge (t := 91) (q := 44) rfl rfl rfl (fun c => absurd c (by decide)) (fun _ => ?_)
        refine ev_go 2 (q := 47) (st' := .int 6 :: _ :: _) (L' := [_, _, _, some (.int 1), some (.int 0), some (.int 0)]) rfl ?_
        refine ev_icmp_ge (t := 91) (q := 50) rfl rfl rfl (fun c => absurd c (by decide)) (fun _ => ?_)
        refine ev_go 1 (q := 52) (L' := [_, _, _, some (.int 1), some (.int 0), some (.int 0)]) rfl ?_
        refine ev_if_ne (t := 91) (q := 55) rfl rfl rfl (fun c => absurd (by decide) c) (fun _ => ?_)
        refine ev_go 2 (q := 57) (L' := [_, _, _, some (.int 1), some (.int 0), some (.int 0)]) rfl ?_
        refine ev_get (q := 60) rfl (d_6 hn) rfl rfl rfl ?_
        refine ev_go 2 (q := 64) (L' := [_, _, _, some (.int 1), some (.int 0), some (.int 0)]) rfl ?_
        refine ev_go 1 (q := 65) (st' := .int 1000 :: _) rfl ?_
        refine ev_go 2 (q := 67) (L' := [_, _, _, some (.int 1), some (.int 0), some (.int 0)]) rfl ?_
        rw [il_1000]
        refine ev_put (q := 70) rfl (d_6 hn) rfl (Nat.le_of_ble_eq_true rfl) rfl rfl rfl ?_
        refine ev_hp du_6_0 ?_
        refine ev_go 4 (q := 74) (L' := [_, _, _, some (.int 1), some (.int 0), some (.int 0)]) rfl ?_
        refine ev_virt (z' := z_Readiness_failureAt) (q := 77) rfl rfl (by decide) rfl (by simp [Value.category]) rfl (by omega) rfl rfl (d_6 hn) (c_fa1 hn hR hC h0 h1 (by omega) hq) ?_
        refine ev_tp (y := 0) (if_pos zp0) ?_
        refine ev_go 3 (q := 83) (L' := [_, _, _, some (.int 1), some (.int 0), some (.int 0)]) rfl ?_
        refine ev_go 1 (q := 84) (st' := .int 3 :: _) rfl ?_
        refine ev_go 5 (q := 41) (st' := .int 6 :: _ :: _) (L' := [_, _, _, some (.int 3), some (.int 0), some (.int 1)]) rfl ?_
        refine ev_icmp_ge (t := 91) (q := 44) rfl rfl rfl (fun c => absurd c (by decide)) (fun _ => ?_)
        refine ev_go 2 (q := 47) (st' := .int 6 :: _ :: _) (L' := [_, _, _, some (.int 3), some (.int 0), some (.int 1)]) rfl ?_
        refine ev_icmp_ge (t := 91) (q := 50) rfl rfl rfl (fun c => absurd c (by decide)) (fun _ => ?_)
        refine ev_go 1 (q := 52) (L' := [_, _, _, some (.int 3), some (.int 0), some (.int 1)]) rfl ?_
        refine ev_if_ne (t := 91) (q := 55) rfl rfl rfl (fun c => absurd (by decide) c) (fun _ => ?_)
        refine ev_go 2 (q := 57) (L' := [_, _, _, some (.int 3), some (.int 0), some (.int 1)]) rfl ?_
        refine ev_get (q := 60) rfl (d_6 hn) rfl rfl rfl ?_
        refine ev_go 2 (q := 64) (L' := [_, _, _, some (.int 3), some (.int 0), some (.int 1)]) rfl ?_
        refine ev_go 1 (q := 65) (st' := .int 10 :: _) rfl ?_
        refine ev_go 2 (q := 67) (L' := [_, _, _, some (.int 3), some (.int 0), some (.int 1)]) rfl ?_
        rw [il_10]
        refine ev_put (q := 70) rfl (d_6 hn) rfl (Nat.le_of_ble_eq_true rfl) rfl rfl rfl ?_
        refine ev_hp du_6_0 ?_
        refine ev_go 4 (q := 74) (L' := [_, _, _, some (.int 3), some (.int 0), some (.int 1)]) rfl ?_
        refine ev_virt (z' := z_Readiness_failureAt) (q := 77) rfl rfl (by decide) rfl (by simp [Value.category]) rfl (by omega) rfl rfl (d_6 hn) (c_fa3_3 hn hR hC h0 h1 (by omega) hq hk) ?_
        refine ev_tp (y := 0) (if_pos zp1) ?_
        refine ev_go 3 (q := 83) (L' := [_, _, _, some (.int 3), some (.int 0), some (.int 1)]) rfl ?_
        refine ev_go 1 (q := 84) (st' := .int 5 :: _) rfl ?_
        refine ev_go 5 (q := 41) (st' := .int 6 :: _ :: _) (L' := [_, _, _, some (.int 5), some (.int 0), some (.int 2)]) rfl ?_
        refine ev_icmp_ge (t := 91) (q := 44) rfl rfl rfl (fun c => absurd c (by decide)) (fun _ => ?_)
        refine ev_go 2 (q := 47) (st' := .int 6 :: _ :: _) (L' := [_, _, _, some (.int 5), some (.int 0), some (.int 2)]) rfl ?_
        refine ev_icmp_ge (t := 91) (q := 50) rfl rfl rfl (fun c => absurd c (by decide)) (fun _ => ?_)
        refine ev_go 1 (q := 52) (L' := [_, _, _, some (.int 5), some (.int 0), some (.int 2)]) rfl ?_
        refine ev_if_ne (t := 91) (q := 55) rfl rfl rfl (fun c => absurd (by decide) c) (fun _ => ?_)
        refine ev_go 2 (q := 57) (L' := [_, _, _, some (.int 5), some (.int 0), some (.int 2)]) rfl ?_
        refine ev_get (q := 60) rfl (d_6 hn) rfl rfl rfl ?_
        refine ev_go 2 (q := 64) (L' := [_, _, _, some (.int 5), some (.int 0), some (.int 2)]) rfl ?_
        refine ev_go 1 (q := 65) (st' := .int 1 :: _) rfl ?_
        refine ev_go 2 (q := 67) (L' := [_, _, _, some (.int 5), some (.int 0), some (.int 2)]) rfl ?_
        rw [il_1]
        refine ev_put (q := 70) rfl (d_6 hn) rfl (Nat.le_of_ble_eq_true rfl) rfl rfl rfl ?_
        refine ev_hp du_6_0 ?_
        refine ev_go 4 (q := 74) (L' := [_, _, _, some (.int 5), some (.int 0), some (.int 2)]) rfl ?_
        refine ev_virt (z' := z_Readiness_failureAt) (q := 77) rfl rfl (by decide) rfl (by simp [Value.category]) rfl (by omega) rfl rfl (d_6 hn) (c_fa5_3 hn hR hC h0 h1 (by omega) hq hk) ?_
        refine ev_tp (y := 4) (if_neg zp2) ?_
        refine ev_go 3 (q := 83) (L' := [_, _, _, some (.int 5), some (.int 4), some (.int 2)]) rfl ?_
        refine ev_go 1 (q := 84) (st' := .int 6 :: _) rfl ?_
        refine ev_go 5 (q := 41) (st' := .int 6 :: _ :: _) (L' := [_, _, _, some (.int 6), some (.int 4), some (.int 3)]) rfl ?_
        refine ev_icmp_ge (t := 91) (q := 44) rfl rfl rfl (fun c => absurd c (by decide)) (fun _ => ?_)
        refine ev_go 2 (q := 47) (st' := .int 6 :: _ :: _) (L' := [_, _, _, some (.int 6), some (.int 4), some (.int 3)]) rfl ?_
        refine ev_icmp_ge (t := 91) (q := 50) rfl rfl rfl (fun _ => ?_) (fun c => absurd (by decide) c)
        refine ev_go 1 (q := 93) (L' := [_, _, _, some (.int 6), some (.int 4), some (.int 3)]) rfl ?_
        exact ev_iret rfl rfl ((congrArg Prod.fst ze).symm) (congrArg (fun z => dH h τ z B P) (congrArg Prod.snd ze).symm)
    · have ze : rdy R C (sp_sel (B 0) R C) (cv o τ) t 3 = (2, t + 1000 + 10) := (if_pos zp0).trans (if_neg zp1)
      refine ev_go 1 (q := 1) (L' := [_, _, _, _, _, _]) rfl ?_
      refine ev_get (q := 4) rfl (d_cmd hn hq) rfl rfl rfl ?_
      refine ev_tp (y := 3) hk ?_
      refine ev_go 2 (q := 8) (st' := _ :: .int 0 :: _ :: _) (L' := [_, _, _, _, _, _]) rfl ?_
      refine ev_go 1 (q := 9) (st' := .int 13 :: _) rfl ?_
      refine ev_go 2 (q := 11) (st' := .int (_ - 1) :: _ :: _ :: _) (L' := [_, _, _, _, _, _]) rfl ?_
      refine ev_static (z' := z_Desk_within) (q := 14) rfl rfl (by decide) rfl rfl (by simp [Value.category]) rfl (by omega) (k_within _ _ _) ?_
      refine ev_if_eq (t := 28) (q := 17) rfl rfl rfl (fun c => absurd c (by decide)) (fun zc1 => ?_)
      refine ev_go 2 (q := 21) (L' := [_, _, _, _, _, _]) rfl ?_
      refine ev_get (q := 24) rfl (d_cmd hn hq) rfl rfl rfl ?_
      refine ev_tp (y := 3) hk ?_
      refine ev_go 1 (q := 25) (st' := .int 1 :: _) rfl ?_
      refine ev_go 8 (q := 41) (st' := .int 6 :: _ :: _) (L' := [_, _, _, some (.int 1), some (.int 0), some (.int 0)]) rfl ?_
      refine ev_icmp_ge (t := 91) (q := 44) rfl rfl rfl (fun c => absurd c (by decide)) (fun _ => ?_)
      refine ev_go 2 (q := 47) (st' := .int 6 :: _ :: _) (L' := [_, _, _, some (.int 1), some (.int 0), some (.int 0)]) rfl ?_
      refine ev_icmp_ge (t := 91) (q := 50) rfl rfl rfl (fun c => absurd c (by decide)) (fun _ => ?_)
      refine ev_go 1 (q := 52) (L' := [_, _, _, some (.int 1), some (.int 0), some (.int 0)]) rfl ?_
      refine ev_if_ne (t := 91) (q := 55) rfl rfl rfl (fun c => absurd (by decide) c) (fun _ => ?_)
      refine ev_go 2 (q := 57) (L' := [_, _, _, some (.int 1), some (.int 0), some (.int 0)]) rfl ?_
      refine ev_get (q := 60) rfl (d_6 hn) rfl rfl rfl ?_
      refine ev_go 2 (q := 64) (L' := [_, _, _, some (.int 1), some (.int 0), some (.int 0)]) rfl ?_
      refine ev_go 1 (q := 65) (st' := .int 1000 :: _) rfl ?_
      refine ev_go 2 (q := 67) (L' := [_, _, _, some (.int 1), some (.int 0), some (.int 0)]) rfl ?_
      rw [il_1000]
      refine ev_put (q := 70) rfl (d_6 hn) rfl (Nat.le_of_ble_eq_true rfl) rfl rfl rfl ?_
      refine ev_hp du_6_0 ?_
      refine ev_go 4 (q := 74) (L' := [_, _, _, some (.int 1), some (.int 0), some (.int 0)]) rfl ?_
      refine ev_virt (z' := z_Readiness_failureAt) (q := 77) rfl rfl (by decide) rfl (by simp [Value.category]) rfl (by omega) rfl rfl (d_6 hn) (c_fa1 hn hR hC h0 h1 (by omega) hq) ?_
      refine ev_tp (y := 0) (if_pos zp0) ?_
      refine ev_go 3 (q := 83) (L' := [_, _, _, some (.int 1), some (.int 0), some (.int 0)]) rfl ?_
      refine ev_go 1 (q := 84) (st' := .int 3 :: _) rfl ?_
      refine ev_go 5 (q := 41) (st' := .int 6 :: _ :: _) (L' := [_, _, _, some (.int 3), some (.int 0), some (.int 1)]) rfl ?_
      refine ev_icmp_ge (t := 91) (q := 44) rfl rfl rfl (fun c => absurd c (by decide)) (fun _ => ?_)
      refine ev_go 2 (q := 47) (st' := .int 6 :: _ :: _) (L' := [_, _, _, some (.int 3), some (.int 0), some (.int 1)]) rfl ?_
      refine ev_icmp_ge (t := 91) (q := 50) rfl rfl rfl (fun c => absurd c (by decide)) (fun _ => ?_)
      refine ev_go 1 (q := 52) (L' := [_, _, _, some (.int 3), some (.int 0), some (.int 1)]) rfl ?_
      refine ev_if_ne (t := 91) (q := 55) rfl rfl rfl (fun c => absurd (by decide) c) (fun _ => ?_)
      refine ev_go 2 (q := 57) (L' := [_, _, _, some (.int 3), some (.int 0), some (.int 1)]) rfl ?_
      refine ev_get (q := 60) rfl (d_6 hn) rfl rfl rfl ?_
      refine ev_go 2 (q := 64) (L' := [_, _, _, some (.int 3), some (.int 0), some (.int 1)]) rfl ?_
      refine ev_go 1 (q := 65) (st' := .int 10 :: _) rfl ?_
      refine ev_go 2 (q := 67) (L' := [_, _, _, some (.int 3), some (.int 0), some (.int 1)]) rfl ?_
      rw [il_10]
      refine ev_put (q := 70) rfl (d_6 hn) rfl (Nat.le_of_ble_eq_true rfl) rfl rfl rfl ?_
      refine ev_hp du_6_0 ?_
      refine ev_go 4 (q := 74) (L' := [_, _, _, some (.int 3), some (.int 0), some (.int 1)]) rfl ?_
      refine ev_virt (z' := z_Readiness_failureAt) (q := 77) rfl rfl (by decide) rfl (by simp [Value.category]) rfl (by omega) rfl rfl (d_6 hn) (c_fa3_3 hn hR hC h0 h1 (by omega) hq hk) ?_
      refine ev_tp (y := 2) (if_neg zp1) ?_
      refine ev_go 3 (q := 83) (L' := [_, _, _, some (.int 3), some (.int 2), some (.int 1)]) rfl ?_
      refine ev_go 1 (q := 84) (st' := .int 5 :: _) rfl ?_
      refine ev_go 5 (q := 41) (st' := .int 6 :: _ :: _) (L' := [_, _, _, some (.int 5), some (.int 2), some (.int 2)]) rfl ?_
      refine ev_icmp_ge (t := 91) (q := 44) rfl rfl rfl (fun c => absurd c (by decide)) (fun _ => ?_)
      refine ev_go 2 (q := 47) (st' := .int 6 :: _ :: _) (L' := [_, _, _, some (.int 5), some (.int 2), some (.int 2)]) rfl ?_
      refine ev_icmp_ge (t := 91) (q := 50) rfl rfl rfl (fun c => absurd c (by decide)) (fun _ => ?_)
      refine ev_go 1 (q := 52) (L' := [_, _, _, some (.int 5), some (.int 2), some (.int 2)]) rfl ?_
      refine ev_if_ne (t := 91) (q := 55) rfl rfl rfl (fun _ => ?_) (fun c => absurd c (by decide))
      refine ev_go 1 (q := 93) (L' := [_, _, _, some (.int 5), some (.int 2), some (.int 2)]) rfl ?_
      exact ev_iret rfl rfl ((congrArg Prod.fst ze).symm) (congrArg (fun z => dH h τ z B P) (congrArg Prod.snd ze).symm)
  · have ze : rdy R C (sp_sel (B 0) R C) (cv o τ) t 3 = (1, t + 1000) := if_neg zp0
    refine ev_go 1 (q := 1) (L' := [_, _, _, _, _, _]) rfl ?_
    refine ev_get (q := 4) rfl (d_cmd hn hq) rfl rfl rfl ?_
    refine ev_tp (y := 3) hk ?_
    refine ev_go 2 (q := 8) (st' := _ :: .int 0 :: _ :: _) (L' := [_, _, _, _, _, _]) rfl ?_
    refine ev_go 1 (q := 9) (st' := .int 13 :: _) rfl ?_
    refine ev_go 2 (q := 11) (st' := .int (_ - 1) :: _ :: _ :: _) (L' := [_, _, _, _, _, _]) rfl ?_
    refine ev_static (z' := z_Desk_within) (q := 14) rfl rfl (by decide) rfl rfl (by simp [Value.category]) rfl (by omega) (k_within _ _ _) ?_
    refine ev_if_eq (t := 28) (q := 17) rfl rfl rfl (fun c => absurd c (by decide)) (fun zc1 => ?_)
    refine ev_go 2 (q := 21) (L' := [_, _, _, _, _, _]) rfl ?_
    refine ev_get (q := 24) rfl (d_cmd hn hq) rfl rfl rfl ?_
    refine ev_tp (y := 3) hk ?_
    refine ev_go 1 (q := 25) (st' := .int 1 :: _) rfl ?_
    refine ev_go 8 (q := 41) (st' := .int 6 :: _ :: _) (L' := [_, _, _, some (.int 1), some (.int 0), some (.int 0)]) rfl ?_
    refine ev_icmp_ge (t := 91) (q := 44) rfl rfl rfl (fun c => absurd c (by decide)) (fun _ => ?_)
    refine ev_go 2 (q := 47) (st' := .int 6 :: _ :: _) (L' := [_, _, _, some (.int 1), some (.int 0), some (.int 0)]) rfl ?_
    refine ev_icmp_ge (t := 91) (q := 50) rfl rfl rfl (fun c => absurd c (by decide)) (fun _ => ?_)
    refine ev_go 1 (q := 52) (L' := [_, _, _, some (.int 1), some (.int 0), some (.int 0)]) rfl ?_
    refine ev_if_ne (t := 91) (q := 55) rfl rfl rfl (fun c => absurd (by decide) c) (fun _ => ?_)
    refine ev_go 2 (q := 57) (L' := [_, _, _, some (.int 1), some (.int 0), some (.int 0)]) rfl ?_
    refine ev_get (q := 60) rfl (d_6 hn) rfl rfl rfl ?_
    refine ev_go 2 (q := 64) (L' := [_, _, _, some (.int 1), some (.int 0), some (.int 0)]) rfl ?_
    refine ev_go 1 (q := 65) (st' := .int 1000 :: _) rfl ?_
    refine ev_go 2 (q := 67) (L' := [_, _, _, some (.int 1), some (.int 0), some (.int 0)]) rfl ?_
    rw [il_1000]
    refine ev_put (q := 70) rfl (d_6 hn) rfl (Nat.le_of_ble_eq_true rfl) rfl rfl rfl ?_
    refine ev_hp du_6_0 ?_
    refine ev_go 4 (q := 74) (L' := [_, _, _, some (.int 1), some (.int 0), some (.int 0)]) rfl ?_
    refine ev_virt (z' := z_Readiness_failureAt) (q := 77) rfl rfl (by decide) rfl (by simp [Value.category]) rfl (by omega) rfl rfl (d_6 hn) (c_fa1 hn hR hC h0 h1 (by omega) hq) ?_
    refine ev_tp (y := 1) (if_neg zp0) ?_
    refine ev_go 3 (q := 83) (L' := [_, _, _, some (.int 1), some (.int 1), some (.int 0)]) rfl ?_
    refine ev_go 1 (q := 84) (st' := .int 3 :: _) rfl ?_
    refine ev_go 5 (q := 41) (st' := .int 6 :: _ :: _) (L' := [_, _, _, some (.int 3), some (.int 1), some (.int 1)]) rfl ?_
    refine ev_icmp_ge (t := 91) (q := 44) rfl rfl rfl (fun c => absurd c (by decide)) (fun _ => ?_)
    refine ev_go 2 (q := 47) (st' := .int 6 :: _ :: _) (L' := [_, _, _, some (.int 3), some (.int 1), some (.int 1)]) rfl ?_
    refine ev_icmp_ge (t := 91) (q := 50) rfl rfl rfl (fun c => absurd c (by decide)) (fun _ => ?_)
    refine ev_go 1 (q := 52) (L' := [_, _, _, some (.int 3), some (.int 1), some (.int 1)]) rfl ?_
    refine ev_if_ne (t := 91) (q := 55) rfl rfl rfl (fun _ => ?_) (fun c => absurd c (by decide))
    refine ev_go 1 (q := 93) (L' := [_, _, _, some (.int 3), some (.int 1), some (.int 1)]) rfl ?_
    exact ev_iret rfl rfl ((congrArg Prod.fst ze).symm) (congrArg (fun z => dH h τ z B P) (congrArg Prod.snd ze).symm)
theorem c_ask4 (hn : 15 ≤ h.1) (hR : 1 ≤ R ∧ R ≤ 10) (hC : 1 ≤ C ∧ C ≤ 10) (h0 : τ 0 = nI R) (h1 : τ 1 = nI C) (hd : 4 < d) (hq : cmd_at q o) (hk : τ o = 4) (hs : 0 < sp_sel (B 0) R C ↔ ¬ sp_sel (B 0) R C = 0) : am_m d z_Readiness_ask [.ref 6, .ref q, .ref 1] (dH h τ t B P) (some (.int (rdy R C (sp_sel (B 0) R C) (cv o τ) t 4).1)) (dH h τ (rdy R C (sp_sel (B 0) R C) (cv o τ) t 4).2 B P) := by
  by_cases zp0 : 0 < sp_sel (B 0) R C
  · have zp1 : True := trivial
    by_cases zp2 : bt 0 (cv o τ 0) 1
    · have ze : rdy R C (sp_sel (B 0) R C) (cv o τ) t 4 = (0, t + 10000 + 10 + 1) := (if_neg (hs.mp zp0)).trans ((if_pos zp1).trans (congrArg (fun z : Int32 => (z, t + 10000 + 10 + 1)) (if_pos zp2)))
      refine ev_go 1 (q := 1) (L' := [_, _, _, _, _, _]) rfl ?_
      refine ev_get (q := 4) rfl (d_cmd hn hq) rfl rfl rfl ?_
      refine ev_tp (y := 4) hk ?_
      refine ev_go 2 (q := 8) (st' := _ :: .int 0 :: _ :: _) (L' := [_, _, _, _, _, _]) rfl ?_
      refine ev_go 1 (q := 9) (st' := .int 13 :: _) rfl ?_
      refine ev_go 2 (q := 11) (st' := .int (_ - 1) :: _ :: _ :: _) (L' := [_, _, _, _, _, _]) rfl ?_
      refine ev_static (z' := z_Desk_within) (q := 14) rfl rfl (by decide) rfl rfl (by simp [Value.category]) rfl (by omega) (k_within _ _ _) ?_
      refine ev_if_eq (t := 28) (q := 17) rfl rfl rfl (fun c => absurd c (by decide)) (fun zc1 => ?_)
      refine ev_go 2 (q := 21) (L' := [_, _, _, _, _, _]) rfl ?_
      refine ev_get (q := 24) rfl (d_cmd hn hq) rfl rfl rfl ?_
      refine ev_tp (y := 4) hk ?_
      refine ev_go 1 (q := 25) (st' := .int 2 :: _) rfl ?_
      refine ev_go 8 (q := 41) (st' := .int 6 :: _ :: _) (L' := [_, _, _, some (.int 2), some (.int 0), some (.int 0)]) rfl ?_
      refine ev_icmp_ge (t := 91) (q := 44) rfl rfl rfl (fun c => absurd c (by decide)) (fun _ => ?_)
      refine ev_go 2 (q := 47) (st' := .int 6 :: _ :: _) (L' := [_, _, _, some (.int 2), some (.int 0), some (.int 0)]) rfl ?_
      refine ev_icmp_ge (t := 91) (q := 50) rfl rfl rfl (fun c => absurd c (by decide)) (fun _ => ?_)
      refine ev_go 1 (q := 52) (L' := [_, _, _, some (.int 2), some (.int 0), some (.int 0)]) rfl ?_
      refine ev_if_ne (t := 91) (q := 55) rfl rfl rfl (fun c => absurd (by decide) c) (fun _ => ?_)
      refine ev_go 2 (q := 57) (L' := [_, _, _, some (.int 2), some (.int 0), some (.int 0)]) rfl ?_
      refine ev_get (q := 60) rfl (d_6 hn) rfl rfl rfl ?_
      refine ev_go 2 (q := 64) (L' := [_, _, _, some (.int 2), some (.int 0), some (.int 0)]) rfl ?_
      refine ev_go 1 (q := 65) (st' := .int 10000 :: _) rfl ?_
      refine ev_go 2 (q := 67) (L' := [_, _, _, some (.int 2), some (.int 0), some (.int 0)]) rfl ?_
      rw [il_10000]
      refine ev_put (q := 70) rfl (d_6 hn) rfl (Nat.le_of_ble_eq_true rfl) rfl rfl rfl ?_
      refine ev_hp du_6_0 ?_
      refine ev_go 4 (q := 74) (L' := [_, _, _, some (.int 2), some (.int 0), some (.int 0)]) rfl ?_
      refine ev_virt (z' := z_Readiness_failureAt) (q := 77) rfl rfl (by decide) rfl (by simp [Value.category]) rfl (by omega) rfl rfl (d_6 hn) (c_fa2 hn hR hC h0 h1 (by omega) hq) ?_
      refine ev_tp (y := 0) (if_pos zp0) ?_
      refine ev_go 3 (q := 83) (L' := [_, _, _, some (.int 2), some (.int 0), some (.int 0)]) rfl ?_
      refine ev_go 1 (q := 84) (st' := .int 3 :: _) rfl ?_
      refine ev_go 5 (q := 41) (st' := .int 6 :: _ :: _) (L' := [_, _, _, some (.int 3), some (.int 0), some (.int 1)]) rfl ?_
      refine ev_icmp_ge (t := 91) (q := 44) rfl rfl rfl (fun c => absurd c (by decide)) (fun _ => ?_)
      refine ev_go 2 (q := 47) (st' := .int 6 :: _ :: _) (L' := [_, _, _, some (.int 3), some (.int 0), some (.int 1)]) rfl ?_
      refine ev_icmp_ge (t := 91) (q := 50) rfl rfl rfl (fun c => absurd c (by decide)) (fun _ => ?_)
      refine ev_go 1 (q := 52) (L' := [_, _, _, some (.int 3), some (.int 0), some (.int 1)]) rfl ?_
      refine ev_if_ne (t := 91) (q := 55) rfl rfl rfl (fun c => absurd (by decide) c) (fun _ => ?_)
      refine ev_go 2 (q := 57) (L' := [_, _, _, some (.int 3), some (.int 0), some (.int 1)]) rfl ?_
      refine ev_get (q := 60) rfl (d_6 hn) rfl rfl rfl ?_
      refine ev_go 2 (q := 64) (L' := [_, _, _, some (.int 3), some (.int 0), some (.int 1)]) rfl ?_
      refine ev_go 1 (q := 65) (st' := .int 10 :: _) rfl ?_
      refine ev_go 2 (q := 67) (L' := [_, _, _, some (.int 3), some (.int 0), some (.int 1)]) rfl ?_
      rw [il_10]
      refine ev_put (q := 70) rfl (d_6 hn) rfl (Nat.le_of_ble_eq_true rfl) rfl rfl rfl ?_
      refine ev_hp du_6_0 ?_
      refine ev_go 4 (q := 74) (L' := [_, _, _, some (.int 3), some (.int 0), some (.int 1)]) rfl ?_
      refine ev_virt (z' := z_Readiness_failureAt) (q := 77) rfl rfl (by decide) rfl (by simp [Value.category]) rfl (by omega) rfl rfl (d_6 hn) (c_fa3_4 hn hR hC h0 h1 (by omega) hq hk) ?_
      refine ev_tp (y := 0) (if_pos zp1) ?_
      refine ev_go 3 (q := 83) (L' := [_, _, _, some (.int 3), some (.int 0), some (.int 1)]) rfl ?_
      refine ev_go 1 (q := 84) (st' := .int 5 :: _) rfl ?_
      refine ev_go 5 (q := 41) (st' := .int 6 :: _ :: _) (L' := [_, _, _, some (.int 5), some (.int 0), some (.int 2)]) rfl ?_
      refine ev_icmp_ge (t := 91) (q := 44) rfl rfl rfl (fun c => absurd c (by decide)) (fun _ => ?_)
      refine ev_go 2 (q := 47) (st' := .int 6 :: _ :: _) (L' := [_, _, _, some (.int 5), some (.int 0), some (.int 2)]) rfl ?_
      refine ev_icmp_ge (t := 91) (q := 50) rfl rfl rfl (fun c => absurd c (by decide)) (fun _ => ?_)
      refine ev_go 1 (q := 52) (L' := [_, _, _, some (.int 5), some (.int 0), some (.int 2)]) rfl ?_
      refine ev_if_ne (t := 91) (q := 55) rfl rfl rfl (fun c => absurd (by decide) c) (fun _ => ?_)
      refine ev_go 2 (q := 57) (L' := [_, _, _, some (.int 5), some (.int 0), some (.int 2)]) rfl ?_
      refine ev_get (q := 60) rfl (d_6 hn) rfl rfl rfl ?_
      refine ev_go 2 (q := 64) (L' := [_, _, _, some (.int 5), some (.int 0), some (.int 2)]) rfl ?_
      refine ev_go 1 (q := 65) (st' := .int 1 :: _) rfl ?_
      refine ev_go 2 (q := 67) (L' := [_, _, _, some (.int 5), some (.int 0), some (.int 2)]) rfl ?_
      rw [il_1]
      refine ev_put (q := 70) rfl (d_6 hn) rfl (Nat.le_of_ble_eq_true rfl) rfl rfl rfl ?_
      refine ev_hp du_6_0 ?_
      refine ev_go 4 (q := 74) (L' := [_, _, _, some (.int 5), some (.int 0), some (.int 2)]) rfl ?_
      refine ev_virt (z' := z_Readiness_failureAt) (q := 77) rfl rfl (by decide) rfl (by simp [Value.category]) rfl (by omega) rfl rfl (d_6 hn) (c_fa5_4 hn hR hC h0 h1 (by omega) hq hk) ?_
      refine ev_tp (y := 0) (if_pos zp2) ?_
      refine ev_go 3 (q := 83) (L' := [_, _, _, some (.int 5), some (.int 0), some (.int 2)]) rfl ?_
      refine ev_go 1 (q := 84) (st' := .int 6 :: _) rfl ?_
      refine ev_go 5 (q := 41) (st' := .int 6 :: _ :: _) (L' := [_, _, _, some (.int 6), some (.int 0), some (.int 3)]) rfl ?_
      refine ev_icmp_ge (t := 91) (q := 44) rfl rfl rfl (fun c => absurd c (by decide)) (fun _ => ?_)
      refine ev_go 2 (q := 47) (st' := .int 6 :: _ :: _) (L' := [_, _, _, some (.int 6), some (.int 0), some (.int 3)]) rfl ?_
      refine ev_icmp_ge (t := 91) (q := 50) rfl rfl rfl (fun _ => ?_) (fun c => absurd (by decide) c)
      refine ev_go 1 (q := 93) (L' := [_, _, _, some (.int 6), some (.int 0), some (.int 3)]) rfl ?_
      exact ev_iret rfl rfl ((congrArg Prod.fst ze).symm) (congrArg (fun z => dH h τ z B P) (congrArg Prod.snd ze).symm)
    · have ze : rdy R C (sp_sel (B 0) R C) (cv o τ) t 4 = (4, t + 10000 + 10 + 1) := (if_neg (hs.mp zp0)).trans ((if_pos zp1).trans (congrArg (fun z : Int32 => (z, t + 10000 + 10 + 1)) (if_neg zp2)))
      refine ev_go 1 (q := 1) (L' := [_, _, _, _, _, _]) rfl ?_
      refine ev_get (q := 4) rfl (d_cmd hn hq) rfl rfl rfl ?_
      refine ev_tp (y := 4) hk ?_
      refine ev_go 2 (q := 8) (st' := _ :: .int 0 :: _ :: _) (L' := [_, _, _, _, _, _]) rfl ?_
      refine ev_go 1 (q := 9) (st' := .int 13 :: _) rfl ?_
      refine ev_go 2 (q := 11) (st' := .int (_ - 1) :: _ :: _ :: _) (L' := [_, _, _, _, _, _]) rfl ?_
      refine ev_static (z' := z_Desk_within) (q := 14) rfl rfl (by decide) rfl rfl (by simp [Value.category]) rfl (by omega) (k_within _ _ _) ?_
      refine ev_if_eq (t := 28) (q := 17) rfl rfl rfl (fun c => absurd c (by decide)) (fun zc1 => ?_)
      refine ev_go 2 (q := 21) (L' := [_, _, _, _, _, _]) rfl ?_
      refine ev_get (q := 24) rfl (d_cmd hn hq) rfl rfl rfl ?_
      refine ev_tp (y := 4) hk ?_
      refine ev_go 1 (q := 25) (st' := .int 2 :: _) rfl ?_
      refine ev_go 8 (q := 41) (st' := .int 6 :: _ :: _) (L' := [_, _, _, some (.int 2), some (.int 0), some (.int 0)]) rfl ?_
      refine ev_icmp_ge (t := 91) (q := 44) rfl rfl rfl (fun c => absurd c (by decide)) (fun _ => ?_)
      refine ev_go 2 (q := 47) (st' := .int 6 :: _ :: _) (L' := [_, _, _, some (.int 2), some (.int 0), some (.int 0)]) rfl ?_
      refine ev_icmp_ge (t := 91) (q := 50) rfl rfl rfl (fun c => absurd c (by decide)) (fun _ => ?_)
      refine ev_go 1 (q := 52) (L' := [_, _, _, some (.int 2), some (.int 0), some (.int 0)]) rfl ?_
      refine ev_if_ne (t := 91) (q := 55) rfl rfl rfl (fun c => absurd (by decide) c) (fun _ => ?_)
      refine ev_go 2 (q := 57) (L' := [_, _, _, some (.int 2), some (.int 0), some (.int 0)]) rfl ?_
      refine ev_get (q := 60) rfl (d_6 hn) rfl rfl rfl ?_
      refine ev_go 2 (q := 64) (L' := [_, _, _, some (.int 2), some (.int 0), some (.int 0)]) rfl ?_
      refine ev_go 1 (q := 65) (st' := .int 10000 :: _) rfl ?_
      refine ev_go 2 (q := 67) (L' := [_, _, _, some (.int 2), some (.int 0), some (.int 0)]) rfl ?_
      rw [il_10000]
      refine ev_put (q := 70) rfl (d_6 hn) rfl (Nat.le_of_ble_eq_true rfl) rfl rfl rfl ?_
      refine ev_hp du_6_0 ?_
      refine ev_go 4 (q := 74) (L' := [_, _, _, some (.int 2), some (.int 0), some (.int 0)]) rfl ?_
      refine ev_virt (z' := z_Readiness_failureAt) (q := 77) rfl rfl (by decide) rfl (by simp [Value.category]) rfl (by omega) rfl rfl (d_6 hn) (c_fa2 hn hR hC h0 h1 (by omega) hq) ?_
      refine ev_tp (y := 0) (if_pos zp0) ?_
      refine ev_go 3 (q := 83) (L' := [_, _, _, some (.int 2), some (.int 0), some (.int 0)]) rfl ?_
      refine ev_go 1 (q := 84) (st' := .int 3 :: _) rfl ?_
      refine ev_go 5 (q := 41) (st' := .int 6 :: _ :: _) (L' := [_, _, _, some (.int 3), some (.int 0), some (.int 1)]) rfl ?_
      refine ev_icmp_ge (t := 91) (q := 44) rfl rfl rfl (fun c => absurd c (by decide)) (fun _ => ?_)
      refine ev_go 2 (q := 47) (st' := .int 6 :: _ :: _) (L' := [_, _, _, some (.int 3), some (.int 0), some (.int 1)]) rfl ?_
      refine ev_icmp_ge (t := 91) (q := 50) rfl rfl rfl (fun c => absurd c (by decide)) (fun _ => ?_)
      refine ev_go 1 (q := 52) (L' := [_, _, _, some (.int 3), some (.int 0), some (.int 1)]) rfl ?_
      refine ev_if_ne (t := 91) (q := 55) rfl rfl rfl (fun c => absurd (by decide) c) (fun _ => ?_)
      refine ev_go 2 (q := 57) (L' := [_, _, _, some (.int 3), some (.int 0), some (.int 1)]) rfl ?_
      refine ev_get (q := 60) rfl (d_6 hn) rfl rfl rfl ?_
      refine ev_go 2 (q := 64) (L' := [_, _, _, some (.int 3), some (.int 0), some (.int 1)]) rfl ?_
      refine ev_go 1 (q := 65) (st' := .int 10 :: _) rfl ?_
      refine ev_go 2 (q := 67) (L' := [_, _, _, some (.int 3), some (.int 0), some (.int 1)]) rfl ?_
      rw [il_10]
      refine ev_put (q := 70) rfl (d_6 hn) rfl (Nat.le_of_ble_eq_true rfl) rfl rfl rfl ?_
      refine ev_hp du_6_0 ?_
      refine ev_go 4 (q := 74) (L' := [_, _, _, some (.int 3), some (.int 0), some (.int 1)]) rfl ?_
      refine ev_virt (z' := z_Readiness_failureAt) (q := 77) rfl rfl (by decide) rfl (by simp [Value.category]) rfl (by omega) rfl rfl (d_6 hn) (c_fa3_4 hn hR hC h0 h1 (by omega) hq hk) ?_
      refine ev_tp (y := 0) (if_pos zp1) ?_
      refine ev_go 3 (q := 83) (L' := [_, _, _, some (.int 3), some (.int 0), some (.int 1)]) rfl ?_
      refine ev_go 1 (q := 84) (st' := .int 5 :: _) rfl ?_
      refine ev_go 5 (q := 41) (st' := .int 6 :: _ :: _) (L' := [_, _, _, some (.int 5), some (.int 0), some (.int 2)]) rfl ?_
      refine ev_icmp_ge (t := 91) (q := 44) rfl rfl rfl (fun c => absurd c (by decide)) (fun _ => ?_)
      refine ev_go 2 (q := 47) (st' := .int 6 :: _ :: _) (L' := [_, _, _, some (.int 5), some (.int 0), some (.int 2)]) rfl ?_
      refine ev_icmp_ge (t := 91) (q := 50) rfl rfl rfl (fun c => absurd c (by decide)) (fun _ => ?_)
      refine ev_go 1 (q := 52) (L' := [_, _, _, some (.int 5), some (.int 0), some (.int 2)]) rfl ?_
      refine ev_if_ne (t := 91) (q := 55) rfl rfl rfl (fun c => absurd (by decide) c) (fun _ => ?_)
      refine ev_go 2 (q := 57) (L' := [_, _, _, some (.int 5), some (.int 0), some (.int 2)]) rfl ?_
      refine ev_get (q := 60) rfl (d_6 hn) rfl rfl rfl ?_
      refine ev_go 2 (q := 64) (L' := [_, _, _, some (.int 5), some (.int 0), some (.int 2)]) rfl ?_
      refine ev_go 1 (q := 65) (st' := .int 1 :: _) rfl ?_
      refine ev_go 2 (q := 67) (L' := [_, _, _, some (.int 5), some (.int 0), some (.int 2)]) rfl ?_
      rw [il_1]
      refine ev_put (q := 70) rfl (d_6 hn) rfl (Nat.le_of_ble_eq_true rfl) rfl rfl rfl ?_
      refine ev_hp du_6_0 ?_
      refine ev_go 4 (q := 74) (L' := [_, _, _, some (.int 5), some (.int 0), some (.int 2)]) rfl ?_
      refine ev_virt (z' := z_Readiness_failureAt) (q := 77) rfl rfl (by decide) rfl (by simp [Value.category]) rfl (by omega) rfl rfl (d_6 hn) (c_fa5_4 hn hR hC h0 h1 (by omega) hq hk) ?_
      refine ev_tp (y := 4) (if_neg zp2) ?_
      refine ev_go 3 (q := 83) (L' := [_, _, _, some (.int 5), some (.int 4), some (.int 2)]) rfl ?_
      refine ev_go 1 (q := 84) (st' := .int 6 :: _) rfl ?_
      refine ev_go 5 (q := 41) (st' := .int 6 :: _ :: _) (L' := [_, _, _, some (.int 6), some (.int 4), some (.int 3)]) rfl ?_
      refine ev_icmp_ge (t := 91) (q := 44) rfl rfl rfl (fun c => absurd c (by decide)) (fun _ => ?_)
      refine ev_go 2 (q := 47) (st' := .int 6 :: _ :: _) (L' := [_, _, _, some (.int 6), some (.int 4), some (.int 3)]) rfl ?_
      refine ev_icmp_ge (t := 91) (q := 50) rfl rfl rfl (fun _ => ?_) (fun c => absurd (by decide) c)
      refine ev_go 1 (q := 93) (L' := [_, _, _, some (.int 6), some (.int 4), some (.int 3)]) rfl ?_
      exact ev_iret rfl rfl ((congrArg Prod.fst ze).symm) (congrArg (fun z => dH h τ z B P) (congrArg Prod.snd ze).symm)
  · have ze : rdy R C (sp_sel (B 0) R C) (cv o τ) t 4 = (3, t + 10000) := if_pos (Classical.not_not.mp (fun z => zp0 (hs.mpr z)))
    refine ev_go 1 (q := 1) (L' := [_, _, _, _, _, _]) rfl ?_
    refine ev_get (q := 4) rfl (d_cmd hn hq) rfl rfl rfl ?_
    refine ev_tp (y := 4) hk ?_
    refine ev_go 2 (q := 8) (st' := _ :: .int 0 :: _ :: _) (L' := [_, _, _, _, _, _]) rfl ?_
    refine ev_go 1 (q := 9) (st' := .int 13 :: _) rfl ?_
    refine ev_go 2 (q := 11) (st' := .int (_ - 1) :: _ :: _ :: _) (L' := [_, _, _, _, _, _]) rfl ?_
    refine ev_static (z' := z_Desk_within) (q := 14) rfl rfl (by decide) rfl rfl (by simp [Value.category]) rfl (by omega) (k_within _ _ _) ?_
    refine ev_if_eq (t := 28) (q := 17) rfl rfl rfl (fun c => absurd c (by decide)) (fun zc1 => ?_)
    refine ev_go 2 (q := 21) (L' := [_, _, _, _, _, _]) rfl ?_
    refine ev_get (q := 24) rfl (d_cmd hn hq) rfl rfl rfl ?_
    refine ev_tp (y := 4) hk ?_
    refine ev_go 1 (q := 25) (st' := .int 2 :: _) rfl ?_
    refine ev_go 8 (q := 41) (st' := .int 6 :: _ :: _) (L' := [_, _, _, some (.int 2), some (.int 0), some (.int 0)]) rfl ?_
    refine ev_icmp_ge (t := 91) (q := 44) rfl rfl rfl (fun c => absurd c (by decide)) (fun _ => ?_)
    refine ev_go 2 (q := 47) (st' := .int 6 :: _ :: _) (L' := [_, _, _, some (.int 2), some (.int 0), some (.int 0)]) rfl ?_
    refine ev_icmp_ge (t := 91) (q := 50) rfl rfl rfl (fun c => absurd c (by decide)) (fun _ => ?_)
    refine ev_go 1 (q := 52) (L' := [_, _, _, some (.int 2), some (.int 0), some (.int 0)]) rfl ?_
    refine ev_if_ne (t := 91) (q := 55) rfl rfl rfl (fun c => absurd (by decide) c) (fun _ => ?_)
    refine ev_go 2 (q := 57) (L' := [_, _, _, some (.int 2), some (.int 0), some (.int 0)]) rfl ?_
    refine ev_get (q := 60) rfl (d_6 hn) rfl rfl rfl ?_
    refine ev_go 2 (q := 64) (L' := [_, _, _, some (.int 2), some (.int 0), some (.int 0)]) rfl ?_
    refine ev_go 1 (q := 65) (st' := .int 10000 :: _) rfl ?_
    refine ev_go 2 (q := 67) (L' := [_, _, _, some (.int 2), some (.int 0), some (.int 0)]) rfl ?_
    rw [il_10000]
    refine ev_put (q := 70) rfl (d_6 hn) rfl (Nat.le_of_ble_eq_true rfl) rfl rfl rfl ?_
    refine ev_hp du_6_0 ?_
    refine ev_go 4 (q := 74) (L' := [_, _, _, some (.int 2), some (.int 0), some (.int 0)]) rfl ?_
    refine ev_virt (z' := z_Readiness_failureAt) (q := 77) rfl rfl (by decide) rfl (by simp [Value.category]) rfl (by omega) rfl rfl (d_6 hn) (c_fa2 hn hR hC h0 h1 (by omega) hq) ?_
    refine ev_tp (y := 3) (if_neg zp0) ?_
    refine ev_go 3 (q := 83) (L' := [_, _, _, some (.int 2), some (.int 3), some (.int 0)]) rfl ?_
    refine ev_go 1 (q := 84) (st' := .int 3 :: _) rfl ?_
    refine ev_go 5 (q := 41) (st' := .int 6 :: _ :: _) (L' := [_, _, _, some (.int 3), some (.int 3), some (.int 1)]) rfl ?_
    refine ev_icmp_ge (t := 91) (q := 44) rfl rfl rfl (fun c => absurd c (by decide)) (fun _ => ?_)
    refine ev_go 2 (q := 47) (st' := .int 6 :: _ :: _) (L' := [_, _, _, some (.int 3), some (.int 3), some (.int 1)]) rfl ?_
    refine ev_icmp_ge (t := 91) (q := 50) rfl rfl rfl (fun c => absurd c (by decide)) (fun _ => ?_)
    refine ev_go 1 (q := 52) (L' := [_, _, _, some (.int 3), some (.int 3), some (.int 1)]) rfl ?_
    refine ev_if_ne (t := 91) (q := 55) rfl rfl rfl (fun _ => ?_) (fun c => absurd c (by decide))
    refine ev_go 1 (q := 93) (L' := [_, _, _, some (.int 3), some (.int 3), some (.int 1)]) rfl ?_
    exact ev_iret rfl rfl ((congrArg Prod.fst ze).symm) (congrArg (fun z => dH h τ z B P) (congrArg Prod.snd ze).symm)
theorem c_ask5 (hn : 15 ≤ h.1) (hR : 1 ≤ R ∧ R ≤ 10) (hC : 1 ≤ C ∧ C ≤ 10) (h0 : τ 0 = nI R) (h1 : τ 1 = nI C) (hd : 4 < d) (hq : cmd_at q o) (hk : τ o = 5) (hs : 0 < sp_sel (B 0) R C ↔ ¬ sp_sel (B 0) R C = 0) : am_m d z_Readiness_ask [.ref 6, .ref q, .ref 1] (dH h τ t B P) (some (.int (rdy R C (sp_sel (B 0) R C) (cv o τ) t 5).1)) (dH h τ (rdy R C (sp_sel (B 0) R C) (cv o τ) t 5).2 B P) := by
  by_cases zp0 : 0 < sp_sel (B 0) R C
  · have zp1 : True := trivial
    by_cases zp2 : bt (-20) (cv o τ 0) 20 ∧ bt (-20) (cv o τ 1) 20
    · have ze : rdy R C (sp_sel (B 0) R C) (cv o τ) t 5 = (0, t + 10000 + 10 + 1) := (if_neg (hs.mp zp0)).trans ((if_pos zp1).trans (congrArg (fun z : Int32 => (z, t + 10000 + 10 + 1)) (if_pos zp2)))
      refine ev_go 1 (q := 1) (L' := [_, _, _, _, _, _]) rfl ?_
      refine ev_get (q := 4) rfl (d_cmd hn hq) rfl rfl rfl ?_
      refine ev_tp (y := 5) hk ?_
      refine ev_go 2 (q := 8) (st' := _ :: .int 0 :: _ :: _) (L' := [_, _, _, _, _, _]) rfl ?_
      refine ev_go 1 (q := 9) (st' := .int 13 :: _) rfl ?_
      refine ev_go 2 (q := 11) (st' := .int (_ - 1) :: _ :: _ :: _) (L' := [_, _, _, _, _, _]) rfl ?_
      refine ev_static (z' := z_Desk_within) (q := 14) rfl rfl (by decide) rfl rfl (by simp [Value.category]) rfl (by omega) (k_within _ _ _) ?_
      refine ev_if_eq (t := 28) (q := 17) rfl rfl rfl (fun c => absurd c (by decide)) (fun zc1 => ?_)
      refine ev_go 2 (q := 21) (L' := [_, _, _, _, _, _]) rfl ?_
      refine ev_get (q := 24) rfl (d_cmd hn hq) rfl rfl rfl ?_
      refine ev_tp (y := 5) hk ?_
      refine ev_go 1 (q := 25) (st' := .int 2 :: _) rfl ?_
      refine ev_go 8 (q := 41) (st' := .int 6 :: _ :: _) (L' := [_, _, _, some (.int 2), some (.int 0), some (.int 0)]) rfl ?_
      refine ev_icmp_ge (t := 91) (q := 44) rfl rfl rfl (fun c => absurd c (by decide)) (fun _ => ?_)
      refine ev_go 2 (q := 47) (st' := .int 6 :: _ :: _) (L' := [_, _, _, some (.int 2), some (.int 0), some (.int 0)]) rfl ?_
      refine ev_icmp_ge (t := 91) (q := 50) rfl rfl rfl (fun c => absurd c (by decide)) (fun _ => ?_)
      refine ev_go 1 (q := 52) (L' := [_, _, _, some (.int 2), some (.int 0), some (.int 0)]) rfl ?_
      refine ev_if_ne (t := 91) (q := 55) rfl rfl rfl (fun c => absurd (by decide) c) (fun _ => ?_)
      refine ev_go 2 (q := 57) (L' := [_, _, _, some (.int 2), some (.int 0), some (.int 0)]) rfl ?_
      refine ev_get (q := 60) rfl (d_6 hn) rfl rfl rfl ?_
      refine ev_go 2 (q := 64) (L' := [_, _, _, some (.int 2), some (.int 0), some (.int 0)]) rfl ?_
      refine ev_go 1 (q := 65) (st' := .int 10000 :: _) rfl ?_
      refine ev_go 2 (q := 67) (L' := [_, _, _, some (.int 2), some (.int 0), some (.int 0)]) rfl ?_
      rw [il_10000]
      refine ev_put (q := 70) rfl (d_6 hn) rfl (Nat.le_of_ble_eq_true rfl) rfl rfl rfl ?_
      refine ev_hp du_6_0 ?_
      refine ev_go 4 (q := 74) (L' := [_, _, _, some (.int 2), some (.int 0), some (.int 0)]) rfl ?_
      refine ev_virt (z' := z_Readiness_failureAt) (q := 77) rfl rfl (by decide) rfl (by simp [Value.category]) rfl (by omega) rfl rfl (d_6 hn) (c_fa2 hn hR hC h0 h1 (by omega) hq) ?_
      refine ev_tp (y := 0) (if_pos zp0) ?_
      refine ev_go 3 (q := 83) (L' := [_, _, _, some (.int 2), some (.int 0), some (.int 0)]) rfl ?_
      refine ev_go 1 (q := 84) (st' := .int 3 :: _) rfl ?_
      refine ev_go 5 (q := 41) (st' := .int 6 :: _ :: _) (L' := [_, _, _, some (.int 3), some (.int 0), some (.int 1)]) rfl ?_
      refine ev_icmp_ge (t := 91) (q := 44) rfl rfl rfl (fun c => absurd c (by decide)) (fun _ => ?_)
      refine ev_go 2 (q := 47) (st' := .int 6 :: _ :: _) (L' := [_, _, _, some (.int 3), some (.int 0), some (.int 1)]) rfl ?_
      refine ev_icmp_ge (t := 91) (q := 50) rfl rfl rfl (fun c => absurd c (by decide)) (fun _ => ?_)
      refine ev_go 1 (q := 52) (L' := [_, _, _, some (.int 3), some (.int 0), some (.int 1)]) rfl ?_
      refine ev_if_ne (t := 91) (q := 55) rfl rfl rfl (fun c => absurd (by decide) c) (fun _ => ?_)
      refine ev_go 2 (q := 57) (L' := [_, _, _, some (.int 3), some (.int 0), some (.int 1)]) rfl ?_
      refine ev_get (q := 60) rfl (d_6 hn) rfl rfl rfl ?_
      refine ev_go 2 (q := 64) (L' := [_, _, _, some (.int 3), some (.int 0), some (.int 1)]) rfl ?_
      refine ev_go 1 (q := 65) (st' := .int 10 :: _) rfl ?_
      refine ev_go 2 (q := 67) (L' := [_, _, _, some (.int 3), some (.int 0), some (.int 1)]) rfl ?_
      rw [il_10]
      refine ev_put (q := 70) rfl (d_6 hn) rfl (Nat.le_of_ble_eq_true rfl) rfl rfl rfl ?_
      refine ev_hp du_6_0 ?_
      refine ev_go 4 (q := 74) (L' := [_, _, _, some (.int 3), some (.int 0), some (.int 1)]) rfl ?_
      refine ev_virt (z' := z_Readiness_failureAt) (q := 77) rfl rfl (by decide) rfl (by simp [Value.category]) rfl (by omega) rfl rfl (d_6 hn) (c_fa3_5 hn hR hC h0 h1 (by omega) hq hk) ?_
      refine ev_tp (y := 0) (if_pos zp1) ?_
      refine ev_go 3 (q := 83) (L' := [_, _, _, some (.int 3), some (.int 0), some (.int 1)]) rfl ?_
      refine ev_go 1 (q := 84) (st' := .int 5 :: _) rfl ?_
      refine ev_go 5 (q := 41) (st' := .int 6 :: _ :: _) (L' := [_, _, _, some (.int 5), some (.int 0), some (.int 2)]) rfl ?_
      refine ev_icmp_ge (t := 91) (q := 44) rfl rfl rfl (fun c => absurd c (by decide)) (fun _ => ?_)
      refine ev_go 2 (q := 47) (st' := .int 6 :: _ :: _) (L' := [_, _, _, some (.int 5), some (.int 0), some (.int 2)]) rfl ?_
      refine ev_icmp_ge (t := 91) (q := 50) rfl rfl rfl (fun c => absurd c (by decide)) (fun _ => ?_)
      refine ev_go 1 (q := 52) (L' := [_, _, _, some (.int 5), some (.int 0), some (.int 2)]) rfl ?_
      refine ev_if_ne (t := 91) (q := 55) rfl rfl rfl (fun c => absurd (by decide) c) (fun _ => ?_)
      refine ev_go 2 (q := 57) (L' := [_, _, _, some (.int 5), some (.int 0), some (.int 2)]) rfl ?_
      refine ev_get (q := 60) rfl (d_6 hn) rfl rfl rfl ?_
      refine ev_go 2 (q := 64) (L' := [_, _, _, some (.int 5), some (.int 0), some (.int 2)]) rfl ?_
      refine ev_go 1 (q := 65) (st' := .int 1 :: _) rfl ?_
      refine ev_go 2 (q := 67) (L' := [_, _, _, some (.int 5), some (.int 0), some (.int 2)]) rfl ?_
      rw [il_1]
      refine ev_put (q := 70) rfl (d_6 hn) rfl (Nat.le_of_ble_eq_true rfl) rfl rfl rfl ?_
      refine ev_hp du_6_0 ?_
      refine ev_go 4 (q := 74) (L' := [_, _, _, some (.int 5), some (.int 0), some (.int 2)]) rfl ?_
      refine ev_virt (z' := z_Readiness_failureAt) (q := 77) rfl rfl (by decide) rfl (by simp [Value.category]) rfl (by omega) rfl rfl (d_6 hn) (c_fa5_5 hn hR hC h0 h1 (by omega) hq hk) ?_
      refine ev_tp (y := 0) (if_pos zp2) ?_
      refine ev_go 3 (q := 83) (L' := [_, _, _, some (.int 5), some (.int 0), some (.int 2)]) rfl ?_
      refine ev_go 1 (q := 84) (st' := .int 6 :: _) rfl ?_
      refine ev_go 5 (q := 41) (st' := .int 6 :: _ :: _) (L' := [_, _, _, some (.int 6), some (.int 0), some (.int 3)]) rfl ?_
      refine ev_icmp_ge (t := 91) (q := 44) rfl rfl rfl (fun c => absurd c (by decide)) (fun _ => ?_)
      refine ev_go 2 (q := 47) (st' := .int 6 :: _ :: _) (L' := [_, _, _, some (.int 6), some (.int 0), some (.int 3)]) rfl ?_
      refine ev_icmp_ge (t := 91) (q := 50) rfl rfl rfl (fun _ => ?_) (fun c => absurd (by decide) c)
      refine ev_go 1 (q := 93) (L' := [_, _, _, some (.int 6), some (.int 0), some (.int 3)]) rfl ?_
      exact ev_iret rfl rfl ((congrArg Prod.fst ze).symm) (congrArg (fun z => dH h τ z B P) (congrArg Prod.snd ze).symm)
    · have ze : rdy R C (sp_sel (B 0) R C) (cv o τ) t 5 = (4, t + 10000 + 10 + 1) := (if_neg (hs.mp zp0)).trans ((if_pos zp1).trans (congrArg (fun z : Int32 => (z, t + 10000 + 10 + 1)) (if_neg zp2)))
      refine ev_go 1 (q := 1) (L' := [_, _, _, _, _, _]) rfl ?_
      refine ev_get (q := 4) rfl (d_cmd hn hq) rfl rfl rfl ?_
      refine ev_tp (y := 5) hk ?_
      refine ev_go 2 (q := 8) (st' := _ :: .int 0 :: _ :: _) (L' := [_, _, _, _, _, _]) rfl ?_
      refine ev_go 1 (q := 9) (st' := .int 13 :: _) rfl ?_
      refine ev_go 2 (q := 11) (st' := .int (_ - 1) :: _ :: _ :: _) (L' := [_, _, _, _, _, _]) rfl ?_
      refine ev_static (z' := z_Desk_within) (q := 14) rfl rfl (by decide) rfl rfl (by simp [Value.category]) rfl (by omega) (k_within _ _ _) ?_
      refine ev_if_eq (t := 28) (q := 17) rfl rfl rfl (fun c => absurd c (by decide)) (fun zc1 => ?_)
      refine ev_go 2 (q := 21) (L' := [_, _, _, _, _, _]) rfl ?_
      refine ev_get (q := 24) rfl (d_cmd hn hq) rfl rfl rfl ?_
      refine ev_tp (y := 5) hk ?_
      refine ev_go 1 (q := 25) (st' := .int 2 :: _) rfl ?_
      refine ev_go 8 (q := 41) (st' := .int 6 :: _ :: _) (L' := [_, _, _, some (.int 2), some (.int 0), some (.int 0)]) rfl ?_
      refine ev_icmp_ge (t := 91) (q := 44) rfl rfl rfl (fun c => absurd c (by decide)) (fun _ => ?_)
      refine ev_go 2 (q := 47) (st' := .int 6 :: _ :: _) (L' := [_, _, _, some (.int 2), some (.int 0), some (.int 0)]) rfl ?_
      refine ev_icmp_ge (t := 91) (q := 50) rfl rfl rfl (fun c => absurd c (by decide)) (fun _ => ?_)
      refine ev_go 1 (q := 52) (L' := [_, _, _, some (.int 2), some (.int 0), some (.int 0)]) rfl ?_
      refine ev_if_ne (t := 91) (q := 55) rfl rfl rfl (fun c => absurd (by decide) c) (fun _ => ?_)
      refine ev_go 2 (q := 57) (L' := [_, _, _, some (.int 2), some (.int 0), some (.int 0)]) rfl ?_
      refine ev_get (q := 60) rfl (d_6 hn) rfl rfl rfl ?_
      refine ev_go 2 (q := 64) (L' := [_, _, _, some (.int 2), some (.int 0), some (.int 0)]) rfl ?_
      refine ev_go 1 (q := 65) (st' := .int 10000 :: _) rfl ?_
      refine ev_go 2 (q := 67) (L' := [_, _, _, some (.int 2), some (.int 0), some (.int 0)]) rfl ?_
      rw [il_10000]
      refine ev_put (q := 70) rfl (d_6 hn) rfl (Nat.le_of_ble_eq_true rfl) rfl rfl rfl ?_
      refine ev_hp du_6_0 ?_
      refine ev_go 4 (q := 74) (L' := [_, _, _, some (.int 2), some (.int 0), some (.int 0)]) rfl ?_
      refine ev_virt (z' := z_Readiness_failureAt) (q := 77) rfl rfl (by decide) rfl (by simp [Value.category]) rfl (by omega) rfl rfl (d_6 hn) (c_fa2 hn hR hC h0 h1 (by omega) hq) ?_
      refine ev_tp (y := 0) (if_pos zp0) ?_
      refine ev_go 3 (q := 83) (L' := [_, _, _, some (.int 2), some (.int 0), some (.int 0)]) rfl ?_
      refine ev_go 1 (q := 84) (st' := .int 3 :: _) rfl ?_
      refine ev_go 5 (q := 41) (st' := .int 6 :: _ :: _) (L' := [_, _, _, some (.int 3), some (.int 0), some (.int 1)]) rfl ?_
      refine ev_icmp_ge (t := 91) (q := 44) rfl rfl rfl (fun c => absurd c (by decide)) (fun _ => ?_)
      refine ev_go 2 (q := 47) (st' := .int 6 :: _ :: _) (L' := [_, _, _, some (.int 3), some (.int 0), some (.int 1)]) rfl ?_
      refine ev_icmp_ge (t := 91) (q := 50) rfl rfl rfl (fun c => absurd c (by decide)) (fun _ => ?_)
      refine ev_go 1 (q := 52) (L' := [_, _, _, some (.int 3), some (.int 0), some (.int 1)]) rfl ?_
      refine ev_if_ne (t := 91) (q := 55) rfl rfl rfl (fun c => absurd (by decide) c) (fun _ => ?_)
      refine ev_go 2 (q := 57) (L' := [_, _, _, some (.int 3), some (.int 0), some (.int 1)]) rfl ?_
      refine ev_get (q := 60) rfl (d_6 hn) rfl rfl rfl ?_
      refine ev_go 2 (q := 64) (L' := [_, _, _, some (.int 3), some (.int 0), some (.int 1)]) rfl ?_
      refine ev_go 1 (q := 65) (st' := .int 10 :: _) rfl ?_
      refine ev_go 2 (q := 67) (L' := [_, _, _, some (.int 3), some (.int 0), some (.int 1)]) rfl ?_
      rw [il_10]
      refine ev_put (q := 70) rfl (d_6 hn) rfl (Nat.le_of_ble_eq_true rfl) rfl rfl rfl ?_
      refine ev_hp du_6_0 ?_
      refine ev_go 4 (q := 74) (L' := [_, _, _, some (.int 3), some (.int 0), some (.int 1)]) rfl ?_
      refine ev_virt (z' := z_Readiness_failureAt) (q := 77) rfl rfl (by decide) rfl (by simp [Value.category]) rfl (by omega) rfl rfl (d_6 hn) (c_fa3_5 hn hR hC h0 h1 (by omega) hq hk) ?_
      refine ev_tp (y := 0) (if_pos zp1) ?_
      refine ev_go 3 (q := 83) (L' := [_, _, _, some (.int 3), some (.int 0), some (.int 1)]) rfl ?_
      refine ev_go 1 (q := 84) (st' := .int 5 :: _) rfl ?_
      refine ev_go 5 (q := 41) (st' := .int 6 :: _ :: _) (L' := [_, _, _, some (.int 5), some (.int 0), some (.int 2)]) rfl ?_
      refine ev_icmp_ge (t := 91) (q := 44) rfl rfl rfl (fun c => absurd c (by decide)) (fun _ => ?_)
      refine ev_go 2 (q := 47) (st' := .int 6 :: _ :: _) (L' := [_, _, _, some (.int 5), some (.int 0), some (.int 2)]) rfl ?_
      refine ev_icmp_ge (t := 91) (q := 50) rfl rfl rfl (fun c => absurd c (by decide)) (fun _ => ?_)
      refine ev_go 1 (q := 52) (L' := [_, _, _, some (.int 5), some (.int 0), some (.int 2)]) rfl ?_
      refine ev_if_ne (t := 91) (q := 55) rfl rfl rfl (fun c => absurd (by decide) c) (fun _ => ?_)
      refine ev_go 2 (q := 57) (L' := [_, _, _, some (.int 5), some (.int 0), some (.int 2)]) rfl ?_
      refine ev_get (q := 60) rfl (d_6 hn) rfl rfl rfl ?_
      refine ev_go 2 (q := 64) (L' := [_, _, _, some (.int 5), some (.int 0), some (.int 2)]) rfl ?_
      refine ev_go 1 (q := 65) (st' := .int 1 :: _) rfl ?_
      refine ev_go 2 (q := 67) (L' := [_, _, _, some (.int 5), some (.int 0), some (.int 2)]) rfl ?_
      rw [il_1]
      refine ev_put (q := 70) rfl (d_6 hn) rfl (Nat.le_of_ble_eq_true rfl) rfl rfl rfl ?_
      refine ev_hp du_6_0 ?_
      refine ev_go 4 (q := 74) (L' := [_, _, _, some (.int 5), some (.int 0), some (.int 2)]) rfl ?_
      refine ev_virt (z' := z_Readiness_failureAt) (q := 77) rfl rfl (by decide) rfl (by simp [Value.category]) rfl (by omega) rfl rfl (d_6 hn) (c_fa5_5 hn hR hC h0 h1 (by omega) hq hk) ?_
      refine ev_tp (y := 4) (if_neg zp2) ?_
      refine ev_go 3 (q := 83) (L' := [_, _, _, some (.int 5), some (.int 4), some (.int 2)]) rfl ?_
      refine ev_go 1 (q := 84) (st' := .int 6 :: _) rfl ?_
      refine ev_go 5 (q := 41) (st' := .int 6 :: _ :: _) (L' := [_, _, _, some (.int 6), some (.int 4), some (.int 3)]) rfl ?_
      refine ev_icmp_ge (t := 91) (q := 44) rfl rfl rfl (fun c => absurd c (by decide)) (fun _ => ?_)
      refine ev_go 2 (q := 47) (st' := .int 6 :: _ :: _) (L' := [_, _, _, some (.int 6), some (.int 4), some (.int 3)]) rfl ?_
      refine ev_icmp_ge (t := 91) (q := 50) rfl rfl rfl (fun _ => ?_) (fun c => absurd (by decide) c)
      refine ev_go 1 (q := 93) (L' := [_, _, _, some (.int 6), some (.int 4), some (.int 3)]) rfl ?_
      exact ev_iret rfl rfl ((congrArg Prod.fst ze).symm) (congrArg (fun z => dH h τ z B P) (congrArg Prod.snd ze).symm)
  · have ze : rdy R C (sp_sel (B 0) R C) (cv o τ) t 5 = (3, t + 10000) := if_pos (Classical.not_not.mp (fun z => zp0 (hs.mpr z)))
    refine ev_go 1 (q := 1) (L' := [_, _, _, _, _, _]) rfl ?_
    refine ev_get (q := 4) rfl (d_cmd hn hq) rfl rfl rfl ?_
    refine ev_tp (y := 5) hk ?_
    refine ev_go 2 (q := 8) (st' := _ :: .int 0 :: _ :: _) (L' := [_, _, _, _, _, _]) rfl ?_
    refine ev_go 1 (q := 9) (st' := .int 13 :: _) rfl ?_
    refine ev_go 2 (q := 11) (st' := .int (_ - 1) :: _ :: _ :: _) (L' := [_, _, _, _, _, _]) rfl ?_
    refine ev_static (z' := z_Desk_within) (q := 14) rfl rfl (by decide) rfl rfl (by simp [Value.category]) rfl (by omega) (k_within _ _ _) ?_
    refine ev_if_eq (t := 28) (q := 17) rfl rfl rfl (fun c => absurd c (by decide)) (fun zc1 => ?_)
    refine ev_go 2 (q := 21) (L' := [_, _, _, _, _, _]) rfl ?_
    refine ev_get (q := 24) rfl (d_cmd hn hq) rfl rfl rfl ?_
    refine ev_tp (y := 5) hk ?_
    refine ev_go 1 (q := 25) (st' := .int 2 :: _) rfl ?_
    refine ev_go 8 (q := 41) (st' := .int 6 :: _ :: _) (L' := [_, _, _, some (.int 2), some (.int 0), some (.int 0)]) rfl ?_
    refine ev_icmp_ge (t := 91) (q := 44) rfl rfl rfl (fun c => absurd c (by decide)) (fun _ => ?_)
    refine ev_go 2 (q := 47) (st' := .int 6 :: _ :: _) (L' := [_, _, _, some (.int 2), some (.int 0), some (.int 0)]) rfl ?_
    refine ev_icmp_ge (t := 91) (q := 50) rfl rfl rfl (fun c => absurd c (by decide)) (fun _ => ?_)
    refine ev_go 1 (q := 52) (L' := [_, _, _, some (.int 2), some (.int 0), some (.int 0)]) rfl ?_
    refine ev_if_ne (t := 91) (q := 55) rfl rfl rfl (fun c => absurd (by decide) c) (fun _ => ?_)
    refine ev_go 2 (q := 57) (L' := [_, _, _, some (.int 2), some (.int 0), some (.int 0)]) rfl ?_
    refine ev_get (q := 60) rfl (d_6 hn) rfl rfl rfl ?_
    refine ev_go 2 (q := 64) (L' := [_, _, _, some (.int 2), some (.int 0), some (.int 0)]) rfl ?_
    refine ev_go 1 (q := 65) (st' := .int 10000 :: _) rfl ?_
    refine ev_go 2 (q := 67) (L' := [_, _, _, some (.int 2), some (.int 0), some (.int 0)]) rfl ?_
    rw [il_10000]
    refine ev_put (q := 70) rfl (d_6 hn) rfl (Nat.le_of_ble_eq_true rfl) rfl rfl rfl ?_
    refine ev_hp du_6_0 ?_
    refine ev_go 4 (q := 74) (L' := [_, _, _, some (.int 2), some (.int 0), some (.int 0)]) rfl ?_
    refine ev_virt (z' := z_Readiness_failureAt) (q := 77) rfl rfl (by decide) rfl (by simp [Value.category]) rfl (by omega) rfl rfl (d_6 hn) (c_fa2 hn hR hC h0 h1 (by omega) hq) ?_
    refine ev_tp (y := 3) (if_neg zp0) ?_
    refine ev_go 3 (q := 83) (L' := [_, _, _, some (.int 2), some (.int 3), some (.int 0)]) rfl ?_
    refine ev_go 1 (q := 84) (st' := .int 3 :: _) rfl ?_
    refine ev_go 5 (q := 41) (st' := .int 6 :: _ :: _) (L' := [_, _, _, some (.int 3), some (.int 3), some (.int 1)]) rfl ?_
    refine ev_icmp_ge (t := 91) (q := 44) rfl rfl rfl (fun c => absurd c (by decide)) (fun _ => ?_)
    refine ev_go 2 (q := 47) (st' := .int 6 :: _ :: _) (L' := [_, _, _, some (.int 3), some (.int 3), some (.int 1)]) rfl ?_
    refine ev_icmp_ge (t := 91) (q := 50) rfl rfl rfl (fun c => absurd c (by decide)) (fun _ => ?_)
    refine ev_go 1 (q := 52) (L' := [_, _, _, some (.int 3), some (.int 3), some (.int 1)]) rfl ?_
    refine ev_if_ne (t := 91) (q := 55) rfl rfl rfl (fun _ => ?_) (fun c => absurd c (by decide))
    refine ev_go 1 (q := 93) (L' := [_, _, _, some (.int 3), some (.int 3), some (.int 1)]) rfl ?_
    exact ev_iret rfl rfl ((congrArg Prod.fst ze).symm) (congrArg (fun z => dH h τ z B P) (congrArg Prod.snd ze).symm)
theorem c_ask6 (hn : 15 ≤ h.1) (hR : 1 ≤ R ∧ R ≤ 10) (hC : 1 ≤ C ∧ C ≤ 10) (h0 : τ 0 = nI R) (h1 : τ 1 = nI C) (hd : 4 < d) (hq : cmd_at q o) (hk : τ o = 6) (hs : 0 < sp_sel (B 0) R C ↔ ¬ sp_sel (B 0) R C = 0) : am_m d z_Readiness_ask [.ref 6, .ref q, .ref 1] (dH h τ t B P) (some (.int (rdy R C (sp_sel (B 0) R C) (cv o τ) t 6).1)) (dH h τ (rdy R C (sp_sel (B 0) R C) (cv o τ) t 6).2 B P) := by
  by_cases zp0 : 0 < sp_sel (B 0) R C
  · by_cases zp1 : bt 0 (cv o τ 4) 9
    · by_cases zp2 : bt 1 (cv o τ 0) 5
      · have ze : rdy R C (sp_sel (B 0) R C) (cv o τ) t 6 = (0, t + 10000 + 10 + 1) := (if_neg (hs.mp zp0)).trans ((if_pos zp1).trans (congrArg (fun z : Int32 => (z, t + 10000 + 10 + 1)) (if_pos zp2)))
        refine ev_go 1 (q := 1) (L' := [_, _, _, _, _, _]) rfl ?_
        refine ev_get (q := 4) rfl (d_cmd hn hq) rfl rfl rfl ?_
        refine ev_tp (y := 6) hk ?_
        refine ev_go 2 (q := 8) (st' := _ :: .int 0 :: _ :: _) (L' := [_, _, _, _, _, _]) rfl ?_
        refine ev_go 1 (q := 9) (st' := .int 13 :: _) rfl ?_
        refine ev_go 2 (q := 11) (st' := .int (_ - 1) :: _ :: _ :: _) (L' := [_, _, _, _, _, _]) rfl ?_
        refine ev_static (z' := z_Desk_within) (q := 14) rfl rfl (by decide) rfl rfl (by simp [Value.category]) rfl (by omega) (k_within _ _ _) ?_
        refine ev_if_eq (t := 28) (q := 17) rfl rfl rfl (fun c => absurd c (by decide)) (fun zc1 => ?_)
        refine ev_go 2 (q := 21) (L' := [_, _, _, _, _, _]) rfl ?_
        refine ev_get (q := 24) rfl (d_cmd hn hq) rfl rfl rfl ?_
        refine ev_tp (y := 6) hk ?_
        refine ev_go 1 (q := 25) (st' := .int 2 :: _) rfl ?_
        refine ev_go 8 (q := 41) (st' := .int 6 :: _ :: _) (L' := [_, _, _, some (.int 2), some (.int 0), some (.int 0)]) rfl ?_
        refine ev_icmp_ge (t := 91) (q := 44) rfl rfl rfl (fun c => absurd c (by decide)) (fun _ => ?_)
        refine ev_go 2 (q := 47) (st' := .int 6 :: _ :: _) (L' := [_, _, _, some (.int 2), some (.int 0), some (.int 0)]) rfl ?_
        refine ev_icmp_ge (t := 91) (q := 50) rfl rfl rfl (fun c => absurd c (by decide)) (fun _ => ?_)
        refine ev_go 1 (q := 52) (L' := [_, _, _, some (.int 2), some (.int 0), some (.int 0)]) rfl ?_
        refine ev_if_ne (t := 91) (q := 55) rfl rfl rfl (fun c => absurd (by decide) c) (fun _ => ?_)
        refine ev_go 2 (q := 57) (L' := [_, _, _, some (.int 2), some (.int 0), some (.int 0)]) rfl ?_
        refine ev_get (q := 60) rfl (d_6 hn) rfl rfl rfl ?_
        refine ev_go 2 (q := 64) (L' := [_, _, _, some (.int 2), some (.int 0), some (.int 0)]) rfl ?_
        refine ev_go 1 (q := 65) (st' := .int 10000 :: _) rfl ?_
        refine ev_go 2 (q := 67) (L' := [_, _, _, some (.int 2), some (.int 0), some (.int 0)]) rfl ?_
        rw [il_10000]
        refine ev_put (q := 70) rfl (d_6 hn) rfl (Nat.le_of_ble_eq_true rfl) rfl rfl rfl ?_
        refine ev_hp du_6_0 ?_
        refine ev_go 4 (q := 74) (L' := [_, _, _, some (.int 2), some (.int 0), some (.int 0)]) rfl ?_
        refine ev_virt (z' := z_Readiness_failureAt) (q := 77) rfl rfl (by decide) rfl (by simp [Value.category]) rfl (by omega) rfl rfl (d_6 hn) (c_fa2 hn hR hC h0 h1 (by omega) hq) ?_
        refine ev_tp (y := 0) (if_pos zp0) ?_
        refine ev_go 3 (q := 83) (L' := [_, _, _, some (.int 2), some (.int 0), some (.int 0)]) rfl ?_
        refine ev_go 1 (q := 84) (st' := .int 3 :: _) rfl ?_
        refine ev_go 5 (q := 41) (st' := .int 6 :: _ :: _) (L' := [_, _, _, some (.int 3), some (.int 0), some (.int 1)]) rfl ?_
        refine ev_icmp_ge (t := 91) (q := 44) rfl rfl rfl (fun c => absurd c (by decide)) (fun _ => ?_)
        refine ev_go 2 (q := 47) (st' := .int 6 :: _ :: _) (L' := [_, _, _, some (.int 3), some (.int 0), some (.int 1)]) rfl ?_
        refine ev_icmp_ge (t := 91) (q := 50) rfl rfl rfl (fun c => absurd c (by decide)) (fun _ => ?_)
        refine ev_go 1 (q := 52) (L' := [_, _, _, some (.int 3), some (.int 0), some (.int 1)]) rfl ?_
        refine ev_if_ne (t := 91) (q := 55) rfl rfl rfl (fun c => absurd (by decide) c) (fun _ => ?_)
        refine ev_go 2 (q := 57) (L' := [_, _, _, some (.int 3), some (.int 0), some (.int 1)]) rfl ?_
        refine ev_get (q := 60) rfl (d_6 hn) rfl rfl rfl ?_
        refine ev_go 2 (q := 64) (L' := [_, _, _, some (.int 3), some (.int 0), some (.int 1)]) rfl ?_
        refine ev_go 1 (q := 65) (st' := .int 10 :: _) rfl ?_
        refine ev_go 2 (q := 67) (L' := [_, _, _, some (.int 3), some (.int 0), some (.int 1)]) rfl ?_
        rw [il_10]
        refine ev_put (q := 70) rfl (d_6 hn) rfl (Nat.le_of_ble_eq_true rfl) rfl rfl rfl ?_
        refine ev_hp du_6_0 ?_
        refine ev_go 4 (q := 74) (L' := [_, _, _, some (.int 3), some (.int 0), some (.int 1)]) rfl ?_
        refine ev_virt (z' := z_Readiness_failureAt) (q := 77) rfl rfl (by decide) rfl (by simp [Value.category]) rfl (by omega) rfl rfl (d_6 hn) (c_fa3_6 hn hR hC h0 h1 (by omega) hq hk) ?_
        refine ev_tp (y := 0) (if_pos zp1) ?_
        refine ev_go 3 (q := 83) (L' := [_, _, _, some (.int 3), some (.int 0), some (.int 1)]) rfl ?_
        refine ev_go 1 (q := 84) (st' := .int 5 :: _) rfl ?_
        refine ev_go 5 (q := 41) (st' := .int 6 :: _ :: _) (L' := [_, _, _, some (.int 5), some (.int 0), some (.int 2)]) rfl ?_
        refine ev_icmp_ge (t := 91) (q := 44) rfl rfl rfl (fun c => absurd c (by decide)) (fun _ => ?_)
        refine ev_go 2 (q := 47) (st' := .int 6 :: _ :: _) (L' := [_, _, _, some (.int 5), some (.int 0), some (.int 2)]) rfl ?_
        refine ev_icmp_ge (t := 91) (q := 50) rfl rfl rfl (fun c => absurd c (by decide)) (fun _ => ?_)
        refine ev_go 1 (q := 52) (L' := [_, _, _, some (.int 5), some (.int 0), some (.int 2)]) rfl ?_
        refine ev_if_ne (t := 91) (q := 55) rfl rfl rfl (fun c => absurd (by decide) c) (fun _ => ?_)
        refine ev_go 2 (q := 57) (L' := [_, _, _, some (.int 5), some (.int 0), some (.int 2)]) rfl ?_
        refine ev_get (q := 60) rfl (d_6 hn) rfl rfl rfl ?_
        refine ev_go 2 (q := 64) (L' := [_, _, _, some (.int 5), some (.int 0), some (.int 2)]) rfl ?_
        refine ev_go 1 (q := 65) (st' := .int 1 :: _) rfl ?_
        refine ev_go 2 (q := 67) (L' := [_, _, _, some (.int 5), some (.int 0), some (.int 2)]) rfl ?_
        rw [il_1]
        refine ev_put (q := 70) rfl (d_6 hn) rfl (Nat.le_of_ble_eq_true rfl) rfl rfl rfl ?_
        refine ev_hp du_6_0 ?_
        refine ev_go 4 (q := 74) (L' := [_, _, _, some (.int 5), some (.int 0), some (.int 2)]) rfl ?_
        refine ev_virt (z' := z_Readiness_failureAt) (q := 77) rfl rfl (by decide) rfl (by simp [Value.category]) rfl (by omega) rfl rfl (d_6 hn) (c_fa5_6 hn hR hC h0 h1 (by omega) hq hk) ?_
        refine ev_tp (y := 0) (if_pos zp2) ?_
        refine ev_go 3 (q := 83) (L' := [_, _, _, some (.int 5), some (.int 0), some (.int 2)]) rfl ?_
        refine ev_go 1 (q := 84) (st' := .int 6 :: _) rfl ?_
        refine ev_go 5 (q := 41) (st' := .int 6 :: _ :: _) (L' := [_, _, _, some (.int 6), some (.int 0), some (.int 3)]) rfl ?_
        refine ev_icmp_ge (t := 91) (q := 44) rfl rfl rfl (fun c => absurd c (by decide)) (fun _ => ?_)
        refine ev_go 2 (q := 47) (st' := .int 6 :: _ :: _) (L' := [_, _, _, some (.int 6), some (.int 0), some (.int 3)]) rfl ?_
        refine ev_icmp_ge (t := 91) (q := 50) rfl rfl rfl (fun _ => ?_) (fun c => absurd (by decide) c)
        refine ev_go 1 (q := 93) (L' := [_, _, _, some (.int 6), some (.int 0), some (.int 3)]) rfl ?_
        exact ev_iret rfl rfl ((congrArg Prod.fst ze).symm) (congrArg (fun z => dH h τ z B P) (congrArg Prod.snd ze).symm)
      · have ze : rdy R C (sp_sel (B 0) R C) (cv o τ) t 6 = (4, t + 10000 + 10 + 1) := (if_neg (hs.mp zp0)).trans ((if_pos zp1).trans (congrArg (fun z : Int32 => (z, t + 10000 + 10 + 1)) (if_neg zp2)))
        refine ev_go 1 (q := 1) (L' := [_, _, _, _, _, _]) rfl ?_
        refine ev_get (q := 4) rfl (d_cmd hn hq) rfl rfl rfl ?_
        refine ev_tp (y := 6) hk ?_
        refine ev_go 2 (q := 8) (st' := _ :: .int 0 :: _ :: _) (L' := [_, _, _, _, _, _]) rfl ?_
        refine ev_go 1 (q := 9) (st' := .int 13 :: _) rfl ?_
        refine ev_go 2 (q := 11) (st' := .int (_ - 1) :: _ :: _ :: _) (L' := [_, _, _, _, _, _]) rfl ?_
        refine ev_static (z' := z_Desk_within) (q := 14) rfl rfl (by decide) rfl rfl (by simp [Value.category]) rfl (by omega) (k_within _ _ _) ?_
        refine ev_if_eq (t := 28) (q := 17) rfl rfl rfl (fun c => absurd c (by decide)) (fun zc1 => ?_)
        refine ev_go 2 (q := 21) (L' := [_, _, _, _, _, _]) rfl ?_
        refine ev_get (q := 24) rfl (d_cmd hn hq) rfl rfl rfl ?_
        refine ev_tp (y := 6) hk ?_
        refine ev_go 1 (q := 25) (st' := .int 2 :: _) rfl ?_
        refine ev_go 8 (q := 41) (st' := .int 6 :: _ :: _) (L' := [_, _, _, some (.int 2), some (.int 0), some (.int 0)]) rfl ?_
        refine ev_icmp_ge (t := 91) (q := 44) rfl rfl rfl (fun c => absurd c (by decide)) (fun _ => ?_)
        refine ev_go 2 (q := 47) (st' := .int 6 :: _ :: _) (L' := [_, _, _, some (.int 2), some (.int 0), some (.int 0)]) rfl ?_
        refine ev_icmp_ge (t := 91) (q := 50) rfl rfl rfl (fun c => absurd c (by decide)) (fun _ => ?_)
        refine ev_go 1 (q := 52) (L' := [_, _, _, some (.int 2), some (.int 0), some (.int 0)]) rfl ?_
        refine ev_if_ne (t := 91) (q := 55) rfl rfl rfl (fun c => absurd (by decide) c) (fun _ => ?_)
        refine ev_go 2 (q := 57) (L' := [_, _, _, some (.int 2), some (.int 0), some (.int 0)]) rfl ?_
        refine ev_get (q := 60) rfl (d_6 hn) rfl rfl rfl ?_
        refine ev_go 2 (q := 64) (L' := [_, _, _, some (.int 2), some (.int 0), some (.int 0)]) rfl ?_
        refine ev_go 1 (q := 65) (st' := .int 10000 :: _) rfl ?_
        refine ev_go 2 (q := 67) (L' := [_, _, _, some (.int 2), some (.int 0), some (.int 0)]) rfl ?_
        rw [il_10000]
        refine ev_put (q := 70) rfl (d_6 hn) rfl (Nat.le_of_ble_eq_true rfl) rfl rfl rfl ?_
        refine ev_hp du_6_0 ?_
        refine ev_go 4 (q := 74) (L' := [_, _, _, some (.int 2), some (.int 0), some (.int 0)]) rfl ?_
        refine ev_virt (z' := z_Readiness_failureAt) (q := 77) rfl rfl (by decide) rfl (by simp [Value.category]) rfl (by omega) rfl rfl (d_6 hn) (c_fa2 hn hR hC h0 h1 (by omega) hq) ?_
        refine ev_tp (y := 0) (if_pos zp0) ?_
        refine ev_go 3 (q := 83) (L' := [_, _, _, some (.int 2), some (.int 0), some (.int 0)]) rfl ?_
        refine ev_go 1 (q := 84) (st' := .int 3 :: _) rfl ?_
        refine ev_go 5 (q := 41) (st' := .int 6 :: _ :: _) (L' := [_, _, _, some (.int 3), some (.int 0), some (.int 1)]) rfl ?_
        refine ev_icmp_ge (t := 91) (q := 44) rfl rfl rfl (fun c => absurd c (by decide)) (fun _ => ?_)
        refine ev_go 2 (q := 47) (st' := .int 6 :: _ :: _) (L' := [_, _, _, some (.int 3), some (.int 0), some (.int 1)]) rfl ?_
        refine ev_icmp_ge (t := 91) (q := 50) rfl rfl rfl (fun c => absurd c (by decide)) (fun _ => ?_)
        refine ev_go 1 (q := 52) (L' := [_, _, _, some (.int 3), some (.int 0), some (.int 1)]) rfl ?_
        refine ev_if_ne (t := 91) (q := 55) rfl rfl rfl (fun c => absurd (by decide) c) (fun _ => ?_)
        refine ev_go 2 (q := 57) (L' := [_, _, _, some (.int 3), some (.int 0), some (.int 1)]) rfl ?_
        refine ev_get (q := 60) rfl (d_6 hn) rfl rfl rfl ?_
        refine ev_go 2 (q := 64) (L' := [_, _, _, some (.int 3), some (.int 0), some (.int 1)]) rfl ?_
        refine ev_go 1 (q := 65) (st' := .int 10 :: _) rfl ?_
        refine ev_go 2 (q := 67) (L' := [_, _, _, some (.int 3), some (.int 0), some (.int 1)]) rfl ?_
        rw [il_10]
        refine ev_put (q := 70) rfl (d_6 hn) rfl (Nat.le_of_ble_eq_true rfl) rfl rfl rfl ?_
        refine ev_hp du_6_0 ?_
        refine ev_go 4 (q := 74) (L' := [_, _, _, some (.int 3), some (.int 0), some (.int 1)]) rfl ?_
        refine ev_virt (z' := z_Readiness_failureAt) (q := 77) rfl rfl (by decide) rfl (by simp [Value.category]) rfl (by omega) rfl rfl (d_6 hn) (c_fa3_6 hn hR hC h0 h1 (by omega) hq hk) ?_
        refine ev_tp (y := 0) (if_pos zp1) ?_
        refine ev_go 3 (q := 83) (L' := [_, _, _, some (.int 3), some (.int 0), some (.int 1)]) rfl ?_
        refine ev_go 1 (q := 84) (st' := .int 5 :: _) rfl ?_
        refine ev_go 5 (q := 41) (st' := .int 6 :: _ :: _) (L' := [_, _, _, some (.int 5), some (.int 0), some (.int 2)]) rfl ?_
        refine ev_icmp_ge (t := 91) (q := 44) rfl rfl rfl (fun c => absurd c (by decide)) (fun _ => ?_)
        refine ev_go 2 (q := 47) (st' := .int 6 :: _ :: _) (L' := [_, _, _, some (.int 5), some (.int 0), some (.int 2)]) rfl ?_
        refine ev_icmp_ge (t := 91) (q := 50) rfl rfl rfl (fun c => absurd c (by decide)) (fun _ => ?_)
        refine ev_go 1 (q := 52) (L' := [_, _, _, some (.int 5), some (.int 0), some (.int 2)]) rfl ?_
        refine ev_if_ne (t := 91) (q := 55) rfl rfl rfl (fun c => absurd (by decide) c) (fun _ => ?_)
        refine ev_go 2 (q := 57) (L' := [_, _, _, some (.int 5), some (.int 0), some (.int 2)]) rfl ?_
        refine ev_get (q := 60) rfl (d_6 hn) rfl rfl rfl ?_
        refine ev_go 2 (q := 64) (L' := [_, _, _, some (.int 5), some (.int 0), some (.int 2)]) rfl ?_
        refine ev_go 1 (q := 65) (st' := .int 1 :: _) rfl ?_
        refine ev_go 2 (q := 67) (L' := [_, _, _, some (.int 5), some (.int 0), some (.int 2)]) rfl ?_
        rw [il_1]
        refine ev_put (q := 70) rfl (d_6 hn) rfl (Nat.le_of_ble_eq_true rfl) rfl rfl rfl ?_
        refine ev_hp du_6_0 ?_
        refine ev_go 4 (q := 74) (L' := [_, _, _, some (.int 5), some (.int 0), some (.int 2)]) rfl ?_
        refine ev_virt (z' := z_Readiness_failureAt) (q := 77) rfl rfl (by decide) rfl (by simp [Value.category]) rfl (by omega) rfl rfl (d_6 hn) (c_fa5_6 hn hR hC h0 h1 (by omega) hq hk) ?_
        refine ev_tp (y := 4) (if_neg zp2) ?_
        refine ev_go 3 (q := 83) (L' := [_, _, _, some (.int 5), some (.int 4), some (.int 2)]) rfl ?_
        refine ev_go 1 (q := 84) (st' := .int 6 :: _) rfl ?_
        refine ev_go 5 (q := 41) (st' := .int 6 :: _ :: _) (L' := [_, _, _, some (.int 6), some (.int 4), some (.int 3)]) rfl ?_
        refine ev_icmp_ge (t := 91) (q := 44) rfl rfl rfl (fun c => absurd c (by decide)) (fun _ => ?_)
        refine ev_go 2 (q := 47) (st' := .int 6 :: _ :: _) (L' := [_, _, _, some (.int 6), some (.int 4), some (.int 3)]) rfl ?_
        refine ev_icmp_ge (t := 91) (q := 50) rfl rfl rfl (fun _ => ?_) (fun c => absurd (by decide) c)
        refine ev_go 1 (q := 93) (L' := [_, _, _, some (.int 6), some (.int 4), some (.int 3)]) rfl ?_
        exact ev_iret rfl rfl ((congrArg Prod.fst ze).symm) (congrArg (fun z => dH h τ z B P) (congrArg Prod.snd ze).symm)
    · have ze : rdy R C (sp_sel (B 0) R C) (cv o τ) t 6 = (2, t + 10000 + 10) := (if_neg (hs.mp zp0)).trans (if_neg zp1)
      refine ev_go 1 (q := 1) (L' := [_, _, _, _, _, _]) rfl ?_
      refine ev_get (q := 4) rfl (d_cmd hn hq) rfl rfl rfl ?_
      refine ev_tp (y := 6) hk ?_
      refine ev_go 2 (q := 8) (st' := _ :: .int 0 :: _ :: _) (L' := [_, _, _, _, _, _]) rfl ?_
      refine ev_go 1 (q := 9) (st' := .int 13 :: _) rfl ?_
      refine ev_go 2 (q := 11) (st' := .int (_ - 1) :: _ :: _ :: _) (L' := [_, _, _, _, _, _]) rfl ?_
      refine ev_static (z' := z_Desk_within) (q := 14) rfl rfl (by decide) rfl rfl (by simp [Value.category]) rfl (by omega) (k_within _ _ _) ?_
      refine ev_if_eq (t := 28) (q := 17) rfl rfl rfl (fun c => absurd c (by decide)) (fun zc1 => ?_)
      refine ev_go 2 (q := 21) (L' := [_, _, _, _, _, _]) rfl ?_
      refine ev_get (q := 24) rfl (d_cmd hn hq) rfl rfl rfl ?_
      refine ev_tp (y := 6) hk ?_
      refine ev_go 1 (q := 25) (st' := .int 2 :: _) rfl ?_
      refine ev_go 8 (q := 41) (st' := .int 6 :: _ :: _) (L' := [_, _, _, some (.int 2), some (.int 0), some (.int 0)]) rfl ?_
      refine ev_icmp_ge (t := 91) (q := 44) rfl rfl rfl (fun c => absurd c (by decide)) (fun _ => ?_)
      refine ev_go 2 (q := 47) (st' := .int 6 :: _ :: _) (L' := [_, _, _, some (.int 2), some (.int 0), some (.int 0)]) rfl ?_
      refine ev_icmp_ge (t := 91) (q := 50) rfl rfl rfl (fun c => absurd c (by decide)) (fun _ => ?_)
      refine ev_go 1 (q := 52) (L' := [_, _, _, some (.int 2), some (.int 0), some (.int 0)]) rfl ?_
      refine ev_if_ne (t := 91) (q := 55) rfl rfl rfl (fun c => absurd (by decide) c) (fun _ => ?_)
      refine ev_go 2 (q := 57) (L' := [_, _, _, some (.int 2), some (.int 0), some (.int 0)]) rfl ?_
      refine ev_get (q := 60) rfl (d_6 hn) rfl rfl rfl ?_
      refine ev_go 2 (q := 64) (L' := [_, _, _, some (.int 2), some (.int 0), some (.int 0)]) rfl ?_
      refine ev_go 1 (q := 65) (st' := .int 10000 :: _) rfl ?_
      refine ev_go 2 (q := 67) (L' := [_, _, _, some (.int 2), some (.int 0), some (.int 0)]) rfl ?_
      rw [il_10000]
      refine ev_put (q := 70) rfl (d_6 hn) rfl (Nat.le_of_ble_eq_true rfl) rfl rfl rfl ?_
      refine ev_hp du_6_0 ?_
      refine ev_go 4 (q := 74) (L' := [_, _, _, some (.int 2), some (.int 0), some (.int 0)]) rfl ?_
      refine ev_virt (z' := z_Readiness_failureAt) (q := 77) rfl rfl (by decide) rfl (by simp [Value.category]) rfl (by omega) rfl rfl (d_6 hn) (c_fa2 hn hR hC h0 h1 (by omega) hq) ?_
      refine ev_tp (y := 0) (if_pos zp0) ?_
      refine ev_go 3 (q := 83) (L' := [_, _, _, some (.int 2), some (.int 0), some (.int 0)]) rfl ?_
      refine ev_go 1 (q := 84) (st' := .int 3 :: _) rfl ?_
      refine ev_go 5 (q := 41) (st' := .int 6 :: _ :: _) (L' := [_, _, _, some (.int 3), some (.int 0), some (.int 1)]) rfl ?_
      refine ev_icmp_ge (t := 91) (q := 44) rfl rfl rfl (fun c => absurd c (by decide)) (fun _ => ?_)
      refine ev_go 2 (q := 47) (st' := .int 6 :: _ :: _) (L' := [_, _, _, some (.int 3), some (.int 0), some (.int 1)]) rfl ?_
      refine ev_icmp_ge (t := 91) (q := 50) rfl rfl rfl (fun c => absurd c (by decide)) (fun _ => ?_)
      refine ev_go 1 (q := 52) (L' := [_, _, _, some (.int 3), some (.int 0), some (.int 1)]) rfl ?_
      refine ev_if_ne (t := 91) (q := 55) rfl rfl rfl (fun c => absurd (by decide) c) (fun _ => ?_)
      refine ev_go 2 (q := 57) (L' := [_, _, _, some (.int 3), some (.int 0), some (.int 1)]) rfl ?_
      refine ev_get (q := 60) rfl (d_6 hn) rfl rfl rfl ?_
      refine ev_go 2 (q := 64) (L' := [_, _, _, some (.int 3), some (.int 0), some (.int 1)]) rfl ?_
      refine ev_go 1 (q := 65) (st' := .int 10 :: _) rfl ?_
      refine ev_go 2 (q := 67) (L' := [_, _, _, some (.int 3), some (.int 0), some (.int 1)]) rfl ?_
      rw [il_10]
      refine ev_put (q := 70) rfl (d_6 hn) rfl (Nat.le_of_ble_eq_true rfl) rfl rfl rfl ?_
      refine ev_hp du_6_0 ?_
      refine ev_go 4 (q := 74) (L' := [_, _, _, some (.int 3), some (.int 0), some (.int 1)]) rfl ?_
      refine ev_virt (z' := z_Readiness_failureAt) (q := 77) rfl rfl (by decide) rfl (by simp [Value.category]) rfl (by omega) rfl rfl (d_6 hn) (c_fa3_6 hn hR hC h0 h1 (by omega) hq hk) ?_
      refine ev_tp (y := 2) (if_neg zp1) ?_
      refine ev_go 3 (q := 83) (L' := [_, _, _, some (.int 3), some (.int 2), some (.int 1)]) rfl ?_
      refine ev_go 1 (q := 84) (st' := .int 5 :: _) rfl ?_
      refine ev_go 5 (q := 41) (st' := .int 6 :: _ :: _) (L' := [_, _, _, some (.int 5), some (.int 2), some (.int 2)]) rfl ?_
      refine ev_icmp_ge (t := 91) (q := 44) rfl rfl rfl (fun c => absurd c (by decide)) (fun _ => ?_)
      refine ev_go 2 (q := 47) (st' := .int 6 :: _ :: _) (L' := [_, _, _, some (.int 5), some (.int 2), some (.int 2)]) rfl ?_
      refine ev_icmp_ge (t := 91) (q := 50) rfl rfl rfl (fun c => absurd c (by decide)) (fun _ => ?_)
      refine ev_go 1 (q := 52) (L' := [_, _, _, some (.int 5), some (.int 2), some (.int 2)]) rfl ?_
      refine ev_if_ne (t := 91) (q := 55) rfl rfl rfl (fun _ => ?_) (fun c => absurd c (by decide))
      refine ev_go 1 (q := 93) (L' := [_, _, _, some (.int 5), some (.int 2), some (.int 2)]) rfl ?_
      exact ev_iret rfl rfl ((congrArg Prod.fst ze).symm) (congrArg (fun z => dH h τ z B P) (congrArg Prod.snd ze).symm)
  · have ze : rdy R C (sp_sel (B 0) R C) (cv o τ) t 6 = (3, t + 10000) := if_pos (Classical.not_not.mp (fun z => zp0 (hs.mpr z)))
    refine ev_go 1 (q := 1) (L' := [_, _, _, _, _, _]) rfl ?_
    refine ev_get (q := 4) rfl (d_cmd hn hq) rfl rfl rfl ?_
    refine ev_tp (y := 6) hk ?_
    refine ev_go 2 (q := 8) (st' := _ :: .int 0 :: _ :: _) (L' := [_, _, _, _, _, _]) rfl ?_
    refine ev_go 1 (q := 9) (st' := .int 13 :: _) rfl ?_
    refine ev_go 2 (q := 11) (st' := .int (_ - 1) :: _ :: _ :: _) (L' := [_, _, _, _, _, _]) rfl ?_
    refine ev_static (z' := z_Desk_within) (q := 14) rfl rfl (by decide) rfl rfl (by simp [Value.category]) rfl (by omega) (k_within _ _ _) ?_
    refine ev_if_eq (t := 28) (q := 17) rfl rfl rfl (fun c => absurd c (by decide)) (fun zc1 => ?_)
    refine ev_go 2 (q := 21) (L' := [_, _, _, _, _, _]) rfl ?_
    refine ev_get (q := 24) rfl (d_cmd hn hq) rfl rfl rfl ?_
    refine ev_tp (y := 6) hk ?_
    refine ev_go 1 (q := 25) (st' := .int 2 :: _) rfl ?_
    refine ev_go 8 (q := 41) (st' := .int 6 :: _ :: _) (L' := [_, _, _, some (.int 2), some (.int 0), some (.int 0)]) rfl ?_
    refine ev_icmp_ge (t := 91) (q := 44) rfl rfl rfl (fun c => absurd c (by decide)) (fun _ => ?_)
    refine ev_go 2 (q := 47) (st' := .int 6 :: _ :: _) (L' := [_, _, _, some (.int 2), some (.int 0), some (.int 0)]) rfl ?_
    refine ev_icmp_ge (t := 91) (q := 50) rfl rfl rfl (fun c => absurd c (by decide)) (fun _ => ?_)
    refine ev_go 1 (q := 52) (L' := [_, _, _, some (.int 2), some (.int 0), some (.int 0)]) rfl ?_
    refine ev_if_ne (t := 91) (q := 55) rfl rfl rfl (fun c => absurd (by decide) c) (fun _ => ?_)
    refine ev_go 2 (q := 57) (L' := [_, _, _, some (.int 2), some (.int 0), some (.int 0)]) rfl ?_
    refine ev_get (q := 60) rfl (d_6 hn) rfl rfl rfl ?_
    refine ev_go 2 (q := 64) (L' := [_, _, _, some (.int 2), some (.int 0), some (.int 0)]) rfl ?_
    refine ev_go 1 (q := 65) (st' := .int 10000 :: _) rfl ?_
    refine ev_go 2 (q := 67) (L' := [_, _, _, some (.int 2), some (.int 0), some (.int 0)]) rfl ?_
    rw [il_10000]
    refine ev_put (q := 70) rfl (d_6 hn) rfl (Nat.le_of_ble_eq_true rfl) rfl rfl rfl ?_
    refine ev_hp du_6_0 ?_
    refine ev_go 4 (q := 74) (L' := [_, _, _, some (.int 2), some (.int 0), some (.int 0)]) rfl ?_
    refine ev_virt (z' := z_Readiness_failureAt) (q := 77) rfl rfl (by decide) rfl (by simp [Value.category]) rfl (by omega) rfl rfl (d_6 hn) (c_fa2 hn hR hC h0 h1 (by omega) hq) ?_
    refine ev_tp (y := 3) (if_neg zp0) ?_
    refine ev_go 3 (q := 83) (L' := [_, _, _, some (.int 2), some (.int 3), some (.int 0)]) rfl ?_
    refine ev_go 1 (q := 84) (st' := .int 3 :: _) rfl ?_
    refine ev_go 5 (q := 41) (st' := .int 6 :: _ :: _) (L' := [_, _, _, some (.int 3), some (.int 3), some (.int 1)]) rfl ?_
    refine ev_icmp_ge (t := 91) (q := 44) rfl rfl rfl (fun c => absurd c (by decide)) (fun _ => ?_)
    refine ev_go 2 (q := 47) (st' := .int 6 :: _ :: _) (L' := [_, _, _, some (.int 3), some (.int 3), some (.int 1)]) rfl ?_
    refine ev_icmp_ge (t := 91) (q := 50) rfl rfl rfl (fun c => absurd c (by decide)) (fun _ => ?_)
    refine ev_go 1 (q := 52) (L' := [_, _, _, some (.int 3), some (.int 3), some (.int 1)]) rfl ?_
    refine ev_if_ne (t := 91) (q := 55) rfl rfl rfl (fun _ => ?_) (fun c => absurd c (by decide))
    refine ev_go 1 (q := 93) (L' := [_, _, _, some (.int 3), some (.int 3), some (.int 1)]) rfl ?_
    exact ev_iret rfl rfl ((congrArg Prod.fst ze).symm) (congrArg (fun z => dH h τ z B P) (congrArg Prod.snd ze).symm)
theorem c_ask7 (hn : 15 ≤ h.1) (hR : 1 ≤ R ∧ R ≤ 10) (hC : 1 ≤ C ∧ C ≤ 10) (h0 : τ 0 = nI R) (h1 : τ 1 = nI C) (hd : 4 < d) (hq : cmd_at q o) (hk : τ o = 7) (hs : 0 < sp_sel (B 0) R C ↔ ¬ sp_sel (B 0) R C = 0) : am_m d z_Readiness_ask [.ref 6, .ref q, .ref 1] (dH h τ t B P) (some (.int (rdy R C (sp_sel (B 0) R C) (cv o τ) t 7).1)) (dH h τ (rdy R C (sp_sel (B 0) R C) (cv o τ) t 7).2 B P) := by
  by_cases zp0 : 0 < sp_sel (B 0) R C
  · by_cases zp1 : bt 0 (cv o τ 0) 9 ∧ bt 0 (cv o τ 1) 9
    · have zp2 : True := trivial
      have ze : rdy R C (sp_sel (B 0) R C) (cv o τ) t 7 = (0, t + 10000 + 10 + 1) := (if_neg (hs.mp zp0)).trans ((if_pos zp1).trans (congrArg (fun z : Int32 => (z, t + 10000 + 10 + 1)) (if_pos zp2)))
      refine ev_go 1 (q := 1) (L' := [_, _, _, _, _, _]) rfl ?_
      refine ev_get (q := 4) rfl (d_cmd hn hq) rfl rfl rfl ?_
      refine ev_tp (y := 7) hk ?_
      refine ev_go 2 (q := 8) (st' := _ :: .int 0 :: _ :: _) (L' := [_, _, _, _, _, _]) rfl ?_
      refine ev_go 1 (q := 9) (st' := .int 13 :: _) rfl ?_
      refine ev_go 2 (q := 11) (st' := .int (_ - 1) :: _ :: _ :: _) (L' := [_, _, _, _, _, _]) rfl ?_
      refine ev_static (z' := z_Desk_within) (q := 14) rfl rfl (by decide) rfl rfl (by simp [Value.category]) rfl (by omega) (k_within _ _ _) ?_
      refine ev_if_eq (t := 28) (q := 17) rfl rfl rfl (fun c => absurd c (by decide)) (fun zc1 => ?_)
      refine ev_go 2 (q := 21) (L' := [_, _, _, _, _, _]) rfl ?_
      refine ev_get (q := 24) rfl (d_cmd hn hq) rfl rfl rfl ?_
      refine ev_tp (y := 7) hk ?_
      refine ev_go 1 (q := 25) (st' := .int 2 :: _) rfl ?_
      refine ev_go 8 (q := 41) (st' := .int 6 :: _ :: _) (L' := [_, _, _, some (.int 2), some (.int 0), some (.int 0)]) rfl ?_
      refine ev_icmp_ge (t := 91) (q := 44) rfl rfl rfl (fun c => absurd c (by decide)) (fun _ => ?_)
      refine ev_go 2 (q := 47) (st' := .int 6 :: _ :: _) (L' := [_, _, _, some (.int 2), some (.int 0), some (.int 0)]) rfl ?_
      refine ev_icmp_ge (t := 91) (q := 50) rfl rfl rfl (fun c => absurd c (by decide)) (fun _ => ?_)
      refine ev_go 1 (q := 52) (L' := [_, _, _, some (.int 2), some (.int 0), some (.int 0)]) rfl ?_
      refine ev_if_ne (t := 91) (q := 55) rfl rfl rfl (fun c => absurd (by decide) c) (fun _ => ?_)
      refine ev_go 2 (q := 57) (L' := [_, _, _, some (.int 2), some (.int 0), some (.int 0)]) rfl ?_
      refine ev_get (q := 60) rfl (d_6 hn) rfl rfl rfl ?_
      refine ev_go 2 (q := 64) (L' := [_, _, _, some (.int 2), some (.int 0), some (.int 0)]) rfl ?_
      refine ev_go 1 (q := 65) (st' := .int 10000 :: _) rfl ?_
      refine ev_go 2 (q := 67) (L' := [_, _, _, some (.int 2), some (.int 0), some (.int 0)]) rfl ?_
      rw [il_10000]
      refine ev_put (q := 70) rfl (d_6 hn) rfl (Nat.le_of_ble_eq_true rfl) rfl rfl rfl ?_
      refine ev_hp du_6_0 ?_
      refine ev_go 4 (q := 74) (L' := [_, _, _, some (.int 2), some (.int 0), some (.int 0)]) rfl ?_
      refine ev_virt (z' := z_Readiness_failureAt) (q := 77) rfl rfl (by decide) rfl (by simp [Value.category]) rfl (by omega) rfl rfl (d_6 hn) (c_fa2 hn hR hC h0 h1 (by omega) hq) ?_
      refine ev_tp (y := 0) (if_pos zp0) ?_
      refine ev_go 3 (q := 83) (L' := [_, _, _, some (.int 2), some (.int 0), some (.int 0)]) rfl ?_
      refine ev_go 1 (q := 84) (st' := .int 3 :: _) rfl ?_
      refine ev_go 5 (q := 41) (st' := .int 6 :: _ :: _) (L' := [_, _, _, some (.int 3), some (.int 0), some (.int 1)]) rfl ?_
      refine ev_icmp_ge (t := 91) (q := 44) rfl rfl rfl (fun c => absurd c (by decide)) (fun _ => ?_)
      refine ev_go 2 (q := 47) (st' := .int 6 :: _ :: _) (L' := [_, _, _, some (.int 3), some (.int 0), some (.int 1)]) rfl ?_
      refine ev_icmp_ge (t := 91) (q := 50) rfl rfl rfl (fun c => absurd c (by decide)) (fun _ => ?_)
      refine ev_go 1 (q := 52) (L' := [_, _, _, some (.int 3), some (.int 0), some (.int 1)]) rfl ?_
      refine ev_if_ne (t := 91) (q := 55) rfl rfl rfl (fun c => absurd (by decide) c) (fun _ => ?_)
      refine ev_go 2 (q := 57) (L' := [_, _, _, some (.int 3), some (.int 0), some (.int 1)]) rfl ?_
      refine ev_get (q := 60) rfl (d_6 hn) rfl rfl rfl ?_
      refine ev_go 2 (q := 64) (L' := [_, _, _, some (.int 3), some (.int 0), some (.int 1)]) rfl ?_
      refine ev_go 1 (q := 65) (st' := .int 10 :: _) rfl ?_
      refine ev_go 2 (q := 67) (L' := [_, _, _, some (.int 3), some (.int 0), some (.int 1)]) rfl ?_
      rw [il_10]
      refine ev_put (q := 70) rfl (d_6 hn) rfl (Nat.le_of_ble_eq_true rfl) rfl rfl rfl ?_
      refine ev_hp du_6_0 ?_
      refine ev_go 4 (q := 74) (L' := [_, _, _, some (.int 3), some (.int 0), some (.int 1)]) rfl ?_
      refine ev_virt (z' := z_Readiness_failureAt) (q := 77) rfl rfl (by decide) rfl (by simp [Value.category]) rfl (by omega) rfl rfl (d_6 hn) (c_fa3_7 hn hR hC h0 h1 (by omega) hq hk) ?_
      refine ev_tp (y := 0) (if_pos zp1) ?_
      refine ev_go 3 (q := 83) (L' := [_, _, _, some (.int 3), some (.int 0), some (.int 1)]) rfl ?_
      refine ev_go 1 (q := 84) (st' := .int 5 :: _) rfl ?_
      refine ev_go 5 (q := 41) (st' := .int 6 :: _ :: _) (L' := [_, _, _, some (.int 5), some (.int 0), some (.int 2)]) rfl ?_
      refine ev_icmp_ge (t := 91) (q := 44) rfl rfl rfl (fun c => absurd c (by decide)) (fun _ => ?_)
      refine ev_go 2 (q := 47) (st' := .int 6 :: _ :: _) (L' := [_, _, _, some (.int 5), some (.int 0), some (.int 2)]) rfl ?_
      refine ev_icmp_ge (t := 91) (q := 50) rfl rfl rfl (fun c => absurd c (by decide)) (fun _ => ?_)
      refine ev_go 1 (q := 52) (L' := [_, _, _, some (.int 5), some (.int 0), some (.int 2)]) rfl ?_
      refine ev_if_ne (t := 91) (q := 55) rfl rfl rfl (fun c => absurd (by decide) c) (fun _ => ?_)
      refine ev_go 2 (q := 57) (L' := [_, _, _, some (.int 5), some (.int 0), some (.int 2)]) rfl ?_
      refine ev_get (q := 60) rfl (d_6 hn) rfl rfl rfl ?_
      refine ev_go 2 (q := 64) (L' := [_, _, _, some (.int 5), some (.int 0), some (.int 2)]) rfl ?_
      refine ev_go 1 (q := 65) (st' := .int 1 :: _) rfl ?_
      refine ev_go 2 (q := 67) (L' := [_, _, _, some (.int 5), some (.int 0), some (.int 2)]) rfl ?_
      rw [il_1]
      refine ev_put (q := 70) rfl (d_6 hn) rfl (Nat.le_of_ble_eq_true rfl) rfl rfl rfl ?_
      refine ev_hp du_6_0 ?_
      refine ev_go 4 (q := 74) (L' := [_, _, _, some (.int 5), some (.int 0), some (.int 2)]) rfl ?_
      refine ev_virt (z' := z_Readiness_failureAt) (q := 77) rfl rfl (by decide) rfl (by simp [Value.category]) rfl (by omega) rfl rfl (d_6 hn) (c_fa5_7 hn hR hC h0 h1 (by omega) hq hk) ?_
      refine ev_tp (y := 0) (if_pos zp2) ?_
      refine ev_go 3 (q := 83) (L' := [_, _, _, some (.int 5), some (.int 0), some (.int 2)]) rfl ?_
      refine ev_go 1 (q := 84) (st' := .int 6 :: _) rfl ?_
      refine ev_go 5 (q := 41) (st' := .int 6 :: _ :: _) (L' := [_, _, _, some (.int 6), some (.int 0), some (.int 3)]) rfl ?_
      refine ev_icmp_ge (t := 91) (q := 44) rfl rfl rfl (fun c => absurd c (by decide)) (fun _ => ?_)
      refine ev_go 2 (q := 47) (st' := .int 6 :: _ :: _) (L' := [_, _, _, some (.int 6), some (.int 0), some (.int 3)]) rfl ?_
      refine ev_icmp_ge (t := 91) (q := 50) rfl rfl rfl (fun _ => ?_) (fun c => absurd (by decide) c)
      refine ev_go 1 (q := 93) (L' := [_, _, _, some (.int 6), some (.int 0), some (.int 3)]) rfl ?_
      exact ev_iret rfl rfl ((congrArg Prod.fst ze).symm) (congrArg (fun z => dH h τ z B P) (congrArg Prod.snd ze).symm)
    · have ze : rdy R C (sp_sel (B 0) R C) (cv o τ) t 7 = (2, t + 10000 + 10) := (if_neg (hs.mp zp0)).trans (if_neg zp1)
      refine ev_go 1 (q := 1) (L' := [_, _, _, _, _, _]) rfl ?_
      refine ev_get (q := 4) rfl (d_cmd hn hq) rfl rfl rfl ?_
      refine ev_tp (y := 7) hk ?_
      refine ev_go 2 (q := 8) (st' := _ :: .int 0 :: _ :: _) (L' := [_, _, _, _, _, _]) rfl ?_
      refine ev_go 1 (q := 9) (st' := .int 13 :: _) rfl ?_
      refine ev_go 2 (q := 11) (st' := .int (_ - 1) :: _ :: _ :: _) (L' := [_, _, _, _, _, _]) rfl ?_
      refine ev_static (z' := z_Desk_within) (q := 14) rfl rfl (by decide) rfl rfl (by simp [Value.category]) rfl (by omega) (k_within _ _ _) ?_
      refine ev_if_eq (t := 28) (q := 17) rfl rfl rfl (fun c => absurd c (by decide)) (fun zc1 => ?_)
      refine ev_go 2 (q := 21) (L' := [_, _, _, _, _, _]) rfl ?_
      refine ev_get (q := 24) rfl (d_cmd hn hq) rfl rfl rfl ?_
      refine ev_tp (y := 7) hk ?_
      refine ev_go 1 (q := 25) (st' := .int 2 :: _) rfl ?_
      refine ev_go 8 (q := 41) (st' := .int 6 :: _ :: _) (L' := [_, _, _, some (.int 2), some (.int 0), some (.int 0)]) rfl ?_
      refine ev_icmp_ge (t := 91) (q := 44) rfl rfl rfl (fun c => absurd c (by decide)) (fun _ => ?_)
      refine ev_go 2 (q := 47) (st' := .int 6 :: _ :: _) (L' := [_, _, _, some (.int 2), some (.int 0), some (.int 0)]) rfl ?_
      refine ev_icmp_ge (t := 91) (q := 50) rfl rfl rfl (fun c => absurd c (by decide)) (fun _ => ?_)
      refine ev_go 1 (q := 52) (L' := [_, _, _, some (.int 2), some (.int 0), some (.int 0)]) rfl ?_
      refine ev_if_ne (t := 91) (q := 55) rfl rfl rfl (fun c => absurd (by decide) c) (fun _ => ?_)
      refine ev_go 2 (q := 57) (L' := [_, _, _, some (.int 2), some (.int 0), some (.int 0)]) rfl ?_
      refine ev_get (q := 60) rfl (d_6 hn) rfl rfl rfl ?_
      refine ev_go 2 (q := 64) (L' := [_, _, _, some (.int 2), some (.int 0), some (.int 0)]) rfl ?_
      refine ev_go 1 (q := 65) (st' := .int 10000 :: _) rfl ?_
      refine ev_go 2 (q := 67) (L' := [_, _, _, some (.int 2), some (.int 0), some (.int 0)]) rfl ?_
      rw [il_10000]
      refine ev_put (q := 70) rfl (d_6 hn) rfl (Nat.le_of_ble_eq_true rfl) rfl rfl rfl ?_
      refine ev_hp du_6_0 ?_
      refine ev_go 4 (q := 74) (L' := [_, _, _, some (.int 2), some (.int 0), some (.int 0)]) rfl ?_
      refine ev_virt (z' := z_Readiness_failureAt) (q := 77) rfl rfl (by decide) rfl (by simp [Value.category]) rfl (by omega) rfl rfl (d_6 hn) (c_fa2 hn hR hC h0 h1 (by omega) hq) ?_
      refine ev_tp (y := 0) (if_pos zp0) ?_
      refine ev_go 3 (q := 83) (L' := [_, _, _, some (.int 2), some (.int 0), some (.int 0)]) rfl ?_
      refine ev_go 1 (q := 84) (st' := .int 3 :: _) rfl ?_
      refine ev_go 5 (q := 41) (st' := .int 6 :: _ :: _) (L' := [_, _, _, some (.int 3), some (.int 0), some (.int 1)]) rfl ?_
      refine ev_icmp_ge (t := 91) (q := 44) rfl rfl rfl (fun c => absurd c (by decide)) (fun _ => ?_)
      refine ev_go 2 (q := 47) (st' := .int 6 :: _ :: _) (L' := [_, _, _, some (.int 3), some (.int 0), some (.int 1)]) rfl ?_
      refine ev_icmp_ge (t := 91) (q := 50) rfl rfl rfl (fun c => absurd c (by decide)) (fun _ => ?_)
      refine ev_go 1 (q := 52) (L' := [_, _, _, some (.int 3), some (.int 0), some (.int 1)]) rfl ?_
      refine ev_if_ne (t := 91) (q := 55) rfl rfl rfl (fun c => absurd (by decide) c) (fun _ => ?_)
      refine ev_go 2 (q := 57) (L' := [_, _, _, some (.int 3), some (.int 0), some (.int 1)]) rfl ?_
      refine ev_get (q := 60) rfl (d_6 hn) rfl rfl rfl ?_
      refine ev_go 2 (q := 64) (L' := [_, _, _, some (.int 3), some (.int 0), some (.int 1)]) rfl ?_
      refine ev_go 1 (q := 65) (st' := .int 10 :: _) rfl ?_
      refine ev_go 2 (q := 67) (L' := [_, _, _, some (.int 3), some (.int 0), some (.int 1)]) rfl ?_
      rw [il_10]
      refine ev_put (q := 70) rfl (d_6 hn) rfl (Nat.le_of_ble_eq_true rfl) rfl rfl rfl ?_
      refine ev_hp du_6_0 ?_
      refine ev_go 4 (q := 74) (L' := [_, _, _, some (.int 3), some (.int 0), some (.int 1)]) rfl ?_
      refine ev_virt (z' := z_Readiness_failureAt) (q := 77) rfl rfl (by decide) rfl (by simp [Value.category]) rfl (by omega) rfl rfl (d_6 hn) (c_fa3_7 hn hR hC h0 h1 (by omega) hq hk) ?_
      refine ev_tp (y := 2) (if_neg zp1) ?_
      refine ev_go 3 (q := 83) (L' := [_, _, _, some (.int 3), some (.int 2), some (.int 1)]) rfl ?_
      refine ev_go 1 (q := 84) (st' := .int 5 :: _) rfl ?_
      refine ev_go 5 (q := 41) (st' := .int 6 :: _ :: _) (L' := [_, _, _, some (.int 5), some (.int 2), some (.int 2)]) rfl ?_
      refine ev_icmp_ge (t := 91) (q := 44) rfl rfl rfl (fun c => absurd c (by decide)) (fun _ => ?_)
      refine ev_go 2 (q := 47) (st' := .int 6 :: _ :: _) (L' := [_, _, _, some (.int 5), some (.int 2), some (.int 2)]) rfl ?_
      refine ev_icmp_ge (t := 91) (q := 50) rfl rfl rfl (fun c => absurd c (by decide)) (fun _ => ?_)
      refine ev_go 1 (q := 52) (L' := [_, _, _, some (.int 5), some (.int 2), some (.int 2)]) rfl ?_
      refine ev_if_ne (t := 91) (q := 55) rfl rfl rfl (fun _ => ?_) (fun c => absurd c (by decide))
      refine ev_go 1 (q := 93) (L' := [_, _, _, some (.int 5), some (.int 2), some (.int 2)]) rfl ?_
      exact ev_iret rfl rfl ((congrArg Prod.fst ze).symm) (congrArg (fun z => dH h τ z B P) (congrArg Prod.snd ze).symm)
  · have ze : rdy R C (sp_sel (B 0) R C) (cv o τ) t 7 = (3, t + 10000) := if_pos (Classical.not_not.mp (fun z => zp0 (hs.mpr z)))
    refine ev_go 1 (q := 1) (L' := [_, _, _, _, _, _]) rfl ?_
    refine ev_get (q := 4) rfl (d_cmd hn hq) rfl rfl rfl ?_
    refine ev_tp (y := 7) hk ?_
    refine ev_go 2 (q := 8) (st' := _ :: .int 0 :: _ :: _) (L' := [_, _, _, _, _, _]) rfl ?_
    refine ev_go 1 (q := 9) (st' := .int 13 :: _) rfl ?_
    refine ev_go 2 (q := 11) (st' := .int (_ - 1) :: _ :: _ :: _) (L' := [_, _, _, _, _, _]) rfl ?_
    refine ev_static (z' := z_Desk_within) (q := 14) rfl rfl (by decide) rfl rfl (by simp [Value.category]) rfl (by omega) (k_within _ _ _) ?_
    refine ev_if_eq (t := 28) (q := 17) rfl rfl rfl (fun c => absurd c (by decide)) (fun zc1 => ?_)
    refine ev_go 2 (q := 21) (L' := [_, _, _, _, _, _]) rfl ?_
    refine ev_get (q := 24) rfl (d_cmd hn hq) rfl rfl rfl ?_
    refine ev_tp (y := 7) hk ?_
    refine ev_go 1 (q := 25) (st' := .int 2 :: _) rfl ?_
    refine ev_go 8 (q := 41) (st' := .int 6 :: _ :: _) (L' := [_, _, _, some (.int 2), some (.int 0), some (.int 0)]) rfl ?_
    refine ev_icmp_ge (t := 91) (q := 44) rfl rfl rfl (fun c => absurd c (by decide)) (fun _ => ?_)
    refine ev_go 2 (q := 47) (st' := .int 6 :: _ :: _) (L' := [_, _, _, some (.int 2), some (.int 0), some (.int 0)]) rfl ?_
    refine ev_icmp_ge (t := 91) (q := 50) rfl rfl rfl (fun c => absurd c (by decide)) (fun _ => ?_)
    refine ev_go 1 (q := 52) (L' := [_, _, _, some (.int 2), some (.int 0), some (.int 0)]) rfl ?_
    refine ev_if_ne (t := 91) (q := 55) rfl rfl rfl (fun c => absurd (by decide) c) (fun _ => ?_)
    refine ev_go 2 (q := 57) (L' := [_, _, _, some (.int 2), some (.int 0), some (.int 0)]) rfl ?_
    refine ev_get (q := 60) rfl (d_6 hn) rfl rfl rfl ?_
    refine ev_go 2 (q := 64) (L' := [_, _, _, some (.int 2), some (.int 0), some (.int 0)]) rfl ?_
    refine ev_go 1 (q := 65) (st' := .int 10000 :: _) rfl ?_
    refine ev_go 2 (q := 67) (L' := [_, _, _, some (.int 2), some (.int 0), some (.int 0)]) rfl ?_
    rw [il_10000]
    refine ev_put (q := 70) rfl (d_6 hn) rfl (Nat.le_of_ble_eq_true rfl) rfl rfl rfl ?_
    refine ev_hp du_6_0 ?_
    refine ev_go 4 (q := 74) (L' := [_, _, _, some (.int 2), some (.int 0), some (.int 0)]) rfl ?_
    refine ev_virt (z' := z_Readiness_failureAt) (q := 77) rfl rfl (by decide) rfl (by simp [Value.category]) rfl (by omega) rfl rfl (d_6 hn) (c_fa2 hn hR hC h0 h1 (by omega) hq) ?_
    refine ev_tp (y := 3) (if_neg zp0) ?_
    refine ev_go 3 (q := 83) (L' := [_, _, _, some (.int 2), some (.int 3), some (.int 0)]) rfl ?_
    refine ev_go 1 (q := 84) (st' := .int 3 :: _) rfl ?_
    refine ev_go 5 (q := 41) (st' := .int 6 :: _ :: _) (L' := [_, _, _, some (.int 3), some (.int 3), some (.int 1)]) rfl ?_
    refine ev_icmp_ge (t := 91) (q := 44) rfl rfl rfl (fun c => absurd c (by decide)) (fun _ => ?_)
    refine ev_go 2 (q := 47) (st' := .int 6 :: _ :: _) (L' := [_, _, _, some (.int 3), some (.int 3), some (.int 1)]) rfl ?_
    refine ev_icmp_ge (t := 91) (q := 50) rfl rfl rfl (fun c => absurd c (by decide)) (fun _ => ?_)
    refine ev_go 1 (q := 52) (L' := [_, _, _, some (.int 3), some (.int 3), some (.int 1)]) rfl ?_
    refine ev_if_ne (t := 91) (q := 55) rfl rfl rfl (fun _ => ?_) (fun c => absurd c (by decide))
    refine ev_go 1 (q := 93) (L' := [_, _, _, some (.int 3), some (.int 3), some (.int 1)]) rfl ?_
    exact ev_iret rfl rfl ((congrArg Prod.fst ze).symm) (congrArg (fun z => dH h τ z B P) (congrArg Prod.snd ze).symm)
theorem c_ask8 (hn : 15 ≤ h.1) (hR : 1 ≤ R ∧ R ≤ 10) (hC : 1 ≤ C ∧ C ≤ 10) (h0 : τ 0 = nI R) (h1 : τ 1 = nI C) (hd : 4 < d) (hq : cmd_at q o) (hk : τ o = 8) (hs : 0 < sp_sel (B 0) R C ↔ ¬ sp_sel (B 0) R C = 0) : am_m d z_Readiness_ask [.ref 6, .ref q, .ref 1] (dH h τ t B P) (some (.int (rdy R C (sp_sel (B 0) R C) (cv o τ) t 8).1)) (dH h τ (rdy R C (sp_sel (B 0) R C) (cv o τ) t 8).2 B P) := by
  by_cases zp0 : 0 < sp_sel (B 0) R C
  · have zp1 : True := trivial
    by_cases zp2 : bt 1 (cv o τ 0) 9
    · have ze : rdy R C (sp_sel (B 0) R C) (cv o τ) t 8 = (0, t + 10000 + 10 + 1) := (if_neg (hs.mp zp0)).trans ((if_pos zp1).trans (congrArg (fun z : Int32 => (z, t + 10000 + 10 + 1)) (if_pos zp2)))
      refine ev_go 1 (q := 1) (L' := [_, _, _, _, _, _]) rfl ?_
      refine ev_get (q := 4) rfl (d_cmd hn hq) rfl rfl rfl ?_
      refine ev_tp (y := 8) hk ?_
      refine ev_go 2 (q := 8) (st' := _ :: .int 0 :: _ :: _) (L' := [_, _, _, _, _, _]) rfl ?_
      refine ev_go 1 (q := 9) (st' := .int 13 :: _) rfl ?_
      refine ev_go 2 (q := 11) (st' := .int (_ - 1) :: _ :: _ :: _) (L' := [_, _, _, _, _, _]) rfl ?_
      refine ev_static (z' := z_Desk_within) (q := 14) rfl rfl (by decide) rfl rfl (by simp [Value.category]) rfl (by omega) (k_within _ _ _) ?_
      refine ev_if_eq (t := 28) (q := 17) rfl rfl rfl (fun c => absurd c (by decide)) (fun zc1 => ?_)
      refine ev_go 2 (q := 21) (L' := [_, _, _, _, _, _]) rfl ?_
      refine ev_get (q := 24) rfl (d_cmd hn hq) rfl rfl rfl ?_
      refine ev_tp (y := 8) hk ?_
      refine ev_go 1 (q := 25) (st' := .int 2 :: _) rfl ?_
      refine ev_go 8 (q := 41) (st' := .int 6 :: _ :: _) (L' := [_, _, _, some (.int 2), some (.int 0), some (.int 0)]) rfl ?_
      refine ev_icmp_ge (t := 91) (q := 44) rfl rfl rfl (fun c => absurd c (by decide)) (fun _ => ?_)
      refine ev_go 2 (q := 47) (st' := .int 6 :: _ :: _) (L' := [_, _, _, some (.int 2), some (.int 0), some (.int 0)]) rfl ?_
      refine ev_icmp_ge (t := 91) (q := 50) rfl rfl rfl (fun c => absurd c (by decide)) (fun _ => ?_)
      refine ev_go 1 (q := 52) (L' := [_, _, _, some (.int 2), some (.int 0), some (.int 0)]) rfl ?_
      refine ev_if_ne (t := 91) (q := 55) rfl rfl rfl (fun c => absurd (by decide) c) (fun _ => ?_)
      refine ev_go 2 (q := 57) (L' := [_, _, _, some (.int 2), some (.int 0), some (.int 0)]) rfl ?_
      refine ev_get (q := 60) rfl (d_6 hn) rfl rfl rfl ?_
      refine ev_go 2 (q := 64) (L' := [_, _, _, some (.int 2), some (.int 0), some (.int 0)]) rfl ?_
      refine ev_go 1 (q := 65) (st' := .int 10000 :: _) rfl ?_
      refine ev_go 2 (q := 67) (L' := [_, _, _, some (.int 2), some (.int 0), some (.int 0)]) rfl ?_
      rw [il_10000]
      refine ev_put (q := 70) rfl (d_6 hn) rfl (Nat.le_of_ble_eq_true rfl) rfl rfl rfl ?_
      refine ev_hp du_6_0 ?_
      refine ev_go 4 (q := 74) (L' := [_, _, _, some (.int 2), some (.int 0), some (.int 0)]) rfl ?_
      refine ev_virt (z' := z_Readiness_failureAt) (q := 77) rfl rfl (by decide) rfl (by simp [Value.category]) rfl (by omega) rfl rfl (d_6 hn) (c_fa2 hn hR hC h0 h1 (by omega) hq) ?_
      refine ev_tp (y := 0) (if_pos zp0) ?_
      refine ev_go 3 (q := 83) (L' := [_, _, _, some (.int 2), some (.int 0), some (.int 0)]) rfl ?_
      refine ev_go 1 (q := 84) (st' := .int 3 :: _) rfl ?_
      refine ev_go 5 (q := 41) (st' := .int 6 :: _ :: _) (L' := [_, _, _, some (.int 3), some (.int 0), some (.int 1)]) rfl ?_
      refine ev_icmp_ge (t := 91) (q := 44) rfl rfl rfl (fun c => absurd c (by decide)) (fun _ => ?_)
      refine ev_go 2 (q := 47) (st' := .int 6 :: _ :: _) (L' := [_, _, _, some (.int 3), some (.int 0), some (.int 1)]) rfl ?_
      refine ev_icmp_ge (t := 91) (q := 50) rfl rfl rfl (fun c => absurd c (by decide)) (fun _ => ?_)
      refine ev_go 1 (q := 52) (L' := [_, _, _, some (.int 3), some (.int 0), some (.int 1)]) rfl ?_
      refine ev_if_ne (t := 91) (q := 55) rfl rfl rfl (fun c => absurd (by decide) c) (fun _ => ?_)
      refine ev_go 2 (q := 57) (L' := [_, _, _, some (.int 3), some (.int 0), some (.int 1)]) rfl ?_
      refine ev_get (q := 60) rfl (d_6 hn) rfl rfl rfl ?_
      refine ev_go 2 (q := 64) (L' := [_, _, _, some (.int 3), some (.int 0), some (.int 1)]) rfl ?_
      refine ev_go 1 (q := 65) (st' := .int 10 :: _) rfl ?_
      refine ev_go 2 (q := 67) (L' := [_, _, _, some (.int 3), some (.int 0), some (.int 1)]) rfl ?_
      rw [il_10]
      refine ev_put (q := 70) rfl (d_6 hn) rfl (Nat.le_of_ble_eq_true rfl) rfl rfl rfl ?_
      refine ev_hp du_6_0 ?_
      refine ev_go 4 (q := 74) (L' := [_, _, _, some (.int 3), some (.int 0), some (.int 1)]) rfl ?_
      refine ev_virt (z' := z_Readiness_failureAt) (q := 77) rfl rfl (by decide) rfl (by simp [Value.category]) rfl (by omega) rfl rfl (d_6 hn) (c_fa3_8 hn hR hC h0 h1 (by omega) hq hk) ?_
      refine ev_tp (y := 0) (if_pos zp1) ?_
      refine ev_go 3 (q := 83) (L' := [_, _, _, some (.int 3), some (.int 0), some (.int 1)]) rfl ?_
      refine ev_go 1 (q := 84) (st' := .int 5 :: _) rfl ?_
      refine ev_go 5 (q := 41) (st' := .int 6 :: _ :: _) (L' := [_, _, _, some (.int 5), some (.int 0), some (.int 2)]) rfl ?_
      refine ev_icmp_ge (t := 91) (q := 44) rfl rfl rfl (fun c => absurd c (by decide)) (fun _ => ?_)
      refine ev_go 2 (q := 47) (st' := .int 6 :: _ :: _) (L' := [_, _, _, some (.int 5), some (.int 0), some (.int 2)]) rfl ?_
      refine ev_icmp_ge (t := 91) (q := 50) rfl rfl rfl (fun c => absurd c (by decide)) (fun _ => ?_)
      refine ev_go 1 (q := 52) (L' := [_, _, _, some (.int 5), some (.int 0), some (.int 2)]) rfl ?_
      refine ev_if_ne (t := 91) (q := 55) rfl rfl rfl (fun c => absurd (by decide) c) (fun _ => ?_)
      refine ev_go 2 (q := 57) (L' := [_, _, _, some (.int 5), some (.int 0), some (.int 2)]) rfl ?_
      refine ev_get (q := 60) rfl (d_6 hn) rfl rfl rfl ?_
      refine ev_go 2 (q := 64) (L' := [_, _, _, some (.int 5), some (.int 0), some (.int 2)]) rfl ?_
      refine ev_go 1 (q := 65) (st' := .int 1 :: _) rfl ?_
      refine ev_go 2 (q := 67) (L' := [_, _, _, some (.int 5), some (.int 0), some (.int 2)]) rfl ?_
      rw [il_1]
      refine ev_put (q := 70) rfl (d_6 hn) rfl (Nat.le_of_ble_eq_true rfl) rfl rfl rfl ?_
      refine ev_hp du_6_0 ?_
      refine ev_go 4 (q := 74) (L' := [_, _, _, some (.int 5), some (.int 0), some (.int 2)]) rfl ?_
      refine ev_virt (z' := z_Readiness_failureAt) (q := 77) rfl rfl (by decide) rfl (by simp [Value.category]) rfl (by omega) rfl rfl (d_6 hn) (c_fa5_8 hn hR hC h0 h1 (by omega) hq hk) ?_
      refine ev_tp (y := 0) (if_pos zp2) ?_
      refine ev_go 3 (q := 83) (L' := [_, _, _, some (.int 5), some (.int 0), some (.int 2)]) rfl ?_
      refine ev_go 1 (q := 84) (st' := .int 6 :: _) rfl ?_
      refine ev_go 5 (q := 41) (st' := .int 6 :: _ :: _) (L' := [_, _, _, some (.int 6), some (.int 0), some (.int 3)]) rfl ?_
      refine ev_icmp_ge (t := 91) (q := 44) rfl rfl rfl (fun c => absurd c (by decide)) (fun _ => ?_)
      refine ev_go 2 (q := 47) (st' := .int 6 :: _ :: _) (L' := [_, _, _, some (.int 6), some (.int 0), some (.int 3)]) rfl ?_
      refine ev_icmp_ge (t := 91) (q := 50) rfl rfl rfl (fun _ => ?_) (fun c => absurd (by decide) c)
      refine ev_go 1 (q := 93) (L' := [_, _, _, some (.int 6), some (.int 0), some (.int 3)]) rfl ?_
      exact ev_iret rfl rfl ((congrArg Prod.fst ze).symm) (congrArg (fun z => dH h τ z B P) (congrArg Prod.snd ze).symm)
    · have ze : rdy R C (sp_sel (B 0) R C) (cv o τ) t 8 = (4, t + 10000 + 10 + 1) := (if_neg (hs.mp zp0)).trans ((if_pos zp1).trans (congrArg (fun z : Int32 => (z, t + 10000 + 10 + 1)) (if_neg zp2)))
      refine ev_go 1 (q := 1) (L' := [_, _, _, _, _, _]) rfl ?_
      refine ev_get (q := 4) rfl (d_cmd hn hq) rfl rfl rfl ?_
      refine ev_tp (y := 8) hk ?_
      refine ev_go 2 (q := 8) (st' := _ :: .int 0 :: _ :: _) (L' := [_, _, _, _, _, _]) rfl ?_
      refine ev_go 1 (q := 9) (st' := .int 13 :: _) rfl ?_
      refine ev_go 2 (q := 11) (st' := .int (_ - 1) :: _ :: _ :: _) (L' := [_, _, _, _, _, _]) rfl ?_
      refine ev_static (z' := z_Desk_within) (q := 14) rfl rfl (by decide) rfl rfl (by simp [Value.category]) rfl (by omega) (k_within _ _ _) ?_
      refine ev_if_eq (t := 28) (q := 17) rfl rfl rfl (fun c => absurd c (by decide)) (fun zc1 => ?_)
      refine ev_go 2 (q := 21) (L' := [_, _, _, _, _, _]) rfl ?_
      refine ev_get (q := 24) rfl (d_cmd hn hq) rfl rfl rfl ?_
      refine ev_tp (y := 8) hk ?_
      refine ev_go 1 (q := 25) (st' := .int 2 :: _) rfl ?_
      refine ev_go 8 (q := 41) (st' := .int 6 :: _ :: _) (L' := [_, _, _, some (.int 2), some (.int 0), some (.int 0)]) rfl ?_
      refine ev_icmp_ge (t := 91) (q := 44) rfl rfl rfl (fun c => absurd c (by decide)) (fun _ => ?_)
      refine ev_go 2 (q := 47) (st' := .int 6 :: _ :: _) (L' := [_, _, _, some (.int 2), some (.int 0), some (.int 0)]) rfl ?_
      refine ev_icmp_ge (t := 91) (q := 50) rfl rfl rfl (fun c => absurd c (by decide)) (fun _ => ?_)
      refine ev_go 1 (q := 52) (L' := [_, _, _, some (.int 2), some (.int 0), some (.int 0)]) rfl ?_
      refine ev_if_ne (t := 91) (q := 55) rfl rfl rfl (fun c => absurd (by decide) c) (fun _ => ?_)
      refine ev_go 2 (q := 57) (L' := [_, _, _, some (.int 2), some (.int 0), some (.int 0)]) rfl ?_
      refine ev_get (q := 60) rfl (d_6 hn) rfl rfl rfl ?_
      refine ev_go 2 (q := 64) (L' := [_, _, _, some (.int 2), some (.int 0), some (.int 0)]) rfl ?_
      refine ev_go 1 (q := 65) (st' := .int 10000 :: _) rfl ?_
      refine ev_go 2 (q := 67) (L' := [_, _, _, some (.int 2), some (.int 0), some (.int 0)]) rfl ?_
      rw [il_10000]
      refine ev_put (q := 70) rfl (d_6 hn) rfl (Nat.le_of_ble_eq_true rfl) rfl rfl rfl ?_
      refine ev_hp du_6_0 ?_
      refine ev_go 4 (q := 74) (L' := [_, _, _, some (.int 2), some (.int 0), some (.int 0)]) rfl ?_
      refine ev_virt (z' := z_Readiness_failureAt) (q := 77) rfl rfl (by decide) rfl (by simp [Value.category]) rfl (by omega) rfl rfl (d_6 hn) (c_fa2 hn hR hC h0 h1 (by omega) hq) ?_
      refine ev_tp (y := 0) (if_pos zp0) ?_
      refine ev_go 3 (q := 83) (L' := [_, _, _, some (.int 2), some (.int 0), some (.int 0)]) rfl ?_
      refine ev_go 1 (q := 84) (st' := .int 3 :: _) rfl ?_
      refine ev_go 5 (q := 41) (st' := .int 6 :: _ :: _) (L' := [_, _, _, some (.int 3), some (.int 0), some (.int 1)]) rfl ?_
      refine ev_icmp_ge (t := 91) (q := 44) rfl rfl rfl (fun c => absurd c (by decide)) (fun _ => ?_)
      refine ev_go 2 (q := 47) (st' := .int 6 :: _ :: _) (L' := [_, _, _, some (.int 3), some (.int 0), some (.int 1)]) rfl ?_
      refine ev_icmp_ge (t := 91) (q := 50) rfl rfl rfl (fun c => absurd c (by decide)) (fun _ => ?_)
      refine ev_go 1 (q := 52) (L' := [_, _, _, some (.int 3), some (.int 0), some (.int 1)]) rfl ?_
      refine ev_if_ne (t := 91) (q := 55) rfl rfl rfl (fun c => absurd (by decide) c) (fun _ => ?_)
      refine ev_go 2 (q := 57) (L' := [_, _, _, some (.int 3), some (.int 0), some (.int 1)]) rfl ?_
      refine ev_get (q := 60) rfl (d_6 hn) rfl rfl rfl ?_
      refine ev_go 2 (q := 64) (L' := [_, _, _, some (.int 3), some (.int 0), some (.int 1)]) rfl ?_
      refine ev_go 1 (q := 65) (st' := .int 10 :: _) rfl ?_
      refine ev_go 2 (q := 67) (L' := [_, _, _, some (.int 3), some (.int 0), some (.int 1)]) rfl ?_
      rw [il_10]
      refine ev_put (q := 70) rfl (d_6 hn) rfl (Nat.le_of_ble_eq_true rfl) rfl rfl rfl ?_
      refine ev_hp du_6_0 ?_
      refine ev_go 4 (q := 74) (L' := [_, _, _, some (.int 3), some (.int 0), some (.int 1)]) rfl ?_
      refine ev_virt (z' := z_Readiness_failureAt) (q := 77) rfl rfl (by decide) rfl (by simp [Value.category]) rfl (by omega) rfl rfl (d_6 hn) (c_fa3_8 hn hR hC h0 h1 (by omega) hq hk) ?_
      refine ev_tp (y := 0) (if_pos zp1) ?_
      refine ev_go 3 (q := 83) (L' := [_, _, _, some (.int 3), some (.int 0), some (.int 1)]) rfl ?_
      refine ev_go 1 (q := 84) (st' := .int 5 :: _) rfl ?_
      refine ev_go 5 (q := 41) (st' := .int 6 :: _ :: _) (L' := [_, _, _, some (.int 5), some (.int 0), some (.int 2)]) rfl ?_
      refine ev_icmp_ge (t := 91) (q := 44) rfl rfl rfl (fun c => absurd c (by decide)) (fun _ => ?_)
      refine ev_go 2 (q := 47) (st' := .int 6 :: _ :: _) (L' := [_, _, _, some (.int 5), some (.int 0), some (.int 2)]) rfl ?_
      refine ev_icmp_ge (t := 91) (q := 50) rfl rfl rfl (fun c => absurd c (by decide)) (fun _ => ?_)
      refine ev_go 1 (q := 52) (L' := [_, _, _, some (.int 5), some (.int 0), some (.int 2)]) rfl ?_
      refine ev_if_ne (t := 91) (q := 55) rfl rfl rfl (fun c => absurd (by decide) c) (fun _ => ?_)
      refine ev_go 2 (q := 57) (L' := [_, _, _, some (.int 5), some (.int 0), some (.int 2)]) rfl ?_
      refine ev_get (q := 60) rfl (d_6 hn) rfl rfl rfl ?_
      refine ev_go 2 (q := 64) (L' := [_, _, _, some (.int 5), some (.int 0), some (.int 2)]) rfl ?_
      refine ev_go 1 (q := 65) (st' := .int 1 :: _) rfl ?_
      refine ev_go 2 (q := 67) (L' := [_, _, _, some (.int 5), some (.int 0), some (.int 2)]) rfl ?_
      rw [il_1]
      refine ev_put (q := 70) rfl (d_6 hn) rfl (Nat.le_of_ble_eq_true rfl) rfl rfl rfl ?_
      refine ev_hp du_6_0 ?_
      refine ev_go 4 (q := 74) (L' := [_, _, _, some (.int 5), some (.int 0), some (.int 2)]) rfl ?_
      refine ev_virt (z' := z_Readiness_failureAt) (q := 77) rfl rfl (by decide) rfl (by simp [Value.category]) rfl (by omega) rfl rfl (d_6 hn) (c_fa5_8 hn hR hC h0 h1 (by omega) hq hk) ?_
      refine ev_tp (y := 4) (if_neg zp2) ?_
      refine ev_go 3 (q := 83) (L' := [_, _, _, some (.int 5), some (.int 4), some (.int 2)]) rfl ?_
      refine ev_go 1 (q := 84) (st' := .int 6 :: _) rfl ?_
      refine ev_go 5 (q := 41) (st' := .int 6 :: _ :: _) (L' := [_, _, _, some (.int 6), some (.int 4), some (.int 3)]) rfl ?_
      refine ev_icmp_ge (t := 91) (q := 44) rfl rfl rfl (fun c => absurd c (by decide)) (fun _ => ?_)
      refine ev_go 2 (q := 47) (st' := .int 6 :: _ :: _) (L' := [_, _, _, some (.int 6), some (.int 4), some (.int 3)]) rfl ?_
      refine ev_icmp_ge (t := 91) (q := 50) rfl rfl rfl (fun _ => ?_) (fun c => absurd (by decide) c)
      refine ev_go 1 (q := 93) (L' := [_, _, _, some (.int 6), some (.int 4), some (.int 3)]) rfl ?_
      exact ev_iret rfl rfl ((congrArg Prod.fst ze).symm) (congrArg (fun z => dH h τ z B P) (congrArg Prod.snd ze).symm)
  · have ze : rdy R C (sp_sel (B 0) R C) (cv o τ) t 8 = (3, t + 10000) := if_pos (Classical.not_not.mp (fun z => zp0 (hs.mpr z)))
    refine ev_go 1 (q := 1) (L' := [_, _, _, _, _, _]) rfl ?_
    refine ev_get (q := 4) rfl (d_cmd hn hq) rfl rfl rfl ?_
    refine ev_tp (y := 8) hk ?_
    refine ev_go 2 (q := 8) (st' := _ :: .int 0 :: _ :: _) (L' := [_, _, _, _, _, _]) rfl ?_
    refine ev_go 1 (q := 9) (st' := .int 13 :: _) rfl ?_
    refine ev_go 2 (q := 11) (st' := .int (_ - 1) :: _ :: _ :: _) (L' := [_, _, _, _, _, _]) rfl ?_
    refine ev_static (z' := z_Desk_within) (q := 14) rfl rfl (by decide) rfl rfl (by simp [Value.category]) rfl (by omega) (k_within _ _ _) ?_
    refine ev_if_eq (t := 28) (q := 17) rfl rfl rfl (fun c => absurd c (by decide)) (fun zc1 => ?_)
    refine ev_go 2 (q := 21) (L' := [_, _, _, _, _, _]) rfl ?_
    refine ev_get (q := 24) rfl (d_cmd hn hq) rfl rfl rfl ?_
    refine ev_tp (y := 8) hk ?_
    refine ev_go 1 (q := 25) (st' := .int 2 :: _) rfl ?_
    refine ev_go 8 (q := 41) (st' := .int 6 :: _ :: _) (L' := [_, _, _, some (.int 2), some (.int 0), some (.int 0)]) rfl ?_
    refine ev_icmp_ge (t := 91) (q := 44) rfl rfl rfl (fun c => absurd c (by decide)) (fun _ => ?_)
    refine ev_go 2 (q := 47) (st' := .int 6 :: _ :: _) (L' := [_, _, _, some (.int 2), some (.int 0), some (.int 0)]) rfl ?_
    refine ev_icmp_ge (t := 91) (q := 50) rfl rfl rfl (fun c => absurd c (by decide)) (fun _ => ?_)
    refine ev_go 1 (q := 52) (L' := [_, _, _, some (.int 2), some (.int 0), some (.int 0)]) rfl ?_
    refine ev_if_ne (t := 91) (q := 55) rfl rfl rfl (fun c => absurd (by decide) c) (fun _ => ?_)
    refine ev_go 2 (q := 57) (L' := [_, _, _, some (.int 2), some (.int 0), some (.int 0)]) rfl ?_
    refine ev_get (q := 60) rfl (d_6 hn) rfl rfl rfl ?_
    refine ev_go 2 (q := 64) (L' := [_, _, _, some (.int 2), some (.int 0), some (.int 0)]) rfl ?_
    refine ev_go 1 (q := 65) (st' := .int 10000 :: _) rfl ?_
    refine ev_go 2 (q := 67) (L' := [_, _, _, some (.int 2), some (.int 0), some (.int 0)]) rfl ?_
    rw [il_10000]
    refine ev_put (q := 70) rfl (d_6 hn) rfl (Nat.le_of_ble_eq_true rfl) rfl rfl rfl ?_
    refine ev_hp du_6_0 ?_
    refine ev_go 4 (q := 74) (L' := [_, _, _, some (.int 2), some (.int 0), some (.int 0)]) rfl ?_
    refine ev_virt (z' := z_Readiness_failureAt) (q := 77) rfl rfl (by decide) rfl (by simp [Value.category]) rfl (by omega) rfl rfl (d_6 hn) (c_fa2 hn hR hC h0 h1 (by omega) hq) ?_
    refine ev_tp (y := 3) (if_neg zp0) ?_
    refine ev_go 3 (q := 83) (L' := [_, _, _, some (.int 2), some (.int 3), some (.int 0)]) rfl ?_
    refine ev_go 1 (q := 84) (st' := .int 3 :: _) rfl ?_
    refine ev_go 5 (q := 41) (st' := .int 6 :: _ :: _) (L' := [_, _, _, some (.int 3), some (.int 3), some (.int 1)]) rfl ?_
    refine ev_icmp_ge (t := 91) (q := 44) rfl rfl rfl (fun c => absurd c (by decide)) (fun _ => ?_)
    refine ev_go 2 (q := 47) (st' := .int 6 :: _ :: _) (L' := [_, _, _, some (.int 3), some (.int 3), some (.int 1)]) rfl ?_
    refine ev_icmp_ge (t := 91) (q := 50) rfl rfl rfl (fun c => absurd c (by decide)) (fun _ => ?_)
    refine ev_go 1 (q := 52) (L' := [_, _, _, some (.int 3), some (.int 3), some (.int 1)]) rfl ?_
    refine ev_if_ne (t := 91) (q := 55) rfl rfl rfl (fun _ => ?_) (fun c => absurd c (by decide))
    refine ev_go 1 (q := 93) (L' := [_, _, _, some (.int 3), some (.int 3), some (.int 1)]) rfl ?_
    exact ev_iret rfl rfl ((congrArg Prod.fst ze).symm) (congrArg (fun z => dH h τ z B P) (congrArg Prod.snd ze).symm)
theorem c_ask9 (hn : 15 ≤ h.1) (hR : 1 ≤ R ∧ R ≤ 10) (hC : 1 ≤ C ∧ C ≤ 10) (h0 : τ 0 = nI R) (h1 : τ 1 = nI C) (hd : 4 < d) (hq : cmd_at q o) (hk : τ o = 9) (hs : 0 < sp_sel (B 0) R C ↔ ¬ sp_sel (B 0) R C = 0) : am_m d z_Readiness_ask [.ref 6, .ref q, .ref 1] (dH h τ t B P) (some (.int (rdy R C (sp_sel (B 0) R C) (cv o τ) t 9).1)) (dH h τ (rdy R C (sp_sel (B 0) R C) (cv o τ) t 9).2 B P) := by
  by_cases zp0 : blk R C (cv o τ)
  · by_cases zp1 : bt 0 (cv o τ 4) 3
    · have ze : rdy R C (sp_sel (B 0) R C) (cv o τ) t 9 = (0, t + 100 + 1) := (if_pos zp0).trans (congrArg (fun z : Int32 => (z, t + 100 + 1)) (if_pos zp1))
      refine ev_go 1 (q := 1) (L' := [_, _, _, _, _, _]) rfl ?_
      refine ev_get (q := 4) rfl (d_cmd hn hq) rfl rfl rfl ?_
      refine ev_tp (y := 9) hk ?_
      refine ev_go 2 (q := 8) (st' := _ :: .int 0 :: _ :: _) (L' := [_, _, _, _, _, _]) rfl ?_
      refine ev_go 1 (q := 9) (st' := .int 13 :: _) rfl ?_
      refine ev_go 2 (q := 11) (st' := .int (_ - 1) :: _ :: _ :: _) (L' := [_, _, _, _, _, _]) rfl ?_
      refine ev_static (z' := z_Desk_within) (q := 14) rfl rfl (by decide) rfl rfl (by simp [Value.category]) rfl (by omega) (k_within _ _ _) ?_
      refine ev_if_eq (t := 28) (q := 17) rfl rfl rfl (fun c => absurd c (by decide)) (fun zc1 => ?_)
      refine ev_go 2 (q := 21) (L' := [_, _, _, _, _, _]) rfl ?_
      refine ev_get (q := 24) rfl (d_cmd hn hq) rfl rfl rfl ?_
      refine ev_tp (y := 9) hk ?_
      refine ev_go 1 (q := 25) (st' := .int 4 :: _) rfl ?_
      refine ev_go 8 (q := 41) (st' := .int 6 :: _ :: _) (L' := [_, _, _, some (.int 4), some (.int 0), some (.int 0)]) rfl ?_
      refine ev_icmp_ge (t := 91) (q := 44) rfl rfl rfl (fun c => absurd c (by decide)) (fun _ => ?_)
      refine ev_go 2 (q := 47) (st' := .int 6 :: _ :: _) (L' := [_, _, _, some (.int 4), some (.int 0), some (.int 0)]) rfl ?_
      refine ev_icmp_ge (t := 91) (q := 50) rfl rfl rfl (fun c => absurd c (by decide)) (fun _ => ?_)
      refine ev_go 1 (q := 52) (L' := [_, _, _, some (.int 4), some (.int 0), some (.int 0)]) rfl ?_
      refine ev_if_ne (t := 91) (q := 55) rfl rfl rfl (fun c => absurd (by decide) c) (fun _ => ?_)
      refine ev_go 2 (q := 57) (L' := [_, _, _, some (.int 4), some (.int 0), some (.int 0)]) rfl ?_
      refine ev_get (q := 60) rfl (d_6 hn) rfl rfl rfl ?_
      refine ev_go 2 (q := 64) (L' := [_, _, _, some (.int 4), some (.int 0), some (.int 0)]) rfl ?_
      refine ev_go 1 (q := 65) (st' := .int 100 :: _) rfl ?_
      refine ev_go 2 (q := 67) (L' := [_, _, _, some (.int 4), some (.int 0), some (.int 0)]) rfl ?_
      rw [il_100]
      refine ev_put (q := 70) rfl (d_6 hn) rfl (Nat.le_of_ble_eq_true rfl) rfl rfl rfl ?_
      refine ev_hp du_6_0 ?_
      refine ev_go 4 (q := 74) (L' := [_, _, _, some (.int 4), some (.int 0), some (.int 0)]) rfl ?_
      refine ev_virt (z' := z_Readiness_failureAt) (q := 77) rfl rfl (by decide) rfl (by simp [Value.category]) rfl (by omega) rfl rfl (d_6 hn) (c_fa4_9 hn hR hC h0 h1 (by omega) hq hk) ?_
      refine ev_tp (y := 0) (if_pos zp0) ?_
      refine ev_go 3 (q := 83) (L' := [_, _, _, some (.int 4), some (.int 0), some (.int 0)]) rfl ?_
      refine ev_go 1 (q := 84) (st' := .int 5 :: _) rfl ?_
      refine ev_go 5 (q := 41) (st' := .int 6 :: _ :: _) (L' := [_, _, _, some (.int 5), some (.int 0), some (.int 1)]) rfl ?_
      refine ev_icmp_ge (t := 91) (q := 44) rfl rfl rfl (fun c => absurd c (by decide)) (fun _ => ?_)
      refine ev_go 2 (q := 47) (st' := .int 6 :: _ :: _) (L' := [_, _, _, some (.int 5), some (.int 0), some (.int 1)]) rfl ?_
      refine ev_icmp_ge (t := 91) (q := 50) rfl rfl rfl (fun c => absurd c (by decide)) (fun _ => ?_)
      refine ev_go 1 (q := 52) (L' := [_, _, _, some (.int 5), some (.int 0), some (.int 1)]) rfl ?_
      refine ev_if_ne (t := 91) (q := 55) rfl rfl rfl (fun c => absurd (by decide) c) (fun _ => ?_)
      refine ev_go 2 (q := 57) (L' := [_, _, _, some (.int 5), some (.int 0), some (.int 1)]) rfl ?_
      refine ev_get (q := 60) rfl (d_6 hn) rfl rfl rfl ?_
      refine ev_go 2 (q := 64) (L' := [_, _, _, some (.int 5), some (.int 0), some (.int 1)]) rfl ?_
      refine ev_go 1 (q := 65) (st' := .int 1 :: _) rfl ?_
      refine ev_go 2 (q := 67) (L' := [_, _, _, some (.int 5), some (.int 0), some (.int 1)]) rfl ?_
      rw [il_1]
      refine ev_put (q := 70) rfl (d_6 hn) rfl (Nat.le_of_ble_eq_true rfl) rfl rfl rfl ?_
      refine ev_hp du_6_0 ?_
      refine ev_go 4 (q := 74) (L' := [_, _, _, some (.int 5), some (.int 0), some (.int 1)]) rfl ?_
      refine ev_virt (z' := z_Readiness_failureAt) (q := 77) rfl rfl (by decide) rfl (by simp [Value.category]) rfl (by omega) rfl rfl (d_6 hn) (c_fa5_9 hn hR hC h0 h1 (by omega) hq hk) ?_
      refine ev_tp (y := 0) (if_pos zp1) ?_
      refine ev_go 3 (q := 83) (L' := [_, _, _, some (.int 5), some (.int 0), some (.int 1)]) rfl ?_
      refine ev_go 1 (q := 84) (st' := .int 6 :: _) rfl ?_
      refine ev_go 5 (q := 41) (st' := .int 6 :: _ :: _) (L' := [_, _, _, some (.int 6), some (.int 0), some (.int 2)]) rfl ?_
      refine ev_icmp_ge (t := 91) (q := 44) rfl rfl rfl (fun c => absurd c (by decide)) (fun _ => ?_)
      refine ev_go 2 (q := 47) (st' := .int 6 :: _ :: _) (L' := [_, _, _, some (.int 6), some (.int 0), some (.int 2)]) rfl ?_
      refine ev_icmp_ge (t := 91) (q := 50) rfl rfl rfl (fun _ => ?_) (fun c => absurd (by decide) c)
      refine ev_go 1 (q := 93) (L' := [_, _, _, some (.int 6), some (.int 0), some (.int 2)]) rfl ?_
      exact ev_iret rfl rfl ((congrArg Prod.fst ze).symm) (congrArg (fun z => dH h τ z B P) (congrArg Prod.snd ze).symm)
    · have ze : rdy R C (sp_sel (B 0) R C) (cv o τ) t 9 = (4, t + 100 + 1) := (if_pos zp0).trans (congrArg (fun z : Int32 => (z, t + 100 + 1)) (if_neg zp1))
      refine ev_go 1 (q := 1) (L' := [_, _, _, _, _, _]) rfl ?_
      refine ev_get (q := 4) rfl (d_cmd hn hq) rfl rfl rfl ?_
      refine ev_tp (y := 9) hk ?_
      refine ev_go 2 (q := 8) (st' := _ :: .int 0 :: _ :: _) (L' := [_, _, _, _, _, _]) rfl ?_
      refine ev_go 1 (q := 9) (st' := .int 13 :: _) rfl ?_
      refine ev_go 2 (q := 11) (st' := .int (_ - 1) :: _ :: _ :: _) (L' := [_, _, _, _, _, _]) rfl ?_
      refine ev_static (z' := z_Desk_within) (q := 14) rfl rfl (by decide) rfl rfl (by simp [Value.category]) rfl (by omega) (k_within _ _ _) ?_
      refine ev_if_eq (t := 28) (q := 17) rfl rfl rfl (fun c => absurd c (by decide)) (fun zc1 => ?_)
      refine ev_go 2 (q := 21) (L' := [_, _, _, _, _, _]) rfl ?_
      refine ev_get (q := 24) rfl (d_cmd hn hq) rfl rfl rfl ?_
      refine ev_tp (y := 9) hk ?_
      refine ev_go 1 (q := 25) (st' := .int 4 :: _) rfl ?_
      refine ev_go 8 (q := 41) (st' := .int 6 :: _ :: _) (L' := [_, _, _, some (.int 4), some (.int 0), some (.int 0)]) rfl ?_
      refine ev_icmp_ge (t := 91) (q := 44) rfl rfl rfl (fun c => absurd c (by decide)) (fun _ => ?_)
      refine ev_go 2 (q := 47) (st' := .int 6 :: _ :: _) (L' := [_, _, _, some (.int 4), some (.int 0), some (.int 0)]) rfl ?_
      refine ev_icmp_ge (t := 91) (q := 50) rfl rfl rfl (fun c => absurd c (by decide)) (fun _ => ?_)
      refine ev_go 1 (q := 52) (L' := [_, _, _, some (.int 4), some (.int 0), some (.int 0)]) rfl ?_
      refine ev_if_ne (t := 91) (q := 55) rfl rfl rfl (fun c => absurd (by decide) c) (fun _ => ?_)
      refine ev_go 2 (q := 57) (L' := [_, _, _, some (.int 4), some (.int 0), some (.int 0)]) rfl ?_
      refine ev_get (q := 60) rfl (d_6 hn) rfl rfl rfl ?_
      refine ev_go 2 (q := 64) (L' := [_, _, _, some (.int 4), some (.int 0), some (.int 0)]) rfl ?_
      refine ev_go 1 (q := 65) (st' := .int 100 :: _) rfl ?_
      refine ev_go 2 (q := 67) (L' := [_, _, _, some (.int 4), some (.int 0), some (.int 0)]) rfl ?_
      rw [il_100]
      refine ev_put (q := 70) rfl (d_6 hn) rfl (Nat.le_of_ble_eq_true rfl) rfl rfl rfl ?_
      refine ev_hp du_6_0 ?_
      refine ev_go 4 (q := 74) (L' := [_, _, _, some (.int 4), some (.int 0), some (.int 0)]) rfl ?_
      refine ev_virt (z' := z_Readiness_failureAt) (q := 77) rfl rfl (by decide) rfl (by simp [Value.category]) rfl (by omega) rfl rfl (d_6 hn) (c_fa4_9 hn hR hC h0 h1 (by omega) hq hk) ?_
      refine ev_tp (y := 0) (if_pos zp0) ?_
      refine ev_go 3 (q := 83) (L' := [_, _, _, some (.int 4), some (.int 0), some (.int 0)]) rfl ?_
      refine ev_go 1 (q := 84) (st' := .int 5 :: _) rfl ?_
      refine ev_go 5 (q := 41) (st' := .int 6 :: _ :: _) (L' := [_, _, _, some (.int 5), some (.int 0), some (.int 1)]) rfl ?_
      refine ev_icmp_ge (t := 91) (q := 44) rfl rfl rfl (fun c => absurd c (by decide)) (fun _ => ?_)
      refine ev_go 2 (q := 47) (st' := .int 6 :: _ :: _) (L' := [_, _, _, some (.int 5), some (.int 0), some (.int 1)]) rfl ?_
      refine ev_icmp_ge (t := 91) (q := 50) rfl rfl rfl (fun c => absurd c (by decide)) (fun _ => ?_)
      refine ev_go 1 (q := 52) (L' := [_, _, _, some (.int 5), some (.int 0), some (.int 1)]) rfl ?_
      refine ev_if_ne (t := 91) (q := 55) rfl rfl rfl (fun c => absurd (by decide) c) (fun _ => ?_)
      refine ev_go 2 (q := 57) (L' := [_, _, _, some (.int 5), some (.int 0), some (.int 1)]) rfl ?_
      refine ev_get (q := 60) rfl (d_6 hn) rfl rfl rfl ?_
      refine ev_go 2 (q := 64) (L' := [_, _, _, some (.int 5), some (.int 0), some (.int 1)]) rfl ?_
      refine ev_go 1 (q := 65) (st' := .int 1 :: _) rfl ?_
      refine ev_go 2 (q := 67) (L' := [_, _, _, some (.int 5), some (.int 0), some (.int 1)]) rfl ?_
      rw [il_1]
      refine ev_put (q := 70) rfl (d_6 hn) rfl (Nat.le_of_ble_eq_true rfl) rfl rfl rfl ?_
      refine ev_hp du_6_0 ?_
      refine ev_go 4 (q := 74) (L' := [_, _, _, some (.int 5), some (.int 0), some (.int 1)]) rfl ?_
      refine ev_virt (z' := z_Readiness_failureAt) (q := 77) rfl rfl (by decide) rfl (by simp [Value.category]) rfl (by omega) rfl rfl (d_6 hn) (c_fa5_9 hn hR hC h0 h1 (by omega) hq hk) ?_
      refine ev_tp (y := 4) (if_neg zp1) ?_
      refine ev_go 3 (q := 83) (L' := [_, _, _, some (.int 5), some (.int 4), some (.int 1)]) rfl ?_
      refine ev_go 1 (q := 84) (st' := .int 6 :: _) rfl ?_
      refine ev_go 5 (q := 41) (st' := .int 6 :: _ :: _) (L' := [_, _, _, some (.int 6), some (.int 4), some (.int 2)]) rfl ?_
      refine ev_icmp_ge (t := 91) (q := 44) rfl rfl rfl (fun c => absurd c (by decide)) (fun _ => ?_)
      refine ev_go 2 (q := 47) (st' := .int 6 :: _ :: _) (L' := [_, _, _, some (.int 6), some (.int 4), some (.int 2)]) rfl ?_
      refine ev_icmp_ge (t := 91) (q := 50) rfl rfl rfl (fun _ => ?_) (fun c => absurd (by decide) c)
      refine ev_go 1 (q := 93) (L' := [_, _, _, some (.int 6), some (.int 4), some (.int 2)]) rfl ?_
      exact ev_iret rfl rfl ((congrArg Prod.fst ze).symm) (congrArg (fun z => dH h τ z B P) (congrArg Prod.snd ze).symm)
  · have ze : rdy R C (sp_sel (B 0) R C) (cv o τ) t 9 = (1, t + 100) := if_neg zp0
    refine ev_go 1 (q := 1) (L' := [_, _, _, _, _, _]) rfl ?_
    refine ev_get (q := 4) rfl (d_cmd hn hq) rfl rfl rfl ?_
    refine ev_tp (y := 9) hk ?_
    refine ev_go 2 (q := 8) (st' := _ :: .int 0 :: _ :: _) (L' := [_, _, _, _, _, _]) rfl ?_
    refine ev_go 1 (q := 9) (st' := .int 13 :: _) rfl ?_
    refine ev_go 2 (q := 11) (st' := .int (_ - 1) :: _ :: _ :: _) (L' := [_, _, _, _, _, _]) rfl ?_
    refine ev_static (z' := z_Desk_within) (q := 14) rfl rfl (by decide) rfl rfl (by simp [Value.category]) rfl (by omega) (k_within _ _ _) ?_
    refine ev_if_eq (t := 28) (q := 17) rfl rfl rfl (fun c => absurd c (by decide)) (fun zc1 => ?_)
    refine ev_go 2 (q := 21) (L' := [_, _, _, _, _, _]) rfl ?_
    refine ev_get (q := 24) rfl (d_cmd hn hq) rfl rfl rfl ?_
    refine ev_tp (y := 9) hk ?_
    refine ev_go 1 (q := 25) (st' := .int 4 :: _) rfl ?_
    refine ev_go 8 (q := 41) (st' := .int 6 :: _ :: _) (L' := [_, _, _, some (.int 4), some (.int 0), some (.int 0)]) rfl ?_
    refine ev_icmp_ge (t := 91) (q := 44) rfl rfl rfl (fun c => absurd c (by decide)) (fun _ => ?_)
    refine ev_go 2 (q := 47) (st' := .int 6 :: _ :: _) (L' := [_, _, _, some (.int 4), some (.int 0), some (.int 0)]) rfl ?_
    refine ev_icmp_ge (t := 91) (q := 50) rfl rfl rfl (fun c => absurd c (by decide)) (fun _ => ?_)
    refine ev_go 1 (q := 52) (L' := [_, _, _, some (.int 4), some (.int 0), some (.int 0)]) rfl ?_
    refine ev_if_ne (t := 91) (q := 55) rfl rfl rfl (fun c => absurd (by decide) c) (fun _ => ?_)
    refine ev_go 2 (q := 57) (L' := [_, _, _, some (.int 4), some (.int 0), some (.int 0)]) rfl ?_
    refine ev_get (q := 60) rfl (d_6 hn) rfl rfl rfl ?_
    refine ev_go 2 (q := 64) (L' := [_, _, _, some (.int 4), some (.int 0), some (.int 0)]) rfl ?_
    refine ev_go 1 (q := 65) (st' := .int 100 :: _) rfl ?_
    refine ev_go 2 (q := 67) (L' := [_, _, _, some (.int 4), some (.int 0), some (.int 0)]) rfl ?_
    rw [il_100]
    refine ev_put (q := 70) rfl (d_6 hn) rfl (Nat.le_of_ble_eq_true rfl) rfl rfl rfl ?_
    refine ev_hp du_6_0 ?_
    refine ev_go 4 (q := 74) (L' := [_, _, _, some (.int 4), some (.int 0), some (.int 0)]) rfl ?_
    refine ev_virt (z' := z_Readiness_failureAt) (q := 77) rfl rfl (by decide) rfl (by simp [Value.category]) rfl (by omega) rfl rfl (d_6 hn) (c_fa4_9 hn hR hC h0 h1 (by omega) hq hk) ?_
    refine ev_tp (y := 1) (if_neg zp0) ?_
    refine ev_go 3 (q := 83) (L' := [_, _, _, some (.int 4), some (.int 1), some (.int 0)]) rfl ?_
    refine ev_go 1 (q := 84) (st' := .int 5 :: _) rfl ?_
    refine ev_go 5 (q := 41) (st' := .int 6 :: _ :: _) (L' := [_, _, _, some (.int 5), some (.int 1), some (.int 1)]) rfl ?_
    refine ev_icmp_ge (t := 91) (q := 44) rfl rfl rfl (fun c => absurd c (by decide)) (fun _ => ?_)
    refine ev_go 2 (q := 47) (st' := .int 6 :: _ :: _) (L' := [_, _, _, some (.int 5), some (.int 1), some (.int 1)]) rfl ?_
    refine ev_icmp_ge (t := 91) (q := 50) rfl rfl rfl (fun c => absurd c (by decide)) (fun _ => ?_)
    refine ev_go 1 (q := 52) (L' := [_, _, _, some (.int 5), some (.int 1), some (.int 1)]) rfl ?_
    refine ev_if_ne (t := 91) (q := 55) rfl rfl rfl (fun _ => ?_) (fun c => absurd c (by decide))
    refine ev_go 1 (q := 93) (L' := [_, _, _, some (.int 5), some (.int 1), some (.int 1)]) rfl ?_
    exact ev_iret rfl rfl ((congrArg Prod.fst ze).symm) (congrArg (fun z => dH h τ z B P) (congrArg Prod.snd ze).symm)
theorem c_ask10 (hn : 15 ≤ h.1) (hR : 1 ≤ R ∧ R ≤ 10) (hC : 1 ≤ C ∧ C ≤ 10) (h0 : τ 0 = nI R) (h1 : τ 1 = nI C) (hd : 4 < d) (hq : cmd_at q o) (hk : τ o = 10) (hs : 0 < sp_sel (B 0) R C ↔ ¬ sp_sel (B 0) R C = 0) : am_m d z_Readiness_ask [.ref 6, .ref q, .ref 1] (dH h τ t B P) (some (.int (rdy R C (sp_sel (B 0) R C) (cv o τ) t 10).1)) (dH h τ (rdy R C (sp_sel (B 0) R C) (cv o τ) t 10).2 B P) := by
  by_cases zp0 : bt 0 (cv o τ 0) 9
  · have zp1 : True := trivial
    have ze : rdy R C (sp_sel (B 0) R C) (cv o τ) t 10 = (0, t + 100 + 1) := (if_pos zp0).trans (congrArg (fun z : Int32 => (z, t + 100 + 1)) (if_pos zp1))
    refine ev_go 1 (q := 1) (L' := [_, _, _, _, _, _]) rfl ?_
    refine ev_get (q := 4) rfl (d_cmd hn hq) rfl rfl rfl ?_
    refine ev_tp (y := 10) hk ?_
    refine ev_go 2 (q := 8) (st' := _ :: .int 0 :: _ :: _) (L' := [_, _, _, _, _, _]) rfl ?_
    refine ev_go 1 (q := 9) (st' := .int 13 :: _) rfl ?_
    refine ev_go 2 (q := 11) (st' := .int (_ - 1) :: _ :: _ :: _) (L' := [_, _, _, _, _, _]) rfl ?_
    refine ev_static (z' := z_Desk_within) (q := 14) rfl rfl (by decide) rfl rfl (by simp [Value.category]) rfl (by omega) (k_within _ _ _) ?_
    refine ev_if_eq (t := 28) (q := 17) rfl rfl rfl (fun c => absurd c (by decide)) (fun zc1 => ?_)
    refine ev_go 2 (q := 21) (L' := [_, _, _, _, _, _]) rfl ?_
    refine ev_get (q := 24) rfl (d_cmd hn hq) rfl rfl rfl ?_
    refine ev_tp (y := 10) hk ?_
    refine ev_go 1 (q := 25) (st' := .int 4 :: _) rfl ?_
    refine ev_go 8 (q := 41) (st' := .int 6 :: _ :: _) (L' := [_, _, _, some (.int 4), some (.int 0), some (.int 0)]) rfl ?_
    refine ev_icmp_ge (t := 91) (q := 44) rfl rfl rfl (fun c => absurd c (by decide)) (fun _ => ?_)
    refine ev_go 2 (q := 47) (st' := .int 6 :: _ :: _) (L' := [_, _, _, some (.int 4), some (.int 0), some (.int 0)]) rfl ?_
    refine ev_icmp_ge (t := 91) (q := 50) rfl rfl rfl (fun c => absurd c (by decide)) (fun _ => ?_)
    refine ev_go 1 (q := 52) (L' := [_, _, _, some (.int 4), some (.int 0), some (.int 0)]) rfl ?_
    refine ev_if_ne (t := 91) (q := 55) rfl rfl rfl (fun c => absurd (by decide) c) (fun _ => ?_)
    refine ev_go 2 (q := 57) (L' := [_, _, _, some (.int 4), some (.int 0), some (.int 0)]) rfl ?_
    refine ev_get (q := 60) rfl (d_6 hn) rfl rfl rfl ?_
    refine ev_go 2 (q := 64) (L' := [_, _, _, some (.int 4), some (.int 0), some (.int 0)]) rfl ?_
    refine ev_go 1 (q := 65) (st' := .int 100 :: _) rfl ?_
    refine ev_go 2 (q := 67) (L' := [_, _, _, some (.int 4), some (.int 0), some (.int 0)]) rfl ?_
    rw [il_100]
    refine ev_put (q := 70) rfl (d_6 hn) rfl (Nat.le_of_ble_eq_true rfl) rfl rfl rfl ?_
    refine ev_hp du_6_0 ?_
    refine ev_go 4 (q := 74) (L' := [_, _, _, some (.int 4), some (.int 0), some (.int 0)]) rfl ?_
    refine ev_virt (z' := z_Readiness_failureAt) (q := 77) rfl rfl (by decide) rfl (by simp [Value.category]) rfl (by omega) rfl rfl (d_6 hn) (c_fa4_10 hn hR hC h0 h1 (by omega) hq hk) ?_
    refine ev_tp (y := 0) (if_pos zp0) ?_
    refine ev_go 3 (q := 83) (L' := [_, _, _, some (.int 4), some (.int 0), some (.int 0)]) rfl ?_
    refine ev_go 1 (q := 84) (st' := .int 5 :: _) rfl ?_
    refine ev_go 5 (q := 41) (st' := .int 6 :: _ :: _) (L' := [_, _, _, some (.int 5), some (.int 0), some (.int 1)]) rfl ?_
    refine ev_icmp_ge (t := 91) (q := 44) rfl rfl rfl (fun c => absurd c (by decide)) (fun _ => ?_)
    refine ev_go 2 (q := 47) (st' := .int 6 :: _ :: _) (L' := [_, _, _, some (.int 5), some (.int 0), some (.int 1)]) rfl ?_
    refine ev_icmp_ge (t := 91) (q := 50) rfl rfl rfl (fun c => absurd c (by decide)) (fun _ => ?_)
    refine ev_go 1 (q := 52) (L' := [_, _, _, some (.int 5), some (.int 0), some (.int 1)]) rfl ?_
    refine ev_if_ne (t := 91) (q := 55) rfl rfl rfl (fun c => absurd (by decide) c) (fun _ => ?_)
    refine ev_go 2 (q := 57) (L' := [_, _, _, some (.int 5), some (.int 0), some (.int 1)]) rfl ?_
    refine ev_get (q := 60) rfl (d_6 hn) rfl rfl rfl ?_
    refine ev_go 2 (q := 64) (L' := [_, _, _, some (.int 5), some (.int 0), some (.int 1)]) rfl ?_
    refine ev_go 1 (q := 65) (st' := .int 1 :: _) rfl ?_
    refine ev_go 2 (q := 67) (L' := [_, _, _, some (.int 5), some (.int 0), some (.int 1)]) rfl ?_
    rw [il_1]
    refine ev_put (q := 70) rfl (d_6 hn) rfl (Nat.le_of_ble_eq_true rfl) rfl rfl rfl ?_
    refine ev_hp du_6_0 ?_
    refine ev_go 4 (q := 74) (L' := [_, _, _, some (.int 5), some (.int 0), some (.int 1)]) rfl ?_
    refine ev_virt (z' := z_Readiness_failureAt) (q := 77) rfl rfl (by decide) rfl (by simp [Value.category]) rfl (by omega) rfl rfl (d_6 hn) (c_fa5_10 hn hR hC h0 h1 (by omega) hq hk) ?_
    refine ev_tp (y := 0) (if_pos zp1) ?_
    refine ev_go 3 (q := 83) (L' := [_, _, _, some (.int 5), some (.int 0), some (.int 1)]) rfl ?_
    refine ev_go 1 (q := 84) (st' := .int 6 :: _) rfl ?_
    refine ev_go 5 (q := 41) (st' := .int 6 :: _ :: _) (L' := [_, _, _, some (.int 6), some (.int 0), some (.int 2)]) rfl ?_
    refine ev_icmp_ge (t := 91) (q := 44) rfl rfl rfl (fun c => absurd c (by decide)) (fun _ => ?_)
    refine ev_go 2 (q := 47) (st' := .int 6 :: _ :: _) (L' := [_, _, _, some (.int 6), some (.int 0), some (.int 2)]) rfl ?_
    refine ev_icmp_ge (t := 91) (q := 50) rfl rfl rfl (fun _ => ?_) (fun c => absurd (by decide) c)
    refine ev_go 1 (q := 93) (L' := [_, _, _, some (.int 6), some (.int 0), some (.int 2)]) rfl ?_
    exact ev_iret rfl rfl ((congrArg Prod.fst ze).symm) (congrArg (fun z => dH h τ z B P) (congrArg Prod.snd ze).symm)
  · have ze : rdy R C (sp_sel (B 0) R C) (cv o τ) t 10 = (2, t + 100) := if_neg zp0
    refine ev_go 1 (q := 1) (L' := [_, _, _, _, _, _]) rfl ?_
    refine ev_get (q := 4) rfl (d_cmd hn hq) rfl rfl rfl ?_
    refine ev_tp (y := 10) hk ?_
    refine ev_go 2 (q := 8) (st' := _ :: .int 0 :: _ :: _) (L' := [_, _, _, _, _, _]) rfl ?_
    refine ev_go 1 (q := 9) (st' := .int 13 :: _) rfl ?_
    refine ev_go 2 (q := 11) (st' := .int (_ - 1) :: _ :: _ :: _) (L' := [_, _, _, _, _, _]) rfl ?_
    refine ev_static (z' := z_Desk_within) (q := 14) rfl rfl (by decide) rfl rfl (by simp [Value.category]) rfl (by omega) (k_within _ _ _) ?_
    refine ev_if_eq (t := 28) (q := 17) rfl rfl rfl (fun c => absurd c (by decide)) (fun zc1 => ?_)
    refine ev_go 2 (q := 21) (L' := [_, _, _, _, _, _]) rfl ?_
    refine ev_get (q := 24) rfl (d_cmd hn hq) rfl rfl rfl ?_
    refine ev_tp (y := 10) hk ?_
    refine ev_go 1 (q := 25) (st' := .int 4 :: _) rfl ?_
    refine ev_go 8 (q := 41) (st' := .int 6 :: _ :: _) (L' := [_, _, _, some (.int 4), some (.int 0), some (.int 0)]) rfl ?_
    refine ev_icmp_ge (t := 91) (q := 44) rfl rfl rfl (fun c => absurd c (by decide)) (fun _ => ?_)
    refine ev_go 2 (q := 47) (st' := .int 6 :: _ :: _) (L' := [_, _, _, some (.int 4), some (.int 0), some (.int 0)]) rfl ?_
    refine ev_icmp_ge (t := 91) (q := 50) rfl rfl rfl (fun c => absurd c (by decide)) (fun _ => ?_)
    refine ev_go 1 (q := 52) (L' := [_, _, _, some (.int 4), some (.int 0), some (.int 0)]) rfl ?_
    refine ev_if_ne (t := 91) (q := 55) rfl rfl rfl (fun c => absurd (by decide) c) (fun _ => ?_)
    refine ev_go 2 (q := 57) (L' := [_, _, _, some (.int 4), some (.int 0), some (.int 0)]) rfl ?_
    refine ev_get (q := 60) rfl (d_6 hn) rfl rfl rfl ?_
    refine ev_go 2 (q := 64) (L' := [_, _, _, some (.int 4), some (.int 0), some (.int 0)]) rfl ?_
    refine ev_go 1 (q := 65) (st' := .int 100 :: _) rfl ?_
    refine ev_go 2 (q := 67) (L' := [_, _, _, some (.int 4), some (.int 0), some (.int 0)]) rfl ?_
    rw [il_100]
    refine ev_put (q := 70) rfl (d_6 hn) rfl (Nat.le_of_ble_eq_true rfl) rfl rfl rfl ?_
    refine ev_hp du_6_0 ?_
    refine ev_go 4 (q := 74) (L' := [_, _, _, some (.int 4), some (.int 0), some (.int 0)]) rfl ?_
    refine ev_virt (z' := z_Readiness_failureAt) (q := 77) rfl rfl (by decide) rfl (by simp [Value.category]) rfl (by omega) rfl rfl (d_6 hn) (c_fa4_10 hn hR hC h0 h1 (by omega) hq hk) ?_
    refine ev_tp (y := 2) (if_neg zp0) ?_
    refine ev_go 3 (q := 83) (L' := [_, _, _, some (.int 4), some (.int 2), some (.int 0)]) rfl ?_
    refine ev_go 1 (q := 84) (st' := .int 5 :: _) rfl ?_
    refine ev_go 5 (q := 41) (st' := .int 6 :: _ :: _) (L' := [_, _, _, some (.int 5), some (.int 2), some (.int 1)]) rfl ?_
    refine ev_icmp_ge (t := 91) (q := 44) rfl rfl rfl (fun c => absurd c (by decide)) (fun _ => ?_)
    refine ev_go 2 (q := 47) (st' := .int 6 :: _ :: _) (L' := [_, _, _, some (.int 5), some (.int 2), some (.int 1)]) rfl ?_
    refine ev_icmp_ge (t := 91) (q := 50) rfl rfl rfl (fun c => absurd c (by decide)) (fun _ => ?_)
    refine ev_go 1 (q := 52) (L' := [_, _, _, some (.int 5), some (.int 2), some (.int 1)]) rfl ?_
    refine ev_if_ne (t := 91) (q := 55) rfl rfl rfl (fun _ => ?_) (fun c => absurd c (by decide))
    refine ev_go 1 (q := 93) (L' := [_, _, _, some (.int 5), some (.int 2), some (.int 1)]) rfl ?_
    exact ev_iret rfl rfl ((congrArg Prod.fst ze).symm) (congrArg (fun z => dH h τ z B P) (congrArg Prod.snd ze).symm)
theorem c_ask11 (hn : 15 ≤ h.1) (hR : 1 ≤ R ∧ R ≤ 10) (hC : 1 ≤ C ∧ C ≤ 10) (h0 : τ 0 = nI R) (h1 : τ 1 = nI C) (hd : 4 < d) (hq : cmd_at q o) (hk : τ o = 11) (hs : 0 < sp_sel (B 0) R C ↔ ¬ sp_sel (B 0) R C = 0) : am_m d z_Readiness_ask [.ref 6, .ref q, .ref 1] (dH h τ t B P) (some (.int (rdy R C (sp_sel (B 0) R C) (cv o τ) t 11).1)) (dH h τ (rdy R C (sp_sel (B 0) R C) (cv o τ) t 11).2 B P) := by
  by_cases zp0 : bt 0 (cv o τ 0) 2
  · have zp1 : True := trivial
    have ze : rdy R C (sp_sel (B 0) R C) (cv o τ) t 11 = (0, t + 100 + 1) := (if_pos zp0).trans (congrArg (fun z : Int32 => (z, t + 100 + 1)) (if_pos zp1))
    refine ev_go 1 (q := 1) (L' := [_, _, _, _, _, _]) rfl ?_
    refine ev_get (q := 4) rfl (d_cmd hn hq) rfl rfl rfl ?_
    refine ev_tp (y := 11) hk ?_
    refine ev_go 2 (q := 8) (st' := _ :: .int 0 :: _ :: _) (L' := [_, _, _, _, _, _]) rfl ?_
    refine ev_go 1 (q := 9) (st' := .int 13 :: _) rfl ?_
    refine ev_go 2 (q := 11) (st' := .int (_ - 1) :: _ :: _ :: _) (L' := [_, _, _, _, _, _]) rfl ?_
    refine ev_static (z' := z_Desk_within) (q := 14) rfl rfl (by decide) rfl rfl (by simp [Value.category]) rfl (by omega) (k_within _ _ _) ?_
    refine ev_if_eq (t := 28) (q := 17) rfl rfl rfl (fun c => absurd c (by decide)) (fun zc1 => ?_)
    refine ev_go 2 (q := 21) (L' := [_, _, _, _, _, _]) rfl ?_
    refine ev_get (q := 24) rfl (d_cmd hn hq) rfl rfl rfl ?_
    refine ev_tp (y := 11) hk ?_
    refine ev_go 1 (q := 25) (st' := .int 4 :: _) rfl ?_
    refine ev_go 8 (q := 41) (st' := .int 6 :: _ :: _) (L' := [_, _, _, some (.int 4), some (.int 0), some (.int 0)]) rfl ?_
    refine ev_icmp_ge (t := 91) (q := 44) rfl rfl rfl (fun c => absurd c (by decide)) (fun _ => ?_)
    refine ev_go 2 (q := 47) (st' := .int 6 :: _ :: _) (L' := [_, _, _, some (.int 4), some (.int 0), some (.int 0)]) rfl ?_
    refine ev_icmp_ge (t := 91) (q := 50) rfl rfl rfl (fun c => absurd c (by decide)) (fun _ => ?_)
    refine ev_go 1 (q := 52) (L' := [_, _, _, some (.int 4), some (.int 0), some (.int 0)]) rfl ?_
    refine ev_if_ne (t := 91) (q := 55) rfl rfl rfl (fun c => absurd (by decide) c) (fun _ => ?_)
    refine ev_go 2 (q := 57) (L' := [_, _, _, some (.int 4), some (.int 0), some (.int 0)]) rfl ?_
    refine ev_get (q := 60) rfl (d_6 hn) rfl rfl rfl ?_
    refine ev_go 2 (q := 64) (L' := [_, _, _, some (.int 4), some (.int 0), some (.int 0)]) rfl ?_
    refine ev_go 1 (q := 65) (st' := .int 100 :: _) rfl ?_
    refine ev_go 2 (q := 67) (L' := [_, _, _, some (.int 4), some (.int 0), some (.int 0)]) rfl ?_
    rw [il_100]
    refine ev_put (q := 70) rfl (d_6 hn) rfl (Nat.le_of_ble_eq_true rfl) rfl rfl rfl ?_
    refine ev_hp du_6_0 ?_
    refine ev_go 4 (q := 74) (L' := [_, _, _, some (.int 4), some (.int 0), some (.int 0)]) rfl ?_
    refine ev_virt (z' := z_Readiness_failureAt) (q := 77) rfl rfl (by decide) rfl (by simp [Value.category]) rfl (by omega) rfl rfl (d_6 hn) (c_fa4_11 hn hR hC h0 h1 (by omega) hq hk) ?_
    refine ev_tp (y := 0) (if_pos zp0) ?_
    refine ev_go 3 (q := 83) (L' := [_, _, _, some (.int 4), some (.int 0), some (.int 0)]) rfl ?_
    refine ev_go 1 (q := 84) (st' := .int 5 :: _) rfl ?_
    refine ev_go 5 (q := 41) (st' := .int 6 :: _ :: _) (L' := [_, _, _, some (.int 5), some (.int 0), some (.int 1)]) rfl ?_
    refine ev_icmp_ge (t := 91) (q := 44) rfl rfl rfl (fun c => absurd c (by decide)) (fun _ => ?_)
    refine ev_go 2 (q := 47) (st' := .int 6 :: _ :: _) (L' := [_, _, _, some (.int 5), some (.int 0), some (.int 1)]) rfl ?_
    refine ev_icmp_ge (t := 91) (q := 50) rfl rfl rfl (fun c => absurd c (by decide)) (fun _ => ?_)
    refine ev_go 1 (q := 52) (L' := [_, _, _, some (.int 5), some (.int 0), some (.int 1)]) rfl ?_
    refine ev_if_ne (t := 91) (q := 55) rfl rfl rfl (fun c => absurd (by decide) c) (fun _ => ?_)
    refine ev_go 2 (q := 57) (L' := [_, _, _, some (.int 5), some (.int 0), some (.int 1)]) rfl ?_
    refine ev_get (q := 60) rfl (d_6 hn) rfl rfl rfl ?_
    refine ev_go 2 (q := 64) (L' := [_, _, _, some (.int 5), some (.int 0), some (.int 1)]) rfl ?_
    refine ev_go 1 (q := 65) (st' := .int 1 :: _) rfl ?_
    refine ev_go 2 (q := 67) (L' := [_, _, _, some (.int 5), some (.int 0), some (.int 1)]) rfl ?_
    rw [il_1]
    refine ev_put (q := 70) rfl (d_6 hn) rfl (Nat.le_of_ble_eq_true rfl) rfl rfl rfl ?_
    refine ev_hp du_6_0 ?_
    refine ev_go 4 (q := 74) (L' := [_, _, _, some (.int 5), some (.int 0), some (.int 1)]) rfl ?_
    refine ev_virt (z' := z_Readiness_failureAt) (q := 77) rfl rfl (by decide) rfl (by simp [Value.category]) rfl (by omega) rfl rfl (d_6 hn) (c_fa5_11 hn hR hC h0 h1 (by omega) hq hk) ?_
    refine ev_tp (y := 0) (if_pos zp1) ?_
    refine ev_go 3 (q := 83) (L' := [_, _, _, some (.int 5), some (.int 0), some (.int 1)]) rfl ?_
    refine ev_go 1 (q := 84) (st' := .int 6 :: _) rfl ?_
    refine ev_go 5 (q := 41) (st' := .int 6 :: _ :: _) (L' := [_, _, _, some (.int 6), some (.int 0), some (.int 2)]) rfl ?_
    refine ev_icmp_ge (t := 91) (q := 44) rfl rfl rfl (fun c => absurd c (by decide)) (fun _ => ?_)
    refine ev_go 2 (q := 47) (st' := .int 6 :: _ :: _) (L' := [_, _, _, some (.int 6), some (.int 0), some (.int 2)]) rfl ?_
    refine ev_icmp_ge (t := 91) (q := 50) rfl rfl rfl (fun _ => ?_) (fun c => absurd (by decide) c)
    refine ev_go 1 (q := 93) (L' := [_, _, _, some (.int 6), some (.int 0), some (.int 2)]) rfl ?_
    exact ev_iret rfl rfl ((congrArg Prod.fst ze).symm) (congrArg (fun z => dH h τ z B P) (congrArg Prod.snd ze).symm)
  · have ze : rdy R C (sp_sel (B 0) R C) (cv o τ) t 11 = (1, t + 100) := if_neg zp0
    refine ev_go 1 (q := 1) (L' := [_, _, _, _, _, _]) rfl ?_
    refine ev_get (q := 4) rfl (d_cmd hn hq) rfl rfl rfl ?_
    refine ev_tp (y := 11) hk ?_
    refine ev_go 2 (q := 8) (st' := _ :: .int 0 :: _ :: _) (L' := [_, _, _, _, _, _]) rfl ?_
    refine ev_go 1 (q := 9) (st' := .int 13 :: _) rfl ?_
    refine ev_go 2 (q := 11) (st' := .int (_ - 1) :: _ :: _ :: _) (L' := [_, _, _, _, _, _]) rfl ?_
    refine ev_static (z' := z_Desk_within) (q := 14) rfl rfl (by decide) rfl rfl (by simp [Value.category]) rfl (by omega) (k_within _ _ _) ?_
    refine ev_if_eq (t := 28) (q := 17) rfl rfl rfl (fun c => absurd c (by decide)) (fun zc1 => ?_)
    refine ev_go 2 (q := 21) (L' := [_, _, _, _, _, _]) rfl ?_
    refine ev_get (q := 24) rfl (d_cmd hn hq) rfl rfl rfl ?_
    refine ev_tp (y := 11) hk ?_
    refine ev_go 1 (q := 25) (st' := .int 4 :: _) rfl ?_
    refine ev_go 8 (q := 41) (st' := .int 6 :: _ :: _) (L' := [_, _, _, some (.int 4), some (.int 0), some (.int 0)]) rfl ?_
    refine ev_icmp_ge (t := 91) (q := 44) rfl rfl rfl (fun c => absurd c (by decide)) (fun _ => ?_)
    refine ev_go 2 (q := 47) (st' := .int 6 :: _ :: _) (L' := [_, _, _, some (.int 4), some (.int 0), some (.int 0)]) rfl ?_
    refine ev_icmp_ge (t := 91) (q := 50) rfl rfl rfl (fun c => absurd c (by decide)) (fun _ => ?_)
    refine ev_go 1 (q := 52) (L' := [_, _, _, some (.int 4), some (.int 0), some (.int 0)]) rfl ?_
    refine ev_if_ne (t := 91) (q := 55) rfl rfl rfl (fun c => absurd (by decide) c) (fun _ => ?_)
    refine ev_go 2 (q := 57) (L' := [_, _, _, some (.int 4), some (.int 0), some (.int 0)]) rfl ?_
    refine ev_get (q := 60) rfl (d_6 hn) rfl rfl rfl ?_
    refine ev_go 2 (q := 64) (L' := [_, _, _, some (.int 4), some (.int 0), some (.int 0)]) rfl ?_
    refine ev_go 1 (q := 65) (st' := .int 100 :: _) rfl ?_
    refine ev_go 2 (q := 67) (L' := [_, _, _, some (.int 4), some (.int 0), some (.int 0)]) rfl ?_
    rw [il_100]
    refine ev_put (q := 70) rfl (d_6 hn) rfl (Nat.le_of_ble_eq_true rfl) rfl rfl rfl ?_
    refine ev_hp du_6_0 ?_
    refine ev_go 4 (q := 74) (L' := [_, _, _, some (.int 4), some (.int 0), some (.int 0)]) rfl ?_
    refine ev_virt (z' := z_Readiness_failureAt) (q := 77) rfl rfl (by decide) rfl (by simp [Value.category]) rfl (by omega) rfl rfl (d_6 hn) (c_fa4_11 hn hR hC h0 h1 (by omega) hq hk) ?_
    refine ev_tp (y := 1) (if_neg zp0) ?_
    refine ev_go 3 (q := 83) (L' := [_, _, _, some (.int 4), some (.int 1), some (.int 0)]) rfl ?_
    refine ev_go 1 (q := 84) (st' := .int 5 :: _) rfl ?_
    refine ev_go 5 (q := 41) (st' := .int 6 :: _ :: _) (L' := [_, _, _, some (.int 5), some (.int 1), some (.int 1)]) rfl ?_
    refine ev_icmp_ge (t := 91) (q := 44) rfl rfl rfl (fun c => absurd c (by decide)) (fun _ => ?_)
    refine ev_go 2 (q := 47) (st' := .int 6 :: _ :: _) (L' := [_, _, _, some (.int 5), some (.int 1), some (.int 1)]) rfl ?_
    refine ev_icmp_ge (t := 91) (q := 50) rfl rfl rfl (fun c => absurd c (by decide)) (fun _ => ?_)
    refine ev_go 1 (q := 52) (L' := [_, _, _, some (.int 5), some (.int 1), some (.int 1)]) rfl ?_
    refine ev_if_ne (t := 91) (q := 55) rfl rfl rfl (fun _ => ?_) (fun c => absurd c (by decide))
    refine ev_go 1 (q := 93) (L' := [_, _, _, some (.int 5), some (.int 1), some (.int 1)]) rfl ?_
    exact ev_iret rfl rfl ((congrArg Prod.fst ze).symm) (congrArg (fun z => dH h τ z B P) (congrArg Prod.snd ze).symm)
theorem c_ask12 (hn : 15 ≤ h.1) (hR : 1 ≤ R ∧ R ≤ 10) (hC : 1 ≤ C ∧ C ≤ 10) (h0 : τ 0 = nI R) (h1 : τ 1 = nI C) (hd : 4 < d) (hq : cmd_at q o) (hk : τ o = 12) (hs : 0 < sp_sel (B 0) R C ↔ ¬ sp_sel (B 0) R C = 0) : am_m d z_Readiness_ask [.ref 6, .ref q, .ref 1] (dH h τ t B P) (some (.int (rdy R C (sp_sel (B 0) R C) (cv o τ) t 12).1)) (dH h τ (rdy R C (sp_sel (B 0) R C) (cv o τ) t 12).2 B P) := by
  by_cases zp0 : bt 0 (cv o τ 0) 2
  · by_cases zp1 : bt 0 (cv o τ 1) 1
    · have ze : rdy R C (sp_sel (B 0) R C) (cv o τ) t 12 = (0, t + 100 + 1) := (if_pos zp0).trans (congrArg (fun z : Int32 => (z, t + 100 + 1)) (if_pos zp1))
      refine ev_go 1 (q := 1) (L' := [_, _, _, _, _, _]) rfl ?_
      refine ev_get (q := 4) rfl (d_cmd hn hq) rfl rfl rfl ?_
      refine ev_tp (y := 12) hk ?_
      refine ev_go 2 (q := 8) (st' := _ :: .int 0 :: _ :: _) (L' := [_, _, _, _, _, _]) rfl ?_
      refine ev_go 1 (q := 9) (st' := .int 13 :: _) rfl ?_
      refine ev_go 2 (q := 11) (st' := .int (_ - 1) :: _ :: _ :: _) (L' := [_, _, _, _, _, _]) rfl ?_
      refine ev_static (z' := z_Desk_within) (q := 14) rfl rfl (by decide) rfl rfl (by simp [Value.category]) rfl (by omega) (k_within _ _ _) ?_
      refine ev_if_eq (t := 28) (q := 17) rfl rfl rfl (fun c => absurd c (by decide)) (fun zc1 => ?_)
      refine ev_go 2 (q := 21) (L' := [_, _, _, _, _, _]) rfl ?_
      refine ev_get (q := 24) rfl (d_cmd hn hq) rfl rfl rfl ?_
      refine ev_tp (y := 12) hk ?_
      refine ev_go 1 (q := 25) (st' := .int 4 :: _) rfl ?_
      refine ev_go 8 (q := 41) (st' := .int 6 :: _ :: _) (L' := [_, _, _, some (.int 4), some (.int 0), some (.int 0)]) rfl ?_
      refine ev_icmp_ge (t := 91) (q := 44) rfl rfl rfl (fun c => absurd c (by decide)) (fun _ => ?_)
      refine ev_go 2 (q := 47) (st' := .int 6 :: _ :: _) (L' := [_, _, _, some (.int 4), some (.int 0), some (.int 0)]) rfl ?_
      refine ev_icmp_ge (t := 91) (q := 50) rfl rfl rfl (fun c => absurd c (by decide)) (fun _ => ?_)
      refine ev_go 1 (q := 52) (L' := [_, _, _, some (.int 4), some (.int 0), some (.int 0)]) rfl ?_
      refine ev_if_ne (t := 91) (q := 55) rfl rfl rfl (fun c => absurd (by decide) c) (fun _ => ?_)
      refine ev_go 2 (q := 57) (L' := [_, _, _, some (.int 4), some (.int 0), some (.int 0)]) rfl ?_
      refine ev_get (q := 60) rfl (d_6 hn) rfl rfl rfl ?_
      refine ev_go 2 (q := 64) (L' := [_, _, _, some (.int 4), some (.int 0), some (.int 0)]) rfl ?_
      refine ev_go 1 (q := 65) (st' := .int 100 :: _) rfl ?_
      refine ev_go 2 (q := 67) (L' := [_, _, _, some (.int 4), some (.int 0), some (.int 0)]) rfl ?_
      rw [il_100]
      refine ev_put (q := 70) rfl (d_6 hn) rfl (Nat.le_of_ble_eq_true rfl) rfl rfl rfl ?_
      refine ev_hp du_6_0 ?_
      refine ev_go 4 (q := 74) (L' := [_, _, _, some (.int 4), some (.int 0), some (.int 0)]) rfl ?_
      refine ev_virt (z' := z_Readiness_failureAt) (q := 77) rfl rfl (by decide) rfl (by simp [Value.category]) rfl (by omega) rfl rfl (d_6 hn) (c_fa4_12 hn hR hC h0 h1 (by omega) hq hk) ?_
      refine ev_tp (y := 0) (if_pos zp0) ?_
      refine ev_go 3 (q := 83) (L' := [_, _, _, some (.int 4), some (.int 0), some (.int 0)]) rfl ?_
      refine ev_go 1 (q := 84) (st' := .int 5 :: _) rfl ?_
      refine ev_go 5 (q := 41) (st' := .int 6 :: _ :: _) (L' := [_, _, _, some (.int 5), some (.int 0), some (.int 1)]) rfl ?_
      refine ev_icmp_ge (t := 91) (q := 44) rfl rfl rfl (fun c => absurd c (by decide)) (fun _ => ?_)
      refine ev_go 2 (q := 47) (st' := .int 6 :: _ :: _) (L' := [_, _, _, some (.int 5), some (.int 0), some (.int 1)]) rfl ?_
      refine ev_icmp_ge (t := 91) (q := 50) rfl rfl rfl (fun c => absurd c (by decide)) (fun _ => ?_)
      refine ev_go 1 (q := 52) (L' := [_, _, _, some (.int 5), some (.int 0), some (.int 1)]) rfl ?_
      refine ev_if_ne (t := 91) (q := 55) rfl rfl rfl (fun c => absurd (by decide) c) (fun _ => ?_)
      refine ev_go 2 (q := 57) (L' := [_, _, _, some (.int 5), some (.int 0), some (.int 1)]) rfl ?_
      refine ev_get (q := 60) rfl (d_6 hn) rfl rfl rfl ?_
      refine ev_go 2 (q := 64) (L' := [_, _, _, some (.int 5), some (.int 0), some (.int 1)]) rfl ?_
      refine ev_go 1 (q := 65) (st' := .int 1 :: _) rfl ?_
      refine ev_go 2 (q := 67) (L' := [_, _, _, some (.int 5), some (.int 0), some (.int 1)]) rfl ?_
      rw [il_1]
      refine ev_put (q := 70) rfl (d_6 hn) rfl (Nat.le_of_ble_eq_true rfl) rfl rfl rfl ?_
      refine ev_hp du_6_0 ?_
      refine ev_go 4 (q := 74) (L' := [_, _, _, some (.int 5), some (.int 0), some (.int 1)]) rfl ?_
      refine ev_virt (z' := z_Readiness_failureAt) (q := 77) rfl rfl (by decide) rfl (by simp [Value.category]) rfl (by omega) rfl rfl (d_6 hn) (c_fa5_12 hn hR hC h0 h1 (by omega) hq hk) ?_
      refine ev_tp (y := 0) (if_pos zp1) ?_
      refine ev_go 3 (q := 83) (L' := [_, _, _, some (.int 5), some (.int 0), some (.int 1)]) rfl ?_
      refine ev_go 1 (q := 84) (st' := .int 6 :: _) rfl ?_
      refine ev_go 5 (q := 41) (st' := .int 6 :: _ :: _) (L' := [_, _, _, some (.int 6), some (.int 0), some (.int 2)]) rfl ?_
      refine ev_icmp_ge (t := 91) (q := 44) rfl rfl rfl (fun c => absurd c (by decide)) (fun _ => ?_)
      refine ev_go 2 (q := 47) (st' := .int 6 :: _ :: _) (L' := [_, _, _, some (.int 6), some (.int 0), some (.int 2)]) rfl ?_
      refine ev_icmp_ge (t := 91) (q := 50) rfl rfl rfl (fun _ => ?_) (fun c => absurd (by decide) c)
      refine ev_go 1 (q := 93) (L' := [_, _, _, some (.int 6), some (.int 0), some (.int 2)]) rfl ?_
      exact ev_iret rfl rfl ((congrArg Prod.fst ze).symm) (congrArg (fun z => dH h τ z B P) (congrArg Prod.snd ze).symm)
    · have ze : rdy R C (sp_sel (B 0) R C) (cv o τ) t 12 = (4, t + 100 + 1) := (if_pos zp0).trans (congrArg (fun z : Int32 => (z, t + 100 + 1)) (if_neg zp1))
      refine ev_go 1 (q := 1) (L' := [_, _, _, _, _, _]) rfl ?_
      refine ev_get (q := 4) rfl (d_cmd hn hq) rfl rfl rfl ?_
      refine ev_tp (y := 12) hk ?_
      refine ev_go 2 (q := 8) (st' := _ :: .int 0 :: _ :: _) (L' := [_, _, _, _, _, _]) rfl ?_
      refine ev_go 1 (q := 9) (st' := .int 13 :: _) rfl ?_
      refine ev_go 2 (q := 11) (st' := .int (_ - 1) :: _ :: _ :: _) (L' := [_, _, _, _, _, _]) rfl ?_
      refine ev_static (z' := z_Desk_within) (q := 14) rfl rfl (by decide) rfl rfl (by simp [Value.category]) rfl (by omega) (k_within _ _ _) ?_
      refine ev_if_eq (t := 28) (q := 17) rfl rfl rfl (fun c => absurd c (by decide)) (fun zc1 => ?_)
      refine ev_go 2 (q := 21) (L' := [_, _, _, _, _, _]) rfl ?_
      refine ev_get (q := 24) rfl (d_cmd hn hq) rfl rfl rfl ?_
      refine ev_tp (y := 12) hk ?_
      refine ev_go 1 (q := 25) (st' := .int 4 :: _) rfl ?_
      refine ev_go 8 (q := 41) (st' := .int 6 :: _ :: _) (L' := [_, _, _, some (.int 4), some (.int 0), some (.int 0)]) rfl ?_
      refine ev_icmp_ge (t := 91) (q := 44) rfl rfl rfl (fun c => absurd c (by decide)) (fun _ => ?_)
      refine ev_go 2 (q := 47) (st' := .int 6 :: _ :: _) (L' := [_, _, _, some (.int 4), some (.int 0), some (.int 0)]) rfl ?_
      refine ev_icmp_ge (t := 91) (q := 50) rfl rfl rfl (fun c => absurd c (by decide)) (fun _ => ?_)
      refine ev_go 1 (q := 52) (L' := [_, _, _, some (.int 4), some (.int 0), some (.int 0)]) rfl ?_
      refine ev_if_ne (t := 91) (q := 55) rfl rfl rfl (fun c => absurd (by decide) c) (fun _ => ?_)
      refine ev_go 2 (q := 57) (L' := [_, _, _, some (.int 4), some (.int 0), some (.int 0)]) rfl ?_
      refine ev_get (q := 60) rfl (d_6 hn) rfl rfl rfl ?_
      refine ev_go 2 (q := 64) (L' := [_, _, _, some (.int 4), some (.int 0), some (.int 0)]) rfl ?_
      refine ev_go 1 (q := 65) (st' := .int 100 :: _) rfl ?_
      refine ev_go 2 (q := 67) (L' := [_, _, _, some (.int 4), some (.int 0), some (.int 0)]) rfl ?_
      rw [il_100]
      refine ev_put (q := 70) rfl (d_6 hn) rfl (Nat.le_of_ble_eq_true rfl) rfl rfl rfl ?_
      refine ev_hp du_6_0 ?_
      refine ev_go 4 (q := 74) (L' := [_, _, _, some (.int 4), some (.int 0), some (.int 0)]) rfl ?_
      refine ev_virt (z' := z_Readiness_failureAt) (q := 77) rfl rfl (by decide) rfl (by simp [Value.category]) rfl (by omega) rfl rfl (d_6 hn) (c_fa4_12 hn hR hC h0 h1 (by omega) hq hk) ?_
      refine ev_tp (y := 0) (if_pos zp0) ?_
      refine ev_go 3 (q := 83) (L' := [_, _, _, some (.int 4), some (.int 0), some (.int 0)]) rfl ?_
      refine ev_go 1 (q := 84) (st' := .int 5 :: _) rfl ?_
      refine ev_go 5 (q := 41) (st' := .int 6 :: _ :: _) (L' := [_, _, _, some (.int 5), some (.int 0), some (.int 1)]) rfl ?_
      refine ev_icmp_ge (t := 91) (q := 44) rfl rfl rfl (fun c => absurd c (by decide)) (fun _ => ?_)
      refine ev_go 2 (q := 47) (st' := .int 6 :: _ :: _) (L' := [_, _, _, some (.int 5), some (.int 0), some (.int 1)]) rfl ?_
      refine ev_icmp_ge (t := 91) (q := 50) rfl rfl rfl (fun c => absurd c (by decide)) (fun _ => ?_)
      refine ev_go 1 (q := 52) (L' := [_, _, _, some (.int 5), some (.int 0), some (.int 1)]) rfl ?_
      refine ev_if_ne (t := 91) (q := 55) rfl rfl rfl (fun c => absurd (by decide) c) (fun _ => ?_)
      refine ev_go 2 (q := 57) (L' := [_, _, _, some (.int 5), some (.int 0), some (.int 1)]) rfl ?_
      refine ev_get (q := 60) rfl (d_6 hn) rfl rfl rfl ?_
      refine ev_go 2 (q := 64) (L' := [_, _, _, some (.int 5), some (.int 0), some (.int 1)]) rfl ?_
      refine ev_go 1 (q := 65) (st' := .int 1 :: _) rfl ?_
      refine ev_go 2 (q := 67) (L' := [_, _, _, some (.int 5), some (.int 0), some (.int 1)]) rfl ?_
      rw [il_1]
      refine ev_put (q := 70) rfl (d_6 hn) rfl (Nat.le_of_ble_eq_true rfl) rfl rfl rfl ?_
      refine ev_hp du_6_0 ?_
      refine ev_go 4 (q := 74) (L' := [_, _, _, some (.int 5), some (.int 0), some (.int 1)]) rfl ?_
      refine ev_virt (z' := z_Readiness_failureAt) (q := 77) rfl rfl (by decide) rfl (by simp [Value.category]) rfl (by omega) rfl rfl (d_6 hn) (c_fa5_12 hn hR hC h0 h1 (by omega) hq hk) ?_
      refine ev_tp (y := 4) (if_neg zp1) ?_
      refine ev_go 3 (q := 83) (L' := [_, _, _, some (.int 5), some (.int 4), some (.int 1)]) rfl ?_
      refine ev_go 1 (q := 84) (st' := .int 6 :: _) rfl ?_
      refine ev_go 5 (q := 41) (st' := .int 6 :: _ :: _) (L' := [_, _, _, some (.int 6), some (.int 4), some (.int 2)]) rfl ?_
      refine ev_icmp_ge (t := 91) (q := 44) rfl rfl rfl (fun c => absurd c (by decide)) (fun _ => ?_)
      refine ev_go 2 (q := 47) (st' := .int 6 :: _ :: _) (L' := [_, _, _, some (.int 6), some (.int 4), some (.int 2)]) rfl ?_
      refine ev_icmp_ge (t := 91) (q := 50) rfl rfl rfl (fun _ => ?_) (fun c => absurd (by decide) c)
      refine ev_go 1 (q := 93) (L' := [_, _, _, some (.int 6), some (.int 4), some (.int 2)]) rfl ?_
      exact ev_iret rfl rfl ((congrArg Prod.fst ze).symm) (congrArg (fun z => dH h τ z B P) (congrArg Prod.snd ze).symm)
  · have ze : rdy R C (sp_sel (B 0) R C) (cv o τ) t 12 = (1, t + 100) := if_neg zp0
    refine ev_go 1 (q := 1) (L' := [_, _, _, _, _, _]) rfl ?_
    refine ev_get (q := 4) rfl (d_cmd hn hq) rfl rfl rfl ?_
    refine ev_tp (y := 12) hk ?_
    refine ev_go 2 (q := 8) (st' := _ :: .int 0 :: _ :: _) (L' := [_, _, _, _, _, _]) rfl ?_
    refine ev_go 1 (q := 9) (st' := .int 13 :: _) rfl ?_
    refine ev_go 2 (q := 11) (st' := .int (_ - 1) :: _ :: _ :: _) (L' := [_, _, _, _, _, _]) rfl ?_
    refine ev_static (z' := z_Desk_within) (q := 14) rfl rfl (by decide) rfl rfl (by simp [Value.category]) rfl (by omega) (k_within _ _ _) ?_
    refine ev_if_eq (t := 28) (q := 17) rfl rfl rfl (fun c => absurd c (by decide)) (fun zc1 => ?_)
    refine ev_go 2 (q := 21) (L' := [_, _, _, _, _, _]) rfl ?_
    refine ev_get (q := 24) rfl (d_cmd hn hq) rfl rfl rfl ?_
    refine ev_tp (y := 12) hk ?_
    refine ev_go 1 (q := 25) (st' := .int 4 :: _) rfl ?_
    refine ev_go 8 (q := 41) (st' := .int 6 :: _ :: _) (L' := [_, _, _, some (.int 4), some (.int 0), some (.int 0)]) rfl ?_
    refine ev_icmp_ge (t := 91) (q := 44) rfl rfl rfl (fun c => absurd c (by decide)) (fun _ => ?_)
    refine ev_go 2 (q := 47) (st' := .int 6 :: _ :: _) (L' := [_, _, _, some (.int 4), some (.int 0), some (.int 0)]) rfl ?_
    refine ev_icmp_ge (t := 91) (q := 50) rfl rfl rfl (fun c => absurd c (by decide)) (fun _ => ?_)
    refine ev_go 1 (q := 52) (L' := [_, _, _, some (.int 4), some (.int 0), some (.int 0)]) rfl ?_
    refine ev_if_ne (t := 91) (q := 55) rfl rfl rfl (fun c => absurd (by decide) c) (fun _ => ?_)
    refine ev_go 2 (q := 57) (L' := [_, _, _, some (.int 4), some (.int 0), some (.int 0)]) rfl ?_
    refine ev_get (q := 60) rfl (d_6 hn) rfl rfl rfl ?_
    refine ev_go 2 (q := 64) (L' := [_, _, _, some (.int 4), some (.int 0), some (.int 0)]) rfl ?_
    refine ev_go 1 (q := 65) (st' := .int 100 :: _) rfl ?_
    refine ev_go 2 (q := 67) (L' := [_, _, _, some (.int 4), some (.int 0), some (.int 0)]) rfl ?_
    rw [il_100]
    refine ev_put (q := 70) rfl (d_6 hn) rfl (Nat.le_of_ble_eq_true rfl) rfl rfl rfl ?_
    refine ev_hp du_6_0 ?_
    refine ev_go 4 (q := 74) (L' := [_, _, _, some (.int 4), some (.int 0), some (.int 0)]) rfl ?_
    refine ev_virt (z' := z_Readiness_failureAt) (q := 77) rfl rfl (by decide) rfl (by simp [Value.category]) rfl (by omega) rfl rfl (d_6 hn) (c_fa4_12 hn hR hC h0 h1 (by omega) hq hk) ?_
    refine ev_tp (y := 1) (if_neg zp0) ?_
    refine ev_go 3 (q := 83) (L' := [_, _, _, some (.int 4), some (.int 1), some (.int 0)]) rfl ?_
    refine ev_go 1 (q := 84) (st' := .int 5 :: _) rfl ?_
    refine ev_go 5 (q := 41) (st' := .int 6 :: _ :: _) (L' := [_, _, _, some (.int 5), some (.int 1), some (.int 1)]) rfl ?_
    refine ev_icmp_ge (t := 91) (q := 44) rfl rfl rfl (fun c => absurd c (by decide)) (fun _ => ?_)
    refine ev_go 2 (q := 47) (st' := .int 6 :: _ :: _) (L' := [_, _, _, some (.int 5), some (.int 1), some (.int 1)]) rfl ?_
    refine ev_icmp_ge (t := 91) (q := 50) rfl rfl rfl (fun c => absurd c (by decide)) (fun _ => ?_)
    refine ev_go 1 (q := 52) (L' := [_, _, _, some (.int 5), some (.int 1), some (.int 1)]) rfl ?_
    refine ev_if_ne (t := 91) (q := 55) rfl rfl rfl (fun _ => ?_) (fun c => absurd c (by decide))
    refine ev_go 1 (q := 93) (L' := [_, _, _, some (.int 5), some (.int 1), some (.int 1)]) rfl ?_
    exact ev_iret rfl rfl ((congrArg Prod.fst ze).symm) (congrArg (fun z => dH h τ z B P) (congrArg Prod.snd ze).symm)
end D3
