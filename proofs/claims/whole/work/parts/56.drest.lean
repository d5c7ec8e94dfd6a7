/-! the class: parts, runs, cloth -/
section F6
variable {d n k : Nat} {h h' H : am_H} {res : Option Value} {τ τ1 τ2 : Nat → Int32} {t t2 : Int64} {B B2 : Nat → Nat → Int32} {P : Nat → Nat → Option Nat} {TH : Nat → Prop} {PA : Nat → Int32} {HC : Nat → Nat} {R C : Nat} {x y : Int32}
theorem k_pinit1 {ah ga : Nat} (hd : 0 < d) : am_m d z_Part_init [.ref h.1, .ref ah, .null, .ref ga] (am_new h n pt_0) none (am_new h n (pt_c (.ref ah) .null (.ref ga))) := by
  refine ev_go 1 (q := 1) rfl ?_
  refine ev_oinit (q := 4) rfl rfl (by omega) (by decide) rfl ?_
  refine ev_go 2 (q := 6) rfl ?_
  refine ev_put (q := 9) rfl (am_is.made (h := h)) rfl (Nat.le_of_ble_eq_true rfl) rfl rfl rfl ?_
  refine ev_go 2 (q := 11) rfl ?_
  refine ev_put (q := 14) rfl (am_is.made (h := h)).self rfl (Nat.le_of_ble_eq_true rfl) rfl rfl rfl ?_
  refine ev_go 2 (q := 16) rfl ?_
  refine ev_put (q := 19) rfl (am_is.made (h := h)).self.self rfl (Nat.le_of_ble_eq_true rfl) rfl rfl rfl ?_
  exact ev_vret rfl rfl (by rw [am_up_up, am_up_up, am_new_up]; rfl)
theorem k_pinit2 {ah : Nat} (hd : 0 < d) : am_m d z_Part_init [.ref h.1, .null, .ref ah, .null] (am_new h n pt_0) none (am_new h n (pt_c .null (.ref ah) .null)) := by
  refine ev_go 1 (q := 1) rfl ?_
  refine ev_oinit (q := 4) rfl rfl (by omega) (by decide) rfl ?_
  refine ev_go 2 (q := 6) rfl ?_
  refine ev_put (q := 9) rfl (am_is.made (h := h)) rfl (Nat.le_of_ble_eq_true rfl) rfl rfl rfl ?_
  refine ev_go 2 (q := 11) rfl ?_
  refine ev_put (q := 14) rfl (am_is.made (h := h)).self rfl (Nat.le_of_ble_eq_true rfl) rfl rfl rfl ?_
  refine ev_go 2 (q := 16) rfl ?_
  refine ev_put (q := 19) rfl (am_is.made (h := h)).self.self rfl (Nat.le_of_ble_eq_true rfl) rfl rfl rfl ?_
  exact ev_vret rfl rfl (by rw [am_up_up, am_up_up, am_new_up]; rfl)
def pj_h (h : am_H) (a b v pc : Nat) (k1 k2 k3 k4 : Int32) (f : Nat → Option Nat) : am_H := am_up (am_up h b (pa_c (va_up f pc (some v)))) a (mc_c k1 k2 k3 k4 (nI (pc + 1)) b)
theorem pj_d {a b v pc : Nat} {k1 k2 k3 k4 : Int32} {f : Nat → Option Nat} (ha : 15 ≤ a) (hb : 15 ≤ b) : am_up (am_up (dH h τ t B P) b (pa_c (va_up f pc (some v)))) a (mc_c k1 k2 k3 k4 (nI (pc + 1)) b) = dH (pj_h h a b v pc k1 k2 k3 k4 f) τ t B P := by
  rw [dH_far hb, dH_far ha]
  rfl
theorem nw_4 {g0 g1 g2 g3 : Int32} (hn : 15 ≤ h.1) : am_up (am_up (am_up (am_up (am_new (dH h τ t B P) 4 (am_ia 4 (fun _ => 0))) h.1 (am_ia 4 (va_up (fun _ => 0) 0 g0))) h.1 (am_ia 4 (va_up (va_up (fun _ => 0) 0 g0) 1 g1))) h.1 (am_ia 4 (va_up (va_up (va_up (fun _ => 0) 0 g0) 1 g1) 2 g2))) h.1 (am_ia 4 (gv4 g0 g1 g2 g3)) = dH (am_new h 4 (am_ia 4 (gv4 g0 g1 g2 g3))) τ t B P := by
  rw [am_up_up, am_up_up, am_up_up, show h.1 = (dH h τ t B P).1 from rfl, am_new_up, dH_new hn]
def gv5 (g0 g1 g2 g3 g4 : Int32) : Nat → Int32 := va_up (va_up (va_up (va_up (va_up (fun _ => 0) 0 g0) 1 g1) 2 g2) 3 g3) 4 g4
theorem nw_5 {g0 g1 g2 g3 g4 : Int32} (hn : 15 ≤ h.1) : am_up (am_up (am_up (am_up (am_up (am_new (dH h τ t B P) 5 (am_ia 5 (fun _ => 0))) h.1 (am_ia 5 (va_up (fun _ => 0) 0 g0))) h.1 (am_ia 5 (va_up (va_up (fun _ => 0) 0 g0) 1 g1))) h.1 (am_ia 5 (va_up (va_up (va_up (fun _ => 0) 0 g0) 1 g1) 2 g2))) h.1 (am_ia 5 (va_up (va_up (va_up (va_up (fun _ => 0) 0 g0) 1 g1) 2 g2) 3 g3))) h.1 (am_ia 5 (gv5 g0 g1 g2 g3 g4)) = dH (am_new h 5 (am_ia 5 (gv5 g0 g1 g2 g3 g4))) τ t B P := by
  rw [am_up_up, am_up_up, am_up_up, am_up_up, show h.1 = (dH h τ t B P).1 from rfl, am_new_up, dH_new hn]
theorem D_p (hn : 15 ≤ h.1) (hd : 5 < d) {q : Nat} (h29 : τ 29 = nI q) (hq : q ≤ 20) (h28 : τ 28 = nI n) (hn40 : n ≤ 40) {a b m pc : Nat} {k1 k2 k3 k4 : Int32} {f : Nat → Option Nat} (hm : m < q) (ea : P 2 m = some a) (ga : 15 ≤ a ∧ 15 ≤ b) (i0 : am_is h a (mc_c k1 k2 k3 k4 (nI pc) b)) (i1 : am_is h b (pa_c f)) (hpc : pc ≤ 8) {hh ah : Nat} (hhn : hh < n) (eh : P 1 hh = some ah) {g0 g1 g2 g3 : Int32} (hf : pc < 8) : am_m d z_Desk_part [.ref 0, .int (nI m), .int (nI hh), .int g0, .int g1, .int g2, .int g3] (dH h τ t B P) (some (.int (nI (pc + 1)))) (dH (pj_h (am_new (am_new h 4 (am_ia 4 (gv4 g0 g1 g2 g3))) 3 (pt_c (.ref ah) .null (.ref h.1))) a b (h.1 + 1) pc k1 k2 k3 k4 f) τ t B P) := by
  have hn1 : 15 ≤ (am_new h 4 (am_ia 4 (gv4 g0 g1 g2 g3))).1 := by show 15 ≤ h.1 + 1; omega
  have hn2 : 15 ≤ (am_new (am_new h 4 (am_ia 4 (gv4 g0 g1 g2 g3))) 3 (pt_c (.ref ah) .null (.ref h.1))).1 := by show 15 ≤ h.1 + 1 + 1; omega
  have pi := k_pinit1 (d := d - 1) (n := 3) (h := dH (am_new h 4 (am_ia 4 (gv4 g0 g1 g2 g3))) τ t B P) (ah := ah) (ga := h.1) (by omega)
  rw [dH_new hn1, dH_new hn1] at pi
  have jn := k_join (d := d - 1) (h := dH (am_new (am_new h 4 (am_ia 4 (gv4 g0 g1 g2 g3))) 3 (pt_c (.ref ah) .null (.ref h.1))) τ t B P) (v := h.1 + 1) (by omega) hf (dH_ge ga.1 i0.new.new) (dH_ge ga.2 i1.new.new) (dH_ge (by omega) (am_is.made (h := (am_new h 4 (am_ia 4 (gv4 g0 g1 g2 g3))))))
  rw [pj_d ga.1 ga.2] at jn
  refine ev_go 2 (q := 2) rfl ?_
  refine ev_virt (z' := z_Desk_macroOf) (q := 5) rfl rfl (by decide) rfl (by simp [Value.category]) rfl (by omega) rfl rfl (d_0 hn) (D_mof hn h29 hq hm ea) ?_
  refine ev_go 3 (q := 9) rfl ?_
  refine ev_virt (z' := z_Desk_handleOf) (q := 12) rfl rfl (by decide) rfl (by simp [Value.category]) rfl (by omega) rfl rfl (d_0 hn) (D_hof hn h28 hn40 hhn eh) ?_
  refine ev_go 2 (q := 16) rfl ?_
  refine ev_go 1 (q := 19) rfl ?_
  refine ev_go 1 (q := 21) rfl ?_
  refine ev_go 1 (q := 26) rfl ?_
  refine ev_go 1 (q := 28) rfl ?_
  refine ev_virt (z' := z_Macro_isFull) (q := 31) rfl rfl (by decide) rfl (by simp [Value.category]) rfl (by omega) rfl rfl (dH_ge ga.1 i0) (k_mfull hpc (dH_ge ga.1 i0) (dH_ge ga.2 i1)) ?_
  refine ev_tp (y := 0) (am_bz (by omega)) ?_
  refine ev_if_eq (t := 37) (q := 34) rfl rfl rfl (fun _ => ?_) (fun c => absurd (by decide) c)
  refine ev_go 1 (q := 38) (st' := .int 4 :: _) rfl ?_
  refine ev_newa (N := 4) (q := 40) rfl rfl (by decide) rfl ?_
  refine ev_go 3 (q := 43) (st' := _ :: .int 0 :: _ :: _ :: _) rfl ?_
  refine ev_iastn (q := 44) rfl (am_is.made (h := dH h τ t B P)) rfl (show 0 < 4 by decide) (by decide) rfl ?_
  refine ev_go 3 (q := 48) (st' := _ :: .int 1 :: _ :: _ :: _) rfl ?_
  refine ev_iastn (q := 49) rfl (am_is.made (h := dH h τ t B P)).self rfl (show 1 < 4 by decide) (by decide) rfl ?_
  refine ev_go 3 (q := 53) (st' := _ :: .int 2 :: _ :: _ :: _) rfl ?_
  refine ev_iastn (q := 54) rfl (am_is.made (h := dH h τ t B P)).self.self rfl (show 2 < 4 by decide) (by decide) rfl ?_
  refine ev_go 3 (q := 58) (st' := _ :: .int 3 :: _ :: _ :: _) rfl ?_
  refine ev_iastn (q := 59) rfl (am_is.made (h := dH h τ t B P)).self.self.self rfl (show 3 < 4 by decide) (by decide) rfl ?_
  refine ev_hp (nw_4 hn) ?_
  refine ev_go 2 (q := 63) rfl ?_
  refine ev_new (q := 66) rfl rfl rfl rfl rfl ?_
  rw [dH_new hn1]
  refine ev_go 4 (q := 72) rfl ?_
  refine ev_init (z' := z_Part_init) (q := 75) rfl rfl (by decide) rfl rfl (by simp [Value.category]) rfl (by omega) pi ?_
  refine ev_virt (z' := z_Macro_join) (q := 78) rfl rfl (by decide) rfl (by simp [Value.category]) rfl (by omega) rfl rfl (dH_ge ga.1 i0.new.new) jn ?_
  exact ev_iret rfl rfl (rfl) (rfl)
theorem D_nB (hn : 15 ≤ h.1) (hd : 5 < d) {q : Nat} (h29 : τ 29 = nI q) (hq : q ≤ 20) (hm : ∀ m, m < q → ∃ a, P 2 m = some a) (hb : ¬ ((0 ≤ x ∧ x < nI q) ∧ (0 ≤ y ∧ y < x))) : am_m d z_Desk_nest [.ref 0, .int x, .int y] (dH h τ t B P) (some (.int (-1))) (dH h τ t B P) := by
  by_cases zx : 0 ≤ x ∧ x < nI q
  · obtain ⟨m, hm1, e1⟩ := nI_lo (by omega) zx
    obtain ⟨a, ea⟩ := hm m hm1
    have M1 := D_mof (d := d - 1) (t := t) (B := B) hn h29 hq hm1 ea
    rw [← e1] at M1
    by_cases zy : 0 ≤ y ∧ y < nI q
    · obtain ⟨m2, hm2, e2⟩ := nI_lo (by omega) zy
      obtain ⟨a2, ea2⟩ := hm m2 hm2
      have M2 := D_mof (d := d - 1) (t := t) (B := B) hn h29 hq hm2 ea2
      rw [← e2] at M2
      refine ev_go 2 (q := 2) rfl ?_
      refine ev_virt (z' := z_Desk_macroOf) (q := 5) rfl rfl (by decide) rfl (by simp [Value.category]) rfl (by omega) rfl rfl (d_0 hn) M1 ?_
      refine ev_go 3 (q := 8) rfl ?_
      refine ev_virt (z' := z_Desk_macroOf) (q := 11) rfl rfl (by decide) rfl (by simp [Value.category]) rfl (by omega) rfl rfl (d_0 hn) M2 ?_
      refine ev_go 2 (q := 14) rfl ?_
      refine ev_go 1 (q := 17) rfl ?_
      refine ev_go 1 (q := 19) rfl ?_
      refine ev_go 1 (q := 22) rfl ?_
      refine ev_go 2 (q := 24) rfl ?_
      refine ev_icmp_lt (t := 29) (q := 27) rfl rfl rfl (fun c => absurd c (fun z => hb ⟨zx, zy.1, z⟩)) (fun zc1 => ?_)
      refine ev_go 1 (q := 28) (st' := .int (-1) :: _) rfl ?_
      exact ev_iret rfl rfl (rfl) (rfl)
    · refine ev_go 2 (q := 2) rfl ?_
      refine ev_virt (z' := z_Desk_macroOf) (q := 5) rfl rfl (by decide) rfl (by simp [Value.category]) rfl (by omega) rfl rfl (d_0 hn) M1 ?_
      refine ev_go 3 (q := 8) rfl ?_
      refine ev_virt (z' := z_Desk_macroOf) (q := 11) rfl rfl (by decide) rfl (by simp [Value.category]) rfl (by omega) rfl rfl (d_0 hn) (D_mofN hn h29 hq zy) ?_
      refine ev_go 2 (q := 14) rfl ?_
      refine ev_go 1 (q := 17) rfl ?_
      refine ev_go 1 (q := 19) rfl ?_
      refine ev_go 1 (q := 27) rfl ?_
      refine ev_go 1 (q := 28) (st' := .int (-1) :: _) rfl ?_
      exact ev_iret rfl rfl (rfl) (rfl)
  · by_cases zy : 0 ≤ y ∧ y < nI q
    · obtain ⟨m2, hm2, e2⟩ := nI_lo (by omega) zy
      obtain ⟨a2, ea2⟩ := hm m2 hm2
      have M2 := D_mof (d := d - 1) (t := t) (B := B) hn h29 hq hm2 ea2
      rw [← e2] at M2
      refine ev_go 2 (q := 2) rfl ?_
      refine ev_virt (z' := z_Desk_macroOf) (q := 5) rfl rfl (by decide) rfl (by simp [Value.category]) rfl (by omega) rfl rfl (d_0 hn) (D_mofN hn h29 hq zx) ?_
      refine ev_go 3 (q := 8) rfl ?_
      refine ev_virt (z' := z_Desk_macroOf) (q := 11) rfl rfl (by decide) rfl (by simp [Value.category]) rfl (by omega) rfl rfl (d_0 hn) M2 ?_
      refine ev_go 2 (q := 14) rfl ?_
      refine ev_go 1 (q := 27) rfl ?_
      refine ev_go 1 (q := 28) (st' := .int (-1) :: _) rfl ?_
      exact ev_iret rfl rfl (rfl) (rfl)
    · refine ev_go 2 (q := 2) rfl ?_
      refine ev_virt (z' := z_Desk_macroOf) (q := 5) rfl rfl (by decide) rfl (by simp [Value.category]) rfl (by omega) rfl rfl (d_0 hn) (D_mofN hn h29 hq zx) ?_
      refine ev_go 3 (q := 8) rfl ?_
      refine ev_virt (z' := z_Desk_macroOf) (q := 11) rfl rfl (by decide) rfl (by simp [Value.category]) rfl (by omega) rfl rfl (d_0 hn) (D_mofN hn h29 hq zy) ?_
      refine ev_go 2 (q := 14) rfl ?_
      refine ev_go 1 (q := 27) rfl ?_
      refine ev_go 1 (q := 28) (st' := .int (-1) :: _) rfl ?_
      exact ev_iret rfl rfl (rfl) (rfl)
theorem D_nF (hn : 15 ≤ h.1) (hd : 5 < d) {q : Nat} (h29 : τ 29 = nI q) (hq : q ≤ 20) {a b m pc : Nat} {k1 k2 k3 k4 : Int32} {f : Nat → Option Nat} (hm : m < q) (ea : P 2 m = some a) (ga : 15 ≤ a ∧ 15 ≤ b) (i0 : am_is h a (mc_c k1 k2 k3 k4 (nI pc) b)) (i1 : am_is h b (pa_c f)) (hpc : pc ≤ 8) {m2 ao : Nat} (hm2 : m2 < m) (eo : P 2 m2 = some ao) (hf : pc = 8) : am_m d z_Desk_nest [.ref 0, .int (nI m), .int (nI m2)] (dH h τ t B P) (some (.int (-3))) (dH h τ t B P) := by
  refine ev_go 2 (q := 2) rfl ?_
  refine ev_virt (z' := z_Desk_macroOf) (q := 5) rfl rfl (by decide) rfl (by simp [Value.category]) rfl (by omega) rfl rfl (d_0 hn) (D_mof hn h29 hq hm ea) ?_
  refine ev_go 3 (q := 8) rfl ?_
  refine ev_virt (z' := z_Desk_macroOf) (q := 11) rfl rfl (by decide) rfl (by simp [Value.category]) rfl (by omega) rfl rfl (d_0 hn) (D_mof hn h29 hq (by omega) eo) ?_
  refine ev_go 2 (q := 14) rfl ?_
  refine ev_go 1 (q := 17) rfl ?_
  refine ev_go 1 (q := 19) rfl ?_
  refine ev_go 1 (q := 22) rfl ?_
  refine ev_go 2 (q := 24) rfl ?_
  refine ev_icmp_lt (t := 29) (q := 27) rfl rfl rfl (fun zc1 => ?_) (fun c => absurd (nI_lt hm2 (by omega)) c)
  refine ev_go 1 (q := 30) rfl ?_
  refine ev_virt (z' := z_Macro_isFull) (q := 33) rfl rfl (by decide) rfl (by simp [Value.category]) rfl (by omega) rfl rfl (dH_ge ga.1 i0) (k_mfull hpc (dH_ge ga.1 i0) (dH_ge ga.2 i1)) ?_
  refine ev_tp (y := 1) (am_b1 hf) ?_
  refine ev_if_eq (t := 39) (q := 36) rfl rfl rfl (fun c => absurd c (by decide)) (fun _ => ?_)
  refine ev_go 1 (q := 38) (st' := .int (-3) :: _) rfl ?_
  exact ev_iret rfl rfl (rfl) (rfl)
theorem D_n (hn : 15 ≤ h.1) (hd : 5 < d) {q : Nat} (h29 : τ 29 = nI q) (hq : q ≤ 20) {a b m pc : Nat} {k1 k2 k3 k4 : Int32} {f : Nat → Option Nat} (hm : m < q) (ea : P 2 m = some a) (ga : 15 ≤ a ∧ 15 ≤ b) (i0 : am_is h a (mc_c k1 k2 k3 k4 (nI pc) b)) (i1 : am_is h b (pa_c f)) (hpc : pc ≤ 8) {m2 ao : Nat} (hm2 : m2 < m) (eo : P 2 m2 = some ao) (hf : pc < 8) : am_m d z_Desk_nest [.ref 0, .int (nI m), .int (nI m2)] (dH h τ t B P) (some (.int (nI (pc + 1)))) (dH (pj_h (am_new h 3 (pt_c .null (.ref ao) .null)) a b h.1 pc k1 k2 k3 k4 f) τ t B P) := by
  have hn1 : 15 ≤ (am_new h 3 (pt_c .null (.ref ao) .null)).1 := by show 15 ≤ h.1 + 1; omega
  have pi := k_pinit2 (d := d - 1) (n := 3) (h := dH h τ t B P) (ah := ao) (by omega)
  rw [dH_new hn, dH_new hn] at pi
  have jn := k_join (d := d - 1) (h := dH (am_new h 3 (pt_c .null (.ref ao) .null)) τ t B P) (v := h.1) (by omega) hf (dH_ge ga.1 i0.new) (dH_ge ga.2 i1.new) (dH_ge hn (am_is.made (h := h)))
  rw [pj_d ga.1 ga.2] at jn
  refine ev_go 2 (q := 2) rfl ?_
  refine ev_virt (z' := z_Desk_macroOf) (q := 5) rfl rfl (by decide) rfl (by simp [Value.category]) rfl (by omega) rfl rfl (d_0 hn) (D_mof hn h29 hq hm ea) ?_
  refine ev_go 3 (q := 8) rfl ?_
  refine ev_virt (z' := z_Desk_macroOf) (q := 11) rfl rfl (by decide) rfl (by simp [Value.category]) rfl (by omega) rfl rfl (d_0 hn) (D_mof hn h29 hq (by omega) eo) ?_
  refine ev_go 2 (q := 14) rfl ?_
  refine ev_go 1 (q := 17) rfl ?_
  refine ev_go 1 (q := 19) rfl ?_
  refine ev_go 1 (q := 22) rfl ?_
  refine ev_go 2 (q := 24) rfl ?_
  refine ev_icmp_lt (t := 29) (q := 27) rfl rfl rfl (fun zc1 => ?_) (fun c => absurd (nI_lt hm2 (by omega)) c)
  refine ev_go 1 (q := 30) rfl ?_
  refine ev_virt (z' := z_Macro_isFull) (q := 33) rfl rfl (by decide) rfl (by simp [Value.category]) rfl (by omega) rfl rfl (dH_ge ga.1 i0) (k_mfull hpc (dH_ge ga.1 i0) (dH_ge ga.2 i1)) ?_
  refine ev_tp (y := 0) (am_bz (by omega)) ?_
  refine ev_if_eq (t := 39) (q := 36) rfl rfl rfl (fun _ => ?_) (fun c => absurd (by decide) c)
  refine ev_go 1 (q := 40) rfl ?_
  refine ev_new (q := 43) rfl rfl rfl rfl rfl ?_
  rw [dH_new hn]
  refine ev_go 4 (q := 48) rfl ?_
  refine ev_init (z' := z_Part_init) (q := 51) rfl rfl (by decide) rfl rfl (by simp [Value.category]) rfl (by omega) pi ?_
  refine ev_virt (z' := z_Macro_join) (q := 54) rfl rfl (by decide) rfl (by simp [Value.category]) rfl (by omega) rfl rfl (dH_ge ga.1 i0.new) jn ?_
  exact ev_iret rfl rfl (rfl) (rfl)
abbrev bg_τ (τ : Nat → Int32) : Nat → Int32 := va_up (va_up (va_up (va_up (va_up (va_up τ 6 0) 7 0) 8 0) 9 (-9)) 10 0) 11 0
theorem D_plB (hn : 15 ≤ h.1) (hd : 5 < d) {q : Nat} (h29 : τ 29 = nI q) (hq : q ≤ 20) (hx : ¬ (0 ≤ x ∧ x < nI q)) : am_m d z_Desk_play [.ref 0, .int x] (dH h τ t B P) (some (.int (-1))) (dH h τ t B P) := by
  refine ev_go 2 (q := 2) rfl ?_
  refine ev_virt (z' := z_Desk_macroOf) (q := 5) rfl rfl (by decide) rfl (by simp [Value.category]) rfl (by omega) rfl rfl (d_0 hn) (D_mofN hn h29 hq hx) ?_
  refine ev_go 2 (q := 7) rfl ?_
  refine ev_go 1 (q := 10) rfl ?_
  refine ev_go 1 (q := 11) (st' := .int (-1) :: _) rfl ?_
  exact ev_iret rfl rfl (rfl) (rfl)
theorem D_plF (hn : 15 ≤ h.1) (hd : 5 < d) {q : Nat} (h29 : τ 29 = nI q) (hq : q ≤ 20) {m a : Nat} (hm : m < q) (ea : P 2 m = some a) (h5 : τ 5 = nI 60) : am_m d z_Desk_play [.ref 0, .int (nI m)] (dH h τ t B P) (some (.int (-3))) (dH h τ t B P) := by
  refine ev_go 2 (q := 2) rfl ?_
  refine ev_virt (z' := z_Desk_macroOf) (q := 5) rfl rfl (by decide) rfl (by simp [Value.category]) rfl (by omega) rfl rfl (d_0 hn) (D_mof hn h29 hq hm ea) ?_
  refine ev_go 2 (q := 7) rfl ?_
  refine ev_go 1 (q := 12) rfl ?_
  refine ev_go 1 (q := 13) rfl ?_
  refine ev_get (q := 16) rfl (d_0 hn) rfl rfl rfl ?_
  refine ev_virt (z' := z_Tree_isFull) (q := 19) rfl rfl (by decide) rfl (by simp [Value.category]) rfl (by omega) rfl rfl (d_3 hn) (c_isFull hn h5 (by omega)) ?_
  refine ev_tp (y := 1) (am_b1 rfl) ?_
  refine ev_if_eq (t := 25) (q := 22) rfl rfl rfl (fun c => absurd c (by decide)) (fun _ => ?_)
  refine ev_go 1 (q := 24) (st' := .int (-3) :: _) rfl ?_
  exact ev_iret rfl rfl (rfl) (rfl)
theorem D_pl (hn : 15 ≤ h.1) (hd : 5 < d) {q : Nat} (h29 : τ 29 = nI q) (hq : q ≤ 20) {m a ev : Nat} (hm : m < q) (ea : P 2 m = some a) (h5 : τ 5 = nI ev) (hev : ev < 60) (hp : am_m (d - 1) z_Runner_callMacro [.ref 5, .ref a, .int 1] (dH h (bg_τ τ) t B P) none (dH h τ2 t2 B2 P)) (hs : am_m (d - 1) z_Desk_settle [.ref 0] (dH h τ2 t2 B2 P) (some (.int y)) H) : am_m d z_Desk_play [.ref 0, .int (nI m)] (dH h τ t B P) (some (.int y)) H := by
  refine ev_go 2 (q := 2) rfl ?_
  refine ev_virt (z' := z_Desk_macroOf) (q := 5) rfl rfl (by decide) rfl (by simp [Value.category]) rfl (by omega) rfl rfl (d_0 hn) (D_mof hn h29 hq hm ea) ?_
  refine ev_go 2 (q := 7) rfl ?_
  refine ev_go 1 (q := 12) rfl ?_
  refine ev_go 1 (q := 13) rfl ?_
  refine ev_get (q := 16) rfl (d_0 hn) rfl rfl rfl ?_
  refine ev_virt (z' := z_Tree_isFull) (q := 19) rfl rfl (by decide) rfl (by simp [Value.category]) rfl (by omega) rfl rfl (d_3 hn) (c_isFull hn h5 (by omega)) ?_
  refine ev_tp (y := 0) (am_bz (by omega)) ?_
  refine ev_if_eq (t := 25) (q := 22) rfl rfl rfl (fun _ => ?_) (fun c => absurd (by decide) c)
  refine ev_go 1 (q := 26) rfl ?_
  refine ev_get (q := 29) rfl (d_0 hn) rfl rfl rfl ?_
  refine ev_virt (z' := z_Runner_begin) (q := 32) rfl rfl (by decide) rfl (by simp [Value.category]) rfl (by omega) rfl rfl (d_5 hn) (c_begin hn) ?_
  refine ev_go 1 (q := 33) rfl ?_
  refine ev_get (q := 36) rfl (d_0 hn) rfl rfl rfl ?_
  refine ev_go 2 (q := 38) (st' := .int 1 :: _ :: _ :: _) rfl ?_
  refine ev_virt (z' := z_Runner_callMacro) (q := 41) rfl rfl (by decide) rfl (by simp [Value.category]) rfl (by omega) rfl rfl (d_5 hn) hp ?_
  refine ev_go 1 (q := 42) rfl ?_
  refine ev_virt (z' := z_Desk_settle) (q := 45) rfl rfl (by decide) rfl (by simp [Value.category]) rfl (by omega) rfl rfl (d_0 hn) hs ?_
  exact ev_iret rfl rfl (rfl) (rfl)
theorem D_rB (hn : 15 ≤ h.1) (hd : 5 < d) {g0 g1 g2 g3 g4 : Int32} (hb : ¬ (0 ≤ x ∧ x ≤ 12)) : am_m d z_Desk_run [.ref 0, .int x, .int g0, .int g1, .int g2, .int g3, .int g4] (dH h τ t B P) (some (.int (-1))) (dH h τ t B P) := by
  refine ev_go 3 (q := 4) (st' := .int 12 :: .int 0 :: _ :: _) rfl ?_
  refine ev_static (z' := z_Desk_within) (q := 7) rfl rfl (by decide) rfl rfl (by simp [Value.category]) rfl (by omega) (k_within _ _ _) ?_
  refine ev_tp (y := 0) (am_bz hb) ?_
  refine ev_if_ne (t := 12) (q := 10) rfl rfl rfl (fun c => absurd (by decide) c) (fun _ => ?_)
  refine ev_go 1 (q := 11) (st' := .int (-1) :: _) rfl ?_
  exact ev_iret rfl rfl (rfl) (rfl)
theorem D_rF (hn : 15 ≤ h.1) (hd : 5 < d) {g0 g1 g2 g3 g4 : Int32} (hb : 0 ≤ x ∧ x ≤ 12) (h5 : τ 5 = nI 60) : am_m d z_Desk_run [.ref 0, .int x, .int g0, .int g1, .int g2, .int g3, .int g4] (dH h τ t B P) (some (.int (-3))) (dH h τ t B P) := by
  refine ev_go 3 (q := 4) (st' := .int 12 :: .int 0 :: _ :: _) rfl ?_
  refine ev_static (z' := z_Desk_within) (q := 7) rfl rfl (by decide) rfl rfl (by simp [Value.category]) rfl (by omega) (k_within _ _ _) ?_
  refine ev_tp (y := 1) (am_b1 hb) ?_
  refine ev_if_ne (t := 12) (q := 10) rfl rfl rfl (fun _ => ?_) (fun c => absurd c (by decide))
  refine ev_go 1 (q := 13) rfl ?_
  refine ev_get (q := 16) rfl (d_0 hn) rfl rfl rfl ?_
  refine ev_virt (z' := z_Tree_isFull) (q := 19) rfl rfl (by decide) rfl (by simp [Value.category]) rfl (by omega) rfl rfl (d_3 hn) (c_isFull hn h5 (by omega)) ?_
  refine ev_tp (y := 1) (am_b1 rfl) ?_
  refine ev_if_eq (t := 25) (q := 22) rfl rfl rfl (fun c => absurd c (by decide)) (fun _ => ?_)
  refine ev_go 1 (q := 24) (st' := .int (-3) :: _) rfl ?_
  exact ev_iret rfl rfl (rfl) (rfl)
theorem D_r (hn : 15 ≤ h.1) (hd : 5 < d) {g0 g1 g2 g3 g4 : Int32} (hb : 0 ≤ x ∧ x ≤ 12) {ev : Nat} (h5 : τ 5 = nI ev) (hev : ev < 60) (hp : am_m (d - 1) z_Runner_perform [.ref 5, .ref 12, .int 0] (dH (am_new h 5 (am_ia 5 (gv5 g0 g1 g2 g3 g4))) (bg_τ (cf_τ 22 x (gv5 g0 g1 g2 g3 g4) τ)) t B P) none (dH (am_new h 5 (am_ia 5 (gv5 g0 g1 g2 g3 g4))) τ2 t2 B2 P)) (hs : am_m (d - 1) z_Desk_settle [.ref 0] (dH (am_new h 5 (am_ia 5 (gv5 g0 g1 g2 g3 g4))) τ2 t2 B2 P) (some (.int y)) H) : am_m d z_Desk_run [.ref 0, .int x, .int g0, .int g1, .int g2, .int g3, .int g4] (dH h τ t B P) (some (.int y)) H := by
  have hn1 : 15 ≤ (am_new h 5 (am_ia 5 (gv5 g0 g1 g2 g3 g4))).1 := by show 15 ≤ h.1 + 1; omega
  refine ev_go 3 (q := 4) (st' := .int 12 :: .int 0 :: _ :: _) rfl ?_
  refine ev_static (z' := z_Desk_within) (q := 7) rfl rfl (by decide) rfl rfl (by simp [Value.category]) rfl (by omega) (k_within _ _ _) ?_
  refine ev_tp (y := 1) (am_b1 hb) ?_
  refine ev_if_ne (t := 12) (q := 10) rfl rfl rfl (fun _ => ?_) (fun c => absurd c (by decide))
  refine ev_go 1 (q := 13) rfl ?_
  refine ev_get (q := 16) rfl (d_0 hn) rfl rfl rfl ?_
  refine ev_virt (z' := z_Tree_isFull) (q := 19) rfl rfl (by decide) rfl (by simp [Value.category]) rfl (by omega) rfl rfl (d_3 hn) (c_isFull hn h5 (by omega)) ?_
  refine ev_tp (y := 0) (am_bz (by omega)) ?_
  refine ev_if_eq (t := 25) (q := 22) rfl rfl rfl (fun _ => ?_) (fun c => absurd (by decide) c)
  refine ev_go 1 (q := 26) (st' := .int 5 :: _) rfl ?_
  refine ev_newa (N := 5) (q := 28) rfl rfl (by decide) rfl ?_
  refine ev_go 3 (q := 31) (st' := _ :: .int 0 :: _ :: _ :: _) rfl ?_
  refine ev_iastn (q := 32) rfl (am_is.made (h := dH h τ t B P)) rfl (show 0 < 5 by decide) (by decide) rfl ?_
  refine ev_go 3 (q := 35) (st' := _ :: .int 1 :: _ :: _ :: _) rfl ?_
  refine ev_iastn (q := 36) rfl (am_is.made (h := dH h τ t B P)).self rfl (show 1 < 5 by decide) (by decide) rfl ?_
  refine ev_go 3 (q := 40) (st' := _ :: .int 2 :: _ :: _ :: _) rfl ?_
  refine ev_iastn (q := 41) rfl (am_is.made (h := dH h τ t B P)).self.self rfl (show 2 < 5 by decide) (by decide) rfl ?_
  refine ev_go 3 (q := 45) (st' := _ :: .int 3 :: _ :: _ :: _) rfl ?_
  refine ev_iastn (q := 46) rfl (am_is.made (h := dH h τ t B P)).self.self.self rfl (show 3 < 5 by decide) (by decide) rfl ?_
  refine ev_go 3 (q := 50) (st' := _ :: .int 4 :: _ :: _ :: _) rfl ?_
  refine ev_iastn (q := 51) rfl (am_is.made (h := dH h τ t B P)).self.self.self.self rfl (show 4 < 5 by decide) (by decide) rfl ?_
  refine ev_hp (nw_5 hn) ?_
  refine ev_go 2 (q := 54) rfl ?_
  refine ev_get (q := 57) rfl (d_0 hn1) rfl rfl rfl ?_
  refine ev_go 2 (q := 60) rfl ?_
  refine ev_virt (z' := z_Command_fillIn) (q := 63) rfl rfl (by decide) rfl (by simp [Value.category]) rfl (by omega) rfl rfl (d_12 hn1) (c_fillIn hn1 (by omega) (Or.inr ⟨rfl, rfl⟩) hn (am_is.made (h := h))) ?_
  refine ev_go 1 (q := 64) rfl ?_
  refine ev_get (q := 67) rfl (d_0 hn1) rfl rfl rfl ?_
  refine ev_virt (z' := z_Runner_begin) (q := 70) rfl rfl (by decide) rfl (by simp [Value.category]) rfl (by omega) rfl rfl (d_5 hn1) (c_begin hn1) ?_
  refine ev_go 1 (q := 71) rfl ?_
  refine ev_get (q := 74) rfl (d_0 hn1) rfl rfl rfl ?_
  refine ev_go 1 (q := 75) rfl ?_
  refine ev_get (q := 78) rfl (d_0 hn1) rfl rfl rfl ?_
  refine ev_go 1 (q := 79) (st' := .int 0 :: _ :: _ :: _) rfl ?_
  refine ev_virt (z' := z_Runner_perform) (q := 82) rfl rfl (by decide) rfl (by simp [Value.category]) rfl (by omega) rfl rfl (d_5 hn1) hp ?_
  refine ev_go 1 (q := 83) rfl ?_
  refine ev_virt (z' := z_Desk_settle) (q := 86) rfl rfl (by decide) rfl (by simp [Value.category]) rfl (by omega) rfl rfl (d_0 hn1) hs ?_
  exact ev_iret rfl rfl (rfl) (rfl)
theorem D_cB (hn : 15 ≤ h.1) (hd : 5 < d) (h28 : τ 28 = nI n) (hn40 : n ≤ 40) {g0 g1 g2 g3 g4 : Int32} (hx : ¬ (0 ≤ x ∧ x < nI n)) : am_m d z_Desk_call [.ref 0, .int x, .int g0, .int g1, .int g2, .int g3, .int g4] (dH h τ t B P) (some (.int (-1))) (dH h τ t B P) := by
  refine ev_go 2 (q := 2) rfl ?_
  refine ev_virt (z' := z_Desk_handleOf) (q := 5) rfl rfl (by decide) rfl (by simp [Value.category]) rfl (by omega) rfl rfl (d_0 hn) (D_hofN hn h28 hn40 hx) ?_
  refine ev_go 2 (q := 9) rfl ?_
  refine ev_go 1 (q := 12) rfl ?_
  refine ev_go 1 (q := 13) (st' := .int (-1) :: _) rfl ?_
  exact ev_iret rfl rfl (rfl) (rfl)
theorem D_cF (hn : 15 ≤ h.1) (hd : 5 < d) (h28 : τ 28 = nI n) (hn40 : n ≤ 40) {g0 g1 g2 g3 g4 : Int32} {m a : Nat} (hm : m < n) (ea : P 1 m = some a) (h5 : τ 5 = nI 60) : am_m d z_Desk_call [.ref 0, .int (nI m), .int g0, .int g1, .int g2, .int g3, .int g4] (dH h τ t B P) (some (.int (-3))) (dH h τ t B P) := by
  refine ev_go 2 (q := 2) rfl ?_
  refine ev_virt (z' := z_Desk_handleOf) (q := 5) rfl rfl (by decide) rfl (by simp [Value.category]) rfl (by omega) rfl rfl (d_0 hn) (D_hof hn h28 hn40 hm ea) ?_
  refine ev_go 2 (q := 9) rfl ?_
  refine ev_go 1 (q := 14) rfl ?_
  refine ev_go 1 (q := 15) rfl ?_
  refine ev_get (q := 18) rfl (d_0 hn) rfl rfl rfl ?_
  refine ev_virt (z' := z_Tree_isFull) (q := 21) rfl rfl (by decide) rfl (by simp [Value.category]) rfl (by omega) rfl rfl (d_3 hn) (c_isFull hn h5 (by omega)) ?_
  refine ev_tp (y := 1) (am_b1 rfl) ?_
  refine ev_if_eq (t := 27) (q := 24) rfl rfl rfl (fun c => absurd c (by decide)) (fun _ => ?_)
  refine ev_go 1 (q := 26) (st' := .int (-3) :: _) rfl ?_
  exact ev_iret rfl rfl (rfl) (rfl)
theorem D_c (hn : 15 ≤ h.1) (hd : 5 < d) (h28 : τ 28 = nI n) (hn40 : n ≤ 40) {g0 g1 g2 g3 g4 : Int32} {m a ev : Nat} {v : List Value} (hm : m < n) (ea : P 1 m = some a) (ga : 15 ≤ a) (ia : am_is h a (.inr (2, v))) (h5 : τ 5 = nI ev) (hev : ev < 60) (hf : am_m (d - 1) z_Handle_fillIn [.ref a, .ref 12, .ref h.1] (dH (am_new h 5 (am_ia 5 (gv5 g0 g1 g2 g3 g4))) τ t B P) none (dH (am_new h 5 (am_ia 5 (gv5 g0 g1 g2 g3 g4))) τ1 t B P)) (hp : am_m (d - 1) z_Runner_perform [.ref 5, .ref 12, .int 0] (dH (am_new h 5 (am_ia 5 (gv5 g0 g1 g2 g3 g4))) (bg_τ τ1) t B P) none (dH (am_new h 5 (am_ia 5 (gv5 g0 g1 g2 g3 g4))) τ2 t2 B2 P)) (hs : am_m (d - 1) z_Desk_settle [.ref 0] (dH (am_new h 5 (am_ia 5 (gv5 g0 g1 g2 g3 g4))) τ2 t2 B2 P) (some (.int y)) H) : am_m d z_Desk_call [.ref 0, .int (nI m), .int g0, .int g1, .int g2, .int g3, .int g4] (dH h τ t B P) (some (.int y)) H := by
  have hn1 : 15 ≤ (am_new h 5 (am_ia 5 (gv5 g0 g1 g2 g3 g4))).1 := by show 15 ≤ h.1 + 1; omega
  refine ev_go 2 (q := 2) rfl ?_
  refine ev_virt (z' := z_Desk_handleOf) (q := 5) rfl rfl (by decide) rfl (by simp [Value.category]) rfl (by omega) rfl rfl (d_0 hn) (D_hof hn h28 hn40 hm ea) ?_
  refine ev_go 2 (q := 9) rfl ?_
  refine ev_go 1 (q := 14) rfl ?_
  refine ev_go 1 (q := 15) rfl ?_
  refine ev_get (q := 18) rfl (d_0 hn) rfl rfl rfl ?_
  refine ev_virt (z' := z_Tree_isFull) (q := 21) rfl rfl (by decide) rfl (by simp [Value.category]) rfl (by omega) rfl rfl (d_3 hn) (c_isFull hn h5 (by omega)) ?_
  refine ev_tp (y := 0) (am_bz (by omega)) ?_
  refine ev_if_eq (t := 27) (q := 24) rfl rfl rfl (fun _ => ?_) (fun c => absurd (by decide) c)
  refine ev_go 1 (q := 28) (st' := .int 5 :: _) rfl ?_
  refine ev_newa (N := 5) (q := 30) rfl rfl (by decide) rfl ?_
  refine ev_go 3 (q := 33) (st' := _ :: .int 0 :: _ :: _ :: _) rfl ?_
  refine ev_iastn (q := 34) rfl (am_is.made (h := dH h τ t B P)) rfl (show 0 < 5 by decide) (by decide) rfl ?_
  refine ev_go 3 (q := 37) (st' := _ :: .int 1 :: _ :: _ :: _) rfl ?_
  refine ev_iastn (q := 38) rfl (am_is.made (h := dH h τ t B P)).self rfl (show 1 < 5 by decide) (by decide) rfl ?_
  refine ev_go 3 (q := 42) (st' := _ :: .int 2 :: _ :: _ :: _) rfl ?_
  refine ev_iastn (q := 43) rfl (am_is.made (h := dH h τ t B P)).self.self rfl (show 2 < 5 by decide) (by decide) rfl ?_
  refine ev_go 3 (q := 47) (st' := _ :: .int 3 :: _ :: _ :: _) rfl ?_
  refine ev_iastn (q := 48) rfl (am_is.made (h := dH h τ t B P)).self.self.self rfl (show 3 < 5 by decide) (by decide) rfl ?_
  refine ev_go 3 (q := 52) (st' := _ :: .int 4 :: _ :: _ :: _) rfl ?_
  refine ev_iastn (q := 53) rfl (am_is.made (h := dH h τ t B P)).self.self.self.self rfl (show 4 < 5 by decide) (by decide) rfl ?_
  refine ev_hp (nw_5 hn) ?_
  refine ev_go 3 (q := 58) rfl ?_
  refine ev_get (q := 61) rfl (d_0 hn1) rfl rfl rfl ?_
  refine ev_go 1 (q := 63) rfl ?_
  refine ev_virt (z' := z_Handle_fillIn) (q := 66) rfl rfl (by decide) rfl (by simp [Value.category]) rfl (by omega) rfl rfl (dH_ge ga ia.new) hf ?_
  refine ev_go 1 (q := 67) rfl ?_
  refine ev_get (q := 70) rfl (d_0 hn1) rfl rfl rfl ?_
  refine ev_virt (z' := z_Runner_begin) (q := 73) rfl rfl (by decide) rfl (by simp [Value.category]) rfl (by omega) rfl rfl (d_5 hn1) (c_begin hn1) ?_
  refine ev_go 1 (q := 74) rfl ?_
  refine ev_get (q := 77) rfl (d_0 hn1) rfl rfl rfl ?_
  refine ev_go 1 (q := 78) rfl ?_
  refine ev_get (q := 81) rfl (d_0 hn1) rfl rfl rfl ?_
  refine ev_go 1 (q := 82) (st' := .int 0 :: _ :: _ :: _) rfl ?_
  refine ev_virt (z' := z_Runner_perform) (q := 85) rfl rfl (by decide) rfl (by simp [Value.category]) rfl (by omega) rfl rfl (d_5 hn1) hp ?_
  refine ev_go 1 (q := 86) rfl ?_
  refine ev_virt (z' := z_Desk_settle) (q := 89) rfl rfl (by decide) rfl (by simp [Value.category]) rfl (by omega) rfl rfl (d_0 hn1) hs ?_
  exact ev_iret rfl rfl (rfl) (rfl)
theorem D_clB (hn : 15 ≤ h.1) (hd : 5 < d) (hb : ¬ ((1 ≤ x ∧ x ≤ 10) ∧ (1 ≤ y ∧ y ≤ 10))) : am_m d z_Desk_cloth [.ref 0, .int x, .int y] (dH h τ t B P) (some (.int (-1))) (dH h τ t B P) := by
  refine ev_go 3 (q := 4) (st' := .int 10 :: .int 1 :: _ :: _) rfl ?_
  refine ev_static (z' := z_Desk_within) (q := 7) rfl rfl (by decide) rfl rfl (by simp [Value.category]) rfl (by omega) (k_within _ _ _) ?_
  refine ev_if_eq (t := 20) (q := 10) rfl rfl rfl (fun zc1 => ?_) (fun zc1 => ?_)
  · refine ev_go 1 (q := 21) (st' := .int (-1) :: _) rfl ?_
    exact ev_iret rfl rfl (rfl) (rfl)
  · refine ev_go 3 (q := 14) (st' := .int 10 :: .int 1 :: _ :: _) rfl ?_
    refine ev_static (z' := z_Desk_within) (q := 17) rfl rfl (by decide) rfl rfl (by simp [Value.category]) rfl (by omega) (k_within _ _ _) ?_
    refine ev_if_ne (t := 22) (q := 20) rfl rfl rfl (fun zc2 => ?_) (fun zc2 => ?_)
    · exact absurd ⟨am_bn.mp zc1, am_bn.mp zc2⟩ hb
    · refine ev_go 1 (q := 21) (st' := .int (-1) :: _) rfl ?_
      exact ev_iret rfl rfl (rfl) (rfl)
theorem c_weave (hn : 15 ≤ h.1) : am_m d z_Cloth_weave [.ref 1, .int x, .int y] (dH h τ t B P) none (dH h (mv_τ x y 0 7 τ) t (va_up B 0 (sp_newp (B 0) 400)) P) := by
  rw [← du_2, ← du_1]
  exact k_weave (d_1 hn) (d_2 hn) (by omega)
theorem D_cl (hn : 15 ≤ h.1) (hd : 5 < d) (hb : (1 ≤ x ∧ x ≤ 10) ∧ (1 ≤ y ∧ y ≤ 10)) (hp : am_m (d - 1) z_Tree_plant [.ref 3, .ref 1] (dH h (mv_τ x y 0 7 τ) t (va_up B 0 (sp_newp (B 0) 400)) P) none H) : am_m d z_Desk_cloth [.ref 0, .int x, .int y] (dH h τ t B P) (some (.int 1)) H := by
  refine ev_go 3 (q := 4) (st' := .int 10 :: .int 1 :: _ :: _) rfl ?_
  refine ev_static (z' := z_Desk_within) (q := 7) rfl rfl (by decide) rfl rfl (by simp [Value.category]) rfl (by omega) (k_within _ _ _) ?_
  refine ev_tp (y := 1) (am_b1 hb.1) ?_
  refine ev_if_eq (t := 20) (q := 10) rfl rfl rfl (fun c => absurd c (by decide)) (fun _ => ?_)
  refine ev_go 3 (q := 14) (st' := .int 10 :: .int 1 :: _ :: _) rfl ?_
  refine ev_static (z' := z_Desk_within) (q := 17) rfl rfl (by decide) rfl rfl (by simp [Value.category]) rfl (by omega) (k_within _ _ _) ?_
  refine ev_tp (y := 1) (am_b1 hb.2) ?_
  refine ev_if_ne (t := 22) (q := 20) rfl rfl rfl (fun _ => ?_) (fun c => absurd c (by decide))
  refine ev_go 1 (q := 23) rfl ?_
  refine ev_get (q := 26) rfl (d_0 hn) rfl rfl rfl ?_
  refine ev_go 2 (q := 28) rfl ?_
  refine ev_virt (z' := z_Cloth_weave) (q := 31) rfl rfl (by decide) rfl (by simp [Value.category]) rfl (by omega) rfl rfl (d_1 hn) (c_weave hn) ?_
  refine ev_go 1 (q := 32) rfl ?_
  refine ev_get (q := 35) rfl (d_0 hn) rfl rfl rfl ?_
  refine ev_go 1 (q := 36) rfl ?_
  refine ev_get (q := 39) rfl (d_0 hn) rfl rfl rfl ?_
  refine ev_virt (z' := z_Tree_plant) (q := 42) rfl rfl (by decide) rfl (by simp [Value.category]) rfl (by omega) rfl rfl (d_3 hn) hp ?_
  refine ev_go 1 (q := 43) (st' := .int 1 :: _) rfl ?_
  exact ev_iret rfl rfl (rfl) (rfl)
def pl_1 (P : Nat → Nat → Option Nat) (PA : Nat → Int32) (HC : Nat → Nat) (k : Nat) (h : am_H) : am_H := match P 0 k with
  | none => h
  | some a => am_up h a (nd_c (PA k) 0 (HC k))
def PL (h : am_H) (P : Nat → Nat → Option Nat) (PA : Nat → Int32) (HC : Nat → Nat) (k : Nat) : Prop := ∀ j, k ≤ j → j < 60 → P 0 j = none ∨ ∃ a th, P 0 j = some a ∧ 15 ≤ a ∧ am_is h a (nd_c (PA j) th (HC j))
def NI (P : Nat → Nat → Option Nat) : Prop := ∀ i j a, i < 60 → j < 60 → P 0 i = some a → P 0 j = some a → i = j
theorem pl_n {h : am_H} : (pl_1 P PA HC k h).1 = h.1 := by
  unfold pl_1
  split <;> rfl
theorem l_plant (hI : NI P) : ∀ (m k : Nat) (h : am_H), 15 ≤ h.1 → k + m = 60 → PL h P PA HC k → am_ev d z_Tree_plant (36, [some (.ref 3), some (.ref 1), some (.int (nI 60))], [], dH (sp_it (pl_1 P PA HC) k m h) τ t B P) res H → am_ev d z_Tree_plant (8, [some (.ref 3), some (.ref 1), some (.int (nI k))], [.int 60, .int (nI k)], dH h τ t B P) res H
  | 0, k, h, hn, hm, hp, K => by
    refine ev_icmp_ge (t := 36) (q := 11) rfl rfl rfl (fun _ => ?_) (fun c1 => absurd (nI_end (b := 60) hm (by omega)) c1)
    have hc : k = 60 := hm
    subst hc
    exact K
  | m + 1, k, h, hn, hm, hp, K => by
    refine ev_icmp_ge (t := 36) (q := 11) rfl rfl rfl (fun c1 => absurd c1 (nI_ge (b := 60) (by omega) (by omega))) (fun _ => ?_)
    simp only [sp_it] at K
    rcases hp k (Nat.le_refl _) (by omega) with e | ⟨a, th, e, ga, ia⟩
    · have ep : pl_1 P PA HC k h = h := by
        unfold pl_1
        rw [e]
      rw [ep] at K
      refine ev_go 1 (q := 12) rfl ?_
      refine ev_get (q := 15) rfl (d_3 hn) rfl rfl rfl ?_
      refine ev_go 1 (q := 16) rfl ?_
      refine ev_aaldn (q := 17) rfl (d_4 hn) (by decide) rfl (show k < 60 by omega) (by decide) rfl ?_
      rw [e]
      refine ev_go 1 (q := 30) rfl ?_
      refine ev_go 4 (q := 4) rfl ?_
      refine ev_get (q := 7) rfl (d_3 hn) rfl rfl rfl ?_
      refine ev_alen (v := 60) (q := 8) rfl (d_4 hn) (by decide) rfl rfl ?_
      rw [nI_s]
      exact l_plant hI m (k + 1) h hn (by omega) (fun j h1 h2 => hp j (by omega) h2) K
    · have ep : pl_1 P PA HC k h = am_up h a (nd_c (PA k) 0 (HC k)) := by
        unfold pl_1
        rw [e]
      rw [ep] at K
      refine ev_go 1 (q := 12) rfl ?_
      refine ev_get (q := 15) rfl (d_3 hn) rfl rfl rfl ?_
      refine ev_go 1 (q := 16) rfl ?_
      refine ev_aaldn (q := 17) rfl (d_4 hn) (by decide) rfl (show k < 60 by omega) (by decide) rfl ?_
      rw [e]
      refine ev_go 1 (q := 20) rfl ?_
      refine ev_go 1 (q := 21) rfl ?_
      refine ev_get (q := 24) rfl (d_3 hn) rfl rfl rfl ?_
      refine ev_go 1 (q := 25) rfl ?_
      refine ev_aaldn (q := 26) rfl (d_4 hn) (by decide) rfl (show k < 60 by omega) (by decide) rfl ?_
      rw [e]
      refine ev_go 1 (q := 27) (st' := .int 0 :: _ :: _) rfl ?_
      refine ev_put (q := 30) rfl (dH_ge ga ia) rfl (Nat.le_of_ble_eq_true rfl) rfl rfl rfl ?_
      rw [dH_far ga]
      refine ev_go 4 (q := 4) rfl ?_
      refine ev_get (q := 7) rfl (d_3 hn) rfl rfl rfl ?_
      refine ev_alen (v := 60) (q := 8) rfl (d_4 hn) (by decide) rfl rfl ?_
      rw [nI_s]
      refine l_plant hI m (k + 1) (am_up h a (nd_c (PA k) 0 (HC k))) hn (by omega) (fun j h1 h2 => ?_) K
      rcases hp j (by omega) h2 with e9 | ⟨a9, th9, e9, ga9, ia9⟩
      · exact Or.inl e9
      · refine Or.inr ⟨a9, th9, e9, ga9, ia9.ne (fun q9 => ?_)⟩
        subst q9
        have := hI j k a9 h2 (by omega) e9 e
        omega
theorem c_plant (hn : 15 ≤ h.1) (hd : 0 < d) (hI : NI P) (hp : PL h P PA HC 0) (hg : am_m (d - 1) z_Tree_grow [.ref 3, .ref 1] (dH (sp_it (pl_1 P PA HC) 0 60 h) (va_up (va_up τ 5 0) 4 (-9)) t B P) (some (.int x)) H) : am_m d z_Tree_plant [.ref 3, .ref 1] (dH h τ t B P) none H := by
  have hn2 : 15 ≤ (sp_it (pl_1 P PA HC) 0 60 h).1 := it_inv (fun g : am_H => 15 ≤ g.1) 60 0 h (fun j g _ _ q => by rw [pl_n]; exact q) hn
  refine ev_go 4 (q := 4) rfl ?_
  refine ev_get (q := 7) rfl (d_3 hn) rfl rfl rfl ?_
  refine ev_alen (v := 60) (q := 8) rfl (d_4 hn) (by decide) rfl rfl ?_
  rw [show Int32.ofInt 0 = nI 0 from rfl]
  refine l_plant hI 60 0 h hn (by omega) hp ?_
  refine ev_go 2 (q := 38) (st' := .int 0 :: _ :: _) rfl ?_
  refine ev_put (q := 41) rfl (d_3 hn2) rfl (Nat.le_of_ble_eq_true rfl) rfl rfl rfl ?_
  refine ev_hp du_3_2 ?_
  refine ev_go 2 (q := 44) (st' := .int (-9) :: _ :: _) rfl ?_
  refine ev_put (q := 47) rfl (d_3 hn2) rfl (Nat.le_of_ble_eq_true rfl) rfl rfl rfl ?_
  refine ev_hp du_3_1 ?_
  refine ev_go 2 (q := 49) rfl ?_
  refine ev_virt (z' := z_Tree_grow) (q := 52) rfl rfl (by decide) rfl (by simp [Value.category]) rfl (by omega) rfl rfl (d_3 hn2) hg ?_
  refine ev_go 1 (q := 53) rfl ?_
  exact ev_vret rfl rfl (rfl)
end F6
