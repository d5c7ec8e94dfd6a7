/-! the class: macros called, step by step -/
section E3
variable {d n s : Nat} {h H : am_H} {res : Option Value} {τ τ2 σ : Nat → Int32} {t t2 : Int64} {A B B2 : Nat → Nat → Int32} {P : Nat → Nat → Option Nat} {R C u a b i p pc c : Nat} {k1 k2 k3 k4 dep : Int32} {f : Nat → Option Nat} {e4 : Option Value}
theorem cp_end (hn : 15 ≤ h.1) (hi : pc ≤ i) (hi2 : i < 100) : am_ev d z_Runner_callParts (7, [some (.ref 5), some (.ref a), some (.int dep), some (.int (nI i)), e4], [.int (nI pc), .int (nI i)], dH h τ t B P) none (dH h τ t B P) := by
  refine ev_icmp_ge (t := 134) (q := 10) rfl rfl rfl (fun _ => ?_) (fun c1 => absurd (nI_le hi (by omega)) c1)
  exact ev_vret rfl rfl rfl
theorem cp_fail (hn : 15 ≤ h.1) (hf : ¬ τ 6 = 0) : am_ev d z_Runner_callParts (7, [some (.ref 5), some (.ref a), some (.int dep), some (.int (nI i)), e4], [.int (nI pc), .int (nI i)], dH h τ t B P) none (dH h τ t B P) := by
  refine ev_icmp_ge (t := 134) (q := 10) rfl rfl rfl (fun _ => ?_) (fun _ => ?_)
  · exact ev_vret rfl rfl rfl
  · refine ev_go 1 (q := 11) rfl ?_
    refine ev_get (q := 14) rfl (d_5 hn) rfl rfl rfl ?_
    refine ev_if_ne (t := 134) (q := 17) rfl rfl rfl (fun zc1 => ?_) (fun c => absurd c hf)
    exact ev_vret rfl rfl rfl
theorem cp_long (hd : 1 < d) (hn : 15 ≤ h.1) (ha : 15 ≤ a) (hb : 15 ≤ b) (h0 : am_is h a (mc_c k1 k2 k3 k4 (nI pc) b)) (h1 : am_is h b (pa_c f)) (hpc : pc ≤ 8) (hi : i < pc) (h6 : τ 6 = 0) (hp : f i = some p) (h11 : τ 11 = nI 300) : am_ev d z_Runner_callParts (7, [some (.ref 5), some (.ref a), some (.int dep), some (.int (nI i)), e4], [.int (nI pc), .int (nI i)], dH h τ t B P) none (dH h (va_up (va_up (va_up τ 6 5) 9 (-9)) 10 dep) t B P) := by
  refine ev_icmp_ge (t := 134) (q := 10) rfl rfl rfl (fun c1 => absurd c1 (nI_ge (by omega) (by omega))) (fun _ => ?_)
  refine ev_go 1 (q := 11) rfl ?_
  refine ev_get (q := 14) rfl (d_5 hn) rfl rfl rfl ?_
  refine ev_tp (y := 0) h6 ?_
  refine ev_if_ne (t := 134) (q := 17) rfl rfl rfl (fun c => absurd (by decide) c) (fun _ => ?_)
  refine ev_go 2 (q := 19) rfl ?_
  refine ev_virt (z' := z_Macro_partOf) (q := 22) rfl rfl (by decide) rfl (by simp [Value.category]) rfl (by omega) rfl rfl (dH_ge ha h0) (by have q9 := k_partOf (d := d - 1) (h := dH h τ t B P) (show i < 8 by omega) (dH_ge ha h0) (dH_ge hb h1); rw [hp] at q9; exact q9) ?_
  refine ev_go 2 (q := 25) rfl ?_
  refine ev_get (q := 28) rfl (d_5 hn) rfl rfl rfl ?_
  refine ev_tp (y := nI 300) h11 ?_
  refine ev_go 1 (q := 31) (st' := .int 300 :: _ :: _) rfl ?_
  refine ev_icmp_lt (t := 43) (q := 34) rfl rfl rfl (fun c => absurd c (nI_nlt (b := 300) (by omega) (by omega))) (fun zc1 => ?_)
  refine ev_go 4 (q := 39) (st' := _ :: .int (-9) :: .int 5 :: _ :: _) rfl ?_
  refine ev_virt (z' := z_Runner_fail) (q := 42) rfl rfl (by decide) rfl (by simp [Value.category]) rfl (by omega) rfl rfl (d_5 hn) (c_fail hn) ?_
  exact ev_vret rfl rfl (rfl)
theorem cp_mac (hd : 1 < d) (hn : 15 ≤ h.1) (ha : 15 ≤ a) (hb : 15 ≤ b) (h0 : am_is h a (mc_c k1 k2 k3 k4 (nI pc) b)) (h1 : am_is h b (pa_c f)) (hpc : pc ≤ 8) (hi : i < pc) (h6 : τ 6 = 0) (hp : f i = some p) (h11 : τ 11 = nI c) (hc : c < 300) {ao : Nat} {y : List Value} (hao : 15 ≤ ao) (hpp : 15 ≤ p) (ip : am_is h p (pt_c .null (.ref ao) .null)) (io : am_is h ao (.inr (4, y))) (hm : am_m (d - 1) z_Runner_callMacro [.ref 5, .ref ao, .int (dep + 1)] (dH h (va_up τ 11 (nI (c + 1))) t B P) none (dH h τ2 t2 B2 P)) (K : am_ev d z_Runner_callParts (7, [some (.ref 5), some (.ref a), some (.int dep), some (.int (nI (i + 1))), some (.ref p)], [.int (nI pc), .int (nI (i + 1))], dH h τ2 t2 B2 P) none H) : am_ev d z_Runner_callParts (7, [some (.ref 5), some (.ref a), some (.int dep), some (.int (nI i)), e4], [.int (nI pc), .int (nI i)], dH h τ t B P) none H := by
  refine ev_icmp_ge (t := 134) (q := 10) rfl rfl rfl (fun c1 => absurd c1 (nI_ge (by omega) (by omega))) (fun _ => ?_)
  refine ev_go 1 (q := 11) rfl ?_
  refine ev_get (q := 14) rfl (d_5 hn) rfl rfl rfl ?_
  refine ev_tp (y := 0) h6 ?_
  refine ev_if_ne (t := 134) (q := 17) rfl rfl rfl (fun c => absurd (by decide) c) (fun _ => ?_)
  refine ev_go 2 (q := 19) rfl ?_
  refine ev_virt (z' := z_Macro_partOf) (q := 22) rfl rfl (by decide) rfl (by simp [Value.category]) rfl (by omega) rfl rfl (dH_ge ha h0) (by have q9 := k_partOf (d := d - 1) (h := dH h τ t B P) (show i < 8 by omega) (dH_ge ha h0) (dH_ge hb h1); rw [hp] at q9; exact q9) ?_
  refine ev_go 2 (q := 25) rfl ?_
  refine ev_get (q := 28) rfl (d_5 hn) rfl rfl rfl ?_
  refine ev_tp (y := nI c) h11 ?_
  refine ev_go 1 (q := 31) (st' := .int 300 :: _ :: _) rfl ?_
  refine ev_icmp_lt (t := 43) (q := 34) rfl rfl rfl (fun zc1 => ?_) (fun c => absurd (nI_lt (b := 300) hc (by omega)) c)
  refine ev_go 2 (q := 45) rfl ?_
  refine ev_get (q := 48) rfl (d_5 hn) rfl rfl rfl ?_
  refine ev_tp (y := nI c) h11 ?_
  refine ev_go 2 (q := 50) (st' := .int (_ + 1) :: _ :: _) rfl ?_
  rw [nI_1]
  refine ev_put (q := 53) rfl (d_5 hn) rfl (Nat.le_of_ble_eq_true rfl) rfl rfl rfl ?_
  refine ev_hp du_5_10 ?_
  refine ev_go 1 (q := 55) rfl ?_
  refine ev_go 1 (q := 58) rfl ?_
  refine ev_go 1 (q := 60) rfl ?_
  refine ev_get (q := 63) rfl (dH_ge hpp ip) rfl rfl rfl ?_
  refine ev_go 1 (q := 66) rfl ?_
  refine ev_go 2 (q := 69) rfl ?_
  refine ev_get (q := 72) rfl (dH_ge hpp ip) rfl rfl rfl ?_
  refine ev_go 3 (q := 75) (st' := .int (_ + 1) :: _ :: _ :: _) rfl ?_
  refine ev_virt (z' := z_Runner_callMacro) (q := 78) rfl rfl (by decide) rfl (by simp [Value.category]) rfl (by omega) rfl rfl (d_5 hn) hm ?_
  refine ev_go 5 (q := 4) rfl ?_
  refine ev_get (q := 7) rfl (dH_ge ha h0) rfl rfl rfl ?_
  rw [nI_s]
  exact K
theorem cp_han (hd : 1 < d) (hn : 15 ≤ h.1) (ha : 15 ≤ a) (hb : 15 ≤ b) (h0 : am_is h a (mc_c k1 k2 k3 k4 (nI pc) b)) (h1 : am_is h b (pa_c f)) (hpc : pc ≤ 8) (hi : i < pc) (h6 : τ 6 = 0) (hp : f i = some p) (h11 : τ 11 = nI c) (hc : c < 300) {ah ga : Nat} {y : List Value} (hah : 15 ≤ ah) (hpp : 15 ≤ p) (ip : am_is h p (pt_c (.ref ah) .null (.ref ga))) (io : am_is h ah (.inr (2, y))) {τ1 : Nat → Int32} (hm1 : am_m (d - 1) z_Handle_fillIn [.ref ah, .ref 7, .ref ga] (dH h (va_up τ 11 (nI (c + 1))) t B P) none (dH h τ1 t B P)) (hm2 : am_m (d - 1) z_Runner_perform [.ref 5, .ref 7, .int dep] (dH h τ1 t B P) none (dH h τ2 t2 B2 P)) (K : am_ev d z_Runner_callParts (7, [some (.ref 5), some (.ref a), some (.int dep), some (.int (nI (i + 1))), some (.ref p)], [.int (nI pc), .int (nI (i + 1))], dH h τ2 t2 B2 P) none H) : am_ev d z_Runner_callParts (7, [some (.ref 5), some (.ref a), some (.int dep), some (.int (nI i)), e4], [.int (nI pc), .int (nI i)], dH h τ t B P) none H := by
  refine ev_icmp_ge (t := 134) (q := 10) rfl rfl rfl (fun c1 => absurd c1 (nI_ge (by omega) (by omega))) (fun _ => ?_)
  refine ev_go 1 (q := 11) rfl ?_
  refine ev_get (q := 14) rfl (d_5 hn) rfl rfl rfl ?_
  refine ev_tp (y := 0) h6 ?_
  refine ev_if_ne (t := 134) (q := 17) rfl rfl rfl (fun c => absurd (by decide) c) (fun _ => ?_)
  refine ev_go 2 (q := 19) rfl ?_
  refine ev_virt (z' := z_Macro_partOf) (q := 22) rfl rfl (by decide) rfl (by simp [Value.category]) rfl (by omega) rfl rfl (dH_ge ha h0) (by have q9 := k_partOf (d := d - 1) (h := dH h τ t B P) (show i < 8 by omega) (dH_ge ha h0) (dH_ge hb h1); rw [hp] at q9; exact q9) ?_
  refine ev_go 2 (q := 25) rfl ?_
  refine ev_get (q := 28) rfl (d_5 hn) rfl rfl rfl ?_
  refine ev_tp (y := nI c) h11 ?_
  refine ev_go 1 (q := 31) (st' := .int 300 :: _ :: _) rfl ?_
  refine ev_icmp_lt (t := 43) (q := 34) rfl rfl rfl (fun zc1 => ?_) (fun c => absurd (nI_lt (b := 300) hc (by omega)) c)
  refine ev_go 2 (q := 45) rfl ?_
  refine ev_get (q := 48) rfl (d_5 hn) rfl rfl rfl ?_
  refine ev_tp (y := nI c) h11 ?_
  refine ev_go 2 (q := 50) (st' := .int (_ + 1) :: _ :: _) rfl ?_
  rw [nI_1]
  refine ev_put (q := 53) rfl (d_5 hn) rfl (Nat.le_of_ble_eq_true rfl) rfl rfl rfl ?_
  refine ev_hp du_5_10 ?_
  refine ev_go 1 (q := 55) rfl ?_
  refine ev_go 1 (q := 58) rfl ?_
  refine ev_go 1 (q := 60) rfl ?_
  refine ev_get (q := 63) rfl (dH_ge hpp ip) rfl rfl rfl ?_
  refine ev_go 1 (q := 81) rfl ?_
  refine ev_go 1 (q := 83) rfl ?_
  refine ev_go 1 (q := 86) rfl ?_
  refine ev_go 1 (q := 88) rfl ?_
  refine ev_get (q := 91) rfl (dH_ge hpp ip) rfl rfl rfl ?_
  refine ev_go 1 (q := 94) rfl ?_
  refine ev_go 1 (q := 96) rfl ?_
  refine ev_get (q := 99) rfl (dH_ge hpp ip) rfl rfl rfl ?_
  refine ev_go 1 (q := 102) rfl ?_
  refine ev_go 1 (q := 104) rfl ?_
  refine ev_get (q := 107) rfl (dH_ge hpp ip) rfl rfl rfl ?_
  refine ev_go 1 (q := 108) rfl ?_
  refine ev_get (q := 111) rfl (d_5 hn) rfl rfl rfl ?_
  refine ev_go 1 (q := 113) rfl ?_
  refine ev_get (q := 116) rfl (dH_ge hpp ip) rfl rfl rfl ?_
  refine ev_virt (z' := z_Handle_fillIn) (q := 119) rfl rfl (by decide) rfl (by simp [Value.category]) rfl (by omega) rfl rfl (dH_ge hah io) hm1 ?_
  refine ev_go 2 (q := 121) rfl ?_
  refine ev_get (q := 124) rfl (d_5 hn) rfl rfl rfl ?_
  refine ev_go 1 (q := 125) rfl ?_
  refine ev_virt (z' := z_Runner_perform) (q := 128) rfl rfl (by decide) rfl (by simp [Value.category]) rfl (by omega) rfl rfl (d_5 hn) hm2 ?_
  refine ev_go 4 (q := 4) rfl ?_
  refine ev_get (q := 7) rfl (dH_ge ha h0) rfl rfl rfl ?_
  rw [nI_s]
  exact K
theorem cp_0 (hn : 15 ≤ h.1) (ha : 15 ≤ a) (hb : 15 ≤ b) (h0 : am_is h a (mc_c k1 k2 k3 k4 (nI pc) b)) (h1 : am_is h b (pa_c f)) (hpc : pc ≤ 8) (K : am_ev d z_Runner_callParts (7, [some (.ref 5), some (.ref a), some (.int dep), some (.int (nI 0)), none], [.int (nI pc), .int (nI 0)], dH h τ t B P) none H) : am_m d z_Runner_callParts [.ref 5, .ref a, .int dep] (dH h τ t B P) none H := by
  refine ev_go 4 (q := 4) rfl ?_
  refine ev_get (q := 7) rfl (dH_ge ha h0) rfl rfl rfl ?_
  rw [show Int32.ofInt 0 = nI 0 from rfl]
  exact K
def tr_p (R C : Nat) (s : Int32) (f : Nat → Int32) (n m x : Int32) : Prop := cl_kn R C n m ∧ sp_seen s (fun l => f (cx n.toNatClampNeg m.toNatClampNeg l)) = x
theorem c_true (hd : 1 < d) (hn : 15 ≤ h.1) (hR : 1 ≤ R ∧ R ≤ 10) (hC : 1 ≤ C ∧ C ≤ 10) (e0 : τ 0 = nI R) (e1 : τ 1 = nI C) (ha : 15 ≤ a) (hb : 15 ≤ b) (h0 : am_is h a (mc_c k1 k2 k3 k4 (nI pc) b)) (h1 : am_is h b (pa_c f)) (hpc : pc ≤ 8) : am_m d z_Runner_isTrue [.ref 5, .ref a] (dH h τ t B P) (some (.int (cb (tr_p R C (τ 3) (B 0) k4 k2 k3)))) (dH h τ t B P) := by
  by_cases zk : cl_kn R C k4 k2
  · obtain ⟨r, c9, hr, hc9, q1, q2⟩ := kn_of hR.2 hC.2 zk
    have er : k4.toNatClampNeg = r := by rw [q1]; exact nI_clamp (by omega)
    have ec : k2.toNatClampNeg = c9 := by rw [q2]; exact nI_clamp (by omega)
    have ss := c_seen (d := d - 1) (h := h) (τ := τ) (t := t) (B := B) (P := P) hn (by omega) hR.2 hC.2 e0 e1 hr hc9
    rw [← q1, ← q2] at ss
    by_cases zs : sp_seen (τ 3) (fun l => B 0 (cx r c9 l)) = k3
    · refine ev_go 1 (q := 1) rfl ?_
      refine ev_get (q := 4) rfl (d_5 hn) rfl rfl rfl ?_
      refine ev_go 1 (q := 5) rfl ?_
      refine ev_get (q := 8) rfl (dH_ge ha h0) rfl rfl rfl ?_
      refine ev_go 1 (q := 9) rfl ?_
      refine ev_get (q := 12) rfl (dH_ge ha h0) rfl rfl rfl ?_
      refine ev_virt (z' := z_Cloth_isKnot) (q := 15) rfl rfl (by decide) rfl (by simp [Value.category]) rfl (by omega) rfl rfl (d_1 hn) (c_kn hn e0 e1) ?_
      refine ev_tp (y := 1) (am_b1 zk) ?_
      refine ev_if_eq (t := 44) (q := 18) rfl rfl rfl (fun c => absurd c (by decide)) (fun _ => ?_)
      refine ev_go 1 (q := 19) rfl ?_
      refine ev_get (q := 22) rfl (d_5 hn) rfl rfl rfl ?_
      refine ev_go 1 (q := 23) rfl ?_
      refine ev_get (q := 26) rfl (dH_ge ha h0) rfl rfl rfl ?_
      refine ev_go 1 (q := 27) rfl ?_
      refine ev_get (q := 30) rfl (dH_ge ha h0) rfl rfl rfl ?_
      refine ev_virt (z' := z_Cloth_seenAt) (q := 33) rfl rfl (by decide) rfl (by simp [Value.category]) rfl (by omega) rfl rfl (d_1 hn) ss ?_
      refine ev_go 1 (q := 34) rfl ?_
      refine ev_get (q := 37) rfl (dH_ge ha h0) rfl rfl rfl ?_
      refine ev_icmp_ne (t := 44) (q := 40) rfl rfl rfl (fun c => absurd zs c) (fun zc1 => ?_)
      refine ev_go 2 (q := 45) (st' := .int 1 :: _) rfl ?_
      exact ev_zret rfl rfl (by first | exact Or.inl rfl | exact Or.inr rfl | assumption) ((cb_1 ⟨zk, by rw [er, ec]; exact zs⟩).symm) (rfl)
    · refine ev_go 1 (q := 1) rfl ?_
      refine ev_get (q := 4) rfl (d_5 hn) rfl rfl rfl ?_
      refine ev_go 1 (q := 5) rfl ?_
      refine ev_get (q := 8) rfl (dH_ge ha h0) rfl rfl rfl ?_
      refine ev_go 1 (q := 9) rfl ?_
      refine ev_get (q := 12) rfl (dH_ge ha h0) rfl rfl rfl ?_
      refine ev_virt (z' := z_Cloth_isKnot) (q := 15) rfl rfl (by decide) rfl (by simp [Value.category]) rfl (by omega) rfl rfl (d_1 hn) (c_kn hn e0 e1) ?_
      refine ev_tp (y := 1) (am_b1 zk) ?_
      refine ev_if_eq (t := 44) (q := 18) rfl rfl rfl (fun c => absurd c (by decide)) (fun _ => ?_)
      refine ev_go 1 (q := 19) rfl ?_
      refine ev_get (q := 22) rfl (d_5 hn) rfl rfl rfl ?_
      refine ev_go 1 (q := 23) rfl ?_
      refine ev_get (q := 26) rfl (dH_ge ha h0) rfl rfl rfl ?_
      refine ev_go 1 (q := 27) rfl ?_
      refine ev_get (q := 30) rfl (dH_ge ha h0) rfl rfl rfl ?_
      refine ev_virt (z' := z_Cloth_seenAt) (q := 33) rfl rfl (by decide) rfl (by simp [Value.category]) rfl (by omega) rfl rfl (d_1 hn) ss ?_
      refine ev_go 1 (q := 34) rfl ?_
      refine ev_get (q := 37) rfl (dH_ge ha h0) rfl rfl rfl ?_
      refine ev_icmp_ne (t := 44) (q := 40) rfl rfl rfl (fun zc1 => ?_) (fun c => absurd c zs)
      refine ev_go 1 (q := 45) (st' := .int 0 :: _) rfl ?_
      exact ev_zret rfl rfl (by first | exact Or.inl rfl | exact Or.inr rfl | assumption) ((cb_z (fun q => zs (by have := q.2; rw [er, ec] at this; exact this))).symm) (rfl)
  · refine ev_go 1 (q := 1) rfl ?_
    refine ev_get (q := 4) rfl (d_5 hn) rfl rfl rfl ?_
    refine ev_go 1 (q := 5) rfl ?_
    refine ev_get (q := 8) rfl (dH_ge ha h0) rfl rfl rfl ?_
    refine ev_go 1 (q := 9) rfl ?_
    refine ev_get (q := 12) rfl (dH_ge ha h0) rfl rfl rfl ?_
    refine ev_virt (z' := z_Cloth_isKnot) (q := 15) rfl rfl (by decide) rfl (by simp [Value.category]) rfl (by omega) rfl rfl (d_1 hn) (c_kn hn e0 e1) ?_
    refine ev_tp (y := 0) (am_bz zk) ?_
    refine ev_if_eq (t := 44) (q := 18) rfl rfl rfl (fun _ => ?_) (fun c => absurd (by decide) c)
    refine ev_go 1 (q := 45) (st' := .int 0 :: _) rfl ?_
    exact ev_zret rfl rfl (by first | exact Or.inl rfl | exact Or.inr rfl | assumption) ((cb_z (fun q => zk q.1)).symm) (rfl)
noncomputable def ro_x (R C : Nat) (s : Int32) (f : Nat → Int32) (k n m x : Int32) : Int32 := if k = 0 then 1 else if k = 1 then n else if k = 2 then cb (tr_p R C s f n m x) else 3
theorem c_rounds (hd : 2 < d) (hn : 15 ≤ h.1) (hR : 1 ≤ R ∧ R ≤ 10) (hC : 1 ≤ C ∧ C ≤ 10) (e0 : τ 0 = nI R) (e1 : τ 1 = nI C) (ha : 15 ≤ a) (hb : 15 ≤ b) (h0 : am_is h a (mc_c k1 k2 k3 k4 (nI pc) b)) (h1 : am_is h b (pa_c f)) (hpc : pc ≤ 8) (hk : k1 = 0 ∨ k1 = 1 ∨ k1 = 2 ∨ k1 = 3) : am_m d z_Runner_roundsOf [.ref 5, .ref a] (dH h τ t B P) (some (.int (ro_x R C (τ 3) (B 0) k1 k4 k2 k3))) (dH h τ t B P) := by
  rcases hk with rfl | rfl | rfl | rfl
  · refine ev_go 1 (q := 1) rfl ?_
    refine ev_get (q := 4) rfl (dH_ge ha h0) rfl rfl rfl ?_
    refine ev_tp (y := 0) rfl ?_
    refine ev_go 2 (q := 54) (st' := .int 1 :: _) rfl ?_
    exact ev_iret rfl rfl (rfl) (rfl)
  · refine ev_go 1 (q := 1) rfl ?_
    refine ev_get (q := 4) rfl (dH_ge ha h0) rfl rfl rfl ?_
    refine ev_tp (y := 1) rfl ?_
    refine ev_go 2 (q := 33) rfl ?_
    refine ev_get (q := 36) rfl (dH_ge ha h0) rfl rfl rfl ?_
    exact ev_iret rfl rfl (rfl) (rfl)
  · have tt := c_true (d := d - 1) (t := t) (P := P) (B := B) (by omega) hn hR hC e0 e1 ha hb h0 h1 hpc
    by_cases zc : tr_p R C (τ 3) (B 0) k4 k2 k3
    · rw [cb_1 zc] at tt
      refine ev_go 1 (q := 1) rfl ?_
      refine ev_get (q := 4) rfl (dH_ge ha h0) rfl rfl rfl ?_
      refine ev_tp (y := 2) rfl ?_
      refine ev_go 3 (q := 39) rfl ?_
      refine ev_virt (z' := z_Runner_isTrue) (q := 42) rfl rfl (by decide) rfl (by simp [Value.category]) rfl (by omega) rfl rfl (d_5 hn) tt ?_
      refine ev_tp (y := 1) rfl ?_
      refine ev_if_eq (t := 49) (q := 45) rfl rfl rfl (fun c => absurd c (by decide)) (fun _ => ?_)
      refine ev_go 2 (q := 50) (st' := .int 1 :: _) rfl ?_
      exact ev_iret rfl rfl ((show ro_x R C (τ 3) (B 0) 2 k4 k2 k3 = 1 from cb_1 zc).symm) (rfl)
    · rw [cb_z zc] at tt
      refine ev_go 1 (q := 1) rfl ?_
      refine ev_get (q := 4) rfl (dH_ge ha h0) rfl rfl rfl ?_
      refine ev_tp (y := 2) rfl ?_
      refine ev_go 3 (q := 39) rfl ?_
      refine ev_virt (z' := z_Runner_isTrue) (q := 42) rfl rfl (by decide) rfl (by simp [Value.category]) rfl (by omega) rfl rfl (d_5 hn) tt ?_
      refine ev_tp (y := 0) rfl ?_
      refine ev_if_eq (t := 49) (q := 45) rfl rfl rfl (fun _ => ?_) (fun c => absurd (by decide) c)
      refine ev_go 1 (q := 50) (st' := .int 0 :: _) rfl ?_
      exact ev_iret rfl rfl ((show ro_x R C (τ 3) (B 0) 2 k4 k2 k3 = 0 from cb_z zc).symm) (rfl)
  · refine ev_go 1 (q := 1) rfl ?_
    refine ev_get (q := 4) rfl (dH_ge ha h0) rfl rfl rfl ?_
    refine ev_tp (y := 3) rfl ?_
    refine ev_go 2 (q := 52) (st' := .int 3 :: _) rfl ?_
    exact ev_iret rfl rfl (rfl) (rfl)
theorem cm_0 (hd : 3 < d) (hn : 15 ≤ h.1) (hR : 1 ≤ R ∧ R ≤ 10) (hC : 1 ≤ C ∧ C ≤ 10) (e0 : τ 0 = nI R) (e1 : τ 1 = nI C) (ha : 15 ≤ a) (hb : 15 ≤ b) (h0 : am_is h a (mc_c k1 k2 k3 k4 (nI pc) b)) (h1 : am_is h b (pa_c f)) (hpc : pc ≤ 8) (hk : k1 = 0 ∨ k1 = 1 ∨ k1 = 2 ∨ k1 = 3) (hdep : dep ≤ 20) {rr : Int32} (hr : ro_x R C (τ 3) (B 0) k1 k4 k2 k3 = rr) (K : am_ev d z_Runner_callMacro (37, [some (.ref 5), some (.ref a), some (.int dep), some (.int (τ 2)), some (.int rr), some (.int (nI 0))], [.int rr, .int (nI 0)], dH h τ t B P) none H) : am_m d z_Runner_callMacro [.ref 5, .ref a, .int dep] (dH h τ t B P) none H := by
  have ro := c_rounds (d := d - 1) (t := t) (P := P) (B := B) (by omega) hn hR hC e0 e1 ha hb h0 h1 hpc hk
  rw [hr] at ro
  refine ev_go 2 (q := 3) (st' := .int 20 :: _ :: _) rfl ?_
  refine ev_icmp_le (t := 15) (q := 6) rfl rfl rfl (fun zc1 => ?_) (fun c => absurd hdep c)
  refine ev_go 1 (q := 16) rfl ?_
  refine ev_get (q := 19) rfl (d_5 hn) rfl rfl rfl ?_
  refine ev_get (q := 22) rfl (d_1 hn) rfl rfl rfl ?_
  refine ev_go 3 (q := 25) rfl ?_
  refine ev_virt (z' := z_Runner_roundsOf) (q := 28) rfl rfl (by decide) rfl (by simp [Value.category]) rfl (by omega) rfl rfl (d_5 hn) ro ?_
  refine ev_go 5 (q := 37) rfl ?_
  rw [show Int32.ofInt 0 = nI 0 from rfl]
  exact K
def ea_τ (k x : Int32) (τ : Nat → Int32) : Nat → Int32 := if k = 3 then va_up τ 2 x else τ
theorem cm_x (hn : 15 ≤ h.1) (ha : 15 ≤ a) (hb : 15 ≤ b) (h0 : am_is h a (mc_c k1 k2 k3 k4 (nI pc) b)) (h1 : am_is h b (pa_c f)) (hpc : pc ≤ 8) {u0 rr : Int32} {j : Nat} : am_ev d z_Runner_callMacro (76, [some (.ref 5), some (.ref a), some (.int dep), some (.int u0), some (.int rr), some (.int (nI j))], [], dH h τ t B P) none (dH h (ea_τ k1 u0 τ) t B P) := by
  refine ev_go 1 (q := 77) rfl ?_
  refine ev_get (q := 80) rfl (dH_ge ha h0) rfl rfl rfl ?_
  refine ev_go 1 (q := 81) (st' := .int 3 :: _ :: _) rfl ?_
  refine ev_icmp_ne (t := 92) (q := 84) rfl rfl rfl (fun zc1 => ?_) (fun zc1 => ?_)
  · exact ev_vret rfl rfl (by unfold ea_τ; first | rw [if_pos zc1] | rw [if_neg zc1])
  · refine ev_go 1 (q := 85) rfl ?_
    refine ev_get (q := 88) rfl (d_5 hn) rfl rfl rfl ?_
    refine ev_go 1 (q := 89) rfl ?_
    refine ev_put (q := 92) rfl (d_1 hn) rfl (Nat.le_of_ble_eq_true rfl) rfl rfl rfl ?_
    refine ev_hp du_1_2 ?_
    exact ev_vret rfl rfl (by unfold ea_τ; first | rw [if_pos zc1] | rw [if_neg zc1])
theorem cm_end (hn : 15 ≤ h.1) (ha : 15 ≤ a) (hb : 15 ≤ b) (h0 : am_is h a (mc_c k1 k2 k3 k4 (nI pc) b)) (h1 : am_is h b (pa_c f)) (hpc : pc ≤ 8) {u0 : Int32} {r j : Nat} (hj : r ≤ j) (hj2 : j < 100) : am_ev d z_Runner_callMacro (37, [some (.ref 5), some (.ref a), some (.int dep), some (.int u0), some (.int (nI r)), some (.int (nI j))], [.int (nI r), .int (nI j)], dH h τ t B P) none (dH h (ea_τ k1 u0 τ) t B P) := by
  refine ev_icmp_ge (t := 76) (q := 40) rfl rfl rfl (fun _ => cm_x hn ha hb h0 h1 hpc) (fun c1 => absurd (nI_le hj (by omega)) c1)
theorem cm_fail (hn : 15 ≤ h.1) (ha : 15 ≤ a) (hb : 15 ≤ b) (h0 : am_is h a (mc_c k1 k2 k3 k4 (nI pc) b)) (h1 : am_is h b (pa_c f)) (hpc : pc ≤ 8) {u0 rr : Int32} {j : Nat} (h6 : ¬ τ 6 = 0) : am_ev d z_Runner_callMacro (37, [some (.ref 5), some (.ref a), some (.int dep), some (.int u0), some (.int rr), some (.int (nI j))], [.int rr, .int (nI j)], dH h τ t B P) none (dH h (ea_τ k1 u0 τ) t B P) := by
  refine ev_icmp_ge (t := 76) (q := 40) rfl rfl rfl (fun _ => cm_x hn ha hb h0 h1 hpc) (fun _ => ?_)
  refine ev_go 1 (q := 41) rfl ?_
  refine ev_get (q := 44) rfl (d_5 hn) rfl rfl rfl ?_
  refine ev_if_ne (t := 76) (q := 47) rfl rfl rfl (fun zc1 => ?_) (fun c => absurd c h6)
  exact cm_x hn ha hb h0 h1 hpc
theorem cm_rnd (hd : 0 < d) (hn : 15 ≤ h.1) (ha : 15 ≤ a) (hb : 15 ≤ b) (h0 : am_is h a (mc_c k1 k2 k3 k4 (nI pc) b)) (h1 : am_is h b (pa_c f)) (hpc : pc ≤ 8) {u0 : Int32} {r j : Nat} (hj : j < r) (hr : r < 100) (h6 : τ 6 = 0) (hp : am_m (d - 1) z_Runner_callParts [.ref 5, .ref a, .int dep] (dH h (ea_τ k1 (nI j) τ) t B P) none (dH h τ2 t2 B2 P)) (K : am_ev d z_Runner_callMacro (37, [some (.ref 5), some (.ref a), some (.int dep), some (.int u0), some (.int (nI r)), some (.int (nI (j + 1)))], [.int (nI r), .int (nI (j + 1))], dH h τ2 t2 B2 P) none H) : am_ev d z_Runner_callMacro (37, [some (.ref 5), some (.ref a), some (.int dep), some (.int u0), some (.int (nI r)), some (.int (nI j))], [.int (nI r), .int (nI j)], dH h τ t B P) none H := by
  refine ev_icmp_ge (t := 76) (q := 40) rfl rfl rfl (fun c1 => absurd c1 (nI_ge (by omega) (by omega))) (fun _ => ?_)
  refine ev_go 1 (q := 41) rfl ?_
  refine ev_get (q := 44) rfl (d_5 hn) rfl rfl rfl ?_
  refine ev_tp (y := 0) h6 ?_
  refine ev_if_ne (t := 76) (q := 47) rfl rfl rfl (fun c => absurd (by decide) c) (fun _ => ?_)
  refine ev_go 1 (q := 48) rfl ?_
  refine ev_get (q := 51) rfl (dH_ge ha h0) rfl rfl rfl ?_
  refine ev_go 1 (q := 52) (st' := .int 3 :: _ :: _) rfl ?_
  refine ev_icmp_ne (t := 64) (q := 55) rfl rfl rfl (fun zc1 => ?_) (fun zc1 => ?_)
  · rw [show ea_τ k1 (nI j) τ = _ from if_neg zc1] at hp
    refine ev_go 3 (q := 67) rfl ?_
    refine ev_virt (z' := z_Runner_callParts) (q := 70) rfl rfl (by decide) rfl (by simp [Value.category]) rfl (by omega) rfl rfl (d_5 hn) hp ?_
    refine ev_go 4 (q := 37) rfl ?_
    rw [nI_s]
    exact K
  · refine ev_go 1 (q := 56) rfl ?_
    refine ev_get (q := 59) rfl (d_5 hn) rfl rfl rfl ?_
    refine ev_go 1 (q := 61) rfl ?_
    refine ev_put (q := 64) rfl (d_1 hn) rfl (Nat.le_of_ble_eq_true rfl) rfl rfl rfl ?_
    refine ev_hp du_1_2 ?_
    rw [show ea_τ k1 (nI j) τ = _ from if_pos zc1] at hp
    refine ev_go 3 (q := 67) rfl ?_
    refine ev_virt (z' := z_Runner_callParts) (q := 70) rfl rfl (by decide) rfl (by simp [Value.category]) rfl (by omega) rfl rfl (d_5 hn) hp ?_
    refine ev_go 4 (q := 37) rfl ?_
    rw [nI_s]
    exact K
end E3
