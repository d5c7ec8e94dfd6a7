/-! run, call, play: on both sides -/
section W9
variable {d : Nat} {g : am_H} {σ τ : Nat → Int32} {t : Int64} {A B : Nat → Nat → Int32} {P : Nat → Nat → Option Nat} {R C nh nm ev c : Nat} {PA : Nat → Int32} {KF : Nat → Nat → Int32}
theorem bg_far {j : Nat} (hj : j < 6 ∨ 11 < j) : bg_τ τ j = τ j := by
  unfold bg_τ
  rw [va_up_ne _ _ (by omega), va_up_ne _ _ (by omega), va_up_ne _ _ (by omega), va_up_ne _ _ (by omega), va_up_ne _ _ (by omega), va_up_ne _ _ (by omega)]
theorem mg_far {j : Nat} (hj : j < 24 ∨ 28 < j) : mg σ j = m0 σ j := by
  unfold mg
  rw [va_up_ne _ _ (by omega), va_up_ne _ _ (by omega), va_up_ne _ _ (by omega), va_up_ne _ _ (by omega), va_up_ne _ _ (by omega)]
/-- from one command to what is to be settled -/
theorem SR_cmd {kd : Int32} {x : Int32} {σ1 τ1 σ2 τ2 : Nat → Int32} {A1 B1 A2 B2 : Nat → Nat → Int32} {u2 : Nat} (p : CmdPost kd R C 0 x σ1 τ1 A1 B1 σ2 τ2 A2 B2 u2) (h0 : τ1 0 = nI R) (h1 : τ1 1 = nI C) (s1 : σ1 1 = nI R) (s2 : σ1 2 = nI C) (h8 : τ1 8 = σ1 26) (cl : CL τ1 σ1) (t7 : τ1 7 = 0) (s25 : σ1 25 = 0) : SR R C x σ1 τ1 A1 σ2 τ2 A2 B2 := by
  obtain ⟨⟨q1, q2, q3, q4, q5⟩, ⟨q6, q7⟩, q8, q9, q10, q11⟩ := p
  refine ⟨fun j hj => q9 j (by unfold CF; omega), fun j hj => q10 j (by unfold SF; omega), fun j a1 a2 => q11 j ⟨by omega, by omega, by omega⟩, t7, s25, ?_⟩
  have e8 : τ2 8 = σ2 26 := by rw [q6, q7, h8]
  obtain ⟨c1, c2, c3, c4, c5⟩ := cl
  have e28 : σ2 28 = 0 := (q10 28 (by unfold SF; omega)).trans c5
  rcases q8 with ⟨v1, v2, v3, v4, v5⟩ | ⟨v1, v2, v3, v4, v5⟩
  · exact Or.inl ⟨v1, ⟨⟨(q9 0 (by unfold CF; omega)).trans h0, (q9 1 (by unfold CF; omega)).trans h1, (q10 1 (by unfold SF; omega)).trans s1, (q10 2 (by unfold SF; omega)).trans s2⟩, ⟨u2, q2, q4, q3⟩, q5, q1, e8⟩, v2.trans c1, v3.trans c2, v4.trans c3, v5.trans c4, e28⟩
  · exact Or.inr ⟨⟨v1, v2, e8, by rw [v3, v5], by rw [v4, e28]⟩, q1.2.2⟩
theorem CO_run (hd : 9 < d) {X : am_H} (hX : WO X) {x g0 g1 g2 g3 g4 : Int32} : CO d z_Desk_run z_Model_run [.int x, .int g0, .int g1, .int g2, .int g3, .int g4] X := by
  obtain ⟨g, σ, τ, t, A, B, P, R, C, nh, nm, ev, c, PA, KF, rfl, q⟩ := hX
  by_cases hb : 0 ≤ x ∧ x ≤ 12
  · by_cases hf : ev = 60
    · subst hf
      exact co_read (v := .int (-3)) q (fun h hn _ => D_rF hn (by omega) hb q.t5) (fun h hn => m_runF hn (by omega) hb q.s10)
    · have hev : ev < 60 := by have := q.e60; omega
      obtain ⟨⟨t0, t1, s1, s2⟩, ⟨u, hu, t2, s5⟩, s6, hcr, h8⟩ := q.rw
      obtain ⟨kd, hkd, ek⟩ := bt_nat (n := 12) (by omega) hb
      have eN : am_new (mH g σ t A) 5 (am_ia 5 (gv5 g0 g1 g2 g3 g4)) = mH (am_new g 5 (am_ia 5 (gv5 g0 g1 g2 g3 g4))) σ t A := mH_new q.g43
      have q1 := IV_new (n := 5) (x := am_ia 5 (gv5 g0 g1 g2 g3 g4)) q
      have hv : ∀ j, j < 5 → v5 15 g0 g1 g2 g3 g4 A 15 j = bg_τ (cf_τ 22 x (gv5 g0 g1 g2 g3 g4) τ) (22 + (j + 1)) := by
        intro j hj
        have e : v5 15 g0 g1 g2 g3 g4 A 15 = va_up (va_up (va_up (va_up (va_up (A 15) 0 g0) 1 g1) 2 g2) 3 g3) 4 g4 := by
          unfold v5
          exact va_up_self _ _ _
        rw [e]
        match j, hj with
        | 0, _ => rfl
        | 1, _ => rfl
        | 2, _ => rfl
        | 3, _ => rfl
        | 4, _ => rfl
      have vf : ∀ j, j ≠ 15 → v5 15 g0 g1 g2 g3 g4 A j = A j := fun j hj => va_up_ne _ _ hj
      obtain ⟨y, τ2, t2', B2, σ2, A2, u2, k1, k2, k3⟩ := r_cmd (d := d - 1) (dm := d - 1) (h := mH (am_new g 5 (am_ia 5 (gv5 g0 g1 g2 g3 g4))) σ t A) (t := t) (P := P) (e := 0) (σ := mg σ) (τ := bg_τ (cf_τ 22 x (gv5 g0 g1 g2 g3 g4) τ)) (A := v5 15 g0 g1 g2 g3 g4 A) (B := B) (by omega) (by omega) (IV_g15 q1) q.hR q.hC t0 t1 s1 s2 (Or.inr ⟨rfl, rfl⟩) hu t2 s5 s6 (CR_of hcr (vf 0 (by omega)) (vf 1 (by omega))) hv (kd := kd) (by omega) ek
      have sr := SR_cmd k3 t0 t1 s1 s2 rfl ⟨rfl, rfl, rfl, rfl, rfl⟩ rfl rfl
      obtain ⟨z, g3', τ3, B3, P3, σ3, A3, ev3, c3, PA3, KF3, w1, w2, w3, w4, w5⟩ := r_settle (d := d - 1) (dm := d - 1) (σ0 := σ) (t0 := t) (A0 := A) (t2 := t2') (by omega) (by omega) q1 hev (fun j hj => mg_far (by omega)) (fun j hj => by
        rw [bg_far (by omega)]
        unfold cf_τ
        rw [va_up_ne _ _ (by omega), va_up_ne _ _ (by omega), va_up_ne _ _ (by omega), va_up_ne _ _ (by omega), va_up_ne _ _ (by omega), va_up_ne _ _ (by omega)]) (fun j a1 a2 => vf j (by omega)) sr
      rw [← eN] at k1 w1
      refine co_mk (D_r (IV_g15 q) (by omega) hb q.t5 hev k1 w1) (fun h hn => ?_) w3 (by have : (am_new g 5 (am_ia 5 (gv5 g0 g1 g2 g3 g4))).1 = g.1 + 1 := rfl; omega) (by have : (am_new g 5 (am_ia 5 (gv5 g0 g1 g2 g3 g4))).2.1 = g.2.1 + 5 := rfl; omega)
      have kk := k2 h hn
      rw [← ek] at kk
      exact m_run hn (by omega) hb q.s10 hev kk (w2 h hn)
  · exact co_read (v := .int (-1)) q (fun h hn _ => D_rB hn (by omega) hb) (fun h hn => m_runB hn (by omega) hb)
theorem CO_call (hd : 9 < d) {X : am_H} (hX : WO X) {x g0 g1 g2 g3 g4 : Int32} : CO d z_Desk_call z_Model_call [.int x, .int g0, .int g1, .int g2, .int g3, .int g4] X := by
  obtain ⟨g, σ, τ, t, A, B, P, R, C, nh, nm, ev, c, PA, KF, rfl, q⟩ := hX
  by_cases hb : 0 ≤ x ∧ x < nI nh
  · have hbx := hb
    have h40 := q.n40
    have g43 := q.g43
    obtain ⟨m, hm, rfl⟩ := nI_lo (by omega) hb
    obtain ⟨a, b, c9, F, G, p1, ⟨ga, gb, gc⟩, i0, i1, i2, ⟨kd, hkd, ek⟩, hF⟩ := q.ho m hm
    by_cases hf : ev = 60
    · subst hf
      exact co_read (v := .int (-3)) q (fun h hn _ => D_cF hn (by omega) q.t28 q.n40 hm p1 q.t5) (fun h hn => m_callF hn (by omega) q.s12 q.n40 hbx q.s10)
    · have hev : ev < 60 := by have := q.e60; omega
      obtain ⟨⟨t0, t1, s1, s2⟩, ⟨u, hu, t2, s5⟩, s6, hcr, h8⟩ := q.rw
      have eN : am_new (mH g σ t A) 5 (am_ia 5 (gv5 g0 g1 g2 g3 g4)) = mH (am_new g 5 (am_ia 5 (gv5 g0 g1 g2 g3 g4))) σ t A := mH_new q.g43
      have q1 := IV_new (n := 5) (x := am_ia 5 (gv5 g0 g1 g2 g3 g4)) q
      have mm : ∀ {a : Nat} {x : am_C}, 43 ≤ a → am_is g a x → am_is (mH (am_new g 5 (am_ia 5 (gv5 g0 g1 g2 g3 g4))) σ t A) a x := fun h1 h2 => mH_ge (Or.inr h1) h2.new
      have cf := c_hfill (d := d - 1) (h := mH (am_new g 5 (am_ia 5 (gv5 g0 g1 g2 g3 g4))) σ t A) (τ := τ) (t := t) (B := B) (P := P) (q := 12) (o := 22) (e := g.1) (l := 5) (g := gv5 g0 g1 g2 g3 g4) (g' := fun j => if j < 5 then gv5 g0 g1 g2 g3 g4 j else 0) (IV_g15 q1) (by omega) (Or.inr ⟨rfl, rfl⟩) (by omega) (by omega) (by omega) (by omega) (mm ga i0) (mm gb i1) (mm gc i2) (mH_ge (Or.inr g43) (am_is.made (h := g))) (Nat.le_refl _) (fun j _ => rfl)
      obtain ⟨τ1, hτ1⟩ : ∃ τ1, (sp_it (hf_s 22 F G (fun j => if j < 5 then gv5 g0 g1 g2 g3 g4 j else 0)) 0 5 (0, va_up τ 22 (A 5 m))).2 = τ1 := ⟨_, rfl⟩
      rw [hτ1] at cf
      have far : ∀ i, i < 22 ∨ 27 < i → τ1 i = τ i := fun i hi => by
        rw [← hτ1]
        exact (hf_far (by omega) 5 0 _ (by omega)).trans (va_up_ne _ _ (by omega))
      have eo : bg_τ τ1 22 = nI kd := by
        rw [bg_far (by omega), ← hτ1]
        refine (hf_far (by omega) 5 0 _ (by omega)).trans ?_
        show va_up τ 22 (A 5 m) 22 = nI kd
        rw [va_up_self]
        exact ek
      have vf : ∀ j, j ≠ 18 → v5 18 g0 g1 g2 g3 g4 A j = A j := fun j hj => va_up_ne _ _ hj
      have h18 : ∀ j, j < 5 → v5 18 g0 g1 g2 g3 g4 A 18 j = if j < 5 then gv5 g0 g1 g2 g3 g4 j else 0 := by
        intro j hj
        have e : v5 18 g0 g1 g2 g3 g4 A 18 = va_up (va_up (va_up (va_up (va_up (A 18) 0 g0) 1 g1) 2 g2) 3 g3) 4 g4 := by
          unfold v5
          exact va_up_self _ _ _
        rw [e]
        match j, hj with
        | 0, _ => rfl
        | 1, _ => rfl
        | 2, _ => rfl
        | 3, _ => rfl
        | 4, _ => rfl
      have hv : ∀ j, j < 5 → mc_v m (v5 18 g0 g1 g2 g3 g4 A) 15 j = bg_τ τ1 (22 + (j + 1)) := by
        intro j hj
        rw [bg_far (by omega), ← hτ1]
        exact hf_eq (A := v5 18 g0 g1 g2 g3 g4 A) (o := 22) (τ := va_up τ 22 (A 5 m)) (n := m) (F := F) (G := G) (g := fun j => if j < 5 then gv5 g0 g1 g2 g3 g4 j else 0) (fun i hi => by rw [vf 6 (by omega), vf 7 (by omega)]; exact ⟨(hF i hi).1, (hF i hi).2.2.2⟩) h18 j hj
      have mf : ∀ j, j ≠ 15 → j ≠ 18 → mc_v m (v5 18 g0 g1 g2 g3 g4 A) j = A j := fun j h1 h2 => (mc_o h1).trans (vf j h2)
      obtain ⟨y, τ2, t2', B2, σ2, A2, u2, k1, k2, k3⟩ := r_cmd (d := d - 1) (dm := d - 1 - 1) (h := mH (am_new g 5 (am_ia 5 (gv5 g0 g1 g2 g3 g4))) σ t A) (t := t) (P := P) (e := 0) (σ := mg σ) (τ := bg_τ τ1) (A := mc_v m (v5 18 g0 g1 g2 g3 g4 A)) (B := B) (by omega) (by omega) (IV_g15 q1) q.hR q.hC ((bg_far (by omega)).trans ((far 0 (by omega)).trans t0)) ((bg_far (by omega)).trans ((far 1 (by omega)).trans t1)) s1 s2 (Or.inr ⟨rfl, rfl⟩) hu ((bg_far (by omega)).trans ((far 2 (by omega)).trans t2)) s5 (s6.trans ((bg_far (by omega)).trans (far 3 (by omega))).symm) (CR_of hcr (mf 0 (by omega) (by omega)) (mf 1 (by omega) (by omega))) hv hkd eo
      have sr := SR_cmd k3 ((bg_far (by omega)).trans ((far 0 (by omega)).trans t0)) ((bg_far (by omega)).trans ((far 1 (by omega)).trans t1)) s1 s2 rfl ⟨rfl, rfl, rfl, rfl, rfl⟩ rfl rfl
      obtain ⟨z, g3', τ3, B3, P3, σ3, A3, ev3, c3, PA3, KF3, w1, w2, w3, w4, w5⟩ := r_settle (d := d - 1) (dm := d - 1) (σ0 := σ) (t0 := t) (A0 := A) (t2 := t2') (by omega) (by omega) q1 hev (fun j hj => mg_far (by omega)) (fun j hj => (bg_far (by omega)).trans (far j (by omega))) (fun j a1 a2 => mf j (by omega) (by omega)) sr
      rw [← eN] at k1 w1 cf
      refine co_mk (D_c (IV_g15 q) (by omega) q.t28 q.n40 hm p1 (by omega) (mH_ge (Or.inr ga) i0) q.t5 hev cf k1 w1) (fun h hn => ?_) w3 (by have : (am_new g 5 (am_ia 5 (gv5 g0 g1 g2 g3 g4))).1 = g.1 + 1 := rfl; omega) (by have : (am_new g 5 (am_ia 5 (gv5 g0 g1 g2 g3 g4))).2.1 = g.2.1 + 5 := rfl; omega)
      exact m_call hn (by omega) q.s12 q.n40 hbx q.s10 hev (m_calls hn (by omega) (by omega) (x := nI kd) (r := none) (by rw [vf 5 (by omega)]; exact ek) (k2 h hn)) (w2 h hn)
  · exact co_read (v := .int (-1)) q (fun h hn _ => D_cB hn (by omega) q.t28 q.n40 hb) (fun h hn => m_callB hn (by omega) q.s12 q.n40 hb)
theorem HO_mH {n : Nat} (h : HO g P A n) : HO (mH g σ t A) P A n := by
  obtain ⟨a, b, c, F, G, p1, ⟨ga, gb, gc⟩, i0, i1, i2, kd, hF⟩ := h
  exact ⟨a, b, c, F, G, p1, ⟨ga, gb, gc⟩, mH_ge (Or.inr ga) i0, mH_ge (Or.inr gb) i1, mH_ge (Or.inr gc) i2, kd, hF⟩
theorem MO_mH {m : Nat} (h : MO g P A nh m) : MO (mH g σ t A) P A nh m := by
  obtain ⟨a, b, pc, f, p1, ⟨ga, gb, hpc⟩, i0, i1, e12, hkk, hpo⟩ := h
  refine ⟨a, b, pc, f, p1, ⟨ga, gb, hpc⟩, mH_ge (Or.inr ga) i0, mH_ge (Or.inr gb) i1, e12, hkk, fun i hi => ?_⟩
  rcases hpo i hi with ⟨p, o, ao, ew, gp, ip, ho, eo, e⟩ | ⟨p, h9, ah, ga', f', ew, gp, ip, ho, eo, e, ig, e4⟩
  · exact Or.inl ⟨p, o, ao, ew, gp, mH_ge (Or.inr gp) ip, ho, eo, e⟩
  · exact Or.inr ⟨p, h9, ah, ga', f', ew, gp, mH_ge (Or.inr gp.1) ip, ho, eo, e, mH_ge (Or.inr gp.2) ig, e4⟩
theorem CO_play (hd : 61 < d) {X : am_H} (hX : WO X) {x : Int32} : CO d z_Desk_play z_Model_play [.int x] X := by
  obtain ⟨g, σ, τ, t, A, B, P, R, C, nh, nm, ev, c, PA, KF, rfl, q⟩ := hX
  by_cases hb : 0 ≤ x ∧ x < nI nm
  · have hbx := hb
    have h20 := q.n20
    obtain ⟨m, hm, rfl⟩ := nI_lo (by omega) hb
    obtain ⟨am, eam⟩ := IV_mex q m hm
    by_cases hf : ev = 60
    · subst hf
      exact co_read (v := .int (-3)) q (fun h hn _ => D_plF hn (by omega) q.t29 q.n20 hm eam q.t5) (fun h hn => m_playF hn (by omega) q.s16 q.n20 hbx q.s10)
    · have hev : ev < 60 := by have := q.e60; omega
      obtain ⟨⟨t0, t1, s1, s2⟩, ⟨u, hu, t2, s5⟩, s6, hcr, h8⟩ := q.rw
      have rw1 : RW R C (mg σ) (bg_τ τ) A B := ⟨⟨t0, t1, s1, s2⟩, ⟨u, hu, t2, s5⟩, s6, hcr, rfl⟩
      obtain ⟨a, y, τ2, t2', B2, σ2, A2, e1, k1, k2, k3, k4, k5, k6⟩ := r_play (d := d - 1) (dm := d - 1) (h := mH g σ t A) (P := P) (t := t) (by omega) (by omega) (IV_g15 q) q.hR q.hC q.n40 (m := m) (by omega) rw1 ⟨rfl, rfl, rfl, rfl, rfl⟩ rfl (fun n hn => HO_mH (q.ho n hn)) (fun o ho => MO_mH (q.mo o (by omega)))
      have sr : SR R C y (mg σ) (bg_τ τ) A σ2 τ2 A2 B2 := ⟨k4, k5, k6, rfl, rfl, k3⟩
      obtain ⟨z, g3', τ3, B3, P3, σ3, A3, ev3, c3, PA3, KF3, w1, w2, w3, w4, w5⟩ := r_settle (d := d - 1) (dm := d - 1) (σ0 := σ) (t0 := t) (A0 := A) (t2 := t2') (by omega) (by omega) q hev (fun j hj => mg_far (by omega)) (fun j hj => bg_far (by omega)) (fun _ _ _ => rfl) sr
      exact co_mk (D_pl (IV_g15 q) (by omega) q.t29 q.n20 hm e1 q.t5 hev k1 w1) (fun h hn => m_play hn (by omega) q.s16 q.n20 hbx q.s10 hev (k2 h hn) (w2 h hn)) w3 (by omega) (by omega)
  · exact co_read (v := .int (-1)) q (fun h hn _ => D_plB hn (by omega) q.t29 q.n20 hb) (fun h hn => m_playB hn (by omega) q.s16 q.n20 hb)
end W9
