/-! run, call, play: on both sides -/
section W8
variable {d dm : Nat} {g g2 : am_H} {σ τ σ2 τ2 σ0 : Nat → Int32} {t t2 t0 : Int64} {A B A2 B2 A0 : Nat → Nat → Int32} {P P2 : Nat → Nat → Option Nat} {R C nh nm ev c : Nat} {PA : Nat → Int32} {KF : Nat → Nat → Int32} {x : Int32}
/-- how a run stands before it is settled -/
abbrev SR (R C : Nat) (x : Int32) (σ τ : Nat → Int32) (A : Nat → Nat → Int32) (σ2 τ2 : Nat → Int32) (A2 B2 : Nat → Nat → Int32) : Prop := (FRc τ τ2) ∧ (FRs σ σ2) ∧ (FRA A A2) ∧ (τ 7 = 0) ∧ (σ 25 = 0) ∧ ((x = 0 ∧ RW R C σ2 τ2 A2 B2 ∧ CL τ2 σ2) ∨ (FL x τ2 σ2 ∧ RG A2))
theorem SR.fc {R C : Nat} {x : Int32} {σ τ : Nat → Int32} {A : Nat → Nat → Int32} {σ2 τ2 : Nat → Int32} {A2 B2 : Nat → Nat → Int32} (q : SR R C x σ τ A σ2 τ2 A2 B2) : FRc τ τ2 := q.1
theorem SR.fs {R C : Nat} {x : Int32} {σ τ : Nat → Int32} {A : Nat → Nat → Int32} {σ2 τ2 : Nat → Int32} {A2 B2 : Nat → Nat → Int32} (q : SR R C x σ τ A σ2 τ2 A2 B2) : FRs σ σ2 := q.2.1
theorem SR.fA {R C : Nat} {x : Int32} {σ τ : Nat → Int32} {A : Nat → Nat → Int32} {σ2 τ2 : Nat → Int32} {A2 B2 : Nat → Nat → Int32} (q : SR R C x σ τ A σ2 τ2 A2 B2) : FRA A A2 := q.2.2.1
theorem SR.t7 {R C : Nat} {x : Int32} {σ τ : Nat → Int32} {A : Nat → Nat → Int32} {σ2 τ2 : Nat → Int32} {A2 B2 : Nat → Nat → Int32} (q : SR R C x σ τ A σ2 τ2 A2 B2) : τ 7 = 0 := q.2.2.2.1
theorem SR.s25 {R C : Nat} {x : Int32} {σ τ : Nat → Int32} {A : Nat → Nat → Int32} {σ2 τ2 : Nat → Int32} {A2 B2 : Nat → Nat → Int32} (q : SR R C x σ τ A σ2 τ2 A2 B2) : σ 25 = 0 := q.2.2.2.2.1
theorem SR.w {R C : Nat} {x : Int32} {σ τ : Nat → Int32} {A : Nat → Nat → Int32} {σ2 τ2 : Nat → Int32} {A2 B2 : Nat → Nat → Int32} (q : SR R C x σ τ A σ2 τ2 A2 B2) : (x = 0 ∧ RW R C σ2 τ2 A2 B2 ∧ CL τ2 σ2) ∨ (FL x τ2 σ2 ∧ RG A2) := q.2.2.2.2.2
theorem gr_mH {a hc rc : Nat} {τ : Nat → Int32} {B : Nat → Nat → Int32} {f0 : Nat → Int32} (h1 : AO a) (h2 : AO hc) (h3 : AO rc) : gr_h (mH g σ t A) a hc rc τ B f0 = mH (gr_h g a hc rc τ B f0) σ t A := by
  unfold gr_h
  rw [mH_far h1, mH_far h2, mH_far h3]
theorem NW_mH {n : Nat} (hg : 43 ≤ g.1) : NW (mH g σ t A) n = mH (NW g n) σ t A := by
  unfold NW
  rw [mH_new hg, mH_new (by show 43 ≤ g.1 + 1; omega), mH_new (by show 43 ≤ g.1 + 1 + 1; omega)]
  rfl
/-- the three cells of a node after it was grown -/
theorem gr_is {a : Nat} {p0 th0 r0 c0 u0 s0 : Int32} {f0 : Nat → Int32} {τ : Nat → Int32} {B : Nat → Nat → Int32} (i0 : am_is g a (nd_c p0 th0 (a + 1))) (i1 : am_is g (a + 1) (am_cloth r0 c0 u0 s0 (a + 2))) (i2 : am_is g (a + 2) (am_ia 400 f0)) : am_is (gr_h g a (a + 1) (a + 2) τ B f0) a (nd_c (τ 4) 1 (a + 1)) ∧ am_is (gr_h g a (a + 1) (a + 2) τ B f0) (a + 1) (am_cloth (τ 0) (τ 1) (τ 2) (τ 3) (a + 2)) ∧ am_is (gr_h g a (a + 1) (a + 2) τ B f0) (a + 2) (am_ia 400 (va_cpy (B 0) f0 0 0 400)) ∧ KP kN g (gr_h g a (a + 1) (a + 2) τ B f0) ∧ ∀ b y, b ≠ a → b ≠ a + 1 → b ≠ a + 2 → am_is g b y → am_is (gr_h g a (a + 1) (a + 2) τ B f0) b y := by
  unfold gr_h
  refine ⟨(i0.self.ne (by omega)).ne (by omega), ((i1.ne (by omega)).self).ne (by omega), ((i2.ne (by omega)).ne (by omega)).self, ((KP_up i0 rfl).tr (KP_up (i1.ne (by omega)) rfl)).tr (KP_up ((i2.ne (by omega)).ne (by omega)) rfl), fun b y h1 h2 h3 h => ((h.ne h1).ne h2).ne h3⟩
/-- two nodes have no cell in common -/
theorem no_apart (q : IV g σ τ A B P R C nh nm ev c PA KF) {k j a b : Nat} (hk : k < 60) (hj : j < 60) (hkj : k ≠ j) (ea : P 0 k = some a) (eb : P 0 j = some b) : b ≠ a ∧ b ≠ a + 1 ∧ b ≠ a + 2 ∧ b + 1 ≠ a ∧ b + 2 ≠ a ∧ b + 1 ≠ a + 2 ∧ b + 2 ≠ a + 1 := by
  have hab : b ≠ a := fun z => hkj (q.ni k j a hk hj ea (z ▸ eb))
  have get : ∀ k a, k < 60 → P 0 k = some a → ∃ p th r c u s f, am_is g a (nd_c p th (a + 1)) ∧ am_is g (a + 1) (am_cloth r c u s (a + 2)) ∧ am_is g (a + 2) (am_ia 400 f) := by
    intro k a hk ea
    rcases q.no k hk with ⟨e, _⟩ | ⟨a', r, c, u, s, e, _, k0, k1, k2⟩
    · rw [e] at ea; cases ea
    · have := Option.some.inj (e.symm.trans ea)
      subst this
      exact ⟨_, _, r, c, u, s, _, k0, k1, k2⟩
  obtain ⟨p, th, r, cc, u, s, f, i0, i1, i2⟩ := get k a hk ea
  obtain ⟨p', th', r', cc', u', s', f', j0, j1, j2⟩ := get j b hj eb
  have n51 : ∀ y v w, am_is g y (.inr (5, v)) → am_is g y (.inr (0, w)) → False := fun y v w h1 h2 => by
    have := (Prod.mk.inj (Sum.inr.inj (is_fn h1 h2))).1
    omega
  have nil : ∀ y v w, am_is g y (.inr v) → am_is g y (.inl w) → False := fun y v w h1 h2 => by
    have z := is_fn h1 h2
    cases z
  refine ⟨hab, fun z => ?_, fun z => ?_, fun z => ?_, fun z => ?_, fun z => ?_, fun z => ?_⟩
  · subst z; exact n51 _ _ _ j0 i1
  · subst z; exact nil _ _ _ j0 i2
  · subst z; exact n51 _ _ _ i0 j1
  · subst z; exact nil _ _ _ i0 j2
  · rw [z] at j1; exact nil _ _ _ j1 i2
  · rw [z] at j2; exact nil _ _ _ i1 j2
def SO (d dm : Nat) (x : Int32) (g : am_H) (σ0 : Nat → Int32) (t0 : Int64) (A0 : Nat → Nat → Int32) (τ2 : Nat → Int32) (t2 : Int64) (B2 : Nat → Nat → Int32) (P : Nat → Nat → Option Nat) (σ2 : Nat → Int32) (A2 : Nat → Nat → Int32) (R C nh nm : Nat) : Prop := ∃ (y : Int32) (g3 : am_H) (τ3 : Nat → Int32) (B3 : Nat → Nat → Int32) (P3 : Nat → Nat → Option Nat) (σ3 : Nat → Int32) (A3 : Nat → Nat → Int32) (ev3 c3 : Nat) (PA3 : Nat → Int32) (KF3 : Nat → Nat → Int32), am_m d z_Desk_settle [.ref 0] (dH (mH g σ0 t0 A0) τ2 t2 B2 P) (some (.int y)) (dH (mH g3 σ0 t0 A0) τ3 t2 B3 P3) ∧ (∀ h : am_H, 43 ≤ h.1 → am_m dm z_Model_ends [.ref 18, .int x] (mH h σ2 t2 A2) (some (.int y)) (mH h σ3 t2 A3)) ∧ IV g3 σ3 τ3 A3 B3 P3 R C nh nm ev3 c3 PA3 KF3 ∧ g3.1 ≤ g.1 + 3 ∧ g3.2.1 ≤ g.2.1 + 410
theorem r_settle (hd : 6 < d) (hdm : 0 < dm) (q : IV g σ τ A B P R C nh nm ev c PA KF) (hev : ev < 60) {σ1 τ1 : Nat → Int32} (e1 : ∀ j, j < 5 ∨ (6 < j ∧ j < 24) → σ1 j = m0 σ j) (e2 : ∀ j, j = 0 ∨ j = 1 ∨ j = 4 ∨ j = 5 ∨ 27 < j → τ1 j = τ j) {A1 : Nat → Nat → Int32} (e3 : FRA A A1) (s : SR R C x σ1 τ1 A1 σ2 τ2 A2 B2) : SO d dm x g σ0 t0 A0 τ2 t2 B2 P σ2 A2 R C nh nm := by
  have e60 := q.e60
  have hc := q.hc
  have g43 := q.g43
  have c6 : c < 60 := by omega
  have fA : FRA A A2 := e3.tr s.fA
  have t4 : τ2 4 = nI c := (s.fc 4 (by omega)).trans ((e2 4 (by omega)).trans q.t4)
  have t5 : τ2 5 = nI ev := (s.fc 5 (by omega)).trans ((e2 5 (by omega)).trans q.t5)
  have s10 : σ2 10 = nI ev := (s.fs 10 (by omega)).trans ((e1 10 (by omega)).trans q.s10)
  have s11 : σ2 11 = nI c := (s.fs 11 (by omega)).trans ((e1 11 (by omega)).trans q.s11)
  have s12 : σ2 12 = σ 12 := (s.fs 12 (by omega)).trans (e1 12 (by omega))
  have s16 : σ2 16 = σ 16 := (s.fs 16 (by omega)).trans (e1 16 (by omega))
  have t28 : τ2 28 = τ 28 := (s.fc 28 (by omega)).trans (e2 28 (by omega))
  have t29 : τ2 29 = τ 29 := (s.fc 29 (by omega)).trans (e2 29 (by omega))
  have t7 : τ2 7 = 0 := (s.fc 7 (by omega)).trans s.t7
  have s25 : σ2 25 = 0 := (s.fs 25 (by omega)).trans s.s25
  have g15 : 15 ≤ (mH g σ0 t0 A0).1 := by show 15 ≤ g.1; omega
  have tw : TW (mH g σ0 t0 A0) P (fun k => ¬ A 4 k = 0) PA (HCk P) := by
    intro k hk
    rcases q.no k hk with ⟨e, e2⟩ | ⟨a, r, c, u, s, e, ⟨g0, g1, g2⟩, i0, i1, i2⟩
    · exact Or.inl ⟨e, fun z => z e2⟩
    · refine Or.inr ⟨a, e, AO15 g0, ?_⟩
      have := mH_ge (σ := σ0) (t := t0) (A := A0) g0 i0
      unfold HCk
      rw [e]
      exact this
  obtain ⟨ac, eac, ⟨h0, h1, h2⟩, hh, i0, i1, i2⟩ := IV_a q c6 q.thc
  have j1 : am_is (mH g σ0 t0 A0) (HCk P c) (am_cloth (nI R) (nI C) (A 2 (402 * c + 400)) (A 2 (402 * c + 401)) (ac + 2)) := by rw [hh]; exact mH_ge h1 i1
  have gg : 15 ≤ HCk P c ∧ 15 ≤ ac + 2 := ⟨by rw [hh]; exact AO15 h1, AO15 h2⟩
  rcases s.w with ⟨rfl, rw2, cl⟩ | ⟨fl, rg⟩
  · -- done: a node more
    have fin : ∀ (a : Nat) (g3 : am_H) (P3 : Nat → Nat → Option Nat) (f0 : Nat → Int32), am_m (d - 1) z_Tree_grow [.ref 3, .ref 1] (dH (mH g σ0 t0 A0) (va_up τ2 7 (sp_chg (B2 0) (KF c) R C)) t2 B2 P) (some (.int (nI ev))) (dH (mH g3 σ0 t0 A0) (va_up (va_up (va_up τ2 7 (sp_chg (B2 0) (KF c) R C)) 4 (nI ev)) 5 (nI (ev + 1))) t2 B2 P3) → KP kN g g3 → g.1 ≤ g3.1 → g3.1 ≤ g.1 + 3 → g3.2.1 ≤ g.2.1 + 410 → (∀ k a' y, k < 60 → k ≠ ev → P 0 k = some a' → (am_is g a' y → am_is g3 a' y) ∧ (am_is g (a' + 1) y → am_is g3 (a' + 1) y) ∧ (am_is g (a' + 2) y → am_is g3 (a' + 2) y)) → (∀ k, k ≠ ev → P3 0 k = P 0 k) → P3 0 ev = some a → P3 1 = P 1 → P3 2 = P 2 → (AO a ∧ AO (a + 1) ∧ AO (a + 2)) → am_is g3 a (nd_c (nI c) 1 (a + 1)) → am_is g3 (a + 1) (am_cloth (nI R) (nI C) (σ2 5) (σ2 6) (a + 2)) → am_is g3 (a + 2) (am_ia 400 (va_cpy (B2 0) f0 0 0 400)) → NI P3 → SO d dm 0 g σ0 t0 A0 τ2 t2 B2 P σ2 A2 R C nh nm := fun a g3 P3 f0 hg kp b1 b2 b3 oth p0 p0n p1 p2 ao k0 k1 k2 ni => ⟨nI ev, g3, _, B2, P3, _, _, ev + 1, ev, _, _, D_set0 g15 (by omega) tw c6 q.thc q.hR q.hC rw2.1.1 rw2.1.2.1 gg j1 (mH_ge h2 i2) t4 cl.1 hg, fun h hn => m_ends0 hn hdm s11 s10 hev c6, IV_grow q hev (g3 := g3) (a := a) (f0 := f0) (RW_τ rw2 (fun j hj => by rw [va_up_ne _ _ (by omega), va_up_ne _ _ (by omega), va_up_ne _ _ (by omega)])) fA s12 s16 t28 t29 rfl rfl ⟨cl.2.2.2.1.trans cl.2.1.symm, cl.2.2.2.2.trans cl.2.2.1.symm, cl.1⟩ rfl kp b1 oth p0 p0n p1 p2 ao k0 k1 k2 ni, b2, b3⟩
    have w5 : am_cloth (τ2 0) (τ2 1) (τ2 2) (τ2 3) = am_cloth (nI R) (nI C) (σ2 5) (σ2 6) := by
      obtain ⟨u, _, w1, w2⟩ := rw2.2.1
      rw [rw2.1.1, rw2.1.2.1, w1, w2, rw2.2.2.1]
    rcases q.no ev hev with ⟨e, _⟩ | ⟨a, r9, c9, u9, s9, e, ⟨k0, k1, k2⟩, n0, n1, n2⟩
    · have hg := c_growN (d := d - 1) (h := mH g σ0 t0 A0) (τ := va_up τ2 7 (sp_chg (B2 0) (KF c) R C)) (t := t2) (B := B2) (P := P) g15 (by omega) t5 hev e
      rw [NW_mH g43] at hg
      have hg2 : gr_h (mH (NW g 3) σ0 t0 A0) (mH g σ0 t0 A0).1 ((mH g σ0 t0 A0).1 + 1) ((mH g σ0 t0 A0).1 + 2) (va_up τ2 7 (sp_chg (B2 0) (KF c) R C)) B2 (fun _ => 0) = mH (gr_h (NW g 3) g.1 (g.1 + 1) (g.1 + 2) (va_up τ2 7 (sp_chg (B2 0) (KF c) R C)) B2 (fun _ => 0)) σ0 t0 A0 := gr_mH (Or.inr (by show 43 ≤ g.1; omega)) (Or.inr (by show 43 ≤ g.1 + 1; omega)) (Or.inr (by show 43 ≤ g.1 + 2; omega))
      rw [hg2] at hg
      obtain ⟨v0, v1, v2, v3, v4⟩ := gr_is (g := NW g 3) (a := g.1) (f0 := fun _ => 0) (τ := va_up τ2 7 (sp_chg (B2 0) (KF c) R C)) (B := B2) NW_0 NW_1 NW_2
      have lt : ∀ k a', k < 60 → P 0 k = some a' → a' + 2 < g.1 := fun k a' hk ek => by
        rcases q.no k hk with ⟨z, _⟩ | ⟨a2, _, _, _, _, z, _, _, _, z2⟩
        · rw [z] at ek; cases ek
        · have := Option.some.inj (z.symm.trans ek)
          subst this
          exact z2.1
      refine fin g.1 _ (va_up P 0 (va_up (P 0) ev (some g.1))) (fun _ => 0) hg ((KP_all (fun a x h => NW_o h)).tr v3) (by show g.1 ≤ g.1 + 1 + 1 + 1; omega) (by show g.1 + 1 + 1 + 1 ≤ g.1 + 3; omega) (by show g.2.1 + 3 + 5 + 400 ≤ g.2.1 + 410; omega) (fun k a' y hk hke ek => ?_) (fun k hk => by rw [va_up_self, va_up_ne _ _ hk]) (by rw [va_up_self, va_up_self]) (va_up_ne _ _ (by omega)) (va_up_ne _ _ (by omega)) ⟨Or.inr g43, Or.inr (by omega), Or.inr (by omega)⟩ ?_ ?_ v2 ?_
      · have l := lt k a' hk ek
        exact ⟨fun h => v4 _ _ (by omega) (by omega) (by omega) (NW_o h), fun h => v4 _ _ (by omega) (by omega) (by omega) (NW_o h), fun h => v4 _ _ (by omega) (by omega) (by omega) (NW_o h)⟩
      · rw [← t4]; exact v0
      · have v1' : am_is (gr_h (NW g 3) g.1 (g.1 + 1) (g.1 + 2) (va_up τ2 7 (sp_chg (B2 0) (KF c) R C)) B2 (fun _ => 0)) (g.1 + 1) (am_cloth (τ2 0) (τ2 1) (τ2 2) (τ2 3) (g.1 + 2)) := v1
        rw [w5] at v1'
        exact v1'
      · intro i j a' hi hj ei ej
        rw [va_up_self] at ei ej
        by_cases z1 : i = ev
        · by_cases z2 : j = ev
          · omega
          · rw [z1, va_up_self] at ei
            rw [va_up_ne _ _ z2] at ej
            have := lt j a' hj ej
            have := Option.some.inj ei
            omega
        · rw [va_up_ne _ _ z1] at ei
          by_cases z2 : j = ev
          · rw [z2, va_up_self] at ej
            have := lt i a' hi ei
            have := Option.some.inj ej
            omega
          · rw [va_up_ne _ _ z2] at ej
            exact q.ni i j a' hi hj ei ej
    · have hg := c_growS (d := d - 1) (h := mH g σ0 t0 A0) (τ := va_up τ2 7 (sp_chg (B2 0) (KF c) R C)) (t := t2) (B := B2) (P := P) g15 (by omega) t5 hev e ⟨AO15 k0, AO15 k1, AO15 k2⟩ (mH_ge k0 n0) (mH_ge k1 n1) (mH_ge k2 n2)
      rw [gr_mH k0 k1 k2] at hg
      obtain ⟨v0, v1, v2, v3, v4⟩ := gr_is (τ := va_up τ2 7 (sp_chg (B2 0) (KF c) R C)) (B := B2) n0 n1 n2
      refine fin a _ P (KF ev) hg v3 (Nat.le_refl _) (by show g.1 ≤ g.1 + 3; omega) (by show g.2.1 ≤ g.2.1 + 410; omega) (fun k a' y hk hke ek => ?_) (fun _ _ => rfl) e rfl rfl ⟨k0, k1, k2⟩ ?_ ?_ v2 q.ni
      · obtain ⟨z1, z2, z3, z4, z5, z6, z7⟩ := no_apart q hev hk (fun z => hke z.symm) e ek
        exact ⟨fun h => v4 _ _ z1 z2 z3 h, fun h => v4 _ _ z4 (by omega) z6 h, fun h => v4 _ _ z5 z7 (by omega) h⟩
      · rw [← t4]; exact v0
      · have v1' : am_is (gr_h g a (a + 1) (a + 2) (va_up τ2 7 (sp_chg (B2 0) (KF c) R C)) B2 (KF ev)) (a + 1) (am_cloth (τ2 0) (τ2 1) (τ2 2) (τ2 3) (a + 2)) := v1
        rw [w5] at v1'
        exact v1'
  · -- failed: all as it was
    have h6 : ¬ τ2 6 = 0 := by
      rw [fl.2.1]
      exact fun z => absurd (z ▸ fl.1) (by decide)
    have A22 : A2 2 = A 2 := fA 2 (by omega) (by omega)
    refine ⟨-5, g, _, _, P, _, ms_bec c A2, ev, c, PA, KF, D_setF g15 (by omega) tw c6 q.thc gg j1 (mH_ge h2 i2) t4 h6, fun h hn => m_endsF hn hdm fl.1 s11 c6, ?_, by omega, by omega⟩
    have hcr := (q.kc c ac c6 q.thc eac)
    have e2' : ms_bec c A2 2 = A 2 := (bec_far (by omega)).trans A22
    have rw3 : RW R C (va_up (va_up (va_up σ2 24 x) 5 (ms_bec c A2 2 (402 * c + 400))) 6 (ms_bec c A2 2 (402 * c + 401))) (mv_τ (nI R) (nI C) (A 2 (402 * c + 400)) (A 2 (402 * c + 401)) τ2) (ms_bec c A2) (va_up B2 0 (va_cpy (KF c) (B2 0) 0 0 400)) := by
      obtain ⟨u, hu, eu⟩ := hcr.2.1
      refine ⟨⟨rfl, rfl, ?_, ?_⟩, ⟨u, hu, eu, ?_⟩, ?_, ?_, ?_⟩
      · exact (s.fs 1 (by omega)).trans ((e1 1 (by omega)).trans q.rw.1.2.2.1)
      · exact (s.fs 2 (by omega)).trans ((e1 2 (by omega)).trans q.rw.1.2.2.2)
      · rw [va_up_ne _ _ (by omega), va_up_self, e2']
        exact eu
      · rw [va_up_self, e2']
        rfl
      · rw [va_up_self]
        have hk : CR R C (KA A2 c) (KF c) := by rw [KA_of A22]; exact hcr.2.2
        exact CR_bec q.hR.2 q.hC.2 hk rg
      · exact fl.2.2.1
    exact IV_mk q rw3 (fA.tr bec_FRA) ⟨s10.trans q.s10.symm, s12, s16⟩ ⟨t5.trans q.t5.symm, t28, t29⟩ s11 t4 hc q.thc ⟨fl.2.1.symm, s25.trans t7.symm, fl.2.2.2.1.symm, fl.2.2.2.2.symm⟩
end W8
