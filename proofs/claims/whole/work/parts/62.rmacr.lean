/-! macros and squeeze, on both sides -/
section W5
variable {d : Nat} {g g2 : am_H} {σ τ σ2 τ2 : Nat → Int32} {t : Int64} {A B A2 B2 : Nat → Nat → Int32} {P P2 : Nat → Nat → Option Nat} {R C nh nm nh2 nm2 ev c c2 : Nat} {PA : Nat → Int32} {KF : Nat → Nat → Int32}
theorem is_fn {a : Nat} {x y : am_C} (h1 : am_is g a x) (h2 : am_is g a y) : x = y := h1.2.symm.trans h2.2
theorem IV_mac (q : IV g σ τ A B P R C nh nm ev c PA KF) {m : Nat} (hm : m < nm) : ∃ (a pc : Nat) (f : Nat → Option Nat), P 2 m = some a ∧ (43 ≤ a ∧ pc ≤ 8) ∧ am_is g a (mc_c (A 8 m) (A 10 m) (A 11 m) (A 9 m) (nI pc) (a + 1)) ∧ am_is g (a + 1) (pa_c f) ∧ A 12 m = nI pc ∧ (A 8 m = 0 ∨ (A 8 m = 1 ∧ ∃ y, y ≤ 9 ∧ A 9 m = nI y) ∨ A 8 m = 2 ∨ A 8 m = 3) ∧ ∀ i, i < pc → PO g P A nh m (8 * m + i) (f i) := by
  obtain ⟨a, b, pc, f, p1, ⟨ga, gb, hpc⟩, i0, i1, e12, hk, hpo⟩ := q.mo m hm
  obtain ⟨k1, k2, k3, k4, p, i2⟩ := q.mb m a hm p1
  have e := is_fn i0 i2
  have eb : b = a + 1 := by
    have e1 := (Prod.mk.inj (Sum.inr.inj e)).2
    have e2 := (List.cons.inj (List.cons.inj (List.cons.inj (List.cons.inj (List.cons.inj (List.cons.inj e1).2).2).2).2).2).1
    exact Value.ref.inj e2
  subst eb
  exact ⟨a, pc, f, p1, ⟨ga, hpc⟩, i0, i1, e12, hk, hpo⟩
theorem mo_mk {m a pc : Nat} {f : Nat → Option Nat} (p1 : P 2 m = some a) (ga : 43 ≤ a ∧ pc ≤ 8) (i0 : am_is g a (mc_c (A 8 m) (A 10 m) (A 11 m) (A 9 m) (nI pc) (a + 1))) (i1 : am_is g (a + 1) (pa_c f)) (e12 : A 12 m = nI pc) (hk : A 8 m = 0 ∨ (A 8 m = 1 ∧ ∃ y, y ≤ 9 ∧ A 9 m = nI y) ∨ A 8 m = 2 ∨ A 8 m = 3) (hpo : ∀ i, i < pc → PO g P A nh m (8 * m + i) (f i)) : MO g P A nh m := ⟨a, a + 1, pc, f, p1, ⟨ga.1, by omega, ga.2⟩, i0, i1, e12, hk, hpo⟩
/-- a macro that is not touched -/
theorem mo_oth (q : IV g σ τ A B P R C nh nm ev c PA KF) {m : Nat} (hm : m < nm) (kp : KP kM g g2) (keep : ∀ a, P 2 m = some a → (∀ x, am_is g a x → am_is g2 a x) ∧ ∀ x, am_is g (a + 1) x → am_is g2 (a + 1) x) (e1 : ∀ n, n < nh → P2 1 n = P 1 n) (e2 : ∀ o, o ≤ m → P2 2 o = P 2 o) (e8 : A2 8 m = A 8 m ∧ A2 9 m = A 9 m ∧ A2 10 m = A 10 m ∧ A2 11 m = A 11 m ∧ A2 12 m = A 12 m) (e13 : ∀ i, i < 8 → A2 13 (8 * m + i) = A 13 (8 * m + i) ∧ ∀ j, j < 4 → A2 14 (4 * (8 * m + i) + j) = A 14 (4 * (8 * m + i) + j)) : MO g2 P2 A2 nh m := by
  obtain ⟨a, pc, f, p1, ga, i0, i1, e12, hk, hpo⟩ := IV_mac q hm
  obtain ⟨k0, k1⟩ := keep a p1
  refine mo_mk ((e2 m (Nat.le_refl _)).trans p1) ga ?_ (k1 _ i1) (e8.2.2.2.2.trans e12) (by rw [e8.1, e8.2.1]; exact hk) (fun i hi => PO_kp (fun _ => rfl) (fun _ => rfl) (hpo i hi) kp (Nat.le_refl _) e1 (fun o ho => e2 o (by omega)) (e13 i (by omega)).1 (e13 i (by omega)).2)
  rw [e8.1, e8.2.1, e8.2.2.1, e8.2.2.2.1]
  exact k0 _ i0
theorem WM_mH {n : Nat} {x : am_C} {f : Nat → Option Nat} (hg : 43 ≤ g.1) : WM (mH g σ t A) n x f = mH (WM g n x f) σ t A := by
  unfold WM
  rw [mH_new hg, mH_new (by show 43 ≤ g.1 + 1; omega)]
theorem CO_macro (hd : 5 < d) {X : am_H} (hX : WO X) {k n m x : Int32} : CO d z_Desk_macro z_Model_macro [.int k, .int n, .int m, .int x] X := by
  obtain ⟨g, σ, τ, t, A, B, P, R, C, nh, nm, ev, c, PA, KF, rfl, q⟩ := hX
  by_cases hb : mm_ok k n m x
  · by_cases hf : nm = 20
    · subst hf
      exact co_read (v := .int (-3)) q (fun h hn _ => D_mF hn hd hb q.t29) (fun h hn => m_macroF hn (by omega) hb q.s16)
    · have hn20 : nm < 20 := by have := q.n20; omega
      have g43 := q.g43
      have hc := D_m (d := d) (t := t) (B := B) (P := P) (IV_g15 (t := t) q) hd hb q.t29 hn20
      rw [WM_mH q.g43, show (mH g σ t A).1 = g.1 from rfl] at hc
      have p1 : va_up P 2 (va_up (P 2) nm (some g.1)) 1 = P 1 := va_up_ne _ _ (by omega)
      have p2 : va_up P 2 (va_up (P 2) nm (some g.1)) 2 = va_up (P 2) nm (some g.1) := va_up_self _ _ _
      have mon : ∀ k9, KP k9 g (WM g 6 (mc_c k m x n 0 (g.1 + 1)) (fun _ => none)) := fun k9 => KP_all (fun a x h => WM_o h)
      have r8 : mm_A nm k n m x A 8 = va_up (A 8) nm k := by unfold mm_A; rw [va_up_ne _ _ (by omega), va_up_ne _ _ (by omega), va_up_ne _ _ (by omega), va_up_ne _ _ (by omega), va_up_self]
      have r9 : mm_A nm k n m x A 9 = va_up (A 9) nm n := by unfold mm_A; rw [va_up_ne _ _ (by omega), va_up_ne _ _ (by omega), va_up_ne _ _ (by omega), va_up_self]
      have r10 : mm_A nm k n m x A 10 = va_up (A 10) nm m := by unfold mm_A; rw [va_up_ne _ _ (by omega), va_up_ne _ _ (by omega), va_up_self]
      have r11 : mm_A nm k n m x A 11 = va_up (A 11) nm x := by unfold mm_A; rw [va_up_ne _ _ (by omega), va_up_self]
      have r12 : mm_A nm k n m x A 12 = va_up (A 12) nm 0 := by unfold mm_A; rw [va_up_self]
      have ro : ∀ j, j < 8 ∨ 12 < j → mm_A nm k n m x A j = A j := fun j hj => by unfold mm_A; rw [va_up_ne _ _ (by omega), va_up_ne _ _ (by omega), va_up_ne _ _ (by omega), va_up_ne _ _ (by omega), va_up_ne _ _ (by omega)]
      refine co_mk hc (fun h hn => m_macro hn (by omega) hb q.s16 hn20) (IV_ext q (mon _) (by show g.1 ≤ g.1 + 1 + 1; omega) (va_up_ne _ _ (by omega)) (fun j hj => ro j (by omega)) (fun j h0 h1 h2 => (va_up_ne _ _ h2).trans (va_up_ne _ _ h0)) (fun j hj => va_up_ne _ _ (by omega)) q.s12 q.t28 q.n40 (va_up_self _ _ _) (va_up_self _ _ _) (by omega) (fun n9 hn9 => ?_) (fun m9 hm9 => ?_) ?_ ?_) (by show g.1 + 1 + 1 ≤ g.1 + 5; omega) (by show g.2.1 + 6 + 8 ≤ g.2.1 + 450; omega)
      · exact HO_kp (k := fun _ => false) (fun _ => rfl) (fun _ => rfl) (fun _ => rfl) (q.ho n9 hn9) (mon _) (by rw [p1]) (by rw [ro 5 (by omega)]) (fun i hi => ⟨by rw [ro 6 (by omega)], by rw [ro 7 (by omega)]⟩)
      · by_cases e : m9 = nm
        · subst e
          refine mo_mk (a := g.1) (pc := 0) (f := fun _ => none) (by rw [p2, va_up_self]) ⟨g43, by omega⟩ ?_ WM_1 (by rw [r12, va_up_self]; rfl) ?_ (fun i hi => absurd hi (by omega))
          · rw [r8, r9, r10, r11, va_up_self, va_up_self, va_up_self, va_up_self]
            exact WM_0
          · rw [r8, r9, va_up_self, va_up_self]
            rcases mm_k hb with z | z | z | z
            · exact Or.inl z
            · obtain ⟨y, hy, ey⟩ := bt_nat (n := 9) (by omega) (hb.2.1 z)
              exact Or.inr (Or.inl ⟨z, y, hy, ey⟩)
            · exact Or.inr (Or.inr (Or.inl z))
            · exact Or.inr (Or.inr (Or.inr z))
        · exact MO_kp (k := fun _ => false) (fun _ => rfl) (fun _ => rfl) (fun _ => rfl) (fun _ => rfl) (q.mo m9 (by omega)) (mon _) (Nat.le_refl _) (fun n9 _ => by rw [p1]) (fun o9 ho9 => by rw [p2, va_up_ne _ _ (by omega)]) ⟨by rw [r8, va_up_ne _ _ e], by rw [r9, va_up_ne _ _ e], by rw [r10, va_up_ne _ _ e], by rw [r11, va_up_ne _ _ e], by rw [r12, va_up_ne _ _ e]⟩ (fun i _ => ⟨by rw [ro 13 (by omega)], fun j _ => by rw [ro 14 (by omega)]⟩)
      · have hlt : ∀ i a, i < nm → P 2 i = some a → a < g.1 := fun i a hi ei => by
          obtain ⟨_, _, _, _, _, i2⟩ := q.mb i a hi ei
          exact i2.1
        rw [p2]
        intro i j a hi hj ei ej
        by_cases e1 : i = nm
        · by_cases e2 : j = nm
          · omega
          · rw [e1, va_up_self] at ei
            rw [va_up_ne _ _ e2] at ej
            have := hlt j a (by omega) ej
            have := Option.some.inj ei
            omega
        · rw [va_up_ne _ _ e1] at ei
          by_cases e2 : j = nm
          · rw [e2, va_up_self] at ej
            have := hlt i a (by omega) ei
            have := Option.some.inj ej
            omega
          · rw [va_up_ne _ _ e2] at ej
            exact q.mi i j a (by omega) (by omega) ei ej
      · rw [p2]
        intro i a hi ei
        by_cases e1 : i = nm
        · rw [e1, va_up_self] at ei
          rw [← Option.some.inj ei]
          exact ⟨_, _, _, _, _, WM_0⟩
        · rw [va_up_ne _ _ e1] at ei
          obtain ⟨k1, k2, k3, k4, p, i2⟩ := q.mb i a (by omega) ei
          exact ⟨k1, k2, k3, k4, p, WM_o i2⟩
  · exact co_read (v := .int (-1)) q (fun h hn _ => D_mB hn hd hb) (fun h hn => m_macroB hn (by omega) hb)
/-- the macro at x is written anew (its cell, its row of parts), g1 holding more than g -/
theorem IV_join (q : IV g σ τ A B P R C nh nm ev c PA KF) {x a pc pc2 : Nat} {f f2 : Nat → Option Nat} {g1 : am_H} (hx : x < nm) (p1 : P 2 x = some a) (ga : 43 ≤ a) (mon : ∀ b z, am_is g b z → am_is g1 b z) (hg : g.1 ≤ g1.1) (i0 : am_is g a (mc_c (A 8 x) (A 10 x) (A 11 x) (A 9 x) (nI pc) (a + 1))) (i1 : am_is g (a + 1) (pa_c f)) (hpc2 : pc2 ≤ 8) (hA : ∀ j, j < 9 ∨ j = 10 ∨ j = 11 → A2 j = A j) (h9 : ∀ m, m ≠ x → A2 9 m = A 9 m ∧ A2 12 m = A 12 m) (h12 : A2 12 x = nI pc2) (h13 : ∀ m i, m ≠ x → i < 8 → A2 13 (8 * m + i) = A 13 (8 * m + i) ∧ ∀ j, j < 4 → A2 14 (4 * (8 * m + i) + j) = A 14 (4 * (8 * m + i) + j)) (hk : A 8 x = 0 ∨ (A 8 x = 1 ∧ ∃ y, y ≤ 9 ∧ A2 9 x = nI y) ∨ A 8 x = 2 ∨ A 8 x = 3) (hpo : ∀ i, i < pc2 → PO (am_up (am_up g1 (a + 1) (pa_c f2)) a (mc_c (A 8 x) (A 10 x) (A 11 x) (A2 9 x) (nI pc2) (a + 1))) P A2 nh x (8 * x + i) (f2 i)) : IV (am_up (am_up g1 (a + 1) (pa_c f2)) a (mc_c (A 8 x) (A 10 x) (A 11 x) (A2 9 x) (nI pc2) (a + 1))) (m0 σ) τ A2 B P R C nh nm ev c PA KF := by
  have j0 := mon _ _ i0
  have j1 := mon _ _ i1
  have kp : KP kM g (am_up (am_up g1 (a + 1) (pa_c f2)) a (mc_c (A 8 x) (A 10 x) (A 11 x) (A2 9 x) (nI pc2) (a + 1))) := ((KP_all mon).tr (KP_up j1 rfl)).tr (KP_up (j0.ne (by omega)) rfl)
  have n1 : am_is (am_up (am_up g1 (a + 1) (pa_c f2)) a (mc_c (A 8 x) (A 10 x) (A 11 x) (A2 9 x) (nI pc2) (a + 1))) a (mc_c (A 8 x) (A 10 x) (A 11 x) (A2 9 x) (nI pc2) (a + 1)) := (j0.ne (by omega)).self
  refine IV_ext q kp hg rfl (fun j hj => hA j (by omega)) (fun j h0 _ _ => va_up_ne _ _ h0) (fun _ _ => rfl) q.s12 q.t28 q.n40 q.s16 q.t29 q.n20 (fun n hn => HO_kp (fun _ => rfl) (fun _ => rfl) (fun _ => rfl) (q.ho n hn) kp rfl (by rw [hA 5 (by omega)]) (fun i _ => ⟨by rw [hA 6 (by omega)], by rw [hA 7 (by omega)]⟩)) (fun m hm => ?_) q.mi (fun m a' hm ea => ?_)
  · by_cases e : m = x
    · subst e
      refine mo_mk p1 ⟨ga, hpc2⟩ ?_ (j1.self.ne (by omega)) h12 (by rw [hA 8 (by omega)]; exact hk) hpo
      rw [hA 8 (by omega), hA 10 (by omega), hA 11 (by omega)]
      exact n1
    · refine mo_oth q hm kp (fun a' ea => ?_) (fun _ _ => rfl) (fun _ _ => rfl) ⟨by rw [hA 8 (by omega)], (h9 m e).1, by rw [hA 10 (by omega)], by rw [hA 11 (by omega)], (h9 m e).2⟩ (fun i hi => h13 m i e hi)
      have hne : a' ≠ a := fun z => e (q.mi m x a hm hx (z ▸ ea) p1)
      obtain ⟨a2, _, f', p1', _, i0', i1', _⟩ := IV_mac q hm
      have ea2 : a2 = a' := Option.some.inj (p1'.symm.trans ea)
      subst ea2
      have h3 : a2 ≠ a + 1 := fun z => by
        subst z
        exact absurd (is_fn i0' i1) (by intro z; cases z)
      have h4 : a2 + 1 ≠ a := fun z => by
        subst z
        exact absurd (is_fn i1' i0) (by intro z; cases z)
      exact ⟨fun y hy => ((mon _ _ hy).ne h3).ne hne, fun y hy => ((mon _ _ hy).ne (by omega)).ne h4⟩
  · by_cases e : m = x
    · subst e
      rw [← Option.some.inj (p1.symm.trans ea)]
      exact ⟨_, _, _, _, _, n1⟩
    · obtain ⟨k1, k2, k3, k4, p, i2⟩ := q.mb m a' hm ea
      have hne : a' ≠ a := fun z => e (q.mi m x a hm hx (z ▸ ea) p1)
      have h3 : a' ≠ a + 1 := fun z => by
        subst z
        exact absurd (is_fn i2 i1) (by intro z; cases z)
      exact ⟨k1, k2, k3, k4, p, ((mon _ _ i2).ne h3).ne hne⟩
theorem CO_times (hd : 5 < d) {X : am_H} (hX : WO X) {x v : Int32} : CO d z_Desk_times z_Model_times [.int x, .int v] X := by
  obtain ⟨g, σ, τ, t, A, B, P, R, C, nh, nm, ev, c, PA, KF, rfl, q⟩ := hX
  by_cases hb : (0 ≤ x ∧ x < nI nm) ∧ A 8 x.toNatClampNeg = 1 ∧ (0 ≤ v ∧ v ≤ 9)
  · obtain ⟨m, hm, rfl⟩ := nI_lo (by have := q.n20; omega) hb.1
    have hk := hb.2.1
    rw [nI_clamp (by have := q.n20; omega)] at hk
    obtain ⟨a, pc, f, p1, ⟨ga, hpc⟩, i0, i1, e12, hkk, hpo⟩ := IV_mac q hm
    have AOa : AO a := Or.inr ga
    have hc := D_t (d := d) (t := t) (B := B) (P := P) (IV_g15 (t := t) q) hd q.t29 q.n20 hm p1 ⟨by omega, by omega⟩ (mH_ge (σ := σ) (t := t) (A := A) AOa i0) (mH_ge (a := a + 1) (Or.inr (by omega)) i1) hpc hk hb.2.2
    rw [mH_far AOa] at hc
    have e9 : ∀ m9, m9 ≠ m → va_up A 9 (va_up (A 9) m v) 9 m9 = A 9 m9 := fun m9 h => by rw [va_up_self, va_up_ne _ _ h]
    have e9m : va_up A 9 (va_up (A 9) m v) 9 m = v := by rw [va_up_self, va_up_self]
    obtain ⟨y, hy, ey⟩ := bt_nat (n := 9) (by omega) hb.2.2
    have eo : ∀ j, j ≠ 9 → va_up A 9 (va_up (A 9) m v) j = A j := fun j hj => va_up_ne _ _ hj
    have J := IV_join (A2 := va_up A 9 (va_up (A 9) m v)) (pc2 := pc) (f2 := f) (g1 := g) q hm p1 ga (fun _ _ h => h) (Nat.le_refl _) i0 i1 hpc (fun j hj => eo j (by omega)) (fun m9 h => ⟨e9 m9 h, by rw [eo 12 (by omega)]⟩) (by rw [eo 12 (by omega)]; exact e12) (fun m9 i _ _ => ⟨by rw [eo 13 (by omega)], fun j _ => by rw [eo 14 (by omega)]⟩) (Or.inr (Or.inl ⟨hk, y, hy, e9m.trans ey⟩)) (fun i hi => ?_)
    · rw [am_up_id (h := g) (a := a + 1) i1.2, e9m] at J
      exact co_mk hc (fun h hn => m_times hn (by omega) q.s16 q.n20 hm hk hb.2.2) J (by show g.1 ≤ g.1 + 5; omega) (by show g.2.1 ≤ g.2.1 + 450; omega)
    · rw [am_up_id (h := g) (a := a + 1) i1.2]
      exact PO_kp (k := kM) (fun _ => rfl) (fun _ => rfl) (hpo i hi) (KP_up i0 rfl) (Nat.le_refl _) (fun _ _ => rfl) (fun _ _ => rfl) (by rw [eo 13 (by omega)]) (fun j _ => by rw [eo 14 (by omega)])
  · refine co_mk (v := .int (-1)) (D_tB (IV_g15 q) hd q.t29 q.n20 (fun m hm => ?_)) (fun h hn => m_timesB hn (by omega) q.s16 q.n20 hb) (IV_m0 q) (by omega) (by omega)
    obtain ⟨a, pc, f, p1, ⟨ga, hpc⟩, i0, i1, e12, hkk, hpo⟩ := IV_mac q hm
    refine ⟨a, A 8 m, _, _, _, _, _, p1, by omega, mH_ge (Or.inr ga) i0, fun ex z => hb ⟨?_, ?_, z.2⟩⟩
    · rw [ex]; exact ⟨nI_le (a := 0) (by omega) (by have := q.n20; omega), nI_lt hm (by have := q.n20; omega)⟩
    · rw [ex, nI_clamp (by have := q.n20; omega)]; exact z.1
theorem pj_mH {a b v pc : Nat} {k1 k2 k3 k4 : Int32} {f : Nat → Option Nat} (ha : AO a) (hb : AO b) : pj_h (mH g σ t A) a b v pc k1 k2 k3 k4 f = mH (pj_h g a b v pc k1 k2 k3 k4 f) σ t A := by
  unfold pj_h
  rw [mH_far hb, mH_far ha]
theorem CO_part (hd : 5 < d) {X : am_H} (hX : WO X) {x y a0 b0 c0 e0 : Int32} : CO d z_Desk_part z_Model_part [.int x, .int y, .int a0, .int b0, .int c0, .int e0] X := by
  obtain ⟨g, σ, τ, t, A, B, P, R, C, nh, nm, ev, c, PA, KF, rfl, q⟩ := hX
  by_cases hb : (0 ≤ x ∧ x < nI nm) ∧ (0 ≤ y ∧ y < nI nh)
  · have h20 := q.n20
    have h40 := q.n40
    have g43 := q.g43
    obtain ⟨m, hm, rfl⟩ := nI_lo (by omega) hb.1
    obtain ⟨hh, hhn, rfl⟩ := nI_lo (by omega) hb.2
    obtain ⟨a, pc, f, p1, ⟨ga, hpc⟩, i0, i1, e12, hkk, hpo⟩ := IV_mac q hm
    obtain ⟨ah, eh⟩ := IV_hex q hh hhn
    have j0 := mH_ge (σ := σ) (t := t) (A := A) (Or.inr ga) i0
    have j1 := mH_ge (σ := σ) (t := t) (A := A) (a := a + 1) (Or.inr (by omega)) i1
    by_cases hf : pc = 8
    · exact co_mk (v := .int (-3)) (D_pF (IV_g15 q) hd q.t29 q.n20 q.t28 q.n40 hm p1 ⟨by omega, by omega⟩ j0 j1 hpc hhn eh hf) (fun h hn => m_partF hn (by omega) q.s16 q.n20 q.s12 q.n40 hm hhn e12 hf) (IV_m0 q) (by omega) (by omega)
    · have hc := D_p (d := d) (t := t) (B := B) (P := P) (g0 := a0) (g1 := b0) (g2 := c0) (g3 := e0) (IV_g15 (t := t) q) hd q.t29 q.n20 q.t28 q.n40 hm p1 ⟨by omega, by omega⟩ j0 j1 hpc hhn eh (by omega)
      rw [mH_new g43, mH_new (by show 43 ≤ g.1 + 1; omega), pj_mH (Or.inr ga) (Or.inr (by omega))] at hc
      have r13 : mp_A m pc (nI hh) a0 b0 c0 e0 A 13 = va_up (A 13) (8 * m + pc) (nI hh) := by unfold mp_A; rw [va_up_ne _ _ (by omega), va_up_ne _ _ (by omega), va_up_self]
      have r14 : mp_A m pc (nI hh) a0 b0 c0 e0 A 14 = va_up (va_up (va_up (va_up (A 14) (4 * (8 * m + pc)) a0) (4 * (8 * m + pc) + 1) b0) (4 * (8 * m + pc) + 2) c0) (4 * (8 * m + pc) + 3) e0 := by unfold mp_A; rw [va_up_ne _ _ (by omega), va_up_self]
      have r12 : mp_A m pc (nI hh) a0 b0 c0 e0 A 12 = va_up (A 12) m (nI (pc + 1)) := by unfold mp_A; rw [va_up_self]
      have ro : ∀ j, j < 12 ∨ 14 < j → mp_A m pc (nI hh) a0 b0 c0 e0 A j = A j := fun j hj => by unfold mp_A; rw [va_up_ne _ _ (by omega), va_up_ne _ _ (by omega), va_up_ne _ _ (by omega)]
      have mon : ∀ b z, am_is g b z → am_is (am_new (am_new g 4 (am_ia 4 (gv4 a0 b0 c0 e0))) 3 (pt_c (.ref ah) .null (.ref g.1))) b z := fun b z h => h.new.new
      have r9 : mp_A m pc (nI hh) a0 b0 c0 e0 A 9 m = A 9 m := by rw [ro 9 (by omega)]
      have a14 : ∀ i, i ≠ 8 * m + pc → ∀ j, j < 4 → mp_A m pc (nI hh) a0 b0 c0 e0 A 14 (4 * i + j) = A 14 (4 * i + j) := fun i hi j hj => by
        rw [r14, va_up_ne _ _ (by omega), va_up_ne _ _ (by omega), va_up_ne _ _ (by omega), va_up_ne _ _ (by omega)]
      have J := IV_join (A2 := mp_A m pc (nI hh) a0 b0 c0 e0 A) (pc2 := pc + 1) (f2 := va_up f pc (some (g.1 + 1))) q hm p1 ga mon (by show g.1 ≤ g.1 + 1 + 1; omega) i0 i1 (by omega) (fun j hj => ro j (by omega)) (fun m9 h => ⟨by rw [ro 9 (by omega)], by rw [r12, va_up_ne _ _ h]⟩) (by rw [r12, va_up_self]) (fun m9 i h hi => ⟨by rw [r13, va_up_ne _ _ (by omega)], fun j hj => a14 _ (by omega) j hj⟩) (by rw [ro 9 (by omega)]; exact hkk) (fun i hi => ?_)
      · rw [r9] at J
        exact co_mk hc (fun h hn => m_part hn (by omega) q.s16 q.n20 q.s12 q.n40 hm hhn e12 (by omega)) J (by show g.1 + 1 + 1 ≤ g.1 + 5; omega) (by show g.2.1 + 4 + 3 ≤ g.2.1 + 450; omega)
      · have kp : KP kM (am_new (am_new g 4 (am_ia 4 (gv4 a0 b0 c0 e0))) 3 (pt_c (.ref ah) .null (.ref g.1))) (am_up (am_up (am_new (am_new g 4 (am_ia 4 (gv4 a0 b0 c0 e0))) 3 (pt_c (.ref ah) .null (.ref g.1))) (a + 1) (pa_c (va_up f pc (some (g.1 + 1))))) a (mc_c (A 8 m) (A 10 m) (A 11 m) (mp_A m pc (nI hh) a0 b0 c0 e0 A 9 m) (nI (pc + 1)) (a + 1))) := (KP_up (mon _ _ i1) rfl).tr (KP_up ((mon _ _ i0).ne (by omega)) rfl)
        by_cases e : i = pc
        · subst e
          rw [va_up_self]
          refine Or.inr ⟨g.1 + 1, hh, ah, g.1, gv4 a0 b0 c0 e0, rfl, ⟨by omega, g43⟩, kp _ _ (am_is.made (h := am_new g 4 (am_ia 4 (gv4 a0 b0 c0 e0)))) rfl, hhn, eh, by rw [r13, va_up_self], kp _ _ (am_is.made (h := g)).new rfl, fun j hj => ?_⟩
          rw [r14]
          match j, hj with
          | 0, _ => rw [va_up_ne _ _ (by omega), va_up_ne _ _ (by omega), va_up_ne _ _ (by omega)]; exact va_up_self _ _ _
          | 1, _ => rw [va_up_ne _ _ (by omega), va_up_ne _ _ (by omega), va_up_self]; rfl
          | 2, _ => rw [va_up_ne _ _ (by omega), va_up_self]; rfl
          | 3, _ => rw [va_up_self]; rfl
        · rw [va_up_ne _ _ e]
          exact PO_kp (fun _ => rfl) (fun _ => rfl) (hpo i (by omega)) ((KP_all mon).tr kp) (Nat.le_refl _) (fun _ _ => rfl) (fun _ _ => rfl) (by rw [r13, va_up_ne _ _ (by omega)]) (fun j hj => a14 _ (by omega) j hj)
  · exact co_read (v := .int (-1)) q (fun h hn _ => D_pB hn hd q.t29 q.n20 q.t28 q.n40 (IV_hex q) (IV_mex q) hb) (fun h hn => m_partB hn (by omega) q.s16 q.n20 q.s12 q.n40 hb)
theorem lt_m1 {x y : Int32} (hx : 0 ≤ x) : y ≤ x - 1 ↔ y < x := by
  have e1 : (1 : Int32).toInt = 1 := by decide
  have e0 : (0 : Int32).toInt = 0 := by decide
  have h1 := Int32.le_iff_toInt_le.mp hx
  have h2 := x.toInt_lt
  rw [Int32.le_iff_toInt_le, Int32.lt_iff_toInt_lt, Int32.toInt_sub, e1, Int.bmod_eq_of_le (by omega) (by omega)]
  omega
theorem CO_nest (hd : 5 < d) {X : am_H} (hX : WO X) {x y : Int32} : CO d z_Desk_nest z_Model_nest [.int x, .int y] X := by
  obtain ⟨g, σ, τ, t, A, B, P, R, C, nh, nm, ev, c, PA, KF, rfl, q⟩ := hX
  by_cases hb : (0 ≤ x ∧ x < nI nm) ∧ (0 ≤ y ∧ y < x)
  · have h20 := q.n20
    have g43 := q.g43
    obtain ⟨m, hm, rfl⟩ := nI_lo (by omega) hb.1
    obtain ⟨o, ho, rfl⟩ := nI_lo (by omega) hb.2
    obtain ⟨a, pc, f, p1, ⟨ga, hpc⟩, i0, i1, e12, hkk, hpo⟩ := IV_mac q hm
    obtain ⟨ao, eo⟩ := IV_mex q o (by omega)
    have j0 := mH_ge (σ := σ) (t := t) (A := A) (Or.inr ga) i0
    have j1 := mH_ge (σ := σ) (t := t) (A := A) (a := a + 1) (Or.inr (by omega)) i1
    by_cases hf : pc = 8
    · exact co_mk (v := .int (-3)) (D_nF (IV_g15 q) hd q.t29 q.n20 hm p1 ⟨by omega, by omega⟩ j0 j1 hpc ho eo hf) (fun h hn => m_nestF hn (by omega) q.s16 q.n20 hm ho e12 hf) (IV_m0 q) (by omega) (by omega)
    · have hc := D_n (d := d) (t := t) (B := B) (P := P) (IV_g15 (t := t) q) hd q.t29 q.n20 hm p1 ⟨by omega, by omega⟩ j0 j1 hpc ho eo (by omega)
      rw [mH_new g43, pj_mH (Or.inr ga) (Or.inr (by omega))] at hc
      have r13 : mn_A m pc o A 13 = va_up (A 13) (8 * m + pc) (nI (100 + o)) := by unfold mn_A; rw [va_up_ne _ _ (by omega), va_up_self]
      have r12 : mn_A m pc o A 12 = va_up (A 12) m (nI (pc + 1)) := by unfold mn_A; rw [va_up_self]
      have ro : ∀ j, j ≠ 12 → j ≠ 13 → mn_A m pc o A j = A j := fun j h1 h2 => by unfold mn_A; rw [va_up_ne _ _ h1, va_up_ne _ _ h2]
      have mon : ∀ b z, am_is g b z → am_is (am_new g 3 (pt_c .null (.ref ao) .null)) b z := fun b z h => h.new
      have r9 : mn_A m pc o A 9 m = A 9 m := by rw [ro 9 (by omega) (by omega)]
      have J := IV_join (A2 := mn_A m pc o A) (pc2 := pc + 1) (f2 := va_up f pc (some g.1)) q hm p1 ga mon (by show g.1 ≤ g.1 + 1; omega) i0 i1 (by omega) (fun j hj => ro j (by omega) (by omega)) (fun m9 h => ⟨by rw [ro 9 (by omega) (by omega)], by rw [r12, va_up_ne _ _ h]⟩) (by rw [r12, va_up_self]) (fun m9 i h hi => ⟨by rw [r13, va_up_ne _ _ (by omega)], fun j hj => by rw [ro 14 (by omega) (by omega)]⟩) (by rw [ro 9 (by omega) (by omega)]; exact hkk) (fun i hi => ?_)
      · rw [r9] at J
        exact co_mk hc (fun h hn => m_nest hn (by omega) q.s16 q.n20 hm ho e12 (by omega)) J (by show g.1 + 1 ≤ g.1 + 5; omega) (by show g.2.1 + 3 ≤ g.2.1 + 450; omega)
      · have kp : KP kM (am_new g 3 (pt_c .null (.ref ao) .null)) (am_up (am_up (am_new g 3 (pt_c .null (.ref ao) .null)) (a + 1) (pa_c (va_up f pc (some g.1)))) a (mc_c (A 8 m) (A 10 m) (A 11 m) (mn_A m pc o A 9 m) (nI (pc + 1)) (a + 1))) := (KP_up (mon _ _ i1) rfl).tr (KP_up ((mon _ _ i0).ne (by omega)) rfl)
        by_cases e : i = pc
        · subst e
          rw [va_up_self]
          exact Or.inl ⟨g.1, o, ao, rfl, g43, kp _ _ (am_is.made (h := g)) rfl, ho, eo, by rw [r13, va_up_self]⟩
        · rw [va_up_ne _ _ e]
          exact PO_kp (fun _ => rfl) (fun _ => rfl) (hpo i (by omega)) ((KP_all mon).tr kp) (Nat.le_refl _) (fun _ _ => rfl) (fun _ _ => rfl) (by rw [r13, va_up_ne _ _ (by omega)]) (fun j hj => by rw [ro 14 (by omega) (by omega)])
  · refine co_read (v := .int (-1)) q (fun h hn _ => D_nB hn hd q.t29 q.n20 (IV_mex q) hb) (fun h hn => m_nestB hn (by omega) q.s16 q.n20 (fun z => hb ⟨z.1, z.2.1, (lt_m1 z.1.1).mp z.2.2⟩))
end W5
