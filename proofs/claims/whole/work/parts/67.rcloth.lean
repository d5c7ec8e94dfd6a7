/-! cloth: on both sides -/
section WA
variable {d : Nat} {g : am_H} {σ τ : Nat → Int32} {t : Int64} {A B : Nat → Nat → Int32} {P : Nat → Nat → Option Nat} {R C nh nm ev c : Nat} {PA : Nat → Int32} {KF : Nat → Nat → Int32} {HC : Nat → Nat}
theorem pl_mH (hP : ∀ j a, j < 60 → P 0 j = some a → AO a) : ∀ (m k : Nat) (g : am_H), k + m = 60 → sp_it (pl_1 P PA HC) k m (mH g σ t A) = mH (sp_it (pl_1 P PA HC) k m g) σ t A
  | 0, _, _, _ => rfl
  | m + 1, k, g, hm => by
    rw [sp_it, sp_it]
    have e : pl_1 P PA HC k (mH g σ t A) = mH (pl_1 P PA HC k g) σ t A := by
      unfold pl_1
      cases h : P 0 k with
      | none => rfl
      | some a => exact mH_far (hP k a (by omega) h)
    rw [e, pl_mH hP m (k + 1) _ (by omega)]
theorem pl_all (hI : NI P) : ∀ (m k : Nat) (g : am_H), k + m = 60 → PL g P PA HC k → (KP kD g (sp_it (pl_1 P PA HC) k m g) ∧ (sp_it (pl_1 P PA HC) k m g).1 = g.1 ∧ (sp_it (pl_1 P PA HC) k m g).2.1 = g.2.1) ∧ (∀ j a y, j < k → P 0 j = some a → am_is g a y → am_is (sp_it (pl_1 P PA HC) k m g) a y) ∧ ∀ j a, k ≤ j → j < 60 → P 0 j = some a → am_is (sp_it (pl_1 P PA HC) k m g) a (nd_c (PA j) 0 (HC j))
  | 0, k, g, hm, _ => ⟨⟨fun _ _ h _ => h, rfl, rfl⟩, fun _ _ _ _ _ h => h, fun j a h1 h2 _ => absurd h1 (by omega)⟩
  | m + 1, k, g, hm, hp => by
    rw [sp_it]
    rcases hp k (Nat.le_refl _) (by omega) with e | ⟨b, th, e, gb, ib⟩
    · have ep : pl_1 P PA HC k g = g := by
        unfold pl_1
        rw [e]
      rw [ep]
      obtain ⟨i1, i2, i3⟩ := pl_all hI m (k + 1) g (by omega) (fun j h1 h2 => hp j (by omega) h2)
      refine ⟨i1, fun j a y h1 => i2 j a y (by omega), fun j a h1 h2 ej => ?_⟩
      by_cases z : j = k
      · subst z; rw [e] at ej; cases ej
      · exact i3 j a (by omega) h2 ej
    · have ep : pl_1 P PA HC k g = am_up g b (nd_c (PA k) 0 (HC k)) := by
        unfold pl_1
        rw [e]
      rw [ep]
      have ne : ∀ j a, j < 60 → j ≠ k → P 0 j = some a → a ≠ b := fun j a hj hk ej z => hk (hI j k b hj (by omega) (z ▸ ej) e)
      obtain ⟨i1, i2, i3⟩ := pl_all hI m (k + 1) (am_up g b (nd_c (PA k) 0 (HC k))) (by omega) (fun j h1 h2 => by
        rcases hp j (by omega) h2 with e9 | ⟨a9, th9, e9, ga9, ia9⟩
        · exact Or.inl e9
        · exact Or.inr ⟨a9, th9, e9, ga9, ia9.ne (ne j a9 h2 (by omega) e9)⟩)
      refine ⟨⟨(KP_up ib rfl).tr i1.1, i1.2⟩, fun j a y h1 ej hy => i2 j a y (by omega) ej (hy.ne (ne j a (by omega) (by omega) ej)), fun j a h1 h2 ej => ?_⟩
      by_cases z : j = k
      · subst z
        have := Option.some.inj (e.symm.trans ej)
        subst this
        exact i2 j b _ (by omega) ej ib.self
      · exact i3 j a (by omega) h2 ej
theorem it_z {i : Nat} {v : Nat → Int32} : ∀ (m k : Nat) (A : Nat → Nat → Int32) (j : Nat), sp_it (fun k A => va_up A i (va_up (A i) k (v k))) k m A i j = if k ≤ j ∧ j < k + m then v j else A i j
  | 0, k, A, j => by rw [if_neg (by omega)]; rfl
  | m + 1, k, A, j => by
    rw [sp_it, it_z m (k + 1), va_up_self]
    by_cases e : j = k
    · subst e
      rw [if_neg (show ¬ (j + 1 ≤ j ∧ j < j + 1 + m) by omega), if_pos (show j ≤ j ∧ j < j + (m + 1) by omega), va_up_self]
    · rw [va_up_ne _ _ e]
      by_cases e3 : k + 1 ≤ j ∧ j < k + 1 + m
      · rw [if_pos e3, if_pos (show k ≤ j ∧ j < k + (m + 1) by omega)]
      · rw [if_neg e3, if_neg (show ¬ (k ≤ j ∧ j < k + (m + 1)) by omega)]
theorem mq_0 {j : Nat} : mq_B R C A 0 j = if j < 300 then 0 else A 0 j := by
  unfold mq_B ms_all
  rw [it_far (j := 0) (fun k A9 => va_up_ne _ _ (by omega)), it_far (j := 0) (fun k A9 => va_up_ne _ _ (by omega)), it_z (i := 0) (v := fun _ => 0)]
  by_cases z : j < 300
  · rw [if_pos z, if_pos (by omega)]
  · rw [if_neg z, if_neg (by omega)]
theorem mq_1 {j : Nat} (hj : j < 100) : mq_B R C A 1 j = am_b (j / 10 < R ∧ j % 10 < C) := by
  unfold mq_B ms_all
  rw [it_far (j := 1) (fun k A9 => va_up_ne _ _ (by omega)), it_z (i := 1) (v := fun k => am_b (k / 10 < R ∧ k % 10 < C)), if_pos (by omega)]
theorem mq_4 {j : Nat} (hj : j < 60) : mq_B R C A 4 j = 0 := by
  unfold mq_B
  rw [it_z (i := 4) (v := fun _ => 0), if_pos (by omega)]
theorem mq_o {j : Nat} (h0 : j ≠ 0) (h1 : j ≠ 1) (h4 : j ≠ 4) : mq_B R C A j = A j := by
  unfold mq_B ms_all
  rw [it_far (fun k A9 => va_up_ne _ _ h4), it_far (fun k A9 => va_up_ne _ _ h1), it_far (fun k A9 => va_up_ne _ _ h0)]
theorem mq_CR {f : Nat → Int32} {A9 : Nat → Nat → Int32} (hR : R ≤ 10) (hC : C ≤ 10) (h0 : A9 0 = mq_B R C A 0) (h1 : A9 1 = mq_B R C A 1) (hA : ∀ j, ∃ y, y < 10 ∧ A 0 j = nI y) : CR R C A9 (sp_newp f 400) := by
  have nw : ∀ r c l, r < 10 → c < 10 → l < 4 → sp_newp f 400 (cx r c l) = if l = 3 then 1 else 0 := fun r c l hr hc hl => by
    unfold sp_newp sp_new
    rw [if_pos (cx_lt hr hc hl)]
    unfold cx
    by_cases z : l = 3
    · rw [if_pos z, if_pos (by omega)]
    · rw [if_neg z, if_neg (by omega)]
  refine CR_of ?_ h0 h1
  refine ⟨fun r c hr hc => ⟨fun l hl => ?_, ?_, ?_⟩, fun r c hr hc hn => ⟨?_, fun l hl => ?_⟩, fun j => ?_⟩
  · rw [mq_0, if_pos (by omega), nw r c l (by omega) (by omega) (by omega), if_neg (by omega)]
  · rw [mq_1 (by omega), nw r c 3 (by omega) (by omega) (by omega), if_pos rfl]
    exact am_b1 (by omega)
  · rw [nw r c 3 (by omega) (by omega) (by omega), if_pos rfl]
    exact Or.inr rfl
  · rw [mq_1 (by omega)]
    exact am_bz (by omega)
  · rw [mq_0, if_pos (by omega)]
  · rw [mq_0]
    by_cases z : j < 300
    · rw [if_pos z]; exact ⟨0, by omega, rfl⟩
    · rw [if_neg z]; exact hA j
theorem CO_cloth (hd : 9 < d) {X : am_H} (hX : WO X) {x y : Int32} : CO d z_Desk_cloth z_Model_cloth [.int x, .int y] X := by
  obtain ⟨g, σ, τ, t, A, B, P, R0, C0, nh, nm, ev, c, PA, KF, rfl, q⟩ := hX
  by_cases hb : (1 ≤ x ∧ x ≤ 10) ∧ (1 ≤ y ∧ y ≤ 10)
  · have b1 : bt 0 x (nI 10) := ⟨Int32.le_trans (by decide) hb.1.1, hb.1.2⟩
    have b2 : bt 0 y (nI 10) := ⟨Int32.le_trans (by decide) hb.2.1, hb.2.2⟩
    obtain ⟨R, hR, rfl⟩ := bt_nat (by omega) b1
    obtain ⟨C, hC, rfl⟩ := bt_nat (by omega) b2
    have R1 : 1 ≤ R := Nat.pos_of_ne_zero (fun z => by
      have z1 := hb.1.1
      rw [z] at z1
      exact absurd z1 (by decide))
    have C1 : 1 ≤ C := Nat.pos_of_ne_zero (fun z => by
      have z1 := hb.2.1
      rw [z] at z1
      exact absurd z1 (by decide))
    have g43 := q.g43
    have g15 := IV_g15 (t := t) q
    have hAO : ∀ j a, j < 60 → P 0 j = some a → AO a := fun j a hj ej => by
      rcases q.no j hj with ⟨e, _⟩ | ⟨a', _, _, _, _, e, gg, _⟩
      · rw [e] at ej; cases ej
      · have := Option.some.inj (e.symm.trans ej)
        subst this
        exact gg.1
    have hPL : PL g P PA (HCk P) 0 := fun j _ hj => by
      rcases q.no j hj with ⟨e, _⟩ | ⟨a', _, _, _, _, e, gg, k0, _⟩
      · exact Or.inl e
      · refine Or.inr ⟨a', cb (¬ A 4 j = 0), e, AO15 gg.1, ?_⟩
        unfold HCk
        rw [e]
        exact k0
    have hPLm : PL (mH g σ t A) P PA (HCk P) 0 := fun j h1 hj => by
      rcases hPL j h1 hj with e | ⟨a, th, e, g0, i⟩
      · exact Or.inl e
      · exact Or.inr ⟨a, th, e, g0, mH_ge (hAO j a hj e) i⟩
    obtain ⟨⟨kp, n1, n2⟩, _, nd⟩ := pl_all q.ni 60 0 g (by omega) hPL
    obtain ⟨gp, hgp⟩ : ∃ gp, sp_it (pl_1 P PA (HCk P)) 0 60 g = gp := ⟨_, rfl⟩
    rw [hgp] at kp n1 n2 nd
    obtain ⟨a, ea, ⟨k0, k1, k2⟩, hh, i0, i1, i2⟩ := IV_a q (k := 0) (by omega) q.t0
    have j0 := nd 0 a (by omega) (by omega) ea
    rw [hh] at j0
    have j1 := kp _ _ i1 rfl
    have j2 := kp _ _ i2 rfl
    have gp15 : 15 ≤ (mH gp σ t A).1 := by show 15 ≤ gp.1; omega
    have hg := c_growS (d := d - 1 - 1) (n := 0) (h := mH gp σ t A) (τ := va_up (va_up (mv_τ (nI R) (nI C) 0 7 τ) 5 0) 4 (-9)) (t := t) (B := va_up B 0 (sp_newp (B 0) 400)) (P := P) gp15 (by omega) rfl (by omega) ea ⟨AO15 k0, AO15 k1, AO15 k2⟩ (mH_ge k0 j0) (mH_ge k1 j1) (mH_ge k2 j2)
    rw [gr_mH k0 k1 k2] at hg
    have hp := c_plant (d := d - 1) (τ := mv_τ (nI R) (nI C) 0 7 τ) (t := t) (B := va_up B 0 (sp_newp (B 0) 400)) g15 (by omega) q.ni hPLm (by rw [pl_mH hAO 60 0 g (by omega), hgp]; exact hg)
    obtain ⟨v0, v1, v2, v3, v4⟩ := gr_is (g := gp) (τ := va_up (va_up (mv_τ (nI R) (nI C) 0 7 τ) 5 0) 4 (-9)) (B := va_up B 0 (sp_newp (B 0) 400)) j0 j1 j2
    have A3o : ∀ j, j ≠ 2 → j ≠ 3 → j ≠ 4 → mq_A R C A j = mq_B R C A j := fun j h2 h3 h4 => by
      unfold mq_A
      rw [keep_far h2, va_up_ne _ _ h4, va_up_ne _ _ h3]
    have A33 : mq_A R C A 3 = va_up (A 3) 0 (-9) := by
      unfold mq_A
      rw [keep_far (by omega), va_up_ne _ _ (by omega), va_up_self, mq_o (by omega) (by omega) (by omega)]
    have A34 : mq_A R C A 4 = va_up (mq_B R C A 4) 0 1 := by
      unfold mq_A
      rw [keep_far (by omega), va_up_self]
    have th : ∀ k, k < 60 → k ≠ 0 → mq_A R C A 4 k = 0 := fun k hk h => by rw [A34, va_up_ne _ _ h, mq_4 hk]
    have th0 : mq_A R C A 4 0 = 1 := by rw [A34, va_up_self]
    have A3k : ∀ j, 5 ≤ j → mq_A R C A j = A j := fun j h => by rw [A3o j (by omega) (by omega) (by omega), mq_o (by omega) (by omega) (by omega)]
    have hcr : CR R C (mq_A R C A) (sp_newp (B 0) 400) := mq_CR hR hC (A3o 0 (by omega) (by omega) (by omega)) (A3o 1 (by omega) (by omega) (by omega)) q.rw.2.2.2.1.2.2
    have kn : CR R C (KA (mq_A R C A) 0) (va_cpy (sp_newp (B 0) 400) (KF 0) 0 0 400) := by
      refine CR_f hR hC (f := sp_newp (B 0) 400) ?_ (fun i hi => cpy_4 hi)
      exact keep_CR hR hC (mq_CR hR hC (by rw [va_up_ne _ _ (by omega), va_up_ne _ _ (by omega)]) (by rw [va_up_ne _ _ (by omega), va_up_ne _ _ (by omega)]) q.rw.2.2.2.1.2.2)
    have k400 : mq_A R C A 2 (402 * 0 + 400) = 0 := by
      unfold mq_A
      rw [keep_2, if_neg (by omega), if_pos rfl]
    have k401 : mq_A R C A 2 (402 * 0 + 401) = 7 := by
      unfold mq_A
      rw [keep_2, if_pos rfl]
    have kpN : KP kN g gp := fun b z h e => kp b z h (by
      cases z with
      | inl _ => rfl
      | inr w =>
        obtain ⟨w1, w2⟩ := w
        unfold kN at e
        unfold kD
        simp only [Bool.or_eq_false_iff] at e
        exact e.1)
    have kpA := kpN.tr v3
    refine co_mk (D_cl g15 (by omega) hb hp) (fun h hn => m_cloth hn (by omega) ⟨R1, hR⟩ ⟨C1, hC⟩) (R2 := R) (C2 := C) (nh2 := nh) (nm2 := nm) (ev2 := 1) (c2 := 0) (PA2 := va_up PA 0 (-9)) (KF2 := va_up KF 0 (va_cpy (sp_newp (B 0) 400) (KF 0) 0 0 400)) ?_ (by show gp.1 ≤ g.1 + 5; omega) (by show gp.2.1 ≤ g.2.1 + 450; omega)
    refine ⟨by show 43 ≤ gp.1; omega, ⟨R1, hR⟩, ⟨C1, hC⟩, ⟨⟨rfl, rfl, rfl, rfl⟩, ⟨0, by omega, rfl, rfl⟩, rfl, ?_, q.rw.2.2.2.2⟩, rfl, rfl, by omega, rfl, rfl, by omega, by rw [th0]; decide, q.s12, q.t28, q.n40, q.s16, q.t29, q.n20, q.o6, q.o7, q.o9, q.o10, fun n hn => HO_kp (k := kN) (fun _ => rfl) (fun _ => rfl) (fun _ => rfl) (q.ho n hn) kpA rfl (by rw [A3k 5 (by omega)]) (fun i _ => ⟨by rw [A3k 6 (by omega)], by rw [A3k 7 (by omega)]⟩), fun m hm => MO_kp (k := kN) (fun _ => rfl) (fun _ => rfl) (fun _ => rfl) (fun _ => rfl) (q.mo m hm) kpA (Nat.le_refl _) (fun _ _ => rfl) (fun _ _ => rfl) ⟨by rw [A3k 8 (by omega)], by rw [A3k 9 (by omega)], by rw [A3k 10 (by omega)], by rw [A3k 11 (by omega)], by rw [A3k 12 (by omega)]⟩ (fun i _ => ⟨by rw [A3k 13 (by omega)], fun j _ => by rw [A3k 14 (by omega)]⟩), q.mi, fun m a' hm ea' => ?_, fun k hk tk => ?_, by rw [th0]; decide, fun k hk => ?_, fun k hk => ?_, fun k hk tk => ?_, fun k a' hk tk ek => ?_, q.ni⟩
    · rw [va_up_self]; exact hcr
    · obtain ⟨k1', k2', k3', k4', p', i'⟩ := q.mb m a' hm ea'
      exact ⟨k1', k2', k3', k4', p', kpA _ _ i' rfl⟩
    · have z : k = 0 := Classical.not_not.mp (fun z => tk (th k hk z))
      subst z
      exact ⟨by omega, Or.inl ⟨rfl, by rw [A33, va_up_self]⟩⟩
    · have z : k = 0 := by omega
      subst z
      exact Or.inl (by rw [A33, va_up_self])
    · by_cases z : k = 0
      · subst z
        refine Or.inr ⟨a, _, _, _, _, ea, ⟨k0, k1, k2⟩, ?_, v1, ?_⟩
        · rw [va_up_self, th0, cb_1 (by decide)]
          exact v0
        · rw [va_up_self]
          exact v2
      · rcases q.no k hk with ⟨e, _⟩ | ⟨a', r, c', u, s, e, gg, l0, l1, l2⟩
        · exact Or.inl ⟨e, th k hk z⟩
        · obtain ⟨z1, z2, z3, z4, z5, z6, z7⟩ := no_apart q (k := 0) (by omega) hk (fun y => z y.symm) ea e
          refine Or.inr ⟨a', r, c', u, s, e, gg, ?_, v4 _ _ z4 (by omega) z6 (kp _ _ l1 rfl), ?_⟩
          · rw [va_up_ne _ _ z, th k hk z, cb_z (fun y => y rfl)]
            have l9 := nd k a' (by omega) hk e
            have hk9 : HCk P k = a' + 1 := by
              unfold HCk
              rw [e]
              rfl
            rw [hk9] at l9
            exact v4 _ _ z1 z2 z3 l9
          · rw [va_up_ne _ _ z]
            exact v4 _ _ z5 z7 (by omega) (kp _ _ l2 rfl)
    · have z : k = 0 := Classical.not_not.mp (fun z => tk (th k hk z))
      subst z
      rw [va_up_self, A33, va_up_self]
    · have z : k = 0 := Classical.not_not.mp (fun z => tk (th k hk z))
      subst z
      have := Option.some.inj (ea.symm.trans ek)
      subst this
      rw [k400, k401, va_up_self]
      exact ⟨v1, ⟨0, by omega, rfl⟩, kn⟩
  · exact co_read (v := .int (-1)) q (fun h hn _ => D_clB hn (by omega) hb) (fun h hn => m_clothB hn (by omega) hb)
end WA
