/-! squeeze; a run settled: on both sides -/
def kD : am_C → Bool
  | .inr (c, _) => Nat.beq c 5
  | .inl _ => false
section W6
variable {d dm : Nat} {g g2 : am_H} {σ τ σ2 τ2 : Nat → Int32} {t t2 : Int64} {A B A2 B2 : Nat → Nat → Int32} {P P2 : Nat → Nat → Option Nat} {R C nh nm ev c : Nat} {PA : Nat → Int32} {KF : Nat → Nat → Int32}
theorem CO_squeeze (hd : 5 < d) {X : am_H} (hX : WO X) {x : Int32} : CO d z_Desk_squeeze z_Model_squeeze [.int x] X := by
  obtain ⟨g, σ, τ, t, A, B, P, R, C, nh, nm, ev, c, PA, KF, rfl, q⟩ := hX
  by_cases hx : ∃ k, k < 60 ∧ x = nI k ∧ ¬ A 4 k = 0
  · obtain ⟨k, hk, rfl, tk⟩ := hx
    have em := IV_mu q (x := nI k)
    have e60 := q.e60
    by_cases hb : ¬ k = 0 ∧ ¬ nI k = τ 4 ∧ sp_it (fun j (y : Int32) => y + cb (¬ A 4 j = 0 ∧ PA j = nI k)) 0 60 0 = 1
    · obtain ⟨pp, hpp, epp, tpp⟩ := ((q.wf k hk tk).2).resolve_left (fun z => hb.1 z.1)
      have hcn := hb.2.2
      rw [cn_it (p := fun j => ¬ A 4 j = 0 ∧ PA j = nI k)] at hcn
      have hcn1 : cn (fun j => ¬ A 4 j = 0 ∧ PA j = nI k) 60 = 1 := nI_ij (by have := cn_le (fun j => ¬ A 4 j = 0 ∧ PA j = nI k) 60; omega) (by omega) hcn
      have uni : ∀ i j, i < 60 → j < 60 → (¬ A 4 i = 0 ∧ PA i = nI k) → (¬ A 4 j = 0 ∧ PA j = nI k) → i = j := by
        intro i j hi hj pi pj
        rcases Nat.lt_trichotomy i j with z | z | z
        · have := cn_2 (p := fun j => ¬ A 4 j = 0 ∧ PA j = nI k) 60 i j z hj pi pj
          omega
        · exact z
        · have := cn_2 (p := fun j => ¬ A 4 j = 0 ∧ PA j = nI k) 60 j i z hi pj pi
          omega
      obtain ⟨p, hp, tp, ep, eh⟩ : ∃ p, p < 60 ∧ ¬ A 4 p = 0 ∧ PA p = nI k ∧ hu (fun k => ¬ A 4 k = 0) PA (nI k) 60 = nI p := by
        rcases hu_ex (TH := fun k => ¬ A 4 k = 0) (PA := PA) (x := nI k) 60 with e | z
        · exfalso
          have nn : ∀ n, n ≤ 60 → hu (fun k => ¬ A 4 k = 0) PA (nI k) n = -9 → cn (fun j => ¬ A 4 j = 0 ∧ PA j = nI k) n = 0 := by
            intro n
            induction n with
            | zero => intro _ _; rfl
            | succ n ih =>
              intro hn h9
              by_cases z : ¬ A 4 n = 0 ∧ PA n = nI k
              · rw [show hu (fun k => ¬ A 4 k = 0) PA (nI k) (n + 1) = nI n from @if_pos _ (Classical.propDecidable _) z _ _ _] at h9
                exact absurd h9 (nI_m9 (by omega))
              · rw [show hu (fun k => ¬ A 4 k = 0) PA (nI k) (n + 1) = hu (fun k => ¬ A 4 k = 0) PA (nI k) n from @if_neg _ (Classical.propDecidable _) z _ _ _] at h9
                show cn (fun j => ¬ A 4 j = 0 ∧ PA j = nI k) n + @ite _ (¬ A 4 n = 0 ∧ PA n = nI k) (Classical.propDecidable _) 1 0 = 0
                rw [ih (by omega) h9, @if_neg _ (Classical.propDecidable _) z]
          have := nn 60 (Nat.le_refl _) e
          omega
        · exact z
      obtain ⟨a, ea, ⟨g0, g1, g2⟩, hh, i0, i1, i2⟩ := IV_a q hk tk
      obtain ⟨b, eb, ⟨g0', g1', g2'⟩, hh', j0, j1, j2⟩ := IV_a q hp tp
      have a3p : A 3 p = nI k := (q.pa p hp tp).symm.trans ep
      have hkp : k < p := by
        rcases (q.wf p hp tp).2 with ⟨_, z⟩ | ⟨p', hp', z, _⟩
        · exact absurd (a3p.symm.trans z) (nI_m9 (by omega))
        · have := nI_ij (by omega) (by omega) (a3p.symm.trans z)
          omega
      have hab : a ≠ b := fun z => by
        have := q.ni k p a hk hp ea (z ▸ eb)
        omega
      have pak : PA k = A 3 k := q.pa k hk tk
      have co := c_out (d := d - 1) (τ := τ) (t := t) (B := B) (IV_g15 (t := t) q) (IV_tw q) (by omega) hk tk ea (AO15 g0) (by rw [hh]; exact mH_ge g0 i0) hp tp eb (AO15 g0') (by rw [hh']; exact mH_ge g0' j0) hab eh
      rw [mH_far g0', mH_far g0, hh, hh', cb_1 tp] at co
      have kp : KP kD g (am_up (am_up g b (nd_c (PA k) 1 (b + 1))) a (nd_c (PA k) 0 (a + 1))) := (KP_up j0 rfl).tr (KP_up (i0.ne hab) rfl)
      have b3 : va_up (va_up A 3 (va_up (A 3) p (A 3 k))) 4 (va_up (A 4) k 0) 3 = va_up (A 3) p (A 3 k) := by rw [va_up_ne _ _ (by omega), va_up_self]
      have b4 : va_up (va_up A 3 (va_up (A 3) p (A 3 k))) 4 (va_up (A 4) k 0) 4 = va_up (A 4) k 0 := va_up_self _ _ _
      have bo : ∀ j, j ≠ 3 → j ≠ 4 → va_up (va_up A 3 (va_up (A 3) p (A 3 k))) 4 (va_up (A 4) k 0) j = A j := fun j h1 h2 => by rw [va_up_ne _ _ h2, va_up_ne _ _ h1]
      have t4k : ∀ j, ¬ va_up (A 4) k 0 j = 0 → j ≠ k ∧ ¬ A 4 j = 0 := fun j h => by
        by_cases e : j = k
        · subst e; rw [va_up_self] at h; exact absurd rfl h
        · rw [va_up_ne _ _ e] at h; exact ⟨e, h⟩
      have hck : c ≠ k := fun z => hb.2.1 (by rw [q.t4, z])
      have rest : IV (am_up (am_up g b (nd_c (PA k) 1 (b + 1))) a (nd_c (PA k) 0 (a + 1))) (m0 σ) τ (va_up (va_up A 3 (va_up (A 3) p (A 3 k))) 4 (va_up (A 4) k 0)) B P R C nh nm ev c (va_up PA p (PA k)) KF := by
        refine ⟨q.g43, q.hR, q.hC, RW_rows q.rw (bo 0 (by omega) (by omega)) (bo 1 (by omega) (by omega)), q.s10, q.t5, q.e60, q.s11, q.t4, q.hc, by rw [b4, va_up_ne _ _ hck]; exact q.thc, q.s12, q.t28, q.n40, q.s16, q.t29, q.n20, q.o6, q.o7, q.o9, q.o10, fun n hn => HO_kp (k := kD) (fun _ => rfl) (fun _ => rfl) (fun _ => rfl) (q.ho n hn) kp rfl (by rw [bo 5 (by omega) (by omega)]) (fun i _ => ⟨by rw [bo 6 (by omega) (by omega)], by rw [bo 7 (by omega) (by omega)]⟩), fun m hm => MO_kp (k := kD) (fun _ => rfl) (fun _ => rfl) (fun _ => rfl) (fun _ => rfl) (q.mo m hm) kp (Nat.le_refl _) (fun _ _ => rfl) (fun _ _ => rfl) ⟨by rw [bo 8 (by omega) (by omega)], by rw [bo 9 (by omega) (by omega)], by rw [bo 10 (by omega) (by omega)], by rw [bo 11 (by omega) (by omega)], by rw [bo 12 (by omega) (by omega)]⟩ (fun i _ => ⟨by rw [bo 13 (by omega) (by omega)], fun j _ => by rw [bo 14 (by omega) (by omega)]⟩), q.mi, fun m a' hm ea' => ?_, ?_, by rw [b4, va_up_ne _ _ (fun z => hb.1 z.symm)]; exact q.t0, ?_, fun j hj => ?_, ?_, ?_, q.ni⟩
        · obtain ⟨k1, k2, k3, k4, p9, i9⟩ := q.mb m a' hm ea'
          exact ⟨k1, k2, k3, k4, p9, kp _ _ i9 rfl⟩
        · rw [b3, b4]
          intro j hj tj
          obtain ⟨j1, j2⟩ := t4k j tj
          refine ⟨(q.wf j hj j2).1, ?_⟩
          by_cases e : j = p
          · subst e
            rw [va_up_self]
            refine Or.inr ⟨pp, by omega, epp, ?_⟩
            rw [va_up_ne _ _ (by omega)]
            exact tpp
          · rw [va_up_ne _ _ e]
            rcases (q.wf j hj j2).2 with z | ⟨p', hp', z, tp'⟩
            · exact Or.inl z
            · refine Or.inr ⟨p', hp', z, ?_⟩
              have : p' ≠ k := fun y => by
                subst y
                exact e (uni j p hj hp ⟨j2, (q.pa j hj j2).trans z⟩ ⟨tp, ep⟩)
              rw [va_up_ne _ _ this]
              exact tp'
        · rw [b3]
          intro j hj
          by_cases e : j = p
          · subst e
            rw [va_up_self]
            exact Or.inr ⟨pp, by omega, epp⟩
          · rw [va_up_ne _ _ e]
            exact q.mw j hj
        · have tw : ∀ j', j' ≠ k → va_up (A 4) k 0 j' = A 4 j' := fun j' h => va_up_ne _ _ h
          rcases q.no j hj with ⟨e, e2⟩ | ⟨a', r, c', u, s, e, gg, k0, k1, k2⟩
          · refine Or.inl ⟨e, ?_⟩
            rw [b4]
            by_cases z : j = k
            · rw [z, va_up_self]
            · rw [tw j z]; exact e2
          · refine Or.inr ⟨a', r, c', u, s, e, gg, ?_, kp _ _ k1 rfl, kp _ _ k2 rfl⟩
            rw [b4]
            by_cases z : j = k
            · have ea9 : a' = a := Option.some.inj (e.symm.trans (z ▸ ea))
              rw [ea9, z, va_up_self, va_up_ne _ _ (by omega), cb_z (fun y => y rfl)]
              exact (i0.ne hab).self
            · rw [tw j z]
              have na : a' ≠ a := fun y => z (q.ni j k a hj hk (y ▸ e) ea)
              by_cases z2 : j = p
              · have eb9 : a' = b := Option.some.inj (e.symm.trans (z2 ▸ eb))
                rw [eb9, z2, va_up_self, cb_1 tp]
                exact (j0.self).ne (fun y => hab y.symm)
              · have nb9 : a' ≠ b := fun y => z2 (q.ni j p b hj hp (y ▸ e) eb)
                rw [va_up_ne _ _ z2]
                exact (k0.ne nb9).ne na
        · rw [b3, b4]
          intro j hj tj
          obtain ⟨j1, j2⟩ := t4k j tj
          by_cases e : j = p
          · subst e
            rw [va_up_self, va_up_self]
            exact pak
          · rw [va_up_ne _ _ e, va_up_ne _ _ e]
            exact q.pa j hj j2
        · rw [b4, bo 2 (by omega) (by omega), show KA (va_up (va_up A 3 (va_up (A 3) p (A 3 k))) 4 (va_up (A 4) k 0)) = KA A from funext fun k9 => KA_of (bo 2 (by omega) (by omega))]
          intro j a' hj tj ej
          obtain ⟨j1, j2⟩ := t4k j tj
          obtain ⟨v1, v2⟩ := q.kc j a' hj j2 ej
          exact ⟨kp _ _ v1 rfl, v2⟩
      refine co_mk (D_sq (IV_g15 q) hd (IV_tw q) hk tk hb co) (fun h hn => ?_) rest (by show g.1 ≤ g.1 + 5; omega) (by show g.2.1 ≤ g.2.1 + 450; omega)
      have e9 := m_sqz (d := d) (h := h) (σ := σ) (t := t) (A := A) hn (by omega) q.s10 q.e60 (q.wf k hk tk).1 tk ⟨fun z => hb.2.1 (by rw [q.t4, ← q.s11]; exact z), fun z => nI_m9 (by omega) (epp.symm.trans z), by rw [em]; exact hb.2.2⟩ (p := p) (by rw [em]; exact eh) hp
      rw [em, show (sp_it (fun j (y : Int32) => y + cb (¬ A 4 j = 0 ∧ PA j = nI k)) 0 60 0, hu (fun k => ¬ A 4 k = 0) PA (nI k) 60).2 = nI p from eh] at e9
      exact e9
    · refine co_read (v := .int (-2)) q (fun h hn hw => D_sqS hn hd hw hk tk hb) (fun h hn => m_sqzS hn (by omega) q.s10 q.e60 (q.wf k hk tk).1 tk (fun z => hb ⟨fun y => ?_, fun y => z.1 (by rw [q.s11, ← q.t4]; exact y), by have := z.2.2; rw [em] at this; exact this⟩))
      subst y
      rcases (q.wf 0 (by omega) tk).2 with w | ⟨p', hp', _⟩
      · exact z.2.1 w.2
      · omega
  · obtain ⟨b1, b2⟩ := IV_bad q hx
    exact co_read (v := .int (-1)) q (fun h hn hw => D_sqN hn hd hw b1) (fun h hn => m_sqzB hn (by omega) q.s10 q.e60 b2)
end W6
