/-! told, go, undo, redo, on both sides -/
section W3
variable {d : Nat} {g : am_H} {σ τ σ2 τ2 : Nat → Int32} {t : Int64} {A B A2 B2 : Nat → Nat → Int32} {P : Nat → Nat → Option Nat} {R C nh nm ev c c2 : Nat} {PA : Nat → Int32} {KF : Nat → Nat → Int32}
theorem NO_of {k : Nat} (h : NO g P A PA KF k) (e : A2 4 = A 4) : NO g P A2 PA KF k := by
  unfold NO at h ⊢
  rw [e]
  exact h
theorem KA_of {k : Nat} (e : A2 2 = A 2) : KA A2 k = KA A k := by
  unfold KA
  rw [e]
/-- the same heap, other ints and rows -/
theorem IV_mk (q : IV g σ τ A B P R C nh nm ev c PA KF) (rw2 : RW R C σ2 τ2 A2 B2) (hA : FRA A A2) (a1 : σ2 10 = σ 10 ∧ σ2 12 = σ 12 ∧ σ2 16 = σ 16) (a2 : τ2 5 = τ 5 ∧ τ2 28 = τ 28 ∧ τ2 29 = τ 29) (s11 : σ2 11 = nI c2) (t4 : τ2 4 = nI c2) (hc : c2 < ev) (thc : ¬ A 4 c2 = 0) (o : σ2 24 = τ2 6 ∧ σ2 25 = τ2 7 ∧ σ2 27 = τ2 9 ∧ σ2 28 = τ2 10) : IV g σ2 τ2 A2 B2 P R C nh nm ev c2 PA KF := by
  have e2 := hA 2 (by omega) (by omega)
  have e3 := hA 3 (by omega) (by omega)
  have e4 := hA 4 (by omega) (by omega)
  refine ⟨q.g43, q.hR, q.hC, rw2, a1.1.trans q.s10, a2.1.trans q.t5, q.e60, s11, t4, hc, by rw [e4]; exact thc, a1.2.1.trans q.s12, a2.2.1.trans q.t28, q.n40, a1.2.2.trans q.s16, a2.2.2.trans q.t29, q.n20, o.1, o.2.1, o.2.2.1, o.2.2.2, fun n hn => HO_of (q.ho n hn) (hA 5 (by omega) (by omega)) (hA 6 (by omega) (by omega)) (hA 7 (by omega) (by omega)), fun m hm => MO_of (q.mo m hm) hA, q.mi, q.mb, ?_, by rw [e4]; exact q.t0, by rw [e3]; exact q.mw, fun k hk => NO_of (q.no k hk) e4, ?_, ?_, q.ni⟩
  · rw [e3, e4]; exact q.wf
  · rw [e3, e4]; exact q.pa
  · intro k a hk tk ek
    rw [e4] at tk
    rw [e2, KA_of e2]
    exact q.kc k a hk tk ek
theorem bec_far {n j : Nat} (hj : j ≠ 0 ∧ j ≠ 1) : ms_bec n A j = A j := by
  unfold ms_bec
  rw [it_far (fun k A9 => va_up_ne _ _ hj.2), it_far (fun k A9 => va_up_ne _ _ hj.1)]
theorem bec_0a {n : Nat} : ∀ (m k : Nat) (A : Nat → Nat → Int32) (j : Nat), sp_it (fun k A => va_up A 0 (va_up (A 0) k (A 2 (402 * n + k)))) k m A 0 j = if k ≤ j ∧ j < k + m then A 2 (402 * n + j) else A 0 j
  | 0, k, A, j => by rw [if_neg (by omega)]; rfl
  | m + 1, k, A, j => by
    rw [sp_it, bec_0a m (k + 1)]
    have e0 : va_up A 0 (va_up (A 0) k (A 2 (402 * n + k))) 0 = va_up (A 0) k (A 2 (402 * n + k)) := va_up_self _ _ _
    have e2 : va_up A 0 (va_up (A 0) k (A 2 (402 * n + k))) 2 = A 2 := va_up_ne _ _ (by omega)
    rw [e0, e2]
    by_cases e : j = k
    · subst e
      rw [if_neg (by omega), if_pos (by omega), va_up_self]
    · rw [va_up_ne _ _ e]
      by_cases e3 : k + 1 ≤ j ∧ j < k + 1 + m
      · rw [if_pos e3, if_pos (by omega)]
      · rw [if_neg e3, if_neg (by omega)]
theorem bec_1a {n : Nat} : ∀ (m k : Nat) (A : Nat → Nat → Int32) (j : Nat), sp_it (fun k A => va_up A 1 (va_up (A 1) k (am_b (A 2 (402 * n + 300 + k) = 1)))) k m A 1 j = if k ≤ j ∧ j < k + m then am_b (A 2 (402 * n + 300 + j) = 1) else A 1 j
  | 0, k, A, j => by rw [if_neg (by omega)]; rfl
  | m + 1, k, A, j => by
    rw [sp_it, bec_1a m (k + 1)]
    have e0 : va_up A 1 (va_up (A 1) k (am_b (A 2 (402 * n + 300 + k) = 1))) 1 = va_up (A 1) k (am_b (A 2 (402 * n + 300 + k) = 1)) := va_up_self _ _ _
    have e2 : va_up A 1 (va_up (A 1) k (am_b (A 2 (402 * n + 300 + k) = 1))) 2 = A 2 := va_up_ne _ _ (by omega)
    rw [e0, e2]
    by_cases e : j = k
    · subst e
      rw [if_neg (show ¬ (j + 1 ≤ j ∧ j < j + 1 + m) by omega), if_pos (show j ≤ j ∧ j < j + (m + 1) by omega), va_up_self]
    · rw [va_up_ne _ _ e]
      by_cases e3 : k + 1 ≤ j ∧ j < k + 1 + m
      · rw [if_pos e3, if_pos (show k ≤ j ∧ j < k + (m + 1) by omega)]
      · rw [if_neg e3, if_neg (show ¬ (k ≤ j ∧ j < k + (m + 1)) by omega)]
theorem bec_0 {n j : Nat} : ms_bec n A 0 j = if j < 300 then A 2 (402 * n + j) else A 0 j := by
  unfold ms_bec
  rw [it_far (j := 0) (fun k A9 => va_up_ne _ _ (by omega)), bec_0a]
  by_cases z : j < 300
  · rw [if_pos z, if_pos (by omega)]
  · rw [if_neg z, if_neg (by omega)]
theorem bec_1 {n j : Nat} (hj : j < 100) : ms_bec n A 1 j = am_b (A 2 (402 * n + 300 + j) = 1) := by
  unfold ms_bec
  rw [bec_1a, if_pos (by omega)]
  have e2 : sp_it (fun k A => va_up A 0 (va_up (A 0) k (A 2 (402 * n + k)))) 0 300 A 2 = A 2 := it_far (fun k A9 => va_up_ne _ _ (by omega))
  rw [e2]
theorem KA_0 {n j : Nat} (hj : j < 300) : KA A n 0 j = A 2 (402 * n + j) := if_pos hj
theorem KA_1 {n j : Nat} : KA A n 1 j = A 2 (402 * n + 300 + j) := rfl
theorem CR_bec {f f0 : Nat → Int32} {n : Nat} (hR : R ≤ 10) (hC : C ≤ 10) (h : CR R C (KA A n) f) (h0 : ∀ j, ∃ y, y < 10 ∧ A 0 j = nI y) : CR R C (ms_bec n A) (va_cpy f f0 0 0 400) := by
  have hf : ∀ i, i < 400 → va_cpy f f0 0 0 400 i = f i := fun i hi => by
    unfold va_cpy
    rw [if_pos (by omega)]
    congr 1
    omega
  refine CR_f hR hC (f := f) ?_ hf
  refine ⟨fun r c hr hc => ⟨fun l hl => ?_, ?_, (h.1 r c hr hc).2.2⟩, fun r c hr hc hn => ⟨?_, fun l hl => ?_⟩, fun j => ?_⟩
  · rw [bec_0, if_pos (by omega)]
    exact (KA_0 (A := A) (n := n) (j := 100 * l + (10 * r + c)) (by omega)).symm.trans ((h.1 r c hr hc).1 l hl)
  · obtain ⟨_, e, z⟩ := h.1 r c hr hc
    rw [KA_1] at e
    rw [bec_1 (by omega), e]
    rcases z with z | z
    · rw [z]; rfl
    · rw [z]; rfl
  · have e := (h.2.1 r c hr hc hn).1
    rw [KA_1] at e
    rw [bec_1 (by omega), e]
    rfl
  · rw [bec_0, if_pos (by omega)]
    exact (KA_0 (A := A) (n := n) (j := 100 * l + (10 * r + c)) (by omega)).symm.trans ((h.2.1 r c hr hc hn).2 l hl)
  · rw [bec_0]
    by_cases z : j < 300
    · rw [if_pos z]
      obtain ⟨y, hy, ey⟩ := h.2.2 j
      exact ⟨y, hy, (KA_0 (A := A) (n := n) z).symm.trans ey⟩
    · rw [if_neg z]
      exact h0 j
theorem bec_FRA {n : Nat} : FRA A (ms_bec n A) := fun j h1 h2 => bec_far (by omega)
/-- the node k becomes the cloth at hand -/
theorem RW_bec (q : IV g σ τ A B P R C nh nm ev c PA KF) {k a : Nat} (hk : k < 60) (tk : ¬ A 4 k = 0) (ek : P 0 k = some a) (e1 : σ2 1 = σ 1 ∧ σ2 2 = σ 2) (e5 : σ2 5 = A 2 (402 * k + 400)) (e6 : σ2 6 = A 2 (402 * k + 401)) (h2 : ∀ j, j < 4 → τ2 j = mv_τ (nI R) (nI C) (A 2 (402 * k + 400)) (A 2 (402 * k + 401)) τ j) (h8 : τ2 8 = σ2 26) : RW R C σ2 τ2 (ms_bec k A) (va_up B 0 (va_cpy (KF k) (B 0) 0 0 400)) := by
  obtain ⟨i1, ⟨u, hu, eu⟩, hcr⟩ := q.kc k a hk tk ek
  refine ⟨⟨h2 0 (by omega), h2 1 (by omega), e1.1.trans q.rw.1.2.2.1, e1.2.trans q.rw.1.2.2.2⟩, ⟨u, hu, (h2 2 (by omega)).trans eu, e5.trans eu⟩, e6.trans (h2 3 (by omega)).symm, ?_, h8⟩
  rw [va_up_self]
  exact CR_bec q.hR.2 q.hC.2 hcr q.rw.2.2.2.1.2.2
theorem IV_a (q : IV g σ τ A B P R C nh nm ev c PA KF) {k : Nat} (hk : k < 60) (tk : ¬ A 4 k = 0) : ∃ a, P 0 k = some a ∧ (AO a ∧ AO (a + 1) ∧ AO (a + 2)) ∧ HCk P k = a + 1 ∧ am_is g a (nd_c (PA k) (cb (¬ A 4 k = 0)) (a + 1)) ∧ am_is g (a + 1) (am_cloth (nI R) (nI C) (A 2 (402 * k + 400)) (A 2 (402 * k + 401)) (a + 2)) ∧ am_is g (a + 2) (am_ia 400 (KF k)) := by
  rcases q.no k hk with ⟨_, e2⟩ | ⟨a, r, c, u, s, e, g0, i0, i1, i2⟩
  · exact absurd e2 tk
  · exact ⟨a, e, g0, by unfold HCk; rw [e]; rfl, i0, (q.kc k a hk tk e).1, i2⟩
theorem AO15 {a : Nat} (h : AO a) : 15 ≤ a := by unfold AO at h; omega
theorem IV_move (q : IV g σ τ A B P R C nh nm ev c PA KF) {k a : Nat} (hk : k < 60) (tk : ¬ A 4 k = 0) (ek : P 0 k = some a) : IV g (mv_σ k σ A) (va_up (mv_τ (nI R) (nI C) (A 2 (402 * k + 400)) (A 2 (402 * k + 401)) τ) 4 (nI k)) (ms_bec k A) (va_up B 0 (va_cpy (KF k) (B 0) 0 0 400)) P R C nh nm ev k PA KF := by
  have e2 : ms_bec k A 2 = A 2 := bec_far (by omega)
  refine IV_mk q (RW_bec q hk tk ek ⟨rfl, rfl⟩ ?_ ?_ (fun j hj => va_up_ne _ _ (by omega)) q.rw.2.2.2.2) bec_FRA ⟨rfl, rfl, rfl⟩ ⟨rfl, rfl, rfl⟩ rfl rfl (q.wf k hk tk).1 tk ⟨q.o6, q.o7, q.o9, q.o10⟩
  · unfold mv_σ
    rw [va_up_ne _ _ (by omega), va_up_self, e2]
  · unfold mv_σ
    rw [va_up_self, e2]
/-- a call whose class side is known on the heap itself -/
theorem co_mk {zc zm : Nat} {as : List Value} {v : Value} {g2 : am_H} {τ2 σ2 : Nat → Int32} {t2 : Int64} {A2 B2 : Nat → Nat → Int32} {P2 : Nat → Nat → Option Nat} {R2 C2 nh2 nm2 ev2 c2 : Nat} {PA2 : Nat → Int32} {KF2 : Nat → Nat → Int32} (h1 : am_m d zc (.ref 0 :: as) (dH (mH g σ t A) τ t B P) (some v) (dH (mH g2 σ t A) τ2 t2 B2 P2)) (h2 : ∀ h : am_H, 43 ≤ h.1 → am_m d zm (.ref 18 :: as) (mH h σ t A) (some v) (mH h σ2 t2 A2)) (q : IV g2 σ2 τ2 A2 B2 P2 R2 C2 nh2 nm2 ev2 c2 PA2 KF2) (b1 : g2.1 ≤ g.1 + 5) (b2 : g2.2.1 ≤ g.2.1 + 450) : CO d zc zm as (dH (mH g σ t A) τ t B P) := by
  refine ⟨v, _, mH (dH g2 τ2 t2 B2 P2) σ2 t2 A2, h1, ?_, ⟨g2, σ2, τ2, t2, A2, B2, P2, R2, C2, nh2, nm2, ev2, c2, PA2, KF2, dm_swap.symm, q⟩, Nat.le_refl _, b1, Nat.le_refl _, b2⟩
  rw [dm_swap]
  exact h2 _ q.g43
theorem IV_g15 (q : IV g σ τ A B P R C nh nm ev c PA KF) : 15 ≤ (mH g σ t A).1 := by show 15 ≤ g.1; have := q.g43; omega
theorem IV_mv (q : IV g σ τ A B P R C nh nm ev c PA KF) (hd : 2 < d) {k a : Nat} (hk : k < 60) (tk : ¬ A 4 k = 0) (ek : P 0 k = some a) : am_m d z_Desk_moveTo [.ref 0, .int (nI k)] (dH (mH g σ t A) τ t B P) (some (.int (nI k))) (dH (mH g σ t A) (va_up (mv_τ (nI R) (nI C) (A 2 (402 * k + 400)) (A 2 (402 * k + 401)) τ) 4 (nI k)) t (va_up B 0 (va_cpy (KF k) (B 0) 0 0 400)) P) := by
  obtain ⟨a2, e, ⟨g0, g1, g2⟩, hh, i0, i1, i2⟩ := IV_a q hk tk
  refine D_move (IV_g15 q) hd (IV_tw q) hk tk (ra := a2 + 2) ⟨by rw [hh]; exact AO15 g1, AO15 g2⟩ ?_ (mH_ge g2 i2)
  rw [hh]
  exact mH_ge g1 i1
theorem IV_TF (q : IV g σ τ A B P R C nh nm ev c PA KF) : TF (fun k => ¬ A 4 k = 0) (A 3) := fun k hk tk => (q.wf k hk tk).2
theorem IV_ct (q : IV g σ τ A B P R C nh nm ev c PA KF) {x y : Nat} (hx : x < 60) (hy : y < 60) (tx : ¬ A 4 x = 0) (ty : ¬ A 4 y = 0) : ct PA 120 x y = ct (A 3) 120 x y := (ct_if (IV_TF q) (fun k hk tk => (q.pa k hk tk).symm) 120 x y hx hy tx ty).symm
theorem IV_bad (q : IV g σ τ A B P R C nh nm ev c PA KF) {x : Int32} (h : ¬ ∃ k, k < 60 ∧ x = nI k ∧ ¬ A 4 k = 0) : (∀ k, k < 60 → x = nI k → ¬ ¬ A 4 k = 0) ∧ ¬ ((0 ≤ x ∧ x < nI ev) ∧ ¬ A 4 x.toNatClampNeg = 0) := by
  refine ⟨fun k hk e z => h ⟨k, hk, e, z⟩, fun z => ?_⟩
  obtain ⟨k, hk, rfl⟩ := nI_lo (by have := q.e60; omega) z.1
  have z2 := z.2
  rw [nI_clamp (by have := q.e60; omega)] at z2
  exact h ⟨k, by have := q.e60; omega, rfl, z2⟩
theorem CO_go (hd : 5 < d) {X : am_H} (hX : WO X) {x : Int32} : CO d z_Desk_go z_Model_go [.int x] X := by
  obtain ⟨g, σ, τ, t, A, B, P, R, C, nh, nm, ev, c, PA, KF, rfl, q⟩ := hX
  by_cases hx : ∃ k, k < 60 ∧ x = nI k ∧ ¬ A 4 k = 0
  · obtain ⟨k, hk, rfl, tk⟩ := hx
    obtain ⟨a, ek, _⟩ := IV_a q hk tk
    have hc6 : c < 60 := by have := q.hc; have := q.e60; omega
    have m := mg_ct (IV_TF q) (ev := ev) (fun k hk tk => (q.wf k hk tk).1) 120 c k hc6 hk q.thc tk (by omega)
    refine co_mk (v := .int (nI (ct PA 120 c k))) (D_go (IV_g15 q) hd (IV_tw q) hk tk (IV_wf q) q.t4 hc6 q.thc (IV_mv q (by omega) hk tk ek)) (fun h hn => ?_) (IV_move q hk tk ek) (by omega) (by omega)
    have e := m_go (d := d) (h := h) (σ := σ) (t := t) (A := A) hn (by omega) q.s10 q.e60 (q.wf k hk tk).1 tk q.s11 q.hc q.mw m.1
    rw [m.2, ← IV_ct q hc6 hk q.thc tk] at e
    exact e
  · obtain ⟨b1, b2⟩ := IV_bad q hx
    exact co_read (v := .int (-1)) q (fun h hn hw => D_goN hn hd hw b1) (fun h hn => m_goB hn (by omega) q.s10 q.e60 b2)
theorem CO_undo (hd : 5 < d) {X : am_H} (hX : WO X) : CO d z_Desk_undo z_Model_undo [] X := by
  obtain ⟨g, σ, τ, t, A, B, P, R, C, nh, nm, ev, c, PA, KF, rfl, q⟩ := hX
  have hc6 : c < 60 := by have := q.hc; have := q.e60; omega
  have hpa := q.pa c hc6 q.thc
  have hp : ∀ h : am_H, 15 ≤ h.1 → TW h P (fun k => ¬ A 4 k = 0) PA (HCk P) → am_m (d - 1) z_Tree_parentOf [.ref 3, .int (τ 4)] (dH h τ t B P) (some (.int (A 3 c))) (dH h τ t B P) := by
    intro h hn hw
    have e := c_paT (d := d - 1) (τ := τ) (t := t) (B := B) hn hw hc6 q.thc (by omega)
    rw [hpa, ← q.t4] at e
    exact e
  rcases (q.wf c hc6 q.thc).2 with ⟨_, e⟩ | ⟨p, hp2, e, tp⟩
  · refine co_read (v := .int (-2)) q (fun h hn hw => D_undS hn hd ?_) (fun h hn => m_undoS hn (by omega) q.s11 hc6 e)
    have := hp h hn hw
    rw [e] at this
    exact this
  · obtain ⟨a, ek, _⟩ := IV_a q (k := p) (by omega) tp
    have hp1 := hp _ (IV_g15 (t := t) q) (IV_tw q)
    rw [e] at hp1
    exact co_mk (v := .int (nI p)) (D_und (IV_g15 q) hd hp1 (nI_m9 (by omega)) (IV_mv q (by omega) (by omega) tp ek)) (fun h hn => m_undo hn (by omega) q.s11 hc6 e (by omega)) (IV_move q (by omega) tp ek) (by omega) (by omega)
theorem IV_mu (q : IV g σ τ A B P R C nh nm ev c PA KF) {x : Int32} : mu_n A x ev = (sp_it (fun j (y : Int32) => y + cb (¬ A 4 j = 0 ∧ PA j = x)) 0 60 0, hu (fun k => ¬ A 4 k = 0) PA x 60) := by
  rw [mu_60 (fun k hk tk => (q.wf k hk tk).1) q.e60.2]
  exact mu_eq 60 q.pa
theorem CO_redo (hd : 5 < d) {X : am_H} (hX : WO X) : CO d z_Desk_redo z_Model_redo [] X := by
  obtain ⟨g, σ, τ, t, A, B, P, R, C, nh, nm, ev, c, PA, KF, rfl, q⟩ := hX
  have hc6 : c < 60 := by have := q.hc; have := q.e60; omega
  have em := IV_mu q (x := nI c)
  have hp : ∀ h : am_H, 15 ≤ h.1 → TW h P (fun k => ¬ A 4 k = 0) PA (HCk P) → am_m (d - 1) z_Tree_highestUnder [.ref 3, .int (τ 4)] (dH h τ t B P) (some (.int (hu (fun k => ¬ A 4 k = 0) PA (nI c) 60))) (dH h τ t B P) := by
    intro h hn hw
    have e := c_highest (d := d - 1) (τ := τ) (t := t) (B := B) (x := nI c) hn hw (by omega)
    rw [← q.t4] at e ⊢
    exact e
  rcases hu_ex (TH := fun k => ¬ A 4 k = 0) (PA := PA) (x := nI c) 60 with e | ⟨p, hp2, tp, _, e⟩
  · refine co_read (v := .int (-2)) q (fun h hn hw => D_redS hn hd ?_) (fun h hn => m_redoS hn (by omega) q.s11 hc6 q.s10 q.e60.2 (by rw [em]; exact e))
    have := hp h hn hw
    rw [e] at this
    exact this
  · obtain ⟨a, ek, _⟩ := IV_a q (k := p) hp2 tp
    have hp1 := hp _ (IV_g15 (t := t) q) (IV_tw q)
    rw [e] at hp1
    exact co_mk (v := .int (nI p)) (D_red (IV_g15 q) hd hp1 (nI_m9 (by omega)) (IV_mv q (by omega) hp2 tp ek)) (fun h hn => m_redo hn (by omega) q.s11 hc6 q.s10 q.e60.2 (by rw [em]; exact e) hp2) (IV_move q hp2 tp ek) (by omega) (by omega)
theorem CO_told (hd : 5 < d) {X : am_H} (hX : WO X) {x y : Int32} : CO d z_Desk_told z_Model_told [.int x, .int y] X := by
  obtain ⟨g, σ, τ, t, A, B, P, R, C, nh, nm, ev, c, PA, KF, rfl, q⟩ := hX
  by_cases hx : ∃ k, k < 60 ∧ x = nI k ∧ ¬ A 4 k = 0
  · obtain ⟨k, hk, rfl, tk⟩ := hx
    have hv := (q.wf k hk tk).1
    by_cases hb : 0 ≤ y ∧ y ≤ nI 4
    · obtain ⟨w, hw, rfl⟩ := bt_nat (by omega) hb
      match w, hw with
      | 0, _ => exact co_read (v := .int (PA k)) q (fun h hn hw => D_told0 hn hd hw hk tk) (fun h hn => by have e := m_told0 (d := d) (h := h) (σ := σ) (t := t) (A := A) hn (by omega) q.s10 q.e60 hv tk; rw [← q.pa k hk tk] at e; exact e)
      | 1, _ => exact co_read (v := .int (sp_it (fun j (y : Int32) => y + cb (¬ A 4 j = 0 ∧ PA j = nI k)) 0 60 0)) q (fun h hn hw => D_told1 hn hd hw hk tk) (fun h hn => by have e := m_told1 (d := d) (h := h) (σ := σ) (t := t) (A := A) hn (by omega) q.s10 q.e60 hv tk; rw [IV_mu q] at e; exact e)
      | 2, _ => exact co_read (v := .int (hu (fun k => ¬ A 4 k = 0) PA (nI k) 60)) q (fun h hn hw => D_told2 hn hd hw hk tk) (fun h hn => by have e := m_told2 (d := d) (h := h) (σ := σ) (t := t) (A := A) hn (by omega) q.s10 q.e60 hv tk; rw [IV_mu q] at e; exact e)
      | 3, _ =>
        rcases (q.wf k hk tk).2 with ⟨_, e⟩ | ⟨p, hp, e, tp⟩
        · exact co_read (v := .int 0) q (fun h hn hw => D_told3 hn hd hw hk tk (c_chg0 hn hw (by omega) hk tk ((q.pa k hk tk).trans e))) (fun h hn => m_told3r hn (by omega) q.s10 q.e60 hv tk e)
        · obtain ⟨a1, e1, ⟨g0, g1, g2⟩, hh, i0, i1, i2⟩ := IV_a q hk tk
          obtain ⟨b1, f1, ⟨g0', g1', g2'⟩, hh', j0, j1, j2⟩ := IV_a q (k := p) (by omega) tp
          have cc : am_m (d - 1) z_Tree_changedIn [.ref 3, .int (nI k)] (dH (mH g σ t A) τ t B P) (some (.int (sp_chg (KF k) (KF p) R C))) (dH (mH g σ t A) τ t B P) := by
            refine c_chgT (ra := a1 + 2) (rb := b1 + 2) (us := A 2 (402 * k + 400)) (sh := A 2 (402 * k + 401)) (us2 := A 2 (402 * p + 400)) (sh2 := A 2 (402 * p + 401)) (IV_g15 q) (IV_tw q) (by omega) q.hR.2 q.hC.2 hk tk (by omega) tp ((q.pa k hk tk).trans e) ?_ ?_ (mH_ge g2 i2) ?_ (mH_ge g2' j2)
            · rw [hh, hh']
              exact ⟨AO15 g1, AO15 g2, AO15 g1', AO15 g2'⟩
            · rw [hh]; exact mH_ge g1 i1
            · rw [hh']; exact mH_ge g1' j1
          refine co_mk (v := .int (sp_chg (KF k) (KF p) R C)) (D_told3 (IV_g15 q) hd (IV_tw q) hk tk cc) (fun h hn => ?_) (IV_m0 q) (by omega) (by omega)
          have e9 := m_told3 (d := d) (h := h) (σ := σ) (t := t) (A := A) hn (by omega) q.s10 q.e60 hv tk e (by omega)
          rw [md_chg q.hR.2 q.hC.2 (q.kc k a1 hk tk e1).2.2 (q.kc p b1 (by omega) tp f1).2.2] at e9
          exact e9
      | 4, _ => exact co_read (v := .int (nI (ct PA 120 k 0))) q (fun h hn hw => D_told4 hn hd hw hk tk (IV_wf q) q.t0) (fun h hn => by have e := m_told4 (d := d) (h := h) (σ := σ) (t := t) (A := A) hn (by omega) q.s10 q.e60 hv tk q.mw; rw [← ct_dp (IV_TF q) q.t0 k k (Nat.le_refl _) hk tk, ← IV_ct q hk (by omega) tk q.t0] at e; exact e)
    · exact co_read (v := .int (-1)) q (fun h hn hw => D_toldB hn hd hw hk tk hb) (fun h hn => m_toldB hn (by omega) q.s10 q.e60 (fun z => hb z.2))
  · obtain ⟨b1, b2⟩ := IV_bad q hx
    exact co_read (v := .int (-1)) q (fun h hn hw => D_toldN hn hd hw b1) (fun h hn => m_toldB hn (by omega) q.s10 q.e60 (fun z => b2 z.1))
end W3
