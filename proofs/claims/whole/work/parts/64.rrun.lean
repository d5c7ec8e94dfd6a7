/-! a run settled: on both sides; run, call, play -/
section W7
variable {d dm : Nat} {g g2 : am_H} {σ τ σ2 τ2 : Nat → Int32} {t t2 : Int64} {A B A2 B2 : Nat → Nat → Int32} {P P2 : Nat → Nat → Option Nat} {R C nh nm ev c : Nat} {PA : Nat → Int32} {KF : Nat → Nat → Int32}
theorem IV_new (q : IV g σ τ A B P R C nh nm ev c PA KF) {n : Nat} {x : am_C} : IV (am_new g n x) σ τ A B P R C nh nm ev c PA KF := by
  have mon : ∀ k9, KP k9 g (am_new g n x) := fun k9 => KP_new
  refine IV_ext q (mon _) (by show g.1 ≤ g.1 + 1; omega) rfl (fun _ _ => rfl) (fun _ _ _ _ => rfl) (fun _ _ => rfl) q.s12 q.t28 q.n40 q.s16 q.t29 q.n20 (fun n9 hn9 => HO_kp (k := fun _ => false) (fun _ => rfl) (fun _ => rfl) (fun _ => rfl) (q.ho n9 hn9) (mon _) rfl rfl (fun _ _ => ⟨rfl, rfl⟩)) (fun m hm => MO_kp (k := fun _ => false) (fun _ => rfl) (fun _ => rfl) (fun _ => rfl) (fun _ => rfl) (q.mo m hm) (mon _) (Nat.le_refl _) (fun _ _ => rfl) (fun _ _ => rfl) ⟨rfl, rfl, rfl, rfl, rfl⟩ (fun _ _ => ⟨rfl, fun _ _ => rfl⟩)) q.mi (fun m a hm ea => ?_)
  obtain ⟨k1, k2, k3, k4, p, i⟩ := q.mb m a hm ea
  exact ⟨k1, k2, k3, k4, p, i.new⟩
/-- what a node keeps -/
theorem kp_a {n : Nat} : ∀ (m k : Nat) (A : Nat → Nat → Int32) (i : Nat), sp_it (fun k A => va_up A 2 (va_up (A 2) (402 * n + k) (A 0 k))) k m A 2 i = if 402 * n + k ≤ i ∧ i < 402 * n + k + m then A 0 (i - 402 * n) else A 2 i
  | 0, k, A, i => by rw [if_neg (by omega)]; rfl
  | m + 1, k, A, i => by
    rw [sp_it, kp_a m (k + 1)]
    have e0 : va_up A 2 (va_up (A 2) (402 * n + k) (A 0 k)) 2 = va_up (A 2) (402 * n + k) (A 0 k) := va_up_self _ _ _
    have e2 : va_up A 2 (va_up (A 2) (402 * n + k) (A 0 k)) 0 = A 0 := va_up_ne _ _ (by omega)
    rw [e0, e2]
    by_cases e : i = 402 * n + k
    · subst e
      rw [if_neg (show ¬ (402 * n + (k + 1) ≤ 402 * n + k ∧ 402 * n + k < 402 * n + (k + 1) + m) by omega), if_pos (show 402 * n + k ≤ 402 * n + k ∧ 402 * n + k < 402 * n + k + (m + 1) by omega), va_up_self, show 402 * n + k - 402 * n = k by omega]
    · rw [va_up_ne _ _ e]
      by_cases e3 : 402 * n + (k + 1) ≤ i ∧ i < 402 * n + (k + 1) + m
      · rw [if_pos e3, if_pos (show 402 * n + k ≤ i ∧ i < 402 * n + k + (m + 1) by omega)]
      · rw [if_neg e3, if_neg (show ¬ (402 * n + k ≤ i ∧ i < 402 * n + k + (m + 1)) by omega)]
theorem kp_b {n : Nat} : ∀ (m k : Nat) (A : Nat → Nat → Int32) (i : Nat), sp_it (fun k A => va_up A 2 (va_up (A 2) (402 * n + 300 + k) (am_b (¬ A 1 k = 0)))) k m A 2 i = if 402 * n + 300 + k ≤ i ∧ i < 402 * n + 300 + k + m then am_b (¬ A 1 (i - (402 * n + 300)) = 0) else A 2 i
  | 0, k, A, i => by rw [if_neg (by omega)]; rfl
  | m + 1, k, A, i => by
    rw [sp_it, kp_b m (k + 1)]
    have e0 : va_up A 2 (va_up (A 2) (402 * n + 300 + k) (am_b (¬ A 1 k = 0))) 2 = va_up (A 2) (402 * n + 300 + k) (am_b (¬ A 1 k = 0)) := va_up_self _ _ _
    have e2 : va_up A 2 (va_up (A 2) (402 * n + 300 + k) (am_b (¬ A 1 k = 0))) 1 = A 1 := va_up_ne _ _ (by omega)
    rw [e0, e2]
    by_cases e : i = 402 * n + 300 + k
    · subst e
      rw [if_neg (show ¬ (402 * n + 300 + (k + 1) ≤ 402 * n + 300 + k ∧ 402 * n + 300 + k < 402 * n + 300 + (k + 1) + m) by omega), if_pos (show 402 * n + 300 + k ≤ 402 * n + 300 + k ∧ 402 * n + 300 + k < 402 * n + 300 + k + (m + 1) by omega), va_up_self, show 402 * n + 300 + k - (402 * n + 300) = k by omega]
    · rw [va_up_ne _ _ e]
      by_cases e3 : 402 * n + 300 + (k + 1) ≤ i ∧ i < 402 * n + 300 + (k + 1) + m
      · rw [if_pos e3, if_pos (show 402 * n + 300 + k ≤ i ∧ i < 402 * n + 300 + k + (m + 1) by omega)]
      · rw [if_neg e3, if_neg (show ¬ (402 * n + 300 + k ≤ i ∧ i < 402 * n + 300 + k + (m + 1)) by omega)]
theorem keep_far {n j : Nat} {u s : Int32} (hj : j ≠ 2) : ms_keep n u s A j = A j := by
  unfold ms_keep
  dsimp only
  rw [va_up_ne _ _ hj, va_up_ne _ _ hj, it_far (fun k A9 => va_up_ne _ _ hj), it_far (fun k A9 => va_up_ne _ _ hj)]
theorem keep_2 {n i : Nat} {u s : Int32} : ms_keep n u s A 2 i = if i = 402 * n + 401 then s else if i = 402 * n + 400 then u else if 402 * n + 300 ≤ i ∧ i < 402 * n + 400 then am_b (¬ A 1 (i - (402 * n + 300)) = 0) else if 402 * n ≤ i ∧ i < 402 * n + 300 then A 0 (i - 402 * n) else A 2 i := by
  unfold ms_keep
  dsimp only
  rw [va_up_self, va_up_self]
  by_cases e1 : i = 402 * n + 401
  · rw [if_pos e1, e1, va_up_self]
  · rw [if_neg e1, va_up_ne _ _ e1]
    by_cases e2 : i = 402 * n + 400
    · rw [if_pos e2, e2, va_up_self]
    · rw [if_neg e2, va_up_ne _ _ e2, kp_b, kp_a]
      have e3 : sp_it (fun k A => va_up A 2 (va_up (A 2) (402 * n + k) (A 0 k))) 0 300 A 1 = A 1 := it_far (fun k A9 => va_up_ne _ _ (by omega))
      rw [e3]
      by_cases e4 : 402 * n + 300 ≤ i ∧ i < 402 * n + 400
      · rw [if_pos e4, if_pos (show 402 * n + 300 + 0 ≤ i ∧ i < 402 * n + 300 + 0 + 100 by omega)]
      · rw [if_neg e4, if_neg (show ¬ (402 * n + 300 + 0 ≤ i ∧ i < 402 * n + 300 + 0 + 100) by omega)]
        by_cases e5 : 402 * n ≤ i ∧ i < 402 * n + 300
        · rw [if_pos e5, if_pos (show 402 * n + 0 ≤ i ∧ i < 402 * n + 0 + 300 by omega)]
        · rw [if_neg e5, if_neg (show ¬ (402 * n + 0 ≤ i ∧ i < 402 * n + 0 + 300) by omega)]
theorem keep_o {n i : Nat} {u s : Int32} (hi : i < 402 * n ∨ 402 * n + 402 ≤ i) : ms_keep n u s A 2 i = A 2 i := by
  rw [keep_2, if_neg (by omega), if_neg (by omega), if_neg (by omega), if_neg (by omega)]
theorem keep_KA {n k : Nat} {u s : Int32} (hk : k ≠ n) : (∀ j, KA (ms_keep n u s A) k 0 j = KA A k 0 j) ∧ (∀ j, j < 100 → KA (ms_keep n u s A) k 1 j = KA A k 1 j) ∧ ms_keep n u s A 2 (402 * k + 400) = A 2 (402 * k + 400) ∧ ms_keep n u s A 2 (402 * k + 401) = A 2 (402 * k + 401) := by
  refine ⟨fun j => ?_, fun j hj => keep_o (by omega), keep_o (by omega), keep_o (by omega)⟩
  show (if j < 300 then ms_keep n u s A 2 (402 * k + j) else 0) = if j < 300 then A 2 (402 * k + j) else 0
  by_cases z : j < 300
  · rw [if_pos z, if_pos z, keep_o (by omega)]
  · rw [if_neg z, if_neg z]
theorem CR_pt {f : Nat → Int32} (h : CR R C A f) (hR : R ≤ 10) (hC : C ≤ 10) (h0 : A2 0 = A 0) (h1 : ∀ j, j < 100 → A2 1 j = A 1 j) : CR R C A2 f := by
  refine ⟨fun r c hr hc => ?_, fun r c hr hc hn => ?_, by rw [h0]; exact h.2.2⟩
  · rw [h0, h1 _ (by omega)]; exact h.1 r c hr hc
  · rw [h0, h1 _ (by omega)]; exact h.2.1 r c hr hc hn
theorem keep_CR {n : Nat} {u s : Int32} {f : Nat → Int32} (hR : R ≤ 10) (hC : C ≤ 10) (h : CR R C A f) : CR R C (KA (ms_keep n u s A) n) f := by
  have k0 : ∀ j, j < 300 → KA (ms_keep n u s A) n 0 j = A 0 j := fun j hj => by
    show (if j < 300 then ms_keep n u s A 2 (402 * n + j) else 0) = _
    rw [if_pos hj, keep_2, if_neg (by omega), if_neg (by omega), if_neg (by omega), if_pos (by omega), show 402 * n + j - 402 * n = j by omega]
  have k1 : ∀ j, j < 100 → KA (ms_keep n u s A) n 1 j = am_b (¬ A 1 j = 0) := fun j hj => by
    show ms_keep n u s A 2 (402 * n + 300 + j) = _
    rw [keep_2, if_neg (by omega), if_neg (by omega), if_pos (by omega), show 402 * n + 300 + j - (402 * n + 300) = j by omega]
  refine ⟨fun r c hr hc => ⟨fun l hl => ?_, ?_, (h.1 r c hr hc).2.2⟩, fun r c hr hc hn => ⟨?_, fun l hl => ?_⟩, fun j => ?_⟩
  · rw [k0 _ (by omega)]; exact (h.1 r c hr hc).1 l hl
  · rw [k1 _ (by omega)]; exact CR_am h hr hc
  · rw [k1 _ (by omega), (h.2.1 r c hr hc hn).1]; rfl
  · rw [k0 _ (by omega)]; exact (h.2.1 r c hr hc hn).2 l hl
  · by_cases z : j < 300
    · rw [k0 j z]; exact h.2.2 j
    · exact ⟨0, by omega, if_neg z⟩
theorem chg_if {f f' f2 : Nat → Int32} (hR : R ≤ 10) (hC : C ≤ 10) (h : ∀ i, i < 400 → f i = f' i) : sp_chg f f2 R C = sp_chg f' f2 R C := by
  unfold sp_chg
  refine sp_s_congr R 0 (fun r _ hr => sp_s_congr C 0 (fun c _ hc => ?_))
  unfold sp_diff sp_same
  rw [h (cx r c 0) (cx_lt (by omega) (by omega) (by omega)), h (cx r c 1) (cx_lt (by omega) (by omega) (by omega)), h (cx r c 2) (cx_lt (by omega) (by omega) (by omega))]
theorem cpy_4 {f f0 : Nat → Int32} {i : Nat} (hi : i < 400) : va_cpy f f0 0 0 400 i = f i := by
  unfold va_cpy
  rw [if_pos (by omega)]
  congr 1
  omega
/-- a node more: the heap gets it at a, a + 1, a + 2 -/
theorem IV_grow (q : IV g σ τ A B P R C nh nm ev c PA KF) (hev : ev < 60) {g3 : am_H} {σ2 τ3 : Nat → Int32} {A2 B2 : Nat → Nat → Int32} {P3 : Nat → Nat → Option Nat} {a : Nat} {f0 : Nat → Int32} (rw2 : RW R C σ2 τ3 A2 B2) (hA : FRA A A2) (s12 : σ2 12 = σ 12) (s16 : σ2 16 = σ 16) (t28 : τ3 28 = τ 28) (t29 : τ3 29 = τ 29) (t4 : τ3 4 = nI ev) (t5 : τ3 5 = nI (ev + 1)) (o : σ2 27 = τ3 9 ∧ σ2 28 = τ3 10 ∧ τ3 6 = 0) (t7 : τ3 7 = sp_chg (B2 0) (KF c) R C) (kp : KP kN g g3) (hg : g.1 ≤ g3.1) (oth : ∀ k a' y, k < 60 → k ≠ ev → P 0 k = some a' → (am_is g a' y → am_is g3 a' y) ∧ (am_is g (a' + 1) y → am_is g3 (a' + 1) y) ∧ (am_is g (a' + 2) y → am_is g3 (a' + 2) y)) (p0 : ∀ k, k ≠ ev → P3 0 k = P 0 k) (p0n : P3 0 ev = some a) (p1 : P3 1 = P 1) (p2 : P3 2 = P 2) (ao : AO a ∧ AO (a + 1) ∧ AO (a + 2)) (i0 : am_is g3 a (nd_c (nI c) 1 (a + 1))) (i1 : am_is g3 (a + 1) (am_cloth (nI R) (nI C) (σ2 5) (σ2 6) (a + 2))) (i2 : am_is g3 (a + 2) (am_ia 400 (va_cpy (B2 0) f0 0 0 400))) (ni3 : NI P3) : IV g3 (va_up (va_up (va_up (va_up σ2 24 0) 10 (nI (ev + 1))) 11 (nI ev)) 25 (md_n (me_A ev c σ2 A2) ev c)) τ3 (me_A ev c σ2 A2) B2 P3 R C nh nm (ev + 1) ev (va_up PA ev (nI c)) (va_up KF ev (va_cpy (B2 0) f0 0 0 400)) := by
  have e60 := q.e60
  have hc := q.hc
  have c6 : c < 60 := by omega
  have hR := q.hR
  have hC := q.hC
  have a3 := hA 3 (by omega) (by omega)
  have a4 := hA 4 (by omega) (by omega)
  have a2 := hA 2 (by omega) (by omega)
  have r3 : me_A ev c σ2 A2 3 = va_up (A 3) ev (nI c) := by
    unfold me_A
    rw [keep_far (by omega), va_up_ne _ _ (by omega), va_up_self, a3]
  have r4 : me_A ev c σ2 A2 4 = va_up (A 4) ev 1 := by
    unfold me_A
    rw [keep_far (by omega), va_up_self, a4]
  have ro : ∀ j, j ≠ 2 → j ≠ 3 → j ≠ 4 → me_A ev c σ2 A2 j = A2 j := fun j h2 h3 h4 => by
    unfold me_A
    rw [keep_far h2, va_up_ne _ _ h4, va_up_ne _ _ h3]
  have hev4 : A 4 ev = 0 := Classical.not_not.mp (fun z => by have := (q.wf ev hev z).1; omega)
  have th : ∀ k, k ≠ ev → va_up (A 4) ev 1 k = A 4 k := fun k h => va_up_ne _ _ h
  have the : va_up (A 4) ev 1 ev = 1 := va_up_self _ _ _
  -- what is kept
  have kt : ∀ k, k ≠ ev → CR R C (KA A k) (KF k) → CR R C (KA (me_A ev c σ2 A2) k) (KF k) := fun k hk h => by
    obtain ⟨k0, k1, _, _⟩ := keep_KA (A := va_up (va_up A2 3 (va_up (A2 3) ev (nI c))) 4 (va_up (A2 4) ev 1)) (n := ev) (k := k) (u := σ2 5) (s := σ2 6) hk
    have e2 : va_up (va_up A2 3 (va_up (A2 3) ev (nI c))) 4 (va_up (A2 4) ev 1) 2 = A 2 := by
      rw [va_up_ne _ _ (by omega), va_up_ne _ _ (by omega), a2]
    have e3 : KA (va_up (va_up A2 3 (va_up (A2 3) ev (nI c))) 4 (va_up (A2 4) ev 1)) k = KA A k := KA_of e2
    rw [e3] at k0 k1
    exact CR_pt h hR.2 hC.2 (funext k0) k1
  have kn : CR R C (KA (me_A ev c σ2 A2) ev) (va_cpy (B2 0) f0 0 0 400) := by
    refine CR_f hR.2 hC.2 (f := B2 0) ?_ (fun i hi => cpy_4 hi)
    refine keep_CR hR.2 hC.2 (CR_of rw2.2.2.2.1 ?_ ?_)
    · rw [va_up_ne _ _ (by omega), va_up_ne _ _ (by omega)]
    · rw [va_up_ne _ _ (by omega), va_up_ne _ _ (by omega)]
  have k400 : me_A ev c σ2 A2 2 (402 * ev + 400) = σ2 5 := by
    unfold me_A
    rw [keep_2, if_neg (by omega), if_pos rfl]
  have k401 : me_A ev c σ2 A2 2 (402 * ev + 401) = σ2 6 := by
    unfold me_A
    rw [keep_2, if_pos rfl]
  have ko : ∀ k, k ≠ ev → me_A ev c σ2 A2 2 (402 * k + 400) = A 2 (402 * k + 400) ∧ me_A ev c σ2 A2 2 (402 * k + 401) = A 2 (402 * k + 401) := fun k hk => by
    obtain ⟨_, _, z1, z2⟩ := keep_KA (A := va_up (va_up A2 3 (va_up (A2 3) ev (nI c))) 4 (va_up (A2 4) ev 1)) (n := ev) (k := k) (u := σ2 5) (s := σ2 6) hk
    have e2 : va_up (va_up A2 3 (va_up (A2 3) ev (nI c))) 4 (va_up (A2 4) ev 1) 2 = A 2 := by
      rw [va_up_ne _ _ (by omega), va_up_ne _ _ (by omega), a2]
    rw [e2] at z1 z2
    exact ⟨z1, z2⟩
  obtain ⟨ac, eac, _⟩ := IV_a q c6 q.thc
  have chg : md_n (me_A ev c σ2 A2) ev c = sp_chg (B2 0) (KF c) R C := by
    rw [md_chg hR.2 hC.2 kn (kt c (by omega) (q.kc c ac c6 q.thc eac).2.2)]
    exact chg_if hR.2 hC.2 (fun i hi => cpy_4 hi)
  refine ⟨by have := q.g43; omega, hR, hC, ?_, rfl, t5, by omega, rfl, t4, by omega, by rw [r4, the]; decide, s12.trans q.s12, t28.trans q.t28, q.n40, s16.trans q.s16, t29.trans q.t29, q.n20, ?_, ?_, o.1, o.2.1, fun n hn => HO_kp (k := kN) (fun _ => rfl) (fun _ => rfl) (fun _ => rfl) (q.ho n hn) kp (by rw [p1]) (by rw [ro 5 (by omega) (by omega) (by omega), hA 5 (by omega) (by omega)]) (fun i _ => ⟨by rw [ro 6 (by omega) (by omega) (by omega), hA 6 (by omega) (by omega)], by rw [ro 7 (by omega) (by omega) (by omega), hA 7 (by omega) (by omega)]⟩), fun m hm => MO_kp (k := kN) (fun _ => rfl) (fun _ => rfl) (fun _ => rfl) (fun _ => rfl) (q.mo m hm) kp (Nat.le_refl _) (fun _ _ => by rw [p1]) (fun _ _ => by rw [p2]) ⟨by rw [ro 8 (by omega) (by omega) (by omega), hA 8 (by omega) (by omega)], by rw [ro 9 (by omega) (by omega) (by omega), hA 9 (by omega) (by omega)], by rw [ro 10 (by omega) (by omega) (by omega), hA 10 (by omega) (by omega)], by rw [ro 11 (by omega) (by omega) (by omega), hA 11 (by omega) (by omega)], by rw [ro 12 (by omega) (by omega) (by omega), hA 12 (by omega) (by omega)]⟩ (fun i _ => ⟨by rw [ro 13 (by omega) (by omega) (by omega), hA 13 (by omega) (by omega)], fun j _ => by rw [ro 14 (by omega) (by omega) (by omega), hA 14 (by omega) (by omega)]⟩), by rw [p2]; exact q.mi, ?_, ?_, by rw [r4, th 0 (by omega)]; exact q.t0, ?_, fun k hk => ?_, ?_, ?_, ni3⟩
  · exact RW_σ (RW_rows rw2 (ro 0 (by omega) (by omega) (by omega)) (ro 1 (by omega) (by omega) (by omega))) (fun j hj => by rw [va_up_ne _ _ (by omega), va_up_ne _ _ (by omega), va_up_ne _ _ (by omega), va_up_ne _ _ (by omega)])
  · exact o.2.2.symm
  · rw [va_up_self, chg, t7]
  · rw [p2]
    intro m a' hm ea
    obtain ⟨k1, k2, k3, k4, p, i⟩ := q.mb m a' hm ea
    exact ⟨k1, k2, k3, k4, p, kp _ _ i rfl⟩
  · rw [r3, r4]
    intro k hk tk
    by_cases e : k = ev
    · subst e
      refine ⟨by omega, Or.inr ⟨c, hc, va_up_self _ _ _, ?_⟩⟩
      rw [th c (by omega)]
      exact q.thc
    · rw [th k e] at tk
      obtain ⟨w1, w2⟩ := q.wf k hk tk
      refine ⟨by omega, ?_⟩
      rw [va_up_ne _ _ e]
      rcases w2 with z | ⟨p, hp, ep, tp⟩
      · exact Or.inl z
      · refine Or.inr ⟨p, hp, ep, ?_⟩
        rw [th p (by omega)]
        exact tp
  · rw [r3]
    intro k hk
    by_cases e : k = ev
    · subst e
      exact Or.inr ⟨c, hc, va_up_self _ _ _⟩
    · rw [va_up_ne _ _ e]
      exact q.mw k (by omega)
  · by_cases e : k = ev
    · subst e
      refine Or.inr ⟨a, _, _, _, _, p0n, ao, ?_, i1, ?_⟩
      · rw [va_up_self, r4, the, cb_1 (by decide)]
        exact i0
      · rw [va_up_self]
        exact i2
    · rcases q.no k hk with ⟨z1, z2⟩ | ⟨a', r, c', u, s, z1, gg, k0, k1, k2⟩
      · refine Or.inl ⟨(p0 k e).trans z1, ?_⟩
        rw [r4, th k e]
        exact z2
      · refine Or.inr ⟨a', r, c', u, s, (p0 k e).trans z1, gg, ?_, (oth k a' _ hk e z1).2.1 k1, ?_⟩
        · rw [va_up_ne _ _ e, r4, th k e]
          exact (oth k a' _ hk e z1).1 k0
        · rw [va_up_ne _ _ e]
          exact (oth k a' _ hk e z1).2.2 k2
  · rw [r3, r4]
    intro k hk tk
    by_cases e : k = ev
    · subst e
      rw [va_up_self, va_up_self]
    · rw [th k e] at tk
      rw [va_up_ne _ _ e, va_up_ne _ _ e]
      exact q.pa k hk tk
  · rw [r4]
    intro k a' hk tk ek
    by_cases e : k = ev
    · subst e
      have ea9 : a = a' := Option.some.inj (p0n.symm.trans ek)
      subst ea9
      rw [k400, k401, va_up_self]
      obtain ⟨u, hu, _, e5⟩ := rw2.2.1
      exact ⟨i1, ⟨u, hu, e5⟩, kn⟩
    · rw [th k e] at tk
      rw [p0 k e] at ek
      obtain ⟨z1, z2, z3⟩ := q.kc k a' hk tk ek
      rw [(ko k e).1, (ko k e).2, va_up_ne _ _ e]
      exact ⟨(oth k a' _ hk e ek).2.1 z1, z2, kt k e z3⟩
end W7
