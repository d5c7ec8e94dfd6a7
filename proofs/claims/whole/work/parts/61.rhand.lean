/-! handles, on both sides -/
/-- cells of macros; cells of nodes -/
def kM : am_C → Bool
  | .inr (c, _) => Nat.beq c 4
  | .inl (t, _, _) => Nat.beq t 5
def kN : am_C → Bool
  | .inr (c, _) => Nat.beq c 5 || Nat.beq c 0
  | .inl (_, n, _) => Nat.beq n 400
/-- what is not of a kind stays -/
def KP (k : am_C → Bool) (g g2 : am_H) : Prop := ∀ a x, am_is g a x → k x = false → am_is g2 a x
theorem KP.tr {k : am_C → Bool} {g1 g2 g3 : am_H} (p : KP k g1 g2) (q : KP k g2 g3) : KP k g1 g3 := fun a x h e => q a x (p a x h e) e
theorem KP_new {k : am_C → Bool} {g : am_H} {n : Nat} {y : am_C} : KP k g (am_new g n y) := fun _ _ h _ => h.new
theorem KP_up {k : am_C → Bool} {g : am_H} {b : Nat} {y z : am_C} (h : am_is g b y) (e : k y = true) : KP k g (am_up g b z) := fun a x hx ex => hx.ne (fun q => by
  subst q
  have := hx.2.symm.trans h.2
  rw [this, e] at ex
  cases ex)
theorem KP_all {k : am_C → Bool} {g g2 : am_H} (h : ∀ a x, am_is g a x → am_is g2 a x) : KP k g g2 := fun a x hx _ => h a x hx
section W4
variable {d : Nat} {g g2 : am_H} {σ τ σ2 τ2 : Nat → Int32} {t : Int64} {A B A2 B2 : Nat → Nat → Int32} {P P2 : Nat → Nat → Option Nat} {R C nh nm nh2 nm2 ev c c2 : Nat} {PA : Nat → Int32} {KF : Nat → Nat → Int32}
theorem HO_kp {k : am_C → Bool} {n : Nat} (hk : ∀ v, k (.inr (2, v)) = false) (hk1 : ∀ f, k (am_za 5 f) = false) (hk2 : ∀ f, k (am_ia 5 f) = false) (h : HO g P A n) (kp : KP k g g2) (e1 : P2 1 n = P 1 n) (e5 : A2 5 n = A 5 n) (e67 : ∀ i, i < 5 → A2 6 (5 * n + i) = A 6 (5 * n + i) ∧ A2 7 (5 * n + i) = A 7 (5 * n + i)) : HO g2 P2 A2 n := by
  obtain ⟨a, b, c, F, G, p1, gg, i0, i1, i2, kd, hF⟩ := h
  refine ⟨a, b, c, F, G, e1.trans p1, gg, ?_, kp b _ i1 (hk1 F), kp c _ i2 (hk2 G), by rw [e5]; exact kd, fun i hi => ?_⟩
  · rw [e5]; exact kp a _ i0 (hk _)
  · rw [(e67 i hi).1, (e67 i hi).2]; exact hF i hi
theorem PO_kp {k : am_C → Bool} {nh m x : Nat} {w : Option Nat} (hk : ∀ v, k (.inr (7, v)) = false) (hk1 : ∀ f, k (am_ia 4 f) = false) (h : PO g P A nh m x w) (kp : KP k g g2) (hh : nh ≤ nh2) (e1 : ∀ n, n < nh → P2 1 n = P 1 n) (e2 : ∀ o, o < m → P2 2 o = P 2 o) (e13 : A2 13 x = A 13 x) (e14 : ∀ j, j < 4 → A2 14 (4 * x + j) = A 14 (4 * x + j)) : PO g2 P2 A2 nh2 m x w := by
  rcases h with ⟨p, o, ao, ew, gp, ip, ho, eo, e⟩ | ⟨p, h9, ah, ga, f, ew, gp, ip, ho, eo, e, ig, e4⟩
  · exact Or.inl ⟨p, o, ao, ew, gp, kp p _ ip (hk _), ho, (e2 o ho).trans eo, e13.trans e⟩
  · exact Or.inr ⟨p, h9, ah, ga, f, ew, gp, kp p _ ip (hk _), by omega, (e1 h9 ho).trans eo, e13.trans e, kp ga _ ig (hk1 f), fun j hj => (e14 j hj).trans (e4 j hj)⟩
theorem MO_kp {k : am_C → Bool} {m : Nat} (hk : ∀ v, k (.inr (7, v)) = false) (hk1 : ∀ f, k (am_ia 4 f) = false) (hk2 : ∀ v, k (.inr (4, v)) = false) (hk3 : ∀ f, k (pa_c f) = false) (h : MO g P A nh m) (kp : KP k g g2) (hh : nh ≤ nh2) (e1 : ∀ n, n < nh → P2 1 n = P 1 n) (e2 : ∀ o, o ≤ m → P2 2 o = P 2 o) (e8 : A2 8 m = A 8 m ∧ A2 9 m = A 9 m ∧ A2 10 m = A 10 m ∧ A2 11 m = A 11 m ∧ A2 12 m = A 12 m) (e13 : ∀ i, i < 8 → A2 13 (8 * m + i) = A 13 (8 * m + i) ∧ ∀ j, j < 4 → A2 14 (4 * (8 * m + i) + j) = A 14 (4 * (8 * m + i) + j)) : MO g2 P2 A2 nh2 m := by
  obtain ⟨a, b, pc, f, p1, ⟨ga, gb, hpc⟩, i0, i1, e12, hkk, hpo⟩ := h
  refine ⟨a, b, pc, f, (e2 m (Nat.le_refl _)).trans p1, ⟨ga, gb, hpc⟩, ?_, kp b _ i1 (hk3 f), e8.2.2.2.2.trans e12, ?_, fun i hi => PO_kp hk hk1 (hpo i hi) kp hh e1 (fun o ho => e2 o (by omega)) (e13 i (by omega)).1 (e13 i (by omega)).2⟩
  · rw [e8.1, e8.2.1, e8.2.2.1, e8.2.2.2.1]; exact kp a _ i0 (hk2 _)
  · rw [e8.1, e8.2.1]; exact hkk
theorem NO_kp {k : am_C → Bool} {j : Nat} (hk : ∀ v, k (.inr (5, v)) = false) (hk1 : ∀ v, k (.inr (0, v)) = false) (hk2 : ∀ f, k (am_ia 400 f) = false) (h : NO g P A PA KF j) (kp : KP k g g2) (e0 : P2 0 j = P 0 j) (e4 : A2 4 j = A 4 j) : NO g2 P2 A2 PA KF j := by
  rcases h with ⟨e, e2⟩ | ⟨a, r, c, u, s, e, gg, i0, i1, i2⟩
  · exact Or.inl ⟨e0.trans e, e4.trans e2⟩
  · refine Or.inr ⟨a, r, c, u, s, e0.trans e, gg, ?_, kp _ _ i1 (hk1 _), kp _ _ i2 (hk2 _)⟩
    rw [e4]; exact kp _ _ i0 (hk _)
/-- handles and macros changed; the cloth and the tree as they were -/
theorem IV_ext (q : IV g σ τ A B P R C nh nm ev c PA KF) (kp : KP kM g g2) (hg : g.1 ≤ g2.1) (e0 : P2 0 = P 0) (hA : ∀ j, j < 5 → A2 j = A j) (hs : ∀ j, j ≠ 0 → j ≠ 12 → j ≠ 16 → σ2 j = σ j) (ht : ∀ j, j < 28 → τ2 j = τ j) (s12 : σ2 12 = nI nh2) (t28 : τ2 28 = nI nh2) (n40 : nh2 ≤ 40) (s16 : σ2 16 = nI nm2) (t29 : τ2 29 = nI nm2) (n20 : nm2 ≤ 20) (ho : ∀ n, n < nh2 → HO g2 P2 A2 n) (mo : ∀ m, m < nm2 → MO g2 P2 A2 nh2 m) (mi : ∀ i j a, i < nm2 → j < nm2 → P2 2 i = some a → P2 2 j = some a → i = j) (mb : ∀ m a, m < nm2 → P2 2 m = some a → ∃ k1 k2 k3 k4 p, am_is g2 a (mc_c k1 k2 k3 k4 p (a + 1))) : IV g2 σ2 τ2 A2 B P2 R C nh2 nm2 ev c PA KF := by
  have a2 := hA 2 (by omega)
  have a3 := hA 3 (by omega)
  have a4 := hA 4 (by omega)
  refine ⟨by have := q.g43; omega, q.hR, q.hC, ?_, (hs 10 (by omega) (by omega) (by omega)).trans q.s10, (ht 5 (by omega)).trans q.t5, q.e60, (hs 11 (by omega) (by omega) (by omega)).trans q.s11, (ht 4 (by omega)).trans q.t4, q.hc, by rw [a4]; exact q.thc, s12, t28, n40, s16, t29, n20, ?_, ?_, ?_, ?_, ho, mo, mi, mb, by rw [a3, a4]; exact q.wf, by rw [a4]; exact q.t0, by rw [a3]; exact q.mw, fun k hk => NO_kp (fun _ => rfl) (fun _ => rfl) (fun _ => rfl) (q.no k hk) kp (by rw [e0]) (by rw [a4]), by rw [a3, a4]; exact q.pa, ?_, ?_⟩
  · have r := RW_τ (RW_rows q.rw (hA 0 (by omega)) (hA 1 (by omega))) (fun j hj => ht j (by omega))
    unfold RW at r ⊢
    rw [hs 1 (by omega) (by omega) (by omega), hs 2 (by omega) (by omega) (by omega), hs 5 (by omega) (by omega) (by omega), hs 6 (by omega) (by omega) (by omega), hs 26 (by omega) (by omega) (by omega)]
    exact r
  · rw [hs 24 (by omega) (by omega) (by omega), ht 6 (by omega)]; exact q.o6
  · rw [hs 25 (by omega) (by omega) (by omega), ht 7 (by omega)]; exact q.o7
  · rw [hs 27 (by omega) (by omega) (by omega), ht 9 (by omega)]; exact q.o9
  · rw [hs 28 (by omega) (by omega) (by omega), ht 10 (by omega)]; exact q.o10
  · intro k a hk tk ek
    rw [a4] at tk
    rw [e0] at ek
    rw [a2, KA_of a2]
    obtain ⟨i1, i2, i3⟩ := q.kc k a hk tk ek
    exact ⟨kp _ _ i1 rfl, i2, i3⟩
  · intro i j a hi hj ei ej
    rw [e0] at ei ej
    exact q.ni i j a hi hj ei ej
theorem WB_mH {n : Nat} {k : Int32} {F G : Nat → Int32} (hg : 43 ≤ g.1) : WB (mH g σ t A) n k F G = mH (WB g n k F G) σ t A := by
  unfold WB
  rw [mH_new hg, mH_new (by show 43 ≤ g.1 + 1; omega), mH_new (by show 43 ≤ g.1 + 1 + 1; omega)]
  rfl
theorem IV_hex (q : IV g σ τ A B P R C nh nm ev c PA KF) : ∀ m, m < nh → ∃ a, P 1 m = some a := fun m hm => by
  obtain ⟨a, _, _, _, _, e, _⟩ := q.ho m hm
  exact ⟨a, e⟩
theorem IV_mex (q : IV g σ τ A B P R C nh nm ev c PA KF) : ∀ m, m < nm → ∃ a, P 2 m = some a := fun m hm => by
  obtain ⟨a, _, _, _, e, _⟩ := q.mo m hm
  exact ⟨a, e⟩
/-- a handle more -/
theorem IV_hand (q : IV g σ τ A B P R C nh nm ev c PA KF) (hn : nh < 40) {k : Int32} {F G : Nat → Int32} {A2 : Nat → Nat → Int32} (hA : ∀ j, j ≠ 5 → j ≠ 6 → j ≠ 7 → A2 j = A j) (e5 : ∀ m, m < nh → A2 5 m = A 5 m) (e67 : ∀ m i, m < nh → i < 5 → A2 6 (5 * m + i) = A 6 (5 * m + i) ∧ A2 7 (5 * m + i) = A 7 (5 * m + i)) (n5 : A2 5 nh = k) (kd : ∃ kd, kd < 13 ∧ k = nI kd) (nF : ∀ i, i < 5 → A2 6 (5 * nh + i) = F i ∧ (F i = 0 ∨ F i = 1) ∧ (F i = 0 → G i = 0) ∧ (¬ F i = 0 → A2 7 (5 * nh + i) = G i)) : IV (WB g 3 k F G) (va_up (m0 σ) 12 (nI (nh + 1))) (va_up τ 28 (nI (nh + 1))) A2 B (va_up P 1 (va_up (P 1) nh (some g.1))) R C (nh + 1) nm ev c PA KF := by
  have g43 := q.g43
  have p2 : va_up P 1 (va_up (P 1) nh (some g.1)) 2 = P 2 := va_up_ne _ _ (by omega)
  have p1 : va_up P 1 (va_up (P 1) nh (some g.1)) 1 = va_up (P 1) nh (some g.1) := va_up_self _ _ _
  have mon : ∀ k9, KP k9 g (WB g 3 k F G) := fun k9 => KP_all (fun a x h => WB_o h)
  refine IV_ext q (mon _) (by show g.1 ≤ g.1 + 1 + 1 + 1; omega) (va_up_ne _ _ (by omega)) (fun j hj => hA j (by omega) (by omega) (by omega)) (fun j h0 h1 h2 => (va_up_ne _ _ h1).trans (va_up_ne _ _ h0)) (fun j hj => va_up_ne _ _ (by omega)) (va_up_self _ _ _) (va_up_self _ _ _) (by omega) q.s16 q.t29 q.n20 (fun n hn2 => ?_) (fun m hm => ?_) (by rw [p2]; exact q.mi) (by
    rw [p2]
    intro m a hm ea
    obtain ⟨k1, k2, k3, k4, p, i⟩ := q.mb m a hm ea
    exact ⟨k1, k2, k3, k4, p, WB_o i⟩)
  · by_cases e : n = nh
    · subst e
      refine ⟨g.1, g.1 + 1, g.1 + 2, F, G, by rw [p1, va_up_self], ⟨by omega, by omega, by omega⟩, by rw [n5]; exact WB_0, WB_1, WB_2, by rw [n5]; exact kd, nF⟩
    · exact HO_kp (k := fun _ => false) (fun _ => rfl) (fun _ => rfl) (fun _ => rfl) (q.ho n (by omega)) (mon _) (by rw [p1, va_up_ne _ _ e]) (e5 n (by omega)) (fun i hi => e67 n i (by omega) hi)
  · exact MO_kp (k := fun _ => false) (fun _ => rfl) (fun _ => rfl) (fun _ => rfl) (fun _ => rfl) (q.mo m hm) (mon _) (by omega) (fun n hn2 => by rw [p1, va_up_ne _ _ (by omega)]) (fun o _ => by rw [p2]) ⟨by rw [hA 8 (by omega) (by omega) (by omega)], by rw [hA 9 (by omega) (by omega) (by omega)], by rw [hA 10 (by omega) (by omega) (by omega)], by rw [hA 11 (by omega) (by omega) (by omega)], by rw [hA 12 (by omega) (by omega) (by omega)]⟩ (fun i _ => ⟨by rw [hA 13 (by omega) (by omega) (by omega)], fun j _ => by rw [hA 14 (by omega) (by omega) (by omega)]⟩)
theorem CO_handle (hd : 5 < d) {X : am_H} (hX : WO X) {x : Int32} : CO d z_Desk_handle z_Model_handle [.int x] X := by
  obtain ⟨g, σ, τ, t, A, B, P, R, C, nh, nm, ev, c, PA, KF, rfl, q⟩ := hX
  by_cases hb : 0 ≤ x ∧ x ≤ 12
  · by_cases hf : nh = 40
    · subst hf
      exact co_read (v := .int (-3)) q (fun h hn _ => D_hF hn hd hb q.t28) (fun h hn => m_handleF hn (by omega) hb q.s12)
    · have hn40 : nh < 40 := by have := q.n40; omega
      have hc := D_h (d := d) (t := t) (B := B) (P := P) (IV_g15 (t := t) q) hd hb q.t28 hn40
      rw [WB_mH q.g43] at hc
      obtain ⟨kd, hkd, ek⟩ := bt_nat (n := 12) (by omega) hb
      refine co_mk hc (fun h hn => m_handle hn (by omega) hb q.s12 hn40) (IV_hand q hn40 (k := x) (F := fun _ => 0) (G := fun _ => 0) ?_ ?_ ?_ ?_ ⟨kd, by omega, ek⟩ ?_) (by show g.1 + 1 + 1 + 1 ≤ g.1 + 5; omega) (by show g.2.1 + 3 + 5 + 5 ≤ g.2.1 + 450; omega)
      · intro j h5 h6 h7
        unfold mh_A
        rw [va_up_ne _ _ h6, va_up_ne _ _ h5]
      · intro m hm
        unfold mh_A
        rw [va_up_ne _ _ (by omega), va_up_self, va_up_ne _ _ (by omega)]
      · intro m i hm hi
        constructor
        · unfold mh_A
          rw [va_up_self, va_up_ne _ _ (by omega), va_up_ne _ _ (by omega), va_up_ne _ _ (by omega), va_up_ne _ _ (by omega), va_up_ne _ _ (by omega)]
        · unfold mh_A
          rw [va_up_ne _ _ (by omega), va_up_ne _ _ (by omega)]
      · unfold mh_A
        rw [va_up_ne _ _ (by omega), va_up_self, va_up_self]
      · intro i hi
        refine ⟨?_, Or.inl rfl, fun _ => rfl, fun z => absurd rfl z⟩
        have e : mh_A nh x A 6 = va_up (va_up (va_up (va_up (va_up (A 6) (5 * nh) 0) (5 * nh + 1) 0) (5 * nh + 2) 0) (5 * nh + 3) 0) (5 * nh + 4) 0 := va_up_self _ _ _
        rw [e]
        match i, hi with
        | 0, _ => rw [va_up_ne _ _ (by omega), va_up_ne _ _ (by omega), va_up_ne _ _ (by omega), va_up_ne _ _ (by omega)]; exact va_up_self _ _ _
        | 1, _ => rw [va_up_ne _ _ (by omega), va_up_ne _ _ (by omega), va_up_ne _ _ (by omega), va_up_self]
        | 2, _ => rw [va_up_ne _ _ (by omega), va_up_ne _ _ (by omega), va_up_self]
        | 3, _ => rw [va_up_ne _ _ (by omega), va_up_self]
        | 4, _ => rw [va_up_self]
  · exact co_read (v := .int (-1)) q (fun h hn _ => D_hB hn hd hb) (fun h hn => m_handleB hn (by omega) hb)
theorem mb_wb {n x i : Nat} {v : Int32} {F G : Nat → Int32} (hx : x < n) (hF : ∀ k, k < 5 → A 6 (5 * x + k) = F k ∧ (F k = 0 ∨ F k = 1) ∧ (F k = 0 → G k = 0) ∧ (¬ F k = 0 → A 7 (5 * x + k) = G k)) : (∀ j, j ≠ 5 → j ≠ 6 → j ≠ 7 → mb_A n x i v A j = A j) ∧ mb_A n x i v A 5 = va_up (A 5) n (A 5 x) ∧ (∀ j, j < 5 * n → mb_A n x i v A 6 j = A 6 j ∧ mb_A n x i v A 7 j = A 7 j) ∧ ∀ k, k < 5 → mb_A n x i v A 6 (5 * n + k) = (sp_it (wb_s i v F G) 0 5 (fun _ => 0, fun _ => 0)).1 k ∧ ((sp_it (wb_s i v F G) 0 5 (fun _ => 0, fun _ => 0)).1 k = 0 ∨ (sp_it (wb_s i v F G) 0 5 (fun _ => 0, fun _ => 0)).1 k = 1) ∧ ((sp_it (wb_s i v F G) 0 5 (fun _ => 0, fun _ => 0)).1 k = 0 → (sp_it (wb_s i v F G) 0 5 (fun _ => 0, fun _ => 0)).2 k = 0) ∧ (¬ (sp_it (wb_s i v F G) 0 5 (fun _ => 0, fun _ => 0)).1 k = 0 → mb_A n x i v A 7 (5 * n + k) = (sp_it (wb_s i v F G) 0 5 (fun _ => 0, fun _ => 0)).2 k) := by
  have e := it_rel (g := mb_s n x i v) (g' := wb_s i v F G) (fun m S T => (∀ j, j ≠ 5 → j ≠ 6 → j ≠ 7 → S j = A j) ∧ S 5 = va_up (A 5) n (A 5 x) ∧ (∀ j, j < 5 * n → S 6 j = A 6 j ∧ S 7 j = A 7 j) ∧ ∀ k, k < m → S 6 (5 * n + k) = T.1 k ∧ (T.1 k = 0 ∨ T.1 k = 1) ∧ (T.1 k = 0 → T.2 k = 0) ∧ (¬ T.1 k = 0 → S 7 (5 * n + k) = T.2 k)) 5 0 (va_up A 5 (va_up (A 5) n (A 5 x))) (fun _ => 0, fun _ => 0) (fun m S T _ hm q => by
    obtain ⟨q1, q2, q3, q4⟩ := q
    have f := hF m (by omega)
    have r6 := (q3 (5 * x + m) (by omega)).1
    have r7 := (q3 (5 * x + m) (by omega)).2
    have s6 : mb_s n x i v m S 6 = va_up (S 6) (5 * n + m) (am_b (¬ S 6 (5 * x + m) = 0 ∨ m = i)) := by
      unfold mb_s
      rw [va_up_ne _ _ (by omega), va_up_self]
    have s7 : mb_s n x i v m S 7 = va_up (S 7) (5 * n + m) (if m = i then v else S 7 (5 * x + m)) := by
      unfold mb_s
      rw [va_up_self]
    refine ⟨fun j h5 h6 h7 => ?_, ?_, fun j hj => ?_, fun k hk => ?_⟩
    · unfold mb_s
      rw [va_up_ne _ _ h7, va_up_ne _ _ h6]
      exact q1 j h5 h6 h7
    · unfold mb_s
      rw [va_up_ne _ _ (by omega), va_up_ne _ _ (by omega)]
      exact q2
    · rw [s6, s7, va_up_ne _ _ (by omega), va_up_ne _ _ (by omega)]
      exact q3 j hj
    · rw [s6, s7]
      show _ = va_up T.1 m (am_b (¬ F m = 0 ∨ m = i)) k ∧ (va_up T.1 m (am_b (¬ F m = 0 ∨ m = i)) k = 0 ∨ va_up T.1 m (am_b (¬ F m = 0 ∨ m = i)) k = 1) ∧ (va_up T.1 m (am_b (¬ F m = 0 ∨ m = i)) k = 0 → va_up T.2 m (if m = i then v else G m) k = 0) ∧ (¬ va_up T.1 m (am_b (¬ F m = 0 ∨ m = i)) k = 0 → _ = va_up T.2 m (if m = i then v else G m) k)
      by_cases ek : k = m
      · subst ek
        rw [va_up_self, va_up_self, va_up_self, va_up_self, r6, f.1]
        refine ⟨rfl, am_b01, fun z => ?_, fun z => ?_⟩
        · have z2 := am_b0.mp z
          rw [if_neg (fun y => z2 (Or.inr y))]
          exact f.2.2.1 (Classical.not_not.mp (fun y => z2 (Or.inl y)))
        · by_cases y : k = i
          · rw [if_pos y, if_pos y]
          · rw [if_neg y, if_neg y, r7]
            exact f.2.2.2 ((am_bn.mp z).resolve_right y)
      · rw [va_up_ne _ _ (by omega), va_up_ne _ _ ek, va_up_ne _ _ (by omega), va_up_ne _ _ (by omega)]
        exact q4 k (by omega)) ⟨fun j h5 _ _ => va_up_ne _ _ h5, va_up_self _ _ _, fun j _ => ⟨by rw [va_up_ne _ _ (by omega)], by rw [va_up_ne _ _ (by omega)]⟩, fun k hk => absurd hk (by omega)⟩
  exact ⟨e.1, e.2.1, e.2.2.1, fun k hk => e.2.2.2 k (by omega)⟩
theorem CO_bind (hd : 5 < d) {X : am_H} (hX : WO X) {x i v : Int32} : CO d z_Desk_bind z_Model_bind [.int x, .int i, .int v] X := by
  obtain ⟨g, σ, τ, t, A, B, P, R, C, nh, nm, ev, c, PA, KF, rfl, q⟩ := hX
  by_cases hb : (0 ≤ x ∧ x < nI nh) ∧ (0 ≤ i ∧ i ≤ 4)
  · obtain ⟨m, hm, rfl⟩ := nI_lo (by have := q.n40; omega) hb.1
    obtain ⟨i', hi', rfl⟩ := bt_nat (n := 4) (by omega) hb.2
    obtain ⟨a, b, c9, F, G, p1, ⟨ga, gb, gc⟩, i0, i1, i2, ⟨kd, hkd, ek⟩, hF⟩ := q.ho m hm
    have j0 := mH_ge (σ := σ) (t := t) (A := A) (Or.inr ga) i0
    have j1 := mH_ge (σ := σ) (t := t) (A := A) (Or.inr gb) i1
    have j2 := mH_ge (σ := σ) (t := t) (A := A) (Or.inr gc) i2
    have e6 := (hF i' (by omega)).1
    by_cases hs : F i' = 0
    · by_cases hf : nh = 40
      · exact co_mk (v := .int (-3)) (D_bF (IV_g15 q) hd q.t28 q.n40 hm (by omega) p1 ⟨by omega, by omega, by omega⟩ j0 j1 j2 hs hf) (fun h hn => m_bindF hn (by omega) q.s12 q.n40 hm (by omega) (e6.trans hs) hf) (IV_m0 q) (by omega) (by omega)
      · have hn40 : nh < 40 := by have := q.n40; omega
        have hc := D_b (d := d) (t := t) (B := B) (P := P) (v := v) (IV_g15 (t := t) q) hd q.t28 q.n40 hm (i := i') (by omega) p1 ⟨by omega, by omega, by omega⟩ j0 j1 j2 hs hn40
        rw [WB_mH q.g43] at hc
        obtain ⟨f1, f2, f3, f4⟩ := mb_wb (A := A) (n := nh) (x := m) (i := i') (v := v) hm hF
        exact co_mk hc (fun h hn => m_bind hn (by omega) q.s12 q.n40 hm (by omega) (e6.trans hs) hn40) (IV_hand q hn40 f1 (fun m2 hm2 => by rw [f2, va_up_ne _ _ (by omega)]) (fun m2 i2 hm2 hi2 => f3 _ (by omega)) (by rw [f2, va_up_self]) ⟨kd, hkd, ek⟩ f4) (by show g.1 + 1 + 1 + 1 ≤ g.1 + 5; omega) (by show g.2.1 + 3 + 5 + 5 ≤ g.2.1 + 450; omega)
    · exact co_mk (v := .int (-2)) (D_bS (IV_g15 q) hd q.t28 q.n40 hm (by omega) p1 ⟨by omega, by omega, by omega⟩ j0 j1 j2 hs) (fun h hn => m_bindS hn (by omega) q.s12 q.n40 hm (by omega) (fun z => hs (e6.symm.trans z))) (IV_m0 q) (by omega) (by omega)
  · exact co_read (v := .int (-1)) q (fun h hn _ => D_bB hn hd q.t28 q.n40 (IV_hex q) hb) (fun h hn => m_bindB hn (by omega) q.s12 q.n40 hb)
theorem ms_iff {x y : Nat} : ∀ (m k : Nat) (z : Int32), (z = 0 ∨ z = 1) → ((sp_it (ms_es A x y) k m z = 0 ∨ sp_it (ms_es A x y) k m z = 1) ∧ (¬ sp_it (ms_es A x y) k m z = 0 ↔ ¬ z = 0 ∧ ∀ j, k ≤ j → j < k + m → ms_eq A x y j))
  | 0, k, z, hz => ⟨hz, fun q => ⟨q, fun j h1 h2 => absurd h1 (by omega)⟩, fun q => q.1⟩
  | m + 1, k, z, hz => by
    rw [sp_it]
    have hz2 : ms_es A x y k z = 0 ∨ ms_es A x y k z = 1 := by
      unfold ms_es
      rcases hz with rfl | rfl <;> rcases cb_01 (p := ms_eq A x y k) with e | e <;> rw [e]
      · exact Or.inl rfl
      · exact Or.inl rfl
      · exact Or.inl rfl
      · exact Or.inr rfl
    have hz3 : ¬ ms_es A x y k z = 0 ↔ ¬ z = 0 ∧ ms_eq A x y k := by
      unfold ms_es
      by_cases e : ms_eq A x y k
      · rw [cb_1 e]
        rcases hz with rfl | rfl
        · exact ⟨fun q => absurd rfl q, fun q => absurd rfl q.1⟩
        · exact ⟨fun _ => ⟨by decide, e⟩, fun _ => by decide⟩
      · rw [cb_z e]
        rcases hz with rfl | rfl
        · exact ⟨fun q => absurd rfl q, fun q => absurd rfl q.1⟩
        · exact ⟨fun q => absurd rfl q, fun q => absurd q.2 e⟩
    obtain ⟨i1, i2⟩ := ms_iff m (k + 1) _ hz2
    refine ⟨i1, ?_⟩
    rw [i2, hz3]
    constructor
    · intro q
      refine ⟨q.1.1, fun j h1 h2 => ?_⟩
      by_cases e : j = k
      · subst e; exact q.1.2
      · exact q.2 j (by omega) (by omega)
    · intro q
      exact ⟨⟨q.1, q.2 k (by omega) (by omega)⟩, fun j h1 h2 => q.2 j (by omega) (by omega)⟩
theorem CO_same (hd : 5 < d) {X : am_H} (hX : WO X) {x y : Int32} : CO d z_Desk_same z_Model_same [.int x, .int y] X := by
  obtain ⟨g, σ, τ, t, A, B, P, R, C, nh, nm, ev, c, PA, KF, rfl, q⟩ := hX
  by_cases hb : (0 ≤ x ∧ x < nI nh) ∧ (0 ≤ y ∧ y < nI nh)
  · obtain ⟨m, hm, rfl⟩ := nI_lo (by have := q.n40; omega) hb.1
    obtain ⟨m2, hm2, rfl⟩ := nI_lo (by have := q.n40; omega) hb.2
    obtain ⟨a, b, c9, F, G, p1, ⟨ga, gb, gc⟩, i0, i1, i2, _, hF⟩ := q.ho m hm
    obtain ⟨a', b', c', F', G', p1', ⟨ga', gb', gc'⟩, i0', i1', i2', _, hF'⟩ := q.ho m2 hm2
    have mm : ∀ {a : Nat} {x : am_C}, 43 ≤ a → am_is g a x → am_is (dH (mH g σ t A) τ t B P) a x := fun h1 h2 => dH_ge (by omega) (mH_ge (Or.inr h1) h2)
    have hl := k_isLike (d := d - 1) (mm ga i0) (mm gb i1) (mm gc i2) (mm ga' i0') (mm gb' i1') (mm gc' i2')
    refine co_mk (v := .int (cb (hl_p (A 5 m) (A 5 m2) F G F' G' 5))) (D_sm (IV_g15 q) hd q.t28 q.n40 hm hm2 p1 p1' (mm ga i0) hl) (fun h hn => ?_) (IV_m0 q) (by omega) (by omega)
    have e := m_same (d := d) (h := h) (σ := σ) (t := t) (A := A) hn (by omega) q.s12 q.n40 hm hm2
    have e2 : am_b (¬ ms_same A m m2 = 0) = cb (hl_p (A 5 m) (A 5 m2) F G F' G' 5) := by
      refine cb_am ?_
      unfold ms_same
      rw [(ms_iff 5 0 _ am_b01).2, am_bn]
      unfold hl_p
      have ef : ∀ j, j < 5 → (ms_eq A m m2 j ↔ F j = F' j ∧ G j = G' j) := by
        intro j hj
        obtain ⟨u1, u2, u3, u4⟩ := hF j hj
        obtain ⟨v1, v2, v3, v4⟩ := hF' j hj
        unfold ms_eq
        rw [u1, v1]
        constructor
        · rintro ⟨z1, z2⟩
          refine ⟨z1, ?_⟩
          by_cases z : F j = 0
          · rw [u3 z, v3 (z1 ▸ z)]
          · rw [← u4 z, ← v4 (fun y => z (z1.trans y))]
            exact z2.resolve_left z
        · rintro ⟨z1, z2⟩
          refine ⟨z1, ?_⟩
          by_cases z : F j = 0
          · exact Or.inl z
          · refine Or.inr ?_
            rw [u4 z, v4 (fun y => z (z1.trans y)), z2]
      exact ⟨fun z => ⟨z.1, fun j hj => (ef j hj).mp (z.2 j (by omega) (by omega))⟩, fun z => ⟨z.1, fun j _ hj => (ef j (by omega)).mpr (z.2 j (by omega))⟩⟩
    rw [e2] at e
    exact e
  · exact co_read (v := .int (-1)) q (fun h hn _ => D_smB hn hd q.t28 q.n40 (IV_hex q) hb) (fun h hn => m_sameB hn (by omega) q.s12 q.n40 hb)
end W4
