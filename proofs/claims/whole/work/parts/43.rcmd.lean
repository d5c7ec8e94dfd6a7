/-! the two cloths: line, stamp, swap, mend, looks -/
theorem r_0 {R C u : Nat} {A B : Nat → Nat → Int32} (hR : R ≤ 10) (hC : C ≤ 10) (hu : u < 3) (h : CR R C A (B 0)) {r c x : Int32} {y : Nat} (hy : y < 10) (hx : x = nI y) : CR R C (ms_paint R C u A r c x) (va_up B 0 (sp_paint R C u (B 0) r c x) 0) := by
  rw [va_up_self]
  exact CR_paint hR hC hu h hy hx
theorem r_2 {R C u n a b c e : Nat} {A B : Nat → Nat → Int32} (hR : R ≤ 10) (hC : C ≤ 10) (hu : u < 3) (h : CR R C A (B 0)) {x : Int32} {y : Nat} (hy : y < 10) (hx : x = nI y) (m : Nat) : CR R C (sp_it (fun k A9 => ms_paint R C u A9 (ln_m a c n k) (ln_m b e n k) x) 0 m A) (sp_it (pl_g R C u n a b c e x) 0 m B 0) := by
  refine it_rel (g := fun k A9 => ms_paint R C u A9 (ln_m a c n k) (ln_m b e n k) x) (g' := pl_g R C u n a b c e x) (fun _ A B => CR R C A (B 0)) m 0 A B (fun k A B _ _ q => ?_) h
  unfold pl_g
  exact r_0 hR hC hu q hy hx
theorem r_3 {R C u dd : Nat} {A B : Nat → Nat → Int32} (hR : R ≤ 10) (hC : C ≤ 10) (hu : u < 3) (h : CR R C A (B 0)) {a b bits x : Int32} {y : Nat} (hy : y < 10) (hx : x = nI y) (m : Nat) : CR R C (sp_it (st_g R C u a b bits x dd) 0 m A) (sp_it (ps_g R C u a b bits x dd) 0 m B 0) := by
  refine it_rel (g := st_g R C u a b bits x dd) (g' := ps_g R C u a b bits x dd) (fun _ A B => CR R C A (B 0)) m 0 A B (fun k A B _ _ q => ?_) h
  unfold st_g ps_g
  split
  · exact r_0 hR hC hu q hy hx
  · exact q
theorem ms_self {R C u r c : Nat} {A : Nat → Nat → Int32} {x : Int32} (hr : r < 100) (hc : c < 100) (h : A 0 (100 * u + (10 * r + c)) = x) : ms_paint R C u A (nI r) (nI c) x = A := by
  unfold ms_paint
  rw [nI_clamp (by omega), nI_clamp (by omega)]
  split
  · rw [vu_id' h, vu_id]
  · rfl
theorem ms_other {R C u r c i : Nat} {A : Nat → Nat → Int32} {x : Int32} (hr : r < 100) (hc : c < 100) (hi : i ≠ 100 * u + (10 * r + c)) : ms_paint R C u A (nI r) (nI c) x 0 i = A 0 i := by
  unfold ms_paint
  rw [nI_clamp (by omega), nI_clamp (by omega)]
  split
  · rw [va_up_self, va_up_ne _ _ hi]
  · rfl
theorem r_7 {R C u T E F S : Nat} {A1 B1 A B : Nat → Nat → Int32} (hR : R ≤ 10) (hC : C ≤ 10) (hu : u < 3) (hw : W16 A1 B1) (hT : T ≤ E ∧ E < R) (hF : F ≤ S ∧ S < C) {a b : Int32} {y z : Nat} (hy : y < 10) (ha : a = nI y) (hz : z < 10) (hb : b = nI z) (q : PQ R C A1 B1 A B) (h16 : ∀ i j, i < R → j < C → A 0 (100 * u + (10 * i + j)) = A 16 (10 * i + j)) : PQ R C A1 B1 (sp_bx (bg7 R C u a b) T E F S A) (sp_bx (pb7 R C u a b) T E F S B) := by
  have st : ∀ r c A B, T ≤ r → r < T + (E + 1 - T) → F ≤ c → c < F + (S + 1 - F) → (PQ R C A1 B1 A B ∧ ∀ i j, i < R → j < C → (r < i ∨ (r = i ∧ c ≤ j)) → A 0 (100 * u + (10 * i + j)) = A 16 (10 * i + j)) → (PQ R C A1 B1 (bg7 R C u a b r c A) (pb7 R C u a b r c B) ∧ ∀ i j, i < R → j < C → (r < i ∨ (r = i ∧ c + 1 ≤ j)) → bg7 R C u a b r c A 0 (100 * u + (10 * i + j)) = bg7 R C u a b r c A 16 (10 * i + j)) := by
    intro r c A B h1 h2 h3 h4 q
    obtain ⟨q, k⟩ := q
    constructor
    · obtain ⟨e, _⟩ := hw (10 * r + c) (by omega)
      unfold bg7 pb7
      rw [q.2.2, ← e, q.2.1]
      by_cases z1 : A1 16 (10 * r + c) = a
      · rw [if_pos z1, if_pos z1]
        exact PQ_paint hR hC hu q hz hb
      · rw [if_neg z1, if_neg z1]
        by_cases z2 : A1 16 (10 * r + c) = b
        · rw [if_pos z2, if_pos z2]
          exact PQ_paint hR hC hu q hy ha
        · rw [if_neg z2, if_neg z2, ms_self (by omega) (by omega) (by rw [k r c (by omega) (by omega) (by omega), q.2.1])]
          exact q
    · intro i j hi hj hij
      unfold bg7
      rw [ms_other (by omega) (by omega) (by omega), pt_15 _ _ _ _ _ _ _ 16 (by omega)]
      exact k i j hi hj (by omega)
  have e3 := it_rel (g := fun r => sp_it (bg7 R C u a b r) F (S + 1 - F)) (g' := fun r => sp_it (pb7 R C u a b r) F (S + 1 - F)) (fun r A B => PQ R C A1 B1 A B ∧ ∀ i j, i < R → j < C → r ≤ i → A 0 (100 * u + (10 * i + j)) = A 16 (10 * i + j)) (E + 1 - T) T A B (fun r A B h1 h2 q => by
    have e4 := it_rel (g := bg7 R C u a b r) (g' := pb7 R C u a b r) (fun c A B => PQ R C A1 B1 A B ∧ ∀ i j, i < R → j < C → (r < i ∨ (r = i ∧ c ≤ j)) → A 0 (100 * u + (10 * i + j)) = A 16 (10 * i + j)) (S + 1 - F) F A B (fun c A B h3 h4 q => st r c A B h1 h2 h3 h4 q) ⟨q.1, fun i j hi hj hij => q.2 i j hi hj (by omega)⟩
    exact ⟨e4.1, fun i j hi hj hij => e4.2 i j hi hj (by omega)⟩) ⟨q, fun i j hi hj _ => h16 i j hi hj⟩
  exact e3.1
/-- mend -/
theorem mb_iff {f : Nat → Int32} {o : Nat} {x : Int32} : ∀ {n : Nat}, mb_all f o x n ↔ ∀ i, 1 ≤ i → i ≤ n → f (o - i) = x
  | 0 => ⟨fun _ i h1 h2 => absurd h1 (by omega), fun _ => trivial⟩
  | n + 1 => by
    show mb_all f o x n ∧ f (o - (n + 1)) = x ↔ _
    rw [mb_iff (n := n)]
    constructor
    · intro q i h1 h2
      by_cases e : i = n + 1
      · subst e; exact q.2
      · exact q.1 i h1 (by omega)
    · intro q
      exact ⟨fun i h1 h2 => q i h1 (by omega), q (n + 1) (by omega) (by omega)⟩
theorem me_v : ∀ y : Nat, y < 10 → nI y - nI y / 9 * 9 + 1 = nI (y % 9) + 1 := by decide
def MeQ (R C u F r c : Nat) (A : Nat → Nat → Int32) (X : (Nat → Nat → Int32) × Int32 × Int32) : Prop := CR R C A (X.1 0) ∧ ∃ l, l ≤ c - F ∧ X.2.2 = nI l ∧ (c = F → X.2.1 = 0) ∧ (F < c → X.2.1 = A 0 (100 * u + (10 * r + c) - 1) ∧ 1 ≤ l) ∧ (∀ i, 1 ≤ i → i ≤ l → A 0 (100 * u + (10 * r + c) - i) = X.2.1) ∧ (l < c - F → ¬ A 0 (100 * u + (10 * r + c) - (l + 1)) = X.2.1)
theorem mq_s {R C u F r c aa : Nat} {A : Nat → Nat → Int32} {X : (Nat → Nat → Int32) × Int32 × Int32} (hR : R ≤ 10) (hC : C ≤ 10) (hu : u < 3) (ha1 : 1 ≤ aa ∧ aa ≤ 9) (hr : r < R) (hc : F ≤ c ∧ c < C) (q : MeQ R C u F r c A X) : MeQ R C u F r (c + 1) (bg8 R C u F aa r c A) (me_g R C u (nI aa) r c X) := by
  obtain ⟨B, la, le⟩ := X
  obtain ⟨h, l, l1, l2, l3, l4, l5, l6⟩ := q
  dsimp only at h l2 l3 l4 l5 l6
  obtain ⟨y, hy, ey⟩ := h.2.2 (100 * u + (10 * r + c))
  have ew : B 0 (cx r c u) = A 0 (100 * u + (10 * r + c)) := ((h.1 r c hr hc.2).1 u hu).symm
  have ecl : (nI y).toNatClampNeg = y := nI_clamp (by omega)
  have cond : ((¬ A 0 (100 * u + (10 * r + c)) = 0 ∧ aa ≤ c - F) ∧ mb_all (A 0) (100 * u + (10 * r + c)) (A 0 (100 * u + (10 * r + c))) aa) ↔ (¬ B 0 (cx r c u) = 0 ∧ B 0 (cx r c u) = la ∧ nI aa ≤ le) := by
    rw [ew, l2, mb_iff]
    constructor
    · rintro ⟨⟨p1, p2⟩, p3⟩
      have p4 := p3 1 (by omega) (by omega)
      have p5 := (l4 (by omega)).1
      rw [p4] at p5
      refine ⟨p1, p5.symm, nI_le ?_ (by omega)⟩
      refine Nat.le_of_not_lt (fun p6 => ?_)
      exact l6 (by omega) ((p3 (l + 1) (by omega) (by omega)).trans p5.symm)
    · rintro ⟨p1, p2, p3⟩
      have p4 : aa ≤ l := Nat.le_of_not_lt (fun p => absurd (nI_lt p (by omega)) (Int32.not_lt.mpr p3))
      exact ⟨⟨p1, by omega⟩, fun i h1 h2 => (l5 i h1 (by omega)).trans p2.symm⟩
  have both : ∃ A' B', bg8 R C u F aa r c A = A' ∧ me_B R C u (nI aa) r c B la le = B' ∧ CR R C A' (B' 0) ∧ ∀ i, i ≠ 100 * u + (10 * r + c) → A' 0 i = A 0 i := by
    by_cases z : ((¬ A 0 (100 * u + (10 * r + c)) = 0 ∧ aa ≤ c - F) ∧ mb_all (A 0) (100 * u + (10 * r + c)) (A 0 (100 * u + (10 * r + c))) aa)
    · refine ⟨_, _, @if_pos _ (Classical.propDecidable _) z _ _ _, if_pos (cond.mp z), ?_, ?_⟩
      · rw [ew, ey, ecl, me_v y hy]
        exact r_0 hR hC hu h (y := y % 9 + 1) (by omega) (nI_1 _)
      · intro i hi
        exact ms_other (by omega) (by omega) hi
    · refine ⟨_, _, @if_neg _ (Classical.propDecidable _) z _ _ _, if_neg (fun p => z (cond.mpr p)), h, fun i _ => rfl⟩
  obtain ⟨A', B', e1, e2, h', hoth⟩ := both
  have ew' : B' 0 (cx r c u) = A' 0 (100 * u + (10 * r + c)) := ((h'.1 r c hr hc.2).1 u hu).symm
  rw [e1]
  show CR R C A' (me_B R C u (nI aa) r c B la le 0) ∧ ∃ l, l ≤ c + 1 - F ∧ (if me_B R C u (nI aa) r c B la le 0 (cx r c u) = la then le + 1 else 1) = nI l ∧ (c + 1 = F → me_B R C u (nI aa) r c B la le 0 (cx r c u) = 0) ∧ (F < c + 1 → me_B R C u (nI aa) r c B la le 0 (cx r c u) = A' 0 (100 * u + (10 * r + (c + 1)) - 1) ∧ 1 ≤ l) ∧ (∀ i, 1 ≤ i → i ≤ l → A' 0 (100 * u + (10 * r + (c + 1)) - i) = me_B R C u (nI aa) r c B la le 0 (cx r c u)) ∧ (l < c + 1 - F → ¬ A' 0 (100 * u + (10 * r + (c + 1)) - (l + 1)) = me_B R C u (nI aa) r c B la le 0 (cx r c u))
  rw [e2, ew']
  have i1 : 100 * u + (10 * r + (c + 1)) - 1 = 100 * u + (10 * r + c) := by omega
  refine ⟨h', ?_⟩
  by_cases z : A' 0 (100 * u + (10 * r + c)) = la
  · refine ⟨l + 1, by omega, ?_, fun p => absurd p (by omega), fun _ => ⟨by rw [i1], by omega⟩, fun i h1 h2 => ?_, fun h3 => ?_⟩
    · rw [if_pos z, l2]; exact nI_1 _
    · by_cases e : i = 1
      · subst e; rw [i1]
      · rw [show 100 * u + (10 * r + (c + 1)) - i = 100 * u + (10 * r + c) - (i - 1) by omega, hoth _ (by omega), l5 (i - 1) (by omega) (by omega), z]
    · rw [show 100 * u + (10 * r + (c + 1)) - (l + 1 + 1) = 100 * u + (10 * r + c) - (l + 1) by omega, hoth _ (by omega), z]
      exact l6 (by omega)
  · refine ⟨1, by omega, ?_, fun p => absurd p (by omega), fun _ => ⟨by rw [i1], by omega⟩, fun i h1 h2 => ?_, fun h3 => ?_⟩
    · rw [if_neg z]; rfl
    · rw [show i = 1 by omega, i1]
    · rw [show 100 * u + (10 * r + (c + 1)) - (1 + 1) = 100 * u + (10 * r + c) - 1 by omega, hoth _ (by omega), ← (l4 (by omega)).1]
      exact fun p => z p.symm
theorem r_8 {R C u T E F S aa : Nat} {A B : Nat → Nat → Int32} (hR : R ≤ 10) (hC : C ≤ 10) (hu : u < 3) (hT : T ≤ E ∧ E < R) (hF : F ≤ S ∧ S < C) (ha : 1 ≤ aa ∧ aa ≤ 9) (h : CR R C A (B 0)) : CR R C (sp_bx (bg8 R C u F aa) T E F S A) (sp_it (me_r R C u (nI aa) F S) T (E + 1 - T) B 0) := by
  refine it_rel (g := fun r => sp_it (bg8 R C u F aa r) F (S + 1 - F)) (g' := me_r R C u (nI aa) F S) (fun _ A B => CR R C A (B 0)) (E + 1 - T) T A B (fun r A B h1 h2 q => ?_) h
  have e := it_rel (g := bg8 R C u F aa r) (g' := me_g R C u (nI aa) r) (fun c A X => MeQ R C u F r c A X) (S + 1 - F) F A (B, 0, 0) (fun c A X h3 h4 q => mq_s hR hC hu ha (by omega) (by omega) q) ⟨q, 0, by omega, rfl, fun _ => rfl, fun p => absurd p (by omega), fun i p1 p2 => absurd p1 (by omega), fun p => absurd p (by omega)⟩
  exact e.1
/-- the selection -/
theorem CR_selup {R C : Nat} {A : Nat → Nat → Int32} {f : Nat → Int32} (hR : R ≤ 10) (hC : C ≤ 10) (h : CR R C A f) {r c : Nat} (hr : r < R) (hc : c < C) {x : Int32} (hx : x = 0 ∨ x = 1) : CR R C (va_up A 1 (va_up (A 1) (10 * r + c) x)) (va_up f (cx r c 3) x) := by
  refine ⟨fun a b ha hb => ⟨fun l hl => ?_, ?_, ?_⟩, fun a b ha hb hn => ⟨?_, fun l hl => ?_⟩, fun j => ?_⟩
  · rw [va_up_ne _ _ (by omega), va_up_ne _ _ (fun q => by have := cx_ij (by omega) (by omega) (by omega) (by omega) q; omega)]
    exact (h.1 a b ha hb).1 l hl
  · rw [va_up_self]
    by_cases e : a = r ∧ b = c
    · obtain ⟨rfl, rfl⟩ := e
      rw [va_up_self, va_up_self]
    · rw [va_up_ne _ _ (by omega), va_up_ne _ _ (fun q => by have := cx_ij (by omega) (by omega) (by omega) (by omega) q; omega)]
      exact (h.1 a b ha hb).2.1
  · by_cases e : a = r ∧ b = c
    · obtain ⟨rfl, rfl⟩ := e
      rw [va_up_self]
      exact hx
    · rw [va_up_ne _ _ (fun q => by have := cx_ij (by omega) (by omega) (by omega) (by omega) q; omega)]
      exact (h.1 a b ha hb).2.2
  · rw [va_up_self, va_up_ne _ _ (by omega)]
    exact (h.2.1 a b ha hb hn).1
  · rw [va_up_ne _ _ (by omega)]
    exact (h.2.1 a b ha hb hn).2 l hl
  · rw [va_up_ne _ _ (by omega)]
    exact h.2.2 j
theorem lk_iff {R C : Nat} {v : Nat → Int32} (hR : R ≤ 10) (hC : C ≤ 10) (hb : blk R C v) {r c : Nat} (hr : r < R) (hc : c < C) : lk_i (v 0) (v 1) v (10 * r + c) ↔ sl_p (v 0) (v 1) (v 2) (v 3) r c := by
  obtain ⟨⟨b0, b1, b2, b3⟩, b4, b5⟩ := hb
  have e1 : (1 : Int32).toInt = 1 := by decide
  have s : ∀ (a n : Int32) (i : Nat), 0 ≤ a.toInt → 1 ≤ n.toInt → a.toInt + n.toInt ≤ 10 → i < 10 → (nI i ≤ a + n - 1 ↔ nI i - a < n) := by
    intro a n i ha hn hs hi
    rw [Int32.le_iff_toInt_le, Int32.lt_iff_toInt_lt, Int32.toInt_sub, Int32.toInt_add, nI_toInt (by omega), e1, i32_sub (by omega) ha]
    rw [Int.bmod_eq_of_le (n := a.toInt + n.toInt) (by omega) (by omega), Int.bmod_eq_of_le (by omega) (by omega)]
    omega
  unfold lk_i sl_p
  rw [show (10 * r + c) / 10 = r by omega, show (10 * r + c) % 10 = c by omega, s (v 0) (v 2) r b0 b2 (by omega) (by omega), s (v 1) (v 3) c b1 b3 (by omega) (by omega)]
theorem lk_w_iff {way : Int32} {o o' i i' : Prop} (h1 : o ↔ o') (h2 : i ↔ i') : lk_w way o i ↔ lk_w way o' i' := by
  unfold lk_w
  split
  · exact h2
  · split
    · rw [h1, h2]
    · split
      · rw [h1, h2]
      · rw [h1, h2]
theorem r_9 {R C : Nat} {A B : Nat → Nat → Int32} {v : Nat → Int32} (hR : R ≤ 10) (hC : C ≤ 10) (h : CR R C A (B 0)) (hv : A 15 = v) (hb : blk R C v) : CR R C (sp_it (lk_9 R C (v 0) (v 1)) 0 100 A) (sp_it (fun r => sp_it (sl_g (v 0) (v 1) (v 2) (v 3) (v 4) r) 0 C) 0 R B 0) := by
  rw [it_rc (g := lk_9 R C (v 0) (v 1)) hR hC (fun _ => True) (fun _ _ _ _ _ _ => trivial) (fun r c x hr hc hn _ => if_neg (by rw [show (10 * r + c) / 10 = r by omega, show (10 * r + c) % 10 = c by omega]; exact hn)) A trivial]
  have e := it_rel (g := fun r => sp_it (fun c => lk_9 R C (v 0) (v 1) (10 * r + c)) 0 C) (g' := fun r => sp_it (sl_g (v 0) (v 1) (v 2) (v 3) (v 4) r) 0 C) (fun _ A B => CR R C A (B 0) ∧ A 15 = v) R 0 A B (fun r A B _ hr q => it_rel (g := fun c => lk_9 R C (v 0) (v 1) (10 * r + c)) (g' := sl_g (v 0) (v 1) (v 2) (v 3) (v 4) r) (fun _ A B => CR R C A (B 0) ∧ A 15 = v) C 0 A B (fun c A B _ hc q => by
    have e1 : lk_9 R C (v 0) (v 1) (10 * r + c) A = va_up A 1 (va_up (A 1) (10 * r + c) (cb (lk_w (A 15 4) (¬ A 1 (10 * r + c) = 0) (lk_i (v 0) (v 1) (A 15) (10 * r + c))))) := if_pos (by rw [show (10 * r + c) / 10 = r by omega, show (10 * r + c) % 10 = c by omega]; omega)
    rw [e1, q.2]
    have e2 : cb (lk_w (v 4) (¬ A 1 (10 * r + c) = 0) (lk_i (v 0) (v 1) v (10 * r + c))) = cb (lk_w (v 4) (B 0 (cx r c 3) = 1) (sl_p (v 0) (v 1) (v 2) (v 3) r c)) := cb_if (lk_w_iff (CR_sel q.1 (by omega) (by omega)) (lk_iff hR hC hb (by omega) (by omega)))
    rw [e2]
    refine ⟨?_, (va_up_ne _ _ (by omega)).trans q.2⟩
    unfold sl_g
    rw [va_up_self]
    exact CR_selup hR hC q.1 (by omega) (by omega) cb_01) q) ⟨h, hv⟩
  exact e.1
theorem seen_if {s : Int32} {w w' : Nat → Int32} (h : ∀ l, l < 3 → w l = w' l) : sp_seen s w = sp_seen s w' := by
  unfold sp_seen
  rw [h 0 (by omega), h 1 (by omega), h 2 (by omega)]
theorem r_10 {R C : Nat} {A B : Nat → Nat → Int32} {s a : Int32} (hR : R ≤ 10) (hC : C ≤ 10) (h : CR R C A (B 0)) : CR R C (sp_it (lk_10 s a) 0 100 A) (sp_it (fun r => sp_it (pk_g s a r) 0 C) 0 R B 0) := by
  rw [it_rc (g := lk_10 s a) hR hC (fun A => ∀ r c, r < 10 → c < 10 → ¬ (r < R ∧ c < C) → A 1 (10 * r + c) = 0) (fun r c A hr hc I => by
    intro r2 c2 hr2 hc2 hn2
    unfold lk_10
    rw [va_up_self]
    by_cases e : 10 * r2 + c2 = 10 * r + c
    · rw [e, va_up_self]
      refine am_bz (fun p => p.1 ?_)
      rw [← e]
      exact I r2 c2 hr2 hc2 hn2
    · rw [va_up_ne _ _ e]
      exact I r2 c2 hr2 hc2 hn2) (fun r c A hr hc hn I => by
    unfold lk_10
    rw [am_bz (fun p => p.1 (I r c hr hc hn)), vu_id' (I r c hr hc hn), vu_id]) A (fun r c hr hc hn => (h.2.1 r c hr hc hn).1)]
  refine it_rel (g := fun r => sp_it (fun c => lk_10 s a (10 * r + c)) 0 C) (g' := fun r => sp_it (pk_g s a r) 0 C) (fun _ A B => CR R C A (B 0)) R 0 A B (fun r A B _ hr q => it_rel (g := fun c => lk_10 s a (10 * r + c)) (g' := pk_g s a r) (fun _ A B => CR R C A (B 0)) C 0 A B (fun c A B _ hc q => ?_) q) h
  unfold lk_10 pk_g
  rw [va_up_self]
  have e1 : sp_seen s (fun l => A 0 (100 * l + (10 * r + c))) = sp_seen s (fun l => B 0 (cx r c l)) := seen_if (fun l hl => (q.1 r c (by omega) (by omega)).1 l hl)
  have e2 : am_b (¬ A 1 (10 * r + c) = 0 ∧ sp_seen s (fun l => A 0 (100 * l + (10 * r + c))) = a) = am_b (B 0 (cx r c 3) = 1 ∧ sp_seen s (fun l => B 0 (cx r c l)) = a) := by
    by_cases z : B 0 (cx r c 3) = 1 ∧ sp_seen s (fun l => B 0 (cx r c l)) = a
    · rw [am_b1 z, am_b1 ⟨(CR_sel q (by omega) (by omega)).mpr z.1, by rw [e1]; exact z.2⟩]
    · rw [am_bz z, am_bz (fun p => z ⟨(CR_sel q (by omega) (by omega)).mp p.1, by rw [← e1]; exact p.2⟩)]
  rw [e2]
  exact CR_selup hR hC q (by omega) (by omega) am_b01
