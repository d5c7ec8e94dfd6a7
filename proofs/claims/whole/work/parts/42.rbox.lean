/-! the two cloths: counts, the box, painting in it -/
theorem it_sum {g : Nat → Int32} : ∀ (m c : Nat) (x : Int32), sp_it (fun j (y : Int32) => y + g j) c m x = x + sp_s g c m
  | 0, c, x => (Int32.add_zero x).symm
  | m + 1, c, x => by
    rw [sp_it, it_sum m (c + 1), sp_s, Int32.add_assoc]
theorem it_sum2 {G : Nat → Nat → Int32} {C : Nat} : ∀ (m r : Nat) (x : Int32), sp_it (fun r => sp_it (fun c (y : Int32) => y + G r c) 0 C) r m x = x + sp_s (fun r => sp_s (G r) 0 C) r m
  | 0, r, x => (Int32.add_zero x).symm
  | m + 1, r, x => by
    rw [sp_it, it_sum2 m (r + 1), sp_s, it_sum, Int32.add_assoc]
theorem sum_rc {g : Nat → Int32} {G : Nat → Nat → Int32} {R C : Nat} (hR : R ≤ 10) (hC : C ≤ 10) (h1 : ∀ r c, r < R → c < C → g (10 * r + c) = G r c) (h2 : ∀ r c, r < 10 → c < 10 → ¬ (r < R ∧ c < C) → g (10 * r + c) = 0) : sp_it (fun k (y : Int32) => y + g k) 0 100 0 = sp_s (fun r => sp_s (G r) 0 C) 0 R := by
  rw [it_rc hR hC (fun _ => True) (fun _ _ _ _ _ _ => trivial) (fun r c x hr hc hn _ => by rw [h2 r c hr hc hn, Int32.add_zero]) 0 trivial]
  rw [it_sum2, Int32.zero_add]
  exact sp_s_congr R 0 (fun r _ hr => sp_s_congr C 0 (fun c _ hc => h1 r c (by omega) (by omega)))
theorem CR_am {R C : Nat} {A : Nat → Nat → Int32} {f : Nat → Int32} (h : CR R C A f) {r c : Nat} (hr : r < R) (hc : c < C) : am_b (¬ A 1 (10 * r + c) = 0) = f (cx r c 3) := by
  obtain ⟨_, e, z⟩ := h.1 r c hr hc
  rcases z with z | z
  · rw [am_bz (by rw [e, z]; exact fun q => q rfl), z]
  · rw [am_b1 (by rw [e, z]; decide), z]
theorem r_sel {R C : Nat} {A : Nat → Nat → Int32} {f : Nat → Int32} (hR : R ≤ 10) (hC : C ≤ 10) (h : CR R C A f) : ms_sel A = sp_sel f R C := by
  have e := sum_rc (g := fun k => am_b (¬ A 1 k = 0)) (G := fun r c => f (cx r c 3)) hR hC (fun r c hr hc => CR_am h hr hc) (fun r c hr hc hn => am_bz (by rw [(h.2.1 r c hr hc hn).1]; exact fun q => q rfl))
  rw [it_sum, Int32.zero_add] at e
  exact e
theorem sp_s_nat {g : Nat → Int32} {K : Nat} : ∀ (m c : Nat), (∀ j, c ≤ j → j < c + m → ∃ b, b ≤ K ∧ g j = nI b) → ∃ n, n ≤ K * m ∧ sp_s g c m = nI n
  | 0, c, _ => ⟨0, by omega, rfl⟩
  | m + 1, c, hg => by
    obtain ⟨b, hb, e⟩ := hg c (by omega) (by omega)
    obtain ⟨n, hn, e2⟩ := sp_s_nat m (c + 1) (fun j h1 h2 => hg j (by omega) (by omega))
    refine ⟨b + n, ?_, ?_⟩
    · rw [Nat.mul_succ]; omega
    · rw [sp_s, e, e2, nI_add]
theorem sp_s_0 {g : Nat → Int32} : ∀ (m c : Nat), (∀ j, c ≤ j → j < c + m → g j = 0) → sp_s g c m = 0
  | 0, c, _ => rfl
  | m + 1, c, hg => by
    rw [sp_s, hg c (by omega) (by omega), sp_s_0 m (c + 1) (fun j h1 h2 => hg j (by omega) (by omega)), Int32.zero_add]
theorem CR_sn {R C : Nat} {A : Nat → Nat → Int32} {f : Nat → Int32} (hR : R ≤ 10) (hC : C ≤ 10) (h : CR R C A f) : ∃ n, n ≤ 100 ∧ sp_sel f R C = nI n := by
  have q1 : ∀ r, r < R → ∃ b, b ≤ 10 ∧ sp_s (fun c => f (cx r c 3)) 0 C = nI b := by
    intro r hr
    obtain ⟨n, hn, e⟩ := sp_s_nat (g := fun c => f (cx r c 3)) (K := 1) C 0 (fun c _ hc => by
      rcases (h.1 r c hr (by omega)).2.2 with z | z
      · exact ⟨0, by omega, z⟩
      · exact ⟨1, by omega, z⟩)
    exact ⟨n, by omega, e⟩
  obtain ⟨n, hn, e⟩ := sp_s_nat (g := fun r => sp_s (fun c => f (cx r c 3)) 0 C) (K := 10) R 0 (fun r _ hr => q1 r (by omega))
  exact ⟨n, by omega, e⟩
theorem CR_pos {R C : Nat} {A : Nat → Nat → Int32} {f : Nat → Int32} (hR : R ≤ 10) (hC : C ≤ 10) (h : CR R C A f) : 0 < sp_sel f R C ↔ ¬ sp_sel f R C = 0 := by
  obtain ⟨n, hn, e⟩ := CR_sn hR hC h
  rw [e]
  constructor
  · intro q z
    rw [z] at q
    exact absurd q (by decide)
  · intro q
    have : n ≠ 0 := fun z => q (by rw [z]; rfl)
    exact nI_lt (a := 0) (by omega) (by omega)
theorem CR_ex {R C : Nat} {f : Nat → Int32} (h : ¬ sp_sel f R C = 0) (hv : ∀ r c, r < R → c < C → f (cx r c 3) = 0 ∨ f (cx r c 3) = 1) : ∃ r c, r < R ∧ c < C ∧ f (cx r c 3) = 1 := by
  refine Classical.byContradiction (fun q => h ?_)
  refine sp_s_0 R 0 (fun r _ hr => sp_s_0 C 0 (fun c _ hc => ?_))
  exact (hv r c (by omega) (by omega)).resolve_right (fun z => q ⟨r, c, by omega, by omega, z⟩)
/-- the box -/
def bxo (A : Nat → Nat → Int32) (k : Nat) (σ : Nat → Int32) : Nat → Int32 := if ¬ A 1 k = 0 then bx4 k (bx3 k (bx2 k (bx1 k σ))) else σ
theorem bx_1 (u : Nat) : ∀ (m k : Nat) (S : (Nat → Int32) × (Nat → Nat → Int32)), (sp_it (bxs u) k m S).1 = sp_it (bxo S.2) k m S.1
  | 0, _, _ => rfl
  | m + 1, k, S => by
    rw [sp_it, bx_1 u m (k + 1), sp_it]
    have e : bxo (bxs u k S).2 = bxo S.2 := by
      funext j σ
      unfold bxo
      rw [show (bxs u k S).2 1 = S.2 1 from show va_up S.2 16 (va_up (S.2 16) k (S.2 0 (100 * u + k))) 1 = S.2 1 from va_up_ne _ _ (by omega)]
    rw [e]
    rfl
theorem i_min {a b : Nat} (ha : a < 1000) (hb : b < 1000) : (if nI a ≤ nI b then nI a else nI b) = nI (if a ≤ b then a else b) := by
  by_cases e : a ≤ b
  · rw [if_pos e, if_pos (nI_le e (by omega))]
  · rw [if_neg e, if_neg (fun q => absurd (nI_lt (Nat.lt_of_not_le e) (by omega)) (Int32.not_lt.mpr q))]
theorem i_max {a b : Nat} (ha : a < 1000) (hb : b < 1000) : (if nI b ≤ nI a then nI a else nI b) = nI (if b ≤ a then a else b) := by
  by_cases e : b ≤ a
  · rw [if_pos e, if_pos (nI_le e (by omega))]
  · rw [if_neg e, if_neg (fun q => absurd (nI_lt (Nat.lt_of_not_le e) (by omega)) (Int32.not_lt.mpr q))]
theorem i_mn {a b : Nat} (ha : a < 1000) (hb : b < 1000) : mn_c (nI a) (nI b) = nI (if a ≤ b then a else b) := by
  unfold mn_c
  by_cases e : a ≤ b
  · rw [if_pos e, if_neg (nI_nlt e (by omega))]
  · rw [if_neg e, if_pos (nI_lt (by omega) (by omega))]
theorem i_mx {a b : Nat} (ha : a < 1000) (hb : b < 1000) : mx_c (nI a) (nI b) = nI (if b ≤ a then a else b) := by
  unfold mx_c
  by_cases e : b ≤ a
  · rw [if_pos e, if_neg (nI_nlt e (by omega))]
  · rw [if_neg e, if_pos (nI_lt (by omega) (by omega))]
def BQ1 (σ τ : Nat → Int32) : Prop := (σ 32 = 99 ∧ σ 33 = -1 ∧ σ 34 = 99 ∧ σ 35 = -1) ∧ τ 18 = 10 ∧ τ 19 = 10 ∧ τ 20 = -1 ∧ τ 21 = -1
def BQ2 (R C : Nat) (σ τ : Nat → Int32) : Prop := ∃ T E F S, ((T ≤ E ∧ E < R) ∧ F ≤ S ∧ S < C) ∧ (σ 32 = nI T ∧ σ 33 = nI E ∧ σ 34 = nI F ∧ σ 35 = nI S) ∧ τ 18 = nI T ∧ τ 19 = nI F ∧ τ 20 = nI E ∧ τ 21 = nI S
def BQ (R C : Nat) (f : Nat → Int32) (r c : Nat) (σ τ : Nat → Int32) : Prop := BQ2 R C σ τ ∨ (BQ1 σ τ ∧ ∀ a b, a < R → b < C → (a < r ∨ (a = r ∧ b < c)) → ¬ f (cx a b 3) = 1)
theorem i_c99 {r : Nat} (hr : r < 10) : (if (99 : Int32) ≤ nI r then (99 : Int32) else nI r) = nI r := if_neg (fun q => absurd (nI_lt (a := r) (b := 99) (by omega) (by omega)) (Int32.not_lt.mpr q))
theorem i_cm1 {r : Nat} (hr : r < 10) : (if nI r ≤ (-1 : Int32) then (-1 : Int32) else nI r) = nI r := if_neg (fun q => by
  have := Int32.le_iff_toInt_le.mp q
  rw [nI_toInt (by omega), show (-1 : Int32).toInt = -1 by decide] at this
  omega)
theorem i_d10 {r : Nat} (hr : r < 10) : mn_c 10 (nI r) = nI r := if_pos (nI_lt (a := r) (b := 10) (by omega) (by omega))
theorem i_dm1 {r : Nat} (hr : r < 10) : mx_c (-1) (nI r) = nI r := if_pos (Int32.not_le.mp (fun q => by
  have := Int32.le_iff_toInt_le.mp q
  rw [nI_toInt (by omega), show (-1 : Int32).toInt = -1 by decide] at this
  omega))
theorem bx_at {k : Nat} {σ : Nat → Int32} : (bx4 k (bx3 k (bx2 k (bx1 k σ))) 32 = (if σ 32 ≤ nI (k / 10) then σ 32 else nI (k / 10))) ∧ (bx4 k (bx3 k (bx2 k (bx1 k σ))) 33 = (if nI (k / 10) ≤ σ 33 then σ 33 else nI (k / 10))) ∧ (bx4 k (bx3 k (bx2 k (bx1 k σ))) 34 = (if σ 34 ≤ nI (k % 10) then σ 34 else nI (k % 10))) ∧ (bx4 k (bx3 k (bx2 k (bx1 k σ))) 35 = (if nI (k % 10) ≤ σ 35 then σ 35 else nI (k % 10))) := ⟨rfl, rfl, rfl, rfl⟩
theorem mx_at {r c : Nat} {τ : Nat → Int32} : mx_τ r c τ 18 = mn_c (τ 18) (nI r) ∧ mx_τ r c τ 19 = mn_c (τ 19) (nI c) ∧ mx_τ r c τ 20 = mx_c (τ 20) (nI r) ∧ mx_τ r c τ 21 = mx_c (τ 21) (nI c) := ⟨rfl, rfl, rfl, rfl⟩
theorem bq_s {R C : Nat} {A : Nat → Nat → Int32} {f : Nat → Int32} (hR : R ≤ 10) (hC : C ≤ 10) (h : CR R C A f) {r c : Nat} (hr : r < R) (hc : c < C) {σ τ : Nat → Int32} (q : BQ R C f r c σ τ) : BQ R C f r (c + 1) (bxo A (10 * r + c) σ) (mx_g f r c τ) := by
  by_cases zs : f (cx r c 3) = 1
  · have e1 : bxo A (10 * r + c) σ = bx4 (10 * r + c) (bx3 (10 * r + c) (bx2 (10 * r + c) (bx1 (10 * r + c) σ))) := if_pos ((CR_sel h hr hc).mpr zs)
    have e2 : mx_g f r c τ = mx_τ r c τ := if_pos zs
    rw [e1, e2]
    obtain ⟨b1, b2, b3, b4⟩ := bx_at (k := 10 * r + c) (σ := σ)
    obtain ⟨m1, m2, m3, m4⟩ := mx_at (r := r) (c := c) (τ := τ)
    rw [show (10 * r + c) / 10 = r by omega] at b1 b2
    rw [show (10 * r + c) % 10 = c by omega] at b3 b4
    refine Or.inl ?_
    rcases q with ⟨T, E, F, S, ⟨⟨l1, l2⟩, l3, l4⟩, ⟨s1, s2, s3, s4⟩, t1, t2, t3, t4⟩ | ⟨⟨⟨s1, s2, s3, s4⟩, t1, t2, t3, t4⟩, _⟩
    · refine ⟨if T ≤ r then T else r, if r ≤ E then E else r, if F ≤ c then F else c, if c ≤ S then S else c, ⟨⟨?_, ?_⟩, ?_, ?_⟩, ⟨?_, ?_, ?_, ?_⟩, ?_, ?_, ?_, ?_⟩
      · split <;> split <;> omega
      · split <;> omega
      · split <;> split <;> omega
      · split <;> omega
      · rw [b1, s1]; exact i_min (by omega) (by omega)
      · rw [b2, s2]; exact i_max (by omega) (by omega)
      · rw [b3, s3]; exact i_min (by omega) (by omega)
      · rw [b4, s4]; exact i_max (by omega) (by omega)
      · rw [m1, t1]; exact i_mn (by omega) (by omega)
      · rw [m2, t2]; exact i_mn (by omega) (by omega)
      · rw [m3, t3]; exact i_mx (by omega) (by omega)
      · rw [m4, t4]; exact i_mx (by omega) (by omega)
    · refine ⟨r, r, c, c, ⟨⟨by omega, hr⟩, by omega, hc⟩, ⟨?_, ?_, ?_, ?_⟩, ?_, ?_, ?_, ?_⟩
      · rw [b1, s1]; exact i_c99 (by omega)
      · rw [b2, s2]; exact i_cm1 (by omega)
      · rw [b3, s3]; exact i_c99 (by omega)
      · rw [b4, s4]; exact i_cm1 (by omega)
      · rw [m1, t1]; exact i_d10 (by omega)
      · rw [m2, t2]; exact i_d10 (by omega)
      · rw [m3, t3]; exact i_dm1 (by omega)
      · rw [m4, t4]; exact i_dm1 (by omega)
  · have e1 : bxo A (10 * r + c) σ = σ := if_neg (fun p => zs ((CR_sel h hr hc).mp p))
    have e2 : mx_g f r c τ = τ := if_neg zs
    rw [e1, e2]
    rcases q with q | ⟨q, p⟩
    · exact Or.inl q
    · refine Or.inr ⟨q, fun a b ha hb hab => ?_⟩
      by_cases e : a = r ∧ b = c
      · obtain ⟨rfl, rfl⟩ := e; exact zs
      · exact p a b ha hb (by omega)
theorem r_box {R C u : Nat} {A B : Nat → Nat → Int32} {σ τ : Nat → Int32} (hR : R ≤ 10) (hC : C ≤ 10) (h : CR R C A (B 0)) (hs : ¬ sp_sel (B 0) R C = 0) : BQ2 R C (ms_box u σ A).1 (bx_τ R C B τ) := by
  have e1 : (ms_box u σ A).1 = sp_it (bxo A) 0 100 (va_up (va_up (va_up (va_up σ 32 99) 34 99) 33 (-1)) 35 (-1)) := bx_1 u 100 0 _
  have e2 := it_rc (g := bxo A) hR hC (fun _ => True) (fun _ _ _ _ _ _ => trivial) (fun r c x hr hc hn _ => if_neg (fun q => q (h.2.1 r c hr hc hn).1)) (va_up (va_up (va_up (va_up σ 32 99) 34 99) 33 (-1)) 35 (-1)) trivial
  rw [e1, e2]
  have e3 := it_rel (g := fun r => sp_it (fun c => bxo A (10 * r + c)) 0 C) (g' := fun r => sp_it (mx_g (B 0) r) 0 C) (fun r σ τ => BQ R C (B 0) r 0 σ τ) R 0 (va_up (va_up (va_up (va_up σ 32 99) 34 99) 33 (-1)) 35 (-1)) (mx_0 τ) (fun r σ τ _ hr q => by
    have e4 := it_rel (g := fun c => bxo A (10 * r + c)) (g' := mx_g (B 0) r) (fun c σ τ => BQ R C (B 0) r c σ τ) C 0 σ τ (fun c σ τ _ hc q => bq_s hR hC h (by omega) (by omega) q) q
    rcases e4 with e4 | ⟨e4, p⟩
    · exact Or.inl e4
    · exact Or.inr ⟨e4, fun a b ha hb hab => p a b ha hb (by omega)⟩) (Or.inr ⟨⟨⟨rfl, rfl, rfl, rfl⟩, rfl, rfl, rfl, rfl⟩, fun a b _ _ hab => absurd hab (by omega)⟩)
  rcases e3 with e3 | ⟨_, p⟩
  · exact e3
  · obtain ⟨a, b, ha, hb, e⟩ := CR_ex hs (fun r c hr hc => (h.1 r c hr hc).2.2)
    exact absurd e (p a b ha hb (by omega))
/-- painting in the box keeps them alike, and the wools before -/
def PQ (R C : Nat) (A1 B1 A B : Nat → Nat → Int32) : Prop := CR R C A (B 0) ∧ A 16 = A1 16 ∧ B 1 = B1 1
def W16 (A1 B1 : Nat → Nat → Int32) : Prop := ∀ j, j < 100 → A1 16 j = B1 1 j ∧ ∃ y, y < 10 ∧ A1 16 j = nI y
theorem r_bx {R C : Nat} {A1 B1 A B : Nat → Nat → Int32} {T E F S : Nat} {g g' : Nat → Nat → (Nat → Nat → Int32) → (Nat → Nat → Int32)} (hs : ∀ r c A B, T ≤ r → r < T + (E + 1 - T) → F ≤ c → c < F + (S + 1 - F) → PQ R C A1 B1 A B → PQ R C A1 B1 (g r c A) (g' r c B)) (q : PQ R C A1 B1 A B) : PQ R C A1 B1 (sp_bx g T E F S A) (sp_bx g' T E F S B) :=
  it_rel (fun _ => PQ R C A1 B1) _ _ A B (fun r A B h1 h2 q => it_rel (fun _ => PQ R C A1 B1) _ _ A B (fun c A B h3 h4 q => hs r c A B h1 h2 h3 h4 q) q) q
theorem PQ_paint {R C u : Nat} {A1 B1 A B : Nat → Nat → Int32} (hR : R ≤ 10) (hC : C ≤ 10) (hu : u < 3) (q : PQ R C A1 B1 A B) {r c x : Int32} {y : Nat} (hy : y < 10) (hx : x = nI y) : PQ R C A1 B1 (ms_paint R C u A r c x) (va_up B 0 (sp_paint R C u (B 0) r c x)) := by
  refine ⟨?_, ?_, ?_⟩
  · rw [va_up_self]; exact CR_paint hR hC hu q.1 hy hx
  · rw [pt_15 _ _ _ _ _ _ _ 16 (by omega)]; exact q.2.1
  · rw [va_up_ne _ _ (by omega)]; exact q.2.2
theorem PQ_w {R C u : Nat} {A1 B1 A B : Nat → Nat → Int32} (hR : R ≤ 10) (hC : C ≤ 10) (hu : u < 3) (hw : W16 A1 B1) (q : PQ R C A1 B1 A B) {r c : Int32} {j : Nat} (hj : j < 100) : PQ R C A1 B1 (ms_paint R C u A r c (A 16 j)) (va_up B 0 (sp_paint R C u (B 0) r c (B 1 j))) := by
  obtain ⟨e, y, hy, ey⟩ := hw j hj
  rw [q.2.1, q.2.2, ← e]
  exact PQ_paint hR hC hu q hy ey
theorem r_4_0 {R C u T E F S : Nat} {A1 B1 A B : Nat → Nat → Int32} (hR : R ≤ 10) (hC : C ≤ 10) (hu : u < 3) (hw : W16 A1 B1) (hT : T ≤ E ∧ E < R) (hF : F ≤ S ∧ S < C) (q : PQ R C A1 B1 A B) : PQ R C A1 B1 (sp_bx (bg4 R C u T E F S 0) T E F S A) (sp_bx (pb4_0 R C u T E F S) T E F S B) := by
  refine r_bx (fun r c A B h1 h2 h3 h4 q => ?_) q
  unfold bg4 pb4_0
  rw [if_pos rfl]
  exact PQ_w hR hC hu hw q (by omega)
theorem r_4_1 {R C u T E F S : Nat} {A1 B1 A B : Nat → Nat → Int32} (hR : R ≤ 10) (hC : C ≤ 10) (hu : u < 3) (hw : W16 A1 B1) (hT : T ≤ E ∧ E < R) (hF : F ≤ S ∧ S < C) (q : PQ R C A1 B1 A B) : PQ R C A1 B1 (sp_bx (bg4 R C u T E F S 1) T E F S A) (sp_bx (pb4_1 R C u T E F S) T E F S B) := by
  refine r_bx (fun r c A B h1 h2 h3 h4 q => ?_) q
  unfold bg4 pb4_1
  rw [if_neg (by decide)]
  exact PQ_w hR hC hu hw q (by omega)
theorem r_5 {R C u T E F S : Nat} {A1 B1 A B : Nat → Nat → Int32} (hR : R ≤ 10) (hC : C ≤ 10) (hu : u < 3) (hw : W16 A1 B1) (hT : T ≤ E ∧ E < R) (hF : F ≤ S ∧ S < C) {a b : Int32} (ha : bt (-20) a 20) (hb : bt (-20) b 20) (q : PQ R C A1 B1 A B) : PQ R C A1 B1 (sp_bx (bg5 R C u T E F S a b) T E F S A) (sp_bx (pb5 R C u T E F S a b) T E F S B) := by
  refine r_bx (fun r c A B h1 h2 h3 h4 q => ?_) q
  unfold bg5 pb5
  have q1 : sh_r a T E r < E - T + 1 := (fm_of (by omega) ha (by omega)).2
  have q2 : sh_r b F S c < S - F + 1 := (fm_of (by omega) hb (by omega)).2
  rw [Nat.add_assoc]
  exact PQ_w hR hC hu hw q (j := 10 * (T + sh_r a T E r) + (F + sh_r b F S c)) (by omega)
theorem r_6 {R C u T E F S : Nat} {A1 B1 A B : Nat → Nat → Int32} (hR : R ≤ 10) (hC : C ≤ 10) (hu : u < 3) (hw : W16 A1 B1) (hT : T ≤ E ∧ E < R) (hF : F ≤ S ∧ S < C) {a x : Int32} (ha : bt 1 a 5) {y : Nat} (hy : y < 10) (hx : x = nI y) (q : PQ R C A1 B1 A B) : PQ R C A1 B1 (sp_bx (bg6 R C u T E F S a x) T E F S A) (sp_bx (pb6 R C u T E F S a x) T E F S B) := by
  refine r_bx (fun r c A B h1 h2 h3 h4 q => ?_) q
  have e1 : (1 : Int32).toInt = 1 := by decide
  have e5 : (5 : Int32).toInt = 5 := by decide
  have a1 := Int32.le_iff_toInt_le.mp ha.1
  have a2 := Int32.le_iff_toInt_le.mp ha.2
  rw [e1] at a1
  rw [e5] at a2
  have s1 : ∀ i j : Nat, j ≤ i → i < 10 → (nI i - nI j < a ↔ nI i < nI j + a) := by
    intro i j hij hi
    rw [pk_sub hij, Int32.lt_iff_toInt_lt, Int32.lt_iff_toInt_lt, nI_toInt (by omega), nI_toInt (by omega), Int32.toInt_add, nI_toInt (by omega), Int.bmod_eq_of_le (by omega) (by omega)]
    omega
  have s2 : ∀ i j : Nat, j ≤ i → i < 10 → (nI i - nI j < a ↔ nI i - a < nI j) := by
    intro i j hij hi
    rw [pk_sub hij, Int32.lt_iff_toInt_lt, Int32.lt_iff_toInt_lt, nI_toInt (by omega), nI_toInt (by omega), i32_sub (by omega) (by omega)]
    omega
  have s3 : (nI r - nI T < a ∨ nI E - nI r < a ∨ nI c - nI F < a ∨ nI S - nI c < a) ↔ bo_p a T E F S r c := by
    rw [s1 r T (by omega) (by omega), s2 E r (by omega) (by omega), s1 c F (by omega) (by omega), s2 S c (by omega) (by omega)]
    unfold bo_p
    rw [or_assoc]
  unfold bg6 pb6
  by_cases z : bo_p a T E F S r c
  · rw [if_pos z, if_pos (s3.mpr z)]
    exact PQ_paint hR hC hu q hy hx
  · rw [if_neg z, if_neg (fun p => z (s3.mp p))]
    exact q
