/-! the tree, on both sides -/
theorem it_succ {α : Type} {g : Nat → α → α} (n : Nat) (x : α) : sp_it g 0 (n + 1) x = g n (sp_it g 0 n x) := by
  rw [it_app n 1 0 x, Nat.zero_add]
  rfl
noncomputable def cn (p : Nat → Prop) : Nat → Nat
  | 0 => 0
  | n + 1 => cn p n + @ite _ (p n) (Classical.propDecidable _) 1 0
theorem cn_le (p : Nat → Prop) : ∀ n, cn p n ≤ n
  | 0 => Nat.le_refl _
  | n + 1 => by
    have := cn_le p n
    unfold cn
    split <;> omega
theorem cn_1 {p : Nat → Prop} : ∀ (n i : Nat), i < n → p i → 1 ≤ cn p n
  | 0, i, h, _ => absurd h (by omega)
  | n + 1, i, h, q => by
    unfold cn
    by_cases e : i = n
    · subst e
      rw [@if_pos _ (Classical.propDecidable _) q]
      omega
    · have := cn_1 n i (by omega) q
      omega
theorem cn_2 {p : Nat → Prop} : ∀ (n i j : Nat), i < j → j < n → p i → p j → 2 ≤ cn p n
  | 0, i, j, _, h, _, _ => absurd h (by omega)
  | n + 1, i, j, hij, h, q1, q2 => by
    unfold cn
    by_cases e : j = n
    · subst e
      rw [@if_pos _ (Classical.propDecidable _) q2]
      have := cn_1 j i hij q1
      omega
    · have := cn_2 n i j hij (by omega) q1 q2
      omega
theorem cn_it {p : Nat → Prop} (n : Nat) : sp_it (fun k (y : Int32) => y + cb (p k)) 0 n 0 = nI (cn p n) := by
  induction n with
  | zero => rfl
  | succ n ih =>
    rw [it_succ, ih]
    show nI (cn p n) + cb (p n) = nI (cn p n + @ite _ (p n) (Classical.propDecidable _) 1 0)
    by_cases z : p n
    · rw [cb_1 z, @if_pos _ (Classical.propDecidable _) z]
      exact nI_1 _
    · rw [cb_z z, @if_neg _ (Classical.propDecidable _) z, Int32.add_zero]
      rfl
theorem mu_eq {A : Nat → Nat → Int32} {PA : Nat → Int32} {x : Int32} (n : Nat) (hp : ∀ k, k < n → ¬ A 4 k = 0 → PA k = A 3 k) : mu_n A x n = (sp_it (fun j (y : Int32) => y + cb (¬ A 4 j = 0 ∧ PA j = x)) 0 n 0, hu (fun k => ¬ A 4 k = 0) PA x n) := by
  induction n with
  | zero => rfl
  | succ n ih =>
    have e := ih (fun k hk => hp k (by omega))
    unfold mu_n at e ⊢
    rw [it_succ, e, it_succ]
    have e2 : (¬ A 4 n = 0 ∧ A 3 n = x) ↔ (¬ A 4 n = 0 ∧ PA n = x) := by
      constructor
      · intro q; exact ⟨q.1, (hp n (by omega) q.1).trans q.2⟩
      · intro q; exact ⟨q.1, (hp n (by omega) q.1).symm.trans q.2⟩
    unfold mu_s
    by_cases z : ¬ A 4 n = 0 ∧ PA n = x
    · rw [if_pos (e2.mpr z), cb_1 z]
      show _ = (_, @ite _ (¬ A 4 n = 0 ∧ PA n = x) (Classical.propDecidable _) (nI n) (hu (fun k => ¬ A 4 k = 0) PA x n))
      rw [@if_pos _ (Classical.propDecidable _) z]
    · rw [if_neg (fun q => z (e2.mp q)), cb_z z, Int32.add_zero]
      show _ = (_, @ite _ (¬ A 4 n = 0 ∧ PA n = x) (Classical.propDecidable _) (nI n) (hu (fun k => ¬ A 4 k = 0) PA x n))
      rw [@if_neg _ (Classical.propDecidable _) z]
theorem mu_60 {A : Nat → Nat → Int32} {x : Int32} {ev : Nat} (h : ∀ k, k < 60 → ¬ A 4 k = 0 → k < ev) (he : ev ≤ 60) : mu_n A x ev = mu_n A x 60 := by
  unfold mu_n
  rw [it_split (g := mu_s A x) (c := 0) (x := ((0 : Int32), (-9 : Int32))) (show 60 = ev + (60 - ev) by omega)]
  refine (it_id _ _ _ (fun j h1 h2 => ?_)).symm
  unfold mu_s
  exact if_neg (fun q => by have := h j (by omega) q.1; omega)
theorem hu_ex {TH : Nat → Prop} {PA : Nat → Int32} {x : Int32} : ∀ n, hu TH PA x n = -9 ∨ ∃ p, p < n ∧ TH p ∧ PA p = x ∧ hu TH PA x n = nI p
  | 0 => Or.inl rfl
  | n + 1 => by
    by_cases z : TH n ∧ PA n = x
    · exact Or.inr ⟨n, by omega, z.1, z.2, @if_pos _ (Classical.propDecidable _) z _ _ _⟩
    · rw [show hu TH PA x (n + 1) = hu TH PA x n from @if_neg _ (Classical.propDecidable _) z _ _ _]
      rcases hu_ex n with e | ⟨p, h1, h2⟩
      · exact Or.inl e
      · exact Or.inr ⟨p, by omega, h2⟩
/-- how much two kept cloths differ -/
theorem am_or {a b c : Int32} (ha : a = 0 ∨ a = 1) (hb : b = 0 ∨ b = 1) (hc : c = 0 ∨ c = 1) : ((0 ||| a) ||| b) ||| c = 0 ↔ a = 0 ∧ b = 0 ∧ c = 0 := by
  rcases ha with rfl | rfl <;> rcases hb with rfl | rfl <;> rcases hc with rfl | rfl <;> decide
theorem md_chg {A : Nat → Nat → Int32} {R C n o : Nat} {f f2 : Nat → Int32} (hR : R ≤ 10) (hC : C ≤ 10) (h1 : CR R C (KA A n) f) (h2 : CR R C (KA A o) f2) : md_n A n o = sp_chg f f2 R C := by
  have ka : ∀ k l j, l < 3 → j < 100 → KA A k 0 (100 * l + j) = A 2 (402 * k + 100 * l + j) := by
    intro k l j hl hj
    show (if (0 : Nat) = 0 then (if 100 * l + j < 300 then A 2 (402 * k + (100 * l + j)) else 0) else A 2 (402 * k + 300 + (100 * l + j))) = _
    rw [if_pos rfl, if_pos (by omega), Nat.add_assoc]
  have eb : ∀ r c l, r < 10 → c < 10 → l < 3 → md_b A n o (10 * r + c) l = am_b (¬ KA A n 0 (100 * l + (10 * r + c)) = KA A o 0 (100 * l + (10 * r + c))) := by
    intro r c l hr hc hl
    unfold md_b
    rw [ka n l (10 * r + c) hl (by omega), ka o l (10 * r + c) hl (by omega)]
  unfold md_n sp_chg
  refine sum_rc (g := fun k => am_b (¬ md_x A n o k = 0)) (G := fun r c => sp_diff f f2 r c) hR hC (fun r c hr hc => ?_) (fun r c hr hc hn => ?_)
  · have e1 := (h1.1 r c hr hc).1
    have e2 := (h2.1 r c hr hc).1
    have q : ¬ md_x A n o (10 * r + c) = 0 ↔ ¬ sp_same f f2 r c := by
      unfold md_x
      rw [eb r c 0 (by omega) (by omega) (by omega), eb r c 1 (by omega) (by omega) (by omega), eb r c 2 (by omega) (by omega) (by omega), am_or am_b01 am_b01 am_b01, am_b0, am_b0, am_b0, e1 0 (by omega), e1 1 (by omega), e1 2 (by omega), e2 0 (by omega), e2 1 (by omega), e2 2 (by omega)]
      unfold sp_same
      exact ⟨fun p q => p ⟨fun z => z q.1, fun z => z q.2.1, fun z => z q.2.2⟩, fun p q => p ⟨Classical.not_not.mp q.1, Classical.not_not.mp q.2.1, Classical.not_not.mp q.2.2⟩⟩
    unfold sp_diff
    by_cases z : ¬ sp_same f f2 r c
    · rw [am_b1 (q.mpr z), @am_b1 _ (Classical.propDecidable _) z]
    · rw [am_bz (fun p => z (q.mp p)), @am_bz _ (Classical.propDecidable _) z]
  · have e1 := (h1.2.1 r c hr hc hn).2
    have e2 := (h2.2.1 r c hr hc hn).2
    refine am_bz (fun p => p ?_)
    unfold md_x
    rw [eb r c 0 hr hc (by omega), eb r c 1 hr hc (by omega), eb r c 2 hr hc (by omega), am_or am_b01 am_b01 am_b01, am_b0, am_b0, am_b0, e1 0 (by omega), e1 1 (by omega), e1 2 (by omega), e2 0 (by omega), e2 1 (by omega), e2 2 (by omega)]
    exact ⟨fun z => z rfl, fun z => z rfl, fun z => z rfl⟩
/-! depths and ways -/
section WY
variable {a : Nat → Int32} {TH : Nat → Prop}
/-- the tree of a: parents are there, and less -/
def TF (TH : Nat → Prop) (a : Nat → Int32) : Prop := ∀ k, k < 60 → TH k → (k = 0 ∧ a k = -9) ∨ ∃ p, p < k ∧ a k = nI p ∧ TH p
theorem nI_m9 {p : Nat} (hp : p < 1000) : ¬ nI p = -9 := fun q => by
  have := congrArg Int32.toInt q
  rw [nI_toInt (by omega), show (-9 : Int32).toInt = -9 by decide] at this
  omega
theorem dp_s {k p f : Nat} (h : a k = nI p) (hp : p < 1000) : md_deep a (f + 1) k = md_deep a f p + 1 := by
  show (if a k = -9 then 0 else md_deep a f (a k).toNatClampNeg + 1) = _
  rw [h, if_neg (nI_m9 hp), nI_clamp (by omega)]
theorem dp_0 {k f : Nat} (h : a k = -9) : md_deep a (f + 1) k = 0 := if_pos h
theorem dp_f (ht : TF TH a) : ∀ (f f' k : Nat), k < 60 → TH k → k < f → k < f' → md_deep a f k = md_deep a f' k
  | 0, _, _, _, _, h, _ => absurd h (by omega)
  | _ + 1, 0, _, _, _, _, h => absurd h (by omega)
  | f + 1, f' + 1, k, hk, tk, h1, h2 => by
    rcases ht k hk tk with ⟨rfl, e⟩ | ⟨p, hp, e, tp⟩
    · rw [dp_0 e, dp_0 e]
    · rw [dp_s e (by omega), dp_s e (by omega), dp_f ht f f' p (by omega) tp (by omega) (by omega)]
theorem dp_p (ht : TF TH a) {k p : Nat} (hk : k < 60) (tk : TH k) (hp : p < k) (e : a k = nI p) (tp : TH p) : md_deep a (k + 1) k = md_deep a (p + 1) p + 1 := by
  rw [dp_s e (by omega), dp_f ht k (p + 1) p (by omega) tp (by omega) (by omega)]
def upn (a : Nat → Int32) : Nat → Nat → Option Nat
  | 0, y => some y
  | j + 1, y => if a y = -9 then none else upn a j (a y).toNatClampNeg
def Anc (a : Nat → Int32) (x y : Nat) : Prop := ∃ j, upn a j y = some x
theorem anc_p {x y p : Nat} (e : a y = nI p) (hp : p < 1000) (q : Anc a x p) : Anc a x y := by
  obtain ⟨j, hj⟩ := q
  refine ⟨j + 1, ?_⟩
  show (if a y = -9 then none else upn a j (a y).toNatClampNeg) = some x
  rw [e, if_neg (nI_m9 hp), nI_clamp (by omega)]
  exact hj
theorem anc_d (ht : TF TH a) : ∀ (j x y : Nat), y < 60 → TH y → upn a j y = some x → x = y ∨ md_deep a (x + 1) x < md_deep a (y + 1) y
  | 0, x, y, _, _, h => Or.inl (Option.some.inj h).symm
  | j + 1, x, y, hy, ty, h => by
    rcases ht y hy ty with ⟨rfl, e⟩ | ⟨p, hp, e, tp⟩
    · unfold upn at h
      rw [if_pos e] at h
      cases h
    · have h2 : upn a j p = some x := by
        unfold upn at h
        rw [e, if_neg (nI_m9 (by omega)), nI_clamp (by omega)] at h
        exact h
      have d := dp_p ht hy ty hp e tp
      rcases anc_d ht j x p (by omega) tp h2 with z | z
      · subst z; omega
      · omega
theorem ct_f (ht : TF TH a) : ∀ (f f' x y : Nat), x < 60 → y < 60 → TH x → TH y → x + y < f → x + y < f' → ct a f x y = ct a f' x y
  | 0, _, _, _, _, _, _, _, h, _ => absurd h (by omega)
  | _ + 1, 0, _, _, _, _, _, _, _, h => absurd h (by omega)
  | f + 1, f' + 1, x, y, hx, hy, tx, ty, h1, h2 => by
    show (if x = y then 0 else if y < x then ct a f (a x).toNatClampNeg y + 1 else ct a f x (a y).toNatClampNeg + 1) = (if x = y then 0 else if y < x then ct a f' (a x).toNatClampNeg y + 1 else ct a f' x (a y).toNatClampNeg + 1)
    by_cases e : x = y
    · rw [if_pos e, if_pos e]
    · rw [if_neg e, if_neg e]
      by_cases l : y < x
      · obtain ⟨p, hp, ep, tp⟩ := (ht x hx tx).resolve_left (fun q => by omega)
        rw [if_pos l, if_pos l, ep, nI_clamp (by omega), ct_f ht f f' p y (by omega) hy tp ty (by omega) (by omega)]
      · obtain ⟨p, hp, ep, tp⟩ := (ht y hy ty).resolve_left (fun q => by omega)
        rw [if_neg l, if_neg l, ep, nI_clamp (by omega), ct_f ht f f' x p hx (by omega) tx tp (by omega) (by omega)]
theorem ct_x (ht : TF TH a) {x y p : Nat} (hx : x < 60) (hy : y < 60) (tx : TH x) (ty : TH y) (l : y < x) (hp : p < x) (e : a x = nI p) (tp : TH p) : ct a 120 x y = ct a 120 p y + 1 := by
  rw [ct_f ht 120 121 x y hx hy tx ty (by omega) (by omega)]
  show (if x = y then 0 else if y < x then ct a 120 (a x).toNatClampNeg y + 1 else ct a 120 x (a y).toNatClampNeg + 1) = _
  rw [if_neg (by omega), if_pos l, e, nI_clamp (by omega)]
theorem ct_y (ht : TF TH a) {x y p : Nat} (hx : x < 60) (hy : y < 60) (tx : TH x) (ty : TH y) (l : x < y) (hp : p < y) (e : a y = nI p) (tp : TH p) : ct a 120 x y = ct a 120 x p + 1 := by
  rw [ct_f ht 120 121 x y hx hy tx ty (by omega) (by omega)]
  show (if x = y then 0 else if y < x then ct a 120 (a x).toNatClampNeg y + 1 else ct a 120 x (a y).toNatClampNeg + 1) = _
  rw [if_neg (by omega), if_neg (by omega), e, nI_clamp (by omega)]
/-- going up from one that is not over the other is always one step less -/
theorem ct_ux (ht : TF TH a) : ∀ (s x y p : Nat), x + y ≤ s → x < 60 → y < 60 → TH x → TH y → p < x → a x = nI p → TH p → ¬ Anc a x y → ct a 120 x y = ct a 120 p y + 1
  | s, x, y, p, hs, hx, hy, tx, ty, hp, e, tp, hn => by
    have hxy : x ≠ y := fun q => hn ⟨0, by rw [q]; rfl⟩
    by_cases l : y < x
    · exact ct_x ht hx hy tx ty l hp e tp
    · obtain ⟨r, hr, er, tr⟩ := (ht y hy ty).resolve_left (fun q => by omega)
      match s, hs with
      | 0, hs => exact absurd hs (by omega)
      | s + 1, hs =>
        have h1 := ct_ux ht s x r p (by omega) hx (by omega) tx tr hp e tp (fun q => hn (anc_p er (by omega) q))
        rw [ct_y ht hx hy tx ty (by omega) hr er tr, h1, ct_y ht (by omega) hy tp ty (by omega) hr er tr]
theorem ct_uy (ht : TF TH a) : ∀ (s x y p : Nat), x + y ≤ s → x < 60 → y < 60 → TH x → TH y → p < y → a y = nI p → TH p → ¬ Anc a y x → ct a 120 x y = ct a 120 x p + 1
  | s, x, y, p, hs, hx, hy, tx, ty, hp, e, tp, hn => by
    have hxy : x ≠ y := fun q => hn ⟨0, by rw [q]; rfl⟩
    by_cases l : x < y
    · exact ct_y ht hx hy tx ty l hp e tp
    · obtain ⟨r, hr, er, tr⟩ := (ht x hx tx).resolve_left (fun q => by omega)
      match s, hs with
      | 0, hs => exact absurd hs (by omega)
      | s + 1, hs =>
        have h1 := ct_uy ht s r y p (by omega) (by omega) hy tr ty hp e tp (fun q => hn (anc_p er (by omega) q))
        rw [ct_x ht hx hy tx ty (by omega) hr er tr, h1, ct_x ht hx (by omega) tx tp (by omega) hr er tr]
theorem ct_same {x : Nat} : ct a 120 x x = 0 := if_pos rfl
theorem mg_ct (ht : TF TH a) {ev : Nat} (hev : ∀ k, k < 60 → TH k → k < ev) : ∀ (f x y : Nat), x < 60 → y < 60 → TH x → TH y → x + y < f → mg_ok a ev f x y ∧ mg_st a f x y = ct a 120 x y
  | 0, _, _, _, _, _, _, h => absurd h (by omega)
  | f + 1, x, y, hx, hy, tx, ty, hf => by
    by_cases e : x = y
    · subst e
      exact ⟨Or.inl rfl, by rw [ct_same]; exact if_pos rfl⟩
    · by_cases l : md_deep a (y + 1) y ≤ md_deep a (x + 1) x
      · have hn : ¬ Anc a x y := fun ⟨j, hj⟩ => by
          rcases anc_d ht j x y hy ty hj with z | z
          · exact e z
          · omega
        have x0 : ¬ x = 0 := fun z => by
          subst z
          rcases ht 0 (by omega) tx with ⟨_, e0⟩ | ⟨p, hp, _⟩
          · rw [dp_0 e0] at l
            rcases ht y hy ty with ⟨ey, _⟩ | ⟨p, hp, ep, tp⟩
            · exact e ey.symm
            · rw [dp_p ht hy ty hp ep tp] at l
              omega
          · omega
        obtain ⟨p, hp, ep, tp⟩ := (ht x hx tx).resolve_left (fun q => x0 q.1)
        obtain ⟨i1, i2⟩ := mg_ct ht hev f p y (by omega) hy tp ty (by omega)
        refine ⟨Or.inr (Or.inl ⟨l, p, by have := hev p (by omega) tp; omega, ep, i1⟩), ?_⟩
        show (if x = y then 0 else if md_deep a (y + 1) y ≤ md_deep a (x + 1) x then mg_st a f (a x).toNatClampNeg y + 1 else mg_st a f x (a y).toNatClampNeg + 1) = _
        rw [if_neg e, if_pos l, ep, nI_clamp (by omega), i2, ct_ux ht (x + y) x y p (Nat.le_refl _) hx hy tx ty hp ep tp hn]
      · have hn : ¬ Anc a y x := fun ⟨j, hj⟩ => by
          rcases anc_d ht j y x hx tx hj with z | z
          · exact e z.symm
          · omega
        have y0 : ¬ y = 0 := fun z => by
          subst z
          rcases ht 0 (by omega) ty with ⟨_, e0⟩ | ⟨p, hp, _⟩
          · rw [dp_0 e0] at l
            omega
          · omega
        obtain ⟨p, hp, ep, tp⟩ := (ht y hy ty).resolve_left (fun q => y0 q.1)
        obtain ⟨i1, i2⟩ := mg_ct ht hev f x p hx (by omega) tx tp (by omega)
        refine ⟨Or.inr (Or.inr ⟨l, p, by have := hev p (by omega) tp; omega, ep, i1⟩), ?_⟩
        show (if x = y then 0 else if md_deep a (y + 1) y ≤ md_deep a (x + 1) x then mg_st a f (a x).toNatClampNeg y + 1 else mg_st a f x (a y).toNatClampNeg + 1) = _
        rw [if_neg e, if_neg l, ep, nI_clamp (by omega), i2, ct_uy ht (x + y) x y p (Nat.le_refl _) hx hy tx ty hp ep tp hn]
theorem ct_dp (ht : TF TH a) (t0 : TH 0) : ∀ (s k : Nat), k ≤ s → k < 60 → TH k → ct a 120 k 0 = md_deep a (k + 1) k
  | s, k, hs, hk, tk => by
    rcases ht k hk tk with ⟨rfl, e⟩ | ⟨p, hp, e, tp⟩
    · rw [ct_same, dp_0 e]
    · match s, hs with
      | 0, hs => exact absurd hs (by omega)
      | s + 1, hs => rw [ct_x ht hk (by omega) tk t0 (by omega) hp e tp, dp_p ht hk tk hp e tp, ct_dp ht t0 s p (by omega) (by omega) tp]
theorem ct_if {b : Nat → Int32} (ht : TF TH a) (h : ∀ k, k < 60 → TH k → a k = b k) : ∀ (f x y : Nat), x < 60 → y < 60 → TH x → TH y → ct a f x y = ct b f x y
  | 0, _, _, _, _, _, _ => rfl
  | f + 1, x, y, hx, hy, tx, ty => by
    show (if x = y then 0 else if y < x then ct a f (a x).toNatClampNeg y + 1 else ct a f x (a y).toNatClampNeg + 1) = (if x = y then 0 else if y < x then ct b f (b x).toNatClampNeg y + 1 else ct b f x (b y).toNatClampNeg + 1)
    by_cases e : x = y
    · rw [if_pos e, if_pos e]
    · rw [if_neg e, if_neg e, ← h x hx tx, ← h y hy ty]
      by_cases l : y < x
      · obtain ⟨p, hp, ep, tp⟩ := (ht x hx tx).resolve_left (fun q => by omega)
        rw [if_pos l, if_pos l, ep, nI_clamp (by omega), ct_if ht h f p y (by omega) hy tp ty]
      · obtain ⟨p, hp, ep, tp⟩ := (ht y hy ty).resolve_left (fun q => by omega)
        rw [if_neg l, if_neg l, ep, nI_clamp (by omega), ct_if ht h f x p hx (by omega) tx tp]
end WY
