/-! folds, and the relation of the two cloths -/
theorem it_rel {α β : Type} {g : Nat → α → α} {g' : Nat → β → β} (Q : Nat → α → β → Prop) : ∀ (m c : Nat) (x : α) (y : β), (∀ j x y, c ≤ j → j < c + m → Q j x y → Q (j + 1) (g j x) (g' j y)) → Q c x y → Q (c + m) (sp_it g c m x) (sp_it g' c m y)
  | 0, c, x, y, _, q => q
  | m + 1, c, x, y, hs, q => by
    have e := it_rel Q m (c + 1) (g c x) (g' c y) (fun j x y h1 h2 => hs j x y (by omega) (by omega)) (hs c x y (by omega) (by omega) q)
    rw [show c + (m + 1) = c + 1 + m by omega]
    exact e
theorem it_inv {α : Type} {g : Nat → α → α} (Q : α → Prop) : ∀ (m c : Nat) (x : α), (∀ j x, c ≤ j → j < c + m → Q x → Q (g j x)) → Q x → Q (sp_it g c m x)
  | 0, c, x, _, q => q
  | m + 1, c, x, hs, q => it_inv Q m (c + 1) (g c x) (fun j x h1 h2 => hs j x (by omega) (by omega)) (hs c x (by omega) (by omega) q)
theorem it_app {α : Type} {g : Nat → α → α} : ∀ (m n c : Nat) (x : α), sp_it g c (m + n) x = sp_it g (c + m) n (sp_it g c m x)
  | 0, n, c, x => by rw [Nat.zero_add]; rfl
  | m + 1, n, c, x => by
    rw [show m + 1 + n = (m + n) + 1 by omega, sp_it, sp_it, it_app m n (c + 1) (g c x), show c + 1 + m = c + (m + 1) by omega]
theorem it_sh {α : Type} {g : Nat → α → α} (a : Nat) : ∀ (m c : Nat) (x : α), sp_it g (a + c) m x = sp_it (fun j => g (a + j)) c m x
  | 0, c, x => rfl
  | m + 1, c, x => by
    rw [sp_it, sp_it, show a + c + 1 = a + (c + 1) by omega, it_sh a m (c + 1)]
theorem it_id {α : Type} {g : Nat → α → α} : ∀ (m c : Nat) (x : α), (∀ j, c ≤ j → j < c + m → g j x = x) → sp_it g c m x = x
  | 0, c, x, _ => rfl
  | m + 1, c, x, hs => by
    rw [sp_it, hs c (by omega) (by omega), it_id m (c + 1) x (fun j h1 h2 => hs j (by omega) (by omega))]
theorem it_split {α : Type} {g : Nat → α → α} {N n m c : Nat} {x : α} (e : N = n + m) : sp_it g c N x = sp_it g (c + n) m (sp_it g c n x) := by
  subst e
  exact it_app n m c x
theorem it_tens {α : Type} {g : Nat → α → α} : ∀ (m r : Nat) (x : α), sp_it g (10 * r) (10 * m) x = sp_it (fun r => sp_it (fun c => g (10 * r + c)) 0 10) r m x
  | 0, r, x => rfl
  | m + 1, r, x => by
    have e := it_split (g := g) (c := 10 * r) (x := x) (show 10 * (m + 1) = 10 + 10 * m by omega)
    have e2 : sp_it g (10 * r) 10 x = sp_it (fun c => g (10 * r + c)) 0 10 x := it_sh (10 * r) 10 0 x
    have e3 := it_tens (g := g) m (r + 1) (sp_it (fun c => g (10 * r + c)) 0 10 x)
    rw [e, e2, show 10 * r + 10 = 10 * (r + 1) by omega, e3]
    rfl
theorem it_rc {α : Type} {g : Nat → α → α} {R C : Nat} (hR : R ≤ 10) (hC : C ≤ 10) (I : α → Prop) (hI : ∀ r c x, r < 10 → c < 10 → I x → I (g (10 * r + c) x)) (ho : ∀ r c x, r < 10 → c < 10 → ¬ (r < R ∧ c < C) → I x → g (10 * r + c) x = x) (x : α) (hx : I x) : sp_it g 0 100 x = sp_it (fun r => sp_it (fun c => g (10 * r + c)) 0 C) 0 R x := by
  have hrow : ∀ r, r < 10 → ∀ x, I x → I (sp_it (fun c => g (10 * r + c)) 0 10 x) := fun r hr x q => it_inv I 10 0 x (fun j y _ h2 q2 => hI r j y hr (by omega) q2) q
  have e1 : ∀ r, r < R → ∀ x, I x → sp_it (fun c => g (10 * r + c)) 0 10 x = sp_it (fun c => g (10 * r + c)) 0 C x := by
    intro r hr x q
    have q2 : I (sp_it (fun c => g (10 * r + c)) 0 C x) := it_inv I C 0 x (fun j y _ h2 q2 => hI r j y (by omega) (by omega) q2) q
    rw [it_split (show 10 = C + (10 - C) by omega)]
    exact it_id _ _ _ (fun j h1 h2 => ho r j _ (by omega) (by omega) (by omega) q2)
  have e2 : ∀ r, r < 10 → R ≤ r → ∀ x, I x → sp_it (fun c => g (10 * r + c)) 0 10 x = x := fun r hr hr2 x q => it_id _ _ _ (fun j h1 h2 => ho r j x hr (by omega) (by omega) q)
  have e3 : sp_it g 0 100 x = sp_it (fun r => sp_it (fun c => g (10 * r + c)) 0 10) 0 10 x := it_tens (g := g) 10 0 x
  rw [e3, it_split (show 10 = R + (10 - R) by omega)]
  have e4 : ∀ (m r : Nat) (x : α), r + m ≤ R → I x → sp_it (fun r => sp_it (fun c => g (10 * r + c)) 0 10) r m x = sp_it (fun r => sp_it (fun c => g (10 * r + c)) 0 C) r m x ∧ I (sp_it (fun r => sp_it (fun c => g (10 * r + c)) 0 C) r m x) := by
    intro m
    induction m with
    | zero => intro r x _ q; exact ⟨rfl, q⟩
    | succ m ih =>
      intro r x hm q
      have q2 := hrow r (by omega) x q
      have f1 := e1 r (by omega) x q
      rw [f1] at q2
      have f2 := ih (r + 1) _ (by omega) q2
      refine ⟨?_, f2.2⟩
      show sp_it (fun r => sp_it (fun c => g (10 * r + c)) 0 10) (r + 1) m (sp_it (fun c => g (10 * r + c)) 0 10 x) = _
      rw [f1]
      exact f2.1
  have e5 := e4 R 0 x (by omega) hx
  rw [e5.1]
  exact it_id _ _ _ (fun j h1 h2 => e2 j (by omega) (by omega) _ e5.2)
/-- the reference's cloth (rows A 0, A 1) and the class's cells f are alike -/
def CR (R C : Nat) (A : Nat → Nat → Int32) (f : Nat → Int32) : Prop := (∀ r c, r < R → c < C → (∀ l, l < 3 → A 0 (100 * l + (10 * r + c)) = f (cx r c l)) ∧ A 1 (10 * r + c) = f (cx r c 3) ∧ (f (cx r c 3) = 0 ∨ f (cx r c 3) = 1)) ∧ (∀ r c, r < 10 → c < 10 → ¬ (r < R ∧ c < C) → A 1 (10 * r + c) = 0 ∧ ∀ l, l < 3 → A 0 (100 * l + (10 * r + c)) = 0) ∧ ∀ j, ∃ y, y < 10 ∧ A 0 j = nI y
theorem CR_of {R C : Nat} {A A' : Nat → Nat → Int32} {f : Nat → Int32} (h : CR R C A f) (h0 : A' 0 = A 0) (h1 : A' 1 = A 1) : CR R C A' f := by
  unfold CR at h ⊢
  rw [h0, h1]
  exact h
theorem CR_sel {R C : Nat} {A : Nat → Nat → Int32} {f : Nat → Int32} (h : CR R C A f) {r c : Nat} (hr : r < R) (hc : c < C) : ¬ A 1 (10 * r + c) = 0 ↔ f (cx r c 3) = 1 := by
  obtain ⟨_, e, z⟩ := h.1 r c hr hc
  rw [e]
  constructor
  · intro q; exact z.resolve_left q
  · intro q; rw [q]; decide
theorem cx_ij {r c l r' c' l' : Nat} (hc : c < 10) (hc' : c' < 10) (hl : l < 4) (hl' : l' < 4) (h : cx r c l = cx r' c' l') : r = r' ∧ c = c' ∧ l = l' := by
  unfold cx at h
  omega
theorem CR_paint {R C u : Nat} {A : Nat → Nat → Int32} {f : Nat → Int32} (hR : R ≤ 10) (hC : C ≤ 10) (hu : u < 3) (h : CR R C A f) {r c x : Int32} {y : Nat} (hy : y < 10) (hx : x = nI y) : CR R C (ms_paint R C u A r c x) (sp_paint R C u f r c x) := by
  by_cases zk : cl_kn R C r c
  · obtain ⟨r', c', hr, hc, rfl, rfl⟩ := kn_of hR hC zk
    have er : (nI r').toNatClampNeg = r' := nI_clamp (by omega)
    have ec : (nI c').toNatClampNeg = c' := nI_clamp (by omega)
    by_cases zs : f (cx r' c' 3) = 1
    · have e1 : ms_paint R C u A (nI r') (nI c') x = va_up A 0 (va_up (A 0) (100 * u + (10 * r' + c')) x) := by
        unfold ms_paint
        rw [er, ec, if_pos ⟨zk, (CR_sel h hr hc).mpr zs⟩]
      have e2 : sp_paint R C u f (nI r') (nI c') x = va_up f (cx r' c' u) x := by
        unfold sp_paint
        rw [er, ec, if_pos ⟨zk, zs⟩]
      rw [e1, e2]
      refine ⟨fun a b ha hb => ⟨fun l hl => ?_, ?_, ?_⟩, fun a b ha hb hn => ⟨?_, fun l hl => ?_⟩, fun j => ?_⟩
      · rw [va_up_self]
        by_cases e : a = r' ∧ b = c' ∧ l = u
        · obtain ⟨rfl, rfl, rfl⟩ := e
          rw [va_up_self, va_up_self]
        · rw [va_up_ne _ _ (by omega), va_up_ne _ _ (fun q => e (cx_ij (by omega) (by omega) (by omega) (by omega) q))]
          exact (h.1 a b ha hb).1 l hl
      · rw [va_up_ne _ _ (by omega), va_up_ne _ _ (fun q => by have := cx_ij (by omega) (by omega) (by omega) (by omega) q; omega)]
        exact (h.1 a b ha hb).2.1
      · rw [va_up_ne _ _ (fun q => by have := cx_ij (by omega) (by omega) (by omega) (by omega) q; omega)]
        exact (h.1 a b ha hb).2.2
      · rw [va_up_ne _ _ (by omega)]
        exact (h.2.1 a b ha hb hn).1
      · rw [va_up_self, va_up_ne _ _ (by omega)]
        exact (h.2.1 a b ha hb hn).2 l hl
      · rw [va_up_self]
        by_cases e : j = 100 * u + (10 * r' + c')
        · subst e; rw [va_up_self]; exact ⟨y, hy, hx⟩
        · rw [va_up_ne _ _ e]; exact h.2.2 j
    · have e1 : ms_paint R C u A (nI r') (nI c') x = A := by
        unfold ms_paint
        rw [er, ec, if_neg (fun q => zs ((CR_sel h hr hc).mp q.2))]
      have e2 : sp_paint R C u f (nI r') (nI c') x = f := by
        unfold sp_paint
        rw [er, ec, if_neg (fun q => zs q.2)]
      rw [e1, e2]
      exact h
  · have e1 : ms_paint R C u A r c x = A := if_neg (fun q => zk q.1)
    have e2 : sp_paint R C u f r c x = f := if_neg (fun q => zk q.1)
    rw [e1, e2]
    exact h
theorem bt_nat {x : Int32} {n : Nat} (hn : n < 1000) (h : bt 0 x (nI n)) : ∃ y, y ≤ n ∧ x = nI y := by
  have e0 : (0 : Int32).toInt = 0 := by decide
  have g1 := Int32.le_iff_toInt_le.mp h.1
  have g2 := Int32.le_iff_toInt_le.mp h.2
  rw [nI_toInt (by omega)] at g2
  refine ⟨x.toInt.toNat, by omega, ?_⟩
  refine Int32.toInt_inj.mp ?_
  rw [nI_toInt (by omega)]
  omega
/-- row 16 after the box: what was in the layer in use -/
theorem mb_16 (u : Nat) : ∀ (m k : Nat) (S : (Nat → Int32) × (Nat → Nat → Int32)) (j : Nat), (sp_it (bxs u) k m S).2 16 j = if k ≤ j ∧ j < k + m then S.2 0 (100 * u + j) else S.2 16 j
  | 0, k, S, j => by rw [if_neg (by omega)]; rfl
  | m + 1, k, S, j => by
    rw [sp_it, mb_16 u m (k + 1)]
    have e0 : (bxs u k S).2 0 = S.2 0 := show va_up S.2 16 (va_up (S.2 16) k (S.2 0 (100 * u + k))) 0 = S.2 0 from va_up_ne _ _ (by omega)
    have e1 : (bxs u k S).2 16 = va_up (S.2 16) k (S.2 0 (100 * u + k)) := show va_up S.2 16 _ 16 = _ from va_up_self _ _ _
    rw [e0, e1]
    by_cases e : j = k
    · subst e
      rw [if_neg (by omega), if_pos (by omega), va_up_self]
    · rw [va_up_ne _ _ e]
      by_cases e2 : k + 1 ≤ j ∧ j < k + 1 + m
      · rw [if_pos e2, if_pos (by omega)]
      · rw [if_neg e2, if_neg (by omega)]
theorem mb_16a (u : Nat) (σ : Nat → Int32) (A : Nat → Nat → Int32) {j : Nat} (hj : j < 100) : (ms_box u σ A).2 16 j = A 0 (100 * u + j) := by
  unfold ms_box
  rw [mb_16, if_pos (by omega)]
theorem kb_far (R C u : Nat) {j : Nat} (hj : j ≠ 1) : ∀ (m k : Nat) (B : Nat → Nat → Int32), sp_it (kb_g R C u) k m B j = B j
  | 0, _, _ => rfl
  | m + 1, k, B => by
    rw [sp_it, kb_far R C u hj m]
    exact show va_up B 1 _ j = B j from va_up_ne _ _ hj
theorem kb_1 (R C u : Nat) : ∀ (m k : Nat) (B : Nat → Nat → Int32) (j : Nat), sp_it (kb_g R C u) k m B 1 j = if k ≤ j ∧ j < k + m then (if j / 10 < R ∧ j % 10 < C then B 0 (cx (j / 10) (j % 10) u) else 0) else B 1 j
  | 0, k, B, j => by rw [if_neg (by omega)]; rfl
  | m + 1, k, B, j => by
    rw [sp_it, kb_1 R C u m (k + 1)]
    have e0 : kb_g R C u k B 0 = B 0 := show va_up B 1 _ 0 = B 0 from va_up_ne _ _ (by omega)
    have e1 : kb_g R C u k B 1 = va_up (B 1) k (if k / 10 < R ∧ k % 10 < C then B 0 (cx (k / 10) (k % 10) u) else 0) := show va_up B 1 _ 1 = _ from va_up_self _ _ _
    rw [e0, e1]
    by_cases e : j = k
    · subst e
      rw [if_neg (show ¬ (j + 1 ≤ j ∧ j < j + 1 + m) by omega), if_pos (show j ≤ j ∧ j < j + (m + 1) by omega), va_up_self]
    · rw [va_up_ne _ _ e]
      by_cases e2 : k + 1 ≤ j ∧ j < k + 1 + m
      · rw [if_pos e2, if_pos (show k ≤ j ∧ j < k + (m + 1) by omega)]
      · rw [if_neg e2, if_neg (show ¬ (k ≤ j ∧ j < k + (m + 1)) by omega)]
/-- both keep the same wools before -/
theorem kb_16 {R C u : Nat} {σ : Nat → Int32} {A B : Nat → Nat → Int32} (hu : u < 3) (h : CR R C A (B 0)) {j : Nat} (hj : j < 100) : (ms_box u σ A).2 16 j = kb_B R C u B 1 j := by
  rw [mb_16a u σ A hj]
  unfold kb_B
  rw [kb_1, if_pos (by omega)]
  have e : 10 * (j / 10) + j % 10 = j := by omega
  by_cases z : j / 10 < R ∧ j % 10 < C
  · rw [if_pos z]
    have q := (h.1 (j / 10) (j % 10) z.1 z.2).1 u hu
    rw [e] at q
    exact q
  · rw [if_neg z]
    have q := (h.2.1 (j / 10) (j % 10) (by omega) (by omega) z).2 u hu
    rw [e] at q
    exact q
