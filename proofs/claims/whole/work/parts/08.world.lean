/-! the small machine's values, cells and heap as the machine's -/
def am_v (base : Nat) (tS : Nat → Nat) (v : Value) : Value := match v with
  | .ref k => .ref (base + k)
  | .float j => .ref (tS j.toNat)
  | v => v
def am_c (cA : Nat → ClassId) (base : Nat) (tS : Nat → Nat) (x : am_C) : va_E := match x with
  | .inl (t, n, .inl f) => .inl (cA t, n, .inl f)
  | .inl (t, n, .inr g) => .inl (cA t, n, .inr (.inr (.inr (.inr (fun j => (g j).map (fun k => base + k))))))
  | .inr (ci, fs) => .inr (ci, fs.map (am_v base tS))
def am_R (D : va_G) (cA : Nat → ClassId) (tS : Nat → Nat) (base : Nat) (h : am_H) (H : Heap) : Prop := H.size = base + h.1 ∧ ∀ k, k < h.1 → va_at D am_cl (base + k, am_c cA base tS (h.2.2 k)) H
def am_L (base : Nat) (tS : Nat → Nat) (L : List (Option Value)) (ls : Array Slot) (nL : Nat) : Prop := L.length = nL ∧ ls.size = nL ∧ lv_wf ls ∧ ∀ (i : Nat) (v : Value), L[i]? = some (some v) → ls[i]? = some (.val (am_v base tS v))
def am_tys (cA : Nat → ClassId) : List (ClassId × FieldType) := (List.range 6).map (fun t => (cA t, am_ty t))
theorem am_tys_at (cA : Nat → ClassId) {t : Nat} (h : t < 6) : (am_tys cA)[t]? = some (cA t, am_ty t) := by
  simp [am_tys, List.getElem?_map, List.getElem?_range h]
def am_isN (w : Cond) : Bool := match w with
  | .methodLinkNest _ _ _ _ => true
  | _ => false
def am_nest : List Cond := lw_tbl.filter am_isN
def am_good : List Cond := lw_tbl.filter goodWord
def am_X (D : va_G) (cA : Nat → ClassId) (tS : Nat → Nat) (base : Nat) (U : State) : Prop :=
  va_K D am_cl (am_tys cA) U ∧
  (∀ j, j < 5 → va_Z (am_sC j) (am_sN j) "[I" (.ref (tS j)) (fun q => base ≤ q) U U.heap ∧ va_T .int (tS j) (am_sV j).length (fun i => .int ((am_sV j).getD i 0)) (fun q => base ≤ q) U U.heap) ∧
  (∀ w ∈ am_nest, va_Nw w U) ∧ (∀ t, 2 ≤ t → t < 6 → va_AO (am_an t) U)
theorem am_X.moved {D : va_G} {cA : Nat → ClassId} {tS : Nat → Nat} {base : Nat} {u U : State} (h : am_X D cA tS base u) (hW : u.WarmedH U.vm) (hh : ∀ q : Nat, q < base → U.heap[q]? = u.heap[q]?) : am_X D cA tS base U := by
  refine ⟨h.1.moved hW.alike, fun j hj => ⟨((h.2.1 j hj).1.moved hW.alike).kept (fun a _ ha => hh a (Nat.not_le.mp ha)), ((h.2.1 j hj).2.moved hW.alike).kept (fun a _ ha => hh a (Nat.not_le.mp ha))⟩, fun w hw => ?_, fun t h1 h2 => (h.2.2.2 t h1 h2).moved hW.alike⟩
  have h1 := h.2.2.1 w hw
  have h2 : am_isN w = true := (List.mem_filter.mp hw).2
  cases w <;> first | exact va_Nw.warmM hW h1 | (cases h2)
theorem am_X.same {D : va_G} {cA : Nat → ClassId} {tS : Nat → Nat} {base : Nat} {u U : State} (h : am_X D cA tS base u) (hv : u.vm = U.vm) (hh : U.heap = u.heap) : am_X D cA tS base U := by
  have ha : u.vm.Alike U.vm := hv ▸ Vm.Alike.refl u.vm
  refine ⟨h.1.moved ha, fun j hj => ⟨((h.2.1 j hj).1.moved ha).kept (fun a _ _ => by rw [hh]), ((h.2.1 j hj).2.moved ha).kept (fun a _ _ => by rw [hh])⟩, fun w hw => ?_, fun t h1 h2 => (h.2.2.2 t h1 h2).moved ha⟩
  have h1 := h.2.2.1 w hw
  have h2 : am_isN w = true := (List.mem_filter.mp hw).2
  cases w <;> first | exact va_Nw.same rfl hv h1 | (cases h2)
theorem am_R.set {D : va_G} {cA : Nat → ClassId} {tS : Nat → Nat} {base : Nat} {h : am_H} {H H1 : Heap} (hR : am_R D cA tS base h H) {k : Nat} {x : am_C} (he : va_at D am_cl (base + k, am_c cA base tS x) H1) (hz : H1.size = H.size) (ho : ∀ q : Nat, q ≠ base + k → H1[q]? = H[q]?) : am_R D cA tS base (h.1, h.2.1, va_up h.2.2 k x) H1 := by
  refine ⟨hz.trans hR.1, fun j hj => ?_⟩
  show va_at D am_cl (base + j, am_c cA base tS (va_up h.2.2 k x j)) H1
  by_cases hjk : j = k
  · subst hjk
    rw [va_up_self]
    exact he
  · rw [va_up_ne _ _ hjk]
    exact (hR.2 j hj).kept (ho _ (fun z => hjk (by omega)))
theorem am_R.push {D : va_G} {cA : Nat → ClassId} {tS : Nat → Nat} {base : Nat} {h : am_H} {H H1 : Heap} (hR : am_R D cA tS base h H) {x : am_C} {sl : Nat} (he : va_at D am_cl (base + h.1, am_c cA base tS x) H1) (hz : H1.size = H.size + 1) (ho : ∀ q : Nat, q < H.size → H1[q]? = H[q]?) : am_R D cA tS base (h.1 + 1, sl, va_up h.2.2 h.1 x) H1 := by
  refine ⟨by show H1.size = base + (h.1 + 1); rw [hz, hR.1]; omega, fun j hj => ?_⟩
  show va_at D am_cl (base + j, am_c cA base tS (va_up h.2.2 h.1 x j)) H1
  by_cases hjk : j = h.1
  · subst hjk
    rw [va_up_self]
    exact he
  · rw [va_up_ne _ _ hjk]
    have hj' : j < h.1 := by have : j < h.1 + 1 := hj; omega
    exact (hR.2 j hj').kept (ho _ (by rw [hR.1]; show base + j < base + h.1; omega))
theorem am_R.one {D : va_G} {cA : Nat → ClassId} {tS : Nat → Nat} {base : Nat} {h : am_H} {H : Heap} (hR : am_R D cA tS base h H) {k : Nat} (hk : k < h.1) {x : am_C} (hx : h.2.2 k = x) : va_P D am_cl [(base + k, am_c cA base tS x)] H := by
  intro j q hj
  have hz : j < 1 := (List.getElem?_eq_some_iff.mp hj).1
  rw [show j = 0 by omega] at hj
  cases hj
  rw [← hx]
  exact hR.2 k hk
/-! the locals -/
def am_as (base : Nat) (tS : Nat → Nat) : Nat → List (Option Value) → List (Nat × Value)
  | _, [] => []
  | j, none :: t => am_as base tS (j + 1) t
  | j, some v :: t => (j, am_v base tS v) :: am_as base tS (j + 1) t
theorem am_as_mem {base : Nat} {tS : Nat → Nat} : ∀ (L : List (Option Value)) (j i : Nat) (w : Value), (i, w) ∈ am_as base tS j L ↔ ∃ (n : Nat) (v : Value), i = j + n ∧ L[n]? = some (some v) ∧ w = am_v base tS v
  | [], j, i, w => by simp [am_as]
  | none :: t, j, i, w => by
    rw [am_as, am_as_mem t (j + 1) i w]
    constructor
    · rintro ⟨n, v, h1, h2, h3⟩
      exact ⟨n + 1, v, by omega, by simpa using h2, h3⟩
    · rintro ⟨n, v, h1, h2, h3⟩
      cases n with
      | zero => simp at h2
      | succ n => exact ⟨n, v, by omega, by simpa using h2, h3⟩
  | some u :: t, j, i, w => by
    rw [am_as, List.mem_cons, am_as_mem t (j + 1) i w]
    constructor
    · rintro (h | ⟨n, v, h1, h2, h3⟩)
      · cases h
        exact ⟨0, u, rfl, rfl, rfl⟩
      · exact ⟨n + 1, v, by omega, by simpa using h2, h3⟩
    · rintro ⟨n, v, h1, h2, h3⟩
      cases n with
      | zero =>
        have : u = v := by simpa using h2
        subst this
        subst h3
        exact Or.inl (by rw [h1]; rfl)
      | succ n => exact Or.inr ⟨n, v, by omega, by simpa using h2, h3⟩
theorem am_as_in {base : Nat} {tS : Nat → Nat} {L : List (Option Value)} {i : Nat} {v : Value} (h : L[i]? = some (some v)) : (i, am_v base tS v) ∈ am_as base tS 0 L := (am_as_mem L 0 i _).mpr ⟨i, v, by omega, h, rfl⟩
theorem am_L.has {base : Nat} {tS : Nat → Nat} {L : List (Option Value)} {ls : Array Slot} {nL : Nat} (h : am_L base tS L ls nL) : lv_has ls nL (am_as base tS 0 L) := by
  refine ⟨h.2.1, h.2.2.1, fun q hq => ?_⟩
  obtain ⟨i, w⟩ := q
  obtain ⟨n, v, h1, h2, h3⟩ := (am_as_mem L 0 i w).mp hq
  subst h3
  rw [show i = n by omega]
  exact h.2.2.2 n v h2
theorem am_cat {base : Nat} {tS : Nat → Nat} (v : Value) : (am_v base tS v).category = v.category := by cases v <;> rfl
theorem am_ok1_cat {L : List (Option Value)} {j : Nat} {w : Value} (h : am_ok1 L (j + 1) = true) (hw : L[j]? = some (some w)) : ¬ w.category = 2 := by
  unfold am_ok1 at h
  simp only at h
  rw [hw] at h
  cases w <;> first | (simp [Value.category]; done) | (cases h)
theorem am_L.st1 {base : Nat} {tS : Nat → Nat} {L : List (Option Value)} {ls ls' : Array Slot} {nL i : Nat} {v : Value} (h : am_L base tS L ls nL) (hi : i < L.length) (hk : am_ok1 L i = true) (h' : lv_has ls' nL ((i, am_v base tS v) :: (am_as base tS 0 L).filter (fun q => !(q.1 == i) && !(q.1 + 1 == i && q.2.category == 2)))) : am_L base tS (L.set i (some v)) ls' nL := by
  refine ⟨by rw [List.length_set]; exact h.1, h'.1, h'.2.1, fun j w hj => ?_⟩
  by_cases hji : j = i
  · subst hji
    rw [List.getElem?_set_self hi] at hj
    cases hj
    exact h'.2.2 (j, _) List.mem_cons_self
  · rw [List.getElem?_set_ne (Ne.symm hji)] at hj
    refine h'.2.2 (j, _) (List.mem_cons_of_mem _ (List.mem_filter.mpr ⟨am_as_in hj, ?_⟩))
    simp only [Bool.and_eq_true, Bool.not_eq_true', beq_eq_false_iff_ne, ne_eq, Bool.and_eq_false_iff]
    refine ⟨hji, ?_⟩
    by_cases h1 : j + 1 = i
    · subst h1
      exact Or.inr (fun z => am_ok1_cat hk hj ((am_cat (base := base) (tS := tS) w).symm.trans z))
    · exact Or.inl h1
theorem am_L.st2 {base : Nat} {tS : Nat → Nat} {L : List (Option Value)} {ls ls' : Array Slot} {nL i : Nat} {v : Value} (h : am_L base tS L ls nL) (hi : i + 1 < L.length) (hk : am_ok1 L i = true) (h' : lv_has ls' nL ((i, am_v base tS v) :: (am_as base tS 0 L).filter (fun q => !(q.1 == i) && (!(q.1 == i + 1) && !(q.1 + 1 == i && q.2.category == 2))))) : am_L base tS ((L.set i (some v)).set (i + 1) none) ls' nL := by
  refine ⟨by rw [List.length_set, List.length_set]; exact h.1, h'.1, h'.2.1, fun j w hj => ?_⟩
  by_cases hj1 : j = i + 1
  · subst hj1
    rw [List.getElem?_set_self (by rw [List.length_set]; exact hi)] at hj
    cases hj
  · rw [List.getElem?_set_ne (Ne.symm hj1)] at hj
    by_cases hji : j = i
    · subst hji
      rw [List.getElem?_set_self (by omega)] at hj
      cases hj
      exact h'.2.2 (j, _) List.mem_cons_self
    · rw [List.getElem?_set_ne (Ne.symm hji)] at hj
      refine h'.2.2 (j, _) (List.mem_cons_of_mem _ (List.mem_filter.mpr ⟨am_as_in hj, ?_⟩))
      simp only [Bool.and_eq_true, Bool.not_eq_true', beq_eq_false_iff_ne, ne_eq, Bool.and_eq_false_iff]
      refine ⟨hji, hj1, ?_⟩
      by_cases h1 : j + 1 = i
      · subst h1
        exact Or.inr (fun z => am_ok1_cat hk hj ((am_cat (base := base) (tS := tS) w).symm.trans z))
      · exact Or.inl h1
theorem am_in {pl : Nat} {w : Cond} (h : am_w pl w = true) (g : goodWord w = true) : w ∈ am_good := by
  unfold am_w at h
  exact List.mem_filter.mpr ⟨List.mem_of_getElem? (of_decide_eq_true h), g⟩
theorem am_inN {pl : Nat} {a : String} {i : Nat} {x : MethodName} {b : String} (h : am_w pl (.methodLinkNest a i x b) = true) : Cond.methodLinkNest a i x b ∈ am_nest := by
  unfold am_w at h
  exact List.mem_filter.mpr ⟨List.mem_of_getElem? (of_decide_eq_true h), rfl⟩
/-- what is known of a class of ours -/
theorem am_clsz {ci : Nat} {C : String} {T : u_T} {N : Nat} (hc : am_cl[ci]? = some (C, T, N)) : ∃ y, am_cy[ci]? = some y ∧ (∀ w ∈ u_ws C T N, w ∈ am_good) ∧ (∀ k, k < N → parseFieldDescriptor (T k).2.2.1 = some (y k) ∧ (T k).1 = C ∧ defaultValue (y k) = am_dv (y k)) ∧ (∀ a, a < N → ∀ b, b < N → a ≠ b → (T a).2.1 ≠ (T b).2.1) ∧ Cond.instantiable C N ∈ am_good ∧ Cond.initialized C ∈ am_good := by
  have hlt : ci < 13 := (List.getElem?_eq_some_iff.mp hc).1
  have h := List.all_eq_true.mp am_coks ci (List.mem_range.mpr hlt)
  unfold am_cok at h
  rw [hc] at h
  cases hy : am_cy[ci]? with
  | none => rw [hy] at h; cases h
  | some y =>
    rw [hy] at h
    simp only [Bool.and_eq_true, decide_eq_true_eq, List.all_eq_true, Bool.or_eq_true, List.mem_range] at h
    obtain ⟨⟨⟨⟨h1, h2⟩, h3⟩, h4⟩, h5⟩ := h
    refine ⟨y, rfl, fun w hw => List.mem_filter.mpr (h1 w hw), fun k hk => ⟨(h2 k hk).1.1, (h2 k hk).1.2, (h2 k hk).2⟩, fun a ha b hb hne => ?_, List.mem_filter.mpr ⟨h4, rfl⟩, List.mem_filter.mpr ⟨h5, rfl⟩⟩
    rcases h3 a ha b hb with q | q
    · exact absurd q hne
    · exact q
