/-! the small machine's runs, as a judgement, and its rows -/
def am_ev (d z : Nat) (g : am_G) (r : Option Value) (h' : am_H) : Prop := ∃ f, am_run f d z g = some (r, h')
def am_m (d z : Nat) (as : List Value) (h : am_H) (r : Option Value) (h' : am_H) : Prop := am_ev d z (0, am_entry z as, [], h) r h'
def am_is (h : am_H) (a : Nat) (x : am_C) : Prop := a < h.1 ∧ h.2.2 a = x
def am_up (h : am_H) (a : Nat) (x : am_C) : am_H := (h.1, h.2.1, va_up h.2.2 a x)
def am_new (h : am_H) (n : Nat) (x : am_C) : am_H := (h.1 + 1, h.2.1 + n, va_up h.2.2 h.1 x)
theorem am_is.self {h : am_H} {a : Nat} {x y : am_C} (hh : am_is h a y) : am_is (am_up h a x) a x := ⟨hh.1, va_up_self _ _ _⟩
theorem am_is.ne {h : am_H} {a b : Nat} {x y : am_C} (hh : am_is h b y) (hn : b ≠ a) : am_is (am_up h a x) b y := ⟨hh.1, (va_up_ne _ _ hn).trans hh.2⟩
theorem am_is.new {h : am_H} {b n : Nat} {x y : am_C} (hh : am_is h b y) : am_is (am_new h n x) b y := ⟨Nat.lt_succ_of_lt hh.1, (va_up_ne _ _ (Nat.ne_of_lt hh.1)).trans hh.2⟩
theorem am_is.made {h : am_H} {n : Nat} {x : am_C} : am_is (am_new h n x) h.1 x := ⟨Nat.lt_succ_self _, va_up_self _ _ _⟩
theorem am_up_up (h : am_H) (a : Nat) (x y : am_C) : am_up (am_up h a x) a y = am_up h a y := by
  unfold am_up
  dsimp only
  rw [bx_uu]
theorem am_up_id {h : am_H} {a : Nat} {x : am_C} (hh : h.2.2 a = x) : am_up h a x = h := by
  obtain ⟨n, s, f⟩ := h
  unfold am_up
  dsimp only at hh ⊢
  congr 2
  funext j
  by_cases q : j = a
  · subst q; rw [va_up_self, hh]
  · rw [va_up_ne _ _ q]
theorem am_up_comm (h : am_H) {a b : Nat} (x y : am_C) (hab : a ≠ b) : am_up (am_up h a x) b y = am_up (am_up h b y) a x := by
  unfold am_up
  dsimp only
  congr 2
  funext j
  by_cases q : j = a
  · subst q; rw [va_up_self, va_up_ne _ _ hab, va_up_self]
  · rw [va_up_ne _ _ q]
    by_cases q2 : j = b
    · subst q2; rw [va_up_self, va_up_self]
    · rw [va_up_ne _ _ q2, va_up_ne _ _ q2, va_up_ne _ _ q]
theorem am_run_step {f d z : Nat} {g : am_G} {i : ClassFile.Instr} {len aux : Nat} (hf : am_fetch z g.1 = some (i, len, aux)) (hk : am_kind i aux = 9) : am_run (f + 1) d z g = match am_step d i aux g.1 g.2.1 g.2.2.1 g.2.2.2 with
    | some g' => am_run f d z g'
    | none => none := by
  conv => lhs; unfold am_run
  rw [hf]
  dsimp only
  rw [hk]
  rfl
theorem am_run_ret {f d z : Nat} {g : am_G} {i : ClassFile.Instr} {len aux : Nat} (hf : am_fetch z g.1 = some (i, len, aux)) (hk : am_kind i aux = 3) : am_run (f + 1) d z g = am_ret z i g.2.2.1 g.2.2.2 := by
  unfold am_run
  rw [hf]
  dsimp only
  rw [hk]
  rfl
def am_runc (f d z k : Nat) (aux : Nat) (g : am_G) : Option (Option Value × am_H) := if d = 0 then none else match am_args (am_meth (aux / 10000)).2.2.2.1 [] g.2.2.1 with
  | some (as, rest) => if am_rcv k (aux / 10000) as g.2.2.2 = true ∧ (rest.map fun v => v.category).sum ≤ 8 then match am_run f (d - 1) (aux / 10000) (0, am_entry (aux / 10000) as, [], g.2.2.2) with
    | some (r, h1) => am_run f d z (g.1 + 3, g.2.1, r.toList ++ rest, h1)
    | none => none
    else none
  | none => none
theorem am_kind4 (i : ClassFile.Instr) (aux : Nat) : am_kind i aux = 9 ∨ am_kind i aux = 3 ∨ am_kind i aux = 0 ∨ am_kind i aux = 1 ∨ am_kind i aux = 2 := by
  unfold am_kind
  split <;> (try split) <;> simp
theorem am_run_call {f d z : Nat} {g : am_G} {i : ClassFile.Instr} {len aux k : Nat} (hf : am_fetch z g.1 = some (i, len, aux)) (hk : am_kind i aux = k) (hk3 : k = 0 ∨ k = 1 ∨ k = 2) : am_run (f + 1) d z g = am_runc f d z k aux g := by
  unfold am_run
  rw [hf]
  dsimp only
  rw [hk]
  rcases hk3 with q | q | q <;> subst q <;> rfl
theorem am_run_mono : ∀ (f d z : Nat) (g : am_G) (x : Option Value × am_H), am_run f d z g = some x → am_run (f + 1) d z g = some x
  | 0, d, z, g, x, h => by cases h
  | f + 1, d, z, g, x, h => by
    cases hf : am_fetch z g.1 with
    | none =>
      unfold am_run at h
      rw [hf] at h
      cases h
    | some e0 =>
      obtain ⟨i, len, aux⟩ := e0
      have hc : ∀ k, am_kind i aux = k → (k = 0 ∨ k = 1 ∨ k = 2) → am_run (f + 1 + 1) d z g = some x := by
        intro k hk hk3
        rw [am_run_call hf hk hk3] at h ⊢
        unfold am_runc at h ⊢
        by_cases hd0 : d = 0
        · rw [if_pos hd0] at h; cases h
        · rw [if_neg hd0] at h ⊢
          cases ha : am_args (am_meth (aux / 10000)).2.2.2.1 [] g.2.2.1 with
          | none => rw [ha] at h; cases h
          | some ar =>
            obtain ⟨as, rs⟩ := ar
            rw [ha] at h
            dsimp only at h ⊢
            by_cases hcd : am_rcv k (aux / 10000) as g.2.2.2 = true ∧ (rs.map fun v => v.category).sum ≤ 8
            · rw [if_pos hcd] at h ⊢
              cases hrun : am_run f (d - 1) (aux / 10000) (0, am_entry (aux / 10000) as, [], g.2.2.2) with
              | none => rw [hrun] at h; cases h
              | some x1 =>
                obtain ⟨r1, h1⟩ := x1
                rw [hrun] at h
                rw [am_run_mono f _ _ _ _ hrun]
                exact am_run_mono f _ _ _ _ h
            · rw [if_neg hcd] at h; cases h
      rcases am_kind4 i aux with hk | hk | hk | hk | hk
      · rw [am_run_step hf hk] at h ⊢
        cases hst : am_step d i aux g.1 g.2.1 g.2.2.1 g.2.2.2 with
        | none => rw [hst] at h; cases h
        | some g' =>
          rw [hst] at h
          exact am_run_mono f d z g' x h
      · rw [am_run_ret hf hk] at h ⊢
        exact h
      · exact hc 0 hk (Or.inl rfl)
      · exact hc 1 hk (Or.inr (Or.inl rfl))
      · exact hc 2 hk (Or.inr (Or.inr rfl))
theorem am_run_le {f f' d z : Nat} {g : am_G} {x : Option Value × am_H} (h : am_run f d z g = some x) (hle : f ≤ f') : am_run f' d z g = some x := by
  induction hle with
  | refl => exact h
  | step _ ih => exact am_run_mono _ _ _ _ _ ih
def am_next (d z : Nat) : am_G → Option am_G
  | (pc, L, st, h) => match am_fetch z pc with
    | none => none
    | some (i, _, aux) => match am_kind i aux with
      | 9 => am_step d i aux pc L st h
      | _ => none
def am_steps (d z : Nat) : Nat → am_G → Option am_G
  | 0, g => some g
  | n + 1, g => match am_next d z g with
    | some g' => am_steps d z n g'
    | none => none
section EV
variable {d z pc q : Nat} {L L' : List (Option Value)} {st st' : List Value} {h h1 h' : am_H} {r : Option Value}
theorem ev_at {i : ClassFile.Instr} {len aux : Nat} {g : am_G} (hf : am_fetch z pc = some (i, len, aux)) (hk : am_kind i aux = 9) (hs : am_step d i aux pc L st h = some g) (k : am_ev d z g r h') : am_ev d z (pc, L, st, h) r h' := by
  obtain ⟨f, hr⟩ := k
  refine ⟨f + 1, ?_⟩
  rw [am_run_step (g := (pc, L, st, h)) hf hk]
  dsimp only
  rw [hs]
  exact hr
theorem ev_next {g g' : am_G} (hs : am_next d z g = some g') (k : am_ev d z g' r h') : am_ev d z g r h' := by
  obtain ⟨pc, L, st, h⟩ := g
  unfold am_next at hs
  dsimp only at hs
  cases hft : am_fetch z pc with
  | none => rw [hft] at hs; cases hs
  | some e0 =>
    obtain ⟨i, len, aux⟩ := e0
    rw [hft] at hs
    dsimp only at hs
    split at hs
    · rename_i hk
      exact ev_at hft hk hs k
    · cases hs
theorem ev_steps : ∀ (n : Nat) {g g' : am_G}, am_steps d z n g = some g' → am_ev d z g' r h' → am_ev d z g r h'
  | 0, g, g', hs, k => by cases hs; exact k
  | n + 1, g, g', hs, k => by
    unfold am_steps at hs
    cases hn : am_next d z g with
    | none => rw [hn] at hs; cases hs
    | some g1 =>
      rw [hn] at hs
      exact ev_next hn (ev_steps n hs k)
/-- n instructions that need nothing of the heap -/
theorem ev_go (n : Nat) (hs : am_steps d z n (pc, L, st, h) = some (q, L', st', h)) (k : am_ev d z (q, L', st', h) r h') : am_ev d z (pc, L, st, h) r h' := ev_steps n hs k
theorem ev_ret {i : ClassFile.Instr} {len aux : Nat} (hf : am_fetch z pc = some (i, len, aux)) (hk : am_kind i aux = 3) (hs : am_ret z i st h = some (r, h')) : am_ev d z (pc, L, st, h) r h' := ⟨1, (am_run_ret (g := (pc, L, st, h)) hf hk).trans hs⟩
theorem ev_call {i : ClassFile.Instr} {len aux k : Nat} {as rs : List Value} {r1 : Option Value} (hf : am_fetch z pc = some (i, len, aux)) (hk : am_kind i aux = k) (hk3 : k = 0 ∨ k = 1 ∨ k = 2) (hd : 0 < d) (ha : am_args (am_meth (aux / 10000)).2.2.2.1 [] st = some (as, rs)) (hrc : am_rcv k (aux / 10000) as h = true) (hsum : (rs.map fun v => v.category).sum ≤ 8)
    (hc : am_m (d - 1) (aux / 10000) as h r1 h1) (kk : am_ev d z (pc + 3, L, r1.toList ++ rs, h1) r h') : am_ev d z (pc, L, st, h) r h' := by
  obtain ⟨f1, hf1⟩ := hc
  obtain ⟨f2, hf2⟩ := kk
  refine ⟨Nat.max f1 f2 + 1, ?_⟩
  rw [am_run_call (g := (pc, L, st, h)) hf hk hk3]
  unfold am_runc
  dsimp only
  rw [if_neg (by omega), ha]
  dsimp only
  rw [if_pos ⟨hrc, hsum⟩, am_run_le hf1 (Nat.le_max_left _ _)]
  exact am_run_le hf2 (Nat.le_max_right _ _)
theorem ev_static {n len aux z' : Nat} {as rs : List Value} {r1 : Option Value} (hf : am_fetch z pc = some (.invokestatic n, len, aux)) (hz : aux / 10000 = z') (hk : z' < am_count) (ha : am_args (am_meth z').2.2.2.1 [] st = some (as, rs)) (hrc : am_rcv 0 z' as h = true) (hsum : (rs.map fun v => v.category).sum ≤ 8) (hq : pc + 3 = q) (hd : 0 < d)
    (hc : am_m (d - 1) z' as h r1 h1) (kk : am_ev d z (q, L, r1.toList ++ rs, h1) r h') : am_ev d z (pc, L, st, h) r h' := by
  subst hz; subst hq
  exact ev_call hf (show (if aux / 10000 < am_count then 0 else 9) = 0 from if_pos hk) (by simp) hd ha hrc hsum hc kk
theorem ev_init {n len aux z' a : Nat} {as rs : List Value} {r1 : Option Value} (hf : am_fetch z pc = some (.invokespecial n, len, aux)) (hz : aux / 10000 = z') (hk : z' < am_count) (ha : am_args (am_meth z').2.2.2.1 [] st = some (.ref a :: as, rs)) (hrc : am_rcv 1 z' (.ref a :: as) h = true) (hsum : (rs.map fun v => v.category).sum ≤ 8) (hq : pc + 3 = q) (hd : 0 < d)
    (hc : am_m (d - 1) z' (.ref a :: as) h r1 h1) (kk : am_ev d z (q, L, r1.toList ++ rs, h1) r h') : am_ev d z (pc, L, st, h) r h' := by
  subst hz; subst hq
  exact ev_call hf (show (if aux / 10000 < am_count then 1 else 9) = 1 from if_pos hk) (by simp) hd ha hrc hsum hc kk
theorem ev_virt {n len aux z' a ci : Nat} {as rs fs : List Value} {r1 : Option Value} (hf : am_fetch z pc = some (.invokevirtual n, len, aux)) (hz : aux / 10000 = z') (hk : z' < am_count) (ha : am_args (am_meth z').2.2.2.1 [] st = some (.ref a :: as, rs)) (hsum : (rs.map fun v => v.category).sum ≤ 8) (hq : pc + 3 = q) (hd : 0 < d) (hci : ci + 1 = (am_meth z').2.2.2.2.2) (hc1 : as.all am_c1 = true) (hi : am_is h a (.inr (ci, fs)))
    (hc : am_m (d - 1) z' (.ref a :: as) h r1 h1) (kk : am_ev d z (q, L, r1.toList ++ rs, h1) r h') : am_ev d z (pc, L, st, h) r h' := by
  subst hz; subst hq
  refine ev_call hf (show (if aux / 10000 < am_count then 2 else 9) = 2 from if_pos hk) (by simp) hd ha ?_ hsum hc kk
  show ((true && as.all am_c1) && (Nat.blt a h.1 && (match h.2.2 a with
      | .inr (ci, _) => Nat.beq (ci + 1) (am_meth (aux / 10000)).2.2.2.2.2
      | _ => false))) = true
  rw [hi.2, hc1]
  dsimp only
  rw [hci]
  simp [hi.1]
theorem ev_get {n len aux a ci : Nat} {fs : List Value} {v : Value} (hf : am_fetch z pc = some (.getfield n, len, aux)) (hi : am_is h a (.inr (ci, fs))) (hci : ci = aux / 1000000) (hv : fs[aux / 10000 % 100]? = some v) (hq : pc + 3 = q) (k : am_ev d z (q, L, v :: st, h) r h') : am_ev d z (pc, L, .ref a :: st, h) r h' := by
  subst hq
  refine ev_at (g := (pc + 3, L, v :: st, h)) hf rfl ?_ k
  show (if a < h.1 then match h.2.2 a with
      | .inr (ci, fs) => if ci = aux / 1000000 then match fs[aux / 10000 % 100]? with
        | some v => some (pc + 3, L, v :: st, h)
        | none => none
        else none
      | _ => none
      else none) = _
  rw [if_pos hi.1, hi.2]
  dsimp only
  rw [if_pos hci, hv]
theorem ev_put {n len aux a ci : Nat} {fs fs' : List Value} {v : Value} (hf : am_fetch z pc = some (.putfield n, len, aux)) (hi : am_is h a (.inr (ci, fs))) (hci : ci = aux / 1000000) (hl : aux / 10000 % 100 < fs.length) (ht : am_fit ((am_cy.getD ci (fun _ => .int)) (aux / 10000 % 100)) v = true) (hs : fs.set (aux / 10000 % 100) v = fs') (hq : pc + 3 = q) (k : am_ev d z (q, L, st, am_up h a (.inr (ci, fs'))) r h') : am_ev d z (pc, L, v :: .ref a :: st, h) r h' := by
  subst hq; subst hs
  refine ev_at (g := (pc + 3, L, st, am_up h a (.inr (ci, fs.set (aux / 10000 % 100) v)))) hf rfl ?_ k
  show (if a < h.1 then match h.2.2 a with
      | .inr (ci, fs) => if ci = aux / 1000000 ∧ aux / 10000 % 100 < fs.length ∧ am_fit ((am_cy.getD ci (fun _ => .int)) (aux / 10000 % 100)) v = true then some (pc + 3, L, st, (h.1, h.2.1, va_up h.2.2 a (.inr (ci, fs.set (aux / 10000 % 100) v)))) else none
      | _ => none
      else none) = _
  rw [if_pos hi.1, hi.2]
  exact if_pos ⟨hci, hl, ht⟩
theorem ev_iald {len aux a n : Nat} {f : Nat → Int32} {i : Int32} (hf : am_fetch z pc = some (.iaload, len, aux)) (hi : am_is h a (.inl (0, n, .inl f))) (hx : ¬ i < 0 ∧ i.toNatClampNeg < n) (hq : pc + 1 = q) (k : am_ev d z (q, L, .int (f i.toNatClampNeg) :: st, h) r h') : am_ev d z (pc, L, .int i :: .ref a :: st, h) r h' := by
  subst hq
  refine ev_at (g := (pc + 1, L, .int (f i.toNatClampNeg) :: st, h)) hf rfl ?_ k
  show (if a < h.1 then match h.2.2 a with
      | .inl (0, n, .inl f) => if ¬ i < 0 ∧ i.toNatClampNeg < n then some (pc + 1, L, .int (f i.toNatClampNeg) :: st, h) else none
      | _ => none
      else none) = _
  rw [if_pos hi.1, hi.2]
  exact if_pos hx
theorem ev_zald {len aux a n : Nat} {f : Nat → Int32} {i : Int32} (hf : am_fetch z pc = some (.baload, len, aux)) (hi : am_is h a (.inl (1, n, .inl f))) (hx : ¬ i < 0 ∧ i.toNatClampNeg < n) (hq : pc + 1 = q) (k : am_ev d z (q, L, .int (f i.toNatClampNeg) :: st, h) r h') : am_ev d z (pc, L, .int i :: .ref a :: st, h) r h' := by
  subst hq
  refine ev_at (g := (pc + 1, L, .int (f i.toNatClampNeg) :: st, h)) hf rfl ?_ k
  show (if a < h.1 then match h.2.2 a with
      | .inl (1, n, .inl f) => if ¬ i < 0 ∧ i.toNatClampNeg < n then some (pc + 1, L, .int (f i.toNatClampNeg) :: st, h) else none
      | _ => none
      else none) = _
  rw [if_pos hi.1, hi.2]
  exact if_pos hx
theorem ev_aald {len aux a n t : Nat} {f : Nat → Option Nat} {i : Int32} (hf : am_fetch z pc = some (.aaload, len, aux)) (hi : am_is h a (.inl (t, n, .inr f))) (ht : 2 ≤ t ∧ t < 6) (hx : ¬ i < 0 ∧ i.toNatClampNeg < n) (hq : pc + 1 = q) (k : am_ev d z (q, L, va_rf (f i.toNatClampNeg) :: st, h) r h') : am_ev d z (pc, L, .int i :: .ref a :: st, h) r h' := by
  subst hq
  refine ev_at (g := (pc + 1, L, va_rf (f i.toNatClampNeg) :: st, h)) hf rfl ?_ k
  show (if a < h.1 then match h.2.2 a with
      | .inl (t, n, .inr f) => if (2 ≤ t ∧ t < 6) ∧ ¬ i < 0 ∧ i.toNatClampNeg < n then some (pc + 1, L, va_rf (f i.toNatClampNeg) :: st, h) else none
      | _ => none
      else none) = _
  rw [if_pos hi.1, hi.2]
  exact if_pos ⟨ht, hx⟩
theorem ev_iast {len aux a n : Nat} {f : Nat → Int32} {i x : Int32} (hf : am_fetch z pc = some (.iastore, len, aux)) (hi : am_is h a (.inl (0, n, .inl f))) (hx : ¬ i < 0 ∧ i.toNatClampNeg < n) (hq : pc + 1 = q) (k : am_ev d z (q, L, st, am_up h a (.inl (0, n, .inl (va_up f i.toNatClampNeg x)))) r h') : am_ev d z (pc, L, .int x :: .int i :: .ref a :: st, h) r h' := by
  subst hq
  refine ev_at (g := (pc + 1, L, st, am_up h a (.inl (0, n, .inl (va_up f i.toNatClampNeg x))))) hf rfl ?_ k
  show (if a < h.1 then match h.2.2 a with
      | .inl (0, n, .inl f) => if ¬ i < 0 ∧ i.toNatClampNeg < n then some (pc + 1, L, st, (h.1, h.2.1, va_up h.2.2 a (.inl (0, n, .inl (va_up f i.toNatClampNeg x))))) else none
      | _ => none
      else none) = _
  rw [if_pos hi.1, hi.2]
  exact if_pos hx
theorem ev_zast {len aux a n : Nat} {f : Nat → Int32} {i x : Int32} (hf : am_fetch z pc = some (.bastore, len, aux)) (hi : am_is h a (.inl (1, n, .inl f))) (hx : ¬ i < 0 ∧ i.toNatClampNeg < n) (hq : pc + 1 = q) (k : am_ev d z (q, L, st, am_up h a (.inl (1, n, .inl (va_up f i.toNatClampNeg (x &&& 1))))) r h') : am_ev d z (pc, L, .int x :: .int i :: .ref a :: st, h) r h' := by
  subst hq
  refine ev_at (g := (pc + 1, L, st, am_up h a (.inl (1, n, .inl (va_up f i.toNatClampNeg (x &&& 1)))))) hf rfl ?_ k
  show (if a < h.1 then match h.2.2 a with
      | .inl (1, n, .inl f) => if ¬ i < 0 ∧ i.toNatClampNeg < n then some (pc + 1, L, st, (h.1, h.2.1, va_up h.2.2 a (.inl (1, n, .inl (va_up f i.toNatClampNeg (x &&& 1)))))) else none
      | _ => none
      else none) = _
  rw [if_pos hi.1, hi.2]
  exact if_pos hx
theorem ev_aast {len aux a n t v ci : Nat} {vs : List Value} {f : Nat → Option Nat} {i : Int32} (hf : am_fetch z pc = some (.aastore, len, aux)) (hi : am_is h a (.inl (t, n, .inr f))) (hv : am_is h v (.inr (ci, vs))) (ht : (2 ≤ t ∧ t < 6) ∧ ci = am_ac t) (hx : ¬ i < 0 ∧ i.toNatClampNeg < n) (hq : pc + 1 = q) (k : am_ev d z (q, L, st, am_up h a (.inl (t, n, .inr (va_up f i.toNatClampNeg (some v))))) r h') : am_ev d z (pc, L, .ref v :: .int i :: .ref a :: st, h) r h' := by
  subst hq
  refine ev_at (g := (pc + 1, L, st, am_up h a (.inl (t, n, .inr (va_up f i.toNatClampNeg (some v)))))) hf rfl ?_ k
  show (if a < h.1 ∧ v < h.1 then match h.2.2 a, h.2.2 v with
      | .inl (t, n, .inr f), .inr (ci, _) => if (2 ≤ t ∧ t < 6) ∧ ci = am_ac t ∧ ¬ i < 0 ∧ i.toNatClampNeg < n then some (pc + 1, L, st, (h.1, h.2.1, va_up h.2.2 a (.inl (t, n, .inr (va_up f i.toNatClampNeg (some v)))))) else none
      | _, _ => none
      else none) = _
  rw [if_pos ⟨hi.1, hv.1⟩, hi.2, hv.2]
  exact if_pos ⟨ht.1, ht.2, hx⟩
theorem ev_alen {len aux a n t : Nat} {x : (Nat → Int32) ⊕ (Nat → Option Nat)} {v : Int32} (hf : am_fetch z pc = some (.arraylength, len, aux)) (hi : am_is h a (.inl (t, n, x))) (ht : t < 6) (hv : Int32.ofNat n = v) (hq : pc + 1 = q) (k : am_ev d z (q, L, .int v :: st, h) r h') : am_ev d z (pc, L, .ref a :: st, h) r h' := by
  subst hq; subst hv
  refine ev_at (g := (pc + 1, L, .int (Int32.ofNat n) :: st, h)) hf rfl ?_ k
  show (if a < h.1 then match h.2.2 a with
      | .inl (t, n, _) => if t < 6 then some (pc + 1, L, .int (Int32.ofNat n) :: st, h) else none
      | _ => none
      else none) = _
  rw [if_pos hi.1, hi.2]
  exact if_pos ht
theorem ev_new {n len aux ci N : Nat} {fs : List Value} (hf : am_fetch z pc = some (.new n, len, aux)) (hci : aux / 10000 = ci) (hN : (am_cl[ci]?).map (fun q => q.2.2) = some N) (hfs : am_df ci = fs) (hq : pc + 3 = q) (k : am_ev d z (q, L, .ref h.1 :: st, am_new h N (.inr (ci, fs))) r h') : am_ev d z (pc, L, st, h) r h' := by
  subst hq; subst hci; subst hfs
  refine ev_at (g := (pc + 3, L, .ref h.1 :: st, am_new h N (.inr (aux / 10000, am_df (aux / 10000))))) hf rfl ?_ k
  show (match am_cl[aux / 10000]? with
    | some (_, _, N) => (some (pc + 3, L, Value.ref h.1 :: st, (h.1 + 1, h.2.1 + N, va_up h.2.2 h.1 (Sum.inr (aux / 10000, am_df (aux / 10000))))) : Option am_G)
    | none => none) = _
  cases hc : am_cl[aux / 10000]? with
  | none => rw [hc] at hN; cases hN
  | some x =>
    rw [hc] at hN
    cases hN
    rfl
theorem ev_newa {len aux t N : Nat} {a : ClassFile.ArrayType} {n : Int32} (hf : am_fetch z pc = some (.newarray a, len, aux)) (ht : aux / 10000 = t) (hn : (¬ n < 0 ∧ n.toNatClampNeg ≤ 100000) ∧ n.toNatClampNeg = N) (hq : pc + 2 = q) (k : am_ev d z (q, L, .ref h.1 :: st, am_new h N (.inl (t, N, .inl (fun _ => 0)))) r h') : am_ev d z (pc, L, .int n :: st, h) r h' := by
  subst hq; subst ht
  obtain ⟨hn, hN⟩ := hn
  subst hN
  refine ev_at hf rfl ?_ k
  show (if ¬ n < 0 ∧ n.toNatClampNeg ≤ 100000 then some (pc + 2, L, .ref h.1 :: st, (h.1 + 1, h.2.1 + n.toNatClampNeg, va_up h.2.2 h.1 (.inl (aux / 10000, n.toNatClampNeg, .inl (fun _ => 0))))) else none) = _
  rw [if_pos hn]
  rfl
theorem ev_anew {len aux t N k0 : Nat} {n : Int32} (hf : am_fetch z pc = some (.anewarray k0, len, aux)) (ht : aux / 10000 = t) (hn : (¬ n < 0 ∧ n.toNatClampNeg ≤ 100000) ∧ n.toNatClampNeg = N) (hq : pc + 3 = q) (k : am_ev d z (q, L, .ref h.1 :: st, am_new h N (.inl (t, N, .inr (fun _ => none)))) r h') : am_ev d z (pc, L, .int n :: st, h) r h' := by
  subst hq; subst ht
  obtain ⟨hn, hN⟩ := hn
  subst hN
  refine ev_at hf rfl ?_ k
  show (if ¬ n < 0 ∧ n.toNatClampNeg ≤ 100000 then some (pc + 3, L, .ref h.1 :: st, (h.1 + 1, h.2.1 + n.toNatClampNeg, va_up h.2.2 h.1 (.inl (aux / 10000, n.toNatClampNeg, .inr (fun _ => none))))) else none) = _
  rw [if_pos hn]
  rfl
theorem ev_oinit {len aux k0 a : Nat} (hf : am_fetch z pc = some (.invokespecial k0, len, aux)) (h1000 : aux / 10000 = 1000) (hd : 0 < d) (hsum : (st.map fun v => v.category).sum ≤ 8) (hq : pc + 3 = q) (k : am_ev d z (q, L, st, h) r h') : am_ev d z (pc, L, .ref a :: st, h) r h' := by
  subst hq
  refine ev_at (g := (pc + 3, L, st, h)) hf (show (if aux / 10000 < am_count then 1 else 9) = 9 by rw [h1000]; rfl) ?_ k
  show (if aux / 10000 = 1000 ∧ 0 < d then (if (st.map fun v => v.category).sum ≤ 8 then some (pc + 3, L, st, h) else none) else none) = _
  rw [if_pos ⟨h1000, hd⟩, if_pos hsum]
theorem ev_copy {len aux k0 a a0 n0 n1 : Nat} {f g : Nat → Int32} {sp dp n : Int32} (hf : am_fetch z pc = some (.invokestatic k0, len, aux)) (h1001 : aux / 10000 = 1001) (hd : 0 < d) (hsum : (st.map fun v => v.category).sum ≤ 8) (hi0 : am_is h a0 (.inl (0, n0, .inl f))) (hi : am_is h a (.inl (0, n1, .inl g))) (hx : ¬ sp < 0 ∧ ¬ dp < 0 ∧ ¬ n < 0 ∧ sp.toNatClampNeg + n.toNatClampNeg ≤ n0 ∧ dp.toNatClampNeg + n.toNatClampNeg ≤ n1) (hq : pc + 3 = q)
    (k : am_ev d z (q, L, st, am_up h a (.inl (0, n1, .inl (va_cpy f g sp.toNatClampNeg dp.toNatClampNeg n.toNatClampNeg)))) r h') : am_ev d z (pc, L, .int n :: .int dp :: .ref a :: .int sp :: .ref a0 :: st, h) r h' := by
  subst hq
  refine ev_at hf (show (if aux / 10000 < am_count then 0 else 9) = 9 by rw [h1001]; rfl) ?_ k
  show (if aux / 10000 = 1001 ∧ 0 < d then (if a < h.1 ∧ a0 < h.1 ∧ (st.map fun v => v.category).sum ≤ 8 then match h.2.2 a0, h.2.2 a with
      | .inl (0, n0, .inl f), .inl (0, n1, .inl g) => if ¬ sp < 0 ∧ ¬ dp < 0 ∧ ¬ n < 0 ∧ sp.toNatClampNeg + n.toNatClampNeg ≤ n0 ∧ dp.toNatClampNeg + n.toNatClampNeg ≤ n1 then some (pc + 3, L, st, (h.1, h.2.1, va_up h.2.2 a (.inl (0, n1, .inl (va_cpy f g sp.toNatClampNeg dp.toNatClampNeg n.toNatClampNeg))))) else none
      | _, _ => none
      else none) else none) = _
  rw [if_pos ⟨h1001, hd⟩, if_pos ⟨hi.1, hi0.1, hsum⟩, hi0.2, hi.2]
  exact if_pos hx
theorem ev_div {len aux : Nat} {x y : Int32} (hf : am_fetch z pc = some (.idiv, len, aux)) (hy : ¬ y = 0) (hq : pc + 1 = q) (k : am_ev d z (q, L, .int (x / y) :: st, h) r h') : am_ev d z (pc, L, .int y :: .int x :: st, h) r h' := by
  subst hq
  exact ev_at (g := (pc + 1, L, .int (x / y) :: st, h)) hf rfl (show (if y = 0 then none else _) = _ from if_neg hy) k
theorem ev_rem {len aux : Nat} {x y : Int32} (hf : am_fetch z pc = some (.irem, len, aux)) (hy : ¬ y = 0) (hq : pc + 1 = q) (k : am_ev d z (q, L, .int (x - x / y * y) :: st, h) r h') : am_ev d z (pc, L, .int y :: .int x :: st, h) r h' := by
  subst hq
  exact ev_at (g := (pc + 1, L, .int (x - x / y * y) :: st, h)) hf rfl (show (if y = 0 then none else _) = _ from if_neg hy) k
theorem ev_icmp_eq {len aux t : Nat} {off : Int} {x y : Int32} (hf : am_fetch z pc = some (.if_icmp .eq off, len, aux)) (ht : am_tgt pc off = t) (hq : pc + 3 = q) (kt : x = y → am_ev d z (t, L, st, h) r h') (kf : ¬ x = y → am_ev d z (q, L, st, h) r h') : am_ev d z (pc, L, .int y :: .int x :: st, h) r h' := by
  subst ht; subst hq
  by_cases hc : x = y
  · exact ev_at (g := (am_tgt pc off, L, st, h)) hf rfl (congrArg (fun w => some (w, L, st, h)) (show am_if .eq pc (am_tgt pc off) x y = am_tgt pc off from if_pos hc)) (kt hc)
  · exact ev_at (g := (pc + 3, L, st, h)) hf rfl (congrArg (fun w => some (w, L, st, h)) (show am_if .eq pc (am_tgt pc off) x y = pc + 3 from if_neg hc)) (kf hc)
theorem ev_icmp_ne {len aux t : Nat} {off : Int} {x y : Int32} (hf : am_fetch z pc = some (.if_icmp .ne off, len, aux)) (ht : am_tgt pc off = t) (hq : pc + 3 = q) (kt : ¬ x = y → am_ev d z (t, L, st, h) r h') (kf : x = y → am_ev d z (q, L, st, h) r h') : am_ev d z (pc, L, .int y :: .int x :: st, h) r h' := by
  subst ht; subst hq
  by_cases hc : x = y
  · exact ev_at (g := (pc + 3, L, st, h)) hf rfl (congrArg (fun w => some (w, L, st, h)) (show am_if .ne pc (am_tgt pc off) x y = pc + 3 from if_pos hc)) (kf hc)
  · exact ev_at (g := (am_tgt pc off, L, st, h)) hf rfl (congrArg (fun w => some (w, L, st, h)) (show am_if .ne pc (am_tgt pc off) x y = am_tgt pc off from if_neg hc)) (kt hc)
theorem ev_icmp_lt {len aux t : Nat} {off : Int} {x y : Int32} (hf : am_fetch z pc = some (.if_icmp .lt off, len, aux)) (ht : am_tgt pc off = t) (hq : pc + 3 = q) (kt : x < y → am_ev d z (t, L, st, h) r h') (kf : ¬ x < y → am_ev d z (q, L, st, h) r h') : am_ev d z (pc, L, .int y :: .int x :: st, h) r h' := by
  subst ht; subst hq
  by_cases hc : x < y
  · exact ev_at (g := (am_tgt pc off, L, st, h)) hf rfl (congrArg (fun w => some (w, L, st, h)) (show am_if .lt pc (am_tgt pc off) x y = am_tgt pc off from if_pos hc)) (kt hc)
  · exact ev_at (g := (pc + 3, L, st, h)) hf rfl (congrArg (fun w => some (w, L, st, h)) (show am_if .lt pc (am_tgt pc off) x y = pc + 3 from if_neg hc)) (kf hc)
theorem ev_icmp_ge {len aux t : Nat} {off : Int} {x y : Int32} (hf : am_fetch z pc = some (.if_icmp .ge off, len, aux)) (ht : am_tgt pc off = t) (hq : pc + 3 = q) (kt : y ≤ x → am_ev d z (t, L, st, h) r h') (kf : ¬ y ≤ x → am_ev d z (q, L, st, h) r h') : am_ev d z (pc, L, .int y :: .int x :: st, h) r h' := by
  subst ht; subst hq
  by_cases hc : y ≤ x
  · exact ev_at (g := (am_tgt pc off, L, st, h)) hf rfl (congrArg (fun w => some (w, L, st, h)) (show am_if .ge pc (am_tgt pc off) x y = am_tgt pc off from if_pos hc)) (kt hc)
  · exact ev_at (g := (pc + 3, L, st, h)) hf rfl (congrArg (fun w => some (w, L, st, h)) (show am_if .ge pc (am_tgt pc off) x y = pc + 3 from if_neg hc)) (kf hc)
theorem ev_icmp_gt {len aux t : Nat} {off : Int} {x y : Int32} (hf : am_fetch z pc = some (.if_icmp .gt off, len, aux)) (ht : am_tgt pc off = t) (hq : pc + 3 = q) (kt : y < x → am_ev d z (t, L, st, h) r h') (kf : ¬ y < x → am_ev d z (q, L, st, h) r h') : am_ev d z (pc, L, .int y :: .int x :: st, h) r h' := by
  subst ht; subst hq
  by_cases hc : y < x
  · exact ev_at (g := (am_tgt pc off, L, st, h)) hf rfl (congrArg (fun w => some (w, L, st, h)) (show am_if .gt pc (am_tgt pc off) x y = am_tgt pc off from if_pos hc)) (kt hc)
  · exact ev_at (g := (pc + 3, L, st, h)) hf rfl (congrArg (fun w => some (w, L, st, h)) (show am_if .gt pc (am_tgt pc off) x y = pc + 3 from if_neg hc)) (kf hc)
theorem ev_icmp_le {len aux t : Nat} {off : Int} {x y : Int32} (hf : am_fetch z pc = some (.if_icmp .le off, len, aux)) (ht : am_tgt pc off = t) (hq : pc + 3 = q) (kt : x ≤ y → am_ev d z (t, L, st, h) r h') (kf : ¬ x ≤ y → am_ev d z (q, L, st, h) r h') : am_ev d z (pc, L, .int y :: .int x :: st, h) r h' := by
  subst ht; subst hq
  by_cases hc : x ≤ y
  · exact ev_at (g := (am_tgt pc off, L, st, h)) hf rfl (congrArg (fun w => some (w, L, st, h)) (show am_if .le pc (am_tgt pc off) x y = am_tgt pc off from if_pos hc)) (kt hc)
  · exact ev_at (g := (pc + 3, L, st, h)) hf rfl (congrArg (fun w => some (w, L, st, h)) (show am_if .le pc (am_tgt pc off) x y = pc + 3 from if_neg hc)) (kf hc)
theorem ev_if_eq {len aux t : Nat} {off : Int} {x : Int32} (hf : am_fetch z pc = some (.ifCond .eq off, len, aux)) (ht : am_tgt pc off = t) (hq : pc + 3 = q) (kt : x = 0 → am_ev d z (t, L, st, h) r h') (kf : ¬ x = 0 → am_ev d z (q, L, st, h) r h') : am_ev d z (pc, L, .int x :: st, h) r h' := by
  subst ht; subst hq
  by_cases hc : x = 0
  · exact ev_at (g := (am_tgt pc off, L, st, h)) hf rfl (congrArg (fun w => some (w, L, st, h)) (show am_if .eq pc (am_tgt pc off) x 0 = am_tgt pc off from if_pos hc)) (kt hc)
  · exact ev_at (g := (pc + 3, L, st, h)) hf rfl (congrArg (fun w => some (w, L, st, h)) (show am_if .eq pc (am_tgt pc off) x 0 = pc + 3 from if_neg hc)) (kf hc)
theorem ev_if_ne {len aux t : Nat} {off : Int} {x : Int32} (hf : am_fetch z pc = some (.ifCond .ne off, len, aux)) (ht : am_tgt pc off = t) (hq : pc + 3 = q) (kt : ¬ x = 0 → am_ev d z (t, L, st, h) r h') (kf : x = 0 → am_ev d z (q, L, st, h) r h') : am_ev d z (pc, L, .int x :: st, h) r h' := by
  subst ht; subst hq
  by_cases hc : x = 0
  · exact ev_at (g := (pc + 3, L, st, h)) hf rfl (congrArg (fun w => some (w, L, st, h)) (show am_if .ne pc (am_tgt pc off) x 0 = pc + 3 from if_pos hc)) (kf hc)
  · exact ev_at (g := (am_tgt pc off, L, st, h)) hf rfl (congrArg (fun w => some (w, L, st, h)) (show am_if .ne pc (am_tgt pc off) x 0 = am_tgt pc off from if_neg hc)) (kt hc)
theorem ev_if_lt {len aux t : Nat} {off : Int} {x : Int32} (hf : am_fetch z pc = some (.ifCond .lt off, len, aux)) (ht : am_tgt pc off = t) (hq : pc + 3 = q) (kt : x < 0 → am_ev d z (t, L, st, h) r h') (kf : ¬ x < 0 → am_ev d z (q, L, st, h) r h') : am_ev d z (pc, L, .int x :: st, h) r h' := by
  subst ht; subst hq
  by_cases hc : x < 0
  · exact ev_at (g := (am_tgt pc off, L, st, h)) hf rfl (congrArg (fun w => some (w, L, st, h)) (show am_if .lt pc (am_tgt pc off) x 0 = am_tgt pc off from if_pos hc)) (kt hc)
  · exact ev_at (g := (pc + 3, L, st, h)) hf rfl (congrArg (fun w => some (w, L, st, h)) (show am_if .lt pc (am_tgt pc off) x 0 = pc + 3 from if_neg hc)) (kf hc)
theorem ev_if_ge {len aux t : Nat} {off : Int} {x : Int32} (hf : am_fetch z pc = some (.ifCond .ge off, len, aux)) (ht : am_tgt pc off = t) (hq : pc + 3 = q) (kt : 0 ≤ x → am_ev d z (t, L, st, h) r h') (kf : ¬ 0 ≤ x → am_ev d z (q, L, st, h) r h') : am_ev d z (pc, L, .int x :: st, h) r h' := by
  subst ht; subst hq
  by_cases hc : 0 ≤ x
  · exact ev_at (g := (am_tgt pc off, L, st, h)) hf rfl (congrArg (fun w => some (w, L, st, h)) (show am_if .ge pc (am_tgt pc off) x 0 = am_tgt pc off from if_pos hc)) (kt hc)
  · exact ev_at (g := (pc + 3, L, st, h)) hf rfl (congrArg (fun w => some (w, L, st, h)) (show am_if .ge pc (am_tgt pc off) x 0 = pc + 3 from if_neg hc)) (kf hc)
theorem ev_if_gt {len aux t : Nat} {off : Int} {x : Int32} (hf : am_fetch z pc = some (.ifCond .gt off, len, aux)) (ht : am_tgt pc off = t) (hq : pc + 3 = q) (kt : 0 < x → am_ev d z (t, L, st, h) r h') (kf : ¬ 0 < x → am_ev d z (q, L, st, h) r h') : am_ev d z (pc, L, .int x :: st, h) r h' := by
  subst ht; subst hq
  by_cases hc : 0 < x
  · exact ev_at (g := (am_tgt pc off, L, st, h)) hf rfl (congrArg (fun w => some (w, L, st, h)) (show am_if .gt pc (am_tgt pc off) x 0 = am_tgt pc off from if_pos hc)) (kt hc)
  · exact ev_at (g := (pc + 3, L, st, h)) hf rfl (congrArg (fun w => some (w, L, st, h)) (show am_if .gt pc (am_tgt pc off) x 0 = pc + 3 from if_neg hc)) (kf hc)
theorem ev_if_le {len aux t : Nat} {off : Int} {x : Int32} (hf : am_fetch z pc = some (.ifCond .le off, len, aux)) (ht : am_tgt pc off = t) (hq : pc + 3 = q) (kt : x ≤ 0 → am_ev d z (t, L, st, h) r h') (kf : ¬ x ≤ 0 → am_ev d z (q, L, st, h) r h') : am_ev d z (pc, L, .int x :: st, h) r h' := by
  subst ht; subst hq
  by_cases hc : x ≤ 0
  · exact ev_at (g := (am_tgt pc off, L, st, h)) hf rfl (congrArg (fun w => some (w, L, st, h)) (show am_if .le pc (am_tgt pc off) x 0 = am_tgt pc off from if_pos hc)) (kt hc)
  · exact ev_at (g := (pc + 3, L, st, h)) hf rfl (congrArg (fun w => some (w, L, st, h)) (show am_if .le pc (am_tgt pc off) x 0 = pc + 3 from if_neg hc)) (kf hc)
theorem ev_iret {len aux : Nat} {x v : Int32} (hf : am_fetch z pc = some (.ireturn, len, aux)) (hk : (am_meth z).2.2.2.2.1 = 1) (hv : x = v) (hh : h = h') : am_ev d z (pc, L, [.int x], h) (some (.int v)) h' := by
  subst hv; subst hh
  exact ev_ret hf rfl (show (if (am_meth z).2.2.2.2.1 = 1 ∨ ((am_meth z).2.2.2.2.1 = 2 ∧ (x = 0 ∨ x = 1)) then _ else none) = _ from if_pos (Or.inl hk))
theorem ev_zret {len aux : Nat} {x v : Int32} (hf : am_fetch z pc = some (.ireturn, len, aux)) (hk : (am_meth z).2.2.2.2.1 = 2) (hb : x = 0 ∨ x = 1) (hv : x = v) (hh : h = h') : am_ev d z (pc, L, [.int x], h) (some (.int v)) h' := by
  subst hv; subst hh
  exact ev_ret hf rfl (show (if (am_meth z).2.2.2.2.1 = 1 ∨ ((am_meth z).2.2.2.2.1 = 2 ∧ (x = 0 ∨ x = 1)) then _ else none) = _ from if_pos (Or.inr ⟨hk, hb⟩))
theorem ev_lret {len aux : Nat} {x v : Int64} (hf : am_fetch z pc = some (.lreturn, len, aux)) (hk : (am_meth z).2.2.2.2.1 = 3) (hv : x = v) (hh : h = h') : am_ev d z (pc, L, [.long x], h) (some (.long v)) h' := by
  subst hv; subst hh
  exact ev_ret hf rfl (show (if (am_meth z).2.2.2.2.1 = 3 then _ else none) = _ from if_pos hk)
theorem ev_aret {len aux : Nat} {x v : Option Nat} (hf : am_fetch z pc = some (.areturn, len, aux)) (hk : (am_meth z).2.2.2.2.1 = 4) (hv : x = v) (hh : h = h') : am_ev d z (pc, L, [va_rf x], h) (some (va_rf v)) h' := by
  subst hv; subst hh
  cases x with
  | none => exact ev_ret hf rfl (show (if (am_meth z).2.2.2.2.1 = 4 then _ else none) = _ from if_pos hk)
  | some a => exact ev_ret hf rfl (show (if (am_meth z).2.2.2.2.1 = 4 then _ else none) = _ from if_pos hk)
theorem ev_vret {len aux : Nat} (hf : am_fetch z pc = some (.return_, len, aux)) (hk : (am_meth z).2.2.2.2.1 = 0) (hh : h = h') : am_ev d z (pc, L, [], h) none h' := by
  subst hh
  exact ev_ret hf rfl (show (if (am_meth z).2.2.2.2.1 = 0 then _ else none) = _ from if_pos hk)
theorem ev_ialdn {len aux a n k : Nat} {f : Nat → Int32} {i : Int32} (hf : am_fetch z pc = some (.iaload, len, aux)) (hi : am_is h a (.inl (0, n, .inl f))) (he : i = nI k) (hk : k < n) (hn : n ≤ 100000) (hq : pc + 1 = q) (kk : am_ev d z (q, L, .int (f k) :: st, h) r h') : am_ev d z (pc, L, .int i :: .ref a :: st, h) r h' := by
  subst he
  refine ev_iald hf hi ⟨nI_pos (by omega), by rw [nI_clamp (by omega)]; exact hk⟩ hq ?_
  rw [nI_clamp (by omega)]
  exact kk
theorem ev_zaldn {len aux a n k : Nat} {f : Nat → Int32} {i : Int32} (hf : am_fetch z pc = some (.baload, len, aux)) (hi : am_is h a (.inl (1, n, .inl f))) (he : i = nI k) (hk : k < n) (hn : n ≤ 100000) (hq : pc + 1 = q) (kk : am_ev d z (q, L, .int (f k) :: st, h) r h') : am_ev d z (pc, L, .int i :: .ref a :: st, h) r h' := by
  subst he
  refine ev_zald hf hi ⟨nI_pos (by omega), by rw [nI_clamp (by omega)]; exact hk⟩ hq ?_
  rw [nI_clamp (by omega)]
  exact kk
theorem ev_iastn {len aux a n k : Nat} {f : Nat → Int32} {i x : Int32} (hf : am_fetch z pc = some (.iastore, len, aux)) (hi : am_is h a (.inl (0, n, .inl f))) (he : i = nI k) (hk : k < n) (hn : n ≤ 100000) (hq : pc + 1 = q) (kk : am_ev d z (q, L, st, am_up h a (.inl (0, n, .inl (va_up f k x)))) r h') : am_ev d z (pc, L, .int x :: .int i :: .ref a :: st, h) r h' := by
  subst he
  refine ev_iast hf hi ⟨nI_pos (by omega), by rw [nI_clamp (by omega)]; exact hk⟩ hq ?_
  rw [nI_clamp (by omega)]
  exact kk
theorem ev_zastn {len aux a n k : Nat} {f : Nat → Int32} {i x : Int32} (hf : am_fetch z pc = some (.bastore, len, aux)) (hi : am_is h a (.inl (1, n, .inl f))) (he : i = nI k) (hk : k < n) (hn : n ≤ 100000) (hq : pc + 1 = q) (kk : am_ev d z (q, L, st, am_up h a (.inl (1, n, .inl (va_up f k (x &&& 1))))) r h') : am_ev d z (pc, L, .int x :: .int i :: .ref a :: st, h) r h' := by
  subst he
  refine ev_zast hf hi ⟨nI_pos (by omega), by rw [nI_clamp (by omega)]; exact hk⟩ hq ?_
  rw [nI_clamp (by omega)]
  exact kk
theorem ev_aaldn {len aux a n t k : Nat} {f : Nat → Option Nat} {i : Int32} (hf : am_fetch z pc = some (.aaload, len, aux)) (hi : am_is h a (.inl (t, n, .inr f))) (ht : 2 ≤ t ∧ t < 6) (he : i = nI k) (hk : k < n) (hn : n ≤ 100000) (hq : pc + 1 = q) (kk : am_ev d z (q, L, va_rf (f k) :: st, h) r h') : am_ev d z (pc, L, .int i :: .ref a :: st, h) r h' := by
  subst he
  refine ev_aald hf hi ht ⟨nI_pos (by omega), by rw [nI_clamp (by omega)]; exact hk⟩ hq ?_
  rw [nI_clamp (by omega)]
  exact kk
theorem ev_aastn {len aux a n t v ci k : Nat} {vs : List Value} {f : Nat → Option Nat} {i : Int32} (hf : am_fetch z pc = some (.aastore, len, aux)) (hi : am_is h a (.inl (t, n, .inr f))) (hv : am_is h v (.inr (ci, vs))) (ht : (2 ≤ t ∧ t < 6) ∧ ci = am_ac t) (he : i = nI k) (hk : k < n) (hn : n ≤ 100000) (hq : pc + 1 = q) (kk : am_ev d z (q, L, st, am_up h a (.inl (t, n, .inr (va_up f k (some v))))) r h') : am_ev d z (pc, L, .ref v :: .int i :: .ref a :: st, h) r h' := by
  subst he
  refine ev_aast hf hi hv ht ⟨nI_pos (by omega), by rw [nI_clamp (by omega)]; exact hk⟩ hq ?_
  rw [nI_clamp (by omega)]
  exact kk

theorem ev_divn {len aux a b : Nat} {x y : Int32} (hf : am_fetch z pc = some (.idiv, len, aux)) (hx : x = nI a) (hy : y = nI b) (h0 : 0 < b) (ha : a < 2 ^ 31) (hb : b < 2 ^ 31) (hq : pc + 1 = q) (k : am_ev d z (q, L, .int (nI (a / b)) :: st, h) r h') : am_ev d z (pc, L, .int y :: .int x :: st, h) r h' := by
  subst hx; subst hy
  refine ev_div hf (nI_ne0 h0 hb) hq ?_
  rw [pk_div ha h0 hb]
  exact k
theorem ev_remn {len aux a b : Nat} {x y : Int32} (hf : am_fetch z pc = some (.irem, len, aux)) (hx : x = nI a) (hy : y = nI b) (h0 : 0 < b) (ha : a < 2 ^ 31) (hb : b < 2 ^ 31) (hq : pc + 1 = q) (k : am_ev d z (q, L, .int (nI (a % b)) :: st, h) r h') : am_ev d z (pc, L, .int y :: .int x :: st, h) r h' := by
  subst hx; subst hy
  refine ev_rem hf (nI_ne0 h0 hb) hq ?_
  rw [pk_rem ha h0 hb]
  exact k
end EV
