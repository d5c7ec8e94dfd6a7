/-! each instruction of the small machine is the machine's -/
def am_Ctx (p : Program) (s : State) (m : MethodId) (args : Array Value) (meth : Method) (c : Code) (D : va_G) (cA : Nat → ClassId) (tS : Nat → Nat) (base z : Nat) : Prop :=
  p.tables.exec = Jvm.exec ∧ c.code = (am_info z).2.1 ∧ c.maxLocals = (am_meth z).2.2.1 ∧ meth.sig.returnType = (am_info z).2.2.1 ∧ s.vm.findClass (am_info z).1.cls = some m.cls ∧ (∀ w ∈ am_good, w.before args s = true) ∧ meth.locks = false ∧ meth.name = (am_info z).1.name ∧ am_X D cA tS base s ∧ z < am_count
def am_Sit (D : va_G) (cA : Nat → ClassId) (tS : Nat → Nat) (base : Nat) (s : State) (g : am_G) (H : Heap) (locs : List Loc) (ls : Array Slot) (nL : Nat) : Prop :=
  am_R D cA tS base g.2.2.2 H ∧ (∀ q : Nat, q < base → H[q]? = s.heap[q]?) ∧ (∀ x ∈ locs, base ≤ x.base) ∧ am_L base tS g.2.1 ls nL
def am_At (p : Program) (l : Launch) (e : Env) (R : Room) (s : State) (m : MethodId) (args : Array Value) (below : List Frame) (meth : Method) (c : Code) (D : va_G) (cA : Nat → ClassId) (tS : Nat → Nat) (base z : Nat) (Q : State → Prop) (n0 s0 : Nat) (g : am_G) : Prop :=
  ∀ (H : Heap) (locs : List Loc) (ls : Array Slot), am_Sit D cA tS base s g H locs ls (am_meth z).2.2.1 → W p l e R s m args below meth c H locs (g.2.2.2.1 - n0) (g.2.2.2.2.1 - s0) Q (F0 m g.1 ls (g.2.2.1.map (am_v base tS)))
section AMS
variable {p : Program} {l : Launch} {e : Env} {R : Room} {s : State} {m : MethodId} {args : Array Value} {below : List Frame} {meth : Method} {c : Code} {D : va_G} {cA : Nat → ClassId} {tS : Nat → Nat} {base z d n0 s0 : Nat} {Q : State → Prop}
theorem am_At.pc {a b : Nat} {r : List (Option Value) × List Value × am_H} (k : am_At p l e R s m args below meth c D cA tS base z Q n0 s0 (a, r)) (he : a = b) : am_At p l e R s m args below meth c D cA tS base z Q n0 s0 (b, r) := he ▸ k
theorem am_tgt_eq {pc : Nat} {off : Int} (h : 0 ≤ (pc : Int) + off) : (pc : Int) + off = (am_tgt pc off : Int) := (Int.toNat_of_nonneg h).symm
theorem am_tok_eq {pc : Nat} {off : Int} (h : am_tok pc off = true) : (pc : Int) + off = (am_tgt pc off : Int) := am_tgt_eq (of_decide_eq_true h)
theorem am_k_aconst_null (C : am_Ctx p s m args meth c D cA tS base z) {len aux pc : Nat} {L : List (Option Value)} {st : List Value} {h : am_H} {g : am_G} (hf : am_fetch z pc = some (.aconst_null, len, aux)) (hs : am_step d (.aconst_null) aux pc L st h = some g) (hd : R.frames = d ∧ 64 * d ≤ R.locals) (h0 : n0 ≤ h.1 ∧ s0 ≤ h.2.1) (hr : g.2.2.2.1 - n0 ≤ R.cells ∧ g.2.2.2.2.1 - s0 ≤ R.slots) (k : am_At p l e R s m args below meth c D cA tS base z Q n0 s0 g) : am_At p l e R s m args below meth c D cA tS base z Q n0 s0 (pc, L, st, h) := by
  obtain ⟨hx, hb, hml, hrt, hown, hts, hlk, hnm, hX, hz⟩ := C
  obtain ⟨hdc, hln, hres⟩ := am_chkz hz hf
  have hlen : len = 1 := by
    rcases hln with q | q
    · exact absurd (show (1 : Nat) = 0 from q) (by decide)
    · exact (show (1 : Nat) = len from q).symm
  subst hlen
  have hdc : decode (am_info z).2.1 pc = .ok (.aconst_null, 1) := hdc
  cases hs
  intro H locs ls hS
  exact lv_null hx hb hdc (k H locs ls hS)
theorem am_k_iconst (C : am_Ctx p s m args meth c D cA tS base z) {n : Int} {len aux pc : Nat} {L : List (Option Value)} {st : List Value} {h : am_H} {g : am_G} (hf : am_fetch z pc = some (.iconst n, len, aux)) (hs : am_step d (.iconst n) aux pc L st h = some g) (hd : R.frames = d ∧ 64 * d ≤ R.locals) (h0 : n0 ≤ h.1 ∧ s0 ≤ h.2.1) (hr : g.2.2.2.1 - n0 ≤ R.cells ∧ g.2.2.2.2.1 - s0 ≤ R.slots) (k : am_At p l e R s m args below meth c D cA tS base z Q n0 s0 g) : am_At p l e R s m args below meth c D cA tS base z Q n0 s0 (pc, L, st, h) := by
  obtain ⟨hx, hb, hml, hrt, hown, hts, hlk, hnm, hX, hz⟩ := C
  obtain ⟨hdc, hln, hres⟩ := am_chkz hz hf
  have hlen : len = 1 := by
    rcases hln with q | q
    · exact absurd (show (1 : Nat) = 0 from q) (by decide)
    · exact (show (1 : Nat) = len from q).symm
  subst hlen
  have hdc : decode (am_info z).2.1 pc = .ok (.iconst n, 1) := hdc
  cases hs
  intro H locs ls hS
  exact lv_iconst hx hb hdc rfl (k H locs ls hS)
theorem am_k_bipush (C : am_Ctx p s m args meth c D cA tS base z) {n : Int} {len aux pc : Nat} {L : List (Option Value)} {st : List Value} {h : am_H} {g : am_G} (hf : am_fetch z pc = some (.bipush n, len, aux)) (hs : am_step d (.bipush n) aux pc L st h = some g) (hd : R.frames = d ∧ 64 * d ≤ R.locals) (h0 : n0 ≤ h.1 ∧ s0 ≤ h.2.1) (hr : g.2.2.2.1 - n0 ≤ R.cells ∧ g.2.2.2.2.1 - s0 ≤ R.slots) (k : am_At p l e R s m args below meth c D cA tS base z Q n0 s0 g) : am_At p l e R s m args below meth c D cA tS base z Q n0 s0 (pc, L, st, h) := by
  obtain ⟨hx, hb, hml, hrt, hown, hts, hlk, hnm, hX, hz⟩ := C
  obtain ⟨hdc, hln, hres⟩ := am_chkz hz hf
  have hlen : len = 2 := by
    rcases hln with q | q
    · exact absurd (show (2 : Nat) = 0 from q) (by decide)
    · exact (show (2 : Nat) = len from q).symm
  subst hlen
  have hdc : decode (am_info z).2.1 pc = .ok (.bipush n, 2) := hdc
  cases hs
  intro H locs ls hS
  exact lv_bipush hx hb hdc rfl (k H locs ls hS)
theorem am_k_sipush (C : am_Ctx p s m args meth c D cA tS base z) {n : Int} {len aux pc : Nat} {L : List (Option Value)} {st : List Value} {h : am_H} {g : am_G} (hf : am_fetch z pc = some (.sipush n, len, aux)) (hs : am_step d (.sipush n) aux pc L st h = some g) (hd : R.frames = d ∧ 64 * d ≤ R.locals) (h0 : n0 ≤ h.1 ∧ s0 ≤ h.2.1) (hr : g.2.2.2.1 - n0 ≤ R.cells ∧ g.2.2.2.2.1 - s0 ≤ R.slots) (k : am_At p l e R s m args below meth c D cA tS base z Q n0 s0 g) : am_At p l e R s m args below meth c D cA tS base z Q n0 s0 (pc, L, st, h) := by
  obtain ⟨hx, hb, hml, hrt, hown, hts, hlk, hnm, hX, hz⟩ := C
  obtain ⟨hdc, hln, hres⟩ := am_chkz hz hf
  have hlen : len = 3 := by
    rcases hln with q | q
    · exact absurd (show (3 : Nat) = 0 from q) (by decide)
    · exact (show (3 : Nat) = len from q).symm
  subst hlen
  have hdc : decode (am_info z).2.1 pc = .ok (.sipush n, 3) := hdc
  cases hs
  intro H locs ls hS
  exact lv_sipush hx hb hdc rfl (k H locs ls hS)
theorem am_k_lconst (C : am_Ctx p s m args meth c D cA tS base z) {n : Fin 2} {len aux pc : Nat} {L : List (Option Value)} {st : List Value} {h : am_H} {g : am_G} (hf : am_fetch z pc = some (.lconst n, len, aux)) (hs : am_step d (.lconst n) aux pc L st h = some g) (hd : R.frames = d ∧ 64 * d ≤ R.locals) (h0 : n0 ≤ h.1 ∧ s0 ≤ h.2.1) (hr : g.2.2.2.1 - n0 ≤ R.cells ∧ g.2.2.2.2.1 - s0 ≤ R.slots) (k : am_At p l e R s m args below meth c D cA tS base z Q n0 s0 g) : am_At p l e R s m args below meth c D cA tS base z Q n0 s0 (pc, L, st, h) := by
  obtain ⟨hx, hb, hml, hrt, hown, hts, hlk, hnm, hX, hz⟩ := C
  obtain ⟨hdc, hln, hres⟩ := am_chkz hz hf
  have hlen : len = 1 := by
    rcases hln with q | q
    · exact absurd (show (1 : Nat) = 0 from q) (by decide)
    · exact (show (1 : Nat) = len from q).symm
  subst hlen
  have hdc : decode (am_info z).2.1 pc = .ok (.lconst n, 1) := hdc
  cases hs
  intro H locs ls hS
  exact lv_lconst hx hb hdc rfl (k H locs ls hS)
theorem am_k_ldc2_w (C : am_Ctx p s m args meth c D cA tS base z) {n : Nat} {len aux pc : Nat} {L : List (Option Value)} {st : List Value} {h : am_H} {g : am_G} (hf : am_fetch z pc = some (.ldc2_w n, len, aux)) (hs : am_step d (.ldc2_w n) aux pc L st h = some g) (hd : R.frames = d ∧ 64 * d ≤ R.locals) (h0 : n0 ≤ h.1 ∧ s0 ≤ h.2.1) (hr : g.2.2.2.1 - n0 ≤ R.cells ∧ g.2.2.2.2.1 - s0 ≤ R.slots) (k : am_At p l e R s m args below meth c D cA tS base z Q n0 s0 g) : am_At p l e R s m args below meth c D cA tS base z Q n0 s0 (pc, L, st, h) := by
  obtain ⟨hx, hb, hml, hrt, hown, hts, hlk, hnm, hX, hz⟩ := C
  obtain ⟨hdc, hln, hres⟩ := am_chkz hz hf
  have hlen : len = 3 := by
    rcases hln with q | q
    · exact absurd (show (3 : Nat) = 0 from q) (by decide)
    · exact (show (3 : Nat) = len from q).symm
  subst hlen
  have hdc : decode (am_info z).2.1 pc = .ok (.ldc2_w n, 3) := hdc
  cases hs
  intro H locs ls hS
  exact lv_ldc2 hx hb hown (hts _ (am_in (show am_w (aux % 10000) _ = true from hres) rfl)) hdc (k H locs ls hS)
theorem am_k_iload (C : am_Ctx p s m args meth c D cA tS base z) {n : Nat} {len aux pc : Nat} {L : List (Option Value)} {st : List Value} {h : am_H} {g : am_G} (hf : am_fetch z pc = some (.iload n, len, aux)) (hs : am_step d (.iload n) aux pc L st h = some g) (hd : R.frames = d ∧ 64 * d ≤ R.locals) (h0 : n0 ≤ h.1 ∧ s0 ≤ h.2.1) (hr : g.2.2.2.1 - n0 ≤ R.cells ∧ g.2.2.2.2.1 - s0 ≤ R.slots) (k : am_At p l e R s m args below meth c D cA tS base z Q n0 s0 g) : am_At p l e R s m args below meth c D cA tS base z Q n0 s0 (pc, L, st, h) := by
  obtain ⟨hx, hb, hml, hrt, hown, hts, hlk, hnm, hX, hz⟩ := C
  obtain ⟨hdc, hln, hres⟩ := am_chkz hz hf
  have hlen : len = 2 := by
    rcases hln with q | q
    · exact absurd (show (2 : Nat) = 0 from q) (by decide)
    · exact (show (2 : Nat) = len from q).symm
  subst hlen
  have hdc : decode (am_info z).2.1 pc = .ok (.iload n, 2) := hdc
  have hs : am_ld (pc + 2) L n st h = some g := hs
  unfold am_ld at hs
  split at hs
  · rename_i heq
    cases hs
    intro H locs ls hS
    exact lv_iload hx hb hdc (hS.2.2.2.2.2.2 _ _ heq) (k H locs ls hS)
  · cases hs
theorem am_k_iload_n (C : am_Ctx p s m args meth c D cA tS base z) {n : Fin 4} {len aux pc : Nat} {L : List (Option Value)} {st : List Value} {h : am_H} {g : am_G} (hf : am_fetch z pc = some (.iload_n n, len, aux)) (hs : am_step d (.iload_n n) aux pc L st h = some g) (hd : R.frames = d ∧ 64 * d ≤ R.locals) (h0 : n0 ≤ h.1 ∧ s0 ≤ h.2.1) (hr : g.2.2.2.1 - n0 ≤ R.cells ∧ g.2.2.2.2.1 - s0 ≤ R.slots) (k : am_At p l e R s m args below meth c D cA tS base z Q n0 s0 g) : am_At p l e R s m args below meth c D cA tS base z Q n0 s0 (pc, L, st, h) := by
  obtain ⟨hx, hb, hml, hrt, hown, hts, hlk, hnm, hX, hz⟩ := C
  obtain ⟨hdc, hln, hres⟩ := am_chkz hz hf
  have hlen : len = 1 := by
    rcases hln with q | q
    · exact absurd (show (1 : Nat) = 0 from q) (by decide)
    · exact (show (1 : Nat) = len from q).symm
  subst hlen
  have hdc : decode (am_info z).2.1 pc = .ok (.iload_n n, 1) := hdc
  have hs : am_ld (pc + 1) L n st h = some g := hs
  unfold am_ld at hs
  split at hs
  · rename_i heq
    cases hs
    intro H locs ls hS
    exact lv_iload_n hx hb hdc rfl (hS.2.2.2.2.2.2 _ _ heq) (k H locs ls hS)
  · cases hs
theorem am_k_lload (C : am_Ctx p s m args meth c D cA tS base z) {n : Nat} {len aux pc : Nat} {L : List (Option Value)} {st : List Value} {h : am_H} {g : am_G} (hf : am_fetch z pc = some (.lload n, len, aux)) (hs : am_step d (.lload n) aux pc L st h = some g) (hd : R.frames = d ∧ 64 * d ≤ R.locals) (h0 : n0 ≤ h.1 ∧ s0 ≤ h.2.1) (hr : g.2.2.2.1 - n0 ≤ R.cells ∧ g.2.2.2.2.1 - s0 ≤ R.slots) (k : am_At p l e R s m args below meth c D cA tS base z Q n0 s0 g) : am_At p l e R s m args below meth c D cA tS base z Q n0 s0 (pc, L, st, h) := by
  obtain ⟨hx, hb, hml, hrt, hown, hts, hlk, hnm, hX, hz⟩ := C
  obtain ⟨hdc, hln, hres⟩ := am_chkz hz hf
  have hlen : len = 2 := by
    rcases hln with q | q
    · exact absurd (show (2 : Nat) = 0 from q) (by decide)
    · exact (show (2 : Nat) = len from q).symm
  subst hlen
  have hdc : decode (am_info z).2.1 pc = .ok (.lload n, 2) := hdc
  have hs : am_ldl (pc + 2) L n st h = some g := hs
  unfold am_ldl at hs
  split at hs
  · rename_i heq
    cases hs
    intro H locs ls hS
    exact lv_lload hx hb hdc (hS.2.2.2.2.2.2 _ _ heq) (k H locs ls hS)
  · cases hs
theorem am_k_lload_n (C : am_Ctx p s m args meth c D cA tS base z) {n : Fin 4} {len aux pc : Nat} {L : List (Option Value)} {st : List Value} {h : am_H} {g : am_G} (hf : am_fetch z pc = some (.lload_n n, len, aux)) (hs : am_step d (.lload_n n) aux pc L st h = some g) (hd : R.frames = d ∧ 64 * d ≤ R.locals) (h0 : n0 ≤ h.1 ∧ s0 ≤ h.2.1) (hr : g.2.2.2.1 - n0 ≤ R.cells ∧ g.2.2.2.2.1 - s0 ≤ R.slots) (k : am_At p l e R s m args below meth c D cA tS base z Q n0 s0 g) : am_At p l e R s m args below meth c D cA tS base z Q n0 s0 (pc, L, st, h) := by
  obtain ⟨hx, hb, hml, hrt, hown, hts, hlk, hnm, hX, hz⟩ := C
  obtain ⟨hdc, hln, hres⟩ := am_chkz hz hf
  have hlen : len = 1 := by
    rcases hln with q | q
    · exact absurd (show (1 : Nat) = 0 from q) (by decide)
    · exact (show (1 : Nat) = len from q).symm
  subst hlen
  have hdc : decode (am_info z).2.1 pc = .ok (.lload_n n, 1) := hdc
  have hs : am_ldl (pc + 1) L n st h = some g := hs
  unfold am_ldl at hs
  split at hs
  · rename_i heq
    cases hs
    intro H locs ls hS
    exact lv_lload_n hx hb hdc rfl (hS.2.2.2.2.2.2 _ _ heq) (k H locs ls hS)
  · cases hs
theorem am_k_aload (C : am_Ctx p s m args meth c D cA tS base z) {n : Nat} {len aux pc : Nat} {L : List (Option Value)} {st : List Value} {h : am_H} {g : am_G} (hf : am_fetch z pc = some (.aload n, len, aux)) (hs : am_step d (.aload n) aux pc L st h = some g) (hd : R.frames = d ∧ 64 * d ≤ R.locals) (h0 : n0 ≤ h.1 ∧ s0 ≤ h.2.1) (hr : g.2.2.2.1 - n0 ≤ R.cells ∧ g.2.2.2.2.1 - s0 ≤ R.slots) (k : am_At p l e R s m args below meth c D cA tS base z Q n0 s0 g) : am_At p l e R s m args below meth c D cA tS base z Q n0 s0 (pc, L, st, h) := by
  obtain ⟨hx, hb, hml, hrt, hown, hts, hlk, hnm, hX, hz⟩ := C
  obtain ⟨hdc, hln, hres⟩ := am_chkz hz hf
  have hlen : len = 2 := by
    rcases hln with q | q
    · exact absurd (show (2 : Nat) = 0 from q) (by decide)
    · exact (show (2 : Nat) = len from q).symm
  subst hlen
  have hdc : decode (am_info z).2.1 pc = .ok (.aload n, 2) := hdc
  have hs : am_lda (pc + 2) L n st h = some g := hs
  unfold am_lda at hs
  split at hs
  · rename_i heq
    cases hs
    intro H locs ls hS
    exact lv_aload hx hb hdc (hS.2.2.2.2.2.2 _ _ heq) (k H locs ls hS)
  · rename_i heq
    cases hs
    intro H locs ls hS
    exact lv_aloadN hx hb hdc (hS.2.2.2.2.2.2 _ _ heq) (k H locs ls hS)
  · cases hs
theorem am_k_aload_n (C : am_Ctx p s m args meth c D cA tS base z) {n : Fin 4} {len aux pc : Nat} {L : List (Option Value)} {st : List Value} {h : am_H} {g : am_G} (hf : am_fetch z pc = some (.aload_n n, len, aux)) (hs : am_step d (.aload_n n) aux pc L st h = some g) (hd : R.frames = d ∧ 64 * d ≤ R.locals) (h0 : n0 ≤ h.1 ∧ s0 ≤ h.2.1) (hr : g.2.2.2.1 - n0 ≤ R.cells ∧ g.2.2.2.2.1 - s0 ≤ R.slots) (k : am_At p l e R s m args below meth c D cA tS base z Q n0 s0 g) : am_At p l e R s m args below meth c D cA tS base z Q n0 s0 (pc, L, st, h) := by
  obtain ⟨hx, hb, hml, hrt, hown, hts, hlk, hnm, hX, hz⟩ := C
  obtain ⟨hdc, hln, hres⟩ := am_chkz hz hf
  have hlen : len = 1 := by
    rcases hln with q | q
    · exact absurd (show (1 : Nat) = 0 from q) (by decide)
    · exact (show (1 : Nat) = len from q).symm
  subst hlen
  have hdc : decode (am_info z).2.1 pc = .ok (.aload_n n, 1) := hdc
  have hs : am_lda (pc + 1) L n st h = some g := hs
  unfold am_lda at hs
  split at hs
  · rename_i heq
    cases hs
    intro H locs ls hS
    exact lv_aload_n hx hb hdc rfl (hS.2.2.2.2.2.2 _ _ heq) (k H locs ls hS)
  · rename_i heq
    cases hs
    intro H locs ls hS
    exact lv_aload_nN hx hb hdc rfl (hS.2.2.2.2.2.2 _ _ heq) (k H locs ls hS)
  · cases hs
theorem am_k_istore (C : am_Ctx p s m args meth c D cA tS base z) {n : Nat} {len aux pc : Nat} {L : List (Option Value)} {st : List Value} {h : am_H} {g : am_G} (hf : am_fetch z pc = some (.istore n, len, aux)) (hs : am_step d (.istore n) aux pc L st h = some g) (hd : R.frames = d ∧ 64 * d ≤ R.locals) (h0 : n0 ≤ h.1 ∧ s0 ≤ h.2.1) (hr : g.2.2.2.1 - n0 ≤ R.cells ∧ g.2.2.2.2.1 - s0 ≤ R.slots) (k : am_At p l e R s m args below meth c D cA tS base z Q n0 s0 g) : am_At p l e R s m args below meth c D cA tS base z Q n0 s0 (pc, L, st, h) := by
  obtain ⟨hx, hb, hml, hrt, hown, hts, hlk, hnm, hX, hz⟩ := C
  obtain ⟨hdc, hln, hres⟩ := am_chkz hz hf
  have hlen : len = 2 := by
    rcases hln with q | q
    · exact absurd (show (2 : Nat) = 0 from q) (by decide)
    · exact (show (2 : Nat) = len from q).symm
  subst hlen
  have hdc : decode (am_info z).2.1 pc = .ok (.istore n, 2) := hdc
  have hs : am_sti (pc + 2) L n st h = some g := hs
  unfold am_sti at hs
  split at hs
  · cases hq : (Nat.blt n L.length && am_ok1 L n) with
    | false => rw [hq] at hs; cases hs
    | true =>
      rw [hq] at hs
      cases hs
      simp only [Bool.and_eq_true, Nat.blt_eq] at hq
      intro H locs ls hS
      exact lv_istore hx hb hdc hS.2.2.2.has (by rw [← hS.2.2.2.1]; exact hq.1) rfl (fun ls' h' => k H locs ls' ⟨hS.1, hS.2.1, hS.2.2.1, hS.2.2.2.st1 hq.1 hq.2 h'⟩)
  · cases hs
theorem am_k_astore (C : am_Ctx p s m args meth c D cA tS base z) {n : Nat} {len aux pc : Nat} {L : List (Option Value)} {st : List Value} {h : am_H} {g : am_G} (hf : am_fetch z pc = some (.astore n, len, aux)) (hs : am_step d (.astore n) aux pc L st h = some g) (hd : R.frames = d ∧ 64 * d ≤ R.locals) (h0 : n0 ≤ h.1 ∧ s0 ≤ h.2.1) (hr : g.2.2.2.1 - n0 ≤ R.cells ∧ g.2.2.2.2.1 - s0 ≤ R.slots) (k : am_At p l e R s m args below meth c D cA tS base z Q n0 s0 g) : am_At p l e R s m args below meth c D cA tS base z Q n0 s0 (pc, L, st, h) := by
  obtain ⟨hx, hb, hml, hrt, hown, hts, hlk, hnm, hX, hz⟩ := C
  obtain ⟨hdc, hln, hres⟩ := am_chkz hz hf
  have hlen : len = 2 := by
    rcases hln with q | q
    · exact absurd (show (2 : Nat) = 0 from q) (by decide)
    · exact (show (2 : Nat) = len from q).symm
  subst hlen
  have hdc : decode (am_info z).2.1 pc = .ok (.astore n, 2) := hdc
  have hs : am_sta (pc + 2) L n st h = some g := hs
  unfold am_sta at hs
  split at hs
  · cases hq : (Nat.blt n L.length && am_ok1 L n) with
    | false => rw [hq] at hs; cases hs
    | true =>
      rw [hq] at hs
      cases hs
      simp only [Bool.and_eq_true, Nat.blt_eq] at hq
      intro H locs ls hS
      exact lv_astore hx hb hdc hS.2.2.2.has (by rw [← hS.2.2.2.1]; exact hq.1) rfl (fun ls' h' => k H locs ls' ⟨hS.1, hS.2.1, hS.2.2.1, hS.2.2.2.st1 hq.1 hq.2 h'⟩)
  · cases hq : (Nat.blt n L.length && am_ok1 L n) with
    | false => rw [hq] at hs; cases hs
    | true =>
      rw [hq] at hs
      cases hs
      simp only [Bool.and_eq_true, Nat.blt_eq] at hq
      intro H locs ls hS
      exact lv_astoreN hx hb hdc hS.2.2.2.has (by rw [← hS.2.2.2.1]; exact hq.1) rfl (fun ls' h' => k H locs ls' ⟨hS.1, hS.2.1, hS.2.2.1, hS.2.2.2.st1 hq.1 hq.2 h'⟩)
  · cases hs
theorem am_k_lstore (C : am_Ctx p s m args meth c D cA tS base z) {n : Nat} {len aux pc : Nat} {L : List (Option Value)} {st : List Value} {h : am_H} {g : am_G} (hf : am_fetch z pc = some (.lstore n, len, aux)) (hs : am_step d (.lstore n) aux pc L st h = some g) (hd : R.frames = d ∧ 64 * d ≤ R.locals) (h0 : n0 ≤ h.1 ∧ s0 ≤ h.2.1) (hr : g.2.2.2.1 - n0 ≤ R.cells ∧ g.2.2.2.2.1 - s0 ≤ R.slots) (k : am_At p l e R s m args below meth c D cA tS base z Q n0 s0 g) : am_At p l e R s m args below meth c D cA tS base z Q n0 s0 (pc, L, st, h) := by
  obtain ⟨hx, hb, hml, hrt, hown, hts, hlk, hnm, hX, hz⟩ := C
  obtain ⟨hdc, hln, hres⟩ := am_chkz hz hf
  have hlen : len = 2 := by
    rcases hln with q | q
    · exact absurd (show (2 : Nat) = 0 from q) (by decide)
    · exact (show (2 : Nat) = len from q).symm
  subst hlen
  have hdc : decode (am_info z).2.1 pc = .ok (.lstore n, 2) := hdc
  have hs : am_stl (pc + 2) L n st h = some g := hs
  unfold am_stl at hs
  split at hs
  · cases hq : (Nat.blt (n + 1) L.length && am_ok1 L n) with
    | false => rw [hq] at hs; cases hs
    | true =>
      rw [hq] at hs
      cases hs
      simp only [Bool.and_eq_true, Nat.blt_eq] at hq
      intro H locs ls hS
      exact lv_lstore hx hb hdc hS.2.2.2.has (by rw [← hS.2.2.2.1]; exact hq.1) rfl (fun ls' h' => k H locs ls' ⟨hS.1, hS.2.1, hS.2.2.1, hS.2.2.2.st2 hq.1 hq.2 h'⟩)
  · cases hs
theorem am_k_istore_n (C : am_Ctx p s m args meth c D cA tS base z) {n : Fin 4} {len aux pc : Nat} {L : List (Option Value)} {st : List Value} {h : am_H} {g : am_G} (hf : am_fetch z pc = some (.istore_n n, len, aux)) (hs : am_step d (.istore_n n) aux pc L st h = some g) (hd : R.frames = d ∧ 64 * d ≤ R.locals) (h0 : n0 ≤ h.1 ∧ s0 ≤ h.2.1) (hr : g.2.2.2.1 - n0 ≤ R.cells ∧ g.2.2.2.2.1 - s0 ≤ R.slots) (k : am_At p l e R s m args below meth c D cA tS base z Q n0 s0 g) : am_At p l e R s m args below meth c D cA tS base z Q n0 s0 (pc, L, st, h) := by
  obtain ⟨hx, hb, hml, hrt, hown, hts, hlk, hnm, hX, hz⟩ := C
  obtain ⟨hdc, hln, hres⟩ := am_chkz hz hf
  have hlen : len = 1 := by
    rcases hln with q | q
    · exact absurd (show (1 : Nat) = 0 from q) (by decide)
    · exact (show (1 : Nat) = len from q).symm
  subst hlen
  have hdc : decode (am_info z).2.1 pc = .ok (.istore_n n, 1) := hdc
  have hs : am_sti (pc + 1) L n st h = some g := hs
  unfold am_sti at hs
  split at hs
  · cases hq : (Nat.blt n L.length && am_ok1 L n) with
    | false => rw [hq] at hs; cases hs
    | true =>
      rw [hq] at hs
      cases hs
      simp only [Bool.and_eq_true, Nat.blt_eq] at hq
      intro H locs ls hS
      exact lv_istore_n hx hb hdc rfl hS.2.2.2.has (by rw [← hS.2.2.2.1]; exact hq.1) rfl (fun ls' h' => k H locs ls' ⟨hS.1, hS.2.1, hS.2.2.1, hS.2.2.2.st1 hq.1 hq.2 h'⟩)
  · cases hs
theorem am_k_astore_n (C : am_Ctx p s m args meth c D cA tS base z) {n : Fin 4} {len aux pc : Nat} {L : List (Option Value)} {st : List Value} {h : am_H} {g : am_G} (hf : am_fetch z pc = some (.astore_n n, len, aux)) (hs : am_step d (.astore_n n) aux pc L st h = some g) (hd : R.frames = d ∧ 64 * d ≤ R.locals) (h0 : n0 ≤ h.1 ∧ s0 ≤ h.2.1) (hr : g.2.2.2.1 - n0 ≤ R.cells ∧ g.2.2.2.2.1 - s0 ≤ R.slots) (k : am_At p l e R s m args below meth c D cA tS base z Q n0 s0 g) : am_At p l e R s m args below meth c D cA tS base z Q n0 s0 (pc, L, st, h) := by
  obtain ⟨hx, hb, hml, hrt, hown, hts, hlk, hnm, hX, hz⟩ := C
  obtain ⟨hdc, hln, hres⟩ := am_chkz hz hf
  have hlen : len = 1 := by
    rcases hln with q | q
    · exact absurd (show (1 : Nat) = 0 from q) (by decide)
    · exact (show (1 : Nat) = len from q).symm
  subst hlen
  have hdc : decode (am_info z).2.1 pc = .ok (.astore_n n, 1) := hdc
  have hs : am_sta (pc + 1) L n st h = some g := hs
  unfold am_sta at hs
  split at hs
  · cases hq : (Nat.blt n L.length && am_ok1 L n) with
    | false => rw [hq] at hs; cases hs
    | true =>
      rw [hq] at hs
      cases hs
      simp only [Bool.and_eq_true, Nat.blt_eq] at hq
      intro H locs ls hS
      exact lv_astore_n hx hb hdc rfl hS.2.2.2.has (by rw [← hS.2.2.2.1]; exact hq.1) rfl (fun ls' h' => k H locs ls' ⟨hS.1, hS.2.1, hS.2.2.1, hS.2.2.2.st1 hq.1 hq.2 h'⟩)
  · cases hq : (Nat.blt n L.length && am_ok1 L n) with
    | false => rw [hq] at hs; cases hs
    | true =>
      rw [hq] at hs
      cases hs
      simp only [Bool.and_eq_true, Nat.blt_eq] at hq
      intro H locs ls hS
      exact lv_astore_nN hx hb hdc rfl hS.2.2.2.has (by rw [← hS.2.2.2.1]; exact hq.1) rfl (fun ls' h' => k H locs ls' ⟨hS.1, hS.2.1, hS.2.2.1, hS.2.2.2.st1 hq.1 hq.2 h'⟩)
  · cases hs
theorem am_k_lstore_n (C : am_Ctx p s m args meth c D cA tS base z) {n : Fin 4} {len aux pc : Nat} {L : List (Option Value)} {st : List Value} {h : am_H} {g : am_G} (hf : am_fetch z pc = some (.lstore_n n, len, aux)) (hs : am_step d (.lstore_n n) aux pc L st h = some g) (hd : R.frames = d ∧ 64 * d ≤ R.locals) (h0 : n0 ≤ h.1 ∧ s0 ≤ h.2.1) (hr : g.2.2.2.1 - n0 ≤ R.cells ∧ g.2.2.2.2.1 - s0 ≤ R.slots) (k : am_At p l e R s m args below meth c D cA tS base z Q n0 s0 g) : am_At p l e R s m args below meth c D cA tS base z Q n0 s0 (pc, L, st, h) := by
  obtain ⟨hx, hb, hml, hrt, hown, hts, hlk, hnm, hX, hz⟩ := C
  obtain ⟨hdc, hln, hres⟩ := am_chkz hz hf
  have hlen : len = 1 := by
    rcases hln with q | q
    · exact absurd (show (1 : Nat) = 0 from q) (by decide)
    · exact (show (1 : Nat) = len from q).symm
  subst hlen
  have hdc : decode (am_info z).2.1 pc = .ok (.lstore_n n, 1) := hdc
  have hs : am_stl (pc + 1) L n st h = some g := hs
  unfold am_stl at hs
  split at hs
  · cases hq : (Nat.blt (n + 1) L.length && am_ok1 L n) with
    | false => rw [hq] at hs; cases hs
    | true =>
      rw [hq] at hs
      cases hs
      simp only [Bool.and_eq_true, Nat.blt_eq] at hq
      intro H locs ls hS
      exact lv_lstore_n hx hb hdc rfl hS.2.2.2.has (by rw [← hS.2.2.2.1]; exact hq.1) rfl (fun ls' h' => k H locs ls' ⟨hS.1, hS.2.1, hS.2.2.1, hS.2.2.2.st2 hq.1 hq.2 h'⟩)
  · cases hs
theorem am_k_iinc (C : am_Ctx p s m args meth c D cA tS base z) {n : Nat} {v : Int} {len aux pc : Nat} {L : List (Option Value)} {st : List Value} {h : am_H} {g : am_G} (hf : am_fetch z pc = some (.iinc n v, len, aux)) (hs : am_step d (.iinc n v) aux pc L st h = some g) (hd : R.frames = d ∧ 64 * d ≤ R.locals) (h0 : n0 ≤ h.1 ∧ s0 ≤ h.2.1) (hr : g.2.2.2.1 - n0 ≤ R.cells ∧ g.2.2.2.2.1 - s0 ≤ R.slots) (k : am_At p l e R s m args below meth c D cA tS base z Q n0 s0 g) : am_At p l e R s m args below meth c D cA tS base z Q n0 s0 (pc, L, st, h) := by
  obtain ⟨hx, hb, hml, hrt, hown, hts, hlk, hnm, hX, hz⟩ := C
  obtain ⟨hdc, hln, hres⟩ := am_chkz hz hf
  have hlen : len = 3 := by
    rcases hln with q | q
    · exact absurd (show (3 : Nat) = 0 from q) (by decide)
    · exact (show (3 : Nat) = len from q).symm
  subst hlen
  have hdc : decode (am_info z).2.1 pc = .ok (.iinc n v, 3) := hdc
  unfold am_step at hs
  dsimp only at hs
  split at hs
  · rename_i x heq
    cases hq : am_ok1 L n with
    | false => rw [hq] at hs; cases hs
    | true =>
      rw [hq] at hs
      cases hs
      intro H locs ls hS
      have hlt : n < L.length := (List.getElem?_eq_some_iff.mp heq).1
      obtain ⟨j, hj⟩ := List.getElem?_of_mem (am_as_in (base := base) (tS := tS) heq)
      exact lv_iinc hx hb hdc hS.2.2.2.has hj rfl (by rw [← hS.2.2.2.1]; exact hlt) rfl (fun ls' h' => k H locs ls' ⟨hS.1, hS.2.1, hS.2.2.1, hS.2.2.2.st1 (v := .int (x + Int32.ofInt v)) hlt hq h'⟩)
  · cases hs
theorem am_k_iadd (C : am_Ctx p s m args meth c D cA tS base z) {len aux pc : Nat} {L : List (Option Value)} {st : List Value} {h : am_H} {g : am_G} (hf : am_fetch z pc = some (.iadd, len, aux)) (hs : am_step d (.iadd) aux pc L st h = some g) (hd : R.frames = d ∧ 64 * d ≤ R.locals) (h0 : n0 ≤ h.1 ∧ s0 ≤ h.2.1) (hr : g.2.2.2.1 - n0 ≤ R.cells ∧ g.2.2.2.2.1 - s0 ≤ R.slots) (k : am_At p l e R s m args below meth c D cA tS base z Q n0 s0 g) : am_At p l e R s m args below meth c D cA tS base z Q n0 s0 (pc, L, st, h) := by
  obtain ⟨hx, hb, hml, hrt, hown, hts, hlk, hnm, hX, hz⟩ := C
  obtain ⟨hdc, hln, hres⟩ := am_chkz hz hf
  have hlen : len = 1 := by
    rcases hln with q | q
    · exact absurd (show (1 : Nat) = 0 from q) (by decide)
    · exact (show (1 : Nat) = len from q).symm
  subst hlen
  have hdc : decode (am_info z).2.1 pc = .ok (.iadd, 1) := hdc
  unfold am_step at hs
  dsimp only at hs
  split at hs
  · cases hs
    intro H locs ls hS
    exact lv_iadd hx hb hdc (k H locs ls hS)
  · cases hs
theorem am_k_isub (C : am_Ctx p s m args meth c D cA tS base z) {len aux pc : Nat} {L : List (Option Value)} {st : List Value} {h : am_H} {g : am_G} (hf : am_fetch z pc = some (.isub, len, aux)) (hs : am_step d (.isub) aux pc L st h = some g) (hd : R.frames = d ∧ 64 * d ≤ R.locals) (h0 : n0 ≤ h.1 ∧ s0 ≤ h.2.1) (hr : g.2.2.2.1 - n0 ≤ R.cells ∧ g.2.2.2.2.1 - s0 ≤ R.slots) (k : am_At p l e R s m args below meth c D cA tS base z Q n0 s0 g) : am_At p l e R s m args below meth c D cA tS base z Q n0 s0 (pc, L, st, h) := by
  obtain ⟨hx, hb, hml, hrt, hown, hts, hlk, hnm, hX, hz⟩ := C
  obtain ⟨hdc, hln, hres⟩ := am_chkz hz hf
  have hlen : len = 1 := by
    rcases hln with q | q
    · exact absurd (show (1 : Nat) = 0 from q) (by decide)
    · exact (show (1 : Nat) = len from q).symm
  subst hlen
  have hdc : decode (am_info z).2.1 pc = .ok (.isub, 1) := hdc
  unfold am_step at hs
  dsimp only at hs
  split at hs
  · cases hs
    intro H locs ls hS
    exact lv_isub hx hb hdc (k H locs ls hS)
  · cases hs
theorem am_k_imul (C : am_Ctx p s m args meth c D cA tS base z) {len aux pc : Nat} {L : List (Option Value)} {st : List Value} {h : am_H} {g : am_G} (hf : am_fetch z pc = some (.imul, len, aux)) (hs : am_step d (.imul) aux pc L st h = some g) (hd : R.frames = d ∧ 64 * d ≤ R.locals) (h0 : n0 ≤ h.1 ∧ s0 ≤ h.2.1) (hr : g.2.2.2.1 - n0 ≤ R.cells ∧ g.2.2.2.2.1 - s0 ≤ R.slots) (k : am_At p l e R s m args below meth c D cA tS base z Q n0 s0 g) : am_At p l e R s m args below meth c D cA tS base z Q n0 s0 (pc, L, st, h) := by
  obtain ⟨hx, hb, hml, hrt, hown, hts, hlk, hnm, hX, hz⟩ := C
  obtain ⟨hdc, hln, hres⟩ := am_chkz hz hf
  have hlen : len = 1 := by
    rcases hln with q | q
    · exact absurd (show (1 : Nat) = 0 from q) (by decide)
    · exact (show (1 : Nat) = len from q).symm
  subst hlen
  have hdc : decode (am_info z).2.1 pc = .ok (.imul, 1) := hdc
  unfold am_step at hs
  dsimp only at hs
  split at hs
  · cases hs
    intro H locs ls hS
    exact lv_imul hx hb hdc (k H locs ls hS)
  · cases hs
theorem am_k_iand (C : am_Ctx p s m args meth c D cA tS base z) {len aux pc : Nat} {L : List (Option Value)} {st : List Value} {h : am_H} {g : am_G} (hf : am_fetch z pc = some (.iand, len, aux)) (hs : am_step d (.iand) aux pc L st h = some g) (hd : R.frames = d ∧ 64 * d ≤ R.locals) (h0 : n0 ≤ h.1 ∧ s0 ≤ h.2.1) (hr : g.2.2.2.1 - n0 ≤ R.cells ∧ g.2.2.2.2.1 - s0 ≤ R.slots) (k : am_At p l e R s m args below meth c D cA tS base z Q n0 s0 g) : am_At p l e R s m args below meth c D cA tS base z Q n0 s0 (pc, L, st, h) := by
  obtain ⟨hx, hb, hml, hrt, hown, hts, hlk, hnm, hX, hz⟩ := C
  obtain ⟨hdc, hln, hres⟩ := am_chkz hz hf
  have hlen : len = 1 := by
    rcases hln with q | q
    · exact absurd (show (1 : Nat) = 0 from q) (by decide)
    · exact (show (1 : Nat) = len from q).symm
  subst hlen
  have hdc : decode (am_info z).2.1 pc = .ok (.iand, 1) := hdc
  unfold am_step at hs
  dsimp only at hs
  split at hs
  · cases hs
    intro H locs ls hS
    exact lv_iand hx hb hdc (k H locs ls hS)
  · cases hs
theorem am_k_ior (C : am_Ctx p s m args meth c D cA tS base z) {len aux pc : Nat} {L : List (Option Value)} {st : List Value} {h : am_H} {g : am_G} (hf : am_fetch z pc = some (.ior, len, aux)) (hs : am_step d (.ior) aux pc L st h = some g) (hd : R.frames = d ∧ 64 * d ≤ R.locals) (h0 : n0 ≤ h.1 ∧ s0 ≤ h.2.1) (hr : g.2.2.2.1 - n0 ≤ R.cells ∧ g.2.2.2.2.1 - s0 ≤ R.slots) (k : am_At p l e R s m args below meth c D cA tS base z Q n0 s0 g) : am_At p l e R s m args below meth c D cA tS base z Q n0 s0 (pc, L, st, h) := by
  obtain ⟨hx, hb, hml, hrt, hown, hts, hlk, hnm, hX, hz⟩ := C
  obtain ⟨hdc, hln, hres⟩ := am_chkz hz hf
  have hlen : len = 1 := by
    rcases hln with q | q
    · exact absurd (show (1 : Nat) = 0 from q) (by decide)
    · exact (show (1 : Nat) = len from q).symm
  subst hlen
  have hdc : decode (am_info z).2.1 pc = .ok (.ior, 1) := hdc
  unfold am_step at hs
  dsimp only at hs
  split at hs
  · cases hs
    intro H locs ls hS
    exact lv_ior hx hb hdc (k H locs ls hS)
  · cases hs
theorem am_k_ixor (C : am_Ctx p s m args meth c D cA tS base z) {len aux pc : Nat} {L : List (Option Value)} {st : List Value} {h : am_H} {g : am_G} (hf : am_fetch z pc = some (.ixor, len, aux)) (hs : am_step d (.ixor) aux pc L st h = some g) (hd : R.frames = d ∧ 64 * d ≤ R.locals) (h0 : n0 ≤ h.1 ∧ s0 ≤ h.2.1) (hr : g.2.2.2.1 - n0 ≤ R.cells ∧ g.2.2.2.2.1 - s0 ≤ R.slots) (k : am_At p l e R s m args below meth c D cA tS base z Q n0 s0 g) : am_At p l e R s m args below meth c D cA tS base z Q n0 s0 (pc, L, st, h) := by
  obtain ⟨hx, hb, hml, hrt, hown, hts, hlk, hnm, hX, hz⟩ := C
  obtain ⟨hdc, hln, hres⟩ := am_chkz hz hf
  have hlen : len = 1 := by
    rcases hln with q | q
    · exact absurd (show (1 : Nat) = 0 from q) (by decide)
    · exact (show (1 : Nat) = len from q).symm
  subst hlen
  have hdc : decode (am_info z).2.1 pc = .ok (.ixor, 1) := hdc
  unfold am_step at hs
  dsimp only at hs
  split at hs
  · cases hs
    intro H locs ls hS
    exact lv_ixor hx hb hdc (k H locs ls hS)
  · cases hs
theorem am_k_ishl (C : am_Ctx p s m args meth c D cA tS base z) {len aux pc : Nat} {L : List (Option Value)} {st : List Value} {h : am_H} {g : am_G} (hf : am_fetch z pc = some (.ishl, len, aux)) (hs : am_step d (.ishl) aux pc L st h = some g) (hd : R.frames = d ∧ 64 * d ≤ R.locals) (h0 : n0 ≤ h.1 ∧ s0 ≤ h.2.1) (hr : g.2.2.2.1 - n0 ≤ R.cells ∧ g.2.2.2.2.1 - s0 ≤ R.slots) (k : am_At p l e R s m args below meth c D cA tS base z Q n0 s0 g) : am_At p l e R s m args below meth c D cA tS base z Q n0 s0 (pc, L, st, h) := by
  obtain ⟨hx, hb, hml, hrt, hown, hts, hlk, hnm, hX, hz⟩ := C
  obtain ⟨hdc, hln, hres⟩ := am_chkz hz hf
  have hlen : len = 1 := by
    rcases hln with q | q
    · exact absurd (show (1 : Nat) = 0 from q) (by decide)
    · exact (show (1 : Nat) = len from q).symm
  subst hlen
  have hdc : decode (am_info z).2.1 pc = .ok (.ishl, 1) := hdc
  unfold am_step at hs
  dsimp only at hs
  split at hs
  · cases hs
    intro H locs ls hS
    exact lv_ishl hx hb hdc (k H locs ls hS)
  · cases hs
theorem am_k_ishr (C : am_Ctx p s m args meth c D cA tS base z) {len aux pc : Nat} {L : List (Option Value)} {st : List Value} {h : am_H} {g : am_G} (hf : am_fetch z pc = some (.ishr, len, aux)) (hs : am_step d (.ishr) aux pc L st h = some g) (hd : R.frames = d ∧ 64 * d ≤ R.locals) (h0 : n0 ≤ h.1 ∧ s0 ≤ h.2.1) (hr : g.2.2.2.1 - n0 ≤ R.cells ∧ g.2.2.2.2.1 - s0 ≤ R.slots) (k : am_At p l e R s m args below meth c D cA tS base z Q n0 s0 g) : am_At p l e R s m args below meth c D cA tS base z Q n0 s0 (pc, L, st, h) := by
  obtain ⟨hx, hb, hml, hrt, hown, hts, hlk, hnm, hX, hz⟩ := C
  obtain ⟨hdc, hln, hres⟩ := am_chkz hz hf
  have hlen : len = 1 := by
    rcases hln with q | q
    · exact absurd (show (1 : Nat) = 0 from q) (by decide)
    · exact (show (1 : Nat) = len from q).symm
  subst hlen
  have hdc : decode (am_info z).2.1 pc = .ok (.ishr, 1) := hdc
  unfold am_step at hs
  dsimp only at hs
  split at hs
  · cases hs
    intro H locs ls hS
    exact lv_ishr hx hb hdc (k H locs ls hS)
  · cases hs
theorem am_k_ineg (C : am_Ctx p s m args meth c D cA tS base z) {len aux pc : Nat} {L : List (Option Value)} {st : List Value} {h : am_H} {g : am_G} (hf : am_fetch z pc = some (.ineg, len, aux)) (hs : am_step d (.ineg) aux pc L st h = some g) (hd : R.frames = d ∧ 64 * d ≤ R.locals) (h0 : n0 ≤ h.1 ∧ s0 ≤ h.2.1) (hr : g.2.2.2.1 - n0 ≤ R.cells ∧ g.2.2.2.2.1 - s0 ≤ R.slots) (k : am_At p l e R s m args below meth c D cA tS base z Q n0 s0 g) : am_At p l e R s m args below meth c D cA tS base z Q n0 s0 (pc, L, st, h) := by
  obtain ⟨hx, hb, hml, hrt, hown, hts, hlk, hnm, hX, hz⟩ := C
  obtain ⟨hdc, hln, hres⟩ := am_chkz hz hf
  have hlen : len = 1 := by
    rcases hln with q | q
    · exact absurd (show (1 : Nat) = 0 from q) (by decide)
    · exact (show (1 : Nat) = len from q).symm
  subst hlen
  have hdc : decode (am_info z).2.1 pc = .ok (.ineg, 1) := hdc
  unfold am_step at hs
  dsimp only at hs
  split at hs
  · cases hs
    intro H locs ls hS
    exact lv_ineg hx hb hdc (k H locs ls hS)
  · cases hs
theorem am_k_ladd (C : am_Ctx p s m args meth c D cA tS base z) {len aux pc : Nat} {L : List (Option Value)} {st : List Value} {h : am_H} {g : am_G} (hf : am_fetch z pc = some (.ladd, len, aux)) (hs : am_step d (.ladd) aux pc L st h = some g) (hd : R.frames = d ∧ 64 * d ≤ R.locals) (h0 : n0 ≤ h.1 ∧ s0 ≤ h.2.1) (hr : g.2.2.2.1 - n0 ≤ R.cells ∧ g.2.2.2.2.1 - s0 ≤ R.slots) (k : am_At p l e R s m args below meth c D cA tS base z Q n0 s0 g) : am_At p l e R s m args below meth c D cA tS base z Q n0 s0 (pc, L, st, h) := by
  obtain ⟨hx, hb, hml, hrt, hown, hts, hlk, hnm, hX, hz⟩ := C
  obtain ⟨hdc, hln, hres⟩ := am_chkz hz hf
  have hlen : len = 1 := by
    rcases hln with q | q
    · exact absurd (show (1 : Nat) = 0 from q) (by decide)
    · exact (show (1 : Nat) = len from q).symm
  subst hlen
  have hdc : decode (am_info z).2.1 pc = .ok (.ladd, 1) := hdc
  unfold am_step at hs
  dsimp only at hs
  split at hs
  · cases hs
    intro H locs ls hS
    exact lv_ladd hx hb hdc (k H locs ls hS)
  · cases hs
theorem am_k_lmul (C : am_Ctx p s m args meth c D cA tS base z) {len aux pc : Nat} {L : List (Option Value)} {st : List Value} {h : am_H} {g : am_G} (hf : am_fetch z pc = some (.lmul, len, aux)) (hs : am_step d (.lmul) aux pc L st h = some g) (hd : R.frames = d ∧ 64 * d ≤ R.locals) (h0 : n0 ≤ h.1 ∧ s0 ≤ h.2.1) (hr : g.2.2.2.1 - n0 ≤ R.cells ∧ g.2.2.2.2.1 - s0 ≤ R.slots) (k : am_At p l e R s m args below meth c D cA tS base z Q n0 s0 g) : am_At p l e R s m args below meth c D cA tS base z Q n0 s0 (pc, L, st, h) := by
  obtain ⟨hx, hb, hml, hrt, hown, hts, hlk, hnm, hX, hz⟩ := C
  obtain ⟨hdc, hln, hres⟩ := am_chkz hz hf
  have hlen : len = 1 := by
    rcases hln with q | q
    · exact absurd (show (1 : Nat) = 0 from q) (by decide)
    · exact (show (1 : Nat) = len from q).symm
  subst hlen
  have hdc : decode (am_info z).2.1 pc = .ok (.lmul, 1) := hdc
  unfold am_step at hs
  dsimp only at hs
  split at hs
  · cases hs
    intro H locs ls hS
    exact lv_lmul hx hb hdc (k H locs ls hS)
  · cases hs
theorem am_k_i2l (C : am_Ctx p s m args meth c D cA tS base z) {len aux pc : Nat} {L : List (Option Value)} {st : List Value} {h : am_H} {g : am_G} (hf : am_fetch z pc = some (.i2l, len, aux)) (hs : am_step d (.i2l) aux pc L st h = some g) (hd : R.frames = d ∧ 64 * d ≤ R.locals) (h0 : n0 ≤ h.1 ∧ s0 ≤ h.2.1) (hr : g.2.2.2.1 - n0 ≤ R.cells ∧ g.2.2.2.2.1 - s0 ≤ R.slots) (k : am_At p l e R s m args below meth c D cA tS base z Q n0 s0 g) : am_At p l e R s m args below meth c D cA tS base z Q n0 s0 (pc, L, st, h) := by
  obtain ⟨hx, hb, hml, hrt, hown, hts, hlk, hnm, hX, hz⟩ := C
  obtain ⟨hdc, hln, hres⟩ := am_chkz hz hf
  have hlen : len = 1 := by
    rcases hln with q | q
    · exact absurd (show (1 : Nat) = 0 from q) (by decide)
    · exact (show (1 : Nat) = len from q).symm
  subst hlen
  have hdc : decode (am_info z).2.1 pc = .ok (.i2l, 1) := hdc
  unfold am_step at hs
  dsimp only at hs
  split at hs
  · cases hs
    intro H locs ls hS
    exact lv_i2l hx hb hdc rfl (k H locs ls hS)
  · cases hs
theorem am_k_lcmp (C : am_Ctx p s m args meth c D cA tS base z) {len aux pc : Nat} {L : List (Option Value)} {st : List Value} {h : am_H} {g : am_G} (hf : am_fetch z pc = some (.lcmp, len, aux)) (hs : am_step d (.lcmp) aux pc L st h = some g) (hd : R.frames = d ∧ 64 * d ≤ R.locals) (h0 : n0 ≤ h.1 ∧ s0 ≤ h.2.1) (hr : g.2.2.2.1 - n0 ≤ R.cells ∧ g.2.2.2.2.1 - s0 ≤ R.slots) (k : am_At p l e R s m args below meth c D cA tS base z Q n0 s0 g) : am_At p l e R s m args below meth c D cA tS base z Q n0 s0 (pc, L, st, h) := by
  obtain ⟨hx, hb, hml, hrt, hown, hts, hlk, hnm, hX, hz⟩ := C
  obtain ⟨hdc, hln, hres⟩ := am_chkz hz hf
  have hlen : len = 1 := by
    rcases hln with q | q
    · exact absurd (show (1 : Nat) = 0 from q) (by decide)
    · exact (show (1 : Nat) = len from q).symm
  subst hlen
  have hdc : decode (am_info z).2.1 pc = .ok (.lcmp, 1) := hdc
  unfold am_step at hs
  dsimp only at hs
  split at hs
  · cases hs
    intro H locs ls hS
    exact W.lcmp hx hb hdc (k H locs ls hS)
  · cases hs
theorem am_k_pop (C : am_Ctx p s m args meth c D cA tS base z) {len aux pc : Nat} {L : List (Option Value)} {st : List Value} {h : am_H} {g : am_G} (hf : am_fetch z pc = some (.pop, len, aux)) (hs : am_step d (.pop) aux pc L st h = some g) (hd : R.frames = d ∧ 64 * d ≤ R.locals) (h0 : n0 ≤ h.1 ∧ s0 ≤ h.2.1) (hr : g.2.2.2.1 - n0 ≤ R.cells ∧ g.2.2.2.2.1 - s0 ≤ R.slots) (k : am_At p l e R s m args below meth c D cA tS base z Q n0 s0 g) : am_At p l e R s m args below meth c D cA tS base z Q n0 s0 (pc, L, st, h) := by
  obtain ⟨hx, hb, hml, hrt, hown, hts, hlk, hnm, hX, hz⟩ := C
  obtain ⟨hdc, hln, hres⟩ := am_chkz hz hf
  have hlen : len = 1 := by
    rcases hln with q | q
    · exact absurd (show (1 : Nat) = 0 from q) (by decide)
    · exact (show (1 : Nat) = len from q).symm
  subst hlen
  have hdc : decode (am_info z).2.1 pc = .ok (.pop, 1) := hdc
  unfold am_step at hs
  dsimp only at hs
  split at hs
  · cases hs
    intro H locs ls hS
    exact lv_pop hx hb hdc rfl (k H locs ls hS)
  · cases hs
theorem am_k_dup2 (C : am_Ctx p s m args meth c D cA tS base z) {len aux pc : Nat} {L : List (Option Value)} {st : List Value} {h : am_H} {g : am_G} (hf : am_fetch z pc = some (.dup2, len, aux)) (hs : am_step d (.dup2) aux pc L st h = some g) (hd : R.frames = d ∧ 64 * d ≤ R.locals) (h0 : n0 ≤ h.1 ∧ s0 ≤ h.2.1) (hr : g.2.2.2.1 - n0 ≤ R.cells ∧ g.2.2.2.2.1 - s0 ≤ R.slots) (k : am_At p l e R s m args below meth c D cA tS base z Q n0 s0 g) : am_At p l e R s m args below meth c D cA tS base z Q n0 s0 (pc, L, st, h) := by
  obtain ⟨hx, hb, hml, hrt, hown, hts, hlk, hnm, hX, hz⟩ := C
  obtain ⟨hdc, hln, hres⟩ := am_chkz hz hf
  have hlen : len = 1 := by
    rcases hln with q | q
    · exact absurd (show (1 : Nat) = 0 from q) (by decide)
    · exact (show (1 : Nat) = len from q).symm
  subst hlen
  have hdc : decode (am_info z).2.1 pc = .ok (.dup2, 1) := hdc
  unfold am_step at hs
  dsimp only at hs
  split at hs
  · cases hs
    intro H locs ls hS
    exact lv_dup2_11 hx hb hdc rfl rfl (k H locs ls hS)
  · cases hs
theorem am_k_dup (C : am_Ctx p s m args meth c D cA tS base z) {len aux pc : Nat} {L : List (Option Value)} {st : List Value} {h : am_H} {g : am_G} (hf : am_fetch z pc = some (.dup, len, aux)) (hs : am_step d (.dup) aux pc L st h = some g) (hd : R.frames = d ∧ 64 * d ≤ R.locals) (h0 : n0 ≤ h.1 ∧ s0 ≤ h.2.1) (hr : g.2.2.2.1 - n0 ≤ R.cells ∧ g.2.2.2.2.1 - s0 ≤ R.slots) (k : am_At p l e R s m args below meth c D cA tS base z Q n0 s0 g) : am_At p l e R s m args below meth c D cA tS base z Q n0 s0 (pc, L, st, h) := by
  obtain ⟨hx, hb, hml, hrt, hown, hts, hlk, hnm, hX, hz⟩ := C
  obtain ⟨hdc, hln, hres⟩ := am_chkz hz hf
  have hlen : len = 1 := by
    rcases hln with q | q
    · exact absurd (show (1 : Nat) = 0 from q) (by decide)
    · exact (show (1 : Nat) = len from q).symm
  subst hlen
  have hdc : decode (am_info z).2.1 pc = .ok (.dup, 1) := hdc
  unfold am_step at hs
  dsimp only at hs
  split at hs
  · cases hs
    intro H locs ls hS
    exact lv_dup hx hb hdc rfl (k H locs ls hS)
  · cases hs
    intro H locs ls hS
    exact lv_dup hx hb hdc rfl (k H locs ls hS)
  · cases hs
theorem am_k_idiv (C : am_Ctx p s m args meth c D cA tS base z) {len aux pc : Nat} {L : List (Option Value)} {st : List Value} {h : am_H} {g : am_G} (hf : am_fetch z pc = some (.idiv, len, aux)) (hs : am_step d (.idiv) aux pc L st h = some g) (hd : R.frames = d ∧ 64 * d ≤ R.locals) (h0 : n0 ≤ h.1 ∧ s0 ≤ h.2.1) (hr : g.2.2.2.1 - n0 ≤ R.cells ∧ g.2.2.2.2.1 - s0 ≤ R.slots) (k : am_At p l e R s m args below meth c D cA tS base z Q n0 s0 g) : am_At p l e R s m args below meth c D cA tS base z Q n0 s0 (pc, L, st, h) := by
  obtain ⟨hx, hb, hml, hrt, hown, hts, hlk, hnm, hX, hz⟩ := C
  obtain ⟨hdc, hln, hres⟩ := am_chkz hz hf
  have hlen : len = 1 := by
    rcases hln with q | q
    · exact absurd (show (1 : Nat) = 0 from q) (by decide)
    · exact (show (1 : Nat) = len from q).symm
  subst hlen
  have hdc : decode (am_info z).2.1 pc = .ok (.idiv, 1) := hdc
  unfold am_step at hs
  dsimp only at hs
  split at hs
  · split at hs
    · cases hs
    · rename_i hne
      cases hs
      intro H locs ls hS
      exact lv_idiv hx hb hdc hne (k H locs ls hS)
  · cases hs
theorem am_k_irem (C : am_Ctx p s m args meth c D cA tS base z) {len aux pc : Nat} {L : List (Option Value)} {st : List Value} {h : am_H} {g : am_G} (hf : am_fetch z pc = some (.irem, len, aux)) (hs : am_step d (.irem) aux pc L st h = some g) (hd : R.frames = d ∧ 64 * d ≤ R.locals) (h0 : n0 ≤ h.1 ∧ s0 ≤ h.2.1) (hr : g.2.2.2.1 - n0 ≤ R.cells ∧ g.2.2.2.2.1 - s0 ≤ R.slots) (k : am_At p l e R s m args below meth c D cA tS base z Q n0 s0 g) : am_At p l e R s m args below meth c D cA tS base z Q n0 s0 (pc, L, st, h) := by
  obtain ⟨hx, hb, hml, hrt, hown, hts, hlk, hnm, hX, hz⟩ := C
  obtain ⟨hdc, hln, hres⟩ := am_chkz hz hf
  have hlen : len = 1 := by
    rcases hln with q | q
    · exact absurd (show (1 : Nat) = 0 from q) (by decide)
    · exact (show (1 : Nat) = len from q).symm
  subst hlen
  have hdc : decode (am_info z).2.1 pc = .ok (.irem, 1) := hdc
  unfold am_step at hs
  dsimp only at hs
  split at hs
  · split at hs
    · cases hs
    · rename_i hne
      cases hs
      intro H locs ls hS
      exact lv_irem hx hb hdc hne (k H locs ls hS)
  · cases hs
theorem am_k_goto (C : am_Ctx p s m args meth c D cA tS base z) {off : Int} {len aux pc : Nat} {L : List (Option Value)} {st : List Value} {h : am_H} {g : am_G} (hf : am_fetch z pc = some (.goto off, len, aux)) (hs : am_step d (.goto off) aux pc L st h = some g) (hd : R.frames = d ∧ 64 * d ≤ R.locals) (h0 : n0 ≤ h.1 ∧ s0 ≤ h.2.1) (hr : g.2.2.2.1 - n0 ≤ R.cells ∧ g.2.2.2.2.1 - s0 ≤ R.slots) (k : am_At p l e R s m args below meth c D cA tS base z Q n0 s0 g) : am_At p l e R s m args below meth c D cA tS base z Q n0 s0 (pc, L, st, h) := by
  obtain ⟨hx, hb, hml, hrt, hown, hts, hlk, hnm, hX, hz⟩ := C
  obtain ⟨hdc, hln, hres⟩ := am_chkz hz hf
  have hlen : len = 3 := by
    rcases hln with q | q
    · exact absurd (show (3 : Nat) = 0 from q) (by decide)
    · exact (show (3 : Nat) = len from q).symm
  subst hlen
  have hdc : decode (am_info z).2.1 pc = .ok (.goto off, 3) := hdc
  cases hs
  intro H locs ls hS
  exact lv_goto hx hb hdc (am_tok_eq (show am_tok pc off = true from hres)) (k H locs ls hS)
theorem am_nn {c : Prop} [Decidable c] {a b : Nat} (h : ¬ ¬ c) : (if c then a else b) = a := if_pos (Decidable.not_not.mp h)
theorem am_k_ifCond (C : am_Ctx p s m args meth c D cA tS base z) {cd : ClassFile.Cond} {off : Int} {len aux pc : Nat} {L : List (Option Value)} {st : List Value} {h : am_H} {g : am_G} (hf : am_fetch z pc = some (.ifCond cd off, len, aux)) (hs : am_step d (.ifCond cd off) aux pc L st h = some g) (hd : R.frames = d ∧ 64 * d ≤ R.locals) (h0 : n0 ≤ h.1 ∧ s0 ≤ h.2.1) (hr : g.2.2.2.1 - n0 ≤ R.cells ∧ g.2.2.2.2.1 - s0 ≤ R.slots) (k : am_At p l e R s m args below meth c D cA tS base z Q n0 s0 g) : am_At p l e R s m args below meth c D cA tS base z Q n0 s0 (pc, L, st, h) := by
  obtain ⟨hx, hb, hml, hrt, hown, hts, hlk, hnm, hX, hz⟩ := C
  obtain ⟨hdc, hln, hres⟩ := am_chkz hz hf
  have hlen : len = 3 := by
    rcases hln with q | q
    · exact absurd (show (3 : Nat) = 0 from q) (by decide)
    · exact (show (3 : Nat) = len from q).symm
  subst hlen
  have hdc : decode (am_info z).2.1 pc = .ok (.ifCond cd off, 3) := hdc
  have htk := am_tok_eq (show am_tok pc off = true from hres)
  unfold am_step at hs
  dsimp only at hs
  split at hs
  · cases hs
    cases cd
    case eq =>
      intro H locs ls hS
      exact lv_if_eq hx hb hdc htk (fun hc => (am_At.pc k (if_pos hc)) H locs ls hS) (fun hc => (am_At.pc k (if_neg hc)) H locs ls hS)
    case ne =>
      intro H locs ls hS
      exact lv_if_ne hx hb hdc htk (fun hc => (am_At.pc k (if_neg hc)) H locs ls hS) (fun hc => (am_At.pc k (if_pos hc)) H locs ls hS)
    case lt =>
      intro H locs ls hS
      exact lv_if_lt hx hb hdc htk (fun hc => (am_At.pc k (if_pos hc)) H locs ls hS) (fun hc => (am_At.pc k (if_neg hc)) H locs ls hS)
    case ge =>
      intro H locs ls hS
      exact lv_if_ge hx hb hdc htk (fun hc => (am_At.pc k (if_pos hc)) H locs ls hS) (fun hc => (am_At.pc k (if_neg hc)) H locs ls hS)
    case gt =>
      intro H locs ls hS
      exact lv_if_gt hx hb hdc htk (fun hc => (am_At.pc k (if_pos hc)) H locs ls hS) (fun hc => (am_At.pc k (if_neg hc)) H locs ls hS)
    case le =>
      intro H locs ls hS
      exact lv_if_le hx hb hdc htk (fun hc => (am_At.pc k (if_pos hc)) H locs ls hS) (fun hc => (am_At.pc k (if_neg hc)) H locs ls hS)
  · cases hs
theorem am_k_if_icmp (C : am_Ctx p s m args meth c D cA tS base z) {cd : ClassFile.Cond} {off : Int} {len aux pc : Nat} {L : List (Option Value)} {st : List Value} {h : am_H} {g : am_G} (hf : am_fetch z pc = some (.if_icmp cd off, len, aux)) (hs : am_step d (.if_icmp cd off) aux pc L st h = some g) (hd : R.frames = d ∧ 64 * d ≤ R.locals) (h0 : n0 ≤ h.1 ∧ s0 ≤ h.2.1) (hr : g.2.2.2.1 - n0 ≤ R.cells ∧ g.2.2.2.2.1 - s0 ≤ R.slots) (k : am_At p l e R s m args below meth c D cA tS base z Q n0 s0 g) : am_At p l e R s m args below meth c D cA tS base z Q n0 s0 (pc, L, st, h) := by
  obtain ⟨hx, hb, hml, hrt, hown, hts, hlk, hnm, hX, hz⟩ := C
  obtain ⟨hdc, hln, hres⟩ := am_chkz hz hf
  have hlen : len = 3 := by
    rcases hln with q | q
    · exact absurd (show (3 : Nat) = 0 from q) (by decide)
    · exact (show (3 : Nat) = len from q).symm
  subst hlen
  have hdc : decode (am_info z).2.1 pc = .ok (.if_icmp cd off, 3) := hdc
  have htk := am_tok_eq (show am_tok pc off = true from hres)
  unfold am_step at hs
  dsimp only at hs
  split at hs
  · cases hs
    cases cd
    case eq =>
      intro H locs ls hS
      exact lv_icmp_eq hx hb hdc htk (fun hc => (am_At.pc k (if_pos hc)) H locs ls hS) (fun hc => (am_At.pc k (if_neg hc)) H locs ls hS)
    case ne =>
      intro H locs ls hS
      exact lv_icmp_ne hx hb hdc htk (fun hc => (am_At.pc k (if_neg hc)) H locs ls hS) (fun hc => (am_At.pc k (if_pos hc)) H locs ls hS)
    case lt =>
      intro H locs ls hS
      exact lv_icmp_lt hx hb hdc htk (fun hc => (am_At.pc k (if_pos hc)) H locs ls hS) (fun hc => (am_At.pc k (if_neg hc)) H locs ls hS)
    case ge =>
      intro H locs ls hS
      exact lv_icmp_ge hx hb hdc htk (fun hc => (am_At.pc k (if_pos hc)) H locs ls hS) (fun hc => (am_At.pc k (if_neg hc)) H locs ls hS)
    case gt =>
      intro H locs ls hS
      exact lv_icmp_gt hx hb hdc htk (fun hc => (am_At.pc k (if_pos hc)) H locs ls hS) (fun hc => (am_At.pc k (if_neg hc)) H locs ls hS)
    case le =>
      intro H locs ls hS
      exact lv_icmp_le hx hb hdc htk (fun hc => (am_At.pc k (if_pos hc)) H locs ls hS) (fun hc => (am_At.pc k (if_neg hc)) H locs ls hS)
  · cases hs
theorem am_k_ifnull (C : am_Ctx p s m args meth c D cA tS base z) {off : Int} {len aux pc : Nat} {L : List (Option Value)} {st : List Value} {h : am_H} {g : am_G} (hf : am_fetch z pc = some (.ifnull off, len, aux)) (hs : am_step d (.ifnull off) aux pc L st h = some g) (hd : R.frames = d ∧ 64 * d ≤ R.locals) (h0 : n0 ≤ h.1 ∧ s0 ≤ h.2.1) (hr : g.2.2.2.1 - n0 ≤ R.cells ∧ g.2.2.2.2.1 - s0 ≤ R.slots) (k : am_At p l e R s m args below meth c D cA tS base z Q n0 s0 g) : am_At p l e R s m args below meth c D cA tS base z Q n0 s0 (pc, L, st, h) := by
  obtain ⟨hx, hb, hml, hrt, hown, hts, hlk, hnm, hX, hz⟩ := C
  obtain ⟨hdc, hln, hres⟩ := am_chkz hz hf
  have hlen : len = 3 := by
    rcases hln with q | q
    · exact absurd (show (3 : Nat) = 0 from q) (by decide)
    · exact (show (3 : Nat) = len from q).symm
  subst hlen
  have hdc : decode (am_info z).2.1 pc = .ok (.ifnull off, 3) := hdc
  have htk := am_tok_eq (show am_tok pc off = true from hres)
  unfold am_step at hs
  dsimp only at hs
  split at hs
  · cases hs
    intro H locs ls hS
    exact lv_ifnullN hx hb hdc htk (k H locs ls hS)
  · cases hs
    intro H locs ls hS
    exact lv_ifnull hx hb hdc (k H locs ls hS)
  · cases hs
theorem am_k_ifnonnull (C : am_Ctx p s m args meth c D cA tS base z) {off : Int} {len aux pc : Nat} {L : List (Option Value)} {st : List Value} {h : am_H} {g : am_G} (hf : am_fetch z pc = some (.ifnonnull off, len, aux)) (hs : am_step d (.ifnonnull off) aux pc L st h = some g) (hd : R.frames = d ∧ 64 * d ≤ R.locals) (h0 : n0 ≤ h.1 ∧ s0 ≤ h.2.1) (hr : g.2.2.2.1 - n0 ≤ R.cells ∧ g.2.2.2.2.1 - s0 ≤ R.slots) (k : am_At p l e R s m args below meth c D cA tS base z Q n0 s0 g) : am_At p l e R s m args below meth c D cA tS base z Q n0 s0 (pc, L, st, h) := by
  obtain ⟨hx, hb, hml, hrt, hown, hts, hlk, hnm, hX, hz⟩ := C
  obtain ⟨hdc, hln, hres⟩ := am_chkz hz hf
  have hlen : len = 3 := by
    rcases hln with q | q
    · exact absurd (show (3 : Nat) = 0 from q) (by decide)
    · exact (show (3 : Nat) = len from q).symm
  subst hlen
  have hdc : decode (am_info z).2.1 pc = .ok (.ifnonnull off, 3) := hdc
  have htk := am_tok_eq (show am_tok pc off = true from hres)
  unfold am_step at hs
  dsimp only at hs
  split at hs
  · cases hs
    intro H locs ls hS
    exact lv_ifnonnullN hx hb hdc (k H locs ls hS)
  · cases hs
    intro H locs ls hS
    exact lv_ifnonnull hx hb hdc htk (k H locs ls hS)
  · cases hs
theorem am_k_tableswitch (C : am_Ctx p s m args meth c D cA tS base z) {df lo hi : Int} {offs : Array Int} {len aux pc : Nat} {L : List (Option Value)} {st : List Value} {h : am_H} {g : am_G} (hf : am_fetch z pc = some (.tableswitch df lo hi offs, len, aux)) (hs : am_step d (.tableswitch df lo hi offs) aux pc L st h = some g) (hd : R.frames = d ∧ 64 * d ≤ R.locals) (h0 : n0 ≤ h.1 ∧ s0 ≤ h.2.1) (hr : g.2.2.2.1 - n0 ≤ R.cells ∧ g.2.2.2.2.1 - s0 ≤ R.slots) (k : am_At p l e R s m args below meth c D cA tS base z Q n0 s0 g) : am_At p l e R s m args below meth c D cA tS base z Q n0 s0 (pc, L, st, h) := by
  obtain ⟨hx, hb, hml, hrt, hown, hts, hlk, hnm, hX, hz⟩ := C
  obtain ⟨hdc, hln, hres⟩ := am_chkz hz hf
  have hdc : decode (am_info z).2.1 pc = .ok (.tableswitch df lo hi offs, len) := hdc
  have hres' : (am_tok pc df && offs.toList.all (am_tok pc)) = true := hres
  rw [Bool.and_eq_true] at hres'
  unfold am_step at hs
  dsimp only at hs
  split at hs
  · split at hs
    · rename_i hc
      cases hs
      intro H locs ls hS
      exact lv_tableOut hx hb hdc hc (am_tok_eq hres'.1) (k H locs ls hS)
    · rename_i hc
      split at hs
      · rename_i off heq
        split at hs
        · rename_i hge
          cases hs
          intro H locs ls hS
          exact lv_tableIn hx hb hdc (fun q => hc (Or.inl q)) (fun q => hc (Or.inr q)) heq (am_tgt_eq hge) (k H locs ls hS)
        · cases hs
      · cases hs
  · cases hs
theorem am_k_lookupswitch (C : am_Ctx p s m args meth c D cA tS base z) {df : Int} {ps : Array (Int × Int)} {len aux pc : Nat} {L : List (Option Value)} {st : List Value} {h : am_H} {g : am_G} (hf : am_fetch z pc = some (.lookupswitch df ps, len, aux)) (hs : am_step d (.lookupswitch df ps) aux pc L st h = some g) (hd : R.frames = d ∧ 64 * d ≤ R.locals) (h0 : n0 ≤ h.1 ∧ s0 ≤ h.2.1) (hr : g.2.2.2.1 - n0 ≤ R.cells ∧ g.2.2.2.2.1 - s0 ≤ R.slots) (k : am_At p l e R s m args below meth c D cA tS base z Q n0 s0 g) : am_At p l e R s m args below meth c D cA tS base z Q n0 s0 (pc, L, st, h) := by
  obtain ⟨hx, hb, hml, hrt, hown, hts, hlk, hnm, hX, hz⟩ := C
  obtain ⟨hdc, hln, hres⟩ := am_chkz hz hf
  have hdc : decode (am_info z).2.1 pc = .ok (.lookupswitch df ps, len) := hdc
  have hres' : (am_tok pc df && ps.toList.all (fun q => am_tok pc q.2) && (ps.toList.zip (ps.toList.drop 1)).all (fun (a, next) => a.1 < next.1)) = true := hres
  rw [Bool.and_eq_true] at hres'
  unfold am_step at hs
  dsimp only at hs
  split at hs
  · split at hs
    · rename_i hge
      cases hs
      intro H locs ls hS
      exact lv_lookup hx hb hdc hres'.2 rfl (am_tgt_eq hge) (k H locs ls hS)
    · cases hs
  · cases hs
end AMS
