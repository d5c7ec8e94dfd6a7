/-! THE CLAIM OUT OF ONE WALK OF THE LAW'S BODY. Your part is whole_start (and what it stands on); all else here is the same for every law, but numbers. -/
def R_law : String := "TapestryDeskLaw"
def lw_P (b : Addr) (xs : List Int32) (args : Array Value) (s : State) : Prop := args = #[.ref b] ∧ s.IntsAt b xs ∧ xs.length ≤ 3584 ∧ (Jvm.Cond.and given_1 narrow_1).before args s = true
def lw_Q (_ : Array Value) (s : State) (o : Outcome) (t : State) : Prop := o = .returned (some (.int 1)) ∧ Framed s o t [] 600000 7302249
def lw_Z (below : List Frame) (a : Array Value) (s : State) : State → Prop := fun t => ∃ o, t.status = .running ∧ Ended t below o ∧ lw_Q a s o t
/-- the law's own end, with 1 on the stack, nothing written that was there before, its room as the claim has it -/
theorem lw_ret {p : Program} {l : Launch} {e : Env} {s : State} {m : MethodId} {below : List Frame} {meth : Method} {c : Code} {b : Nat} (hx : p.tables.exec = Jvm.exec) (hb : c.code = code) (hr : meth.sig.returnType = ret) (hlocks : meth.locks = false) {pc : Nat} {H : Heap} {ls : Array Slot} (hdg : decode code pc = .ok (.ireturn, 1)) : W p l e room_1 s m #[Value.ref b] below meth c H [] 600000 7302249 (lw_Z below #[Value.ref b] s) (F0 m pc ls [.int 1]) := by
  intro T hT X
  obtain ⟨fs, hret, hrun, hended, hW, hframe⟩ := X.leave (v := some (.int 1)) (hlocks := hlocks) (fun h => by rw [hr] at h; cases h)
  have hmeth' : T.vm.method? m = some meth := X.method'
  refine ⟨T.setFrames fs, ?_, .returned (some (.int 1)), hrun, hended, rfl, ⟨_, rfl⟩, hW, hframe⟩
  jvm_step X.here [X.here.top, hx, hb, hdg, hmeth', hr, ret, narrow_b1]
  (try refine ⟨rfl, ?_⟩); (try refine ⟨rfl, ?_⟩)
  first | (intro acts; rw [hret _ acts rfl rfl rfl]) | rw [hret _ _ rfl rfl rfl]
  exact Steps.refl _
/-- what holds at the law's entry: the machine, the code, the tables' words (any of lw_tbl by 'hts w (by decide +kernel)'), the script of L ints xs at the cell b, what the Statement gives of the start (any of its parts by flat_of_before) -/
def lw_At (p : Program) (s : State) (m : MethodId) (meth : Method) (c : Code) (b L : Nat) (xs : Nat → Int32) : Prop :=
  p.tables.exec = Jvm.exec ∧ c.code = code ∧ meth.sig.returnType = ret ∧ c.maxLocals = 4 ∧ s.vm.findClass R_law = some m.cls ∧ (∀ w ∈ lw_tbl, w.before #[Value.ref b] s = true) ∧ va_X b L xs s s.heap ∧ b < s.heap.size ∧ meth.locks = false ∧ (Jvm.Cond.and given_1 narrow_1).before #[Value.ref b] s = true
theorem lw_good {args : Array Value} {s : State} (hts : ∀ w ∈ lw_tbl, w.before args s = true) : ∀ w ∈ am_good, w.before args s = true := fun w hw => hts w (List.mem_filter.mp hw).1
def lw_flat : List Cond := flatC (Jvm.Cond.and given_1 narrow_1)
def lw_sT (j : Nat) : Term := .static (am_sC j) (am_sN j) "[I"
def lw_sOK (j : Nat) : Bool := decide (Cond.arrayOf (lw_sT j) .int ∈ lw_flat) && decide (Cond.eq (.length (lw_sT j)) (.int (Int32.ofNat (am_sV j).length)) ∈ lw_flat) && decide (Cond.laysStatic (am_sC j) (am_sN j) "[I" ∈ lw_tbl) && decide (Cond.initialized (am_sC j) ∈ lw_tbl) && decide ((am_sV j).length < 2 ^ 31) && (List.range (am_sV j).length).all (fun i => decide (Cond.eq (.elem (lw_sT j) (.int (Int32.ofNat i))) (.int ((am_sV j).getD i 0)) ∈ lw_flat))
theorem lw_sOKs : (List.range 5).all lw_sOK = true := by decide +kernel
def lw_aOKs : Bool := (List.range 4).all (fun t => decide (Cond.arrayOver (.object (am_an (t + 2))) ∈ lw_tbl))
theorem lw_aOK : lw_aOKs = true := by decide +kernel
theorem lw_ao {t : Nat} (h1 : 2 ≤ t) (h2 : t < 6) : Cond.arrayOver (.object (am_an t)) ∈ lw_tbl := by
  have h := List.all_eq_true.mp lw_aOK (t - 2) (List.mem_range.mpr (by omega))
  rw [show t - 2 + 2 = t by omega] at h
  exact of_decide_eq_true h
/-- a table of the program, at the start -/
theorem lw_sZ {s : State} {b : Nat} (hts : ∀ w ∈ lw_tbl, w.before #[Value.ref b] s = true) (hgv : (Jvm.Cond.and given_1 narrow_1).before #[Value.ref b] s = true) {j : Nat} (hj : j < 5) : ∃ t : Nat, va_Z (am_sC j) (am_sN j) "[I" (.ref t) (fun q => s.heap.size ≤ q) s s.heap ∧ va_T .int t (am_sV j).length (fun i => .int ((am_sV j).getD i 0)) (fun q => s.heap.size ≤ q) s s.heap := by
  have hs : ∀ c ∈ lw_flat, c.before #[Value.ref b] s = true := flat_of_before _ hgv
  have h := List.all_eq_true.mp lw_sOKs j (List.mem_range.mpr hj)
  unfold lw_sOK at h
  simp only [Bool.and_eq_true, decide_eq_true_eq, List.all_eq_true, List.mem_range] at h
  obtain ⟨⟨⟨⟨⟨a1, a2⟩, a3⟩, a4⟩, a5⟩, a6⟩ := h
  have hA : ∀ a : Nat, a < s.heap.size → ¬ (fun q => s.heap.size ≤ q) a := fun a ha => Nat.not_le.mpr ha
  obtain ⟨t, ht, hT⟩ := va_Tof (A := fun q => s.heap.size ≤ q) (f := fun i => .int ((am_sV j).getD i 0)) a5 (hs _ a1) (va_eqt (hs _ a2)) (fun i hi => va_eqt (hs _ (a6 i hi))) hA
  exact ⟨t, va_Zref (hts _ a3) (hts _ a4) ht hA, hT⟩
theorem lw_aT {s : State} {b : Nat} (hts : ∀ w ∈ lw_tbl, w.before #[Value.ref b] s = true) {t : Nat} (ht : t < 6) : ∃ cA : ClassId, ArrOfT s cA (am_ty t) ∧ va_RA s cA (am_ty t) := by
  by_cases h2 : 2 ≤ t
  · obtain ⟨comp, cA, kA, g1, g2, g3, g4, g5⟩ := Cond.arrayOver_spec (hts _ (lw_ao h2 ht))
    rw [(am_aty h2 ht).1]
    exact ⟨cA, fun N z => ⟨(fun k h => by cases h), kA, g3, comp, g4⟩, kA, comp, g3, g4, g1, g5⟩
  · rcases (show t = 0 ∨ t = 1 by omega) with rfl | rfl
    · obtain ⟨cA, kA, comp, g1, g2, g3⟩ := Cond.arrayClass_spec (lw_good hts _ am_g_int)
      exact ⟨cA, fun N z => ⟨(fun k h => by cases h), kA, g2, comp, g3⟩, g1⟩
    · obtain ⟨cA, kA, comp, g1, g2, g3⟩ := Cond.arrayClass_spec (lw_good hts _ am_g_boo)
      exact ⟨cA, fun N z => ⟨(fun k h => by cases h), kA, g2, comp, g3⟩, g1⟩
/-- the program's world at the start -/
theorem lw_X {s : State} {b : Nat} (hts : ∀ w ∈ lw_tbl, w.before #[Value.ref b] s = true) (hgv : (Jvm.Cond.and given_1 narrow_1).before #[Value.ref b] s = true) : ∃ (D : va_G) (cA : Nat → ClassId) (tS : Nat → Nat), am_X D cA tS s.heap.size s := by
  have k1 : ∀ ci : Nat, ∃ r : ClassId × (Nat → Nat), ∀ q : vw_C, am_cl[ci]? = some q → u_Kn s q.1 q.2.1 q.2.2 r.1 r.2 := by
    intro ci
    cases hc : am_cl[ci]? with
    | none => exact ⟨((0 : Nat), fun _ => 0), fun q hq => by cases hq⟩
    | some q =>
      obtain ⟨C, T, N⟩ := q
      obtain ⟨y, hy, hin, hfd, hnm, hins, hini⟩ := am_clsz hc
      obtain ⟨cC, iS, hk⟩ := u_known (C := C) (T := T) (N := N) (n := N) (lw_good hts) hin (lw_good hts _ hins)
      exact ⟨(cC, iS), fun q hq => by cases hq; exact hk⟩
  obtain ⟨fC, hfC⟩ := Classical.skolem.mp k1
  have k2 : ∀ t : Nat, ∃ cA : ClassId, t < 6 → ArrOfT s cA (am_ty t) ∧ va_RA s cA (am_ty t) := by
    intro t
    by_cases h : t < 6
    · obtain ⟨cA, h1⟩ := lw_aT hts h
      exact ⟨cA, fun _ => h1⟩
    · exact ⟨(0 : Nat), fun z => absurd z h⟩
  obtain ⟨cA, hcA⟩ := Classical.skolem.mp k2
  have k3 : ∀ j : Nat, ∃ t : Nat, j < 5 → va_Z (am_sC j) (am_sN j) "[I" (.ref t) (fun q => s.heap.size ≤ q) s s.heap ∧ va_T .int t (am_sV j).length (fun i => .int ((am_sV j).getD i 0)) (fun q => s.heap.size ≤ q) s s.heap := by
    intro j
    by_cases h : j < 5
    · obtain ⟨t, h1⟩ := lw_sZ hts hgv h
      exact ⟨t, fun _ => h1⟩
    · exact ⟨0, fun z => absurd z h⟩
  obtain ⟨tS, htS⟩ := Classical.skolem.mp k3
  refine ⟨(fun k => (fC k).1, fun k => (fC k).2), cA, tS, ⟨fun k q hq => hfC k q hq, fun k q hq => ?_⟩, htS, fun w hw => ?_, fun t h1 h2 => va_AO.of (hts _ (lw_ao h1 h2))⟩
  · have hk : k < 6 := by
      have := (List.getElem?_eq_some_iff.mp hq).1
      simpa [am_tys] using this
    rw [am_tys_at cA hk] at hq
    cases hq
    exact hcA k hk
  · have h2 : am_isN w = true := (List.mem_filter.mp hw).2
    have h1 := hts w (List.mem_filter.mp hw).1
    cases w <;> first | exact va_Nw.of rfl h1 | (cases h2)
