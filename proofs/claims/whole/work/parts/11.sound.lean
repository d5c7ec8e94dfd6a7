/-! the small machine's runs are the machine's -/
theorem am_step_mono {d : Nat} {i : ClassFile.Instr} {aux pc : Nat} {L : List (Option Value)} {st : List Value} {h : am_H} {g : am_G} (hs : am_step d i aux pc L st h = some g) : h.1 ≤ g.2.2.2.1 ∧ h.2.1 ≤ g.2.2.2.2.1 := by
  unfold am_step at hs
  split at hs <;> (try unfold am_ld at hs) <;> (try unfold am_ldl at hs) <;> (try unfold am_lda at hs) <;> (try unfold am_sti at hs) <;> (try unfold am_stl at hs) <;> (try unfold am_sta at hs) <;> (repeat' split at hs) <;>
    first
    | (cases hs; done)
    | (cases hs; exact ⟨Nat.le_refl _, Nat.le_refl _⟩)
    | (cases hs; exact ⟨Nat.le_succ _, Nat.le_add_right _ _⟩)
    | (revert hs; unfold cond; split <;> intro hs <;> first | (cases hs; done) | (cases hs; exact ⟨Nat.le_refl _, Nat.le_refl _⟩))
section AMD
variable {p : Program} {l : Launch} {e : Env} {R : Room} {s : State} {m : MethodId} {args : Array Value} {below : List Frame} {meth : Method} {c : Code} {D : va_G} {cA : Nat → ClassId} {tS : Nat → Nat} {base z d n0 s0 : Nat} {Q : State → Prop}
theorem am_step_ok (C : am_Ctx p s m args meth c D cA tS base z) {i : ClassFile.Instr} {len aux pc : Nat} {L : List (Option Value)} {st : List Value} {h : am_H} {g : am_G} (hf : am_fetch z pc = some (i, len, aux)) (hs : am_step d i aux pc L st h = some g) (hd : R.frames = d ∧ 64 * d ≤ R.locals) (h0 : n0 ≤ h.1 ∧ s0 ≤ h.2.1) (hr : g.2.2.2.1 - n0 ≤ R.cells ∧ g.2.2.2.2.1 - s0 ≤ R.slots) (k : am_At p l e R s m args below meth c D cA tS base z Q n0 s0 g) : am_At p l e R s m args below meth c D cA tS base z Q n0 s0 (pc, L, st, h) := by
  cases i
  case aconst_null => exact am_k_aconst_null C hf hs hd h0 hr k
  case iconst => exact am_k_iconst C hf hs hd h0 hr k
  case bipush => exact am_k_bipush C hf hs hd h0 hr k
  case sipush => exact am_k_sipush C hf hs hd h0 hr k
  case lconst => exact am_k_lconst C hf hs hd h0 hr k
  case ldc2_w => exact am_k_ldc2_w C hf hs hd h0 hr k
  case iload => exact am_k_iload C hf hs hd h0 hr k
  case iload_n => exact am_k_iload_n C hf hs hd h0 hr k
  case lload => exact am_k_lload C hf hs hd h0 hr k
  case lload_n => exact am_k_lload_n C hf hs hd h0 hr k
  case aload => exact am_k_aload C hf hs hd h0 hr k
  case aload_n => exact am_k_aload_n C hf hs hd h0 hr k
  case istore => exact am_k_istore C hf hs hd h0 hr k
  case istore_n => exact am_k_istore_n C hf hs hd h0 hr k
  case lstore => exact am_k_lstore C hf hs hd h0 hr k
  case lstore_n => exact am_k_lstore_n C hf hs hd h0 hr k
  case astore => exact am_k_astore C hf hs hd h0 hr k
  case astore_n => exact am_k_astore_n C hf hs hd h0 hr k
  case iinc => exact am_k_iinc C hf hs hd h0 hr k
  case dup => exact am_k_dup C hf hs hd h0 hr k
  case dup2 => exact am_k_dup2 C hf hs hd h0 hr k
  case pop => exact am_k_pop C hf hs hd h0 hr k
  case iadd => exact am_k_iadd C hf hs hd h0 hr k
  case isub => exact am_k_isub C hf hs hd h0 hr k
  case imul => exact am_k_imul C hf hs hd h0 hr k
  case iand => exact am_k_iand C hf hs hd h0 hr k
  case ior => exact am_k_ior C hf hs hd h0 hr k
  case ixor => exact am_k_ixor C hf hs hd h0 hr k
  case ishl => exact am_k_ishl C hf hs hd h0 hr k
  case ishr => exact am_k_ishr C hf hs hd h0 hr k
  case idiv => exact am_k_idiv C hf hs hd h0 hr k
  case irem => exact am_k_irem C hf hs hd h0 hr k
  case ineg => exact am_k_ineg C hf hs hd h0 hr k
  case ladd => exact am_k_ladd C hf hs hd h0 hr k
  case lmul => exact am_k_lmul C hf hs hd h0 hr k
  case i2l => exact am_k_i2l C hf hs hd h0 hr k
  case lcmp => exact am_k_lcmp C hf hs hd h0 hr k
  case ifCond => exact am_k_ifCond C hf hs hd h0 hr k
  case if_icmp => exact am_k_if_icmp C hf hs hd h0 hr k
  case goto => exact am_k_goto C hf hs hd h0 hr k
  case ifnull => exact am_k_ifnull C hf hs hd h0 hr k
  case ifnonnull => exact am_k_ifnonnull C hf hs hd h0 hr k
  case tableswitch => exact am_k_tableswitch C hf hs hd h0 hr k
  case lookupswitch => exact am_k_lookupswitch C hf hs hd h0 hr k
  case getfield => exact am_k_getfield C hf hs hd h0 hr k
  case putfield => exact am_k_putfield C hf hs hd h0 hr k
  case getstatic => exact am_k_getstatic C hf hs hd h0 hr k
  case new => exact am_k_new C hf hs hd h0 hr k
  case newarray => exact am_k_newarray C hf hs hd h0 hr k
  case anewarray => exact am_k_anewarray C hf hs hd h0 hr k
  case arraylength => exact am_k_arraylength C hf hs hd h0 hr k
  case iaload => exact am_k_iaload C hf hs hd h0 hr k
  case baload => exact am_k_baload C hf hs hd h0 hr k
  case aaload => exact am_k_aaload C hf hs hd h0 hr k
  case iastore => exact am_k_iastore C hf hs hd h0 hr k
  case bastore => exact am_k_bastore C hf hs hd h0 hr k
  case aastore => exact am_k_aastore C hf hs hd h0 hr k
  case invokespecial => exact am_k_objinit C hf hs hd h0 hr k
  case invokestatic => exact am_k_arraycopy C hf hs hd h0 hr k
  all_goals (have hs2 : (none : Option am_G) = some g := hs; cases hs2)
end AMD
def am_Q (D : va_G) (cA : Nat → ClassId) (tS : Nat → Nat) (base : Nat) (h' : am_H) (r : Option Value) : Array Value → State → Outcome → State → Prop := fun _ st o t => o = .returned (r.map (am_v base tS)) ∧ am_R D cA tS base h' t.heap ∧ ∀ q : Nat, q < base → t.heap[q]? = st.heap[q]?
def am_Pc (D : va_G) (cA : Nat → ClassId) (tS : Nat → Nat) (base : Nat) (vs : List Value) (h : am_H) : Array Value → State → Prop := fun v U => v = (vs.map (am_v base tS)).toArray ∧ am_X D cA tS base U ∧ am_R D cA tS base h U.heap
def am_ws (z : Nat) : List Cond := .code (am_info z).1 (am_info z).2.1 (am_meth z).2.2.1 (am_info z).2.2.1 :: am_good
def am_rm (d mc ms : Nat) : Room := { frames := d, cells := mc, slots := ms, locals := 64 * d }
theorem am_blind {D : va_G} {cA : Nat → ClassId} {tS : Nat → Nat} {base : Nat} {vs : List Value} {h : am_H} : FrameBlind (am_Pc D cA tS base vs h) := fun _ _ _ _ q => ⟨q.1, q.2.1.same rfl rfl, q.2.2⟩
theorem am_codeg {z : Nat} (h : z < am_count) : Cond.code (am_info z).1 (am_info z).2.1 (am_meth z).2.2.1 (am_info z).2.2.1 ∈ am_good := List.mem_filter.mpr ⟨List.mem_of_getElem? (am_cwz z h), rfl⟩
theorem am_goodIn {z : Nat} (h : z < am_count) : GoodIn am_good (am_ws z) := by
  intro w hw
  have hw' : w ∈ am_good := by
    rcases List.mem_cons.mp hw with q | q
    · rw [q]; exact am_codeg h
    · exact q
  exact ⟨hw', good_of_word (List.mem_filter.mp hw').2⟩
/-- what the check says of a method -/
theorem am_mfacts {z : Nat} (h : z < am_count) : Cond.initialized (am_info z).1.cls ∈ am_good ∧ (parseMethodDescriptor (am_info z).1.desc).map (fun d => d.parameters.length) = some ((am_meth z).2.2.2.1 - (if (am_meth z).2.2.2.2.2 = 0 then 0 else 1)) ∧ plainFor (am_info z).1 = true ∧ ((am_info z).1.cls ≠ "java/lang/invoke/MethodHandle" ∧ (am_info z).1.cls ≠ "java/lang/invoke/VarHandle") ∧ am_rk (am_meth z).2.2.2.2.1 (am_info z).2.2.1 = true ∧ (am_meth z).2.2.1 + 19 ≤ 64 ∧ (am_meth z).2.2.2.1 ≤ (am_meth z).2.2.1 ∧
    ((am_meth z).2.2.2.2.2 = 0 → Cond.static (am_info z).1 ∈ am_good) ∧ (0 < (am_meth z).2.2.2.2.2 → 0 < (am_meth z).2.2.2.1 ∧ Cond.instanceMethod (am_info z).1 ∈ am_good) ∧ (100 < (am_meth z).2.2.2.2.2 → (am_info z).1.name = "<init>" ∧ (am_info z).2.2.1 = none) ∧
    (0 < (am_meth z).2.2.2.2.2 → (am_meth z).2.2.2.2.2 ≤ 100 → (∃ T N, am_cl[(am_meth z).2.2.2.2.2 - 1]? = some ((am_info z).1.cls, T, N)) ∧ Cond.selects (am_info z).1.cls (am_info z).1 (am_info z).1 ∈ am_good) := by
  have h1 := am_mokz h
  unfold am_mok at h1
  simp only [Bool.and_eq_true, decide_eq_true_eq] at h1
  obtain ⟨⟨⟨⟨⟨⟨⟨⟨a1, a2⟩, a3⟩, a4⟩, a5⟩, a6⟩, a7⟩, a8⟩, a9⟩ := h1
  refine ⟨am_in a1 rfl, a2, a3, ⟨a4, a5⟩, a6, Nat.le_of_ble_eq_true a7, Nat.le_of_ble_eq_true a8, fun h0 => ?_, fun h0 => ?_, fun h0 => ?_, fun h0 h2 => ?_⟩
  · rw [h0] at a9
    exact am_in (show am_w _ _ = true from a9) rfl
  · have hb : Nat.beq (am_meth z).2.2.2.2.2 0 = false := by
      cases hq : Nat.beq (am_meth z).2.2.2.2.2 0 with
      | false => rfl
      | true => have := Nat.eq_of_beq_eq_true hq; omega
    rw [hb] at a9
    simp only [cond_false, Bool.and_eq_true, Nat.blt_eq] at a9
    exact ⟨a9.1.1, am_in a9.1.2 rfl⟩
  · have hb : Nat.beq (am_meth z).2.2.2.2.2 0 = false := by
      cases hq : Nat.beq (am_meth z).2.2.2.2.2 0 with
      | false => rfl
      | true => have := Nat.eq_of_beq_eq_true hq; omega
    have hb2 : Nat.blt 100 (am_meth z).2.2.2.2.2 = true := by rw [Nat.blt_eq]; exact h0
    rw [hb] at a9
    simp only [cond_false, hb2, cond_true, Bool.and_eq_true, beq_iff_eq] at a9
    refine ⟨a9.2.1, ?_⟩
    have hk := a9.2.2
    cases hr : (am_info z).2.2.1 with
    | none => rfl
    | some t => rw [hr] at hk; cases hk
  · have hb : Nat.beq (am_meth z).2.2.2.2.2 0 = false := by
      cases hq : Nat.beq (am_meth z).2.2.2.2.2 0 with
      | false => rfl
      | true => have := Nat.eq_of_beq_eq_true hq; omega
    have hb2 : Nat.blt 100 (am_meth z).2.2.2.2.2 = false := by
      cases hq : Nat.blt 100 (am_meth z).2.2.2.2.2 with
      | false => rfl
      | true => rw [Nat.blt_eq] at hq; omega
    rw [hb] at a9
    simp only [cond_false, hb2, Bool.and_eq_true] at a9
    refine ⟨?_, am_in a9.2.2 rfl⟩
    have hk := a9.2.1
    unfold am_rcc at hk
    cases hc : am_cl[(am_meth z).2.2.2.2.2 - 1]? with
    | none => rw [hc] at hk; cases hk
    | some q =>
      obtain ⟨C, T, N⟩ := q
      rw [hc] at hk
      simp only [Bool.and_eq_true, beq_iff_eq] at hk
      exact ⟨T, N, by rw [hk.1]⟩
theorem am_ofW {l : Launch} {y : MethodName} {ws ws' : List Cond} {rm : Room} {Pc : Array Value → State → Prop} {Qc : Array Value → State → Outcome → State → Prop} {mc ms : Nat} {free : Addr → Prop} {cc : ByteArray} {maxL : Nat} {ret : Option FieldType}
    (hy : plainFor y = true) (hw : ws = Cond.code y cc maxL ret :: ws')
    (body : ∀ p e s m args below meth c s₁, BodyLoose p l y (headSpec ws rm) cc maxL ret e s m args below meth c s₁ → c.maxLocals = maxL → Pc args s →
      W p l e (headSpec ws rm).room s m args below meth c s.heap [] 0 0 (MQ below Qc args s mc ms free) (entryFrame m args maxL)) : Met l y ws rm Pc Qc mc ms free := by
  refine MetFree.of_bodySF (code := cc) (maxLocals := maxL) (ret := ret) hy ?_ ?_
  · intro args s m h hn
    obtain ⟨meth, c, h1, h2, h3, h4, h5, h6, -, -⟩ := Cond.code_spec hn (atoms_spec (ws := ws) h _ (by rw [hw]; exact List.mem_cons_self))
    exact ⟨meth, c, h1, h2, h3, h4, h5, h6⟩
  · intro p e s m args below meth c s₁ B hml hP _
    have hh0 : s₁.heap = s.heap := by rw [B.state]; rfl
    obtain ⟨t, a1, o, b1, b2, b3⟩ := body p e s m args below meth c s₁ B hml hP s₁ hh0 (Stand.of_body B)
    exact ⟨t, o, a1, b1, b2, ⟨b3.1, b3.2⟩⟩
theorem am_args_spec : ∀ (n : Nat) (acc st as rest : List Value), am_args n acc st = some (as, rest) → ∃ ts, as = ts.reverse ++ acc ∧ st = ts ++ rest ∧ ts.length = n
  | 0, acc, st, as, rest, h => by
    cases h
    exact ⟨[], rfl, rfl, rfl⟩
  | n + 1, acc, [], as, rest, h => by cases h
  | n + 1, acc, v :: st, as, rest, h => by
    obtain ⟨ts, h1, h2, h3⟩ := am_args_spec n (v :: acc) st as rest h
    exact ⟨v :: ts, by rw [h1]; simp, by rw [h2]; rfl, by rw [List.length_cons, h3]⟩
theorem am_lvargs {base : Nat} {tS : Nat → Nat} : ∀ (as : List Value) (j : Nat), as.all am_c1 = true → ∀ (i : Nat) (v : Value), as[i]? = some v → (j + i, am_v base tS v) ∈ lv_args j (as.map (am_v base tS))
  | [], j, h, i, v, hv => by simp at hv
  | u :: as, j, h, i, v, hv => by
    simp only [List.all_cons, Bool.and_eq_true] at h
    have hcat : ¬ (am_v base tS u).category = 2 := by
      rw [am_cat]
      have h1 := h.1
      cases u <;> first | (simp [Value.category]; done) | (cases h1)
    show (j + i, am_v base tS v) ∈ (j, am_v base tS u) :: lv_args (if (am_v base tS u).category = 2 then j + 2 else j + 1) (as.map (am_v base tS))
    rw [if_neg hcat]
    cases i with
    | zero =>
      have : u = v := by simpa using hv
      subst this
      exact List.mem_cons_self
    | succ i =>
      have := am_lvargs (base := base) (tS := tS) as (j + 1) h.2 i v (by simpa using hv)
      rw [show j + 1 + i = j + (i + 1) by omega] at this
      exact List.mem_cons_of_mem _ this
theorem am_lgsl {base : Nat} {tS : Nat → Nat} : ∀ (as : List Value), as.all am_c1 = true → (lg_sl (as.map (am_v base tS))).length = as.length
  | [], _ => rfl
  | u :: as, h => by
    simp only [List.all_cons, Bool.and_eq_true] at h
    have hcat : ¬ (am_v base tS u).category = 2 := by
      rw [am_cat]
      have h1 := h.1
      cases u <;> first | (simp [Value.category]; done) | (cases h1)
    have ih := am_lgsl (base := base) (tS := tS) as h.2
    unfold lg_sl at ih ⊢
    simp only [List.map_cons, List.flatMap_cons, if_neg hcat, List.length_append, List.length_cons, List.length_nil, ih]
    omega
theorem am_L.entry {base : Nat} {tS : Nat → Nat} {z : Nat} {as : List Value} (h : as.all am_c1 = true) (hl : as.length ≤ (am_meth z).2.2.1) : am_L base tS (am_entry z as) ((lg_sl (as.map (am_v base tS)) ++ List.replicate ((am_meth z).2.2.1 - (lg_sl (as.map (am_v base tS))).length) Slot.unset).toArray) (am_meth z).2.2.1 := by
  have hlen := am_lgsl (base := base) (tS := tS) as h
  have he := lv_entry (as.map (am_v base tS)) (n := (am_meth z).2.2.1) (by rw [hlen]; exact hl)
  refine ⟨by unfold am_entry; rw [List.length_append, List.length_map, List.length_replicate]; omega, he.1, he.2.1, fun i v hv => ?_⟩
  unfold am_entry at hv
  by_cases hi : i < as.length
  · rw [List.getElem?_append_left (by rw [List.length_map]; exact hi), List.getElem?_map] at hv
    have hv' : as[i]? = some v := by
      cases hq : as[i]? with
      | none => rw [hq] at hv; cases hv
      | some u => rw [hq] at hv; cases hv; rfl
    have := am_lvargs (base := base) (tS := tS) as 0 h i v hv'
    rw [Nat.zero_add] at this
    exact he.2.2 _ this
  · rw [List.getElem?_append_right (by rw [List.length_map]; omega)] at hv
    have := List.mem_of_getElem? hv
    rw [List.mem_replicate] at this
    cases this.2
def am_Good (f : Nat) : Prop := ∀ (d z : Nat) (g : am_G) (r : Option Value) (h' : am_H), z < am_count → am_run f d z g = some (r, h') → (g.2.2.2.1 ≤ h'.1 ∧ g.2.2.2.2.1 ≤ h'.2.1) ∧ ∀ (p : Program) (l : Launch) (e : Env) (R : Room) (s : State) (m : MethodId) (args : Array Value) (below : List Frame) (meth : Method) (c : Code) (D : va_G) (cA : Nat → ClassId) (tS : Nat → Nat) (base n0 s0 : Nat),
  am_Ctx p s m args meth c D cA tS base z → R.frames = d ∧ 64 * d ≤ R.locals → n0 ≤ g.2.2.2.1 ∧ s0 ≤ g.2.2.2.2.1 → R.cells = h'.1 - n0 ∧ R.slots = h'.2.1 - s0 → am_At p l e R s m args below meth c D cA tS base z (MQ below (am_Q D cA tS base h' r) args s (h'.1 - n0) (h'.2.1 - s0) (fun q => base ≤ q)) n0 s0 g
/-- a run from the start, as a contract -/
theorem am_met {f d z : Nat} (ih : am_Good f) (hz : z < am_count) {as : List Value} {h h1 : am_H} {r : Option Value} (hc : as.all am_c1 = true) (hn : as.length = (am_meth z).2.2.2.1) (hrun : am_run f d z (0, am_entry z as, [], h) = some (r, h1)) (l : Launch) (D : va_G) (cA : Nat → ClassId) (tS : Nat → Nat) (base : Nat) : (h.1 ≤ h1.1 ∧ h.2.1 ≤ h1.2.1) ∧ Met l (am_info z).1 (am_ws z) (am_rm d (h1.1 - h.1) (h1.2.1 - h.2.1)) (am_Pc D cA tS base as h) (am_Q D cA tS base h1 r) (h1.1 - h.1) (h1.2.1 - h.2.1) (fun q => base ≤ q) := by
  obtain ⟨hm, hW⟩ := ih d z _ r h1 hz hrun
  have mf := am_mfacts hz
  refine ⟨hm, am_ofW (cc := (am_info z).2.1) (maxL := (am_meth z).2.2.1) (ret := (am_info z).2.2.1) mf.2.2.1 rfl ?_⟩
  intro p e s m args below meth c s₁ B hml hv
  obtain ⟨hv1, hX, hR⟩ := hv
  subst hv1
  have hts := atoms_spec (ws := am_ws z) B.pre
  have C : am_Ctx p s m (as.map (am_v base tS)).toArray meth c D cA tS base z := ⟨B.exec, B.bytes, hml, B.returns, findClass_of_methodNamed B.named, fun w hw => hts w (List.mem_cons_of_mem _ hw), B.notSynchronized, (name_of_methodNamed B.named B.method).1, hX, hz⟩
  have k := hW p l e (headSpec (am_ws z) (am_rm d (h1.1 - h.1) (h1.2.1 - h.2.1))).room s m _ below meth c D cA tS base h.1 h.2.1 C ⟨rfl, Nat.le_refl _⟩ ⟨Nat.le_refl _, Nat.le_refl _⟩ ⟨rfl, rfl⟩
  rw [lg_entry_eq]
  have k1 := k s.heap [] _ ⟨hR, fun _ _ => rfl, (fun _ h => by cases h), am_L.entry hc (by rw [hn]; exact mf.2.2.2.2.2.2.1)⟩
  dsimp only at k1
  rw [Nat.sub_self, Nat.sub_self] at k1
  exact k1
theorem am_rcv_1 {z : Nat} {h : am_H} {as : List Value} (q : am_rcv 1 z as h = true) : ∃ (b : Nat) (as' : List Value), as = .ref b :: as' ∧ 100 < (am_meth z).2.2.2.2.2 := by
  unfold am_rcv at q
  rw [Bool.and_eq_true] at q
  cases as with
  | nil => exact Bool.noConfusion (show false = true from q.2)
  | cons v t =>
    cases v with
    | ref b =>
      have h2 : Nat.blt 100 (am_meth z).2.2.2.2.2 = true := q.2
      rw [Nat.blt_eq] at h2
      exact ⟨b, t, rfl, h2⟩
    | _ => exact Bool.noConfusion (show false = true from q.2)
theorem am_rcv_2 {z : Nat} {h : am_H} {as : List Value} (q : am_rcv 2 z as h = true) : ∃ (b : Nat) (as' : List Value) (ci : Nat) (fs : List Value), as = .ref b :: as' ∧ b < h.1 ∧ h.2.2 b = .inr (ci, fs) ∧ ci + 1 = (am_meth z).2.2.2.2.2 := by
  unfold am_rcv at q
  rw [Bool.and_eq_true] at q
  cases as with
  | nil => exact Bool.noConfusion (show false = true from q.2)
  | cons v t =>
    cases v with
    | ref b =>
      have h2 : (Nat.blt b h.1 && (match h.2.2 b with
          | .inr (ci, _) => Nat.beq (ci + 1) (am_meth z).2.2.2.2.2
          | _ => false)) = true := q.2
      rw [Bool.and_eq_true, Nat.blt_eq] at h2
      cases hc : h.2.2 b with
      | inl x => rw [hc] at h2; exact Bool.noConfusion h2.2
      | inr x =>
        obtain ⟨ci, fs⟩ := x
        rw [hc] at h2
        exact ⟨b, t, ci, fs, rfl, h2.1, hc, Nat.eq_of_beq_eq_true h2.2⟩
    | _ => exact Bool.noConfusion (show false = true from q.2)
section AME
variable {p : Program} {l : Launch} {e : Env} {R : Room} {s : State} {m : MethodId} {args : Array Value} {below : List Frame} {meth : Method} {c : Code} {D : va_G} {cA : Nat → ClassId} {tS : Nat → Nat} {base z d n0 s0 : Nat} {Q : State → Prop} {H : Heap} {locs : List Loc} {cells slots mc ms pc : Nat} {ls : Array Slot} {st0 rest : List Value} {h1 : am_H} {r : Option Value} {a : Array Value}
theorem am_cont (hr : va_Run p l e R s m args below meth c H locs cells slots mc ms (F0 m pc ls st0) rest (am_Q D cA tS base h1 r a) (fun q => base ≤ q)) (hL : ∀ x ∈ locs, base ≤ x.base)
    (kk : ∀ (H1 : Heap) (locs1 : List Loc), am_R D cA tS base h1 H1 → (∀ q : Nat, q < base → H1[q]? = H[q]?) → (∀ x ∈ locs1, base ≤ x.base) → W p l e R s m args below meth c H1 locs1 (cells + mc) (slots + ms) Q (F0 m (pc + 3) ls ((r.map (am_v base tS)).toList ++ rest))) : W p l e R s m args below meth c H locs cells slots Q (F0 m pc ls st0) := by
  intro T hT X
  obtain ⟨v, st₀, t, T', L, h0, X', hLq, e1, e2, ⟨hv, hR, hF⟩, st⟩ := hr T hT X
  cases hv
  obtain ⟨t2, a1, b1⟩ := kk T'.heap (locs ++ L) (by rw [e1]; exact hR) (fun q hq => by rw [e1, hF q hq, h0]) (fun x hx => by
    rcases List.mem_append.mp hx with q | q
    · exact hL x q
    · exact hLq x q) T' rfl X'
  exact ⟨t2, st t2 a1, b1⟩
/-- a call, by the callee's contract -/
theorem am_call (C : am_Ctx p s m args meth c D cA tS base z) {i : ClassFile.Instr} {len aux k f : Nat} {L : List (Option Value)} {st as rs : List Value} {h : am_H} (hf : am_fetch z pc = some (i, len, aux)) (hk : am_kind i aux = k) (hk3 : k < 3) (hd0 : d ≠ 0) (ha : am_args (am_meth (aux / 10000)).2.2.2.1 [] st = some (as, rs)) (hrc : am_rcv k (aux / 10000) as h = true) (hsum : (rs.map fun v => v.category).sum ≤ 8)
    (ih : am_Good f) (hrun : am_run f (d - 1) (aux / 10000) (0, am_entry (aux / 10000) as, [], h) = some (r, h1)) (hd : R.frames = d ∧ 64 * d ≤ R.locals) (h0 : n0 ≤ h.1 ∧ s0 ≤ h.2.1) (hr : h1.1 - n0 ≤ R.cells ∧ h1.2.1 - s0 ≤ R.slots)
    (kk : am_At p l e R s m args below meth c D cA tS base z Q n0 s0 (pc + 3, L, r.toList ++ rs, h1)) : am_At p l e R s m args below meth c D cA tS base z Q n0 s0 (pc, L, st, h) := by
  obtain ⟨hx, hb, hml, hrt, hown, hts, hlk, hnm, hX, hz⟩ := C
  obtain ⟨hdc, hln, hres⟩ := am_chkz hz hf
  obtain ⟨ts, ht1, ht2, ht3⟩ := am_args_spec _ _ _ _ _ ha
  rw [List.append_nil] at ht1
  have hlen : as.length = (am_meth (aux / 10000)).2.2.2.1 := by rw [ht1, List.length_reverse, ht3]
  have hzz : aux / 10000 < am_count := by
    unfold am_kind at hk
    split at hk <;> first | omega | (split at hk <;> first | assumption | omega)
  have hrc1 : as.all am_c1 = true := by
    have h9 := hrc
    unfold am_rcv at h9
    rw [Bool.and_eq_true] at h9
    exact h9.1
  have mf := am_mfacts hzz
  obtain ⟨hmono, hM⟩ := am_met ih hzz hrc1 hlen hrun l D cA tS base
  intro H locs ls hS
  dsimp only at hS ⊢
  have hstk : st.map (am_v base tS) = (as.map (am_v base tS)).reverse ++ rs.map (am_v base tS) := by
    rw [ht2, List.map_append, ht1, List.map_reverse, List.reverse_reverse]
  have hwd : 2 * (F0 m pc ls (st.map (am_v base tS))).monitorRoom + ((rs.map (am_v base tS)).map fun v => v.category).sum ≤ 8 := lv_room (by rw [am_sum]; exact hsum)
  have hpre : ∀ U : State, U.heap = H → s.WarmedH U.vm → am_Pc D cA tS base as h (as.map (am_v base tS)).toArray U := fun U hU hW => ⟨rfl, hX.moved hW (fun q hq => by rw [hU]; exact hS.2.1 q hq), by rw [hU]; exact hS.1⟩
  have hroom : (am_rm (d - 1) (h1.1 - h.1) (h1.2.1 - h.2.1)).frames + 1 ≤ R.frames ∧ 8 + ((am_meth (aux / 10000)).2.2.1 + 11) + (am_rm (d - 1) (h1.1 - h.1) (h1.2.1 - h.2.1)).locals ≤ R.locals := by
    have m64 := mf.2.2.2.2.2.1
    constructor
    · show d - 1 + 1 ≤ R.frames
      rw [hd.1]; omega
    · show 8 + ((am_meth (aux / 10000)).2.2.1 + 11) + 64 * (d - 1) ≤ R.locals
      have := hd.2
      omega
  have S : CallFix p m c (am_info z).2.1 (am_meth z).2.2.1 s args am_good (am_info z).1.cls := ⟨hx, hb, hml, hown, hts⟩
  have hcs : h.1 - n0 + (h1.1 - h.1) = h1.1 - n0 ∧ h.2.1 - s0 + (h1.2.1 - h.2.1) = h1.2.1 - s0 := by omega
  have fin : ∀ {a : Array Value}, va_Run p l e R s m args below meth c H locs (h.1 - n0) (h.2.1 - s0) (h1.1 - h.1) (h1.2.1 - h.2.1) (F0 m pc ls (st.map (am_v base tS))) (rs.map (am_v base tS)) (am_Q D cA tS base h1 r a) (fun q => base ≤ q) → W p l e R s m args below meth c H locs (h.1 - n0) (h.2.1 - s0) Q (F0 m pc ls (st.map (am_v base tS))) := by
    intro a hrn
    refine am_cont hrn hS.2.2.1 (fun H1 locs1 hR1 hF1 hL1 => ?_)
    have k1 := kk H1 locs1 ls ⟨hR1, fun q hq => (hF1 q hq).trans (hS.2.1 q hq), hL1, hS.2.2.2⟩
    dsimp only at k1
    rw [hcs.1, hcs.2]
    have e1 : (r.map (am_v base tS)).toList ++ rs.map (am_v base tS) = (r.toList ++ rs).map (am_v base tS) := by cases r <;> rfl
    rw [e1]
    exact k1
  have hf2 : h.1 - n0 + (h1.1 - h.1) ≤ R.cells ∧ h.2.1 - s0 + (h1.2.1 - h.2.1) ≤ R.slots := by rw [hcs.1, hcs.2]; exact hr
  unfold am_kind at hk
  split at hk
  · rename_i n
    split at hk
    · subst hk
      have hrc0 : (am_meth (aux / 10000)).2.2.2.2.2 = 0 := Nat.eq_of_beq_eq_true (by have h9 := hrc; unfold am_rcv at h9; rw [Bool.and_eq_true] at h9; exact h9.2)
      have hl3 : len = 3 := by
        rcases hln with q | q
        · exact absurd (show (3 : Nat) = 0 from q) (by decide)
        · exact (show (3 : Nat) = len from q).symm
      subst hl3
      have hpl := mf.2.1
      rw [if_pos hrc0, Nat.sub_zero] at hpl
      have hres' : ((Nat.beq (aux / 10000) 1001 && am_w (aux % 10000) (.methodLink (am_info z).1.cls n arraycopyName)) || (Nat.blt (aux / 10000) am_count && am_mlk (am_info z).1.cls n aux)) = true := hres
      have hno : Nat.beq (aux / 10000) 1001 = false := by
        cases hq : Nat.beq (aux / 10000) 1001 with
        | false => rfl
        | true => have h9 := Nat.eq_of_beq_eq_true hq; have h8 : aux / 10000 < 173 := hzz; omega
      rw [hno, Bool.false_and, Bool.false_or, Bool.and_eq_true] at hres'
      have hml2 := hres'.2
      unfold am_mlk at hml2
      rw [Bool.or_eq_true] at hml2
      rcases hml2 with q | q
      · exact fin (va_runS S hM ⟨callB_of _ hts (am_goodIn hzz) rfl rfl rfl (hts _ mf.1) (hts _ (am_in q rfl)) ⟨mf.2.2.2.1.1, mf.2.2.2.1.2, hpl⟩ hroom, hts _ (mf.2.2.2.2.2.2.2.1 hrc0)⟩ ⟨am_blind, hpre⟩ rfl (by rw [List.length_map]; exact hlen) hS.2.2.2.2.1 hstk hwd hdc hf2)
      · exact fin (va_runSN S hM ⟨va_cnB _ hts (am_goodIn hzz) rfl rfl rfl (hX.2.2.1 _ (am_inN q)) (hts _ mf.1) ⟨mf.2.2.2.1.1, mf.2.2.2.1.2, hpl⟩ hroom, hts _ (mf.2.2.2.2.2.2.2.1 hrc0), trivial⟩ ⟨am_blind, hpre⟩ rfl (by rw [List.length_map]; exact hlen) hS.2.2.2.2.1 hstk hwd hdc hf2)
    · omega
  · rename_i n
    split at hk
    · subst hk
      obtain ⟨b, as', has, hrc2⟩ := am_rcv_1 hrc
      subst has
      · skip
        have hl3 : len = 3 := by
          rcases hln with q | q
          · exact absurd (show (3 : Nat) = 0 from q) (by decide)
          · exact (show (3 : Nat) = len from q).symm
        subst hl3
        have hpl := mf.2.1
        rw [if_neg (by omega)] at hpl
        have hini := mf.2.2.2.2.2.2.2.2.2.1 hrc2
        have hrt2 := hini.2
        have hG := am_goodIn hzz
        have hM2 := hM
        unfold am_ws at hG hM2
        rw [hrt2] at hG hM2
        have hres' : ((Nat.beq (aux / 10000) 1000 && am_w (aux % 10000) (.methodLink (am_info z).1.cls n Lib.objectInit)) || (Nat.blt (aux / 10000) am_count && am_mlk (am_info z).1.cls n aux)) = true := hres
        have hno : Nat.beq (aux / 10000) 1000 = false := by
          cases hq : Nat.beq (aux / 10000) 1000 with
          | false => rfl
          | true => have h9 := Nat.eq_of_beq_eq_true hq; have h8 : aux / 10000 < 173 := hzz; omega
        rw [hno, Bool.false_and, Bool.false_or, Bool.and_eq_true] at hres'
        have hml2 := hres'.2
        unfold am_mlk at hml2
        rw [Bool.or_eq_true] at hml2
        have hn2 : (as'.map (am_v base tS)).length = (am_meth (aux / 10000)).2.2.2.1 - 1 := by
          rw [List.length_map]
          rw [List.length_cons] at hlen
          omega
        have hstk2 : (F0 m pc ls (st.map (am_v base tS))).stack = (as'.map (am_v base tS)).reverse ++ Value.ref (base + b) :: rs.map (am_v base tS) := by
          show st.map (am_v base tS) = _
          rw [hstk]
          show ((Value.ref (base + b)) :: as'.map (am_v base tS)).reverse ++ rs.map (am_v base tS) = _
          rw [List.reverse_cons, List.append_assoc]
          rfl
        rcases hml2 with q | q
        · exact fin (va_runI S hM2 ⟨callB_of _ hts hG rfl rfl rfl (hts _ mf.1) (hts _ (am_in q rfl)) ⟨mf.2.2.2.1.1, mf.2.2.2.1.2, hpl⟩ hroom, hini.1, hts _ (mf.2.2.2.2.2.2.2.2.1 (by omega)).2⟩ ⟨am_blind, hpre⟩ rfl hn2 hS.2.2.2.2.1 hstk2 hwd hdc hf2)
        · exact fin (va_runIN S hM2 ⟨va_cnB _ hts hG rfl rfl rfl (hX.2.2.1 _ (am_inN q)) (hts _ mf.1) ⟨mf.2.2.2.1.1, mf.2.2.2.1.2, hpl⟩ hroom, hini.1, hts _ (mf.2.2.2.2.2.2.2.2.1 (by omega)).2⟩ ⟨am_blind, hpre⟩ rfl hn2 hS.2.2.2.2.1 hstk2 hwd hdc hf2)
    · omega
  · rename_i n
    split at hk
    · subst hk
      obtain ⟨b, as', ci, fs, has, hbl, heq, hcr⟩ := am_rcv_2 hrc
      subst has
      · skip
        · skip
          have hl3 : len = 3 := by
            rcases hln with q | q
            · exact absurd (show (3 : Nat) = 0 from q) (by decide)
            · exact (show (3 : Nat) = len from q).symm
          subst hl3
          have hpl := mf.2.1
          rw [if_neg (by omega)] at hpl
          by_cases hle : (am_meth (aux / 10000)).2.2.2.2.2 ≤ 100
          · obtain ⟨⟨T, N, hcl⟩, hsel⟩ := mf.2.2.2.2.2.2.2.2.2.2 (by omega) hle
            rw [← hcr, Nat.add_sub_cancel] at hcl
            have hres' : (Nat.blt (aux / 10000) am_count && am_mlk (am_info z).1.cls n aux) = true := hres
            rw [Bool.and_eq_true] at hres'
            have hml2 := hres'.2
            unfold am_mlk at hml2
            rw [Bool.or_eq_true] at hml2
            have hn2 : (as'.map (am_v base tS)).length = (am_meth (aux / 10000)).2.2.2.1 - 1 := by
              rw [List.length_map]
              rw [List.length_cons] at hlen
              omega
            have hstk2 : (F0 m pc ls (st.map (am_v base tS))).stack = (as'.map (am_v base tS)).reverse ++ Value.ref (base + b) :: rs.map (am_v base tS) := by
              show st.map (am_v base tS) = _
              rw [hstk]
              show ((Value.ref (base + b)) :: as'.map (am_v base tS)).reverse ++ rs.map (am_v base tS) = _
              rw [List.reverse_cons, List.append_assoc]
              rfl
            rcases hml2 with q | q
            · exact fin (va_runV S hM ⟨callB_of _ hts (am_goodIn hzz) rfl rfl rfl (hts _ mf.1) (hts _ (am_in q rfl)) ⟨mf.2.2.2.1.1, mf.2.2.2.1.2, hpl⟩ hroom, hts _ (mf.2.2.2.2.2.2.2.2.1 (by omega)).2, hts _ hsel⟩ ⟨am_blind, va_recv hX.1 (hS.1.one hbl heq) hcl (q0 := 0) rfl, hpre⟩ rfl hn2 hS.2.2.2.2.1 hstk2 hwd hdc hf2)
            · exact fin (va_runVN S hM ⟨va_cnB _ hts (am_goodIn hzz) rfl rfl rfl (hX.2.2.1 _ (am_inN q)) (hts _ mf.1) ⟨mf.2.2.2.1.1, mf.2.2.2.1.2, hpl⟩ hroom, hts _ (mf.2.2.2.2.2.2.2.2.1 (by omega)).2, hts _ hsel⟩ ⟨am_blind, va_recv hX.1 (hS.1.one hbl heq) hcl (q0 := 0) rfl, hpre⟩ rfl hn2 hS.2.2.2.2.1 hstk2 hwd hdc hf2)
          · exfalso
            have : ci < 13 := by
              have h9 := hS.1.2 b hbl
              have heq' : (pc, L, st, h).2.2.2.2.2 b = Sum.inr (ci, fs) := heq
              rw [heq'] at h9
              obtain ⟨r9, hr9, -⟩ := h9
              exact (List.getElem?_eq_some_iff.mp hr9).1
            omega
    · omega
  all_goals omega
/-- a return -/
theorem am_retn (C : am_Ctx p s m args meth c D cA tS base z) {i : ClassFile.Instr} {len aux : Nat} {L : List (Option Value)} {st : List Value} {h h' : am_H} (hf : am_fetch z pc = some (i, len, aux)) (hs : am_ret z i st h = some (r, h')) (hr : R.cells = h'.1 - n0 ∧ R.slots = h'.2.1 - s0) : h = h' ∧ am_At p l e R s m args below meth c D cA tS base z (MQ below (am_Q D cA tS base h' r) args s (h'.1 - n0) (h'.2.1 - s0) (fun q => base ≤ q)) n0 s0 (pc, L, st, h) := by
  obtain ⟨hx, hb, hml, hrt, hown, hts, hlk, hnm, hX, hz⟩ := C
  obtain ⟨hdc, hln, hres⟩ := am_chkz hz hf
  have mf := am_mfacts hz
  have hrk := mf.2.2.2.2.1
  rw [← hrt] at hrk
  have hl1 : am_len i = 1 → len = 1 := by
    intro q
    rcases hln with w | w
    · have w' : am_len i = 0 := w
      omega
    · have w' : am_len i = len := w
      omega
  unfold am_ret at hs
  split at hs
  · rename_i v
    split at hs
    · rename_i hq
      cases hs
      have := hl1 rfl
      subst this
      refine ⟨rfl, fun H locs ls hS => ?_⟩
      have hty : ∃ ty, meth.sig.returnType = some ty ∧ narrow ty (.int v) = .int v := by
        rcases hq with q | ⟨q1, q2⟩
        · rw [q] at hrk
          cases hr9 : meth.sig.returnType with
          | none => rw [hr9] at hrk; cases hrk
          | some t => rw [hr9] at hrk; cases t <;> first | exact ⟨_, rfl, rfl⟩ | (cases hrk)
        · rw [q1] at hrk
          cases hr9 : meth.sig.returnType with
          | none => rw [hr9] at hrk; cases hrk
          | some t =>
            rw [hr9] at hrk
            cases t <;> first | (refine ⟨_, rfl, ?_⟩; rcases q2 with q | q <;> subst q <;> rfl) | (cases hrk)
      obtain ⟨ty, ht1, ht2⟩ := hty
      exact W.zret hx hb ht1 ht2 (fun t ht hW => ⟨rfl, by rw [ht]; exact hS.1, fun q hq => by rw [ht]; exact hS.2.1 q hq⟩) hS.2.2.1 hdc hlk
    · cases hs
  · rename_i v
    split at hs
    · rename_i hq
      cases hs
      have := hl1 rfl
      subst this
      refine ⟨rfl, fun H locs ls hS => ?_⟩
      rw [hq] at hrk
      have ht1 : meth.sig.returnType = some .long := by
        cases hr9 : meth.sig.returnType with
        | none => rw [hr9] at hrk; cases hrk
        | some t => rw [hr9] at hrk; cases t <;> first | rfl | (cases hrk)
      exact W.lret hx hb ht1 (fun t ht hW => ⟨rfl, by rw [ht]; exact hS.1, fun q hq => by rw [ht]; exact hS.2.1 q hq⟩) hS.2.2.1 hdc hlk
    · cases hs
  · rename_i v
    split at hs
    · rename_i hq
      cases hs
      have := hl1 rfl
      subst this
      refine ⟨rfl, fun H locs ls hS => ?_⟩
      rw [hq] at hrk
      have ht1 : ∃ n, meth.sig.returnType = some (.object n) := by
        cases hr9 : meth.sig.returnType with
        | none => rw [hr9] at hrk; cases hrk
        | some t => rw [hr9] at hrk; cases t <;> first | exact ⟨_, rfl⟩ | (cases hrk)
      obtain ⟨n, ht1⟩ := ht1
      exact W.aret hx hb ht1 (Or.inl ⟨n, rfl⟩) (Or.inr ⟨base + v, rfl⟩) (fun t ht hW => ⟨rfl, by rw [ht]; exact hS.1, fun q hq => by rw [ht]; exact hS.2.1 q hq⟩) hS.2.2.1 hdc hlk
    · cases hs
  · split at hs
    · rename_i hq
      cases hs
      have := hl1 rfl
      subst this
      refine ⟨rfl, fun H locs ls hS => ?_⟩
      rw [hq] at hrk
      have ht1 : ∃ n, meth.sig.returnType = some (.object n) := by
        cases hr9 : meth.sig.returnType with
        | none => rw [hr9] at hrk; cases hrk
        | some t => rw [hr9] at hrk; cases t <;> first | exact ⟨_, rfl⟩ | (cases hrk)
      obtain ⟨n, ht1⟩ := ht1
      exact W.aret hx hb ht1 (Or.inl ⟨n, rfl⟩) (Or.inl rfl) (fun t ht hW => ⟨rfl, by rw [ht]; exact hS.1, fun q hq => by rw [ht]; exact hS.2.1 q hq⟩) hS.2.2.1 hdc hlk
    · cases hs
  · split at hs
    · rename_i hq
      cases hs
      have := hl1 rfl
      subst this
      refine ⟨rfl, fun H locs ls hS => ?_⟩
      rw [hq] at hrk
      have ht1 : meth.sig.returnType = none := by
        cases hr9 : meth.sig.returnType with
        | none => rfl
        | some t => rw [hr9] at hrk; cases hrk
      exact W.vret hx hb ht1 (fun t ht hW => ⟨rfl, by rw [ht]; exact hS.1, fun q hq => by rw [ht]; exact hS.2.1 q hq⟩) hS.2.2.1 hdc hlk
    · cases hs
  · cases hs
end AME
theorem am_ret_h {z : Nat} {i : ClassFile.Instr} {st : List Value} {h h' : am_H} {r : Option Value} (hs : am_ret z i st h = some (r, h')) : h = h' := by
  unfold am_ret at hs
  split at hs <;> first | (cases hs; done) | (split at hs <;> first | (cases hs; done) | (cases hs; rfl))
set_option maxHeartbeats 2000000 in
theorem am_sound : ∀ f : Nat, am_Good f
  | 0 => fun d z g r h' hz h => by cases h
  | f + 1 => by
    intro d z g r h' hz h
    have ih := am_sound f
    obtain ⟨pc, L, st, hh⟩ := g
    unfold am_run at h
    dsimp only at h
    cases hf : am_fetch z pc with
    | none => rw [hf] at h; cases h
    | some e0 =>
      obtain ⟨i, len, aux⟩ := e0
      rw [hf] at h
      dsimp only at h
      split at h
      · cases hst : am_step d i aux pc L st hh with
        | none => rw [hst] at h; cases h
        | some g' =>
          rw [hst] at h
          dsimp only at h
          obtain ⟨hm, hW⟩ := ih d z g' r h' hz h
          have hm2 := am_step_mono hst
          refine ⟨⟨Nat.le_trans hm2.1 hm.1, Nat.le_trans hm2.2 hm.2⟩, ?_⟩
          intro p l e R s m args below meth c D cA tS base n0 s0 C hd h0 hr
          dsimp only at h0
          exact am_step_ok C hf hst hd h0 (by rw [hr.1, hr.2]; omega) (hW p l e R s m args below meth c D cA tS base n0 s0 C hd (by omega) hr)
      · have he := am_ret_h h
        subst he
        refine ⟨⟨Nat.le_refl _, Nat.le_refl _⟩, ?_⟩
        intro p l e R s m args below meth c D cA tS base n0 s0 C hd h0 hr
        exact (am_retn C hf h hr).2
      · rename_i k hk9 hk3
        split at h
        · cases h
        · rename_i hd0
          split at h
          · rename_i as rs ha
            split at h
            · rename_i hcd
              split at h
              · rename_i r1 h1 hrun
                obtain ⟨hm, hW⟩ := ih d z _ r h' hz h
                dsimp only at hm
                have hkk : am_kind i aux < 3 := by
                  unfold am_kind at hk9 hk3 ⊢
                  split <;> first | omega | skip
                  all_goals (first | (split <;> first | omega | skip) | skip)
                  all_goals simp_all
                have hzz : aux / 10000 < am_count := by
                  unfold am_kind at hk9 hk3
                  split at hk9 <;> first | (exact absurd rfl hk3) | (exact absurd rfl hk9) | (split at hk9 <;> first | assumption | (exact absurd rfl hk9))
                obtain ⟨ts, ht1, ht2, ht3⟩ := am_args_spec _ _ _ _ _ ha
                rw [List.append_nil] at ht1
                have hlen : as.length = (am_meth (aux / 10000)).2.2.2.1 := by rw [ht1, List.length_reverse, ht3]
                have hc1 : as.all am_c1 = true := by
                  have h9 := hcd.1
                  unfold am_rcv at h9
                  rw [Bool.and_eq_true] at h9
                  exact h9.1
                have hm1 := (ih (d - 1) _ _ r1 h1 hzz hrun).1
                dsimp only at hm1
                refine ⟨⟨Nat.le_trans hm1.1 hm.1, Nat.le_trans hm1.2 hm.2⟩, ?_⟩
                intro p l e R s m args below meth c D cA tS base n0 s0 C hd h0 hr
                dsimp only at h0
                exact am_call C hf rfl hkk hd0 ha hcd.1 hcd.2 ih hrun hd h0 (by rw [hr.1, hr.2]; omega) (hW p l e R s m args below meth c D cA tS base n0 s0 C hd (by dsimp only; omega) hr)
              · cases h
            · cases h
          · cases h
