/-! calls from the law -/
def lw_C (p : Program) (s : State) (m : MethodId) (meth : Method) (c : Code) (b L : Nat) (xs : Nat → Int32) (D : va_G) (cA : Nat → ClassId) (tS : Nat → Nat) : Prop :=
  p.tables.exec = Jvm.exec ∧ c.code = code ∧ meth.sig.returnType = ret ∧ c.maxLocals = 4 ∧ s.vm.findClass R_law = some m.cls ∧ (∀ w ∈ am_good, w.before #[Value.ref b] s = true) ∧ va_X b L xs s s.heap ∧ b < s.heap.size ∧ meth.locks = false ∧ am_X D cA tS s.heap.size s
def lw_S (D : va_G) (cA : Nat → ClassId) (tS : Nat → Nat) (s : State) (h : am_H) (H : Heap) (locs : List Loc) : Prop :=
  am_R D cA tS s.heap.size h H ∧ (∀ q : Nat, q < s.heap.size → H[q]? = s.heap[q]?) ∧ (∀ x ∈ locs, s.heap.size ≤ x.base)
section LWC
variable {p : Program} {l : Launch} {e : Env} {s : State} {m : MethodId} {below : List Frame} {meth : Method} {c : Code} {b L : Nat} {xs : Nat → Int32} {D : va_G} {cA : Nat → ClassId} {tS : Nat → Nat} {Q : State → Prop} {H : Heap} {locs : List Loc} {ls : Array Slot} {rest : List Value} {pc : Nat} {h h1 : am_H}
theorem lw_S.vaS (hS : lw_S D cA tS s h H locs) : va_S (fun q : Nat => s.heap.size ≤ q) s.heap H locs := ⟨by rw [hS.1.1]; omega, fun q hq _ => hS.2.1 q hq, hS.2.2⟩
theorem lw_sum (hls : ls.size = 4) {st : List Value} (hsum : (rest.map fun v => v.category).sum ≤ 8) : 2 * (F0 m pc ls st).monitorRoom + (rest.map fun v => v.category).sum ≤ 8 := lv_room hsum
theorem lw_call (C : lw_C p s m meth c b L xs D cA tS) {z d n b0 : Nat} {as : List Value} {r : Option Value} (hS : lw_S D cA tS s h H locs) (hz : z < am_count) (hm : am_m d z (.ref b0 :: as) h r h1) (hrc : am_rcv 2 z (.ref b0 :: as) h = true) (hlen : as.length + 1 = (am_meth z).2.2.2.1) (hle : 0 < (am_meth z).2.2.2.2.2 ∧ (am_meth z).2.2.2.2.2 ≤ 100) (hlk : Cond.methodLink R_law n (am_info z).1 ∈ am_good) (hdc : decode code pc = .ok (.invokevirtual n, 3)) (hd : d + 1 ≤ 2048 ∧ 64 * d + 64 ≤ 84000) (hr : h1.1 ≤ 600000 ∧ h1.2.1 ≤ 7302249) (hsum : (rest.map fun v => v.category).sum ≤ 8) (hls : ls.size = 4)
    (kk : ∀ (H1 : Heap) (locs1 : List Loc), lw_S D cA tS s h1 H1 locs1 → W p l e room_1 s m #[Value.ref b] below meth c H1 locs1 h1.1 h1.2.1 Q (F0 m (pc + 3) ls ((r.map (am_v s.heap.size tS)).toList ++ rest))) : W p l e room_1 s m #[Value.ref b] below meth c H locs h.1 h.2.1 Q (F0 m pc ls ((as.map (am_v s.heap.size tS)).reverse ++ Value.ref (s.heap.size + b0) :: rest)) := by
  obtain ⟨hx, hb, hrt, hml, hown, hts, hscr, hbl, hlocks, hX⟩ := C
  obtain ⟨f, hrun⟩ := hm
  have hrc1 : (Value.ref b0 :: as).all am_c1 = true := by
    have h9 := hrc
    unfold am_rcv at h9
    rw [Bool.and_eq_true] at h9
    exact h9.1
  have mf := am_mfacts hz
  obtain ⟨hmono, hM⟩ := am_met (am_sound f) hz hrc1 (by rw [List.length_cons]; exact hlen) hrun l D cA tS s.heap.size
  have S : CallFix p m c code 4 s #[Value.ref b] am_good R_law := ⟨hx, hb, hml, hown, hts⟩
  have hpre : ∀ U : State, U.heap = H → s.WarmedH U.vm → am_Pc D cA tS s.heap.size (.ref b0 :: as) h ((Value.ref b0 :: as).map (am_v s.heap.size tS)).toArray U := fun U hU hW => ⟨rfl, hX.moved hW (fun q hq => by rw [hU]; exact hS.2.1 q hq), by rw [hU]; exact hS.1⟩
  have hroom : (am_rm d (h1.1 - h.1) (h1.2.1 - h.2.1)).frames + 1 ≤ room_1.frames ∧ 8 + ((am_meth z).2.2.1 + 11) + (am_rm d (h1.1 - h.1) (h1.2.1 - h.2.1)).locals ≤ room_1.locals := by
    have m64 := mf.2.2.2.2.2.1
    constructor
    · show d + 1 ≤ 2048
      exact hd.1
    · show 8 + ((am_meth z).2.2.1 + 11) + 64 * d ≤ 84000
      have := hd.2
      omega
  have hf2 : h.1 + (h1.1 - h.1) ≤ room_1.cells ∧ h.2.1 + (h1.2.1 - h.2.1) ≤ room_1.slots := by
    show h.1 + (h1.1 - h.1) ≤ 600000 ∧ h.2.1 + (h1.2.1 - h.2.1) ≤ 7302249
    omega
  obtain ⟨b', as', ci, fs, has, hbl', heq, hcr⟩ := am_rcv_2 hrc
  cases has
  obtain ⟨⟨T, N, hcl⟩, hsel⟩ := mf.2.2.2.2.2.2.2.2.2.2 hle.1 hle.2
  rw [← hcr, Nat.add_sub_cancel] at hcl
  have hpl := mf.2.1
  rw [if_neg (by omega)] at hpl
  have hn2 : (as.map (am_v s.heap.size tS)).length = (am_meth z).2.2.2.1 - 1 := by rw [List.length_map]; omega
  have hrn := va_runV (H := H) (locs := locs) (below := below) (meth := meth) (e := e) (cells := h.1) (slots := h.2.1) (rest := rest) (g := F0 m pc ls ((as.map (am_v s.heap.size tS)).reverse ++ Value.ref (s.heap.size + b0) :: rest)) (R := room_1) S hM ⟨callB_of _ hts (am_goodIn hz) rfl rfl rfl (hts _ mf.1) (hts _ hlk) ⟨mf.2.2.2.1.1, mf.2.2.2.1.2, hpl⟩ hroom, hts _ (mf.2.2.2.2.2.2.2.2.1 hle.1).2, hts _ hsel⟩ ⟨am_blind, va_recv hX.1 (hS.1.one hbl' heq) hcl (q0 := 0) rfl, hpre⟩ rfl hn2 hls rfl (lw_sum hls hsum) hdc hf2
  refine am_cont hrn hS.2.2 (fun H1 locs1 hR1 hF1 hL1 => ?_)
  have e1 : h.1 + (h1.1 - h.1) = h1.1 := by omega
  have e2 : h.2.1 + (h1.2.1 - h.2.1) = h1.2.1 := by omega
  rw [e1, e2]
  exact kk H1 locs1 ⟨hR1, fun q hq => (hF1 q hq).trans (hS.2.1 q hq), hL1⟩
theorem lw_init (C : lw_C p s m meth c b L xs D cA tS) {z d n b0 : Nat} (hS : lw_S D cA tS s h H locs) (hz : z < am_count) (hm : am_m d z [.ref b0] h none h1) (hlen : (am_meth z).2.2.2.1 = 1) (hgt : 100 < (am_meth z).2.2.2.2.2) (hlk : Cond.methodLink R_law n (am_info z).1 ∈ am_good) (hdc : decode code pc = .ok (.invokespecial n, 3)) (hd : d + 1 ≤ 2048 ∧ 64 * d + 64 ≤ 84000) (hr : h1.1 ≤ 600000 ∧ h1.2.1 ≤ 7302249) (hsum : (rest.map fun v => v.category).sum ≤ 8) (hls : ls.size = 4)
    (kk : ∀ (H1 : Heap) (locs1 : List Loc), lw_S D cA tS s h1 H1 locs1 → W p l e room_1 s m #[Value.ref b] below meth c H1 locs1 h1.1 h1.2.1 Q (F0 m (pc + 3) ls rest)) : W p l e room_1 s m #[Value.ref b] below meth c H locs h.1 h.2.1 Q (F0 m pc ls (Value.ref (s.heap.size + b0) :: rest)) := by
  obtain ⟨hx, hb, hrt, hml, hown, hts, hscr, hbl, hlocks, hX⟩ := C
  obtain ⟨f, hrun⟩ := hm
  have mf := am_mfacts hz
  obtain ⟨hmono, hM⟩ := am_met (am_sound f) hz (as := [.ref b0]) rfl hlen.symm hrun l D cA tS s.heap.size
  have S : CallFix p m c code 4 s #[Value.ref b] am_good R_law := ⟨hx, hb, hml, hown, hts⟩
  have hpre : ∀ U : State, U.heap = H → s.WarmedH U.vm → am_Pc D cA tS s.heap.size [.ref b0] h (([Value.ref b0] : List Value).map (am_v s.heap.size tS)).toArray U := fun U hU hW => ⟨rfl, hX.moved hW (fun q hq => by rw [hU]; exact hS.2.1 q hq), by rw [hU]; exact hS.1⟩
  have hroom : (am_rm d (h1.1 - h.1) (h1.2.1 - h.2.1)).frames + 1 ≤ room_1.frames ∧ 8 + ((am_meth z).2.2.1 + 11) + (am_rm d (h1.1 - h.1) (h1.2.1 - h.2.1)).locals ≤ room_1.locals := by
    have m64 := mf.2.2.2.2.2.1
    constructor
    · show d + 1 ≤ 2048
      exact hd.1
    · show 8 + ((am_meth z).2.2.1 + 11) + 64 * d ≤ 84000
      have := hd.2
      omega
  have hf2 : h.1 + (h1.1 - h.1) ≤ room_1.cells ∧ h.2.1 + (h1.2.1 - h.2.1) ≤ room_1.slots := by
    show h.1 + (h1.1 - h.1) ≤ 600000 ∧ h.2.1 + (h1.2.1 - h.2.1) ≤ 7302249
    omega
  have hpl := mf.2.1
  rw [if_neg (by omega), hlen] at hpl
  have hini := mf.2.2.2.2.2.2.2.2.2.1 hgt
  have hG := am_goodIn hz
  have hM2 := hM
  unfold am_ws at hG hM2
  rw [hini.2] at hG hM2
  have hrn := va_runI (H := H) (locs := locs) (below := below) (meth := meth) (e := e) (cells := h.1) (slots := h.2.1) (rest := rest) (As := []) (b := s.heap.size + b0) (g := F0 m pc ls (Value.ref (s.heap.size + b0) :: rest)) (R := room_1) S hM2 ⟨callB_of _ hts hG rfl rfl rfl (hts _ mf.1) (hts _ hlk) ⟨mf.2.2.2.1.1, mf.2.2.2.1.2, hpl⟩ hroom, hini.1, hts _ (mf.2.2.2.2.2.2.2.2.1 (by omega)).2⟩ ⟨am_blind, hpre⟩ rfl rfl hls rfl (lw_sum hls hsum) hdc hf2
  refine am_cont hrn hS.2.2 (fun H1 locs1 hR1 hF1 hL1 => ?_)
  have e1 : h.1 + (h1.1 - h.1) = h1.1 := by omega
  have e2 : h.2.1 + (h1.2.1 - h.2.1) = h1.2.1 := by omega
  rw [e1, e2]
  exact kk H1 locs1 ⟨hR1, fun q hq => (hF1 q hq).trans (hS.2.1 q hq), hL1⟩
theorem lw_new (C : lw_C p s m meth c b L xs D cA tS) {ci n N : Nat} {Cn : String} {T : u_T} (hS : lw_S D cA tS s h H locs) (hc : am_cl[ci]? = some (Cn, T, N)) (hlk : Cond.classLink R_law n Cn ∈ am_good) (hdc : decode code pc = .ok (.new n, 3)) (hr : h.1 + 1 ≤ 600000 ∧ h.2.1 + N ≤ 7302249)
    (kk : ∀ H1 : Heap, lw_S D cA tS s (am_new h N (.inr (ci, am_df ci))) H1 locs → W p l e room_1 s m #[Value.ref b] below meth c H1 locs (h.1 + 1) (h.2.1 + N) Q (F0 m (pc + 3) ls (Value.ref (s.heap.size + h.1) :: rest))) : W p l e room_1 s m #[Value.ref b] below meth c H locs h.1 h.2.1 Q (F0 m pc ls rest) := by
  obtain ⟨hx, hb, hrt, hml, hown, hts, hscr, hbl, hlocks, hX⟩ := C
  obtain ⟨y, hy, hin, hfd, hnm', hins, hini⟩ := am_clsz hc
  have hKn := hX.1.1 _ _ hc
  have hz' : H.size = s.heap.size + h.1 := hS.1.1
  refine W.newcK hx hb hown (hts _ hlk) (hts _ hins) (hts _ hini) rfl hdc hr.1 hr.2 hKn.2.1 hz' fun H1 kC hkC e1 z1 o1 => ?_
  refine kk H1 ⟨am_R.push hS.1 (x := .inr (ci, am_df ci)) ⟨_, hc, (u_born y hts hin hKn hkC e1 (fun k hk => (hfd k hk).1)).to (fun j hj => ?_)⟩ (by rw [z1, hz']) (fun q hq => o1 q (by rw [← hz']; exact hq)), fun q hq => (o1 q (by omega)).trans (hS.2.1 q hq), hS.2.2⟩
  show defaultValue (y j) = vp_V ((am_df ci).map (am_v s.heap.size tS)) j
  have hj' : j < N := hj
  rw [(hfd j hj').2.2]
  unfold am_df vp_V
  rw [hc, hy]
  simp only [List.getD_eq_getElem?_getD, List.getElem?_map, List.getElem?_range hj', Option.map_some, Option.getD_some]
  cases y j <;> rfl
end LWC
/-- what a run gives back, by the kind of its method -/
theorem am_run_kind : ∀ (f d z : Nat) (g : am_G) (r : Option Value) (h' : am_H), am_run f d z g = some (r, h') → ((am_meth z).2.2.2.2.1 = 1 → ∃ v : Int32, r = some (.int v)) ∧ ((am_meth z).2.2.2.2.1 = 3 → ∃ v : Int64, r = some (.long v))
  | 0, d, z, g, r, h', h => by cases h
  | f + 1, d, z, g, r, h', h => by
    unfold am_run at h
    split at h
    · cases h
    · rename_i i len aux hf
      split at h
      · split at h
        · exact am_run_kind f d z _ r h' h
        · cases h
      · unfold am_ret at h
        split at h <;> first | (cases h; done) | (split at h <;> first | (cases h; done) | skip)
        all_goals (rename_i hq; cases h; refine ⟨fun q => ?_, fun q => ?_⟩)
        all_goals first | exact ⟨_, rfl⟩ | (exfalso; omega)
      · split at h
        · cases h
        · split at h
          · split at h
            · split at h
              · exact am_run_kind f d z _ r h' h
              · cases h
            · cases h
          · cases h
theorem am_m_int {d z : Nat} {as : List Value} {h h' : am_H} {v : Value} (hm : am_m d z as h (some v) h') (hk : (am_meth z).2.2.2.2.1 = 1) : ∃ x : Int32, v = .int x := by
  obtain ⟨f, hf⟩ := hm
  obtain ⟨x, hx⟩ := (am_run_kind f d z _ _ h' hf).1 hk
  exact ⟨x, Option.some.inj hx⟩
theorem am_m_long {d z : Nat} {as : List Value} {h h' : am_H} {v : Value} (hm : am_m d z as h (some v) h') (hk : (am_meth z).2.2.2.2.1 = 3) : ∃ x : Int64, v = .long x := by
  obtain ⟨f, hf⟩ := hm
  obtain ⟨x, hx⟩ := (am_run_kind f d z _ _ h' hf).2 hk
  exact ⟨x, Option.some.inj hx⟩
