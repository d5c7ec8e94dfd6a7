/-! the instructions that read, write or make cells -/
section AMH
variable {p : Program} {l : Launch} {e : Env} {R : Room} {s : State} {m : MethodId} {args : Array Value} {below : List Frame} {meth : Method} {c : Code} {D : va_G} {cA : Nat → ClassId} {tS : Nat → Nat} {base z d n0 s0 : Nat} {Q : State → Prop}
theorem am_g_int : Cond.arrayClass .int ∈ am_good := am_in (pl := 121) (by decide +kernel) rfl
theorem am_g_boo : Cond.arrayClass .boolean ∈ am_good := am_in (pl := 632) (by decide +kernel) rfl
theorem am_g_oi : Cond.instanceMethod Lib.objectInit ∈ am_good := am_in (pl := 83) (by decide +kernel) rfl
theorem am_g_oc : Cond.code Lib.objectInit ⟨#[0xb1]⟩ 1 none ∈ am_good := am_in (pl := 84) (by decide +kernel) rfl
theorem am_g_ns : Cond.static arraycopyName ∈ am_good := am_in (pl := 329) (by decide +kernel) rfl
theorem am_g_nn : Cond.native arraycopyName ∈ am_good := am_in (pl := 330) (by decide +kernel) rfl
theorem am_g_ni : Cond.initialized "java/lang/System" ∈ am_good := am_in (pl := 71) (by decide +kernel) rfl
theorem am_lc {locs : List Loc} {a f : Nat} (h : ∀ x ∈ locs, base ≤ x.base) (ha : base ≤ a) : ∀ x ∈ locs ++ [(⟨a, f⟩ : Loc)], base ≤ x.base := by
  intro x hx
  rcases List.mem_append.mp hx with q | q
  · exact h x q
  · rw [List.mem_singleton.mp q]
    exact ha
theorem am_fit_ok {ty : FieldType} {v : Value} (h : am_fit ty v = true) : narrow ty (am_v base tS v) = am_v base tS v ∧ fits ty (am_v base tS v) = true := by
  cases ty <;> cases v <;> first | (cases h; done) | exact ⟨rfl, rfl⟩ | skip
  rename_i x
  have h' : (x == 0 || x == 1) = true := h
  simp only [Bool.or_eq_true, beq_iff_eq] at h'
  rcases h' with q | q <;> subst q <;> exact ⟨rfl, rfl⟩
theorem am_sum (st : List Value) : ((st.map (am_v base tS)).map fun v => v.category).sum = (st.map fun v => v.category).sum := by
  rw [List.map_map]
  congr 1
  exact List.map_congr_left (fun v _ => am_cat v)
theorem am_aty {t : Nat} (h1 : 2 ≤ t) (h2 : t < 6) : am_ty t = .object (am_an t) ∧ ∃ T N, am_cl[am_ac t]? = some (am_an t, T, N) := by
  rcases (show t = 2 ∨ t = 3 ∨ t = 4 ∨ t = 5 by omega) with q | q | q | q <;> subst q <;> exact ⟨rfl, _, _, rfl⟩
theorem am_j5 {j : Nat} (h : j < 5) : (UInt32.ofNat j).toNat = j := by
  rcases (show j = 0 ∨ j = 1 ∨ j = 2 ∨ j = 3 ∨ j = 4 by omega) with q | q | q | q | q <;> subst q <;> rfl
set_option maxHeartbeats 2000000 in
theorem am_k_getfield (C : am_Ctx p s m args meth c D cA tS base z) {n : Nat} {len aux pc : Nat} {L : List (Option Value)} {st : List Value} {h : am_H} {g : am_G} (hf : am_fetch z pc = some (.getfield n, len, aux)) (hs : am_step d (.getfield n) aux pc L st h = some g) (hd : R.frames = d ∧ 64 * d ≤ R.locals) (h0 : n0 ≤ h.1 ∧ s0 ≤ h.2.1) (hr : g.2.2.2.1 - n0 ≤ R.cells ∧ g.2.2.2.2.1 - s0 ≤ R.slots) (k : am_At p l e R s m args below meth c D cA tS base z Q n0 s0 g) : am_At p l e R s m args below meth c D cA tS base z Q n0 s0 (pc, L, st, h) := by
  obtain ⟨hx, hb, hml, hrt, hown, hts, hlk, hnm, hX, hz⟩ := C
  obtain ⟨hdc, hln, hres⟩ := am_chkz hz hf
  have hlen : len = 3 := by
    rcases hln with q | q
    · exact absurd (show (3 : Nat) = 0 from q) (by decide)
    · exact (show (3 : Nat) = len from q).symm
  subst hlen
  have hdc : decode (am_info z).2.1 pc = .ok (.getfield n, 3) := hdc
  have hres' : am_fld (am_info z).1.cls (am_info z).1.name false n aux = true := hres
  unfold am_fld at hres'
  unfold am_step at hs
  dsimp only at hs
  split at hs
  · rename_i a st'
    split at hs
    · rename_i hlt
      split at hs
      · rename_i ci fs heq
        split at hs
        · rename_i hci
          split at hs
          · rename_i v hv
            cases hs
            subst hci
            cases hc : am_cl[aux / 1000000]? with
            | none => rw [hc] at hres'; cases hres'
            | some q =>
              obtain ⟨Cn, T, N⟩ := q
              rw [hc] at hres'
              simp only [Bool.and_eq_true, Nat.blt_eq] at hres'
              obtain ⟨y, hy, hin, hfd, hnm', hins, hini⟩ := am_clsz hc
              intro H locs ls hS
              exact va_get hx hb hts hin hown hX.1 (hS.1.one hlt heq) 0 rfl hc _ hres'.1.1 (hts _ (am_in hres'.1.2 rfl)) (fun x hx' => by rw [(hfd _ hres'.1.1).2.1] at hx'; exact hx') (v := am_v base tS v) (by rw [List.getElem?_map, hv]; rfl) hdc (k H locs ls hS)
          · cases hs
        · cases hs
      · cases hs
    · cases hs
  · cases hs
set_option maxHeartbeats 2000000 in
theorem am_k_putfield (C : am_Ctx p s m args meth c D cA tS base z) {n : Nat} {len aux pc : Nat} {L : List (Option Value)} {st : List Value} {h : am_H} {g : am_G} (hf : am_fetch z pc = some (.putfield n, len, aux)) (hs : am_step d (.putfield n) aux pc L st h = some g) (hd : R.frames = d ∧ 64 * d ≤ R.locals) (h0 : n0 ≤ h.1 ∧ s0 ≤ h.2.1) (hr : g.2.2.2.1 - n0 ≤ R.cells ∧ g.2.2.2.2.1 - s0 ≤ R.slots) (k : am_At p l e R s m args below meth c D cA tS base z Q n0 s0 g) : am_At p l e R s m args below meth c D cA tS base z Q n0 s0 (pc, L, st, h) := by
  obtain ⟨hx, hb, hml, hrt, hown, hts, hlk, hnm, hX, hz⟩ := C
  obtain ⟨hdc, hln, hres⟩ := am_chkz hz hf
  have hlen : len = 3 := by
    rcases hln with q | q
    · exact absurd (show (3 : Nat) = 0 from q) (by decide)
    · exact (show (3 : Nat) = len from q).symm
  subst hlen
  have hdc : decode (am_info z).2.1 pc = .ok (.putfield n, 3) := hdc
  have hres' : am_fld (am_info z).1.cls (am_info z).1.name true n aux = true := hres
  unfold am_fld at hres'
  unfold am_step at hs
  dsimp only at hs
  split at hs
  · rename_i v a st'
    split at hs
    · rename_i hlt
      split at hs
      · rename_i ci fs heq
        split at hs
        · rename_i hci
          obtain ⟨hci, hl, hfit⟩ := hci
          cases hs
          subst hci
          cases hc : am_cl[aux / 1000000]? with
          | none => rw [hc] at hres'; cases hres'
          | some q =>
            obtain ⟨Cn, T, N⟩ := q
            rw [hc] at hres'
            simp only [Bool.and_eq_true, Nat.blt_eq] at hres'
            obtain ⟨y, hy, hin, hfd, hnm', hins, hini⟩ := am_clsz hc
            have hj := hres'.1.1
            generalize aux / 10000 % 100 = j at *
            rw [List.getD_eq_getElem?_getD, hy] at hfit
            obtain ⟨hn1, hf1⟩ := am_fit_ok (base := base) (tS := tS) (show am_fit (y j) v = true from hfit)
            intro H locs ls hS
            have hap := va_apart (own := Cn) hts hin y (fun k hk => (hfd k hk).1) hnm' hX.1 hc
            have hat := hS.1.2 a hlt
            have heq' : (pc, L, v :: Value.ref a :: st', h).2.2.2.2.2 a = Sum.inr (aux / 1000000, fs) := heq
            rw [heq'] at hat
            obtain ⟨r, h1, cell, q1, q2, q3, q4⟩ := hat
            have hr' : r = (Cn, T, N) := Option.some.inj (h1.symm.trans hc)
            subst hr'
            obtain ⟨hSl, hfc, kC, hkC, hkind⟩ := hX.1.1 _ _ hc
            obtain ⟨cf, kf, fi, f, hi, hsl⟩ := hSl j hj
            have hlink := hts _ (am_in hres'.1.2 rfl)
            have hTC := (hfd j hj).2.1
            have hi2 := hi
            dsimp only at hi2
            rw [hTC] at hi2
            have hlay := hts _ (hin _ (u_in_lay hj))
            have hst := (u_facts hfc hkC (u_lays hts hin hj) hi).1
            have fin : ∀ H' : Heap, H'[base + a]? = some (cell.setSlot f.slot (am_v base tS v)) → H'.size = H.size → (∀ q, q ≠ base + a → H'[q]? = H[q]?) → W p l e R s m args below meth c H' (locs ++ [⟨base + a, f.slot⟩]) (h.1 - n0) (h.2.1 - s0) Q (F0 m (pc + 3) ls (st'.map (am_v base tS))) := by
              intro H' e1 e2 e3
              rw [hsl] at e1
              refine k H' _ ls ⟨hS.1.set ⟨_, hc, t_OB.to (V := updV (vp_V (fs.map (am_v base tS))) j (am_v base tS v)) ⟨_, e1, q2, q3, t_set q4 hap hj _⟩ (fun i _ => ?_)⟩ e2 e3, fun q hq => (e3 q (Nat.ne_of_lt (Nat.lt_of_lt_of_le hq (Nat.le_add_right base a)))).trans (hS.2.1 q hq), am_lc hS.2.2.1 (Nat.le_add_right base a), hS.2.2.2⟩
              show updV (vp_V (fs.map (am_v base tS))) j (am_v base tS v) i = vp_V ((fs.set j v).map (am_v base tS)) i
              rw [vp_updV_set (by rw [List.length_map]; exact hl), List.map_set]
            by_cases hfin : (T j).2.2.2 = true
            · have hq := hres'.2
              rw [hfin] at hq
              simp only [Bool.not_true, Bool.false_or, Bool.or_eq_true, Bool.and_eq_true, beq_iff_eq] at hq
              have hq : (am_info z).1.name = "<init>" ∧ Cn = (am_info z).1.cls := by simpa using hq
              unfold u_lay at hlay
              rw [if_pos hfin] at hlay
              have hcf : m.cls = cf := by
                obtain ⟨_, _, c', _, _, _, -, -, hf', -, -, -, hown2, -⟩ := Cond.laysFinal_spec hlay
                have e1 : c' = cf := by have := hi.symm.trans hf'; simp at this; exact this.1.symm
                rw [hTC, hq.2] at hown2
                rw [← e1]; exact Option.some.inj (hown.symm.trans hown2)
              have h6 := u_fits hfc hkC hkind (Or.inr hlay) hi (hfd j hj).1 hn1 hf1
              exact W.putFinK hx hb hown hlink hi2 hst hcf (hnm.trans hq.1) (by rw [q2]; exact h6) q1 q3 (by rw [hsl]; exact k2_hasslot (q4 j hj)) rfl rfl hdc fin
            · unfold u_lay at hlay
              rw [if_neg hfin] at hlay
              have h6 := u_store hfc hkC hkind hlay hi (hfd j hj).1 hn1 hf1
              exact W.putK hx hb (f := f) ⟨hown, hlink, ⟨_, _, _, hi2⟩, hst⟩ (by rw [q2]; exact h6) q1 q3 (by rw [hsl]; exact k2_hasslot (q4 j hj)) rfl rfl hdc fin
        · cases hs
      · cases hs
    · cases hs
  · cases hs
set_option maxHeartbeats 2000000 in
theorem am_k_getstatic (C : am_Ctx p s m args meth c D cA tS base z) {n : Nat} {len aux pc : Nat} {L : List (Option Value)} {st : List Value} {h : am_H} {g : am_G} (hf : am_fetch z pc = some (.getstatic n, len, aux)) (hs : am_step d (.getstatic n) aux pc L st h = some g) (hd : R.frames = d ∧ 64 * d ≤ R.locals) (h0 : n0 ≤ h.1 ∧ s0 ≤ h.2.1) (hr : g.2.2.2.1 - n0 ≤ R.cells ∧ g.2.2.2.2.1 - s0 ≤ R.slots) (k : am_At p l e R s m args below meth c D cA tS base z Q n0 s0 g) : am_At p l e R s m args below meth c D cA tS base z Q n0 s0 (pc, L, st, h) := by
  obtain ⟨hx, hb, hml, hrt, hown, hts, hlk, hnm, hX, hz⟩ := C
  obtain ⟨hdc, hln, hres⟩ := am_chkz hz hf
  have hlen : len = 3 := by
    rcases hln with q | q
    · exact absurd (show (3 : Nat) = 0 from q) (by decide)
    · exact (show (3 : Nat) = len from q).symm
  subst hlen
  have hdc : decode (am_info z).2.1 pc = .ok (.getstatic n, 3) := hdc
  have hres' : (Nat.blt (aux / 10000) 5 && am_w (aux % 10000) (.fieldLink (am_info z).1.cls n (am_sC (aux / 10000)) (am_sN (aux / 10000)) "[I")) = true := hres
  rw [Bool.and_eq_true, Nat.blt_eq] at hres'
  cases hs
  intro H locs ls hS
  obtain ⟨cf, kf, fi, f, a, cell, h1, h2, h3, h4, h5, h6, h7, h8⟩ := (hX.2.1 _ hres'.1).1
  have k1 := k H locs ls hS
  have e1 : am_v base tS (.float (UInt32.ofNat (aux / 10000))) = .ref (tS (aux / 10000)) := by
    show Value.ref (tS (UInt32.ofNat (aux / 10000)).toNat) = _
    rw [am_j5 hres'.1]
  have k2 : W p l e R s m args below meth c H locs (h.1 - n0) (h.2.1 - s0) Q (F0 m (pc + 3) ls (am_v base tS (.float (UInt32.ofNat (aux / 10000))) :: st.map (am_v base tS))) := k1
  rw [e1] at k2
  exact W.gets hx hb hown (hts _ (am_in hres'.2 rfl)) h1 h2 h3 h4 (by rw [hS.2.1 a (Nat.not_le.mp h8)]; exact h5) (fun e => by rw [e] at h6; cases h6) h7 rfl hdc k2
set_option maxHeartbeats 2000000 in
theorem am_k_new (C : am_Ctx p s m args meth c D cA tS base z) {n : Nat} {len aux pc : Nat} {L : List (Option Value)} {st : List Value} {h : am_H} {g : am_G} (hf : am_fetch z pc = some (.new n, len, aux)) (hs : am_step d (.new n) aux pc L st h = some g) (hd : R.frames = d ∧ 64 * d ≤ R.locals) (h0 : n0 ≤ h.1 ∧ s0 ≤ h.2.1) (hr : g.2.2.2.1 - n0 ≤ R.cells ∧ g.2.2.2.2.1 - s0 ≤ R.slots) (k : am_At p l e R s m args below meth c D cA tS base z Q n0 s0 g) : am_At p l e R s m args below meth c D cA tS base z Q n0 s0 (pc, L, st, h) := by
  obtain ⟨hx, hb, hml, hrt, hown, hts, hlk, hnm, hX, hz⟩ := C
  obtain ⟨hdc, hln, hres⟩ := am_chkz hz hf
  have hlen : len = 3 := by
    rcases hln with q | q
    · exact absurd (show (3 : Nat) = 0 from q) (by decide)
    · exact (show (3 : Nat) = len from q).symm
  subst hlen
  have hdc : decode (am_info z).2.1 pc = .ok (.new n, 3) := hdc
  have hres' : (match am_cl[aux / 10000]? with
    | some (C, _, _) => am_w (aux % 10000) (.classLink (am_info z).1.cls n C)
    | none => false) = true := hres
  unfold am_step at hs
  dsimp only at hs
  split at hs
  · rename_i Cn T N hc
    rw [hc] at hres'
    obtain ⟨y, hy, hin, hfd, hnm', hins, hini⟩ := am_clsz hc
    cases hs
    dsimp only at hr
    intro H locs ls hS
    have hKn := hX.1.1 _ _ hc
    have hz' : H.size = base + h.1 := hS.1.1
    refine W.newcK hx hb hown (hts _ (am_in hres' rfl)) (hts _ hins) (hts _ hini) rfl hdc (by dsimp only; omega) (by dsimp only; omega) hKn.2.1 hz' fun H1 kC hkC e1 z1 o1 => ?_
    have k1 := k H1 locs ls ⟨am_R.push hS.1 (x := .inr (aux / 10000, am_df (aux / 10000))) ⟨_, hc, (u_born y hts hin hKn hkC e1 (fun k hk => (hfd k hk).1)).to (fun j hj => ?_)⟩ (by rw [z1, hz']) (fun q hq => o1 q (by rw [← hz']; exact hq)), fun q hq => (o1 q (by omega)).trans (hS.2.1 q hq), hS.2.2.1, hS.2.2.2⟩
    · have e2 : h.1 - n0 + 1 = h.1 + 1 - n0 := by omega
      have e3 : h.2.1 - s0 + N = h.2.1 + N - s0 := by omega
      show W p l e R s m args below meth c H1 locs (h.1 - n0 + 1) (h.2.1 - s0 + N) Q _
      rw [e2, e3]
      exact k1
    · show defaultValue (y j) = vp_V ((am_df (aux / 10000)).map (am_v base tS)) j
      have hj' : j < N := hj
      rw [(hfd j hj').2.2]
      unfold am_df vp_V
      rw [hc, hy]
      simp only [List.getD_eq_getElem?_getD, List.getElem?_map, List.getElem?_range hj', Option.map_some, Option.getD_some]
      cases y j <;> rfl
  · cases hs
set_option maxHeartbeats 2000000 in
theorem am_k_newarray (C : am_Ctx p s m args meth c D cA tS base z) {a : ClassFile.ArrayType} {len aux pc : Nat} {L : List (Option Value)} {st : List Value} {h : am_H} {g : am_G} (hf : am_fetch z pc = some (.newarray a, len, aux)) (hs : am_step d (.newarray a) aux pc L st h = some g) (hd : R.frames = d ∧ 64 * d ≤ R.locals) (h0 : n0 ≤ h.1 ∧ s0 ≤ h.2.1) (hr : g.2.2.2.1 - n0 ≤ R.cells ∧ g.2.2.2.2.1 - s0 ≤ R.slots) (k : am_At p l e R s m args below meth c D cA tS base z Q n0 s0 g) : am_At p l e R s m args below meth c D cA tS base z Q n0 s0 (pc, L, st, h) := by
  obtain ⟨hx, hb, hml, hrt, hown, hts, hlk, hnm, hX, hz⟩ := C
  obtain ⟨hdc, hln, hres⟩ := am_chkz hz hf
  have hlen : len = 2 := by
    rcases hln with q | q
    · exact absurd (show (2 : Nat) = 0 from q) (by decide)
    · exact (show (2 : Nat) = len from q).symm
  subst hlen
  have hdc : decode (am_info z).2.1 pc = .ok (.newarray a, 2) := hdc
  have hres' : ((decide (a = .int) && Nat.beq aux 0) || (decide (a = .boolean) && Nat.beq aux 10000)) = true := hres
  simp only [Bool.or_eq_true, Bool.and_eq_true, decide_eq_true_eq] at hres'
  unfold am_step at hs
  dsimp only at hs
  split at hs
  · rename_i n st'
    split at hs
    · rename_i hn
      cases hs
      dsimp only at hr
      intro H locs ls hS
      have hz' : H.size = base + h.1 := hS.1.1
      have e2 : h.1 - n0 + 1 = h.1 + 1 - n0 := by omega
      have e3 : h.2.1 - s0 + n.toNatClampNeg = h.2.1 + n.toNatClampNeg - s0 := by omega
      rcases hres' with ⟨q1, q2⟩ | ⟨q1, q2⟩
      · have q2 := Nat.eq_of_beq_eq_true q2
        subst q1; subst q2
        refine va_newaK (atype := .int) hx hb (hts _ am_g_int) rfl hdc rfl hn.1 rfl (by show n.toNatClampNeg * 4 ≤ 536870912; omega) (by dsimp only; omega) (by dsimp only; omega) hz' fun H1 cA' e1 z1 o1 hAr hNm => ?_
        have hra : s.vm.findClass ("[" ++ FieldType.int.toString) = some (cA 0) := (hX.1.2 0 _ (am_tys_at cA (by decide))).2
        have hcA : cA' = cA 0 := Option.some.inj (hNm.symm.trans hra)
        subst hcA
        have k1 := k H1 locs ls ⟨am_R.push hS.1 (x := .inl (0 / 10000, n.toNatClampNeg, .inl (fun _ => 0))) e1 (by rw [z1, hz']) (fun q hq => o1 q (by rw [← hz']; exact hq)), fun q hq => (o1 q (by omega)).trans (hS.2.1 q hq), hS.2.2.1, hS.2.2.2⟩
        show W p l e R s m args below meth c H1 locs (h.1 - n0 + 1) (h.2.1 - s0 + n.toNatClampNeg) Q _
        rw [e2, e3]
        exact k1
      · have q2 := Nat.eq_of_beq_eq_true q2
        subst q1; subst q2
        refine va_newaK (atype := .boolean) hx hb (hts _ am_g_boo) rfl hdc rfl hn.1 rfl (by show n.toNatClampNeg * 1 ≤ 536870912; omega) (by dsimp only; omega) (by dsimp only; omega) hz' fun H1 cA' e1 z1 o1 hAr hNm => ?_
        have hra : s.vm.findClass ("[" ++ FieldType.boolean.toString) = some (cA 1) := (hX.1.2 1 _ (am_tys_at cA (by decide))).2
        have hcA : cA' = cA 1 := Option.some.inj (hNm.symm.trans hra)
        subst hcA
        have k1 := k H1 locs ls ⟨am_R.push hS.1 (x := .inl (10000 / 10000, n.toNatClampNeg, .inl (fun _ => 0))) e1 (by rw [z1, hz']) (fun q hq => o1 q (by rw [← hz']; exact hq)), fun q hq => (o1 q (by omega)).trans (hS.2.1 q hq), hS.2.2.1, hS.2.2.2⟩
        show W p l e R s m args below meth c H1 locs (h.1 - n0 + 1) (h.2.1 - s0 + n.toNatClampNeg) Q _
        rw [e2, e3]
        exact k1
    · cases hs
  · cases hs
set_option maxHeartbeats 2000000 in
theorem am_k_anewarray (C : am_Ctx p s m args meth c D cA tS base z) {n : Nat} {len aux pc : Nat} {L : List (Option Value)} {st : List Value} {h : am_H} {g : am_G} (hf : am_fetch z pc = some (.anewarray n, len, aux)) (hs : am_step d (.anewarray n) aux pc L st h = some g) (hd : R.frames = d ∧ 64 * d ≤ R.locals) (h0 : n0 ≤ h.1 ∧ s0 ≤ h.2.1) (hr : g.2.2.2.1 - n0 ≤ R.cells ∧ g.2.2.2.2.1 - s0 ≤ R.slots) (k : am_At p l e R s m args below meth c D cA tS base z Q n0 s0 g) : am_At p l e R s m args below meth c D cA tS base z Q n0 s0 (pc, L, st, h) := by
  obtain ⟨hx, hb, hml, hrt, hown, hts, hlk, hnm, hX, hz⟩ := C
  obtain ⟨hdc, hln, hres⟩ := am_chkz hz hf
  have hlen : len = 3 := by
    rcases hln with q | q
    · exact absurd (show (3 : Nat) = 0 from q) (by decide)
    · exact (show (3 : Nat) = len from q).symm
  subst hlen
  have hdc : decode (am_info z).2.1 pc = .ok (.anewarray n, 3) := hdc
  have hres' : (Nat.ble 2 (aux / 10000) && Nat.blt (aux / 10000) 6 && am_w (aux % 10000) (.classLink (am_info z).1.cls n (am_an (aux / 10000)))) = true := hres
  simp only [Bool.and_eq_true, Nat.blt_eq] at hres'
  have h26 : 2 ≤ aux / 10000 := Nat.le_of_ble_eq_true hres'.1.1
  unfold am_step at hs
  dsimp only at hs
  split at hs
  · rename_i n' st'
    split at hs
    · rename_i hn
      cases hs
      dsimp only at hr
      intro H locs ls hS
      have hz' : H.size = base + h.1 := hS.1.1
      have e2 : h.1 - n0 + 1 = h.1 + 1 - n0 := by omega
      have e3 : h.2.1 - s0 + n'.toNatClampNeg = h.2.1 + n'.toNatClampNeg - s0 := by omega
      refine W.anew hx hb hown (hts _ (am_in hres'.2 rfl)) (va_AO.use (hX.2.2.2 _ h26 hres'.1.2)) rfl hdc rfl hn.1 (by omega) (by dsimp only; omega) (by dsimp only; omega) fun cA' kA comp f1 f2 f3 f4 => ?_
      have hra := (hX.1.2 (aux / 10000) _ (am_tys_at cA hres'.1.2)).2
      dsimp only at hra
      rw [(am_aty h26 hres'.1.2).1] at hra
      obtain ⟨kA2, comp2, g1, g2, g3, g4⟩ := hra
      have hcA : cA' = cA (aux / 10000) := Option.some.inj (f1.symm.trans g4)
      subst hcA
      have k1 := k (H.push ({ cls := cA (aux / 10000), slots := Array.replicate n'.toNatClampNeg .null, vm := .none } : Cell)) locs ls ⟨am_R.push hS.1 (x := .inl (aux / 10000, n'.toNatClampNeg, .inr (fun _ => none))) (show (H.push _)[base + h.1]? = some (arrV (cA (aux / 10000)) n'.toNatClampNeg (fun _ => .null)) by rw [← hz', Array.getElem?_push_size, ← arrV_new]) (by rw [Array.size_push]) (fun q hq => by rw [Array.getElem?_push, if_neg (Nat.ne_of_lt hq)]), fun q hq => by rw [Array.getElem?_push, if_neg (by omega)]; exact hS.2.1 q hq, hS.2.2.1, hS.2.2.2⟩
      show W p l e R s m args below meth c _ locs (h.1 - n0 + 1) (h.2.1 - s0 + n'.toNatClampNeg) Q _
      rw [e2, e3]
      rw [hz']
      exact k1
    · cases hs
  · cases hs
set_option maxHeartbeats 2000000 in
theorem am_k_arraylength (C : am_Ctx p s m args meth c D cA tS base z) {len aux pc : Nat} {L : List (Option Value)} {st : List Value} {h : am_H} {g : am_G} (hf : am_fetch z pc = some (.arraylength, len, aux)) (hs : am_step d (.arraylength) aux pc L st h = some g) (hd : R.frames = d ∧ 64 * d ≤ R.locals) (h0 : n0 ≤ h.1 ∧ s0 ≤ h.2.1) (hr : g.2.2.2.1 - n0 ≤ R.cells ∧ g.2.2.2.2.1 - s0 ≤ R.slots) (k : am_At p l e R s m args below meth c D cA tS base z Q n0 s0 g) : am_At p l e R s m args below meth c D cA tS base z Q n0 s0 (pc, L, st, h) := by
  obtain ⟨hx, hb, hml, hrt, hown, hts, hlk, hnm, hX, hz⟩ := C
  obtain ⟨hdc, hln, hres⟩ := am_chkz hz hf
  have hlen : len = 1 := by
    rcases hln with q | q
    · exact absurd (show (1 : Nat) = 0 from q) (by decide)
    · exact (show (1 : Nat) = len from q).symm
  subst hlen
  have hdc : decode (am_info z).2.1 pc = .ok (.arraylength, 1) := hdc
  unfold am_step at hs
  dsimp only at hs
  split at hs
  · rename_i a st'
    split at hs
    · rename_i hlt
      split at hs
      · rename_i t n x heq
        split at hs
        · rename_i ht
          cases hs
          intro H locs ls hS
          cases x with
          | inl f => exact va_alen hx hb hX.1 (hS.1.one hlt heq) 0 t rfl (am_tys_at cA ht) rfl hdc (k H locs ls hS)
          | inr f => exact va_alen hx hb hX.1 (hS.1.one hlt heq) 0 t rfl (am_tys_at cA ht) rfl hdc (k H locs ls hS)
        · cases hs
      · cases hs
    · cases hs
  · rename_i j st'
    split at hs
    · rename_i hj
      cases hs
      intro H locs ls hS
      obtain ⟨cell, t1, t2, t3, t4, t5, t6, t7⟩ := (hX.2.1 _ hj).2
      exact W.alen (n := Int32.ofNat (am_sV j.toNat).length) hx hb (by rw [hS.2.1 _ (Nat.not_le.mp t7)]; exact t1) t2 t5 rfl rfl hdc (k H locs ls hS)
    · cases hs
  · cases hs
set_option maxHeartbeats 2000000 in
theorem am_k_iaload (C : am_Ctx p s m args meth c D cA tS base z) {len aux pc : Nat} {L : List (Option Value)} {st : List Value} {h : am_H} {g : am_G} (hf : am_fetch z pc = some (.iaload, len, aux)) (hs : am_step d (.iaload) aux pc L st h = some g) (hd : R.frames = d ∧ 64 * d ≤ R.locals) (h0 : n0 ≤ h.1 ∧ s0 ≤ h.2.1) (hr : g.2.2.2.1 - n0 ≤ R.cells ∧ g.2.2.2.2.1 - s0 ≤ R.slots) (k : am_At p l e R s m args below meth c D cA tS base z Q n0 s0 g) : am_At p l e R s m args below meth c D cA tS base z Q n0 s0 (pc, L, st, h) := by
  obtain ⟨hx, hb, hml, hrt, hown, hts, hlk, hnm, hX, hz⟩ := C
  obtain ⟨hdc, hln, hres⟩ := am_chkz hz hf
  have hlen : len = 1 := by
    rcases hln with q | q
    · exact absurd (show (1 : Nat) = 0 from q) (by decide)
    · exact (show (1 : Nat) = len from q).symm
  subst hlen
  have hdc : decode (am_info z).2.1 pc = .ok (.iaload, 1) := hdc
  unfold am_step at hs
  dsimp only at hs
  split at hs
  · rename_i i a st'
    split at hs
    · rename_i hlt
      split at hs
      · rename_i n f heq
        split at hs
        · rename_i hi
          cases hs
          intro H locs ls hS
          exact va_iald hx hb hX.1 (hS.1.one hlt heq) 0 0 rfl (am_tys_at cA (by decide)) (fun q => q.elim hi.1 (Nat.not_le.mpr hi.2)) hdc (k H locs ls hS)
        · cases hs
      · cases hs
    · cases hs
  · rename_i i j st'
    split at hs
    · rename_i hj
      cases hs
      intro H locs ls hS
      obtain ⟨cell, t1, t2, t3, t4, t5, t6, t7⟩ := (hX.2.1 _ hj.1).2
      exact W.iald (v := .int ((am_sV j.toNat).getD i.toNatClampNeg 0)) hx hb (by rw [hS.2.1 _ (Nat.not_le.mp t7)]; exact t1) t2 t3 (fun q => q.elim hj.2.1 (Nat.not_le.mpr (Nat.lt_of_lt_of_le hj.2.2 t4))) (t6 _ hj.2.2) rfl rfl hdc (k H locs ls hS)
    · cases hs
  · cases hs
set_option maxHeartbeats 2000000 in
theorem am_k_baload (C : am_Ctx p s m args meth c D cA tS base z) {len aux pc : Nat} {L : List (Option Value)} {st : List Value} {h : am_H} {g : am_G} (hf : am_fetch z pc = some (.baload, len, aux)) (hs : am_step d (.baload) aux pc L st h = some g) (hd : R.frames = d ∧ 64 * d ≤ R.locals) (h0 : n0 ≤ h.1 ∧ s0 ≤ h.2.1) (hr : g.2.2.2.1 - n0 ≤ R.cells ∧ g.2.2.2.2.1 - s0 ≤ R.slots) (k : am_At p l e R s m args below meth c D cA tS base z Q n0 s0 g) : am_At p l e R s m args below meth c D cA tS base z Q n0 s0 (pc, L, st, h) := by
  obtain ⟨hx, hb, hml, hrt, hown, hts, hlk, hnm, hX, hz⟩ := C
  obtain ⟨hdc, hln, hres⟩ := am_chkz hz hf
  have hlen : len = 1 := by
    rcases hln with q | q
    · exact absurd (show (1 : Nat) = 0 from q) (by decide)
    · exact (show (1 : Nat) = len from q).symm
  subst hlen
  have hdc : decode (am_info z).2.1 pc = .ok (.baload, 1) := hdc
  unfold am_step at hs
  dsimp only at hs
  split at hs
  · rename_i i a st'
    split at hs
    · rename_i hlt
      split at hs
      · rename_i n f heq
        split at hs
        · rename_i hi
          cases hs
          intro H locs ls hS
          exact va_zald hx hb hX.1 (hS.1.one hlt heq) 0 1 rfl (am_tys_at cA (by decide)) (fun q => q.elim hi.1 (Nat.not_le.mpr hi.2)) hdc (k H locs ls hS)
        · cases hs
      · cases hs
    · cases hs
  · cases hs
set_option maxHeartbeats 2000000 in
theorem am_k_aaload (C : am_Ctx p s m args meth c D cA tS base z) {len aux pc : Nat} {L : List (Option Value)} {st : List Value} {h : am_H} {g : am_G} (hf : am_fetch z pc = some (.aaload, len, aux)) (hs : am_step d (.aaload) aux pc L st h = some g) (hd : R.frames = d ∧ 64 * d ≤ R.locals) (h0 : n0 ≤ h.1 ∧ s0 ≤ h.2.1) (hr : g.2.2.2.1 - n0 ≤ R.cells ∧ g.2.2.2.2.1 - s0 ≤ R.slots) (k : am_At p l e R s m args below meth c D cA tS base z Q n0 s0 g) : am_At p l e R s m args below meth c D cA tS base z Q n0 s0 (pc, L, st, h) := by
  obtain ⟨hx, hb, hml, hrt, hown, hts, hlk, hnm, hX, hz⟩ := C
  obtain ⟨hdc, hln, hres⟩ := am_chkz hz hf
  have hlen : len = 1 := by
    rcases hln with q | q
    · exact absurd (show (1 : Nat) = 0 from q) (by decide)
    · exact (show (1 : Nat) = len from q).symm
  subst hlen
  have hdc : decode (am_info z).2.1 pc = .ok (.aaload, 1) := hdc
  unfold am_step at hs
  dsimp only at hs
  split at hs
  · rename_i i a st'
    split at hs
    · rename_i hlt
      split at hs
      · rename_i t n f heq
        split at hs
        · rename_i hi
          cases hs
          intro H locs ls hS
          have hty := am_tys_at cA hi.1.2
          rw [(am_aty hi.1.1 hi.1.2).1] at hty
          refine va_aldq hx hb hX.1 (hS.1.one hlt heq) 0 t rfl hty (fun q => q.elim hi.2.1 (Nat.not_le.mpr hi.2.2)) hdc ?_
          have k1 := k H locs ls hS
          have e1 : va_rf ((f i.toNatClampNeg).map (fun k => base + k)) = am_v base tS (va_rf (f i.toNatClampNeg)) := by cases f i.toNatClampNeg <;> rfl
          rw [e1]
          exact k1
        · cases hs
      · cases hs
    · cases hs
  · cases hs
set_option maxHeartbeats 2000000 in
theorem am_k_iastore (C : am_Ctx p s m args meth c D cA tS base z) {len aux pc : Nat} {L : List (Option Value)} {st : List Value} {h : am_H} {g : am_G} (hf : am_fetch z pc = some (.iastore, len, aux)) (hs : am_step d (.iastore) aux pc L st h = some g) (hd : R.frames = d ∧ 64 * d ≤ R.locals) (h0 : n0 ≤ h.1 ∧ s0 ≤ h.2.1) (hr : g.2.2.2.1 - n0 ≤ R.cells ∧ g.2.2.2.2.1 - s0 ≤ R.slots) (k : am_At p l e R s m args below meth c D cA tS base z Q n0 s0 g) : am_At p l e R s m args below meth c D cA tS base z Q n0 s0 (pc, L, st, h) := by
  obtain ⟨hx, hb, hml, hrt, hown, hts, hlk, hnm, hX, hz⟩ := C
  obtain ⟨hdc, hln, hres⟩ := am_chkz hz hf
  have hlen : len = 1 := by
    rcases hln with q | q
    · exact absurd (show (1 : Nat) = 0 from q) (by decide)
    · exact (show (1 : Nat) = len from q).symm
  subst hlen
  have hdc : decode (am_info z).2.1 pc = .ok (.iastore, 1) := hdc
  unfold am_step at hs
  dsimp only at hs
  split at hs
  · rename_i x i a st'
    split at hs
    · rename_i hlt
      split at hs
      · rename_i n f heq
        split at hs
        · rename_i hi
          cases hs
          intro H locs ls hS
          have hat : H[base + a]? = some (vp_cell (cA 0) (n, .inl f)) := by
            have h9 := hS.1.2 a hlt
            have heq' : (pc, L, Value.int x :: Value.int i :: Value.ref a :: st', h).2.2.2.2.2 a = Sum.inl (0, n, Sum.inl f) := heq
            rw [heq'] at h9
            exact h9
          refine W.iast hx hb hat ((hX.1.2 0 _ (am_tys_at cA (by decide))).1 n (fun j => .int (f j))) (fun q => by cases q) (by show ¬ (i < 0 ∨ (arrV _ _ _).slots.size ≤ _); rw [arrV_size]; exact fun q => q.elim hi.1 (Nat.not_le.mpr hi.2)) rfl rfl hdc fun H1 e1 e2 e3 => ?_
          refine k H1 _ ls ⟨hS.1.set (x := .inl (0, n, .inl (va_up f i.toNatClampNeg x))) ?_ e2 e3, fun q hq => (e3 q (Nat.ne_of_lt (Nat.lt_of_lt_of_le hq (Nat.le_add_right base a)))).trans (hS.2.1 q hq), am_lc hS.2.2.1 (Nat.le_add_right base a), hS.2.2.2⟩
          show H1[base + a]? = some (vp_cell (cA 0) (n, .inl (va_up f i.toNatClampNeg x)))
          rw [e1, vp_cell_i, vp_cell_i, arrV_store]
          congr 2
          funext q
          by_cases hq : q = i.toNatClampNeg
          · subst hq
            simp [updV, va_up]
            try rfl
          · simp [updV, va_up, hq]
        · cases hs
      · cases hs
    · cases hs
  · cases hs
set_option maxHeartbeats 2000000 in
theorem am_k_bastore (C : am_Ctx p s m args meth c D cA tS base z) {len aux pc : Nat} {L : List (Option Value)} {st : List Value} {h : am_H} {g : am_G} (hf : am_fetch z pc = some (.bastore, len, aux)) (hs : am_step d (.bastore) aux pc L st h = some g) (hd : R.frames = d ∧ 64 * d ≤ R.locals) (h0 : n0 ≤ h.1 ∧ s0 ≤ h.2.1) (hr : g.2.2.2.1 - n0 ≤ R.cells ∧ g.2.2.2.2.1 - s0 ≤ R.slots) (k : am_At p l e R s m args below meth c D cA tS base z Q n0 s0 g) : am_At p l e R s m args below meth c D cA tS base z Q n0 s0 (pc, L, st, h) := by
  obtain ⟨hx, hb, hml, hrt, hown, hts, hlk, hnm, hX, hz⟩ := C
  obtain ⟨hdc, hln, hres⟩ := am_chkz hz hf
  have hlen : len = 1 := by
    rcases hln with q | q
    · exact absurd (show (1 : Nat) = 0 from q) (by decide)
    · exact (show (1 : Nat) = len from q).symm
  subst hlen
  have hdc : decode (am_info z).2.1 pc = .ok (.bastore, 1) := hdc
  unfold am_step at hs
  dsimp only at hs
  split at hs
  · rename_i x i a st'
    split at hs
    · rename_i hlt
      split at hs
      · rename_i n f heq
        split at hs
        · rename_i hi
          cases hs
          intro H locs ls hS
          have hat : H[base + a]? = some (vp_cell (cA 1) (n, .inl f)) := by
            have h9 := hS.1.2 a hlt
            have heq' : (pc, L, Value.int x :: Value.int i :: Value.ref a :: st', h).2.2.2.2.2 a = Sum.inl (1, n, Sum.inl f) := heq
            rw [heq'] at h9
            exact h9
          refine W.zast hx hb hat ((hX.1.2 1 _ (am_tys_at cA (by decide))).1 n (fun j => .int (f j))) (fun q => by cases q) (by show ¬ (i < 0 ∨ (arrV _ _ _).slots.size ≤ _); rw [arrV_size]; exact fun q => q.elim hi.1 (Nat.not_le.mpr hi.2)) rfl rfl hdc fun H1 e1 e2 e3 => ?_
          refine k H1 _ ls ⟨hS.1.set (x := .inl (1, n, .inl (va_up f i.toNatClampNeg (x &&& 1)))) ?_ e2 e3, fun q hq => (e3 q (Nat.ne_of_lt (Nat.lt_of_lt_of_le hq (Nat.le_add_right base a)))).trans (hS.2.1 q hq), am_lc hS.2.2.1 (Nat.le_add_right base a), hS.2.2.2⟩
          show H1[base + a]? = some (vp_cell (cA 1) (n, .inl (va_up f i.toNatClampNeg (x &&& 1))))
          rw [e1, vp_cell_i, vp_cell_i, arrV_store]
          congr 2
          funext q
          by_cases hq : q = i.toNatClampNeg
          · subst hq
            simp [updV, va_up]
            try rfl
          · simp [updV, va_up, hq]
        · cases hs
      · cases hs
    · cases hs
  · cases hs
set_option maxHeartbeats 2000000 in
theorem am_k_aastore (C : am_Ctx p s m args meth c D cA tS base z) {len aux pc : Nat} {L : List (Option Value)} {st : List Value} {h : am_H} {g : am_G} (hf : am_fetch z pc = some (.aastore, len, aux)) (hs : am_step d (.aastore) aux pc L st h = some g) (hd : R.frames = d ∧ 64 * d ≤ R.locals) (h0 : n0 ≤ h.1 ∧ s0 ≤ h.2.1) (hr : g.2.2.2.1 - n0 ≤ R.cells ∧ g.2.2.2.2.1 - s0 ≤ R.slots) (k : am_At p l e R s m args below meth c D cA tS base z Q n0 s0 g) : am_At p l e R s m args below meth c D cA tS base z Q n0 s0 (pc, L, st, h) := by
  obtain ⟨hx, hb, hml, hrt, hown, hts, hlk, hnm, hX, hz⟩ := C
  obtain ⟨hdc, hln, hres⟩ := am_chkz hz hf
  have hlen : len = 1 := by
    rcases hln with q | q
    · exact absurd (show (1 : Nat) = 0 from q) (by decide)
    · exact (show (1 : Nat) = len from q).symm
  subst hlen
  have hdc : decode (am_info z).2.1 pc = .ok (.aastore, 1) := hdc
  unfold am_step at hs
  dsimp only at hs
  split at hs
  · rename_i v i a st'
    split at hs
    · rename_i hlt
      split at hs
      · rename_i t n f ci vs heqa heqv
        split at hs
        · rename_i hi
          obtain ⟨ht, hci, hi0, hin⟩ := hi
          subst hci
          cases hs
          intro H locs ls hS
          have hat : H[base + a]? = some (vp_cell (cA t) (n, .inr (.inr (.inr (.inr (fun j => (f j).map (fun k => base + k))))))) := by
            have h9 := hS.1.2 a hlt.1
            have heq' : (pc, L, Value.ref v :: Value.int i :: Value.ref a :: st', h).2.2.2.2.2 a = Sum.inl (t, n, Sum.inr f) := heqa
            rw [heq'] at h9
            exact h9
          have hav := hS.1.2 v hlt.2
          have heq' : (pc, L, Value.ref v :: Value.int i :: Value.ref a :: st', h).2.2.2.2.2 v = Sum.inr (am_ac t, vs) := heqv
          rw [heq'] at hav
          obtain ⟨r', hr', cellV, g1, g2, g3, -⟩ := hav
          obtain ⟨hty, T, N, hcl⟩ := am_aty ht.1 ht.2
          have hcls := (hX.1.1 _ _ hcl).2
          have hra := (hX.1.2 t _ (am_tys_at cA ht.2)).2
          dsimp only at hra
          rw [hty] at hra
          obtain ⟨kA, comp, k1, k2, k3, -⟩ := hra
          have hcomp : comp = D.1 (am_ac t) := Option.some.inj (k3.symm.trans hcls.1)
          subst hcomp
          obtain ⟨kC, hkC, -⟩ := hcls.2
          refine W.aast hx hb hat (fun q h => by cases h) (fun h => by cases h) k1 k2 rfl hkC ⟨hi0, by show _ < (arrV _ _ _).slots.size; rw [arrV_size]; exact hin⟩ g1 (fun q h => by rw [g3] at h; cases h) (by rw [g2]; exact hkC) (by rw [g2]; exact va_assign hcls) rfl rfl hdc fun H1 e1 e2 e3 => ?_
          refine k H1 _ ls ⟨hS.1.set (x := .inl (t, n, .inr (va_up f i.toNatClampNeg (some v)))) ?_ e2 e3, fun q hq => (e3 q (Nat.ne_of_lt (Nat.lt_of_lt_of_le hq (Nat.le_add_right base a)))).trans (hS.2.1 q hq), am_lc hS.2.2.1 (Nat.le_add_right base a), hS.2.2.2⟩
          show H1[base + a]? = some (vp_cell (cA t) (n, .inr (.inr (.inr (.inr (fun j => (va_up f i.toNatClampNeg (some v) j).map (fun k => base + k)))))))
          rw [e1, vp_cell_q, vp_cell_q, arrV_store]
          congr 2
          funext q
          by_cases hq : q = i.toNatClampNeg
          · subst hq
            simp [updV, va_up, va_rf]
          · simp [updV, va_up, hq]
        · cases hs
      · cases hs
    · cases hs
  · cases hs
set_option maxHeartbeats 2000000 in
theorem am_k_objinit (C : am_Ctx p s m args meth c D cA tS base z) {n : Nat} {len aux pc : Nat} {L : List (Option Value)} {st : List Value} {h : am_H} {g : am_G} (hf : am_fetch z pc = some (.invokespecial n, len, aux)) (hs : am_step d (.invokespecial n) aux pc L st h = some g) (hd : R.frames = d ∧ 64 * d ≤ R.locals) (h0 : n0 ≤ h.1 ∧ s0 ≤ h.2.1) (hr : g.2.2.2.1 - n0 ≤ R.cells ∧ g.2.2.2.2.1 - s0 ≤ R.slots) (k : am_At p l e R s m args below meth c D cA tS base z Q n0 s0 g) : am_At p l e R s m args below meth c D cA tS base z Q n0 s0 (pc, L, st, h) := by
  obtain ⟨hx, hb, hml, hrt, hown, hts, hlk, hnm, hX, hz⟩ := C
  obtain ⟨hdc, hln, hres⟩ := am_chkz hz hf
  have hlen : len = 3 := by
    rcases hln with q | q
    · exact absurd (show (3 : Nat) = 0 from q) (by decide)
    · exact (show (3 : Nat) = len from q).symm
  subst hlen
  have hdc : decode (am_info z).2.1 pc = .ok (.invokespecial n, 3) := hdc
  unfold am_step at hs
  dsimp only at hs
  split at hs
  · rename_i hq
    split at hs
    · rename_i a st'
      split at hs
      · rename_i hsum
        cases hs
        have hres' : ((Nat.beq (aux / 10000) 1000 && am_w (aux % 10000) (.methodLink (am_info z).1.cls n Lib.objectInit)) || (Nat.blt (aux / 10000) am_count && am_mlk (am_info z).1.cls n aux)) = true := hres
        have hno : Nat.blt (aux / 10000) am_count = false := by rw [hq.1]; rfl
        rw [hno, Bool.false_and, Bool.or_false, Bool.and_eq_true] at hres'
        intro H locs ls hS
        refine W.objInit hx hb hown (hts _ (am_in hres'.2 rfl)) (hts _ am_g_oi) (hts _ am_g_oc) rfl (by rw [hml]; exact hS.2.2.2.2.1) rfl hdc (by rw [hd.1]; exact hq.2) ?_ (k H locs ls hS)
        have hro : 2 * (F0 m pc ls []).monitorRoom + ((st'.map (am_v base tS)).map fun v => v.category).sum ≤ 8 := lv_room (by rw [am_sum]; exact hsum)
        have hro2 : 2 * (F0 m pc ls ((Value.ref a :: st').map (am_v base tS))).monitorRoom + ((st'.map (am_v base tS)).map fun v => v.category).sum ≤ 8 := hro
        have := hd.2
        have := hq.2
        show 2 * (F0 m pc ls ((Value.ref a :: st').map (am_v base tS))).monitorRoom + ((st'.map (am_v base tS)).map fun v => v.category).sum + 12 ≤ R.locals
        omega
      · cases hs
    · cases hs
  · cases hs
set_option maxHeartbeats 2000000 in
theorem am_k_arraycopy (C : am_Ctx p s m args meth c D cA tS base z) {n : Nat} {len aux pc : Nat} {L : List (Option Value)} {st : List Value} {h : am_H} {g : am_G} (hf : am_fetch z pc = some (.invokestatic n, len, aux)) (hs : am_step d (.invokestatic n) aux pc L st h = some g) (hd : R.frames = d ∧ 64 * d ≤ R.locals) (h0 : n0 ≤ h.1 ∧ s0 ≤ h.2.1) (hr : g.2.2.2.1 - n0 ≤ R.cells ∧ g.2.2.2.2.1 - s0 ≤ R.slots) (k : am_At p l e R s m args below meth c D cA tS base z Q n0 s0 g) : am_At p l e R s m args below meth c D cA tS base z Q n0 s0 (pc, L, st, h) := by
  obtain ⟨hx, hb, hml, hrt, hown, hts, hlk, hnm, hX, hz⟩ := C
  obtain ⟨hdc, hln, hres⟩ := am_chkz hz hf
  have hlen : len = 3 := by
    rcases hln with q | q
    · exact absurd (show (3 : Nat) = 0 from q) (by decide)
    · exact (show (3 : Nat) = len from q).symm
  subst hlen
  have hdc : decode (am_info z).2.1 pc = .ok (.invokestatic n, 3) := hdc
  unfold am_step at hs
  dsimp only at hs
  split at hs
  · rename_i hq
    split at hs
    · rename_i n dp a sp a0 st'
      split at hs
      · rename_i hlt
        split at hs
        · rename_i m0 f m1 g' heq0 heq1
          split at hs
          · rename_i hcd
            obtain ⟨h1, h2, h3, h4, h5⟩ := hcd
            cases hs
            have hres' : ((Nat.beq (aux / 10000) 1001 && am_w (aux % 10000) (.methodLink (am_info z).1.cls _ arraycopyName)) || (Nat.blt (aux / 10000) am_count && am_mlk (am_info z).1.cls _ aux)) = true := hres
            have hno : Nat.blt (aux / 10000) am_count = false := by rw [hq.1]; rfl
            rw [hno, Bool.false_and, Bool.or_false, Bool.and_eq_true] at hres'
            intro H locs ls hS
            have hc0 : H[base + a0]? = some (vp_cell (cA 0) (m0, .inl f)) := by
              have h9 := hS.1.2 a0 hlt.2.1
              have heq' : (pc, L, Value.int n :: Value.int dp :: Value.ref a :: Value.int sp :: Value.ref a0 :: st', h).2.2.2.2.2 a0 = Sum.inl (0, m0, Sum.inl f) := heq0
              rw [heq'] at h9
              exact h9
            have hc1 : H[base + a]? = some (vp_cell (cA 0) (m1, .inl g')) := by
              have h9 := hS.1.2 a hlt.1
              have heq' : (pc, L, Value.int n :: Value.int dp :: Value.ref a :: Value.int sp :: Value.ref a0 :: st', h).2.2.2.2.2 a = Sum.inl (0, m1, Sum.inl g') := heq1
              rw [heq'] at h9
              exact h9
            have nn : ∀ z : Int32, ¬ z < 0 → z.toInt = (z.toNatClampNeg : Int) := by
              intro z hz
              have hz0 : (0 : Int) ≤ z.toInt := by
                have := Int32.not_lt.mp hz
                simpa using Int32.le_iff_toInt_le.mp this
              show z.toInt = ((z.toInt.toNat : Nat) : Int)
              omega
            intro T hT X
            obtain ⟨-, k0, hk0, cm0, hkk0⟩ := (hX.1.2 0 _ (am_tys_at cA (by decide))).1 m0 (fun j => .int (f j))
            obtain ⟨-, k1, hk1, cm1, hkk1⟩ := (hX.1.2 0 _ (am_tys_at cA (by decide))).1 m1 (fun j => .int (g' j))
            have hro : ((st'.map (am_v base tS)).map fun v => v.category).sum ≤ 8 := by rw [am_sum]; exact hlt.2.2
            have hnw : nativeFrameWords "java/lang/System" "arraycopy" 5 + 11 ≤ 50 := by decide +kernel
            have hd2 := hd.2
            have hq2 := hq.2
            obtain ⟨vm', X', step⟩ := X.arraycopy hx hown (hts _ (am_in hres'.2 rfl)) (hts _ am_g_nn) (hts _ am_g_ns) (hts _ am_g_ni) (src := base + a0) (dst := base + a) (cs := vp_cell (cA 0) (m0, .inl f)) (cd := vp_cell (cA 0) (m1, .inl g')) (srcPos := sp) (destPos := dp) (n := n) (by rw [hT]; exact hc0) (by rw [hT]; exact hc1)
              (fun _ h => by cases h) (fun _ h => by cases h) (fun h => by cases h) (fun h => by cases h) hk0 hk1 hkk0 hkk1 (by simp [refKind, am_ty]) h1 h2 h3
              (by rw [nn sp h1, nn n h3]; show ¬ _ > ((arrV (cA 0) m0 (fun j => .int (f j))).slots.size : Int); rw [arrV_size]; omega)
              (by rw [nn dp h2, nn n h3]; show ¬ _ > ((arrV (cA 0) m1 (fun j => .int (g' j))).slots.size : Int); rw [arrV_size]; omega)
              (fun vm₁ _ i hi => by
                have e : (vp_cell (cA 0) (m0, .inl f)).slots.getD (sp.toNatClampNeg + i) .null = .int (f (sp.toNatClampNeg + i)) := by
                  show (arrV (cA 0) m0 (fun j => .int (f j))).slots.getD _ _ = _
                  rw [Array.getD_eq_getD_getElem?, arrV_read _ _ (by omega)]
                  rfl
                refine ⟨?_, ?_⟩
                · rw [e]
                  rfl
                · rw [e]
                  exact trivial)
              (g := F0 m pc ls (.int n :: .int dp :: .ref (base + a) :: .int sp :: .ref (base + a0) :: st'.map (am_v base tS))) rfl (by rw [hml]; exact hS.2.2.2.2.1) (rest := st'.map (am_v base tS)) rfl (by rw [hb]; exact hdc) (by rw [hd.1]; exact hq.2) (by show 2 * 0 + _ + _ ≤ _; omega)
            have e1 : copied (vp_cell (cA 0) (m0, .inl f)) (vp_cell (cA 0) (m1, .inl g')) sp dp n = vp_cell (cA 0) (m1, .inl (va_cpy f g' sp.toNatClampNeg dp.toNatClampNeg n.toNatClampNeg)) := va_copied (fun z => .int z) (cA 0) (cA 0) f g' h4
            rw [e1] at X' step
            have hl : base + a < H.size := (Array.getElem?_eq_some_iff.mp hc1).1
            have hheap : ((T.setVm vm').setCell (base + a) (vp_cell (cA 0) (m1, .inl (va_cpy f g' sp.toNatClampNeg dp.toNatClampNeg n.toNatClampNeg)))).heap = H.setIfInBounds (base + a) (vp_cell (cA 0) (m1, .inl (va_cpy f g' sp.toNatClampNeg dp.toNatClampNeg n.toNatClampNeg))) := by rw [← hT]; rfl
            have oq : ∀ q : Nat, q ≠ base + a → (H.setIfInBounds (base + a) (vp_cell (cA 0) (m1, .inl (va_cpy f g' sp.toNatClampNeg dp.toNatClampNeg n.toNatClampNeg))))[q]? = H[q]? := fun q hq => by simp [Array.getElem?_setIfInBounds, Ne.symm hq]
            obtain ⟨t, a1, b1⟩ := k (H.setIfInBounds (base + a) (vp_cell (cA 0) (m1, .inl (va_cpy f g' sp.toNatClampNeg dp.toNatClampNeg n.toNatClampNeg)))) _ ls ⟨hS.1.set (x := .inl (0, m1, .inl (va_cpy f g' sp.toNatClampNeg dp.toNatClampNeg n.toNatClampNeg))) (show (H.setIfInBounds (base + a) _)[base + a]? = some _ by simp [Array.getElem?_setIfInBounds, hl]) (by simp) oq, fun q hq => (oq q (Nat.ne_of_lt (Nat.lt_of_lt_of_le hq (Nat.le_add_right base a)))).trans (hS.2.1 q hq), (fun x hx => by
              rcases List.mem_append.mp hx with h | h
              · exact hS.2.2.1 x h
              · obtain ⟨y, -, hy⟩ := List.mem_map.mp h
                rw [← hy]
                exact Nat.le_add_right base a), hS.2.2.2⟩ _ hheap X'
            exact ⟨t, step t a1, b1⟩
          · cases hs
        · cases hs
      · cases hs
    · cases hs
  · cases hs
end AMH
