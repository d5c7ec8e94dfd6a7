/-! the class: fill -/
theorem nI_ij {a b : Nat} (ha : a < 2 ^ 31) (hb : b < 2 ^ 31) (h : nI a = nI b) : a = b := by
  have e := congrArg Int32.toInt h
  rw [nI_toInt ha, nI_toInt hb] at e
  omega
/-- neighbours on the ten by ten -/
def nb_0 (k j : Nat) : Prop := 9 < k ∧ j = k - 10
def nb_1 (k j : Nat) : Prop := 0 < k % 10 ∧ j = k - 1
def nb_2 (k j : Nat) : Prop := k % 10 < 9 ∧ j = k + 1
def nb_3 (k j : Nat) : Prop := k < 90 ∧ j = k + 10
def nb (k j : Nat) : Prop := nb_0 k j ∨ nb_1 k j ∨ nb_2 k j ∨ nb_3 k j
/-- what is reached from s through W -/
def fl_R (W : Nat → Prop) (s k : Nat) : Prop := ∀ Q : Nat → Prop, Q s → (∀ a b, Q a → a < 100 → nb a b → b < 100 → W b → Q b) → Q k
abbrev kx (k l : Nat) : Nat := cx (k / 10) (k % 10) l
theorem kx_eq (k l : Nat) : kx k l = 4 * k + l := by
  show (k / 10 * 10 + k % 10) * 4 + l = 4 * k + l
  omega
def fp (u : Nat) (f : Nat → Int32) (wl : Int32) (ρ : Nat → Int32) : Nat → Int32 := fun i => if i % 4 = u ∧ ¬ ρ (i / 4) = 0 then wl else f i
theorem fp_at {u : Nat} {f : Nat → Int32} {wl : Int32} {ρ : Nat → Int32} {k l : Nat} (hl : l < 4) : fp u f wl ρ (kx k l) = if l = u ∧ ¬ ρ k = 0 then wl else f (kx k l) := by
  unfold fp
  rw [kx_eq, show (4 * k + l) % 4 = l by omega, show (4 * k + l) / 4 = k by omega]
theorem fp_up {u : Nat} {f : Nat → Int32} {wl : Int32} {ρ : Nat → Int32} {j : Nat} (hu : u < 4) : va_up (fp u f wl ρ) (kx j u) wl = fp u f wl (va_up ρ j 1) := by
  funext i
  rw [kx_eq]
  by_cases e : i = 4 * j + u
  · subst e
    rw [va_up_self]
    unfold fp
    rw [show (4 * j + u) % 4 = u by omega, show (4 * j + u) / 4 = j by omega, va_up_self, if_pos ⟨rfl, by decide⟩]
  · rw [va_up_ne _ _ e]
    unfold fp
    by_cases e2 : i / 4 = j
    · rw [if_neg (fun q => e (by omega)), if_neg (fun q => e (by omega))]
    · rw [va_up_ne _ _ e2]
noncomputable def fz (W : Nat → Prop) (ρ : Nat → Int32) (k : Nat) : Int32 := @ite _ (W k ∧ ρ k = 0) (Classical.propDecidable _) 0 1
theorem fz_up {W : Nat → Prop} {ρ : Nat → Int32} {j : Nat} : fz W (va_up ρ j 1) = va_up (fz W ρ) j 1 := by
  funext k
  by_cases e : k = j
  · subst e
    rw [va_up_self]
    unfold fz
    rw [va_up_self]
    exact @if_neg _ (Classical.propDecidable _) (fun q => absurd q.2 (by decide)) _ _ _
  · rw [va_up_ne _ _ e]
    unfold fz
    rw [va_up_ne _ _ e]
def fi (W : Nat → Prop) (s : Nat) (ρ g : Nat → Int32) (n : Nat) : Prop := (∀ i, i < n → ∃ k, k < 100 ∧ g i = nI k ∧ ¬ ρ k = 0) ∧ (∀ k, k < 100 → ¬ ρ k = 0 → fl_R W s k ∧ W k ∧ ∃ i, i < n ∧ g i = nI k) ∧ n + fl_z (fz W ρ) 0 100 ≤ 100 ∧ ¬ ρ s = 0
theorem fi_0 {W : Nat → Prop} {s : Nat} {g : Nat → Int32} (hs : s < 100) (hW : W s) (hg : g 0 = nI s) : fi W s (va_up (fun _ => 0) s 1) g 1 := by
  refine ⟨fun i hi => ?_, fun k hk hr => ?_, ?_, ?_⟩
  · rw [show i = 0 by omega]
    exact ⟨s, hs, hg, by rw [va_up_self]; decide⟩
  · by_cases e : k = s
    · subst e
      exact ⟨fun Q q _ => q, hW, 0, by omega, hg⟩
    · rw [va_up_ne _ _ e] at hr
      exact absurd rfl hr
  · have h1 : fz W (fun _ => 0) s = 0 := @if_pos _ (Classical.propDecidable _) ⟨hW, rfl⟩ _ _ _
    have h2 := fl_z_in h1 100 0 (by omega) (by omega)
    have h3 := fl_z_le (fz W (fun _ => 0)) 100 0
    rw [fz_up]
    omega
  · rw [va_up_self]; decide
theorem fi_s {W : Nat → Prop} {s : Nat} {ρ g : Nat → Int32} {n k j : Nat} (hI : fi W s ρ g n) (hk : k < 100) (hk1 : ¬ ρ k = 0) (hj : j < 100) (hb : nb k j) (hW : W j) (h0 : ρ j = 0) : n < 100 ∧ fi W s (va_up ρ j 1) (va_up g n (nI j)) (n + 1) := by
  obtain ⟨i1, i2, i3, i4⟩ := hI
  have z0 : fz W ρ j = 0 := @if_pos _ (Classical.propDecidable _) ⟨hW, h0⟩ _ _ _
  have z1 := fl_z_in z0 100 0 (by omega) (by omega)
  refine ⟨by omega, fun i hi => ?_, fun a ha hr => ?_, by rw [fz_up]; omega, ?_⟩
  · by_cases e : i = n
    · subst e
      exact ⟨j, hj, va_up_self _ _ _, by rw [va_up_self]; decide⟩
    · rw [va_up_ne _ _ e]
      obtain ⟨a, ha, hg, hr⟩ := i1 i (by omega)
      refine ⟨a, ha, hg, ?_⟩
      by_cases e2 : a = j
      · subst e2; rw [va_up_self]; decide
      · rw [va_up_ne _ _ e2]; exact hr
  · by_cases e : a = j
    · subst e
      exact ⟨fun Q q1 q2 => q2 k a ((i2 k hk hk1).1 Q q1 q2) hk hb hj hW, hW, n, by omega, va_up_self _ _ _⟩
    · rw [va_up_ne _ _ e] at hr
      obtain ⟨a1, a2, i, hi, hg⟩ := i2 a ha hr
      exact ⟨a1, a2, i, by omega, by rw [va_up_ne _ _ (by omega)]; exact hg⟩
  · by_cases e : s = j
    · subst e; rw [va_up_self]; decide
    · rw [va_up_ne _ _ e]; exact i4
theorem Bf_p {B : Nat → Nat → Int32} {a b g : Nat → Int32} : va_up (va_up (va_up B 0 a) 2 g) 0 b = va_up (va_up B 0 b) 2 g := by
  funext i
  by_cases e : i = 0
  · subst e; rw [va_up_self, va_up_ne _ _ (by omega), va_up_self]
  · rw [va_up_ne _ _ e]
    by_cases e2 : i = 2
    · subst e2; rw [va_up_self, va_up_self]
    · rw [va_up_ne _ _ e2, va_up_ne _ _ e2, va_up_ne _ _ e, va_up_ne _ _ e]
theorem Bf_r {B : Nat → Nat → Int32} {a g g' : Nat → Int32} : va_up (va_up (va_up B 0 a) 2 g) 2 g' = va_up (va_up B 0 a) 2 g' := by
  funext i
  by_cases e : i = 2
  · subst e; rw [va_up_self, va_up_self]
  · rw [va_up_ne _ _ e, va_up_ne _ _ e, va_up_ne _ _ e]
/-- fresh: a knot of the selection that has the old wool -/
def fr (R C u : Nat) (f : Nat → Int32) (old : Int32) (k : Nat) : Prop := (k / 10 < R ∧ k % 10 < C) ∧ f (kx k 3) = 1 ∧ f (kx k u) = old
section D8
variable {d : Nat} {h h' : am_H} {res : Option Value} {τ : Nat → Int32} {t : Int64} {B : Nat → Nat → Int32} {P : Nat → Nat → Option Nat} {R C u q o : Nat}
theorem fp_paint {f : Nat → Int32} {wl : Int32} {ρ : Nat → Int32} {j : Nat} (hR : R ≤ 10) (hC : C ≤ 10) (hu : u < 3) (hj : j < 100) (hk : j / 10 < R ∧ j % 10 < C) (hs : f (kx j 3) = 1) : sp_paint R C u (fp u f wl ρ) (nI (j / 10)) (nI (j % 10)) wl = fp u f wl (va_up ρ j 1) := by
  unfold sp_paint
  rw [nI_clamp (by omega), nI_clamp (by omega), if_pos ⟨kn_in hR hC hk.1 hk.2, (fp_at (k := j) (l := 3) (by omega)).trans ((if_neg (fun q => by omega)).trans hs)⟩]
  exact fp_up (by omega)
theorem t_side (hn : 15 ≤ h.1) (hR : 1 ≤ R ∧ R ≤ 10) (hC : 1 ≤ C ∧ C ≤ 10) (h0 : τ 0 = nI R) (h1 : τ 1 = nI C) (h2 : τ 2 = nI u) (hu : u < 3) (hd : 1 < d) {f : Nat → Int32} {old wl ra ca : Int32} (hw : ¬ old = wl) {s n x k : Nat} {sd : Int32} {r c : Int32} {ρ g : Nat → Int32} {N : Nat → Prop} (hI : fi (fr R C u f old) s ρ g n) (hk : k < 100) (hk1 : ¬ ρ k = 0) (hN : ∀ j, N j → nb k j) (hj : (∃ j, j < 100 ∧ N j ∧ (∀ i, N i → i = j) ∧ r = nI (j / 10) ∧ c = nI (j % 10)) ∨ (¬ cl_kn R C r c ∧ ∀ j, ¬ N j)) (e : Option Value) : ∃ (ρ' g' : Nat → Int32) (n' : Nat) (e' : Option Value), fi (fr R C u f old) s ρ' g' n' ∧ (∀ j, ¬ ρ j = 0 → ¬ ρ' j = 0) ∧ (∀ i, i < n → g' i = g i) ∧ n ≤ n' ∧ (∀ j, N j → (fr R C u f old) j → ¬ ρ' j = 0) ∧ ∀ (res : Option Value) (h' : am_H), am_ev d z_Painter_fill (221, [some (.ref 8), some (.int ra), some (.int ca), some (.int wl), some (.int old), some (.int (nI n')), some (.int (nI x)), some (.int sd), some (.int r), some (.int c), e'], [], dH h τ t (va_up (va_up B 0 (fp u f wl ρ')) 2 g') P) res h' → am_ev d z_Painter_fill (132, [some (.ref 8), some (.int ra), some (.int ca), some (.int wl), some (.int old), some (.int (nI n)), some (.int (nI x)), some (.int sd), some (.int r), some (.int c), e], [], dH h τ t (va_up (va_up B 0 (fp u f wl ρ)) 2 g) P) res h' := by
  have none9 : ¬ cl_kn R C r c → ∀ (res : Option Value) (h' : am_H), am_ev d z_Painter_fill (221, [some (.ref 8), some (.int ra), some (.int ca), some (.int wl), some (.int old), some (.int (nI n)), some (.int (nI x)), some (.int sd), some (.int r), some (.int c), some (.int 0)], [], dH h τ t (va_up (va_up B 0 (fp u f wl ρ)) 2 g) P) res h' → am_ev d z_Painter_fill (132, [some (.ref 8), some (.int ra), some (.int ca), some (.int wl), some (.int old), some (.int (nI n)), some (.int (nI x)), some (.int sd), some (.int r), some (.int c), e], [], dH h τ t (va_up (va_up B 0 (fp u f wl ρ)) 2 g) P) res h' := by
    intro zk res h' K
    refine ev_go 1 (q := 133) rfl ?_
    refine ev_get (q := 136) rfl (d_8 hn) rfl rfl rfl ?_
    refine ev_go 2 (q := 140) rfl ?_
    refine ev_virt (z' := z_Cloth_isChosen) (q := 143) rfl rfl (by decide) rfl (by simp [Value.category]) rfl (by omega) rfl rfl (d_1 hn) (c_chosen0 hn (by omega) h0 h1 zk) ?_
    refine ev_tp (y := 0) rfl ?_
    refine ev_if_eq (t := 173) (q := 146) rfl rfl rfl (fun _ => ?_) (fun c => absurd (by decide) c)
    refine ev_go 3 (q := 178) rfl ?_
    refine ev_if_eq (t := 221) (q := 181) rfl rfl rfl (fun _ => ?_) (fun c => absurd (by decide) c)
    exact K
  rcases hj with ⟨j, j1, j2, j3, rfl, rfl⟩ | ⟨j1, j2⟩
  · by_cases zk : j / 10 < R ∧ j % 10 < C
    · have hnot : ¬ fr R C u f old j → ∀ i, N i → fr R C u f old i → ¬ ρ i = 0 := fun q i hi hf => absurd (by rw [j3 i hi] at hf; exact hf) q
      by_cases zs : f (kx j 3) = 1
      · have zs1 : fp u f wl ρ (kx j 3) = 1 := (fp_at (by omega)).trans ((if_neg (fun q => by omega)).trans zs)
        by_cases zo : ¬ ρ j = 0 ∨ ¬ f (kx j u) = old
        · have zo1 : ¬ fp u f wl ρ (kx j u) = old := by
            rw [fp_at (by omega)]
            split
            · exact fun q => hw q.symm
            · rename_i q
              rcases zo with zo | zo
              · exact absurd ⟨rfl, zo⟩ q
              · exact zo
          refine ⟨ρ, g, n, some (.int 0), hI, fun _ q => q, fun _ _ => rfl, Nat.le_refl _, ?_, ?_⟩
          · intro i hi hf
            rw [j3 i hi] at hf ⊢
            rcases zo with zo | zo
            · exact zo
            · exact absurd hf.2.2 zo
          · intro res h' K
            refine ev_go 1 (q := 133) rfl ?_
            refine ev_get (q := 136) rfl (d_8 hn) rfl rfl rfl ?_
            refine ev_go 2 (q := 140) rfl ?_
            refine ev_virt (z' := z_Cloth_isChosen) (q := 143) rfl rfl (by decide) rfl (by simp [Value.category]) rfl (by omega) rfl rfl (d_1 hn) (c_chosen hn (by omega) hR.2 hC.2 h0 h1 zk.1 zk.2) ?_
            refine ev_tp (y := 1) (am_b1 zs1) ?_
            refine ev_if_eq (t := 173) (q := 146) rfl rfl rfl (fun c => absurd c (by decide)) (fun _ => ?_)
            refine ev_go 1 (q := 147) rfl ?_
            refine ev_get (q := 150) rfl (d_8 hn) rfl rfl rfl ?_
            refine ev_go 3 (q := 155) rfl ?_
            refine ev_get (q := 158) rfl (d_8 hn) rfl rfl rfl ?_
            refine ev_get (q := 161) rfl (d_1 hn) rfl rfl rfl ?_
            refine ev_tp (y := nI u) h2 ?_
            refine ev_virt (z' := z_Cloth_woolAt) (q := 164) rfl rfl (by decide) rfl (by simp [Value.category]) rfl (by omega) rfl rfl (d_1 hn) (c_wool hn (by omega) hR.2 hC.2 h0 h1 zk.1 zk.2 hu) ?_
            refine ev_go 1 (q := 166) rfl ?_
            refine ev_icmp_ne (t := 173) (q := 169) rfl rfl rfl (fun zc1 => ?_) (fun c => absurd c zo1)
            refine ev_go 3 (q := 178) rfl ?_
            refine ev_if_eq (t := 221) (q := 181) rfl rfl rfl (fun _ => ?_) (fun c => absurd (by decide) c)
            exact K
        · have zr : ρ j = 0 := Classical.not_not.mp (fun q => zo (Or.inl q))
          have zf : f (kx j u) = old := Classical.not_not.mp (fun q => zo (Or.inr q))
          have zo1 : fp u f wl ρ (kx j u) = old := (fp_at (by omega)).trans ((if_neg (fun q => q.2 zr)).trans zf)
          obtain ⟨n1, i1⟩ := fi_s hI hk hk1 j1 (hN j j2) ⟨zk, zs, zf⟩ zr
          refine ⟨va_up ρ j 1, va_up g n (nI j), n + 1, some (.int 1), i1, ?_, fun i hi => va_up_ne _ _ (by omega), by omega, ?_, ?_⟩
          · intro i hi
            by_cases e9 : i = j
            · subst e9; rw [va_up_self]; decide
            · rw [va_up_ne _ _ e9]; exact hi
          · intro i hi hf
            rw [j3 i hi, va_up_self]; decide
          · intro res h' K
            refine ev_go 1 (q := 133) rfl ?_
            refine ev_get (q := 136) rfl (d_8 hn) rfl rfl rfl ?_
            refine ev_go 2 (q := 140) rfl ?_
            refine ev_virt (z' := z_Cloth_isChosen) (q := 143) rfl rfl (by decide) rfl (by simp [Value.category]) rfl (by omega) rfl rfl (d_1 hn) (c_chosen hn (by omega) hR.2 hC.2 h0 h1 zk.1 zk.2) ?_
            refine ev_tp (y := 1) (am_b1 zs1) ?_
            refine ev_if_eq (t := 173) (q := 146) rfl rfl rfl (fun c => absurd c (by decide)) (fun _ => ?_)
            refine ev_go 1 (q := 147) rfl ?_
            refine ev_get (q := 150) rfl (d_8 hn) rfl rfl rfl ?_
            refine ev_go 3 (q := 155) rfl ?_
            refine ev_get (q := 158) rfl (d_8 hn) rfl rfl rfl ?_
            refine ev_get (q := 161) rfl (d_1 hn) rfl rfl rfl ?_
            refine ev_tp (y := nI u) h2 ?_
            refine ev_virt (z' := z_Cloth_woolAt) (q := 164) rfl rfl (by decide) rfl (by simp [Value.category]) rfl (by omega) rfl rfl (d_1 hn) (c_wool hn (by omega) hR.2 hC.2 h0 h1 zk.1 zk.2 hu) ?_
            refine ev_go 1 (q := 166) rfl ?_
            refine ev_icmp_ne (t := 173) (q := 169) rfl rfl rfl (fun c => absurd zo1 c) (fun zc1 => ?_)
            refine ev_go 4 (q := 178) rfl ?_
            refine ev_if_eq (t := 221) (q := 181) rfl rfl rfl (fun c => absurd c (by decide)) (fun _ => ?_)
            refine ev_go 2 (q := 184) rfl ?_
            refine ev_get (q := 187) rfl (d_8 hn) rfl rfl rfl ?_
            refine ev_alen (v := 100) (q := 188) rfl (d_10 hn) (by decide) rfl rfl ?_
            refine ev_icmp_ge (t := 221) (q := 191) rfl rfl rfl (fun c => absurd c (nI_ge (b := 100) (by omega) (by omega))) (fun zc2 => ?_)
            refine ev_go 1 (q := 192) rfl ?_
            refine ev_get (q := 195) rfl (d_8 hn) rfl rfl rfl ?_
            refine ev_go 3 (q := 200) rfl ?_
            refine ev_virt (z' := z_Cloth_paint) (q := 203) rfl rfl (by decide) rfl (by simp [Value.category]) rfl (by omega) rfl rfl (d_1 hn) (c_paint hn (by omega) hR.2 hC.2 h0 h1 h2 hu) ?_
            refine ev_hp (congrArg (fun X => dH h τ t X P) (Bf_p.trans (congrArg (fun X => va_up (va_up B 0 X) 2 g) (fp_paint hR.2 hC.2 hu j1 zk zs)))) ?_
            refine ev_go 1 (q := 204) rfl ?_
            refine ev_get (q := 207) rfl (d_8 hn) rfl rfl rfl ?_
            refine ev_go 6 (q := 217) (st' := .int ((_ * 10) + _) :: _ :: _ :: _) rfl ?_
            rw [wb_ix, show 10 * (j / 10) + j % 10 = j by omega]
            refine ev_iastn (q := 218) rfl (d_10 hn) rfl (show n < 100 by omega) (by decide) rfl ?_
            refine ev_hp du_10 ?_
            refine ev_hp (congrArg (fun X => dH h τ t X P) Bf_r) ?_
            refine ev_go 1 (q := 221) rfl ?_
            rw [nI_s]
            exact K
      · have zs1 : ¬ fp u f wl ρ (kx j 3) = 1 := fun q => zs (((fp_at (by omega)).trans (if_neg (fun q => by omega))).symm.trans q)
        refine ⟨ρ, g, n, some (.int 0), hI, fun _ q => q, fun _ _ => rfl, Nat.le_refl _, hnot (fun q => zs q.2.1), ?_⟩
        intro res h' K
        refine ev_go 1 (q := 133) rfl ?_
        refine ev_get (q := 136) rfl (d_8 hn) rfl rfl rfl ?_
        refine ev_go 2 (q := 140) rfl ?_
        refine ev_virt (z' := z_Cloth_isChosen) (q := 143) rfl rfl (by decide) rfl (by simp [Value.category]) rfl (by omega) rfl rfl (d_1 hn) (c_chosen hn (by omega) hR.2 hC.2 h0 h1 zk.1 zk.2) ?_
        refine ev_tp (y := 0) (am_bz zs1) ?_
        refine ev_if_eq (t := 173) (q := 146) rfl rfl rfl (fun _ => ?_) (fun c => absurd (by decide) c)
        refine ev_go 3 (q := 178) rfl ?_
        refine ev_if_eq (t := 221) (q := 181) rfl rfl rfl (fun _ => ?_) (fun c => absurd (by decide) c)
        exact K
    · refine ⟨ρ, g, n, some (.int 0), hI, fun _ q => q, fun _ _ => rfl, Nat.le_refl _, fun i hi hf => ?_, none9 (fun p => zk ⟨(kn_nI hR.2 (by omega)).mp p.1, (kn_nI hC.2 (by omega)).mp p.2⟩)⟩
      rw [j3 i hi] at hf
      exact absurd hf.1 zk
  · exact ⟨ρ, g, n, some (.int 0), hI, fun _ q => q, fun _ _ => rfl, Nat.le_refl _, fun i hi _ => absurd hi (j2 i), none9 j1⟩
theorem sd_0 {k : Nat} (hR : R ≤ 10) (hk : k < 100) : (∃ j, j < 100 ∧ nb_0 k j ∧ (∀ i, nb_0 k i → i = j) ∧ nI (k / 10) + (-1) = nI (j / 10) ∧ nI (k % 10) + 0 = nI (j % 10)) ∨ (¬ cl_kn R C (nI (k / 10) + (-1)) (nI (k % 10) + 0) ∧ ∀ j, ¬ nb_0 k j) := by
  by_cases e : 9 < k
  · refine Or.inl ⟨k - 10, by omega, ⟨e, rfl⟩, fun i q => q.2, ?_, ?_⟩
    · rw [show (k - 10) / 10 = k / 10 - 1 by omega]; exact nI_p (by omega)
    · rw [show (k - 10) % 10 = k % 10 by omega]; exact nI_add _ 0
  · refine Or.inr ⟨?_, fun j q => e q.1⟩
    rw [show k / 10 = 0 by omega]
    exact fun p => absurd p.1.1 (by decide)
theorem sd_1 {k : Nat} (hR : R ≤ 10) (hk : k < 100) : (∃ j, j < 100 ∧ nb_1 k j ∧ (∀ i, nb_1 k i → i = j) ∧ nI (k / 10) + 0 = nI (j / 10) ∧ nI (k % 10) + (-1) = nI (j % 10)) ∨ (¬ cl_kn R C (nI (k / 10) + 0) (nI (k % 10) + (-1)) ∧ ∀ j, ¬ nb_1 k j) := by
  by_cases e : 0 < k % 10
  · refine Or.inl ⟨k - 1, by omega, ⟨e, rfl⟩, fun i q => q.2, ?_, ?_⟩
    · rw [show (k - 1) / 10 = k / 10 by omega]; exact nI_add _ 0
    · rw [show (k - 1) % 10 = k % 10 - 1 by omega]; exact nI_p (by omega)
  · refine Or.inr ⟨?_, fun j q => e q.1⟩
    rw [show k % 10 = 0 by omega]
    exact fun p => absurd p.2.1 (by decide)
theorem sd_2 {k : Nat} (hC : C ≤ 10) (hk : k < 100) : (∃ j, j < 100 ∧ nb_2 k j ∧ (∀ i, nb_2 k i → i = j) ∧ nI (k / 10) + 0 = nI (j / 10) ∧ nI (k % 10) + 1 = nI (j % 10)) ∨ (¬ cl_kn R C (nI (k / 10) + 0) (nI (k % 10) + 1) ∧ ∀ j, ¬ nb_2 k j) := by
  by_cases e : k % 10 < 9
  · refine Or.inl ⟨k + 1, by omega, ⟨e, rfl⟩, fun i q => q.2, ?_, ?_⟩
    · rw [show (k + 1) / 10 = k / 10 by omega]; exact nI_add _ 0
    · rw [show (k + 1) % 10 = k % 10 + 1 by omega]; exact nI_1 _
  · refine Or.inr ⟨?_, fun j q => e q.1⟩
    rw [show k % 10 = 9 by omega]
    intro p
    have p2 : nI 10 < nI C := p.2.2
    have := (nI_ltI (by omega) (by omega)).mp p2
    omega
theorem sd_3 {k : Nat} (hR : R ≤ 10) (hk : k < 100) : (∃ j, j < 100 ∧ nb_3 k j ∧ (∀ i, nb_3 k i → i = j) ∧ nI (k / 10) + 1 = nI (j / 10) ∧ nI (k % 10) + 0 = nI (j % 10)) ∨ (¬ cl_kn R C (nI (k / 10) + 1) (nI (k % 10) + 0) ∧ ∀ j, ¬ nb_3 k j) := by
  by_cases e : k < 90
  · refine Or.inl ⟨k + 10, by omega, ⟨e, rfl⟩, fun i q => q.2, ?_, ?_⟩
    · rw [show (k + 10) / 10 = k / 10 + 1 by omega]; exact nI_1 _
    · rw [show (k + 10) % 10 = k % 10 by omega]; exact nI_add _ 0
  · refine Or.inr ⟨?_, fun j q => e q.1⟩
    rw [show k / 10 = 9 by omega]
    intro p
    have p2 : nI 10 < nI R := p.1.2
    have := (nI_ltI (by omega) (by omega)).mp p2
    omega
theorem t_node (hn : 15 ≤ h.1) (hR : 1 ≤ R ∧ R ≤ 10) (hC : 1 ≤ C ∧ C ≤ 10) (h0 : τ 0 = nI R) (h1 : τ 1 = nI C) (h2 : τ 2 = nI u) (hu : u < 3) (hd : 1 < d) {f : Nat → Int32} {old wl ra ca : Int32} (hw : ¬ old = wl) {s n x k : Nat} {ρ g : Nat → Int32} (hI : fi (fr R C u f old) s ρ g n) (hx : x < n) (hn1 : n ≤ 100) (hk : k < 100) (hg : g x = nI k) (hk1 : ¬ ρ k = 0) (e7 e8 e9 e : Option Value) : ∃ (ρ' g' : Nat → Int32) (n' : Nat) (e7' e8' e9' e' : Option Value), fi (fr R C u f old) s ρ' g' n' ∧ (∀ j, ¬ ρ j = 0 → ¬ ρ' j = 0) ∧ (∀ i, i < n → g' i = g i) ∧ n ≤ n' ∧ (∀ j, nb k j → (fr R C u f old) j → ¬ ρ' j = 0) ∧ ∀ (res : Option Value) (h' : am_H), am_ev d z_Painter_fill (227, [some (.ref 8), some (.int ra), some (.int ca), some (.int wl), some (.int old), some (.int (nI n')), some (.int (nI x)), e7', e8', e9', e'], [], dH h τ t (va_up (va_up B 0 (fp u f wl ρ')) 2 g') P) res h' → am_ev d z_Painter_fill (82, [some (.ref 8), some (.int ra), some (.int ca), some (.int wl), some (.int old), some (.int (nI n)), some (.int (nI x)), e7, e8, e9, e], [], dH h τ t (va_up (va_up B 0 (fp u f wl ρ)) 2 g) P) res h' := by
  obtain ⟨ρ0, g0, n0, f0, I0, a0, b0, l0, c0, K0⟩ := t_side (t := t) (B := B) (P := P) (ra := ra) (ca := ca) hn hR hC h0 h1 h2 hu hd hw (x := x) (sd := 0) hI hk hk1 (N := nb_0 k) (fun j q => Or.inl q) (sd_0 hR.2 hk) e
  obtain ⟨ρ1, g1, n1, f1, I1, a1, b1, l1, c1, K1⟩ := t_side (t := t) (B := B) (P := P) (ra := ra) (ca := ca) hn hR hC h0 h1 h2 hu hd hw (x := x) (sd := 1) I0 hk (a0 k hk1) (N := nb_1 k) (fun j q => Or.inr (Or.inl q)) (sd_1 hR.2 hk) f0
  obtain ⟨ρ2, g2, n2, f2, I2, a2, b2, l2, c2, K2⟩ := t_side (t := t) (B := B) (P := P) (ra := ra) (ca := ca) hn hR hC h0 h1 h2 hu hd hw (x := x) (sd := 2) I1 hk (a1 k (a0 k hk1)) (N := nb_2 k) (fun j q => Or.inr (Or.inr (Or.inl q))) (sd_2 hC.2 hk) f1
  obtain ⟨ρ3, g3, n3, f3, I3, a3, b3, l3, c3, K3⟩ := t_side (t := t) (B := B) (P := P) (ra := ra) (ca := ca) hn hR hC h0 h1 h2 hu hd hw (x := x) (sd := 3) I2 hk (a2 k (a1 k (a0 k hk1))) (N := nb_3 k) (fun j q => Or.inr (Or.inr (Or.inr q))) (sd_3 hR.2 hk) f2
  refine ⟨ρ3, g3, n3, some (.int 4), some (.int (nI (k / 10) + 1)), some (.int (nI (k % 10) + 0)), f3, I3, fun j q => a3 j (a2 j (a1 j (a0 j q))), fun i hi => (b3 i (by omega)).trans ((b2 i (by omega)).trans ((b1 i (by omega)).trans (b0 i hi))), by omega, fun j q qW => ?_, fun res h' K => ?_⟩
  · rcases q with q | q | q | q
    · exact a3 j (a2 j (a1 j (c0 j q qW)))
    · exact a3 j (a2 j (c1 j q qW))
    · exact a3 j (c2 j q qW)
    · exact c3 j q qW
  refine ev_go 4 (q := 90) (L' := [_, _, _, _, _, _, _, some (.int 0), _, _, _]) rfl ?_
  refine ev_go 1 (q := 91) (st' := .int 4 :: _) rfl ?_
  refine ev_icmp_ge (t := 227) (q := 94) rfl rfl rfl (fun c => absurd c (by decide)) (fun _ => ?_)
  refine ev_go 1 (q := 95) (L' := [_, _, _, _, _, _, _, some (.int 0), _, _, _]) rfl ?_
  refine ev_get (q := 98) rfl (d_8 hn) rfl rfl rfl ?_
  refine ev_go 1 (q := 100) (L' := [_, _, _, _, _, _, _, some (.int 0), _, _, _]) rfl ?_
  refine ev_ialdn (q := 101) rfl (d_10 hn) rfl (show x < 100 by omega) (by decide) rfl ?_
  refine ev_tp (y := nI k) hg ?_
  refine ev_go 1 (q := 103) (st' := .int 10 :: _ :: _) (L' := [_, _, _, _, _, _, _, some (.int 0), _, _, _]) rfl ?_
  refine ev_divn (a := k) (b := 10) (q := 104) rfl rfl rfl (by decide) (by omega) (by decide) rfl ?_
  refine ev_go 2 (q := 109) (L' := [_, _, _, _, _, _, _, some (.int 0), _, _, _]) rfl ?_
  refine ev_go 1 (q := 110) (st' := .int (-1) :: _) rfl ?_
  refine ev_go 3 (q := 114) (L' := [_, _, _, _, _, _, _, some (.int 0), _, _, _]) rfl ?_
  refine ev_get (q := 117) rfl (d_8 hn) rfl rfl rfl ?_
  refine ev_go 1 (q := 119) (L' := [_, _, _, _, _, _, _, some (.int 0), _, _, _]) rfl ?_
  refine ev_ialdn (q := 120) rfl (d_10 hn) rfl (show x < 100 by omega) (by decide) rfl ?_
  refine ev_tp (y := nI k) hg ?_
  refine ev_go 1 (q := 122) (st' := .int 10 :: _ :: _) (L' := [_, _, _, _, _, _, _, some (.int 0), _, _, _]) rfl ?_
  refine ev_remn (a := k) (b := 10) (q := 123) rfl rfl rfl (by decide) (by omega) (by decide) rfl ?_
  refine ev_go 2 (q := 128) (L' := [_, _, _, _, _, _, _, some (.int 0), _, _, _]) rfl ?_
  refine ev_go 1 (q := 129) (st' := .int 0 :: _) rfl ?_
  refine ev_go 2 (q := 132) (L' := [_, _, _, _, _, _, _, some (.int 0), _, _, _]) rfl ?_
  refine K0 _ _ ?_
  refine ev_go 4 (q := 90) (L' := [_, _, _, _, _, _, _, some (.int 1), _, _, _]) rfl ?_
  refine ev_go 1 (q := 91) (st' := .int 4 :: _) rfl ?_
  refine ev_icmp_ge (t := 227) (q := 94) rfl rfl rfl (fun c => absurd c (by decide)) (fun _ => ?_)
  refine ev_go 1 (q := 95) (L' := [_, _, _, _, _, _, _, some (.int 1), _, _, _]) rfl ?_
  refine ev_get (q := 98) rfl (d_8 hn) rfl rfl rfl ?_
  refine ev_go 1 (q := 100) (L' := [_, _, _, _, _, _, _, some (.int 1), _, _, _]) rfl ?_
  refine ev_ialdn (q := 101) rfl (d_10 hn) rfl (show x < 100 by omega) (by decide) rfl ?_
  refine ev_tp (y := nI k) ((b0 x hx).trans hg) ?_
  refine ev_go 1 (q := 103) (st' := .int 10 :: _ :: _) (L' := [_, _, _, _, _, _, _, some (.int 1), _, _, _]) rfl ?_
  refine ev_divn (a := k) (b := 10) (q := 104) rfl rfl rfl (by decide) (by omega) (by decide) rfl ?_
  refine ev_go 2 (q := 109) (L' := [_, _, _, _, _, _, _, some (.int 1), _, _, _]) rfl ?_
  refine ev_go 1 (q := 110) (st' := .int 0 :: _) rfl ?_
  refine ev_go 3 (q := 114) (L' := [_, _, _, _, _, _, _, some (.int 1), _, _, _]) rfl ?_
  refine ev_get (q := 117) rfl (d_8 hn) rfl rfl rfl ?_
  refine ev_go 1 (q := 119) (L' := [_, _, _, _, _, _, _, some (.int 1), _, _, _]) rfl ?_
  refine ev_ialdn (q := 120) rfl (d_10 hn) rfl (show x < 100 by omega) (by decide) rfl ?_
  refine ev_tp (y := nI k) ((b0 x hx).trans hg) ?_
  refine ev_go 1 (q := 122) (st' := .int 10 :: _ :: _) (L' := [_, _, _, _, _, _, _, some (.int 1), _, _, _]) rfl ?_
  refine ev_remn (a := k) (b := 10) (q := 123) rfl rfl rfl (by decide) (by omega) (by decide) rfl ?_
  refine ev_go 2 (q := 128) (L' := [_, _, _, _, _, _, _, some (.int 1), _, _, _]) rfl ?_
  refine ev_go 1 (q := 129) (st' := .int (-1) :: _) rfl ?_
  refine ev_go 2 (q := 132) (L' := [_, _, _, _, _, _, _, some (.int 1), _, _, _]) rfl ?_
  refine K1 _ _ ?_
  refine ev_go 4 (q := 90) (L' := [_, _, _, _, _, _, _, some (.int 2), _, _, _]) rfl ?_
  refine ev_go 1 (q := 91) (st' := .int 4 :: _) rfl ?_
  refine ev_icmp_ge (t := 227) (q := 94) rfl rfl rfl (fun c => absurd c (by decide)) (fun _ => ?_)
  refine ev_go 1 (q := 95) (L' := [_, _, _, _, _, _, _, some (.int 2), _, _, _]) rfl ?_
  refine ev_get (q := 98) rfl (d_8 hn) rfl rfl rfl ?_
  refine ev_go 1 (q := 100) (L' := [_, _, _, _, _, _, _, some (.int 2), _, _, _]) rfl ?_
  refine ev_ialdn (q := 101) rfl (d_10 hn) rfl (show x < 100 by omega) (by decide) rfl ?_
  refine ev_tp (y := nI k) ((b1 x (by omega)).trans ((b0 x hx).trans hg)) ?_
  refine ev_go 1 (q := 103) (st' := .int 10 :: _ :: _) (L' := [_, _, _, _, _, _, _, some (.int 2), _, _, _]) rfl ?_
  refine ev_divn (a := k) (b := 10) (q := 104) rfl rfl rfl (by decide) (by omega) (by decide) rfl ?_
  refine ev_go 2 (q := 109) (L' := [_, _, _, _, _, _, _, some (.int 2), _, _, _]) rfl ?_
  refine ev_go 1 (q := 110) (st' := .int 0 :: _) rfl ?_
  refine ev_go 3 (q := 114) (L' := [_, _, _, _, _, _, _, some (.int 2), _, _, _]) rfl ?_
  refine ev_get (q := 117) rfl (d_8 hn) rfl rfl rfl ?_
  refine ev_go 1 (q := 119) (L' := [_, _, _, _, _, _, _, some (.int 2), _, _, _]) rfl ?_
  refine ev_ialdn (q := 120) rfl (d_10 hn) rfl (show x < 100 by omega) (by decide) rfl ?_
  refine ev_tp (y := nI k) ((b1 x (by omega)).trans ((b0 x hx).trans hg)) ?_
  refine ev_go 1 (q := 122) (st' := .int 10 :: _ :: _) (L' := [_, _, _, _, _, _, _, some (.int 2), _, _, _]) rfl ?_
  refine ev_remn (a := k) (b := 10) (q := 123) rfl rfl rfl (by decide) (by omega) (by decide) rfl ?_
  refine ev_go 2 (q := 128) (L' := [_, _, _, _, _, _, _, some (.int 2), _, _, _]) rfl ?_
  refine ev_go 1 (q := 129) (st' := .int 1 :: _) rfl ?_
  refine ev_go 2 (q := 132) (L' := [_, _, _, _, _, _, _, some (.int 2), _, _, _]) rfl ?_
  refine K2 _ _ ?_
  refine ev_go 4 (q := 90) (L' := [_, _, _, _, _, _, _, some (.int 3), _, _, _]) rfl ?_
  refine ev_go 1 (q := 91) (st' := .int 4 :: _) rfl ?_
  refine ev_icmp_ge (t := 227) (q := 94) rfl rfl rfl (fun c => absurd c (by decide)) (fun _ => ?_)
  refine ev_go 1 (q := 95) (L' := [_, _, _, _, _, _, _, some (.int 3), _, _, _]) rfl ?_
  refine ev_get (q := 98) rfl (d_8 hn) rfl rfl rfl ?_
  refine ev_go 1 (q := 100) (L' := [_, _, _, _, _, _, _, some (.int 3), _, _, _]) rfl ?_
  refine ev_ialdn (q := 101) rfl (d_10 hn) rfl (show x < 100 by omega) (by decide) rfl ?_
  refine ev_tp (y := nI k) ((b2 x (by omega)).trans ((b1 x (by omega)).trans ((b0 x hx).trans hg))) ?_
  refine ev_go 1 (q := 103) (st' := .int 10 :: _ :: _) (L' := [_, _, _, _, _, _, _, some (.int 3), _, _, _]) rfl ?_
  refine ev_divn (a := k) (b := 10) (q := 104) rfl rfl rfl (by decide) (by omega) (by decide) rfl ?_
  refine ev_go 2 (q := 109) (L' := [_, _, _, _, _, _, _, some (.int 3), _, _, _]) rfl ?_
  refine ev_go 1 (q := 110) (st' := .int 1 :: _) rfl ?_
  refine ev_go 3 (q := 114) (L' := [_, _, _, _, _, _, _, some (.int 3), _, _, _]) rfl ?_
  refine ev_get (q := 117) rfl (d_8 hn) rfl rfl rfl ?_
  refine ev_go 1 (q := 119) (L' := [_, _, _, _, _, _, _, some (.int 3), _, _, _]) rfl ?_
  refine ev_ialdn (q := 120) rfl (d_10 hn) rfl (show x < 100 by omega) (by decide) rfl ?_
  refine ev_tp (y := nI k) ((b2 x (by omega)).trans ((b1 x (by omega)).trans ((b0 x hx).trans hg))) ?_
  refine ev_go 1 (q := 122) (st' := .int 10 :: _ :: _) (L' := [_, _, _, _, _, _, _, some (.int 3), _, _, _]) rfl ?_
  refine ev_remn (a := k) (b := 10) (q := 123) rfl rfl rfl (by decide) (by omega) (by decide) rfl ?_
  refine ev_go 2 (q := 128) (L' := [_, _, _, _, _, _, _, some (.int 3), _, _, _]) rfl ?_
  refine ev_go 1 (q := 129) (st' := .int 0 :: _) rfl ?_
  refine ev_go 2 (q := 132) (L' := [_, _, _, _, _, _, _, some (.int 3), _, _, _]) rfl ?_
  refine K3 _ _ ?_
  refine ev_go 4 (q := 90) (L' := [_, _, _, _, _, _, _, some (.int 4), _, _, _]) rfl ?_
  refine ev_go 1 (q := 91) (st' := .int 4 :: _) rfl ?_
  refine ev_icmp_ge (t := 227) (q := 94) rfl rfl rfl (fun _ => ?_) (fun c => absurd (by decide) c)
  exact K
def fi_p (W : Nat → Prop) (ρ g : Nat → Int32) (x : Nat) : Prop := ∀ i, i < x → ∀ k, k < 100 → g i = nI k → ∀ j, nb k j → W j → ¬ ρ j = 0
theorem t_fill (hn : 15 ≤ h.1) (hR : 1 ≤ R ∧ R ≤ 10) (hC : 1 ≤ C ∧ C ≤ 10) (h0 : τ 0 = nI R) (h1 : τ 1 = nI C) (h2 : τ 2 = nI u) (hu : u < 3) (hd : 1 < d) {f : Nat → Int32} {old wl ra ca : Int32} (hw : ¬ old = wl) {s : Nat} : ∀ (m n x : Nat) (ρ g : Nat → Int32) (e7 e8 e9 e : Option Value), x + m = 100 → x ≤ n → n ≤ 100 → fi (fr R C u f old) s ρ g n → fi_p (fr R C u f old) ρ g x → ∃ (ρ' g' : Nat → Int32), (∀ k, k < 100 → (¬ ρ' k = 0 ↔ fl_R (fr R C u f old) s k)) ∧ (∀ k, k < 100 → ¬ ρ' k = 0 → (fr R C u f old) k) ∧ am_ev d z_Painter_fill (69, [some (.ref 8), some (.int ra), some (.int ca), some (.int wl), some (.int old), some (.int (nI n)), some (.int (nI x)), e7, e8, e9, e], [.int (nI n), .int (nI x)], dH h τ t (va_up (va_up B 0 (fp u f wl ρ)) 2 g) P) none (dH h τ t (va_up (va_up B 0 (fp u f wl ρ')) 2 g') P)
  | m, n, x, ρ, g, e7, e8, e9, e, hm, hxn, hn1, hI, hp => by
    by_cases zx : x < n
    · obtain ⟨k, hk, hg, hk1⟩ := hI.1 x zx
      obtain ⟨ρ1, g1, n1, e71, e81, e91, e1, I1, a1, b1, l1, c1, K1⟩ := t_node (t := t) (B := B) (P := P) (ra := ra) (ca := ca) hn hR hC h0 h1 h2 hu hd hw hI zx hn1 hk hg hk1 e7 e8 e9 e
      have hn2 : n1 ≤ 100 := by have := I1.2.2.1; omega
      match m, hm with
      | 0, hm => exact absurd hm (by omega)
      | m + 1, hm =>
      obtain ⟨ρ2, g2, q1, q2, q3⟩ := t_fill hn hR hC h0 h1 h2 hu hd hw m n1 (x + 1) ρ1 g1 e71 e81 e91 e1 (by omega) (by omega) hn2 I1 (by
        intro i hi k2 hk2 hg2 j hj hW
        by_cases ei : i = x
        · subst ei
          rw [b1 i zx] at hg2
          have : nI k2 = nI k := hg2.symm.trans hg
          rw [nI_ij (by omega) (by omega) this] at hj
          exact c1 j hj hW
        · exact a1 j (hp i (by omega) k2 hk2 ((b1 i (by omega)).symm.trans hg2) j hj hW))
      refine ⟨ρ2, g2, q1, q2, ?_⟩
      refine ev_icmp_ge (t := 233) (q := 72) rfl rfl rfl (fun c => absurd c (nI_ge (by omega) (by omega))) (fun _ => ?_)
      refine ev_go 2 (q := 75) rfl ?_
      refine ev_get (q := 78) rfl (d_8 hn) rfl rfl rfl ?_
      refine ev_alen (v := 100) (q := 79) rfl (d_10 hn) (by decide) rfl rfl ?_
      refine ev_icmp_ge (t := 233) (q := 82) rfl rfl rfl (fun c => absurd c (nI_ge (b := 100) (by omega) (by omega))) (fun zc1 => ?_)
      refine K1 _ _ ?_
      refine ev_go 4 (q := 69) rfl ?_
      rw [nI_s]
      exact q3
    · have ex : x = n := by omega
      subst ex
      refine ⟨ρ, g, fun k hk => ⟨fun q => (hI.2.1 k hk q).1, fun q => ?_⟩, fun k hk q => (hI.2.1 k hk q).2.1, ?_⟩
      · have q9 := q (fun k => k < 100 → ¬ ρ k = 0) (fun _ => hI.2.2.2) (fun a b qa ha hab hb hW _ => by
          obtain ⟨_, _, i, hi, hgi⟩ := hI.2.1 a ha (qa ha)
          exact hp i hi a ha hgi b hab hW)
        exact q9 hk
      · refine ev_icmp_ge (t := 233) (q := 72) rfl rfl rfl (fun _ => ?_) (fun c => absurd (nI_end rfl (by omega)) c)
        exact ev_vret rfl rfl rfl
theorem c_fill (hn : 15 ≤ h.1) (hR : 1 ≤ R ∧ R ≤ 10) (hC : 1 ≤ C ∧ C ≤ 10) (h0 : τ 0 = nI R) (h1 : τ 1 = nI C) (h2 : τ 2 = nI u) (hu : u < 3) {a b : Nat} (ha : a < R) (hb : b < C) {wl : Int32} (hs : B 0 (cx a b 3) = 1) (hw : ¬ B 0 (cx a b u) = wl) (hd : 1 < d) : ∃ (ρ g : Nat → Int32), (∀ k, k < 100 → (¬ ρ k = 0 ↔ fl_R (fr R C u (B 0) (B 0 (cx a b u))) (10 * a + b) k)) ∧ (∀ k, k < 100 → ¬ ρ k = 0 → fr R C u (B 0) (B 0 (cx a b u)) k) ∧ am_m d z_Painter_fill [.ref 8, .int (nI a), .int (nI b), .int wl] (dH h τ t B P) none (dH h τ t (va_up (va_up B 0 (fp u (B 0) wl ρ)) 2 g) P) := by
  have e1 : (10 * a + b) / 10 = a := by omega
  have e2 : (10 * a + b) % 10 = b := by omega
  have hW : fr R C u (B 0) (B 0 (cx a b u)) (10 * a + b) := by
    unfold fr kx
    rw [e1, e2]
    exact ⟨⟨ha, hb⟩, hs, rfl⟩
  have I0 := fi_0 (W := fr R C u (B 0) (B 0 (cx a b u))) (s := 10 * a + b) (g := va_up (B 2) 0 (nI (10 * a + b))) (by omega) hW (va_up_self _ _ _)
  obtain ⟨ρ, g, q1, q2, q3⟩ := t_fill (h := h) (τ := τ) (t := t) (B := B) (P := P) (R := R) (C := C) (u := u) (f := B 0) (ra := nI a) (ca := nI b) hn hR hC h0 h1 h2 hu hd hw 100 1 0 _ _ none none none none (by omega) (by omega) (by omega) I0 (fun i hi => absurd hi (by omega))
  refine ⟨ρ, g, q1, q2, ?_⟩
  have fp0 : fp u (B 0) wl (fun _ => 0) = B 0 := by
    funext i
    unfold fp
    exact if_neg (fun q => q.2 rfl)
  have hpt := fp_paint (R := R) (C := C) (u := u) (f := B 0) (wl := wl) (ρ := fun _ => 0) (j := 10 * a + b) hR.2 hC.2 hu (by omega) hW.1 hW.2.1
  rw [fp0, e1, e2] at hpt
  refine ev_go 1 (q := 1) rfl ?_
  refine ev_get (q := 4) rfl (d_8 hn) rfl rfl rfl ?_
  refine ev_go 3 (q := 7) rfl ?_
  refine ev_get (q := 10) rfl (d_8 hn) rfl rfl rfl ?_
  refine ev_get (q := 13) rfl (d_1 hn) rfl rfl rfl ?_
  refine ev_tp (y := nI u) h2 ?_
  refine ev_virt (z' := z_Cloth_woolAt) (q := 16) rfl rfl (by decide) rfl (by simp [Value.category]) rfl (by omega) rfl rfl (d_1 hn) (c_wool hn (by omega) hR.2 hC.2 h0 h1 ha hb hu) ?_
  refine ev_go 3 (q := 21) rfl ?_
  refine ev_icmp_eq (t := 36) (q := 24) rfl rfl rfl (fun c => absurd c hw) (fun zc1 => ?_)
  refine ev_go 1 (q := 25) rfl ?_
  refine ev_get (q := 28) rfl (d_8 hn) rfl rfl rfl ?_
  refine ev_go 2 (q := 30) rfl ?_
  refine ev_virt (z' := z_Cloth_isChosen) (q := 33) rfl rfl (by decide) rfl (by simp [Value.category]) rfl (by omega) rfl rfl (d_1 hn) (c_chosen hn (by omega) hR.2 hC.2 h0 h1 ha hb) ?_
  refine ev_tp (y := 1) (am_b1 hs) ?_
  refine ev_if_ne (t := 37) (q := 36) rfl rfl rfl (fun _ => ?_) (fun c => absurd c (by decide))
  refine ev_go 1 (q := 38) rfl ?_
  refine ev_get (q := 41) rfl (d_8 hn) rfl rfl rfl ?_
  refine ev_go 3 (q := 44) rfl ?_
  refine ev_virt (z' := z_Cloth_paint) (q := 47) rfl rfl (by decide) rfl (by simp [Value.category]) rfl (by omega) rfl rfl (d_1 hn) (c_paint hn (by omega) hR.2 hC.2 h0 h1 h2 hu) ?_
  rw [hpt]
  refine ev_go 1 (q := 48) rfl ?_
  refine ev_get (q := 51) rfl (d_8 hn) rfl rfl rfl ?_
  refine ev_go 6 (q := 58) (st' := .int ((_ * 10) + _) :: .int 0 :: _ :: _) rfl ?_
  rw [wb_ix]
  refine ev_iastn (q := 59) rfl (d_10 hn) rfl (show 0 < 100 by omega) (by decide) rfl ?_
  refine ev_hp du_10 ?_
  refine ev_hp (congrArg (fun X => dH h τ t X P) (show _ = va_up (va_up B 0 (fp u (B 0) wl (va_up (fun _ => 0) (10 * a + b) 1))) 2 (va_up (B 2) 0 (nI (10 * a + b))) from rfl)) ?_
  refine ev_go 6 (q := 69) rfl ?_
  rw [show Int32.ofInt 0 = nI 0 from rfl, show Int32.ofInt 1 = nI 1 from rfl]
  exact q3
theorem c_fill0 (hn : 15 ≤ h.1) (hR : 1 ≤ R ∧ R ≤ 10) (hC : 1 ≤ C ∧ C ≤ 10) (h0 : τ 0 = nI R) (h1 : τ 1 = nI C) (h2 : τ 2 = nI u) (hu : u < 3) {a b : Nat} (ha : a < R) (hb : b < C) {wl : Int32} (hd : 1 < d) (hno : B 0 (cx a b u) = wl ∨ ¬ B 0 (cx a b 3) = 1) : am_m d z_Painter_fill [.ref 8, .int (nI a), .int (nI b), .int wl] (dH h τ t B P) none (dH h τ t B P) := by
  refine ev_go 1 (q := 1) rfl ?_
  refine ev_get (q := 4) rfl (d_8 hn) rfl rfl rfl ?_
  refine ev_go 3 (q := 7) rfl ?_
  refine ev_get (q := 10) rfl (d_8 hn) rfl rfl rfl ?_
  refine ev_get (q := 13) rfl (d_1 hn) rfl rfl rfl ?_
  refine ev_tp (y := nI u) h2 ?_
  refine ev_virt (z' := z_Cloth_woolAt) (q := 16) rfl rfl (by decide) rfl (by simp [Value.category]) rfl (by omega) rfl rfl (d_1 hn) (c_wool hn (by omega) hR.2 hC.2 h0 h1 ha hb hu) ?_
  refine ev_go 3 (q := 21) rfl ?_
  refine ev_icmp_eq (t := 36) (q := 24) rfl rfl rfl (fun zc1 => ?_) (fun zc1 => ?_)
  · exact ev_vret rfl rfl (rfl)
  · refine ev_go 1 (q := 25) rfl ?_
    refine ev_get (q := 28) rfl (d_8 hn) rfl rfl rfl ?_
    refine ev_go 2 (q := 30) rfl ?_
    refine ev_virt (z' := z_Cloth_isChosen) (q := 33) rfl rfl (by decide) rfl (by simp [Value.category]) rfl (by omega) rfl rfl (d_1 hn) (c_chosen hn (by omega) hR.2 hC.2 h0 h1 ha hb) ?_
    refine ev_if_ne (t := 37) (q := 36) rfl rfl rfl (fun zc2 => ?_) (fun zc2 => ?_)
    · exact absurd (am_bn.mp zc2) (fun p => hno.elim zc1 (fun q => q p))
    · exact ev_vret rfl rfl (rfl)
end D8
