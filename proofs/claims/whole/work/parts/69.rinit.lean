/-! both constructors: the world at the start -/
section VA
variable {d s : Nat} {F : Nat → am_C}
/-- the class's ints behind its constructor -/
def dJ_τ : Nat → Int32 := va_up (va_up (va_up (va_up (mv_τ 8 8 0 7 dI_τ) 5 0) 4 (-9)) 4 (nI 0)) 5 (nI (0 + 1))
def dJ_B : Nat → Nat → Int32 := va_up (fun _ _ => 0) 0 (sp_newp (fun _ => 0) 400)
def dJ_P : Nat → Nat → Option Nat := va_up (fun _ _ => none) 0 (va_up (fun _ => none) 0 (some 15))
def dJ_g (s : Nat) (F : Nat → am_C) : am_H := gr_h (NW (15, s + 760, F) 3) 15 16 17 (va_up (va_up (mv_τ 8 8 0 7 dI_τ) 5 0) 4 (-9)) dJ_B (fun _ => 0)
theorem pl_no {PA : Nat → Int32} {HC : Nat → Nat} : ∀ (m k : Nat) (h : am_H), sp_it (pl_1 (fun _ _ => none) PA HC) k m h = h
  | 0, _, _ => rfl
  | m + 1, k, h => by
    rw [sp_it]
    exact pl_no m (k + 1) h
theorem c_dinit (hd : 9 < d) (h0 : F 0 = .inr (11, am_df 11)) : am_m d z_Desk_init [.ref 0] (1, s, F) none (dH (dJ_g s F) dJ_τ 0 dJ_B dJ_P) := by
  have hn : 15 ≤ ((15, s + 760, F) : am_H).1 := Nat.le_refl _
  refine c_dinit0 hd h0 ?_
  have hg := c_growN (d := d - 1 - 1) (n := 0) (h := (15, s + 760, F)) (τ := va_up (va_up (mv_τ 8 8 0 7 dI_τ) 5 0) 4 (-9)) (t := 0) (B := dJ_B) (P := fun _ _ => none) hn (by omega) rfl (by omega) rfl
  have hp := c_plant (d := d - 1) (h := (15, s + 760, F)) (τ := mv_τ 8 8 0 7 dI_τ) (t := 0) (B := dJ_B) (P := fun _ _ => none) (PA := fun _ => 0) (HC := fun _ => 0) hn (by omega) (fun i j a _ _ e => by cases e) (fun j _ _ => Or.inl rfl) (by rw [pl_no]; exact hg)
  refine ev_go 1 (q := 81) rfl ?_
  refine ev_get (q := 84) rfl (d_0 hn) rfl rfl rfl ?_
  refine ev_go 2 (q := 88) (st' := .int 8 :: .int 8 :: _) rfl ?_
  refine ev_virt (z' := z_Cloth_weave) (q := 91) rfl rfl (by decide) rfl (by simp [Value.category]) rfl (by omega) rfl rfl (d_1 hn) (c_weave hn) ?_
  refine ev_go 1 (q := 92) rfl ?_
  refine ev_get (q := 95) rfl (d_0 hn) rfl rfl rfl ?_
  refine ev_go 1 (q := 96) rfl ?_
  refine ev_get (q := 99) rfl (d_0 hn) rfl rfl rfl ?_
  refine ev_virt (z' := z_Tree_plant) (q := 102) rfl rfl (by decide) rfl (by simp [Value.category]) rfl (by omega) rfl rfl (d_3 hn) hp ?_
  exact ev_vret rfl rfl rfl
theorem mI_keep : mI_A = ms_keep 0 0 7 (ms_all 8 8 (va_up (va_up (fun _ _ => 0) 3 (va_up (fun _ => 0) 0 (-9))) 4 (va_up (fun _ => 0) 0 1))) := rfl
def mI_E : Nat → Nat → Int32 := ms_all 8 8 (va_up (va_up (fun _ _ => 0) 3 (va_up (fun _ => 0) 0 (-9))) 4 (va_up (fun _ => 0) 0 1))
theorem mE_1 {j : Nat} (hj : j < 100) : mI_E 1 j = am_b (j / 10 < 8 ∧ j % 10 < 8) := by
  unfold mI_E ms_all
  rw [it_z (i := 1) (v := fun k => am_b (k / 10 < 8 ∧ k % 10 < 8)), if_pos (by omega)]
theorem mE_o {j : Nat} (hj : j ≠ 1) : mI_E j = va_up (va_up (fun _ _ => 0) 3 (va_up (fun _ => 0) 0 (-9))) 4 (va_up (fun _ => 0) 0 1) j := by
  unfold mI_E ms_all
  exact it_far (fun k A9 => va_up_ne _ _ hj)
theorem mE_CR {f : Nat → Int32} {A9 : Nat → Nat → Int32} (h0 : A9 0 = mI_E 0) (h1 : A9 1 = mI_E 1) : CR 8 8 A9 (sp_newp f 400) := by
  have nw : ∀ r c l, r < 10 → c < 10 → l < 4 → sp_newp f 400 (cx r c l) = if l = 3 then 1 else 0 := fun r c l hr hc hl => by
    unfold sp_newp sp_new
    rw [if_pos (cx_lt hr hc hl)]
    unfold cx
    by_cases z : l = 3
    · rw [if_pos z, if_pos (by omega)]
    · rw [if_neg z, if_neg (by omega)]
  have e0 : ∀ j, mI_E 0 j = 0 := fun j => by rw [mE_o (by omega), va_up_ne _ _ (by omega), va_up_ne _ _ (by omega)]
  refine CR_of ?_ h0 h1
  refine ⟨fun r c hr hc => ⟨fun l hl => ?_, ?_, ?_⟩, fun r c hr hc hn => ⟨?_, fun l hl => ?_⟩, fun j => ?_⟩
  · rw [e0, nw r c l (by omega) (by omega) (by omega), if_neg (by omega)]
  · rw [mE_1 (by omega), nw r c 3 (by omega) (by omega) (by omega), if_pos rfl]
    exact am_b1 (by omega)
  · rw [nw r c 3 (by omega) (by omega) (by omega), if_pos rfl]
    exact Or.inr rfl
  · rw [mE_1 (by omega)]
    exact am_bz (by omega)
  · exact e0 _
  · exact ⟨0, by omega, e0 j⟩
def dJ_σ : Nat → Int32 := va_up (va_up mI_σ 10 (nI (0 + 1))) 11 (nI 0)
theorem IV_0 {g : am_H} (hg : 43 ≤ g.1) (i0 : am_is g 15 (nd_c (-9) 1 16)) (i1 : am_is g 16 (am_cloth 8 8 0 7 17)) (i2 : am_is g 17 (am_ia 400 (va_cpy (sp_newp (fun _ => 0) 400) (fun _ => 0) 0 0 400))) : IV g dJ_σ dJ_τ mI_A dJ_B dJ_P 8 8 0 0 1 0 (fun _ => -9) (fun _ => va_cpy (sp_newp (fun _ => 0) 400) (fun _ => 0) 0 0 400) := by
  have ro : ∀ j, j ≠ 2 → mI_A j = mI_E j := fun j hj => keep_far hj
  have r4 : mI_A 4 = va_up (fun _ => 0) 0 1 := by rw [ro 4 (by omega), mE_o (by omega), va_up_self]
  have r3 : mI_A 3 = va_up (fun _ => 0) 0 (-9) := by rw [ro 3 (by omega), mE_o (by omega), va_up_ne _ _ (by omega), va_up_self]
  have th : ∀ k, k ≠ 0 → mI_A 4 k = 0 := fun k hk => by rw [r4, va_up_ne _ _ hk]
  have th0 : mI_A 4 0 = 1 := by rw [r4, va_up_self]
  have p0 : dJ_P 0 0 = some 15 := by unfold dJ_P; rw [va_up_self, va_up_self]
  have pk : ∀ k, k ≠ 0 → dJ_P 0 k = none := fun k hk => by unfold dJ_P; rw [va_up_self, va_up_ne _ _ hk]
  have k400 : mI_A 2 (402 * 0 + 400) = 0 := by
    rw [mI_keep, keep_2, if_neg (by omega), if_pos rfl]
  have k401 : mI_A 2 (402 * 0 + 401) = 7 := by
    rw [mI_keep, keep_2, if_pos rfl]
  have kn : CR 8 8 (KA mI_A 0) (va_cpy (sp_newp (fun _ => 0) 400) (fun _ => 0) 0 0 400) := CR_f (by omega) (by omega) (f := sp_newp (fun _ => 0) 400) (keep_CR (by omega) (by omega) (mE_CR rfl rfl)) (fun i hi => cpy_4 hi)
  refine ⟨hg, by omega, by omega, ⟨⟨rfl, rfl, rfl, rfl⟩, ⟨0, by omega, rfl, rfl⟩, rfl, ?_, rfl⟩, rfl, rfl, by omega, rfl, rfl, by omega, by rw [th0]; decide, rfl, rfl, by omega, rfl, rfl, by omega, rfl, rfl, rfl, rfl, fun n hn => absurd hn (by omega), fun m hm => absurd hm (by omega), fun i j a hi => absurd hi (by omega), fun m a hm => absurd hm (by omega), fun k hk tk => ?_, by rw [th0]; decide, fun k hk => ?_, fun k hk => ?_, fun k hk tk => ?_, fun k a' hk tk ek => ?_, fun i j a hi hj ei ej => ?_⟩
  · unfold dJ_B
    rw [va_up_self]
    exact mE_CR (ro 0 (by omega)) (ro 1 (by omega))
  · have z : k = 0 := Classical.not_not.mp (fun z => tk (th k z))
    subst z
    exact ⟨by omega, Or.inl ⟨rfl, by rw [r3, va_up_self]⟩⟩
  · have z : k = 0 := by omega
    subst z
    exact Or.inl (by rw [r3, va_up_self])
  · by_cases z : k = 0
    · subst z
      refine Or.inr ⟨15, _, _, _, _, p0, ⟨Or.inl (by omega), Or.inl (by omega), Or.inl (by omega)⟩, ?_, i1, i2⟩
      rw [th0, cb_1 (by decide)]
      exact i0
    · exact Or.inl ⟨pk k z, th k z⟩
  · have z : k = 0 := Classical.not_not.mp (fun z => tk (th k z))
    subst z
    rw [r3, va_up_self]
  · have z : k = 0 := Classical.not_not.mp (fun z => tk (th k z))
    subst z
    have := Option.some.inj (p0.symm.trans ek)
    subst this
    rw [k400, k401]
    exact ⟨i1, ⟨0, by omega, rfl⟩, kn⟩
  · by_cases z1 : i = 0
    · by_cases z2 : j = 0
      · omega
      · rw [pk j z2] at ej; cases ej
    · rw [pk i z1] at ei; cases ei
/-- behind both constructors -/
theorem WO_0 (hd : 9 < d) {N : Nat} : ∃ X, am_m d z_Model_init [.ref 18] (am_new (dH (dJ_g s F) dJ_τ 0 dJ_B dJ_P) N (.inr (12, am_df 12))) none X ∧ WO X ∧ X.1 = 43 ∧ X.2.1 = s + 1168 + N + mI_n := by
  have e1 : (dJ_g s F).1 = 18 := rfl
  have hn : 15 ≤ (dJ_g s F).1 := by rw [e1]; omega
  rw [dH_new hn]
  have hi := m_init (d := d) (h := dH (am_new (dJ_g s F) N (.inr (12, am_df 12))) dJ_τ 0 dJ_B dJ_P) (by omega) rfl rfl
  refine ⟨_, hi, ?_, rfl, ?_⟩
  · refine ⟨(43, (am_new (dJ_g s F) N (.inr (12, am_df 12))).2.1 + mI_n, (am_new (dJ_g s F) N (.inr (12, am_df 12))).2.2), dJ_σ, dJ_τ, 0, mI_A, dJ_B, dJ_P, 8, 8, 0, 0, 1, 0, _, _, ?_, IV_0 (Nat.le_refl _) ⟨show 15 < 43 by omega, rfl⟩ ⟨show 16 < 43 by omega, rfl⟩ ⟨show 17 < 43 by omega, rfl⟩⟩
    rw [dm_swap]
    rfl
  · show (am_new (dJ_g s F) N (.inr (12, am_df 12))).2.1 + mI_n = _
    have : (dJ_g s F).2.1 = s + 760 + 3 + 5 + 400 := rfl
    show (dJ_g s F).2.1 + N + mI_n = _
    omega
end VA
