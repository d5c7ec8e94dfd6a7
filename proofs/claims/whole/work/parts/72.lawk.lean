theorem am_up_keep {F : Nat → am_C} {k a ci : Nat} {fs : List Value} (hc : F k = .inr (ci, fs)) {x : am_C} (hx : ∀ (ci1 : Nat) (fs1 : List Value), F a = .inr (ci1, fs1) → ∃ fs' : List Value, x = .inr (ci1, fs')) : ∃ fs' : List Value, va_up F a x k = .inr (ci, fs') := by
  by_cases e : k = a
  · subst e
    rw [va_up_self]
    exact hx ci fs hc
  · rw [va_up_ne _ _ e]
    exact ⟨fs, hc⟩
theorem am_step_keep {d : Nat} {i : ClassFile.Instr} {aux pc : Nat} {L : List (Option Value)} {st : List Value} {h : am_H} {g : am_G} {k ci : Nat} {fs : List Value} (hk : k < h.1) (hc : h.2.2 k = .inr (ci, fs)) (hs : am_step d i aux pc L st h = some g) : ∃ fs' : List Value, g.2.2.2.2.2 k = .inr (ci, fs') := by
  unfold am_step at hs
  split at hs <;> (try unfold am_ld at hs) <;> (try unfold am_ldl at hs) <;> (try unfold am_lda at hs) <;> (try unfold am_sti at hs) <;> (try unfold am_stl at hs) <;> (try unfold am_sta at hs) <;> (repeat' split at hs) <;>
    first
    | (cases hs; done)
    | (cases hs; exact ⟨_, hc⟩)
    | (cases hs; exact ⟨fs, (va_up_ne _ _ (Nat.ne_of_lt hk)).trans hc⟩)
    | (revert hs; unfold cond; split <;> intro hs <;> first | (cases hs; done) | (cases hs; exact ⟨_, hc⟩))
    | skip
  all_goals (cases hs; refine am_up_keep hc (fun ci1 fs1 q => ?_))
  all_goals first
    | (rename_i w _; have z := w.symm.trans q; cases z; done)
    | (rename_i w _; have z := w.symm.trans q; cases z; exact ⟨_, rfl⟩)
    | (rename_i w _ _; have z := w.symm.trans q; cases z; done)
theorem am_run_keep : ∀ (f d z : Nat) (g : am_G) (r : Option Value) (h' : am_H) (k ci : Nat) (fs : List Value), z < am_count → am_run f d z g = some (r, h') → k < g.2.2.2.1 → g.2.2.2.2.2 k = .inr (ci, fs) → ∃ fs' : List Value, h'.2.2 k = .inr (ci, fs')
  | 0, d, z, g, r, h', k, ci, fs, hz, h, hk, hc => by cases h
  | f + 1, d, z, g, r, h', k, ci, fs, hz, h, hk, hc => by
    unfold am_run at h
    split at h
    · cases h
    · rename_i i len aux hf
      split at h
      · split at h
        · rename_i g' hst
          obtain ⟨fs', hc'⟩ := am_step_keep hk hc hst
          exact am_run_keep f d z g' r h' k ci fs' hz h (Nat.lt_of_lt_of_le hk (am_step_mono hst).1) hc'
        · cases h
      · have he := am_ret_h h
        rw [← he]
        exact ⟨fs, hc⟩
      · rename_i k0 hk9 hk3
        split at h
        · cases h
        · split at h
          · split at h
            · split at h
              · rename_i r1 h1 hrun
                have hzz : aux / 10000 < am_count := by
                  unfold am_kind at hk9 hk3
                  split at hk9 <;> first | (exact absurd rfl hk3) | (exact absurd rfl hk9) | (split at hk9 <;> first | assumption | (exact absurd rfl hk9))
                obtain ⟨fs1, hc1⟩ := am_run_keep f (d - 1) _ _ r1 h1 k ci fs hzz hrun hk hc
                have hm := (am_sound f (d - 1) _ _ r1 h1 hzz hrun).1
                dsimp only at hm
                exact am_run_keep f d z _ r h' k ci fs1 hz h (Nat.lt_of_lt_of_le hk hm.1) hc1
              · cases h
            · cases h
          · cases h
theorem am_m_keep {d z : Nat} {as : List Value} {h h' : am_H} {r : Option Value} (hz : z < am_count) (hm : am_m d z as h r h') {k ci : Nat} {fs : List Value} (hk : k < h.1) (hc : h.2.2 k = .inr (ci, fs)) : k < h'.1 ∧ ∃ fs' : List Value, h'.2.2 k = .inr (ci, fs') := by
  obtain ⟨f, hf⟩ := hm
  have h1 := (am_sound f d z _ r h' hz hf).1
  dsimp only at h1
  exact ⟨Nat.lt_of_lt_of_le hk h1.1, am_run_keep f d z _ r h' k ci fs hz hf hk hc⟩
