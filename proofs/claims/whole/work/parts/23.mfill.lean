/-! the reference: fills -/
section M6
variable {d : Nat} {h h' : am_H} {σ : Nat → Int32} {t : Int64} {A : Nat → Nat → Int32} {res : Option Value} {R C u : Nat}
def fl_n1 (ρ : Nat → Int32) (k : Nat) : Prop := 9 < k ∧ ¬ ρ (k - 10) = 0
def fl_n2 (ρ : Nat → Int32) (k : Nat) : Prop := k < 90 ∧ ¬ ρ (k + 10) = 0
def fl_n3 (ρ : Nat → Int32) (k : Nat) : Prop := 0 < k % 10 ∧ ¬ ρ (k - 1) = 0
def fl_n4 (ρ : Nat → Int32) (k : Nat) : Prop := k % 10 < 9 ∧ ¬ ρ (k + 1) = 0
def fl_nb (ρ : Nat → Int32) (k : Nat) : Prop := fl_n1 ρ k ∨ fl_n2 ρ k ∨ fl_n3 ρ k ∨ fl_n4 ρ k
def fl_c (A : Nat → Nat → Int32) (x : Int32) (ρ : Nat → Int32) (k : Nat) : Prop := (ρ k = 0 ∧ ¬ A 1 k = 0 ∧ A 16 k = x) ∧ fl_nb ρ k
noncomputable def fl_s (A : Nat → Nat → Int32) (x : Int32) (k : Nat) (S : (Nat → Int32) × Int32) : (Nat → Int32) × Int32 := @ite _ (fl_c A x S.1 k) (Classical.propDecidable _) (va_up S.1 k 1, 1) S
theorem fl_y {A : Nat → Nat → Int32} {x : Int32} {k : Nat} {S : (Nat → Int32) × Int32} (q : fl_c A x S.1 k) : fl_s A x k S = (va_up S.1 k 1, 1) := @if_pos _ (Classical.propDecidable _) q _ _ _
theorem fl_no {A : Nat → Nat → Int32} {x : Int32} {k : Nat} {S : (Nat → Int32) × Int32} (q : ¬ fl_c A x S.1 k) : fl_s A x k S = S := @if_neg _ (Classical.propDecidable _) q _ _ _
theorem t_fn1 (hn : 43 ≤ h.1) {xa xb xw x mo : Int32} {k : Nat} {e : Option Value} {ρ : Nat → Int32} (hk : k < 100) (K1 : fl_n1 ρ k → am_ev d z_Model_fills (170, [some (.ref 18), some (.int xa), some (.int xb), some (.int xw), some (.int x), some (.int mo), some (.int (nI k)), e], [], mH h σ t (va_up A 17 ρ)) res h') (K2 : ¬ fl_n1 ρ k → am_ev d z_Model_fills (108, [some (.ref 18), some (.int xa), some (.int xb), some (.int xw), some (.int x), some (.int mo), some (.int (nI k)), e], [], mH h σ t (va_up A 17 ρ)) res h') : am_ev d z_Model_fills (88, [some (.ref 18), some (.int xa), some (.int xb), some (.int xw), some (.int x), some (.int mo), some (.int (nI k)), e], [], mH h σ t (va_up A 17 ρ)) res h' := by
  refine ev_go 2 (q := 92) (st' := .int 9 :: _ :: _) rfl ?_
  refine ev_icmp_le (t := 108) (q := 95) rfl rfl rfl (fun zc1 => ?_) (fun zc1 => ?_)
  · exact K2 (fun q => absurd ((nI_leI (b := 9) (by omega) (by decide)).mp zc1) (by have := q.1; omega))
  · refine ev_go 1 (q := 96) rfl ?_
    refine ev_get (q := 99) rfl (mH_o hn) rfl rfl rfl ?_
    refine ev_go 3 (q := 104) (st' := .int (_ - 10) :: _ :: _) rfl ?_
    refine ev_mza (q := 105) hn rfl (by decide) rfl (pk_sub (b := 10) (by first | omega | (have := Nat.not_le.mp (fun q => zc1 ((nI_leI (b := 9) (by omega) (by decide)).mpr q)); omega))) (show k - 10 < 100 by omega) rfl ?_
    refine ev_if_ne (t := 170) (q := 108) rfl rfl rfl (fun zc2 => ?_) (fun zc2 => ?_)
    · exact K1 ⟨(Nat.not_le.mp (fun q => zc1 ((nI_leI (b := 9) (by omega) (by decide)).mpr q))), by assumption⟩
    · exact K2 (fun q => q.2 (by assumption))
theorem t_fn2 (hn : 43 ≤ h.1) {xa xb xw x mo : Int32} {k : Nat} {e : Option Value} {ρ : Nat → Int32} (hk : k < 100) (K1 : fl_n2 ρ k → am_ev d z_Model_fills (170, [some (.ref 18), some (.int xa), some (.int xb), some (.int xw), some (.int x), some (.int mo), some (.int (nI k)), e], [], mH h σ t (va_up A 17 ρ)) res h') (K2 : ¬ fl_n2 ρ k → am_ev d z_Model_fills (128, [some (.ref 18), some (.int xa), some (.int xb), some (.int xw), some (.int x), some (.int mo), some (.int (nI k)), e], [], mH h σ t (va_up A 17 ρ)) res h') : am_ev d z_Model_fills (108, [some (.ref 18), some (.int xa), some (.int xb), some (.int xw), some (.int x), some (.int mo), some (.int (nI k)), e], [], mH h σ t (va_up A 17 ρ)) res h' := by
  refine ev_go 2 (q := 112) (st' := .int 90 :: _ :: _) rfl ?_
  refine ev_icmp_ge (t := 128) (q := 115) rfl rfl rfl (fun zc1 => ?_) (fun zc1 => ?_)
  · exact K2 (fun q => absurd ((nI_leI (a := 90) (by omega) (by omega)).mp zc1) (by have := q.1; omega))
  · refine ev_go 1 (q := 116) rfl ?_
    refine ev_get (q := 119) rfl (mH_o hn) rfl rfl rfl ?_
    refine ev_go 3 (q := 124) (st' := .int (_ + 10) :: _ :: _) rfl ?_
    refine ev_mza (q := 125) hn rfl (by decide) rfl (nI_add k 10) (show k + 10 < 100 by (have := Nat.not_le.mp (fun q => zc1 ((nI_leI (a := 90) (by omega) (by omega)).mpr q)); omega)) rfl ?_
    refine ev_if_ne (t := 170) (q := 128) rfl rfl rfl (fun zc2 => ?_) (fun zc2 => ?_)
    · exact K1 ⟨(Nat.not_le.mp (fun q => zc1 ((nI_leI (a := 90) (by omega) (by omega)).mpr q))), by assumption⟩
    · exact K2 (fun q => q.2 (by assumption))
theorem t_fn3 (hn : 43 ≤ h.1) {xa xb xw x mo : Int32} {k : Nat} {e : Option Value} {ρ : Nat → Int32} (hk : k < 100) (K1 : fl_n3 ρ k → am_ev d z_Model_fills (170, [some (.ref 18), some (.int xa), some (.int xb), some (.int xw), some (.int x), some (.int mo), some (.int (nI k)), e], [], mH h σ t (va_up A 17 ρ)) res h') (K2 : ¬ fl_n3 ρ k → am_ev d z_Model_fills (148, [some (.ref 18), some (.int xa), some (.int xb), some (.int xw), some (.int x), some (.int mo), some (.int (nI k)), e], [], mH h σ t (va_up A 17 ρ)) res h') : am_ev d z_Model_fills (128, [some (.ref 18), some (.int xa), some (.int xb), some (.int xw), some (.int x), some (.int mo), some (.int (nI k)), e], [], mH h σ t (va_up A 17 ρ)) res h' := by
  refine ev_go 2 (q := 132) (st' := .int 10 :: _ :: _) rfl ?_
  refine ev_remn (b := 10) (q := 133) rfl rfl rfl (by decide) (by omega) (by decide) rfl ?_
  refine ev_if_le (t := 148) (q := 136) rfl rfl rfl (fun zc1 => ?_) (fun zc1 => ?_)
  · exact K2 (fun q => absurd ((nI_leI (b := 0) (by omega) (by decide)).mp zc1) (by have := q.1; omega))
  · refine ev_go 1 (q := 137) rfl ?_
    refine ev_get (q := 140) rfl (mH_o hn) rfl rfl rfl ?_
    refine ev_go 3 (q := 144) (st' := .int (_ - 1) :: _ :: _) rfl ?_
    refine ev_mza (q := 145) hn rfl (by decide) rfl (pk_sub (b := 1) (by have := Nat.pos_of_ne_zero (fun (q : k % 10 = 0) => zc1 (by rw [q]; decide)); omega)) (show k - 1 < 100 by omega) rfl ?_
    refine ev_if_ne (t := 170) (q := 148) rfl rfl rfl (fun zc2 => ?_) (fun zc2 => ?_)
    · exact K1 ⟨(Nat.pos_of_ne_zero (fun (q : k % 10 = 0) => zc1 (by rw [q]; decide))), by assumption⟩
    · exact K2 (fun q => q.2 (by assumption))
theorem t_fn4 (hn : 43 ≤ h.1) {xa xb xw x mo : Int32} {k : Nat} {e : Option Value} {ρ : Nat → Int32} (hk : k < 100) (K1 : fl_n4 ρ k → am_ev d z_Model_fills (170, [some (.ref 18), some (.int xa), some (.int xb), some (.int xw), some (.int x), some (.int mo), some (.int (nI k)), e], [], mH h σ t (va_up A 17 ρ)) res h') (K2 : ¬ fl_n4 ρ k → am_ev d z_Model_fills (174, [some (.ref 18), some (.int xa), some (.int xb), some (.int xw), some (.int x), some (.int mo), some (.int (nI k)), e], [], mH h σ t (va_up A 17 ρ)) res h') : am_ev d z_Model_fills (148, [some (.ref 18), some (.int xa), some (.int xb), some (.int xw), some (.int x), some (.int mo), some (.int (nI k)), e], [], mH h σ t (va_up A 17 ρ)) res h' := by
  refine ev_go 2 (q := 152) (st' := .int 10 :: _ :: _) rfl ?_
  refine ev_remn (b := 10) (q := 153) rfl rfl rfl (by decide) (by omega) (by decide) rfl ?_
  refine ev_go 1 (q := 155) (st' := .int 9 :: _ :: _) rfl ?_
  refine ev_icmp_ge (t := 174) (q := 158) rfl rfl rfl (fun zc1 => ?_) (fun zc1 => ?_)
  · exact K2 (fun q => absurd ((nI_leI (a := 9) (by omega) (by omega)).mp zc1) (by have := q.1; omega))
  · refine ev_go 1 (q := 159) rfl ?_
    refine ev_get (q := 162) rfl (mH_o hn) rfl rfl rfl ?_
    refine ev_go 3 (q := 166) (st' := .int (_ + 1) :: _ :: _) rfl ?_
    refine ev_mza (q := 167) hn rfl (by decide) rfl (nI_add k 1) (show k + 1 < 100 by (have := Nat.not_le.mp (fun q => zc1 ((nI_leI (a := 9) (by omega) (by omega)).mpr q)); omega)) rfl ?_
    refine ev_if_eq (t := 174) (q := 170) rfl rfl rfl (fun zc2 => ?_) (fun zc2 => ?_)
    · exact K2 (fun q => q.2 (by assumption))
    · exact K1 ⟨(Nat.not_le.mp (fun q => zc1 ((nI_leI (a := 9) (by omega) (by omega)).mpr q))), by assumption⟩
theorem t_near (hn : 43 ≤ h.1) {xa xb xw x mo : Int32} {k : Nat} {e : Option Value} {ρ : Nat → Int32} (hk : k < 100) (K : ∀ y : Int32, (y = 1 ∧ fl_nb ρ k) ∨ (y = 0 ∧ ¬ fl_nb ρ k) → am_ev d z_Model_fills (177, [some (.ref 18), some (.int xa), some (.int xb), some (.int xw), some (.int x), some (.int mo), some (.int (nI k)), some (.int y)], [], mH h σ t (va_up A 17 ρ)) res h') : am_ev d z_Model_fills (88, [some (.ref 18), some (.int xa), some (.int xb), some (.int xw), some (.int x), some (.int mo), some (.int (nI k)), e], [], mH h σ t (va_up A 17 ρ)) res h' := by
  have yes : fl_nb ρ k → am_ev d z_Model_fills (170, [some (.ref 18), some (.int xa), some (.int xb), some (.int xw), some (.int x), some (.int mo), some (.int (nI k)), e], [], mH h σ t (va_up A 17 ρ)) res h' := fun q => ev_go 3 (q := 177) rfl (K 1 (Or.inl ⟨rfl, q⟩))
  have nay : ¬ fl_nb ρ k → am_ev d z_Model_fills (174, [some (.ref 18), some (.int xa), some (.int xb), some (.int xw), some (.int x), some (.int mo), some (.int (nI k)), e], [], mH h σ t (va_up A 17 ρ)) res h' := fun q => ev_go 2 (q := 177) rfl (K 0 (Or.inr ⟨rfl, q⟩))
  exact t_fn1 hn hk (fun q => yes (Or.inl q)) (fun q1 => t_fn2 hn hk (fun q => yes (Or.inr (Or.inl q))) (fun q2 => t_fn3 hn hk (fun q => yes (Or.inr (Or.inr (Or.inl q)))) (fun q3 => t_fn4 hn hk (fun q => yes (Or.inr (Or.inr (Or.inr q)))) (fun q4 => nay (fun q => q.elim q1 (fun q => q.elim q2 (fun q => q.elim q3 q4)))))))
theorem l_fps (hn : 43 ≤ h.1) {xa xb xw x : Int32} : ∀ (m k : Nat) (S : (Nat → Int32) × Int32) (e : Option Value), k + m = 100 → (∀ e : Option Value, am_ev d z_Model_fills (231, [some (.ref 18), some (.int xa), some (.int xb), some (.int xw), some (.int x), some (.int (sp_it (fl_s A x) k m S).2), some (.int (nI 100)), e], [], mH h σ t (va_up A 17 (sp_it (fl_s A x) k m S).1)) res h') → am_ev d z_Model_fills (85, [some (.ref 18), some (.int xa), some (.int xb), some (.int xw), some (.int x), some (.int S.2), some (.int (nI k)), e], [.int 100, .int (nI k)], mH h σ t (va_up A 17 S.1)) res h'
  | 0, k, S, e, hm, K => by
    refine ev_icmp_ge (t := 231) (q := 88) rfl rfl rfl (fun _ => ?_) (fun c1 => absurd (nI_end (b := 100) hm (by omega)) c1)
    have hc : k = 100 := hm
    subst hc
    exact K e
  | m + 1, k, S, e, hm, K => by
    refine ev_icmp_ge (t := 231) (q := 88) rfl rfl rfl (fun c1 => absurd c1 (nI_ge (b := 100) (by omega) (by omega))) (fun _ => ?_)
    simp only [sp_it] at K
    refine t_near hn (by omega) (fun y hy => ?_)
    refine ev_go 1 (q := 178) rfl ?_
    refine ev_get (q := 181) rfl (mH_o hn) rfl rfl rfl ?_
    refine ev_go 1 (q := 183) rfl ?_
    refine ev_mza (q := 184) hn rfl (by decide) rfl rfl (show k < 100 by omega) rfl ?_
    refine ev_if_ne (t := 225) (q := 187) rfl rfl rfl (fun zc1 => ?_) (fun zc1 => ?_)
    · rw [fl_no (A := A) (x := x) (k := k) (S := S) (fun q => zc1 q.1.1)] at K
      refine ev_go 4 (q := 85) (st' := .int 100 :: _) rfl ?_
      rw [nI_s]
      exact l_fps hn m (k + 1) S _ (by omega) K
    · refine ev_go 1 (q := 188) rfl ?_
      refine ev_get (q := 191) rfl (mH_o hn) rfl rfl rfl ?_
      refine ev_go 1 (q := 193) rfl ?_
      refine ev_mza (q := 194) hn rfl (by decide) rfl rfl (show k < 100 by omega) rfl ?_
      refine ev_if_eq (t := 225) (q := 197) rfl rfl rfl (fun zc2 => ?_) (fun zc2 => ?_)
      · rw [fl_no (A := A) (x := x) (k := k) (S := S) (fun q => q.1.2.1 zc2)] at K
        refine ev_go 4 (q := 85) (st' := .int 100 :: _) rfl ?_
        rw [nI_s]
        exact l_fps hn m (k + 1) S _ (by omega) K
      · refine ev_go 1 (q := 198) rfl ?_
        refine ev_get (q := 201) rfl (mH_o hn) rfl rfl rfl ?_
        refine ev_go 1 (q := 203) rfl ?_
        refine ev_mia (q := 204) hn rfl (by decide) rfl rfl (show k < 100 by omega) rfl ?_
        refine ev_go 1 (q := 206) rfl ?_
        refine ev_icmp_ne (t := 225) (q := 209) rfl rfl rfl (fun zc3 => ?_) (fun zc3 => ?_)
        · rw [fl_no (A := A) (x := x) (k := k) (S := S) (fun q => zc3 q.1.2.2)] at K
          refine ev_go 4 (q := 85) (st' := .int 100 :: _) rfl ?_
          rw [nI_s]
          exact l_fps hn m (k + 1) S _ (by omega) K
        · refine ev_go 1 (q := 211) rfl ?_
          refine ev_if_eq (t := 225) (q := 214) rfl rfl rfl (fun zc4 => ?_) (fun zc4 => ?_)
          · rw [fl_no (A := A) (x := x) (k := k) (S := S) (fun q => by rcases hy with ⟨rfl, _⟩ | ⟨_, q2⟩; exact absurd zc4 (by decide); exact q2 q.2)] at K
            refine ev_go 4 (q := 85) (st' := .int 100 :: _) rfl ?_
            rw [nI_s]
            exact l_fps hn m (k + 1) S _ (by omega) K
          · refine ev_go 1 (q := 215) rfl ?_
            refine ev_get (q := 218) rfl (mH_o hn) rfl rfl rfl ?_
            refine ev_go 2 (q := 221) (st' := .int 1 :: _ :: _ :: _) rfl ?_
            refine ev_mzas (q := 222) hn rfl (by decide) rfl rfl (show k < 100 by omega) rfl ?_
            refine ev_go 2 (q := 225) rfl ?_
            rw [fl_y (A := A) (x := x) (k := k) (S := S) ⟨⟨zc1, zc2, zc3⟩, by rcases hy with ⟨_, q2⟩ | ⟨rfl, _⟩; exact q2; exact absurd rfl zc4⟩] at K
            rw [bx_uu]
            refine ev_go 4 (q := 85) (st' := .int 100 :: _) rfl ?_
            rw [nI_s]
            exact l_fps hn m (k + 1) (va_up S.1 k 1, 1) _ (by omega) K
noncomputable def fl_p (A : Nat → Nat → Int32) (x : Int32) (ρ : Nat → Int32) : (Nat → Int32) × Int32 := sp_it (fl_s A x) 0 100 (ρ, 0)
noncomputable def fl_run (A : Nat → Nat → Int32) (x : Int32) : Nat → (Nat → Int32) → (Nat → Int32)
  | 0, ρ => ρ
  | n + 1, ρ => if (fl_p A x ρ).2 = 0 then (fl_p A x ρ).1 else fl_run A x n (fl_p A x ρ).1
/-- how many are not reached of k .. k + m - 1 -/
def fl_z (ρ : Nat → Int32) : Nat → Nat → Nat
  | _, 0 => 0
  | k, m + 1 => (if ρ k = 0 then 1 else 0) + fl_z ρ (k + 1) m
theorem fl_z_le (ρ : Nat → Int32) : ∀ m k, fl_z ρ k m ≤ m
  | 0, _ => Nat.le_refl _
  | m + 1, k => by
    have := fl_z_le ρ m (k + 1)
    unfold fl_z
    split <;> omega
theorem fl_z_up {ρ : Nat → Int32} {j : Nat} : ∀ m k, (j < k ∨ k + m ≤ j) → fl_z (va_up ρ j 1) k m = fl_z ρ k m
  | 0, _, _ => rfl
  | m + 1, k, hj => by
    unfold fl_z
    rw [fl_z_up m (k + 1) (by omega), va_up_ne _ _ (by omega)]
theorem fl_z_in {ρ : Nat → Int32} {j : Nat} (h0 : ρ j = 0) : ∀ m k, k ≤ j → j < k + m → fl_z (va_up ρ j 1) k m + 1 = fl_z ρ k m
  | 0, _, h1, h2 => by omega
  | m + 1, k, h1, h2 => by
    unfold fl_z
    by_cases e : j = k
    · subst e
      rw [fl_z_up m (j + 1) (by omega), va_up_self, if_pos h0, if_neg (by decide)]
      omega
    · have := fl_z_in h0 m (k + 1) (by omega) (by omega)
      rw [va_up_ne _ _ (by omega)]
      omega
theorem fl_dec (A : Nat → Nat → Int32) (x : Int32) : ∀ m k (S : (Nat → Int32) × Int32), k + m = 100 → fl_z (sp_it (fl_s A x) k m S).1 0 100 ≤ fl_z S.1 0 100 ∧ (S.2 = 0 → ¬ (sp_it (fl_s A x) k m S).2 = 0 → fl_z (sp_it (fl_s A x) k m S).1 0 100 < fl_z S.1 0 100)
  | 0, k, S, _ => ⟨Nat.le_refl _, fun a b => absurd a b⟩
  | m + 1, k, S, hm => by
    rw [sp_it]
    by_cases q : fl_c A x S.1 k
    · rw [fl_y q]
      have h1 := fl_dec A x m (k + 1) (va_up S.1 k 1, 1) (by omega)
      have h2 := fl_z_in q.1.1 100 0 (by omega) (by omega)
      dsimp only at h1
      exact ⟨by omega, fun _ _ => by omega⟩
    · rw [fl_no q]
      exact fl_dec A x m (k + 1) S (by omega)
theorem l_flw (hn : 43 ≤ h.1) {xa xb xw x : Int32} : ∀ (n : Nat) (ρ : Nat → Int32) (mo : Int32) (e6 e7 : Option Value), ¬ mo = 0 → fl_z ρ 0 100 < n → (∀ mo e6 e7, am_ev d z_Model_fills (234, [some (.ref 18), some (.int xa), some (.int xb), some (.int xw), some (.int x), some (.int mo), e6, e7], [], mH h σ t (va_up A 17 (fl_run A x n ρ))) res h') → am_ev d z_Model_fills (70, [some (.ref 18), some (.int xa), some (.int xb), some (.int xw), some (.int x), some (.int mo), e6, e7], [], mH h σ t (va_up A 17 ρ)) res h'
 := by
  intro n
  induction n with
  | zero =>
    intro ρ mo e6 e7 hmo hz K
    exact absurd hz (Nat.not_lt_zero _)
  | succ n ih =>
    intro ρ mo e6 e7 hmo hz K
    refine ev_go 1 (q := 72) rfl ?_
    refine ev_if_eq (t := 234) (q := 75) rfl rfl rfl (fun q => absurd q hmo) (fun _ => ?_)
    refine ev_go 6 (q := 85) (st' := .int 100 :: .int (nI 0) :: _) rfl ?_
    refine l_fps (S := (ρ, 0)) hn 100 0 _ (by omega) (fun e => ?_)
    refine ev_go 1 (q := 70) rfl ?_
    have hdc := fl_dec A x 100 0 (ρ, 0) (by omega)
    by_cases q : (fl_p A x ρ).2 = 0
    · refine ev_go 1 (q := 72) rfl ?_
      refine ev_if_eq (t := 234) (q := 75) rfl rfl rfl (fun _ => ?_) (fun c => absurd q c)
      have K1 := K
      simp only [fl_run, if_pos q] at K1
      exact K1 _ _ _
    · have K1 := K
      simp only [fl_run, if_neg q] at K1
      refine ih _ _ _ _ q ?_ K1
      have := hdc.2 rfl q
      exact Nat.lt_of_lt_of_le this (Nat.le_of_lt_succ hz)
theorem l_fli (hn : 43 ≤ h.1) {a b : Nat} {xw : Int32} {e5 e6 e7 : Option Value} (hab : 10 * a + b < 100) : ∀ (m k : Nat) (A : Nat → Nat → Int32), k + m = 100 → am_ev d z_Model_fills (54, [some (.ref 18), some (.int (nI a)), some (.int (nI b)), some (.int xw), some (.int (nI 100)), e5, e6, e7], [], mH h σ t (sp_it (fun k A => va_up A 17 (va_up (A 17) k (am_b (k = 10 * a + b)))) k m A)) res h' → am_ev d z_Model_fills (22, [some (.ref 18), some (.int (nI a)), some (.int (nI b)), some (.int xw), some (.int (nI k)), e5, e6, e7], [.int 100, .int (nI k)], mH h σ t A) res h'
  | 0, k, A, hm, K => by
    refine ev_icmp_ge (t := 54) (q := 25) rfl rfl rfl (fun _ => ?_) (fun c1 => absurd (nI_end (b := 100) hm (by omega)) c1)
    have hc : k = 100 := hm
    subst hc
    exact K
  | m + 1, k, A, hm, K => by
    refine ev_icmp_ge (t := 54) (q := 25) rfl rfl rfl (fun c1 => absurd c1 (nI_ge (b := 100) (by omega) (by omega))) (fun _ => ?_)
    rw [sp_it] at K
    refine ev_go 1 (q := 26) rfl ?_
    refine ev_get (q := 29) rfl (mH_o hn) rfl rfl rfl ?_
    refine ev_go 7 (q := 39) (st' := .int ((10 * _) + _) :: _ :: _ :: _ :: _) rfl ?_
    refine ev_icmp_ne (t := 46) (q := 42) rfl rfl rfl (fun zc1 => ?_) (fun zc1 => ?_)
    · refine ev_go 1 (q := 47) (st' := .int 0 :: _ :: _ :: _) rfl ?_
      refine ev_mzas (q := 48) hn rfl (by decide) rfl rfl (show k < 100 by omega) rfl ?_
      refine ev_go 4 (q := 22) (st' := .int 100 :: _ :: _) rfl ?_
      have e9 : ((0 : Int32) &&& 1) = am_b (k = 10 * a + b) := (am_bz (fun q => zc1 (by rw [q]; exact (mx_k a b).symm))).symm
      rw [e9, nI_s]
      exact l_fli hn hab m (k + 1) _ (by omega) K
    · refine ev_go 2 (q := 47) (st' := .int 1 :: _ :: _ :: _) rfl ?_
      refine ev_mzas (q := 48) hn rfl (by decide) rfl rfl (show k < 100 by omega) rfl ?_
      refine ev_go 4 (q := 22) (st' := .int 100 :: _ :: _) rfl ?_
      have e9 : ((1 : Int32) &&& 1) = am_b (k = 10 * a + b) := (am_b1 ((nI_eq (by omega) (by omega)).mp (zc1.trans (mx_k a b)))).symm
      rw [e9, nI_s]
      exact l_fli hn hab m (k + 1) _ (by omega) K
def fl_pt (R C u : Nat) (ρ : Nat → Int32) (xw : Int32) (k : Nat) (A : Nat → Nat → Int32) : Nat → Nat → Int32 := if ρ k = 0 then A else ms_paint R C u A (nI (k / 10)) (nI (k % 10)) xw
theorem l_flp (hn : 43 ≤ h.1) (hd : 2 < d) (hR : 1 ≤ R ∧ R ≤ 10) (hC : 1 ≤ C ∧ C ≤ 10) (h1 : σ 1 = nI R) (h2 : σ 2 = nI C) (h5 : σ 5 = nI u) (hu : u < 3) {xa xb xw x mo : Int32} {e : Option Value} {ρ : Nat → Int32} : ∀ (m k : Nat) (A : Nat → Nat → Int32), k + m = 100 → A 17 = ρ → am_ev d z_Model_fills (275, [some (.ref 18), some (.int xa), some (.int xb), some (.int xw), some (.int x), some (.int mo), some (.int (nI 100)), e], [], mH h σ t (sp_it (fl_pt R C u ρ xw) k m A)) res h' → am_ev d z_Model_fills (241, [some (.ref 18), some (.int xa), some (.int xb), some (.int xw), some (.int x), some (.int mo), some (.int (nI k)), e], [.int 100, .int (nI k)], mH h σ t A) res h'
  | 0, k, A, hm, hρ, K => by
    refine ev_icmp_ge (t := 275) (q := 244) rfl rfl rfl (fun _ => ?_) (fun c1 => absurd (nI_end (b := 100) hm (by omega)) c1)
    have hc : k = 100 := hm
    subst hc
    exact K
  | m + 1, k, A, hm, hρ, K => by
    refine ev_icmp_ge (t := 275) (q := 244) rfl rfl rfl (fun c1 => absurd c1 (nI_ge (b := 100) (by omega) (by omega))) (fun _ => ?_)
    rw [sp_it] at K
    refine ev_go 1 (q := 245) rfl ?_
    refine ev_get (q := 248) rfl (mH_o hn) rfl rfl rfl ?_
    refine ev_go 1 (q := 250) rfl ?_
    refine ev_mza (q := 251) hn rfl (by decide) rfl rfl (show k < 100 by omega) rfl ?_
    refine ev_if_eq (t := 269) (q := 254) rfl rfl rfl (fun zc1 => ?_) (fun zc1 => ?_)
    · refine ev_go 4 (q := 241) (st' := .int 100 :: _ :: _) rfl ?_
      rw [hρ] at zc1
      rw [show fl_pt R C u ρ xw k A = A from if_pos zc1] at K
      rw [nI_s]
      exact l_flp hn hd hR hC h1 h2 h5 hu m (k + 1) _ (by omega) hρ K
    · refine ev_go 3 (q := 259) (st' := .int 10 :: _ :: _ :: _) rfl ?_
      refine ev_divn (b := 10) (q := 260) rfl rfl rfl (by decide) (by omega) (by decide) rfl ?_
      refine ev_go 2 (q := 264) (st' := .int 10 :: _ :: _ :: _ :: _) rfl ?_
      refine ev_remn (b := 10) (q := 265) rfl rfl rfl (by decide) (by omega) (by decide) rfl ?_
      refine ev_go 1 (q := 266) rfl ?_
      refine ev_virt (z' := z_Model_paints) (q := 269) rfl rfl (by decide) rfl (by simp [Value.category]) rfl (by omega) rfl rfl (mH_o hn) (m_paint hn (by omega) hR hC h1 h2 h5 hu) ?_
      refine ev_go 4 (q := 241) (st' := .int 100 :: _ :: _) rfl ?_
      rw [hρ] at zc1
      rw [show fl_pt R C u ρ xw k A = ms_paint R C u A (nI (k / 10)) (nI (k % 10)) xw from if_neg zc1] at K
      rw [nI_s]
      exact l_flp hn hd hR hC h1 h2 h5 hu m (k + 1) _ (by omega) ((pt_15 _ _ _ _ _ _ _ _ (by decide)).trans hρ) K
def fl_0 (A : Nat → Nat → Int32) (s k : Nat) : Int32 := if 0 ≤ k ∧ k < 100 then am_b (k = s) else A 17 k
noncomputable def ms_fill (R C u s : Nat) (xw : Int32) (A : Nat → Nat → Int32) : Nat → Nat → Int32 := sp_it (fl_pt R C u (fl_run A (A 16 s) 101 (fl_0 A s)) xw) 0 100 (va_up A 17 (fl_run A (A 16 s) 101 (fl_0 A s)))
theorem m_fills0 (hn : 43 ≤ h.1) {a b : Nat} {xw : Int32} (hab : 10 * a + b < 100) (h0 : A 1 (10 * a + b) = 0) : am_m d z_Model_fills [.ref 18, .int (nI a), .int (nI b), .int xw] (mH h σ t A) none (mH h σ t A) := by
  refine ev_go 1 (q := 1) rfl ?_
  refine ev_get (q := 4) rfl (mH_o hn) rfl rfl rfl ?_
  refine ev_go 5 (q := 10) (st' := .int ((10 * _) + _) :: _ :: _) rfl ?_
  refine ev_mza (q := 11) hn rfl (by decide) rfl (mx_k a b) hab rfl ?_
  refine ev_if_ne (t := 15) (q := 14) rfl rfl rfl (fun c => absurd h0 c) (fun zc1 => ?_)
  exact ev_vret rfl rfl (rfl)
theorem fl_pw {f : Nat → Int32} : ∀ (m k : Nat) (A : Nat → Nat → Int32), k + m = 100 → sp_it (fun k A => va_up A 17 (va_up (A 17) k (f k))) k m A = va_up A 17 (fun j => if k ≤ j ∧ j < 100 then f j else A 17 j)
  | 0, k, A, hm => by
    rw [sp_it]
    funext i j
    by_cases e : i = 17
    · subst e
      rw [va_up_self, if_neg (by omega)]
    · rw [va_up_ne _ _ e]
  | m + 1, k, A, hm => by
    rw [sp_it, fl_pw m (k + 1) _ (by omega), bx_uu]
    congr 1
    funext j
    rw [va_up_self]
    by_cases e : j = k
    · subst e
      rw [if_neg (by omega), if_pos (by omega), va_up_self]
    · rw [va_up_ne _ _ e]
      by_cases q : k + 1 ≤ j ∧ j < 100
      · rw [if_pos q, if_pos (by omega)]
      · rw [if_neg q, if_neg (by omega)]
theorem m_fills (hn : 43 ≤ h.1) (hd : 2 < d) (hR : 1 ≤ R ∧ R ≤ 10) (hC : 1 ≤ C ∧ C ≤ 10) (h1 : σ 1 = nI R) (h2 : σ 2 = nI C) (h5 : σ 5 = nI u) (hu : u < 3) {a b : Nat} {xw : Int32} (hab : 10 * a + b < 100) (h0 : ¬ A 1 (10 * a + b) = 0) : am_m d z_Model_fills [.ref 18, .int (nI a), .int (nI b), .int xw] (mH h σ t A) none (mH h σ t (ms_fill R C u (10 * a + b) xw A)) := by
  refine ev_go 1 (q := 1) rfl ?_
  refine ev_get (q := 4) rfl (mH_o hn) rfl rfl rfl ?_
  refine ev_go 5 (q := 10) (st' := .int ((10 * _) + _) :: _ :: _) rfl ?_
  refine ev_mza (q := 11) hn rfl (by decide) rfl (mx_k a b) hab rfl ?_
  refine ev_if_ne (t := 15) (q := 14) rfl rfl rfl (fun zc1 => ?_) (fun c => absurd c h0)
  refine ev_go 4 (q := 22) (st' := .int 100 :: _ :: _) rfl ?_
  refine l_fli hn hab 100 0 A (by omega) ?_
  rw [fl_pw (f := fun k => am_b (k = 10 * a + b)) 100 0 A (by omega)]
  refine ev_go 1 (q := 55) rfl ?_
  refine ev_get (q := 58) rfl (mH_o hn) rfl rfl rfl ?_
  refine ev_go 5 (q := 64) (st' := .int ((10 * _) + _) :: _ :: _) rfl ?_
  refine ev_mia (q := 65) hn rfl (by decide) rfl (mx_k a b) hab rfl ?_
  refine ev_go 3 (q := 70) rfl ?_
  refine l_flw (A := A) hn 101 (fl_0 A (10 * a + b)) 1 _ _ (by decide) (Nat.lt_succ_of_le (fl_z_le _ _ _)) (fun mo e6 e7 => ?_)
  refine ev_go 4 (q := 241) (st' := .int 100 :: _ :: _) rfl ?_
  refine l_flp hn hd hR hC h1 h2 h5 hu 100 0 _ (by omega) (va_up_self _ _ _) ?_
  exact ev_vret rfl rfl rfl
end M6
