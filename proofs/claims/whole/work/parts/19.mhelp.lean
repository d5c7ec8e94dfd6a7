/-! the reference: helpers -/
section M2
variable {d : Nat} {h h' : am_H} {σ : Nat → Int32} {t : Int64} {A : Nat → Nat → Int32} {res : Option Value} {R C : Nat}
theorem m_begins (hn : 43 ≤ h.1) : am_m d z_Model_begins [.ref 18] (mH h σ t A) none (mH h (va_up (va_up (va_up (va_up (va_up σ 24 0) 25 0) 26 0) 27 (-9)) 28 0) t A) := by
  refine ev_go 2 (q := 2) (st' := .int 0 :: _ :: _) rfl ?_
  refine ev_mput (q := 5) hn rfl rfl rfl (by decide) rfl (mls_24 _ _ _) rfl ?_
  refine ev_go 2 (q := 7) (st' := .int 0 :: _ :: _) rfl ?_
  refine ev_mput (q := 10) hn rfl rfl rfl (by decide) rfl (mls_25 _ _ _) rfl ?_
  refine ev_go 2 (q := 12) (st' := .int 0 :: _ :: _) rfl ?_
  refine ev_mput (q := 15) hn rfl rfl rfl (by decide) rfl (mls_26 _ _ _) rfl ?_
  refine ev_go 2 (q := 18) (st' := .int (-9) :: _ :: _) rfl ?_
  refine ev_mput (q := 21) hn rfl rfl rfl (by decide) rfl (mls_27 _ _ _) rfl ?_
  refine ev_go 2 (q := 23) (st' := .int 0 :: _ :: _) rfl ?_
  refine ev_mput (q := 26) hn rfl rfl rfl (by decide) rfl (mls_28 _ _ _) rfl ?_
  exact ev_vret rfl rfl (rfl)
theorem m_isHandle (hn : 43 ≤ h.1) (hd : 0 < d) {x : Int32} {n : Nat} (h1 : σ 12 = nI n) (hb : n ≤ 100) : am_m d z_Model_isHandle [.ref 18, .int x] (mH h σ t A) (some (.int (am_b (0 ≤ x ∧ x < nI n)))) (mH h σ t A) := by
  have e1 : am_b (0 ≤ x ∧ x ≤ σ 12 - 1) = am_b (0 ≤ x ∧ x < nI n) := by
    rw [h1]
    have : (0 ≤ x ∧ x ≤ nI n - 1) ↔ (0 ≤ x ∧ x < nI n) := by
      have e2 : (nI n - 1).toInt = (n : Int) - 1 := by
        have := pk_sub_toInt (a := n) (b := 1) (by omega) (by omega)
        exact this
      simp only [Int32.lt_iff_toInt_lt, Int32.le_iff_toInt_le, nI_toInt (show n < 2 ^ 31 by omega), e2]
      omega
    unfold am_b
    by_cases q : 0 ≤ x ∧ x < nI n
    · rw [if_pos q, if_pos (this.mpr q)]
    · rw [if_neg q, if_neg (fun z => q (this.mp z))]
  rw [← e1]
  refine ev_go 3 (q := 3) (st' := _ :: .int 0 :: _ :: _) rfl ?_
  refine ev_get (q := 6) rfl (mH_o hn) rfl rfl rfl ?_
  refine ev_go 2 (q := 8) (st' := .int (_ - 1) :: _ :: _ :: _) rfl ?_
  refine ev_static (z' := z_Model_in) (q := 11) rfl rfl (by decide) rfl rfl (by simp [Value.category]) rfl (by omega) (k_in _ _ _) ?_
  exact ev_zret rfl rfl am_b01 (rfl) (rfl)
theorem m_isMacro (hn : 43 ≤ h.1) (hd : 0 < d) {x : Int32} {n : Nat} (h1 : σ 16 = nI n) (hb : n ≤ 100) : am_m d z_Model_isMacro [.ref 18, .int x] (mH h σ t A) (some (.int (am_b (0 ≤ x ∧ x < nI n)))) (mH h σ t A) := by
  have e1 : am_b (0 ≤ x ∧ x ≤ σ 16 - 1) = am_b (0 ≤ x ∧ x < nI n) := by
    rw [h1]
    have : (0 ≤ x ∧ x ≤ nI n - 1) ↔ (0 ≤ x ∧ x < nI n) := by
      have e2 : (nI n - 1).toInt = (n : Int) - 1 := by
        have := pk_sub_toInt (a := n) (b := 1) (by omega) (by omega)
        exact this
      simp only [Int32.lt_iff_toInt_lt, Int32.le_iff_toInt_le, nI_toInt (show n < 2 ^ 31 by omega), e2]
      omega
    unfold am_b
    by_cases q : 0 ≤ x ∧ x < nI n
    · rw [if_pos q, if_pos (this.mpr q)]
    · rw [if_neg q, if_neg (fun z => q (this.mp z))]
  rw [← e1]
  refine ev_go 3 (q := 3) (st' := _ :: .int 0 :: _ :: _) rfl ?_
  refine ev_get (q := 6) rfl (mH_o hn) rfl rfl rfl ?_
  refine ev_go 2 (q := 8) (st' := .int (_ - 1) :: _ :: _ :: _) rfl ?_
  refine ev_static (z' := z_Model_in) (q := 11) rfl rfl (by decide) rfl rfl (by simp [Value.category]) rfl (by omega) (k_in _ _ _) ?_
  exact ev_zret rfl rfl am_b01 (rfl) (rfl)
theorem m_adds (hn : 43 ≤ h.1) {x : Int32} {n : Nat} (h10 : σ 10 = nI n) (hb : n < 60) : am_m d z_Model_adds [.ref 18, .int x] (mH h σ t A) (some (.int (nI n))) (mH h (va_up (va_up σ 10 (nI (n + 1))) 11 (nI n)) t (va_up (va_up A 3 (va_up (A 3) n x)) 4 (va_up (A 4) n 1))) := by
  have e0 : (1 : Int32) &&& 1 = 1 := rfl
  have e1 : nI (n + 1) - 1 = nI n := nI_pred n
  refine ev_go 1 (q := 1) rfl ?_
  refine ev_get (q := 4) rfl (mH_o hn) rfl rfl rfl ?_
  refine ev_go 1 (q := 5) rfl ?_
  refine ev_get (q := 8) rfl (mH_o hn) rfl rfl rfl ?_
  refine ev_go 1 (q := 9) rfl ?_
  refine ev_mias (q := 10) hn rfl (by decide) rfl h10 (show n < 60 by omega) rfl ?_
  refine ev_go 1 (q := 11) rfl ?_
  refine ev_get (q := 14) rfl (mH_o hn) rfl rfl rfl ?_
  refine ev_go 1 (q := 15) rfl ?_
  refine ev_get (q := 18) rfl (mH_o hn) rfl rfl rfl ?_
  refine ev_go 1 (q := 19) (st' := .int 1 :: _ :: _ :: _) rfl ?_
  refine ev_mzas (q := 20) hn rfl (by decide) rfl h10 (show n < 60 by omega) rfl ?_
  refine ev_go 2 (q := 22) rfl ?_
  refine ev_get (q := 25) rfl (mH_o hn) rfl rfl rfl ?_
  refine ev_go 2 (q := 27) (st' := .int (_ + 1) :: _ :: _) rfl ?_
  rw [h10, show nI n + 1 = nI (n + 1) from nI_1 n]
  refine ev_mput (q := 30) hn rfl rfl rfl (by decide) rfl (mls_10 _ _ _) rfl ?_
  refine ev_go 2 (q := 32) rfl ?_
  refine ev_get (q := 35) rfl (mH_o hn) rfl rfl rfl ?_
  refine ev_go 2 (q := 37) (st' := .int (_ - 1) :: _ :: _) rfl ?_
  rw [show va_up σ 10 (nI (n + 1)) 10 - 1 = nI n by rw [va_up_self]; exact e1]
  refine ev_mput (q := 40) hn rfl rfl rfl (by decide) rfl (mls_11 _ _ _) rfl ?_
  refine ev_go 1 (q := 41) rfl ?_
  refine ev_get (q := 44) rfl (mH_o hn) rfl rfl rfl ?_
  exact ev_iret rfl rfl rfl rfl
theorem l_all (hn : 43 ≤ h.1) (hR : R ≤ 10) (hC : C ≤ 10) (h1 : σ 1 = nI R) (h2 : σ 2 = nI C) : ∀ (m k : Nat) (A : Nat → Nat → Int32), k + m = 100 → am_ev d z_Model_all (51, [some (.ref 18), some (.int 1), some (.int (nI 100))], [], mH h σ t (sp_it (fun k A => va_up A 1 (va_up (A 1) k (am_b (k / 10 < R ∧ k % 10 < C)))) k m A)) res h' → am_ev d z_Model_all (5, [some (.ref 18), some (.int 1), some (.int (nI k))], [.int 100, .int (nI k)], mH h σ t A) res h'
  | 0, k, A, hm, K => by
    refine ev_icmp_ge (t := 51) (q := 8) rfl rfl rfl (fun _ => ?_) (fun c1 => absurd (nI_end (b := 100) hm (by omega)) c1)
    have hc : k = 100 := hm
    subst hc
    exact K
  | m + 1, k, A, hm, K => by
    refine ev_icmp_ge (t := 51) (q := 8) rfl rfl rfl (fun c1 => absurd c1 (nI_ge (b := 100) (by omega) (by omega))) (fun _ => ?_)
    rw [sp_it] at K
    refine ev_go 1 (q := 9) rfl ?_
    refine ev_get (q := 12) rfl (mH_o hn) rfl rfl rfl ?_
    refine ev_go 2 (q := 14) rfl ?_
    refine ev_if_eq (t := 43) (q := 17) rfl rfl rfl (fun c => absurd c (by decide)) (fun zc1 => ?_)
    refine ev_go 2 (q := 20) (st' := .int 10 :: _ :: _ :: _ :: _) rfl ?_
    refine ev_divn (b := 10) (q := 21) rfl rfl rfl (by decide) (by omega) (by decide) rfl ?_
    refine ev_go 1 (q := 22) rfl ?_
    refine ev_get (q := 25) rfl (mH_o hn) rfl rfl rfl ?_
    refine ev_icmp_ge (t := 43) (q := 28) rfl rfl rfl (fun zc2 => ?_) (fun zc2 => ?_)
    · refine ev_go 1 (q := 44) (st' := .int 0 :: _ :: _ :: _) rfl ?_
      refine ev_mzas (q := 45) hn rfl (by decide) rfl rfl (show k < 100 by omega) rfl ?_
      refine ev_go 4 (q := 5) (st' := .int 100 :: _ :: _) rfl ?_
      have e9 : ((0 : Int32) &&& 1) = am_b (k / 10 < R ∧ k % 10 < C) := (am_bz (fun q => by rw [h1] at zc2; exact absurd ((nI_leI (by omega) (by omega)).mp zc2) (by omega))).symm
      rw [e9, nI_s]
      exact l_all hn hR hC h1 h2 m (k + 1) _ (by omega) K
    · refine ev_go 2 (q := 31) (st' := .int 10 :: _ :: _ :: _ :: _) rfl ?_
      refine ev_remn (b := 10) (q := 32) rfl rfl rfl (by decide) (by omega) (by decide) rfl ?_
      refine ev_go 1 (q := 33) rfl ?_
      refine ev_get (q := 36) rfl (mH_o hn) rfl rfl rfl ?_
      refine ev_icmp_ge (t := 43) (q := 39) rfl rfl rfl (fun zc3 => ?_) (fun zc3 => ?_)
      · refine ev_go 1 (q := 44) (st' := .int 0 :: _ :: _ :: _) rfl ?_
        refine ev_mzas (q := 45) hn rfl (by decide) rfl rfl (show k < 100 by omega) rfl ?_
        refine ev_go 4 (q := 5) (st' := .int 100 :: _ :: _) rfl ?_
        have e9 : ((0 : Int32) &&& 1) = am_b (k / 10 < R ∧ k % 10 < C) := (am_bz (fun q => by rw [h2] at zc3; exact absurd ((nI_leI (by omega) (by omega)).mp zc3) (by omega))).symm
        rw [e9, nI_s]
        exact l_all hn hR hC h1 h2 m (k + 1) _ (by omega) K
      · refine ev_go 2 (q := 44) (st' := .int 1 :: _ :: _ :: _) rfl ?_
        refine ev_mzas (q := 45) hn rfl (by decide) rfl rfl (show k < 100 by omega) rfl ?_
        refine ev_go 4 (q := 5) (st' := .int 100 :: _ :: _) rfl ?_
        have e9 : ((1 : Int32) &&& 1) = am_b (k / 10 < R ∧ k % 10 < C) := (am_b1 (by rw [h1] at zc2; rw [h2] at zc3; exact ⟨Nat.not_le.mp (fun q => zc2 ((nI_leI (by omega) (by omega)).mpr q)), Nat.not_le.mp (fun q => zc3 ((nI_leI (by omega) (by omega)).mpr q))⟩)).symm
        rw [e9, nI_s]
        exact l_all hn hR hC h1 h2 m (k + 1) _ (by omega) K
def ms_all (R C : Nat) (A : Nat → Nat → Int32) : Nat → Nat → Int32 := sp_it (fun k A => va_up A 1 (va_up (A 1) k (am_b (k / 10 < R ∧ k % 10 < C)))) 0 100 A
theorem m_all (hn : 43 ≤ h.1) (hR : R ≤ 10) (hC : C ≤ 10) (h1 : σ 1 = nI R) (h2 : σ 2 = nI C) : am_m d z_Model_all [.ref 18, .int 1] (mH h σ t A) none (mH h σ t (ms_all R C A)) := by
  refine ev_go 4 (q := 5) (st' := .int 100 :: _ :: _) rfl ?_
  refine l_all hn hR hC h1 h2 100 0 A (by omega) ?_
  exact ev_vret rfl rfl (rfl)
theorem l_keeps1 (hn : 43 ≤ h.1) {n : Nat} (hb : n < 60) : ∀ (m k : Nat) (A : Nat → Nat → Int32), k + m = 300 → am_ev d z_Model_keeps (35, [some (.ref 18), some (.int (nI n)), some (.int (nI (402 * n))), some (.int (nI 300))], [], mH h σ t (sp_it (fun k A => va_up A 2 (va_up (A 2) (402 * n + k) (A 0 k))) k m A)) res h' → am_ev d z_Model_keeps (12, [some (.ref 18), some (.int (nI n)), some (.int (nI (402 * n))), some (.int (nI k))], [.int 300, .int (nI k)], mH h σ t A) res h'
  | 0, k, A, hm, K => by
    refine ev_icmp_ge (t := 35) (q := 15) rfl rfl rfl (fun _ => ?_) (fun c1 => absurd (nI_end (b := 300) hm (by omega)) c1)
    have hc : k = 300 := hm
    subst hc
    exact K
  | m + 1, k, A, hm, K => by
    refine ev_icmp_ge (t := 35) (q := 15) rfl rfl rfl (fun c1 => absurd c1 (nI_ge (b := 300) (by omega) (by omega))) (fun _ => ?_)
    rw [sp_it] at K
    refine ev_go 1 (q := 16) rfl ?_
    refine ev_get (q := 19) rfl (mH_o hn) rfl rfl rfl ?_
    refine ev_go 4 (q := 23) rfl ?_
    refine ev_get (q := 26) rfl (mH_o hn) rfl rfl rfl ?_
    refine ev_go 1 (q := 27) rfl ?_
    refine ev_mia (q := 28) hn rfl (by decide) rfl rfl (show k < 300 by omega) rfl ?_
    refine ev_mias (q := 29) hn rfl (by decide) rfl (nI_add _ _) (show 402 * n + k < 24120 by omega) rfl ?_
    refine ev_go 4 (q := 12) (st' := .int 300 :: _ :: _) rfl ?_
    rw [nI_s]
    exact l_keeps1 hn hb m (k + 1) _ (by omega) K
theorem l_keeps2 (hn : 43 ≤ h.1) {n : Nat} (hb : n < 60) : ∀ (m k : Nat) (A : Nat → Nat → Int32), k + m = 100 → am_ev d z_Model_keeps (75, [some (.ref 18), some (.int (nI n)), some (.int (nI (402 * n))), some (.int (nI 100))], [], mH h σ t (sp_it (fun k A => va_up A 2 (va_up (A 2) (402 * n + 300 + k) (am_b (¬ A 1 k = 0)))) k m A)) res h' → am_ev d z_Model_keeps (40, [some (.ref 18), some (.int (nI n)), some (.int (nI (402 * n))), some (.int (nI k))], [.int 100, .int (nI k)], mH h σ t A) res h'
  | 0, k, A, hm, K => by
    refine ev_icmp_ge (t := 75) (q := 43) rfl rfl rfl (fun _ => ?_) (fun c1 => absurd (nI_end (b := 100) hm (by omega)) c1)
    have hc : k = 100 := hm
    subst hc
    exact K
  | m + 1, k, A, hm, K => by
    refine ev_icmp_ge (t := 75) (q := 43) rfl rfl rfl (fun c1 => absurd c1 (nI_ge (b := 100) (by omega) (by omega))) (fun _ => ?_)
    rw [sp_it] at K
    refine ev_go 1 (q := 44) rfl ?_
    refine ev_get (q := 47) rfl (mH_o hn) rfl rfl rfl ?_
    refine ev_go 6 (q := 55) (st' := _ :: .int ((_ + 300) + _) :: _ :: _) rfl ?_
    refine ev_get (q := 58) rfl (mH_o hn) rfl rfl rfl ?_
    refine ev_go 1 (q := 59) rfl ?_
    refine ev_mza (q := 60) hn rfl (by decide) rfl rfl (show k < 100 by omega) rfl ?_
    refine ev_if_eq (t := 67) (q := 63) rfl rfl rfl (fun zc1 => ?_) (fun zc1 => ?_)
    · refine ev_go 1 (q := 68) (st' := .int 0 :: _ :: _ :: _) rfl ?_
      refine ev_mias (q := 69) hn rfl (by decide) rfl (by rw [show (300 : Int32) = nI 300 from rfl, nI_add, nI_add]) (show 402 * n + 300 + k < 24120 by omega) rfl ?_
      refine ev_go 4 (q := 40) (st' := .int 100 :: _ :: _) rfl ?_
      rw [am_bz (fun q => q zc1)] at K
      rw [nI_s]
      exact l_keeps2 hn hb m (k + 1) _ (by omega) K
    · refine ev_go 2 (q := 68) (st' := .int 1 :: _ :: _ :: _) rfl ?_
      refine ev_mias (q := 69) hn rfl (by decide) rfl (by rw [show (300 : Int32) = nI 300 from rfl, nI_add, nI_add]) (show 402 * n + 300 + k < 24120 by omega) rfl ?_
      refine ev_go 4 (q := 40) (st' := .int 100 :: _ :: _) rfl ?_
      rw [am_b1 zc1] at K
      rw [nI_s]
      exact l_keeps2 hn hb m (k + 1) _ (by omega) K
def ms_keep (n : Nat) (u s : Int32) (A : Nat → Nat → Int32) : Nat → Nat → Int32 := (fun A => va_up (va_up A 2 (va_up (A 2) (402 * n + 400) u)) 2 (va_up ((va_up A 2 (va_up (A 2) (402 * n + 400) u)) 2) (402 * n + 401) s)) (sp_it (fun k A => va_up A 2 (va_up (A 2) (402 * n + 300 + k) (am_b (¬ A 1 k = 0)))) 0 100 (sp_it (fun k A => va_up A 2 (va_up (A 2) (402 * n + k) (A 0 k))) 0 300 A))
theorem m_keeps (hn : 43 ≤ h.1) {n : Nat} (hb : n < 60) : am_m d z_Model_keeps [.ref 18, .int (nI n)] (mH h σ t A) none (mH h σ t (ms_keep n (σ 5) (σ 6) A)) := by
  have e0 : (402 : Int32) * nI n = nI (402 * n) := by rw [show (402 : Int32) = nI 402 from rfl, pk_mul]
  refine ev_go 4 (q := 6) rfl ?_
  rw [show (Int16.ofInt 402).toInt32 * nI n = nI (402 * n) from e0]
  refine ev_go 4 (q := 12) (st' := .int 300 :: _ :: _) rfl ?_
  refine l_keeps1 hn hb 300 0 A (by omega) ?_
  refine ev_go 4 (q := 40) (st' := .int 100 :: _ :: _) rfl ?_
  refine l_keeps2 hn hb 100 0 _ (by omega) ?_
  refine ev_go 1 (q := 76) rfl ?_
  refine ev_get (q := 79) rfl (mH_o hn) rfl rfl rfl ?_
  refine ev_go 4 (q := 85) (st' := _ :: .int (_ + 400) :: _ :: _) rfl ?_
  refine ev_get (q := 88) rfl (mH_o hn) rfl rfl rfl ?_
  refine ev_mias (q := 89) hn rfl (by decide) rfl (nI_add _ 400) (show 402 * n + 400 < 24120 by omega) rfl ?_
  refine ev_go 1 (q := 90) rfl ?_
  refine ev_get (q := 93) rfl (mH_o hn) rfl rfl rfl ?_
  refine ev_go 4 (q := 99) (st' := _ :: .int (_ + 401) :: _ :: _) rfl ?_
  refine ev_get (q := 102) rfl (mH_o hn) rfl rfl rfl ?_
  refine ev_mias (q := 103) hn rfl (by decide) rfl (nI_add _ 401) (show 402 * n + 401 < 24120 by omega) rfl ?_
  exact ev_vret rfl rfl (rfl)
theorem l_bec1 (hn : 43 ≤ h.1) {n : Nat} (hb : n < 60) : ∀ (m k : Nat) (A : Nat → Nat → Int32), k + m = 300 → am_ev d z_Model_becomes (35, [some (.ref 18), some (.int (nI n)), some (.int (nI (402 * n))), some (.int (nI 300))], [], mH h σ t (sp_it (fun k A => va_up A 0 (va_up (A 0) k (A 2 (402 * n + k)))) k m A)) res h' → am_ev d z_Model_becomes (12, [some (.ref 18), some (.int (nI n)), some (.int (nI (402 * n))), some (.int (nI k))], [.int 300, .int (nI k)], mH h σ t A) res h'
  | 0, k, A, hm, K => by
    refine ev_icmp_ge (t := 35) (q := 15) rfl rfl rfl (fun _ => ?_) (fun c1 => absurd (nI_end (b := 300) hm (by omega)) c1)
    have hc : k = 300 := hm
    subst hc
    exact K
  | m + 1, k, A, hm, K => by
    refine ev_icmp_ge (t := 35) (q := 15) rfl rfl rfl (fun c1 => absurd c1 (nI_ge (b := 300) (by omega) (by omega))) (fun _ => ?_)
    rw [sp_it] at K
    refine ev_go 1 (q := 16) rfl ?_
    refine ev_get (q := 19) rfl (mH_o hn) rfl rfl rfl ?_
    refine ev_go 2 (q := 21) rfl ?_
    refine ev_get (q := 24) rfl (mH_o hn) rfl rfl rfl ?_
    refine ev_go 3 (q := 27) rfl ?_
    refine ev_mia (q := 28) hn rfl (by decide) rfl (nI_add _ _) (show 402 * n + k < 24120 by omega) rfl ?_
    refine ev_mias (q := 29) hn rfl (by decide) rfl rfl (show k < 300 by omega) rfl ?_
    refine ev_go 4 (q := 12) (st' := .int 300 :: _ :: _) rfl ?_
    rw [nI_s]
    exact l_bec1 hn hb m (k + 1) _ (by omega) K
theorem l_bec2 (hn : 43 ≤ h.1) {n : Nat} (hb : n < 60) : ∀ (m k : Nat) (A : Nat → Nat → Int32), k + m = 100 → am_ev d z_Model_becomes (76, [some (.ref 18), some (.int (nI n)), some (.int (nI (402 * n))), some (.int (nI 100))], [], mH h σ t (sp_it (fun k A => va_up A 1 (va_up (A 1) k (am_b (A 2 (402 * n + 300 + k) = 1)))) k m A)) res h' → am_ev d z_Model_becomes (40, [some (.ref 18), some (.int (nI n)), some (.int (nI (402 * n))), some (.int (nI k))], [.int 100, .int (nI k)], mH h σ t A) res h'
  | 0, k, A, hm, K => by
    refine ev_icmp_ge (t := 76) (q := 43) rfl rfl rfl (fun _ => ?_) (fun c1 => absurd (nI_end (b := 100) hm (by omega)) c1)
    have hc : k = 100 := hm
    subst hc
    exact K
  | m + 1, k, A, hm, K => by
    refine ev_icmp_ge (t := 76) (q := 43) rfl rfl rfl (fun c1 => absurd c1 (nI_ge (b := 100) (by omega) (by omega))) (fun _ => ?_)
    rw [sp_it] at K
    refine ev_go 1 (q := 44) rfl ?_
    refine ev_get (q := 47) rfl (mH_o hn) rfl rfl rfl ?_
    refine ev_go 2 (q := 49) rfl ?_
    refine ev_get (q := 52) rfl (mH_o hn) rfl rfl rfl ?_
    refine ev_go 5 (q := 59) (st' := .int ((_ + 300) + _) :: _ :: _ :: _ :: _) rfl ?_
    refine ev_mia (q := 60) hn rfl (by decide) rfl (by rw [show (300 : Int32) = nI 300 from rfl, nI_add, nI_add]) (show 402 * n + 300 + k < 24120 by omega) rfl ?_
    refine ev_go 1 (q := 61) (st' := .int 1 :: _ :: _ :: _ :: _) rfl ?_
    refine ev_icmp_ne (t := 68) (q := 64) rfl rfl rfl (fun zc1 => ?_) (fun zc1 => ?_)
    · refine ev_go 1 (q := 69) (st' := .int 0 :: _ :: _ :: _) rfl ?_
      refine ev_mzas (q := 70) hn rfl (by decide) rfl rfl (show k < 100 by omega) rfl ?_
      refine ev_go 4 (q := 40) (st' := .int 100 :: _ :: _) rfl ?_
      rw [am_bz zc1] at K
      rw [nI_s]
      exact l_bec2 hn hb m (k + 1) _ (by omega) K
    · refine ev_go 2 (q := 69) (st' := .int 1 :: _ :: _ :: _) rfl ?_
      refine ev_mzas (q := 70) hn rfl (by decide) rfl rfl (show k < 100 by omega) rfl ?_
      refine ev_go 4 (q := 40) (st' := .int 100 :: _ :: _) rfl ?_
      rw [am_b1 zc1] at K
      rw [nI_s]
      exact l_bec2 hn hb m (k + 1) _ (by omega) K
def ms_bec (n : Nat) (A : Nat → Nat → Int32) : Nat → Nat → Int32 := sp_it (fun k A => va_up A 1 (va_up (A 1) k (am_b (A 2 (402 * n + 300 + k) = 1)))) 0 100 (sp_it (fun k A => va_up A 0 (va_up (A 0) k (A 2 (402 * n + k)))) 0 300 A)
theorem m_becomes (hn : 43 ≤ h.1) {n : Nat} (hb : n < 60) : am_m d z_Model_becomes [.ref 18, .int (nI n)] (mH h σ t A) none (mH h (va_up (va_up σ 5 (ms_bec n A 2 (402 * n + 400))) 6 (ms_bec n A 2 (402 * n + 401))) t (ms_bec n A)) := by
  have e0 : (402 : Int32) * nI n = nI (402 * n) := by rw [show (402 : Int32) = nI 402 from rfl, pk_mul]
  refine ev_go 4 (q := 6) rfl ?_
  rw [show (Int16.ofInt 402).toInt32 * nI n = nI (402 * n) from e0]
  refine ev_go 4 (q := 12) (st' := .int 300 :: _ :: _) rfl ?_
  refine l_bec1 hn hb 300 0 A (by omega) ?_
  refine ev_go 4 (q := 40) (st' := .int 100 :: _ :: _) rfl ?_
  refine l_bec2 hn hb 100 0 _ (by omega) ?_
  refine ev_go 2 (q := 78) rfl ?_
  refine ev_get (q := 81) rfl (mH_o hn) rfl rfl rfl ?_
  refine ev_go 3 (q := 86) (st' := .int (_ + 400) :: _ :: _ :: _) rfl ?_
  refine ev_mia (q := 87) hn rfl (by decide) rfl (nI_add _ 400) (show 402 * n + 400 < 24120 by omega) rfl ?_
  refine ev_mput (q := 90) hn rfl rfl rfl (by decide) rfl (mls_5 _ _ _) rfl ?_
  refine ev_go 2 (q := 92) rfl ?_
  refine ev_get (q := 95) rfl (mH_o hn) rfl rfl rfl ?_
  refine ev_go 3 (q := 100) (st' := .int (_ + 401) :: _ :: _ :: _) rfl ?_
  refine ev_mia (q := 101) hn rfl (by decide) rfl (nI_add _ 401) (show 402 * n + 401 < 24120 by omega) rfl ?_
  refine ev_mput (q := 104) hn rfl rfl rfl (by decide) rfl (mls_6 _ _ _) rfl ?_
  exact ev_vret rfl rfl (rfl)
end M2
