/-! the reference: the box, differences, the tree -/
section M3
variable {d : Nat} {h h' : am_H} {σ : Nat → Int32} {t : Int64} {A : Nat → Nat → Int32} {res : Option Value} {R C : Nat}
def bx1 (k : Nat) (σ : Nat → Int32) : Nat → Int32 := va_up σ 32 (if σ 32 ≤ nI (k / 10) then σ 32 else nI (k / 10))
def bx2 (k : Nat) (σ : Nat → Int32) : Nat → Int32 := va_up σ 33 (if nI (k / 10) ≤ σ 33 then σ 33 else nI (k / 10))
def bx3 (k : Nat) (σ : Nat → Int32) : Nat → Int32 := va_up σ 34 (if σ 34 ≤ nI (k % 10) then σ 34 else nI (k % 10))
def bx4 (k : Nat) (σ : Nat → Int32) : Nat → Int32 := va_up σ 35 (if nI (k % 10) ≤ σ 35 then σ 35 else nI (k % 10))
def bxs (u k : Nat) (S : (Nat → Int32) × (Nat → Nat → Int32)) : (Nat → Int32) × (Nat → Nat → Int32) := (if ¬ S.2 1 k = 0 then bx4 k (bx3 k (bx2 k (bx1 k S.1))) else S.1, va_up S.2 16 (va_up (S.2 16) k (S.2 0 (100 * u + k))))
theorem t_box1 (hn : 43 ≤ h.1) {k : Nat} (hk : k < 100) (K : am_ev d z_Model_box (85, [some (.ref 18), some (.int (nI k))], [], mH h (bx1 k σ) t A) res h') : am_ev d z_Model_box (59, [some (.ref 18), some (.int (nI k))], [], mH h σ t A) res h' := by
  unfold bx1 at K
  refine ev_go 3 (q := 63) (st' := .int 10 :: _ :: _ :: _) rfl ?_
  refine ev_divn (b := 10) (q := 64) rfl rfl rfl (by decide) (by omega) (by decide) rfl ?_
  refine ev_go 1 (q := 65) rfl ?_
  refine ev_get (q := 68) rfl (mH_o hn) rfl rfl rfl ?_
  refine ev_icmp_ge (t := 78) (q := 71) rfl rfl rfl (fun zc1 => ?_) (fun zc1 => ?_)
  · refine ev_go 1 (q := 79) rfl ?_
    refine ev_get (q := 82) rfl (mH_o hn) rfl rfl rfl ?_
    refine ev_mput (q := 85) hn rfl rfl rfl (by decide) rfl (mls_32 _ _ _) rfl ?_
    rw [if_pos zc1] at K
    exact K
  · refine ev_go 2 (q := 74) (st' := .int 10 :: _ :: _ :: _) rfl ?_
    refine ev_divn (b := 10) (q := 75) rfl rfl rfl (by decide) (by omega) (by decide) rfl ?_
    refine ev_go 1 (q := 82) rfl ?_
    refine ev_mput (q := 85) hn rfl rfl rfl (by decide) rfl (mls_32 _ _ _) rfl ?_
    rw [if_neg zc1] at K
    exact K
theorem t_box2 (hn : 43 ≤ h.1) {k : Nat} (hk : k < 100) (K : am_ev d z_Model_box (111, [some (.ref 18), some (.int (nI k))], [], mH h (bx2 k σ) t A) res h') : am_ev d z_Model_box (85, [some (.ref 18), some (.int (nI k))], [], mH h σ t A) res h' := by
  unfold bx2 at K
  refine ev_go 3 (q := 89) (st' := .int 10 :: _ :: _ :: _) rfl ?_
  refine ev_divn (b := 10) (q := 90) rfl rfl rfl (by decide) (by omega) (by decide) rfl ?_
  refine ev_go 1 (q := 91) rfl ?_
  refine ev_get (q := 94) rfl (mH_o hn) rfl rfl rfl ?_
  refine ev_icmp_le (t := 104) (q := 97) rfl rfl rfl (fun zc1 => ?_) (fun zc1 => ?_)
  · refine ev_go 1 (q := 105) rfl ?_
    refine ev_get (q := 108) rfl (mH_o hn) rfl rfl rfl ?_
    refine ev_mput (q := 111) hn rfl rfl rfl (by decide) rfl (mls_33 _ _ _) rfl ?_
    rw [if_pos zc1] at K
    exact K
  · refine ev_go 2 (q := 100) (st' := .int 10 :: _ :: _ :: _) rfl ?_
    refine ev_divn (b := 10) (q := 101) rfl rfl rfl (by decide) (by omega) (by decide) rfl ?_
    refine ev_go 1 (q := 108) rfl ?_
    refine ev_mput (q := 111) hn rfl rfl rfl (by decide) rfl (mls_33 _ _ _) rfl ?_
    rw [if_neg zc1] at K
    exact K
theorem t_box3 (hn : 43 ≤ h.1) {k : Nat} (hk : k < 100) (K : am_ev d z_Model_box (137, [some (.ref 18), some (.int (nI k))], [], mH h (bx3 k σ) t A) res h') : am_ev d z_Model_box (111, [some (.ref 18), some (.int (nI k))], [], mH h σ t A) res h' := by
  unfold bx3 at K
  refine ev_go 3 (q := 115) (st' := .int 10 :: _ :: _ :: _) rfl ?_
  refine ev_remn (b := 10) (q := 116) rfl rfl rfl (by decide) (by omega) (by decide) rfl ?_
  refine ev_go 1 (q := 117) rfl ?_
  refine ev_get (q := 120) rfl (mH_o hn) rfl rfl rfl ?_
  refine ev_icmp_ge (t := 130) (q := 123) rfl rfl rfl (fun zc1 => ?_) (fun zc1 => ?_)
  · refine ev_go 1 (q := 131) rfl ?_
    refine ev_get (q := 134) rfl (mH_o hn) rfl rfl rfl ?_
    refine ev_mput (q := 137) hn rfl rfl rfl (by decide) rfl (mls_34 _ _ _) rfl ?_
    rw [if_pos zc1] at K
    exact K
  · refine ev_go 2 (q := 126) (st' := .int 10 :: _ :: _ :: _) rfl ?_
    refine ev_remn (b := 10) (q := 127) rfl rfl rfl (by decide) (by omega) (by decide) rfl ?_
    refine ev_go 1 (q := 134) rfl ?_
    refine ev_mput (q := 137) hn rfl rfl rfl (by decide) rfl (mls_34 _ _ _) rfl ?_
    rw [if_neg zc1] at K
    exact K
theorem t_box4 (hn : 43 ≤ h.1) {k : Nat} (hk : k < 100) (K : am_ev d z_Model_box (163, [some (.ref 18), some (.int (nI k))], [], mH h (bx4 k σ) t A) res h') : am_ev d z_Model_box (137, [some (.ref 18), some (.int (nI k))], [], mH h σ t A) res h' := by
  unfold bx4 at K
  refine ev_go 3 (q := 141) (st' := .int 10 :: _ :: _ :: _) rfl ?_
  refine ev_remn (b := 10) (q := 142) rfl rfl rfl (by decide) (by omega) (by decide) rfl ?_
  refine ev_go 1 (q := 143) rfl ?_
  refine ev_get (q := 146) rfl (mH_o hn) rfl rfl rfl ?_
  refine ev_icmp_le (t := 156) (q := 149) rfl rfl rfl (fun zc1 => ?_) (fun zc1 => ?_)
  · refine ev_go 1 (q := 157) rfl ?_
    refine ev_get (q := 160) rfl (mH_o hn) rfl rfl rfl ?_
    refine ev_mput (q := 163) hn rfl rfl rfl (by decide) rfl (mls_35 _ _ _) rfl ?_
    rw [if_pos zc1] at K
    exact K
  · refine ev_go 2 (q := 152) (st' := .int 10 :: _ :: _ :: _) rfl ?_
    refine ev_remn (b := 10) (q := 153) rfl rfl rfl (by decide) (by omega) (by decide) rfl ?_
    refine ev_go 1 (q := 160) rfl ?_
    refine ev_mput (q := 163) hn rfl rfl rfl (by decide) rfl (mls_35 _ _ _) rfl ?_
    rw [if_neg zc1] at K
    exact K

theorem bx_keep5 (k : Nat) (σ : Nat → Int32) : bx4 k (bx3 k (bx2 k (bx1 k σ))) 5 = σ 5 := rfl
theorem l_box (hn : 43 ≤ h.1) {u : Nat} (hu : u < 3) : ∀ (m k : Nat) (S : (Nat → Int32) × (Nat → Nat → Int32)), k + m = 100 → S.1 5 = nI u → am_ev d z_Model_box (169, [some (.ref 18), some (.int (nI 100))], [], mH h (sp_it (bxs u) k m S).1 t (sp_it (bxs u) k m S).2) res h' → am_ev d z_Model_box (27, [some (.ref 18), some (.int (nI k))], [.int 100, .int (nI k)], mH h S.1 t S.2) res h'
  | 0, k, S, hm, h5, K => by
    refine ev_icmp_ge (t := 169) (q := 30) rfl rfl rfl (fun _ => ?_) (fun c1 => absurd (nI_end (b := 100) hm (by omega)) c1)
    have hc : k = 100 := hm
    subst hc
    exact K
  | m + 1, k, S, hm, h5, K => by
    refine ev_icmp_ge (t := 169) (q := 30) rfl rfl rfl (fun c1 => absurd c1 (nI_ge (b := 100) (by omega) (by omega))) (fun _ => ?_)
    obtain ⟨σ, A⟩ := S
    dsimp only at h5 ⊢
    rw [sp_it] at K
    refine ev_go 1 (q := 31) rfl ?_
    refine ev_get (q := 34) rfl (mH_o hn) rfl rfl rfl ?_
    refine ev_go 2 (q := 36) rfl ?_
    refine ev_get (q := 39) rfl (mH_o hn) rfl rfl rfl ?_
    refine ev_go 2 (q := 42) (st' := _ :: .int 100 :: _ :: _ :: _ :: _) rfl ?_
    refine ev_get (q := 45) rfl (mH_o hn) rfl rfl rfl ?_
    refine ev_go 3 (q := 48) rfl ?_
    refine ev_mia (q := 49) hn rfl (by decide) rfl (by rw [h5]; exact mx_ix _ _) (show 100 * u + k < 300 by omega) rfl ?_
    refine ev_mias (q := 50) hn rfl (by decide) rfl rfl (show k < 100 by omega) rfl ?_
    refine ev_go 1 (q := 51) rfl ?_
    refine ev_get (q := 54) rfl (mH_o hn) rfl rfl rfl ?_
    refine ev_go 1 (q := 55) rfl ?_
    refine ev_mza (q := 56) hn rfl (by decide) rfl rfl (show k < 100 by omega) rfl ?_
    refine ev_if_eq (t := 163) (q := 59) rfl rfl rfl (fun zc1 => ?_) (fun zc1 => ?_)
    · rw [show bxs u k (σ, A) = (σ, va_up A 16 (va_up (A 16) k (A 0 (100 * u + k)))) by unfold bxs; rw [if_neg (fun q => q zc1)]] at K
      refine ev_go 2 (q := 24) rfl ?_
      rw [nI_s]
      refine ev_go 2 (q := 27) (st' := .int 100 :: _) rfl ?_
      exact l_box hn hu m (k + 1) (_, _) (by omega) h5 K
    · have zc9 : ¬ A 1 k = 0 := zc1
      rw [show bxs u k (σ, A) = (bx4 k (bx3 k (bx2 k (bx1 k σ))), va_up A 16 (va_up (A 16) k (A 0 (100 * u + k)))) by unfold bxs; rw [if_pos zc9]] at K
      refine t_box1 hn (by omega) (t_box2 hn (by omega) (t_box3 hn (by omega) (t_box4 hn (by omega) ?_)))
      refine ev_go 2 (q := 24) rfl ?_
      rw [nI_s]
      refine ev_go 2 (q := 27) (st' := .int 100 :: _) rfl ?_
      exact l_box hn hu m (k + 1) (bx4 k (bx3 k (bx2 k (bx1 k σ))), va_up A 16 (va_up (A 16) k (A 0 (100 * u + k)))) (by omega) ((bx_keep5 k σ).trans h5) K
def ms_box (u : Nat) (σ : Nat → Int32) (A : Nat → Nat → Int32) : (Nat → Int32) × (Nat → Nat → Int32) := sp_it (bxs u) 0 100 (va_up (va_up (va_up (va_up σ 32 99) 34 99) 33 (-1)) 35 (-1), A)
theorem m_box (hn : 43 ≤ h.1) {u : Nat} (hu : u < 3) (h5 : σ 5 = nI u) : am_m d z_Model_box [.ref 18] (mH h σ t A) none (mH h (ms_box u σ A).1 t (ms_box u σ A).2) := by
  refine ev_go 2 (q := 3) (st' := .int 99 :: _ :: _) rfl ?_
  refine ev_mput (q := 6) hn rfl rfl rfl (by decide) rfl (mls_32 _ _ _) rfl ?_
  refine ev_go 2 (q := 9) (st' := .int 99 :: _ :: _) rfl ?_
  refine ev_mput (q := 12) hn rfl rfl rfl (by decide) rfl (mls_34 _ _ _) rfl ?_
  refine ev_go 2 (q := 14) (st' := .int (-1) :: _ :: _) rfl ?_
  refine ev_mput (q := 17) hn rfl rfl rfl (by decide) rfl (mls_33 _ _ _) rfl ?_
  refine ev_go 2 (q := 19) (st' := .int (-1) :: _ :: _) rfl ?_
  refine ev_mput (q := 22) hn rfl rfl rfl (by decide) rfl (mls_35 _ _ _) rfl ?_
  refine ev_go 4 (q := 27) (st' := .int 100 :: _ :: _) rfl ?_
  refine l_box hn hu 100 0 (va_up (va_up (va_up (va_up σ 32 99) 34 99) 33 (-1)) 35 (-1), A) (by omega) h5 ?_
  exact ev_vret rfl rfl (rfl)
def md_b (A : Nat → Nat → Int32) (n o k l : Nat) : Int32 := am_b (¬ A 2 (402 * n + 100 * l + k) = A 2 (402 * o + 100 * l + k))
def md_x (A : Nat → Nat → Int32) (n o k : Nat) : Int32 := ((0 ||| md_b A n o k 0) ||| md_b A n o k 1) ||| md_b A n o k 2
theorem kx_ix (n l k : Nat) : 402 * nI n + 100 * nI l + nI k = nI (402 * n + 100 * l + k) := by
  rw [show (402 : Int32) = nI 402 from rfl, show (100 : Int32) = nI 100 from rfl, pk_mul, pk_mul, nI_add, nI_add]
theorem t_dif (hn : 43 ≤ h.1) {n o k l : Nat} {x y : Int32} (h1 : n < 60) (h2 : o < 60) (hk : k < 100) (hl : l < 3) (K : am_ev d z_Model_differ (18, [some (.ref 18), some (.int (nI n)), some (.int (nI o)), some (.int x), some (.int (nI k)), some (.int (y ||| md_b A n o k l)), some (.int (nI (l + 1)))], [], mH h σ t A) res h') : am_ev d z_Model_differ (18, [some (.ref 18), some (.int (nI n)), some (.int (nI o)), some (.int x), some (.int (nI k)), some (.int y), some (.int (nI l))], [], mH h σ t A) res h' := by
  unfold md_b at K
  refine ev_go 2 (q := 21) (st' := .int 3 :: _ :: _) rfl ?_
  refine ev_icmp_ge (t := 81) (q := 24) rfl rfl rfl (fun c => absurd c (nI_ge (b := 3) hl (by decide))) (fun zc1 => ?_)
  refine ev_go 2 (q := 27) rfl ?_
  refine ev_get (q := 30) rfl (mH_o hn) rfl rfl rfl ?_
  refine ev_go 9 (q := 44) (st' := .int (((402 * _) + (100 * _)) + _) :: _ :: _ :: _) rfl ?_
  refine ev_mia (q := 45) hn rfl (by decide) rfl (kx_ix _ _ _) (show 402 * n + 100 * l + k < 24120 by omega) rfl ?_
  refine ev_go 1 (q := 46) rfl ?_
  refine ev_get (q := 49) rfl (mH_o hn) rfl rfl rfl ?_
  refine ev_go 9 (q := 63) (st' := .int (((402 * _) + (100 * _)) + _) :: _ :: _ :: _ :: _) rfl ?_
  refine ev_mia (q := 64) hn rfl (by decide) rfl (kx_ix _ _ _) (show 402 * o + 100 * l + k < 24120 by omega) rfl ?_
  refine ev_icmp_eq (t := 71) (q := 67) rfl rfl rfl (fun zc2 => ?_) (fun zc2 => ?_)
  · refine ev_go 5 (q := 18) rfl ?_
    rw [am_bz (fun q => q zc2)] at K
    rw [nI_s]
    exact K
  · refine ev_go 6 (q := 18) rfl ?_
    rw [am_b1 zc2] at K
    rw [nI_s]
    exact K
theorem l_dif (hn : 43 ≤ h.1) {n o : Nat} (h1 : n < 60) (h2 : o < 60) : ∀ (m k : Nat) (X : Int32) (e5 : Option Value) (e6 : Option Value), k + m = 100 → (∀ e5 e6 : Option Value, am_ev d z_Model_differ (100, [some (.ref 18), some (.int (nI n)), some (.int (nI o)), some (.int (sp_it (fun k (x : Int32) => x + am_b (¬ md_x A n o k = 0)) k m X)), some (.int (nI 100)), e5, e6], [], mH h σ t A) res h') → am_ev d z_Model_differ (9, [some (.ref 18), some (.int (nI n)), some (.int (nI o)), some (.int X), some (.int (nI k)), e5, e6], [.int 100, .int (nI k)], mH h σ t A) res h'
  | 0, k, X, e5, e6, hm, K => by
    refine ev_icmp_ge (t := 100) (q := 12) rfl rfl rfl (fun _ => ?_) (fun c1 => absurd (nI_end (b := 100) hm (by omega)) c1)
    have hc : k = 100 := hm
    subst hc
    exact K e5 e6
  | m + 1, k, X, e5, e6, hm, K => by
    refine ev_icmp_ge (t := 100) (q := 12) rfl rfl rfl (fun c1 => absurd c1 (nI_ge (b := 100) (by omega) (by omega))) (fun _ => ?_)
    simp only [sp_it] at K
    refine ev_go 4 (q := 18) rfl ?_
    rw [show Int32.ofInt 0 = nI 0 from rfl]
    refine t_dif (x := X) (y := 0) hn h1 h2 (by omega) (by omega) (t_dif hn h1 h2 (by omega) (by omega) (t_dif hn h1 h2 (by omega) (by omega) ?_))
    refine ev_go 2 (q := 21) (st' := .int 3 :: _) rfl ?_
    refine ev_icmp_ge (t := 81) (q := 24) rfl rfl rfl (fun _ => ?_) (fun c => absurd (by decide) c)
    refine ev_go 2 (q := 84) (st' := .int (md_x A n o k) :: _) rfl ?_
    refine ev_if_eq (t := 91) (q := 87) rfl rfl rfl (fun zc1 => ?_) (fun zc1 => ?_)
    · refine ev_go 4 (q := 97) rfl ?_
      rw [nI_s]
      refine ev_go 3 (q := 9) (st' := .int 100 :: _) rfl ?_
      refine l_dif hn h1 h2 m (k + 1) _ _ _ (by omega) (fun e5 e6 => ?_)
      have K1 := K e5 e6
      rw [am_bz (fun q => q zc1)] at K1
      exact K1
    · refine ev_go 5 (q := 97) rfl ?_
      rw [nI_s]
      refine ev_go 3 (q := 9) (st' := .int 100 :: _) rfl ?_
      refine l_dif hn h1 h2 m (k + 1) _ _ _ (by omega) (fun e5 e6 => ?_)
      have K1 := K e5 e6
      rw [am_b1 zc1] at K1
      exact K1
def md_n (A : Nat → Nat → Int32) (n o : Nat) : Int32 := sp_it (fun k (x : Int32) => x + am_b (¬ md_x A n o k = 0)) 0 100 0
theorem m_differ (hn : 43 ≤ h.1) {n o : Nat} (h1 : n < 60) (h2 : o < 60) : am_m d z_Model_differ [.ref 18, .int (nI n), .int (nI o)] (mH h σ t A) (some (.int (md_n A n o))) (mH h σ t A) := by
  refine ev_go 6 (q := 9) (st' := .int 100 :: _ :: _) rfl ?_
  refine l_dif hn h1 h2 100 0 0 _ _ (by omega) (fun e5 e6 => ?_)
  refine ev_go 1 (q := 101) rfl ?_
  exact ev_iret rfl rfl (rfl) (rfl)
def mu_s (A : Nat → Nat → Int32) (x : Int32) (k : Nat) (S : Int32 × Int32) : Int32 × Int32 := if ¬ A 4 k = 0 ∧ A 3 k = x then (S.1 + 1, nI k) else S
theorem l_und (hn : 43 ≤ h.1) {x b : Int32} {n : Nat} (h10 : σ 10 = nI n) (hb : n ≤ 60) : ∀ (m k : Nat) (S : Int32 × Int32), k + m = n → am_ev d z_Model_under (52, [some (.ref 18), some (.int x), some (.int b), some (.int (sp_it (mu_s A x) k m S).1), some (.int (sp_it (mu_s A x) k m S).2), some (.int (nI n))], [], mH h σ t A) res h' → am_ev d z_Model_under (15, [some (.ref 18), some (.int x), some (.int b), some (.int S.1), some (.int S.2), some (.int (nI k))], [.int (nI n), .int (nI k)], mH h σ t A) res h'
  | 0, k, S, hm, K => by
    refine ev_icmp_ge (t := 52) (q := 18) rfl rfl rfl (fun _ => ?_) (fun c1 => absurd (nI_end (b := n) hm (by omega)) c1)
    have hc : k = n := hm
    subst hc
    exact K
  | m + 1, k, S, hm, K => by
    refine ev_icmp_ge (t := 52) (q := 18) rfl rfl rfl (fun c1 => absurd c1 (nI_ge (b := n) (by omega) (by omega))) (fun _ => ?_)
    rw [sp_it] at K
    refine ev_go 1 (q := 19) rfl ?_
    refine ev_get (q := 22) rfl (mH_o hn) rfl rfl rfl ?_
    refine ev_go 1 (q := 24) rfl ?_
    refine ev_mza (q := 25) hn rfl (by decide) rfl rfl (show k < 60 by omega) rfl ?_
    refine ev_if_eq (t := 46) (q := 28) rfl rfl rfl (fun zc1 => ?_) (fun zc1 => ?_)
    · refine ev_go 1 (q := 49) rfl ?_
      unfold mu_s at K
      rw [if_neg (fun q => q.1 zc1)] at K
      rw [nI_s]
      refine ev_go 3 (q := 12) rfl ?_
      refine ev_get (q := 15) rfl (mH_o hn) rfl rfl rfl ?_
      rw [h10]
      exact l_und hn h10 hb m (k + 1) S (by omega) K
    · refine ev_go 1 (q := 29) rfl ?_
      refine ev_get (q := 32) rfl (mH_o hn) rfl rfl rfl ?_
      refine ev_go 1 (q := 34) rfl ?_
      refine ev_mia (q := 35) hn rfl (by decide) rfl rfl (show k < 60 by omega) rfl ?_
      refine ev_go 1 (q := 36) rfl ?_
      refine ev_icmp_ne (t := 46) (q := 39) rfl rfl rfl (fun zc2 => ?_) (fun zc2 => ?_)
      · refine ev_go 1 (q := 49) rfl ?_
        unfold mu_s at K
        rw [if_neg (fun q => zc2 q.2)] at K
        rw [nI_s]
        refine ev_go 3 (q := 12) rfl ?_
        refine ev_get (q := 15) rfl (mH_o hn) rfl rfl rfl ?_
        rw [h10]
        exact l_und hn h10 hb m (k + 1) S (by omega) K
      · refine ev_go 4 (q := 49) rfl ?_
        unfold mu_s at K
        rw [if_pos ⟨zc1, zc2⟩] at K
        rw [nI_s]
        refine ev_go 3 (q := 12) rfl ?_
        refine ev_get (q := 15) rfl (mH_o hn) rfl rfl rfl ?_
        rw [h10]
        exact l_und hn h10 hb m (k + 1) (S.1 + 1, nI k) (by omega) K
def mu_n (A : Nat → Nat → Int32) (x : Int32) (n : Nat) : Int32 × Int32 := sp_it (mu_s A x) 0 n (0, -9)
theorem m_under (hn : 43 ≤ h.1) {x b : Int32} {n : Nat} (h10 : σ 10 = nI n) (hb : n ≤ 60) : am_m d z_Model_under [.ref 18, .int x, .int b] (mH h σ t A) (some (.int (if b = 0 then (mu_n A x n).2 else (mu_n A x n).1))) (mH h σ t A) := by
  refine ev_go 8 (q := 12) rfl ?_
  refine ev_get (q := 15) rfl (mH_o hn) rfl rfl rfl ?_
  rw [h10]
  refine l_und hn h10 hb n 0 (0, -9) (by omega) ?_
  refine ev_go 1 (q := 53) rfl ?_
  refine ev_if_eq (t := 60) (q := 56) rfl rfl rfl (fun zc1 => ?_) (fun zc1 => ?_)
  · refine ev_go 1 (q := 62) rfl ?_
    exact ev_iret rfl rfl (by rw [if_pos zc1]; rfl) (rfl)
  · refine ev_go 2 (q := 62) rfl ?_
    exact ev_iret rfl rfl (by rw [if_neg zc1]; rfl) (rfl)
def md_deep (a : Nat → Int32) : Nat → Nat → Nat
  | 0, _ => 0
  | f + 1, k => if a k = -9 then 0 else md_deep a f (a k).toNatClampNeg + 1
def md_wf (a : Nat → Int32) (n : Nat) : Prop := ∀ k, k < n → a k = -9 ∨ ∃ p, p < k ∧ a k = nI p
theorem md_deep_le (a : Nat → Int32) : ∀ f k, md_deep a f k ≤ f
  | 0, _ => Nat.le_refl _
  | f + 1, k => by
    unfold md_deep
    split
    · omega
    · have := md_deep_le a f (a k).toNatClampNeg
      omega
theorem l_deepOf (hn : 43 ≤ h.1) {x : Int32} {n : Nat} (hb : n ≤ 60) (hw : md_wf (A 3) n) : ∀ (f k c : Nat), k < n → k < f → (∀ e, am_ev d z_Model_deepOf (28, [some (.ref 18), some (.int x), some (.int (nI (c + md_deep (A 3) f k))), e], [], mH h σ t A) res h') → am_ev d z_Model_deepOf (4, [some (.ref 18), some (.int x), some (.int (nI c)), some (.int (nI k))], [], mH h σ t A) res h'
  | 0, k, c, hk, hf, K => absurd hf (by omega)
  | f + 1, k, c, hk, hf, K => by
    refine ev_go 1 (q := 5) rfl ?_
    refine ev_get (q := 8) rfl (mH_o hn) rfl rfl rfl ?_
    refine ev_go 1 (q := 9) rfl ?_
    refine ev_mia (q := 10) hn rfl (by decide) rfl rfl (show k < 60 by omega) rfl ?_
    refine ev_go 1 (q := 12) (st' := .int (-9) :: _ :: _) rfl ?_
    refine ev_icmp_eq (t := 28) (q := 15) rfl rfl rfl (fun zc1 => ?_) (fun zc1 => ?_)
    · have K1 := K (some (.int (nI k)))
      unfold md_deep at K1
      rw [if_pos zc1] at K1
      exact K1
    · refine ev_go 2 (q := 19) rfl ?_
      refine ev_get (q := 22) rfl (mH_o hn) rfl rfl rfl ?_
      refine ev_go 1 (q := 23) rfl ?_
      refine ev_mia (q := 24) hn rfl (by decide) rfl rfl (show k < 60 by omega) rfl ?_
      refine ev_go 2 (q := 4) rfl ?_
      rcases hw k hk with q | ⟨p, hp, hq⟩
      · exact absurd q zc1
      · rw [nI_s]
        rw [hq]
        refine l_deepOf hn hb hw f p (c + 1) (by omega) (by omega) (fun e => ?_)
        have K1 := K e
        unfold md_deep at K1
        rw [if_neg zc1, hq, nI_clamp (by omega), ← Nat.add_assoc, Nat.add_right_comm] at K1
        exact K1
theorem m_deepOf (hn : 43 ≤ h.1) {n k : Nat} (hb : n ≤ 60) (hw : md_wf (A 3) n) (hk : k < n) : am_m d z_Model_deepOf [.ref 18, .int (nI k)] (mH h σ t A) (some (.int (nI (md_deep (A 3) (k + 1) k)))) (mH h σ t A) := by
  refine ev_go 4 (q := 4) rfl ?_
  rw [show Int32.ofInt 0 = nI 0 from rfl]
  refine l_deepOf hn hb hw (k + 1) k 0 hk (by omega) (fun e => ?_)
  rw [Nat.zero_add]
  refine ev_go 1 (q := 29) rfl ?_
  exact ev_iret rfl rfl (rfl) (rfl)
theorem m_isNode (hn : 43 ≤ h.1) (hd : 0 < d) {x : Int32} {n : Nat} (h10 : σ 10 = nI n) (hb : 1 ≤ n ∧ n ≤ 60) : am_m d z_Model_isNode [.ref 18, .int x] (mH h σ t A) (some (.int (am_b ((0 ≤ x ∧ x < nI n) ∧ ¬ A 4 x.toNatClampNeg = 0)))) (mH h σ t A) := by
  have hx : (0 ≤ x ∧ x ≤ σ 10 - 1) ↔ (0 ≤ x ∧ x < nI n) := by
    rw [h10, show nI n - 1 = nI (n - 1) by rw [show (1 : Int32) = nI 1 from rfl, pk_sub hb.1]]
    simp only [Int32.lt_iff_toInt_lt, Int32.le_iff_toInt_le, nI_toInt (show n < 2 ^ 31 by omega), nI_toInt (show n - 1 < 2 ^ 31 by omega)]
    omega
  refine ev_go 3 (q := 3) (st' := _ :: .int 0 :: _ :: _) rfl ?_
  refine ev_get (q := 6) rfl (mH_o hn) rfl rfl rfl ?_
  refine ev_go 2 (q := 8) (st' := .int (_ - 1) :: _ :: _ :: _) rfl ?_
  refine ev_static (z' := z_Model_in) (q := 11) rfl rfl (by decide) rfl rfl (by simp [Value.category]) rfl (by omega) (k_in _ _ _) ?_
  refine ev_if_eq (t := 27) (q := 14) rfl rfl rfl (fun zc1 => ?_) (fun zc1 => ?_)
  · refine ev_go 1 (q := 28) (st' := .int 0 :: _) rfl ?_
    exact ev_zret rfl rfl (by first | exact Or.inl rfl | exact Or.inr rfl | assumption) (am_bz (fun q => am_b0.mp zc1 (hx.mpr q.1))).symm (rfl)
  · refine ev_go 1 (q := 15) rfl ?_
    refine ev_get (q := 18) rfl (mH_o hn) rfl rfl rfl ?_
    obtain ⟨j, hj, rfl⟩ := nI_of (x := x) (Int32.not_lt.mpr (am_bn.mp zc1).1)
    have hjn : j < n := (nI_ltI hj (by omega)).mp (hx.mp (am_bn.mp zc1)).2
    refine ev_go 1 (q := 19) rfl ?_
    refine ev_mza (q := 20) hn rfl (by decide) rfl rfl (show j < 60 by omega) rfl ?_
    refine ev_if_eq (t := 27) (q := 23) rfl rfl rfl (fun zc2 => ?_) (fun zc2 => ?_)
    · refine ev_go 1 (q := 28) (st' := .int 0 :: _) rfl ?_
      exact ev_zret rfl rfl (by first | exact Or.inl rfl | exact Or.inr rfl | assumption) (am_bz (fun q => q.2 (by rw [nI_clamp hj]; exact zc2))).symm (rfl)
    · refine ev_go 2 (q := 28) (st' := .int 1 :: _) rfl ?_
      exact ev_zret rfl rfl (by first | exact Or.inl rfl | exact Or.inr rfl | assumption) (am_b1 ⟨hx.mp (am_bn.mp zc1), by rw [nI_clamp hj]; exact zc2⟩).symm (rfl)
end M3
