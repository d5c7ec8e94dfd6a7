/-! the reference: the steps of its plays -/
section M14
variable {d : Nat} {h h' : am_H} {σ : Nat → Int32} {t : Int64} {A : Nat → Nat → Int32} {res : Option Value} {R C u : Nat}
/-- the layer that is in use as a part is called -/
def pl_σ (k m : Nat) (σ : Nat → Int32) (A : Nat → Nat → Int32) : Nat → Int32 := if A 20 k = 0 ∧ A 8 m = 3 then va_up σ 5 (A 22 k) else σ
theorem pl_far (k m : Nat) (σ : Nat → Int32) (A : Nat → Nat → Int32) {j : Nat} (hj : j ≠ 5) : pl_σ k m σ A j = σ j := by
  unfold pl_σ
  split
  · exact va_up_ne _ _ hj
  · rfl
theorem t_pl0 (hn : 43 ≤ h.1) {x0 cn : Int32} {k m : Nat} {e3 e4 e5 e6 : Option Value} (h43 : σ 43 = nI (k + 1)) (hk : k < 20) (hpl : A 19 k = nI m) (hm : m < 20) (K : am_ev d z_Model_plays (34, [some (.ref 18), some (.int x0), some (.int cn), some (.int (nI k)), some (.int (nI m)), e5, e6], [], mH h σ t A) res h') : am_ev d z_Model_plays (12, [some (.ref 18), some (.int x0), some (.int cn), e3, e4, e5, e6], [], mH h σ t A) res h' := by
  refine ev_go 1 (q := 13) rfl ?_
  refine ev_get (q := 16) rfl (mH_o hn) rfl rfl rfl ?_
  rw [h43]
  refine ev_if_le (t := 309) (q := 19) rfl rfl rfl (fun c => absurd c (nI_nle (by omega) (by omega))) (fun zc1 => ?_)
  refine ev_go 1 (q := 20) rfl ?_
  refine ev_get (q := 23) rfl (mH_o hn) rfl rfl rfl ?_
  rw [h43]
  refine ev_go 2 (q := 25) (st' := .int (_ - 1) :: _) rfl ?_
  rw [show nI (k + 1) - 1 = nI k from nI_pred k]
  refine ev_go 2 (q := 27) rfl ?_
  refine ev_get (q := 30) rfl (mH_o hn) rfl rfl rfl ?_
  refine ev_go 1 (q := 31) rfl ?_
  refine ev_mia (q := 32) hn rfl (by decide) rfl rfl (show k < 20 by omega) rfl ?_
  rw [hpl]
  refine ev_go 1 (q := 34) rfl ?_
  exact K
theorem t_plE (hn : 43 ≤ h.1) {x0 cn : Int32} {e3 e4 e5 e6 : Option Value} (h43 : σ 43 = nI 0) : am_ev d z_Model_plays (12, [some (.ref 18), some (.int x0), some (.int cn), e3, e4, e5, e6], [], mH h σ t A) (some (.int 0)) (mH h σ t A) := by
  refine ev_go 1 (q := 13) rfl ?_
  refine ev_get (q := 16) rfl (mH_o hn) rfl rfl rfl ?_
  rw [h43]
  refine ev_if_le (t := 309) (q := 19) rfl rfl rfl (fun zc1 => ?_) (fun c => absurd (by decide) c)
  refine ev_go 1 (q := 310) (st' := .int 0 :: _) rfl ?_
  exact ev_iret rfl rfl (rfl) (rfl)
theorem t_pl1 (hn : 43 ≤ h.1) {x0 cn : Int32} {k m : Nat} {e3 e4 e5 e6 : Option Value} (h43 : σ 43 = nI (k + 1)) (hk : k < 20) (hpl : A 19 k = nI m) (hm : m < 20) (h21 : A 21 k = 0) (K : am_ev d z_Model_plays (12, [some (.ref 18), some (.int x0), some (.int cn), some (.int (nI k)), some (.int (nI m)), e5, e6], [], mH h (va_up (va_up σ 5 (if A 8 m = 3 then A 23 k else σ 5)) 43 (nI k)) t A) res h') : am_ev d z_Model_plays (12, [some (.ref 18), some (.int x0), some (.int cn), e3, e4, e5, e6], [], mH h σ t A) res h' := by
  refine t_pl0 hn h43 hk hpl hm ?_
  refine ev_go 1 (q := 35) rfl ?_
  refine ev_get (q := 38) rfl (mH_o hn) rfl rfl rfl ?_
  refine ev_go 1 (q := 39) rfl ?_
  refine ev_mia (q := 40) hn rfl (by decide) rfl rfl (show k < 20 by omega) rfl ?_
  refine ev_if_ne (t := 84) (q := 43) rfl rfl rfl (fun c => absurd h21 c) (fun zc1 => ?_)
  refine ev_go 2 (q := 45) rfl ?_
  refine ev_get (q := 48) rfl (mH_o hn) rfl rfl rfl ?_
  refine ev_go 1 (q := 50) rfl ?_
  refine ev_mia (q := 51) hn rfl (by decide) rfl rfl (show m < 20 by omega) rfl ?_
  refine ev_go 1 (q := 52) (st' := .int 3 :: _ :: _ :: _) rfl ?_
  refine ev_icmp_ne (t := 64) (q := 55) rfl rfl rfl (fun zc2 => ?_) (fun zc2 => ?_)
  · refine ev_go 1 (q := 65) rfl ?_
    refine ev_get (q := 68) rfl (mH_o hn) rfl rfl rfl ?_
    refine ev_mput (j := 5) (q := 71) hn rfl rfl rfl (by decide) rfl (mls_5 _ _ _) rfl ?_
    refine ev_go 2 (q := 73) rfl ?_
    refine ev_get (q := 76) rfl (mH_o hn) rfl rfl rfl ?_
    refine ev_tp (y := nI (k + 1)) h43 ?_
    refine ev_go 2 (q := 78) (st' := .int (_ - 1) :: _ :: _) rfl ?_
    rw [show nI (k + 1) - 1 = nI k from nI_pred k]
    refine ev_mput (j := 43) (q := 81) hn rfl rfl rfl (by decide) rfl (mls_43 _ _ _) rfl ?_
    refine ev_go 2 (q := 12) rfl ?_
    rw [if_neg zc2] at K
    exact K
  · refine ev_go 1 (q := 56) rfl ?_
    refine ev_get (q := 59) rfl (mH_o hn) rfl rfl rfl ?_
    refine ev_go 1 (q := 60) rfl ?_
    refine ev_mia (q := 61) hn rfl (by decide) rfl rfl (show k < 20 by omega) rfl ?_
    refine ev_go 1 (q := 68) rfl ?_
    refine ev_mput (j := 5) (q := 71) hn rfl rfl rfl (by decide) rfl (mls_5 _ _ _) rfl ?_
    refine ev_go 2 (q := 73) rfl ?_
    refine ev_get (q := 76) rfl (mH_o hn) rfl rfl rfl ?_
    refine ev_tp (y := nI (k + 1)) h43 ?_
    refine ev_go 2 (q := 78) (st' := .int (_ - 1) :: _ :: _) rfl ?_
    rw [show nI (k + 1) - 1 = nI k from nI_pred k]
    refine ev_mput (j := 43) (q := 81) hn rfl rfl rfl (by decide) rfl (mls_43 _ _ _) rfl ?_
    refine ev_go 2 (q := 12) rfl ?_
    rw [if_pos zc2] at K
    exact K
theorem t_pl2 (hn : 43 ≤ h.1) {x0 cn : Int32} {k m : Nat} {e3 e4 e5 e6 : Option Value} (h43 : σ 43 = nI (k + 1)) (hk : k < 20) (hpl : A 19 k = nI m) (hm : m < 20) (h21 : ¬ A 21 k = 0) (K : am_ev d z_Model_plays (114, [some (.ref 18), some (.int x0), some (.int cn), some (.int (nI k)), some (.int (nI m)), e5, e6], [], mH h (pl_σ k m σ A) t A) res h') : am_ev d z_Model_plays (12, [some (.ref 18), some (.int x0), some (.int cn), e3, e4, e5, e6], [], mH h σ t A) res h' := by
  refine t_pl0 hn h43 hk hpl hm ?_
  refine ev_go 1 (q := 35) rfl ?_
  refine ev_get (q := 38) rfl (mH_o hn) rfl rfl rfl ?_
  refine ev_go 1 (q := 39) rfl ?_
  refine ev_mia (q := 40) hn rfl (by decide) rfl rfl (show k < 20 by omega) rfl ?_
  refine ev_if_ne (t := 84) (q := 43) rfl rfl rfl (fun zc1 => ?_) (fun c => absurd c h21)
  refine ev_go 1 (q := 85) rfl ?_
  refine ev_get (q := 88) rfl (mH_o hn) rfl rfl rfl ?_
  refine ev_go 1 (q := 89) rfl ?_
  refine ev_mia (q := 90) hn rfl (by decide) rfl rfl (show k < 20 by omega) rfl ?_
  refine ev_if_ne (t := 114) (q := 93) rfl rfl rfl (fun zc2 => ?_) (fun zc2 => ?_)
  · rw [show pl_σ k m σ A = σ from if_neg (fun q => zc2 q.1)] at K
    exact K
  · refine ev_go 1 (q := 94) rfl ?_
    refine ev_get (q := 97) rfl (mH_o hn) rfl rfl rfl ?_
    refine ev_go 1 (q := 99) rfl ?_
    refine ev_mia (q := 100) hn rfl (by decide) rfl rfl (show m < 20 by omega) rfl ?_
    refine ev_go 1 (q := 101) (st' := .int 3 :: _ :: _) rfl ?_
    refine ev_icmp_ne (t := 114) (q := 104) rfl rfl rfl (fun zc3 => ?_) (fun zc3 => ?_)
    · rw [show pl_σ k m σ A = σ from if_neg (fun q => zc3 q.2)] at K
      exact K
    · refine ev_go 2 (q := 106) rfl ?_
      refine ev_get (q := 109) rfl (mH_o hn) rfl rfl rfl ?_
      refine ev_go 1 (q := 110) rfl ?_
      refine ev_mia (q := 111) hn rfl (by decide) rfl rfl (show k < 20 by omega) rfl ?_
      refine ev_mput (j := 5) (q := 114) hn rfl rfl rfl (by decide) rfl (mls_5 _ _ _) rfl ?_
      rw [show pl_σ k m σ A = va_up σ 5 (A 22 k) from if_pos ⟨zc2, zc3⟩] at K
      exact K
def pl_nx (k : Nat) (A : Nat → Nat → Int32) : Nat → Nat → Int32 := va_up (va_up (va_up A 21 (va_up (A 21) k (A 21 k - 1))) 22 (va_up (A 22) k (A 22 k + 1))) 20 (va_up (A 20) k 0)
theorem t_plN (hn : 43 ≤ h.1) {x0 cn : Int32} {k m : Nat} {e3 e4 e5 e6 : Option Value} (h43 : σ 43 = nI (k + 1)) (hk : k < 20) (hpl : A 19 k = nI m) (hm : m < 20) (h21 : ¬ A 21 k = 0) (h20 : A 20 k = A 12 m) (K : am_ev d z_Model_plays (12, [some (.ref 18), some (.int x0), some (.int cn), some (.int (nI k)), some (.int (nI m)), e5, e6], [], mH h (pl_σ k m σ A) t (pl_nx k A)) res h') : am_ev d z_Model_plays (12, [some (.ref 18), some (.int x0), some (.int cn), e3, e4, e5, e6], [], mH h σ t A) res h' := by
  refine t_pl2 hn h43 hk hpl hm h21 ?_
  refine ev_go 1 (q := 115) rfl ?_
  refine ev_get (q := 118) rfl (mH_o hn) rfl rfl rfl ?_
  refine ev_go 1 (q := 119) rfl ?_
  refine ev_mia (q := 120) hn rfl (by decide) rfl rfl (show k < 20 by omega) rfl ?_
  refine ev_go 1 (q := 121) rfl ?_
  refine ev_get (q := 124) rfl (mH_o hn) rfl rfl rfl ?_
  refine ev_go 1 (q := 126) rfl ?_
  refine ev_mia (q := 127) hn rfl (by decide) rfl rfl (show m < 20 by omega) rfl ?_
  refine ev_icmp_ne (t := 160) (q := 130) rfl rfl rfl (fun c => absurd h20 c) (fun zc1 => ?_)
  refine ev_go 1 (q := 131) rfl ?_
  refine ev_get (q := 134) rfl (mH_o hn) rfl rfl rfl ?_
  refine ev_go 2 (q := 136) rfl ?_
  refine ev_mia (q := 137) hn rfl (by decide) rfl rfl (show k < 20 by omega) rfl ?_
  refine ev_go 2 (q := 139) (st' := .int (_ - 1) :: _ :: _ :: _) rfl ?_
  refine ev_mias (q := 140) hn rfl (by decide) rfl rfl (show k < 20 by omega) rfl ?_
  refine ev_go 1 (q := 141) rfl ?_
  refine ev_get (q := 144) rfl (mH_o hn) rfl rfl rfl ?_
  refine ev_go 2 (q := 146) rfl ?_
  refine ev_mia (q := 147) hn rfl (by decide) rfl rfl (show k < 20 by omega) rfl ?_
  refine ev_go 2 (q := 149) (st' := .int (_ + 1) :: _ :: _ :: _) rfl ?_
  refine ev_mias (q := 150) hn rfl (by decide) rfl rfl (show k < 20 by omega) rfl ?_
  refine ev_go 1 (q := 151) rfl ?_
  refine ev_get (q := 154) rfl (mH_o hn) rfl rfl rfl ?_
  refine ev_go 2 (q := 156) (st' := .int 0 :: _ :: _ :: _) rfl ?_
  refine ev_mias (q := 157) hn rfl (by decide) rfl rfl (show k < 20 by omega) rfl ?_
  refine ev_go 2 (q := 12) rfl ?_
  exact K
def pl_at (k i : Nat) (A : Nat → Nat → Int32) : Nat → Nat → Int32 := va_up A 20 (va_up (A 20) k (nI (i + 1)))
theorem t_plP (hn : 43 ≤ h.1) {x0 : Int32} {k m : Nat} {e3 e4 e5 e6 : Option Value} (h43 : σ 43 = nI (k + 1)) (hk : k < 20) (hpl : A 19 k = nI m) (hm : m < 20)  (h21 : ¬ A 21 k = 0) {i c : Nat} (h20 : A 20 k = nI i) (hi : i < 8) (hne : ¬ A 20 k = A 12 m) (K : am_ev d z_Model_plays (187, [some (.ref 18), some (.int x0), some (.int (nI (c + 1))), some (.int (nI k)), some (.int (nI m)), some (.int (nI (8 * m + i))), e6], [], mH h (pl_σ k m σ A) t (pl_at k i A)) res h') : am_ev d z_Model_plays (12, [some (.ref 18), some (.int x0), some (.int (nI c)), e3, e4, e5, e6], [], mH h σ t A) res h' := by
  refine t_pl2 hn h43 hk hpl hm h21 ?_
  refine ev_go 1 (q := 115) rfl ?_
  refine ev_get (q := 118) rfl (mH_o hn) rfl rfl rfl ?_
  refine ev_go 1 (q := 119) rfl ?_
  refine ev_mia (q := 120) hn rfl (by decide) rfl rfl (show k < 20 by omega) rfl ?_
  refine ev_go 1 (q := 121) rfl ?_
  refine ev_get (q := 124) rfl (mH_o hn) rfl rfl rfl ?_
  refine ev_go 1 (q := 126) rfl ?_
  refine ev_mia (q := 127) hn rfl (by decide) rfl rfl (show m < 20 by omega) rfl ?_
  refine ev_icmp_ne (t := 160) (q := 130) rfl rfl rfl (fun zc1 => ?_) (fun c => absurd c hne)
  refine ev_go 4 (q := 166) (st' := _ :: .int (8 * _) :: _) rfl ?_
  refine ev_get (q := 169) rfl (mH_o hn) rfl rfl rfl ?_
  refine ev_go 1 (q := 170) rfl ?_
  refine ev_mia (q := 171) hn rfl (by decide) rfl rfl (show k < 20 by omega) rfl ?_
  rw [h20]
  refine ev_go 1 (q := 172) rfl ?_
  rw [show (8 : Int32) * nI m + nI i = nI (8 * m + i) by rw [show (8 : Int32) = nI 8 from rfl, pk_mul, nI_add]]
  refine ev_go 2 (q := 175) rfl ?_
  refine ev_get (q := 178) rfl (mH_o hn) rfl rfl rfl ?_
  refine ev_go 2 (q := 180) rfl ?_
  refine ev_mia (q := 181) hn rfl (by decide) rfl rfl (show k < 20 by omega) rfl ?_
  rw [h20]
  refine ev_go 2 (q := 183) (st' := .int (_ + 1) :: _ :: _ :: _) rfl ?_
  rw [show nI i + 1 = nI (i + 1) from nI_1 i]
  refine ev_mias (q := 184) hn rfl (by decide) rfl rfl (show k < 20 by omega) rfl ?_
  refine ev_go 1 (q := 187) rfl ?_
  rw [nI_s]
  exact K
theorem t_plL (hn : 43 ≤ h.1) {x0 : Int32} {k m : Nat} {e3 e4 e5 e6 : Option Value} (h43 : σ 43 = nI (k + 1)) (hk : k < 20) (hpl : A 19 k = nI m) (hm : m < 20)  (h21 : ¬ A 21 k = 0) {i c : Nat} (h20 : A 20 k = nI i) (hi : i < 8) (hne : ¬ A 20 k = A 12 m) (hc : c = 300) (hr : res = some (.int 5)) (hh : mH h (va_up (pl_σ k m σ A) 28 (nI (k + 1))) t (pl_at k i A) = h') : am_ev d z_Model_plays (12, [some (.ref 18), some (.int x0), some (.int (nI c)), e3, e4, e5, e6], [], mH h σ t A) res h' := by
  subst hr
  subst hh
  refine t_plP hn h43 hk hpl hm h21 h20 hi hne ?_
  refine ev_go 2 (q := 191) (st' := .int 300 :: _ :: _) rfl ?_
  refine ev_icmp_le (t := 204) (q := 194) rfl rfl rfl (fun c => absurd c (by rw [hc]; decide)) (fun zc1 => ?_)
  refine ev_go 2 (q := 196) rfl ?_
  refine ev_get (q := 199) rfl (mH_o hn) rfl rfl rfl ?_
  refine ev_tp (y := nI (k + 1)) ((pl_far k m σ A (by decide)).trans h43) ?_
  refine ev_mput (j := 28) (q := 202) hn rfl rfl rfl (by decide) rfl (mls_28 _ _ _) rfl ?_
  refine ev_go 1 (q := 203) (st' := .int 5 :: _) rfl ?_
  exact ev_iret rfl rfl (rfl) (rfl)
theorem t_plM (hd : 3 < d) (hR : 1 ≤ R ∧ R ≤ 10) (hC : 1 ≤ C ∧ C ≤ 10) (h1 : σ 1 = nI R) (h2 : σ 2 = nI C) (hn : 43 ≤ h.1) {x0 : Int32} {k m : Nat} {e3 e4 e5 e6 : Option Value} (h43 : σ 43 = nI (k + 1)) (hk : k < 20) (hpl : A 19 k = nI m) (hm : m < 20)  (h21 : ¬ A 21 k = 0) {i c : Nat} (h20 : A 20 k = nI i) (hi : i < 8) (hne : ¬ A 20 k = A 12 m) (hc : c < 300) {o : Nat} (ho : o < 20) (h13 : A 13 (8 * m + i) = nI (100 + o)) (hk2 : k + 1 < 20) (K : ∀ e5 : Option Value, am_ev d z_Model_plays (12, [some (.ref 18), some (.int x0), some (.int (nI (c + 1))), some (.int (nI k)), some (.int (nI m)), e5, e6], [], mH h (va_up (pl_σ k m σ A) 43 (nI (k + 1 + 1))) t (mo_A R C (pl_σ k m σ A) (pl_at k i A) o (k + 1))) res h') : am_ev d z_Model_plays (12, [some (.ref 18), some (.int x0), some (.int (nI c)), e3, e4, e5, e6], [], mH h σ t A) res h' := by
  refine t_plP hn h43 hk hpl hm h21 h20 hi hne ?_
  refine ev_go 2 (q := 191) (st' := .int 300 :: _ :: _) rfl ?_
  refine ev_icmp_le (t := 204) (q := 194) rfl rfl rfl (fun zc1 => ?_) (fun c => absurd ((nI_leI (b := 300) (by omega) (by decide)).mpr (by omega)) c)
  refine ev_go 1 (q := 205) rfl ?_
  refine ev_get (q := 208) rfl (mH_o hn) rfl rfl rfl ?_
  refine ev_go 1 (q := 210) rfl ?_
  refine ev_mia (q := 211) hn rfl (by decide) rfl rfl (show 8 * m + i < 160 by omega) rfl ?_
  refine ev_tp (y := nI (100 + o)) h13 ?_
  refine ev_go 1 (q := 213) (st' := .int 100 :: _ :: _) rfl ?_
  refine ev_icmp_lt (t := 233) (q := 216) rfl rfl rfl (fun c => absurd c (Int32.not_lt.mpr ((nI_leI (a := 100) (by decide) (by omega)).mpr (by omega)))) (fun zc2 => ?_)
  refine ev_go 2 (q := 218) rfl ?_
  refine ev_get (q := 221) rfl (mH_o hn) rfl rfl rfl ?_
  refine ev_go 1 (q := 223) rfl ?_
  refine ev_mia (q := 224) hn rfl (by decide) rfl rfl (show 8 * m + i < 160 by omega) rfl ?_
  refine ev_tp (y := nI (100 + o)) h13 ?_
  refine ev_go 2 (q := 227) (st' := .int (_ - 100) :: _ :: _) rfl ?_
  rw [show nI (100 + o) - 100 = nI o by rw [show (100 : Int32) = nI 100 from rfl, pk_sub (by omega)]; congr 1; omega]
  refine ev_virt (z' := z_Model_opens) (q := 230) rfl rfl (by decide) rfl (by simp [Value.category]) rfl (by omega) rfl rfl (mH_o hn) (m_opens hn (by omega) hR hC ((pl_far k m σ A (by decide)).trans h1) ((pl_far k m σ A (by decide)).trans h2) ho ((pl_far k m σ A (by decide)).trans h43) hk2) ?_
  refine ev_go 2 (q := 12) rfl ?_
  exact K _
def pl_td (q : Nat) (A : Nat → Nat → Int32) : Nat → Nat → Int32 := v5 18 (A 14 (4 * q + 0)) (A 14 (4 * q + 1)) (A 14 (4 * q + 2)) (A 14 (4 * q + 3)) 0 A
theorem t_plT (hn : 43 ≤ h.1) {x0 : Int32} {k m i c : Nat} (hmi : 8 * m + i < 160) {e6 : Option Value} (K : ∀ e6 : Option Value, am_ev d z_Model_plays (277, [some (.ref 18), some (.int x0), some (.int (nI (c + 1))), some (.int (nI k)), some (.int (nI m)), some (.int (nI (8 * m + i))), e6], [], mH h σ t (pl_td (8 * m + i) A)) res h') : am_ev d z_Model_plays (233, [some (.ref 18), some (.int x0), some (.int (nI (c + 1))), some (.int (nI k)), some (.int (nI m)), some (.int (nI (8 * m + i))), e6], [], mH h σ t A) res h' := by
  refine ev_go 4 (q := 239) (st' := .int 5 :: .int (nI 0) :: _) rfl ?_
  rw [show Int32.ofInt 0 = nI 0 from rfl]
  refine ev_icmp_ge (t := 277) (q := 242) rfl rfl rfl (fun c => absurd c (by decide)) (fun _ => ?_)
  refine ev_go 1 (q := 243) rfl ?_
  refine ev_get (q := 246) rfl (mH_o hn) rfl rfl rfl ?_
  refine ev_go 3 (q := 251) (st' := .int 4 :: _ :: _ :: _ :: _) rfl ?_
  refine ev_icmp_ge (t := 269) (q := 254) rfl rfl rfl (fun c => absurd c (by decide)) (fun zc1 => ?_)
  refine ev_go 1 (q := 255) rfl ?_
  refine ev_get (q := 258) rfl (mH_o hn) rfl rfl rfl ?_
  refine ev_go 5 (q := 265) (st' := .int ((4 * _) + _) :: _ :: _ :: _ :: _) rfl ?_
  refine ev_mia (q := 266) hn rfl (by decide) rfl (by rw [show (4 : Int32) = nI 4 from rfl, pk_mul, nI_add]) (show 4 * (8 * m + i) + 0 < 640 by omega) rfl ?_
  refine ev_go 1 (q := 270) rfl ?_
  refine ev_mias (q := 271) hn rfl (by decide) rfl rfl (by decide) rfl ?_
  refine ev_go 2 (q := 236) rfl ?_
  rw [nI_s]
  refine ev_go 2 (q := 239) (st' := .int 5 :: .int (nI 1) :: _) rfl ?_
  refine ev_icmp_ge (t := 277) (q := 242) rfl rfl rfl (fun c => absurd c (by decide)) (fun _ => ?_)
  refine ev_go 1 (q := 243) rfl ?_
  refine ev_get (q := 246) rfl (mH_o hn) rfl rfl rfl ?_
  refine ev_go 3 (q := 251) (st' := .int 4 :: _ :: _ :: _ :: _) rfl ?_
  refine ev_icmp_ge (t := 269) (q := 254) rfl rfl rfl (fun c => absurd c (by decide)) (fun zc1 => ?_)
  refine ev_go 1 (q := 255) rfl ?_
  refine ev_get (q := 258) rfl (mH_o hn) rfl rfl rfl ?_
  refine ev_go 5 (q := 265) (st' := .int ((4 * _) + _) :: _ :: _ :: _ :: _) rfl ?_
  refine ev_mia (q := 266) hn rfl (by decide) rfl (by rw [show (4 : Int32) = nI 4 from rfl, pk_mul, nI_add]) (show 4 * (8 * m + i) + 1 < 640 by omega) rfl ?_
  refine ev_go 1 (q := 270) rfl ?_
  refine ev_mias (q := 271) hn rfl (by decide) rfl rfl (by decide) rfl ?_
  refine ev_go 2 (q := 236) rfl ?_
  rw [nI_s]
  refine ev_go 2 (q := 239) (st' := .int 5 :: .int (nI 2) :: _) rfl ?_
  refine ev_icmp_ge (t := 277) (q := 242) rfl rfl rfl (fun c => absurd c (by decide)) (fun _ => ?_)
  refine ev_go 1 (q := 243) rfl ?_
  refine ev_get (q := 246) rfl (mH_o hn) rfl rfl rfl ?_
  refine ev_go 3 (q := 251) (st' := .int 4 :: _ :: _ :: _ :: _) rfl ?_
  refine ev_icmp_ge (t := 269) (q := 254) rfl rfl rfl (fun c => absurd c (by decide)) (fun zc1 => ?_)
  refine ev_go 1 (q := 255) rfl ?_
  refine ev_get (q := 258) rfl (mH_o hn) rfl rfl rfl ?_
  refine ev_go 5 (q := 265) (st' := .int ((4 * _) + _) :: _ :: _ :: _ :: _) rfl ?_
  refine ev_mia (q := 266) hn rfl (by decide) rfl (by rw [show (4 : Int32) = nI 4 from rfl, pk_mul, nI_add]) (show 4 * (8 * m + i) + 2 < 640 by omega) rfl ?_
  refine ev_go 1 (q := 270) rfl ?_
  refine ev_mias (q := 271) hn rfl (by decide) rfl rfl (by decide) rfl ?_
  refine ev_go 2 (q := 236) rfl ?_
  rw [nI_s]
  refine ev_go 2 (q := 239) (st' := .int 5 :: .int (nI 3) :: _) rfl ?_
  refine ev_icmp_ge (t := 277) (q := 242) rfl rfl rfl (fun c => absurd c (by decide)) (fun _ => ?_)
  refine ev_go 1 (q := 243) rfl ?_
  refine ev_get (q := 246) rfl (mH_o hn) rfl rfl rfl ?_
  refine ev_go 3 (q := 251) (st' := .int 4 :: _ :: _ :: _ :: _) rfl ?_
  refine ev_icmp_ge (t := 269) (q := 254) rfl rfl rfl (fun c => absurd c (by decide)) (fun zc1 => ?_)
  refine ev_go 1 (q := 255) rfl ?_
  refine ev_get (q := 258) rfl (mH_o hn) rfl rfl rfl ?_
  refine ev_go 5 (q := 265) (st' := .int ((4 * _) + _) :: _ :: _ :: _ :: _) rfl ?_
  refine ev_mia (q := 266) hn rfl (by decide) rfl (by rw [show (4 : Int32) = nI 4 from rfl, pk_mul, nI_add]) (show 4 * (8 * m + i) + 3 < 640 by omega) rfl ?_
  refine ev_go 1 (q := 270) rfl ?_
  refine ev_mias (q := 271) hn rfl (by decide) rfl rfl (by decide) rfl ?_
  refine ev_go 2 (q := 236) rfl ?_
  rw [nI_s]
  refine ev_go 2 (q := 239) (st' := .int 5 :: .int (nI 4) :: _) rfl ?_
  refine ev_icmp_ge (t := 277) (q := 242) rfl rfl rfl (fun c => absurd c (by decide)) (fun _ => ?_)
  refine ev_go 1 (q := 243) rfl ?_
  refine ev_get (q := 246) rfl (mH_o hn) rfl rfl rfl ?_
  refine ev_go 3 (q := 251) (st' := .int 4 :: _ :: _ :: _ :: _) rfl ?_
  refine ev_icmp_ge (t := 269) (q := 254) rfl rfl rfl (fun zc1 => ?_) (fun c => absurd (by decide) c)
  refine ev_go 1 (q := 270) (st' := .int 0 :: _ :: _ :: _) rfl ?_
  refine ev_mias (q := 271) hn rfl (by decide) rfl rfl (by decide) rfl ?_
  refine ev_go 2 (q := 236) rfl ?_
  rw [nI_s]
  refine ev_go 2 (q := 239) (st' := .int 5 :: .int (nI 5) :: _) rfl ?_
  refine ev_icmp_ge (t := 277) (q := 242) rfl rfl rfl (fun _ => ?_) (fun c => absurd (by decide) c)
  refine ev_hp (congrArg (mH h σ t) (v5_eq 18 _ _ _ _ _ A)) ?_
  exact K _
theorem t_plH0 (hd : 3 < d) (hn : 43 ≤ h.1) {x0 : Int32} {k m : Nat} {e3 e4 e5 e6 : Option Value} (h43 : σ 43 = nI (k + 1)) (hk : k < 20) (hpl : A 19 k = nI m) (hm : m < 20)  (h21 : ¬ A 21 k = 0) {i c : Nat} (h20 : A 20 k = nI i) (hi : i < 8) (hne : ¬ A 20 k = A 12 m) (hc : c < 300) {hh : Nat} (hhb : hh < 40) (h13 : A 13 (8 * m + i) = nI hh) {x : Int32} {σ2 : Nat → Int32} {t2 : Int64} {A2 : Nat → Nat → Int32} (hx : am_m (d - 1) z_Model_calls [.ref 18, .int (nI hh)] (mH h (pl_σ k m σ A) t (pl_td (8 * m + i) (pl_at k i A))) (some (.int x)) (mH h σ2 t2 A2)) (hx0 : x = 0) (K : ∀ e5 e6 : Option Value, am_ev d z_Model_plays (12, [some (.ref 18), some (.int x0), some (.int (nI (c + 1))), some (.int (nI k)), some (.int (nI m)), e5, e6], [], mH h σ2 t2 A2) res h') : am_ev d z_Model_plays (12, [some (.ref 18), some (.int x0), some (.int (nI c)), e3, e4, e5, e6], [], mH h σ t A) res h' := by
  refine t_plP hn h43 hk hpl hm h21 h20 hi hne ?_
  refine ev_go 2 (q := 191) (st' := .int 300 :: _ :: _) rfl ?_
  refine ev_icmp_le (t := 204) (q := 194) rfl rfl rfl (fun zc1 => ?_) (fun c => absurd ((nI_leI (b := 300) (by omega) (by decide)).mpr (by omega)) c)
  refine ev_go 1 (q := 205) rfl ?_
  refine ev_get (q := 208) rfl (mH_o hn) rfl rfl rfl ?_
  refine ev_go 1 (q := 210) rfl ?_
  refine ev_mia (q := 211) hn rfl (by decide) rfl rfl (show 8 * m + i < 160 by omega) rfl ?_
  refine ev_tp (y := nI hh) h13 ?_
  refine ev_go 1 (q := 213) (st' := .int 100 :: _ :: _) rfl ?_
  refine ev_icmp_lt (t := 233) (q := 216) rfl rfl rfl (fun zc2 => ?_) (fun c => absurd ((nI_ltI (b := 100) (by omega) (by decide)).mpr (by omega)) c)
  refine t_plT hn (by omega) (fun e6 => ?_)
  refine ev_go 2 (q := 279) rfl ?_
  refine ev_get (q := 282) rfl (mH_o hn) rfl rfl rfl ?_
  refine ev_go 1 (q := 284) rfl ?_
  refine ev_mia (q := 285) hn rfl (by decide) rfl rfl (show 8 * m + i < 160 by omega) rfl ?_
  refine ev_tp (y := nI hh) h13 ?_
  refine ev_virt (z' := z_Model_calls) (q := 288) rfl rfl (by decide) rfl (by simp [Value.category]) rfl (by omega) rfl rfl (mH_o hn) hx ?_
  refine ev_go 2 (q := 292) rfl ?_
  refine ev_if_le (t := 306) (q := 295) rfl rfl rfl (fun zc1 => ?_) (fun c => absurd (by rw [hx0]; decide) c)
  refine ev_go 1 (q := 12) rfl ?_
  exact K _ _
theorem t_plHF (hd : 3 < d) (hn : 43 ≤ h.1) {x0 : Int32} {k m : Nat} {e3 e4 e5 e6 : Option Value} (h43 : σ 43 = nI (k + 1)) (hk : k < 20) (hpl : A 19 k = nI m) (hm : m < 20)  (h21 : ¬ A 21 k = 0) {i c : Nat} (h20 : A 20 k = nI i) (hi : i < 8) (hne : ¬ A 20 k = A 12 m) (hc : c < 300) {hh : Nat} (hhb : hh < 40) (h13 : A 13 (8 * m + i) = nI hh) {x : Int32} {σ2 : Nat → Int32} {t2 : Int64} {A2 : Nat → Nat → Int32} (hx : am_m (d - 1) z_Model_calls [.ref 18, .int (nI hh)] (mH h (pl_σ k m σ A) t (pl_td (8 * m + i) (pl_at k i A))) (some (.int x)) (mH h σ2 t2 A2)) (hx0 : 0 < x) (hr : res = some (.int x)) (hh9 : mH h (va_up σ2 28 (σ2 43)) t2 A2 = h') : am_ev d z_Model_plays (12, [some (.ref 18), some (.int x0), some (.int (nI c)), e3, e4, e5, e6], [], mH h σ t A) res h' := by
  subst hr
  subst hh9
  refine t_plP hn h43 hk hpl hm h21 h20 hi hne ?_
  refine ev_go 2 (q := 191) (st' := .int 300 :: _ :: _) rfl ?_
  refine ev_icmp_le (t := 204) (q := 194) rfl rfl rfl (fun zc1 => ?_) (fun c => absurd ((nI_leI (b := 300) (by omega) (by decide)).mpr (by omega)) c)
  refine ev_go 1 (q := 205) rfl ?_
  refine ev_get (q := 208) rfl (mH_o hn) rfl rfl rfl ?_
  refine ev_go 1 (q := 210) rfl ?_
  refine ev_mia (q := 211) hn rfl (by decide) rfl rfl (show 8 * m + i < 160 by omega) rfl ?_
  refine ev_tp (y := nI hh) h13 ?_
  refine ev_go 1 (q := 213) (st' := .int 100 :: _ :: _) rfl ?_
  refine ev_icmp_lt (t := 233) (q := 216) rfl rfl rfl (fun zc2 => ?_) (fun c => absurd ((nI_ltI (b := 100) (by omega) (by decide)).mpr (by omega)) c)
  refine t_plT hn (by omega) (fun e6 => ?_)
  refine ev_go 2 (q := 279) rfl ?_
  refine ev_get (q := 282) rfl (mH_o hn) rfl rfl rfl ?_
  refine ev_go 1 (q := 284) rfl ?_
  refine ev_mia (q := 285) hn rfl (by decide) rfl rfl (show 8 * m + i < 160 by omega) rfl ?_
  refine ev_tp (y := nI hh) h13 ?_
  refine ev_virt (z' := z_Model_calls) (q := 288) rfl rfl (by decide) rfl (by simp [Value.category]) rfl (by omega) rfl rfl (mH_o hn) hx ?_
  refine ev_go 2 (q := 292) rfl ?_
  refine ev_if_le (t := 306) (q := 295) rfl rfl rfl (fun c => absurd c (Int32.not_le.mpr hx0)) (fun zc1 => ?_)
  refine ev_go 2 (q := 297) rfl ?_
  refine ev_get (q := 300) rfl (mH_o hn) rfl rfl rfl ?_
  refine ev_mput (j := 28) (q := 303) hn rfl rfl rfl (by decide) rfl (mls_28 _ _ _) rfl ?_
  refine ev_go 1 (q := 305) rfl ?_
  exact ev_iret rfl rfl (rfl) (rfl)
theorem m_plays (hn : 43 ≤ h.1) (hd : 3 < d) (hR : 1 ≤ R ∧ R ≤ 10) (hC : 1 ≤ C ∧ C ≤ 10) (h1 : σ 1 = nI R) (h2 : σ 2 = nI C) {m : Nat} (hm : m < 20) (K : am_ev d z_Model_plays (12, [some (.ref 18), some (.int (nI m)), some (.int (nI 0)), none, none, none, none], [], mH h (va_up (va_up σ 43 0) 43 (nI (0 + 1))) t (mo_A R C (va_up σ 43 0) A m 0)) res h') : am_m d z_Model_plays [.ref 18, .int (nI m)] (mH h σ t A) res h' := by
  refine ev_go 4 (q := 4) (st' := .int 0 :: _ :: _) rfl ?_
  refine ev_mput (j := 43) (q := 7) hn rfl rfl rfl (by decide) rfl (mls_43 _ _ _) rfl ?_
  refine ev_go 2 (q := 9) rfl ?_
  refine ev_virt (z' := z_Model_opens) (q := 12) rfl rfl (by decide) rfl (by simp [Value.category]) rfl (by omega) rfl rfl (mH_o hn) (m_opens (σ := va_up σ 43 0) hn (by omega) hR hC h1 h2 hm (dp := 0) rfl (by decide)) ?_
  exact K
end M14
