/-! the reference: handles, macros, the tree's calls -/
section M10
variable {d : Nat} {h h' : am_H} {σ : Nat → Int32} {t : Int64} {A : Nat → Nat → Int32} {res : Option Value} {R C u : Nat}
theorem ev_tp {z pc : Nat} {L : List (Option Value)} {st : List Value} {r : Option Value} {x y : Int32} (e : x = y) (k : am_ev d z (pc, L, .int y :: st, h) r h') : am_ev d z (pc, L, .int x :: st, h) r h' := by
  subst e
  exact k
theorem m_handleB (hn : 43 ≤ h.1) (hd : 2 < d) {x : Int32} (hb : ¬ (0 ≤ x ∧ x ≤ 12)) : am_m d z_Model_handle [.ref 18, .int x] (mH h σ t A) (some (.int (-1))) (mH h (m0 σ) t A) := by
  refine ev_go 2 (q := 2) (st' := .int 0 :: _ :: _) rfl ?_
  refine ev_mput (j := 0) (q := 5) hn rfl rfl rfl (by decide) rfl (mls_0 _ _ _) rfl ?_
  refine ev_go 3 (q := 9) (st' := .int 12 :: .int 0 :: _ :: _) rfl ?_
  refine ev_static (z' := z_Model_in) (q := 12) rfl rfl (by decide) rfl rfl (by simp [Value.category]) rfl (by omega) (k_in _ _ _) ?_
  refine ev_if_ne (t := 17) (q := 15) rfl rfl rfl (fun zc1 => ?_) (fun zc1 => ?_)
  · exact absurd (am_bn.mp zc1) hb
  · refine ev_go 1 (q := 16) (st' := .int (-1) :: _) rfl ?_
    exact ev_iret rfl rfl (rfl) (rfl)
theorem m_handleF (hn : 43 ≤ h.1) (hd : 2 < d) {x : Int32} (hb : 0 ≤ x ∧ x ≤ 12) (h12 : σ 12 = nI 40) : am_m d z_Model_handle [.ref 18, .int x] (mH h σ t A) (some (.int (-3))) (mH h (m0 σ) t A) := by
  refine ev_go 2 (q := 2) (st' := .int 0 :: _ :: _) rfl ?_
  refine ev_mput (j := 0) (q := 5) hn rfl rfl rfl (by decide) rfl (mls_0 _ _ _) rfl ?_
  refine ev_go 3 (q := 9) (st' := .int 12 :: .int 0 :: _ :: _) rfl ?_
  refine ev_static (z' := z_Model_in) (q := 12) rfl rfl (by decide) rfl rfl (by simp [Value.category]) rfl (by omega) (k_in _ _ _) ?_
  refine ev_if_ne (t := 17) (q := 15) rfl rfl rfl (fun zc1 => ?_) (fun c => absurd c (am_bn.mpr hb))
  refine ev_go 1 (q := 18) rfl ?_
  refine ev_get (q := 21) rfl (mH_o hn) rfl rfl rfl ?_
  refine ev_go 1 (q := 23) (st' := .int 40 :: _ :: _) rfl ?_
  refine ev_icmp_ne (t := 29) (q := 26) rfl rfl rfl (fun c => absurd h12 c) (fun zc2 => ?_)
  refine ev_go 1 (q := 28) (st' := .int (-3) :: _) rfl ?_
  exact ev_iret rfl rfl (rfl) (rfl)
def mh_A (n : Nat) (x : Int32) (A : Nat → Nat → Int32) : Nat → Nat → Int32 := va_up (va_up A 5 (va_up (A 5) n x)) 6 (va_up (va_up (va_up (va_up (va_up (A 6) (5 * n) 0) (5 * n + 1) 0) (5 * n + 2) 0) (5 * n + 3) 0) (5 * n + 4) 0)
theorem l_hdl (hn : 43 ≤ h.1) {x : Int32} {n : Nat} (hb : n < 40) (h12 : σ 12 = nI n) : ∀ (m k : Nat) (A : Nat → Nat → Int32), k + m = 5 → am_ev d z_Model_handle (66, [some (.ref 18), some (.int x), some (.int (nI 5))], [], mH h σ t (sp_it (fun k A => va_up A 6 (va_up (A 6) (5 * n + k) ((0 : Int32) &&& 1))) k m A)) res h' → am_ev d z_Model_handle (43, [some (.ref 18), some (.int x), some (.int (nI k))], [.int 5, .int (nI k)], mH h σ t A) res h'
  | 0, k, A, hm, K => by
    refine ev_icmp_ge (t := 66) (q := 46) rfl rfl rfl (fun _ => ?_) (fun c1 => absurd (nI_end (b := 5) hm (by omega)) c1)
    have hc : k = 5 := hm
    subst hc
    exact K
  | m + 1, k, A, hm, K => by
    refine ev_icmp_ge (t := 66) (q := 46) rfl rfl rfl (fun c1 => absurd c1 (nI_ge (b := 5) (by omega) (by omega))) (fun _ => ?_)
    rw [sp_it] at K
    refine ev_go 1 (q := 47) rfl ?_
    refine ev_get (q := 50) rfl (mH_o hn) rfl rfl rfl ?_
    refine ev_go 2 (q := 52) (st' := _ :: .int 5 :: _ :: _) rfl ?_
    refine ev_get (q := 55) rfl (mH_o hn) rfl rfl rfl ?_
    refine ev_go 4 (q := 59) (st' := .int 0 :: _ :: _ :: _) rfl ?_
    refine ev_mzas (q := 60) hn rfl (by decide) rfl (by rw [h12, show (5 : Int32) = nI 5 from rfl, pk_mul, nI_add]) (show 5 * n + k < 200 by omega) rfl ?_
    refine ev_go 4 (q := 43) (st' := .int 5 :: _ :: _) rfl ?_
    rw [nI_s]
    exact l_hdl hn hb h12 m (k + 1) _ (by omega) K
theorem m_handle (hn : 43 ≤ h.1) (hd : 2 < d) {x : Int32} {n : Nat} (hb : 0 ≤ x ∧ x ≤ 12) (h12 : σ 12 = nI n) (hb2 : n < 40) : am_m d z_Model_handle [.ref 18, .int x] (mH h σ t A) (some (.int (nI n))) (mH h (va_up (m0 σ) 12 (nI (n + 1))) t (mh_A n x A)) := by
  refine ev_go 2 (q := 2) (st' := .int 0 :: _ :: _) rfl ?_
  refine ev_mput (j := 0) (q := 5) hn rfl rfl rfl (by decide) rfl (mls_0 _ _ _) rfl ?_
  refine ev_go 3 (q := 9) (st' := .int 12 :: .int 0 :: _ :: _) rfl ?_
  refine ev_static (z' := z_Model_in) (q := 12) rfl rfl (by decide) rfl rfl (by simp [Value.category]) rfl (by omega) (k_in _ _ _) ?_
  refine ev_if_ne (t := 17) (q := 15) rfl rfl rfl (fun zc1 => ?_) (fun c => absurd c (am_bn.mpr hb))
  refine ev_go 1 (q := 18) rfl ?_
  refine ev_get (q := 21) rfl (mH_o hn) rfl rfl rfl ?_
  refine ev_go 1 (q := 23) (st' := .int 40 :: _ :: _) rfl ?_
  refine ev_icmp_ne (t := 29) (q := 26) rfl rfl rfl (fun zc2 => ?_) (fun c => absurd c (by rw [show va_up σ 0 0 12 = nI n from h12]; exact fun q => absurd ((nI_eq (b := 40) (by omega) (by decide)).mp q) (by omega)))
  refine ev_go 1 (q := 30) rfl ?_
  refine ev_get (q := 33) rfl (mH_o hn) rfl rfl rfl ?_
  refine ev_go 1 (q := 34) rfl ?_
  refine ev_get (q := 37) rfl (mH_o hn) rfl rfl rfl ?_
  refine ev_go 1 (q := 38) rfl ?_
  refine ev_mias (q := 39) hn rfl (by decide) rfl h12 hb2 rfl ?_
  refine ev_go 4 (q := 43) (st' := .int 5 :: _ :: _) rfl ?_
  rw [show Int32.ofInt 0 = nI 0 from rfl]
  refine l_hdl (σ := m0 σ) hn hb2 h12 5 0 _ (by omega) ?_
  refine ev_go 2 (q := 68) rfl ?_
  refine ev_get (q := 71) rfl (mH_o hn) rfl rfl rfl ?_
  refine ev_tp (y := nI n) h12 ?_
  refine ev_go 2 (q := 73) (st' := .int (_ + 1) :: _ :: _) rfl ?_
  refine ev_mput (j := 12) (q := 76) hn rfl rfl rfl (by decide) rfl (mls_12 _ _ _) rfl ?_
  refine ev_go 1 (q := 77) rfl ?_
  refine ev_get (q := 80) rfl (mH_o hn) rfl rfl rfl ?_
  refine ev_go 2 (q := 82) (st' := .int (_ - 1) :: _) rfl ?_
  exact ev_iret rfl rfl (by rw [va_up_self, nI_1]; exact nI_pred n) (by rw [show nI n + 1 = nI (n + 1) from nI_1 n]; simp only [sp_it, bx_uu]; rfl)
theorem m_bindB (hn : 43 ≤ h.1) (hd : 2 < d) {x i v : Int32} {n : Nat} (h12 : σ 12 = nI n) (hn40 : n ≤ 40) (hb : ¬ ((0 ≤ x ∧ x < nI n) ∧ (0 ≤ i ∧ i ≤ 4))) : am_m d z_Model_bind [.ref 18, .int x, .int i, .int v] (mH h σ t A) (some (.int (-1))) (mH h (m0 σ) t A) := by
  refine ev_go 2 (q := 2) (st' := .int 0 :: _ :: _) rfl ?_
  refine ev_mput (j := 0) (q := 5) hn rfl rfl rfl (by decide) rfl (mls_0 _ _ _) rfl ?_
  refine ev_go 2 (q := 7) rfl ?_
  refine ev_virt (z' := z_Model_isHandle) (q := 10) rfl rfl (by decide) rfl (by simp [Value.category]) rfl (by omega) rfl rfl (mH_o hn) (m_isHandle (σ := m0 σ) hn (by omega) h12 (by omega)) ?_
  refine ev_if_eq (t := 22) (q := 13) rfl rfl rfl (fun zc1 => ?_) (fun zc1 => ?_)
  · refine ev_go 1 (q := 23) (st' := .int (-1) :: _) rfl ?_
    exact ev_iret rfl rfl (rfl) (rfl)
  · refine ev_go 3 (q := 16) (st' := .int 4 :: .int 0 :: _ :: _) rfl ?_
    refine ev_static (z' := z_Model_in) (q := 19) rfl rfl (by decide) rfl rfl (by simp [Value.category]) rfl (by omega) (k_in _ _ _) ?_
    refine ev_if_ne (t := 24) (q := 22) rfl rfl rfl (fun zc2 => ?_) (fun zc2 => ?_)
    · exact absurd ⟨am_bn.mp zc1, am_bn.mp zc2⟩ hb
    · refine ev_go 1 (q := 23) (st' := .int (-1) :: _) rfl ?_
      exact ev_iret rfl rfl (rfl) (rfl)
theorem m_bindS (hn : 43 ≤ h.1) (hd : 2 < d) {x i n : Nat} {v : Int32} (h12 : σ 12 = nI n) (hn40 : n ≤ 40) (hx : x < n) (hi : i < 5) (hs : ¬ A 6 (5 * x + i) = 0) : am_m d z_Model_bind [.ref 18, .int (nI x), .int (nI i), .int v] (mH h σ t A) (some (.int (-2))) (mH h (m0 σ) t A) := by
  refine ev_go 2 (q := 2) (st' := .int 0 :: _ :: _) rfl ?_
  refine ev_mput (j := 0) (q := 5) hn rfl rfl rfl (by decide) rfl (mls_0 _ _ _) rfl ?_
  refine ev_go 2 (q := 7) rfl ?_
  refine ev_virt (z' := z_Model_isHandle) (q := 10) rfl rfl (by decide) rfl (by simp [Value.category]) rfl (by omega) rfl rfl (mH_o hn) (m_isHandle (σ := m0 σ) hn (by omega) h12 (by omega)) ?_
  refine ev_if_eq (t := 22) (q := 13) rfl rfl rfl (fun c => absurd c (am_bn.mpr ⟨nI_pos' (by omega), (nI_ltI (by omega) (by omega)).mpr hx⟩)) (fun zc1 => ?_)
  refine ev_go 3 (q := 16) (st' := .int 4 :: .int 0 :: _ :: _) rfl ?_
  refine ev_static (z' := z_Model_in) (q := 19) rfl rfl (by decide) rfl rfl (by simp [Value.category]) rfl (by omega) (k_in _ _ _) ?_
  refine ev_if_ne (t := 24) (q := 22) rfl rfl rfl (fun zc2 => ?_) (fun c => absurd c (am_bn.mpr ⟨nI_pos' (by omega), (nI_leI (b := 4) (by omega) (by decide)).mpr (by omega)⟩))
  refine ev_go 1 (q := 25) rfl ?_
  refine ev_get (q := 28) rfl (mH_o hn) rfl rfl rfl ?_
  refine ev_go 5 (q := 33) (st' := .int ((5 * _) + _) :: _ :: _) rfl ?_
  refine ev_mza (q := 34) hn rfl (by decide) rfl (by rw [show (5 : Int32) = nI 5 from rfl, pk_mul, nI_add]) (show 5 * x + i < 200 by omega) rfl ?_
  refine ev_if_eq (t := 40) (q := 37) rfl rfl rfl (fun c => absurd c hs) (fun zc3 => ?_)
  refine ev_go 1 (q := 39) (st' := .int (-2) :: _) rfl ?_
  exact ev_iret rfl rfl (rfl) (rfl)
theorem m_bindF (hn : 43 ≤ h.1) (hd : 2 < d) {x i n : Nat} {v : Int32} (h12 : σ 12 = nI n) (hn40 : n ≤ 40) (hx : x < n) (hi : i < 5) (hs : A 6 (5 * x + i) = 0) (hf : n = 40) : am_m d z_Model_bind [.ref 18, .int (nI x), .int (nI i), .int v] (mH h σ t A) (some (.int (-3))) (mH h (m0 σ) t A) := by
  refine ev_go 2 (q := 2) (st' := .int 0 :: _ :: _) rfl ?_
  refine ev_mput (j := 0) (q := 5) hn rfl rfl rfl (by decide) rfl (mls_0 _ _ _) rfl ?_
  refine ev_go 2 (q := 7) rfl ?_
  refine ev_virt (z' := z_Model_isHandle) (q := 10) rfl rfl (by decide) rfl (by simp [Value.category]) rfl (by omega) rfl rfl (mH_o hn) (m_isHandle (σ := m0 σ) hn (by omega) h12 (by omega)) ?_
  refine ev_if_eq (t := 22) (q := 13) rfl rfl rfl (fun c => absurd c (am_bn.mpr ⟨nI_pos' (by omega), (nI_ltI (by omega) (by omega)).mpr hx⟩)) (fun zc1 => ?_)
  refine ev_go 3 (q := 16) (st' := .int 4 :: .int 0 :: _ :: _) rfl ?_
  refine ev_static (z' := z_Model_in) (q := 19) rfl rfl (by decide) rfl rfl (by simp [Value.category]) rfl (by omega) (k_in _ _ _) ?_
  refine ev_if_ne (t := 24) (q := 22) rfl rfl rfl (fun zc2 => ?_) (fun c => absurd c (am_bn.mpr ⟨nI_pos' (by omega), (nI_leI (b := 4) (by omega) (by decide)).mpr (by omega)⟩))
  refine ev_go 1 (q := 25) rfl ?_
  refine ev_get (q := 28) rfl (mH_o hn) rfl rfl rfl ?_
  refine ev_go 5 (q := 33) (st' := .int ((5 * _) + _) :: _ :: _) rfl ?_
  refine ev_mza (q := 34) hn rfl (by decide) rfl (by rw [show (5 : Int32) = nI 5 from rfl, pk_mul, nI_add]) (show 5 * x + i < 200 by omega) rfl ?_
  refine ev_if_eq (t := 40) (q := 37) rfl rfl rfl (fun zc3 => ?_) (fun c => absurd hs c)
  refine ev_go 1 (q := 41) rfl ?_
  refine ev_get (q := 44) rfl (mH_o hn) rfl rfl rfl ?_
  refine ev_go 1 (q := 46) (st' := .int 40 :: _ :: _) rfl ?_
  refine ev_icmp_ne (t := 52) (q := 49) rfl rfl rfl (fun c => absurd (h12.trans (by rw [hf]; rfl)) c) (fun zc4 => ?_)
  refine ev_go 1 (q := 51) (st' := .int (-3) :: _) rfl ?_
  exact ev_iret rfl rfl (rfl) (rfl)
def mb_s (n x i : Nat) (v : Int32) (k : Nat) (A : Nat → Nat → Int32) : Nat → Nat → Int32 := va_up (va_up A 6 (va_up (A 6) (5 * n + k) (am_b (¬ A 6 (5 * x + k) = 0 ∨ k = i)))) 7 (va_up (A 7) (5 * n + k) (if k = i then v else A 7 (5 * x + k)))
theorem l_bnd (hn : 43 ≤ h.1) {x i n : Nat} {v : Int32} (hn40 : n < 40) (hx : x < n) (hi : i < 5) (h12 : σ 12 = nI n) : ∀ (m k : Nat) (A : Nat → Nat → Int32), k + m = 5 → am_ev d z_Model_bind (156, [some (.ref 18), some (.int (nI x)), some (.int (nI i)), some (.int v), some (.int (nI 5))], [], mH h σ t (sp_it (mb_s n x i v) k m A)) res h' → am_ev d z_Model_bind (73, [some (.ref 18), some (.int (nI x)), some (.int (nI i)), some (.int v), some (.int (nI k))], [.int 5, .int (nI k)], mH h σ t A) res h'
  | 0, k, A, hm, K => by
    refine ev_icmp_ge (t := 156) (q := 76) rfl rfl rfl (fun _ => ?_) (fun c1 => absurd (nI_end (b := 5) hm (by omega)) c1)
    have hc : k = 5 := hm
    subst hc
    exact K
  | m + 1, k, A, hm, K => by
    refine ev_icmp_ge (t := 156) (q := 76) rfl rfl rfl (fun c1 => absurd c1 (nI_ge (b := 5) (by omega) (by omega))) (fun _ => ?_)
    rw [sp_it] at K
    refine ev_go 1 (q := 77) rfl ?_
    refine ev_get (q := 80) rfl (mH_o hn) rfl rfl rfl ?_
    refine ev_go 2 (q := 82) (st' := _ :: .int 5 :: _ :: _) rfl ?_
    refine ev_get (q := 85) rfl (mH_o hn) rfl rfl rfl ?_
    refine ev_go 4 (q := 90) rfl ?_
    refine ev_get (q := 93) rfl (mH_o hn) rfl rfl rfl ?_
    refine ev_go 5 (q := 99) (st' := .int ((5 * _) + _) :: _ :: _ :: _ :: _) rfl ?_
    refine ev_mza (q := 100) hn rfl (by decide) rfl (by rw [show (5 : Int32) = nI 5 from rfl, pk_mul, nI_add]) (show 5 * x + k < 200 by omega) rfl ?_
    refine ev_if_ne (t := 109) (q := 103) rfl rfl rfl (fun zc1 => ?_) (fun zc1 => ?_)
    · refine ev_go 2 (q := 114) (st' := .int 1 :: _ :: _ :: _) rfl ?_
      refine ev_mzas (q := 115) hn rfl (by decide) rfl (by rw [h12, show (5 : Int32) = nI 5 from rfl, pk_mul, nI_add]) (show 5 * n + k < 200 by omega) rfl ?_
      refine ev_go 1 (q := 116) rfl ?_
      refine ev_get (q := 119) rfl (mH_o hn) rfl rfl rfl ?_
      refine ev_go 2 (q := 121) (st' := _ :: .int 5 :: _ :: _) rfl ?_
      refine ev_get (q := 124) rfl (mH_o hn) rfl rfl rfl ?_
      refine ev_go 5 (q := 131) rfl ?_
      refine ev_icmp_ne (t := 138) (q := 134) rfl rfl rfl (fun zc2 => ?_) (fun zc2 => ?_)
      · refine ev_go 1 (q := 139) rfl ?_
        refine ev_get (q := 142) rfl (mH_o hn) rfl rfl rfl ?_
        refine ev_go 5 (q := 148) (st' := .int ((5 * _) + _) :: _ :: _ :: _ :: _) rfl ?_
        refine ev_mia (q := 149) hn rfl (by decide) rfl (by rw [show (5 : Int32) = nI 5 from rfl, pk_mul, nI_add]) (show 5 * x + k < 200 by omega) rfl ?_
        refine ev_mias (q := 150) hn rfl (by decide) rfl (by rw [h12, show (5 : Int32) = nI 5 from rfl, pk_mul, nI_add]) (show 5 * n + k < 200 by omega) rfl ?_
        refine ev_go 4 (q := 73) (st' := .int 5 :: _ :: _) rfl ?_
        rw [show mb_s n x i v k A = va_up (va_up A 6 (va_up (A 6) (5 * n + k) 1)) 7 (va_up (A 7) (5 * n + k) (A 7 (5 * x + k))) by unfold mb_s; rw [am_b1 (Or.inl zc1), if_neg (fun q => zc2 (by rw [q]))]] at K
        rw [nI_s, show ((1 : Int32) &&& 1) = 1 by decide]
        exact l_bnd hn hn40 hx hi h12 m (k + 1) _ (by omega) K
      · refine ev_go 2 (q := 149) rfl ?_
        refine ev_mias (q := 150) hn rfl (by decide) rfl (by rw [h12, show (5 : Int32) = nI 5 from rfl, pk_mul, nI_add]) (show 5 * n + k < 200 by omega) rfl ?_
        refine ev_go 4 (q := 73) (st' := .int 5 :: _ :: _) rfl ?_
        rw [show mb_s n x i v k A = va_up (va_up A 6 (va_up (A 6) (5 * n + k) 1)) 7 (va_up (A 7) (5 * n + k) v) by unfold mb_s; rw [am_b1 (Or.inl zc1), if_pos ((nI_eq (by omega) (by omega)).mp zc2)]] at K
        rw [nI_s, show ((1 : Int32) &&& 1) = 1 by decide]
        exact l_bnd hn hn40 hx hi h12 m (k + 1) _ (by omega) K
    · refine ev_go 2 (q := 106) rfl ?_
      refine ev_icmp_ne (t := 113) (q := 109) rfl rfl rfl (fun zc3 => ?_) (fun zc3 => ?_)
      · refine ev_go 1 (q := 114) (st' := .int 0 :: _ :: _ :: _) rfl ?_
        refine ev_mzas (q := 115) hn rfl (by decide) rfl (by rw [h12, show (5 : Int32) = nI 5 from rfl, pk_mul, nI_add]) (show 5 * n + k < 200 by omega) rfl ?_
        refine ev_go 1 (q := 116) rfl ?_
        refine ev_get (q := 119) rfl (mH_o hn) rfl rfl rfl ?_
        refine ev_go 2 (q := 121) (st' := _ :: .int 5 :: _ :: _) rfl ?_
        refine ev_get (q := 124) rfl (mH_o hn) rfl rfl rfl ?_
        refine ev_go 5 (q := 131) rfl ?_
        refine ev_icmp_ne (t := 138) (q := 134) rfl rfl rfl (fun zc4 => ?_) (fun zc4 => ?_)
        · refine ev_go 1 (q := 139) rfl ?_
          refine ev_get (q := 142) rfl (mH_o hn) rfl rfl rfl ?_
          refine ev_go 5 (q := 148) (st' := .int ((5 * _) + _) :: _ :: _ :: _ :: _) rfl ?_
          refine ev_mia (q := 149) hn rfl (by decide) rfl (by rw [show (5 : Int32) = nI 5 from rfl, pk_mul, nI_add]) (show 5 * x + k < 200 by omega) rfl ?_
          refine ev_mias (q := 150) hn rfl (by decide) rfl (by rw [h12, show (5 : Int32) = nI 5 from rfl, pk_mul, nI_add]) (show 5 * n + k < 200 by omega) rfl ?_
          refine ev_go 4 (q := 73) (st' := .int 5 :: _ :: _) rfl ?_
          rw [show mb_s n x i v k A = va_up (va_up A 6 (va_up (A 6) (5 * n + k) 0)) 7 (va_up (A 7) (5 * n + k) (A 7 (5 * x + k))) by unfold mb_s; rw [am_bz (fun q => q.elim (fun q => q zc1) (fun q => zc3 (by rw [q]))), if_neg (fun q => zc3 (by rw [q]))]] at K
          rw [nI_s, show ((0 : Int32) &&& 1) = 0 by decide]
          exact l_bnd hn hn40 hx hi h12 m (k + 1) _ (by omega) K
        · refine ev_go 2 (q := 149) rfl ?_
          refine ev_mias (q := 150) hn rfl (by decide) rfl (by rw [h12, show (5 : Int32) = nI 5 from rfl, pk_mul, nI_add]) (show 5 * n + k < 200 by omega) rfl ?_
          refine ev_go 4 (q := 73) (st' := .int 5 :: _ :: _) rfl ?_
          exact absurd zc4 zc3
      · refine ev_go 2 (q := 114) (st' := .int 1 :: _ :: _ :: _) rfl ?_
        refine ev_mzas (q := 115) hn rfl (by decide) rfl (by rw [h12, show (5 : Int32) = nI 5 from rfl, pk_mul, nI_add]) (show 5 * n + k < 200 by omega) rfl ?_
        refine ev_go 1 (q := 116) rfl ?_
        refine ev_get (q := 119) rfl (mH_o hn) rfl rfl rfl ?_
        refine ev_go 2 (q := 121) (st' := _ :: .int 5 :: _ :: _) rfl ?_
        refine ev_get (q := 124) rfl (mH_o hn) rfl rfl rfl ?_
        refine ev_go 5 (q := 131) rfl ?_
        refine ev_icmp_ne (t := 138) (q := 134) rfl rfl rfl (fun zc5 => ?_) (fun zc5 => ?_)
        · refine ev_go 1 (q := 139) rfl ?_
          refine ev_get (q := 142) rfl (mH_o hn) rfl rfl rfl ?_
          refine ev_go 5 (q := 148) (st' := .int ((5 * _) + _) :: _ :: _ :: _ :: _) rfl ?_
          refine ev_mia (q := 149) hn rfl (by decide) rfl (by rw [show (5 : Int32) = nI 5 from rfl, pk_mul, nI_add]) (show 5 * x + k < 200 by omega) rfl ?_
          refine ev_mias (q := 150) hn rfl (by decide) rfl (by rw [h12, show (5 : Int32) = nI 5 from rfl, pk_mul, nI_add]) (show 5 * n + k < 200 by omega) rfl ?_
          refine ev_go 4 (q := 73) (st' := .int 5 :: _ :: _) rfl ?_
          exact absurd zc3 zc5
        · refine ev_go 2 (q := 149) rfl ?_
          refine ev_mias (q := 150) hn rfl (by decide) rfl (by rw [h12, show (5 : Int32) = nI 5 from rfl, pk_mul, nI_add]) (show 5 * n + k < 200 by omega) rfl ?_
          refine ev_go 4 (q := 73) (st' := .int 5 :: _ :: _) rfl ?_
          rw [show mb_s n x i v k A = va_up (va_up A 6 (va_up (A 6) (5 * n + k) 1)) 7 (va_up (A 7) (5 * n + k) v) by unfold mb_s; rw [am_b1 (Or.inr ((nI_eq (by omega) (by omega)).mp zc3)), if_pos ((nI_eq (by omega) (by omega)).mp zc3)]] at K
          rw [nI_s, show ((1 : Int32) &&& 1) = 1 by decide]
          exact l_bnd hn hn40 hx hi h12 m (k + 1) _ (by omega) K
def mb_A (n x i : Nat) (v : Int32) (A : Nat → Nat → Int32) : Nat → Nat → Int32 := sp_it (mb_s n x i v) 0 5 (va_up A 5 (va_up (A 5) n (A 5 x)))
theorem m_bind (hn : 43 ≤ h.1) (hd : 2 < d) {x i n : Nat} {v : Int32} (h12 : σ 12 = nI n) (hn40 : n ≤ 40) (hx : x < n) (hi : i < 5) (hs : A 6 (5 * x + i) = 0) (hf : n < 40) : am_m d z_Model_bind [.ref 18, .int (nI x), .int (nI i), .int v] (mH h σ t A) (some (.int (nI n))) (mH h (va_up (m0 σ) 12 (nI (n + 1))) t (mb_A n x i v A)) := by
  refine ev_go 2 (q := 2) (st' := .int 0 :: _ :: _) rfl ?_
  refine ev_mput (j := 0) (q := 5) hn rfl rfl rfl (by decide) rfl (mls_0 _ _ _) rfl ?_
  refine ev_go 2 (q := 7) rfl ?_
  refine ev_virt (z' := z_Model_isHandle) (q := 10) rfl rfl (by decide) rfl (by simp [Value.category]) rfl (by omega) rfl rfl (mH_o hn) (m_isHandle (σ := m0 σ) hn (by omega) h12 (by omega)) ?_
  refine ev_if_eq (t := 22) (q := 13) rfl rfl rfl (fun c => absurd c (am_bn.mpr ⟨nI_pos' (by omega), (nI_ltI (by omega) (by omega)).mpr hx⟩)) (fun zc1 => ?_)
  refine ev_go 3 (q := 16) (st' := .int 4 :: .int 0 :: _ :: _) rfl ?_
  refine ev_static (z' := z_Model_in) (q := 19) rfl rfl (by decide) rfl rfl (by simp [Value.category]) rfl (by omega) (k_in _ _ _) ?_
  refine ev_if_ne (t := 24) (q := 22) rfl rfl rfl (fun zc2 => ?_) (fun c => absurd c (am_bn.mpr ⟨nI_pos' (by omega), (nI_leI (b := 4) (by omega) (by decide)).mpr (by omega)⟩))
  refine ev_go 1 (q := 25) rfl ?_
  refine ev_get (q := 28) rfl (mH_o hn) rfl rfl rfl ?_
  refine ev_go 5 (q := 33) (st' := .int ((5 * _) + _) :: _ :: _) rfl ?_
  refine ev_mza (q := 34) hn rfl (by decide) rfl (by rw [show (5 : Int32) = nI 5 from rfl, pk_mul, nI_add]) (show 5 * x + i < 200 by omega) rfl ?_
  refine ev_if_eq (t := 40) (q := 37) rfl rfl rfl (fun zc3 => ?_) (fun c => absurd hs c)
  refine ev_go 1 (q := 41) rfl ?_
  refine ev_get (q := 44) rfl (mH_o hn) rfl rfl rfl ?_
  refine ev_go 1 (q := 46) (st' := .int 40 :: _ :: _) rfl ?_
  refine ev_icmp_ne (t := 52) (q := 49) rfl rfl rfl (fun zc4 => ?_) (fun c => absurd c (fun q => absurd ((nI_eq (b := 40) (by omega) (by decide)).mp (h12.symm.trans q)) (by omega)))
  refine ev_go 1 (q := 53) rfl ?_
  refine ev_get (q := 56) rfl (mH_o hn) rfl rfl rfl ?_
  refine ev_go 1 (q := 57) rfl ?_
  refine ev_get (q := 60) rfl (mH_o hn) rfl rfl rfl ?_
  refine ev_go 1 (q := 61) rfl ?_
  refine ev_get (q := 64) rfl (mH_o hn) rfl rfl rfl ?_
  refine ev_go 1 (q := 65) rfl ?_
  refine ev_mia (q := 66) hn rfl (by decide) rfl rfl (show x < 40 by omega) rfl ?_
  refine ev_mias (q := 67) hn rfl (by decide) rfl h12 (show n < 40 by omega) rfl ?_
  refine ev_go 4 (q := 73) (st' := .int 5 :: _ :: _) rfl ?_
  rw [show Int32.ofInt 0 = nI 0 from rfl]
  refine l_bnd (σ := m0 σ) hn hf hx hi h12 5 0 _ (by omega) ?_
  refine ev_go 2 (q := 158) rfl ?_
  refine ev_get (q := 161) rfl (mH_o hn) rfl rfl rfl ?_
  refine ev_tp (y := nI n) h12 ?_
  refine ev_go 2 (q := 163) (st' := .int (_ + 1) :: _ :: _) rfl ?_
  refine ev_mput (j := 12) (q := 166) hn rfl rfl rfl (by decide) rfl (mls_12 _ _ _) rfl ?_
  refine ev_go 1 (q := 167) rfl ?_
  refine ev_get (q := 170) rfl (mH_o hn) rfl rfl rfl ?_
  refine ev_go 2 (q := 172) (st' := .int (_ - 1) :: _) rfl ?_
  exact ev_iret rfl rfl (by rw [va_up_self, nI_1]; exact nI_pred n) (by rw [show nI n + 1 = nI (n + 1) from nI_1 n]; rfl)
theorem m_sameB (hn : 43 ≤ h.1) (hd : 2 < d) {n : Nat} (h12 : σ 12 = nI n) (hn40 : n ≤ 40) {x y : Int32} (hb : ¬ ((0 ≤ x ∧ x < nI n) ∧ (0 ≤ y ∧ y < nI n))) : am_m d z_Model_same [.ref 18, .int x, .int y] (mH h σ t A) (some (.int (-1))) (mH h (m0 σ) t A) := by
  refine ev_go 2 (q := 2) (st' := .int 0 :: _ :: _) rfl ?_
  refine ev_mput (j := 0) (q := 5) hn rfl rfl rfl (by decide) rfl (mls_0 _ _ _) rfl ?_
  refine ev_go 2 (q := 7) rfl ?_
  refine ev_virt (z' := z_Model_isHandle) (q := 10) rfl rfl (by decide) rfl (by simp [Value.category]) rfl (by omega) rfl rfl (mH_o hn) (m_isHandle (σ := m0 σ) hn (by omega) h12 (by omega)) ?_
  refine ev_if_eq (t := 21) (q := 13) rfl rfl rfl (fun zc1 => ?_) (fun zc1 => ?_)
  · refine ev_go 1 (q := 22) (st' := .int (-1) :: _) rfl ?_
    exact ev_iret rfl rfl (rfl) (rfl)
  · refine ev_go 2 (q := 15) rfl ?_
    refine ev_virt (z' := z_Model_isHandle) (q := 18) rfl rfl (by decide) rfl (by simp [Value.category]) rfl (by omega) rfl rfl (mH_o hn) (m_isHandle (σ := m0 σ) hn (by omega) h12 (by omega)) ?_
    refine ev_if_ne (t := 23) (q := 21) rfl rfl rfl (fun zc2 => ?_) (fun zc2 => ?_)
    · exact absurd ⟨am_bn.mp zc1, am_bn.mp zc2⟩ hb
    · refine ev_go 1 (q := 22) (st' := .int (-1) :: _) rfl ?_
      exact ev_iret rfl rfl (rfl) (rfl)
def ms_eq (A : Nat → Nat → Int32) (x y k : Nat) : Prop := A 6 (5 * x + k) = A 6 (5 * y + k) ∧ (A 6 (5 * x + k) = 0 ∨ A 7 (5 * x + k) = A 7 (5 * y + k))
noncomputable def ms_es (A : Nat → Nat → Int32) (x y k : Nat) (z : Int32) : Int32 := z &&& cb (ms_eq A x y k)
noncomputable def ms_same (A : Nat → Nat → Int32) (x y : Nat) : Int32 := sp_it (ms_es A x y) 0 5 (am_b (A 5 x = A 5 y))
theorem l_sam (hn : 43 ≤ h.1) {x y : Nat} (hx : x < 40) (hy : y < 40) : ∀ (m k : Nat) (X : Int32) (e5 : Option Value) (e6 : Option Value), k + m = 5 → (∀ e5 e6 : Option Value, am_ev d z_Model_same (127, [some (.ref 18), some (.int (nI x)), some (.int (nI y)), some (.int (sp_it (ms_es A x y) k m X)), some (.int (nI 5)), e5, e6], [], mH h σ t A) res h') → am_ev d z_Model_same (50, [some (.ref 18), some (.int (nI x)), some (.int (nI y)), some (.int X), some (.int (nI k)), e5, e6], [.int 5, .int (nI k)], mH h σ t A) res h'
  | 0, k, X, e5, e6, hm, K => by
    refine ev_icmp_ge (t := 127) (q := 53) rfl rfl rfl (fun _ => ?_) (fun c1 => absurd (nI_end (b := 5) hm (by omega)) c1)
    have hc : k = 5 := hm
    subst hc
    exact K e5 e6
  | m + 1, k, X, e5, e6, hm, K => by
    refine ev_icmp_ge (t := 127) (q := 53) rfl rfl rfl (fun c1 => absurd c1 (nI_ge (b := 5) (by omega) (by omega))) (fun _ => ?_)
    simp only [sp_it] at K
    refine ev_go 12 (q := 69) rfl ?_
    rw [show Int32.ofInt 5 * nI x + nI k = nI (5 * x + k) by rw [show Int32.ofInt 5 = nI 5 from rfl, pk_mul, nI_add], show Int32.ofInt 5 * nI y + nI k = nI (5 * y + k) by rw [show Int32.ofInt 5 = nI 5 from rfl, pk_mul, nI_add]]
    refine ev_go 2 (q := 71) rfl ?_
    refine ev_get (q := 74) rfl (mH_o hn) rfl rfl rfl ?_
    refine ev_go 1 (q := 76) rfl ?_
    refine ev_mza (q := 77) hn rfl (by decide) rfl rfl (show 5 * x + k < 200 by omega) rfl ?_
    refine ev_go 1 (q := 78) rfl ?_
    refine ev_get (q := 81) rfl (mH_o hn) rfl rfl rfl ?_
    refine ev_go 1 (q := 83) rfl ?_
    refine ev_mza (q := 84) hn rfl (by decide) rfl rfl (show 5 * y + k < 200 by omega) rfl ?_
    refine ev_icmp_ne (t := 118) (q := 87) rfl rfl rfl (fun zc1 => ?_) (fun zc1 => ?_)
    · refine ev_go 7 (q := 50) (st' := .int 5 :: _ :: _) rfl ?_
      rw [show ms_es A x y k X = X &&& 0 by unfold ms_es; rw [cb_z (fun q => zc1 q.1)]] at K
      rw [nI_s]
      exact l_sam hn hx hy m (k + 1) _ _ _ (by omega) K
    · refine ev_go 1 (q := 88) rfl ?_
      refine ev_get (q := 91) rfl (mH_o hn) rfl rfl rfl ?_
      refine ev_go 1 (q := 93) rfl ?_
      refine ev_mza (q := 94) hn rfl (by decide) rfl rfl (show 5 * x + k < 200 by omega) rfl ?_
      refine ev_if_eq (t := 114) (q := 97) rfl rfl rfl (fun zc2 => ?_) (fun zc2 => ?_)
      · refine ev_go 8 (q := 50) (st' := .int 5 :: _ :: _) rfl ?_
        rw [show ms_es A x y k X = X &&& 1 by unfold ms_es; rw [cb_1 ⟨zc1, Or.inl zc2⟩]] at K
        rw [nI_s]
        exact l_sam hn hx hy m (k + 1) _ _ _ (by omega) K
      · refine ev_go 1 (q := 98) rfl ?_
        refine ev_get (q := 101) rfl (mH_o hn) rfl rfl rfl ?_
        refine ev_go 1 (q := 103) rfl ?_
        refine ev_mia (q := 104) hn rfl (by decide) rfl rfl (show 5 * x + k < 200 by omega) rfl ?_
        refine ev_go 1 (q := 105) rfl ?_
        refine ev_get (q := 108) rfl (mH_o hn) rfl rfl rfl ?_
        refine ev_go 1 (q := 110) rfl ?_
        refine ev_mia (q := 111) hn rfl (by decide) rfl rfl (show 5 * y + k < 200 by omega) rfl ?_
        refine ev_icmp_ne (t := 118) (q := 114) rfl rfl rfl (fun zc3 => ?_) (fun zc3 => ?_)
        · refine ev_go 7 (q := 50) (st' := .int 5 :: _ :: _) rfl ?_
          rw [show ms_es A x y k X = X &&& 0 by unfold ms_es; rw [cb_z (fun q => q.2.elim zc2 zc3)]] at K
          rw [nI_s]
          exact l_sam hn hx hy m (k + 1) _ _ _ (by omega) K
        · refine ev_go 8 (q := 50) (st' := .int 5 :: _ :: _) rfl ?_
          rw [show ms_es A x y k X = X &&& 1 by unfold ms_es; rw [cb_1 ⟨zc1, Or.inr zc3⟩]] at K
          rw [nI_s]
          exact l_sam hn hx hy m (k + 1) _ _ _ (by omega) K
theorem m_same (hn : 43 ≤ h.1) (hd : 2 < d) {n : Nat} (h12 : σ 12 = nI n) (hn40 : n ≤ 40) {x y : Nat} (hx : x < n) (hy : y < n) : am_m d z_Model_same [.ref 18, .int (nI x), .int (nI y)] (mH h σ t A) (some (.int (am_b (¬ ms_same A x y = 0)))) (mH h (m0 σ) t A) := by
  refine ev_go 2 (q := 2) (st' := .int 0 :: _ :: _) rfl ?_
  refine ev_mput (j := 0) (q := 5) hn rfl rfl rfl (by decide) rfl (mls_0 _ _ _) rfl ?_
  refine ev_go 2 (q := 7) rfl ?_
  refine ev_virt (z' := z_Model_isHandle) (q := 10) rfl rfl (by decide) rfl (by simp [Value.category]) rfl (by omega) rfl rfl (mH_o hn) (m_isHandle (σ := m0 σ) hn (by omega) h12 (by omega)) ?_
  refine ev_if_eq (t := 21) (q := 13) rfl rfl rfl (fun c => absurd c (am_bn.mpr ⟨nI_pos' (by omega), (nI_ltI (by omega) (by omega)).mpr hx⟩)) (fun zc1 => ?_)
  refine ev_go 2 (q := 15) rfl ?_
  refine ev_virt (z' := z_Model_isHandle) (q := 18) rfl rfl (by decide) rfl (by simp [Value.category]) rfl (by omega) rfl rfl (mH_o hn) (m_isHandle (σ := m0 σ) hn (by omega) h12 (by omega)) ?_
  refine ev_if_ne (t := 23) (q := 21) rfl rfl rfl (fun zc2 => ?_) (fun c => absurd c (am_bn.mpr ⟨nI_pos' (by omega), (nI_ltI (by omega) (by omega)).mpr hy⟩))
  refine ev_go 1 (q := 24) rfl ?_
  refine ev_get (q := 27) rfl (mH_o hn) rfl rfl rfl ?_
  refine ev_go 1 (q := 28) rfl ?_
  refine ev_mia (q := 29) hn rfl (by decide) rfl rfl (show x < 40 by omega) rfl ?_
  refine ev_go 1 (q := 30) rfl ?_
  refine ev_get (q := 33) rfl (mH_o hn) rfl rfl rfl ?_
  refine ev_go 1 (q := 34) rfl ?_
  refine ev_mia (q := 35) hn rfl (by decide) rfl rfl (show y < 40 by omega) rfl ?_
  refine ev_icmp_ne (t := 42) (q := 38) rfl rfl rfl (fun zc3 => ?_) (fun zc3 => ?_)
  · refine ev_go 6 (q := 50) (st' := .int 5 :: _ :: _) rfl ?_
    rw [show Int32.ofInt 0 = nI 0 from rfl]
    refine l_sam (σ := m0 σ) (A := A) hn (show x < 40 by omega) (show y < 40 by omega) 5 0 _ _ _ (by omega) (fun e5 e6 => ?_)
    have e9 : ms_same A x y = sp_it (ms_es A x y) 0 5 0 := by unfold ms_same; rw [am_bz zc3]
    rw [e9]
    refine ev_go 1 (q := 128) rfl ?_
    refine ev_if_eq (t := 135) (q := 131) rfl rfl rfl (fun zc1 => ?_) (fun zc1 => ?_)
    · refine ev_go 1 (q := 136) (st' := .int 0 :: _) rfl ?_
      exact ev_iret rfl rfl (by first | exact (am_b1 (by assumption)).symm | exact (am_bz (fun q => q (by assumption))).symm) (rfl)
    · refine ev_go 2 (q := 136) (st' := .int 1 :: _) rfl ?_
      exact ev_iret rfl rfl (by first | exact (am_b1 (by assumption)).symm | exact (am_bz (fun q => q (by assumption))).symm) (rfl)
  · refine ev_go 7 (q := 50) (st' := .int 5 :: _ :: _) rfl ?_
    rw [show Int32.ofInt 0 = nI 0 from rfl]
    refine l_sam (σ := m0 σ) (A := A) hn (show x < 40 by omega) (show y < 40 by omega) 5 0 _ _ _ (by omega) (fun e5 e6 => ?_)
    have e9 : ms_same A x y = sp_it (ms_es A x y) 0 5 1 := by unfold ms_same; rw [am_b1 zc3]
    rw [e9]
    refine ev_go 1 (q := 128) rfl ?_
    refine ev_if_eq (t := 135) (q := 131) rfl rfl rfl (fun zc1 => ?_) (fun zc1 => ?_)
    · refine ev_go 1 (q := 136) (st' := .int 0 :: _) rfl ?_
      exact ev_iret rfl rfl (by first | exact (am_b1 (by assumption)).symm | exact (am_bz (fun q => q (by assumption))).symm) (rfl)
    · refine ev_go 2 (q := 136) (st' := .int 1 :: _) rfl ?_
      exact ev_iret rfl rfl (by first | exact (am_b1 (by assumption)).symm | exact (am_bz (fun q => q (by assumption))).symm) (rfl)
abbrev mm_ok (k n m x : Int32) : Prop := (0 ≤ k ∧ k ≤ 3) ∧ (k = 1 → 0 ≤ n ∧ n ≤ 9) ∧ (k = 2 → (0 ≤ n ∧ n ≤ 9) ∧ (0 ≤ m ∧ m ≤ 9) ∧ (0 ≤ x ∧ x ≤ 9))
theorem m_macroB (hn : 43 ≤ h.1) (hd : 2 < d) {k n m x : Int32} (hb : ¬ mm_ok k n m x) : am_m d z_Model_macro [.ref 18, .int k, .int n, .int m, .int x] (mH h σ t A) (some (.int (-1))) (mH h (m0 σ) t A) := by
  refine ev_go 2 (q := 2) (st' := .int 0 :: _ :: _) rfl ?_
  refine ev_mput (j := 0) (q := 5) hn rfl rfl rfl (by decide) rfl (mls_0 _ _ _) rfl ?_
  refine ev_go 3 (q := 8) (st' := .int 3 :: .int 0 :: _ :: _) rfl ?_
  refine ev_static (z' := z_Model_in) (q := 11) rfl rfl (by decide) rfl rfl (by simp [Value.category]) rfl (by omega) (k_in _ _ _) ?_
  refine ev_if_eq (t := 65) (q := 14) rfl rfl rfl (fun zc1 => ?_) (fun zc1 => ?_)
  · refine ev_go 1 (q := 66) (st' := .int (-1) :: _) rfl ?_
    exact ev_iret rfl rfl (rfl) (rfl)
  · refine ev_go 2 (q := 16) (st' := .int 1 :: _ :: _) rfl ?_
    refine ev_icmp_ne (t := 29) (q := 19) rfl rfl rfl (fun zc2 => ?_) (fun zc2 => ?_)
    · refine ev_go 2 (q := 31) (st' := .int 2 :: _ :: _) rfl ?_
      refine ev_icmp_ne (t := 67) (q := 34) rfl rfl rfl (fun zc3 => ?_) (fun zc3 => ?_)
      · exfalso
        refine hb ?_
        simp only [am_b0, am_bn] at *
        simp_all [mm_ok]
      · refine ev_go 3 (q := 38) (st' := .int 9 :: .int 0 :: _ :: _) rfl ?_
        refine ev_static (z' := z_Model_in) (q := 41) rfl rfl (by decide) rfl rfl (by simp [Value.category]) rfl (by omega) (k_in _ _ _) ?_
        refine ev_if_eq (t := 65) (q := 44) rfl rfl rfl (fun zc4 => ?_) (fun zc4 => ?_)
        · refine ev_go 1 (q := 66) (st' := .int (-1) :: _) rfl ?_
          exact ev_iret rfl rfl (rfl) (rfl)
        · refine ev_go 3 (q := 48) (st' := .int 9 :: .int 0 :: _ :: _) rfl ?_
          refine ev_static (z' := z_Model_in) (q := 51) rfl rfl (by decide) rfl rfl (by simp [Value.category]) rfl (by omega) (k_in _ _ _) ?_
          refine ev_if_eq (t := 65) (q := 54) rfl rfl rfl (fun zc5 => ?_) (fun zc5 => ?_)
          · refine ev_go 1 (q := 66) (st' := .int (-1) :: _) rfl ?_
            exact ev_iret rfl rfl (rfl) (rfl)
          · refine ev_go 3 (q := 59) (st' := .int 9 :: .int 0 :: _ :: _) rfl ?_
            refine ev_static (z' := z_Model_in) (q := 62) rfl rfl (by decide) rfl rfl (by simp [Value.category]) rfl (by omega) (k_in _ _ _) ?_
            refine ev_if_ne (t := 67) (q := 65) rfl rfl rfl (fun zc6 => ?_) (fun zc6 => ?_)
            · exfalso
              refine hb ?_
              simp only [am_b0, am_bn] at *
              simp_all [mm_ok]
            · refine ev_go 1 (q := 66) (st' := .int (-1) :: _) rfl ?_
              exact ev_iret rfl rfl (rfl) (rfl)
    · refine ev_go 3 (q := 23) (st' := .int 9 :: .int 0 :: _ :: _) rfl ?_
      refine ev_static (z' := z_Model_in) (q := 26) rfl rfl (by decide) rfl rfl (by simp [Value.category]) rfl (by omega) (k_in _ _ _) ?_
      refine ev_if_eq (t := 65) (q := 29) rfl rfl rfl (fun zc7 => ?_) (fun zc7 => ?_)
      · refine ev_go 1 (q := 66) (st' := .int (-1) :: _) rfl ?_
        exact ev_iret rfl rfl (rfl) (rfl)
      · refine ev_go 2 (q := 31) (st' := .int 2 :: _ :: _) rfl ?_
        refine ev_icmp_ne (t := 67) (q := 34) rfl rfl rfl (fun zc8 => ?_) (fun zc8 => ?_)
        · exfalso
          refine hb ?_
          simp only [am_b0, am_bn] at *
          simp_all [mm_ok]
        · refine ev_go 3 (q := 38) (st' := .int 9 :: .int 0 :: _ :: _) rfl ?_
          refine ev_static (z' := z_Model_in) (q := 41) rfl rfl (by decide) rfl rfl (by simp [Value.category]) rfl (by omega) (k_in _ _ _) ?_
          refine ev_if_eq (t := 65) (q := 44) rfl rfl rfl (fun zc9 => ?_) (fun zc9 => ?_)
          · refine ev_go 1 (q := 66) (st' := .int (-1) :: _) rfl ?_
            exact ev_iret rfl rfl (rfl) (rfl)
          · refine ev_go 3 (q := 48) (st' := .int 9 :: .int 0 :: _ :: _) rfl ?_
            refine ev_static (z' := z_Model_in) (q := 51) rfl rfl (by decide) rfl rfl (by simp [Value.category]) rfl (by omega) (k_in _ _ _) ?_
            refine ev_if_eq (t := 65) (q := 54) rfl rfl rfl (fun zc10 => ?_) (fun zc10 => ?_)
            · refine ev_go 1 (q := 66) (st' := .int (-1) :: _) rfl ?_
              exact ev_iret rfl rfl (rfl) (rfl)
            · refine ev_go 3 (q := 59) (st' := .int 9 :: .int 0 :: _ :: _) rfl ?_
              refine ev_static (z' := z_Model_in) (q := 62) rfl rfl (by decide) rfl rfl (by simp [Value.category]) rfl (by omega) (k_in _ _ _) ?_
              refine ev_if_ne (t := 67) (q := 65) rfl rfl rfl (fun zc11 => ?_) (fun zc11 => ?_)
              · exfalso
                refine hb ?_
                simp only [am_b0, am_bn] at *
                simp_all [mm_ok]
              · refine ev_go 1 (q := 66) (st' := .int (-1) :: _) rfl ?_
                exact ev_iret rfl rfl (rfl) (rfl)
theorem m_macroF (hn : 43 ≤ h.1) (hd : 2 < d) {k n m x : Int32} (hb : mm_ok k n m x) (h16 : σ 16 = nI 20) : am_m d z_Model_macro [.ref 18, .int k, .int n, .int m, .int x] (mH h σ t A) (some (.int (-3))) (mH h (m0 σ) t A) := by
  refine ev_go 2 (q := 2) (st' := .int 0 :: _ :: _) rfl ?_
  refine ev_mput (j := 0) (q := 5) hn rfl rfl rfl (by decide) rfl (mls_0 _ _ _) rfl ?_
  refine ev_go 3 (q := 8) (st' := .int 3 :: .int 0 :: _ :: _) rfl ?_
  refine ev_static (z' := z_Model_in) (q := 11) rfl rfl (by decide) rfl rfl (by simp [Value.category]) rfl (by omega) (k_in _ _ _) ?_
  refine ev_if_eq (t := 65) (q := 14) rfl rfl rfl (fun zc1 => ?_) (fun zc1 => ?_)
  · exfalso
    simp only [am_b0, am_bn] at *
    simp_all [mm_ok]
  · refine ev_go 2 (q := 16) (st' := .int 1 :: _ :: _) rfl ?_
    refine ev_icmp_ne (t := 29) (q := 19) rfl rfl rfl (fun zc2 => ?_) (fun zc2 => ?_)
    · refine ev_go 2 (q := 31) (st' := .int 2 :: _ :: _) rfl ?_
      refine ev_icmp_ne (t := 67) (q := 34) rfl rfl rfl (fun zc3 => ?_) (fun zc3 => ?_)
      · refine ev_go 1 (q := 68) rfl ?_
        refine ev_get (q := 71) rfl (mH_o hn) rfl rfl rfl ?_
        refine ev_go 1 (q := 73) (st' := .int 20 :: _ :: _) rfl ?_
        refine ev_icmp_ne (t := 79) (q := 76) rfl rfl rfl (fun c => absurd h16 c) (fun zc1 => ?_)
        refine ev_go 1 (q := 78) (st' := .int (-3) :: _) rfl ?_
        exact ev_iret rfl rfl (rfl) (rfl)
      · refine ev_go 3 (q := 38) (st' := .int 9 :: .int 0 :: _ :: _) rfl ?_
        refine ev_static (z' := z_Model_in) (q := 41) rfl rfl (by decide) rfl rfl (by simp [Value.category]) rfl (by omega) (k_in _ _ _) ?_
        refine ev_if_eq (t := 65) (q := 44) rfl rfl rfl (fun zc4 => ?_) (fun zc4 => ?_)
        · exfalso
          simp only [am_b0, am_bn] at *
          simp_all [mm_ok]
        · refine ev_go 3 (q := 48) (st' := .int 9 :: .int 0 :: _ :: _) rfl ?_
          refine ev_static (z' := z_Model_in) (q := 51) rfl rfl (by decide) rfl rfl (by simp [Value.category]) rfl (by omega) (k_in _ _ _) ?_
          refine ev_if_eq (t := 65) (q := 54) rfl rfl rfl (fun zc5 => ?_) (fun zc5 => ?_)
          · exfalso
            simp only [am_b0, am_bn] at *
            simp_all [mm_ok]
          · refine ev_go 3 (q := 59) (st' := .int 9 :: .int 0 :: _ :: _) rfl ?_
            refine ev_static (z' := z_Model_in) (q := 62) rfl rfl (by decide) rfl rfl (by simp [Value.category]) rfl (by omega) (k_in _ _ _) ?_
            refine ev_if_ne (t := 67) (q := 65) rfl rfl rfl (fun zc6 => ?_) (fun zc6 => ?_)
            · refine ev_go 1 (q := 68) rfl ?_
              refine ev_get (q := 71) rfl (mH_o hn) rfl rfl rfl ?_
              refine ev_go 1 (q := 73) (st' := .int 20 :: _ :: _) rfl ?_
              refine ev_icmp_ne (t := 79) (q := 76) rfl rfl rfl (fun c => absurd h16 c) (fun zc1 => ?_)
              refine ev_go 1 (q := 78) (st' := .int (-3) :: _) rfl ?_
              exact ev_iret rfl rfl (rfl) (rfl)
            · exfalso
              simp only [am_b0, am_bn] at *
              simp_all [mm_ok]
    · refine ev_go 3 (q := 23) (st' := .int 9 :: .int 0 :: _ :: _) rfl ?_
      refine ev_static (z' := z_Model_in) (q := 26) rfl rfl (by decide) rfl rfl (by simp [Value.category]) rfl (by omega) (k_in _ _ _) ?_
      refine ev_if_eq (t := 65) (q := 29) rfl rfl rfl (fun zc7 => ?_) (fun zc7 => ?_)
      · exfalso
        simp only [am_b0, am_bn] at *
        simp_all [mm_ok]
      · refine ev_go 2 (q := 31) (st' := .int 2 :: _ :: _) rfl ?_
        refine ev_icmp_ne (t := 67) (q := 34) rfl rfl rfl (fun zc8 => ?_) (fun zc8 => ?_)
        · refine ev_go 1 (q := 68) rfl ?_
          refine ev_get (q := 71) rfl (mH_o hn) rfl rfl rfl ?_
          refine ev_go 1 (q := 73) (st' := .int 20 :: _ :: _) rfl ?_
          refine ev_icmp_ne (t := 79) (q := 76) rfl rfl rfl (fun c => absurd h16 c) (fun zc1 => ?_)
          refine ev_go 1 (q := 78) (st' := .int (-3) :: _) rfl ?_
          exact ev_iret rfl rfl (rfl) (rfl)
        · refine ev_go 3 (q := 38) (st' := .int 9 :: .int 0 :: _ :: _) rfl ?_
          refine ev_static (z' := z_Model_in) (q := 41) rfl rfl (by decide) rfl rfl (by simp [Value.category]) rfl (by omega) (k_in _ _ _) ?_
          refine ev_if_eq (t := 65) (q := 44) rfl rfl rfl (fun zc9 => ?_) (fun zc9 => ?_)
          · exfalso
            simp only [am_b0, am_bn] at *
            simp_all [mm_ok]
          · refine ev_go 3 (q := 48) (st' := .int 9 :: .int 0 :: _ :: _) rfl ?_
            refine ev_static (z' := z_Model_in) (q := 51) rfl rfl (by decide) rfl rfl (by simp [Value.category]) rfl (by omega) (k_in _ _ _) ?_
            refine ev_if_eq (t := 65) (q := 54) rfl rfl rfl (fun zc10 => ?_) (fun zc10 => ?_)
            · exfalso
              simp only [am_b0, am_bn] at *
              simp_all [mm_ok]
            · refine ev_go 3 (q := 59) (st' := .int 9 :: .int 0 :: _ :: _) rfl ?_
              refine ev_static (z' := z_Model_in) (q := 62) rfl rfl (by decide) rfl rfl (by simp [Value.category]) rfl (by omega) (k_in _ _ _) ?_
              refine ev_if_ne (t := 67) (q := 65) rfl rfl rfl (fun zc11 => ?_) (fun zc11 => ?_)
              · refine ev_go 1 (q := 68) rfl ?_
                refine ev_get (q := 71) rfl (mH_o hn) rfl rfl rfl ?_
                refine ev_go 1 (q := 73) (st' := .int 20 :: _ :: _) rfl ?_
                refine ev_icmp_ne (t := 79) (q := 76) rfl rfl rfl (fun c => absurd h16 c) (fun zc1 => ?_)
                refine ev_go 1 (q := 78) (st' := .int (-3) :: _) rfl ?_
                exact ev_iret rfl rfl (rfl) (rfl)
              · exfalso
                simp only [am_b0, am_bn] at *
                simp_all [mm_ok]
def mm_A (q : Nat) (k n m x : Int32) (A : Nat → Nat → Int32) : Nat → Nat → Int32 := va_up (va_up (va_up (va_up (va_up A 8 (va_up (A 8) q k)) 9 (va_up (A 9) q n)) 10 (va_up (A 10) q m)) 11 (va_up (A 11) q x)) 12 (va_up (A 12) q 0)
theorem t_mac (hn : 43 ≤ h.1) {k n m x : Int32} {q : Nat} (h16 : σ 16 = nI q) (hq : q < 20) : am_ev d z_Model_macro (67, [some (.ref 18), some (.int k), some (.int n), some (.int m), some (.int x)], [], (mH h (m0 σ) t A)) (some (.int (nI q))) (mH h (va_up (m0 σ) 16 (nI (q + 1))) t (mm_A q k n m x A)) := by
  refine ev_go 1 (q := 68) rfl ?_
  refine ev_get (q := 71) rfl (mH_o hn) rfl rfl rfl ?_
  refine ev_go 1 (q := 73) (st' := .int 20 :: _ :: _) rfl ?_
  refine ev_icmp_ne (t := 79) (q := 76) rfl rfl rfl (fun zc1 => ?_) (fun c => absurd c (fun z => absurd ((nI_eq (b := 20) (by omega) (by decide)).mp (h16.symm.trans z)) (by omega)))
  refine ev_go 1 (q := 80) rfl ?_
  refine ev_get (q := 83) rfl (mH_o hn) rfl rfl rfl ?_
  refine ev_go 1 (q := 84) rfl ?_
  refine ev_get (q := 87) rfl (mH_o hn) rfl rfl rfl ?_
  refine ev_go 1 (q := 88) rfl ?_
  refine ev_mias (q := 89) hn rfl (by decide) rfl h16 hq rfl ?_
  refine ev_go 1 (q := 90) rfl ?_
  refine ev_get (q := 93) rfl (mH_o hn) rfl rfl rfl ?_
  refine ev_go 1 (q := 94) rfl ?_
  refine ev_get (q := 97) rfl (mH_o hn) rfl rfl rfl ?_
  refine ev_go 1 (q := 98) rfl ?_
  refine ev_mias (q := 99) hn rfl (by decide) rfl h16 hq rfl ?_
  refine ev_go 1 (q := 100) rfl ?_
  refine ev_get (q := 103) rfl (mH_o hn) rfl rfl rfl ?_
  refine ev_go 1 (q := 104) rfl ?_
  refine ev_get (q := 107) rfl (mH_o hn) rfl rfl rfl ?_
  refine ev_go 1 (q := 108) rfl ?_
  refine ev_mias (q := 109) hn rfl (by decide) rfl h16 hq rfl ?_
  refine ev_go 1 (q := 110) rfl ?_
  refine ev_get (q := 113) rfl (mH_o hn) rfl rfl rfl ?_
  refine ev_go 1 (q := 114) rfl ?_
  refine ev_get (q := 117) rfl (mH_o hn) rfl rfl rfl ?_
  refine ev_go 1 (q := 119) rfl ?_
  refine ev_mias (q := 120) hn rfl (by decide) rfl h16 hq rfl ?_
  refine ev_go 1 (q := 121) rfl ?_
  refine ev_get (q := 124) rfl (mH_o hn) rfl rfl rfl ?_
  refine ev_go 1 (q := 125) rfl ?_
  refine ev_get (q := 128) rfl (mH_o hn) rfl rfl rfl ?_
  refine ev_go 1 (q := 129) (st' := .int 0 :: _ :: _ :: _) rfl ?_
  refine ev_mias (q := 130) hn rfl (by decide) rfl h16 hq rfl ?_
  refine ev_go 2 (q := 132) rfl ?_
  refine ev_get (q := 135) rfl (mH_o hn) rfl rfl rfl ?_
  refine ev_tp (y := nI q) h16 ?_
  refine ev_go 2 (q := 137) (st' := .int (_ + 1) :: _ :: _) rfl ?_
  refine ev_mput (j := 16) (q := 140) hn rfl rfl rfl (by decide) rfl (mls_16 _ _ _) rfl ?_
  refine ev_go 1 (q := 141) rfl ?_
  refine ev_get (q := 144) rfl (mH_o hn) rfl rfl rfl ?_
  refine ev_go 2 (q := 146) (st' := .int (_ - 1) :: _) rfl ?_
  exact ev_iret rfl rfl (by rw [va_up_self, nI_1]; exact nI_pred q) (by rw [show nI q + 1 = nI (q + 1) from nI_1 q]; rfl)
theorem m_macro (hn : 43 ≤ h.1) (hd : 2 < d) {k n m x : Int32} {q : Nat} (hb : mm_ok k n m x) (h16 : σ 16 = nI q) (hq : q < 20) : am_m d z_Model_macro [.ref 18, .int k, .int n, .int m, .int x] (mH h σ t A) (some (.int (nI q))) (mH h (va_up (m0 σ) 16 (nI (q + 1))) t (mm_A q k n m x A)) := by
  refine ev_go 2 (q := 2) (st' := .int 0 :: _ :: _) rfl ?_
  refine ev_mput (j := 0) (q := 5) hn rfl rfl rfl (by decide) rfl (mls_0 _ _ _) rfl ?_
  refine ev_go 3 (q := 8) (st' := .int 3 :: .int 0 :: _ :: _) rfl ?_
  refine ev_static (z' := z_Model_in) (q := 11) rfl rfl (by decide) rfl rfl (by simp [Value.category]) rfl (by omega) (k_in _ _ _) ?_
  refine ev_if_eq (t := 65) (q := 14) rfl rfl rfl (fun zc1 => ?_) (fun zc1 => ?_)
  · exfalso
    simp only [am_b0, am_bn] at *
    simp_all [mm_ok]
  · refine ev_go 2 (q := 16) (st' := .int 1 :: _ :: _) rfl ?_
    refine ev_icmp_ne (t := 29) (q := 19) rfl rfl rfl (fun zc2 => ?_) (fun zc2 => ?_)
    · refine ev_go 2 (q := 31) (st' := .int 2 :: _ :: _) rfl ?_
      refine ev_icmp_ne (t := 67) (q := 34) rfl rfl rfl (fun zc3 => ?_) (fun zc3 => ?_)
      · exact t_mac hn h16 hq
      · refine ev_go 3 (q := 38) (st' := .int 9 :: .int 0 :: _ :: _) rfl ?_
        refine ev_static (z' := z_Model_in) (q := 41) rfl rfl (by decide) rfl rfl (by simp [Value.category]) rfl (by omega) (k_in _ _ _) ?_
        refine ev_if_eq (t := 65) (q := 44) rfl rfl rfl (fun zc4 => ?_) (fun zc4 => ?_)
        · exfalso
          simp only [am_b0, am_bn] at *
          simp_all [mm_ok]
        · refine ev_go 3 (q := 48) (st' := .int 9 :: .int 0 :: _ :: _) rfl ?_
          refine ev_static (z' := z_Model_in) (q := 51) rfl rfl (by decide) rfl rfl (by simp [Value.category]) rfl (by omega) (k_in _ _ _) ?_
          refine ev_if_eq (t := 65) (q := 54) rfl rfl rfl (fun zc5 => ?_) (fun zc5 => ?_)
          · exfalso
            simp only [am_b0, am_bn] at *
            simp_all [mm_ok]
          · refine ev_go 3 (q := 59) (st' := .int 9 :: .int 0 :: _ :: _) rfl ?_
            refine ev_static (z' := z_Model_in) (q := 62) rfl rfl (by decide) rfl rfl (by simp [Value.category]) rfl (by omega) (k_in _ _ _) ?_
            refine ev_if_ne (t := 67) (q := 65) rfl rfl rfl (fun zc6 => ?_) (fun zc6 => ?_)
            · exact t_mac hn h16 hq
            · exfalso
              simp only [am_b0, am_bn] at *
              simp_all [mm_ok]
    · refine ev_go 3 (q := 23) (st' := .int 9 :: .int 0 :: _ :: _) rfl ?_
      refine ev_static (z' := z_Model_in) (q := 26) rfl rfl (by decide) rfl rfl (by simp [Value.category]) rfl (by omega) (k_in _ _ _) ?_
      refine ev_if_eq (t := 65) (q := 29) rfl rfl rfl (fun zc7 => ?_) (fun zc7 => ?_)
      · exfalso
        simp only [am_b0, am_bn] at *
        simp_all [mm_ok]
      · refine ev_go 2 (q := 31) (st' := .int 2 :: _ :: _) rfl ?_
        refine ev_icmp_ne (t := 67) (q := 34) rfl rfl rfl (fun zc8 => ?_) (fun zc8 => ?_)
        · exact t_mac hn h16 hq
        · refine ev_go 3 (q := 38) (st' := .int 9 :: .int 0 :: _ :: _) rfl ?_
          refine ev_static (z' := z_Model_in) (q := 41) rfl rfl (by decide) rfl rfl (by simp [Value.category]) rfl (by omega) (k_in _ _ _) ?_
          refine ev_if_eq (t := 65) (q := 44) rfl rfl rfl (fun zc9 => ?_) (fun zc9 => ?_)
          · exfalso
            simp only [am_b0, am_bn] at *
            simp_all [mm_ok]
          · refine ev_go 3 (q := 48) (st' := .int 9 :: .int 0 :: _ :: _) rfl ?_
            refine ev_static (z' := z_Model_in) (q := 51) rfl rfl (by decide) rfl rfl (by simp [Value.category]) rfl (by omega) (k_in _ _ _) ?_
            refine ev_if_eq (t := 65) (q := 54) rfl rfl rfl (fun zc10 => ?_) (fun zc10 => ?_)
            · exfalso
              simp only [am_b0, am_bn] at *
              simp_all [mm_ok]
            · refine ev_go 3 (q := 59) (st' := .int 9 :: .int 0 :: _ :: _) rfl ?_
              refine ev_static (z' := z_Model_in) (q := 62) rfl rfl (by decide) rfl rfl (by simp [Value.category]) rfl (by omega) (k_in _ _ _) ?_
              refine ev_if_ne (t := 67) (q := 65) rfl rfl rfl (fun zc11 => ?_) (fun zc11 => ?_)
              · exact t_mac hn h16 hq
              · exfalso
                simp only [am_b0, am_bn] at *
                simp_all [mm_ok]
theorem m_partB (hn : 43 ≤ h.1) (hd : 2 < d) {q n : Nat} (h16 : σ 16 = nI q) (hq : q ≤ 20) (h12 : σ 12 = nI n) (hn40 : n ≤ 40) {x y a b c e : Int32} (hb : ¬ ((0 ≤ x ∧ x < nI q) ∧ (0 ≤ y ∧ y < nI n))) : am_m d z_Model_part [.ref 18, .int x, .int y, .int a, .int b, .int c, .int e] (mH h σ t A) (some (.int (-1))) (mH h (m0 σ) t A) := by
  refine ev_go 2 (q := 2) (st' := .int 0 :: _ :: _) rfl ?_
  refine ev_mput (j := 0) (q := 5) hn rfl rfl rfl (by decide) rfl (mls_0 _ _ _) rfl ?_
  refine ev_go 2 (q := 7) rfl ?_
  refine ev_virt (z' := z_Model_isMacro) (q := 10) rfl rfl (by decide) rfl (by simp [Value.category]) rfl (by omega) rfl rfl (mH_o hn) (m_isMacro (σ := m0 σ) hn (by omega) h16 (by omega)) ?_
  refine ev_if_eq (t := 21) (q := 13) rfl rfl rfl (fun zc1 => ?_) (fun zc1 => ?_)
  · refine ev_go 1 (q := 22) (st' := .int (-1) :: _) rfl ?_
    exact ev_iret rfl rfl (rfl) (rfl)
  · refine ev_go 2 (q := 15) rfl ?_
    refine ev_virt (z' := z_Model_isHandle) (q := 18) rfl rfl (by decide) rfl (by simp [Value.category]) rfl (by omega) rfl rfl (mH_o hn) (m_isHandle (σ := m0 σ) hn (by omega) h12 (by omega)) ?_
    refine ev_if_ne (t := 23) (q := 21) rfl rfl rfl (fun zc2 => ?_) (fun zc2 => ?_)
    · exact absurd ⟨am_bn.mp zc1, am_bn.mp zc2⟩ hb
    · refine ev_go 1 (q := 22) (st' := .int (-1) :: _) rfl ?_
      exact ev_iret rfl rfl (rfl) (rfl)
theorem m_partF (hn : 43 ≤ h.1) (hd : 2 < d) {q n : Nat} (h16 : σ 16 = nI q) (hq : q ≤ 20) (h12 : σ 12 = nI n) (hn40 : n ≤ 40) {x y p : Nat} {a b c e : Int32} (hx : x < q) (hy : y < n) (hp : A 12 x = nI p) (hp8 : p = 8) : am_m d z_Model_part [.ref 18, .int (nI x), .int (nI y), .int a, .int b, .int c, .int e] (mH h σ t A) (some (.int (-3))) (mH h (m0 σ) t A) := by
  refine ev_go 2 (q := 2) (st' := .int 0 :: _ :: _) rfl ?_
  refine ev_mput (j := 0) (q := 5) hn rfl rfl rfl (by decide) rfl (mls_0 _ _ _) rfl ?_
  refine ev_go 2 (q := 7) rfl ?_
  refine ev_virt (z' := z_Model_isMacro) (q := 10) rfl rfl (by decide) rfl (by simp [Value.category]) rfl (by omega) rfl rfl (mH_o hn) (m_isMacro (σ := m0 σ) hn (by omega) h16 (by omega)) ?_
  refine ev_if_eq (t := 21) (q := 13) rfl rfl rfl (fun c => absurd c (am_bn.mpr ⟨nI_pos' (by omega), (nI_ltI (by omega) (by omega)).mpr hx⟩)) (fun zc1 => ?_)
  refine ev_go 2 (q := 15) rfl ?_
  refine ev_virt (z' := z_Model_isHandle) (q := 18) rfl rfl (by decide) rfl (by simp [Value.category]) rfl (by omega) rfl rfl (mH_o hn) (m_isHandle (σ := m0 σ) hn (by omega) h12 (by omega)) ?_
  refine ev_if_ne (t := 23) (q := 21) rfl rfl rfl (fun zc2 => ?_) (fun c => absurd c (am_bn.mpr ⟨nI_pos' (by omega), (nI_ltI (by omega) (by omega)).mpr hy⟩))
  refine ev_go 1 (q := 24) rfl ?_
  refine ev_get (q := 27) rfl (mH_o hn) rfl rfl rfl ?_
  refine ev_go 1 (q := 28) rfl ?_
  refine ev_mia (q := 29) hn rfl (by decide) rfl rfl (show x < 20 by omega) rfl ?_
  refine ev_go 1 (q := 31) (st' := .int 8 :: _ :: _) rfl ?_
  refine ev_icmp_ne (t := 37) (q := 34) rfl rfl rfl (fun c => absurd (by rw [hp, hp8]; rfl) c) (fun zc3 => ?_)
  refine ev_go 1 (q := 36) (st' := .int (-3) :: _) rfl ?_
  exact ev_iret rfl rfl (rfl) (rfl)
def mp_A (x p : Nat) (y a b c e : Int32) (A : Nat → Nat → Int32) : Nat → Nat → Int32 := va_up (va_up (va_up A 13 (va_up (A 13) (8 * x + p) y)) 14 (va_up (va_up (va_up (va_up (A 14) (4 * (8 * x + p)) a) (4 * (8 * x + p) + 1) b) (4 * (8 * x + p) + 2) c) (4 * (8 * x + p) + 3) e)) 12 (va_up (A 12) x (nI (p + 1)))
theorem m_part (hn : 43 ≤ h.1) (hd : 2 < d) {q n : Nat} (h16 : σ 16 = nI q) (hq : q ≤ 20) (h12 : σ 12 = nI n) (hn40 : n ≤ 40) {x y p : Nat} {a b c e : Int32} (hx : x < q) (hy : y < n) (hp : A 12 x = nI p) (hp8 : p < 8) : am_m d z_Model_part [.ref 18, .int (nI x), .int (nI y), .int a, .int b, .int c, .int e] (mH h σ t A) (some (.int (nI (p + 1)))) (mH h (m0 σ) t (mp_A x p (nI y) a b c e A)) := by
  refine ev_go 2 (q := 2) (st' := .int 0 :: _ :: _) rfl ?_
  refine ev_mput (j := 0) (q := 5) hn rfl rfl rfl (by decide) rfl (mls_0 _ _ _) rfl ?_
  refine ev_go 2 (q := 7) rfl ?_
  refine ev_virt (z' := z_Model_isMacro) (q := 10) rfl rfl (by decide) rfl (by simp [Value.category]) rfl (by omega) rfl rfl (mH_o hn) (m_isMacro (σ := m0 σ) hn (by omega) h16 (by omega)) ?_
  refine ev_if_eq (t := 21) (q := 13) rfl rfl rfl (fun c => absurd c (am_bn.mpr ⟨nI_pos' (by omega), (nI_ltI (by omega) (by omega)).mpr hx⟩)) (fun zc1 => ?_)
  refine ev_go 2 (q := 15) rfl ?_
  refine ev_virt (z' := z_Model_isHandle) (q := 18) rfl rfl (by decide) rfl (by simp [Value.category]) rfl (by omega) rfl rfl (mH_o hn) (m_isHandle (σ := m0 σ) hn (by omega) h12 (by omega)) ?_
  refine ev_if_ne (t := 23) (q := 21) rfl rfl rfl (fun zc2 => ?_) (fun c => absurd c (am_bn.mpr ⟨nI_pos' (by omega), (nI_ltI (by omega) (by omega)).mpr hy⟩))
  refine ev_go 1 (q := 24) rfl ?_
  refine ev_get (q := 27) rfl (mH_o hn) rfl rfl rfl ?_
  refine ev_go 1 (q := 28) rfl ?_
  refine ev_mia (q := 29) hn rfl (by decide) rfl rfl (show x < 20 by omega) rfl ?_
  refine ev_go 1 (q := 31) (st' := .int 8 :: _ :: _) rfl ?_
  refine ev_icmp_ne (t := 37) (q := 34) rfl rfl rfl (fun zc3 => ?_) (fun c => absurd c (by rw [hp]; exact fun z => absurd ((nI_eq (b := 8) (by omega) (by decide)).mp z) (by omega)))

  refine ev_go 4 (q := 42) (st' := _ :: .int (8 * _) :: _) rfl ?_
  refine ev_get (q := 45) rfl (mH_o hn) rfl rfl rfl ?_
  refine ev_go 1 (q := 46) rfl ?_
  refine ev_mia (q := 47) hn rfl (by decide) rfl rfl (show x < 20 by omega) rfl ?_
  rw [hp]
  refine ev_go 2 (q := 50) rfl ?_
  rw [show (8 : Int32) * nI x + nI p = nI (8 * x + p) by rw [show (8 : Int32) = nI 8 from rfl, pk_mul, nI_add]]
  refine ev_go 1 (q := 51) rfl ?_
  refine ev_get (q := 54) rfl (mH_o hn) rfl rfl rfl ?_
  refine ev_go 2 (q := 57) rfl ?_
  refine ev_mias (q := 58) hn rfl (by decide) rfl rfl (show 8 * x + p < 160 by omega) rfl ?_
  refine ev_go 1 (q := 59) rfl ?_
  refine ev_get (q := 62) rfl (mH_o hn) rfl rfl rfl ?_
  refine ev_go 4 (q := 67) (st' := _ :: .int (4 * _) :: _ :: _) rfl ?_
  refine ev_mias (q := 68) hn rfl (by decide) rfl (by rw [show (4 : Int32) = nI 4 from rfl, pk_mul]) (show 4 * (8 * x + p) < 640 by omega) rfl ?_
  refine ev_go 1 (q := 69) rfl ?_
  refine ev_get (q := 72) rfl (mH_o hn) rfl rfl rfl ?_
  refine ev_go 6 (q := 80) (st' := _ :: .int ((4 * _) + 1) :: _ :: _) rfl ?_
  refine ev_mias (q := 81) hn rfl (by decide) rfl (by rw [show (4 : Int32) = nI 4 from rfl, pk_mul]; exact nI_add _ 1) (show 4 * (8 * x + p) + 1 < 640 by omega) rfl ?_
  refine ev_go 1 (q := 82) rfl ?_
  refine ev_get (q := 85) rfl (mH_o hn) rfl rfl rfl ?_
  refine ev_go 6 (q := 93) (st' := _ :: .int ((4 * _) + 2) :: _ :: _) rfl ?_
  refine ev_mias (q := 94) hn rfl (by decide) rfl (by rw [show (4 : Int32) = nI 4 from rfl, pk_mul]; exact nI_add _ 2) (show 4 * (8 * x + p) + 2 < 640 by omega) rfl ?_
  refine ev_go 1 (q := 95) rfl ?_
  refine ev_get (q := 98) rfl (mH_o hn) rfl rfl rfl ?_
  refine ev_go 6 (q := 106) (st' := _ :: .int ((4 * _) + 3) :: _ :: _) rfl ?_
  refine ev_mias (q := 107) hn rfl (by decide) rfl (by rw [show (4 : Int32) = nI 4 from rfl, pk_mul]; exact nI_add _ 3) (show 4 * (8 * x + p) + 3 < 640 by omega) rfl ?_
  refine ev_go 1 (q := 108) rfl ?_
  refine ev_get (q := 111) rfl (mH_o hn) rfl rfl rfl ?_
  refine ev_go 2 (q := 113) rfl ?_
  refine ev_mia (q := 114) hn rfl (by decide) rfl rfl (show x < 20 by omega) rfl ?_
  refine ev_tp (y := nI p) hp ?_
  refine ev_go 2 (q := 116) (st' := .int (_ + 1) :: _ :: _ :: _) rfl ?_
  refine ev_mias (q := 117) hn rfl (by decide) rfl rfl (show x < 20 by omega) rfl ?_
  refine ev_go 1 (q := 118) rfl ?_
  refine ev_get (q := 121) rfl (mH_o hn) rfl rfl rfl ?_
  refine ev_go 1 (q := 122) rfl ?_
  refine ev_mia (q := 123) hn rfl (by decide) rfl rfl (show x < 20 by omega) rfl ?_
  exact ev_iret rfl rfl (by rw [va_up_self, va_up_self]; exact nI_1 p) (by rw [nI_1 p]; simp only [bx_uu]; rfl)
theorem m_nestB (hn : 43 ≤ h.1) (hd : 2 < d) {q : Nat} (h16 : σ 16 = nI q) (hq : q ≤ 20) {x y : Int32} (hb : ¬ ((0 ≤ x ∧ x < nI q) ∧ (0 ≤ y ∧ y ≤ x - 1))) : am_m d z_Model_nest [.ref 18, .int x, .int y] (mH h σ t A) (some (.int (-1))) (mH h (m0 σ) t A) := by
  refine ev_go 2 (q := 2) (st' := .int 0 :: _ :: _) rfl ?_
  refine ev_mput (j := 0) (q := 5) hn rfl rfl rfl (by decide) rfl (mls_0 _ _ _) rfl ?_
  refine ev_go 2 (q := 7) rfl ?_
  refine ev_virt (z' := z_Model_isMacro) (q := 10) rfl rfl (by decide) rfl (by simp [Value.category]) rfl (by omega) rfl rfl (mH_o hn) (m_isMacro (σ := m0 σ) hn (by omega) h16 (by omega)) ?_
  refine ev_if_eq (t := 24) (q := 13) rfl rfl rfl (fun zc1 => ?_) (fun zc1 => ?_)
  · refine ev_go 1 (q := 25) (st' := .int (-1) :: _) rfl ?_
    exact ev_iret rfl rfl (rfl) (rfl)
  · refine ev_go 5 (q := 18) (st' := .int (_ - 1) :: .int 0 :: _ :: _) rfl ?_
    refine ev_static (z' := z_Model_in) (q := 21) rfl rfl (by decide) rfl rfl (by simp [Value.category]) rfl (by omega) (k_in _ _ _) ?_
    refine ev_if_ne (t := 26) (q := 24) rfl rfl rfl (fun zc2 => ?_) (fun zc2 => ?_)
    · exact absurd ⟨am_bn.mp zc1, am_bn.mp zc2⟩ hb
    · refine ev_go 1 (q := 25) (st' := .int (-1) :: _) rfl ?_
      exact ev_iret rfl rfl (rfl) (rfl)
theorem m_nestF (hn : 43 ≤ h.1) (hd : 2 < d) {q : Nat} (h16 : σ 16 = nI q) (hq : q ≤ 20) {x y p : Nat} (hx : x < q) (hy : y < x) (hp : A 12 x = nI p) (hp8 : p = 8) : am_m d z_Model_nest [.ref 18, .int (nI x), .int (nI y)] (mH h σ t A) (some (.int (-3))) (mH h (m0 σ) t A) := by
  refine ev_go 2 (q := 2) (st' := .int 0 :: _ :: _) rfl ?_
  refine ev_mput (j := 0) (q := 5) hn rfl rfl rfl (by decide) rfl (mls_0 _ _ _) rfl ?_
  refine ev_go 2 (q := 7) rfl ?_
  refine ev_virt (z' := z_Model_isMacro) (q := 10) rfl rfl (by decide) rfl (by simp [Value.category]) rfl (by omega) rfl rfl (mH_o hn) (m_isMacro (σ := m0 σ) hn (by omega) h16 (by omega)) ?_
  refine ev_if_eq (t := 24) (q := 13) rfl rfl rfl (fun c => absurd c (am_bn.mpr ⟨nI_pos' (by omega), (nI_ltI (by omega) (by omega)).mpr hx⟩)) (fun zc1 => ?_)
  refine ev_go 5 (q := 18) (st' := .int (_ - 1) :: .int 0 :: _ :: _) rfl ?_
  refine ev_static (z' := z_Model_in) (q := 21) rfl rfl (by decide) rfl rfl (by simp [Value.category]) rfl (by omega) (k_in _ _ _) ?_
  refine ev_if_ne (t := 26) (q := 24) rfl rfl rfl (fun zc2 => ?_) (fun c => absurd c (am_bn.mpr ⟨nI_pos' (by omega), by rw [show nI x - 1 = nI (x - 1) from pk_sub (b := 1) (by omega)]; exact (nI_leI (by omega) (by omega)).mpr (by omega)⟩))
  refine ev_go 1 (q := 27) rfl ?_
  refine ev_get (q := 30) rfl (mH_o hn) rfl rfl rfl ?_
  refine ev_go 1 (q := 31) rfl ?_
  refine ev_mia (q := 32) hn rfl (by decide) rfl rfl (show x < 20 by omega) rfl ?_
  refine ev_go 1 (q := 34) (st' := .int 8 :: _ :: _) rfl ?_
  refine ev_icmp_ne (t := 40) (q := 37) rfl rfl rfl (fun c => absurd (by rw [hp, hp8]; rfl) c) (fun zc3 => ?_)
  refine ev_go 1 (q := 39) (st' := .int (-3) :: _) rfl ?_
  exact ev_iret rfl rfl (rfl) (rfl)
def mn_A (x p y : Nat) (A : Nat → Nat → Int32) : Nat → Nat → Int32 := va_up (va_up A 13 (va_up (A 13) (8 * x + p) (nI (100 + y)))) 12 (va_up (A 12) x (nI (p + 1)))
theorem m_nest (hn : 43 ≤ h.1) (hd : 2 < d) {q : Nat} (h16 : σ 16 = nI q) (hq : q ≤ 20) {x y p : Nat} (hx : x < q) (hy : y < x) (hp : A 12 x = nI p) (hp8 : p < 8) : am_m d z_Model_nest [.ref 18, .int (nI x), .int (nI y)] (mH h σ t A) (some (.int (nI (p + 1)))) (mH h (m0 σ) t (mn_A x p y A)) := by
  refine ev_go 2 (q := 2) (st' := .int 0 :: _ :: _) rfl ?_
  refine ev_mput (j := 0) (q := 5) hn rfl rfl rfl (by decide) rfl (mls_0 _ _ _) rfl ?_
  refine ev_go 2 (q := 7) rfl ?_
  refine ev_virt (z' := z_Model_isMacro) (q := 10) rfl rfl (by decide) rfl (by simp [Value.category]) rfl (by omega) rfl rfl (mH_o hn) (m_isMacro (σ := m0 σ) hn (by omega) h16 (by omega)) ?_
  refine ev_if_eq (t := 24) (q := 13) rfl rfl rfl (fun c => absurd c (am_bn.mpr ⟨nI_pos' (by omega), (nI_ltI (by omega) (by omega)).mpr hx⟩)) (fun zc1 => ?_)
  refine ev_go 5 (q := 18) (st' := .int (_ - 1) :: .int 0 :: _ :: _) rfl ?_
  refine ev_static (z' := z_Model_in) (q := 21) rfl rfl (by decide) rfl rfl (by simp [Value.category]) rfl (by omega) (k_in _ _ _) ?_
  refine ev_if_ne (t := 26) (q := 24) rfl rfl rfl (fun zc2 => ?_) (fun c => absurd c (am_bn.mpr ⟨nI_pos' (by omega), by rw [show nI x - 1 = nI (x - 1) from pk_sub (b := 1) (by omega)]; exact (nI_leI (by omega) (by omega)).mpr (by omega)⟩))
  refine ev_go 1 (q := 27) rfl ?_
  refine ev_get (q := 30) rfl (mH_o hn) rfl rfl rfl ?_
  refine ev_go 1 (q := 31) rfl ?_
  refine ev_mia (q := 32) hn rfl (by decide) rfl rfl (show x < 20 by omega) rfl ?_
  refine ev_go 1 (q := 34) (st' := .int 8 :: _ :: _) rfl ?_
  refine ev_icmp_ne (t := 40) (q := 37) rfl rfl rfl (fun zc3 => ?_) (fun c => absurd c (by rw [hp]; exact fun z => absurd ((nI_eq (b := 8) (by omega) (by decide)).mp z) (by omega)))
  refine ev_go 1 (q := 41) rfl ?_
  refine ev_get (q := 44) rfl (mH_o hn) rfl rfl rfl ?_
  refine ev_go 4 (q := 49) (st' := _ :: .int (8 * _) :: _ :: _) rfl ?_
  refine ev_get (q := 52) rfl (mH_o hn) rfl rfl rfl ?_
  refine ev_go 1 (q := 53) rfl ?_
  refine ev_mia (q := 54) hn rfl (by decide) rfl rfl (show x < 20 by omega) rfl ?_
  refine ev_go 4 (q := 59) (st' := .int (100 + _) :: _ :: _ :: _) rfl ?_
  refine ev_mias (q := 60) hn rfl (by decide) rfl (by rw [hp, show (8 : Int32) = nI 8 from rfl, pk_mul, nI_add]) (show 8 * x + p < 160 by omega) rfl ?_
  refine ev_go 1 (q := 61) rfl ?_
  refine ev_get (q := 64) rfl (mH_o hn) rfl rfl rfl ?_
  refine ev_go 2 (q := 66) rfl ?_
  refine ev_mia (q := 67) hn rfl (by decide) rfl rfl (show x < 20 by omega) rfl ?_
  refine ev_tp (y := nI p) hp ?_
  refine ev_go 2 (q := 69) (st' := .int (_ + 1) :: _ :: _ :: _) rfl ?_
  refine ev_mias (q := 70) hn rfl (by decide) rfl rfl (show x < 20 by omega) rfl ?_
  refine ev_go 1 (q := 71) rfl ?_
  refine ev_get (q := 74) rfl (mH_o hn) rfl rfl rfl ?_
  refine ev_go 1 (q := 75) rfl ?_
  refine ev_mia (q := 76) hn rfl (by decide) rfl rfl (show x < 20 by omega) rfl ?_
  exact ev_iret rfl rfl (by rw [va_up_self, va_up_self]; exact nI_1 p) (by rw [nI_1 p, show (100 : Int32) + nI y = nI (100 + y) from nI_add 100 y]; rfl)
theorem m_timesB (hn : 43 ≤ h.1) (hd : 2 < d) {q : Nat} (h16 : σ 16 = nI q) (hq : q ≤ 20) {x v : Int32} (hb : ¬ ((0 ≤ x ∧ x < nI q) ∧ A 8 x.toNatClampNeg = 1 ∧ (0 ≤ v ∧ v ≤ 9))) : am_m d z_Model_times [.ref 18, .int x, .int v] (mH h σ t A) (some (.int (-1))) (mH h (m0 σ) t A) := by
  have qx : ¬ am_b (0 ≤ x ∧ x < nI q) = 0 → x.toNatClampNeg < 20 ∧ x = nI x.toNatClampNeg := fun z => by
    obtain ⟨j, hj, e⟩ := nI_of (Int32.not_lt.mpr (am_bn.mp z).1)
    have z2 := (am_bn.mp z).2
    rw [e] at z2 ⊢
    rw [nI_clamp hj]
    exact ⟨by have := (nI_ltI hj (by omega)).mp z2; omega, rfl⟩
  refine ev_go 2 (q := 2) (st' := .int 0 :: _ :: _) rfl ?_
  refine ev_mput (j := 0) (q := 5) hn rfl rfl rfl (by decide) rfl (mls_0 _ _ _) rfl ?_
  refine ev_go 2 (q := 7) rfl ?_
  refine ev_virt (z' := z_Model_isMacro) (q := 10) rfl rfl (by decide) rfl (by simp [Value.category]) rfl (by omega) rfl rfl (mH_o hn) (m_isMacro (σ := m0 σ) hn (by omega) h16 (by omega)) ?_
  refine ev_if_eq (t := 33) (q := 13) rfl rfl rfl (fun zc1 => ?_) (fun zc1 => ?_)
  · refine ev_go 1 (q := 34) (st' := .int (-1) :: _) rfl ?_
    exact ev_iret rfl rfl (rfl) (rfl)
  · refine ev_go 1 (q := 14) rfl ?_
    refine ev_get (q := 17) rfl (mH_o hn) rfl rfl rfl ?_
    refine ev_go 1 (q := 18) rfl ?_
    refine ev_mia (q := 19) hn rfl (by decide) rfl (qx zc1).2 (qx zc1).1 rfl ?_
    refine ev_go 1 (q := 20) (st' := .int 1 :: _ :: _) rfl ?_
    refine ev_icmp_ne (t := 33) (q := 23) rfl rfl rfl (fun zc2 => ?_) (fun zc2 => ?_)
    · refine ev_go 1 (q := 34) (st' := .int (-1) :: _) rfl ?_
      exact ev_iret rfl rfl (rfl) (rfl)
    · refine ev_go 3 (q := 27) (st' := .int 9 :: .int 0 :: _ :: _) rfl ?_
      refine ev_static (z' := z_Model_in) (q := 30) rfl rfl (by decide) rfl rfl (by simp [Value.category]) rfl (by omega) (k_in _ _ _) ?_
      refine ev_if_ne (t := 35) (q := 33) rfl rfl rfl (fun zc3 => ?_) (fun zc3 => ?_)
      · exact absurd ⟨am_bn.mp zc1, zc2, am_bn.mp zc3⟩ hb
      · refine ev_go 1 (q := 34) (st' := .int (-1) :: _) rfl ?_
        exact ev_iret rfl rfl (rfl) (rfl)
theorem m_times (hn : 43 ≤ h.1) (hd : 2 < d) {q : Nat} (h16 : σ 16 = nI q) (hq : q ≤ 20) {x : Nat} {v : Int32} (hx : x < q) (hk : A 8 x = 1) (hv : 0 ≤ v ∧ v ≤ 9) : am_m d z_Model_times [.ref 18, .int (nI x), .int v] (mH h σ t A) (some (.int (A 9 x))) (mH h (m0 σ) t (va_up A 9 (va_up (A 9) x v))) := by
  refine ev_go 2 (q := 2) (st' := .int 0 :: _ :: _) rfl ?_
  refine ev_mput (j := 0) (q := 5) hn rfl rfl rfl (by decide) rfl (mls_0 _ _ _) rfl ?_
  refine ev_go 2 (q := 7) rfl ?_
  refine ev_virt (z' := z_Model_isMacro) (q := 10) rfl rfl (by decide) rfl (by simp [Value.category]) rfl (by omega) rfl rfl (mH_o hn) (m_isMacro (σ := m0 σ) hn (by omega) h16 (by omega)) ?_
  refine ev_if_eq (t := 33) (q := 13) rfl rfl rfl (fun c => absurd c (am_bn.mpr ⟨nI_pos' (by omega), (nI_ltI (by omega) (by omega)).mpr hx⟩)) (fun zc1 => ?_)
  refine ev_go 1 (q := 14) rfl ?_
  refine ev_get (q := 17) rfl (mH_o hn) rfl rfl rfl ?_
  refine ev_go 1 (q := 18) rfl ?_
  refine ev_mia (q := 19) hn rfl (by decide) rfl rfl (show x < 20 by omega) rfl ?_
  refine ev_go 1 (q := 20) (st' := .int 1 :: _ :: _) rfl ?_
  refine ev_icmp_ne (t := 33) (q := 23) rfl rfl rfl (fun c => absurd hk c) (fun zc2 => ?_)
  refine ev_go 3 (q := 27) (st' := .int 9 :: .int 0 :: _ :: _) rfl ?_
  refine ev_static (z' := z_Model_in) (q := 30) rfl rfl (by decide) rfl rfl (by simp [Value.category]) rfl (by omega) (k_in _ _ _) ?_
  refine ev_if_ne (t := 35) (q := 33) rfl rfl rfl (fun zc3 => ?_) (fun c => absurd c (am_bn.mpr hv))
  refine ev_go 1 (q := 36) rfl ?_
  refine ev_get (q := 39) rfl (mH_o hn) rfl rfl rfl ?_
  refine ev_go 1 (q := 40) rfl ?_
  refine ev_mia (q := 41) hn rfl (by decide) rfl rfl (show x < 20 by omega) rfl ?_
  refine ev_go 2 (q := 43) rfl ?_
  refine ev_get (q := 46) rfl (mH_o hn) rfl rfl rfl ?_
  refine ev_go 2 (q := 48) rfl ?_
  refine ev_mias (q := 49) hn rfl (by decide) rfl rfl (show x < 20 by omega) rfl ?_
  refine ev_go 1 (q := 50) rfl ?_
  exact ev_iret rfl rfl (rfl) (rfl)
end M10
