/-! the reference: calls of the law that only read, or change little -/
section M9
variable {d : Nat} {h h' : am_H} {σ : Nat → Int32} {t : Int64} {A : Nat → Nat → Int32} {res : Option Value} {R C u : Nat}
abbrev m0 (σ : Nat → Int32) : Nat → Int32 := va_up σ 0 0
theorem m_atB (hn : 43 ≤ h.1) (hd : 2 < d) (hR : 1 ≤ R ∧ R ≤ 10) (hC : 1 ≤ C ∧ C ≤ 10) (h1 : σ 1 = nI R) (h2 : σ 2 = nI C) {r c l : Int32} (hb : ¬ (cl_kn R C r c ∧ (-1 ≤ l ∧ l ≤ 2))) : am_m d z_Model_at [.ref 18, .int r, .int c, .int l] (mH h σ t A) (some (.int (-1))) (mH h (m0 σ) t A) := by
  refine ev_go 2 (q := 2) (st' := .int 0 :: _ :: _) rfl ?_
  refine ev_mput (j := 0) (q := 5) hn rfl rfl rfl (by decide) rfl (mls_0 _ _ _) rfl ?_
  refine ev_go 3 (q := 8) rfl ?_
  refine ev_virt (z' := z_Model_isKnot) (q := 11) rfl rfl (by decide) rfl (by simp [Value.category]) rfl (by omega) rfl rfl (mH_o hn) (m_isKnot (σ := m0 σ) hn (by omega) hR hC h1 h2 _ _) ?_
  refine ev_if_eq (t := 23) (q := 14) rfl rfl rfl (fun zc1 => ?_) (fun zc1 => ?_)
  · refine ev_go 1 (q := 24) (st' := .int (-1) :: _) rfl ?_
    exact ev_iret rfl rfl (rfl) (rfl)
  · refine ev_go 3 (q := 17) (st' := .int 2 :: .int (-1) :: _ :: _) rfl ?_
    refine ev_static (z' := z_Model_in) (q := 20) rfl rfl (by decide) rfl rfl (by simp [Value.category]) rfl (by omega) (k_in _ _ _) ?_
    refine ev_if_ne (t := 25) (q := 23) rfl rfl rfl (fun zc2 => ?_) (fun zc2 => ?_)
    · exact absurd ⟨am_bn.mp zc1, am_bn.mp zc2⟩ hb
    · refine ev_go 1 (q := 24) (st' := .int (-1) :: _) rfl ?_
      exact ev_iret rfl rfl (rfl) (rfl)
theorem m_atS (hn : 43 ≤ h.1) (hd : 2 < d) (hR : 1 ≤ R ∧ R ≤ 10) (hC : 1 ≤ C ∧ C ≤ 10) (h1 : σ 1 = nI R) (h2 : σ 2 = nI C) {r c : Nat} (hr : r < R) (hc : c < C) : am_m d z_Model_at [.ref 18, .int (nI r), .int (nI c), .int (-1)] (mH h σ t A) (some (.int (sp_seen (σ 6) (fun l => A 0 (100 * l + (10 * r + c)))))) (mH h (m0 σ) t A) := by
  refine ev_go 2 (q := 2) (st' := .int 0 :: _ :: _) rfl ?_
  refine ev_mput (j := 0) (q := 5) hn rfl rfl rfl (by decide) rfl (mls_0 _ _ _) rfl ?_
  refine ev_go 3 (q := 8) rfl ?_
  refine ev_virt (z' := z_Model_isKnot) (q := 11) rfl rfl (by decide) rfl (by simp [Value.category]) rfl (by omega) rfl rfl (mH_o hn) (m_knT (σ := m0 σ) hn (by omega) hR hC h1 h2 hr hc) ?_
  refine ev_if_eq (t := 23) (q := 14) rfl rfl rfl (fun c => absurd c (by decide)) (fun zc1 => ?_)
  refine ev_go 3 (q := 17) (st' := .int 2 :: .int (-1) :: _ :: _) rfl ?_
  refine ev_static (z' := z_Model_in) (q := 20) rfl rfl (by decide) rfl rfl (by simp [Value.category]) rfl (by omega) (k_in _ _ _) ?_
  refine ev_if_ne (t := 25) (q := 23) rfl rfl rfl (fun zc2 => ?_) (fun c => absurd c (by decide))
  refine ev_go 2 (q := 27) (st' := .int (-1) :: _ :: _) rfl ?_
  refine ev_icmp_ne (t := 43) (q := 30) rfl rfl rfl (fun c => absurd (by decide) c) (fun _ => ?_)
  refine ev_go 6 (q := 37) (st' := .int ((10 * _) + _) :: _ :: _) rfl ?_
  refine ev_virt (z' := z_Model_seen) (q := 40) rfl rfl (by decide) rfl (by simp [Value.category]) rfl (by omega) rfl rfl (mH_o hn) (by rw [show (10 : Int32) * nI r + nI c = nI (10 * r + c) from mx_k r c]; exact m_seen hn (by omega)) ?_
  refine ev_go 1 (q := 59) rfl ?_
  exact ev_iret rfl rfl (rfl) (rfl)
theorem m_atW (hn : 43 ≤ h.1) (hd : 2 < d) (hR : 1 ≤ R ∧ R ≤ 10) (hC : 1 ≤ C ∧ C ≤ 10) (h1 : σ 1 = nI R) (h2 : σ 2 = nI C) {r c l : Nat} (hr : r < R) (hc : c < C) (hl : l < 3) : am_m d z_Model_at [.ref 18, .int (nI r), .int (nI c), .int (nI l)] (mH h σ t A) (some (.int (A 0 (100 * l + (10 * r + c))))) (mH h (m0 σ) t A) := by
  refine ev_go 2 (q := 2) (st' := .int 0 :: _ :: _) rfl ?_
  refine ev_mput (j := 0) (q := 5) hn rfl rfl rfl (by decide) rfl (mls_0 _ _ _) rfl ?_
  refine ev_go 3 (q := 8) rfl ?_
  refine ev_virt (z' := z_Model_isKnot) (q := 11) rfl rfl (by decide) rfl (by simp [Value.category]) rfl (by omega) rfl rfl (mH_o hn) (m_knT (σ := m0 σ) hn (by omega) hR hC h1 h2 hr hc) ?_
  refine ev_if_eq (t := 23) (q := 14) rfl rfl rfl (fun c => absurd c (by decide)) (fun zc1 => ?_)
  refine ev_go 3 (q := 17) (st' := .int 2 :: .int (-1) :: _ :: _) rfl ?_
  refine ev_static (z' := z_Model_in) (q := 20) rfl rfl (by decide) rfl rfl (by simp [Value.category]) rfl (by omega) (k_in _ _ _) ?_
  refine ev_if_ne (t := 25) (q := 23) rfl rfl rfl (fun zc2 => ?_) (fun c => absurd c (am_bn.mpr ⟨Int32.le_trans (by decide) (nI_pos' (by omega)), (nI_leI (b := 2) (by omega) (by decide)).mpr (by omega)⟩))
  refine ev_go 2 (q := 27) (st' := .int (-1) :: _ :: _) rfl ?_
  refine ev_icmp_ne (t := 43) (q := 30) rfl rfl rfl (fun zc3 => ?_) (fun c => absurd c (fun q => absurd (nI_pos (n := l) (by omega)) (by rw [q]; decide)))
  refine ev_go 1 (q := 44) rfl ?_
  refine ev_get (q := 47) rfl (mH_o hn) rfl rfl rfl ?_
  refine ev_go 9 (q := 58) (st' := .int (((100 * _) + (10 * _)) + _) :: _ :: _) rfl ?_
  refine ev_mia (q := 59) hn rfl (by decide) rfl (by rw [show (100 : Int32) = nI 100 from rfl, show (10 : Int32) = nI 10 from rfl, pk_mul, pk_mul, nI_add, nI_add]) (show 100 * l + 10 * r + c < 300 by omega) rfl ?_
  exact ev_iret rfl rfl (by rw [Nat.add_assoc]) (rfl)
theorem m_isSelB (hn : 43 ≤ h.1) (hd : 2 < d) (hR : 1 ≤ R ∧ R ≤ 10) (hC : 1 ≤ C ∧ C ≤ 10) (h1 : σ 1 = nI R) (h2 : σ 2 = nI C) {r c : Int32} (hb : ¬ cl_kn R C r c) : am_m d z_Model_isSelected [.ref 18, .int r, .int c] (mH h σ t A) (some (.int (-1))) (mH h (m0 σ) t A) := by
  refine ev_go 2 (q := 2) (st' := .int 0 :: _ :: _) rfl ?_
  refine ev_mput (j := 0) (q := 5) hn rfl rfl rfl (by decide) rfl (mls_0 _ _ _) rfl ?_
  refine ev_go 3 (q := 8) rfl ?_
  refine ev_virt (z' := z_Model_isKnot) (q := 11) rfl rfl (by decide) rfl (by simp [Value.category]) rfl (by omega) rfl rfl (mH_o hn) (m_isKnot (σ := m0 σ) hn (by omega) hR hC h1 h2 _ _) ?_
  refine ev_if_ne (t := 18) (q := 14) rfl rfl rfl (fun zc1 => ?_) (fun zc1 => ?_)
  · exact absurd (am_bn.mp zc1) hb
  · refine ev_go 2 (q := 37) (st' := .int (-1) :: _) rfl ?_
    exact ev_iret rfl rfl (rfl) (rfl)
theorem m_isSel (hn : 43 ≤ h.1) (hd : 2 < d) (hR : 1 ≤ R ∧ R ≤ 10) (hC : 1 ≤ C ∧ C ≤ 10) (h1 : σ 1 = nI R) (h2 : σ 2 = nI C) {r c : Nat} (hr : r < R) (hc : c < C) : am_m d z_Model_isSelected [.ref 18, .int (nI r), .int (nI c)] (mH h σ t A) (some (.int (am_b (¬ A 1 (10 * r + c) = 0)))) (mH h (m0 σ) t A) := by
  refine ev_go 2 (q := 2) (st' := .int 0 :: _ :: _) rfl ?_
  refine ev_mput (j := 0) (q := 5) hn rfl rfl rfl (by decide) rfl (mls_0 _ _ _) rfl ?_
  refine ev_go 3 (q := 8) rfl ?_
  refine ev_virt (z' := z_Model_isKnot) (q := 11) rfl rfl (by decide) rfl (by simp [Value.category]) rfl (by omega) rfl rfl (mH_o hn) (m_knT (σ := m0 σ) hn (by omega) hR hC h1 h2 hr hc) ?_
  refine ev_if_ne (t := 18) (q := 14) rfl rfl rfl (fun zc1 => ?_) (fun c => absurd c (by decide))
  refine ev_go 1 (q := 19) rfl ?_
  refine ev_get (q := 22) rfl (mH_o hn) rfl rfl rfl ?_
  refine ev_go 5 (q := 28) (st' := .int ((10 * _) + _) :: _ :: _) rfl ?_
  refine ev_mza (q := 29) hn rfl (by decide) rfl (mx_k r c) (show 10 * r + c < 100 by omega) rfl ?_
  refine ev_if_eq (t := 36) (q := 32) rfl rfl rfl (fun zc2 => ?_) (fun zc2 => ?_)
  · refine ev_go 1 (q := 37) (st' := .int 0 :: _) rfl ?_
    exact ev_iret rfl rfl (by first | exact (am_b1 zc2).symm | exact (am_bz (fun q => q zc2)).symm) (rfl)
  · refine ev_go 2 (q := 37) (st' := .int 1 :: _) rfl ?_
    exact ev_iret rfl rfl (by first | exact (am_b1 zc2).symm | exact (am_bz (fun q => q zc2)).symm) (rfl)
def ma_n (A : Nat → Nat → Int32) : Int32 := sp_it (fun k (x : Int32) => x + am_b (¬ A 4 k = 0)) 0 60 0
theorem l_abt (hn : 43 ≤ h.1) {wh : Int32} : ∀ (m k : Nat) (X : Int32), k + m = 60 → am_ev d z_Model_about (38, [some (.ref 18), some (.int wh), some (.int (sp_it (fun k (x : Int32) => x + am_b (¬ A 4 k = 0)) k m X)), some (.int (nI 60))], [], mH h σ t A) res h' → am_ev d z_Model_about (12, [some (.ref 18), some (.int wh), some (.int X), some (.int (nI k))], [.int 60, .int (nI k)], mH h σ t A) res h'
  | 0, k, X, hm, K => by
    refine ev_icmp_ge (t := 38) (q := 15) rfl rfl rfl (fun _ => ?_) (fun c1 => absurd (nI_end (b := 60) hm (by omega)) c1)
    have hc : k = 60 := hm
    subst hc
    exact K
  | m + 1, k, X, hm, K => by
    refine ev_icmp_ge (t := 38) (q := 15) rfl rfl rfl (fun c1 => absurd c1 (nI_ge (b := 60) (by omega) (by omega))) (fun _ => ?_)
    rw [sp_it] at K
    refine ev_go 2 (q := 17) rfl ?_
    refine ev_get (q := 20) rfl (mH_o hn) rfl rfl rfl ?_
    refine ev_go 1 (q := 21) rfl ?_
    refine ev_mza (q := 22) hn rfl (by decide) rfl rfl (show k < 60 by omega) rfl ?_
    refine ev_if_eq (t := 29) (q := 25) rfl rfl rfl (fun zc1 => ?_) (fun zc1 => ?_)
    · refine ev_go 7 (q := 12) (st' := .int 60 :: _ :: _) rfl ?_
      rw [am_bz (fun q => q zc1)] at K
      rw [nI_s]
      exact l_abt hn m (k + 1) _ (by omega) K
    · refine ev_go 8 (q := 12) (st' := .int 60 :: _ :: _) rfl ?_
      rw [am_b1 zc1] at K
      rw [nI_s]
      exact l_abt hn m (k + 1) _ (by omega) K
theorem m_about0 (hn : 43 ≤ h.1) (hd : 0 < d) : am_m d z_Model_about [.ref 18, .int 0] (mH h σ t A) (some (.int (σ 1))) (mH h (m0 σ) t A) := by
  refine ev_go 2 (q := 2) (st' := .int 0 :: _ :: _) rfl ?_
  refine ev_mput (j := 0) (q := 5) hn rfl rfl rfl (by decide) rfl (mls_0 _ _ _) rfl ?_
  refine ev_go 6 (q := 12) (st' := .int 60 :: _ :: _) rfl ?_
  refine l_abt hn 60 0 0 (by omega) ?_
  refine ev_go 3 (q := 89) rfl ?_
  refine ev_get (q := 92) rfl (mH_o hn) rfl rfl rfl ?_
  exact ev_iret rfl rfl (rfl) (rfl)
theorem m_about1 (hn : 43 ≤ h.1) (hd : 0 < d) : am_m d z_Model_about [.ref 18, .int 1] (mH h σ t A) (some (.int (σ 2))) (mH h (m0 σ) t A) := by
  refine ev_go 2 (q := 2) (st' := .int 0 :: _ :: _) rfl ?_
  refine ev_mput (j := 0) (q := 5) hn rfl rfl rfl (by decide) rfl (mls_0 _ _ _) rfl ?_
  refine ev_go 6 (q := 12) (st' := .int 60 :: _ :: _) rfl ?_
  refine l_abt hn 60 0 0 (by omega) ?_
  refine ev_go 3 (q := 94) rfl ?_
  refine ev_get (q := 97) rfl (mH_o hn) rfl rfl rfl ?_
  exact ev_iret rfl rfl (rfl) (rfl)
theorem m_about2 (hn : 43 ≤ h.1) (hd : 0 < d) : am_m d z_Model_about [.ref 18, .int 2] (mH h σ t A) (some (.int (σ 5))) (mH h (m0 σ) t A) := by
  refine ev_go 2 (q := 2) (st' := .int 0 :: _ :: _) rfl ?_
  refine ev_mput (j := 0) (q := 5) hn rfl rfl rfl (by decide) rfl (mls_0 _ _ _) rfl ?_
  refine ev_go 6 (q := 12) (st' := .int 60 :: _ :: _) rfl ?_
  refine l_abt hn 60 0 0 (by omega) ?_
  refine ev_go 3 (q := 99) rfl ?_
  refine ev_get (q := 102) rfl (mH_o hn) rfl rfl rfl ?_
  exact ev_iret rfl rfl (rfl) (rfl)
theorem m_about3 (hn : 43 ≤ h.1) (hd : 0 < d) : am_m d z_Model_about [.ref 18, .int 3] (mH h σ t A) (some (.int (σ 6))) (mH h (m0 σ) t A) := by
  refine ev_go 2 (q := 2) (st' := .int 0 :: _ :: _) rfl ?_
  refine ev_mput (j := 0) (q := 5) hn rfl rfl rfl (by decide) rfl (mls_0 _ _ _) rfl ?_
  refine ev_go 6 (q := 12) (st' := .int 60 :: _ :: _) rfl ?_
  refine l_abt hn 60 0 0 (by omega) ?_
  refine ev_go 3 (q := 104) rfl ?_
  refine ev_get (q := 107) rfl (mH_o hn) rfl rfl rfl ?_
  exact ev_iret rfl rfl (rfl) (rfl)
theorem m_about4 (hn : 43 ≤ h.1) (hd : 0 < d) : am_m d z_Model_about [.ref 18, .int 4] (mH h σ t A) (some (.int (ms_sel A))) (mH h (m0 σ) t A) := by
  refine ev_go 2 (q := 2) (st' := .int 0 :: _ :: _) rfl ?_
  refine ev_mput (j := 0) (q := 5) hn rfl rfl rfl (by decide) rfl (mls_0 _ _ _) rfl ?_
  refine ev_go 6 (q := 12) (st' := .int 60 :: _ :: _) rfl ?_
  refine l_abt hn 60 0 0 (by omega) ?_
  refine ev_go 3 (q := 109) rfl ?_
  refine ev_virt (z' := z_Model_selected) (q := 112) rfl rfl (by decide) rfl (by simp [Value.category]) rfl (by omega) rfl rfl (mH_o hn) (m_selected hn) ?_
  exact ev_iret rfl rfl (rfl) (rfl)
theorem m_about5 (hn : 43 ≤ h.1) (hd : 0 < d) : am_m d z_Model_about [.ref 18, .int 5] (mH h σ t A) (some (.int (σ 12))) (mH h (m0 σ) t A) := by
  refine ev_go 2 (q := 2) (st' := .int 0 :: _ :: _) rfl ?_
  refine ev_mput (j := 0) (q := 5) hn rfl rfl rfl (by decide) rfl (mls_0 _ _ _) rfl ?_
  refine ev_go 6 (q := 12) (st' := .int 60 :: _ :: _) rfl ?_
  refine l_abt hn 60 0 0 (by omega) ?_
  refine ev_go 3 (q := 114) rfl ?_
  refine ev_get (q := 117) rfl (mH_o hn) rfl rfl rfl ?_
  exact ev_iret rfl rfl (rfl) (rfl)
theorem m_about6 (hn : 43 ≤ h.1) (hd : 0 < d) : am_m d z_Model_about [.ref 18, .int 6] (mH h σ t A) (some (.int (σ 16))) (mH h (m0 σ) t A) := by
  refine ev_go 2 (q := 2) (st' := .int 0 :: _ :: _) rfl ?_
  refine ev_mput (j := 0) (q := 5) hn rfl rfl rfl (by decide) rfl (mls_0 _ _ _) rfl ?_
  refine ev_go 6 (q := 12) (st' := .int 60 :: _ :: _) rfl ?_
  refine l_abt hn 60 0 0 (by omega) ?_
  refine ev_go 3 (q := 119) rfl ?_
  refine ev_get (q := 122) rfl (mH_o hn) rfl rfl rfl ?_
  exact ev_iret rfl rfl (rfl) (rfl)
theorem m_about7 (hn : 43 ≤ h.1) (hd : 0 < d) : am_m d z_Model_about [.ref 18, .int 7] (mH h σ t A) (some (.int (ma_n A))) (mH h (m0 σ) t A) := by
  refine ev_go 2 (q := 2) (st' := .int 0 :: _ :: _) rfl ?_
  refine ev_mput (j := 0) (q := 5) hn rfl rfl rfl (by decide) rfl (mls_0 _ _ _) rfl ?_
  refine ev_go 6 (q := 12) (st' := .int 60 :: _ :: _) rfl ?_
  refine l_abt hn 60 0 0 (by omega) ?_
  refine ev_go 3 (q := 124) rfl ?_
  exact ev_iret rfl rfl (rfl) (rfl)
theorem m_about8 (hn : 43 ≤ h.1) (hd : 0 < d) : am_m d z_Model_about [.ref 18, .int 8] (mH h σ t A) (some (.int (σ 10))) (mH h (m0 σ) t A) := by
  refine ev_go 2 (q := 2) (st' := .int 0 :: _ :: _) rfl ?_
  refine ev_mput (j := 0) (q := 5) hn rfl rfl rfl (by decide) rfl (mls_0 _ _ _) rfl ?_
  refine ev_go 6 (q := 12) (st' := .int 60 :: _ :: _) rfl ?_
  refine l_abt hn 60 0 0 (by omega) ?_
  refine ev_go 3 (q := 126) rfl ?_
  refine ev_get (q := 129) rfl (mH_o hn) rfl rfl rfl ?_
  exact ev_iret rfl rfl (rfl) (rfl)
theorem sw_out {x : Int32} {n : Nat} (hn : n < 100) (hx : ¬ (0 ≤ x ∧ x ≤ nI n)) : x.toInt < 0 ∨ (n : Int) < x.toInt := by
  have e : (nI n).toInt = n := nI_toInt (by omega)
  have e0 : (0 : Int32).toInt = 0 := by decide
  rw [Int32.le_iff_toInt_le, Int32.le_iff_toInt_le, e, e0] at hx
  omega
theorem ev_tsd {d z pc q : Nat} {L : List (Option Value)} {st : List Value} {h h' : am_H} {r : Option Value} {len aux : Nat} {df lo hi : Int} {offs : Array Int} {x : Int32} (hf : am_fetch z pc = some (.tableswitch df lo hi offs, len, aux)) (hx : x.toInt < lo ∨ hi < x.toInt) (hq : am_tgt pc df = q) (k : am_ev d z (q, L, st, h) r h') : am_ev d z (pc, L, .int x :: st, h) r h' := by
  subst hq
  refine ev_at (g := (am_tgt pc df, L, st, h)) hf rfl ?_ k
  exact if_pos hx
theorem m_aboutB (hn : 43 ≤ h.1) {x : Int32} (hb : ¬ (0 ≤ x ∧ x ≤ nI 8)) : am_m d z_Model_about [.ref 18, .int x] (mH h σ t A) (some (.int (-1))) (mH h (m0 σ) t A) := by
  refine ev_go 2 (q := 2) (st' := .int 0 :: _ :: _) rfl ?_
  refine ev_mput (j := 0) (q := 5) hn rfl rfl rfl (by decide) rfl (mls_0 _ _ _) rfl ?_
  refine ev_go 6 (q := 12) (st' := .int 60 :: _ :: _) rfl ?_
  refine l_abt hn 60 0 0 (by omega) ?_
  refine ev_go 1 (q := 39) rfl ?_
  refine ev_tsd (q := 130) rfl (sw_out (n := 8) (by decide) hb) rfl ?_
  refine ev_go 1 (q := 131) (st' := .int (-1) :: _) rfl ?_
  exact ev_iret rfl rfl (rfl) (rfl)
theorem m_outcome0 (hn : 43 ≤ h.1) : am_m d z_Model_outcome [.ref 18, .int 0] (mH h σ t A) (some (.int (σ 24))) (mH h (m0 σ) t A) := by
  refine ev_go 2 (q := 2) (st' := .int 0 :: _ :: _) rfl ?_
  refine ev_mput (j := 0) (q := 5) hn rfl rfl rfl (by decide) rfl (mls_0 _ _ _) rfl ?_
  refine ev_go 3 (q := 41) rfl ?_
  refine ev_get (q := 44) rfl (mH_o hn) rfl rfl rfl ?_
  exact ev_iret rfl rfl (rfl) (rfl)
theorem m_outcome1 (hn : 43 ≤ h.1) : am_m d z_Model_outcome [.ref 18, .int 1] (mH h σ t A) (some (.int (σ 25))) (mH h (m0 σ) t A) := by
  refine ev_go 2 (q := 2) (st' := .int 0 :: _ :: _) rfl ?_
  refine ev_mput (j := 0) (q := 5) hn rfl rfl rfl (by decide) rfl (mls_0 _ _ _) rfl ?_
  refine ev_go 3 (q := 46) rfl ?_
  refine ev_get (q := 49) rfl (mH_o hn) rfl rfl rfl ?_
  exact ev_iret rfl rfl (rfl) (rfl)
theorem m_outcome2 (hn : 43 ≤ h.1) : am_m d z_Model_outcome [.ref 18, .int 2] (mH h σ t A) (some (.int (σ 26))) (mH h (m0 σ) t A) := by
  refine ev_go 2 (q := 2) (st' := .int 0 :: _ :: _) rfl ?_
  refine ev_mput (j := 0) (q := 5) hn rfl rfl rfl (by decide) rfl (mls_0 _ _ _) rfl ?_
  refine ev_go 3 (q := 51) rfl ?_
  refine ev_get (q := 54) rfl (mH_o hn) rfl rfl rfl ?_
  exact ev_iret rfl rfl (rfl) (rfl)
theorem m_outcome3 (hn : 43 ≤ h.1) : am_m d z_Model_outcome [.ref 18, .int 3] (mH h σ t A) (some (.int (σ 27))) (mH h (m0 σ) t A) := by
  refine ev_go 2 (q := 2) (st' := .int 0 :: _ :: _) rfl ?_
  refine ev_mput (j := 0) (q := 5) hn rfl rfl rfl (by decide) rfl (mls_0 _ _ _) rfl ?_
  refine ev_go 3 (q := 56) rfl ?_
  refine ev_get (q := 59) rfl (mH_o hn) rfl rfl rfl ?_
  exact ev_iret rfl rfl (rfl) (rfl)
theorem m_outcome4 (hn : 43 ≤ h.1) : am_m d z_Model_outcome [.ref 18, .int 4] (mH h σ t A) (some (.int (σ 28))) (mH h (m0 σ) t A) := by
  refine ev_go 2 (q := 2) (st' := .int 0 :: _ :: _) rfl ?_
  refine ev_mput (j := 0) (q := 5) hn rfl rfl rfl (by decide) rfl (mls_0 _ _ _) rfl ?_
  refine ev_go 3 (q := 61) rfl ?_
  refine ev_get (q := 64) rfl (mH_o hn) rfl rfl rfl ?_
  exact ev_iret rfl rfl (rfl) (rfl)
theorem m_outcomeB (hn : 43 ≤ h.1) {x : Int32} (hb : ¬ (0 ≤ x ∧ x ≤ nI 4)) : am_m d z_Model_outcome [.ref 18, .int x] (mH h σ t A) (some (.int (-1))) (mH h (m0 σ) t A) := by
  refine ev_go 2 (q := 2) (st' := .int 0 :: _ :: _) rfl ?_
  refine ev_mput (j := 0) (q := 5) hn rfl rfl rfl (by decide) rfl (mls_0 _ _ _) rfl ?_
  refine ev_go 1 (q := 6) rfl ?_
  refine ev_tsd (q := 65) rfl (sw_out (n := 4) (by decide) hb) rfl ?_
  refine ev_go 1 (q := 66) (st' := .int (-1) :: _) rfl ?_
  exact ev_iret rfl rfl (rfl) (rfl)
theorem m_node (hn : 43 ≤ h.1) : am_m d z_Model_node [.ref 18] (mH h σ t A) (some (.int (σ 11))) (mH h (m0 σ) t A) := by
  refine ev_go 2 (q := 2) (st' := .int 0 :: _ :: _) rfl ?_
  refine ev_mput (j := 0) (q := 5) hn rfl rfl rfl (by decide) rfl (mls_0 _ _ _) rfl ?_
  refine ev_go 1 (q := 6) rfl ?_
  refine ev_get (q := 9) rfl (mH_o hn) rfl rfl rfl ?_
  exact ev_iret rfl rfl (rfl) (rfl)
theorem m_trace (hn : 43 ≤ h.1) : am_m d z_Model_trace [.ref 18] (mH h σ t A) (some (.long t)) (mH h (m0 σ) t A) := by
  refine ev_go 2 (q := 2) (st' := .int 0 :: _ :: _) rfl ?_
  refine ev_mput (j := 0) (q := 5) hn rfl rfl rfl (by decide) rfl (mls_0 _ _ _) rfl ?_
  refine ev_go 1 (q := 6) rfl ?_
  refine ev_get (q := 9) rfl (mH_o hn) rfl rfl rfl ?_
  exact ev_lret rfl rfl (rfl) (rfl)
def mu_u (s : Int32) (A : Nat → Nat → Int32) (x : Int32) (R C : Nat) : Int32 := sp_it (fun r => sp_it (fun c (y : Int32) => y + am_b (sp_seen s (fun l => A 0 (100 * l + (10 * r + c))) = x)) 0 C) 0 R 0
theorem l_usi (hn : 43 ≤ h.1) (hd : 2 < d) (hR : 1 ≤ R ∧ R ≤ 10) (hC : 1 ≤ C ∧ C ≤ 10) (h2 : σ 2 = nI C) {x : Int32} {r : Nat} (hr : r < R) : ∀ (m k : Nat) (X : Int32), k + m = C → am_ev d z_Model_used (70, [some (.ref 18), some (.int x), some (.int (sp_it (fun c (y : Int32) => y + am_b (sp_seen (σ 6) (fun l => A 0 (100 * l + (10 * r + c))) = x)) k m X)), some (.int (nI r)), some (.int (nI C))], [], mH h σ t A) res h' → am_ev d z_Model_used (38, [some (.ref 18), some (.int x), some (.int X), some (.int (nI r)), some (.int (nI k))], [.int (nI C), .int (nI k)], mH h σ t A) res h'
  | 0, k, X, hm, K => by
    refine ev_icmp_ge (t := 70) (q := 41) rfl rfl rfl (fun _ => ?_) (fun c1 => absurd (nI_end (b := C) hm (by omega)) c1)
    have hc : k = C := hm
    subst hc
    exact K
  | m + 1, k, X, hm, K => by
    refine ev_icmp_ge (t := 70) (q := 41) rfl rfl rfl (fun c1 => absurd c1 (nI_ge (b := C) (by omega) (by omega))) (fun _ => ?_)
    rw [sp_it] at K
    refine ev_go 7 (q := 50) (st' := .int ((10 * _) + _) :: _ :: _ :: _) rfl ?_
    refine ev_virt (z' := z_Model_seen) (q := 53) rfl rfl (by decide) rfl (by simp [Value.category]) rfl (by omega) rfl rfl (mH_o hn) (by rw [show (10 : Int32) * nI r + nI k = nI (10 * r + k) from mx_k r k]; exact m_seen hn (by omega)) ?_
    refine ev_go 1 (q := 54) rfl ?_
    refine ev_icmp_ne (t := 61) (q := 57) rfl rfl rfl (fun zc1 => ?_) (fun zc1 => ?_)
    · refine ev_go 7 (q := 35) rfl ?_
      refine ev_get (q := 38) rfl (mH_o hn) rfl rfl rfl ?_
      rw [am_bz zc1] at K
      rw [nI_s, h2]
      exact l_usi hn hd hR hC h2 hr m (k + 1) _ (by omega) K
    · refine ev_go 8 (q := 35) rfl ?_
      refine ev_get (q := 38) rfl (mH_o hn) rfl rfl rfl ?_
      rw [am_b1 zc1] at K
      rw [nI_s, h2]
      exact l_usi hn hd hR hC h2 hr m (k + 1) _ (by omega) K
theorem l_uso (hn : 43 ≤ h.1) (hd : 2 < d) (hR : 1 ≤ R ∧ R ≤ 10) (hC : 1 ≤ C ∧ C ≤ 10) (h1 : σ 1 = nI R) (h2 : σ 2 = nI C) {x : Int32} : ∀ (m k : Nat) (X : Int32) (e4 : Option Value), k + m = R → (∀ e4 : Option Value, am_ev d z_Model_used (76, [some (.ref 18), some (.int x), some (.int (sp_it (fun r => sp_it (fun c (y : Int32) => y + am_b (sp_seen (σ 6) (fun l => A 0 (100 * l + (10 * r + c))) = x)) 0 C) k m X)), some (.int (nI R)), e4], [], mH h σ t A) res h') → am_ev d z_Model_used (26, [some (.ref 18), some (.int x), some (.int X), some (.int (nI k)), e4], [.int (nI R), .int (nI k)], mH h σ t A) res h'
  | 0, k, X, e4, hm, K => by
    refine ev_icmp_ge (t := 76) (q := 29) rfl rfl rfl (fun _ => ?_) (fun c1 => absurd (nI_end (b := R) hm (by omega)) c1)
    have hc : k = R := hm
    subst hc
    exact K e4
  | m + 1, k, X, e4, hm, K => by
    refine ev_icmp_ge (t := 76) (q := 29) rfl rfl rfl (fun c1 => absurd c1 (nI_ge (b := R) (by omega) (by omega))) (fun _ => ?_)
    simp only [sp_it] at K
    refine ev_go 4 (q := 35) rfl ?_
    refine ev_get (q := 38) rfl (mH_o hn) rfl rfl rfl ?_
    rw [h2]
    refine l_usi hn hd hR hC h2 (show k < R by omega) C 0 X (by omega) ?_
    refine ev_go 4 (q := 23) rfl ?_
    refine ev_get (q := 26) rfl (mH_o hn) rfl rfl rfl ?_
    rw [nI_s, h1]
    exact l_uso hn hd hR hC h1 h2 m (k + 1) _ _ (by omega) K
theorem m_usedB (hn : 43 ≤ h.1) (hd : 2 < d) {x : Int32} (hb : ¬ (0 ≤ x ∧ x ≤ 9)) : am_m d z_Model_used [.ref 18, .int x] (mH h σ t A) (some (.int (-1))) (mH h (m0 σ) t A) := by
  refine ev_go 2 (q := 2) (st' := .int 0 :: _ :: _) rfl ?_
  refine ev_mput (j := 0) (q := 5) hn rfl rfl rfl (by decide) rfl (mls_0 _ _ _) rfl ?_
  refine ev_go 3 (q := 9) (st' := .int 9 :: .int 0 :: _ :: _) rfl ?_
  refine ev_static (z' := z_Model_in) (q := 12) rfl rfl (by decide) rfl rfl (by simp [Value.category]) rfl (by omega) (k_in _ _ _) ?_
  refine ev_if_ne (t := 17) (q := 15) rfl rfl rfl (fun zc1 => ?_) (fun zc1 => ?_)
  · exact absurd (am_bn.mp zc1) hb
  · refine ev_go 1 (q := 16) (st' := .int (-1) :: _) rfl ?_
    exact ev_iret rfl rfl (rfl) (rfl)
theorem m_used (hn : 43 ≤ h.1) (hd : 2 < d) (hR : 1 ≤ R ∧ R ≤ 10) (hC : 1 ≤ C ∧ C ≤ 10) (h1 : σ 1 = nI R) (h2 : σ 2 = nI C) {x : Int32} (hb : 0 ≤ x ∧ x ≤ 9) : am_m d z_Model_used [.ref 18, .int x] (mH h σ t A) (some (.int (mu_u (σ 6) A x R C))) (mH h (m0 σ) t A) := by
  refine ev_go 2 (q := 2) (st' := .int 0 :: _ :: _) rfl ?_
  refine ev_mput (j := 0) (q := 5) hn rfl rfl rfl (by decide) rfl (mls_0 _ _ _) rfl ?_
  refine ev_go 3 (q := 9) (st' := .int 9 :: .int 0 :: _ :: _) rfl ?_
  refine ev_static (z' := z_Model_in) (q := 12) rfl rfl (by decide) rfl rfl (by simp [Value.category]) rfl (by omega) (k_in _ _ _) ?_
  refine ev_if_ne (t := 17) (q := 15) rfl rfl rfl (fun zc1 => ?_) (fun c => absurd c (am_bn.mpr hb))
  refine ev_go 6 (q := 23) rfl ?_
  refine ev_get (q := 26) rfl (mH_o hn) rfl rfl rfl ?_
  rw [show va_up σ 0 0 1 = nI R from h1]
  refine l_uso (σ := m0 σ) hn hd hR hC h1 h2 R 0 0 _ (by omega) (fun e4 => ?_)
  refine ev_go 1 (q := 77) rfl ?_
  exact ev_iret rfl rfl (rfl) (rfl)
end M9
