/-! the reference: floats, digest -/
section M12
variable {d : Nat} {h h' : am_H} {σ : Nat → Int32} {t : Int64} {A : Nat → Nat → Int32} {res : Option Value} {R C u : Nat}
abbrev mrow (s : Int32) (A : Nat → Nat → Int32) (r : Nat) : Nat → Int32 := fun c => sp_seen s (fun l => A 0 (100 * l + (10 * r + c)))
def mf_r (s : Nat → Int32) (C r : Nat) (n i wh : Int32) : Nat → Nat → Int32 → Int32 ⊕ Int32
  | 0, _, p => .inr p
  | f + 1, c, p => if C ≤ c then .inr p else if ¬ s c = 0 ∧ n < nI (sp_end s (s c) (C - (c + 1)) (c + 1) - c) then (if p = i then .inl (sp_tell r c (sp_end s (s c) (C - (c + 1)) (c + 1) - c) (s c) wh) else mf_r s C r n i wh f (sp_end s (s c) (C - (c + 1)) (c + 1)) (p + 1)) else mf_r s C r n i wh f (sp_end s (s c) (C - (c + 1)) (c + 1)) p
def mf_o (s : Nat → Nat → Int32) (C : Nat) (n i wh : Int32) : Nat → Nat → Int32 → Int32
  | 0, _, _ => -9
  | m + 1, r, p => match mf_r (s r) C r n i wh (C + 1) 0 p with
    | .inl x => x
    | .inr q => mf_o s C n i wh m (r + 1) q
theorem l_fle (hn : 43 ≤ h.1) (hd : 2 < d) (hR : 1 ≤ R ∧ R ≤ 10) (hC : 1 ≤ C ∧ C ≤ 10) (h1 : σ 1 = nI R) (h2 : σ 2 = nI C) {n i wh : Int32} {p x : Int32} {r c : Nat} (hr : r < R) (hc : c < C) : ∀ (m e : Nat), e + m = C → am_ev d z_Model_floats (99, [some (.ref 18), some (.int n), some (.int i), some (.int wh), some (.int p), some (.int (nI r)), some (.int (nI c)), some (.int x), some (.int (nI (sp_end (mrow (σ 6) A r) x m e)))], [], mH h σ t A) res h' → am_ev d z_Model_floats (73, [some (.ref 18), some (.int n), some (.int i), some (.int wh), some (.int p), some (.int (nI r)), some (.int (nI c)), some (.int x), some (.int (nI e))], [.int (nI C), .int (nI e)], mH h σ t A) res h'
  | 0, e, hm, K => by
    have hc9 : e = C := hm
    subst hc9
    refine ev_icmp_ge (t := 99) (q := 76) rfl rfl rfl (fun _ => K) (fun c1 => absurd (nI_end rfl (by omega)) c1)
  | m + 1, e, hm, K => by
    refine ev_icmp_ge (t := 99) (q := 76) rfl rfl rfl (fun c1 => absurd c1 (nI_ge (by omega) (by omega))) (fun _ => ?_)
    rw [sp_end] at K
    refine ev_go 6 (q := 85) (st' := .int ((10 * _) + _) :: _ :: _) rfl ?_
    refine ev_virt (z' := z_Model_seen) (q := 88) rfl rfl (by decide) rfl (by simp [Value.category]) rfl (by omega) rfl rfl (mH_o hn) (by rw [show (10 : Int32) * nI r + nI e = nI (10 * r + e) from mx_k r e]; exact m_seen hn (by omega)) ?_
    refine ev_go 1 (q := 90) rfl ?_
    refine ev_icmp_ne (t := 99) (q := 93) rfl rfl rfl (fun zc1 => ?_) (fun zc1 => ?_)
    · rw [if_neg zc1] at K
      exact K
    · refine ev_go 4 (q := 70) rfl ?_
      refine ev_get (q := 73) rfl (mH_o hn) rfl rfl rfl ?_
      rw [if_pos zc1] at K
      rw [nI_s, h2]
      exact l_fle hn hd hR hC h1 h2 hr hc m (e + 1) (by omega) K
theorem l_flm (hn : 43 ≤ h.1) (hd : 2 < d) (hR : 1 ≤ R ∧ R ≤ 10) (hC : 1 ≤ C ∧ C ≤ 10) (h1 : σ 1 = nI R) (h2 : σ 2 = nI C) {n i wh : Int32} {r : Nat} (hr : r < R) (hw : 0 ≤ wh ∧ wh ≤ 3) : ∀ (f c : Nat) (p : Int32) (e7 e8 : Option Value), C < c + f → c ≤ C → (∀ x, mf_r (mrow (σ 6) A r) C r n i wh f c p = .inl x → res = some (.int x) ∧ mH h σ t A = h') → (∀ p' e6 e7 e8, mf_r (mrow (σ 6) A r) C r n i wh f c p = .inr p' → am_ev d z_Model_floats (164, [some (.ref 18), some (.int n), some (.int i), some (.int wh), some (.int p'), some (.int (nI r)), e6, e7, e8], [], mH h σ t A) res h') → am_ev d z_Model_floats (44, [some (.ref 18), some (.int n), some (.int i), some (.int wh), some (.int p), some (.int (nI r)), some (.int (nI c)), e7, e8], [.int (nI C), .int (nI c)], mH h σ t A) res h'
  | 0, c, p, e7, e8, hf, hc2, K1, K2 => absurd hf (by omega)
  | f + 1, c, p, e7, e8, hf, hc2, K1, K2 => by
    by_cases hcC : C ≤ c
    · refine ev_icmp_ge (t := 164) (q := 47) rfl rfl rfl (fun _ => K2 _ _ _ _ (by unfold mf_r; rw [if_pos hcC])) (fun c1 => absurd (nI_le (by omega) (by omega)) c1)
    · refine ev_icmp_ge (t := 164) (q := 47) rfl rfl rfl (fun c1 => absurd c1 (nI_ge (by omega) (by omega))) (fun _ => ?_)
      have hle := sp_end_le (mrow (σ 6) A r) (mrow (σ 6) A r c) (C - (c + 1)) (c + 1)
      have e1 : nI (sp_end (mrow (σ 6) A r) (mrow (σ 6) A r c) (C - (c + 1)) (c + 1)) - nI c = nI ((sp_end (mrow (σ 6) A r) (mrow (σ 6) A r c) (C - (c + 1)) (c + 1)) - c) := pk_sub (by omega)
      refine ev_go 6 (q := 56) (st' := .int ((10 * _) + _) :: _ :: _) rfl ?_
      refine ev_virt (z' := z_Model_seen) (q := 59) rfl rfl (by decide) rfl (by simp [Value.category]) rfl (by omega) rfl rfl (mH_o hn) (by rw [show (10 : Int32) * nI r + nI c = nI (10 * r + c) from mx_k r c]; exact m_seen hn (by omega)) ?_
      refine ev_go 7 (q := 70) rfl ?_
      refine ev_get (q := 73) rfl (mH_o hn) rfl rfl rfl ?_
      rw [h2, show nI c + Int32.ofInt 1 = nI (c + 1) from nI_s c]
      refine l_fle hn hd hR hC h1 h2 hr (Nat.not_le.mp hcC) (C - (c + 1)) (c + 1) (by omega) ?_
      refine ev_go 1 (q := 101) rfl ?_
      refine ev_if_eq (t := 157) (q := 104) rfl rfl rfl (fun zc1 => ?_) (fun zc1 => ?_)
      · refine ev_go 5 (q := 41) rfl ?_
        refine ev_get (q := 44) rfl (mH_o hn) rfl rfl rfl ?_
        have em : mf_r (mrow (σ 6) A r) C r n i wh (f + 1) c p = mf_r (mrow (σ 6) A r) C r n i wh f (sp_end (mrow (σ 6) A r) (mrow (σ 6) A r c) (C - (c + 1)) (c + 1)) p := by rw [mf_r, if_neg hcC, if_neg (fun q => q.1 zc1)]
        rw [em] at K1 K2
        rw [h2]
        exact l_flm hn hd hR hC h1 h2 hr hw f (sp_end (mrow (σ 6) A r) (mrow (σ 6) A r c) (C - (c + 1)) (c + 1)) p _ _ (by omega) (by omega) K1 K2
      · refine ev_go 4 (q := 110) rfl ?_
        refine ev_icmp_le (t := 157) (q := 113) rfl rfl rfl (fun zc2 => ?_) (fun zc2 => ?_)
        · refine ev_go 5 (q := 41) rfl ?_
          refine ev_get (q := 44) rfl (mH_o hn) rfl rfl rfl ?_
          have em : mf_r (mrow (σ 6) A r) C r n i wh (f + 1) c p = mf_r (mrow (σ 6) A r) C r n i wh f (sp_end (mrow (σ 6) A r) (mrow (σ 6) A r c) (C - (c + 1)) (c + 1)) p := by rw [mf_r, if_neg hcC, if_neg (fun q => absurd q.2 (Int32.not_lt.mpr (by rw [← e1]; exact zc2)))]
          rw [em] at K1 K2
          rw [h2]
          exact l_flm hn hd hR hC h1 h2 hr hw f (sp_end (mrow (σ 6) A r) (mrow (σ 6) A r c) (C - (c + 1)) (c + 1)) p _ _ (by omega) (by omega) K1 K2
        · refine ev_go 2 (q := 116) rfl ?_
          refine ev_icmp_ne (t := 154) (q := 119) rfl rfl rfl (fun zc3 => ?_) (fun zc3 => ?_)
          · refine ev_go 6 (q := 41) rfl ?_
            refine ev_get (q := 44) rfl (mH_o hn) rfl rfl rfl ?_
            have em : mf_r (mrow (σ 6) A r) C r n i wh (f + 1) c p = mf_r (mrow (σ 6) A r) C r n i wh f (sp_end (mrow (σ 6) A r) (mrow (σ 6) A r c) (C - (c + 1)) (c + 1)) (p + 1) := by rw [mf_r, if_neg hcC, if_pos ⟨zc1, by rw [← e1]; exact Int32.not_le.mp zc2⟩, if_neg zc3]
            rw [em] at K1 K2
            rw [h2]
            exact l_flm hn hd hR hC h1 h2 hr hw f (sp_end (mrow (σ 6) A r) (mrow (σ 6) A r c) (C - (c + 1)) (c + 1)) _ _ _ (by omega) (by omega) K1 K2
          · obtain ⟨rfl, rfl⟩ := K1 (sp_tell r c ((sp_end (mrow (σ 6) A r) (mrow (σ 6) A r c) (C - (c + 1)) (c + 1)) - c) (mrow (σ 6) A r c) wh) (by rw [mf_r, if_neg hcC, if_pos ⟨zc1, by rw [← e1]; exact Int32.not_le.mp zc2⟩, if_pos zc3])
            refine ev_go 1 (q := 120) rfl ?_
            refine ev_if_ne (t := 128) (q := 123) rfl rfl rfl (fun zc4 => ?_) (fun zc4 => ?_)
            · refine ev_go 2 (q := 130) (st' := .int 1 :: _ :: _) rfl ?_
              refine ev_icmp_ne (t := 138) (q := 133) rfl rfl rfl (fun zc5 => ?_) (fun zc5 => ?_)
              · refine ev_go 2 (q := 140) (st' := .int 2 :: _ :: _) rfl ?_
                refine ev_icmp_ne (t := 151) (q := 143) rfl rfl rfl (fun zc6 => ?_) (fun zc6 => ?_)
                · refine ev_go 1 (q := 153) rfl ?_
                  exact ev_iret rfl rfl (by unfold sp_tell; rw [if_neg zc4, if_neg zc5, if_neg zc6]) (rfl)
                · refine ev_go 4 (q := 153) rfl ?_
                  exact ev_iret rfl rfl (by rw [e1]; unfold sp_tell; rw [if_neg zc4, if_neg zc5, if_pos zc6]) (rfl)
              · refine ev_go 2 (q := 153) rfl ?_
                exact ev_iret rfl rfl (by unfold sp_tell; rw [if_neg zc4, if_pos zc5]) (rfl)
            · refine ev_go 2 (q := 153) rfl ?_
              exact ev_iret rfl rfl (by unfold sp_tell; rw [if_pos zc4]) (rfl)
theorem l_flo (hn : 43 ≤ h.1) (hd : 2 < d) (hR : 1 ≤ R ∧ R ≤ 10) (hC : 1 ≤ C ∧ C ≤ 10) (h1 : σ 1 = nI R) (h2 : σ 2 = nI C) {n i wh : Int32} (hw : 0 ≤ wh ∧ wh ≤ 3) : ∀ (m r : Nat) (p : Int32) (e6 e7 e8 : Option Value), r + m = R → res = some (.int (mf_o (mrow (σ 6) A) C n i wh m r p)) → mH h σ t A = h' → am_ev d z_Model_floats (32, [some (.ref 18), some (.int n), some (.int i), some (.int wh), some (.int p), some (.int (nI r)), e6, e7, e8], [.int (nI R), .int (nI r)], mH h σ t A) res h'
  | 0, r, p, e6, e7, e8, hm, hr0, hh => by
    subst hr0; subst hh
    have hc : r = R := hm
    subst hc
    refine ev_icmp_ge (t := 170) (q := 35) rfl rfl rfl (fun _ => ?_) (fun c1 => absurd (nI_end rfl (by omega)) c1)
    refine ev_go 1 (q := 172) (st' := .int (-9) :: _) rfl ?_
    exact ev_iret rfl rfl rfl rfl
  | m + 1, r, p, e6, e7, e8, hm, hr0, hh => by
    refine ev_icmp_ge (t := 170) (q := 35) rfl rfl rfl (fun c1 => absurd c1 (nI_ge (by omega) (by omega))) (fun _ => ?_)
    refine ev_go 4 (q := 41) rfl ?_
    refine ev_get (q := 44) rfl (mH_o hn) rfl rfl rfl ?_
    rw [h2, show Int32.ofInt 0 = nI 0 from rfl]
    refine l_flm hn hd hR hC h1 h2 (show r < R by omega) hw (C + 1) 0 p _ _ (by omega) (by omega) (fun x hx => ?_) (fun p' e6 e7 e8 hx => ?_)
    · rw [mf_o, hx] at hr0
      exact ⟨hr0, hh⟩
    · rw [mf_o, hx] at hr0
      refine ev_go 4 (q := 29) rfl ?_
      refine ev_get (q := 32) rfl (mH_o hn) rfl rfl rfl ?_
      rw [nI_s, h1]
      exact l_flo hn hd hR hC h1 h2 hw m (r + 1) _ _ _ _ (by omega) hr0 hh
theorem m_floatsB (hn : 43 ≤ h.1) (hd : 2 < d) {n i wh : Int32} (hb : ¬ (0 ≤ n ∧ (0 ≤ wh ∧ wh ≤ 3))) : am_m d z_Model_floats [.ref 18, .int n, .int i, .int wh] (mH h σ t A) (some (.int (-1))) (mH h (m0 σ) t A) := by
  refine ev_go 2 (q := 2) (st' := .int 0 :: _ :: _) rfl ?_
  refine ev_mput (j := 0) (q := 5) hn rfl rfl rfl (by decide) rfl (mls_0 _ _ _) rfl ?_
  refine ev_go 1 (q := 6) rfl ?_
  refine ev_if_lt (t := 18) (q := 9) rfl rfl rfl (fun zc1 => ?_) (fun zc1 => ?_)
  · refine ev_go 1 (q := 19) (st' := .int (-1) :: _) rfl ?_
    exact ev_iret rfl rfl (rfl) (rfl)
  · refine ev_go 3 (q := 12) (st' := .int 3 :: .int 0 :: _ :: _) rfl ?_
    refine ev_static (z' := z_Model_in) (q := 15) rfl rfl (by decide) rfl rfl (by simp [Value.category]) rfl (by omega) (k_in _ _ _) ?_
    refine ev_if_ne (t := 20) (q := 18) rfl rfl rfl (fun zc2 => ?_) (fun zc2 => ?_)
    · exact absurd ⟨Int32.not_lt.mp zc1, am_bn.mp zc2⟩ hb
    · refine ev_go 1 (q := 19) (st' := .int (-1) :: _) rfl ?_
      exact ev_iret rfl rfl (rfl) (rfl)
theorem m_floats (hn : 43 ≤ h.1) (hd : 2 < d) (hR : 1 ≤ R ∧ R ≤ 10) (hC : 1 ≤ C ∧ C ≤ 10) (h1 : σ 1 = nI R) (h2 : σ 2 = nI C) {n i wh : Int32} (hb : 0 ≤ n ∧ (0 ≤ wh ∧ wh ≤ 3)) : am_m d z_Model_floats [.ref 18, .int n, .int i, .int wh] (mH h σ t A) (some (.int (mf_o (mrow (σ 6) A) C n i wh R 0 0))) (mH h (m0 σ) t A) := by
  refine ev_go 2 (q := 2) (st' := .int 0 :: _ :: _) rfl ?_
  refine ev_mput (j := 0) (q := 5) hn rfl rfl rfl (by decide) rfl (mls_0 _ _ _) rfl ?_
  refine ev_go 1 (q := 6) rfl ?_
  refine ev_if_lt (t := 18) (q := 9) rfl rfl rfl (fun c => absurd c (Int32.not_lt.mpr hb.1)) (fun zc1 => ?_)
  refine ev_go 3 (q := 12) (st' := .int 3 :: .int 0 :: _ :: _) rfl ?_
  refine ev_static (z' := z_Model_in) (q := 15) rfl rfl (by decide) rfl rfl (by simp [Value.category]) rfl (by omega) (k_in _ _ _) ?_
  refine ev_if_ne (t := 20) (q := 18) rfl rfl rfl (fun zc2 => ?_) (fun c => absurd c (am_bn.mpr hb.2))
  refine ev_go 6 (q := 29) rfl ?_
  refine ev_get (q := 32) rfl (mH_o hn) rfl rfl rfl ?_
  refine ev_tp (y := nI R) h1 ?_
  rw [show Int32.ofInt 0 = nI 0 from rfl]
  exact l_flo (σ := m0 σ) hn hd hR hC h1 h2 hb.2 R 0 0 _ _ _ (by omega) rfl rfl
def mdg (A : Nat → Nat → Int32) (R C : Nat) (u s : Int32) : Int64 := 31 * (31 * sp_it (fun r => sp_it (fun c => (sp_fk (A 0 (100 * 0 + (10 * r + c))) (A 0 (100 * 1 + (10 * r + c))) (A 0 (100 * 2 + (10 * r + c))) (am_b (¬ A 1 (10 * r + c) = 0)))) 0 C) 0 R 7 + u.toInt64) + s.toInt64
theorem l_dgi (hn : 43 ≤ h.1) (hd : 2 < d) (hR : 1 ≤ R ∧ R ≤ 10) (hC : 1 ≤ C ∧ C ≤ 10) (h1 : σ 1 = nI R) (h2 : σ 2 = nI C) {r : Nat} (hr : r < R) : ∀ (m k : Nat) (X : Int64) (e5 : Option Value) (e6 : Option Value), k + m = C → (∀ e5 e6 : Option Value, am_ev d z_Model_digest (105, [some (.ref 18), some (.long (sp_it (fun c => (sp_fk (A 0 (100 * 0 + (10 * r + c))) (A 0 (100 * 1 + (10 * r + c))) (A 0 (100 * 2 + (10 * r + c))) (am_b (¬ A 1 (10 * r + c) = 0)))) k m X)), none, some (.int (nI r)), some (.int (nI C)), e5, e6], [], mH h σ t A) res h') → am_ev d z_Model_digest (28, [some (.ref 18), some (.long X), none, some (.int (nI r)), some (.int (nI k)), e5, e6], [.int (nI C), .int (nI k)], mH h σ t A) res h'
  | 0, k, X, e5, e6, hm, K => by
    refine ev_icmp_ge (t := 105) (q := 31) rfl rfl rfl (fun _ => ?_) (fun c1 => absurd (nI_end (b := C) hm (by omega)) c1)
    have hc : k = C := hm
    subst hc
    exact K e5 e6
  | m + 1, k, X, e5, e6, hm, K => by
    refine ev_icmp_ge (t := 105) (q := 31) rfl rfl rfl (fun c1 => absurd c1 (nI_ge (b := C) (by omega) (by omega))) (fun _ => ?_)
    simp only [sp_it] at K
    refine ev_go 6 (q := 40) rfl ?_
    rw [show (Int8.ofInt 10).toInt32 * nI r + nI k = nI (10 * r + k) from mx_k r k]
    rw [show sp_fk (A 0 (100 * 0 + (10 * r + k))) (A 0 (100 * 1 + (10 * r + k))) (A 0 (100 * 2 + (10 * r + k))) (am_b (¬ A 1 (10 * r + k) = 0)) X = 31 * (31 * (31 * (31 * X + (A 0 (100 * 0 + (10 * r + k))).toInt64) + (A 0 (100 * 1 + (10 * r + k))).toInt64) + (A 0 (100 * 2 + (10 * r + k))).toInt64) + (am_b (¬ A 1 (10 * r + k) = 0)).toInt64 from rfl] at K
    refine ev_go 4 (q := 46) (st' := .int 3 :: .int (nI 0) :: _) rfl ?_
    rw [show Int32.ofInt 0 = nI 0 from rfl]
    refine ev_icmp_ge (t := 76) (q := 49) rfl rfl rfl (fun c => absurd c (by decide)) (fun _ => ?_)
    refine ev_go 4 (q := 55) (st' := _ :: .long (31 * _) :: _) rfl ?_
    refine ev_get (q := 58) rfl (mH_o hn) rfl rfl rfl ?_
    refine ev_go 5 (q := 66) (st' := .int ((100 * _) + _) :: _ :: _ :: _) rfl ?_
    refine ev_mia (q := 67) hn rfl (by decide) rfl (mx_ix 0 (10 * r + k)) (show 100 * 0 + (10 * r + k) < 300 by omega) rfl ?_
    refine ev_go 5 (q := 43) rfl ?_

    rw [nI_s]
    refine ev_go 2 (q := 46) (st' := .int 3 :: _) rfl ?_
    refine ev_icmp_ge (t := 76) (q := 49) rfl rfl rfl (fun c => absurd c (by decide)) (fun _ => ?_)
    refine ev_go 4 (q := 55) (st' := _ :: .long (31 * _) :: _) rfl ?_
    refine ev_get (q := 58) rfl (mH_o hn) rfl rfl rfl ?_
    refine ev_go 5 (q := 66) (st' := .int ((100 * _) + _) :: _ :: _ :: _) rfl ?_
    refine ev_mia (q := 67) hn rfl (by decide) rfl (mx_ix 1 (10 * r + k)) (show 100 * 1 + (10 * r + k) < 300 by omega) rfl ?_
    refine ev_go 5 (q := 43) rfl ?_

    rw [nI_s]
    refine ev_go 2 (q := 46) (st' := .int 3 :: _) rfl ?_
    refine ev_icmp_ge (t := 76) (q := 49) rfl rfl rfl (fun c => absurd c (by decide)) (fun _ => ?_)
    refine ev_go 4 (q := 55) (st' := _ :: .long (31 * _) :: _) rfl ?_
    refine ev_get (q := 58) rfl (mH_o hn) rfl rfl rfl ?_
    refine ev_go 5 (q := 66) (st' := .int ((100 * _) + _) :: _ :: _ :: _) rfl ?_
    refine ev_mia (q := 67) hn rfl (by decide) rfl (mx_ix 2 (10 * r + k)) (show 100 * 2 + (10 * r + k) < 300 by omega) rfl ?_
    refine ev_go 5 (q := 43) rfl ?_

    rw [nI_s]
    refine ev_go 2 (q := 46) (st' := .int 3 :: _) rfl ?_
    refine ev_icmp_ge (t := 76) (q := 49) rfl rfl rfl (fun _ => ?_) (fun c => absurd (by decide) c)
    refine ev_go 4 (q := 82) (st' := _ :: .long (31 * _) :: _) rfl ?_
    refine ev_get (q := 85) rfl (mH_o hn) rfl rfl rfl ?_
    refine ev_go 1 (q := 87) rfl ?_
    refine ev_mza (q := 88) hn rfl (by decide) rfl rfl (show 10 * r + k < 100 by omega) rfl ?_
    refine ev_if_eq (t := 95) (q := 91) rfl rfl rfl (fun zc1 => ?_) (fun zc1 => ?_)
    · refine ev_go 8 (q := 25) rfl ?_
      refine ev_get (q := 28) rfl (mH_o hn) rfl rfl rfl ?_
      rw [am_bz (fun q => q zc1)] at K
      rw [nI_s, h2]
      exact l_dgi hn hd hR hC h1 h2 hr m (k + 1) _ _ _ (by omega) K
    · refine ev_go 9 (q := 25) rfl ?_
      refine ev_get (q := 28) rfl (mH_o hn) rfl rfl rfl ?_
      rw [am_b1 zc1] at K
      rw [nI_s, h2]
      exact l_dgi hn hd hR hC h1 h2 hr m (k + 1) _ _ _ (by omega) K
theorem l_dgo (hn : 43 ≤ h.1) (hd : 2 < d) (hR : 1 ≤ R ∧ R ≤ 10) (hC : 1 ≤ C ∧ C ≤ 10) (h1 : σ 1 = nI R) (h2 : σ 2 = nI C) : ∀ (m k : Nat) (X : Int64) (e4 : Option Value) (e5 : Option Value) (e6 : Option Value), k + m = R → (∀ e4 e5 e6 : Option Value, am_ev d z_Model_digest (111, [some (.ref 18), some (.long (sp_it (fun r => sp_it (fun c => (sp_fk (A 0 (100 * 0 + (10 * r + c))) (A 0 (100 * 1 + (10 * r + c))) (A 0 (100 * 2 + (10 * r + c))) (am_b (¬ A 1 (10 * r + c) = 0)))) 0 C) k m X)), none, some (.int (nI R)), e4, e5, e6], [], mH h σ t A) res h') → am_ev d z_Model_digest (16, [some (.ref 18), some (.long X), none, some (.int (nI k)), e4, e5, e6], [.int (nI R), .int (nI k)], mH h σ t A) res h'
  | 0, k, X, e4, e5, e6, hm, K => by
    refine ev_icmp_ge (t := 111) (q := 19) rfl rfl rfl (fun _ => ?_) (fun c1 => absurd (nI_end (b := R) hm (by omega)) c1)
    have hc : k = R := hm
    subst hc
    exact K e4 e5 e6
  | m + 1, k, X, e4, e5, e6, hm, K => by
    refine ev_icmp_ge (t := 111) (q := 19) rfl rfl rfl (fun c1 => absurd c1 (nI_ge (b := R) (by omega) (by omega))) (fun _ => ?_)
    simp only [sp_it] at K
    refine ev_go 4 (q := 25) rfl ?_
    refine ev_get (q := 28) rfl (mH_o hn) rfl rfl rfl ?_
    rw [h2, show Int32.ofInt 0 = nI 0 from rfl]
    refine l_dgi hn hd hR hC h1 h2 (show k < R by omega) C 0 X _ _ (by omega) (fun e5 e6 => ?_)
    refine ev_go 4 (q := 13) rfl ?_
    refine ev_get (q := 16) rfl (mH_o hn) rfl rfl rfl ?_
    rw [nI_s, h1]
    exact l_dgo hn hd hR hC h1 h2 m (k + 1) _ _ _ _ (by omega) K
theorem m_digest (hn : 43 ≤ h.1) (hd : 2 < d) (hR : 1 ≤ R ∧ R ≤ 10) (hC : 1 ≤ C ∧ C ≤ 10) (h1 : σ 1 = nI R) (h2 : σ 2 = nI C) : am_m d z_Model_digest [.ref 18] (mH h σ t A) (some (.long (mdg A R C (σ 5) (σ 6)))) (mH h (m0 σ) t A) := by
  refine ev_go 2 (q := 2) (st' := .int 0 :: _ :: _) rfl ?_
  refine ev_mput (j := 0) (q := 5) hn rfl rfl rfl (by decide) rfl (mls_0 _ _ _) rfl ?_
  refine ev_go 6 (q := 13) rfl ?_
  refine ev_get (q := 16) rfl (mH_o hn) rfl rfl rfl ?_
  refine ev_tp (y := nI R) h1 ?_
  rw [show Int32.ofInt 0 = nI 0 from rfl]
  refine l_dgo (σ := m0 σ) hn hd hR hC h1 h2 R 0 7 _ _ _ (by omega) (fun e4 e5 e6 => ?_)
  refine ev_go 4 (q := 117) (st' := _ :: .long (31 * _) :: _) rfl ?_
  refine ev_get (q := 120) rfl (mH_o hn) rfl rfl rfl ?_
  refine ev_go 7 (q := 129) (st' := _ :: .long (31 * _) :: _) rfl ?_
  refine ev_get (q := 132) rfl (mH_o hn) rfl rfl rfl ?_
  refine ev_go 2 (q := 134) rfl ?_
  exact ev_lret rfl rfl (rfl) (rfl)
end M12
