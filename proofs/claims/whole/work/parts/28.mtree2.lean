/-! the reference: run, call, cloth, the tree's moves -/
section M11
variable {d : Nat} {h h' : am_H} {σ : Nat → Int32} {t : Int64} {A : Nat → Nat → Int32} {res : Option Value} {R C u : Nat}
theorem ev_hp {z pc : Nat} {L : List (Option Value)} {st : List Value} {r : Option Value} {h1 h2 : am_H} (e : h1 = h2) (k : am_ev d z (pc, L, st, h2) r h') : am_ev d z (pc, L, st, h1) r h' := by
  subst e
  exact k
abbrev mg (σ : Nat → Int32) : Nat → Int32 := va_up (va_up (va_up (va_up (va_up (m0 σ) 24 0) 25 0) 26 0) 27 (-9)) 28 0
def v5 (j : Nat) (a b c e f : Int32) (A : Nat → Nat → Int32) : Nat → Nat → Int32 := va_up A j (va_up (va_up (va_up (va_up (va_up (A j) 0 a) 1 b) 2 c) 3 e) 4 f)
theorem v5_eq (j : Nat) (a b c e f : Int32) (A : Nat → Nat → Int32) : va_up (va_up (va_up (va_up (va_up A j (va_up (A j) 0 a)) j (va_up (va_up A j (va_up (A j) 0 a) j) 1 b)) j (va_up (va_up (va_up A j (va_up (A j) 0 a)) j (va_up (va_up A j (va_up (A j) 0 a) j) 1 b) j) 2 c)) j (va_up (va_up (va_up (va_up A j (va_up (A j) 0 a)) j (va_up (va_up A j (va_up (A j) 0 a) j) 1 b)) j (va_up (va_up (va_up A j (va_up (A j) 0 a)) j (va_up (va_up A j (va_up (A j) 0 a) j) 1 b) j) 2 c) j) 3 e)) j (va_up (va_up (va_up (va_up (va_up A j (va_up (A j) 0 a)) j (va_up (va_up A j (va_up (A j) 0 a) j) 1 b)) j (va_up (va_up (va_up A j (va_up (A j) 0 a)) j (va_up (va_up A j (va_up (A j) 0 a) j) 1 b) j) 2 c)) j (va_up (va_up (va_up (va_up A j (va_up (A j) 0 a)) j (va_up (va_up A j (va_up (A j) 0 a) j) 1 b)) j (va_up (va_up (va_up A j (va_up (A j) 0 a)) j (va_up (va_up A j (va_up (A j) 0 a) j) 1 b) j) 2 c) j) 3 e) j) 4 f) = v5 j a b c e f A := by
  unfold v5
  simp only [bx_uu, va_up_self]
theorem m_runB (hn : 43 ≤ h.1) (hd : 2 < d) {k a b c e f : Int32} (hb : ¬ (0 ≤ k ∧ k ≤ 12)) : am_m d z_Model_run [.ref 18, .int k, .int a, .int b, .int c, .int e, .int f] (mH h σ t A) (some (.int (-1))) (mH h (m0 σ) t A) := by
  refine ev_go 2 (q := 2) (st' := .int 0 :: _ :: _) rfl ?_
  refine ev_mput (j := 0) (q := 5) hn rfl rfl rfl (by decide) rfl (mls_0 _ _ _) rfl ?_
  refine ev_go 3 (q := 9) (st' := .int 12 :: .int 0 :: _ :: _) rfl ?_
  refine ev_static (z' := z_Model_in) (q := 12) rfl rfl (by decide) rfl rfl (by simp [Value.category]) rfl (by omega) (k_in _ _ _) ?_
  refine ev_if_ne (t := 17) (q := 15) rfl rfl rfl (fun zc1 => ?_) (fun zc1 => ?_)
  · exact absurd (am_bn.mp zc1) hb
  · refine ev_go 1 (q := 16) (st' := .int (-1) :: _) rfl ?_
    exact ev_iret rfl rfl (rfl) (rfl)
theorem m_runF (hn : 43 ≤ h.1) (hd : 2 < d) {k a b c e f : Int32} (hb : 0 ≤ k ∧ k ≤ 12) (h10 : σ 10 = nI 60) : am_m d z_Model_run [.ref 18, .int k, .int a, .int b, .int c, .int e, .int f] (mH h σ t A) (some (.int (-3))) (mH h (m0 σ) t A) := by
  refine ev_go 2 (q := 2) (st' := .int 0 :: _ :: _) rfl ?_
  refine ev_mput (j := 0) (q := 5) hn rfl rfl rfl (by decide) rfl (mls_0 _ _ _) rfl ?_
  refine ev_go 3 (q := 9) (st' := .int 12 :: .int 0 :: _ :: _) rfl ?_
  refine ev_static (z' := z_Model_in) (q := 12) rfl rfl (by decide) rfl rfl (by simp [Value.category]) rfl (by omega) (k_in _ _ _) ?_
  refine ev_if_ne (t := 17) (q := 15) rfl rfl rfl (fun zc1 => ?_) (fun c => absurd c (am_bn.mpr hb))
  refine ev_go 1 (q := 18) rfl ?_
  refine ev_get (q := 21) rfl (mH_o hn) rfl rfl rfl ?_
  refine ev_go 1 (q := 23) (st' := .int 60 :: _ :: _) rfl ?_
  refine ev_icmp_ne (t := 29) (q := 26) rfl rfl rfl (fun c => absurd h10 c) (fun zc2 => ?_)
  refine ev_go 1 (q := 28) (st' := .int (-3) :: _) rfl ?_
  exact ev_iret rfl rfl (rfl) (rfl)
theorem m_run (hn : 43 ≤ h.1) (hd : 2 < d) {k a b c e f : Int32} (hb : 0 ≤ k ∧ k ≤ 12) {n : Nat} (h10 : σ 10 = nI n) (hn60 : n < 60) {σ2 : Nat → Int32} {t2 : Int64} {A2 : Nat → Nat → Int32} {x y : Int32} {H2 : am_H} (hx : am_m (d - 1) z_Model_does [.ref 18, .int k] (mH h (mg σ) t (v5 15 a b c e f A)) (some (.int x)) (mH h σ2 t2 A2)) (hy : am_m (d - 1) z_Model_ends [.ref 18, .int x] (mH h σ2 t2 A2) (some (.int y)) H2) : am_m d z_Model_run [.ref 18, .int k, .int a, .int b, .int c, .int e, .int f] (mH h σ t A) (some (.int y)) H2 := by
  refine ev_go 2 (q := 2) (st' := .int 0 :: _ :: _) rfl ?_
  refine ev_mput (j := 0) (q := 5) hn rfl rfl rfl (by decide) rfl (mls_0 _ _ _) rfl ?_
  refine ev_go 3 (q := 9) (st' := .int 12 :: .int 0 :: _ :: _) rfl ?_
  refine ev_static (z' := z_Model_in) (q := 12) rfl rfl (by decide) rfl rfl (by simp [Value.category]) rfl (by omega) (k_in _ _ _) ?_
  refine ev_if_ne (t := 17) (q := 15) rfl rfl rfl (fun zc1 => ?_) (fun c => absurd c (am_bn.mpr hb))
  refine ev_go 1 (q := 18) rfl ?_
  refine ev_get (q := 21) rfl (mH_o hn) rfl rfl rfl ?_
  refine ev_go 1 (q := 23) (st' := .int 60 :: _ :: _) rfl ?_
  refine ev_icmp_ne (t := 29) (q := 26) rfl rfl rfl (fun zc2 => ?_) (fun c => absurd c (fun q => absurd ((nI_eq (b := 60) (by omega) (by decide)).mp (h10.symm.trans q)) (by omega)))
  refine ev_go 1 (q := 30) rfl ?_
  refine ev_virt (z' := z_Model_begins) (q := 33) rfl rfl (by decide) rfl (by simp [Value.category]) rfl (by omega) rfl rfl (mH_o hn) (m_begins hn) ?_
  refine ev_go 1 (q := 34) rfl ?_
  refine ev_get (q := 37) rfl (mH_o hn) rfl rfl rfl ?_
  refine ev_go 2 (q := 39) (st' := _ :: .int 0 :: _ :: _) rfl ?_
  refine ev_mias (q := 40) hn rfl (by decide) rfl rfl (by decide) rfl ?_
  refine ev_go 1 (q := 41) rfl ?_
  refine ev_get (q := 44) rfl (mH_o hn) rfl rfl rfl ?_
  refine ev_go 2 (q := 46) (st' := _ :: .int 1 :: _ :: _) rfl ?_
  refine ev_mias (q := 47) hn rfl (by decide) rfl rfl (by decide) rfl ?_
  refine ev_go 1 (q := 48) rfl ?_
  refine ev_get (q := 51) rfl (mH_o hn) rfl rfl rfl ?_
  refine ev_go 2 (q := 54) (st' := _ :: .int 2 :: _ :: _) rfl ?_
  refine ev_mias (q := 55) hn rfl (by decide) rfl rfl (by decide) rfl ?_
  refine ev_go 1 (q := 56) rfl ?_
  refine ev_get (q := 59) rfl (mH_o hn) rfl rfl rfl ?_
  refine ev_go 2 (q := 62) (st' := _ :: .int 3 :: _ :: _) rfl ?_
  refine ev_mias (q := 63) hn rfl (by decide) rfl rfl (by decide) rfl ?_
  refine ev_go 1 (q := 64) rfl ?_
  refine ev_get (q := 67) rfl (mH_o hn) rfl rfl rfl ?_
  refine ev_go 2 (q := 70) (st' := _ :: .int 4 :: _ :: _) rfl ?_
  refine ev_mias (q := 71) hn rfl (by decide) rfl rfl (by decide) rfl ?_
  refine ev_go 3 (q := 74) rfl ?_
  refine ev_hp (congrArg (mH h _ t) (v5_eq 15 a b c e f A)) ?_
  refine ev_virt (z' := z_Model_does) (q := 77) rfl rfl (by decide) rfl (by simp [Value.category]) rfl (by omega) rfl rfl (mH_o hn) hx ?_
  refine ev_virt (z' := z_Model_ends) (q := 80) rfl rfl (by decide) rfl (by simp [Value.category]) rfl (by omega) rfl rfl (mH_o hn) hy ?_
  exact ev_iret rfl rfl (rfl) (rfl)
theorem m_callB (hn : 43 ≤ h.1) (hd : 2 < d) {n : Nat} (h12 : σ 12 = nI n) (hn40 : n ≤ 40) {k a b c e f : Int32} (hb : ¬ (0 ≤ k ∧ k < nI n)) : am_m d z_Model_call [.ref 18, .int k, .int a, .int b, .int c, .int e, .int f] (mH h σ t A) (some (.int (-1))) (mH h (m0 σ) t A) := by
  refine ev_go 2 (q := 2) (st' := .int 0 :: _ :: _) rfl ?_
  refine ev_mput (j := 0) (q := 5) hn rfl rfl rfl (by decide) rfl (mls_0 _ _ _) rfl ?_
  refine ev_go 2 (q := 7) rfl ?_
  refine ev_virt (z' := z_Model_isHandle) (q := 10) rfl rfl (by decide) rfl (by simp [Value.category]) rfl (by omega) rfl rfl (mH_o hn) (m_isHandle (σ := m0 σ) hn (by omega) h12 (by omega)) ?_
  refine ev_if_ne (t := 15) (q := 13) rfl rfl rfl (fun zc1 => ?_) (fun zc1 => ?_)
  · exact absurd (am_bn.mp zc1) hb
  · refine ev_go 1 (q := 14) (st' := .int (-1) :: _) rfl ?_
    exact ev_iret rfl rfl (rfl) (rfl)
theorem m_callF (hn : 43 ≤ h.1) (hd : 2 < d) {n : Nat} (h12 : σ 12 = nI n) (hn40 : n ≤ 40) {k a b c e f : Int32} (hb : 0 ≤ k ∧ k < nI n) (h10 : σ 10 = nI 60) : am_m d z_Model_call [.ref 18, .int k, .int a, .int b, .int c, .int e, .int f] (mH h σ t A) (some (.int (-3))) (mH h (m0 σ) t A) := by
  refine ev_go 2 (q := 2) (st' := .int 0 :: _ :: _) rfl ?_
  refine ev_mput (j := 0) (q := 5) hn rfl rfl rfl (by decide) rfl (mls_0 _ _ _) rfl ?_
  refine ev_go 2 (q := 7) rfl ?_
  refine ev_virt (z' := z_Model_isHandle) (q := 10) rfl rfl (by decide) rfl (by simp [Value.category]) rfl (by omega) rfl rfl (mH_o hn) (m_isHandle (σ := m0 σ) hn (by omega) h12 (by omega)) ?_
  refine ev_if_ne (t := 15) (q := 13) rfl rfl rfl (fun zc1 => ?_) (fun c => absurd c (am_bn.mpr hb))
  refine ev_go 1 (q := 16) rfl ?_
  refine ev_get (q := 19) rfl (mH_o hn) rfl rfl rfl ?_
  refine ev_go 1 (q := 21) (st' := .int 60 :: _ :: _) rfl ?_
  refine ev_icmp_ne (t := 27) (q := 24) rfl rfl rfl (fun c => absurd h10 c) (fun zc2 => ?_)
  refine ev_go 1 (q := 26) (st' := .int (-3) :: _) rfl ?_
  exact ev_iret rfl rfl (rfl) (rfl)
theorem m_call (hn : 43 ≤ h.1) (hd : 2 < d) {n : Nat} (h12 : σ 12 = nI n) (hn40 : n ≤ 40) {k a b c e f : Int32} (hb : 0 ≤ k ∧ k < nI n) {n2 : Nat} (h10 : σ 10 = nI n2) (hn60 : n2 < 60) {σ2 : Nat → Int32} {t2 : Int64} {A2 : Nat → Nat → Int32} {x y : Int32} {H2 : am_H} (hx : am_m (d - 1) z_Model_calls [.ref 18, .int k] (mH h (mg σ) t (v5 18 a b c e f A)) (some (.int x)) (mH h σ2 t2 A2)) (hy : am_m (d - 1) z_Model_ends [.ref 18, .int x] (mH h σ2 t2 A2) (some (.int y)) H2) : am_m d z_Model_call [.ref 18, .int k, .int a, .int b, .int c, .int e, .int f] (mH h σ t A) (some (.int y)) H2 := by
  refine ev_go 2 (q := 2) (st' := .int 0 :: _ :: _) rfl ?_
  refine ev_mput (j := 0) (q := 5) hn rfl rfl rfl (by decide) rfl (mls_0 _ _ _) rfl ?_
  refine ev_go 2 (q := 7) rfl ?_
  refine ev_virt (z' := z_Model_isHandle) (q := 10) rfl rfl (by decide) rfl (by simp [Value.category]) rfl (by omega) rfl rfl (mH_o hn) (m_isHandle (σ := m0 σ) hn (by omega) h12 (by omega)) ?_
  refine ev_if_ne (t := 15) (q := 13) rfl rfl rfl (fun zc1 => ?_) (fun c => absurd c (am_bn.mpr hb))
  refine ev_go 1 (q := 16) rfl ?_
  refine ev_get (q := 19) rfl (mH_o hn) rfl rfl rfl ?_
  refine ev_go 1 (q := 21) (st' := .int 60 :: _ :: _) rfl ?_
  refine ev_icmp_ne (t := 27) (q := 24) rfl rfl rfl (fun zc2 => ?_) (fun c => absurd c (fun q => absurd ((nI_eq (b := 60) (by omega) (by decide)).mp (h10.symm.trans q)) (by omega)))
  refine ev_go 1 (q := 28) rfl ?_
  refine ev_virt (z' := z_Model_begins) (q := 31) rfl rfl (by decide) rfl (by simp [Value.category]) rfl (by omega) rfl rfl (mH_o hn) (m_begins hn) ?_
  refine ev_go 1 (q := 32) rfl ?_
  refine ev_get (q := 35) rfl (mH_o hn) rfl rfl rfl ?_
  refine ev_go 2 (q := 37) (st' := _ :: .int 0 :: _ :: _) rfl ?_
  refine ev_mias (q := 38) hn rfl (by decide) rfl rfl (by decide) rfl ?_
  refine ev_go 1 (q := 39) rfl ?_
  refine ev_get (q := 42) rfl (mH_o hn) rfl rfl rfl ?_
  refine ev_go 2 (q := 44) (st' := _ :: .int 1 :: _ :: _) rfl ?_
  refine ev_mias (q := 45) hn rfl (by decide) rfl rfl (by decide) rfl ?_
  refine ev_go 1 (q := 46) rfl ?_
  refine ev_get (q := 49) rfl (mH_o hn) rfl rfl rfl ?_
  refine ev_go 2 (q := 52) (st' := _ :: .int 2 :: _ :: _) rfl ?_
  refine ev_mias (q := 53) hn rfl (by decide) rfl rfl (by decide) rfl ?_
  refine ev_go 1 (q := 54) rfl ?_
  refine ev_get (q := 57) rfl (mH_o hn) rfl rfl rfl ?_
  refine ev_go 2 (q := 60) (st' := _ :: .int 3 :: _ :: _) rfl ?_
  refine ev_mias (q := 61) hn rfl (by decide) rfl rfl (by decide) rfl ?_
  refine ev_go 1 (q := 62) rfl ?_
  refine ev_get (q := 65) rfl (mH_o hn) rfl rfl rfl ?_
  refine ev_go 2 (q := 68) (st' := _ :: .int 4 :: _ :: _) rfl ?_
  refine ev_mias (q := 69) hn rfl (by decide) rfl rfl (by decide) rfl ?_
  refine ev_go 3 (q := 72) rfl ?_
  refine ev_hp (congrArg (mH h _ t) (v5_eq 18 a b c e f A)) ?_
  refine ev_virt (z' := z_Model_calls) (q := 75) rfl rfl (by decide) rfl (by simp [Value.category]) rfl (by omega) rfl rfl (mH_o hn) hx ?_
  refine ev_virt (z' := z_Model_ends) (q := 78) rfl rfl (by decide) rfl (by simp [Value.category]) rfl (by omega) rfl rfl (mH_o hn) hy ?_
  exact ev_iret rfl rfl (rfl) (rfl)
theorem m_playB (hn : 43 ≤ h.1) (hd : 2 < d) {q : Nat} (h16 : σ 16 = nI q) (hq : q ≤ 20) {k : Int32} (hb : ¬ (0 ≤ k ∧ k < nI q)) : am_m d z_Model_play [.ref 18, .int k] (mH h σ t A) (some (.int (-1))) (mH h (m0 σ) t A) := by
  refine ev_go 2 (q := 2) (st' := .int 0 :: _ :: _) rfl ?_
  refine ev_mput (j := 0) (q := 5) hn rfl rfl rfl (by decide) rfl (mls_0 _ _ _) rfl ?_
  refine ev_go 2 (q := 7) rfl ?_
  refine ev_virt (z' := z_Model_isMacro) (q := 10) rfl rfl (by decide) rfl (by simp [Value.category]) rfl (by omega) rfl rfl (mH_o hn) (m_isMacro (σ := m0 σ) hn (by omega) h16 (by omega)) ?_
  refine ev_if_ne (t := 15) (q := 13) rfl rfl rfl (fun zc1 => ?_) (fun zc1 => ?_)
  · exact absurd (am_bn.mp zc1) hb
  · refine ev_go 1 (q := 14) (st' := .int (-1) :: _) rfl ?_
    exact ev_iret rfl rfl (rfl) (rfl)
theorem m_playF (hn : 43 ≤ h.1) (hd : 2 < d) {q : Nat} (h16 : σ 16 = nI q) (hq : q ≤ 20) {k : Int32} (hb : 0 ≤ k ∧ k < nI q) (h10 : σ 10 = nI 60) : am_m d z_Model_play [.ref 18, .int k] (mH h σ t A) (some (.int (-3))) (mH h (m0 σ) t A) := by
  refine ev_go 2 (q := 2) (st' := .int 0 :: _ :: _) rfl ?_
  refine ev_mput (j := 0) (q := 5) hn rfl rfl rfl (by decide) rfl (mls_0 _ _ _) rfl ?_
  refine ev_go 2 (q := 7) rfl ?_
  refine ev_virt (z' := z_Model_isMacro) (q := 10) rfl rfl (by decide) rfl (by simp [Value.category]) rfl (by omega) rfl rfl (mH_o hn) (m_isMacro (σ := m0 σ) hn (by omega) h16 (by omega)) ?_
  refine ev_if_ne (t := 15) (q := 13) rfl rfl rfl (fun zc1 => ?_) (fun c => absurd c (am_bn.mpr hb))
  refine ev_go 1 (q := 16) rfl ?_
  refine ev_get (q := 19) rfl (mH_o hn) rfl rfl rfl ?_
  refine ev_go 1 (q := 21) (st' := .int 60 :: _ :: _) rfl ?_
  refine ev_icmp_ne (t := 27) (q := 24) rfl rfl rfl (fun c => absurd h10 c) (fun zc2 => ?_)
  refine ev_go 1 (q := 26) (st' := .int (-3) :: _) rfl ?_
  exact ev_iret rfl rfl (rfl) (rfl)
theorem m_play (hn : 43 ≤ h.1) (hd : 2 < d) {q : Nat} (h16 : σ 16 = nI q) (hq : q ≤ 20) {k : Int32} (hb : 0 ≤ k ∧ k < nI q) {n2 : Nat} (h10 : σ 10 = nI n2) (hn60 : n2 < 60) {σ2 : Nat → Int32} {t2 : Int64} {A2 : Nat → Nat → Int32} {x y : Int32} {H2 : am_H} (hx : am_m (d - 1) z_Model_plays [.ref 18, .int k] (mH h (mg σ) t A) (some (.int x)) (mH h σ2 t2 A2)) (hy : am_m (d - 1) z_Model_ends [.ref 18, .int x] (mH h σ2 t2 A2) (some (.int y)) H2) : am_m d z_Model_play [.ref 18, .int k] (mH h σ t A) (some (.int y)) H2 := by
  refine ev_go 2 (q := 2) (st' := .int 0 :: _ :: _) rfl ?_
  refine ev_mput (j := 0) (q := 5) hn rfl rfl rfl (by decide) rfl (mls_0 _ _ _) rfl ?_
  refine ev_go 2 (q := 7) rfl ?_
  refine ev_virt (z' := z_Model_isMacro) (q := 10) rfl rfl (by decide) rfl (by simp [Value.category]) rfl (by omega) rfl rfl (mH_o hn) (m_isMacro (σ := m0 σ) hn (by omega) h16 (by omega)) ?_
  refine ev_if_ne (t := 15) (q := 13) rfl rfl rfl (fun zc1 => ?_) (fun c => absurd c (am_bn.mpr hb))
  refine ev_go 1 (q := 16) rfl ?_
  refine ev_get (q := 19) rfl (mH_o hn) rfl rfl rfl ?_
  refine ev_go 1 (q := 21) (st' := .int 60 :: _ :: _) rfl ?_
  refine ev_icmp_ne (t := 27) (q := 24) rfl rfl rfl (fun zc2 => ?_) (fun c => absurd c (fun q => absurd ((nI_eq (b := 60) (by omega) (by decide)).mp (h10.symm.trans q)) (by omega)))
  refine ev_go 1 (q := 28) rfl ?_
  refine ev_virt (z' := z_Model_begins) (q := 31) rfl rfl (by decide) rfl (by simp [Value.category]) rfl (by omega) rfl rfl (mH_o hn) (m_begins hn) ?_
  refine ev_go 3 (q := 34) rfl ?_
  refine ev_virt (z' := z_Model_plays) (q := 37) rfl rfl (by decide) rfl (by simp [Value.category]) rfl (by omega) rfl rfl (mH_o hn) hx ?_
  refine ev_virt (z' := z_Model_ends) (q := 40) rfl rfl (by decide) rfl (by simp [Value.category]) rfl (by omega) rfl rfl (mH_o hn) hy ?_
  exact ev_iret rfl rfl (rfl) (rfl)
theorem m_clothB (hn : 43 ≤ h.1) (hd : 2 < d) {r c : Int32} (hb : ¬ ((1 ≤ r ∧ r ≤ 10) ∧ (1 ≤ c ∧ c ≤ 10))) : am_m d z_Model_cloth [.ref 18, .int r, .int c] (mH h σ t A) (some (.int (-1))) (mH h (m0 σ) t A) := by
  refine ev_go 2 (q := 2) (st' := .int 0 :: _ :: _) rfl ?_
  refine ev_mput (j := 0) (q := 5) hn rfl rfl rfl (by decide) rfl (mls_0 _ _ _) rfl ?_
  refine ev_go 3 (q := 9) (st' := .int 10 :: .int 1 :: _ :: _) rfl ?_
  refine ev_static (z' := z_Model_in) (q := 12) rfl rfl (by decide) rfl rfl (by simp [Value.category]) rfl (by omega) (k_in _ _ _) ?_
  refine ev_if_eq (t := 25) (q := 15) rfl rfl rfl (fun zc1 => ?_) (fun zc1 => ?_)
  · refine ev_go 1 (q := 26) (st' := .int (-1) :: _) rfl ?_
    exact ev_iret rfl rfl (rfl) (rfl)
  · refine ev_go 3 (q := 19) (st' := .int 10 :: .int 1 :: _ :: _) rfl ?_
    refine ev_static (z' := z_Model_in) (q := 22) rfl rfl (by decide) rfl rfl (by simp [Value.category]) rfl (by omega) (k_in _ _ _) ?_
    refine ev_if_ne (t := 27) (q := 25) rfl rfl rfl (fun zc2 => ?_) (fun zc2 => ?_)
    · exact absurd ⟨am_bn.mp zc1, am_bn.mp zc2⟩ hb
    · refine ev_go 1 (q := 26) (st' := .int (-1) :: _) rfl ?_
      exact ev_iret rfl rfl (rfl) (rfl)
theorem l_clo1 (hn : 43 ≤ h.1) {xr xc : Int32} : ∀ (m k : Nat) (A : Nat → Nat → Int32), k + m = 300 → am_ev d z_Model_cloth (59, [some (.ref 18), some (.int xr), some (.int xc), some (.int (nI 300))], [], mH h σ t (sp_it (fun k A => va_up A 0 (va_up (A 0) k 0)) k m A)) res h' → am_ev d z_Model_cloth (43, [some (.ref 18), some (.int xr), some (.int xc), some (.int (nI k))], [.int 300, .int (nI k)], mH h σ t A) res h'
  | 0, k, A, hm, K => by
    refine ev_icmp_ge (t := 59) (q := 46) rfl rfl rfl (fun _ => ?_) (fun c1 => absurd (nI_end (b := 300) hm (by omega)) c1)
    have hc : k = 300 := hm
    subst hc
    exact K
  | m + 1, k, A, hm, K => by
    refine ev_icmp_ge (t := 59) (q := 46) rfl rfl rfl (fun c1 => absurd c1 (nI_ge (b := 300) (by omega) (by omega))) (fun _ => ?_)
    rw [sp_it] at K
    refine ev_go 1 (q := 47) rfl ?_
    refine ev_get (q := 50) rfl (mH_o hn) rfl rfl rfl ?_
    refine ev_go 2 (q := 52) (st' := .int 0 :: _ :: _ :: _) rfl ?_
    refine ev_mias (q := 53) hn rfl (by decide) rfl rfl (show k < 300 by omega) rfl ?_
    refine ev_go 4 (q := 43) (st' := .int 300 :: _ :: _) rfl ?_
    rw [nI_s]
    exact l_clo1 hn m (k + 1) _ (by omega) K
theorem l_clo2 (hn : 43 ≤ h.1) {xr xc : Int32} : ∀ (m k : Nat) (A : Nat → Nat → Int32), k + m = 60 → am_ev d z_Model_cloth (96, [some (.ref 18), some (.int xr), some (.int xc), some (.int (nI 60))], [], mH h σ t (sp_it (fun k A => va_up A 4 (va_up (A 4) k 0)) k m A)) res h' → am_ev d z_Model_cloth (80, [some (.ref 18), some (.int xr), some (.int xc), some (.int (nI k))], [.int 60, .int (nI k)], mH h σ t A) res h'
  | 0, k, A, hm, K => by
    refine ev_icmp_ge (t := 96) (q := 83) rfl rfl rfl (fun _ => ?_) (fun c1 => absurd (nI_end (b := 60) hm (by omega)) c1)
    have hc : k = 60 := hm
    subst hc
    exact K
  | m + 1, k, A, hm, K => by
    refine ev_icmp_ge (t := 96) (q := 83) rfl rfl rfl (fun c1 => absurd c1 (nI_ge (b := 60) (by omega) (by omega))) (fun _ => ?_)
    rw [sp_it] at K
    refine ev_go 1 (q := 84) rfl ?_
    refine ev_get (q := 87) rfl (mH_o hn) rfl rfl rfl ?_
    refine ev_go 2 (q := 89) (st' := .int 0 :: _ :: _ :: _) rfl ?_
    refine ev_mzas (q := 90) hn rfl (by decide) rfl rfl (show k < 60 by omega) rfl ?_
    refine ev_go 4 (q := 80) (st' := .int 60 :: _ :: _) rfl ?_
    rw [nI_s, show ((0 : Int32) &&& 1) = 0 by decide]
    exact l_clo2 hn m (k + 1) _ (by omega) K
def mq_σ (R C : Nat) (σ : Nat → Int32) : Nat → Int32 := va_up (va_up (va_up (va_up (va_up (va_up (va_up (m0 σ) 1 (nI R)) 2 (nI C)) 5 0) 6 7) 10 0) 10 (nI (0 + 1))) 11 (nI 0)
def mq_B (R C : Nat) (A : Nat → Nat → Int32) : Nat → Nat → Int32 := sp_it (fun k A => va_up A 4 (va_up (A 4) k 0)) 0 60 (ms_all R C (sp_it (fun k A => va_up A 0 (va_up (A 0) k 0)) 0 300 A))
def mq_A (R C : Nat) (A : Nat → Nat → Int32) : Nat → Nat → Int32 := ms_keep 0 0 7 (va_up (va_up (mq_B R C A) 3 (va_up (mq_B R C A 3) 0 (-9))) 4 (va_up (mq_B R C A 4) 0 1))
theorem m_cloth (hn : 43 ≤ h.1) (hd : 2 < d) (hR : 1 ≤ R ∧ R ≤ 10) (hC : 1 ≤ C ∧ C ≤ 10) : am_m d z_Model_cloth [.ref 18, .int (nI R), .int (nI C)] (mH h σ t A) (some (.int 1)) (mH h (mq_σ R C σ) t (mq_A R C A)) := by
  refine ev_go 2 (q := 2) (st' := .int 0 :: _ :: _) rfl ?_
  refine ev_mput (j := 0) (q := 5) hn rfl rfl rfl (by decide) rfl (mls_0 _ _ _) rfl ?_
  refine ev_go 3 (q := 9) (st' := .int 10 :: .int 1 :: _ :: _) rfl ?_
  refine ev_static (z' := z_Model_in) (q := 12) rfl rfl (by decide) rfl rfl (by simp [Value.category]) rfl (by omega) (k_in _ _ _) ?_
  refine ev_if_eq (t := 25) (q := 15) rfl rfl rfl (fun c => absurd c (am_bn.mpr ⟨(nI_leI (a := 1) (by decide) (by omega)).mpr hR.1, (nI_leI (b := 10) (by omega) (by decide)).mpr hR.2⟩)) (fun zc1 => ?_)
  refine ev_go 3 (q := 19) (st' := .int 10 :: .int 1 :: _ :: _) rfl ?_
  refine ev_static (z' := z_Model_in) (q := 22) rfl rfl (by decide) rfl rfl (by simp [Value.category]) rfl (by omega) (k_in _ _ _) ?_
  refine ev_if_ne (t := 27) (q := 25) rfl rfl rfl (fun zc2 => ?_) (fun c => absurd c (am_bn.mpr ⟨(nI_leI (a := 1) (by decide) (by omega)).mpr hC.1, (nI_leI (b := 10) (by omega) (by decide)).mpr hC.2⟩))
  refine ev_go 2 (q := 29) rfl ?_
  refine ev_mput (j := 1) (q := 32) hn rfl rfl rfl (by decide) rfl (mls_1 _ _ _) rfl ?_
  refine ev_go 2 (q := 34) rfl ?_
  refine ev_mput (j := 2) (q := 37) hn rfl rfl rfl (by decide) rfl (mls_2 _ _ _) rfl ?_
  refine ev_go 4 (q := 43) (st' := .int 300 :: _ :: _) rfl ?_
  rw [show Int32.ofInt 0 = nI 0 from rfl]
  refine l_clo1 hn 300 0 _ (by omega) ?_
  refine ev_go 2 (q := 61) (st' := .int 1 :: _ :: _) rfl ?_
  refine ev_virt (z' := z_Model_all) (q := 64) rfl rfl (by decide) rfl (by simp [Value.category]) rfl (by omega) rfl rfl (mH_o hn) (m_all (σ := va_up (va_up (m0 σ) 1 (nI R)) 2 (nI C)) hn hR.2 hC.2 rfl rfl) ?_
  refine ev_go 2 (q := 66) (st' := .int 0 :: _ :: _) rfl ?_
  refine ev_mput (j := 5) (q := 69) hn rfl rfl rfl (by decide) rfl (mls_5 _ _ _) rfl ?_
  refine ev_go 2 (q := 72) (st' := .int 7 :: _ :: _) rfl ?_
  refine ev_mput (j := 6) (q := 75) hn rfl rfl rfl (by decide) rfl (mls_6 _ _ _) rfl ?_
  refine ev_go 4 (q := 80) (st' := .int 60 :: _ :: _) rfl ?_
  rw [show Int32.ofInt 0 = nI 0 from rfl]
  refine l_clo2 hn 60 0 _ (by omega) ?_
  refine ev_go 2 (q := 98) (st' := .int 0 :: _ :: _) rfl ?_
  refine ev_mput (j := 10) (q := 101) hn rfl rfl rfl (by decide) rfl (mls_10 _ _ _) rfl ?_
  refine ev_go 2 (q := 104) (st' := .int (-9) :: _ :: _) rfl ?_
  refine ev_virt (z' := z_Model_adds) (q := 107) rfl rfl (by decide) rfl (by simp [Value.category]) rfl (by omega) rfl rfl (mH_o hn) (m_adds (n := 0) hn rfl (by decide)) ?_
  refine ev_go 3 (q := 110) rfl ?_
  refine ev_virt (z' := z_Model_keeps) (q := 113) rfl rfl (by decide) rfl (by simp [Value.category]) rfl (by omega) rfl rfl (mH_o hn) (m_keeps (n := 0) hn (by decide)) ?_
  refine ev_go 1 (q := 114) (st' := .int 1 :: _) rfl ?_
  exact ev_iret rfl rfl (rfl) (rfl)
theorem m_undoS (hn : 43 ≤ h.1) (hd : 2 < d) {n : Nat} (h11 : σ 11 = nI n) (hb : n < 60) (h3 : A 3 n = -9) : am_m d z_Model_undo [.ref 18] (mH h σ t A) (some (.int (-2))) (mH h (m0 σ) t A) := by
  refine ev_go 2 (q := 2) (st' := .int 0 :: _ :: _) rfl ?_
  refine ev_mput (j := 0) (q := 5) hn rfl rfl rfl (by decide) rfl (mls_0 _ _ _) rfl ?_
  refine ev_go 1 (q := 6) rfl ?_
  refine ev_get (q := 9) rfl (mH_o hn) rfl rfl rfl ?_
  refine ev_go 1 (q := 10) rfl ?_
  refine ev_get (q := 13) rfl (mH_o hn) rfl rfl rfl ?_
  refine ev_mia (q := 14) hn rfl (by decide) rfl h11 hb rfl ?_
  refine ev_go 1 (q := 16) (st' := .int (-9) :: _ :: _) rfl ?_
  refine ev_icmp_ne (t := 22) (q := 19) rfl rfl rfl (fun c => absurd h3 c) (fun zc1 => ?_)
  refine ev_go 1 (q := 21) (st' := .int (-2) :: _) rfl ?_
  exact ev_iret rfl rfl (rfl) (rfl)
def mv_σ (p : Nat) (σ : Nat → Int32) (A : Nat → Nat → Int32) : Nat → Int32 := va_up (va_up (va_up (m0 σ) 11 (nI p)) 5 (ms_bec p A 2 (402 * p + 400))) 6 (ms_bec p A 2 (402 * p + 401))
theorem m_undo (hn : 43 ≤ h.1) (hd : 2 < d) {n : Nat} (h11 : σ 11 = nI n) (hb : n < 60) {p : Nat} (h3 : A 3 n = nI p) (hp : p < 60) : am_m d z_Model_undo [.ref 18] (mH h σ t A) (some (.int (nI p))) (mH h (mv_σ p σ A) t (ms_bec p A)) := by
  refine ev_go 2 (q := 2) (st' := .int 0 :: _ :: _) rfl ?_
  refine ev_mput (j := 0) (q := 5) hn rfl rfl rfl (by decide) rfl (mls_0 _ _ _) rfl ?_
  refine ev_go 1 (q := 6) rfl ?_
  refine ev_get (q := 9) rfl (mH_o hn) rfl rfl rfl ?_
  refine ev_go 1 (q := 10) rfl ?_
  refine ev_get (q := 13) rfl (mH_o hn) rfl rfl rfl ?_
  refine ev_mia (q := 14) hn rfl (by decide) rfl h11 hb rfl ?_
  refine ev_go 1 (q := 16) (st' := .int (-9) :: _ :: _) rfl ?_
  refine ev_icmp_ne (t := 22) (q := 19) rfl rfl rfl (fun zc1 => ?_) (fun c => absurd c (fun q => absurd (nI_pos (n := p) (by omega)) (by rw [← h3, q]; decide)))
  refine ev_go 2 (q := 24) rfl ?_
  refine ev_get (q := 27) rfl (mH_o hn) rfl rfl rfl ?_
  refine ev_go 1 (q := 28) rfl ?_
  refine ev_get (q := 31) rfl (mH_o hn) rfl rfl rfl ?_
  refine ev_mia (q := 32) hn rfl (by decide) rfl h11 hb rfl ?_
  refine ev_tp (y := nI p) h3 ?_
  refine ev_mput (j := 11) (q := 35) hn rfl rfl rfl (by decide) rfl (mls_11 _ _ _) rfl ?_
  refine ev_go 2 (q := 37) rfl ?_
  refine ev_get (q := 40) rfl (mH_o hn) rfl rfl rfl ?_
  refine ev_virt (z' := z_Model_becomes) (q := 43) rfl rfl (by decide) rfl (by simp [Value.category]) rfl (by omega) rfl rfl (mH_o hn) (m_becomes hn hp) ?_
  refine ev_go 1 (q := 44) rfl ?_
  refine ev_get (q := 47) rfl (mH_o hn) rfl rfl rfl ?_
  exact ev_iret rfl rfl (rfl) (rfl)
theorem m_redoS (hn : 43 ≤ h.1) (hd : 2 < d) {n : Nat} (h11 : σ 11 = nI n) (hb : n < 60) {ev : Nat} (h10 : σ 10 = nI ev) (hev : ev ≤ 60) (h3 : (mu_n A (nI n) ev).2 = -9) : am_m d z_Model_redo [.ref 18] (mH h σ t A) (some (.int (-2))) (mH h (m0 σ) t A) := by
  refine ev_go 2 (q := 2) (st' := .int 0 :: _ :: _) rfl ?_
  refine ev_mput (j := 0) (q := 5) hn rfl rfl rfl (by decide) rfl (mls_0 _ _ _) rfl ?_
  refine ev_go 2 (q := 7) rfl ?_
  refine ev_get (q := 10) rfl (mH_o hn) rfl rfl rfl ?_
  refine ev_tp (y := nI n) h11 ?_
  refine ev_go 1 (q := 11) (st' := .int 0 :: _ :: _ :: _) rfl ?_
  refine ev_virt (z' := z_Model_under) (q := 14) rfl rfl (by decide) rfl (by simp [Value.category]) rfl (by omega) rfl rfl (mH_o hn) (m_under (σ := m0 σ) (n := ev) hn h10 (by omega)) ?_
  refine ev_go 3 (q := 18) (st' := .int (-9) :: _ :: _) rfl ?_
  refine ev_icmp_ne (t := 24) (q := 21) rfl rfl rfl (fun c => absurd h3 c) (fun zc1 => ?_)
  refine ev_go 1 (q := 23) (st' := .int (-2) :: _) rfl ?_
  exact ev_iret rfl rfl (rfl) (rfl)
theorem m_redo (hn : 43 ≤ h.1) (hd : 2 < d) {n : Nat} (h11 : σ 11 = nI n) (hb : n < 60) {ev : Nat} (h10 : σ 10 = nI ev) (hev : ev ≤ 60) {p : Nat} (h3 : (mu_n A (nI n) ev).2 = nI p) (hp : p < 60) : am_m d z_Model_redo [.ref 18] (mH h σ t A) (some (.int (nI p))) (mH h (mv_σ p σ A) t (ms_bec p A)) := by
  refine ev_go 2 (q := 2) (st' := .int 0 :: _ :: _) rfl ?_
  refine ev_mput (j := 0) (q := 5) hn rfl rfl rfl (by decide) rfl (mls_0 _ _ _) rfl ?_
  refine ev_go 2 (q := 7) rfl ?_
  refine ev_get (q := 10) rfl (mH_o hn) rfl rfl rfl ?_
  refine ev_tp (y := nI n) h11 ?_
  refine ev_go 1 (q := 11) (st' := .int 0 :: _ :: _ :: _) rfl ?_
  refine ev_virt (z' := z_Model_under) (q := 14) rfl rfl (by decide) rfl (by simp [Value.category]) rfl (by omega) rfl rfl (mH_o hn) (m_under (σ := m0 σ) (n := ev) hn h10 (by omega)) ?_
  refine ev_tp (y := nI p) h3 ?_
  refine ev_go 3 (q := 18) (st' := .int (-9) :: _ :: _) rfl ?_
  refine ev_icmp_ne (t := 24) (q := 21) rfl rfl rfl (fun zc1 => ?_) (fun c => absurd c (fun q => absurd (nI_pos (n := p) (by omega)) (by rw [q]; decide)))
  refine ev_go 2 (q := 26) rfl ?_
  refine ev_mput (j := 11) (q := 29) hn rfl rfl rfl (by decide) rfl (mls_11 _ _ _) rfl ?_
  refine ev_go 2 (q := 31) rfl ?_
  refine ev_virt (z' := z_Model_becomes) (q := 34) rfl rfl (by decide) rfl (by simp [Value.category]) rfl (by omega) rfl rfl (mH_o hn) (m_becomes hn hp) ?_
  refine ev_go 1 (q := 35) rfl ?_
  exact ev_iret rfl rfl (rfl) (rfl)
theorem m_toldB (hn : 43 ≤ h.1) (hd : 2 < d) {ev : Nat} (h10 : σ 10 = nI ev) (hev : 1 ≤ ev ∧ ev ≤ 60) {x k : Int32} (hb : ¬ (((0 ≤ x ∧ x < nI ev) ∧ ¬ A 4 x.toNatClampNeg = 0) ∧ (0 ≤ k ∧ k ≤ 4))) : am_m d z_Model_told [.ref 18, .int x, .int k] (mH h σ t A) (some (.int (-1))) (mH h (m0 σ) t A) := by
  refine ev_go 2 (q := 2) (st' := .int 0 :: _ :: _) rfl ?_
  refine ev_mput (j := 0) (q := 5) hn rfl rfl rfl (by decide) rfl (mls_0 _ _ _) rfl ?_
  refine ev_go 2 (q := 7) rfl ?_
  refine ev_virt (z' := z_Model_isNode) (q := 10) rfl rfl (by decide) rfl (by simp [Value.category]) rfl (by omega) rfl rfl (mH_o hn) (m_isNode (σ := m0 σ) hn (by omega) h10 (by omega)) ?_
  refine ev_if_eq (t := 22) (q := 13) rfl rfl rfl (fun zc1 => ?_) (fun zc1 => ?_)
  · refine ev_go 1 (q := 23) (st' := .int (-1) :: _) rfl ?_
    exact ev_iret rfl rfl (rfl) (rfl)
  · refine ev_go 3 (q := 16) (st' := .int 4 :: .int 0 :: _ :: _) rfl ?_
    refine ev_static (z' := z_Model_in) (q := 19) rfl rfl (by decide) rfl rfl (by simp [Value.category]) rfl (by omega) (k_in _ _ _) ?_
    refine ev_if_ne (t := 24) (q := 22) rfl rfl rfl (fun zc2 => ?_) (fun zc2 => ?_)
    · exact absurd ⟨am_bn.mp zc1, am_bn.mp zc2⟩ hb
    · refine ev_go 1 (q := 23) (st' := .int (-1) :: _) rfl ?_
      exact ev_iret rfl rfl (rfl) (rfl)
theorem m_told0 (hn : 43 ≤ h.1) (hd : 2 < d) {ev : Nat} (h10 : σ 10 = nI ev) (hev : 1 ≤ ev ∧ ev ≤ 60) {n : Nat} (hv : n < ev) (h4 : ¬ A 4 n = 0) : am_m d z_Model_told [.ref 18, .int (nI n), .int 0] (mH h σ t A) (some (.int (A 3 n))) (mH h (m0 σ) t A) := by
  refine ev_go 2 (q := 2) (st' := .int 0 :: _ :: _) rfl ?_
  refine ev_mput (j := 0) (q := 5) hn rfl rfl rfl (by decide) rfl (mls_0 _ _ _) rfl ?_
  refine ev_go 2 (q := 7) rfl ?_
  refine ev_virt (z' := z_Model_isNode) (q := 10) rfl rfl (by decide) rfl (by simp [Value.category]) rfl (by omega) rfl rfl (mH_o hn) (m_isNode (σ := m0 σ) hn (by omega) h10 (by omega)) ?_
  refine ev_if_eq (t := 22) (q := 13) rfl rfl rfl (fun c => absurd c (am_bn.mpr ⟨⟨nI_pos' (by omega), (nI_ltI (by omega) (by omega)).mpr hv⟩, by rw [nI_clamp (by omega)]; exact h4⟩)) (fun zc1 => ?_)
  refine ev_go 3 (q := 16) (st' := .int 4 :: .int 0 :: _ :: _) rfl ?_
  refine ev_static (z' := z_Model_in) (q := 19) rfl rfl (by decide) rfl rfl (by simp [Value.category]) rfl (by omega) (k_in _ _ _) ?_
  refine ev_if_ne (t := 24) (q := 22) rfl rfl rfl (fun zc2 => ?_) (fun c => absurd c (by decide))
  refine ev_go 1 (q := 25) rfl ?_
  refine ev_if_ne (t := 37) (q := 28) rfl rfl rfl (fun c => absurd (by decide) c) (fun _ => ?_)
  refine ev_go 1 (q := 29) rfl ?_
  refine ev_get (q := 32) rfl (mH_o hn) rfl rfl rfl ?_
  refine ev_go 1 (q := 33) rfl ?_
  refine ev_mia (q := 34) hn rfl (by decide) rfl rfl (show n < 60 by omega) rfl ?_
  refine ev_go 1 (q := 104) rfl ?_
  exact ev_iret rfl rfl (rfl) (rfl)
theorem m_told1 (hn : 43 ≤ h.1) (hd : 2 < d) {ev : Nat} (h10 : σ 10 = nI ev) (hev : 1 ≤ ev ∧ ev ≤ 60) {n : Nat} (hv : n < ev) (h4 : ¬ A 4 n = 0) : am_m d z_Model_told [.ref 18, .int (nI n), .int 1] (mH h σ t A) (some (.int ((mu_n A (nI n) ev).1))) (mH h (m0 σ) t A) := by
  refine ev_go 2 (q := 2) (st' := .int 0 :: _ :: _) rfl ?_
  refine ev_mput (j := 0) (q := 5) hn rfl rfl rfl (by decide) rfl (mls_0 _ _ _) rfl ?_
  refine ev_go 2 (q := 7) rfl ?_
  refine ev_virt (z' := z_Model_isNode) (q := 10) rfl rfl (by decide) rfl (by simp [Value.category]) rfl (by omega) rfl rfl (mH_o hn) (m_isNode (σ := m0 σ) hn (by omega) h10 (by omega)) ?_
  refine ev_if_eq (t := 22) (q := 13) rfl rfl rfl (fun c => absurd c (am_bn.mpr ⟨⟨nI_pos' (by omega), (nI_ltI (by omega) (by omega)).mpr hv⟩, by rw [nI_clamp (by omega)]; exact h4⟩)) (fun zc1 => ?_)
  refine ev_go 3 (q := 16) (st' := .int 4 :: .int 0 :: _ :: _) rfl ?_
  refine ev_static (z' := z_Model_in) (q := 19) rfl rfl (by decide) rfl rfl (by simp [Value.category]) rfl (by omega) (k_in _ _ _) ?_
  refine ev_if_ne (t := 24) (q := 22) rfl rfl rfl (fun zc2 => ?_) (fun c => absurd c (by decide))
  refine ev_go 1 (q := 25) rfl ?_
  refine ev_if_ne (t := 37) (q := 28) rfl rfl rfl (fun _ => ?_) (fun c => absurd c (by decide))
  refine ev_go 2 (q := 39) (st' := .int 1 :: _ :: _) rfl ?_
  refine ev_icmp_ne (t := 51) (q := 42) rfl rfl rfl (fun c => absurd (by decide) c) (fun _ => ?_)
  refine ev_go 3 (q := 45) (st' := .int 1 :: _ :: _ :: _) rfl ?_
  refine ev_virt (z' := z_Model_under) (q := 48) rfl rfl (by decide) rfl (by simp [Value.category]) rfl (by omega) rfl rfl (mH_o hn) (m_under (σ := m0 σ) (n := ev) hn h10 (by omega)) ?_
  refine ev_go 1 (q := 104) rfl ?_
  exact ev_iret rfl rfl (rfl) (rfl)
theorem m_told2 (hn : 43 ≤ h.1) (hd : 2 < d) {ev : Nat} (h10 : σ 10 = nI ev) (hev : 1 ≤ ev ∧ ev ≤ 60) {n : Nat} (hv : n < ev) (h4 : ¬ A 4 n = 0) : am_m d z_Model_told [.ref 18, .int (nI n), .int 2] (mH h σ t A) (some (.int ((mu_n A (nI n) ev).2))) (mH h (m0 σ) t A) := by
  refine ev_go 2 (q := 2) (st' := .int 0 :: _ :: _) rfl ?_
  refine ev_mput (j := 0) (q := 5) hn rfl rfl rfl (by decide) rfl (mls_0 _ _ _) rfl ?_
  refine ev_go 2 (q := 7) rfl ?_
  refine ev_virt (z' := z_Model_isNode) (q := 10) rfl rfl (by decide) rfl (by simp [Value.category]) rfl (by omega) rfl rfl (mH_o hn) (m_isNode (σ := m0 σ) hn (by omega) h10 (by omega)) ?_
  refine ev_if_eq (t := 22) (q := 13) rfl rfl rfl (fun c => absurd c (am_bn.mpr ⟨⟨nI_pos' (by omega), (nI_ltI (by omega) (by omega)).mpr hv⟩, by rw [nI_clamp (by omega)]; exact h4⟩)) (fun zc1 => ?_)
  refine ev_go 3 (q := 16) (st' := .int 4 :: .int 0 :: _ :: _) rfl ?_
  refine ev_static (z' := z_Model_in) (q := 19) rfl rfl (by decide) rfl rfl (by simp [Value.category]) rfl (by omega) (k_in _ _ _) ?_
  refine ev_if_ne (t := 24) (q := 22) rfl rfl rfl (fun zc2 => ?_) (fun c => absurd c (by decide))
  refine ev_go 1 (q := 25) rfl ?_
  refine ev_if_ne (t := 37) (q := 28) rfl rfl rfl (fun _ => ?_) (fun c => absurd c (by decide))
  refine ev_go 2 (q := 39) (st' := .int 1 :: _ :: _) rfl ?_
  refine ev_icmp_ne (t := 51) (q := 42) rfl rfl rfl (fun _ => ?_) (fun c => absurd c (by decide))
  refine ev_go 2 (q := 53) (st' := .int 2 :: _ :: _) rfl ?_
  refine ev_icmp_ne (t := 65) (q := 56) rfl rfl rfl (fun c => absurd (by decide) c) (fun _ => ?_)
  refine ev_go 3 (q := 59) (st' := .int 0 :: _ :: _ :: _) rfl ?_
  refine ev_virt (z' := z_Model_under) (q := 62) rfl rfl (by decide) rfl (by simp [Value.category]) rfl (by omega) rfl rfl (mH_o hn) (m_under (σ := m0 σ) (n := ev) hn h10 (by omega)) ?_
  refine ev_go 1 (q := 104) rfl ?_
  exact ev_iret rfl rfl (rfl) (rfl)
theorem m_told3r (hn : 43 ≤ h.1) (hd : 2 < d) {ev : Nat} (h10 : σ 10 = nI ev) (hev : 1 ≤ ev ∧ ev ≤ 60) {n : Nat} (hv : n < ev) (h4 : ¬ A 4 n = 0) (h3 : A 3 n = -9) : am_m d z_Model_told [.ref 18, .int (nI n), .int 3] (mH h σ t A) (some (.int (0))) (mH h (m0 σ) t A) := by
  refine ev_go 2 (q := 2) (st' := .int 0 :: _ :: _) rfl ?_
  refine ev_mput (j := 0) (q := 5) hn rfl rfl rfl (by decide) rfl (mls_0 _ _ _) rfl ?_
  refine ev_go 2 (q := 7) rfl ?_
  refine ev_virt (z' := z_Model_isNode) (q := 10) rfl rfl (by decide) rfl (by simp [Value.category]) rfl (by omega) rfl rfl (mH_o hn) (m_isNode (σ := m0 σ) hn (by omega) h10 (by omega)) ?_
  refine ev_if_eq (t := 22) (q := 13) rfl rfl rfl (fun c => absurd c (am_bn.mpr ⟨⟨nI_pos' (by omega), (nI_ltI (by omega) (by omega)).mpr hv⟩, by rw [nI_clamp (by omega)]; exact h4⟩)) (fun zc1 => ?_)
  refine ev_go 3 (q := 16) (st' := .int 4 :: .int 0 :: _ :: _) rfl ?_
  refine ev_static (z' := z_Model_in) (q := 19) rfl rfl (by decide) rfl rfl (by simp [Value.category]) rfl (by omega) (k_in _ _ _) ?_
  refine ev_if_ne (t := 24) (q := 22) rfl rfl rfl (fun zc2 => ?_) (fun c => absurd c (by decide))
  refine ev_go 1 (q := 25) rfl ?_
  refine ev_if_ne (t := 37) (q := 28) rfl rfl rfl (fun _ => ?_) (fun c => absurd c (by decide))
  refine ev_go 2 (q := 39) (st' := .int 1 :: _ :: _) rfl ?_
  refine ev_icmp_ne (t := 51) (q := 42) rfl rfl rfl (fun _ => ?_) (fun c => absurd c (by decide))
  refine ev_go 2 (q := 53) (st' := .int 2 :: _ :: _) rfl ?_
  refine ev_icmp_ne (t := 65) (q := 56) rfl rfl rfl (fun _ => ?_) (fun c => absurd c (by decide))
  refine ev_go 2 (q := 67) (st' := .int 3 :: _ :: _) rfl ?_
  refine ev_icmp_ne (t := 99) (q := 70) rfl rfl rfl (fun c => absurd (by decide) c) (fun _ => ?_)
  refine ev_go 1 (q := 71) rfl ?_
  refine ev_get (q := 74) rfl (mH_o hn) rfl rfl rfl ?_
  refine ev_go 1 (q := 75) rfl ?_
  refine ev_mia (q := 76) hn rfl (by decide) rfl rfl (show n < 60 by omega) rfl ?_
  refine ev_go 1 (q := 78) (st' := .int (-9) :: _ :: _) rfl ?_
  refine ev_icmp_ne (t := 85) (q := 81) rfl rfl rfl (fun c => absurd h3 c) (fun zc3 => ?_)
  refine ev_go 2 (q := 104) (st' := .int 0 :: _) rfl ?_
  exact ev_iret rfl rfl (rfl) (rfl)
theorem m_told3 (hn : 43 ≤ h.1) (hd : 2 < d) {ev : Nat} (h10 : σ 10 = nI ev) (hev : 1 ≤ ev ∧ ev ≤ 60) {n : Nat} (hv : n < ev) (h4 : ¬ A 4 n = 0) {p : Nat} (h3 : A 3 n = nI p) (hp : p < 60) : am_m d z_Model_told [.ref 18, .int (nI n), .int 3] (mH h σ t A) (some (.int (md_n A n p))) (mH h (m0 σ) t A) := by
  refine ev_go 2 (q := 2) (st' := .int 0 :: _ :: _) rfl ?_
  refine ev_mput (j := 0) (q := 5) hn rfl rfl rfl (by decide) rfl (mls_0 _ _ _) rfl ?_
  refine ev_go 2 (q := 7) rfl ?_
  refine ev_virt (z' := z_Model_isNode) (q := 10) rfl rfl (by decide) rfl (by simp [Value.category]) rfl (by omega) rfl rfl (mH_o hn) (m_isNode (σ := m0 σ) hn (by omega) h10 (by omega)) ?_
  refine ev_if_eq (t := 22) (q := 13) rfl rfl rfl (fun c => absurd c (am_bn.mpr ⟨⟨nI_pos' (by omega), (nI_ltI (by omega) (by omega)).mpr hv⟩, by rw [nI_clamp (by omega)]; exact h4⟩)) (fun zc1 => ?_)
  refine ev_go 3 (q := 16) (st' := .int 4 :: .int 0 :: _ :: _) rfl ?_
  refine ev_static (z' := z_Model_in) (q := 19) rfl rfl (by decide) rfl rfl (by simp [Value.category]) rfl (by omega) (k_in _ _ _) ?_
  refine ev_if_ne (t := 24) (q := 22) rfl rfl rfl (fun zc2 => ?_) (fun c => absurd c (by decide))
  refine ev_go 1 (q := 25) rfl ?_
  refine ev_if_ne (t := 37) (q := 28) rfl rfl rfl (fun _ => ?_) (fun c => absurd c (by decide))
  refine ev_go 2 (q := 39) (st' := .int 1 :: _ :: _) rfl ?_
  refine ev_icmp_ne (t := 51) (q := 42) rfl rfl rfl (fun _ => ?_) (fun c => absurd c (by decide))
  refine ev_go 2 (q := 53) (st' := .int 2 :: _ :: _) rfl ?_
  refine ev_icmp_ne (t := 65) (q := 56) rfl rfl rfl (fun _ => ?_) (fun c => absurd c (by decide))
  refine ev_go 2 (q := 67) (st' := .int 3 :: _ :: _) rfl ?_
  refine ev_icmp_ne (t := 99) (q := 70) rfl rfl rfl (fun c => absurd (by decide) c) (fun _ => ?_)
  refine ev_go 1 (q := 71) rfl ?_
  refine ev_get (q := 74) rfl (mH_o hn) rfl rfl rfl ?_
  refine ev_go 1 (q := 75) rfl ?_
  refine ev_mia (q := 76) hn rfl (by decide) rfl rfl (show n < 60 by omega) rfl ?_
  refine ev_go 1 (q := 78) (st' := .int (-9) :: _ :: _) rfl ?_
  refine ev_icmp_ne (t := 85) (q := 81) rfl rfl rfl (fun zc3 => ?_) (fun c => absurd c (fun q => absurd (nI_pos (n := p) (by omega)) (by rw [← h3, q]; decide)))
  refine ev_go 3 (q := 88) rfl ?_
  refine ev_get (q := 91) rfl (mH_o hn) rfl rfl rfl ?_
  refine ev_go 1 (q := 92) rfl ?_
  refine ev_mia (q := 93) hn rfl (by decide) rfl rfl (show n < 60 by omega) rfl ?_
  refine ev_tp (y := nI p) h3 ?_
  refine ev_virt (z' := z_Model_differ) (q := 96) rfl rfl (by decide) rfl (by simp [Value.category]) rfl (by omega) rfl rfl (mH_o hn) (m_differ hn (by omega) hp) ?_
  refine ev_go 1 (q := 104) rfl ?_
  exact ev_iret rfl rfl (rfl) (rfl)
theorem m_told4 (hn : 43 ≤ h.1) (hd : 2 < d) {ev : Nat} (h10 : σ 10 = nI ev) (hev : 1 ≤ ev ∧ ev ≤ 60) {n : Nat} (hv : n < ev) (h4 : ¬ A 4 n = 0) (hw : md_wf (A 3) ev) : am_m d z_Model_told [.ref 18, .int (nI n), .int 4] (mH h σ t A) (some (.int (nI (md_deep (A 3) (n + 1) n)))) (mH h (m0 σ) t A) := by
  refine ev_go 2 (q := 2) (st' := .int 0 :: _ :: _) rfl ?_
  refine ev_mput (j := 0) (q := 5) hn rfl rfl rfl (by decide) rfl (mls_0 _ _ _) rfl ?_
  refine ev_go 2 (q := 7) rfl ?_
  refine ev_virt (z' := z_Model_isNode) (q := 10) rfl rfl (by decide) rfl (by simp [Value.category]) rfl (by omega) rfl rfl (mH_o hn) (m_isNode (σ := m0 σ) hn (by omega) h10 (by omega)) ?_
  refine ev_if_eq (t := 22) (q := 13) rfl rfl rfl (fun c => absurd c (am_bn.mpr ⟨⟨nI_pos' (by omega), (nI_ltI (by omega) (by omega)).mpr hv⟩, by rw [nI_clamp (by omega)]; exact h4⟩)) (fun zc1 => ?_)
  refine ev_go 3 (q := 16) (st' := .int 4 :: .int 0 :: _ :: _) rfl ?_
  refine ev_static (z' := z_Model_in) (q := 19) rfl rfl (by decide) rfl rfl (by simp [Value.category]) rfl (by omega) (k_in _ _ _) ?_
  refine ev_if_ne (t := 24) (q := 22) rfl rfl rfl (fun zc2 => ?_) (fun c => absurd c (by decide))
  refine ev_go 1 (q := 25) rfl ?_
  refine ev_if_ne (t := 37) (q := 28) rfl rfl rfl (fun _ => ?_) (fun c => absurd c (by decide))
  refine ev_go 2 (q := 39) (st' := .int 1 :: _ :: _) rfl ?_
  refine ev_icmp_ne (t := 51) (q := 42) rfl rfl rfl (fun _ => ?_) (fun c => absurd c (by decide))
  refine ev_go 2 (q := 53) (st' := .int 2 :: _ :: _) rfl ?_
  refine ev_icmp_ne (t := 65) (q := 56) rfl rfl rfl (fun _ => ?_) (fun c => absurd c (by decide))
  refine ev_go 2 (q := 67) (st' := .int 3 :: _ :: _) rfl ?_
  refine ev_icmp_ne (t := 99) (q := 70) rfl rfl rfl (fun _ => ?_) (fun c => absurd c (by decide))
  refine ev_go 2 (q := 101) rfl ?_
  refine ev_virt (z' := z_Model_deepOf) (q := 104) rfl rfl (by decide) rfl (by simp [Value.category]) rfl (by omega) rfl rfl (mH_o hn) (m_deepOf (n := ev) hn (by omega) hw hv) ?_
  exact ev_iret rfl rfl (rfl) (rfl)
theorem m_sqzB (hn : 43 ≤ h.1) (hd : 2 < d) {ev : Nat} (h10 : σ 10 = nI ev) (hev : 1 ≤ ev ∧ ev ≤ 60) {x : Int32} (hb : ¬ ((0 ≤ x ∧ x < nI ev) ∧ ¬ A 4 x.toNatClampNeg = 0)) : am_m d z_Model_squeeze [.ref 18, .int x] (mH h σ t A) (some (.int (-1))) (mH h (m0 σ) t A) := by
  refine ev_go 2 (q := 2) (st' := .int 0 :: _ :: _) rfl ?_
  refine ev_mput (j := 0) (q := 5) hn rfl rfl rfl (by decide) rfl (mls_0 _ _ _) rfl ?_
  refine ev_go 2 (q := 7) rfl ?_
  refine ev_virt (z' := z_Model_isNode) (q := 10) rfl rfl (by decide) rfl (by simp [Value.category]) rfl (by omega) rfl rfl (mH_o hn) (m_isNode (σ := m0 σ) hn (by omega) h10 (by omega)) ?_
  refine ev_if_ne (t := 15) (q := 13) rfl rfl rfl (fun zc1 => ?_) (fun zc1 => ?_)
  · exact absurd (am_bn.mp zc1) hb
  · refine ev_go 1 (q := 14) (st' := .int (-1) :: _) rfl ?_
    exact ev_iret rfl rfl (rfl) (rfl)
theorem m_sqzS (hn : 43 ≤ h.1) (hd : 2 < d) {ev : Nat} (h10 : σ 10 = nI ev) (hev : 1 ≤ ev ∧ ev ≤ 60) {n : Nat} (hv : n < ev) (h4 : ¬ A 4 n = 0) (hb : ¬ (¬ nI n = σ 11 ∧ ¬ A 3 n = -9 ∧ (mu_n A (nI n) ev).1 = 1)) : am_m d z_Model_squeeze [.ref 18, .int (nI n)] (mH h σ t A) (some (.int (-2))) (mH h (m0 σ) t A) := by
  refine ev_go 2 (q := 2) (st' := .int 0 :: _ :: _) rfl ?_
  refine ev_mput (j := 0) (q := 5) hn rfl rfl rfl (by decide) rfl (mls_0 _ _ _) rfl ?_
  refine ev_go 2 (q := 7) rfl ?_
  refine ev_virt (z' := z_Model_isNode) (q := 10) rfl rfl (by decide) rfl (by simp [Value.category]) rfl (by omega) rfl rfl (mH_o hn) (m_isNode (σ := m0 σ) hn (by omega) h10 (by omega)) ?_
  refine ev_if_ne (t := 15) (q := 13) rfl rfl rfl (fun zc1 => ?_) (fun c => absurd c (am_bn.mpr ⟨⟨nI_pos' (by omega), (nI_ltI (by omega) (by omega)).mpr hv⟩, by rw [nI_clamp (by omega)]; exact h4⟩))
  refine ev_go 2 (q := 17) rfl ?_
  refine ev_get (q := 20) rfl (mH_o hn) rfl rfl rfl ?_
  refine ev_icmp_eq (t := 44) (q := 23) rfl rfl rfl (fun zc2 => ?_) (fun zc2 => ?_)
  · refine ev_go 1 (q := 46) (st' := .int (-2) :: _) rfl ?_
    exact ev_iret rfl rfl (rfl) (rfl)
  · refine ev_go 1 (q := 24) rfl ?_
    refine ev_get (q := 27) rfl (mH_o hn) rfl rfl rfl ?_
    refine ev_go 1 (q := 28) rfl ?_
    refine ev_mia (q := 29) hn rfl (by decide) rfl rfl (show n < 60 by omega) rfl ?_
    refine ev_go 1 (q := 31) (st' := .int (-9) :: _ :: _) rfl ?_
    refine ev_icmp_eq (t := 44) (q := 34) rfl rfl rfl (fun zc3 => ?_) (fun zc3 => ?_)
    · refine ev_go 1 (q := 46) (st' := .int (-2) :: _) rfl ?_
      exact ev_iret rfl rfl (rfl) (rfl)
    · refine ev_go 3 (q := 37) (st' := .int 1 :: _ :: _ :: _) rfl ?_
      refine ev_virt (z' := z_Model_under) (q := 40) rfl rfl (by decide) rfl (by simp [Value.category]) rfl (by omega) rfl rfl (mH_o hn) (m_under (σ := m0 σ) (n := ev) hn h10 (by omega)) ?_
      refine ev_go 1 (q := 41) (st' := .int 1 :: _ :: _) rfl ?_
      refine ev_icmp_eq (t := 47) (q := 44) rfl rfl rfl (fun zc4 => ?_) (fun zc4 => ?_)
      · exact absurd ⟨zc2, zc3, zc4⟩ hb
      · refine ev_go 1 (q := 46) (st' := .int (-2) :: _) rfl ?_
        exact ev_iret rfl rfl (rfl) (rfl)
theorem m_sqz (hn : 43 ≤ h.1) (hd : 2 < d) {ev : Nat} (h10 : σ 10 = nI ev) (hev : 1 ≤ ev ∧ ev ≤ 60) {n : Nat} (hv : n < ev) (h4 : ¬ A 4 n = 0) (hb : ¬ nI n = σ 11 ∧ ¬ A 3 n = -9 ∧ (mu_n A (nI n) ev).1 = 1) {p : Nat} (hp : (mu_n A (nI n) ev).2 = nI p) (hp6 : p < 60) : am_m d z_Model_squeeze [.ref 18, .int (nI n)] (mH h σ t A) (some (.int ((mu_n A (nI n) ev).2))) (mH h (m0 σ) t (va_up (va_up A 3 (va_up (A 3) p (A 3 n))) 4 (va_up (A 4) n 0))) := by
  refine ev_go 2 (q := 2) (st' := .int 0 :: _ :: _) rfl ?_
  refine ev_mput (j := 0) (q := 5) hn rfl rfl rfl (by decide) rfl (mls_0 _ _ _) rfl ?_
  refine ev_go 2 (q := 7) rfl ?_
  refine ev_virt (z' := z_Model_isNode) (q := 10) rfl rfl (by decide) rfl (by simp [Value.category]) rfl (by omega) rfl rfl (mH_o hn) (m_isNode (σ := m0 σ) hn (by omega) h10 (by omega)) ?_
  refine ev_if_ne (t := 15) (q := 13) rfl rfl rfl (fun zc1 => ?_) (fun c => absurd c (am_bn.mpr ⟨⟨nI_pos' (by omega), (nI_ltI (by omega) (by omega)).mpr hv⟩, by rw [nI_clamp (by omega)]; exact h4⟩))
  refine ev_go 2 (q := 17) rfl ?_
  refine ev_get (q := 20) rfl (mH_o hn) rfl rfl rfl ?_
  refine ev_icmp_eq (t := 44) (q := 23) rfl rfl rfl (fun c => absurd c hb.1) (fun zc2 => ?_)
  refine ev_go 1 (q := 24) rfl ?_
  refine ev_get (q := 27) rfl (mH_o hn) rfl rfl rfl ?_
  refine ev_go 1 (q := 28) rfl ?_
  refine ev_mia (q := 29) hn rfl (by decide) rfl rfl (show n < 60 by omega) rfl ?_
  refine ev_go 1 (q := 31) (st' := .int (-9) :: _ :: _) rfl ?_
  refine ev_icmp_eq (t := 44) (q := 34) rfl rfl rfl (fun c => absurd c hb.2.1) (fun zc3 => ?_)
  refine ev_go 3 (q := 37) (st' := .int 1 :: _ :: _ :: _) rfl ?_
  refine ev_virt (z' := z_Model_under) (q := 40) rfl rfl (by decide) rfl (by simp [Value.category]) rfl (by omega) rfl rfl (mH_o hn) (m_under (σ := m0 σ) (n := ev) hn h10 (by omega)) ?_
  refine ev_go 1 (q := 41) (st' := .int 1 :: _ :: _) rfl ?_
  refine ev_icmp_eq (t := 47) (q := 44) rfl rfl rfl (fun zc4 => ?_) (fun c => absurd hb.2.2 c)
  refine ev_go 3 (q := 50) (st' := .int 0 :: _ :: _ :: _) rfl ?_
  refine ev_virt (z' := z_Model_under) (q := 53) rfl rfl (by decide) rfl (by simp [Value.category]) rfl (by omega) rfl rfl (mH_o hn) (m_under (σ := m0 σ) (n := ev) hn h10 (by omega)) ?_
  refine ev_go 2 (q := 55) rfl ?_
  refine ev_get (q := 58) rfl (mH_o hn) rfl rfl rfl ?_
  refine ev_go 2 (q := 60) rfl ?_
  refine ev_get (q := 63) rfl (mH_o hn) rfl rfl rfl ?_
  refine ev_go 1 (q := 64) rfl ?_
  refine ev_mia (q := 65) hn rfl (by decide) rfl rfl (show n < 60 by omega) rfl ?_
  refine ev_mias (q := 66) hn rfl (by decide) rfl hp (show p < 60 by omega) rfl ?_
  refine ev_go 1 (q := 67) rfl ?_
  refine ev_get (q := 70) rfl (mH_o hn) rfl rfl rfl ?_
  refine ev_go 2 (q := 72) (st' := .int 0 :: _ :: _ :: _) rfl ?_
  refine ev_mzas (q := 73) hn rfl (by decide) rfl rfl (show n < 60 by omega) rfl ?_
  refine ev_go 1 (q := 74) rfl ?_
  exact ev_iret rfl rfl (rfl) (rfl)
/-- the reference's way between two nodes: how many steps -/
def mg_st (a : Nat → Int32) : Nat → Nat → Nat → Nat
  | 0, _, _ => 0
  | f + 1, x, y => if x = y then 0 else if md_deep a (y + 1) y ≤ md_deep a (x + 1) x then mg_st a f (a x).toNatClampNeg y + 1 else mg_st a f x (a y).toNatClampNeg + 1
def mg_ok (a : Nat → Int32) (n : Nat) : Nat → Nat → Nat → Prop
  | 0, x, y => x = y
  | f + 1, x, y => x = y ∨ (md_deep a (y + 1) y ≤ md_deep a (x + 1) x ∧ (∃ p, p < n ∧ a x = nI p ∧ mg_ok a n f p y)) ∨ (¬ md_deep a (y + 1) y ≤ md_deep a (x + 1) x ∧ (∃ p, p < n ∧ a y = nI p ∧ mg_ok a n f x p))
theorem l_go (hn : 43 ≤ h.1) (hd : 2 < d) {v : Int32} {n : Nat} (hb : n ≤ 60) (hw : md_wf (A 3) n) : ∀ (f x y s : Nat) (e5 : Option Value), x < n → y < n → mg_ok (A 3) n f x y → (∀ x9 y9 e5, am_ev d z_Model_go (88, [some (.ref 18), some (.int v), some (.int (nI x9)), some (.int (nI y9)), some (.int (nI (s + mg_st (A 3) f x y))), e5], [], mH h σ t A) res h') → am_ev d z_Model_go (25, [some (.ref 18), some (.int v), some (.int (nI x)), some (.int (nI y)), some (.int (nI s)), e5], [], mH h σ t A) res h'
  | 0, x, y, s, e5, hx, hy, hok, K => by
    have e : x = y := hok
    subst e
    refine ev_go 2 (q := 27) rfl ?_
    refine ev_icmp_eq (t := 88) (q := 30) rfl rfl rfl (fun _ => K _ _ _) (fun q => absurd rfl q)
  | f + 1, x, y, s, e5, hx, hy, hok, K => by
    by_cases e : x = y
    · subst e
      refine ev_go 2 (q := 27) rfl ?_
      have K1 := K
      simp only [mg_st, if_true] at K1
      refine ev_icmp_eq (t := 88) (q := 30) rfl rfl rfl (fun _ => K1 _ _ _) (fun q => absurd rfl q)
    · have hne : ¬ nI x = nI y := fun q => e ((nI_eq (by omega) (by omega)).mp q)
      rcases hok with q | ⟨hle, p, hp, hxp, hok⟩ | ⟨hle, p, hp, hyp, hok⟩
      · exact absurd q e
      · refine ev_go 2 (q := 27) rfl ?_
        refine ev_icmp_eq (t := 88) (q := 30) rfl rfl rfl (fun c => absurd c hne) (fun zc1 => ?_)
        refine ev_go 2 (q := 32) rfl ?_
        refine ev_virt (z' := z_Model_deepOf) (q := 35) rfl rfl (by decide) rfl (by simp [Value.category]) rfl (by omega) rfl rfl (mH_o hn) (m_deepOf (n := n) hn hb hw hx) ?_
        refine ev_go 2 (q := 37) rfl ?_
        refine ev_virt (z' := z_Model_deepOf) (q := 40) rfl rfl (by decide) rfl (by simp [Value.category]) rfl (by omega) rfl rfl (mH_o hn) (m_deepOf (n := n) hn hb hw hy) ?_
        refine ev_icmp_lt (t := 47) (q := 43) rfl rfl rfl (fun c => absurd c (Int32.not_lt.mpr ((nI_leI (by have := md_deep_le (A 3) (y + 1) y; omega) (by have := md_deep_le (A 3) (x + 1) x; omega)).mpr hle))) (fun zc2 => ?_)
        refine ev_go 4 (q := 52) rfl ?_
        refine ev_if_eq (t := 64) (q := 55) rfl rfl rfl (fun c => absurd c (by decide)) (fun _ => ?_)
        refine ev_go 1 (q := 56) rfl ?_
        refine ev_get (q := 59) rfl (mH_o hn) rfl rfl rfl ?_
        refine ev_go 1 (q := 60) rfl ?_
        refine ev_mia (q := 61) hn rfl (by decide) rfl rfl (show x < 60 by omega) rfl ?_
        refine ev_tp (y := nI p) hxp ?_
        refine ev_go 3 (q := 68) rfl ?_
        refine ev_if_eq (t := 75) (q := 71) rfl rfl rfl (fun c => absurd c (by decide)) (fun _ => ?_)
        refine ev_go 5 (q := 25) rfl ?_
        have K1 := K
        simp only [mg_st, if_neg e, if_pos hle, hxp, nI_clamp (show p < 2 ^ 31 by omega)] at K1
        rw [nI_s]
        exact l_go hn hd hb hw f p y (s + 1) _ hp hy hok (fun x9 y9 e5 => by have K2 := K1 x9 y9 e5; rw [show s + (mg_st (A 3) f p y + 1) = s + 1 + mg_st (A 3) f p y by omega] at K2; exact K2)
      · refine ev_go 2 (q := 27) rfl ?_
        refine ev_icmp_eq (t := 88) (q := 30) rfl rfl rfl (fun c => absurd c hne) (fun zc1 => ?_)
        refine ev_go 2 (q := 32) rfl ?_
        refine ev_virt (z' := z_Model_deepOf) (q := 35) rfl rfl (by decide) rfl (by simp [Value.category]) rfl (by omega) rfl rfl (mH_o hn) (m_deepOf (n := n) hn hb hw hx) ?_
        refine ev_go 2 (q := 37) rfl ?_
        refine ev_virt (z' := z_Model_deepOf) (q := 40) rfl rfl (by decide) rfl (by simp [Value.category]) rfl (by omega) rfl rfl (mH_o hn) (m_deepOf (n := n) hn hb hw hy) ?_
        refine ev_icmp_lt (t := 47) (q := 43) rfl rfl rfl (fun zc2 => ?_) (fun c => absurd ((nI_ltI (by have := md_deep_le (A 3) (x + 1) x; omega) (by have := md_deep_le (A 3) (y + 1) y; omega)).mpr (Nat.not_le.mp hle)) c)
        refine ev_go 3 (q := 52) rfl ?_
        refine ev_if_eq (t := 64) (q := 55) rfl rfl rfl (fun _ => ?_) (fun c => absurd (by decide) c)
        refine ev_go 3 (q := 68) rfl ?_
        refine ev_if_eq (t := 75) (q := 71) rfl rfl rfl (fun _ => ?_) (fun c => absurd (by decide) c)
        refine ev_go 1 (q := 76) rfl ?_
        refine ev_get (q := 79) rfl (mH_o hn) rfl rfl rfl ?_
        refine ev_go 1 (q := 80) rfl ?_
        refine ev_mia (q := 81) hn rfl (by decide) rfl rfl (show y < 60 by omega) rfl ?_
        refine ev_tp (y := nI p) hyp ?_
        refine ev_go 3 (q := 25) rfl ?_
        have K1 := K
        simp only [mg_st, if_neg e, if_neg hle, hyp, nI_clamp (show p < 2 ^ 31 by omega)] at K1
        rw [nI_s]
        exact l_go hn hd hb hw f x p (s + 1) _ hx hp hok (fun x9 y9 e5 => by have K2 := K1 x9 y9 e5; rw [show s + (mg_st (A 3) f x p + 1) = s + 1 + mg_st (A 3) f x p by omega] at K2; exact K2)
theorem m_goB (hn : 43 ≤ h.1) (hd : 2 < d) {ev : Nat} (h10 : σ 10 = nI ev) (hev : 1 ≤ ev ∧ ev ≤ 60) {x : Int32} (hb : ¬ ((0 ≤ x ∧ x < nI ev) ∧ ¬ A 4 x.toNatClampNeg = 0)) : am_m d z_Model_go [.ref 18, .int x] (mH h σ t A) (some (.int (-1))) (mH h (m0 σ) t A) := by
  refine ev_go 2 (q := 2) (st' := .int 0 :: _ :: _) rfl ?_
  refine ev_mput (j := 0) (q := 5) hn rfl rfl rfl (by decide) rfl (mls_0 _ _ _) rfl ?_
  refine ev_go 2 (q := 7) rfl ?_
  refine ev_virt (z' := z_Model_isNode) (q := 10) rfl rfl (by decide) rfl (by simp [Value.category]) rfl (by omega) rfl rfl (mH_o hn) (m_isNode (σ := m0 σ) hn (by omega) h10 (by omega)) ?_
  refine ev_if_ne (t := 15) (q := 13) rfl rfl rfl (fun zc1 => ?_) (fun zc1 => ?_)
  · exact absurd (am_bn.mp zc1) hb
  · refine ev_go 1 (q := 14) (st' := .int (-1) :: _) rfl ?_
    exact ev_iret rfl rfl (rfl) (rfl)
theorem m_go (hn : 43 ≤ h.1) (hd : 2 < d) {ev : Nat} (h10 : σ 10 = nI ev) (hev : 1 ≤ ev ∧ ev ≤ 60) {n : Nat} (hv : n < ev) (h4 : ¬ A 4 n = 0) {c f : Nat} (h11 : σ 11 = nI c) (hc : c < ev) (hw : md_wf (A 3) ev) (hok : mg_ok (A 3) ev f c n) : am_m d z_Model_go [.ref 18, .int (nI n)] (mH h σ t A) (some (.int (nI (mg_st (A 3) f c n)))) (mH h (mv_σ n σ A) t (ms_bec n A)) := by
  refine ev_go 2 (q := 2) (st' := .int 0 :: _ :: _) rfl ?_
  refine ev_mput (j := 0) (q := 5) hn rfl rfl rfl (by decide) rfl (mls_0 _ _ _) rfl ?_
  refine ev_go 2 (q := 7) rfl ?_
  refine ev_virt (z' := z_Model_isNode) (q := 10) rfl rfl (by decide) rfl (by simp [Value.category]) rfl (by omega) rfl rfl (mH_o hn) (m_isNode (σ := m0 σ) hn (by omega) h10 (by omega)) ?_
  refine ev_if_ne (t := 15) (q := 13) rfl rfl rfl (fun zc1 => ?_) (fun c => absurd c (am_bn.mpr ⟨⟨nI_pos' (by omega), (nI_ltI (by omega) (by omega)).mpr hv⟩, by rw [nI_clamp (by omega)]; exact h4⟩))
  refine ev_go 1 (q := 16) rfl ?_
  refine ev_get (q := 19) rfl (mH_o hn) rfl rfl rfl ?_
  refine ev_tp (y := nI c) h11 ?_
  refine ev_go 5 (q := 25) rfl ?_
  refine l_go (σ := m0 σ) hn hd hev.2 hw f c n 0 _ hc hv hok (fun x9 y9 e5 => ?_)
  rw [Nat.zero_add]
  refine ev_go 2 (q := 90) rfl ?_
  refine ev_mput (j := 11) (q := 93) hn rfl rfl rfl (by decide) rfl (mls_11 _ _ _) rfl ?_
  refine ev_go 2 (q := 95) rfl ?_
  refine ev_virt (z' := z_Model_becomes) (q := 98) rfl rfl (by decide) rfl (by simp [Value.category]) rfl (by omega) rfl rfl (mH_o hn) (m_becomes hn (by omega)) ?_
  refine ev_go 1 (q := 100) rfl ?_
  exact ev_iret rfl rfl (rfl) (rfl)
end M11
