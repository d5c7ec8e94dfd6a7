/-! the reference: does, calls, ends, opens -/
section M8
variable {d : Nat} {h h' : am_H} {σ : Nat → Int32} {t : Int64} {A : Nat → Nat → Int32} {res : Option Value} {R C u : Nat}
def md_1 (σ : Nat → Int32) : Nat → Int32 := va_up σ 26 (σ 26 + 1)
theorem bx_far (u : Nat) {j : Nat} (hj : j ≠ 32 ∧ j ≠ 33 ∧ j ≠ 34 ∧ j ≠ 35) : ∀ (m k : Nat) (S : (Nat → Int32) × (Nat → Nat → Int32)), (sp_it (bxs u) k m S).1 j = S.1 j
  | 0, _, _ => rfl
  | m + 1, k, S => by
    rw [sp_it, bx_far u hj m (k + 1)]
    unfold bxs
    dsimp only
    split
    · unfold bx4 bx3 bx2 bx1
      rw [va_up_ne _ _ hj.2.2.2, va_up_ne _ _ hj.2.2.1, va_up_ne _ _ hj.2.1, va_up_ne _ _ hj.1]
    · rfl
theorem bx_farA (u : Nat) {j : Nat} (hj : j ≠ 16) : ∀ (m k : Nat) (S : (Nat → Int32) × (Nat → Nat → Int32)), (sp_it (bxs u) k m S).2 j = S.2 j
  | 0, _, _ => rfl
  | m + 1, k, S => by
    rw [sp_it, bx_farA u hj m (k + 1)]
    unfold bxs
    exact va_up_ne _ _ hj
theorem mb_far (u : Nat) (σ : Nat → Int32) (A : Nat → Nat → Int32) {j : Nat} (hj : j ≠ 32 ∧ j ≠ 33 ∧ j ≠ 34 ∧ j ≠ 35) : (ms_box u σ A).1 j = σ j := by
  unfold ms_box
  rw [bx_far u hj]
  dsimp only
  rw [va_up_ne _ _ hj.2.2.2, va_up_ne _ _ hj.2.1, va_up_ne _ _ hj.2.2.1, va_up_ne _ _ hj.1]
theorem mb_farA (u : Nat) (σ : Nat → Int32) (A : Nat → Nat → Int32) {j : Nat} (hj : j ≠ 16) : (ms_box u σ A).2 j = A j := bx_farA u hj _ _ _
theorem m_doesF0 (hn : 43 ≤ h.1) (hd : 3 < d) (hR : 1 ≤ R ∧ R ≤ 10) (hC : 1 ≤ C ∧ C ≤ 10) (h1 : σ 1 = nI R) (h2 : σ 2 = nI C) {x : Int32} (hx : (rdy R C (ms_sel A) (A 15) t 0).1 = x) (h0 : 0 < x) : am_m d z_Model_does [.ref 18, .int 0] (mH h σ t A) (some (.int x)) (mH h (va_up (md_1 σ) 27 0) (rdy R C (ms_sel A) (A 15) t 0).2 A) := by
  refine ev_go 2 (q := 2) rfl ?_
  refine ev_get (q := 5) rfl (mH_o hn) rfl rfl rfl ?_
  refine ev_go 2 (q := 7) (st' := .int (_ + 1) :: _ :: _) rfl ?_
  refine ev_mput (q := 10) hn rfl rfl rfl (by decide) rfl (mls_26 _ _ _) rfl ?_
  refine ev_go 2 (q := 12) rfl ?_
  refine ev_virt (z' := z_Model_ready) (q := 15) rfl rfl (by decide) rfl (by simp [Value.category]) rfl (by omega) rfl rfl (mH_o hn) (m_ready0 (σ := md_1 σ) hn (by omega) hR hC h1 h2) ?_
  refine ev_go 2 (q := 17) rfl ?_
  refine ev_if_le (t := 27) (q := 20) rfl rfl rfl (fun c => absurd c (by rw [hx]; exact Int32.not_le.mpr h0)) (fun zc1 => ?_)
  refine ev_go 2 (q := 22) rfl ?_
  refine ev_mput (q := 25) hn rfl rfl rfl (by decide) rfl (mls_27 _ _ _) rfl ?_
  refine ev_go 1 (q := 26) rfl ?_
  exact ev_iret rfl rfl (hx) (rfl)
theorem m_doesF1 (hn : 43 ≤ h.1) (hd : 3 < d) (hR : 1 ≤ R ∧ R ≤ 10) (hC : 1 ≤ C ∧ C ≤ 10) (h1 : σ 1 = nI R) (h2 : σ 2 = nI C) {x : Int32} (hx : (rdy R C (ms_sel A) (A 15) t 1).1 = x) (h0 : 0 < x) : am_m d z_Model_does [.ref 18, .int 1] (mH h σ t A) (some (.int x)) (mH h (va_up (md_1 σ) 27 1) (rdy R C (ms_sel A) (A 15) t 1).2 A) := by
  refine ev_go 2 (q := 2) rfl ?_
  refine ev_get (q := 5) rfl (mH_o hn) rfl rfl rfl ?_
  refine ev_go 2 (q := 7) (st' := .int (_ + 1) :: _ :: _) rfl ?_
  refine ev_mput (q := 10) hn rfl rfl rfl (by decide) rfl (mls_26 _ _ _) rfl ?_
  refine ev_go 2 (q := 12) rfl ?_
  refine ev_virt (z' := z_Model_ready) (q := 15) rfl rfl (by decide) rfl (by simp [Value.category]) rfl (by omega) rfl rfl (mH_o hn) (m_ready1 (σ := md_1 σ) hn (by omega) hR hC h1 h2) ?_
  refine ev_go 2 (q := 17) rfl ?_
  refine ev_if_le (t := 27) (q := 20) rfl rfl rfl (fun c => absurd c (by rw [hx]; exact Int32.not_le.mpr h0)) (fun zc1 => ?_)
  refine ev_go 2 (q := 22) rfl ?_
  refine ev_mput (q := 25) hn rfl rfl rfl (by decide) rfl (mls_27 _ _ _) rfl ?_
  refine ev_go 1 (q := 26) rfl ?_
  exact ev_iret rfl rfl (hx) (rfl)
theorem m_doesF2 (hn : 43 ≤ h.1) (hd : 3 < d) (hR : 1 ≤ R ∧ R ≤ 10) (hC : 1 ≤ C ∧ C ≤ 10) (h1 : σ 1 = nI R) (h2 : σ 2 = nI C) {x : Int32} (hx : (rdy R C (ms_sel A) (A 15) t 2).1 = x) (h0 : 0 < x) : am_m d z_Model_does [.ref 18, .int 2] (mH h σ t A) (some (.int x)) (mH h (va_up (md_1 σ) 27 2) (rdy R C (ms_sel A) (A 15) t 2).2 A) := by
  refine ev_go 2 (q := 2) rfl ?_
  refine ev_get (q := 5) rfl (mH_o hn) rfl rfl rfl ?_
  refine ev_go 2 (q := 7) (st' := .int (_ + 1) :: _ :: _) rfl ?_
  refine ev_mput (q := 10) hn rfl rfl rfl (by decide) rfl (mls_26 _ _ _) rfl ?_
  refine ev_go 2 (q := 12) rfl ?_
  refine ev_virt (z' := z_Model_ready) (q := 15) rfl rfl (by decide) rfl (by simp [Value.category]) rfl (by omega) rfl rfl (mH_o hn) (m_ready2 (σ := md_1 σ) hn (by omega) hR hC h1 h2) ?_
  refine ev_go 2 (q := 17) rfl ?_
  refine ev_if_le (t := 27) (q := 20) rfl rfl rfl (fun c => absurd c (by rw [hx]; exact Int32.not_le.mpr h0)) (fun zc1 => ?_)
  refine ev_go 2 (q := 22) rfl ?_
  refine ev_mput (q := 25) hn rfl rfl rfl (by decide) rfl (mls_27 _ _ _) rfl ?_
  refine ev_go 1 (q := 26) rfl ?_
  exact ev_iret rfl rfl (hx) (rfl)
theorem m_doesF3 (hn : 43 ≤ h.1) (hd : 3 < d) (hR : 1 ≤ R ∧ R ≤ 10) (hC : 1 ≤ C ∧ C ≤ 10) (h1 : σ 1 = nI R) (h2 : σ 2 = nI C) {x : Int32} (hx : (rdy R C (ms_sel A) (A 15) t 3).1 = x) (h0 : 0 < x) : am_m d z_Model_does [.ref 18, .int 3] (mH h σ t A) (some (.int x)) (mH h (va_up (md_1 σ) 27 3) (rdy R C (ms_sel A) (A 15) t 3).2 A) := by
  refine ev_go 2 (q := 2) rfl ?_
  refine ev_get (q := 5) rfl (mH_o hn) rfl rfl rfl ?_
  refine ev_go 2 (q := 7) (st' := .int (_ + 1) :: _ :: _) rfl ?_
  refine ev_mput (q := 10) hn rfl rfl rfl (by decide) rfl (mls_26 _ _ _) rfl ?_
  refine ev_go 2 (q := 12) rfl ?_
  refine ev_virt (z' := z_Model_ready) (q := 15) rfl rfl (by decide) rfl (by simp [Value.category]) rfl (by omega) rfl rfl (mH_o hn) (m_ready3 (σ := md_1 σ) hn (by omega) hR hC h1 h2) ?_
  refine ev_go 2 (q := 17) rfl ?_
  refine ev_if_le (t := 27) (q := 20) rfl rfl rfl (fun c => absurd c (by rw [hx]; exact Int32.not_le.mpr h0)) (fun zc1 => ?_)
  refine ev_go 2 (q := 22) rfl ?_
  refine ev_mput (q := 25) hn rfl rfl rfl (by decide) rfl (mls_27 _ _ _) rfl ?_
  refine ev_go 1 (q := 26) rfl ?_
  exact ev_iret rfl rfl (hx) (rfl)
theorem m_doesF4 (hn : 43 ≤ h.1) (hd : 3 < d) (hR : 1 ≤ R ∧ R ≤ 10) (hC : 1 ≤ C ∧ C ≤ 10) (h1 : σ 1 = nI R) (h2 : σ 2 = nI C) {x : Int32} (hx : (rdy R C (ms_sel A) (A 15) t 4).1 = x) (h0 : 0 < x) : am_m d z_Model_does [.ref 18, .int 4] (mH h σ t A) (some (.int x)) (mH h (va_up (md_1 σ) 27 4) (rdy R C (ms_sel A) (A 15) t 4).2 A) := by
  refine ev_go 2 (q := 2) rfl ?_
  refine ev_get (q := 5) rfl (mH_o hn) rfl rfl rfl ?_
  refine ev_go 2 (q := 7) (st' := .int (_ + 1) :: _ :: _) rfl ?_
  refine ev_mput (q := 10) hn rfl rfl rfl (by decide) rfl (mls_26 _ _ _) rfl ?_
  refine ev_go 2 (q := 12) rfl ?_
  refine ev_virt (z' := z_Model_ready) (q := 15) rfl rfl (by decide) rfl (by simp [Value.category]) rfl (by omega) rfl rfl (mH_o hn) (m_ready4 (σ := md_1 σ) hn (by omega) hR hC h1 h2) ?_
  refine ev_go 2 (q := 17) rfl ?_
  refine ev_if_le (t := 27) (q := 20) rfl rfl rfl (fun c => absurd c (by rw [hx]; exact Int32.not_le.mpr h0)) (fun zc1 => ?_)
  refine ev_go 2 (q := 22) rfl ?_
  refine ev_mput (q := 25) hn rfl rfl rfl (by decide) rfl (mls_27 _ _ _) rfl ?_
  refine ev_go 1 (q := 26) rfl ?_
  exact ev_iret rfl rfl (hx) (rfl)
theorem m_doesF5 (hn : 43 ≤ h.1) (hd : 3 < d) (hR : 1 ≤ R ∧ R ≤ 10) (hC : 1 ≤ C ∧ C ≤ 10) (h1 : σ 1 = nI R) (h2 : σ 2 = nI C) {x : Int32} (hx : (rdy R C (ms_sel A) (A 15) t 5).1 = x) (h0 : 0 < x) : am_m d z_Model_does [.ref 18, .int 5] (mH h σ t A) (some (.int x)) (mH h (va_up (md_1 σ) 27 5) (rdy R C (ms_sel A) (A 15) t 5).2 A) := by
  refine ev_go 2 (q := 2) rfl ?_
  refine ev_get (q := 5) rfl (mH_o hn) rfl rfl rfl ?_
  refine ev_go 2 (q := 7) (st' := .int (_ + 1) :: _ :: _) rfl ?_
  refine ev_mput (q := 10) hn rfl rfl rfl (by decide) rfl (mls_26 _ _ _) rfl ?_
  refine ev_go 2 (q := 12) rfl ?_
  refine ev_virt (z' := z_Model_ready) (q := 15) rfl rfl (by decide) rfl (by simp [Value.category]) rfl (by omega) rfl rfl (mH_o hn) (m_ready5 (σ := md_1 σ) hn (by omega) hR hC h1 h2) ?_
  refine ev_go 2 (q := 17) rfl ?_
  refine ev_if_le (t := 27) (q := 20) rfl rfl rfl (fun c => absurd c (by rw [hx]; exact Int32.not_le.mpr h0)) (fun zc1 => ?_)
  refine ev_go 2 (q := 22) rfl ?_
  refine ev_mput (q := 25) hn rfl rfl rfl (by decide) rfl (mls_27 _ _ _) rfl ?_
  refine ev_go 1 (q := 26) rfl ?_
  exact ev_iret rfl rfl (hx) (rfl)
theorem m_doesF6 (hn : 43 ≤ h.1) (hd : 3 < d) (hR : 1 ≤ R ∧ R ≤ 10) (hC : 1 ≤ C ∧ C ≤ 10) (h1 : σ 1 = nI R) (h2 : σ 2 = nI C) {x : Int32} (hx : (rdy R C (ms_sel A) (A 15) t 6).1 = x) (h0 : 0 < x) : am_m d z_Model_does [.ref 18, .int 6] (mH h σ t A) (some (.int x)) (mH h (va_up (md_1 σ) 27 6) (rdy R C (ms_sel A) (A 15) t 6).2 A) := by
  refine ev_go 2 (q := 2) rfl ?_
  refine ev_get (q := 5) rfl (mH_o hn) rfl rfl rfl ?_
  refine ev_go 2 (q := 7) (st' := .int (_ + 1) :: _ :: _) rfl ?_
  refine ev_mput (q := 10) hn rfl rfl rfl (by decide) rfl (mls_26 _ _ _) rfl ?_
  refine ev_go 2 (q := 12) rfl ?_
  refine ev_virt (z' := z_Model_ready) (q := 15) rfl rfl (by decide) rfl (by simp [Value.category]) rfl (by omega) rfl rfl (mH_o hn) (m_ready6 (σ := md_1 σ) hn (by omega) hR hC h1 h2) ?_
  refine ev_go 2 (q := 17) rfl ?_
  refine ev_if_le (t := 27) (q := 20) rfl rfl rfl (fun c => absurd c (by rw [hx]; exact Int32.not_le.mpr h0)) (fun zc1 => ?_)
  refine ev_go 2 (q := 22) rfl ?_
  refine ev_mput (q := 25) hn rfl rfl rfl (by decide) rfl (mls_27 _ _ _) rfl ?_
  refine ev_go 1 (q := 26) rfl ?_
  exact ev_iret rfl rfl (hx) (rfl)
theorem m_doesF7 (hn : 43 ≤ h.1) (hd : 3 < d) (hR : 1 ≤ R ∧ R ≤ 10) (hC : 1 ≤ C ∧ C ≤ 10) (h1 : σ 1 = nI R) (h2 : σ 2 = nI C) {x : Int32} (hx : (rdy R C (ms_sel A) (A 15) t 7).1 = x) (h0 : 0 < x) : am_m d z_Model_does [.ref 18, .int 7] (mH h σ t A) (some (.int x)) (mH h (va_up (md_1 σ) 27 7) (rdy R C (ms_sel A) (A 15) t 7).2 A) := by
  refine ev_go 2 (q := 2) rfl ?_
  refine ev_get (q := 5) rfl (mH_o hn) rfl rfl rfl ?_
  refine ev_go 2 (q := 7) (st' := .int (_ + 1) :: _ :: _) rfl ?_
  refine ev_mput (q := 10) hn rfl rfl rfl (by decide) rfl (mls_26 _ _ _) rfl ?_
  refine ev_go 2 (q := 12) rfl ?_
  refine ev_virt (z' := z_Model_ready) (q := 15) rfl rfl (by decide) rfl (by simp [Value.category]) rfl (by omega) rfl rfl (mH_o hn) (m_ready7 (σ := md_1 σ) hn (by omega) hR hC h1 h2) ?_
  refine ev_go 2 (q := 17) rfl ?_
  refine ev_if_le (t := 27) (q := 20) rfl rfl rfl (fun c => absurd c (by rw [hx]; exact Int32.not_le.mpr h0)) (fun zc1 => ?_)
  refine ev_go 2 (q := 22) rfl ?_
  refine ev_mput (q := 25) hn rfl rfl rfl (by decide) rfl (mls_27 _ _ _) rfl ?_
  refine ev_go 1 (q := 26) rfl ?_
  exact ev_iret rfl rfl (hx) (rfl)
theorem m_doesF8 (hn : 43 ≤ h.1) (hd : 3 < d) (hR : 1 ≤ R ∧ R ≤ 10) (hC : 1 ≤ C ∧ C ≤ 10) (h1 : σ 1 = nI R) (h2 : σ 2 = nI C) {x : Int32} (hx : (rdy R C (ms_sel A) (A 15) t 8).1 = x) (h0 : 0 < x) : am_m d z_Model_does [.ref 18, .int 8] (mH h σ t A) (some (.int x)) (mH h (va_up (md_1 σ) 27 8) (rdy R C (ms_sel A) (A 15) t 8).2 A) := by
  refine ev_go 2 (q := 2) rfl ?_
  refine ev_get (q := 5) rfl (mH_o hn) rfl rfl rfl ?_
  refine ev_go 2 (q := 7) (st' := .int (_ + 1) :: _ :: _) rfl ?_
  refine ev_mput (q := 10) hn rfl rfl rfl (by decide) rfl (mls_26 _ _ _) rfl ?_
  refine ev_go 2 (q := 12) rfl ?_
  refine ev_virt (z' := z_Model_ready) (q := 15) rfl rfl (by decide) rfl (by simp [Value.category]) rfl (by omega) rfl rfl (mH_o hn) (m_ready8 (σ := md_1 σ) hn (by omega) hR hC h1 h2) ?_
  refine ev_go 2 (q := 17) rfl ?_
  refine ev_if_le (t := 27) (q := 20) rfl rfl rfl (fun c => absurd c (by rw [hx]; exact Int32.not_le.mpr h0)) (fun zc1 => ?_)
  refine ev_go 2 (q := 22) rfl ?_
  refine ev_mput (q := 25) hn rfl rfl rfl (by decide) rfl (mls_27 _ _ _) rfl ?_
  refine ev_go 1 (q := 26) rfl ?_
  exact ev_iret rfl rfl (hx) (rfl)
theorem m_doesF9 (hn : 43 ≤ h.1) (hd : 3 < d) (hR : 1 ≤ R ∧ R ≤ 10) (hC : 1 ≤ C ∧ C ≤ 10) (h1 : σ 1 = nI R) (h2 : σ 2 = nI C) {x : Int32} (hx : (rdy R C (ms_sel A) (A 15) t 9).1 = x) (h0 : 0 < x) : am_m d z_Model_does [.ref 18, .int 9] (mH h σ t A) (some (.int x)) (mH h (va_up (md_1 σ) 27 9) (rdy R C (ms_sel A) (A 15) t 9).2 A) := by
  refine ev_go 2 (q := 2) rfl ?_
  refine ev_get (q := 5) rfl (mH_o hn) rfl rfl rfl ?_
  refine ev_go 2 (q := 7) (st' := .int (_ + 1) :: _ :: _) rfl ?_
  refine ev_mput (q := 10) hn rfl rfl rfl (by decide) rfl (mls_26 _ _ _) rfl ?_
  refine ev_go 2 (q := 12) rfl ?_
  refine ev_virt (z' := z_Model_ready) (q := 15) rfl rfl (by decide) rfl (by simp [Value.category]) rfl (by omega) rfl rfl (mH_o hn) (m_ready9 (σ := md_1 σ) hn (by omega) hR hC h1 h2) ?_
  refine ev_go 2 (q := 17) rfl ?_
  refine ev_if_le (t := 27) (q := 20) rfl rfl rfl (fun c => absurd c (by rw [hx]; exact Int32.not_le.mpr h0)) (fun zc1 => ?_)
  refine ev_go 2 (q := 22) rfl ?_
  refine ev_mput (q := 25) hn rfl rfl rfl (by decide) rfl (mls_27 _ _ _) rfl ?_
  refine ev_go 1 (q := 26) rfl ?_
  exact ev_iret rfl rfl (hx) (rfl)
theorem m_doesF10 (hn : 43 ≤ h.1) (hd : 3 < d) (hR : 1 ≤ R ∧ R ≤ 10) (hC : 1 ≤ C ∧ C ≤ 10) (h1 : σ 1 = nI R) (h2 : σ 2 = nI C) {x : Int32} (hx : (rdy R C (ms_sel A) (A 15) t 10).1 = x) (h0 : 0 < x) : am_m d z_Model_does [.ref 18, .int 10] (mH h σ t A) (some (.int x)) (mH h (va_up (md_1 σ) 27 10) (rdy R C (ms_sel A) (A 15) t 10).2 A) := by
  refine ev_go 2 (q := 2) rfl ?_
  refine ev_get (q := 5) rfl (mH_o hn) rfl rfl rfl ?_
  refine ev_go 2 (q := 7) (st' := .int (_ + 1) :: _ :: _) rfl ?_
  refine ev_mput (q := 10) hn rfl rfl rfl (by decide) rfl (mls_26 _ _ _) rfl ?_
  refine ev_go 2 (q := 12) rfl ?_
  refine ev_virt (z' := z_Model_ready) (q := 15) rfl rfl (by decide) rfl (by simp [Value.category]) rfl (by omega) rfl rfl (mH_o hn) (m_ready10 (σ := md_1 σ) hn (by omega) hR hC h1 h2) ?_
  refine ev_go 2 (q := 17) rfl ?_
  refine ev_if_le (t := 27) (q := 20) rfl rfl rfl (fun c => absurd c (by rw [hx]; exact Int32.not_le.mpr h0)) (fun zc1 => ?_)
  refine ev_go 2 (q := 22) rfl ?_
  refine ev_mput (q := 25) hn rfl rfl rfl (by decide) rfl (mls_27 _ _ _) rfl ?_
  refine ev_go 1 (q := 26) rfl ?_
  exact ev_iret rfl rfl (hx) (rfl)
theorem m_doesF11 (hn : 43 ≤ h.1) (hd : 3 < d) (hR : 1 ≤ R ∧ R ≤ 10) (hC : 1 ≤ C ∧ C ≤ 10) (h1 : σ 1 = nI R) (h2 : σ 2 = nI C) {x : Int32} (hx : (rdy R C (ms_sel A) (A 15) t 11).1 = x) (h0 : 0 < x) : am_m d z_Model_does [.ref 18, .int 11] (mH h σ t A) (some (.int x)) (mH h (va_up (md_1 σ) 27 11) (rdy R C (ms_sel A) (A 15) t 11).2 A) := by
  refine ev_go 2 (q := 2) rfl ?_
  refine ev_get (q := 5) rfl (mH_o hn) rfl rfl rfl ?_
  refine ev_go 2 (q := 7) (st' := .int (_ + 1) :: _ :: _) rfl ?_
  refine ev_mput (q := 10) hn rfl rfl rfl (by decide) rfl (mls_26 _ _ _) rfl ?_
  refine ev_go 2 (q := 12) rfl ?_
  refine ev_virt (z' := z_Model_ready) (q := 15) rfl rfl (by decide) rfl (by simp [Value.category]) rfl (by omega) rfl rfl (mH_o hn) (m_ready11 (σ := md_1 σ) hn (by omega) hR hC h1 h2) ?_
  refine ev_go 2 (q := 17) rfl ?_
  refine ev_if_le (t := 27) (q := 20) rfl rfl rfl (fun c => absurd c (by rw [hx]; exact Int32.not_le.mpr h0)) (fun zc1 => ?_)
  refine ev_go 2 (q := 22) rfl ?_
  refine ev_mput (q := 25) hn rfl rfl rfl (by decide) rfl (mls_27 _ _ _) rfl ?_
  refine ev_go 1 (q := 26) rfl ?_
  exact ev_iret rfl rfl (hx) (rfl)
theorem m_doesF12 (hn : 43 ≤ h.1) (hd : 3 < d) (hR : 1 ≤ R ∧ R ≤ 10) (hC : 1 ≤ C ∧ C ≤ 10) (h1 : σ 1 = nI R) (h2 : σ 2 = nI C) {x : Int32} (hx : (rdy R C (ms_sel A) (A 15) t 12).1 = x) (h0 : 0 < x) : am_m d z_Model_does [.ref 18, .int 12] (mH h σ t A) (some (.int x)) (mH h (va_up (md_1 σ) 27 12) (rdy R C (ms_sel A) (A 15) t 12).2 A) := by
  refine ev_go 2 (q := 2) rfl ?_
  refine ev_get (q := 5) rfl (mH_o hn) rfl rfl rfl ?_
  refine ev_go 2 (q := 7) (st' := .int (_ + 1) :: _ :: _) rfl ?_
  refine ev_mput (q := 10) hn rfl rfl rfl (by decide) rfl (mls_26 _ _ _) rfl ?_
  refine ev_go 2 (q := 12) rfl ?_
  refine ev_virt (z' := z_Model_ready) (q := 15) rfl rfl (by decide) rfl (by simp [Value.category]) rfl (by omega) rfl rfl (mH_o hn) (m_ready12 (σ := md_1 σ) hn (by omega) hR hC h1 h2) ?_
  refine ev_go 2 (q := 17) rfl ?_
  refine ev_if_le (t := 27) (q := 20) rfl rfl rfl (fun c => absurd c (by rw [hx]; exact Int32.not_le.mpr h0)) (fun zc1 => ?_)
  refine ev_go 2 (q := 22) rfl ?_
  refine ev_mput (q := 25) hn rfl rfl rfl (by decide) rfl (mls_27 _ _ _) rfl ?_
  refine ev_go 1 (q := 26) rfl ?_
  exact ev_iret rfl rfl (hx) (rfl)
theorem m_does0 (hn : 43 ≤ h.1) (hd : 3 < d) (hR : 1 ≤ R ∧ R ≤ 10) (hC : 1 ≤ C ∧ C ≤ 10) (h1 : σ 1 = nI R) (h2 : σ 2 = nI C) (h5 : σ 5 = nI u) (hu : u < 3)  (h0 : (rdy R C (ms_sel A) (A 15) t 0).1 = 0) : am_m d z_Model_does [.ref 18, .int 0] (mH h σ t A) (some (.int 0)) (mH h (ms_box u (md_1 σ) A).1 (rdy R C (ms_sel A) (A 15) t 0).2 (ms_paint R C u (ms_box u (md_1 σ) A).2 ((ms_box u (md_1 σ) A).2 15 0) ((ms_box u (md_1 σ) A).2 15 1) ((ms_box u (md_1 σ) A).2 15 4))) := by
  have q1 : (ms_box u (md_1 σ) A).1 1 = nI R := (mb_far u _ A (by decide)).trans h1
  have q2 : (ms_box u (md_1 σ) A).1 2 = nI C := (mb_far u _ A (by decide)).trans h2
  have q5 : (ms_box u (md_1 σ) A).1 5 = nI u := (mb_far u _ A (by decide)).trans h5
  have q15 : (ms_box u (md_1 σ) A).2 15 = A 15 := mb_farA u _ A (by decide)
  have q16 : (ms_box u (md_1 σ) A).2 1 = A 1 := mb_farA u _ A (by decide)
  refine ev_go 2 (q := 2) rfl ?_
  refine ev_get (q := 5) rfl (mH_o hn) rfl rfl rfl ?_
  refine ev_go 2 (q := 7) (st' := .int (_ + 1) :: _ :: _) rfl ?_
  refine ev_mput (q := 10) hn rfl rfl rfl (by decide) rfl (mls_26 _ _ _) rfl ?_
  refine ev_go 2 (q := 12) rfl ?_
  refine ev_virt (z' := z_Model_ready) (q := 15) rfl rfl (by decide) rfl (by simp [Value.category]) rfl (by omega) rfl rfl (mH_o hn) (m_ready0 (σ := md_1 σ) hn (by omega) hR hC h1 h2) ?_
  refine ev_go 2 (q := 17) rfl ?_
  refine ev_if_le (t := 27) (q := 20) rfl rfl rfl (fun zc1 => ?_) (fun c => absurd (by rw [h0]; decide) c)
  refine ev_go 1 (q := 28) rfl ?_
  refine ev_virt (z' := z_Model_box) (q := 31) rfl rfl (by decide) rfl (by simp [Value.category]) rfl (by omega) rfl rfl (mH_o hn) (m_box hn hu (show md_1 σ 5 = nI u from h5)) ?_
  refine ev_go 1 (q := 32) rfl ?_
  refine ev_if_ne (t := 60) (q := 35) rfl rfl rfl (fun c => absurd (by decide) c) (fun _ => ?_)
  refine ev_go 2 (q := 37) rfl ?_
  refine ev_get (q := 40) rfl (mH_o hn) rfl rfl rfl ?_
  refine ev_go 1 (q := 41) (st' := .int 0 :: _ :: _ :: _) rfl ?_
  refine ev_mia (q := 42) hn rfl (by decide) rfl rfl (by decide) rfl ?_
  refine ev_go 1 (q := 43) rfl ?_
  refine ev_get (q := 46) rfl (mH_o hn) rfl rfl rfl ?_
  refine ev_go 1 (q := 47) (st' := .int 1 :: _ :: _ :: _ :: _) rfl ?_
  refine ev_mia (q := 48) hn rfl (by decide) rfl rfl (by decide) rfl ?_
  refine ev_go 1 (q := 49) rfl ?_
  refine ev_get (q := 52) rfl (mH_o hn) rfl rfl rfl ?_
  refine ev_go 1 (q := 53) (st' := .int 4 :: _ :: _ :: _ :: _ :: _) rfl ?_
  refine ev_mia (q := 54) hn rfl (by decide) rfl rfl (by decide) rfl ?_
  refine ev_virt (z' := z_Model_paints) (q := 57) rfl rfl (by decide) rfl (by simp [Value.category]) rfl (by omega) rfl rfl (mH_o hn) (m_paint hn (by omega) hR hC q1 q2 q5 hu) ?_
  refine ev_go 2 (q := 194) (st' := .int 0 :: _) rfl ?_
  exact ev_iret rfl rfl (rfl) (rfl)
theorem m_does1n (hn : 43 ≤ h.1) (hd : 3 < d) (hR : 1 ≤ R ∧ R ≤ 10) (hC : 1 ≤ C ∧ C ≤ 10) (h1 : σ 1 = nI R) (h2 : σ 2 = nI C) (h5 : σ 5 = nI u) (hu : u < 3) {a b : Nat} (ha : A 15 0 = nI a) (hb : A 15 1 = nI b) (hab : a < 10 ∧ b < 10) (hs : A 1 (10 * a + b) = 0) (h0 : (rdy R C (ms_sel A) (A 15) t 1).1 = 0) : am_m d z_Model_does [.ref 18, .int 1] (mH h σ t A) (some (.int 0)) (mH h (ms_box u (md_1 σ) A).1 (rdy R C (ms_sel A) (A 15) t 1).2 (ms_box u (md_1 σ) A).2) := by
  have q1 : (ms_box u (md_1 σ) A).1 1 = nI R := (mb_far u _ A (by decide)).trans h1
  have q2 : (ms_box u (md_1 σ) A).1 2 = nI C := (mb_far u _ A (by decide)).trans h2
  have q5 : (ms_box u (md_1 σ) A).1 5 = nI u := (mb_far u _ A (by decide)).trans h5
  have q15 : (ms_box u (md_1 σ) A).2 15 = A 15 := mb_farA u _ A (by decide)
  have q16 : (ms_box u (md_1 σ) A).2 1 = A 1 := mb_farA u _ A (by decide)
  have qa : (ms_box u (md_1 σ) A).2 15 0 = nI a := by rw [q15]; exact ha
  have qb : (ms_box u (md_1 σ) A).2 15 1 = nI b := by rw [q15]; exact hb
  refine ev_go 2 (q := 2) rfl ?_
  refine ev_get (q := 5) rfl (mH_o hn) rfl rfl rfl ?_
  refine ev_go 2 (q := 7) (st' := .int (_ + 1) :: _ :: _) rfl ?_
  refine ev_mput (q := 10) hn rfl rfl rfl (by decide) rfl (mls_26 _ _ _) rfl ?_
  refine ev_go 2 (q := 12) rfl ?_
  refine ev_virt (z' := z_Model_ready) (q := 15) rfl rfl (by decide) rfl (by simp [Value.category]) rfl (by omega) rfl rfl (mH_o hn) (m_ready1 (σ := md_1 σ) hn (by omega) hR hC h1 h2) ?_
  refine ev_go 2 (q := 17) rfl ?_
  refine ev_if_le (t := 27) (q := 20) rfl rfl rfl (fun zc1 => ?_) (fun c => absurd (by rw [h0]; decide) c)
  refine ev_go 1 (q := 28) rfl ?_
  refine ev_virt (z' := z_Model_box) (q := 31) rfl rfl (by decide) rfl (by simp [Value.category]) rfl (by omega) rfl rfl (mH_o hn) (m_box hn hu (show md_1 σ 5 = nI u from h5)) ?_
  refine ev_go 1 (q := 32) rfl ?_
  refine ev_if_ne (t := 60) (q := 35) rfl rfl rfl (fun _ => ?_) (fun c => absurd c (by decide))
  refine ev_go 2 (q := 62) (st' := .int 1 :: _ :: _) rfl ?_
  refine ev_icmp_ne (t := 90) (q := 65) rfl rfl rfl (fun c => absurd (by decide) c) (fun _ => ?_)
  refine ev_go 2 (q := 67) rfl ?_
  refine ev_get (q := 70) rfl (mH_o hn) rfl rfl rfl ?_
  refine ev_go 1 (q := 71) (st' := .int 0 :: _ :: _ :: _) rfl ?_
  refine ev_mia (q := 72) hn rfl (by decide) rfl rfl (by decide) rfl ?_
  refine ev_go 1 (q := 73) rfl ?_
  refine ev_get (q := 76) rfl (mH_o hn) rfl rfl rfl ?_
  refine ev_go 1 (q := 77) (st' := .int 1 :: _ :: _ :: _ :: _) rfl ?_
  refine ev_mia (q := 78) hn rfl (by decide) rfl rfl (by decide) rfl ?_
  refine ev_go 1 (q := 79) rfl ?_
  refine ev_get (q := 82) rfl (mH_o hn) rfl rfl rfl ?_
  refine ev_go 1 (q := 83) (st' := .int 4 :: _ :: _ :: _ :: _ :: _) rfl ?_
  refine ev_mia (q := 84) hn rfl (by decide) rfl rfl (by decide) rfl ?_
  refine ev_virt (z' := z_Model_fills) (q := 87) rfl rfl (by decide) rfl (by simp [Value.category]) rfl (by omega) rfl rfl (mH_o hn) (by rw [qa, qb]; exact m_fills0 hn (by omega) (by rw [q16]; exact hs)) ?_
  refine ev_go 2 (q := 194) (st' := .int 0 :: _) rfl ?_
  exact ev_iret rfl rfl (rfl) (rfl)
theorem m_does1y (hn : 43 ≤ h.1) (hd : 3 < d) (hR : 1 ≤ R ∧ R ≤ 10) (hC : 1 ≤ C ∧ C ≤ 10) (h1 : σ 1 = nI R) (h2 : σ 2 = nI C) (h5 : σ 5 = nI u) (hu : u < 3) {a b : Nat} (ha : A 15 0 = nI a) (hb : A 15 1 = nI b) (hab : a < 10 ∧ b < 10) (hs : ¬ A 1 (10 * a + b) = 0) (h0 : (rdy R C (ms_sel A) (A 15) t 1).1 = 0) : am_m d z_Model_does [.ref 18, .int 1] (mH h σ t A) (some (.int 0)) (mH h (ms_box u (md_1 σ) A).1 (rdy R C (ms_sel A) (A 15) t 1).2 (ms_fill R C u (10 * a + b) ((ms_box u (md_1 σ) A).2 15 4) (ms_box u (md_1 σ) A).2)) := by
  have q1 : (ms_box u (md_1 σ) A).1 1 = nI R := (mb_far u _ A (by decide)).trans h1
  have q2 : (ms_box u (md_1 σ) A).1 2 = nI C := (mb_far u _ A (by decide)).trans h2
  have q5 : (ms_box u (md_1 σ) A).1 5 = nI u := (mb_far u _ A (by decide)).trans h5
  have q15 : (ms_box u (md_1 σ) A).2 15 = A 15 := mb_farA u _ A (by decide)
  have q16 : (ms_box u (md_1 σ) A).2 1 = A 1 := mb_farA u _ A (by decide)
  have qa : (ms_box u (md_1 σ) A).2 15 0 = nI a := by rw [q15]; exact ha
  have qb : (ms_box u (md_1 σ) A).2 15 1 = nI b := by rw [q15]; exact hb
  refine ev_go 2 (q := 2) rfl ?_
  refine ev_get (q := 5) rfl (mH_o hn) rfl rfl rfl ?_
  refine ev_go 2 (q := 7) (st' := .int (_ + 1) :: _ :: _) rfl ?_
  refine ev_mput (q := 10) hn rfl rfl rfl (by decide) rfl (mls_26 _ _ _) rfl ?_
  refine ev_go 2 (q := 12) rfl ?_
  refine ev_virt (z' := z_Model_ready) (q := 15) rfl rfl (by decide) rfl (by simp [Value.category]) rfl (by omega) rfl rfl (mH_o hn) (m_ready1 (σ := md_1 σ) hn (by omega) hR hC h1 h2) ?_
  refine ev_go 2 (q := 17) rfl ?_
  refine ev_if_le (t := 27) (q := 20) rfl rfl rfl (fun zc1 => ?_) (fun c => absurd (by rw [h0]; decide) c)
  refine ev_go 1 (q := 28) rfl ?_
  refine ev_virt (z' := z_Model_box) (q := 31) rfl rfl (by decide) rfl (by simp [Value.category]) rfl (by omega) rfl rfl (mH_o hn) (m_box hn hu (show md_1 σ 5 = nI u from h5)) ?_
  refine ev_go 1 (q := 32) rfl ?_
  refine ev_if_ne (t := 60) (q := 35) rfl rfl rfl (fun _ => ?_) (fun c => absurd c (by decide))
  refine ev_go 2 (q := 62) (st' := .int 1 :: _ :: _) rfl ?_
  refine ev_icmp_ne (t := 90) (q := 65) rfl rfl rfl (fun c => absurd (by decide) c) (fun _ => ?_)
  refine ev_go 2 (q := 67) rfl ?_
  refine ev_get (q := 70) rfl (mH_o hn) rfl rfl rfl ?_
  refine ev_go 1 (q := 71) (st' := .int 0 :: _ :: _ :: _) rfl ?_
  refine ev_mia (q := 72) hn rfl (by decide) rfl rfl (by decide) rfl ?_
  refine ev_go 1 (q := 73) rfl ?_
  refine ev_get (q := 76) rfl (mH_o hn) rfl rfl rfl ?_
  refine ev_go 1 (q := 77) (st' := .int 1 :: _ :: _ :: _ :: _) rfl ?_
  refine ev_mia (q := 78) hn rfl (by decide) rfl rfl (by decide) rfl ?_
  refine ev_go 1 (q := 79) rfl ?_
  refine ev_get (q := 82) rfl (mH_o hn) rfl rfl rfl ?_
  refine ev_go 1 (q := 83) (st' := .int 4 :: _ :: _ :: _ :: _ :: _) rfl ?_
  refine ev_mia (q := 84) hn rfl (by decide) rfl rfl (by decide) rfl ?_
  refine ev_virt (z' := z_Model_fills) (q := 87) rfl rfl (by decide) rfl (by simp [Value.category]) rfl (by omega) rfl rfl (mH_o hn) (by rw [qa, qb]; exact m_fills hn (by omega) hR hC q1 q2 q5 hu (by omega) (by rw [q16]; exact hs)) ?_
  refine ev_go 2 (q := 194) (st' := .int 0 :: _) rfl ?_
  exact ev_iret rfl rfl (rfl) (rfl)
theorem m_does2 (hn : 43 ≤ h.1) (hd : 3 < d) (hR : 1 ≤ R ∧ R ≤ 10) (hC : 1 ≤ C ∧ C ≤ 10) (h1 : σ 1 = nI R) (h2 : σ 2 = nI C) (h5 : σ 5 = nI u) (hu : u < 3) {a b : Nat} (ha : A 15 0 = nI a) (hb : A 15 1 = nI b) (hab : a < 10 ∧ b < 10) {c e : Nat} (hc : A 15 2 = nI c) (he : A 15 3 = nI e) (hce : c < 10 ∧ e < 10) (h0 : (rdy R C (ms_sel A) (A 15) t 2).1 = 0) : am_m d z_Model_does [.ref 18, .int 2] (mH h σ t A) (some (.int 0)) (mH h (ms_box u (md_1 σ) A).1 (rdy R C (ms_sel A) (A 15) t 2).2 (sp_it (fun k A9 => ms_paint R C u A9 (ln_m a c (ln_n a b c e) k) (ln_m b e (ln_n a b c e) k) ((ms_box u (md_1 σ) A).2 15 4)) 0 (ln_n a b c e + 1) (ms_box u (md_1 σ) A).2)) := by
  have q1 : (ms_box u (md_1 σ) A).1 1 = nI R := (mb_far u _ A (by decide)).trans h1
  have q2 : (ms_box u (md_1 σ) A).1 2 = nI C := (mb_far u _ A (by decide)).trans h2
  have q5 : (ms_box u (md_1 σ) A).1 5 = nI u := (mb_far u _ A (by decide)).trans h5
  have q15 : (ms_box u (md_1 σ) A).2 15 = A 15 := mb_farA u _ A (by decide)
  have q16 : (ms_box u (md_1 σ) A).2 1 = A 1 := mb_farA u _ A (by decide)
  have qa : (ms_box u (md_1 σ) A).2 15 0 = nI a := by rw [q15]; exact ha
  have qb : (ms_box u (md_1 σ) A).2 15 1 = nI b := by rw [q15]; exact hb
  have qc : (ms_box u (md_1 σ) A).2 15 2 = nI c := by rw [q15]; exact hc
  have qe : (ms_box u (md_1 σ) A).2 15 3 = nI e := by rw [q15]; exact he
  refine ev_go 2 (q := 2) rfl ?_
  refine ev_get (q := 5) rfl (mH_o hn) rfl rfl rfl ?_
  refine ev_go 2 (q := 7) (st' := .int (_ + 1) :: _ :: _) rfl ?_
  refine ev_mput (q := 10) hn rfl rfl rfl (by decide) rfl (mls_26 _ _ _) rfl ?_
  refine ev_go 2 (q := 12) rfl ?_
  refine ev_virt (z' := z_Model_ready) (q := 15) rfl rfl (by decide) rfl (by simp [Value.category]) rfl (by omega) rfl rfl (mH_o hn) (m_ready2 (σ := md_1 σ) hn (by omega) hR hC h1 h2) ?_
  refine ev_go 2 (q := 17) rfl ?_
  refine ev_if_le (t := 27) (q := 20) rfl rfl rfl (fun zc1 => ?_) (fun c => absurd (by rw [h0]; decide) c)
  refine ev_go 1 (q := 28) rfl ?_
  refine ev_virt (z' := z_Model_box) (q := 31) rfl rfl (by decide) rfl (by simp [Value.category]) rfl (by omega) rfl rfl (mH_o hn) (m_box hn hu (show md_1 σ 5 = nI u from h5)) ?_
  refine ev_go 1 (q := 32) rfl ?_
  refine ev_if_ne (t := 60) (q := 35) rfl rfl rfl (fun _ => ?_) (fun c => absurd c (by decide))
  refine ev_go 2 (q := 62) (st' := .int 1 :: _ :: _) rfl ?_
  refine ev_icmp_ne (t := 90) (q := 65) rfl rfl rfl (fun _ => ?_) (fun c => absurd c (by decide))
  refine ev_go 2 (q := 92) (st' := .int 2 :: _ :: _) rfl ?_
  refine ev_icmp_ne (t := 132) (q := 95) rfl rfl rfl (fun c => absurd (by decide) c) (fun _ => ?_)
  refine ev_go 2 (q := 97) rfl ?_
  refine ev_get (q := 100) rfl (mH_o hn) rfl rfl rfl ?_
  refine ev_go 1 (q := 101) (st' := .int 0 :: _ :: _ :: _) rfl ?_
  refine ev_mia (q := 102) hn rfl (by decide) rfl rfl (by decide) rfl ?_
  refine ev_go 1 (q := 103) rfl ?_
  refine ev_get (q := 106) rfl (mH_o hn) rfl rfl rfl ?_
  refine ev_go 1 (q := 107) (st' := .int 1 :: _ :: _ :: _ :: _) rfl ?_
  refine ev_mia (q := 108) hn rfl (by decide) rfl rfl (by decide) rfl ?_
  refine ev_go 1 (q := 109) rfl ?_
  refine ev_get (q := 112) rfl (mH_o hn) rfl rfl rfl ?_
  refine ev_go 1 (q := 113) (st' := .int 2 :: _ :: _ :: _ :: _ :: _) rfl ?_
  refine ev_mia (q := 114) hn rfl (by decide) rfl rfl (by decide) rfl ?_
  refine ev_go 1 (q := 115) rfl ?_
  refine ev_get (q := 118) rfl (mH_o hn) rfl rfl rfl ?_
  refine ev_go 1 (q := 119) (st' := .int 3 :: _ :: _ :: _ :: _ :: _ :: _) rfl ?_
  refine ev_mia (q := 120) hn rfl (by decide) rfl rfl (by decide) rfl ?_
  refine ev_go 1 (q := 121) rfl ?_
  refine ev_get (q := 124) rfl (mH_o hn) rfl rfl rfl ?_
  refine ev_go 1 (q := 125) (st' := .int 4 :: _ :: _ :: _ :: _ :: _ :: _ :: _) rfl ?_
  refine ev_mia (q := 126) hn rfl (by decide) rfl rfl (by decide) rfl ?_
  refine ev_virt (z' := z_Model_lines) (q := 129) rfl rfl (by decide) rfl (by simp [Value.category]) rfl (by omega) rfl rfl (mH_o hn) (by rw [qa, qb, qc, qe]; exact m_lines hn (by omega) hR hC q1 q2 q5 hu hab.1 hab.2 hce.1 hce.2) ?_
  refine ev_go 2 (q := 194) (st' := .int 0 :: _) rfl ?_
  exact ev_iret rfl rfl (rfl) (rfl)
theorem m_does3 (hn : 43 ≤ h.1) (hd : 3 < d) (hR : 1 ≤ R ∧ R ≤ 10) (hC : 1 ≤ C ∧ C ≤ 10) (h1 : σ 1 = nI R) (h2 : σ 2 = nI C) (h5 : σ 5 = nI u) (hu : u < 3) {dd : Nat} (he : A 15 3 = nI dd) (hdd : dd < 8) (h0 : (rdy R C (ms_sel A) (A 15) t 3).1 = 0) : am_m d z_Model_does [.ref 18, .int 3] (mH h σ t A) (some (.int 0)) (mH h (ms_box u (md_1 σ) A).1 (rdy R C (ms_sel A) (A 15) t 3).2 (sp_it (st_g R C u ((ms_box u (md_1 σ) A).2 15 0) ((ms_box u (md_1 σ) A).2 15 1) ((ms_box u (md_1 σ) A).2 15 2) ((ms_box u (md_1 σ) A).2 15 4) dd) 0 9 (ms_box u (md_1 σ) A).2)) := by
  have q1 : (ms_box u (md_1 σ) A).1 1 = nI R := (mb_far u _ A (by decide)).trans h1
  have q2 : (ms_box u (md_1 σ) A).1 2 = nI C := (mb_far u _ A (by decide)).trans h2
  have q5 : (ms_box u (md_1 σ) A).1 5 = nI u := (mb_far u _ A (by decide)).trans h5
  have q15 : (ms_box u (md_1 σ) A).2 15 = A 15 := mb_farA u _ A (by decide)
  have q16 : (ms_box u (md_1 σ) A).2 1 = A 1 := mb_farA u _ A (by decide)
  have qe : (ms_box u (md_1 σ) A).2 15 3 = nI dd := by rw [q15]; exact he
  refine ev_go 2 (q := 2) rfl ?_
  refine ev_get (q := 5) rfl (mH_o hn) rfl rfl rfl ?_
  refine ev_go 2 (q := 7) (st' := .int (_ + 1) :: _ :: _) rfl ?_
  refine ev_mput (q := 10) hn rfl rfl rfl (by decide) rfl (mls_26 _ _ _) rfl ?_
  refine ev_go 2 (q := 12) rfl ?_
  refine ev_virt (z' := z_Model_ready) (q := 15) rfl rfl (by decide) rfl (by simp [Value.category]) rfl (by omega) rfl rfl (mH_o hn) (m_ready3 (σ := md_1 σ) hn (by omega) hR hC h1 h2) ?_
  refine ev_go 2 (q := 17) rfl ?_
  refine ev_if_le (t := 27) (q := 20) rfl rfl rfl (fun zc1 => ?_) (fun c => absurd (by rw [h0]; decide) c)
  refine ev_go 1 (q := 28) rfl ?_
  refine ev_virt (z' := z_Model_box) (q := 31) rfl rfl (by decide) rfl (by simp [Value.category]) rfl (by omega) rfl rfl (mH_o hn) (m_box hn hu (show md_1 σ 5 = nI u from h5)) ?_
  refine ev_go 1 (q := 32) rfl ?_
  refine ev_if_ne (t := 60) (q := 35) rfl rfl rfl (fun _ => ?_) (fun c => absurd c (by decide))
  refine ev_go 2 (q := 62) (st' := .int 1 :: _ :: _) rfl ?_
  refine ev_icmp_ne (t := 90) (q := 65) rfl rfl rfl (fun _ => ?_) (fun c => absurd c (by decide))
  refine ev_go 2 (q := 92) (st' := .int 2 :: _ :: _) rfl ?_
  refine ev_icmp_ne (t := 132) (q := 95) rfl rfl rfl (fun _ => ?_) (fun c => absurd c (by decide))
  refine ev_go 2 (q := 134) (st' := .int 3 :: _ :: _) rfl ?_
  refine ev_icmp_ne (t := 174) (q := 137) rfl rfl rfl (fun c => absurd (by decide) c) (fun _ => ?_)
  refine ev_go 2 (q := 139) rfl ?_
  refine ev_get (q := 142) rfl (mH_o hn) rfl rfl rfl ?_
  refine ev_go 1 (q := 143) (st' := .int 0 :: _ :: _ :: _) rfl ?_
  refine ev_mia (q := 144) hn rfl (by decide) rfl rfl (by decide) rfl ?_
  refine ev_go 1 (q := 145) rfl ?_
  refine ev_get (q := 148) rfl (mH_o hn) rfl rfl rfl ?_
  refine ev_go 1 (q := 149) (st' := .int 1 :: _ :: _ :: _ :: _) rfl ?_
  refine ev_mia (q := 150) hn rfl (by decide) rfl rfl (by decide) rfl ?_
  refine ev_go 1 (q := 151) rfl ?_
  refine ev_get (q := 154) rfl (mH_o hn) rfl rfl rfl ?_
  refine ev_go 1 (q := 155) (st' := .int 2 :: _ :: _ :: _ :: _ :: _) rfl ?_
  refine ev_mia (q := 156) hn rfl (by decide) rfl rfl (by decide) rfl ?_
  refine ev_go 1 (q := 157) rfl ?_
  refine ev_get (q := 160) rfl (mH_o hn) rfl rfl rfl ?_
  refine ev_go 1 (q := 161) (st' := .int 3 :: _ :: _ :: _ :: _ :: _ :: _) rfl ?_
  refine ev_mia (q := 162) hn rfl (by decide) rfl rfl (by decide) rfl ?_
  refine ev_go 1 (q := 163) rfl ?_
  refine ev_get (q := 166) rfl (mH_o hn) rfl rfl rfl ?_
  refine ev_go 1 (q := 167) (st' := .int 4 :: _ :: _ :: _ :: _ :: _ :: _ :: _) rfl ?_
  refine ev_mia (q := 168) hn rfl (by decide) rfl rfl (by decide) rfl ?_
  refine ev_virt (z' := z_Model_stamps) (q := 171) rfl rfl (by decide) rfl (by simp [Value.category]) rfl (by omega) rfl rfl (mH_o hn) (by rw [qe]; exact m_stamps hn (by omega) hR hC q1 q2 q5 hu hdd) ?_
  refine ev_go 2 (q := 194) (st' := .int 0 :: _) rfl ?_
  exact ev_iret rfl rfl (rfl) (rfl)
theorem m_does4 (hn : 43 ≤ h.1) (hd : 3 < d) (hR : 1 ≤ R ∧ R ≤ 10) (hC : 1 ≤ C ∧ C ≤ 10) (h1 : σ 1 = nI R) (h2 : σ 2 = nI C) (h5 : σ 5 = nI u) (hu : u < 3) {T B P S : Nat} (h32 : (ms_box u (md_1 σ) A).1 32 = nI T) (h33 : (ms_box u (md_1 σ) A).1 33 = nI B) (h34 : (ms_box u (md_1 σ) A).1 34 = nI P) (h35 : (ms_box u (md_1 σ) A).1 35 = nI S) (hT : T ≤ B ∧ B < R) (hP : P ≤ S ∧ S < C) (h0 : (rdy R C (ms_sel A) (A 15) t 4).1 = 0) : am_m d z_Model_does [.ref 18, .int 4] (mH h σ t A) (some (.int 0)) (mH h (ms_box u (md_1 σ) A).1 (rdy R C (ms_sel A) (A 15) t 4).2 (sp_bx (bg4 R C u T B P S ((ms_box u (md_1 σ) A).2 15 0)) T B P S (ms_box u (md_1 σ) A).2)) := by
  have q1 : (ms_box u (md_1 σ) A).1 1 = nI R := (mb_far u _ A (by decide)).trans h1
  have q2 : (ms_box u (md_1 σ) A).1 2 = nI C := (mb_far u _ A (by decide)).trans h2
  have q5 : (ms_box u (md_1 σ) A).1 5 = nI u := (mb_far u _ A (by decide)).trans h5
  have q15 : (ms_box u (md_1 σ) A).2 15 = A 15 := mb_farA u _ A (by decide)
  have q16 : (ms_box u (md_1 σ) A).2 1 = A 1 := mb_farA u _ A (by decide)
  refine ev_go 2 (q := 2) rfl ?_
  refine ev_get (q := 5) rfl (mH_o hn) rfl rfl rfl ?_
  refine ev_go 2 (q := 7) (st' := .int (_ + 1) :: _ :: _) rfl ?_
  refine ev_mput (q := 10) hn rfl rfl rfl (by decide) rfl (mls_26 _ _ _) rfl ?_
  refine ev_go 2 (q := 12) rfl ?_
  refine ev_virt (z' := z_Model_ready) (q := 15) rfl rfl (by decide) rfl (by simp [Value.category]) rfl (by omega) rfl rfl (mH_o hn) (m_ready4 (σ := md_1 σ) hn (by omega) hR hC h1 h2) ?_
  refine ev_go 2 (q := 17) rfl ?_
  refine ev_if_le (t := 27) (q := 20) rfl rfl rfl (fun zc1 => ?_) (fun c => absurd (by rw [h0]; decide) c)
  refine ev_go 1 (q := 28) rfl ?_
  refine ev_virt (z' := z_Model_box) (q := 31) rfl rfl (by decide) rfl (by simp [Value.category]) rfl (by omega) rfl rfl (mH_o hn) (m_box hn hu (show md_1 σ 5 = nI u from h5)) ?_
  refine ev_go 1 (q := 32) rfl ?_
  refine ev_if_ne (t := 60) (q := 35) rfl rfl rfl (fun _ => ?_) (fun c => absurd c (by decide))
  refine ev_go 2 (q := 62) (st' := .int 1 :: _ :: _) rfl ?_
  refine ev_icmp_ne (t := 90) (q := 65) rfl rfl rfl (fun _ => ?_) (fun c => absurd c (by decide))
  refine ev_go 2 (q := 92) (st' := .int 2 :: _ :: _) rfl ?_
  refine ev_icmp_ne (t := 132) (q := 95) rfl rfl rfl (fun _ => ?_) (fun c => absurd c (by decide))
  refine ev_go 2 (q := 134) (st' := .int 3 :: _ :: _) rfl ?_
  refine ev_icmp_ne (t := 174) (q := 137) rfl rfl rfl (fun _ => ?_) (fun c => absurd c (by decide))
  refine ev_go 2 (q := 177) (st' := .int 9 :: _ :: _) rfl ?_
  refine ev_icmp_ge (t := 188) (q := 180) rfl rfl rfl (fun c => absurd c (by decide)) (fun _ => ?_)
  refine ev_go 2 (q := 182) rfl ?_
  refine ev_virt (z' := z_Model_boxed) (q := 185) rfl rfl (by decide) rfl (by simp [Value.category]) rfl (by omega) rfl rfl (mH_o hn) (m_boxed4 hn (by omega) hR hC q1 q2 q5 hu h32 h33 h34 h35 hT hP) ?_
  refine ev_go 2 (q := 194) (st' := .int 0 :: _) rfl ?_
  exact ev_iret rfl rfl (rfl) (rfl)
theorem m_does5 (hn : 43 ≤ h.1) (hd : 3 < d) (hR : 1 ≤ R ∧ R ≤ 10) (hC : 1 ≤ C ∧ C ≤ 10) (h1 : σ 1 = nI R) (h2 : σ 2 = nI C) (h5 : σ 5 = nI u) (hu : u < 3) {T B P S : Nat} (h32 : (ms_box u (md_1 σ) A).1 32 = nI T) (h33 : (ms_box u (md_1 σ) A).1 33 = nI B) (h34 : (ms_box u (md_1 σ) A).1 34 = nI P) (h35 : (ms_box u (md_1 σ) A).1 35 = nI S) (hT : T ≤ B ∧ B < R) (hP : P ≤ S ∧ S < C) (hA : (-20 ≤ A 15 0 ∧ A 15 0 ≤ 20) ∧ -20 ≤ A 15 1 ∧ A 15 1 ≤ 20) (h0 : (rdy R C (ms_sel A) (A 15) t 5).1 = 0) : am_m d z_Model_does [.ref 18, .int 5] (mH h σ t A) (some (.int 0)) (mH h (ms_box u (md_1 σ) A).1 (rdy R C (ms_sel A) (A 15) t 5).2 (sp_bx (bg5 R C u T B P S ((ms_box u (md_1 σ) A).2 15 0) ((ms_box u (md_1 σ) A).2 15 1)) T B P S (ms_box u (md_1 σ) A).2)) := by
  have q1 : (ms_box u (md_1 σ) A).1 1 = nI R := (mb_far u _ A (by decide)).trans h1
  have q2 : (ms_box u (md_1 σ) A).1 2 = nI C := (mb_far u _ A (by decide)).trans h2
  have q5 : (ms_box u (md_1 σ) A).1 5 = nI u := (mb_far u _ A (by decide)).trans h5
  have q15 : (ms_box u (md_1 σ) A).2 15 = A 15 := mb_farA u _ A (by decide)
  have q16 : (ms_box u (md_1 σ) A).2 1 = A 1 := mb_farA u _ A (by decide)
  refine ev_go 2 (q := 2) rfl ?_
  refine ev_get (q := 5) rfl (mH_o hn) rfl rfl rfl ?_
  refine ev_go 2 (q := 7) (st' := .int (_ + 1) :: _ :: _) rfl ?_
  refine ev_mput (q := 10) hn rfl rfl rfl (by decide) rfl (mls_26 _ _ _) rfl ?_
  refine ev_go 2 (q := 12) rfl ?_
  refine ev_virt (z' := z_Model_ready) (q := 15) rfl rfl (by decide) rfl (by simp [Value.category]) rfl (by omega) rfl rfl (mH_o hn) (m_ready5 (σ := md_1 σ) hn (by omega) hR hC h1 h2) ?_
  refine ev_go 2 (q := 17) rfl ?_
  refine ev_if_le (t := 27) (q := 20) rfl rfl rfl (fun zc1 => ?_) (fun c => absurd (by rw [h0]; decide) c)
  refine ev_go 1 (q := 28) rfl ?_
  refine ev_virt (z' := z_Model_box) (q := 31) rfl rfl (by decide) rfl (by simp [Value.category]) rfl (by omega) rfl rfl (mH_o hn) (m_box hn hu (show md_1 σ 5 = nI u from h5)) ?_
  refine ev_go 1 (q := 32) rfl ?_
  refine ev_if_ne (t := 60) (q := 35) rfl rfl rfl (fun _ => ?_) (fun c => absurd c (by decide))
  refine ev_go 2 (q := 62) (st' := .int 1 :: _ :: _) rfl ?_
  refine ev_icmp_ne (t := 90) (q := 65) rfl rfl rfl (fun _ => ?_) (fun c => absurd c (by decide))
  refine ev_go 2 (q := 92) (st' := .int 2 :: _ :: _) rfl ?_
  refine ev_icmp_ne (t := 132) (q := 95) rfl rfl rfl (fun _ => ?_) (fun c => absurd c (by decide))
  refine ev_go 2 (q := 134) (st' := .int 3 :: _ :: _) rfl ?_
  refine ev_icmp_ne (t := 174) (q := 137) rfl rfl rfl (fun _ => ?_) (fun c => absurd c (by decide))
  refine ev_go 2 (q := 177) (st' := .int 9 :: _ :: _) rfl ?_
  refine ev_icmp_ge (t := 188) (q := 180) rfl rfl rfl (fun c => absurd c (by decide)) (fun _ => ?_)
  refine ev_go 2 (q := 182) rfl ?_
  refine ev_virt (z' := z_Model_boxed) (q := 185) rfl rfl (by decide) rfl (by simp [Value.category]) rfl (by omega) rfl rfl (mH_o hn) (m_boxed5 hn (by omega) hR hC q1 q2 q5 hu h32 h33 h34 h35 hT hP (by rw [q15]; exact hA)) ?_
  refine ev_go 2 (q := 194) (st' := .int 0 :: _) rfl ?_
  exact ev_iret rfl rfl (rfl) (rfl)
theorem m_does6 (hn : 43 ≤ h.1) (hd : 3 < d) (hR : 1 ≤ R ∧ R ≤ 10) (hC : 1 ≤ C ∧ C ≤ 10) (h1 : σ 1 = nI R) (h2 : σ 2 = nI C) (h5 : σ 5 = nI u) (hu : u < 3) {T B P S : Nat} (h32 : (ms_box u (md_1 σ) A).1 32 = nI T) (h33 : (ms_box u (md_1 σ) A).1 33 = nI B) (h34 : (ms_box u (md_1 σ) A).1 34 = nI P) (h35 : (ms_box u (md_1 σ) A).1 35 = nI S) (hT : T ≤ B ∧ B < R) (hP : P ≤ S ∧ S < C) (h0 : (rdy R C (ms_sel A) (A 15) t 6).1 = 0) : am_m d z_Model_does [.ref 18, .int 6] (mH h σ t A) (some (.int 0)) (mH h (ms_box u (md_1 σ) A).1 (rdy R C (ms_sel A) (A 15) t 6).2 (sp_bx (bg6 R C u T B P S ((ms_box u (md_1 σ) A).2 15 0) ((ms_box u (md_1 σ) A).2 15 4)) T B P S (ms_box u (md_1 σ) A).2)) := by
  have q1 : (ms_box u (md_1 σ) A).1 1 = nI R := (mb_far u _ A (by decide)).trans h1
  have q2 : (ms_box u (md_1 σ) A).1 2 = nI C := (mb_far u _ A (by decide)).trans h2
  have q5 : (ms_box u (md_1 σ) A).1 5 = nI u := (mb_far u _ A (by decide)).trans h5
  have q15 : (ms_box u (md_1 σ) A).2 15 = A 15 := mb_farA u _ A (by decide)
  have q16 : (ms_box u (md_1 σ) A).2 1 = A 1 := mb_farA u _ A (by decide)
  refine ev_go 2 (q := 2) rfl ?_
  refine ev_get (q := 5) rfl (mH_o hn) rfl rfl rfl ?_
  refine ev_go 2 (q := 7) (st' := .int (_ + 1) :: _ :: _) rfl ?_
  refine ev_mput (q := 10) hn rfl rfl rfl (by decide) rfl (mls_26 _ _ _) rfl ?_
  refine ev_go 2 (q := 12) rfl ?_
  refine ev_virt (z' := z_Model_ready) (q := 15) rfl rfl (by decide) rfl (by simp [Value.category]) rfl (by omega) rfl rfl (mH_o hn) (m_ready6 (σ := md_1 σ) hn (by omega) hR hC h1 h2) ?_
  refine ev_go 2 (q := 17) rfl ?_
  refine ev_if_le (t := 27) (q := 20) rfl rfl rfl (fun zc1 => ?_) (fun c => absurd (by rw [h0]; decide) c)
  refine ev_go 1 (q := 28) rfl ?_
  refine ev_virt (z' := z_Model_box) (q := 31) rfl rfl (by decide) rfl (by simp [Value.category]) rfl (by omega) rfl rfl (mH_o hn) (m_box hn hu (show md_1 σ 5 = nI u from h5)) ?_
  refine ev_go 1 (q := 32) rfl ?_
  refine ev_if_ne (t := 60) (q := 35) rfl rfl rfl (fun _ => ?_) (fun c => absurd c (by decide))
  refine ev_go 2 (q := 62) (st' := .int 1 :: _ :: _) rfl ?_
  refine ev_icmp_ne (t := 90) (q := 65) rfl rfl rfl (fun _ => ?_) (fun c => absurd c (by decide))
  refine ev_go 2 (q := 92) (st' := .int 2 :: _ :: _) rfl ?_
  refine ev_icmp_ne (t := 132) (q := 95) rfl rfl rfl (fun _ => ?_) (fun c => absurd c (by decide))
  refine ev_go 2 (q := 134) (st' := .int 3 :: _ :: _) rfl ?_
  refine ev_icmp_ne (t := 174) (q := 137) rfl rfl rfl (fun _ => ?_) (fun c => absurd c (by decide))
  refine ev_go 2 (q := 177) (st' := .int 9 :: _ :: _) rfl ?_
  refine ev_icmp_ge (t := 188) (q := 180) rfl rfl rfl (fun c => absurd c (by decide)) (fun _ => ?_)
  refine ev_go 2 (q := 182) rfl ?_
  refine ev_virt (z' := z_Model_boxed) (q := 185) rfl rfl (by decide) rfl (by simp [Value.category]) rfl (by omega) rfl rfl (mH_o hn) (m_boxed6 hn (by omega) hR hC q1 q2 q5 hu h32 h33 h34 h35 hT hP) ?_
  refine ev_go 2 (q := 194) (st' := .int 0 :: _) rfl ?_
  exact ev_iret rfl rfl (rfl) (rfl)
theorem m_does7 (hn : 43 ≤ h.1) (hd : 3 < d) (hR : 1 ≤ R ∧ R ≤ 10) (hC : 1 ≤ C ∧ C ≤ 10) (h1 : σ 1 = nI R) (h2 : σ 2 = nI C) (h5 : σ 5 = nI u) (hu : u < 3) {T B P S : Nat} (h32 : (ms_box u (md_1 σ) A).1 32 = nI T) (h33 : (ms_box u (md_1 σ) A).1 33 = nI B) (h34 : (ms_box u (md_1 σ) A).1 34 = nI P) (h35 : (ms_box u (md_1 σ) A).1 35 = nI S) (hT : T ≤ B ∧ B < R) (hP : P ≤ S ∧ S < C) (h0 : (rdy R C (ms_sel A) (A 15) t 7).1 = 0) : am_m d z_Model_does [.ref 18, .int 7] (mH h σ t A) (some (.int 0)) (mH h (ms_box u (md_1 σ) A).1 (rdy R C (ms_sel A) (A 15) t 7).2 (sp_bx (bg7 R C u ((ms_box u (md_1 σ) A).2 15 0) ((ms_box u (md_1 σ) A).2 15 1)) T B P S (ms_box u (md_1 σ) A).2)) := by
  have q1 : (ms_box u (md_1 σ) A).1 1 = nI R := (mb_far u _ A (by decide)).trans h1
  have q2 : (ms_box u (md_1 σ) A).1 2 = nI C := (mb_far u _ A (by decide)).trans h2
  have q5 : (ms_box u (md_1 σ) A).1 5 = nI u := (mb_far u _ A (by decide)).trans h5
  have q15 : (ms_box u (md_1 σ) A).2 15 = A 15 := mb_farA u _ A (by decide)
  have q16 : (ms_box u (md_1 σ) A).2 1 = A 1 := mb_farA u _ A (by decide)
  refine ev_go 2 (q := 2) rfl ?_
  refine ev_get (q := 5) rfl (mH_o hn) rfl rfl rfl ?_
  refine ev_go 2 (q := 7) (st' := .int (_ + 1) :: _ :: _) rfl ?_
  refine ev_mput (q := 10) hn rfl rfl rfl (by decide) rfl (mls_26 _ _ _) rfl ?_
  refine ev_go 2 (q := 12) rfl ?_
  refine ev_virt (z' := z_Model_ready) (q := 15) rfl rfl (by decide) rfl (by simp [Value.category]) rfl (by omega) rfl rfl (mH_o hn) (m_ready7 (σ := md_1 σ) hn (by omega) hR hC h1 h2) ?_
  refine ev_go 2 (q := 17) rfl ?_
  refine ev_if_le (t := 27) (q := 20) rfl rfl rfl (fun zc1 => ?_) (fun c => absurd (by rw [h0]; decide) c)
  refine ev_go 1 (q := 28) rfl ?_
  refine ev_virt (z' := z_Model_box) (q := 31) rfl rfl (by decide) rfl (by simp [Value.category]) rfl (by omega) rfl rfl (mH_o hn) (m_box hn hu (show md_1 σ 5 = nI u from h5)) ?_
  refine ev_go 1 (q := 32) rfl ?_
  refine ev_if_ne (t := 60) (q := 35) rfl rfl rfl (fun _ => ?_) (fun c => absurd c (by decide))
  refine ev_go 2 (q := 62) (st' := .int 1 :: _ :: _) rfl ?_
  refine ev_icmp_ne (t := 90) (q := 65) rfl rfl rfl (fun _ => ?_) (fun c => absurd c (by decide))
  refine ev_go 2 (q := 92) (st' := .int 2 :: _ :: _) rfl ?_
  refine ev_icmp_ne (t := 132) (q := 95) rfl rfl rfl (fun _ => ?_) (fun c => absurd c (by decide))
  refine ev_go 2 (q := 134) (st' := .int 3 :: _ :: _) rfl ?_
  refine ev_icmp_ne (t := 174) (q := 137) rfl rfl rfl (fun _ => ?_) (fun c => absurd c (by decide))
  refine ev_go 2 (q := 177) (st' := .int 9 :: _ :: _) rfl ?_
  refine ev_icmp_ge (t := 188) (q := 180) rfl rfl rfl (fun c => absurd c (by decide)) (fun _ => ?_)
  refine ev_go 2 (q := 182) rfl ?_
  refine ev_virt (z' := z_Model_boxed) (q := 185) rfl rfl (by decide) rfl (by simp [Value.category]) rfl (by omega) rfl rfl (mH_o hn) (m_boxed7 hn (by omega) hR hC q1 q2 q5 hu h32 h33 h34 h35 hT hP) ?_
  refine ev_go 2 (q := 194) (st' := .int 0 :: _) rfl ?_
  exact ev_iret rfl rfl (rfl) (rfl)
theorem m_does8 (hn : 43 ≤ h.1) (hd : 3 < d) (hR : 1 ≤ R ∧ R ≤ 10) (hC : 1 ≤ C ∧ C ≤ 10) (h1 : σ 1 = nI R) (h2 : σ 2 = nI C) (h5 : σ 5 = nI u) (hu : u < 3) {T B P S : Nat} (h32 : (ms_box u (md_1 σ) A).1 32 = nI T) (h33 : (ms_box u (md_1 σ) A).1 33 = nI B) (h34 : (ms_box u (md_1 σ) A).1 34 = nI P) (h35 : (ms_box u (md_1 σ) A).1 35 = nI S) (hT : T ≤ B ∧ B < R) (hP : P ≤ S ∧ S < C) {aa : Nat} (haa : aa ≤ 9) (h15 : A 15 0 = nI aa) (hA : ∀ j, ∃ y, y < 10 ∧ A 0 j = nI y) (h0 : (rdy R C (ms_sel A) (A 15) t 8).1 = 0) : am_m d z_Model_does [.ref 18, .int 8] (mH h σ t A) (some (.int 0)) (mH h (ms_box u (md_1 σ) A).1 (rdy R C (ms_sel A) (A 15) t 8).2 (sp_bx (bg8 R C u P aa) T B P S (ms_box u (md_1 σ) A).2)) := by
  have q1 : (ms_box u (md_1 σ) A).1 1 = nI R := (mb_far u _ A (by decide)).trans h1
  have q2 : (ms_box u (md_1 σ) A).1 2 = nI C := (mb_far u _ A (by decide)).trans h2
  have q5 : (ms_box u (md_1 σ) A).1 5 = nI u := (mb_far u _ A (by decide)).trans h5
  have q15 : (ms_box u (md_1 σ) A).2 15 = A 15 := mb_farA u _ A (by decide)
  have q16 : (ms_box u (md_1 σ) A).2 1 = A 1 := mb_farA u _ A (by decide)
  refine ev_go 2 (q := 2) rfl ?_
  refine ev_get (q := 5) rfl (mH_o hn) rfl rfl rfl ?_
  refine ev_go 2 (q := 7) (st' := .int (_ + 1) :: _ :: _) rfl ?_
  refine ev_mput (q := 10) hn rfl rfl rfl (by decide) rfl (mls_26 _ _ _) rfl ?_
  refine ev_go 2 (q := 12) rfl ?_
  refine ev_virt (z' := z_Model_ready) (q := 15) rfl rfl (by decide) rfl (by simp [Value.category]) rfl (by omega) rfl rfl (mH_o hn) (m_ready8 (σ := md_1 σ) hn (by omega) hR hC h1 h2) ?_
  refine ev_go 2 (q := 17) rfl ?_
  refine ev_if_le (t := 27) (q := 20) rfl rfl rfl (fun zc1 => ?_) (fun c => absurd (by rw [h0]; decide) c)
  refine ev_go 1 (q := 28) rfl ?_
  refine ev_virt (z' := z_Model_box) (q := 31) rfl rfl (by decide) rfl (by simp [Value.category]) rfl (by omega) rfl rfl (mH_o hn) (m_box hn hu (show md_1 σ 5 = nI u from h5)) ?_
  refine ev_go 1 (q := 32) rfl ?_
  refine ev_if_ne (t := 60) (q := 35) rfl rfl rfl (fun _ => ?_) (fun c => absurd c (by decide))
  refine ev_go 2 (q := 62) (st' := .int 1 :: _ :: _) rfl ?_
  refine ev_icmp_ne (t := 90) (q := 65) rfl rfl rfl (fun _ => ?_) (fun c => absurd c (by decide))
  refine ev_go 2 (q := 92) (st' := .int 2 :: _ :: _) rfl ?_
  refine ev_icmp_ne (t := 132) (q := 95) rfl rfl rfl (fun _ => ?_) (fun c => absurd c (by decide))
  refine ev_go 2 (q := 134) (st' := .int 3 :: _ :: _) rfl ?_
  refine ev_icmp_ne (t := 174) (q := 137) rfl rfl rfl (fun _ => ?_) (fun c => absurd c (by decide))
  refine ev_go 2 (q := 177) (st' := .int 9 :: _ :: _) rfl ?_
  refine ev_icmp_ge (t := 188) (q := 180) rfl rfl rfl (fun c => absurd c (by decide)) (fun _ => ?_)
  refine ev_go 2 (q := 182) rfl ?_
  refine ev_virt (z' := z_Model_boxed) (q := 185) rfl rfl (by decide) rfl (by simp [Value.category]) rfl (by omega) rfl rfl (mH_o hn) (m_boxed8 hn (by omega) hR hC q1 q2 q5 hu h32 h33 h34 h35 hT hP haa (by rw [q15]; exact h15) (by rw [mb_farA u _ A (show 0 ≠ 16 by decide)]; exact hA)) ?_
  refine ev_go 2 (q := 194) (st' := .int 0 :: _) rfl ?_
  exact ev_iret rfl rfl (rfl) (rfl)
theorem m_does9 (hn : 43 ≤ h.1) (hd : 3 < d) (hR : 1 ≤ R ∧ R ≤ 10) (hC : 1 ≤ C ∧ C ≤ 10) (h1 : σ 1 = nI R) (h2 : σ 2 = nI C) (h5 : σ 5 = nI u) (hu : u < 3)  (h0 : (rdy R C (ms_sel A) (A 15) t 9).1 = 0) : am_m d z_Model_does [.ref 18, .int 9] (mH h σ t A) (some (.int 0)) (mH h (ms_box u (md_1 σ) A).1 (rdy R C (ms_sel A) (A 15) t 9).2 (sp_it (lk_9 R C ((ms_box u (md_1 σ) A).2 15 0) ((ms_box u (md_1 σ) A).2 15 1)) 0 100 (ms_box u (md_1 σ) A).2)) := by
  have q1 : (ms_box u (md_1 σ) A).1 1 = nI R := (mb_far u _ A (by decide)).trans h1
  have q2 : (ms_box u (md_1 σ) A).1 2 = nI C := (mb_far u _ A (by decide)).trans h2
  have q5 : (ms_box u (md_1 σ) A).1 5 = nI u := (mb_far u _ A (by decide)).trans h5
  have q15 : (ms_box u (md_1 σ) A).2 15 = A 15 := mb_farA u _ A (by decide)
  have q16 : (ms_box u (md_1 σ) A).2 1 = A 1 := mb_farA u _ A (by decide)
  refine ev_go 2 (q := 2) rfl ?_
  refine ev_get (q := 5) rfl (mH_o hn) rfl rfl rfl ?_
  refine ev_go 2 (q := 7) (st' := .int (_ + 1) :: _ :: _) rfl ?_
  refine ev_mput (q := 10) hn rfl rfl rfl (by decide) rfl (mls_26 _ _ _) rfl ?_
  refine ev_go 2 (q := 12) rfl ?_
  refine ev_virt (z' := z_Model_ready) (q := 15) rfl rfl (by decide) rfl (by simp [Value.category]) rfl (by omega) rfl rfl (mH_o hn) (m_ready9 (σ := md_1 σ) hn (by omega) hR hC h1 h2) ?_
  refine ev_go 2 (q := 17) rfl ?_
  refine ev_if_le (t := 27) (q := 20) rfl rfl rfl (fun zc1 => ?_) (fun c => absurd (by rw [h0]; decide) c)
  refine ev_go 1 (q := 28) rfl ?_
  refine ev_virt (z' := z_Model_box) (q := 31) rfl rfl (by decide) rfl (by simp [Value.category]) rfl (by omega) rfl rfl (mH_o hn) (m_box hn hu (show md_1 σ 5 = nI u from h5)) ?_
  refine ev_go 1 (q := 32) rfl ?_
  refine ev_if_ne (t := 60) (q := 35) rfl rfl rfl (fun _ => ?_) (fun c => absurd c (by decide))
  refine ev_go 2 (q := 62) (st' := .int 1 :: _ :: _) rfl ?_
  refine ev_icmp_ne (t := 90) (q := 65) rfl rfl rfl (fun _ => ?_) (fun c => absurd c (by decide))
  refine ev_go 2 (q := 92) (st' := .int 2 :: _ :: _) rfl ?_
  refine ev_icmp_ne (t := 132) (q := 95) rfl rfl rfl (fun _ => ?_) (fun c => absurd c (by decide))
  refine ev_go 2 (q := 134) (st' := .int 3 :: _ :: _) rfl ?_
  refine ev_icmp_ne (t := 174) (q := 137) rfl rfl rfl (fun _ => ?_) (fun c => absurd c (by decide))
  refine ev_go 2 (q := 177) (st' := .int 9 :: _ :: _) rfl ?_
  refine ev_icmp_ge (t := 188) (q := 180) rfl rfl rfl (fun _ => ?_) (fun c => absurd (by decide) c)
  refine ev_go 2 (q := 190) rfl ?_
  refine ev_virt (z' := z_Model_looks) (q := 193) rfl rfl (by decide) rfl (by simp [Value.category]) rfl (by omega) rfl rfl (mH_o hn) (m_looks9 hn (by omega) hR hC q1 q2) ?_
  refine ev_go 1 (q := 194) (st' := .int 0 :: _) rfl ?_
  exact ev_iret rfl rfl (rfl) (rfl)
theorem m_does10 (hn : 43 ≤ h.1) (hd : 3 < d) (hR : 1 ≤ R ∧ R ≤ 10) (hC : 1 ≤ C ∧ C ≤ 10) (h1 : σ 1 = nI R) (h2 : σ 2 = nI C) (h5 : σ 5 = nI u) (hu : u < 3)  (h0 : (rdy R C (ms_sel A) (A 15) t 10).1 = 0) : am_m d z_Model_does [.ref 18, .int 10] (mH h σ t A) (some (.int 0)) (mH h (ms_box u (md_1 σ) A).1 (rdy R C (ms_sel A) (A 15) t 10).2 (sp_it (lk_10 ((ms_box u (md_1 σ) A).1 6) ((ms_box u (md_1 σ) A).2 15 0)) 0 100 (ms_box u (md_1 σ) A).2)) := by
  have q1 : (ms_box u (md_1 σ) A).1 1 = nI R := (mb_far u _ A (by decide)).trans h1
  have q2 : (ms_box u (md_1 σ) A).1 2 = nI C := (mb_far u _ A (by decide)).trans h2
  have q5 : (ms_box u (md_1 σ) A).1 5 = nI u := (mb_far u _ A (by decide)).trans h5
  have q15 : (ms_box u (md_1 σ) A).2 15 = A 15 := mb_farA u _ A (by decide)
  have q16 : (ms_box u (md_1 σ) A).2 1 = A 1 := mb_farA u _ A (by decide)
  refine ev_go 2 (q := 2) rfl ?_
  refine ev_get (q := 5) rfl (mH_o hn) rfl rfl rfl ?_
  refine ev_go 2 (q := 7) (st' := .int (_ + 1) :: _ :: _) rfl ?_
  refine ev_mput (q := 10) hn rfl rfl rfl (by decide) rfl (mls_26 _ _ _) rfl ?_
  refine ev_go 2 (q := 12) rfl ?_
  refine ev_virt (z' := z_Model_ready) (q := 15) rfl rfl (by decide) rfl (by simp [Value.category]) rfl (by omega) rfl rfl (mH_o hn) (m_ready10 (σ := md_1 σ) hn (by omega) hR hC h1 h2) ?_
  refine ev_go 2 (q := 17) rfl ?_
  refine ev_if_le (t := 27) (q := 20) rfl rfl rfl (fun zc1 => ?_) (fun c => absurd (by rw [h0]; decide) c)
  refine ev_go 1 (q := 28) rfl ?_
  refine ev_virt (z' := z_Model_box) (q := 31) rfl rfl (by decide) rfl (by simp [Value.category]) rfl (by omega) rfl rfl (mH_o hn) (m_box hn hu (show md_1 σ 5 = nI u from h5)) ?_
  refine ev_go 1 (q := 32) rfl ?_
  refine ev_if_ne (t := 60) (q := 35) rfl rfl rfl (fun _ => ?_) (fun c => absurd c (by decide))
  refine ev_go 2 (q := 62) (st' := .int 1 :: _ :: _) rfl ?_
  refine ev_icmp_ne (t := 90) (q := 65) rfl rfl rfl (fun _ => ?_) (fun c => absurd c (by decide))
  refine ev_go 2 (q := 92) (st' := .int 2 :: _ :: _) rfl ?_
  refine ev_icmp_ne (t := 132) (q := 95) rfl rfl rfl (fun _ => ?_) (fun c => absurd c (by decide))
  refine ev_go 2 (q := 134) (st' := .int 3 :: _ :: _) rfl ?_
  refine ev_icmp_ne (t := 174) (q := 137) rfl rfl rfl (fun _ => ?_) (fun c => absurd c (by decide))
  refine ev_go 2 (q := 177) (st' := .int 9 :: _ :: _) rfl ?_
  refine ev_icmp_ge (t := 188) (q := 180) rfl rfl rfl (fun _ => ?_) (fun c => absurd (by decide) c)
  refine ev_go 2 (q := 190) rfl ?_
  refine ev_virt (z' := z_Model_looks) (q := 193) rfl rfl (by decide) rfl (by simp [Value.category]) rfl (by omega) rfl rfl (mH_o hn) (m_looks10 hn (by omega)) ?_
  refine ev_go 1 (q := 194) (st' := .int 0 :: _) rfl ?_
  exact ev_iret rfl rfl (rfl) (rfl)
theorem m_does11 (hn : 43 ≤ h.1) (hd : 3 < d) (hR : 1 ≤ R ∧ R ≤ 10) (hC : 1 ≤ C ∧ C ≤ 10) (h1 : σ 1 = nI R) (h2 : σ 2 = nI C) (h5 : σ 5 = nI u) (hu : u < 3)  (h0 : (rdy R C (ms_sel A) (A 15) t 11).1 = 0) : am_m d z_Model_does [.ref 18, .int 11] (mH h σ t A) (some (.int 0)) (mH h (va_up (ms_box u (md_1 σ) A).1 5 ((ms_box u (md_1 σ) A).2 15 0)) (rdy R C (ms_sel A) (A 15) t 11).2 (ms_box u (md_1 σ) A).2) := by
  have q1 : (ms_box u (md_1 σ) A).1 1 = nI R := (mb_far u _ A (by decide)).trans h1
  have q2 : (ms_box u (md_1 σ) A).1 2 = nI C := (mb_far u _ A (by decide)).trans h2
  have q5 : (ms_box u (md_1 σ) A).1 5 = nI u := (mb_far u _ A (by decide)).trans h5
  have q15 : (ms_box u (md_1 σ) A).2 15 = A 15 := mb_farA u _ A (by decide)
  have q16 : (ms_box u (md_1 σ) A).2 1 = A 1 := mb_farA u _ A (by decide)
  refine ev_go 2 (q := 2) rfl ?_
  refine ev_get (q := 5) rfl (mH_o hn) rfl rfl rfl ?_
  refine ev_go 2 (q := 7) (st' := .int (_ + 1) :: _ :: _) rfl ?_
  refine ev_mput (q := 10) hn rfl rfl rfl (by decide) rfl (mls_26 _ _ _) rfl ?_
  refine ev_go 2 (q := 12) rfl ?_
  refine ev_virt (z' := z_Model_ready) (q := 15) rfl rfl (by decide) rfl (by simp [Value.category]) rfl (by omega) rfl rfl (mH_o hn) (m_ready11 (σ := md_1 σ) hn (by omega) hR hC h1 h2) ?_
  refine ev_go 2 (q := 17) rfl ?_
  refine ev_if_le (t := 27) (q := 20) rfl rfl rfl (fun zc1 => ?_) (fun c => absurd (by rw [h0]; decide) c)
  refine ev_go 1 (q := 28) rfl ?_
  refine ev_virt (z' := z_Model_box) (q := 31) rfl rfl (by decide) rfl (by simp [Value.category]) rfl (by omega) rfl rfl (mH_o hn) (m_box hn hu (show md_1 σ 5 = nI u from h5)) ?_
  refine ev_go 1 (q := 32) rfl ?_
  refine ev_if_ne (t := 60) (q := 35) rfl rfl rfl (fun _ => ?_) (fun c => absurd c (by decide))
  refine ev_go 2 (q := 62) (st' := .int 1 :: _ :: _) rfl ?_
  refine ev_icmp_ne (t := 90) (q := 65) rfl rfl rfl (fun _ => ?_) (fun c => absurd c (by decide))
  refine ev_go 2 (q := 92) (st' := .int 2 :: _ :: _) rfl ?_
  refine ev_icmp_ne (t := 132) (q := 95) rfl rfl rfl (fun _ => ?_) (fun c => absurd c (by decide))
  refine ev_go 2 (q := 134) (st' := .int 3 :: _ :: _) rfl ?_
  refine ev_icmp_ne (t := 174) (q := 137) rfl rfl rfl (fun _ => ?_) (fun c => absurd c (by decide))
  refine ev_go 2 (q := 177) (st' := .int 9 :: _ :: _) rfl ?_
  refine ev_icmp_ge (t := 188) (q := 180) rfl rfl rfl (fun _ => ?_) (fun c => absurd (by decide) c)
  refine ev_go 2 (q := 190) rfl ?_
  refine ev_virt (z' := z_Model_looks) (q := 193) rfl rfl (by decide) rfl (by simp [Value.category]) rfl (by omega) rfl rfl (mH_o hn) (m_looks11 hn) ?_
  refine ev_go 1 (q := 194) (st' := .int 0 :: _) rfl ?_
  exact ev_iret rfl rfl (rfl) (rfl)
theorem m_does12 (hn : 43 ≤ h.1) (hd : 3 < d) (hR : 1 ≤ R ∧ R ≤ 10) (hC : 1 ≤ C ∧ C ≤ 10) (h1 : σ 1 = nI R) (h2 : σ 2 = nI C) (h5 : σ 5 = nI u) (hu : u < 3)  (h0 : (rdy R C (ms_sel A) (A 15) t 12).1 = 0) : am_m d z_Model_does [.ref 18, .int 12] (mH h σ t A) (some (.int 0)) (mH h (va_up (ms_box u (md_1 σ) A).1 6 (if (ms_box u (md_1 σ) A).2 15 1 = 1 then (ms_box u (md_1 σ) A).1 6 ||| (1 <<< ((ms_box u (md_1 σ) A).2 15 0 &&& 31)) else (ms_box u (md_1 σ) A).1 6 &&& ((1 <<< ((ms_box u (md_1 σ) A).2 15 0 &&& 31)) ^^^ (-1)))) (rdy R C (ms_sel A) (A 15) t 12).2 (ms_box u (md_1 σ) A).2) := by
  have q1 : (ms_box u (md_1 σ) A).1 1 = nI R := (mb_far u _ A (by decide)).trans h1
  have q2 : (ms_box u (md_1 σ) A).1 2 = nI C := (mb_far u _ A (by decide)).trans h2
  have q5 : (ms_box u (md_1 σ) A).1 5 = nI u := (mb_far u _ A (by decide)).trans h5
  have q15 : (ms_box u (md_1 σ) A).2 15 = A 15 := mb_farA u _ A (by decide)
  have q16 : (ms_box u (md_1 σ) A).2 1 = A 1 := mb_farA u _ A (by decide)
  refine ev_go 2 (q := 2) rfl ?_
  refine ev_get (q := 5) rfl (mH_o hn) rfl rfl rfl ?_
  refine ev_go 2 (q := 7) (st' := .int (_ + 1) :: _ :: _) rfl ?_
  refine ev_mput (q := 10) hn rfl rfl rfl (by decide) rfl (mls_26 _ _ _) rfl ?_
  refine ev_go 2 (q := 12) rfl ?_
  refine ev_virt (z' := z_Model_ready) (q := 15) rfl rfl (by decide) rfl (by simp [Value.category]) rfl (by omega) rfl rfl (mH_o hn) (m_ready12 (σ := md_1 σ) hn (by omega) hR hC h1 h2) ?_
  refine ev_go 2 (q := 17) rfl ?_
  refine ev_if_le (t := 27) (q := 20) rfl rfl rfl (fun zc1 => ?_) (fun c => absurd (by rw [h0]; decide) c)
  refine ev_go 1 (q := 28) rfl ?_
  refine ev_virt (z' := z_Model_box) (q := 31) rfl rfl (by decide) rfl (by simp [Value.category]) rfl (by omega) rfl rfl (mH_o hn) (m_box hn hu (show md_1 σ 5 = nI u from h5)) ?_
  refine ev_go 1 (q := 32) rfl ?_
  refine ev_if_ne (t := 60) (q := 35) rfl rfl rfl (fun _ => ?_) (fun c => absurd c (by decide))
  refine ev_go 2 (q := 62) (st' := .int 1 :: _ :: _) rfl ?_
  refine ev_icmp_ne (t := 90) (q := 65) rfl rfl rfl (fun _ => ?_) (fun c => absurd c (by decide))
  refine ev_go 2 (q := 92) (st' := .int 2 :: _ :: _) rfl ?_
  refine ev_icmp_ne (t := 132) (q := 95) rfl rfl rfl (fun _ => ?_) (fun c => absurd c (by decide))
  refine ev_go 2 (q := 134) (st' := .int 3 :: _ :: _) rfl ?_
  refine ev_icmp_ne (t := 174) (q := 137) rfl rfl rfl (fun _ => ?_) (fun c => absurd c (by decide))
  refine ev_go 2 (q := 177) (st' := .int 9 :: _ :: _) rfl ?_
  refine ev_icmp_ge (t := 188) (q := 180) rfl rfl rfl (fun _ => ?_) (fun c => absurd (by decide) c)
  refine ev_go 2 (q := 190) rfl ?_
  refine ev_virt (z' := z_Model_looks) (q := 193) rfl rfl (by decide) rfl (by simp [Value.category]) rfl (by omega) rfl rfl (mH_o hn) (m_looks12 hn) ?_
  refine ev_go 1 (q := 194) (st' := .int 0 :: _) rfl ?_
  exact ev_iret rfl rfl (rfl) (rfl)
def mc_s (n k : Nat) (S : Nat × (Nat → Nat → Int32)) : Nat × (Nat → Nat → Int32) := if S.2 6 (5 * n + k) = 0 then (S.1 + 1, va_up S.2 15 (va_up (S.2 15) k (S.2 18 S.1))) else (S.1, va_up S.2 15 (va_up (S.2 15) k (S.2 7 (5 * n + k))))
theorem l_cls (hn : 43 ≤ h.1) {n : Nat} (hb : n < 40) : ∀ (m k : Nat) (S : Nat × (Nat → Nat → Int32)), k + m = 5 → S.1 ≤ k → am_ev d z_Model_calls (62, [some (.ref 18), some (.int (nI n)), some (.int (nI (sp_it (mc_s n) k m S).1)), some (.int (nI 5))], [], mH h σ t (sp_it (mc_s n) k m S).2) res h' → am_ev d z_Model_calls (6, [some (.ref 18), some (.int (nI n)), some (.int (nI S.1)), some (.int (nI k))], [.int 5, .int (nI k)], mH h σ t S.2) res h'
  | 0, k, S, hm, hs, K => by
    refine ev_icmp_ge (t := 62) (q := 9) rfl rfl rfl (fun _ => ?_) (fun c1 => absurd (nI_end (b := 5) hm (by omega)) c1)
    have hc : k = 5 := hm
    subst hc
    exact K
  | m + 1, k, S, hm, hs, K => by
    refine ev_icmp_ge (t := 62) (q := 9) rfl rfl rfl (fun c1 => absurd c1 (nI_ge (b := 5) (by omega) (by omega))) (fun _ => ?_)
    rw [sp_it] at K
    refine ev_go 1 (q := 10) rfl ?_
    refine ev_get (q := 13) rfl (mH_o hn) rfl rfl rfl ?_
    refine ev_go 5 (q := 18) (st' := .int ((5 * _) + _) :: _ :: _) rfl ?_
    refine ev_mza (q := 19) hn rfl (by decide) rfl (by rw [show (5 : Int32) = nI 5 from rfl, pk_mul, nI_add]) (show 5 * n + k < 200 by omega) rfl ?_
    refine ev_if_eq (t := 41) (q := 22) rfl rfl rfl (fun zc1 => ?_) (fun zc1 => ?_)
    · refine ev_go 1 (q := 42) rfl ?_
      refine ev_get (q := 45) rfl (mH_o hn) rfl rfl rfl ?_
      refine ev_go 2 (q := 47) rfl ?_
      refine ev_get (q := 50) rfl (mH_o hn) rfl rfl rfl ?_
      refine ev_go 1 (q := 51) rfl ?_
      refine ev_mia (q := 52) hn rfl (by decide) rfl rfl (show S.1 < 5 by omega) rfl ?_
      refine ev_mias (q := 53) hn rfl (by decide) rfl rfl (show k < 5 by omega) rfl ?_
      refine ev_go 5 (q := 6) (st' := .int 5 :: _ :: _) rfl ?_
      rw [show mc_s n k S = (S.1 + 1, va_up S.2 15 (va_up (S.2 15) k (S.2 18 S.1))) from if_pos zc1] at K
      rw [nI_s, nI_s]
      exact l_cls hn hb m (k + 1) (S.1 + 1, _) (by omega) (Nat.add_le_add_right hs 1) K
    · refine ev_go 1 (q := 23) rfl ?_
      refine ev_get (q := 26) rfl (mH_o hn) rfl rfl rfl ?_
      refine ev_go 2 (q := 28) rfl ?_
      refine ev_get (q := 31) rfl (mH_o hn) rfl rfl rfl ?_
      refine ev_go 5 (q := 36) (st' := .int ((5 * _) + _) :: _ :: _ :: _ :: _) rfl ?_
      refine ev_mia (q := 37) hn rfl (by decide) rfl (by rw [show (5 : Int32) = nI 5 from rfl, pk_mul, nI_add]) (show 5 * n + k < 200 by omega) rfl ?_
      refine ev_mias (q := 38) hn rfl (by decide) rfl rfl (show k < 5 by omega) rfl ?_
      refine ev_go 5 (q := 6) (st' := .int 5 :: _ :: _) rfl ?_
      rw [show mc_s n k S = (S.1, va_up S.2 15 (va_up (S.2 15) k (S.2 7 (5 * n + k)))) from if_neg zc1] at K
      rw [nI_s]
      exact l_cls hn hb m (k + 1) (S.1, va_up S.2 15 (va_up (S.2 15) k (S.2 7 (5 * n + k)))) (by omega) (Nat.le_succ_of_le hs) K
def mc_v (n : Nat) (A : Nat → Nat → Int32) : Nat → Nat → Int32 := (sp_it (mc_s n) 0 5 (0, A)).2
theorem mc_far (n : Nat) {j : Nat} (hj : j ≠ 15) : ∀ (m k : Nat) (S : Nat × (Nat → Nat → Int32)), (sp_it (mc_s n) k m S).2 j = S.2 j
  | 0, _, _ => rfl
  | m + 1, k, S => by
    rw [sp_it, mc_far n hj m (k + 1)]
    unfold mc_s
    split <;> exact va_up_ne _ _ hj
theorem m_calls (hn : 43 ≤ h.1) (hd : 0 < d) {n : Nat} (hb : n < 40) {x : Int32} {r : Option Value} {H : am_H} {v : Int32} (hk : A 5 n = x) (hr : am_m (d - 1) z_Model_does [.ref 18, .int x] (mH h σ t (mc_v n A)) (some (.int v)) H) : am_m d z_Model_calls [.ref 18, .int (nI n)] (mH h σ t A) (some (.int v)) H := by
  refine ev_go 6 (q := 6) (st' := .int 5 :: _ :: _) rfl ?_
  refine l_cls hn hb 5 0 (0, A) (by omega) (Nat.le_refl _) ?_
  refine ev_go 2 (q := 64) rfl ?_
  refine ev_get (q := 67) rfl (mH_o hn) rfl rfl rfl ?_
  refine ev_go 1 (q := 68) rfl ?_
  refine ev_mia (q := 69) hn rfl (by decide) rfl rfl (show n < 40 by omega) rfl ?_
  rw [show (sp_it (mc_s n) 0 5 (0, A)).2 5 n = x by rw [mc_far n (by decide)]; exact hk]
  refine ev_virt (z' := z_Model_does) (q := 72) rfl rfl (by decide) rfl (by simp [Value.category]) rfl (by omega) rfl rfl (mH_o hn) hr ?_
  exact ev_iret rfl rfl (rfl) (rfl)
theorem m_endsF (hn : 43 ≤ h.1) (hd : 0 < d) {x : Int32} (h0 : 0 < x) {n : Nat} (h11 : σ 11 = nI n) (hb : n < 60) : am_m d z_Model_ends [.ref 18, .int x] (mH h σ t A) (some (.int (-5))) (mH h (va_up (va_up (va_up σ 24 x) 5 (ms_bec n A 2 (402 * n + 400))) 6 (ms_bec n A 2 (402 * n + 401))) t (ms_bec n A)) := by
  refine ev_go 2 (q := 2) rfl ?_
  refine ev_mput (q := 5) hn rfl rfl rfl (by decide) rfl (mls_24 _ _ _) rfl ?_
  refine ev_go 1 (q := 6) rfl ?_
  refine ev_if_le (t := 20) (q := 9) rfl rfl rfl (fun c => absurd c (Int32.not_le.mpr h0)) (fun zc1 => ?_)
  refine ev_go 2 (q := 11) rfl ?_
  refine ev_get (q := 14) rfl (mH_o hn) rfl rfl rfl ?_
  refine ev_virt (z' := z_Model_becomes) (q := 17) rfl rfl (by decide) rfl (by simp [Value.category]) rfl (by omega) rfl rfl (mH_o hn) (by rw [show va_up σ 24 x 11 = nI n from h11]; exact m_becomes hn hb) ?_
  refine ev_go 1 (q := 19) (st' := .int (-5) :: _) rfl ?_
  exact ev_iret rfl rfl (rfl) (rfl)
def me_A (n o : Nat) (σ : Nat → Int32) (A : Nat → Nat → Int32) : Nat → Nat → Int32 := ms_keep n (σ 5) (σ 6) (va_up (va_up A 3 (va_up (A 3) n (nI o))) 4 (va_up (A 4) n 1))
theorem m_ends0 (hn : 43 ≤ h.1) (hd : 0 < d) {n o : Nat} (h11 : σ 11 = nI o) (h10 : σ 10 = nI n) (hb : n < 60) (ho : o < 60) : am_m d z_Model_ends [.ref 18, .int 0] (mH h σ t A) (some (.int (nI n))) (mH h (va_up (va_up (va_up (va_up σ 24 0) 10 (nI (n + 1))) 11 (nI n)) 25 (md_n (me_A n o σ A) n o)) t (me_A n o σ A)) := by
  refine ev_go 2 (q := 2) rfl ?_
  refine ev_mput (q := 5) hn rfl rfl rfl (by decide) rfl (mls_24 _ _ _) rfl ?_
  refine ev_go 1 (q := 6) rfl ?_
  refine ev_if_le (t := 20) (q := 9) rfl rfl rfl (fun _ => ?_) (fun c => absurd (by decide) c)
  refine ev_go 1 (q := 21) rfl ?_
  refine ev_get (q := 24) rfl (mH_o hn) rfl rfl rfl ?_
  refine ev_go 3 (q := 27) rfl ?_
  refine ev_virt (z' := z_Model_adds) (q := 30) rfl rfl (by decide) rfl (by simp [Value.category]) rfl (by omega) rfl rfl (mH_o hn) (by rw [show va_up σ 24 0 11 = nI o from h11]; exact m_adds hn (show va_up σ 24 0 10 = nI n from h10) hb) ?_
  refine ev_go 3 (q := 33) rfl ?_
  refine ev_virt (z' := z_Model_keeps) (q := 36) rfl rfl (by decide) rfl (by simp [Value.category]) rfl (by omega) rfl rfl (mH_o hn) (m_keeps hn hb) ?_
  refine ev_go 4 (q := 40) rfl ?_
  refine ev_virt (z' := z_Model_differ) (q := 43) rfl rfl (by decide) rfl (by simp [Value.category]) rfl (by omega) rfl rfl (mH_o hn) (by rw [show va_up σ 24 0 11 = nI o from h11]; exact m_differ hn hb ho) ?_
  refine ev_mput (q := 46) hn rfl rfl rfl (by decide) rfl (mls_25 _ _ _) rfl ?_
  refine ev_go 1 (q := 47) rfl ?_
  exact ev_iret rfl rfl (rfl) (rfl)
def mo_c (R C : Nat) (σ : Nat → Int32) (A : Nat → Nat → Int32) (m : Nat) : Prop := cl_kn R C (A 9 m) (A 10 m) ∧ sp_seen (σ 6) (fun l => A 0 (100 * l + (10 * (A 9 m).toNatClampNeg + (A 10 m).toNatClampNeg))) = A 11 m
noncomputable def mo_r (R C : Nat) (σ : Nat → Int32) (A : Nat → Nat → Int32) (m : Nat) : Int32 := if A 8 m = 0 then 1 else if A 8 m = 1 then A 9 m else if A 8 m = 2 then cb (mo_c R C σ A m) else 3
noncomputable def mo_A (R C : Nat) (σ : Nat → Int32) (A : Nat → Nat → Int32) (m dp : Nat) : Nat → Nat → Int32 := va_up (va_up (va_up (va_up (va_up A 19 (va_up (A 19) dp (nI m))) 20 (va_up (A 20) dp 0)) 21 (va_up (A 21) dp (mo_r R C σ A m))) 22 (va_up (A 22) dp 0)) 23 (va_up (A 23) dp (σ 5))
theorem t_opn2 (hn : 43 ≤ h.1) {m dp : Nat} {x : Int32} {L : List (Option Value)} {y : Option Value} (e : L = [some (.ref 18), some (.int (nI m)), some (.int (A 8 m)), y]) (h43 : σ 43 = nI dp) (hdp : dp < 20) (hx : x = mo_r R C σ A m) : am_ev d z_Model_opens (134, L, [.int x, .int (σ 43), .ref 40], mH h σ t (va_up (va_up A 19 (va_up (A 19) dp (nI m))) 20 (va_up (A 20) dp 0))) none (mH h (va_up σ 43 (nI (dp + 1))) t (mo_A R C σ A m dp)) := by
  subst e
  refine ev_mias (q := 135) hn rfl (by decide) rfl (h43) (show dp < 20 by omega) rfl ?_
  refine ev_go 1 (q := 136) rfl ?_
  refine ev_get (q := 139) rfl (mH_o hn) rfl rfl rfl ?_
  refine ev_go 1 (q := 140) rfl ?_
  refine ev_get (q := 143) rfl (mH_o hn) rfl rfl rfl ?_
  refine ev_go 1 (q := 144) (st' := .int 0 :: _ :: _ :: _) rfl ?_
  refine ev_mias (q := 145) hn rfl (by decide) rfl (h43) (show dp < 20 by omega) rfl ?_
  refine ev_go 1 (q := 146) rfl ?_
  refine ev_get (q := 149) rfl (mH_o hn) rfl rfl rfl ?_
  refine ev_go 1 (q := 150) rfl ?_
  refine ev_get (q := 153) rfl (mH_o hn) rfl rfl rfl ?_
  refine ev_go 1 (q := 154) rfl ?_
  refine ev_get (q := 157) rfl (mH_o hn) rfl rfl rfl ?_
  refine ev_mias (q := 158) hn rfl (by decide) rfl (h43) (show dp < 20 by omega) rfl ?_
  refine ev_go 2 (q := 160) rfl ?_
  refine ev_get (q := 163) rfl (mH_o hn) rfl rfl rfl ?_
  refine ev_go 2 (q := 165) (st' := .int (_ + 1) :: _ :: _) rfl ?_
  rw [h43]
  refine ev_mput (q := 168) hn rfl rfl rfl (by decide) rfl (mls_43 _ _ _) rfl ?_
  exact ev_vret rfl rfl (by rw [show nI dp + 1 = nI (dp + 1) from nI_1 dp, hx]; rfl)
theorem t_opn (hn : 43 ≤ h.1) {m dp : Nat} {y : Int32} (hm : m < 20) (h43 : σ 43 = nI dp) (hdp : dp < 20) (hy : A 8 m = 2 → y = cb (mo_c R C σ A m)) : am_ev d z_Model_opens (66, [some (.ref 18), some (.int (nI m)), some (.int (A 8 m)), some (.int y)], [], mH h σ t A) none (mH h (va_up σ 43 (nI (dp + 1))) t (mo_A R C σ A m dp)) := by
  refine ev_go 1 (q := 67) rfl ?_
  refine ev_get (q := 70) rfl (mH_o hn) rfl rfl rfl ?_
  refine ev_go 1 (q := 71) rfl ?_
  refine ev_get (q := 74) rfl (mH_o hn) rfl rfl rfl ?_
  refine ev_go 1 (q := 75) rfl ?_
  refine ev_mias (q := 76) hn rfl (by decide) rfl (h43) (show dp < 20 by omega) rfl ?_
  refine ev_go 1 (q := 77) rfl ?_
  refine ev_get (q := 80) rfl (mH_o hn) rfl rfl rfl ?_
  refine ev_go 1 (q := 81) rfl ?_
  refine ev_get (q := 84) rfl (mH_o hn) rfl rfl rfl ?_
  refine ev_go 1 (q := 85) (st' := .int 0 :: _ :: _ :: _) rfl ?_
  refine ev_mias (q := 86) hn rfl (by decide) rfl (h43) (show dp < 20 by omega) rfl ?_
  refine ev_go 1 (q := 87) rfl ?_
  refine ev_get (q := 90) rfl (mH_o hn) rfl rfl rfl ?_
  refine ev_go 1 (q := 91) rfl ?_
  refine ev_get (q := 94) rfl (mH_o hn) rfl rfl rfl ?_
  refine ev_go 1 (q := 95) rfl ?_
  refine ev_if_ne (t := 102) (q := 98) rfl rfl rfl (fun zc1 => ?_) (fun zc1 => ?_)
  · refine ev_go 2 (q := 104) (st' := .int 1 :: _ :: _ :: _ :: _) rfl ?_
    refine ev_icmp_ne (t := 116) (q := 107) rfl rfl rfl (fun zc2 => ?_) (fun zc2 => ?_)
    · refine ev_go 2 (q := 118) (st' := .int 2 :: _ :: _ :: _ :: _) rfl ?_
      refine ev_icmp_ne (t := 133) (q := 121) rfl rfl rfl (fun zc3 => ?_) (fun zc3 => ?_)
      · refine ev_go 1 (q := 134) (st' := .int 3 :: _ :: _ :: _) rfl ?_
        exact t_opn2 hn rfl h43 hdp (by unfold mo_r; rw [if_neg zc1, if_neg zc2, if_neg zc3])
      · refine ev_go 1 (q := 122) rfl ?_
        refine ev_if_eq (t := 129) (q := 125) rfl rfl rfl (fun zc4 => ?_) (fun zc4 => ?_)
        · refine ev_go 2 (q := 134) (st' := .int 0 :: _ :: _ :: _) rfl ?_
          exact t_opn2 hn rfl h43 hdp (by unfold mo_r; rw [if_neg zc1, if_neg zc2, if_pos zc3, ← hy zc3, zc4])
        · refine ev_go 2 (q := 134) (st' := .int 1 :: _ :: _ :: _) rfl ?_
          exact t_opn2 hn rfl h43 hdp (by unfold mo_r; rw [if_neg zc1, if_neg zc2, if_pos zc3]; rcases cb_01 (p := mo_c R C σ A m) with q | q; exact absurd ((hy zc3).trans q) zc4; exact q.symm)
    · refine ev_go 1 (q := 108) rfl ?_
      refine ev_get (q := 111) rfl (mH_o hn) rfl rfl rfl ?_
      refine ev_go 1 (q := 112) rfl ?_
      refine ev_mia (q := 113) hn rfl (by decide) rfl rfl (show m < 20 by omega) rfl ?_
      refine ev_go 1 (q := 134) rfl ?_
      exact t_opn2 hn rfl h43 hdp (by unfold mo_r; rw [if_neg zc1, if_pos zc2]; rfl)
  · refine ev_go 2 (q := 134) (st' := .int 1 :: _ :: _ :: _) rfl ?_
    exact t_opn2 hn rfl h43 hdp (by unfold mo_r; rw [if_pos zc1])
theorem m_opens (hn : 43 ≤ h.1) (hd : 1 < d) (hR : 1 ≤ R ∧ R ≤ 10) (hC : 1 ≤ C ∧ C ≤ 10) (h1 : σ 1 = nI R) (h2 : σ 2 = nI C) {m dp : Nat} (hm : m < 20) (h43 : σ 43 = nI dp) (hdp : dp < 20) : am_m d z_Model_opens [.ref 18, .int (nI m)] (mH h σ t A) none (mH h (va_up σ 43 (nI (dp + 1))) t (mo_A R C σ A m dp)) := by
  refine ev_go 1 (q := 1) rfl ?_
  refine ev_get (q := 4) rfl (mH_o hn) rfl rfl rfl ?_
  refine ev_go 1 (q := 5) rfl ?_
  refine ev_mia (q := 6) hn rfl (by decide) rfl rfl (show m < 20 by omega) rfl ?_
  refine ev_go 3 (q := 9) (st' := .int 2 :: _ :: _) rfl ?_
  refine ev_icmp_ne (t := 64) (q := 12) rfl rfl rfl (fun zc1 => ?_) (fun zc1 => ?_)
  · refine ev_go 2 (q := 66) rfl ?_
    exact t_opn hn hm h43 hdp (fun q => absurd q zc1)
  · refine ev_go 2 (q := 14) rfl ?_
    refine ev_get (q := 17) rfl (mH_o hn) rfl rfl rfl ?_
    refine ev_go 1 (q := 18) rfl ?_
    refine ev_mia (q := 19) hn rfl (by decide) rfl rfl (show m < 20 by omega) rfl ?_
    refine ev_go 1 (q := 20) rfl ?_
    refine ev_get (q := 23) rfl (mH_o hn) rfl rfl rfl ?_
    refine ev_go 1 (q := 24) rfl ?_
    refine ev_mia (q := 25) hn rfl (by decide) rfl rfl (show m < 20 by omega) rfl ?_
    refine ev_virt (z' := z_Model_isKnot) (q := 28) rfl rfl (by decide) rfl (by simp [Value.category]) rfl (by omega) rfl rfl (mH_o hn) (m_isKnot hn (by omega) hR hC h1 h2 _ _) ?_
    refine ev_if_eq (t := 64) (q := 31) rfl rfl rfl (fun zc2 => ?_) (fun zc2 => ?_)
    · refine ev_go 2 (q := 66) rfl ?_
      exact t_opn hn hm h43 hdp (fun _ => (cb_z (fun q => am_b0.mp zc2 q.1)).symm)
    · refine ev_go 3 (q := 35) (st' := _ :: .int 10 :: _ :: _) rfl ?_
      refine ev_get (q := 38) rfl (mH_o hn) rfl rfl rfl ?_
      refine ev_go 1 (q := 39) rfl ?_
      refine ev_mia (q := 40) hn rfl (by decide) rfl rfl (show m < 20 by omega) rfl ?_
      refine ev_go 2 (q := 42) rfl ?_
      refine ev_get (q := 45) rfl (mH_o hn) rfl rfl rfl ?_
      refine ev_go 1 (q := 46) rfl ?_
      refine ev_mia (q := 47) hn rfl (by decide) rfl rfl (show m < 20 by omega) rfl ?_
      refine ev_go 1 (q := 48) rfl ?_
      obtain ⟨r9, c9, hr9, hc9, er, ec⟩ := kn_of hR.2 hC.2 (am_bn.mp zc2)
      have e9 : (10 : Int32) * A 9 m + A 10 m = nI (10 * (A 9 m).toNatClampNeg + (A 10 m).toNatClampNeg) := by
        rw [er, ec, nI_clamp (by omega), nI_clamp (by omega)]; exact mx_k _ _
      rw [show 10 * A 9 m + A 10 m = nI (10 * (A 9 m).toNatClampNeg + (A 10 m).toNatClampNeg) from e9]
      refine ev_virt (z' := z_Model_seen) (q := 51) rfl rfl (by decide) rfl (by simp [Value.category]) rfl (by omega) rfl rfl (mH_o hn) (m_seen hn (by rw [er, ec, nI_clamp (by omega), nI_clamp (by omega)]; omega)) ?_
      refine ev_go 1 (q := 52) rfl ?_
      refine ev_get (q := 55) rfl (mH_o hn) rfl rfl rfl ?_
      refine ev_go 1 (q := 56) rfl ?_
      refine ev_mia (q := 57) hn rfl (by decide) rfl rfl (show m < 20 by omega) rfl ?_
      refine ev_icmp_ne (t := 64) (q := 60) rfl rfl rfl (fun zc3 => ?_) (fun zc3 => ?_)
      · refine ev_go 2 (q := 66) rfl ?_
        exact t_opn hn hm h43 hdp (fun _ => (cb_z (fun q => zc3 q.2)).symm)
      · refine ev_go 3 (q := 66) rfl ?_
        exact t_opn hn hm h43 hdp (fun _ => (cb_1 ⟨am_bn.mp zc2, zc3⟩).symm)
end M8
