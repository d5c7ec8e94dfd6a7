/-! the reference: looks, ready -/
noncomputable def cb (p : Prop) : Int32 := @am_b p (Classical.propDecidable p)
theorem cb_1 {p : Prop} (h : p) : cb p = 1 := @am_b1 p (Classical.propDecidable p) h
theorem cb_z {p : Prop} (h : ¬ p) : cb p = 0 := @am_bz p (Classical.propDecidable p) h
theorem cb_0 {p : Prop} : cb p = 0 ↔ ¬ p := @am_b0 p (Classical.propDecidable p)
theorem cb_n {p : Prop} : ¬ cb p = 0 ↔ p := @am_bn p (Classical.propDecidable p)
theorem cb_01 {p : Prop} : cb p = 0 ∨ cb p = 1 := @am_b01 p (Classical.propDecidable p)
theorem cb_if {p q : Prop} (h : p ↔ q) : cb p = cb q := by rw [propext h]
theorem cb_am {p q : Prop} [Decidable p] (h : p ↔ q) : am_b p = cb q := by
  by_cases hq : q
  · rw [cb_1 hq, am_b1 (h.mpr hq)]
  · rw [cb_z hq, am_bz (fun x => hq (h.mp x))]
theorem vu_id {α : Type} (f : Nat → α) (k : Nat) : va_up f k (f k) = f := by
  funext j
  by_cases q : j = k
  · subst q; rw [va_up_self]
  · rw [va_up_ne _ _ q]
theorem vu_id' {α : Type} {f : Nat → α} {k : Nat} {x : α} (h : f k = x) : va_up f k x = f := by rw [← h, vu_id]
section M7
variable {d : Nat} {h h' : am_H} {σ : Nat → Int32} {t : Int64} {A : Nat → Nat → Int32} {res : Option Value} {R C u : Nat}
def lk_w (way : Int32) (o i : Prop) : Prop := if way = 0 then i else if way = 1 then o ∨ i else if way = 2 then o ∧ ¬ i else o ∧ i
def lk_i (a b : Int32) (v : Nat → Int32) (k : Nat) : Prop := (a ≤ nI (k / 10) ∧ nI (k / 10) ≤ a + v 2 - 1) ∧ b ≤ nI (k % 10) ∧ nI (k % 10) ≤ b + v 3 - 1
noncomputable def lk_9 (R C : Nat) (a b : Int32) (k : Nat) (A : Nat → Nat → Int32) : Nat → Nat → Int32 := if k / 10 < R ∧ k % 10 < C then va_up A 1 (va_up (A 1) k (cb (lk_w (A 15 4) (¬ A 1 k = 0) (lk_i a b (A 15) k)))) else A
def lk_10 (s a : Int32) (k : Nat) (A : Nat → Nat → Int32) : Nat → Nat → Int32 := va_up A 1 (va_up (A 1) k (am_b (¬ A 1 k = 0 ∧ sp_seen s (fun l => A 0 (100 * l + k)) = a)))
theorem t_lk9 (hn : 43 ≤ h.1) {a b y : Int32} {k : Nat} {p : Prop} (hk : k < 100) (hy : (y = 1 ∧ p) ∨ (y = 0 ∧ ¬ p)) (K : am_ev d z_Model_looks (248, [some (.ref 18), some (.int 9), some (.int a), some (.int b), some (.int (nI k)), some (.int (nI (k / 10))), some (.int (nI (k % 10))), some (.int y)], [], mH h σ t (va_up A 1 (va_up (A 1) k (cb (lk_w (A 15 4) (¬ A 1 k = 0) p))))) res h') : am_ev d z_Model_looks (100, [some (.ref 18), some (.int 9), some (.int a), some (.int b), some (.int (nI k)), some (.int (nI (k / 10))), some (.int (nI (k % 10))), some (.int y)], [], mH h σ t A) res h' := by
  have y01 : (y &&& 1) = cb p := by
    rcases hy with ⟨rfl, q⟩ | ⟨rfl, q⟩
    · rw [cb_1 q]; rfl
    · rw [cb_z q]; rfl
  have y0 : y = 0 ↔ ¬ p := by
    rcases hy with ⟨rfl, q⟩ | ⟨rfl, q⟩
    · simp [q]
    · simp [q]
  refine ev_go 1 (q := 101) rfl ?_
  refine ev_get (q := 104) rfl (mH_o hn) rfl rfl rfl ?_
  refine ev_go 2 (q := 107) rfl ?_
  refine ev_get (q := 110) rfl (mH_o hn) rfl rfl rfl ?_
  refine ev_go 1 (q := 111) (st' := .int 4 :: _ :: _ :: _ :: _) rfl ?_
  refine ev_mia (q := 112) hn rfl (by decide) rfl rfl (by decide) rfl ?_
  refine ev_if_ne (t := 120) (q := 115) rfl rfl rfl (fun zc1 => ?_) (fun zc1 => ?_)
  · refine ev_go 1 (q := 121) rfl ?_
    refine ev_get (q := 124) rfl (mH_o hn) rfl rfl rfl ?_
    refine ev_go 1 (q := 125) (st' := .int 4 :: _ :: _ :: _ :: _) rfl ?_
    refine ev_mia (q := 126) hn rfl (by decide) rfl rfl (by decide) rfl ?_
    refine ev_go 1 (q := 127) (st' := .int 1 :: _ :: _ :: _ :: _) rfl ?_
    refine ev_icmp_ne (t := 153) (q := 130) rfl rfl rfl (fun zc2 => ?_) (fun zc2 => ?_)
    · refine ev_go 1 (q := 154) rfl ?_
      refine ev_get (q := 157) rfl (mH_o hn) rfl rfl rfl ?_
      refine ev_go 1 (q := 158) (st' := .int 4 :: _ :: _ :: _ :: _) rfl ?_
      refine ev_mia (q := 159) hn rfl (by decide) rfl rfl (by decide) rfl ?_
      refine ev_go 1 (q := 160) (st' := .int 2 :: _ :: _ :: _ :: _) rfl ?_
      refine ev_icmp_ne (t := 186) (q := 163) rfl rfl rfl (fun zc3 => ?_) (fun zc3 => ?_)
      · refine ev_go 1 (q := 187) rfl ?_
        refine ev_get (q := 190) rfl (mH_o hn) rfl rfl rfl ?_
        refine ev_go 1 (q := 192) rfl ?_
        refine ev_mza (q := 193) hn rfl (by decide) rfl rfl (show k < 100 by omega) rfl ?_
        refine ev_if_eq (t := 205) (q := 196) rfl rfl rfl (fun zc4 => ?_) (fun zc4 => ?_)
        · refine ev_go 1 (q := 206) (st' := .int 0 :: _ :: _ :: _) rfl ?_
          refine ev_mzas (q := 207) hn rfl (by decide) rfl rfl (show k < 100 by omega) rfl ?_
          refine ev_go 1 (q := 248) rfl ?_
          refine (congrArg (fun x => am_ev d z_Model_looks (248, [some (.ref 18), some (.int 9), some (.int a), some (.int b), some (.int (nI k)), some (.int (nI (k / 10))), some (.int (nI (k % 10))), some (.int y)], [], mH h σ t (va_up A 1 (va_up (A 1) k x))) res h') ?_).mpr K
          first | (rw [y01]; refine cb_if ?_; unfold lk_w; simp_all) | (refine Eq.trans (b := 1) (by decide) (cb_1 ?_).symm; unfold lk_w; simp_all) | (refine Eq.trans (b := 0) (by decide) (cb_z ?_).symm; unfold lk_w; simp_all)
        · refine ev_go 1 (q := 198) rfl ?_
          refine ev_if_eq (t := 205) (q := 201) rfl rfl rfl (fun zc5 => ?_) (fun zc5 => ?_)
          · refine ev_go 1 (q := 206) (st' := .int 0 :: _ :: _ :: _) rfl ?_
            refine ev_mzas (q := 207) hn rfl (by decide) rfl rfl (show k < 100 by omega) rfl ?_
            refine ev_go 1 (q := 248) rfl ?_
            refine (congrArg (fun x => am_ev d z_Model_looks (248, [some (.ref 18), some (.int 9), some (.int a), some (.int b), some (.int (nI k)), some (.int (nI (k / 10))), some (.int (nI (k % 10))), some (.int y)], [], mH h σ t (va_up A 1 (va_up (A 1) k x))) res h') ?_).mpr K
            first | (rw [y01]; refine cb_if ?_; unfold lk_w; simp_all) | (refine Eq.trans (b := 1) (by decide) (cb_1 ?_).symm; unfold lk_w; simp_all) | (refine Eq.trans (b := 0) (by decide) (cb_z ?_).symm; unfold lk_w; simp_all)
          · refine ev_go 2 (q := 206) (st' := .int 1 :: _ :: _ :: _) rfl ?_
            refine ev_mzas (q := 207) hn rfl (by decide) rfl rfl (show k < 100 by omega) rfl ?_
            refine ev_go 1 (q := 248) rfl ?_
            refine (congrArg (fun x => am_ev d z_Model_looks (248, [some (.ref 18), some (.int 9), some (.int a), some (.int b), some (.int (nI k)), some (.int (nI (k / 10))), some (.int (nI (k % 10))), some (.int y)], [], mH h σ t (va_up A 1 (va_up (A 1) k x))) res h') ?_).mpr K
            first | (rw [y01]; refine cb_if ?_; unfold lk_w; simp_all) | (refine Eq.trans (b := 1) (by decide) (cb_1 ?_).symm; unfold lk_w; simp_all) | (refine Eq.trans (b := 0) (by decide) (cb_z ?_).symm; unfold lk_w; simp_all)
      · refine ev_go 1 (q := 164) rfl ?_
        refine ev_get (q := 167) rfl (mH_o hn) rfl rfl rfl ?_
        refine ev_go 1 (q := 169) rfl ?_
        refine ev_mza (q := 170) hn rfl (by decide) rfl rfl (show k < 100 by omega) rfl ?_
        refine ev_if_eq (t := 182) (q := 173) rfl rfl rfl (fun zc6 => ?_) (fun zc6 => ?_)
        · refine ev_go 2 (q := 206) (st' := .int 0 :: _ :: _ :: _) rfl ?_
          refine ev_mzas (q := 207) hn rfl (by decide) rfl rfl (show k < 100 by omega) rfl ?_
          refine ev_go 1 (q := 248) rfl ?_
          refine (congrArg (fun x => am_ev d z_Model_looks (248, [some (.ref 18), some (.int 9), some (.int a), some (.int b), some (.int (nI k)), some (.int (nI (k / 10))), some (.int (nI (k % 10))), some (.int y)], [], mH h σ t (va_up A 1 (va_up (A 1) k x))) res h') ?_).mpr K
          first | (rw [y01]; refine cb_if ?_; unfold lk_w; simp_all) | (refine Eq.trans (b := 1) (by decide) (cb_1 ?_).symm; unfold lk_w; simp_all) | (refine Eq.trans (b := 0) (by decide) (cb_z ?_).symm; unfold lk_w; simp_all)
        · refine ev_go 1 (q := 175) rfl ?_
          refine ev_if_ne (t := 182) (q := 178) rfl rfl rfl (fun zc7 => ?_) (fun zc7 => ?_)
          · refine ev_go 2 (q := 206) (st' := .int 0 :: _ :: _ :: _) rfl ?_
            refine ev_mzas (q := 207) hn rfl (by decide) rfl rfl (show k < 100 by omega) rfl ?_
            refine ev_go 1 (q := 248) rfl ?_
            refine (congrArg (fun x => am_ev d z_Model_looks (248, [some (.ref 18), some (.int 9), some (.int a), some (.int b), some (.int (nI k)), some (.int (nI (k / 10))), some (.int (nI (k % 10))), some (.int y)], [], mH h σ t (va_up A 1 (va_up (A 1) k x))) res h') ?_).mpr K
            first | (rw [y01]; refine cb_if ?_; unfold lk_w; simp_all) | (refine Eq.trans (b := 1) (by decide) (cb_1 ?_).symm; unfold lk_w; simp_all) | (refine Eq.trans (b := 0) (by decide) (cb_z ?_).symm; unfold lk_w; simp_all)
          · refine ev_go 2 (q := 206) (st' := .int 1 :: _ :: _ :: _) rfl ?_
            refine ev_mzas (q := 207) hn rfl (by decide) rfl rfl (show k < 100 by omega) rfl ?_
            refine ev_go 1 (q := 248) rfl ?_
            refine (congrArg (fun x => am_ev d z_Model_looks (248, [some (.ref 18), some (.int 9), some (.int a), some (.int b), some (.int (nI k)), some (.int (nI (k / 10))), some (.int (nI (k % 10))), some (.int y)], [], mH h σ t (va_up A 1 (va_up (A 1) k x))) res h') ?_).mpr K
            first | (rw [y01]; refine cb_if ?_; unfold lk_w; simp_all) | (refine Eq.trans (b := 1) (by decide) (cb_1 ?_).symm; unfold lk_w; simp_all) | (refine Eq.trans (b := 0) (by decide) (cb_z ?_).symm; unfold lk_w; simp_all)
    · refine ev_go 1 (q := 131) rfl ?_
      refine ev_get (q := 134) rfl (mH_o hn) rfl rfl rfl ?_
      refine ev_go 1 (q := 136) rfl ?_
      refine ev_mza (q := 137) hn rfl (by decide) rfl rfl (show k < 100 by omega) rfl ?_
      refine ev_if_ne (t := 145) (q := 140) rfl rfl rfl (fun zc8 => ?_) (fun zc8 => ?_)
      · refine ev_go 2 (q := 206) (st' := .int 1 :: _ :: _ :: _) rfl ?_
        refine ev_mzas (q := 207) hn rfl (by decide) rfl rfl (show k < 100 by omega) rfl ?_
        refine ev_go 1 (q := 248) rfl ?_
        refine (congrArg (fun x => am_ev d z_Model_looks (248, [some (.ref 18), some (.int 9), some (.int a), some (.int b), some (.int (nI k)), some (.int (nI (k / 10))), some (.int (nI (k % 10))), some (.int y)], [], mH h σ t (va_up A 1 (va_up (A 1) k x))) res h') ?_).mpr K
        first | (rw [y01]; refine cb_if ?_; unfold lk_w; simp_all) | (refine Eq.trans (b := 1) (by decide) (cb_1 ?_).symm; unfold lk_w; simp_all) | (refine Eq.trans (b := 0) (by decide) (cb_z ?_).symm; unfold lk_w; simp_all)
      · refine ev_go 1 (q := 142) rfl ?_
        refine ev_if_eq (t := 149) (q := 145) rfl rfl rfl (fun zc9 => ?_) (fun zc9 => ?_)
        · refine ev_go 2 (q := 206) (st' := .int 0 :: _ :: _ :: _) rfl ?_
          refine ev_mzas (q := 207) hn rfl (by decide) rfl rfl (show k < 100 by omega) rfl ?_
          refine ev_go 1 (q := 248) rfl ?_
          refine (congrArg (fun x => am_ev d z_Model_looks (248, [some (.ref 18), some (.int 9), some (.int a), some (.int b), some (.int (nI k)), some (.int (nI (k / 10))), some (.int (nI (k % 10))), some (.int y)], [], mH h σ t (va_up A 1 (va_up (A 1) k x))) res h') ?_).mpr K
          first | (rw [y01]; refine cb_if ?_; unfold lk_w; simp_all) | (refine Eq.trans (b := 1) (by decide) (cb_1 ?_).symm; unfold lk_w; simp_all) | (refine Eq.trans (b := 0) (by decide) (cb_z ?_).symm; unfold lk_w; simp_all)
        · refine ev_go 2 (q := 206) (st' := .int 1 :: _ :: _ :: _) rfl ?_
          refine ev_mzas (q := 207) hn rfl (by decide) rfl rfl (show k < 100 by omega) rfl ?_
          refine ev_go 1 (q := 248) rfl ?_
          refine (congrArg (fun x => am_ev d z_Model_looks (248, [some (.ref 18), some (.int 9), some (.int a), some (.int b), some (.int (nI k)), some (.int (nI (k / 10))), some (.int (nI (k % 10))), some (.int y)], [], mH h σ t (va_up A 1 (va_up (A 1) k x))) res h') ?_).mpr K
          first | (rw [y01]; refine cb_if ?_; unfold lk_w; simp_all) | (refine Eq.trans (b := 1) (by decide) (cb_1 ?_).symm; unfold lk_w; simp_all) | (refine Eq.trans (b := 0) (by decide) (cb_z ?_).symm; unfold lk_w; simp_all)
  · refine ev_go 2 (q := 206) rfl ?_
    refine ev_mzas (q := 207) hn rfl (by decide) rfl rfl (show k < 100 by omega) rfl ?_
    refine ev_go 1 (q := 248) rfl ?_
    refine (congrArg (fun x => am_ev d z_Model_looks (248, [some (.ref 18), some (.int 9), some (.int a), some (.int b), some (.int (nI k)), some (.int (nI (k / 10))), some (.int (nI (k % 10))), some (.int y)], [], mH h σ t (va_up A 1 (va_up (A 1) k x))) res h') ?_).mpr K
    first | (rw [y01]; refine cb_if ?_; unfold lk_w; simp_all) | (refine Eq.trans (b := 1) (by decide) (cb_1 ?_).symm; unfold lk_w; simp_all) | (refine Eq.trans (b := 0) (by decide) (cb_z ?_).symm; unfold lk_w; simp_all)
theorem l_lk9 (hn : 43 ≤ h.1) (hd : 2 < d) (hR : 1 ≤ R ∧ R ≤ 10) (hC : 1 ≤ C ∧ C ≤ 10) (h1 : σ 1 = nI R) (h2 : σ 2 = nI C) {a b : Int32} : ∀ (m k : Nat) (A : Nat → Nat → Int32) (e5 : Option Value) (e6 : Option Value) (e7 : Option Value), k + m = 100 → (∀ e5 e6 e7 : Option Value, am_ev d z_Model_looks (254, [some (.ref 18), some (.int 9), some (.int a), some (.int b), some (.int (nI 100)), e5, e6, e7], [], mH h σ t (sp_it (lk_9 R C a b) k m A)) res h') → am_ev d z_Model_looks (21, [some (.ref 18), some (.int 9), some (.int a), some (.int b), some (.int (nI k)), e5, e6, e7], [.int 100, .int (nI k)], mH h σ t A) res h'
  | 0, k, A, e5, e6, e7, hm, K => by
    refine ev_icmp_ge (t := 254) (q := 24) rfl rfl rfl (fun _ => ?_) (fun c1 => absurd (nI_end (b := 100) hm (by omega)) c1)
    have hc : k = 100 := hm
    subst hc
    exact K e5 e6 e7
  | m + 1, k, A, e5, e6, e7, hm, K => by
    refine ev_icmp_ge (t := 254) (q := 24) rfl rfl rfl (fun c1 => absurd c1 (nI_ge (b := 100) (by omega) (by omega))) (fun _ => ?_)
    simp only [sp_it] at K
    refine ev_go 2 (q := 28) (st' := .int 10 :: _ :: _) rfl ?_
    refine ev_divn (b := 10) (q := 29) rfl rfl rfl (by decide) (by omega) (by decide) rfl ?_
    refine ev_go 3 (q := 35) (st' := .int 10 :: _ :: _) rfl ?_
    refine ev_remn (b := 10) (q := 36) rfl rfl rfl (by decide) (by omega) (by decide) rfl ?_
    refine ev_go 3 (q := 41) (st' := .int 9 :: _ :: _) rfl ?_
    refine ev_icmp_ne (t := 210) (q := 44) rfl rfl rfl (fun c => absurd (by decide) c) (fun _ => ?_)
    refine ev_go 3 (q := 49) rfl ?_
    refine ev_virt (z' := z_Model_isKnot) (q := 52) rfl rfl (by decide) rfl (by simp [Value.category]) rfl (by omega) rfl rfl (mH_o hn) (m_isKnot hn (by omega) hR hC h1 h2 _ _) ?_
    refine ev_if_eq (t := 210) (q := 55) rfl rfl rfl (fun zc1 => ?_) (fun zc1 => ?_)
    · refine ev_go 2 (q := 213) (st' := .int 10 :: _ :: _) rfl ?_
      refine ev_icmp_ne (t := 248) (q := 216) rfl rfl rfl (fun _ => ?_) (fun c => absurd c (by decide))
      rw [show lk_9 R C a b k A = A from if_neg (fun q => (am_b0.mp zc1) (kn_in hR.2 hC.2 q.1 q.2))] at K
      refine ev_go 4 (q := 21) (st' := .int 100 :: _) rfl ?_
      rw [nI_s]
      exact l_lk9 hn hd hR hC h1 h2 m (k + 1) _ _ _ _ (by omega) K
    · refine ev_go 4 (q := 60) rfl ?_
      refine ev_get (q := 63) rfl (mH_o hn) rfl rfl rfl ?_
      refine ev_go 1 (q := 64) (st' := .int 2 :: _ :: _ :: _ :: _ :: _) rfl ?_
      refine ev_mia (q := 65) hn rfl (by decide) rfl rfl (by decide) rfl ?_
      refine ev_go 3 (q := 68) (st' := .int (_ - 1) :: _ :: _ :: _) rfl ?_
      refine ev_static (z' := z_Model_in) (q := 71) rfl rfl (by decide) rfl rfl (by simp [Value.category]) rfl (by omega) (k_in _ _ _) ?_
      refine ev_if_eq (t := 97) (q := 74) rfl rfl rfl (fun zc2 => ?_) (fun zc2 => ?_)
      · refine ev_go 2 (q := 100) rfl ?_
        have hkn : k / 10 < R ∧ k % 10 < C := by have q := am_bn.mp zc1; exact ⟨(nI_ltI (by omega) (by omega)).mp q.1.2, (nI_ltI (by omega) (by omega)).mp q.2.2⟩
        rw [show lk_9 R C a b k A = va_up A 1 (va_up (A 1) k (cb (lk_w (A 15 4) (¬ A 1 k = 0) (lk_i a b (A 15) k)))) from if_pos hkn] at K
        refine t_lk9 (p := lk_i a b (A 15) k) hn (by omega) (Or.inr ⟨rfl, fun q => am_b0.mp zc2 q.1⟩) ?_
        refine ev_go 4 (q := 21) (st' := .int 100 :: _) rfl ?_
        rw [nI_s]
        exact l_lk9 hn hd hR hC h1 h2 m (k + 1) _ _ _ _ (by omega) K
      · refine ev_go 4 (q := 79) rfl ?_
        refine ev_get (q := 82) rfl (mH_o hn) rfl rfl rfl ?_
        refine ev_go 1 (q := 83) (st' := .int 3 :: _ :: _ :: _ :: _ :: _) rfl ?_
        refine ev_mia (q := 84) hn rfl (by decide) rfl rfl (by decide) rfl ?_
        refine ev_go 3 (q := 87) (st' := .int (_ - 1) :: _ :: _ :: _) rfl ?_
        refine ev_static (z' := z_Model_in) (q := 90) rfl rfl (by decide) rfl rfl (by simp [Value.category]) rfl (by omega) (k_in _ _ _) ?_
        refine ev_if_eq (t := 97) (q := 93) rfl rfl rfl (fun zc3 => ?_) (fun zc3 => ?_)
        · refine ev_go 2 (q := 100) rfl ?_
          have hkn : k / 10 < R ∧ k % 10 < C := by have q := am_bn.mp zc1; exact ⟨(nI_ltI (by omega) (by omega)).mp q.1.2, (nI_ltI (by omega) (by omega)).mp q.2.2⟩
          rw [show lk_9 R C a b k A = va_up A 1 (va_up (A 1) k (cb (lk_w (A 15 4) (¬ A 1 k = 0) (lk_i a b (A 15) k)))) from if_pos hkn] at K
          refine t_lk9 (p := lk_i a b (A 15) k) hn (by omega) (Or.inr ⟨rfl, fun q => am_b0.mp zc3 q.2⟩) ?_
          refine ev_go 4 (q := 21) (st' := .int 100 :: _) rfl ?_
          rw [nI_s]
          exact l_lk9 hn hd hR hC h1 h2 m (k + 1) _ _ _ _ (by omega) K
        · refine ev_go 3 (q := 100) rfl ?_
          have hkn : k / 10 < R ∧ k % 10 < C := by have q := am_bn.mp zc1; exact ⟨(nI_ltI (by omega) (by omega)).mp q.1.2, (nI_ltI (by omega) (by omega)).mp q.2.2⟩
          rw [show lk_9 R C a b k A = va_up A 1 (va_up (A 1) k (cb (lk_w (A 15 4) (¬ A 1 k = 0) (lk_i a b (A 15) k)))) from if_pos hkn] at K
          refine t_lk9 (p := lk_i a b (A 15) k) hn (by omega) (Or.inl ⟨rfl, am_bn.mp zc2, am_bn.mp zc3⟩) ?_
          refine ev_go 4 (q := 21) (st' := .int 100 :: _) rfl ?_
          rw [nI_s]
          exact l_lk9 hn hd hR hC h1 h2 m (k + 1) _ _ _ _ (by omega) K
theorem l_lk10 (hn : 43 ≤ h.1) (hd : 2 < d) {a b : Int32} : ∀ (m k : Nat) (A : Nat → Nat → Int32) (e5 : Option Value) (e6 : Option Value) (e7 : Option Value), k + m = 100 → (∀ e5 e6 e7 : Option Value, am_ev d z_Model_looks (254, [some (.ref 18), some (.int 10), some (.int a), some (.int b), some (.int (nI 100)), e5, e6, e7], [], mH h σ t (sp_it (lk_10 (σ 6) a) k m A)) res h') → am_ev d z_Model_looks (21, [some (.ref 18), some (.int 10), some (.int a), some (.int b), some (.int (nI k)), e5, e6, e7], [.int 100, .int (nI k)], mH h σ t A) res h'
  | 0, k, A, e5, e6, e7, hm, K => by
    refine ev_icmp_ge (t := 254) (q := 24) rfl rfl rfl (fun _ => ?_) (fun c1 => absurd (nI_end (b := 100) hm (by omega)) c1)
    have hc : k = 100 := hm
    subst hc
    exact K e5 e6 e7
  | m + 1, k, A, e5, e6, e7, hm, K => by
    refine ev_icmp_ge (t := 254) (q := 24) rfl rfl rfl (fun c1 => absurd c1 (nI_ge (b := 100) (by omega) (by omega))) (fun _ => ?_)
    simp only [sp_it] at K
    refine ev_go 2 (q := 28) (st' := .int 10 :: _ :: _) rfl ?_
    refine ev_divn (b := 10) (q := 29) rfl rfl rfl (by decide) (by omega) (by decide) rfl ?_
    refine ev_go 3 (q := 35) (st' := .int 10 :: _ :: _) rfl ?_
    refine ev_remn (b := 10) (q := 36) rfl rfl rfl (by decide) (by omega) (by decide) rfl ?_
    refine ev_go 3 (q := 41) (st' := .int 9 :: _ :: _) rfl ?_
    refine ev_icmp_ne (t := 210) (q := 44) rfl rfl rfl (fun _ => ?_) (fun c => absurd c (by decide))
    refine ev_go 2 (q := 213) (st' := .int 10 :: _ :: _) rfl ?_
    refine ev_icmp_ne (t := 248) (q := 216) rfl rfl rfl (fun c => absurd (by decide) c) (fun _ => ?_)
    refine ev_go 1 (q := 217) rfl ?_
    refine ev_get (q := 220) rfl (mH_o hn) rfl rfl rfl ?_
    refine ev_go 2 (q := 223) rfl ?_
    refine ev_get (q := 226) rfl (mH_o hn) rfl rfl rfl ?_
    refine ev_go 1 (q := 228) rfl ?_
    refine ev_mza (q := 229) hn rfl (by decide) rfl rfl (show k < 100 by omega) rfl ?_
    refine ev_if_eq (t := 246) (q := 232) rfl rfl rfl (fun zc1 => ?_) (fun zc1 => ?_)
    · refine ev_go 1 (q := 247) (st' := .int 0 :: _ :: _ :: _) rfl ?_
      refine ev_mzas (q := 248) hn rfl (by decide) rfl rfl (show k < 100 by omega) rfl ?_
      have e9 : ((0 : Int32) &&& 1) = am_b (¬ A 1 k = 0 ∧ sp_seen (σ 6) (fun l => A 0 (100 * l + k)) = a) := (am_bz (fun q => q.1 zc1)).symm
      rw [e9]
      refine ev_go 4 (q := 21) (st' := .int 100 :: _) rfl ?_
      rw [nI_s]
      exact l_lk10 hn hd m (k + 1) _ _ _ _ (by omega) K
    · refine ev_go 2 (q := 235) rfl ?_
      refine ev_virt (z' := z_Model_seen) (q := 238) rfl rfl (by decide) rfl (by simp [Value.category]) rfl (by omega) rfl rfl (mH_o hn) (m_seen (k := k) hn (by omega)) ?_
      refine ev_go 1 (q := 239) rfl ?_
      refine ev_icmp_ne (t := 246) (q := 242) rfl rfl rfl (fun zc2 => ?_) (fun zc2 => ?_)
      · refine ev_go 1 (q := 247) (st' := .int 0 :: _ :: _ :: _) rfl ?_
        refine ev_mzas (q := 248) hn rfl (by decide) rfl rfl (show k < 100 by omega) rfl ?_
        have e9 : ((0 : Int32) &&& 1) = am_b (¬ A 1 k = 0 ∧ sp_seen (σ 6) (fun l => A 0 (100 * l + k)) = a) := (am_bz (fun q => zc2 q.2)).symm
        rw [e9]
        refine ev_go 4 (q := 21) (st' := .int 100 :: _) rfl ?_
        rw [nI_s]
        exact l_lk10 hn hd m (k + 1) _ _ _ _ (by omega) K
      · refine ev_go 2 (q := 247) (st' := .int 1 :: _ :: _ :: _) rfl ?_
        refine ev_mzas (q := 248) hn rfl (by decide) rfl rfl (show k < 100 by omega) rfl ?_
        have e9 : ((1 : Int32) &&& 1) = am_b (¬ A 1 k = 0 ∧ sp_seen (σ 6) (fun l => A 0 (100 * l + k)) = a) := (am_b1 ⟨zc1, zc2⟩).symm
        rw [e9]
        refine ev_go 4 (q := 21) (st' := .int 100 :: _) rfl ?_
        rw [nI_s]
        exact l_lk10 hn hd m (k + 1) _ _ _ _ (by omega) K
theorem l_lk11 (hn : 43 ≤ h.1) {a b : Int32} : ∀ (m k : Nat) (A : Nat → Nat → Int32) (e5 : Option Value) (e6 : Option Value) (e7 : Option Value), k + m = 100 → (∀ e5 e6 e7 : Option Value, am_ev d z_Model_looks (254, [some (.ref 18), some (.int 11), some (.int a), some (.int b), some (.int (nI 100)), e5, e6, e7], [], mH h σ t (sp_it (fun _ A => A) k m A)) res h') → am_ev d z_Model_looks (21, [some (.ref 18), some (.int 11), some (.int a), some (.int b), some (.int (nI k)), e5, e6, e7], [.int 100, .int (nI k)], mH h σ t A) res h'
  | 0, k, A, e5, e6, e7, hm, K => by
    refine ev_icmp_ge (t := 254) (q := 24) rfl rfl rfl (fun _ => ?_) (fun c1 => absurd (nI_end (b := 100) hm (by omega)) c1)
    have hc : k = 100 := hm
    subst hc
    exact K e5 e6 e7
  | m + 1, k, A, e5, e6, e7, hm, K => by
    refine ev_icmp_ge (t := 254) (q := 24) rfl rfl rfl (fun c1 => absurd c1 (nI_ge (b := 100) (by omega) (by omega))) (fun _ => ?_)
    simp only [sp_it] at K
    refine ev_go 2 (q := 28) (st' := .int 10 :: _ :: _) rfl ?_
    refine ev_divn (b := 10) (q := 29) rfl rfl rfl (by decide) (by omega) (by decide) rfl ?_
    refine ev_go 3 (q := 35) (st' := .int 10 :: _ :: _) rfl ?_
    refine ev_remn (b := 10) (q := 36) rfl rfl rfl (by decide) (by omega) (by decide) rfl ?_
    refine ev_go 3 (q := 41) (st' := .int 9 :: _ :: _) rfl ?_
    refine ev_icmp_ne (t := 210) (q := 44) rfl rfl rfl (fun _ => ?_) (fun c => absurd c (by decide))
    refine ev_go 2 (q := 213) (st' := .int 10 :: _ :: _) rfl ?_
    refine ev_icmp_ne (t := 248) (q := 216) rfl rfl rfl (fun _ => ?_) (fun c => absurd c (by decide))
    refine ev_go 4 (q := 21) (st' := .int 100 :: _) rfl ?_
    rw [nI_s]
    exact l_lk11 hn m (k + 1) _ _ _ _ (by omega) K
theorem l_lk12 (hn : 43 ≤ h.1) {a b : Int32} : ∀ (m k : Nat) (A : Nat → Nat → Int32) (e5 : Option Value) (e6 : Option Value) (e7 : Option Value), k + m = 100 → (∀ e5 e6 e7 : Option Value, am_ev d z_Model_looks (254, [some (.ref 18), some (.int 12), some (.int a), some (.int b), some (.int (nI 100)), e5, e6, e7], [], mH h σ t (sp_it (fun _ A => A) k m A)) res h') → am_ev d z_Model_looks (21, [some (.ref 18), some (.int 12), some (.int a), some (.int b), some (.int (nI k)), e5, e6, e7], [.int 100, .int (nI k)], mH h σ t A) res h'
  | 0, k, A, e5, e6, e7, hm, K => by
    refine ev_icmp_ge (t := 254) (q := 24) rfl rfl rfl (fun _ => ?_) (fun c1 => absurd (nI_end (b := 100) hm (by omega)) c1)
    have hc : k = 100 := hm
    subst hc
    exact K e5 e6 e7
  | m + 1, k, A, e5, e6, e7, hm, K => by
    refine ev_icmp_ge (t := 254) (q := 24) rfl rfl rfl (fun c1 => absurd c1 (nI_ge (b := 100) (by omega) (by omega))) (fun _ => ?_)
    simp only [sp_it] at K
    refine ev_go 2 (q := 28) (st' := .int 10 :: _ :: _) rfl ?_
    refine ev_divn (b := 10) (q := 29) rfl rfl rfl (by decide) (by omega) (by decide) rfl ?_
    refine ev_go 3 (q := 35) (st' := .int 10 :: _ :: _) rfl ?_
    refine ev_remn (b := 10) (q := 36) rfl rfl rfl (by decide) (by omega) (by decide) rfl ?_
    refine ev_go 3 (q := 41) (st' := .int 9 :: _ :: _) rfl ?_
    refine ev_icmp_ne (t := 210) (q := 44) rfl rfl rfl (fun _ => ?_) (fun c => absurd c (by decide))
    refine ev_go 2 (q := 213) (st' := .int 10 :: _ :: _) rfl ?_
    refine ev_icmp_ne (t := 248) (q := 216) rfl rfl rfl (fun _ => ?_) (fun c => absurd c (by decide))
    refine ev_go 4 (q := 21) (st' := .int 100 :: _) rfl ?_
    rw [nI_s]
    exact l_lk12 hn m (k + 1) _ _ _ _ (by omega) K
theorem it_cst {α : Type} (k m : Nat) (A : α) : sp_it (fun _ A => A) k m A = A := by
  induction m generalizing k with
  | zero => rfl
  | succ m ih => rw [sp_it, ih]
theorem m_looks9 (hn : 43 ≤ h.1) (hd : 2 < d) (hR : 1 ≤ R ∧ R ≤ 10) (hC : 1 ≤ C ∧ C ≤ 10) (h1 : σ 1 = nI R) (h2 : σ 2 = nI C) : am_m d z_Model_looks [.ref 18, .int 9] (mH h σ t A) none (mH h σ t (sp_it (lk_9 R C (A 15 0) (A 15 1)) 0 100 A)) := by
  refine ev_go 1 (q := 1) rfl ?_
  refine ev_get (q := 4) rfl (mH_o hn) rfl rfl rfl ?_
  refine ev_go 1 (q := 5) (st' := .int 0 :: _ :: _) rfl ?_
  refine ev_mia (q := 6) hn rfl (by decide) rfl rfl (by decide) rfl ?_
  refine ev_go 2 (q := 8) rfl ?_
  refine ev_get (q := 11) rfl (mH_o hn) rfl rfl rfl ?_
  refine ev_go 1 (q := 12) (st' := .int 1 :: _ :: _) rfl ?_
  refine ev_mia (q := 13) hn rfl (by decide) rfl rfl (by decide) rfl ?_
  refine ev_go 5 (q := 21) (st' := .int 100 :: _ :: _) rfl ?_
  refine l_lk9 hn hd hR hC h1 h2 100 0 A _ _ _ (by omega) (fun e5 e6 e7 => ?_)
  refine ev_go 3 (q := 258) (st' := .int 11 :: _ :: _ :: _) rfl ?_
  refine ev_icmp_ne (t := 265) (q := 261) rfl rfl rfl (fun _ => ?_) (fun c => absurd c (by decide))
  refine ev_go 1 (q := 266) rfl ?_
  refine ev_get (q := 269) rfl (mH_o hn) rfl rfl rfl ?_
  refine ev_mput (q := 272) hn rfl rfl rfl (by decide) rfl (mls_5 _ _ _) rfl ?_
  refine ev_go 2 (q := 275) (st' := .int 12 :: _ :: _) rfl ?_
  refine ev_icmp_ne (t := 308) (q := 278) rfl rfl rfl (fun _ => ?_) (fun c => absurd c (by decide))
  exact ev_vret rfl rfl (by first | (rw [vu_id]; done) | rfl)
theorem m_looks10 (hn : 43 ≤ h.1) (hd : 2 < d) : am_m d z_Model_looks [.ref 18, .int 10] (mH h σ t A) none (mH h σ t (sp_it (lk_10 (σ 6) (A 15 0)) 0 100 A)) := by
  refine ev_go 1 (q := 1) rfl ?_
  refine ev_get (q := 4) rfl (mH_o hn) rfl rfl rfl ?_
  refine ev_go 1 (q := 5) (st' := .int 0 :: _ :: _) rfl ?_
  refine ev_mia (q := 6) hn rfl (by decide) rfl rfl (by decide) rfl ?_
  refine ev_go 2 (q := 8) rfl ?_
  refine ev_get (q := 11) rfl (mH_o hn) rfl rfl rfl ?_
  refine ev_go 1 (q := 12) (st' := .int 1 :: _ :: _) rfl ?_
  refine ev_mia (q := 13) hn rfl (by decide) rfl rfl (by decide) rfl ?_
  refine ev_go 5 (q := 21) (st' := .int 100 :: _ :: _) rfl ?_
  refine l_lk10 hn hd 100 0 A _ _ _ (by omega) (fun e5 e6 e7 => ?_)
  refine ev_go 3 (q := 258) (st' := .int 11 :: _ :: _ :: _) rfl ?_
  refine ev_icmp_ne (t := 265) (q := 261) rfl rfl rfl (fun _ => ?_) (fun c => absurd c (by decide))
  refine ev_go 1 (q := 266) rfl ?_
  refine ev_get (q := 269) rfl (mH_o hn) rfl rfl rfl ?_
  refine ev_mput (q := 272) hn rfl rfl rfl (by decide) rfl (mls_5 _ _ _) rfl ?_
  refine ev_go 2 (q := 275) (st' := .int 12 :: _ :: _) rfl ?_
  refine ev_icmp_ne (t := 308) (q := 278) rfl rfl rfl (fun _ => ?_) (fun c => absurd c (by decide))
  exact ev_vret rfl rfl (by first | (rw [vu_id]; done) | rfl)
theorem m_looks11 (hn : 43 ≤ h.1) : am_m d z_Model_looks [.ref 18, .int 11] (mH h σ t A) none (mH h (va_up σ 5 (A 15 0)) t A) := by
  refine ev_go 1 (q := 1) rfl ?_
  refine ev_get (q := 4) rfl (mH_o hn) rfl rfl rfl ?_
  refine ev_go 1 (q := 5) (st' := .int 0 :: _ :: _) rfl ?_
  refine ev_mia (q := 6) hn rfl (by decide) rfl rfl (by decide) rfl ?_
  refine ev_go 2 (q := 8) rfl ?_
  refine ev_get (q := 11) rfl (mH_o hn) rfl rfl rfl ?_
  refine ev_go 1 (q := 12) (st' := .int 1 :: _ :: _) rfl ?_
  refine ev_mia (q := 13) hn rfl (by decide) rfl rfl (by decide) rfl ?_
  refine ev_go 5 (q := 21) (st' := .int 100 :: _ :: _) rfl ?_
  refine l_lk11 hn 100 0 A _ _ _ (by omega) (fun e5 e6 e7 => ?_)
  rw [it_cst]
  refine ev_go 3 (q := 258) (st' := .int 11 :: _ :: _ :: _) rfl ?_
  refine ev_icmp_ne (t := 265) (q := 261) rfl rfl rfl (fun c => absurd (by decide) c) (fun _ => ?_)
  refine ev_go 2 (q := 269) rfl ?_
  refine ev_mput (q := 272) hn rfl rfl rfl (by decide) rfl (mls_5 _ _ _) rfl ?_
  refine ev_go 2 (q := 275) (st' := .int 12 :: _ :: _) rfl ?_
  refine ev_icmp_ne (t := 308) (q := 278) rfl rfl rfl (fun _ => ?_) (fun c => absurd c (by decide))
  exact ev_vret rfl rfl (by first | (rw [vu_id]; done) | rfl)
theorem m_looks12 (hn : 43 ≤ h.1) : am_m d z_Model_looks [.ref 18, .int 12] (mH h σ t A) none (mH h (va_up σ 6 (if A 15 1 = 1 then σ 6 ||| (1 <<< (A 15 0 &&& 31)) else σ 6 &&& ((1 <<< (A 15 0 &&& 31)) ^^^ (-1)))) t A) := by
  refine ev_go 1 (q := 1) rfl ?_
  refine ev_get (q := 4) rfl (mH_o hn) rfl rfl rfl ?_
  refine ev_go 1 (q := 5) (st' := .int 0 :: _ :: _) rfl ?_
  refine ev_mia (q := 6) hn rfl (by decide) rfl rfl (by decide) rfl ?_
  refine ev_go 2 (q := 8) rfl ?_
  refine ev_get (q := 11) rfl (mH_o hn) rfl rfl rfl ?_
  refine ev_go 1 (q := 12) (st' := .int 1 :: _ :: _) rfl ?_
  refine ev_mia (q := 13) hn rfl (by decide) rfl rfl (by decide) rfl ?_
  refine ev_go 5 (q := 21) (st' := .int 100 :: _ :: _) rfl ?_
  refine l_lk12 hn 100 0 A _ _ _ (by omega) (fun e5 e6 e7 => ?_)
  rw [it_cst]
  refine ev_go 3 (q := 258) (st' := .int 11 :: _ :: _ :: _) rfl ?_
  refine ev_icmp_ne (t := 265) (q := 261) rfl rfl rfl (fun _ => ?_) (fun c => absurd c (by decide))
  refine ev_go 1 (q := 266) rfl ?_
  refine ev_get (q := 269) rfl (mH_o hn) rfl rfl rfl ?_
  refine ev_mput (q := 272) hn rfl rfl rfl (by decide) rfl (mls_5 _ _ _) rfl ?_
  refine ev_go 2 (q := 275) (st' := .int 12 :: _ :: _) rfl ?_
  refine ev_icmp_ne (t := 308) (q := 278) rfl rfl rfl (fun c => absurd (by decide) c) (fun _ => ?_)
  refine ev_go 3 (q := 281) (st' := .int 1 :: _ :: _ :: _) rfl ?_
  refine ev_icmp_ne (t := 295) (q := 284) rfl rfl rfl (fun zc1 => ?_) (fun zc1 => ?_)
  · refine ev_go 1 (q := 296) rfl ?_
    refine ev_get (q := 299) rfl (mH_o hn) rfl rfl rfl ?_
    refine ev_go 6 (q := 305) (st' := .int (_ &&& (((1 : Int32) <<< (_ &&& 31)) ^^^ (-1))) :: _ :: _) rfl ?_
    refine ev_mput (q := 308) hn rfl rfl rfl (by decide) rfl (mls_6 _ _ _) rfl ?_
    exact ev_vret rfl rfl (by first | (rw [vu_id, if_pos zc1]; done) | (rw [vu_id, if_neg zc1]; done) | (rw [vu_id, if_pos zc1]; rfl) | (rw [vu_id, if_neg zc1]; rfl) | (rw [vu_id]; done) | rfl)
  · refine ev_go 1 (q := 285) rfl ?_
    refine ev_get (q := 288) rfl (mH_o hn) rfl rfl rfl ?_
    refine ev_go 5 (q := 305) (st' := .int (_ ||| ((1 : Int32) <<< (_ &&& 31))) :: _ :: _) rfl ?_
    refine ev_mput (q := 308) hn rfl rfl rfl (by decide) rfl (mls_6 _ _ _) rfl ?_
    exact ev_vret rfl rfl (by first | (rw [vu_id, if_pos zc1]; done) | (rw [vu_id, if_neg zc1]; done) | (rw [vu_id, if_pos zc1]; rfl) | (rw [vu_id, if_neg zc1]; rfl) | (rw [vu_id]; done) | rfl)
abbrev rd_num (p : Prop) [Decidable p] (t : Int64) : Int32 × Int64 := (if p then 0 else 4, t + 1)
abbrev rd_wl (p : Prop) [Decidable p] (t : Int64) (k : Int64 → Int32 × Int64) : Int32 × Int64 := if p then k (t + 10) else (2, t + 10)
abbrev rd_kn (p : Prop) [Decidable p] (t : Int64) (k : Int64 → Int32 × Int64) : Int32 × Int64 := if p then k (t + 1000) else (1, t + 1000)
abbrev rd_ln (p : Prop) [Decidable p] (t : Int64) (k : Int64 → Int32 × Int64) : Int32 × Int64 := if p then k (t + 100000) else (1, t + 100000)
abbrev rd_bx (s : Int32) (t : Int64) (k : Int64 → Int32 × Int64) : Int32 × Int64 := if s = 0 then (3, t + 10000) else k (t + 10000)
abbrev rd_lk (p : Prop) [Decidable p] (e : Int32) (t : Int64) (k : Int64 → Int32 × Int64) : Int32 × Int64 := if p then k (t + 100) else (e, t + 100)
abbrev bt (a v b : Int32) : Prop := a ≤ v ∧ v ≤ b
abbrev blk (R C : Nat) (v : Nat → Int32) : Prop := (0 ≤ (v 0).toInt ∧ 0 ≤ (v 1).toInt ∧ 1 ≤ (v 2).toInt ∧ 1 ≤ (v 3).toInt) ∧ (v 0).toInt + (v 2).toInt ≤ (R : Int) ∧ (v 1).toInt + (v 3).toInt ≤ (C : Int)
def rdy (R C : Nat) (s : Int32) (v : Nat → Int32) (t : Int64) : Nat → Int32 × Int64
  | 0 => rd_kn (cl_kn R C (v 0) (v 1)) t (fun t => rd_wl (bt 0 (v 4) 9) t (fun t => rd_num True t))
  | 1 => rd_kn (cl_kn R C (v 0) (v 1)) t (fun t => rd_wl (bt 0 (v 4) 9) t (fun t => rd_num True t))
  | 2 => rd_ln (cl_kn R C (v 2) (v 3)) t (fun t => rd_kn (cl_kn R C (v 0) (v 1)) t (fun t => rd_wl (bt 0 (v 4) 9) t (fun t => rd_num True t)))
  | 3 => rd_kn (cl_kn R C (v 0) (v 1)) t (fun t => rd_wl (bt 0 (v 4) 9) t (fun t => rd_num (bt 0 (v 2) 511 ∧ bt 0 (v 3) 7) t))
  | 4 => rd_bx s t (fun t => rd_wl True t (fun t => rd_num (bt 0 (v 0) 1) t))
  | 5 => rd_bx s t (fun t => rd_wl True t (fun t => rd_num (bt (-20) (v 0) 20 ∧ bt (-20) (v 1) 20) t))
  | 6 => rd_bx s t (fun t => rd_wl (bt 0 (v 4) 9) t (fun t => rd_num (bt 1 (v 0) 5) t))
  | 7 => rd_bx s t (fun t => rd_wl (bt 0 (v 0) 9 ∧ bt 0 (v 1) 9) t (fun t => rd_num True t))
  | 8 => rd_bx s t (fun t => rd_wl True t (fun t => rd_num (bt 1 (v 0) 9) t))
  | 9 => rd_lk (blk R C v) 1 t (fun t => rd_num (bt 0 (v 4) 3) t)
  | 10 => rd_lk (bt 0 (v 0) 9) 2 t (fun t => rd_num True t)
  | 11 => rd_lk (bt 0 (v 0) 2) 1 t (fun t => rd_num True t)
  | _ => rd_lk (bt 0 (v 0) 2) 1 t (fun t => rd_num (bt 0 (v 1) 1) t)
theorem blk_kn {R C : Nat} {v : Nat → Int32} (hR : R ≤ 10) (hC : C ≤ 10) (q : blk R C v) : cl_kn R C (v 0) (v 1) := by
  have e1 : (nI R).toInt = R := nI_toInt (by omega)
  have e2 : (nI C).toInt = C := nI_toInt (by omega)
  obtain ⟨⟨a1, a2, a3, a4⟩, a5, a6⟩ := q
  refine ⟨⟨Int32.le_iff_toInt_le.mpr ?_, Int32.lt_iff_toInt_lt.mpr ?_⟩, Int32.le_iff_toInt_le.mpr ?_, Int32.lt_iff_toInt_lt.mpr ?_⟩
  · simpa using a1
  · omega
  · simpa using a2
  · omega
theorem i64_add (a b : Int32) : (a.toInt64 + b.toInt64).toInt = a.toInt + b.toInt := by
  have h1 := a.toInt_lt
  have h2 := a.le_toInt
  have h3 := b.toInt_lt
  have h4 := b.le_toInt
  rw [Int64.toInt_add, Int32.toInt_toInt64, Int32.toInt_toInt64]
  rw [Int.bmod_eq_of_le] <;> omega
theorem m_ready0 (hn : 43 ≤ h.1) (hd : 2 < d) (hR : 1 ≤ R ∧ R ≤ 10) (hC : 1 ≤ C ∧ C ≤ 10) (h1 : σ 1 = nI R) (h2 : σ 2 = nI C) : am_m d z_Model_ready [.ref 18, .int 0] (mH h σ t A) (some (.int (rdy R C (ms_sel A) (A 15) t 0).1)) (mH h σ (rdy R C (ms_sel A) (A 15) t 0).2 A) := by
  refine ev_go 1 (q := 1) rfl ?_
  refine ev_get (q := 4) rfl (mH_o hn) rfl rfl rfl ?_
  refine ev_go 1 (q := 5) (st' := .int 0 :: _ :: _) rfl ?_
  refine ev_mia (q := 6) hn rfl (by decide) rfl rfl (by decide) rfl ?_
  refine ev_go 2 (q := 8) rfl ?_
  refine ev_get (q := 11) rfl (mH_o hn) rfl rfl rfl ?_
  refine ev_go 1 (q := 12) (st' := .int 1 :: _ :: _) rfl ?_
  refine ev_mia (q := 13) hn rfl (by decide) rfl rfl (by decide) rfl ?_
  refine ev_go 2 (q := 15) rfl ?_
  refine ev_get (q := 18) rfl (mH_o hn) rfl rfl rfl ?_
  refine ev_go 1 (q := 19) (st' := .int 2 :: _ :: _) rfl ?_
  refine ev_mia (q := 20) hn rfl (by decide) rfl rfl (by decide) rfl ?_
  refine ev_go 2 (q := 23) rfl ?_
  refine ev_get (q := 26) rfl (mH_o hn) rfl rfl rfl ?_
  refine ev_go 1 (q := 27) (st' := .int 3 :: _ :: _) rfl ?_
  refine ev_mia (q := 28) hn rfl (by decide) rfl rfl (by decide) rfl ?_
  refine ev_go 2 (q := 31) rfl ?_
  refine ev_get (q := 34) rfl (mH_o hn) rfl rfl rfl ?_
  refine ev_go 1 (q := 35) (st' := .int 4 :: _ :: _) rfl ?_
  refine ev_mia (q := 36) hn rfl (by decide) rfl rfl (by decide) rfl ?_
  refine ev_go 3 (q := 41) (st' := .int 8 :: _ :: _) rfl ?_
  refine ev_icmp_le (t := 197) (q := 44) rfl rfl rfl (fun _ => ?_) (fun c => absurd (by decide) c)
  refine ev_go 2 (q := 199) (st' := .int 2 :: _ :: _) rfl ?_
  refine ev_icmp_ne (t := 227) (q := 202) rfl rfl rfl (fun _ => ?_) (fun c => absurd c (by decide))
  refine ev_go 2 (q := 229) (st' := .int 4 :: _ :: _) rfl ?_
  refine ev_icmp_ge (t := 255) (q := 232) rfl rfl rfl (fun c => absurd c (by decide)) (fun _ => ?_)
  refine ev_go 2 (q := 234) rfl ?_
  refine ev_get (q := 237) rfl (mH_o hn) rfl rfl rfl ?_
  refine ev_go 2 (q := 241) (st' := .long (_ + 1000) :: _ :: _) rfl ?_
  refine ev_mputl (q := 244) hn rfl rfl rfl (by decide) rfl (mls_29 _ _ _) rfl ?_
  refine ev_go 3 (q := 247) rfl ?_
  refine ev_virt (z' := z_Model_isKnot) (q := 250) rfl rfl (by decide) rfl (by simp [Value.category]) rfl (by omega) rfl rfl (mH_o hn) (m_isKnot hn (by omega) hR hC h1 h2 _ _) ?_
  refine ev_if_ne (t := 276) (q := 253) rfl rfl rfl (fun zc1 => ?_) (fun zc1 => ?_)
  · refine ev_go 2 (q := 278) rfl ?_
    refine ev_get (q := 281) rfl (mH_o hn) rfl rfl rfl ?_
    refine ev_go 2 (q := 285) (st' := .long (_ + 10) :: _ :: _) rfl ?_
    refine ev_mputl (q := 288) hn rfl rfl rfl (by decide) rfl (mls_29 _ _ _) rfl ?_
    refine ev_go 2 (q := 290) (st' := .int 4 :: _ :: _) rfl ?_
    refine ev_icmp_lt (t := 299) (q := 293) rfl rfl rfl (fun _ => ?_) (fun c => absurd (by decide) c)
    refine ev_go 4 (q := 308) rfl ?_
    refine ev_if_eq (t := 322) (q := 311) rfl rfl rfl (fun c => absurd c (by decide)) (fun _ => ?_)
    refine ev_go 3 (q := 316) (st' := .int 9 :: .int 0 :: _ :: _) rfl ?_
    refine ev_static (z' := z_Model_in) (q := 319) rfl rfl (by decide) rfl rfl (by simp [Value.category]) rfl (by omega) (k_in _ _ _) ?_
    refine ev_if_eq (t := 348) (q := 322) rfl rfl rfl (fun zc2 => ?_) (fun zc2 => ?_)
    · refine ev_go 1 (q := 349) (st' := .int 2 :: _) rfl ?_
      exact ev_iret rfl rfl (by (try simp only [am_b0, am_bn, Decidable.not_not] at *); simp [rdy, rd_kn, rd_wl, rd_num, rd_ln, rd_bx, rd_lk, bt, cl_kn, *]) (by (try simp only [am_b0, am_bn, Decidable.not_not] at *); simp [rdy, rd_kn, rd_wl, rd_num, rd_ln, rd_bx, rd_lk, bt, cl_kn, *])
    · refine ev_go 2 (q := 325) (st' := .int 7 :: _ :: _) rfl ?_
      refine ev_icmp_ne (t := 350) (q := 328) rfl rfl rfl (fun _ => ?_) (fun c => absurd c (by decide))
      refine ev_go 2 (q := 352) rfl ?_
      refine ev_get (q := 355) rfl (mH_o hn) rfl rfl rfl ?_
      refine ev_go 2 (q := 357) (st' := .long (_ + 1) :: _ :: _) rfl ?_
      refine ev_mputl (q := 360) hn rfl rfl rfl (by decide) rfl (mls_29 _ _ _) rfl ?_
      refine ev_go 2 (q := 362) (st' := .int 3 :: _ :: _) rfl ?_
      refine ev_icmp_ne (t := 388) (q := 365) rfl rfl rfl (fun _ => ?_) (fun c => absurd c (by decide))
      refine ev_go 2 (q := 390) (st' := .int 4 :: _ :: _) rfl ?_
      refine ev_icmp_ne (t := 402) (q := 393) rfl rfl rfl (fun _ => ?_) (fun c => absurd c (by decide))
      refine ev_go 2 (q := 404) (st' := .int 5 :: _ :: _) rfl ?_
      refine ev_icmp_ne (t := 429) (q := 407) rfl rfl rfl (fun _ => ?_) (fun c => absurd c (by decide))
      refine ev_go 2 (q := 432) (st' := .int 6 :: _ :: _) rfl ?_
      refine ev_icmp_ne (t := 444) (q := 435) rfl rfl rfl (fun _ => ?_) (fun c => absurd c (by decide))
      refine ev_go 2 (q := 447) (st' := .int 8 :: _ :: _) rfl ?_
      refine ev_icmp_ne (t := 464) (q := 450) rfl rfl rfl (fun _ => ?_) (fun c => absurd c (by decide))
      refine ev_go 3 (q := 469) rfl ?_
      refine ev_if_eq (t := 476) (q := 472) rfl rfl rfl (fun _ => ?_) (fun c => absurd (by decide) c)
      refine ev_go 1 (q := 477) (st' := .int 0 :: _) rfl ?_
      exact ev_iret rfl rfl (by (try simp only [am_b0, am_bn, Decidable.not_not] at *); simp [rdy, rd_kn, rd_wl, rd_num, rd_ln, rd_bx, rd_lk, bt, cl_kn, *]) (by (try simp only [am_b0, am_bn, Decidable.not_not] at *); simp [rdy, rd_kn, rd_wl, rd_num, rd_ln, rd_bx, rd_lk, bt, cl_kn, *])
  · refine ev_go 1 (q := 254) (st' := .int 1 :: _) rfl ?_
    exact ev_iret rfl rfl (by (try simp only [am_b0, am_bn, Decidable.not_not] at *); simp [rdy, rd_kn, rd_wl, rd_num, rd_ln, rd_bx, rd_lk, bt, cl_kn, *]) (by (try simp only [am_b0, am_bn, Decidable.not_not] at *); simp [rdy, rd_kn, rd_wl, rd_num, rd_ln, rd_bx, rd_lk, bt, cl_kn, *])
theorem m_ready1 (hn : 43 ≤ h.1) (hd : 2 < d) (hR : 1 ≤ R ∧ R ≤ 10) (hC : 1 ≤ C ∧ C ≤ 10) (h1 : σ 1 = nI R) (h2 : σ 2 = nI C) : am_m d z_Model_ready [.ref 18, .int 1] (mH h σ t A) (some (.int (rdy R C (ms_sel A) (A 15) t 1).1)) (mH h σ (rdy R C (ms_sel A) (A 15) t 1).2 A) := by
  refine ev_go 1 (q := 1) rfl ?_
  refine ev_get (q := 4) rfl (mH_o hn) rfl rfl rfl ?_
  refine ev_go 1 (q := 5) (st' := .int 0 :: _ :: _) rfl ?_
  refine ev_mia (q := 6) hn rfl (by decide) rfl rfl (by decide) rfl ?_
  refine ev_go 2 (q := 8) rfl ?_
  refine ev_get (q := 11) rfl (mH_o hn) rfl rfl rfl ?_
  refine ev_go 1 (q := 12) (st' := .int 1 :: _ :: _) rfl ?_
  refine ev_mia (q := 13) hn rfl (by decide) rfl rfl (by decide) rfl ?_
  refine ev_go 2 (q := 15) rfl ?_
  refine ev_get (q := 18) rfl (mH_o hn) rfl rfl rfl ?_
  refine ev_go 1 (q := 19) (st' := .int 2 :: _ :: _) rfl ?_
  refine ev_mia (q := 20) hn rfl (by decide) rfl rfl (by decide) rfl ?_
  refine ev_go 2 (q := 23) rfl ?_
  refine ev_get (q := 26) rfl (mH_o hn) rfl rfl rfl ?_
  refine ev_go 1 (q := 27) (st' := .int 3 :: _ :: _) rfl ?_
  refine ev_mia (q := 28) hn rfl (by decide) rfl rfl (by decide) rfl ?_
  refine ev_go 2 (q := 31) rfl ?_
  refine ev_get (q := 34) rfl (mH_o hn) rfl rfl rfl ?_
  refine ev_go 1 (q := 35) (st' := .int 4 :: _ :: _) rfl ?_
  refine ev_mia (q := 36) hn rfl (by decide) rfl rfl (by decide) rfl ?_
  refine ev_go 3 (q := 41) (st' := .int 8 :: _ :: _) rfl ?_
  refine ev_icmp_le (t := 197) (q := 44) rfl rfl rfl (fun _ => ?_) (fun c => absurd (by decide) c)
  refine ev_go 2 (q := 199) (st' := .int 2 :: _ :: _) rfl ?_
  refine ev_icmp_ne (t := 227) (q := 202) rfl rfl rfl (fun _ => ?_) (fun c => absurd c (by decide))
  refine ev_go 2 (q := 229) (st' := .int 4 :: _ :: _) rfl ?_
  refine ev_icmp_ge (t := 255) (q := 232) rfl rfl rfl (fun c => absurd c (by decide)) (fun _ => ?_)
  refine ev_go 2 (q := 234) rfl ?_
  refine ev_get (q := 237) rfl (mH_o hn) rfl rfl rfl ?_
  refine ev_go 2 (q := 241) (st' := .long (_ + 1000) :: _ :: _) rfl ?_
  refine ev_mputl (q := 244) hn rfl rfl rfl (by decide) rfl (mls_29 _ _ _) rfl ?_
  refine ev_go 3 (q := 247) rfl ?_
  refine ev_virt (z' := z_Model_isKnot) (q := 250) rfl rfl (by decide) rfl (by simp [Value.category]) rfl (by omega) rfl rfl (mH_o hn) (m_isKnot hn (by omega) hR hC h1 h2 _ _) ?_
  refine ev_if_ne (t := 276) (q := 253) rfl rfl rfl (fun zc1 => ?_) (fun zc1 => ?_)
  · refine ev_go 2 (q := 278) rfl ?_
    refine ev_get (q := 281) rfl (mH_o hn) rfl rfl rfl ?_
    refine ev_go 2 (q := 285) (st' := .long (_ + 10) :: _ :: _) rfl ?_
    refine ev_mputl (q := 288) hn rfl rfl rfl (by decide) rfl (mls_29 _ _ _) rfl ?_
    refine ev_go 2 (q := 290) (st' := .int 4 :: _ :: _) rfl ?_
    refine ev_icmp_lt (t := 299) (q := 293) rfl rfl rfl (fun _ => ?_) (fun c => absurd (by decide) c)
    refine ev_go 4 (q := 308) rfl ?_
    refine ev_if_eq (t := 322) (q := 311) rfl rfl rfl (fun c => absurd c (by decide)) (fun _ => ?_)
    refine ev_go 3 (q := 316) (st' := .int 9 :: .int 0 :: _ :: _) rfl ?_
    refine ev_static (z' := z_Model_in) (q := 319) rfl rfl (by decide) rfl rfl (by simp [Value.category]) rfl (by omega) (k_in _ _ _) ?_
    refine ev_if_eq (t := 348) (q := 322) rfl rfl rfl (fun zc2 => ?_) (fun zc2 => ?_)
    · refine ev_go 1 (q := 349) (st' := .int 2 :: _) rfl ?_
      exact ev_iret rfl rfl (by (try simp only [am_b0, am_bn, Decidable.not_not] at *); simp [rdy, rd_kn, rd_wl, rd_num, rd_ln, rd_bx, rd_lk, bt, cl_kn, *]) (by (try simp only [am_b0, am_bn, Decidable.not_not] at *); simp [rdy, rd_kn, rd_wl, rd_num, rd_ln, rd_bx, rd_lk, bt, cl_kn, *])
    · refine ev_go 2 (q := 325) (st' := .int 7 :: _ :: _) rfl ?_
      refine ev_icmp_ne (t := 350) (q := 328) rfl rfl rfl (fun _ => ?_) (fun c => absurd c (by decide))
      refine ev_go 2 (q := 352) rfl ?_
      refine ev_get (q := 355) rfl (mH_o hn) rfl rfl rfl ?_
      refine ev_go 2 (q := 357) (st' := .long (_ + 1) :: _ :: _) rfl ?_
      refine ev_mputl (q := 360) hn rfl rfl rfl (by decide) rfl (mls_29 _ _ _) rfl ?_
      refine ev_go 2 (q := 362) (st' := .int 3 :: _ :: _) rfl ?_
      refine ev_icmp_ne (t := 388) (q := 365) rfl rfl rfl (fun _ => ?_) (fun c => absurd c (by decide))
      refine ev_go 2 (q := 390) (st' := .int 4 :: _ :: _) rfl ?_
      refine ev_icmp_ne (t := 402) (q := 393) rfl rfl rfl (fun _ => ?_) (fun c => absurd c (by decide))
      refine ev_go 2 (q := 404) (st' := .int 5 :: _ :: _) rfl ?_
      refine ev_icmp_ne (t := 429) (q := 407) rfl rfl rfl (fun _ => ?_) (fun c => absurd c (by decide))
      refine ev_go 2 (q := 432) (st' := .int 6 :: _ :: _) rfl ?_
      refine ev_icmp_ne (t := 444) (q := 435) rfl rfl rfl (fun _ => ?_) (fun c => absurd c (by decide))
      refine ev_go 2 (q := 447) (st' := .int 8 :: _ :: _) rfl ?_
      refine ev_icmp_ne (t := 464) (q := 450) rfl rfl rfl (fun _ => ?_) (fun c => absurd c (by decide))
      refine ev_go 3 (q := 469) rfl ?_
      refine ev_if_eq (t := 476) (q := 472) rfl rfl rfl (fun _ => ?_) (fun c => absurd (by decide) c)
      refine ev_go 1 (q := 477) (st' := .int 0 :: _) rfl ?_
      exact ev_iret rfl rfl (by (try simp only [am_b0, am_bn, Decidable.not_not] at *); simp [rdy, rd_kn, rd_wl, rd_num, rd_ln, rd_bx, rd_lk, bt, cl_kn, *]) (by (try simp only [am_b0, am_bn, Decidable.not_not] at *); simp [rdy, rd_kn, rd_wl, rd_num, rd_ln, rd_bx, rd_lk, bt, cl_kn, *])
  · refine ev_go 1 (q := 254) (st' := .int 1 :: _) rfl ?_
    exact ev_iret rfl rfl (by (try simp only [am_b0, am_bn, Decidable.not_not] at *); simp [rdy, rd_kn, rd_wl, rd_num, rd_ln, rd_bx, rd_lk, bt, cl_kn, *]) (by (try simp only [am_b0, am_bn, Decidable.not_not] at *); simp [rdy, rd_kn, rd_wl, rd_num, rd_ln, rd_bx, rd_lk, bt, cl_kn, *])
theorem m_ready2 (hn : 43 ≤ h.1) (hd : 2 < d) (hR : 1 ≤ R ∧ R ≤ 10) (hC : 1 ≤ C ∧ C ≤ 10) (h1 : σ 1 = nI R) (h2 : σ 2 = nI C) : am_m d z_Model_ready [.ref 18, .int 2] (mH h σ t A) (some (.int (rdy R C (ms_sel A) (A 15) t 2).1)) (mH h σ (rdy R C (ms_sel A) (A 15) t 2).2 A) := by
  refine ev_go 1 (q := 1) rfl ?_
  refine ev_get (q := 4) rfl (mH_o hn) rfl rfl rfl ?_
  refine ev_go 1 (q := 5) (st' := .int 0 :: _ :: _) rfl ?_
  refine ev_mia (q := 6) hn rfl (by decide) rfl rfl (by decide) rfl ?_
  refine ev_go 2 (q := 8) rfl ?_
  refine ev_get (q := 11) rfl (mH_o hn) rfl rfl rfl ?_
  refine ev_go 1 (q := 12) (st' := .int 1 :: _ :: _) rfl ?_
  refine ev_mia (q := 13) hn rfl (by decide) rfl rfl (by decide) rfl ?_
  refine ev_go 2 (q := 15) rfl ?_
  refine ev_get (q := 18) rfl (mH_o hn) rfl rfl rfl ?_
  refine ev_go 1 (q := 19) (st' := .int 2 :: _ :: _) rfl ?_
  refine ev_mia (q := 20) hn rfl (by decide) rfl rfl (by decide) rfl ?_
  refine ev_go 2 (q := 23) rfl ?_
  refine ev_get (q := 26) rfl (mH_o hn) rfl rfl rfl ?_
  refine ev_go 1 (q := 27) (st' := .int 3 :: _ :: _) rfl ?_
  refine ev_mia (q := 28) hn rfl (by decide) rfl rfl (by decide) rfl ?_
  refine ev_go 2 (q := 31) rfl ?_
  refine ev_get (q := 34) rfl (mH_o hn) rfl rfl rfl ?_
  refine ev_go 1 (q := 35) (st' := .int 4 :: _ :: _) rfl ?_
  refine ev_mia (q := 36) hn rfl (by decide) rfl rfl (by decide) rfl ?_
  refine ev_go 3 (q := 41) (st' := .int 8 :: _ :: _) rfl ?_
  refine ev_icmp_le (t := 197) (q := 44) rfl rfl rfl (fun _ => ?_) (fun c => absurd (by decide) c)
  refine ev_go 2 (q := 199) (st' := .int 2 :: _ :: _) rfl ?_
  refine ev_icmp_ne (t := 227) (q := 202) rfl rfl rfl (fun c => absurd (by decide) c) (fun _ => ?_)
  refine ev_go 2 (q := 204) rfl ?_
  refine ev_get (q := 207) rfl (mH_o hn) rfl rfl rfl ?_
  refine ev_go 2 (q := 211) (st' := .long (_ + 100000) :: _ :: _) rfl ?_
  refine ev_mputl (q := 214) hn rfl rfl rfl (by decide) rfl (mls_29 _ _ _) rfl ?_
  refine ev_go 3 (q := 219) rfl ?_
  refine ev_virt (z' := z_Model_isKnot) (q := 222) rfl rfl (by decide) rfl (by simp [Value.category]) rfl (by omega) rfl rfl (mH_o hn) (m_isKnot hn (by omega) hR hC h1 h2 _ _) ?_
  refine ev_if_ne (t := 227) (q := 225) rfl rfl rfl (fun zc1 => ?_) (fun zc1 => ?_)
  · refine ev_go 2 (q := 229) (st' := .int 4 :: _ :: _) rfl ?_
    refine ev_icmp_ge (t := 255) (q := 232) rfl rfl rfl (fun c => absurd c (by decide)) (fun _ => ?_)
    refine ev_go 2 (q := 234) rfl ?_
    refine ev_get (q := 237) rfl (mH_o hn) rfl rfl rfl ?_
    refine ev_go 2 (q := 241) (st' := .long (_ + 1000) :: _ :: _) rfl ?_
    refine ev_mputl (q := 244) hn rfl rfl rfl (by decide) rfl (mls_29 _ _ _) rfl ?_
    refine ev_go 3 (q := 247) rfl ?_
    refine ev_virt (z' := z_Model_isKnot) (q := 250) rfl rfl (by decide) rfl (by simp [Value.category]) rfl (by omega) rfl rfl (mH_o hn) (m_isKnot hn (by omega) hR hC h1 h2 _ _) ?_
    refine ev_if_ne (t := 276) (q := 253) rfl rfl rfl (fun zc2 => ?_) (fun zc2 => ?_)
    · refine ev_go 2 (q := 278) rfl ?_
      refine ev_get (q := 281) rfl (mH_o hn) rfl rfl rfl ?_
      refine ev_go 2 (q := 285) (st' := .long (_ + 10) :: _ :: _) rfl ?_
      refine ev_mputl (q := 288) hn rfl rfl rfl (by decide) rfl (mls_29 _ _ _) rfl ?_
      refine ev_go 2 (q := 290) (st' := .int 4 :: _ :: _) rfl ?_
      refine ev_icmp_lt (t := 299) (q := 293) rfl rfl rfl (fun _ => ?_) (fun c => absurd (by decide) c)
      refine ev_go 4 (q := 308) rfl ?_
      refine ev_if_eq (t := 322) (q := 311) rfl rfl rfl (fun c => absurd c (by decide)) (fun _ => ?_)
      refine ev_go 3 (q := 316) (st' := .int 9 :: .int 0 :: _ :: _) rfl ?_
      refine ev_static (z' := z_Model_in) (q := 319) rfl rfl (by decide) rfl rfl (by simp [Value.category]) rfl (by omega) (k_in _ _ _) ?_
      refine ev_if_eq (t := 348) (q := 322) rfl rfl rfl (fun zc3 => ?_) (fun zc3 => ?_)
      · refine ev_go 1 (q := 349) (st' := .int 2 :: _) rfl ?_
        exact ev_iret rfl rfl (by (try simp only [am_b0, am_bn, Decidable.not_not] at *); simp [rdy, rd_kn, rd_wl, rd_num, rd_ln, rd_bx, rd_lk, bt, cl_kn, *]) (by (try simp only [am_b0, am_bn, Decidable.not_not] at *); simp [rdy, rd_kn, rd_wl, rd_num, rd_ln, rd_bx, rd_lk, bt, cl_kn, *])
      · refine ev_go 2 (q := 325) (st' := .int 7 :: _ :: _) rfl ?_
        refine ev_icmp_ne (t := 350) (q := 328) rfl rfl rfl (fun _ => ?_) (fun c => absurd c (by decide))
        refine ev_go 2 (q := 352) rfl ?_
        refine ev_get (q := 355) rfl (mH_o hn) rfl rfl rfl ?_
        refine ev_go 2 (q := 357) (st' := .long (_ + 1) :: _ :: _) rfl ?_
        refine ev_mputl (q := 360) hn rfl rfl rfl (by decide) rfl (mls_29 _ _ _) rfl ?_
        refine ev_go 2 (q := 362) (st' := .int 3 :: _ :: _) rfl ?_
        refine ev_icmp_ne (t := 388) (q := 365) rfl rfl rfl (fun _ => ?_) (fun c => absurd c (by decide))
        refine ev_go 2 (q := 390) (st' := .int 4 :: _ :: _) rfl ?_
        refine ev_icmp_ne (t := 402) (q := 393) rfl rfl rfl (fun _ => ?_) (fun c => absurd c (by decide))
        refine ev_go 2 (q := 404) (st' := .int 5 :: _ :: _) rfl ?_
        refine ev_icmp_ne (t := 429) (q := 407) rfl rfl rfl (fun _ => ?_) (fun c => absurd c (by decide))
        refine ev_go 2 (q := 432) (st' := .int 6 :: _ :: _) rfl ?_
        refine ev_icmp_ne (t := 444) (q := 435) rfl rfl rfl (fun _ => ?_) (fun c => absurd c (by decide))
        refine ev_go 2 (q := 447) (st' := .int 8 :: _ :: _) rfl ?_
        refine ev_icmp_ne (t := 464) (q := 450) rfl rfl rfl (fun _ => ?_) (fun c => absurd c (by decide))
        refine ev_go 3 (q := 469) rfl ?_
        refine ev_if_eq (t := 476) (q := 472) rfl rfl rfl (fun _ => ?_) (fun c => absurd (by decide) c)
        refine ev_go 1 (q := 477) (st' := .int 0 :: _) rfl ?_
        exact ev_iret rfl rfl (by (try simp only [am_b0, am_bn, Decidable.not_not] at *); simp [rdy, rd_kn, rd_wl, rd_num, rd_ln, rd_bx, rd_lk, bt, cl_kn, *]) (by (try simp only [am_b0, am_bn, Decidable.not_not] at *); simp [rdy, rd_kn, rd_wl, rd_num, rd_ln, rd_bx, rd_lk, bt, cl_kn, *])
    · refine ev_go 1 (q := 254) (st' := .int 1 :: _) rfl ?_
      exact ev_iret rfl rfl (by (try simp only [am_b0, am_bn, Decidable.not_not] at *); simp [rdy, rd_kn, rd_wl, rd_num, rd_ln, rd_bx, rd_lk, bt, cl_kn, *]) (by (try simp only [am_b0, am_bn, Decidable.not_not] at *); simp [rdy, rd_kn, rd_wl, rd_num, rd_ln, rd_bx, rd_lk, bt, cl_kn, *])
  · refine ev_go 1 (q := 226) (st' := .int 1 :: _) rfl ?_
    exact ev_iret rfl rfl (by (try simp only [am_b0, am_bn, Decidable.not_not] at *); simp [rdy, rd_kn, rd_wl, rd_num, rd_ln, rd_bx, rd_lk, bt, cl_kn, *]) (by (try simp only [am_b0, am_bn, Decidable.not_not] at *); simp [rdy, rd_kn, rd_wl, rd_num, rd_ln, rd_bx, rd_lk, bt, cl_kn, *])
theorem m_ready3 (hn : 43 ≤ h.1) (hd : 2 < d) (hR : 1 ≤ R ∧ R ≤ 10) (hC : 1 ≤ C ∧ C ≤ 10) (h1 : σ 1 = nI R) (h2 : σ 2 = nI C) : am_m d z_Model_ready [.ref 18, .int 3] (mH h σ t A) (some (.int (rdy R C (ms_sel A) (A 15) t 3).1)) (mH h σ (rdy R C (ms_sel A) (A 15) t 3).2 A) := by
  refine ev_go 1 (q := 1) rfl ?_
  refine ev_get (q := 4) rfl (mH_o hn) rfl rfl rfl ?_
  refine ev_go 1 (q := 5) (st' := .int 0 :: _ :: _) rfl ?_
  refine ev_mia (q := 6) hn rfl (by decide) rfl rfl (by decide) rfl ?_
  refine ev_go 2 (q := 8) rfl ?_
  refine ev_get (q := 11) rfl (mH_o hn) rfl rfl rfl ?_
  refine ev_go 1 (q := 12) (st' := .int 1 :: _ :: _) rfl ?_
  refine ev_mia (q := 13) hn rfl (by decide) rfl rfl (by decide) rfl ?_
  refine ev_go 2 (q := 15) rfl ?_
  refine ev_get (q := 18) rfl (mH_o hn) rfl rfl rfl ?_
  refine ev_go 1 (q := 19) (st' := .int 2 :: _ :: _) rfl ?_
  refine ev_mia (q := 20) hn rfl (by decide) rfl rfl (by decide) rfl ?_
  refine ev_go 2 (q := 23) rfl ?_
  refine ev_get (q := 26) rfl (mH_o hn) rfl rfl rfl ?_
  refine ev_go 1 (q := 27) (st' := .int 3 :: _ :: _) rfl ?_
  refine ev_mia (q := 28) hn rfl (by decide) rfl rfl (by decide) rfl ?_
  refine ev_go 2 (q := 31) rfl ?_
  refine ev_get (q := 34) rfl (mH_o hn) rfl rfl rfl ?_
  refine ev_go 1 (q := 35) (st' := .int 4 :: _ :: _) rfl ?_
  refine ev_mia (q := 36) hn rfl (by decide) rfl rfl (by decide) rfl ?_
  refine ev_go 3 (q := 41) (st' := .int 8 :: _ :: _) rfl ?_
  refine ev_icmp_le (t := 197) (q := 44) rfl rfl rfl (fun _ => ?_) (fun c => absurd (by decide) c)
  refine ev_go 2 (q := 199) (st' := .int 2 :: _ :: _) rfl ?_
  refine ev_icmp_ne (t := 227) (q := 202) rfl rfl rfl (fun _ => ?_) (fun c => absurd c (by decide))
  refine ev_go 2 (q := 229) (st' := .int 4 :: _ :: _) rfl ?_
  refine ev_icmp_ge (t := 255) (q := 232) rfl rfl rfl (fun c => absurd c (by decide)) (fun _ => ?_)
  refine ev_go 2 (q := 234) rfl ?_
  refine ev_get (q := 237) rfl (mH_o hn) rfl rfl rfl ?_
  refine ev_go 2 (q := 241) (st' := .long (_ + 1000) :: _ :: _) rfl ?_
  refine ev_mputl (q := 244) hn rfl rfl rfl (by decide) rfl (mls_29 _ _ _) rfl ?_
  refine ev_go 3 (q := 247) rfl ?_
  refine ev_virt (z' := z_Model_isKnot) (q := 250) rfl rfl (by decide) rfl (by simp [Value.category]) rfl (by omega) rfl rfl (mH_o hn) (m_isKnot hn (by omega) hR hC h1 h2 _ _) ?_
  refine ev_if_ne (t := 276) (q := 253) rfl rfl rfl (fun zc1 => ?_) (fun zc1 => ?_)
  · refine ev_go 2 (q := 278) rfl ?_
    refine ev_get (q := 281) rfl (mH_o hn) rfl rfl rfl ?_
    refine ev_go 2 (q := 285) (st' := .long (_ + 10) :: _ :: _) rfl ?_
    refine ev_mputl (q := 288) hn rfl rfl rfl (by decide) rfl (mls_29 _ _ _) rfl ?_
    refine ev_go 2 (q := 290) (st' := .int 4 :: _ :: _) rfl ?_
    refine ev_icmp_lt (t := 299) (q := 293) rfl rfl rfl (fun _ => ?_) (fun c => absurd (by decide) c)
    refine ev_go 4 (q := 308) rfl ?_
    refine ev_if_eq (t := 322) (q := 311) rfl rfl rfl (fun c => absurd c (by decide)) (fun _ => ?_)
    refine ev_go 3 (q := 316) (st' := .int 9 :: .int 0 :: _ :: _) rfl ?_
    refine ev_static (z' := z_Model_in) (q := 319) rfl rfl (by decide) rfl rfl (by simp [Value.category]) rfl (by omega) (k_in _ _ _) ?_
    refine ev_if_eq (t := 348) (q := 322) rfl rfl rfl (fun zc2 => ?_) (fun zc2 => ?_)
    · refine ev_go 1 (q := 349) (st' := .int 2 :: _) rfl ?_
      exact ev_iret rfl rfl (by (try simp only [am_b0, am_bn, Decidable.not_not] at *); simp [rdy, rd_kn, rd_wl, rd_num, rd_ln, rd_bx, rd_lk, bt, cl_kn, *]) (by (try simp only [am_b0, am_bn, Decidable.not_not] at *); simp [rdy, rd_kn, rd_wl, rd_num, rd_ln, rd_bx, rd_lk, bt, cl_kn, *])
    · refine ev_go 2 (q := 325) (st' := .int 7 :: _ :: _) rfl ?_
      refine ev_icmp_ne (t := 350) (q := 328) rfl rfl rfl (fun _ => ?_) (fun c => absurd c (by decide))
      refine ev_go 2 (q := 352) rfl ?_
      refine ev_get (q := 355) rfl (mH_o hn) rfl rfl rfl ?_
      refine ev_go 2 (q := 357) (st' := .long (_ + 1) :: _ :: _) rfl ?_
      refine ev_mputl (q := 360) hn rfl rfl rfl (by decide) rfl (mls_29 _ _ _) rfl ?_
      refine ev_go 2 (q := 362) (st' := .int 3 :: _ :: _) rfl ?_
      refine ev_icmp_ne (t := 388) (q := 365) rfl rfl rfl (fun c => absurd (by decide) c) (fun _ => ?_)
      refine ev_go 3 (q := 371) (st' := .int 511 :: .int 0 :: _ :: _) rfl ?_
      refine ev_static (z' := z_Model_in) (q := 374) rfl rfl (by decide) rfl rfl (by simp [Value.category]) rfl (by omega) (k_in _ _ _) ?_
      refine ev_if_eq (t := 460) (q := 377) rfl rfl rfl (fun zc3 => ?_) (fun zc3 => ?_)
      · refine ev_go 4 (q := 469) rfl ?_
        refine ev_if_eq (t := 476) (q := 472) rfl rfl rfl (fun c => absurd c (by decide)) (fun _ => ?_)
        refine ev_go 2 (q := 477) (st' := .int 4 :: _) rfl ?_
        exact ev_iret rfl rfl (by (try simp only [am_b0, am_bn, Decidable.not_not] at *); simp [rdy, rd_kn, rd_wl, rd_num, rd_ln, rd_bx, rd_lk, bt, cl_kn, *]) (by (try simp only [am_b0, am_bn, Decidable.not_not] at *); simp [rdy, rd_kn, rd_wl, rd_num, rd_ln, rd_bx, rd_lk, bt, cl_kn, *])
      · refine ev_go 3 (q := 382) (st' := .int 7 :: .int 0 :: _ :: _) rfl ?_
        refine ev_static (z' := z_Model_in) (q := 385) rfl rfl (by decide) rfl rfl (by simp [Value.category]) rfl (by omega) (k_in _ _ _) ?_
        refine ev_if_eq (t := 460) (q := 388) rfl rfl rfl (fun zc4 => ?_) (fun zc4 => ?_)
        · refine ev_go 4 (q := 469) rfl ?_
          refine ev_if_eq (t := 476) (q := 472) rfl rfl rfl (fun c => absurd c (by decide)) (fun _ => ?_)
          refine ev_go 2 (q := 477) (st' := .int 4 :: _) rfl ?_
          exact ev_iret rfl rfl (by (try simp only [am_b0, am_bn, Decidable.not_not] at *); simp [rdy, rd_kn, rd_wl, rd_num, rd_ln, rd_bx, rd_lk, bt, cl_kn, *]) (by (try simp only [am_b0, am_bn, Decidable.not_not] at *); simp [rdy, rd_kn, rd_wl, rd_num, rd_ln, rd_bx, rd_lk, bt, cl_kn, *])
        · refine ev_go 2 (q := 390) (st' := .int 4 :: _ :: _) rfl ?_
          refine ev_icmp_ne (t := 402) (q := 393) rfl rfl rfl (fun _ => ?_) (fun c => absurd c (by decide))
          refine ev_go 2 (q := 404) (st' := .int 5 :: _ :: _) rfl ?_
          refine ev_icmp_ne (t := 429) (q := 407) rfl rfl rfl (fun _ => ?_) (fun c => absurd c (by decide))
          refine ev_go 2 (q := 432) (st' := .int 6 :: _ :: _) rfl ?_
          refine ev_icmp_ne (t := 444) (q := 435) rfl rfl rfl (fun _ => ?_) (fun c => absurd c (by decide))
          refine ev_go 2 (q := 447) (st' := .int 8 :: _ :: _) rfl ?_
          refine ev_icmp_ne (t := 464) (q := 450) rfl rfl rfl (fun _ => ?_) (fun c => absurd c (by decide))
          refine ev_go 3 (q := 469) rfl ?_
          refine ev_if_eq (t := 476) (q := 472) rfl rfl rfl (fun _ => ?_) (fun c => absurd (by decide) c)
          refine ev_go 1 (q := 477) (st' := .int 0 :: _) rfl ?_
          exact ev_iret rfl rfl (by (try simp only [am_b0, am_bn, Decidable.not_not] at *); simp [rdy, rd_kn, rd_wl, rd_num, rd_ln, rd_bx, rd_lk, bt, cl_kn, *]) (by (try simp only [am_b0, am_bn, Decidable.not_not] at *); simp [rdy, rd_kn, rd_wl, rd_num, rd_ln, rd_bx, rd_lk, bt, cl_kn, *])
  · refine ev_go 1 (q := 254) (st' := .int 1 :: _) rfl ?_
    exact ev_iret rfl rfl (by (try simp only [am_b0, am_bn, Decidable.not_not] at *); simp [rdy, rd_kn, rd_wl, rd_num, rd_ln, rd_bx, rd_lk, bt, cl_kn, *]) (by (try simp only [am_b0, am_bn, Decidable.not_not] at *); simp [rdy, rd_kn, rd_wl, rd_num, rd_ln, rd_bx, rd_lk, bt, cl_kn, *])
theorem m_ready4 (hn : 43 ≤ h.1) (hd : 2 < d) (hR : 1 ≤ R ∧ R ≤ 10) (hC : 1 ≤ C ∧ C ≤ 10) (h1 : σ 1 = nI R) (h2 : σ 2 = nI C) : am_m d z_Model_ready [.ref 18, .int 4] (mH h σ t A) (some (.int (rdy R C (ms_sel A) (A 15) t 4).1)) (mH h σ (rdy R C (ms_sel A) (A 15) t 4).2 A) := by
  refine ev_go 1 (q := 1) rfl ?_
  refine ev_get (q := 4) rfl (mH_o hn) rfl rfl rfl ?_
  refine ev_go 1 (q := 5) (st' := .int 0 :: _ :: _) rfl ?_
  refine ev_mia (q := 6) hn rfl (by decide) rfl rfl (by decide) rfl ?_
  refine ev_go 2 (q := 8) rfl ?_
  refine ev_get (q := 11) rfl (mH_o hn) rfl rfl rfl ?_
  refine ev_go 1 (q := 12) (st' := .int 1 :: _ :: _) rfl ?_
  refine ev_mia (q := 13) hn rfl (by decide) rfl rfl (by decide) rfl ?_
  refine ev_go 2 (q := 15) rfl ?_
  refine ev_get (q := 18) rfl (mH_o hn) rfl rfl rfl ?_
  refine ev_go 1 (q := 19) (st' := .int 2 :: _ :: _) rfl ?_
  refine ev_mia (q := 20) hn rfl (by decide) rfl rfl (by decide) rfl ?_
  refine ev_go 2 (q := 23) rfl ?_
  refine ev_get (q := 26) rfl (mH_o hn) rfl rfl rfl ?_
  refine ev_go 1 (q := 27) (st' := .int 3 :: _ :: _) rfl ?_
  refine ev_mia (q := 28) hn rfl (by decide) rfl rfl (by decide) rfl ?_
  refine ev_go 2 (q := 31) rfl ?_
  refine ev_get (q := 34) rfl (mH_o hn) rfl rfl rfl ?_
  refine ev_go 1 (q := 35) (st' := .int 4 :: _ :: _) rfl ?_
  refine ev_mia (q := 36) hn rfl (by decide) rfl rfl (by decide) rfl ?_
  refine ev_go 3 (q := 41) (st' := .int 8 :: _ :: _) rfl ?_
  refine ev_icmp_le (t := 197) (q := 44) rfl rfl rfl (fun _ => ?_) (fun c => absurd (by decide) c)
  refine ev_go 2 (q := 199) (st' := .int 2 :: _ :: _) rfl ?_
  refine ev_icmp_ne (t := 227) (q := 202) rfl rfl rfl (fun _ => ?_) (fun c => absurd c (by decide))
  refine ev_go 2 (q := 229) (st' := .int 4 :: _ :: _) rfl ?_
  refine ev_icmp_ge (t := 255) (q := 232) rfl rfl rfl (fun _ => ?_) (fun c => absurd (by decide) c)
  refine ev_go 2 (q := 257) rfl ?_
  refine ev_get (q := 260) rfl (mH_o hn) rfl rfl rfl ?_
  refine ev_go 2 (q := 264) (st' := .long (_ + 10000) :: _ :: _) rfl ?_
  refine ev_mputl (q := 267) hn rfl rfl rfl (by decide) rfl (mls_29 _ _ _) rfl ?_
  refine ev_go 1 (q := 268) rfl ?_
  refine ev_virt (z' := z_Model_selected) (q := 271) rfl rfl (by decide) rfl (by simp [Value.category]) rfl (by omega) rfl rfl (mH_o hn) (m_selected hn) ?_
  refine ev_if_ne (t := 276) (q := 274) rfl rfl rfl (fun zc1 => ?_) (fun zc1 => ?_)
  · refine ev_go 2 (q := 278) rfl ?_
    refine ev_get (q := 281) rfl (mH_o hn) rfl rfl rfl ?_
    refine ev_go 2 (q := 285) (st' := .long (_ + 10) :: _ :: _) rfl ?_
    refine ev_mputl (q := 288) hn rfl rfl rfl (by decide) rfl (mls_29 _ _ _) rfl ?_
    refine ev_go 2 (q := 290) (st' := .int 4 :: _ :: _) rfl ?_
    refine ev_icmp_lt (t := 299) (q := 293) rfl rfl rfl (fun c => absurd c (by decide)) (fun _ => ?_)
    refine ev_go 2 (q := 296) (st' := .int 6 :: _ :: _) rfl ?_
    refine ev_icmp_ne (t := 303) (q := 299) rfl rfl rfl (fun _ => ?_) (fun c => absurd c (by decide))
    refine ev_go 3 (q := 308) rfl ?_
    refine ev_if_eq (t := 322) (q := 311) rfl rfl rfl (fun _ => ?_) (fun c => absurd (by decide) c)
    refine ev_go 2 (q := 325) (st' := .int 7 :: _ :: _) rfl ?_
    refine ev_icmp_ne (t := 350) (q := 328) rfl rfl rfl (fun _ => ?_) (fun c => absurd c (by decide))
    refine ev_go 2 (q := 352) rfl ?_
    refine ev_get (q := 355) rfl (mH_o hn) rfl rfl rfl ?_
    refine ev_go 2 (q := 357) (st' := .long (_ + 1) :: _ :: _) rfl ?_
    refine ev_mputl (q := 360) hn rfl rfl rfl (by decide) rfl (mls_29 _ _ _) rfl ?_
    refine ev_go 2 (q := 362) (st' := .int 3 :: _ :: _) rfl ?_
    refine ev_icmp_ne (t := 388) (q := 365) rfl rfl rfl (fun _ => ?_) (fun c => absurd c (by decide))
    refine ev_go 2 (q := 390) (st' := .int 4 :: _ :: _) rfl ?_
    refine ev_icmp_ne (t := 402) (q := 393) rfl rfl rfl (fun c => absurd (by decide) c) (fun _ => ?_)
    refine ev_go 3 (q := 396) (st' := .int 1 :: .int 0 :: _ :: _) rfl ?_
    refine ev_static (z' := z_Model_in) (q := 399) rfl rfl (by decide) rfl rfl (by simp [Value.category]) rfl (by omega) (k_in _ _ _) ?_
    refine ev_if_eq (t := 460) (q := 402) rfl rfl rfl (fun zc2 => ?_) (fun zc2 => ?_)
    · refine ev_go 4 (q := 469) rfl ?_
      refine ev_if_eq (t := 476) (q := 472) rfl rfl rfl (fun c => absurd c (by decide)) (fun _ => ?_)
      refine ev_go 2 (q := 477) (st' := .int 4 :: _) rfl ?_
      exact ev_iret rfl rfl (by (try simp only [am_b0, am_bn, Decidable.not_not] at *); simp [rdy, rd_kn, rd_wl, rd_num, rd_ln, rd_bx, rd_lk, bt, cl_kn, *]) (by (try simp only [am_b0, am_bn, Decidable.not_not] at *); simp [rdy, rd_kn, rd_wl, rd_num, rd_ln, rd_bx, rd_lk, bt, cl_kn, *])
    · refine ev_go 2 (q := 404) (st' := .int 5 :: _ :: _) rfl ?_
      refine ev_icmp_ne (t := 429) (q := 407) rfl rfl rfl (fun _ => ?_) (fun c => absurd c (by decide))
      refine ev_go 2 (q := 432) (st' := .int 6 :: _ :: _) rfl ?_
      refine ev_icmp_ne (t := 444) (q := 435) rfl rfl rfl (fun _ => ?_) (fun c => absurd c (by decide))
      refine ev_go 2 (q := 447) (st' := .int 8 :: _ :: _) rfl ?_
      refine ev_icmp_ne (t := 464) (q := 450) rfl rfl rfl (fun _ => ?_) (fun c => absurd c (by decide))
      refine ev_go 3 (q := 469) rfl ?_
      refine ev_if_eq (t := 476) (q := 472) rfl rfl rfl (fun _ => ?_) (fun c => absurd (by decide) c)
      refine ev_go 1 (q := 477) (st' := .int 0 :: _) rfl ?_
      exact ev_iret rfl rfl (by (try simp only [am_b0, am_bn, Decidable.not_not] at *); simp [rdy, rd_kn, rd_wl, rd_num, rd_ln, rd_bx, rd_lk, bt, cl_kn, *]) (by (try simp only [am_b0, am_bn, Decidable.not_not] at *); simp [rdy, rd_kn, rd_wl, rd_num, rd_ln, rd_bx, rd_lk, bt, cl_kn, *])
  · refine ev_go 1 (q := 275) (st' := .int 3 :: _) rfl ?_
    exact ev_iret rfl rfl (by (try simp only [am_b0, am_bn, Decidable.not_not] at *); simp [rdy, rd_kn, rd_wl, rd_num, rd_ln, rd_bx, rd_lk, bt, cl_kn, *]) (by (try simp only [am_b0, am_bn, Decidable.not_not] at *); simp [rdy, rd_kn, rd_wl, rd_num, rd_ln, rd_bx, rd_lk, bt, cl_kn, *])
theorem m_ready5 (hn : 43 ≤ h.1) (hd : 2 < d) (hR : 1 ≤ R ∧ R ≤ 10) (hC : 1 ≤ C ∧ C ≤ 10) (h1 : σ 1 = nI R) (h2 : σ 2 = nI C) : am_m d z_Model_ready [.ref 18, .int 5] (mH h σ t A) (some (.int (rdy R C (ms_sel A) (A 15) t 5).1)) (mH h σ (rdy R C (ms_sel A) (A 15) t 5).2 A) := by
  refine ev_go 1 (q := 1) rfl ?_
  refine ev_get (q := 4) rfl (mH_o hn) rfl rfl rfl ?_
  refine ev_go 1 (q := 5) (st' := .int 0 :: _ :: _) rfl ?_
  refine ev_mia (q := 6) hn rfl (by decide) rfl rfl (by decide) rfl ?_
  refine ev_go 2 (q := 8) rfl ?_
  refine ev_get (q := 11) rfl (mH_o hn) rfl rfl rfl ?_
  refine ev_go 1 (q := 12) (st' := .int 1 :: _ :: _) rfl ?_
  refine ev_mia (q := 13) hn rfl (by decide) rfl rfl (by decide) rfl ?_
  refine ev_go 2 (q := 15) rfl ?_
  refine ev_get (q := 18) rfl (mH_o hn) rfl rfl rfl ?_
  refine ev_go 1 (q := 19) (st' := .int 2 :: _ :: _) rfl ?_
  refine ev_mia (q := 20) hn rfl (by decide) rfl rfl (by decide) rfl ?_
  refine ev_go 2 (q := 23) rfl ?_
  refine ev_get (q := 26) rfl (mH_o hn) rfl rfl rfl ?_
  refine ev_go 1 (q := 27) (st' := .int 3 :: _ :: _) rfl ?_
  refine ev_mia (q := 28) hn rfl (by decide) rfl rfl (by decide) rfl ?_
  refine ev_go 2 (q := 31) rfl ?_
  refine ev_get (q := 34) rfl (mH_o hn) rfl rfl rfl ?_
  refine ev_go 1 (q := 35) (st' := .int 4 :: _ :: _) rfl ?_
  refine ev_mia (q := 36) hn rfl (by decide) rfl rfl (by decide) rfl ?_
  refine ev_go 3 (q := 41) (st' := .int 8 :: _ :: _) rfl ?_
  refine ev_icmp_le (t := 197) (q := 44) rfl rfl rfl (fun _ => ?_) (fun c => absurd (by decide) c)
  refine ev_go 2 (q := 199) (st' := .int 2 :: _ :: _) rfl ?_
  refine ev_icmp_ne (t := 227) (q := 202) rfl rfl rfl (fun _ => ?_) (fun c => absurd c (by decide))
  refine ev_go 2 (q := 229) (st' := .int 4 :: _ :: _) rfl ?_
  refine ev_icmp_ge (t := 255) (q := 232) rfl rfl rfl (fun _ => ?_) (fun c => absurd (by decide) c)
  refine ev_go 2 (q := 257) rfl ?_
  refine ev_get (q := 260) rfl (mH_o hn) rfl rfl rfl ?_
  refine ev_go 2 (q := 264) (st' := .long (_ + 10000) :: _ :: _) rfl ?_
  refine ev_mputl (q := 267) hn rfl rfl rfl (by decide) rfl (mls_29 _ _ _) rfl ?_
  refine ev_go 1 (q := 268) rfl ?_
  refine ev_virt (z' := z_Model_selected) (q := 271) rfl rfl (by decide) rfl (by simp [Value.category]) rfl (by omega) rfl rfl (mH_o hn) (m_selected hn) ?_
  refine ev_if_ne (t := 276) (q := 274) rfl rfl rfl (fun zc1 => ?_) (fun zc1 => ?_)
  · refine ev_go 2 (q := 278) rfl ?_
    refine ev_get (q := 281) rfl (mH_o hn) rfl rfl rfl ?_
    refine ev_go 2 (q := 285) (st' := .long (_ + 10) :: _ :: _) rfl ?_
    refine ev_mputl (q := 288) hn rfl rfl rfl (by decide) rfl (mls_29 _ _ _) rfl ?_
    refine ev_go 2 (q := 290) (st' := .int 4 :: _ :: _) rfl ?_
    refine ev_icmp_lt (t := 299) (q := 293) rfl rfl rfl (fun c => absurd c (by decide)) (fun _ => ?_)
    refine ev_go 2 (q := 296) (st' := .int 6 :: _ :: _) rfl ?_
    refine ev_icmp_ne (t := 303) (q := 299) rfl rfl rfl (fun _ => ?_) (fun c => absurd c (by decide))
    refine ev_go 3 (q := 308) rfl ?_
    refine ev_if_eq (t := 322) (q := 311) rfl rfl rfl (fun _ => ?_) (fun c => absurd (by decide) c)
    refine ev_go 2 (q := 325) (st' := .int 7 :: _ :: _) rfl ?_
    refine ev_icmp_ne (t := 350) (q := 328) rfl rfl rfl (fun _ => ?_) (fun c => absurd c (by decide))
    refine ev_go 2 (q := 352) rfl ?_
    refine ev_get (q := 355) rfl (mH_o hn) rfl rfl rfl ?_
    refine ev_go 2 (q := 357) (st' := .long (_ + 1) :: _ :: _) rfl ?_
    refine ev_mputl (q := 360) hn rfl rfl rfl (by decide) rfl (mls_29 _ _ _) rfl ?_
    refine ev_go 2 (q := 362) (st' := .int 3 :: _ :: _) rfl ?_
    refine ev_icmp_ne (t := 388) (q := 365) rfl rfl rfl (fun _ => ?_) (fun c => absurd c (by decide))
    refine ev_go 2 (q := 390) (st' := .int 4 :: _ :: _) rfl ?_
    refine ev_icmp_ne (t := 402) (q := 393) rfl rfl rfl (fun _ => ?_) (fun c => absurd c (by decide))
    refine ev_go 2 (q := 404) (st' := .int 5 :: _ :: _) rfl ?_
    refine ev_icmp_ne (t := 429) (q := 407) rfl rfl rfl (fun c => absurd (by decide) c) (fun _ => ?_)
    refine ev_go 3 (q := 412) (st' := .int 20 :: .int (-20) :: _ :: _) rfl ?_
    refine ev_static (z' := z_Model_in) (q := 415) rfl rfl (by decide) rfl rfl (by simp [Value.category]) rfl (by omega) (k_in _ _ _) ?_
    refine ev_if_eq (t := 460) (q := 418) rfl rfl rfl (fun zc2 => ?_) (fun zc2 => ?_)
    · refine ev_go 4 (q := 469) rfl ?_
      refine ev_if_eq (t := 476) (q := 472) rfl rfl rfl (fun c => absurd c (by decide)) (fun _ => ?_)
      refine ev_go 2 (q := 477) (st' := .int 4 :: _) rfl ?_
      exact ev_iret rfl rfl (by (try simp only [am_b0, am_bn, Decidable.not_not] at *); simp [rdy, rd_kn, rd_wl, rd_num, rd_ln, rd_bx, rd_lk, bt, cl_kn, *]) (by (try simp only [am_b0, am_bn, Decidable.not_not] at *); simp [rdy, rd_kn, rd_wl, rd_num, rd_ln, rd_bx, rd_lk, bt, cl_kn, *])
    · refine ev_go 3 (q := 423) (st' := .int 20 :: .int (-20) :: _ :: _) rfl ?_
      refine ev_static (z' := z_Model_in) (q := 426) rfl rfl (by decide) rfl rfl (by simp [Value.category]) rfl (by omega) (k_in _ _ _) ?_
      refine ev_if_eq (t := 460) (q := 429) rfl rfl rfl (fun zc3 => ?_) (fun zc3 => ?_)
      · refine ev_go 4 (q := 469) rfl ?_
        refine ev_if_eq (t := 476) (q := 472) rfl rfl rfl (fun c => absurd c (by decide)) (fun _ => ?_)
        refine ev_go 2 (q := 477) (st' := .int 4 :: _) rfl ?_
        exact ev_iret rfl rfl (by (try simp only [am_b0, am_bn, Decidable.not_not] at *); simp [rdy, rd_kn, rd_wl, rd_num, rd_ln, rd_bx, rd_lk, bt, cl_kn, *]) (by (try simp only [am_b0, am_bn, Decidable.not_not] at *); simp [rdy, rd_kn, rd_wl, rd_num, rd_ln, rd_bx, rd_lk, bt, cl_kn, *])
      · refine ev_go 2 (q := 432) (st' := .int 6 :: _ :: _) rfl ?_
        refine ev_icmp_ne (t := 444) (q := 435) rfl rfl rfl (fun _ => ?_) (fun c => absurd c (by decide))
        refine ev_go 2 (q := 447) (st' := .int 8 :: _ :: _) rfl ?_
        refine ev_icmp_ne (t := 464) (q := 450) rfl rfl rfl (fun _ => ?_) (fun c => absurd c (by decide))
        refine ev_go 3 (q := 469) rfl ?_
        refine ev_if_eq (t := 476) (q := 472) rfl rfl rfl (fun _ => ?_) (fun c => absurd (by decide) c)
        refine ev_go 1 (q := 477) (st' := .int 0 :: _) rfl ?_
        exact ev_iret rfl rfl (by (try simp only [am_b0, am_bn, Decidable.not_not] at *); simp [rdy, rd_kn, rd_wl, rd_num, rd_ln, rd_bx, rd_lk, bt, cl_kn, *]) (by (try simp only [am_b0, am_bn, Decidable.not_not] at *); simp [rdy, rd_kn, rd_wl, rd_num, rd_ln, rd_bx, rd_lk, bt, cl_kn, *])
  · refine ev_go 1 (q := 275) (st' := .int 3 :: _) rfl ?_
    exact ev_iret rfl rfl (by (try simp only [am_b0, am_bn, Decidable.not_not] at *); simp [rdy, rd_kn, rd_wl, rd_num, rd_ln, rd_bx, rd_lk, bt, cl_kn, *]) (by (try simp only [am_b0, am_bn, Decidable.not_not] at *); simp [rdy, rd_kn, rd_wl, rd_num, rd_ln, rd_bx, rd_lk, bt, cl_kn, *])
theorem m_ready6 (hn : 43 ≤ h.1) (hd : 2 < d) (hR : 1 ≤ R ∧ R ≤ 10) (hC : 1 ≤ C ∧ C ≤ 10) (h1 : σ 1 = nI R) (h2 : σ 2 = nI C) : am_m d z_Model_ready [.ref 18, .int 6] (mH h σ t A) (some (.int (rdy R C (ms_sel A) (A 15) t 6).1)) (mH h σ (rdy R C (ms_sel A) (A 15) t 6).2 A) := by
  refine ev_go 1 (q := 1) rfl ?_
  refine ev_get (q := 4) rfl (mH_o hn) rfl rfl rfl ?_
  refine ev_go 1 (q := 5) (st' := .int 0 :: _ :: _) rfl ?_
  refine ev_mia (q := 6) hn rfl (by decide) rfl rfl (by decide) rfl ?_
  refine ev_go 2 (q := 8) rfl ?_
  refine ev_get (q := 11) rfl (mH_o hn) rfl rfl rfl ?_
  refine ev_go 1 (q := 12) (st' := .int 1 :: _ :: _) rfl ?_
  refine ev_mia (q := 13) hn rfl (by decide) rfl rfl (by decide) rfl ?_
  refine ev_go 2 (q := 15) rfl ?_
  refine ev_get (q := 18) rfl (mH_o hn) rfl rfl rfl ?_
  refine ev_go 1 (q := 19) (st' := .int 2 :: _ :: _) rfl ?_
  refine ev_mia (q := 20) hn rfl (by decide) rfl rfl (by decide) rfl ?_
  refine ev_go 2 (q := 23) rfl ?_
  refine ev_get (q := 26) rfl (mH_o hn) rfl rfl rfl ?_
  refine ev_go 1 (q := 27) (st' := .int 3 :: _ :: _) rfl ?_
  refine ev_mia (q := 28) hn rfl (by decide) rfl rfl (by decide) rfl ?_
  refine ev_go 2 (q := 31) rfl ?_
  refine ev_get (q := 34) rfl (mH_o hn) rfl rfl rfl ?_
  refine ev_go 1 (q := 35) (st' := .int 4 :: _ :: _) rfl ?_
  refine ev_mia (q := 36) hn rfl (by decide) rfl rfl (by decide) rfl ?_
  refine ev_go 3 (q := 41) (st' := .int 8 :: _ :: _) rfl ?_
  refine ev_icmp_le (t := 197) (q := 44) rfl rfl rfl (fun _ => ?_) (fun c => absurd (by decide) c)
  refine ev_go 2 (q := 199) (st' := .int 2 :: _ :: _) rfl ?_
  refine ev_icmp_ne (t := 227) (q := 202) rfl rfl rfl (fun _ => ?_) (fun c => absurd c (by decide))
  refine ev_go 2 (q := 229) (st' := .int 4 :: _ :: _) rfl ?_
  refine ev_icmp_ge (t := 255) (q := 232) rfl rfl rfl (fun _ => ?_) (fun c => absurd (by decide) c)
  refine ev_go 2 (q := 257) rfl ?_
  refine ev_get (q := 260) rfl (mH_o hn) rfl rfl rfl ?_
  refine ev_go 2 (q := 264) (st' := .long (_ + 10000) :: _ :: _) rfl ?_
  refine ev_mputl (q := 267) hn rfl rfl rfl (by decide) rfl (mls_29 _ _ _) rfl ?_
  refine ev_go 1 (q := 268) rfl ?_
  refine ev_virt (z' := z_Model_selected) (q := 271) rfl rfl (by decide) rfl (by simp [Value.category]) rfl (by omega) rfl rfl (mH_o hn) (m_selected hn) ?_
  refine ev_if_ne (t := 276) (q := 274) rfl rfl rfl (fun zc1 => ?_) (fun zc1 => ?_)
  · refine ev_go 2 (q := 278) rfl ?_
    refine ev_get (q := 281) rfl (mH_o hn) rfl rfl rfl ?_
    refine ev_go 2 (q := 285) (st' := .long (_ + 10) :: _ :: _) rfl ?_
    refine ev_mputl (q := 288) hn rfl rfl rfl (by decide) rfl (mls_29 _ _ _) rfl ?_
    refine ev_go 2 (q := 290) (st' := .int 4 :: _ :: _) rfl ?_
    refine ev_icmp_lt (t := 299) (q := 293) rfl rfl rfl (fun c => absurd c (by decide)) (fun _ => ?_)
    refine ev_go 2 (q := 296) (st' := .int 6 :: _ :: _) rfl ?_
    refine ev_icmp_ne (t := 303) (q := 299) rfl rfl rfl (fun c => absurd (by decide) c) (fun _ => ?_)
    refine ev_go 4 (q := 308) rfl ?_
    refine ev_if_eq (t := 322) (q := 311) rfl rfl rfl (fun c => absurd c (by decide)) (fun _ => ?_)
    refine ev_go 3 (q := 316) (st' := .int 9 :: .int 0 :: _ :: _) rfl ?_
    refine ev_static (z' := z_Model_in) (q := 319) rfl rfl (by decide) rfl rfl (by simp [Value.category]) rfl (by omega) (k_in _ _ _) ?_
    refine ev_if_eq (t := 348) (q := 322) rfl rfl rfl (fun zc2 => ?_) (fun zc2 => ?_)
    · refine ev_go 1 (q := 349) (st' := .int 2 :: _) rfl ?_
      exact ev_iret rfl rfl (by (try simp only [am_b0, am_bn, Decidable.not_not] at *); simp [rdy, rd_kn, rd_wl, rd_num, rd_ln, rd_bx, rd_lk, bt, cl_kn, *]) (by (try simp only [am_b0, am_bn, Decidable.not_not] at *); simp [rdy, rd_kn, rd_wl, rd_num, rd_ln, rd_bx, rd_lk, bt, cl_kn, *])
    · refine ev_go 2 (q := 325) (st' := .int 7 :: _ :: _) rfl ?_
      refine ev_icmp_ne (t := 350) (q := 328) rfl rfl rfl (fun _ => ?_) (fun c => absurd c (by decide))
      refine ev_go 2 (q := 352) rfl ?_
      refine ev_get (q := 355) rfl (mH_o hn) rfl rfl rfl ?_
      refine ev_go 2 (q := 357) (st' := .long (_ + 1) :: _ :: _) rfl ?_
      refine ev_mputl (q := 360) hn rfl rfl rfl (by decide) rfl (mls_29 _ _ _) rfl ?_
      refine ev_go 2 (q := 362) (st' := .int 3 :: _ :: _) rfl ?_
      refine ev_icmp_ne (t := 388) (q := 365) rfl rfl rfl (fun _ => ?_) (fun c => absurd c (by decide))
      refine ev_go 2 (q := 390) (st' := .int 4 :: _ :: _) rfl ?_
      refine ev_icmp_ne (t := 402) (q := 393) rfl rfl rfl (fun _ => ?_) (fun c => absurd c (by decide))
      refine ev_go 2 (q := 404) (st' := .int 5 :: _ :: _) rfl ?_
      refine ev_icmp_ne (t := 429) (q := 407) rfl rfl rfl (fun _ => ?_) (fun c => absurd c (by decide))
      refine ev_go 2 (q := 432) (st' := .int 6 :: _ :: _) rfl ?_
      refine ev_icmp_ne (t := 444) (q := 435) rfl rfl rfl (fun c => absurd (by decide) c) (fun _ => ?_)
      refine ev_go 3 (q := 438) (st' := .int 5 :: .int 1 :: _ :: _) rfl ?_
      refine ev_static (z' := z_Model_in) (q := 441) rfl rfl (by decide) rfl rfl (by simp [Value.category]) rfl (by omega) (k_in _ _ _) ?_
      refine ev_if_eq (t := 460) (q := 444) rfl rfl rfl (fun zc3 => ?_) (fun zc3 => ?_)
      · refine ev_go 4 (q := 469) rfl ?_
        refine ev_if_eq (t := 476) (q := 472) rfl rfl rfl (fun c => absurd c (by decide)) (fun _ => ?_)
        refine ev_go 2 (q := 477) (st' := .int 4 :: _) rfl ?_
        exact ev_iret rfl rfl (by (try simp only [am_b0, am_bn, Decidable.not_not] at *); simp [rdy, rd_kn, rd_wl, rd_num, rd_ln, rd_bx, rd_lk, bt, cl_kn, *]) (by (try simp only [am_b0, am_bn, Decidable.not_not] at *); simp [rdy, rd_kn, rd_wl, rd_num, rd_ln, rd_bx, rd_lk, bt, cl_kn, *])
      · refine ev_go 2 (q := 447) (st' := .int 8 :: _ :: _) rfl ?_
        refine ev_icmp_ne (t := 464) (q := 450) rfl rfl rfl (fun _ => ?_) (fun c => absurd c (by decide))
        refine ev_go 3 (q := 469) rfl ?_
        refine ev_if_eq (t := 476) (q := 472) rfl rfl rfl (fun _ => ?_) (fun c => absurd (by decide) c)
        refine ev_go 1 (q := 477) (st' := .int 0 :: _) rfl ?_
        exact ev_iret rfl rfl (by (try simp only [am_b0, am_bn, Decidable.not_not] at *); simp [rdy, rd_kn, rd_wl, rd_num, rd_ln, rd_bx, rd_lk, bt, cl_kn, *]) (by (try simp only [am_b0, am_bn, Decidable.not_not] at *); simp [rdy, rd_kn, rd_wl, rd_num, rd_ln, rd_bx, rd_lk, bt, cl_kn, *])
  · refine ev_go 1 (q := 275) (st' := .int 3 :: _) rfl ?_
    exact ev_iret rfl rfl (by (try simp only [am_b0, am_bn, Decidable.not_not] at *); simp [rdy, rd_kn, rd_wl, rd_num, rd_ln, rd_bx, rd_lk, bt, cl_kn, *]) (by (try simp only [am_b0, am_bn, Decidable.not_not] at *); simp [rdy, rd_kn, rd_wl, rd_num, rd_ln, rd_bx, rd_lk, bt, cl_kn, *])
theorem m_ready7 (hn : 43 ≤ h.1) (hd : 2 < d) (hR : 1 ≤ R ∧ R ≤ 10) (hC : 1 ≤ C ∧ C ≤ 10) (h1 : σ 1 = nI R) (h2 : σ 2 = nI C) : am_m d z_Model_ready [.ref 18, .int 7] (mH h σ t A) (some (.int (rdy R C (ms_sel A) (A 15) t 7).1)) (mH h σ (rdy R C (ms_sel A) (A 15) t 7).2 A) := by
  refine ev_go 1 (q := 1) rfl ?_
  refine ev_get (q := 4) rfl (mH_o hn) rfl rfl rfl ?_
  refine ev_go 1 (q := 5) (st' := .int 0 :: _ :: _) rfl ?_
  refine ev_mia (q := 6) hn rfl (by decide) rfl rfl (by decide) rfl ?_
  refine ev_go 2 (q := 8) rfl ?_
  refine ev_get (q := 11) rfl (mH_o hn) rfl rfl rfl ?_
  refine ev_go 1 (q := 12) (st' := .int 1 :: _ :: _) rfl ?_
  refine ev_mia (q := 13) hn rfl (by decide) rfl rfl (by decide) rfl ?_
  refine ev_go 2 (q := 15) rfl ?_
  refine ev_get (q := 18) rfl (mH_o hn) rfl rfl rfl ?_
  refine ev_go 1 (q := 19) (st' := .int 2 :: _ :: _) rfl ?_
  refine ev_mia (q := 20) hn rfl (by decide) rfl rfl (by decide) rfl ?_
  refine ev_go 2 (q := 23) rfl ?_
  refine ev_get (q := 26) rfl (mH_o hn) rfl rfl rfl ?_
  refine ev_go 1 (q := 27) (st' := .int 3 :: _ :: _) rfl ?_
  refine ev_mia (q := 28) hn rfl (by decide) rfl rfl (by decide) rfl ?_
  refine ev_go 2 (q := 31) rfl ?_
  refine ev_get (q := 34) rfl (mH_o hn) rfl rfl rfl ?_
  refine ev_go 1 (q := 35) (st' := .int 4 :: _ :: _) rfl ?_
  refine ev_mia (q := 36) hn rfl (by decide) rfl rfl (by decide) rfl ?_
  refine ev_go 3 (q := 41) (st' := .int 8 :: _ :: _) rfl ?_
  refine ev_icmp_le (t := 197) (q := 44) rfl rfl rfl (fun _ => ?_) (fun c => absurd (by decide) c)
  refine ev_go 2 (q := 199) (st' := .int 2 :: _ :: _) rfl ?_
  refine ev_icmp_ne (t := 227) (q := 202) rfl rfl rfl (fun _ => ?_) (fun c => absurd c (by decide))
  refine ev_go 2 (q := 229) (st' := .int 4 :: _ :: _) rfl ?_
  refine ev_icmp_ge (t := 255) (q := 232) rfl rfl rfl (fun _ => ?_) (fun c => absurd (by decide) c)
  refine ev_go 2 (q := 257) rfl ?_
  refine ev_get (q := 260) rfl (mH_o hn) rfl rfl rfl ?_
  refine ev_go 2 (q := 264) (st' := .long (_ + 10000) :: _ :: _) rfl ?_
  refine ev_mputl (q := 267) hn rfl rfl rfl (by decide) rfl (mls_29 _ _ _) rfl ?_
  refine ev_go 1 (q := 268) rfl ?_
  refine ev_virt (z' := z_Model_selected) (q := 271) rfl rfl (by decide) rfl (by simp [Value.category]) rfl (by omega) rfl rfl (mH_o hn) (m_selected hn) ?_
  refine ev_if_ne (t := 276) (q := 274) rfl rfl rfl (fun zc1 => ?_) (fun zc1 => ?_)
  · refine ev_go 2 (q := 278) rfl ?_
    refine ev_get (q := 281) rfl (mH_o hn) rfl rfl rfl ?_
    refine ev_go 2 (q := 285) (st' := .long (_ + 10) :: _ :: _) rfl ?_
    refine ev_mputl (q := 288) hn rfl rfl rfl (by decide) rfl (mls_29 _ _ _) rfl ?_
    refine ev_go 2 (q := 290) (st' := .int 4 :: _ :: _) rfl ?_
    refine ev_icmp_lt (t := 299) (q := 293) rfl rfl rfl (fun c => absurd c (by decide)) (fun _ => ?_)
    refine ev_go 2 (q := 296) (st' := .int 6 :: _ :: _) rfl ?_
    refine ev_icmp_ne (t := 303) (q := 299) rfl rfl rfl (fun _ => ?_) (fun c => absurd c (by decide))
    refine ev_go 3 (q := 308) rfl ?_
    refine ev_if_eq (t := 322) (q := 311) rfl rfl rfl (fun _ => ?_) (fun c => absurd (by decide) c)
    refine ev_go 2 (q := 325) (st' := .int 7 :: _ :: _) rfl ?_
    refine ev_icmp_ne (t := 350) (q := 328) rfl rfl rfl (fun c => absurd (by decide) c) (fun _ => ?_)
    refine ev_go 3 (q := 332) (st' := .int 9 :: .int 0 :: _ :: _) rfl ?_
    refine ev_static (z' := z_Model_in) (q := 335) rfl rfl (by decide) rfl rfl (by simp [Value.category]) rfl (by omega) (k_in _ _ _) ?_
    refine ev_if_eq (t := 348) (q := 338) rfl rfl rfl (fun zc2 => ?_) (fun zc2 => ?_)
    · refine ev_go 1 (q := 349) (st' := .int 2 :: _) rfl ?_
      exact ev_iret rfl rfl (by (try simp only [am_b0, am_bn, Decidable.not_not] at *); simp [rdy, rd_kn, rd_wl, rd_num, rd_ln, rd_bx, rd_lk, bt, cl_kn, *]) (by (try simp only [am_b0, am_bn, Decidable.not_not] at *); simp [rdy, rd_kn, rd_wl, rd_num, rd_ln, rd_bx, rd_lk, bt, cl_kn, *])
    · refine ev_go 3 (q := 342) (st' := .int 9 :: .int 0 :: _ :: _) rfl ?_
      refine ev_static (z' := z_Model_in) (q := 345) rfl rfl (by decide) rfl rfl (by simp [Value.category]) rfl (by omega) (k_in _ _ _) ?_
      refine ev_if_ne (t := 350) (q := 348) rfl rfl rfl (fun zc3 => ?_) (fun zc3 => ?_)
      · refine ev_go 2 (q := 352) rfl ?_
        refine ev_get (q := 355) rfl (mH_o hn) rfl rfl rfl ?_
        refine ev_go 2 (q := 357) (st' := .long (_ + 1) :: _ :: _) rfl ?_
        refine ev_mputl (q := 360) hn rfl rfl rfl (by decide) rfl (mls_29 _ _ _) rfl ?_
        refine ev_go 2 (q := 362) (st' := .int 3 :: _ :: _) rfl ?_
        refine ev_icmp_ne (t := 388) (q := 365) rfl rfl rfl (fun _ => ?_) (fun c => absurd c (by decide))
        refine ev_go 2 (q := 390) (st' := .int 4 :: _ :: _) rfl ?_
        refine ev_icmp_ne (t := 402) (q := 393) rfl rfl rfl (fun _ => ?_) (fun c => absurd c (by decide))
        refine ev_go 2 (q := 404) (st' := .int 5 :: _ :: _) rfl ?_
        refine ev_icmp_ne (t := 429) (q := 407) rfl rfl rfl (fun _ => ?_) (fun c => absurd c (by decide))
        refine ev_go 2 (q := 432) (st' := .int 6 :: _ :: _) rfl ?_
        refine ev_icmp_ne (t := 444) (q := 435) rfl rfl rfl (fun _ => ?_) (fun c => absurd c (by decide))
        refine ev_go 2 (q := 447) (st' := .int 8 :: _ :: _) rfl ?_
        refine ev_icmp_ne (t := 464) (q := 450) rfl rfl rfl (fun _ => ?_) (fun c => absurd c (by decide))
        refine ev_go 3 (q := 469) rfl ?_
        refine ev_if_eq (t := 476) (q := 472) rfl rfl rfl (fun _ => ?_) (fun c => absurd (by decide) c)
        refine ev_go 1 (q := 477) (st' := .int 0 :: _) rfl ?_
        exact ev_iret rfl rfl (by (try simp only [am_b0, am_bn, Decidable.not_not] at *); simp [rdy, rd_kn, rd_wl, rd_num, rd_ln, rd_bx, rd_lk, bt, cl_kn, *]) (by (try simp only [am_b0, am_bn, Decidable.not_not] at *); simp [rdy, rd_kn, rd_wl, rd_num, rd_ln, rd_bx, rd_lk, bt, cl_kn, *])
      · refine ev_go 1 (q := 349) (st' := .int 2 :: _) rfl ?_
        exact ev_iret rfl rfl (by (try simp only [am_b0, am_bn, Decidable.not_not] at *); simp [rdy, rd_kn, rd_wl, rd_num, rd_ln, rd_bx, rd_lk, bt, cl_kn, *]) (by (try simp only [am_b0, am_bn, Decidable.not_not] at *); simp [rdy, rd_kn, rd_wl, rd_num, rd_ln, rd_bx, rd_lk, bt, cl_kn, *])
  · refine ev_go 1 (q := 275) (st' := .int 3 :: _) rfl ?_
    exact ev_iret rfl rfl (by (try simp only [am_b0, am_bn, Decidable.not_not] at *); simp [rdy, rd_kn, rd_wl, rd_num, rd_ln, rd_bx, rd_lk, bt, cl_kn, *]) (by (try simp only [am_b0, am_bn, Decidable.not_not] at *); simp [rdy, rd_kn, rd_wl, rd_num, rd_ln, rd_bx, rd_lk, bt, cl_kn, *])
theorem m_ready8 (hn : 43 ≤ h.1) (hd : 2 < d) (hR : 1 ≤ R ∧ R ≤ 10) (hC : 1 ≤ C ∧ C ≤ 10) (h1 : σ 1 = nI R) (h2 : σ 2 = nI C) : am_m d z_Model_ready [.ref 18, .int 8] (mH h σ t A) (some (.int (rdy R C (ms_sel A) (A 15) t 8).1)) (mH h σ (rdy R C (ms_sel A) (A 15) t 8).2 A) := by
  refine ev_go 1 (q := 1) rfl ?_
  refine ev_get (q := 4) rfl (mH_o hn) rfl rfl rfl ?_
  refine ev_go 1 (q := 5) (st' := .int 0 :: _ :: _) rfl ?_
  refine ev_mia (q := 6) hn rfl (by decide) rfl rfl (by decide) rfl ?_
  refine ev_go 2 (q := 8) rfl ?_
  refine ev_get (q := 11) rfl (mH_o hn) rfl rfl rfl ?_
  refine ev_go 1 (q := 12) (st' := .int 1 :: _ :: _) rfl ?_
  refine ev_mia (q := 13) hn rfl (by decide) rfl rfl (by decide) rfl ?_
  refine ev_go 2 (q := 15) rfl ?_
  refine ev_get (q := 18) rfl (mH_o hn) rfl rfl rfl ?_
  refine ev_go 1 (q := 19) (st' := .int 2 :: _ :: _) rfl ?_
  refine ev_mia (q := 20) hn rfl (by decide) rfl rfl (by decide) rfl ?_
  refine ev_go 2 (q := 23) rfl ?_
  refine ev_get (q := 26) rfl (mH_o hn) rfl rfl rfl ?_
  refine ev_go 1 (q := 27) (st' := .int 3 :: _ :: _) rfl ?_
  refine ev_mia (q := 28) hn rfl (by decide) rfl rfl (by decide) rfl ?_
  refine ev_go 2 (q := 31) rfl ?_
  refine ev_get (q := 34) rfl (mH_o hn) rfl rfl rfl ?_
  refine ev_go 1 (q := 35) (st' := .int 4 :: _ :: _) rfl ?_
  refine ev_mia (q := 36) hn rfl (by decide) rfl rfl (by decide) rfl ?_
  refine ev_go 3 (q := 41) (st' := .int 8 :: _ :: _) rfl ?_
  refine ev_icmp_le (t := 197) (q := 44) rfl rfl rfl (fun _ => ?_) (fun c => absurd (by decide) c)
  refine ev_go 2 (q := 199) (st' := .int 2 :: _ :: _) rfl ?_
  refine ev_icmp_ne (t := 227) (q := 202) rfl rfl rfl (fun _ => ?_) (fun c => absurd c (by decide))
  refine ev_go 2 (q := 229) (st' := .int 4 :: _ :: _) rfl ?_
  refine ev_icmp_ge (t := 255) (q := 232) rfl rfl rfl (fun _ => ?_) (fun c => absurd (by decide) c)
  refine ev_go 2 (q := 257) rfl ?_
  refine ev_get (q := 260) rfl (mH_o hn) rfl rfl rfl ?_
  refine ev_go 2 (q := 264) (st' := .long (_ + 10000) :: _ :: _) rfl ?_
  refine ev_mputl (q := 267) hn rfl rfl rfl (by decide) rfl (mls_29 _ _ _) rfl ?_
  refine ev_go 1 (q := 268) rfl ?_
  refine ev_virt (z' := z_Model_selected) (q := 271) rfl rfl (by decide) rfl (by simp [Value.category]) rfl (by omega) rfl rfl (mH_o hn) (m_selected hn) ?_
  refine ev_if_ne (t := 276) (q := 274) rfl rfl rfl (fun zc1 => ?_) (fun zc1 => ?_)
  · refine ev_go 2 (q := 278) rfl ?_
    refine ev_get (q := 281) rfl (mH_o hn) rfl rfl rfl ?_
    refine ev_go 2 (q := 285) (st' := .long (_ + 10) :: _ :: _) rfl ?_
    refine ev_mputl (q := 288) hn rfl rfl rfl (by decide) rfl (mls_29 _ _ _) rfl ?_
    refine ev_go 2 (q := 290) (st' := .int 4 :: _ :: _) rfl ?_
    refine ev_icmp_lt (t := 299) (q := 293) rfl rfl rfl (fun c => absurd c (by decide)) (fun _ => ?_)
    refine ev_go 2 (q := 296) (st' := .int 6 :: _ :: _) rfl ?_
    refine ev_icmp_ne (t := 303) (q := 299) rfl rfl rfl (fun _ => ?_) (fun c => absurd c (by decide))
    refine ev_go 3 (q := 308) rfl ?_
    refine ev_if_eq (t := 322) (q := 311) rfl rfl rfl (fun _ => ?_) (fun c => absurd (by decide) c)
    refine ev_go 2 (q := 325) (st' := .int 7 :: _ :: _) rfl ?_
    refine ev_icmp_ne (t := 350) (q := 328) rfl rfl rfl (fun _ => ?_) (fun c => absurd c (by decide))
    refine ev_go 2 (q := 352) rfl ?_
    refine ev_get (q := 355) rfl (mH_o hn) rfl rfl rfl ?_
    refine ev_go 2 (q := 357) (st' := .long (_ + 1) :: _ :: _) rfl ?_
    refine ev_mputl (q := 360) hn rfl rfl rfl (by decide) rfl (mls_29 _ _ _) rfl ?_
    refine ev_go 2 (q := 362) (st' := .int 3 :: _ :: _) rfl ?_
    refine ev_icmp_ne (t := 388) (q := 365) rfl rfl rfl (fun _ => ?_) (fun c => absurd c (by decide))
    refine ev_go 2 (q := 390) (st' := .int 4 :: _ :: _) rfl ?_
    refine ev_icmp_ne (t := 402) (q := 393) rfl rfl rfl (fun _ => ?_) (fun c => absurd c (by decide))
    refine ev_go 2 (q := 404) (st' := .int 5 :: _ :: _) rfl ?_
    refine ev_icmp_ne (t := 429) (q := 407) rfl rfl rfl (fun _ => ?_) (fun c => absurd c (by decide))
    refine ev_go 2 (q := 432) (st' := .int 6 :: _ :: _) rfl ?_
    refine ev_icmp_ne (t := 444) (q := 435) rfl rfl rfl (fun _ => ?_) (fun c => absurd c (by decide))
    refine ev_go 2 (q := 447) (st' := .int 8 :: _ :: _) rfl ?_
    refine ev_icmp_ne (t := 464) (q := 450) rfl rfl rfl (fun c => absurd (by decide) c) (fun _ => ?_)
    refine ev_go 3 (q := 454) (st' := .int 9 :: .int 1 :: _ :: _) rfl ?_
    refine ev_static (z' := z_Model_in) (q := 457) rfl rfl (by decide) rfl rfl (by simp [Value.category]) rfl (by omega) (k_in _ _ _) ?_
    refine ev_if_ne (t := 464) (q := 460) rfl rfl rfl (fun zc2 => ?_) (fun zc2 => ?_)
    · refine ev_go 3 (q := 469) rfl ?_
      refine ev_if_eq (t := 476) (q := 472) rfl rfl rfl (fun _ => ?_) (fun c => absurd (by decide) c)
      refine ev_go 1 (q := 477) (st' := .int 0 :: _) rfl ?_
      exact ev_iret rfl rfl (by (try simp only [am_b0, am_bn, Decidable.not_not] at *); simp [rdy, rd_kn, rd_wl, rd_num, rd_ln, rd_bx, rd_lk, bt, cl_kn, *]) (by (try simp only [am_b0, am_bn, Decidable.not_not] at *); simp [rdy, rd_kn, rd_wl, rd_num, rd_ln, rd_bx, rd_lk, bt, cl_kn, *])
    · refine ev_go 4 (q := 469) rfl ?_
      refine ev_if_eq (t := 476) (q := 472) rfl rfl rfl (fun c => absurd c (by decide)) (fun _ => ?_)
      refine ev_go 2 (q := 477) (st' := .int 4 :: _) rfl ?_
      exact ev_iret rfl rfl (by (try simp only [am_b0, am_bn, Decidable.not_not] at *); simp [rdy, rd_kn, rd_wl, rd_num, rd_ln, rd_bx, rd_lk, bt, cl_kn, *]) (by (try simp only [am_b0, am_bn, Decidable.not_not] at *); simp [rdy, rd_kn, rd_wl, rd_num, rd_ln, rd_bx, rd_lk, bt, cl_kn, *])
  · refine ev_go 1 (q := 275) (st' := .int 3 :: _) rfl ?_
    exact ev_iret rfl rfl (by (try simp only [am_b0, am_bn, Decidable.not_not] at *); simp [rdy, rd_kn, rd_wl, rd_num, rd_ln, rd_bx, rd_lk, bt, cl_kn, *]) (by (try simp only [am_b0, am_bn, Decidable.not_not] at *); simp [rdy, rd_kn, rd_wl, rd_num, rd_ln, rd_bx, rd_lk, bt, cl_kn, *])
theorem m_ready9 (hn : 43 ≤ h.1) (hd : 2 < d) (hR : 1 ≤ R ∧ R ≤ 10) (hC : 1 ≤ C ∧ C ≤ 10) (h1 : σ 1 = nI R) (h2 : σ 2 = nI C) : am_m d z_Model_ready [.ref 18, .int 9] (mH h σ t A) (some (.int (rdy R C (ms_sel A) (A 15) t 9).1)) (mH h σ (rdy R C (ms_sel A) (A 15) t 9).2 A) := by
  have e1 : (nI R).toInt = R := nI_toInt (by omega)
  have e2 : (nI C).toInt = C := nI_toInt (by omega)
  have e3 := i64_add (A 15 0) (A 15 2)
  have e4 := i64_add (A 15 1) (A 15 3)
  have e5 : (1 : Int32).toInt = 1 := by decide
  have kn9 := @blk_kn R C (A 15) hR.2 hC.2
  have f0 : am_b (cl_kn R C (A 15 0) (A 15 1)) = 0 → ¬ blk R C (A 15) := fun z q => am_b0.mp z (kn9 q)
  have f1 : A 15 2 < 1 → ¬ blk R C (A 15) := by
    intro z q
    have q1 := q.1.2.2.1
    have q2 := Int32.lt_iff_toInt_lt.mp z
    omega
  have f2 : A 15 3 < 1 → ¬ blk R C (A 15) := by
    intro z q
    have q1 := q.1.2.2.2
    have q2 := Int32.lt_iff_toInt_lt.mp z
    omega
  have f3 : 0 < lg_cmp ((A 15 0).toInt64 + (A 15 2).toInt64) (σ 1).toInt64 → ¬ blk R C (A 15) := by
    intro z q
    have q5 := q.2.1
    have q6 := Int64.lt_iff_toInt_lt.mp ((lg_cmp_gt _ _).mp z)
    rw [h1, Int32.toInt_toInt64] at q6
    omega
  have f4 : ¬ lg_cmp ((A 15 1).toInt64 + (A 15 3).toInt64) (σ 2).toInt64 ≤ 0 → ¬ blk R C (A 15) := by
    intro z q
    have q5 := q.2.2
    have q6 := Int64.lt_iff_toInt_lt.mp ((lg_cmp_gt _ _).mp (Int32.not_le.mp z))
    rw [h2, Int32.toInt_toInt64] at q6
    omega
  refine ev_go 1 (q := 1) rfl ?_
  refine ev_get (q := 4) rfl (mH_o hn) rfl rfl rfl ?_
  refine ev_go 1 (q := 5) (st' := .int 0 :: _ :: _) rfl ?_
  refine ev_mia (q := 6) hn rfl (by decide) rfl rfl (by decide) rfl ?_
  refine ev_go 2 (q := 8) rfl ?_
  refine ev_get (q := 11) rfl (mH_o hn) rfl rfl rfl ?_
  refine ev_go 1 (q := 12) (st' := .int 1 :: _ :: _) rfl ?_
  refine ev_mia (q := 13) hn rfl (by decide) rfl rfl (by decide) rfl ?_
  refine ev_go 2 (q := 15) rfl ?_
  refine ev_get (q := 18) rfl (mH_o hn) rfl rfl rfl ?_
  refine ev_go 1 (q := 19) (st' := .int 2 :: _ :: _) rfl ?_
  refine ev_mia (q := 20) hn rfl (by decide) rfl rfl (by decide) rfl ?_
  refine ev_go 2 (q := 23) rfl ?_
  refine ev_get (q := 26) rfl (mH_o hn) rfl rfl rfl ?_
  refine ev_go 1 (q := 27) (st' := .int 3 :: _ :: _) rfl ?_
  refine ev_mia (q := 28) hn rfl (by decide) rfl rfl (by decide) rfl ?_
  refine ev_go 2 (q := 31) rfl ?_
  refine ev_get (q := 34) rfl (mH_o hn) rfl rfl rfl ?_
  refine ev_go 1 (q := 35) (st' := .int 4 :: _ :: _) rfl ?_
  refine ev_mia (q := 36) hn rfl (by decide) rfl rfl (by decide) rfl ?_
  refine ev_go 3 (q := 41) (st' := .int 8 :: _ :: _) rfl ?_
  refine ev_icmp_le (t := 197) (q := 44) rfl rfl rfl (fun c => absurd c (by decide)) (fun _ => ?_)
  refine ev_go 2 (q := 46) rfl ?_
  refine ev_get (q := 49) rfl (mH_o hn) rfl rfl rfl ?_
  refine ev_go 2 (q := 53) (st' := .long (_ + 100) :: _ :: _) rfl ?_
  refine ev_mputl (q := 56) hn rfl rfl rfl (by decide) rfl (mls_29 _ _ _) rfl ?_
  refine ev_go 2 (q := 59) (st' := .int 9 :: _ :: _) rfl ?_
  refine ev_icmp_ne (t := 115) (q := 62) rfl rfl rfl (fun c => absurd (by decide) c) (fun _ => ?_)
  refine ev_go 3 (q := 65) rfl ?_
  refine ev_virt (z' := z_Model_isKnot) (q := 68) rfl rfl (by decide) rfl (by simp [Value.category]) rfl (by omega) rfl rfl (mH_o hn) (m_isKnot hn (by omega) hR hC h1 h2 _ _) ?_
  refine ev_if_eq (t := 113) (q := 71) rfl rfl rfl (fun zc1 => ?_) (fun zc1 => ?_)
  · refine ev_go 1 (q := 114) (st' := .int 1 :: _) rfl ?_
    exact ev_iret rfl rfl (by first | (rw [show rdy R C (ms_sel A) (A 15) t 9 = rd_lk (blk R C (A 15)) 1 t (fun t => rd_num (bt 0 (A 15 4) 3) t) from rfl]; first | (rw [rd_lk, if_neg (f0 zc1)]) | (rw [rd_lk, if_neg (f1 zc2)]) | (rw [rd_lk, if_neg (f2 zc3)]) | (rw [rd_lk, if_neg (f3 zc4)]) | (rw [rd_lk, if_neg (f4 zc5)]) | (rw [rd_lk, if_pos blk9]; done) | (rw [rd_lk, if_pos blk9]; first | (rw [rd_num, if_pos (am_bn.mp zc6)]) | (rw [rd_num, if_neg (am_b0.mp zc6)])))) (by first | (rw [show rdy R C (ms_sel A) (A 15) t 9 = rd_lk (blk R C (A 15)) 1 t (fun t => rd_num (bt 0 (A 15 4) 3) t) from rfl]; first | (rw [rd_lk, if_neg (f0 zc1)]) | (rw [rd_lk, if_neg (f1 zc2)]) | (rw [rd_lk, if_neg (f2 zc3)]) | (rw [rd_lk, if_neg (f3 zc4)]) | (rw [rd_lk, if_neg (f4 zc5)]) | (rw [rd_lk, if_pos blk9]; done) | (rw [rd_lk, if_pos blk9]; first | (rw [rd_num, if_pos (am_bn.mp zc6)]) | (rw [rd_num, if_neg (am_b0.mp zc6)]))))
  · refine ev_go 2 (q := 74) (st' := .int 1 :: _ :: _) rfl ?_
    refine ev_icmp_lt (t := 113) (q := 77) rfl rfl rfl (fun zc2 => ?_) (fun zc2 => ?_)
    · refine ev_go 1 (q := 114) (st' := .int 1 :: _) rfl ?_
      exact ev_iret rfl rfl (by first | (rw [show rdy R C (ms_sel A) (A 15) t 9 = rd_lk (blk R C (A 15)) 1 t (fun t => rd_num (bt 0 (A 15 4) 3) t) from rfl]; first | (rw [rd_lk, if_neg (f0 zc1)]) | (rw [rd_lk, if_neg (f1 zc2)]) | (rw [rd_lk, if_neg (f2 zc3)]) | (rw [rd_lk, if_neg (f3 zc4)]) | (rw [rd_lk, if_neg (f4 zc5)]) | (rw [rd_lk, if_pos blk9]; done) | (rw [rd_lk, if_pos blk9]; first | (rw [rd_num, if_pos (am_bn.mp zc6)]) | (rw [rd_num, if_neg (am_b0.mp zc6)])))) (by first | (rw [show rdy R C (ms_sel A) (A 15) t 9 = rd_lk (blk R C (A 15)) 1 t (fun t => rd_num (bt 0 (A 15 4) 3) t) from rfl]; first | (rw [rd_lk, if_neg (f0 zc1)]) | (rw [rd_lk, if_neg (f1 zc2)]) | (rw [rd_lk, if_neg (f2 zc3)]) | (rw [rd_lk, if_neg (f3 zc4)]) | (rw [rd_lk, if_neg (f4 zc5)]) | (rw [rd_lk, if_pos blk9]; done) | (rw [rd_lk, if_pos blk9]; first | (rw [rd_num, if_pos (am_bn.mp zc6)]) | (rw [rd_num, if_neg (am_b0.mp zc6)]))))
    · refine ev_go 2 (q := 80) (st' := .int 1 :: _ :: _) rfl ?_
      refine ev_icmp_lt (t := 113) (q := 83) rfl rfl rfl (fun zc3 => ?_) (fun zc3 => ?_)
      · refine ev_go 1 (q := 114) (st' := .int 1 :: _) rfl ?_
        exact ev_iret rfl rfl (by first | (rw [show rdy R C (ms_sel A) (A 15) t 9 = rd_lk (blk R C (A 15)) 1 t (fun t => rd_num (bt 0 (A 15 4) 3) t) from rfl]; first | (rw [rd_lk, if_neg (f0 zc1)]) | (rw [rd_lk, if_neg (f1 zc2)]) | (rw [rd_lk, if_neg (f2 zc3)]) | (rw [rd_lk, if_neg (f3 zc4)]) | (rw [rd_lk, if_neg (f4 zc5)]) | (rw [rd_lk, if_pos blk9]; done) | (rw [rd_lk, if_pos blk9]; first | (rw [rd_num, if_pos (am_bn.mp zc6)]) | (rw [rd_num, if_neg (am_b0.mp zc6)])))) (by first | (rw [show rdy R C (ms_sel A) (A 15) t 9 = rd_lk (blk R C (A 15)) 1 t (fun t => rd_num (bt 0 (A 15 4) 3) t) from rfl]; first | (rw [rd_lk, if_neg (f0 zc1)]) | (rw [rd_lk, if_neg (f1 zc2)]) | (rw [rd_lk, if_neg (f2 zc3)]) | (rw [rd_lk, if_neg (f3 zc4)]) | (rw [rd_lk, if_neg (f4 zc5)]) | (rw [rd_lk, if_pos blk9]; done) | (rw [rd_lk, if_pos blk9]; first | (rw [rd_num, if_pos (am_bn.mp zc6)]) | (rw [rd_num, if_neg (am_b0.mp zc6)]))))
      · refine ev_go 6 (q := 90) rfl ?_
        refine ev_get (q := 93) rfl (mH_o hn) rfl rfl rfl ?_
        refine ev_go 2 (q := 95) rfl ?_
        refine ev_if_gt (t := 113) (q := 98) rfl rfl rfl (fun zc4 => ?_) (fun zc4 => ?_)
        · refine ev_go 1 (q := 114) (st' := .int 1 :: _) rfl ?_
          exact ev_iret rfl rfl (by first | (rw [show rdy R C (ms_sel A) (A 15) t 9 = rd_lk (blk R C (A 15)) 1 t (fun t => rd_num (bt 0 (A 15 4) 3) t) from rfl]; first | (rw [rd_lk, if_neg (f0 zc1)]) | (rw [rd_lk, if_neg (f1 zc2)]) | (rw [rd_lk, if_neg (f2 zc3)]) | (rw [rd_lk, if_neg (f3 zc4)]) | (rw [rd_lk, if_neg (f4 zc5)]) | (rw [rd_lk, if_pos blk9]; done) | (rw [rd_lk, if_pos blk9]; first | (rw [rd_num, if_pos (am_bn.mp zc6)]) | (rw [rd_num, if_neg (am_b0.mp zc6)])))) (by first | (rw [show rdy R C (ms_sel A) (A 15) t 9 = rd_lk (blk R C (A 15)) 1 t (fun t => rd_num (bt 0 (A 15 4) 3) t) from rfl]; first | (rw [rd_lk, if_neg (f0 zc1)]) | (rw [rd_lk, if_neg (f1 zc2)]) | (rw [rd_lk, if_neg (f2 zc3)]) | (rw [rd_lk, if_neg (f3 zc4)]) | (rw [rd_lk, if_neg (f4 zc5)]) | (rw [rd_lk, if_pos blk9]; done) | (rw [rd_lk, if_pos blk9]; first | (rw [rd_num, if_pos (am_bn.mp zc6)]) | (rw [rd_num, if_neg (am_b0.mp zc6)]))))
        · refine ev_go 6 (q := 105) rfl ?_
          refine ev_get (q := 108) rfl (mH_o hn) rfl rfl rfl ?_
          refine ev_go 2 (q := 110) rfl ?_
          refine ev_if_le (t := 115) (q := 113) rfl rfl rfl (fun zc5 => ?_) (fun zc5 => ?_)
          · refine ev_go 2 (q := 118) (st' := .int 10 :: _ :: _) rfl ?_
            refine ev_icmp_ne (t := 133) (q := 121) rfl rfl rfl (fun _ => ?_) (fun c => absurd c (by decide))
            refine ev_go 2 (q := 136) (st' := .int 10 :: _ :: _) rfl ?_
            refine ev_icmp_le (t := 150) (q := 139) rfl rfl rfl (fun _ => ?_) (fun c => absurd (by decide) c)
            have blk9 : blk R C (A 15) := by
              have a1 := am_bn.mp zc1
              have b1 : (0 : Int32).toInt ≤ (A 15 0).toInt := Int32.le_iff_toInt_le.mp a1.1.1
              have b2 : (0 : Int32).toInt ≤ (A 15 1).toInt := Int32.le_iff_toInt_le.mp a1.2.1
              have b3 := Int32.not_lt.mp zc2
              have b4 := Int32.not_lt.mp zc3
              have b5 : ((A 15 0).toInt64 + (A 15 2).toInt64).toInt ≤ (σ 1).toInt64.toInt := Int64.le_iff_toInt_le.mp ((lg_cmp_le _ _).mp (Int32.not_lt.mp zc4))
              have b6 : ((A 15 1).toInt64 + (A 15 3).toInt64).toInt ≤ (σ 2).toInt64.toInt := Int64.le_iff_toInt_le.mp ((lg_cmp_le _ _).mp zc5)
              rw [h1, Int32.toInt_toInt64] at b5
              rw [h2, Int32.toInt_toInt64] at b6
              have b7 : (1 : Int32).toInt ≤ (A 15 2).toInt := Int32.le_iff_toInt_le.mp b3
              have b8 : (1 : Int32).toInt ≤ (A 15 3).toInt := Int32.le_iff_toInt_le.mp b4
              have b0 : (0 : Int32).toInt = 0 := by decide
              refine ⟨⟨?_, ?_, ?_, ?_⟩, ?_, ?_⟩ <;> omega
            refine ev_go 2 (q := 152) rfl ?_
            refine ev_get (q := 155) rfl (mH_o hn) rfl rfl rfl ?_
            refine ev_go 2 (q := 157) (st' := .long (_ + 1) :: _ :: _) rfl ?_
            refine ev_mputl (q := 160) hn rfl rfl rfl (by decide) rfl (mls_29 _ _ _) rfl ?_
            refine ev_go 2 (q := 163) (st' := .int 9 :: _ :: _) rfl ?_
            refine ev_icmp_ne (t := 176) (q := 166) rfl rfl rfl (fun c => absurd (by decide) c) (fun _ => ?_)
            refine ev_go 3 (q := 170) (st' := .int 3 :: .int 0 :: _ :: _) rfl ?_
            refine ev_static (z' := z_Model_in) (q := 173) rfl rfl (by decide) rfl rfl (by simp [Value.category]) rfl (by omega) (k_in _ _ _) ?_
            refine ev_if_eq (t := 191) (q := 176) rfl rfl rfl (fun zc6 => ?_) (fun zc6 => ?_)
            · refine ev_go 2 (q := 196) (st' := .int 4 :: _) rfl ?_
              exact ev_iret rfl rfl (by first | (rw [show rdy R C (ms_sel A) (A 15) t 9 = rd_lk (blk R C (A 15)) 1 t (fun t => rd_num (bt 0 (A 15 4) 3) t) from rfl]; first | (rw [rd_lk, if_neg (f0 zc6)]) | (rw [rd_lk, if_neg (f1 zc2)]) | (rw [rd_lk, if_neg (f2 zc3)]) | (rw [rd_lk, if_neg (f3 zc4)]) | (rw [rd_lk, if_neg (f4 zc5)]) | (rw [rd_lk, if_pos blk9]; done) | (rw [rd_lk, if_pos blk9]; first | (rw [rd_num, if_pos (am_bn.mp zc6)]) | (rw [rd_num, if_neg (am_b0.mp zc6)])))) (by first | (rw [show rdy R C (ms_sel A) (A 15) t 9 = rd_lk (blk R C (A 15)) 1 t (fun t => rd_num (bt 0 (A 15 4) 3) t) from rfl]; first | (rw [rd_lk, if_neg (f0 zc6)]) | (rw [rd_lk, if_neg (f1 zc2)]) | (rw [rd_lk, if_neg (f2 zc3)]) | (rw [rd_lk, if_neg (f3 zc4)]) | (rw [rd_lk, if_neg (f4 zc5)]) | (rw [rd_lk, if_pos blk9]; done) | (rw [rd_lk, if_pos blk9]; first | (rw [rd_num, if_pos (am_bn.mp zc6)]) | (rw [rd_num, if_neg (am_b0.mp zc6)]))))
            · refine ev_go 2 (q := 179) (st' := .int 12 :: _ :: _) rfl ?_
              refine ev_icmp_ne (t := 195) (q := 182) rfl rfl rfl (fun _ => ?_) (fun c => absurd c (by decide))
              refine ev_go 1 (q := 196) (st' := .int 0 :: _) rfl ?_
              exact ev_iret rfl rfl (by first | (rw [show rdy R C (ms_sel A) (A 15) t 9 = rd_lk (blk R C (A 15)) 1 t (fun t => rd_num (bt 0 (A 15 4) 3) t) from rfl]; first | (rw [rd_lk, if_neg (f0 zc6)]) | (rw [rd_lk, if_neg (f1 zc2)]) | (rw [rd_lk, if_neg (f2 zc3)]) | (rw [rd_lk, if_neg (f3 zc4)]) | (rw [rd_lk, if_neg (f4 zc5)]) | (rw [rd_lk, if_pos blk9]; done) | (rw [rd_lk, if_pos blk9]; first | (rw [rd_num, if_pos (am_bn.mp zc6)]) | (rw [rd_num, if_neg (am_b0.mp zc6)])))) (by first | (rw [show rdy R C (ms_sel A) (A 15) t 9 = rd_lk (blk R C (A 15)) 1 t (fun t => rd_num (bt 0 (A 15 4) 3) t) from rfl]; first | (rw [rd_lk, if_neg (f0 zc6)]) | (rw [rd_lk, if_neg (f1 zc2)]) | (rw [rd_lk, if_neg (f2 zc3)]) | (rw [rd_lk, if_neg (f3 zc4)]) | (rw [rd_lk, if_neg (f4 zc5)]) | (rw [rd_lk, if_pos blk9]; done) | (rw [rd_lk, if_pos blk9]; first | (rw [rd_num, if_pos (am_bn.mp zc6)]) | (rw [rd_num, if_neg (am_b0.mp zc6)]))))
          · refine ev_go 1 (q := 114) (st' := .int 1 :: _) rfl ?_
            exact ev_iret rfl rfl (by first | (rw [show rdy R C (ms_sel A) (A 15) t 9 = rd_lk (blk R C (A 15)) 1 t (fun t => rd_num (bt 0 (A 15 4) 3) t) from rfl]; first | (rw [rd_lk, if_neg (f0 zc1)]) | (rw [rd_lk, if_neg (f1 zc2)]) | (rw [rd_lk, if_neg (f2 zc3)]) | (rw [rd_lk, if_neg (f3 zc4)]) | (rw [rd_lk, if_neg (f4 zc5)]) | (rw [rd_lk, if_pos blk9]; done) | (rw [rd_lk, if_pos blk9]; first | (rw [rd_num, if_pos (am_bn.mp zc6)]) | (rw [rd_num, if_neg (am_b0.mp zc6)])))) (by first | (rw [show rdy R C (ms_sel A) (A 15) t 9 = rd_lk (blk R C (A 15)) 1 t (fun t => rd_num (bt 0 (A 15 4) 3) t) from rfl]; first | (rw [rd_lk, if_neg (f0 zc1)]) | (rw [rd_lk, if_neg (f1 zc2)]) | (rw [rd_lk, if_neg (f2 zc3)]) | (rw [rd_lk, if_neg (f3 zc4)]) | (rw [rd_lk, if_neg (f4 zc5)]) | (rw [rd_lk, if_pos blk9]; done) | (rw [rd_lk, if_pos blk9]; first | (rw [rd_num, if_pos (am_bn.mp zc6)]) | (rw [rd_num, if_neg (am_b0.mp zc6)]))))
theorem m_ready10 (hn : 43 ≤ h.1) (hd : 2 < d) (hR : 1 ≤ R ∧ R ≤ 10) (hC : 1 ≤ C ∧ C ≤ 10) (h1 : σ 1 = nI R) (h2 : σ 2 = nI C) : am_m d z_Model_ready [.ref 18, .int 10] (mH h σ t A) (some (.int (rdy R C (ms_sel A) (A 15) t 10).1)) (mH h σ (rdy R C (ms_sel A) (A 15) t 10).2 A) := by
  refine ev_go 1 (q := 1) rfl ?_
  refine ev_get (q := 4) rfl (mH_o hn) rfl rfl rfl ?_
  refine ev_go 1 (q := 5) (st' := .int 0 :: _ :: _) rfl ?_
  refine ev_mia (q := 6) hn rfl (by decide) rfl rfl (by decide) rfl ?_
  refine ev_go 2 (q := 8) rfl ?_
  refine ev_get (q := 11) rfl (mH_o hn) rfl rfl rfl ?_
  refine ev_go 1 (q := 12) (st' := .int 1 :: _ :: _) rfl ?_
  refine ev_mia (q := 13) hn rfl (by decide) rfl rfl (by decide) rfl ?_
  refine ev_go 2 (q := 15) rfl ?_
  refine ev_get (q := 18) rfl (mH_o hn) rfl rfl rfl ?_
  refine ev_go 1 (q := 19) (st' := .int 2 :: _ :: _) rfl ?_
  refine ev_mia (q := 20) hn rfl (by decide) rfl rfl (by decide) rfl ?_
  refine ev_go 2 (q := 23) rfl ?_
  refine ev_get (q := 26) rfl (mH_o hn) rfl rfl rfl ?_
  refine ev_go 1 (q := 27) (st' := .int 3 :: _ :: _) rfl ?_
  refine ev_mia (q := 28) hn rfl (by decide) rfl rfl (by decide) rfl ?_
  refine ev_go 2 (q := 31) rfl ?_
  refine ev_get (q := 34) rfl (mH_o hn) rfl rfl rfl ?_
  refine ev_go 1 (q := 35) (st' := .int 4 :: _ :: _) rfl ?_
  refine ev_mia (q := 36) hn rfl (by decide) rfl rfl (by decide) rfl ?_
  refine ev_go 3 (q := 41) (st' := .int 8 :: _ :: _) rfl ?_
  refine ev_icmp_le (t := 197) (q := 44) rfl rfl rfl (fun c => absurd c (by decide)) (fun _ => ?_)
  refine ev_go 2 (q := 46) rfl ?_
  refine ev_get (q := 49) rfl (mH_o hn) rfl rfl rfl ?_
  refine ev_go 2 (q := 53) (st' := .long (_ + 100) :: _ :: _) rfl ?_
  refine ev_mputl (q := 56) hn rfl rfl rfl (by decide) rfl (mls_29 _ _ _) rfl ?_
  refine ev_go 2 (q := 59) (st' := .int 9 :: _ :: _) rfl ?_
  refine ev_icmp_ne (t := 115) (q := 62) rfl rfl rfl (fun _ => ?_) (fun c => absurd c (by decide))
  refine ev_go 2 (q := 118) (st' := .int 10 :: _ :: _) rfl ?_
  refine ev_icmp_ne (t := 133) (q := 121) rfl rfl rfl (fun c => absurd (by decide) c) (fun _ => ?_)
  refine ev_go 3 (q := 125) (st' := .int 9 :: .int 0 :: _ :: _) rfl ?_
  refine ev_static (z' := z_Model_in) (q := 128) rfl rfl (by decide) rfl rfl (by simp [Value.category]) rfl (by omega) (k_in _ _ _) ?_
  refine ev_if_ne (t := 133) (q := 131) rfl rfl rfl (fun zc1 => ?_) (fun zc1 => ?_)
  · refine ev_go 2 (q := 136) (st' := .int 10 :: _ :: _) rfl ?_
    refine ev_icmp_le (t := 150) (q := 139) rfl rfl rfl (fun _ => ?_) (fun c => absurd (by decide) c)
    refine ev_go 2 (q := 152) rfl ?_
    refine ev_get (q := 155) rfl (mH_o hn) rfl rfl rfl ?_
    refine ev_go 2 (q := 157) (st' := .long (_ + 1) :: _ :: _) rfl ?_
    refine ev_mputl (q := 160) hn rfl rfl rfl (by decide) rfl (mls_29 _ _ _) rfl ?_
    refine ev_go 2 (q := 163) (st' := .int 9 :: _ :: _) rfl ?_
    refine ev_icmp_ne (t := 176) (q := 166) rfl rfl rfl (fun _ => ?_) (fun c => absurd c (by decide))
    refine ev_go 2 (q := 179) (st' := .int 12 :: _ :: _) rfl ?_
    refine ev_icmp_ne (t := 195) (q := 182) rfl rfl rfl (fun _ => ?_) (fun c => absurd c (by decide))
    refine ev_go 1 (q := 196) (st' := .int 0 :: _) rfl ?_
    exact ev_iret rfl rfl (by (try simp only [am_b0, am_bn, Decidable.not_not] at *); simp [rdy, rd_kn, rd_wl, rd_num, rd_ln, rd_bx, rd_lk, bt, cl_kn, *]) (by (try simp only [am_b0, am_bn, Decidable.not_not] at *); simp [rdy, rd_kn, rd_wl, rd_num, rd_ln, rd_bx, rd_lk, bt, cl_kn, *])
  · refine ev_go 1 (q := 132) (st' := .int 2 :: _) rfl ?_
    exact ev_iret rfl rfl (by (try simp only [am_b0, am_bn, Decidable.not_not] at *); simp [rdy, rd_kn, rd_wl, rd_num, rd_ln, rd_bx, rd_lk, bt, cl_kn, *]) (by (try simp only [am_b0, am_bn, Decidable.not_not] at *); simp [rdy, rd_kn, rd_wl, rd_num, rd_ln, rd_bx, rd_lk, bt, cl_kn, *])
theorem m_ready11 (hn : 43 ≤ h.1) (hd : 2 < d) (hR : 1 ≤ R ∧ R ≤ 10) (hC : 1 ≤ C ∧ C ≤ 10) (h1 : σ 1 = nI R) (h2 : σ 2 = nI C) : am_m d z_Model_ready [.ref 18, .int 11] (mH h σ t A) (some (.int (rdy R C (ms_sel A) (A 15) t 11).1)) (mH h σ (rdy R C (ms_sel A) (A 15) t 11).2 A) := by
  refine ev_go 1 (q := 1) rfl ?_
  refine ev_get (q := 4) rfl (mH_o hn) rfl rfl rfl ?_
  refine ev_go 1 (q := 5) (st' := .int 0 :: _ :: _) rfl ?_
  refine ev_mia (q := 6) hn rfl (by decide) rfl rfl (by decide) rfl ?_
  refine ev_go 2 (q := 8) rfl ?_
  refine ev_get (q := 11) rfl (mH_o hn) rfl rfl rfl ?_
  refine ev_go 1 (q := 12) (st' := .int 1 :: _ :: _) rfl ?_
  refine ev_mia (q := 13) hn rfl (by decide) rfl rfl (by decide) rfl ?_
  refine ev_go 2 (q := 15) rfl ?_
  refine ev_get (q := 18) rfl (mH_o hn) rfl rfl rfl ?_
  refine ev_go 1 (q := 19) (st' := .int 2 :: _ :: _) rfl ?_
  refine ev_mia (q := 20) hn rfl (by decide) rfl rfl (by decide) rfl ?_
  refine ev_go 2 (q := 23) rfl ?_
  refine ev_get (q := 26) rfl (mH_o hn) rfl rfl rfl ?_
  refine ev_go 1 (q := 27) (st' := .int 3 :: _ :: _) rfl ?_
  refine ev_mia (q := 28) hn rfl (by decide) rfl rfl (by decide) rfl ?_
  refine ev_go 2 (q := 31) rfl ?_
  refine ev_get (q := 34) rfl (mH_o hn) rfl rfl rfl ?_
  refine ev_go 1 (q := 35) (st' := .int 4 :: _ :: _) rfl ?_
  refine ev_mia (q := 36) hn rfl (by decide) rfl rfl (by decide) rfl ?_
  refine ev_go 3 (q := 41) (st' := .int 8 :: _ :: _) rfl ?_
  refine ev_icmp_le (t := 197) (q := 44) rfl rfl rfl (fun c => absurd c (by decide)) (fun _ => ?_)
  refine ev_go 2 (q := 46) rfl ?_
  refine ev_get (q := 49) rfl (mH_o hn) rfl rfl rfl ?_
  refine ev_go 2 (q := 53) (st' := .long (_ + 100) :: _ :: _) rfl ?_
  refine ev_mputl (q := 56) hn rfl rfl rfl (by decide) rfl (mls_29 _ _ _) rfl ?_
  refine ev_go 2 (q := 59) (st' := .int 9 :: _ :: _) rfl ?_
  refine ev_icmp_ne (t := 115) (q := 62) rfl rfl rfl (fun _ => ?_) (fun c => absurd c (by decide))
  refine ev_go 2 (q := 118) (st' := .int 10 :: _ :: _) rfl ?_
  refine ev_icmp_ne (t := 133) (q := 121) rfl rfl rfl (fun _ => ?_) (fun c => absurd c (by decide))
  refine ev_go 2 (q := 136) (st' := .int 10 :: _ :: _) rfl ?_
  refine ev_icmp_le (t := 150) (q := 139) rfl rfl rfl (fun c => absurd c (by decide)) (fun _ => ?_)
  refine ev_go 3 (q := 142) (st' := .int 2 :: .int 0 :: _ :: _) rfl ?_
  refine ev_static (z' := z_Model_in) (q := 145) rfl rfl (by decide) rfl rfl (by simp [Value.category]) rfl (by omega) (k_in _ _ _) ?_
  refine ev_if_ne (t := 150) (q := 148) rfl rfl rfl (fun zc1 => ?_) (fun zc1 => ?_)
  · refine ev_go 2 (q := 152) rfl ?_
    refine ev_get (q := 155) rfl (mH_o hn) rfl rfl rfl ?_
    refine ev_go 2 (q := 157) (st' := .long (_ + 1) :: _ :: _) rfl ?_
    refine ev_mputl (q := 160) hn rfl rfl rfl (by decide) rfl (mls_29 _ _ _) rfl ?_
    refine ev_go 2 (q := 163) (st' := .int 9 :: _ :: _) rfl ?_
    refine ev_icmp_ne (t := 176) (q := 166) rfl rfl rfl (fun _ => ?_) (fun c => absurd c (by decide))
    refine ev_go 2 (q := 179) (st' := .int 12 :: _ :: _) rfl ?_
    refine ev_icmp_ne (t := 195) (q := 182) rfl rfl rfl (fun _ => ?_) (fun c => absurd c (by decide))
    refine ev_go 1 (q := 196) (st' := .int 0 :: _) rfl ?_
    exact ev_iret rfl rfl (by (try simp only [am_b0, am_bn, Decidable.not_not] at *); simp [rdy, rd_kn, rd_wl, rd_num, rd_ln, rd_bx, rd_lk, bt, cl_kn, *]) (by (try simp only [am_b0, am_bn, Decidable.not_not] at *); simp [rdy, rd_kn, rd_wl, rd_num, rd_ln, rd_bx, rd_lk, bt, cl_kn, *])
  · refine ev_go 1 (q := 149) (st' := .int 1 :: _) rfl ?_
    exact ev_iret rfl rfl (by (try simp only [am_b0, am_bn, Decidable.not_not] at *); simp [rdy, rd_kn, rd_wl, rd_num, rd_ln, rd_bx, rd_lk, bt, cl_kn, *]) (by (try simp only [am_b0, am_bn, Decidable.not_not] at *); simp [rdy, rd_kn, rd_wl, rd_num, rd_ln, rd_bx, rd_lk, bt, cl_kn, *])
theorem m_ready12 (hn : 43 ≤ h.1) (hd : 2 < d) (hR : 1 ≤ R ∧ R ≤ 10) (hC : 1 ≤ C ∧ C ≤ 10) (h1 : σ 1 = nI R) (h2 : σ 2 = nI C) : am_m d z_Model_ready [.ref 18, .int 12] (mH h σ t A) (some (.int (rdy R C (ms_sel A) (A 15) t 12).1)) (mH h σ (rdy R C (ms_sel A) (A 15) t 12).2 A) := by
  refine ev_go 1 (q := 1) rfl ?_
  refine ev_get (q := 4) rfl (mH_o hn) rfl rfl rfl ?_
  refine ev_go 1 (q := 5) (st' := .int 0 :: _ :: _) rfl ?_
  refine ev_mia (q := 6) hn rfl (by decide) rfl rfl (by decide) rfl ?_
  refine ev_go 2 (q := 8) rfl ?_
  refine ev_get (q := 11) rfl (mH_o hn) rfl rfl rfl ?_
  refine ev_go 1 (q := 12) (st' := .int 1 :: _ :: _) rfl ?_
  refine ev_mia (q := 13) hn rfl (by decide) rfl rfl (by decide) rfl ?_
  refine ev_go 2 (q := 15) rfl ?_
  refine ev_get (q := 18) rfl (mH_o hn) rfl rfl rfl ?_
  refine ev_go 1 (q := 19) (st' := .int 2 :: _ :: _) rfl ?_
  refine ev_mia (q := 20) hn rfl (by decide) rfl rfl (by decide) rfl ?_
  refine ev_go 2 (q := 23) rfl ?_
  refine ev_get (q := 26) rfl (mH_o hn) rfl rfl rfl ?_
  refine ev_go 1 (q := 27) (st' := .int 3 :: _ :: _) rfl ?_
  refine ev_mia (q := 28) hn rfl (by decide) rfl rfl (by decide) rfl ?_
  refine ev_go 2 (q := 31) rfl ?_
  refine ev_get (q := 34) rfl (mH_o hn) rfl rfl rfl ?_
  refine ev_go 1 (q := 35) (st' := .int 4 :: _ :: _) rfl ?_
  refine ev_mia (q := 36) hn rfl (by decide) rfl rfl (by decide) rfl ?_
  refine ev_go 3 (q := 41) (st' := .int 8 :: _ :: _) rfl ?_
  refine ev_icmp_le (t := 197) (q := 44) rfl rfl rfl (fun c => absurd c (by decide)) (fun _ => ?_)
  refine ev_go 2 (q := 46) rfl ?_
  refine ev_get (q := 49) rfl (mH_o hn) rfl rfl rfl ?_
  refine ev_go 2 (q := 53) (st' := .long (_ + 100) :: _ :: _) rfl ?_
  refine ev_mputl (q := 56) hn rfl rfl rfl (by decide) rfl (mls_29 _ _ _) rfl ?_
  refine ev_go 2 (q := 59) (st' := .int 9 :: _ :: _) rfl ?_
  refine ev_icmp_ne (t := 115) (q := 62) rfl rfl rfl (fun _ => ?_) (fun c => absurd c (by decide))
  refine ev_go 2 (q := 118) (st' := .int 10 :: _ :: _) rfl ?_
  refine ev_icmp_ne (t := 133) (q := 121) rfl rfl rfl (fun _ => ?_) (fun c => absurd c (by decide))
  refine ev_go 2 (q := 136) (st' := .int 10 :: _ :: _) rfl ?_
  refine ev_icmp_le (t := 150) (q := 139) rfl rfl rfl (fun c => absurd c (by decide)) (fun _ => ?_)
  refine ev_go 3 (q := 142) (st' := .int 2 :: .int 0 :: _ :: _) rfl ?_
  refine ev_static (z' := z_Model_in) (q := 145) rfl rfl (by decide) rfl rfl (by simp [Value.category]) rfl (by omega) (k_in _ _ _) ?_
  refine ev_if_ne (t := 150) (q := 148) rfl rfl rfl (fun zc1 => ?_) (fun zc1 => ?_)
  · refine ev_go 2 (q := 152) rfl ?_
    refine ev_get (q := 155) rfl (mH_o hn) rfl rfl rfl ?_
    refine ev_go 2 (q := 157) (st' := .long (_ + 1) :: _ :: _) rfl ?_
    refine ev_mputl (q := 160) hn rfl rfl rfl (by decide) rfl (mls_29 _ _ _) rfl ?_
    refine ev_go 2 (q := 163) (st' := .int 9 :: _ :: _) rfl ?_
    refine ev_icmp_ne (t := 176) (q := 166) rfl rfl rfl (fun _ => ?_) (fun c => absurd c (by decide))
    refine ev_go 2 (q := 179) (st' := .int 12 :: _ :: _) rfl ?_
    refine ev_icmp_ne (t := 195) (q := 182) rfl rfl rfl (fun c => absurd (by decide) c) (fun _ => ?_)
    refine ev_go 3 (q := 185) (st' := .int 1 :: .int 0 :: _ :: _) rfl ?_
    refine ev_static (z' := z_Model_in) (q := 188) rfl rfl (by decide) rfl rfl (by simp [Value.category]) rfl (by omega) (k_in _ _ _) ?_
    refine ev_if_ne (t := 195) (q := 191) rfl rfl rfl (fun zc2 => ?_) (fun zc2 => ?_)
    · refine ev_go 1 (q := 196) (st' := .int 0 :: _) rfl ?_
      exact ev_iret rfl rfl (by (try simp only [am_b0, am_bn, Decidable.not_not] at *); simp [rdy, rd_kn, rd_wl, rd_num, rd_ln, rd_bx, rd_lk, bt, cl_kn, *]) (by (try simp only [am_b0, am_bn, Decidable.not_not] at *); simp [rdy, rd_kn, rd_wl, rd_num, rd_ln, rd_bx, rd_lk, bt, cl_kn, *])
    · refine ev_go 2 (q := 196) (st' := .int 4 :: _) rfl ?_
      exact ev_iret rfl rfl (by (try simp only [am_b0, am_bn, Decidable.not_not] at *); simp [rdy, rd_kn, rd_wl, rd_num, rd_ln, rd_bx, rd_lk, bt, cl_kn, *]) (by (try simp only [am_b0, am_bn, Decidable.not_not] at *); simp [rdy, rd_kn, rd_wl, rd_num, rd_ln, rd_bx, rd_lk, bt, cl_kn, *])
  · refine ev_go 1 (q := 149) (st' := .int 1 :: _) rfl ?_
    exact ev_iret rfl rfl (by (try simp only [am_b0, am_bn, Decidable.not_not] at *); simp [rdy, rd_kn, rd_wl, rd_num, rd_ln, rd_bx, rd_lk, bt, cl_kn, *]) (by (try simp only [am_b0, am_bn, Decidable.not_not] at *); simp [rdy, rd_kn, rd_wl, rd_num, rd_ln, rd_bx, rd_lk, bt, cl_kn, *])
end M7
