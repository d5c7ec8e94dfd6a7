/-! the class: the tree, read -/
abbrev nd_c (p th : Int32) (c : Nat) : am_C := .inr (5, [.int p, .int th, .ref c])
def TW (h : am_H) (P : Nat → Nat → Option Nat) (TH : Nat → Prop) (PA : Nat → Int32) (HC : Nat → Nat) : Prop := ∀ k, k < 60 → (P 0 k = none ∧ ¬ TH k) ∨ (∃ a, P 0 k = some a ∧ 15 ≤ a ∧ am_is h a (nd_c (PA k) (cb (TH k)) (HC k)))
section F1
variable {d : Nat} {h h' H : am_H} {res : Option Value} {τ : Nat → Int32} {t : Int64} {B : Nat → Nat → Int32} {P : Nat → Nat → Option Nat} {TH : Nat → Prop} {PA : Nat → Int32} {HC : Nat → Nat} {R C k : Nat} {x : Int32}
theorem TW_a (hw : TW h P TH PA HC) (hk : k < 60) (ht : TH k) : ∃ a, P 0 k = some a ∧ 15 ≤ a ∧ am_is h a (nd_c (PA k) (cb (TH k)) (HC k)) := (hw k hk).resolve_left (fun q => q.2 ht)
theorem c_findT (hn : 15 ≤ h.1) {a : Nat} (hk : k < 60) (ht : TH k) (ep : P 0 k = some a) (ga : 15 ≤ a) (ia : am_is h a (nd_c (PA k) (cb (TH k)) (HC k))) : am_m d z_Tree_find [.ref 3, .int (nI k)] (dH h τ t B P) (some (.ref a)) (dH h τ t B P) := by
  refine ev_go 1 (q := 1) rfl ?_
  refine ev_if_lt (t := 13) (q := 4) rfl rfl rfl (fun c => absurd c (nI_nlt (b := 0) (by omega) (by omega))) (fun zc1 => ?_)
  refine ev_go 2 (q := 6) rfl ?_
  refine ev_get (q := 9) rfl (d_3 hn) rfl rfl rfl ?_
  refine ev_alen (v := 60) (q := 10) rfl (d_4 hn) (by decide) rfl rfl ?_
  refine ev_icmp_lt (t := 15) (q := 13) rfl rfl rfl (fun zc2 => ?_) (fun c => absurd (nI_lt (b := 60) hk (by omega)) c)
  refine ev_go 1 (q := 16) rfl ?_
  refine ev_get (q := 19) rfl (d_3 hn) rfl rfl rfl ?_
  refine ev_go 1 (q := 20) rfl ?_
  refine ev_aaldn (q := 21) rfl (d_4 hn) (by decide) rfl hk (by decide) rfl ?_
  rw [ep]
  refine ev_go 2 (q := 23) rfl ?_
  refine ev_go 1 (q := 26) rfl ?_
  refine ev_go 1 (q := 27) rfl ?_
  refine ev_get (q := 30) rfl (dH_ge ga ia) rfl rfl rfl ?_
  refine ev_tp (y := 1) (cb_1 ht) ?_
  refine ev_if_eq (t := 37) (q := 33) rfl rfl rfl (fun c => absurd c (by decide)) (fun _ => ?_)
  refine ev_go 2 (q := 38) rfl ?_
  exact ev_aret (x := some a) (v := some a) rfl rfl rfl rfl
theorem c_findN (hn : 15 ≤ h.1) (hw : TW h P TH PA HC) (hno : ∀ k, k < 60 → x = nI k → ¬ TH k) : am_m d z_Tree_find [.ref 3, .int x] (dH h τ t B P) (some .null) (dH h τ t B P) := by
  by_cases zr : 0 ≤ x ∧ x < 60
  · obtain ⟨k, hk, rfl⟩ : ∃ k, k < 60 ∧ x = nI k := by
      have g1 := Int32.le_iff_toInt_le.mp zr.1
      have g2 := Int32.lt_iff_toInt_lt.mp zr.2
      rw [show (0 : Int32).toInt = 0 by decide] at g1
      rw [show (60 : Int32).toInt = 60 by decide] at g2
      refine ⟨x.toInt.toNat, by omega, Int32.toInt_inj.mp ?_⟩
      rw [nI_toInt (by omega)]
      omega
    have hnt := hno k hk rfl
    rcases hw k hk with ⟨ep, _⟩ | ⟨a, ep, ga, ia⟩
    · refine ev_go 1 (q := 1) rfl ?_
      refine ev_if_lt (t := 13) (q := 4) rfl rfl rfl (fun c => absurd c (nI_nlt (b := 0) (by omega) (by omega))) (fun zc1 => ?_)
      refine ev_go 2 (q := 6) rfl ?_
      refine ev_get (q := 9) rfl (d_3 hn) rfl rfl rfl ?_
      refine ev_alen (v := 60) (q := 10) rfl (d_4 hn) (by decide) rfl rfl ?_
      refine ev_icmp_lt (t := 15) (q := 13) rfl rfl rfl (fun zc2 => ?_) (fun c => absurd (nI_lt (b := 60) hk (by omega)) c)
      refine ev_go 1 (q := 16) rfl ?_
      refine ev_get (q := 19) rfl (d_3 hn) rfl rfl rfl ?_
      refine ev_go 1 (q := 20) rfl ?_
      refine ev_aaldn (q := 21) rfl (d_4 hn) (by decide) rfl hk (by decide) rfl ?_
      rw [ep]
      refine ev_go 2 (q := 23) rfl ?_
      refine ev_go 1 (q := 37) rfl ?_
      refine ev_go 1 (q := 38) rfl ?_
      exact ev_aret (x := none) (v := none) rfl rfl rfl rfl
    · refine ev_go 1 (q := 1) rfl ?_
      refine ev_if_lt (t := 13) (q := 4) rfl rfl rfl (fun c => absurd c (nI_nlt (b := 0) (by omega) (by omega))) (fun zc1 => ?_)
      refine ev_go 2 (q := 6) rfl ?_
      refine ev_get (q := 9) rfl (d_3 hn) rfl rfl rfl ?_
      refine ev_alen (v := 60) (q := 10) rfl (d_4 hn) (by decide) rfl rfl ?_
      refine ev_icmp_lt (t := 15) (q := 13) rfl rfl rfl (fun zc2 => ?_) (fun c => absurd (nI_lt (b := 60) hk (by omega)) c)
      refine ev_go 1 (q := 16) rfl ?_
      refine ev_get (q := 19) rfl (d_3 hn) rfl rfl rfl ?_
      refine ev_go 1 (q := 20) rfl ?_
      refine ev_aaldn (q := 21) rfl (d_4 hn) (by decide) rfl hk (by decide) rfl ?_
      rw [ep]
      refine ev_go 2 (q := 23) rfl ?_
      refine ev_go 1 (q := 26) rfl ?_
      refine ev_go 1 (q := 27) rfl ?_
      refine ev_get (q := 30) rfl (dH_ge ga ia) rfl rfl rfl ?_
      refine ev_tp (y := 0) (cb_z hnt) ?_
      refine ev_if_eq (t := 37) (q := 33) rfl rfl rfl (fun _ => ?_) (fun c => absurd (by decide) c)
      refine ev_go 1 (q := 38) rfl ?_
      exact ev_aret (x := none) (v := none) rfl rfl rfl rfl
  · refine ev_go 1 (q := 1) rfl ?_
    refine ev_if_lt (t := 13) (q := 4) rfl rfl rfl (fun zc1 => ?_) (fun zc1 => ?_)
    · refine ev_go 1 (q := 14) rfl ?_
      exact ev_aret (x := none) (v := none) rfl rfl rfl rfl
    · refine ev_go 2 (q := 6) rfl ?_
      refine ev_get (q := 9) rfl (d_3 hn) rfl rfl rfl ?_
      refine ev_alen (v := 60) (q := 10) rfl (d_4 hn) (by decide) rfl rfl ?_
      refine ev_icmp_lt (t := 15) (q := 13) rfl rfl rfl (fun zc2 => ?_) (fun zc2 => ?_)
      · exact absurd ⟨Int32.not_lt.mp zc1, zc2⟩ zr
      · refine ev_go 1 (q := 14) rfl ?_
        exact ev_aret (x := none) (v := none) rfl rfl rfl rfl
theorem c_hasT (hn : 15 ≤ h.1) (hw : TW h P TH PA HC) (hk : k < 60) (ht : TH k) (hd : 0 < d) : am_m d z_Tree_has [.ref 3, .int (nI k)] (dH h τ t B P) (some (.int 1)) (dH h τ t B P) := by
  obtain ⟨a, ep, ga, ia⟩ := TW_a hw hk ht
  refine ev_go 2 (q := 2) rfl ?_
  refine ev_virt (z' := z_Tree_find) (q := 5) rfl rfl (by decide) rfl (by simp [Value.category]) rfl (by omega) rfl rfl (d_3 hn) (c_findT hn hk ht ep ga ia) ?_
  refine ev_go 1 (q := 8) rfl ?_
  refine ev_go 2 (q := 13) (st' := .int 1 :: _) rfl ?_
  exact ev_zret rfl rfl (by first | exact Or.inl rfl | exact Or.inr rfl | assumption) (rfl) (rfl)
theorem c_hasN (hn : 15 ≤ h.1) (hw : TW h P TH PA HC) (hno : ∀ k, k < 60 → x = nI k → ¬ TH k) (hd : 0 < d) : am_m d z_Tree_has [.ref 3, .int x] (dH h τ t B P) (some (.int 0)) (dH h τ t B P) := by
  refine ev_go 2 (q := 2) rfl ?_
  refine ev_virt (z' := z_Tree_find) (q := 5) rfl rfl (by decide) rfl (by simp [Value.category]) rfl (by omega) rfl rfl (d_3 hn) (c_findN hn hw hno) ?_
  refine ev_go 1 (q := 12) rfl ?_
  refine ev_go 1 (q := 13) (st' := .int 0 :: _) rfl ?_
  exact ev_zret rfl rfl (by first | exact Or.inl rfl | exact Or.inr rfl | assumption) (rfl) (rfl)
theorem c_clT (hn : 15 ≤ h.1) (hw : TW h P TH PA HC) (hk : k < 60) (ht : TH k) (hd : 0 < d) : am_m d z_Tree_clothOf [.ref 3, .int (nI k)] (dH h τ t B P) (some (.ref (HC k))) (dH h τ t B P) := by
  obtain ⟨a, ep, ga, ia⟩ := TW_a hw hk ht
  refine ev_go 2 (q := 2) rfl ?_
  refine ev_virt (z' := z_Tree_find) (q := 5) rfl rfl (by decide) rfl (by simp [Value.category]) rfl (by omega) rfl rfl (d_3 hn) (c_findT hn hk ht ep ga ia) ?_
  refine ev_go 2 (q := 7) rfl ?_
  refine ev_go 1 (q := 14) rfl ?_
  refine ev_go 1 (q := 15) rfl ?_
  refine ev_get (q := 18) rfl (dH_ge ga ia) rfl rfl rfl ?_
  exact ev_aret (x := some (HC k)) (v := some (HC k)) rfl rfl rfl rfl
theorem c_clN (hn : 15 ≤ h.1) (hw : TW h P TH PA HC) (hno : ∀ k, k < 60 → x = nI k → ¬ TH k) (hd : 0 < d) : am_m d z_Tree_clothOf [.ref 3, .int x] (dH h τ t B P) (some .null) (dH h τ t B P) := by
  refine ev_go 2 (q := 2) rfl ?_
  refine ev_virt (z' := z_Tree_find) (q := 5) rfl rfl (by decide) rfl (by simp [Value.category]) rfl (by omega) rfl rfl (d_3 hn) (c_findN hn hw hno) ?_
  refine ev_go 2 (q := 7) rfl ?_
  refine ev_go 1 (q := 10) rfl ?_
  refine ev_go 2 (q := 18) rfl ?_
  exact ev_aret (x := none) (v := none) rfl rfl rfl rfl
theorem c_paT (hn : 15 ≤ h.1) (hw : TW h P TH PA HC) (hk : k < 60) (ht : TH k) (hd : 0 < d) : am_m d z_Tree_parentOf [.ref 3, .int (nI k)] (dH h τ t B P) (some (.int (PA k))) (dH h τ t B P) := by
  obtain ⟨a, ep, ga, ia⟩ := TW_a hw hk ht
  refine ev_go 2 (q := 2) rfl ?_
  refine ev_virt (z' := z_Tree_find) (q := 5) rfl rfl (by decide) rfl (by simp [Value.category]) rfl (by omega) rfl rfl (d_3 hn) (c_findT hn hk ht ep ga ia) ?_
  refine ev_go 2 (q := 7) rfl ?_
  refine ev_go 1 (q := 15) rfl ?_
  refine ev_go 1 (q := 16) rfl ?_
  refine ev_get (q := 19) rfl (dH_ge ga ia) rfl rfl rfl ?_
  exact ev_iret rfl rfl (rfl) (rfl)
theorem c_paN (hn : 15 ≤ h.1) (hw : TW h P TH PA HC) (hno : ∀ k, k < 60 → x = nI k → ¬ TH k) (hd : 0 < d) : am_m d z_Tree_parentOf [.ref 3, .int x] (dH h τ t B P) (some (.int (-9))) (dH h τ t B P) := by
  refine ev_go 2 (q := 2) rfl ?_
  refine ev_virt (z' := z_Tree_find) (q := 5) rfl rfl (by decide) rfl (by simp [Value.category]) rfl (by omega) rfl rfl (d_3 hn) (c_findN hn hw hno) ?_
  refine ev_go 2 (q := 7) rfl ?_
  refine ev_go 1 (q := 10) rfl ?_
  refine ev_go 2 (q := 19) (st' := .int (-9) :: _) rfl ?_
  exact ev_iret rfl rfl (rfl) (rfl)
theorem no_of (hk : k < 60) (hn : ¬ TH k) : ∀ j, j < 60 → nI k = nI j → ¬ TH j := fun j hj e => by
  rw [← nI_ij (by omega) (by omega) e]
  exact hn
theorem c_hasK (hn : 15 ≤ h.1) (hw : TW h P TH PA HC) (hk : k < 60) (hd : 0 < d) : am_m d z_Tree_has [.ref 3, .int (nI k)] (dH h τ t B P) (some (.int (cb (TH k)))) (dH h τ t B P) := by
  by_cases zt : TH k
  · rw [cb_1 zt]; exact c_hasT hn hw hk zt hd
  · rw [cb_z zt]; exact c_hasN hn hw (no_of hk zt) hd
theorem c_isFull (hn : 15 ≤ h.1) {n : Nat} (h5 : τ 5 = nI n) (hb : n ≤ 60) : am_m d z_Tree_isFull [.ref 3] (dH h τ t B P) (some (.int (am_b (n = 60)))) (dH h τ t B P) := by
  refine ev_go 1 (q := 1) rfl ?_
  refine ev_get (q := 4) rfl (d_3 hn) rfl rfl rfl ?_
  refine ev_tp (y := nI n) h5 ?_
  refine ev_go 1 (q := 5) rfl ?_
  refine ev_get (q := 8) rfl (d_3 hn) rfl rfl rfl ?_
  refine ev_alen (v := 60) (q := 9) rfl (d_4 hn) (by decide) rfl rfl ?_
  refine ev_icmp_lt (t := 16) (q := 12) rfl rfl rfl (fun zc1 => ?_) (fun zc1 => ?_)
  · refine ev_go 1 (q := 17) (st' := .int 0 :: _) rfl ?_
    exact ev_zret rfl rfl (by first | exact Or.inl rfl | exact Or.inr rfl | assumption) (by first | exact (am_b1 (by have := Nat.le_of_not_lt (fun q => zc1 (nI_lt (b := 60) q (by omega))); omega)).symm | exact (am_bz (fun q => absurd zc1 (by rw [q]; decide))).symm) (rfl)
  · refine ev_go 2 (q := 17) (st' := .int 1 :: _) rfl ?_
    exact ev_zret rfl rfl (by first | exact Or.inl rfl | exact Or.inr rfl | assumption) (by first | exact (am_b1 (by have := Nat.le_of_not_lt (fun q => zc1 (nI_lt (b := 60) q (by omega))); omega)).symm | exact (am_bz (fun q => absurd zc1 (by rw [q]; decide))).symm) (rfl)
theorem l_tc (hn : 15 ≤ h.1) (hw : TW h P TH PA HC) (hd : 2 < d)  : ∀ (m k : Nat) (y : Int32), k + m = 60 → am_ev d z_Tree_thereCount (30, [some (.ref 3), some (.int (sp_it (fun k (y : Int32) => y + cb (TH k)) k m y)), some (.int (nI 60))], [], dH h τ t B P) res h' → am_ev d z_Tree_thereCount (10, [some (.ref 3), some (.int y), some (.int (nI k))], [.int 60, .int (nI k)], dH h τ t B P) res h'
  | 0, k, y, hm, K => by
    refine ev_icmp_ge (t := 30) (q := 13) rfl rfl rfl (fun _ => ?_) (fun c1 => absurd (nI_end (b := 60) hm (by omega)) c1)
    have hc : k = 60 := hm
    subst hc
    exact K
  | m + 1, k, y, hm, K => by
    refine ev_icmp_ge (t := 30) (q := 13) rfl rfl rfl (fun c1 => absurd c1 (nI_ge (b := 60) (by omega) (by omega))) (fun _ => ?_)
    simp only [sp_it] at K
    refine ev_go 2 (q := 15) rfl ?_
    refine ev_virt (z' := z_Tree_has) (q := 18) rfl rfl (by decide) rfl (by simp [Value.category]) rfl (by omega) rfl rfl (d_3 hn) (c_hasK hn hw (by omega) (by omega)) ?_
    refine ev_if_eq (t := 24) (q := 21) rfl rfl rfl (fun zc1 => ?_) (fun zc1 => ?_)
    · refine ev_go 4 (q := 6) rfl ?_
      refine ev_get (q := 9) rfl (d_3 hn) rfl rfl rfl ?_
      refine ev_alen (v := 60) (q := 10) rfl (d_4 hn) (by decide) rfl rfl ?_
      rw [cb_z (cb_0.mp zc1), Int32.add_zero] at K
      rw [nI_s]
      exact l_tc hn hw hd m (k + 1) y (by omega) K
    · refine ev_go 5 (q := 6) rfl ?_
      refine ev_get (q := 9) rfl (d_3 hn) rfl rfl rfl ?_
      refine ev_alen (v := 60) (q := 10) rfl (d_4 hn) (by decide) rfl rfl ?_
      rw [cb_1 (cb_n.mp zc1)] at K
      rw [nI_s]
      exact l_tc hn hw hd m (k + 1) (y + 1) (by omega) K
theorem c_there (hn : 15 ≤ h.1) (hw : TW h P TH PA HC) (hd : 2 < d) : am_m d z_Tree_thereCount [.ref 3] (dH h τ t B P) (some (.int (sp_it (fun k (y : Int32) => y + cb (TH k)) 0 60 0))) (dH h τ t B P) := by
  refine ev_go 6 (q := 6) rfl ?_
  refine ev_get (q := 9) rfl (d_3 hn) rfl rfl rfl ?_
  refine ev_alen (v := 60) (q := 10) rfl (d_4 hn) (by decide) rfl rfl ?_
  rw [show Int32.ofInt 0 = nI 0 from rfl]
  refine l_tc hn hw hd 60 0 (nI 0) (by omega) ?_
  refine ev_go 1 (q := 31) rfl ?_
  exact ev_iret rfl rfl rfl rfl
theorem l_cu (hn : 15 ≤ h.1) (hw : TW h P TH PA HC) (hd : 2 < d)  : ∀ (m k : Nat) (y : Int32), k + m = 60 → am_ev d z_Tree_countUnder (39, [some (.ref 3), some (.int x), some (.int (sp_it (fun k (y : Int32) => y + cb (TH k ∧ PA k = x)) k m y)), some (.int (nI 60))], [], dH h τ t B P) res h' → am_ev d z_Tree_countUnder (10, [some (.ref 3), some (.int x), some (.int y), some (.int (nI k))], [.int 60, .int (nI k)], dH h τ t B P) res h'
  | 0, k, y, hm, K => by
    refine ev_icmp_ge (t := 39) (q := 13) rfl rfl rfl (fun _ => ?_) (fun c1 => absurd (nI_end (b := 60) hm (by omega)) c1)
    have hc : k = 60 := hm
    subst hc
    exact K
  | m + 1, k, y, hm, K => by
    refine ev_icmp_ge (t := 39) (q := 13) rfl rfl rfl (fun c1 => absurd c1 (nI_ge (b := 60) (by omega) (by omega))) (fun _ => ?_)
    simp only [sp_it] at K
    refine ev_go 2 (q := 15) rfl ?_
    refine ev_virt (z' := z_Tree_has) (q := 18) rfl rfl (by decide) rfl (by simp [Value.category]) rfl (by omega) rfl rfl (d_3 hn) (c_hasK hn hw (by omega) (by omega)) ?_
    refine ev_if_eq (t := 33) (q := 21) rfl rfl rfl (fun zc1 => ?_) (fun zc1 => ?_)
    · refine ev_go 4 (q := 6) rfl ?_
      refine ev_get (q := 9) rfl (d_3 hn) rfl rfl rfl ?_
      refine ev_alen (v := 60) (q := 10) rfl (d_4 hn) (by decide) rfl rfl ?_
      rw [cb_z (fun q => cb_0.mp zc1 q.1), Int32.add_zero] at K
      rw [nI_s]
      exact l_cu hn hw hd m (k + 1) y (by omega) K
    · have zt : TH k := cb_n.mp zc1
      refine ev_go 2 (q := 23) rfl ?_
      refine ev_virt (z' := z_Tree_parentOf) (q := 26) rfl rfl (by decide) rfl (by simp [Value.category]) rfl (by omega) rfl rfl (d_3 hn) (c_paT hn hw (by omega) zt (by omega)) ?_
      refine ev_go 1 (q := 27) rfl ?_
      refine ev_icmp_ne (t := 33) (q := 30) rfl rfl rfl (fun zc1 => ?_) (fun zc1 => ?_)
      · refine ev_go 4 (q := 6) rfl ?_
        refine ev_get (q := 9) rfl (d_3 hn) rfl rfl rfl ?_
        refine ev_alen (v := 60) (q := 10) rfl (d_4 hn) (by decide) rfl rfl ?_
        rw [cb_z (fun q => zc1 q.2), Int32.add_zero] at K
        rw [nI_s]
        exact l_cu hn hw hd m (k + 1) y (by omega) K
      · refine ev_go 5 (q := 6) rfl ?_
        refine ev_get (q := 9) rfl (d_3 hn) rfl rfl rfl ?_
        refine ev_alen (v := 60) (q := 10) rfl (d_4 hn) (by decide) rfl rfl ?_
        rw [cb_1 ⟨zt, zc1⟩] at K
        rw [nI_s]
        exact l_cu hn hw hd m (k + 1) (y + 1) (by omega) K
theorem c_under (hn : 15 ≤ h.1) (hw : TW h P TH PA HC) (hd : 2 < d) : am_m d z_Tree_countUnder [.ref 3, .int x] (dH h τ t B P) (some (.int (sp_it (fun k (y : Int32) => y + cb (TH k ∧ PA k = x)) 0 60 0))) (dH h τ t B P) := by
  refine ev_go 6 (q := 6) rfl ?_
  refine ev_get (q := 9) rfl (d_3 hn) rfl rfl rfl ?_
  refine ev_alen (v := 60) (q := 10) rfl (d_4 hn) (by decide) rfl rfl ?_
  rw [show Int32.ofInt 0 = nI 0 from rfl]
  refine l_cu hn hw hd 60 0 (nI 0) (by omega) ?_
  refine ev_go 1 (q := 40) rfl ?_
  exact ev_iret rfl rfl rfl rfl
noncomputable def hu (TH : Nat → Prop) (PA : Nat → Int32) (x : Int32) : Nat → Int32
  | 0 => -9
  | n + 1 => @ite _ (TH n ∧ PA n = x) (Classical.propDecidable _) (nI n) (hu TH PA x n)
theorem l_hu (hn : 15 ≤ h.1) (hw : TW h P TH PA HC) (hd : 2 < d) : ∀ (n : Nat), n ≤ 60 → ∀ y : Int32, y = (if n = 0 then -1 else nI (n - 1)) → am_ev d z_Tree_highestUnder (9, [some (.ref 3), some (.int x), some (.int y)], [.int y], dH h τ t B P) (some (.int (hu TH PA x n))) (dH h τ t B P)
  | 0, _, y, ey => by
    rw [if_pos rfl] at ey
    subst ey
    refine ev_if_lt (t := 37) (q := 12) rfl rfl rfl (fun _ => ?_) (fun c => absurd (by decide) c)
    refine ev_go 1 (q := 39) (st' := .int (-9) :: _) rfl ?_
    exact ev_iret rfl rfl (rfl) (rfl)
  | n + 1, hn6, y, ey => by
    rw [if_neg (by omega), show n + 1 - 1 = n by omega] at ey
    subst ey
    refine ev_if_lt (t := 37) (q := 12) rfl rfl rfl (fun c => absurd c (nI_nlt (b := 0) (by omega) (by omega))) (fun _ => ?_)
    have K9 : ¬ (TH n ∧ PA n = x) → am_ev d z_Tree_highestUnder (31, [some (.ref 3), some (.int x), some (.int (nI n))], [], dH h τ t B P) (some (.int (hu TH PA x (n + 1)))) (dH h τ t B P) := by
      intro zq
      rw [show hu TH PA x (n + 1) = hu TH PA x n from @if_neg _ (Classical.propDecidable _) zq _ _ _]
      refine ev_go 3 (q := 9) rfl ?_
      refine l_hu hn hw hd n (by omega) _ ?_
      by_cases e : n = 0
      · subst e; rfl
      · rw [if_neg e]; exact nI_p (by omega)
    refine ev_go 2 (q := 14) rfl ?_
    refine ev_virt (z' := z_Tree_has) (q := 17) rfl rfl (by decide) rfl (by simp [Value.category]) rfl (by omega) rfl rfl (d_3 hn) (c_hasK hn hw (by omega) (by omega)) ?_
    refine ev_if_eq (t := 31) (q := 20) rfl rfl rfl (fun zc1 => ?_) (fun zc1 => ?_)
    · exact K9 (fun q => cb_0.mp zc1 q.1)
    · have zt : TH n := cb_n.mp zc1
      refine ev_go 2 (q := 22) rfl ?_
      refine ev_virt (z' := z_Tree_parentOf) (q := 25) rfl rfl (by decide) rfl (by simp [Value.category]) rfl (by omega) rfl rfl (d_3 hn) (c_paT hn hw (by omega) zt (by omega)) ?_
      refine ev_go 1 (q := 26) rfl ?_
      refine ev_icmp_ne (t := 31) (q := 29) rfl rfl rfl (fun zc1 => ?_) (fun zc1 => ?_)
      · exact K9 (fun q => zc1 q.2)
      · refine ev_go 1 (q := 30) rfl ?_
        exact ev_iret rfl rfl ((show hu TH PA x (n + 1) = nI n from @if_pos _ (Classical.propDecidable _) ⟨zt, zc1⟩ _ _ _).symm) (rfl)
theorem c_highest (hn : 15 ≤ h.1) (hw : TW h P TH PA HC) (hd : 2 < d) : am_m d z_Tree_highestUnder [.ref 3, .int x] (dH h τ t B P) (some (.int (hu TH PA x 60))) (dH h τ t B P) := by
  refine ev_go 1 (q := 1) rfl ?_
  refine ev_get (q := 4) rfl (d_3 hn) rfl rfl rfl ?_
  refine ev_alen (v := 60) (q := 5) rfl (d_4 hn) (by decide) rfl rfl ?_
  refine ev_go 4 (q := 9) rfl ?_
  exact l_hu hn hw hd 60 (by omega) _ rfl
def ct (PA : Nat → Int32) : Nat → Nat → Nat → Nat
  | 0, _, _ => 0
  | f + 1, x, y => if x = y then 0 else if y < x then ct PA f (PA x).toNatClampNeg y + 1 else ct PA f x (PA y).toNatClampNeg + 1
def WF (TH : Nat → Prop) (PA : Nat → Int32) : Prop := ∀ k, k < 60 → TH k → (k = 0 ∧ PA k = -9) ∨ ∃ p, p < k ∧ PA k = nI p ∧ TH p
theorem l_st (hn : 15 ≤ h.1) (hw : TW h P TH PA HC) (hf : WF TH PA) (hd : 2 < d) {e1 e2 : Int32} : ∀ (f x y s : Nat), x < 60 → y < 60 → TH x → TH y → x + y < f → s + x + y < 120 → am_ev d z_Tree_stepsBetween (11, [some (.ref 3), some (.int e1), some (.int e2), some (.int (nI x)), some (.int (nI y)), some (.int (nI s))], [.int (nI y), .int (nI x)], dH h τ t B P) (some (.int (nI (s + ct PA f x y)))) (dH h τ t B P)
  | 0, x, y, s, _, _, _, _, hlt, _ => absurd hlt (by omega)
  | f + 1, x, y, s, hx, hy, tx, ty, hlt, hs => by
    by_cases e : x = y
    · subst e
      refine ev_icmp_eq (t := 50) (q := 14) rfl rfl rfl (fun _ => ?_) (fun c => absurd rfl c)
      rw [show ct PA (f + 1) x x = 0 from if_pos rfl]
      refine ev_go 1 (q := 52) rfl ?_
      exact ev_iret rfl rfl rfl rfl
    · refine ev_icmp_eq (t := 50) (q := 14) rfl rfl rfl (fun c => absurd (nI_ij (by omega) (by omega) c) e) (fun _ => ?_)
      by_cases l : y < x
      · obtain ⟨p, hp, ep, tp⟩ := (hf x hx tx).resolve_left (fun q => by omega)
        have ec : ct PA (f + 1) x y = ct PA f p y + 1 := by
          show (if x = y then 0 else if y < x then ct PA f (PA x).toNatClampNeg y + 1 else ct PA f x (PA y).toNatClampNeg + 1) = _
          rw [if_neg e, if_pos l, ep, nI_clamp (by omega)]
        rw [ec, show s + (ct PA f p y + 1) = s + 1 + ct PA f p y by omega]
        refine ev_go 2 (q := 18) (st' := .int 120 :: _ :: _) rfl ?_
        refine ev_icmp_ge (t := 50) (q := 21) rfl rfl rfl (fun c => absurd c (nI_ge (b := 120) (by omega) (by omega))) (fun zc1 => ?_)
        refine ev_go 2 (q := 24) rfl ?_
        refine ev_icmp_le (t := 36) (q := 27) rfl rfl rfl (fun c => absurd c (fun q => absurd (nI_lt l (by omega)) (Int32.not_lt.mpr q))) (fun zc2 => ?_)
        refine ev_go 2 (q := 29) rfl ?_
        refine ev_virt (z' := z_Tree_parentOf) (q := 32) rfl rfl (by decide) rfl (by simp [Value.category]) rfl (by omega) rfl rfl (d_3 hn) (c_paT hn hw hx tx (by omega)) ?_
        refine ev_tp (y := nI p) ep ?_
        refine ev_go 2 (q := 44) rfl ?_
        skip
        refine ev_go 4 (q := 11) rfl ?_
        rw [nI_s]
        exact l_st hn hw hf hd f p y (s + 1) (by omega) hy tp ty (by omega) (by omega)
      · obtain ⟨p, hp, ep, tp⟩ := (hf y hy ty).resolve_left (fun q => by omega)
        have ec : ct PA (f + 1) x y = ct PA f x p + 1 := by
          show (if x = y then 0 else if y < x then ct PA f (PA x).toNatClampNeg y + 1 else ct PA f x (PA y).toNatClampNeg + 1) = _
          rw [if_neg e, if_neg l, ep, nI_clamp (by omega)]
        rw [ec, show s + (ct PA f x p + 1) = s + 1 + ct PA f x p by omega]
        refine ev_go 2 (q := 18) (st' := .int 120 :: _ :: _) rfl ?_
        refine ev_icmp_ge (t := 50) (q := 21) rfl rfl rfl (fun c => absurd c (nI_ge (b := 120) (by omega) (by omega))) (fun zc1 => ?_)
        refine ev_go 2 (q := 24) rfl ?_
        refine ev_icmp_le (t := 36) (q := 27) rfl rfl rfl (fun zc2 => ?_) (fun c => absurd (nI_le (by omega) (by omega)) c)
        refine ev_go 2 (q := 39) rfl ?_
        refine ev_virt (z' := z_Tree_parentOf) (q := 42) rfl rfl (by decide) rfl (by simp [Value.category]) rfl (by omega) rfl rfl (d_3 hn) (c_paT hn hw hy ty (by omega)) ?_
        refine ev_tp (y := nI p) ep ?_
        refine ev_go 5 (q := 11) rfl ?_
        rw [nI_s]
        exact l_st hn hw hf hd f x p (s + 1) hx (by omega) tx tp (by omega) (by omega)
theorem c_steps (hn : 15 ≤ h.1) (hw : TW h P TH PA HC) (hf : WF TH PA) (hd : 2 < d) {x y : Nat} (hx : x < 60) (hy : y < 60) (tx : TH x) (ty : TH y) : am_m d z_Tree_stepsBetween [.ref 3, .int (nI x), .int (nI y)] (dH h τ t B P) (some (.int (nI (ct PA 120 x y)))) (dH h τ t B P) := by
  refine ev_go 8 (q := 11) rfl ?_
  rw [show Int32.ofInt 0 = nI 0 from rfl]
  have q := l_st (e1 := nI x) (e2 := nI y) (τ := τ) (t := t) (B := B) hn hw hf hd 120 x y 0 hx hy tx ty (by omega) (by omega)
  rw [Nat.zero_add] at q
  exact q
end F1
