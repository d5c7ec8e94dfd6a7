/-! small methods -/
def am_b (p : Prop) [Decidable p] : Int32 := if p then 1 else 0
theorem am_b0 {p : Prop} [Decidable p] : am_b p = 0 ↔ ¬ p := by
  unfold am_b
  by_cases h : p <;> simp [h]
theorem am_bn {p : Prop} [Decidable p] : ¬ am_b p = 0 ↔ p := by
  unfold am_b
  by_cases h : p <;> simp [h]
theorem am_b1 {p : Prop} [Decidable p] (h : p) : am_b p = 1 := if_pos h
theorem am_bz {p : Prop} [Decidable p] (h : ¬ p) : am_b p = 0 := if_neg h
theorem am_b01 {p : Prop} [Decidable p] : am_b p = 0 ∨ am_b p = 1 := by
  unfold am_b
  by_cases h : p <;> simp [h]

theorem k_within {d : Nat} {h : am_H} (v a b : Int32) : am_m d z_Desk_within [.int v, .int a, .int b] h (some (.int (am_b (a ≤ v ∧ v ≤ b)))) h := by
  refine ev_go 2 (q := 2) rfl ?_
  refine ev_icmp_lt (t := 14) (q := 5) rfl rfl rfl (fun zc1 => ?_) (fun zc1 => ?_)
  · refine ev_go 1 (q := 15) (st' := .int 0 :: _) rfl ?_
    exact ev_zret rfl rfl (by first | exact Or.inl rfl | exact Or.inr rfl | assumption) (by first | exact (am_bz (by simp only [Int32.lt_iff_toInt_lt, Int32.le_iff_toInt_le] at *; omega)).symm | exact (am_b1 (by simp only [Int32.lt_iff_toInt_lt, Int32.le_iff_toInt_le] at *; omega)).symm) (rfl)
  · refine ev_go 2 (q := 7) rfl ?_
    refine ev_icmp_gt (t := 14) (q := 10) rfl rfl rfl (fun zc2 => ?_) (fun zc2 => ?_)
    · refine ev_go 1 (q := 15) (st' := .int 0 :: _) rfl ?_
      exact ev_zret rfl rfl (by first | exact Or.inl rfl | exact Or.inr rfl | assumption) (by first | exact (am_bz (by simp only [Int32.lt_iff_toInt_lt, Int32.le_iff_toInt_le] at *; omega)).symm | exact (am_b1 (by simp only [Int32.lt_iff_toInt_lt, Int32.le_iff_toInt_le] at *; omega)).symm) (rfl)
    · refine ev_go 2 (q := 15) (st' := .int 1 :: _) rfl ?_
      exact ev_zret rfl rfl (by first | exact Or.inl rfl | exact Or.inr rfl | assumption) (by first | exact (am_bz (by simp only [Int32.lt_iff_toInt_lt, Int32.le_iff_toInt_le] at *; omega)).symm | exact (am_b1 (by simp only [Int32.lt_iff_toInt_lt, Int32.le_iff_toInt_le] at *; omega)).symm) (rfl)
theorem k_isWool {d : Nat} {h : am_H} (v : Int32) : am_m d z_Desk_isWool [.int v] h (some (.int (am_b (0 ≤ v ∧ v ≤ 9)))) h := by
  refine ev_go 1 (q := 1) rfl ?_
  refine ev_if_lt (t := 14) (q := 4) rfl rfl rfl (fun zc1 => ?_) (fun zc1 => ?_)
  · refine ev_go 1 (q := 15) (st' := .int 0 :: _) rfl ?_
    exact ev_zret rfl rfl (by first | exact Or.inl rfl | exact Or.inr rfl | assumption) (by first | exact (am_bz (by simp only [Int32.lt_iff_toInt_lt, Int32.le_iff_toInt_le] at *; omega)).symm | exact (am_b1 (by simp only [Int32.lt_iff_toInt_lt, Int32.le_iff_toInt_le] at *; omega)).symm) (rfl)
  · refine ev_go 2 (q := 7) (st' := .int 9 :: _ :: _) rfl ?_
    refine ev_icmp_gt (t := 14) (q := 10) rfl rfl rfl (fun zc2 => ?_) (fun zc2 => ?_)
    · refine ev_go 1 (q := 15) (st' := .int 0 :: _) rfl ?_
      exact ev_zret rfl rfl (by first | exact Or.inl rfl | exact Or.inr rfl | assumption) (by first | exact (am_bz (by simp only [Int32.lt_iff_toInt_lt, Int32.le_iff_toInt_le] at *; omega)).symm | exact (am_b1 (by simp only [Int32.lt_iff_toInt_lt, Int32.le_iff_toInt_le] at *; omega)).symm) (rfl)
    · refine ev_go 2 (q := 15) (st' := .int 1 :: _) rfl ?_
      exact ev_zret rfl rfl (by first | exact Or.inl rfl | exact Or.inr rfl | assumption) (by first | exact (am_bz (by simp only [Int32.lt_iff_toInt_lt, Int32.le_iff_toInt_le] at *; omega)).symm | exact (am_b1 (by simp only [Int32.lt_iff_toInt_lt, Int32.le_iff_toInt_le] at *; omega)).symm) (rfl)
theorem k_in {d : Nat} {h : am_H} (v a b : Int32) : am_m d z_Model_in [.int v, .int a, .int b] h (some (.int (am_b (a ≤ v ∧ v ≤ b)))) h := by
  refine ev_go 2 (q := 2) rfl ?_
  refine ev_icmp_lt (t := 14) (q := 5) rfl rfl rfl (fun zc1 => ?_) (fun zc1 => ?_)
  · refine ev_go 1 (q := 15) (st' := .int 0 :: _) rfl ?_
    exact ev_zret rfl rfl (by first | exact Or.inl rfl | exact Or.inr rfl | assumption) (by first | exact (am_bz (by simp only [Int32.lt_iff_toInt_lt, Int32.le_iff_toInt_le] at *; omega)).symm | exact (am_b1 (by simp only [Int32.lt_iff_toInt_lt, Int32.le_iff_toInt_le] at *; omega)).symm) (rfl)
  · refine ev_go 2 (q := 7) rfl ?_
    refine ev_icmp_gt (t := 14) (q := 10) rfl rfl rfl (fun zc2 => ?_) (fun zc2 => ?_)
    · refine ev_go 1 (q := 15) (st' := .int 0 :: _) rfl ?_
      exact ev_zret rfl rfl (by first | exact Or.inl rfl | exact Or.inr rfl | assumption) (by first | exact (am_bz (by simp only [Int32.lt_iff_toInt_lt, Int32.le_iff_toInt_le] at *; omega)).symm | exact (am_b1 (by simp only [Int32.lt_iff_toInt_lt, Int32.le_iff_toInt_le] at *; omega)).symm) (rfl)
    · refine ev_go 2 (q := 15) (st' := .int 1 :: _) rfl ?_
      exact ev_zret rfl rfl (by first | exact Or.inl rfl | exact Or.inr rfl | assumption) (by first | exact (am_bz (by simp only [Int32.lt_iff_toInt_lt, Int32.le_iff_toInt_le] at *; omega)).symm | exact (am_b1 (by simp only [Int32.lt_iff_toInt_lt, Int32.le_iff_toInt_le] at *; omega)).symm) (rfl)
abbrev am_cloth (rows cols use sh : Int32) (k : Nat) : am_C := .inr (0, [.int rows, .int cols, .int use, .int sh, .ref k])
abbrev am_ia (n : Nat) (f : Nat → Int32) : am_C := .inl (0, n, .inl f)
abbrev am_za (n : Nat) (f : Nat → Int32) : am_C := .inl (1, n, .inl f)
def sp_kn (rows cols r c : Int32) : Prop := (0 ≤ r ∧ r < rows) ∧ 0 ≤ c ∧ c < cols
theorem k_isKnot {d : Nat} {h : am_H} {a k : Nat} {rows cols use sh : Int32} (r c : Int32) (hc : am_is h a (am_cloth rows cols use sh k)) : am_m d z_Cloth_isKnot [.ref a, .int r, .int c] h (some (.int (am_b ((0 ≤ r ∧ r < rows) ∧ 0 ≤ c ∧ c < cols)))) h := by
  refine ev_go 1 (q := 1) rfl ?_
  refine ev_if_lt (t := 28) (q := 4) rfl rfl rfl (fun zc1 => ?_) (fun zc1 => ?_)
  · refine ev_go 1 (q := 29) (st' := .int 0 :: _) rfl ?_
    exact ev_zret rfl rfl (by first | exact Or.inl rfl | exact Or.inr rfl | assumption) (by first | exact (am_bz (by simp only [Int32.lt_iff_toInt_lt, Int32.le_iff_toInt_le] at *; omega)).symm | exact (am_b1 (by simp only [Int32.lt_iff_toInt_lt, Int32.le_iff_toInt_le] at *; omega)).symm) (rfl)
  · refine ev_go 2 (q := 6) rfl ?_
    refine ev_get (q := 9) rfl (by assumption) rfl rfl rfl ?_
    refine ev_icmp_ge (t := 28) (q := 12) rfl rfl rfl (fun zc2 => ?_) (fun zc2 => ?_)
    · refine ev_go 1 (q := 29) (st' := .int 0 :: _) rfl ?_
      exact ev_zret rfl rfl (by first | exact Or.inl rfl | exact Or.inr rfl | assumption) (by first | exact (am_bz (by simp only [Int32.lt_iff_toInt_lt, Int32.le_iff_toInt_le] at *; omega)).symm | exact (am_b1 (by simp only [Int32.lt_iff_toInt_lt, Int32.le_iff_toInt_le] at *; omega)).symm) (rfl)
    · refine ev_go 1 (q := 13) rfl ?_
      refine ev_if_lt (t := 28) (q := 16) rfl rfl rfl (fun zc3 => ?_) (fun zc3 => ?_)
      · refine ev_go 1 (q := 29) (st' := .int 0 :: _) rfl ?_
        exact ev_zret rfl rfl (by first | exact Or.inl rfl | exact Or.inr rfl | assumption) (by first | exact (am_bz (by simp only [Int32.lt_iff_toInt_lt, Int32.le_iff_toInt_le] at *; omega)).symm | exact (am_b1 (by simp only [Int32.lt_iff_toInt_lt, Int32.le_iff_toInt_le] at *; omega)).symm) (rfl)
      · refine ev_go 2 (q := 18) rfl ?_
        refine ev_get (q := 21) rfl (by assumption) rfl rfl rfl ?_
        refine ev_icmp_ge (t := 28) (q := 24) rfl rfl rfl (fun zc4 => ?_) (fun zc4 => ?_)
        · refine ev_go 1 (q := 29) (st' := .int 0 :: _) rfl ?_
          exact ev_zret rfl rfl (by first | exact Or.inl rfl | exact Or.inr rfl | assumption) (by first | exact (am_bz (by simp only [Int32.lt_iff_toInt_lt, Int32.le_iff_toInt_le] at *; omega)).symm | exact (am_b1 (by simp only [Int32.lt_iff_toInt_lt, Int32.le_iff_toInt_le] at *; omega)).symm) (rfl)
        · refine ev_go 2 (q := 29) (st' := .int 1 :: _) rfl ?_
          exact ev_zret rfl rfl (by first | exact Or.inl rfl | exact Or.inr rfl | assumption) (by first | exact (am_bz (by simp only [Int32.lt_iff_toInt_lt, Int32.le_iff_toInt_le] at *; omega)).symm | exact (am_b1 (by simp only [Int32.lt_iff_toInt_lt, Int32.le_iff_toInt_le] at *; omega)).symm) (rfl)
