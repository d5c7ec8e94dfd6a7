/-! the cloth of the class: what is read of it -/
theorem nI_s (k : Nat) : nI k + Int32.ofInt 1 = nI (k + 1) := nI_1 k
theorem nI_p {k : Nat} (h : 0 < k) : nI k + Int32.ofInt (-1) = nI (k - 1) := sb_m1 h
def cx (r c l : Nat) : Nat := (r * 10 + c) * 4 + l
theorem cx_lt {r c l : Nat} (hr : r < 10) (hc : c < 10) (hl : l < 4) : cx r c l < 400 := by unfold cx; omega
theorem cx_ix (r c l : Nat) : (nI r * 10 + nI c) * 4 + nI l = nI (cx r c l) := by
  rw [show (10 : Int32) = nI 10 from rfl, show (4 : Int32) = nI 4 from rfl, pk_mul, nI_add, pk_mul, nI_add]
  rfl
abbrev cl_kn (R C : Nat) (r c : Int32) : Prop := (0 ≤ r ∧ r < nI R) ∧ 0 ≤ c ∧ c < nI C
theorem kn_in {R C r c : Nat} (hR : R ≤ 10) (hC : C ≤ 10) (hr : r < R) (hc : c < C) : cl_kn R C (nI r) (nI c) := ⟨⟨nI_pos' (by omega), nI_lt hr (by omega)⟩, nI_pos' (by omega), nI_lt hc (by omega)⟩
theorem kn_of {R C : Nat} {r c : Int32} (hR : R ≤ 10) (hC : C ≤ 10) (h : cl_kn R C r c) : ∃ r' c' : Nat, r' < R ∧ c' < C ∧ r = nI r' ∧ c = nI c' := by
  obtain ⟨j, hj, rfl⟩ := nI_of (x := r) (by rw [Int32.not_lt]; exact h.1.1)
  obtain ⟨k, hk, rfl⟩ := nI_of (x := c) (by rw [Int32.not_lt]; exact h.2.1)
  exact ⟨j, k, (nI_ltI hj (by omega)).mp h.1.2, (nI_ltI hk (by omega)).mp h.2.2, rfl, rfl⟩
section CL
variable {d : Nat} {h : am_H} {a k R C : Nat} {use sh : Int32} {f : Nat → Int32}
theorem k_knT {r c : Nat} (hR : R ≤ 10) (hC : C ≤ 10) (hr : r < R) (hc : c < C) (hi : am_is h a (am_cloth (nI R) (nI C) use sh k)) : am_m d z_Cloth_isKnot [.ref a, .int (nI r), .int (nI c)] h (some (.int 1)) h := by
  rw [← am_b1 (kn_in hR hC hr hc)]
  exact k_isKnot _ _ hi
theorem k_knF {r c : Int32} (hn : ¬ cl_kn R C r c) (hi : am_is h a (am_cloth (nI R) (nI C) use sh k)) : am_m d z_Cloth_isKnot [.ref a, .int r, .int c] h (some (.int 0)) h := by
  rw [← am_bz hn]
  exact k_isKnot _ _ hi

theorem k_woolAt {r c l : Nat} (hR : R ≤ 10) (hC : C ≤ 10) (hr : r < R) (hc : c < C) (hl : l < 3) (hd : 0 < d) (hi : am_is h a (am_cloth (nI R) (nI C) use sh k)) (hk : am_is h k (am_ia 400 f)) : am_m d z_Cloth_woolAt [.ref a, .int (nI r), .int (nI c), .int (nI l)] h (some (.int (f (cx r c l)))) h := by
  refine ev_go 3 (q := 3) rfl ?_
  refine ev_virt (z' := z_Cloth_isKnot) (q := 6) rfl rfl (by decide) rfl (by simp [Value.category]) rfl (by omega) rfl rfl (by assumption) (k_knT hR hC hr hc (by assumption)) ?_
  refine ev_if_eq (t := 18) (q := 9) rfl rfl rfl (fun c => absurd c (by decide)) (fun zc1 => ?_)
  refine ev_go 1 (q := 10) rfl ?_
  refine ev_if_lt (t := 18) (q := 13) rfl rfl rfl (fun c => absurd c (nI_pos (by omega))) (fun zc2 => ?_)
  refine ev_go 2 (q := 15) (st' := .int 3 :: _ :: _) rfl ?_
  refine ev_icmp_lt (t := 20) (q := 18) rfl rfl rfl (fun zc3 => ?_) (fun c => absurd (nI_lt (b := 3) hl (by decide)) c)
  refine ev_go 1 (q := 21) rfl ?_
  refine ev_get (q := 24) rfl (by assumption) rfl rfl rfl ?_
  refine ev_go 9 (q := 34) (st' := .int ((((_ * 10) + _) * 4) + _) :: _ :: _) rfl ?_
  refine ev_ialdn (q := 35) rfl (by assumption) (cx_ix _ _ _) (cx_lt (by omega) (by omega) (by omega)) (by decide) rfl ?_
  exact ev_iret rfl rfl (rfl) (rfl)
theorem k_woolAt0 {r c l : Int32} (hn : ¬ cl_kn R C r c) (hd : 0 < d) (hi : am_is h a (am_cloth (nI R) (nI C) use sh k)) : am_m d z_Cloth_woolAt [.ref a, .int r, .int c, .int l] h (some (.int 0)) h := by
  refine ev_go 3 (q := 3) rfl ?_
  refine ev_virt (z' := z_Cloth_isKnot) (q := 6) rfl rfl (by decide) rfl (by simp [Value.category]) rfl (by omega) rfl rfl (by assumption) (k_knF hn (by assumption)) ?_
  refine ev_if_eq (t := 18) (q := 9) rfl rfl rfl (fun zc1 => ?_) (fun c => absurd rfl c)
  refine ev_go 1 (q := 19) (st' := .int 0 :: _) rfl ?_
  exact ev_iret rfl rfl (rfl) (rfl)
/-- a layer is shown -/
abbrev sp_on (sh l : Int32) : Prop := (sh >>> (l &&& 31)) &&& 1 = 1
/-- what is seen of the wools w of a knot -/
def sp_seen (sh : Int32) (w : Nat → Int32) : Int32 := if ¬ w 2 = 0 ∧ sp_on sh 2 then w 2 else if ¬ w 1 = 0 ∧ sp_on sh 1 then w 1 else if ¬ w 0 = 0 ∧ sp_on sh 0 then w 0 else 0

theorem k_seenAt {r c : Nat} (hR : R ≤ 10) (hC : C ≤ 10) (hr : r < R) (hc : c < C) (hd : 0 < d) (hi : am_is h a (am_cloth (nI R) (nI C) use sh k)) (hk : am_is h k (am_ia 400 f)) : am_m d z_Cloth_seenAt [.ref a, .int (nI r), .int (nI c)] h (some (.int (sp_seen sh (fun l => f (cx r c l))))) h := by
  refine ev_go 3 (q := 3) rfl ?_
  refine ev_virt (z' := z_Cloth_isKnot) (q := 6) rfl rfl (by decide) rfl (by simp [Value.category]) rfl (by omega) rfl rfl (by assumption) (k_knT hR hC hr hc (by assumption)) ?_
  refine ev_if_ne (t := 11) (q := 9) rfl rfl rfl (fun zc1 => ?_) (fun c => absurd c (by decide))
  refine ev_go 2 (q := 13) rfl ?_
  refine ev_go 1 (q := 14) (st' := .int (nI 2) :: _) rfl ?_
  refine ev_if_lt (t := 60) (q := 17) rfl rfl rfl (fun c => absurd c (by decide)) (fun _ => ?_)
  refine ev_go 1 (q := 18) rfl ?_
  refine ev_get (q := 21) rfl (by assumption) rfl rfl rfl ?_
  refine ev_go 9 (q := 31) (st' := .int ((nI r * 10 + nI c) * 4 + nI 2) :: _) rfl ?_
  refine ev_ialdn (q := 32) rfl (by assumption) (cx_ix _ _ _) (cx_lt (by omega) (by omega) (by omega)) (by decide) rfl ?_
  refine ev_go 2 (q := 36) rfl ?_
  refine ev_if_eq (t := 54) (q := 39) rfl rfl rfl (fun e2 => ?_) (fun e2 => ?_)
  · refine ev_go 2 (q := 13) rfl ?_
    refine ev_go 1 (q := 14) (st' := .int (nI 1) :: _) rfl ?_
    refine ev_if_lt (t := 60) (q := 17) rfl rfl rfl (fun c => absurd c (by decide)) (fun _ => ?_)
    refine ev_go 1 (q := 18) rfl ?_
    refine ev_get (q := 21) rfl (by assumption) rfl rfl rfl ?_
    refine ev_go 9 (q := 31) (st' := .int ((nI r * 10 + nI c) * 4 + nI 1) :: _) rfl ?_
    refine ev_ialdn (q := 32) rfl (by assumption) (cx_ix _ _ _) (cx_lt (by omega) (by omega) (by omega)) (by decide) rfl ?_
    refine ev_go 2 (q := 36) rfl ?_
    refine ev_if_eq (t := 54) (q := 39) rfl rfl rfl (fun e1 => ?_) (fun e1 => ?_)
    · refine ev_go 2 (q := 13) rfl ?_
      refine ev_go 1 (q := 14) (st' := .int (nI 0) :: _) rfl ?_
      refine ev_if_lt (t := 60) (q := 17) rfl rfl rfl (fun c => absurd c (by decide)) (fun _ => ?_)
      refine ev_go 1 (q := 18) rfl ?_
      refine ev_get (q := 21) rfl (by assumption) rfl rfl rfl ?_
      refine ev_go 9 (q := 31) (st' := .int ((nI r * 10 + nI c) * 4 + nI 0) :: _) rfl ?_
      refine ev_ialdn (q := 32) rfl (by assumption) (cx_ix _ _ _) (cx_lt (by omega) (by omega) (by omega)) (by decide) rfl ?_
      refine ev_go 2 (q := 36) rfl ?_
      refine ev_if_eq (t := 54) (q := 39) rfl rfl rfl (fun e0 => ?_) (fun e0 => ?_)
      · refine ev_go 3 (q := 14) (st' := .int (-1) :: _) rfl ?_
        refine ev_if_lt (t := 60) (q := 17) rfl rfl rfl (fun _ => ?_) (fun c => absurd (by decide) c)
        refine ev_go 1 (q := 61) (st' := .int 0 :: _) rfl ?_
        exact ev_iret rfl rfl (by unfold sp_seen; dsimp only; repeat (first | rfl | rw [if_pos ⟨by assumption, by assumption⟩] | rw [if_neg (fun q => absurd (by assumption) q.1)] | rw [if_neg (fun q => absurd q.2 (by assumption))])) rfl
      · refine ev_go 1 (q := 40) rfl ?_
        refine ev_get (q := 43) rfl (by assumption) rfl rfl rfl ?_
        refine ev_go 5 (q := 48) (st' := .int 1 :: .int ((sh >>> (0 &&& 31)) &&& 1) :: _) rfl ?_
        refine ev_icmp_ne (t := 54) (q := 51) rfl rfl rfl (fun o0 => ?_) (fun o0 => ?_)
        · refine ev_go 3 (q := 14) (st' := .int (-1) :: _) rfl ?_
          refine ev_if_lt (t := 60) (q := 17) rfl rfl rfl (fun _ => ?_) (fun c => absurd (by decide) c)
          refine ev_go 1 (q := 61) (st' := .int 0 :: _) rfl ?_
          exact ev_iret rfl rfl (by unfold sp_seen; dsimp only; repeat (first | rfl | rw [if_pos ⟨by assumption, by assumption⟩] | rw [if_neg (fun q => absurd (by assumption) q.1)] | rw [if_neg (fun q => absurd q.2 (by assumption))])) rfl
        · refine ev_go 1 (q := 53) rfl ?_
          exact ev_iret rfl rfl (by unfold sp_seen; dsimp only; repeat (first | rfl | rw [if_pos ⟨by assumption, by assumption⟩] | rw [if_neg (fun q => absurd (by assumption) q.1)] | rw [if_neg (fun q => absurd q.2 (by assumption))])) rfl
    · refine ev_go 1 (q := 40) rfl ?_
      refine ev_get (q := 43) rfl (by assumption) rfl rfl rfl ?_
      refine ev_go 5 (q := 48) (st' := .int 1 :: .int ((sh >>> (1 &&& 31)) &&& 1) :: _) rfl ?_
      refine ev_icmp_ne (t := 54) (q := 51) rfl rfl rfl (fun o1 => ?_) (fun o1 => ?_)
      · refine ev_go 2 (q := 13) rfl ?_
        refine ev_go 1 (q := 14) (st' := .int (nI 0) :: _) rfl ?_
        refine ev_if_lt (t := 60) (q := 17) rfl rfl rfl (fun c => absurd c (by decide)) (fun _ => ?_)
        refine ev_go 1 (q := 18) rfl ?_
        refine ev_get (q := 21) rfl (by assumption) rfl rfl rfl ?_
        refine ev_go 9 (q := 31) (st' := .int ((nI r * 10 + nI c) * 4 + nI 0) :: _) rfl ?_
        refine ev_ialdn (q := 32) rfl (by assumption) (cx_ix _ _ _) (cx_lt (by omega) (by omega) (by omega)) (by decide) rfl ?_
        refine ev_go 2 (q := 36) rfl ?_
        refine ev_if_eq (t := 54) (q := 39) rfl rfl rfl (fun e0 => ?_) (fun e0 => ?_)
        · refine ev_go 3 (q := 14) (st' := .int (-1) :: _) rfl ?_
          refine ev_if_lt (t := 60) (q := 17) rfl rfl rfl (fun _ => ?_) (fun c => absurd (by decide) c)
          refine ev_go 1 (q := 61) (st' := .int 0 :: _) rfl ?_
          exact ev_iret rfl rfl (by unfold sp_seen; dsimp only; repeat (first | rfl | rw [if_pos ⟨by assumption, by assumption⟩] | rw [if_neg (fun q => absurd (by assumption) q.1)] | rw [if_neg (fun q => absurd q.2 (by assumption))])) rfl
        · refine ev_go 1 (q := 40) rfl ?_
          refine ev_get (q := 43) rfl (by assumption) rfl rfl rfl ?_
          refine ev_go 5 (q := 48) (st' := .int 1 :: .int ((sh >>> (0 &&& 31)) &&& 1) :: _) rfl ?_
          refine ev_icmp_ne (t := 54) (q := 51) rfl rfl rfl (fun o0 => ?_) (fun o0 => ?_)
          · refine ev_go 3 (q := 14) (st' := .int (-1) :: _) rfl ?_
            refine ev_if_lt (t := 60) (q := 17) rfl rfl rfl (fun _ => ?_) (fun c => absurd (by decide) c)
            refine ev_go 1 (q := 61) (st' := .int 0 :: _) rfl ?_
            exact ev_iret rfl rfl (by unfold sp_seen; dsimp only; repeat (first | rfl | rw [if_pos ⟨by assumption, by assumption⟩] | rw [if_neg (fun q => absurd (by assumption) q.1)] | rw [if_neg (fun q => absurd q.2 (by assumption))])) rfl
          · refine ev_go 1 (q := 53) rfl ?_
            exact ev_iret rfl rfl (by unfold sp_seen; dsimp only; repeat (first | rfl | rw [if_pos ⟨by assumption, by assumption⟩] | rw [if_neg (fun q => absurd (by assumption) q.1)] | rw [if_neg (fun q => absurd q.2 (by assumption))])) rfl
      · refine ev_go 1 (q := 53) rfl ?_
        exact ev_iret rfl rfl (by unfold sp_seen; dsimp only; repeat (first | rfl | rw [if_pos ⟨by assumption, by assumption⟩] | rw [if_neg (fun q => absurd (by assumption) q.1)] | rw [if_neg (fun q => absurd q.2 (by assumption))])) rfl
  · refine ev_go 1 (q := 40) rfl ?_
    refine ev_get (q := 43) rfl (by assumption) rfl rfl rfl ?_
    refine ev_go 5 (q := 48) (st' := .int 1 :: .int ((sh >>> (2 &&& 31)) &&& 1) :: _) rfl ?_
    refine ev_icmp_ne (t := 54) (q := 51) rfl rfl rfl (fun o2 => ?_) (fun o2 => ?_)
    · refine ev_go 2 (q := 13) rfl ?_
      refine ev_go 1 (q := 14) (st' := .int (nI 1) :: _) rfl ?_
      refine ev_if_lt (t := 60) (q := 17) rfl rfl rfl (fun c => absurd c (by decide)) (fun _ => ?_)
      refine ev_go 1 (q := 18) rfl ?_
      refine ev_get (q := 21) rfl (by assumption) rfl rfl rfl ?_
      refine ev_go 9 (q := 31) (st' := .int ((nI r * 10 + nI c) * 4 + nI 1) :: _) rfl ?_
      refine ev_ialdn (q := 32) rfl (by assumption) (cx_ix _ _ _) (cx_lt (by omega) (by omega) (by omega)) (by decide) rfl ?_
      refine ev_go 2 (q := 36) rfl ?_
      refine ev_if_eq (t := 54) (q := 39) rfl rfl rfl (fun e1 => ?_) (fun e1 => ?_)
      · refine ev_go 2 (q := 13) rfl ?_
        refine ev_go 1 (q := 14) (st' := .int (nI 0) :: _) rfl ?_
        refine ev_if_lt (t := 60) (q := 17) rfl rfl rfl (fun c => absurd c (by decide)) (fun _ => ?_)
        refine ev_go 1 (q := 18) rfl ?_
        refine ev_get (q := 21) rfl (by assumption) rfl rfl rfl ?_
        refine ev_go 9 (q := 31) (st' := .int ((nI r * 10 + nI c) * 4 + nI 0) :: _) rfl ?_
        refine ev_ialdn (q := 32) rfl (by assumption) (cx_ix _ _ _) (cx_lt (by omega) (by omega) (by omega)) (by decide) rfl ?_
        refine ev_go 2 (q := 36) rfl ?_
        refine ev_if_eq (t := 54) (q := 39) rfl rfl rfl (fun e0 => ?_) (fun e0 => ?_)
        · refine ev_go 3 (q := 14) (st' := .int (-1) :: _) rfl ?_
          refine ev_if_lt (t := 60) (q := 17) rfl rfl rfl (fun _ => ?_) (fun c => absurd (by decide) c)
          refine ev_go 1 (q := 61) (st' := .int 0 :: _) rfl ?_
          exact ev_iret rfl rfl (by unfold sp_seen; dsimp only; repeat (first | rfl | rw [if_pos ⟨by assumption, by assumption⟩] | rw [if_neg (fun q => absurd (by assumption) q.1)] | rw [if_neg (fun q => absurd q.2 (by assumption))])) rfl
        · refine ev_go 1 (q := 40) rfl ?_
          refine ev_get (q := 43) rfl (by assumption) rfl rfl rfl ?_
          refine ev_go 5 (q := 48) (st' := .int 1 :: .int ((sh >>> (0 &&& 31)) &&& 1) :: _) rfl ?_
          refine ev_icmp_ne (t := 54) (q := 51) rfl rfl rfl (fun o0 => ?_) (fun o0 => ?_)
          · refine ev_go 3 (q := 14) (st' := .int (-1) :: _) rfl ?_
            refine ev_if_lt (t := 60) (q := 17) rfl rfl rfl (fun _ => ?_) (fun c => absurd (by decide) c)
            refine ev_go 1 (q := 61) (st' := .int 0 :: _) rfl ?_
            exact ev_iret rfl rfl (by unfold sp_seen; dsimp only; repeat (first | rfl | rw [if_pos ⟨by assumption, by assumption⟩] | rw [if_neg (fun q => absurd (by assumption) q.1)] | rw [if_neg (fun q => absurd q.2 (by assumption))])) rfl
          · refine ev_go 1 (q := 53) rfl ?_
            exact ev_iret rfl rfl (by unfold sp_seen; dsimp only; repeat (first | rfl | rw [if_pos ⟨by assumption, by assumption⟩] | rw [if_neg (fun q => absurd (by assumption) q.1)] | rw [if_neg (fun q => absurd q.2 (by assumption))])) rfl
      · refine ev_go 1 (q := 40) rfl ?_
        refine ev_get (q := 43) rfl (by assumption) rfl rfl rfl ?_
        refine ev_go 5 (q := 48) (st' := .int 1 :: .int ((sh >>> (1 &&& 31)) &&& 1) :: _) rfl ?_
        refine ev_icmp_ne (t := 54) (q := 51) rfl rfl rfl (fun o1 => ?_) (fun o1 => ?_)
        · refine ev_go 2 (q := 13) rfl ?_
          refine ev_go 1 (q := 14) (st' := .int (nI 0) :: _) rfl ?_
          refine ev_if_lt (t := 60) (q := 17) rfl rfl rfl (fun c => absurd c (by decide)) (fun _ => ?_)
          refine ev_go 1 (q := 18) rfl ?_
          refine ev_get (q := 21) rfl (by assumption) rfl rfl rfl ?_
          refine ev_go 9 (q := 31) (st' := .int ((nI r * 10 + nI c) * 4 + nI 0) :: _) rfl ?_
          refine ev_ialdn (q := 32) rfl (by assumption) (cx_ix _ _ _) (cx_lt (by omega) (by omega) (by omega)) (by decide) rfl ?_
          refine ev_go 2 (q := 36) rfl ?_
          refine ev_if_eq (t := 54) (q := 39) rfl rfl rfl (fun e0 => ?_) (fun e0 => ?_)
          · refine ev_go 3 (q := 14) (st' := .int (-1) :: _) rfl ?_
            refine ev_if_lt (t := 60) (q := 17) rfl rfl rfl (fun _ => ?_) (fun c => absurd (by decide) c)
            refine ev_go 1 (q := 61) (st' := .int 0 :: _) rfl ?_
            exact ev_iret rfl rfl (by unfold sp_seen; dsimp only; repeat (first | rfl | rw [if_pos ⟨by assumption, by assumption⟩] | rw [if_neg (fun q => absurd (by assumption) q.1)] | rw [if_neg (fun q => absurd q.2 (by assumption))])) rfl
          · refine ev_go 1 (q := 40) rfl ?_
            refine ev_get (q := 43) rfl (by assumption) rfl rfl rfl ?_
            refine ev_go 5 (q := 48) (st' := .int 1 :: .int ((sh >>> (0 &&& 31)) &&& 1) :: _) rfl ?_
            refine ev_icmp_ne (t := 54) (q := 51) rfl rfl rfl (fun o0 => ?_) (fun o0 => ?_)
            · refine ev_go 3 (q := 14) (st' := .int (-1) :: _) rfl ?_
              refine ev_if_lt (t := 60) (q := 17) rfl rfl rfl (fun _ => ?_) (fun c => absurd (by decide) c)
              refine ev_go 1 (q := 61) (st' := .int 0 :: _) rfl ?_
              exact ev_iret rfl rfl (by unfold sp_seen; dsimp only; repeat (first | rfl | rw [if_pos ⟨by assumption, by assumption⟩] | rw [if_neg (fun q => absurd (by assumption) q.1)] | rw [if_neg (fun q => absurd q.2 (by assumption))])) rfl
            · refine ev_go 1 (q := 53) rfl ?_
              exact ev_iret rfl rfl (by unfold sp_seen; dsimp only; repeat (first | rfl | rw [if_pos ⟨by assumption, by assumption⟩] | rw [if_neg (fun q => absurd (by assumption) q.1)] | rw [if_neg (fun q => absurd q.2 (by assumption))])) rfl
        · refine ev_go 1 (q := 53) rfl ?_
          exact ev_iret rfl rfl (by unfold sp_seen; dsimp only; repeat (first | rfl | rw [if_pos ⟨by assumption, by assumption⟩] | rw [if_neg (fun q => absurd (by assumption) q.1)] | rw [if_neg (fun q => absurd q.2 (by assumption))])) rfl
    · refine ev_go 1 (q := 53) rfl ?_
      exact ev_iret rfl rfl (by unfold sp_seen; dsimp only; repeat (first | rfl | rw [if_pos ⟨by assumption, by assumption⟩] | rw [if_neg (fun q => absurd (by assumption) q.1)] | rw [if_neg (fun q => absurd q.2 (by assumption))])) rfl
theorem k_seenAt0 {r c : Int32} (hn : ¬ cl_kn R C r c) (hd : 0 < d) (hi : am_is h a (am_cloth (nI R) (nI C) use sh k)) : am_m d z_Cloth_seenAt [.ref a, .int r, .int c] h (some (.int 0)) h := by
  refine ev_go 3 (q := 3) rfl ?_
  refine ev_virt (z' := z_Cloth_isKnot) (q := 6) rfl rfl (by decide) rfl (by simp [Value.category]) rfl (by omega) rfl rfl (by assumption) (k_knF hn (by assumption)) ?_
  refine ev_if_ne (t := 11) (q := 9) rfl rfl rfl (fun c => absurd rfl c) (fun zc1 => ?_)
  refine ev_go 1 (q := 10) (st' := .int 0 :: _) rfl ?_
  exact ev_iret rfl rfl (rfl) (rfl)
theorem k_isChosen {r c : Nat} (hR : R ≤ 10) (hC : C ≤ 10) (hr : r < R) (hc : c < C) (hd : 0 < d) (hi : am_is h a (am_cloth (nI R) (nI C) use sh k)) (hk : am_is h k (am_ia 400 f)) : am_m d z_Cloth_isChosen [.ref a, .int (nI r), .int (nI c)] h (some (.int (am_b (f (cx r c 3) = 1)))) h := by
  refine ev_go 3 (q := 3) rfl ?_
  refine ev_virt (z' := z_Cloth_isKnot) (q := 6) rfl rfl (by decide) rfl (by simp [Value.category]) rfl (by omega) rfl rfl (by assumption) (k_knT hR hC hr hc (by assumption)) ?_
  refine ev_if_eq (t := 32) (q := 9) rfl rfl rfl (fun c => absurd c (by decide)) (fun zc1 => ?_)
  refine ev_go 1 (q := 10) rfl ?_
  refine ev_get (q := 13) rfl (by assumption) rfl rfl rfl ?_
  refine ev_go 9 (q := 23) (st' := .int ((((_ * 10) + _) * 4) + 3) :: _ :: _) rfl ?_
  refine ev_ialdn (q := 24) rfl (by assumption) (cx_ix _ _ 3) (cx_lt (by omega) (by omega) (by omega)) (by decide) rfl ?_
  refine ev_go 1 (q := 25) (st' := .int 1 :: _ :: _) rfl ?_
  refine ev_icmp_ne (t := 32) (q := 28) rfl rfl rfl (fun zc2 => ?_) (fun zc2 => ?_)
  · refine ev_go 1 (q := 33) (st' := .int 0 :: _) rfl ?_
    exact ev_zret rfl rfl (by first | exact Or.inl rfl | exact Or.inr rfl | assumption) (by first | exact (am_bz (by assumption)).symm | exact (am_b1 (by assumption)).symm) (rfl)
  · refine ev_go 2 (q := 33) (st' := .int 1 :: _) rfl ?_
    exact ev_zret rfl rfl (by first | exact Or.inl rfl | exact Or.inr rfl | assumption) (by first | exact (am_bz (by assumption)).symm | exact (am_b1 (by assumption)).symm) (rfl)
theorem k_isChosen0 {r c : Int32} (hn : ¬ cl_kn R C r c) (hd : 0 < d) (hi : am_is h a (am_cloth (nI R) (nI C) use sh k)) : am_m d z_Cloth_isChosen [.ref a, .int r, .int c] h (some (.int 0)) h := by
  refine ev_go 3 (q := 3) rfl ?_
  refine ev_virt (z' := z_Cloth_isKnot) (q := 6) rfl rfl (by decide) rfl (by simp [Value.category]) rfl (by omega) rfl rfl (by assumption) (k_knF hn (by assumption)) ?_
  refine ev_if_eq (t := 32) (q := 9) rfl rfl rfl (fun zc1 => ?_) (fun c => absurd rfl c)
  refine ev_go 1 (q := 33) (st' := .int 0 :: _) rfl ?_
  exact ev_zret rfl rfl (by first | exact Or.inl rfl | exact Or.inr rfl | assumption) (rfl) (rfl)
theorem k_choose {r c : Nat} {b : Int32} (hR : R ≤ 10) (hC : C ≤ 10) (hr : r < R) (hc : c < C) (hd : 0 < d) (hi : am_is h a (am_cloth (nI R) (nI C) use sh k)) (hk : am_is h k (am_ia 400 f)) : am_m d z_Cloth_choose [.ref a, .int (nI r), .int (nI c), .int b] h none (am_up h k (am_ia 400 (va_up f (cx r c 3) (am_b (¬ b = 0))))) := by
  refine ev_go 3 (q := 3) rfl ?_
  refine ev_virt (z' := z_Cloth_isKnot) (q := 6) rfl rfl (by decide) rfl (by simp [Value.category]) rfl (by omega) rfl rfl (by assumption) (k_knT hR hC hr hc (by assumption)) ?_
  refine ev_if_eq (t := 33) (q := 9) rfl rfl rfl (fun c => absurd c (by decide)) (fun zc1 => ?_)
  refine ev_go 1 (q := 10) rfl ?_
  refine ev_get (q := 13) rfl (by assumption) rfl rfl rfl ?_
  refine ev_go 10 (q := 24) (st' := _ :: .int ((((_ * 10) + _) * 4) + 3) :: _ :: _) rfl ?_
  refine ev_if_eq (t := 31) (q := 27) rfl rfl rfl (fun zc2 => ?_) (fun zc2 => ?_)
  · refine ev_go 1 (q := 32) (st' := .int 0 :: _ :: _ :: _) rfl ?_
    refine ev_iastn (q := 33) rfl (by assumption) (cx_ix _ _ 3) (cx_lt (by omega) (by omega) (by omega)) (by decide) rfl ?_
    exact ev_vret rfl rfl (by by_cases q : b = 0 <;> simp_all [am_b])
  · refine ev_go 2 (q := 32) (st' := .int 1 :: _ :: _ :: _) rfl ?_
    refine ev_iastn (q := 33) rfl (by assumption) (cx_ix _ _ 3) (cx_lt (by omega) (by omega) (by omega)) (by decide) rfl ?_
    exact ev_vret rfl rfl (by by_cases q : b = 0 <;> simp_all [am_b])
/-- what painting a knot does to the cells -/
def sp_paint (R C u : Nat) (f : Nat → Int32) (r c : Int32) (w : Int32) : Nat → Int32 := if cl_kn R C r c ∧ f (cx r.toNatClampNeg c.toNatClampNeg 3) = 1 then va_up f (cx r.toNatClampNeg c.toNatClampNeg u) w else f

theorem k_paintN {r c u : Nat} {x : Int32} (hR : R ≤ 10) (hC : C ≤ 10) (hr : r < R) (hc : c < C) (hu : u < 3) (hd : 0 < d) (hi : am_is h a (am_cloth (nI R) (nI C) (nI u) sh k)) (hk : am_is h k (am_ia 400 f)) : am_m d z_Cloth_paint [.ref a, .int (nI r), .int (nI c), .int x] h none (if f (cx r c 3) = 1 then am_up h k (am_ia 400 (va_up f (cx r c u) x)) else h) := by
  refine ev_go 3 (q := 3) rfl ?_
  refine ev_virt (z' := z_Cloth_isKnot) (q := 6) rfl rfl (by decide) rfl (by simp [Value.category]) rfl (by omega) rfl rfl (by assumption) (k_knT hR hC hr hc (by assumption)) ?_
  refine ev_if_eq (t := 24) (q := 9) rfl rfl rfl (fun c => absurd c (by decide)) (fun zc1 => ?_)
  refine ev_go 1 (q := 10) rfl ?_
  refine ev_get (q := 13) rfl (by assumption) rfl rfl rfl ?_
  refine ev_if_lt (t := 24) (q := 16) rfl rfl rfl (fun c => absurd c (nI_pos (by omega))) (fun zc2 => ?_)
  refine ev_go 1 (q := 17) rfl ?_
  refine ev_get (q := 20) rfl (by assumption) rfl rfl rfl ?_
  refine ev_go 1 (q := 21) (st' := .int 3 :: _ :: _) rfl ?_
  refine ev_icmp_lt (t := 25) (q := 24) rfl rfl rfl (fun zc3 => ?_) (fun c => absurd (nI_lt (b := 3) hu (by decide)) c)
  refine ev_go 9 (q := 36) rfl ?_
  refine ev_get (q := 39) rfl (by assumption) rfl rfl rfl ?_
  refine ev_go 3 (q := 43) (st' := .int (_ + 3) :: _ :: _) rfl ?_
  refine ev_ialdn (q := 44) rfl (by assumption) (cx_ix _ _ 3) (cx_lt (by omega) (by omega) (by omega)) (by decide) rfl ?_
  refine ev_go 1 (q := 45) (st' := .int 1 :: _ :: _) rfl ?_
  refine ev_icmp_ne (t := 61) (q := 48) rfl rfl rfl (fun zc4 => ?_) (fun zc4 => ?_)
  · exact ev_vret rfl rfl (by first | exact (if_pos (by assumption)).symm | exact (if_neg (by assumption)).symm)
  · refine ev_go 1 (q := 49) rfl ?_
    refine ev_get (q := 52) rfl (by assumption) rfl rfl rfl ?_
    refine ev_go 2 (q := 55) rfl ?_
    refine ev_get (q := 58) rfl (by assumption) rfl rfl rfl ?_
    refine ev_go 2 (q := 60) rfl ?_
    refine ev_iastn (q := 61) rfl (by assumption) (cx_ix _ _ _) (cx_lt (by omega) (by omega) (by omega)) (by decide) rfl ?_
    exact ev_vret rfl rfl (by first | exact (if_pos (by assumption)).symm | exact (if_neg (by assumption)).symm)
theorem k_paint0 {r c x : Int32} (hn : ¬ cl_kn R C r c) (hd : 0 < d) (hi : am_is h a (am_cloth (nI R) (nI C) use sh k)) : am_m d z_Cloth_paint [.ref a, .int r, .int c, .int x] h none h := by
  refine ev_go 3 (q := 3) rfl ?_
  refine ev_virt (z' := z_Cloth_isKnot) (q := 6) rfl rfl (by decide) rfl (by simp [Value.category]) rfl (by omega) rfl rfl (by assumption) (k_knF hn (by assumption)) ?_
  refine ev_if_eq (t := 24) (q := 9) rfl rfl rfl (fun zc1 => ?_) (fun c => absurd rfl c)
  exact ev_vret rfl rfl (rfl)
theorem k_paint {r c x : Int32} {u : Nat} (hR : R ≤ 10) (hC : C ≤ 10) (hu : u < 3) (hd : 0 < d) (hi : am_is h a (am_cloth (nI R) (nI C) (nI u) sh k)) (hk : am_is h k (am_ia 400 f)) : am_m d z_Cloth_paint [.ref a, .int r, .int c, .int x] h none (am_up h k (am_ia 400 (sp_paint R C u f r c x))) := by
  by_cases hn : cl_kn R C r c
  · obtain ⟨r', c', hr, hc, rfl, rfl⟩ := kn_of hR hC hn
    have h1 := k_paintN (x := x) hR hC hr hc hu hd hi hk
    have e1 : (nI r').toNatClampNeg = r' := nI_clamp (by omega)
    have e2 : (nI c').toNatClampNeg = c' := nI_clamp (by omega)
    unfold sp_paint
    rw [e1, e2]
    by_cases hf : f (cx r' c' 3) = 1
    · rw [if_pos hf] at h1
      rw [if_pos ⟨hn, hf⟩]
      exact h1
    · rw [if_neg hf] at h1
      rw [if_neg (fun q => hf q.2), am_up_id hk.2]
      exact h1
  · unfold sp_paint
    rw [if_neg (fun q => hn q.1), am_up_id hk.2]
    exact k_paint0 hn hd hi
end CL
