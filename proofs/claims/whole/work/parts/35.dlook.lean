/-! the class: the looker -/
section D4
variable {d : Nat} {h h' : am_H} {res : Option Value} {τ : Nat → Int32} {t : Int64} {B : Nat → Nat → Int32} {P : Nat → Nat → Option Nat} {R C u q o : Nat}
theorem cb_b {p : Prop} : am_b (¬ cb p = 0) = cb p := by
  by_cases z : p
  · rw [cb_1 z]; rfl
  · rw [cb_z z]; rfl
theorem c_kept0 {H : am_H} {y z : Int32} {p s : Prop} (hy : (y = 1 ∧ p) ∨ (y = 0 ∧ ¬ p)) (hz : (z = 1 ∧ s) ∨ (z = 0 ∧ ¬ s)) : am_m d z_Looker_isKept [.ref 11, .int 0, .int y, .int z] H (some (.int (cb (lk_w 0 s p)))) H := by
  rcases hy with ⟨rfl, hp⟩ | ⟨rfl, hp⟩ <;> rcases hz with ⟨rfl, hs⟩ | ⟨rfl, hs⟩
  · refine ev_go 3 (q := 29) rfl ?_
    exact ev_zret rfl rfl (by first | exact Or.inl rfl | exact Or.inr rfl | assumption) ((cb_1 (by simp [lk_w, hp, hs])).symm) (rfl)
  · refine ev_go 3 (q := 29) rfl ?_
    exact ev_zret rfl rfl (by first | exact Or.inl rfl | exact Or.inr rfl | assumption) ((cb_1 (by simp [lk_w, hp, hs])).symm) (rfl)
  · refine ev_go 3 (q := 29) rfl ?_
    exact ev_zret rfl rfl (by first | exact Or.inl rfl | exact Or.inr rfl | assumption) ((cb_z (by simp [lk_w, hp, hs])).symm) (rfl)
  · refine ev_go 3 (q := 29) rfl ?_
    exact ev_zret rfl rfl (by first | exact Or.inl rfl | exact Or.inr rfl | assumption) ((cb_z (by simp [lk_w, hp, hs])).symm) (rfl)
theorem c_kept1 {H : am_H} {y z : Int32} {p s : Prop} (hy : (y = 1 ∧ p) ∨ (y = 0 ∧ ¬ p)) (hz : (z = 1 ∧ s) ∨ (z = 0 ∧ ¬ s)) : am_m d z_Looker_isKept [.ref 11, .int 1, .int y, .int z] H (some (.int (cb (lk_w 1 s p)))) H := by
  rcases hy with ⟨rfl, hp⟩ | ⟨rfl, hp⟩ <;> rcases hz with ⟨rfl, hs⟩ | ⟨rfl, hs⟩
  · refine ev_go 3 (q := 31) rfl ?_
    refine ev_if_ne (t := 38) (q := 34) rfl rfl rfl (fun _ => ?_) (fun c => absurd c (by decide))
    refine ev_go 2 (q := 43) (st' := .int 1 :: _) rfl ?_
    exact ev_zret rfl rfl (by first | exact Or.inl rfl | exact Or.inr rfl | assumption) ((cb_1 (by simp [lk_w, hp, hs])).symm) (rfl)
  · refine ev_go 3 (q := 31) rfl ?_
    refine ev_if_ne (t := 38) (q := 34) rfl rfl rfl (fun _ => ?_) (fun c => absurd c (by decide))
    refine ev_go 2 (q := 43) (st' := .int 1 :: _) rfl ?_
    exact ev_zret rfl rfl (by first | exact Or.inl rfl | exact Or.inr rfl | assumption) ((cb_1 (by simp [lk_w, hp, hs])).symm) (rfl)
  · refine ev_go 3 (q := 31) rfl ?_
    refine ev_if_ne (t := 38) (q := 34) rfl rfl rfl (fun c => absurd (by decide) c) (fun _ => ?_)
    refine ev_go 1 (q := 35) rfl ?_
    refine ev_if_eq (t := 42) (q := 38) rfl rfl rfl (fun c => absurd c (by decide)) (fun _ => ?_)
    refine ev_go 2 (q := 43) (st' := .int 1 :: _) rfl ?_
    exact ev_zret rfl rfl (by first | exact Or.inl rfl | exact Or.inr rfl | assumption) ((cb_1 (by simp [lk_w, hp, hs])).symm) (rfl)
  · refine ev_go 3 (q := 31) rfl ?_
    refine ev_if_ne (t := 38) (q := 34) rfl rfl rfl (fun c => absurd (by decide) c) (fun _ => ?_)
    refine ev_go 1 (q := 35) rfl ?_
    refine ev_if_eq (t := 42) (q := 38) rfl rfl rfl (fun _ => ?_) (fun c => absurd (by decide) c)
    refine ev_go 1 (q := 43) (st' := .int 0 :: _) rfl ?_
    exact ev_zret rfl rfl (by first | exact Or.inl rfl | exact Or.inr rfl | assumption) ((cb_z (by simp [lk_w, hp, hs])).symm) (rfl)
theorem c_kept2 {H : am_H} {y z : Int32} {p s : Prop} (hy : (y = 1 ∧ p) ∨ (y = 0 ∧ ¬ p)) (hz : (z = 1 ∧ s) ∨ (z = 0 ∧ ¬ s)) : am_m d z_Looker_isKept [.ref 11, .int 2, .int y, .int z] H (some (.int (cb (lk_w 2 s p)))) H := by
  rcases hy with ⟨rfl, hp⟩ | ⟨rfl, hp⟩ <;> rcases hz with ⟨rfl, hs⟩ | ⟨rfl, hs⟩
  · refine ev_go 3 (q := 45) rfl ?_
    refine ev_if_eq (t := 56) (q := 48) rfl rfl rfl (fun c => absurd c (by decide)) (fun _ => ?_)
    refine ev_go 1 (q := 49) rfl ?_
    refine ev_if_ne (t := 56) (q := 52) rfl rfl rfl (fun _ => ?_) (fun c => absurd c (by decide))
    refine ev_go 1 (q := 57) (st' := .int 0 :: _) rfl ?_
    exact ev_zret rfl rfl (by first | exact Or.inl rfl | exact Or.inr rfl | assumption) ((cb_z (by simp [lk_w, hp, hs])).symm) (rfl)
  · refine ev_go 3 (q := 45) rfl ?_
    refine ev_if_eq (t := 56) (q := 48) rfl rfl rfl (fun _ => ?_) (fun c => absurd (by decide) c)
    refine ev_go 1 (q := 57) (st' := .int 0 :: _) rfl ?_
    exact ev_zret rfl rfl (by first | exact Or.inl rfl | exact Or.inr rfl | assumption) ((cb_z (by simp [lk_w, hp, hs])).symm) (rfl)
  · refine ev_go 3 (q := 45) rfl ?_
    refine ev_if_eq (t := 56) (q := 48) rfl rfl rfl (fun c => absurd c (by decide)) (fun _ => ?_)
    refine ev_go 1 (q := 49) rfl ?_
    refine ev_if_ne (t := 56) (q := 52) rfl rfl rfl (fun c => absurd (by decide) c) (fun _ => ?_)
    refine ev_go 2 (q := 57) (st' := .int 1 :: _) rfl ?_
    exact ev_zret rfl rfl (by first | exact Or.inl rfl | exact Or.inr rfl | assumption) ((cb_1 (by simp [lk_w, hp, hs])).symm) (rfl)
  · refine ev_go 3 (q := 45) rfl ?_
    refine ev_if_eq (t := 56) (q := 48) rfl rfl rfl (fun _ => ?_) (fun c => absurd (by decide) c)
    refine ev_go 1 (q := 57) (st' := .int 0 :: _) rfl ?_
    exact ev_zret rfl rfl (by first | exact Or.inl rfl | exact Or.inr rfl | assumption) ((cb_z (by simp [lk_w, hp, hs])).symm) (rfl)
theorem c_kept3 {H : am_H} {y z : Int32} {p s : Prop} (hy : (y = 1 ∧ p) ∨ (y = 0 ∧ ¬ p)) (hz : (z = 1 ∧ s) ∨ (z = 0 ∧ ¬ s)) : am_m d z_Looker_isKept [.ref 11, .int 3, .int y, .int z] H (some (.int (cb (lk_w 3 s p)))) H := by
  rcases hy with ⟨rfl, hp⟩ | ⟨rfl, hp⟩ <;> rcases hz with ⟨rfl, hs⟩ | ⟨rfl, hs⟩
  · refine ev_go 3 (q := 59) rfl ?_
    refine ev_if_eq (t := 70) (q := 62) rfl rfl rfl (fun c => absurd c (by decide)) (fun _ => ?_)
    refine ev_go 1 (q := 63) rfl ?_
    refine ev_if_eq (t := 70) (q := 66) rfl rfl rfl (fun c => absurd c (by decide)) (fun _ => ?_)
    refine ev_go 2 (q := 71) (st' := .int 1 :: _) rfl ?_
    exact ev_zret rfl rfl (by first | exact Or.inl rfl | exact Or.inr rfl | assumption) ((cb_1 (by simp [lk_w, hp, hs])).symm) (rfl)
  · refine ev_go 3 (q := 59) rfl ?_
    refine ev_if_eq (t := 70) (q := 62) rfl rfl rfl (fun _ => ?_) (fun c => absurd (by decide) c)
    refine ev_go 1 (q := 71) (st' := .int 0 :: _) rfl ?_
    exact ev_zret rfl rfl (by first | exact Or.inl rfl | exact Or.inr rfl | assumption) ((cb_z (by simp [lk_w, hp, hs])).symm) (rfl)
  · refine ev_go 3 (q := 59) rfl ?_
    refine ev_if_eq (t := 70) (q := 62) rfl rfl rfl (fun c => absurd c (by decide)) (fun _ => ?_)
    refine ev_go 1 (q := 63) rfl ?_
    refine ev_if_eq (t := 70) (q := 66) rfl rfl rfl (fun _ => ?_) (fun c => absurd (by decide) c)
    refine ev_go 1 (q := 71) (st' := .int 0 :: _) rfl ?_
    exact ev_zret rfl rfl (by first | exact Or.inl rfl | exact Or.inr rfl | assumption) ((cb_z (by simp [lk_w, hp, hs])).symm) (rfl)
  · refine ev_go 3 (q := 59) rfl ?_
    refine ev_if_eq (t := 70) (q := 62) rfl rfl rfl (fun _ => ?_) (fun c => absurd (by decide) c)
    refine ev_go 1 (q := 71) (st' := .int 0 :: _) rfl ?_
    exact ev_zret rfl rfl (by first | exact Or.inl rfl | exact Or.inr rfl | assumption) ((cb_z (by simp [lk_w, hp, hs])).symm) (rfl)
theorem c_kept {H : am_H} {way y z : Int32} {p s : Prop} (hw : bt 0 way 3) (hy : (y = 1 ∧ p) ∨ (y = 0 ∧ ¬ p)) (hz : (z = 1 ∧ s) ∨ (z = 0 ∧ ¬ s)) : am_m d z_Looker_isKept [.ref 11, .int way, .int y, .int z] H (some (.int (cb (lk_w way s p)))) H := by
  have e0 : (0 : Int32).toInt = 0 := by decide
  have e1 : (3 : Int32).toInt = 3 := by decide
  have g1 := Int32.le_iff_toInt_le.mp hw.1
  have g2 := Int32.le_iff_toInt_le.mp hw.2
  have g3 : way.toInt = 0 ∨ way.toInt = 1 ∨ way.toInt = 2 ∨ way.toInt = 3 := by omega
  rcases g3 with e | e | e | e
  · rw [show way = 0 from Int32.toInt_inj.mp (e.trans (by decide))]; exact c_kept0 hy hz
  · rw [show way = 1 from Int32.toInt_inj.mp (e.trans (by decide))]; exact c_kept1 hy hz
  · rw [show way = 2 from Int32.toInt_inj.mp (e.trans (by decide))]; exact c_kept2 hy hz
  · rw [show way = 3 from Int32.toInt_inj.mp (e.trans (by decide))]; exact c_kept3 hy hz
theorem am_b_or {p : Prop} [Decidable p] : (am_b p = 1 ∧ p) ∨ (am_b p = 0 ∧ ¬ p) := by
  by_cases z : p
  · exact Or.inl ⟨am_b1 z, z⟩
  · exact Or.inr ⟨am_bz z, z⟩
abbrev sl_p (a b c e : Int32) (r k : Nat) : Prop := (a ≤ nI r ∧ nI r - a < c) ∧ b ≤ nI k ∧ nI k - b < e
noncomputable def sl_g (a b c e way : Int32) (r k : Nat) (B : Nat → Nat → Int32) : Nat → Nat → Int32 := va_up B 0 (va_up (B 0) (cx r k 3) (cb (lk_w way (B 0 (cx r k 3) = 1) (sl_p a b c e r k))))
def pk_g (s x : Int32) (r k : Nat) (B : Nat → Nat → Int32) : Nat → Nat → Int32 := va_up B 0 (va_up (B 0) (cx r k 3) (am_b (B 0 (cx r k 3) = 1 ∧ sp_seen s (fun l => B 0 (cx r k l)) = x)))
theorem l_sl_in (hn : 15 ≤ h.1) (hR : 1 ≤ R ∧ R ≤ 10) (hC : 1 ≤ C ∧ C ≤ 10) (h0 : τ 0 = nI R) (h1 : τ 1 = nI C) (hd : 1 < d) (hq : cmd_at q o) (hw : bt 0 (τ (o + 5)) 3) {r : Nat} (hr : r < R) : ∀ (m c : Nat) (B : Nat → Nat → Int32) (e : Option Value), c + m = C → (∀ e : Option Value, am_ev d z_Looker_select (109, [some (.ref 11), some (.ref q), some (.int (nI r)), some (.int (nI C)), e], [], dH h τ t (sp_it ((sl_g (τ (o + 1)) (τ (o + 2)) (τ (o + 3)) (τ (o + 4)) (τ (o + 5))) r) c m B) P) res h') → am_ev d z_Looker_select (23, [some (.ref 11), some (.ref q), some (.int (nI r)), some (.int (nI c)), e], [.int (nI C), .int (nI c)], dH h τ t B P) res h'
  | 0, c, B, e, hm, K => by
    refine ev_icmp_ge (t := 109) (q := 26) rfl rfl rfl (fun _ => ?_) (fun c1 => absurd (nI_end (b := C) hm (by omega)) c1)
    have hc : c = C := hm
    subst hc
    exact K e
  | m + 1, c, B, e, hm, K => by
    refine ev_icmp_ge (t := 109) (q := 26) rfl rfl rfl (fun c1 => absurd c1 (nI_ge (b := C) (by omega) (by omega))) (fun _ => ?_)
    simp only [sp_it] at K
    have K9 : ∀ y : Int32, (y = 1 ∧ sl_p (τ (o + 1)) (τ (o + 2)) (τ (o + 3)) (τ (o + 4)) r c) ∨ (y = 0 ∧ ¬ sl_p (τ (o + 1)) (τ (o + 2)) (τ (o + 3)) (τ (o + 4)) r c) → am_ev d z_Looker_select (73, [some (.ref 11), some (.ref q), some (.int (nI r)), some (.int (nI c)), e], [.int y], dH h τ t B P) res h' := by
      intro y hy
      refine ev_go 2 (q := 76) rfl ?_
      refine ev_get (q := 79) rfl (d_11 hn) rfl rfl rfl ?_
      refine ev_go 4 (q := 83) rfl ?_
      refine ev_get (q := 86) rfl (d_cmd hn hq) rfl rfl rfl ?_
      refine ev_go 2 (q := 89) rfl ?_
      refine ev_get (q := 92) rfl (d_11 hn) rfl rfl rfl ?_
      refine ev_go 2 (q := 94) rfl ?_
      refine ev_virt (z' := z_Cloth_isChosen) (q := 97) rfl rfl (by decide) rfl (by simp [Value.category]) rfl (by omega) rfl rfl (d_1 hn) (c_chosen hn (by omega) hR.2 hC.2 h0 h1 hr (by omega)) ?_
      refine ev_virt (z' := z_Looker_isKept) (q := 100) rfl rfl (by decide) rfl (by simp [Value.category]) rfl (by omega) rfl rfl (d_11 hn) (c_kept hw hy am_b_or) ?_
      refine ev_virt (z' := z_Cloth_choose) (q := 103) rfl rfl (by decide) rfl (by simp [Value.category]) rfl (by omega) rfl rfl (d_1 hn) (c_choose (h := h) (τ := τ) (t := t) (B := B) (P := P) (r := r) (c := c) (x := cb (lk_w (τ (o + 5)) (B 0 (cx r c 3) = 1) (sl_p (τ (o + 1)) (τ (o + 2)) (τ (o + 3)) (τ (o + 4)) r c))) hn (by omega) hR.2 hC.2 h0 h1 hr (by omega)) ?_
      refine ev_go 4 (q := 17) rfl ?_
      refine ev_get (q := 20) rfl (d_11 hn) rfl rfl rfl ?_
      refine ev_get (q := 23) rfl (d_1 hn) rfl rfl rfl ?_
      refine ev_tp (y := nI C) h1 ?_
      rw [nI_s, cb_b]
      exact l_sl_in hn hR hC h0 h1 hd hq hw hr m (c + 1) _ _ (by omega) K
    refine ev_go 2 (q := 28) rfl ?_
    refine ev_get (q := 31) rfl (d_cmd hn hq) rfl rfl rfl ?_
    refine ev_icmp_lt (t := 72) (q := 34) rfl rfl rfl (fun zc1 => ?_) (fun zc1 => ?_)
    · refine ev_go 1 (q := 73) (st' := .int 0 :: _) rfl ?_
      exact K9 0 (Or.inr ⟨rfl, fun z => Int32.not_lt.mpr z.1.1 zc1⟩)
    · refine ev_go 2 (q := 36) rfl ?_
      refine ev_get (q := 39) rfl (d_cmd hn hq) rfl rfl rfl ?_
      refine ev_go 2 (q := 41) rfl ?_
      refine ev_get (q := 44) rfl (d_cmd hn hq) rfl rfl rfl ?_
      refine ev_icmp_ge (t := 72) (q := 47) rfl rfl rfl (fun zc2 => ?_) (fun zc2 => ?_)
      · refine ev_go 1 (q := 73) (st' := .int 0 :: _) rfl ?_
        exact K9 0 (Or.inr ⟨rfl, fun z => Int32.not_le.mpr z.1.2 zc2⟩)
      · refine ev_go 2 (q := 49) rfl ?_
        refine ev_get (q := 52) rfl (d_cmd hn hq) rfl rfl rfl ?_
        refine ev_icmp_lt (t := 72) (q := 55) rfl rfl rfl (fun zc3 => ?_) (fun zc3 => ?_)
        · refine ev_go 1 (q := 73) (st' := .int 0 :: _) rfl ?_
          exact K9 0 (Or.inr ⟨rfl, fun z => Int32.not_lt.mpr z.2.1 zc3⟩)
        · refine ev_go 2 (q := 57) rfl ?_
          refine ev_get (q := 60) rfl (d_cmd hn hq) rfl rfl rfl ?_
          refine ev_go 2 (q := 62) rfl ?_
          refine ev_get (q := 65) rfl (d_cmd hn hq) rfl rfl rfl ?_
          refine ev_icmp_ge (t := 72) (q := 68) rfl rfl rfl (fun zc4 => ?_) (fun zc4 => ?_)
          · refine ev_go 1 (q := 73) (st' := .int 0 :: _) rfl ?_
            exact K9 0 (Or.inr ⟨rfl, fun z => Int32.not_le.mpr z.2.2 zc4⟩)
          · refine ev_go 2 (q := 73) (st' := .int 1 :: _) rfl ?_
            exact K9 1 (Or.inl ⟨rfl, ⟨Int32.not_lt.mp zc1, Int32.not_le.mp zc2⟩, Int32.not_lt.mp zc3, Int32.not_le.mp zc4⟩)
theorem l_sl_out (hn : 15 ≤ h.1) (hR : 1 ≤ R ∧ R ≤ 10) (hC : 1 ≤ C ∧ C ≤ 10) (h0 : τ 0 = nI R) (h1 : τ 1 = nI C) (hd : 1 < d) (hq : cmd_at q o) (hw : bt 0 (τ (o + 5)) 3) : ∀ (m r : Nat) (B : Nat → Nat → Int32) (e0 e : Option Value), r + m = R → (∀ e0 e : Option Value, am_ev d z_Looker_select (115, [some (.ref 11), some (.ref q), some (.int (nI R)), e0, e], [], dH h τ t (sp_it (fun r => sp_it ((sl_g (τ (o + 1)) (τ (o + 2)) (τ (o + 3)) (τ (o + 4)) (τ (o + 5))) r) 0 C) r m B) P) res h') → am_ev d z_Looker_select (10, [some (.ref 11), some (.ref q), some (.int (nI r)), e0, e], [.int (nI R), .int (nI r)], dH h τ t B P) res h'
  | 0, r, B, e0, e, hm, K => by
    refine ev_icmp_ge (t := 115) (q := 13) rfl rfl rfl (fun _ => ?_) (fun c1 => absurd (nI_end (b := R) hm (by omega)) c1)
    have hc : r = R := hm
    subst hc
    exact K e0 e
  | m + 1, r, B, e0, e, hm, K => by
    refine ev_icmp_ge (t := 115) (q := 13) rfl rfl rfl (fun c1 => absurd c1 (nI_ge (b := R) (by omega) (by omega))) (fun _ => ?_)
    simp only [sp_it] at K
    refine ev_go 4 (q := 17) rfl ?_
    refine ev_get (q := 20) rfl (d_11 hn) rfl rfl rfl ?_
    refine ev_get (q := 23) rfl (d_1 hn) rfl rfl rfl ?_
    refine ev_tp (y := nI C) h1 ?_
    rw [show Int32.ofInt 0 = nI 0 from rfl]
    refine l_sl_in hn hR hC h0 h1 hd hq hw (by omega) C 0 B _ (by omega) (fun e => ?_)
    refine ev_go 4 (q := 4) rfl ?_
    refine ev_get (q := 7) rfl (d_11 hn) rfl rfl rfl ?_
    refine ev_get (q := 10) rfl (d_1 hn) rfl rfl rfl ?_
    refine ev_tp (y := nI R) h0 ?_
    rw [nI_s]
    exact l_sl_out hn hR hC h0 h1 hd hq hw m (r + 1) _ _ _ (by omega) K
theorem c_select (hn : 15 ≤ h.1) (hR : 1 ≤ R ∧ R ≤ 10) (hC : 1 ≤ C ∧ C ≤ 10) (h0 : τ 0 = nI R) (h1 : τ 1 = nI C) (hd : 1 < d) (hq : cmd_at q o) (hw : bt 0 (τ (o + 5)) 3) : am_m d z_Looker_select [.ref 11, .ref q] (dH h τ t B P) none (dH h τ t (sp_it (fun r => sp_it ((sl_g (τ (o + 1)) (τ (o + 2)) (τ (o + 3)) (τ (o + 4)) (τ (o + 5))) r) 0 C) 0 R B) P) := by
  refine ev_go 4 (q := 4) rfl ?_
  refine ev_get (q := 7) rfl (d_11 hn) rfl rfl rfl ?_
  refine ev_get (q := 10) rfl (d_1 hn) rfl rfl rfl ?_
  refine ev_tp (y := nI R) h0 ?_
  rw [show Int32.ofInt 0 = nI 0 from rfl]
  refine l_sl_out hn hR hC h0 h1 hd hq hw R 0 B _ _ (by omega) (fun e0 e => ?_)
  exact ev_vret rfl rfl rfl
theorem l_pk_in (hn : 15 ≤ h.1) (hR : 1 ≤ R ∧ R ≤ 10) (hC : 1 ≤ C ∧ C ≤ 10) (h0 : τ 0 = nI R) (h1 : τ 1 = nI C) (hd : 1 < d) {x : Int32} {r : Nat} (hr : r < R) : ∀ (m c : Nat) (B : Nat → Nat → Int32), c + m = C → am_ev d z_Looker_pick (71, [some (.ref 11), some (.int x), some (.int (nI r)), some (.int (nI C))], [], dH h τ t (sp_it ((pk_g (τ 3) x) r) c m B) P) res h' → am_ev d z_Looker_pick (23, [some (.ref 11), some (.int x), some (.int (nI r)), some (.int (nI c))], [.int (nI C), .int (nI c)], dH h τ t B P) res h'
  | 0, c, B, hm, K => by
    refine ev_icmp_ge (t := 71) (q := 26) rfl rfl rfl (fun _ => ?_) (fun c1 => absurd (nI_end (b := C) hm (by omega)) c1)
    have hc : c = C := hm
    subst hc
    exact K
  | m + 1, c, B, hm, K => by
    refine ev_icmp_ge (t := 71) (q := 26) rfl rfl rfl (fun c1 => absurd c1 (nI_ge (b := C) (by omega) (by omega))) (fun _ => ?_)
    simp only [sp_it] at K
    have K9 : ∀ y : Int32, y = am_b (B 0 (cx r c 3) = 1 ∧ sp_seen (τ 3) (fun l => B 0 (cx r c l)) = x) → am_ev d z_Looker_pick (62, [some (.ref 11), some (.int x), some (.int (nI r)), some (.int (nI c))], [.int y, .int (nI c), .int (nI r), .ref 1], dH h τ t B P) res h' := by
      intro y hy
      have e9 : am_b (¬ y = 0) = am_b (B 0 (cx r c 3) = 1 ∧ sp_seen (τ 3) (fun l => B 0 (cx r c l)) = x) := by
        rw [hy]
        by_cases z : (B 0 (cx r c 3) = 1 ∧ sp_seen (τ 3) (fun l => B 0 (cx r c l)) = x)
        · rw [am_b1 z]; rfl
        · rw [am_bz z]; rfl
      refine ev_virt (z' := z_Cloth_choose) (q := 65) rfl rfl (by decide) rfl (by simp [Value.category]) rfl (by omega) rfl rfl (d_1 hn) (c_choose hn (by omega) hR.2 hC.2 h0 h1 hr (by omega)) ?_
      rw [e9]
      refine ev_go 4 (q := 17) rfl ?_
      refine ev_get (q := 20) rfl (d_11 hn) rfl rfl rfl ?_
      refine ev_get (q := 23) rfl (d_1 hn) rfl rfl rfl ?_
      refine ev_tp (y := nI C) h1 ?_
      rw [nI_s]
      exact l_pk_in hn hR hC h0 h1 hd hr m (c + 1) _ (by omega) K
    refine ev_go 1 (q := 27) rfl ?_
    refine ev_get (q := 30) rfl (d_11 hn) rfl rfl rfl ?_
    refine ev_go 3 (q := 33) rfl ?_
    refine ev_get (q := 36) rfl (d_11 hn) rfl rfl rfl ?_
    refine ev_go 2 (q := 38) rfl ?_
    refine ev_virt (z' := z_Cloth_isChosen) (q := 41) rfl rfl (by decide) rfl (by simp [Value.category]) rfl (by omega) rfl rfl (d_1 hn) (c_chosen hn (by omega) hR.2 hC.2 h0 h1 hr (by omega)) ?_
    refine ev_if_eq (t := 61) (q := 44) rfl rfl rfl (fun zc1 => ?_) (fun zc1 => ?_)
    · refine ev_go 1 (q := 62) (st' := .int 0 :: _ :: _ :: _ :: _) rfl ?_
      exact K9 0 (am_bz (fun z => am_b0.mp zc1 z.1)).symm
    · refine ev_go 1 (q := 45) rfl ?_
      refine ev_get (q := 48) rfl (d_11 hn) rfl rfl rfl ?_
      refine ev_go 2 (q := 50) rfl ?_
      refine ev_virt (z' := z_Cloth_seenAt) (q := 53) rfl rfl (by decide) rfl (by simp [Value.category]) rfl (by omega) rfl rfl (d_1 hn) (c_seen hn (by omega) hR.2 hC.2 h0 h1 hr (by omega)) ?_
      refine ev_go 1 (q := 54) rfl ?_
      refine ev_icmp_ne (t := 61) (q := 57) rfl rfl rfl (fun zc2 => ?_) (fun zc2 => ?_)
      · refine ev_go 1 (q := 62) (st' := .int 0 :: _ :: _ :: _ :: _) rfl ?_
        exact K9 0 (am_bz (fun z => zc2 z.2)).symm
      · refine ev_go 2 (q := 62) (st' := .int 1 :: _ :: _ :: _ :: _) rfl ?_
        exact K9 1 (am_b1 ⟨am_bn.mp zc1, zc2⟩).symm
theorem l_pk_out (hn : 15 ≤ h.1) (hR : 1 ≤ R ∧ R ≤ 10) (hC : 1 ≤ C ∧ C ≤ 10) (h0 : τ 0 = nI R) (h1 : τ 1 = nI C) (hd : 1 < d) {x : Int32} : ∀ (m r : Nat) (B : Nat → Nat → Int32) (e0 : Option Value), r + m = R → (∀ e0 : Option Value, am_ev d z_Looker_pick (77, [some (.ref 11), some (.int x), some (.int (nI R)), e0], [], dH h τ t (sp_it (fun r => sp_it ((pk_g (τ 3) x) r) 0 C) r m B) P) res h') → am_ev d z_Looker_pick (10, [some (.ref 11), some (.int x), some (.int (nI r)), e0], [.int (nI R), .int (nI r)], dH h τ t B P) res h'
  | 0, r, B, e0, hm, K => by
    refine ev_icmp_ge (t := 77) (q := 13) rfl rfl rfl (fun _ => ?_) (fun c1 => absurd (nI_end (b := R) hm (by omega)) c1)
    have hc : r = R := hm
    subst hc
    exact K e0
  | m + 1, r, B, e0, hm, K => by
    refine ev_icmp_ge (t := 77) (q := 13) rfl rfl rfl (fun c1 => absurd c1 (nI_ge (b := R) (by omega) (by omega))) (fun _ => ?_)
    simp only [sp_it] at K
    refine ev_go 4 (q := 17) rfl ?_
    refine ev_get (q := 20) rfl (d_11 hn) rfl rfl rfl ?_
    refine ev_get (q := 23) rfl (d_1 hn) rfl rfl rfl ?_
    refine ev_tp (y := nI C) h1 ?_
    rw [show Int32.ofInt 0 = nI 0 from rfl]
    refine l_pk_in hn hR hC h0 h1 hd (by omega) C 0 B (by omega) ?_
    refine ev_go 4 (q := 4) rfl ?_
    refine ev_get (q := 7) rfl (d_11 hn) rfl rfl rfl ?_
    refine ev_get (q := 10) rfl (d_1 hn) rfl rfl rfl ?_
    refine ev_tp (y := nI R) h0 ?_
    rw [nI_s]
    exact l_pk_out hn hR hC h0 h1 hd m (r + 1) _ _ (by omega) K
theorem c_pick (hn : 15 ≤ h.1) (hR : 1 ≤ R ∧ R ≤ 10) (hC : 1 ≤ C ∧ C ≤ 10) (h0 : τ 0 = nI R) (h1 : τ 1 = nI C) (hd : 1 < d) {x : Int32} : am_m d z_Looker_pick [.ref 11, .int x] (dH h τ t B P) none (dH h τ t (sp_it (fun r => sp_it ((pk_g (τ 3) x) r) 0 C) 0 R B) P) := by
  refine ev_go 4 (q := 4) rfl ?_
  refine ev_get (q := 7) rfl (d_11 hn) rfl rfl rfl ?_
  refine ev_get (q := 10) rfl (d_1 hn) rfl rfl rfl ?_
  refine ev_tp (y := nI R) h0 ?_
  rw [show Int32.ofInt 0 = nI 0 from rfl]
  refine l_pk_out hn hR hC h0 h1 hd R 0 B _ (by omega) (fun e0 => ?_)
  exact ev_vret rfl rfl rfl
def sh_x (s a b : Int32) : Int32 := if b = 1 then s ||| (1 <<< (a &&& 31)) else s &&& ((1 <<< (a &&& 31)) ^^^ (-1))
theorem c_show (hn : 15 ≤ h.1) {a b : Int32} : am_m d z_Looker_show [.ref 11, .int a, .int b] (dH h τ t B P) none (dH h (va_up τ 3 (sh_x (τ 3) a b)) t B P) := by
  refine ev_go 5 (q := 5) rfl ?_
  refine ev_get (q := 8) rfl (d_11 hn) rfl rfl rfl ?_
  refine ev_go 2 (q := 10) (st' := .int 1 :: _ :: _ :: _) rfl ?_
  refine ev_icmp_ne (t := 25) (q := 13) rfl rfl rfl (fun zc1 => ?_) (fun zc1 => ?_)
  · refine ev_go 1 (q := 26) rfl ?_
    refine ev_get (q := 29) rfl (d_11 hn) rfl rfl rfl ?_
    refine ev_get (q := 32) rfl (d_1 hn) rfl rfl rfl ?_
    refine ev_go 4 (q := 36) (st' := .int (_ &&& (_ ^^^ (-1))) :: _ :: _) rfl ?_
    refine ev_put (q := 39) rfl (d_1 hn) rfl (Nat.le_of_ble_eq_true rfl) rfl rfl rfl ?_
    refine ev_hp du_1_3 ?_
    exact ev_vret rfl rfl (by unfold sh_x; first | (rw [if_pos zc1]; rfl) | (rw [if_neg zc1]; rfl))
  · refine ev_go 1 (q := 14) rfl ?_
    refine ev_get (q := 17) rfl (d_11 hn) rfl rfl rfl ?_
    refine ev_get (q := 20) rfl (d_1 hn) rfl rfl rfl ?_
    refine ev_go 3 (q := 36) rfl ?_
    refine ev_put (q := 39) rfl (d_1 hn) rfl (Nat.le_of_ble_eq_true rfl) rfl rfl rfl ?_
    refine ev_hp du_1_3 ?_
    exact ev_vret rfl rfl (by unfold sh_x; first | (rw [if_pos zc1]; rfl) | (rw [if_neg zc1]; rfl))
theorem c_look9 (hn : 15 ≤ h.1) (hR : 1 ≤ R ∧ R ≤ 10) (hC : 1 ≤ C ∧ C ≤ 10) (h0 : τ 0 = nI R) (h1 : τ 1 = nI C) (hd : 2 < d) (hq : cmd_at q o) (hk : τ o = 9) (hw : bt 0 (τ (o + 5)) 3) : am_m d z_Looker_carryOut [.ref 11, .ref q] (dH h τ t B P) none (dH h τ t (sp_it (fun r => sp_it ((sl_g (τ (o + 1)) (τ (o + 2)) (τ (o + 3)) (τ (o + 4)) (τ (o + 5))) r) 0 C) 0 R B) P) := by
  refine ev_go 1 (q := 1) rfl ?_
  refine ev_get (q := 4) rfl (d_cmd hn hq) rfl rfl rfl ?_
  refine ev_tp (y := 9) hk ?_
  refine ev_go 3 (q := 38) rfl ?_
  refine ev_virt (z' := z_Looker_select) (q := 41) rfl rfl (by decide) rfl (by simp [Value.category]) rfl (by omega) rfl rfl (d_11 hn) (c_select hn hR hC h0 h1 (by omega) hq hw) ?_
  refine ev_go 1 (q := 84) rfl ?_
  exact ev_vret rfl rfl (rfl)
theorem c_look10 (hn : 15 ≤ h.1) (hR : 1 ≤ R ∧ R ≤ 10) (hC : 1 ≤ C ∧ C ≤ 10) (h0 : τ 0 = nI R) (h1 : τ 1 = nI C) (hd : 2 < d) (hq : cmd_at q o) (hk : τ o = 10) : am_m d z_Looker_carryOut [.ref 11, .ref q] (dH h τ t B P) none (dH h τ t (sp_it (fun r => sp_it (pk_g (τ 3) (τ (o + 1)) r) 0 C) 0 R B) P) := by
  refine ev_go 1 (q := 1) rfl ?_
  refine ev_get (q := 4) rfl (d_cmd hn hq) rfl rfl rfl ?_
  refine ev_tp (y := 10) hk ?_
  refine ev_go 3 (q := 46) rfl ?_
  refine ev_get (q := 49) rfl (d_cmd hn hq) rfl rfl rfl ?_
  refine ev_virt (z' := z_Looker_pick) (q := 52) rfl rfl (by decide) rfl (by simp [Value.category]) rfl (by omega) rfl rfl (d_11 hn) (c_pick hn hR hC h0 h1 (by omega)) ?_
  refine ev_go 1 (q := 84) rfl ?_
  exact ev_vret rfl rfl (rfl)
theorem c_look11 (hn : 15 ≤ h.1) (hR : 1 ≤ R ∧ R ≤ 10) (hC : 1 ≤ C ∧ C ≤ 10) (h0 : τ 0 = nI R) (h1 : τ 1 = nI C) (hd : 2 < d) (hq : cmd_at q o) (hk : τ o = 11) : am_m d z_Looker_carryOut [.ref 11, .ref q] (dH h τ t B P) none (dH h (va_up τ 2 (τ (o + 1))) t B P) := by
  refine ev_go 1 (q := 1) rfl ?_
  refine ev_get (q := 4) rfl (d_cmd hn hq) rfl rfl rfl ?_
  refine ev_tp (y := 11) hk ?_
  refine ev_go 2 (q := 56) rfl ?_
  refine ev_get (q := 59) rfl (d_11 hn) rfl rfl rfl ?_
  refine ev_go 1 (q := 60) rfl ?_
  refine ev_get (q := 63) rfl (d_cmd hn hq) rfl rfl rfl ?_
  refine ev_put (q := 66) rfl (d_1 hn) rfl (Nat.le_of_ble_eq_true rfl) rfl rfl rfl ?_
  refine ev_hp du_1_2 ?_
  refine ev_go 1 (q := 84) rfl ?_
  exact ev_vret rfl rfl (rfl)
theorem c_look12 (hn : 15 ≤ h.1) (hR : 1 ≤ R ∧ R ≤ 10) (hC : 1 ≤ C ∧ C ≤ 10) (h0 : τ 0 = nI R) (h1 : τ 1 = nI C) (hd : 2 < d) (hq : cmd_at q o) (hk : τ o = 12) : am_m d z_Looker_carryOut [.ref 11, .ref q] (dH h τ t B P) none (dH h (va_up τ 3 (sh_x (τ 3) (τ (o + 1)) (τ (o + 2)))) t B P) := by
  refine ev_go 1 (q := 1) rfl ?_
  refine ev_get (q := 4) rfl (d_cmd hn hq) rfl rfl rfl ?_
  refine ev_tp (y := 12) hk ?_
  refine ev_go 3 (q := 71) rfl ?_
  refine ev_get (q := 74) rfl (d_cmd hn hq) rfl rfl rfl ?_
  refine ev_go 1 (q := 75) rfl ?_
  refine ev_get (q := 78) rfl (d_cmd hn hq) rfl rfl rfl ?_
  refine ev_virt (z' := z_Looker_show) (q := 81) rfl rfl (by decide) rfl (by simp [Value.category]) rfl (by omega) rfl rfl (d_11 hn) (c_show hn) ?_
  refine ev_go 1 (q := 84) rfl ?_
  exact ev_vret rfl rfl (rfl)
end D4
