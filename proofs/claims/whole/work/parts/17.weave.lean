/-! the cloth of the class: made, woven, copied; commands; handles -/
section CF
variable {d : Nat} {h h' : am_H} {a k a2 k2 R C : Nat} {rows cols use sh rows2 cols2 use2 sh2 : Int32} {f f2 : Nat → Int32} {res : Option Value}
theorem am_new_up (h : am_H) (n : Nat) (x y : am_C) : am_up (am_new h n x) h.1 y = am_new h n y := by
  unfold am_up am_new
  dsimp only
  rw [bx_uu]
theorem am_up_new (h : am_H) {b n : Nat} (x y : am_C) (hb : b ≠ h.1) : am_up (am_new h n x) b y = am_new (am_up h b y) n x := by
  unfold am_up am_new
  dsimp only
  congr 2
  funext j
  by_cases q : j = b
  · subst q; rw [va_up_self, va_up_ne _ _ hb, va_up_self]
  · rw [va_up_ne _ _ q]
    by_cases q2 : j = h.1
    · subst q2; rw [va_up_self, va_up_self]
    · rw [va_up_ne _ _ q2, va_up_ne _ _ q2, va_up_ne _ _ q]
theorem am_is.up_lt {h : am_H} {b : Nat} {x : am_C} {j : Nat} {y : am_C} (q : am_is (am_up h b x) j y) : j < h.1 := q.1
theorem k_Cloth_init {c0 : List Value} (hd : 0 < d) (hi : am_is h a (.inr (0, [.int 0, .int 0, .int 0, .int 0, .null]))) : am_m d z_Cloth_init [.ref a] h none (am_new (am_up h a (am_cloth 1 1 0 0 h.1)) 400 (am_ia 400 (fun _ => 0))) := by
  have hne : a ≠ h.1 := Nat.ne_of_lt hi.1
  refine ev_go 1 (q := 1) rfl ?_
  refine ev_oinit (q := 4) rfl rfl (by omega) (by decide) rfl ?_
  refine ev_go 2 (q := 6) (st' := .int 1 :: _) rfl ?_
  refine ev_put (q := 9) rfl hi rfl (Nat.le_of_ble_eq_true rfl) rfl rfl rfl ?_
  refine ev_go 2 (q := 11) (st' := .int 1 :: _) rfl ?_
  refine ev_put (q := 14) rfl hi.self rfl (Nat.le_of_ble_eq_true rfl) rfl rfl rfl ?_
  rw [am_up_up]
  refine ev_go 2 (q := 16) (st' := .int 0 :: _) rfl ?_
  refine ev_put (q := 19) rfl hi.self rfl (Nat.le_of_ble_eq_true rfl) rfl rfl rfl ?_
  rw [am_up_up]
  refine ev_go 2 (q := 21) (st' := .int 0 :: _) rfl ?_
  refine ev_put (q := 24) rfl hi.self rfl (Nat.le_of_ble_eq_true rfl) rfl rfl rfl ?_
  rw [am_up_up]
  refine ev_go 2 (q := 28) (st' := .int 400 :: _) rfl ?_
  refine ev_newa (N := 400) (q := 30) rfl rfl (by decide) rfl ?_
  refine ev_put (q := 33) rfl hi.self.new rfl (Nat.le_of_ble_eq_true rfl) rfl rfl rfl ?_
  refine ev_vret rfl rfl ?_
  rw [am_up_new _ _ _ (show a ≠ (am_up h a _).1 from hne), am_up_up]
  rfl
def sp_new : Nat → Int32 := fun j => if j % 4 = 3 then 1 else 0
def sp_newp (f : Nat → Int32) (i : Nat) : Nat → Int32 := fun j => if j < i then sp_new j else f j
theorem sp_newp_s (f : Nat → Int32) (i : Nat) : va_up (sp_newp f i) i (sp_new i) = sp_newp f (i + 1) := by
  funext j
  unfold sp_newp
  by_cases q : j = i
  · subst q; rw [va_up_self, if_pos (by omega)]
  · rw [va_up_ne _ _ q]
    by_cases q2 : j < i
    · rw [if_pos q2, if_pos (by omega)]
    · rw [if_neg q2, if_neg (by omega)]
theorem l_weave {rr cc0 : Int32} (hi : am_is h a (am_cloth rows cols use sh k)) (hk : am_is h k (am_ia 400 f)) (hak : a ≠ k) : ∀ (m i : Nat), i + m = 400 → am_ev d z_Cloth_weave (56, [some (.ref a), some (.int rr), some (.int cc0), some (.int (nI 400))], [], am_up h k (am_ia 400 (sp_newp f 400))) res h' → am_ev d z_Cloth_weave (29, [some (.ref a), some (.int rr), some (.int cc0), some (.int (nI i))], [.int 400, .int (nI i)], am_up h k (am_ia 400 (sp_newp f i))) res h'
  | 0, i, hm, K => by
    refine ev_icmp_ge (t := 56) (q := 32) rfl rfl rfl (fun _ => ?_) (fun c1 => absurd (nI_end (b := 400) hm (by omega)) c1)
    have hc : i = 400 := hm
    subst hc
    exact K
  | m + 1, i, hm, K => by
    have hi' := hi.ne (x := am_ia 400 (sp_newp f i)) hak
    have hk' := hk.self (x := am_ia 400 (sp_newp f i))
    refine ev_icmp_ge (t := 56) (q := 32) rfl rfl rfl (fun c1 => absurd c1 (nI_ge (b := 400) (by omega) (by omega))) (fun _ => ?_)
    refine ev_go 1 (q := 33) rfl ?_
    refine ev_get (q := 36) rfl hi' rfl rfl rfl ?_
    refine ev_go 3 (q := 39) (st' := .int 4 :: _) rfl ?_
    refine ev_rem (q := 40) rfl (by decide) rfl ?_
    rw [show nI i - nI i / 4 * 4 = nI (i % 4) from pk_rem (d := 4) (by omega) (by decide) (by decide)]
    refine ev_go 1 (q := 41) (st' := .int 3 :: _) rfl ?_
    refine ev_icmp_ne (t := 48) (q := 44) rfl rfl rfl (fun zc1 => ?_) (fun zc1 => ?_)
    · have hno : ¬ i % 4 = 3 := fun q => zc1 (by rw [q]; rfl)
      refine ev_go 1 (q := 49) (st' := .int (sp_new i) :: _) (by unfold sp_new; rw [if_neg hno]; rfl) ?_
      refine ev_iastn (q := 50) rfl hk' rfl (by omega) (by decide) rfl ?_
      rw [am_up_up, sp_newp_s]
      refine ev_go 4 (q := 25) rfl ?_
      rw [nI_s]
      refine ev_get (q := 28) rfl (hi.ne hak) rfl rfl rfl ?_
      refine ev_alen (q := 29) rfl hk.self (by decide) rfl rfl ?_
      exact l_weave hi hk hak m (i + 1) (by omega) K
    · have hno : i % 4 = 3 := (nI_eq (by omega) (by decide)).mp zc1
      refine ev_go 2 (q := 49) (st' := .int (sp_new i) :: _) (by unfold sp_new; rw [if_pos hno]; rfl) ?_
      refine ev_iastn (q := 50) rfl hk' rfl (by omega) (by decide) rfl ?_
      rw [am_up_up, sp_newp_s]
      refine ev_go 4 (q := 25) rfl ?_
      rw [nI_s]
      refine ev_get (q := 28) rfl (hi.ne hak) rfl rfl rfl ?_
      refine ev_alen (q := 29) rfl hk.self (by decide) rfl rfl ?_
      exact l_weave hi hk hak m (i + 1) (by omega) K
theorem k_weave {rr cc0 : Int32} (hi : am_is h a (am_cloth rows cols use sh k)) (hk : am_is h k (am_ia 400 f)) (hak : a ≠ k) : am_m d z_Cloth_weave [.ref a, .int rr, .int cc0] h none (am_up (am_up h a (am_cloth rr cc0 0 7 k)) k (am_ia 400 (sp_newp f 400))) := by
  refine ev_go 2 (q := 2) rfl ?_
  refine ev_put (q := 5) rfl hi rfl (Nat.le_of_ble_eq_true rfl) rfl rfl rfl ?_
  refine ev_go 2 (q := 7) rfl ?_
  refine ev_put (q := 10) rfl hi.self rfl (Nat.le_of_ble_eq_true rfl) rfl rfl rfl ?_
  rw [am_up_up]
  refine ev_go 2 (q := 12) (st' := .int 0 :: _) rfl ?_
  refine ev_put (q := 15) rfl hi.self rfl (Nat.le_of_ble_eq_true rfl) rfl rfl rfl ?_
  rw [am_up_up]
  refine ev_go 2 (q := 18) (st' := .int 7 :: _) rfl ?_
  refine ev_put (q := 21) rfl hi.self rfl (Nat.le_of_ble_eq_true rfl) rfl rfl rfl ?_
  rw [am_up_up]
  refine ev_go 4 (q := 25) rfl ?_
  refine ev_get (q := 28) rfl hi.self rfl rfl rfl ?_
  refine ev_alen (q := 29) rfl (hk.ne (Ne.symm hak)) (by decide) rfl rfl ?_
  have hk2 := hk.ne (x := am_cloth rr cc0 0 7 k) (Ne.symm hak)
  have e0 : am_up (am_up h a (am_cloth rr cc0 0 7 k)) k (am_ia 400 (sp_newp f 0)) = am_up h a (am_cloth rr cc0 0 7 k) := am_up_id hk2.2
  have K := l_weave (d := d) (rr := rr) (cc0 := cc0) (res := none) (h' := am_up (am_up h a (am_cloth rr cc0 0 7 k)) k (am_ia 400 (sp_newp f 400))) (hi.self (x := am_cloth rr cc0 0 7 k)) hk2 hak 400 0 (by omega) (ev_vret rfl rfl rfl)
  rw [e0] at K
  exact K
theorem k_copyFrom (hd : 0 < d) (hi : am_is h a (am_cloth rows cols use sh k)) (hk : am_is h k (am_ia 400 f)) (hi2 : am_is h a2 (am_cloth rows2 cols2 use2 sh2 k2)) (hk2 : am_is h k2 (am_ia 400 f2)) (h1 : a ≠ a2) (h2 : a ≠ k) (h3 : a ≠ k2) : am_m d z_Cloth_copyFrom [.ref a, .ref a2] h none (am_up (am_up h a (am_cloth rows2 cols2 use2 sh2 k)) k (am_ia 400 (va_cpy f2 f 0 0 400))) := by
  refine ev_go 2 (q := 2) rfl ?_
  refine ev_get (q := 5) rfl hi2 rfl rfl rfl ?_
  refine ev_put (q := 8) rfl hi rfl (Nat.le_of_ble_eq_true rfl) rfl rfl rfl ?_
  refine ev_go 2 (q := 10) rfl ?_
  refine ev_get (q := 13) rfl (hi2.ne (Ne.symm h1)) rfl rfl rfl ?_
  refine ev_put (q := 16) rfl hi.self rfl (Nat.le_of_ble_eq_true rfl) rfl rfl rfl ?_
  rw [am_up_up]
  refine ev_go 2 (q := 18) rfl ?_
  refine ev_get (q := 21) rfl (hi2.ne (Ne.symm h1)) rfl rfl rfl ?_
  refine ev_put (q := 24) rfl hi.self rfl (Nat.le_of_ble_eq_true rfl) rfl rfl rfl ?_
  rw [am_up_up]
  refine ev_go 2 (q := 26) rfl ?_
  refine ev_get (q := 29) rfl (hi2.ne (Ne.symm h1)) rfl rfl rfl ?_
  refine ev_put (q := 32) rfl hi.self rfl (Nat.le_of_ble_eq_true rfl) rfl rfl rfl ?_
  rw [am_up_up]
  refine ev_go 1 (q := 33) rfl ?_
  refine ev_get (q := 36) rfl (hi2.ne (Ne.symm h1)) rfl rfl rfl ?_
  refine ev_go 2 (q := 38) (st' := _ :: .int 0 :: _) rfl ?_
  refine ev_get (q := 41) rfl hi.self rfl rfl rfl ?_
  refine ev_go 2 (q := 43) (st' := _ :: .int 0 :: _) rfl ?_
  refine ev_get (q := 46) rfl hi.self rfl rfl rfl ?_
  refine ev_alen (v := 400) (q := 47) rfl (hk.ne (Ne.symm h2)) (by decide) rfl rfl ?_
  refine ev_copy (q := 50) rfl rfl hd (by decide) (hk2.ne (Ne.symm h3)) (hk.ne (Ne.symm h2)) (by decide) rfl ?_
  exact ev_vret rfl rfl rfl
end CF
