/-! the reference's constructor; the steps of its plays -/
section M13
variable {d : Nat} {h h' : am_H} {σ : Nat → Int32} {t : Int64} {A : Nat → Nat → Int32} {res : Option Value} {R C u : Nat}
theorem ev_newb {z pc q : Nat} {L : List (Option Value)} {st : List Value} {r : Option Value} {len aux t N a : Nat} {ar : ClassFile.ArrayType} {n : Int32} (hf : am_fetch z pc = some (.newarray ar, len, aux)) (ht : aux / 10000 = t) (hn : (¬ n < 0 ∧ n.toNatClampNeg ≤ 100000) ∧ n.toNatClampNeg = N) (hq : pc + 2 = q) (ha : h.1 = a) (k : am_ev d z (q, L, .ref a :: st, am_new h N (.inl (t, N, .inl (fun _ => 0)))) r h') : am_ev d z (pc, L, .int n :: st, h) r h' := by
  subst ha
  exact ev_newa hf ht hn hq k
def iF (F : Nat → am_C) (k : Nat) (fs : List Value) : Nat → am_C := fun j => if j = 18 then .inr (12, fs) else if 19 ≤ j ∧ j < 19 + k then .inl (mty (j - 19), mlen (j - 19), .inl (fun _ => 0)) else F j
def iH (F : Nat → am_C) (s k : Nat) (fs : List Value) : am_H := (19 + k, s, iF F k fs)
theorem iH_o {F : Nat → am_C} {s k : Nat} {fs : List Value} : am_is (iH F s k fs) 18 (.inr (12, fs)) := ⟨Nat.lt_of_lt_of_le (by decide : 18 < 19) (Nat.le_add_right 19 k), show iF F k fs 18 = _ from if_pos rfl⟩
theorem iH_put {F : Nat → am_C} {s k : Nat} {fs fs' : List Value} : am_up (iH F s k fs) 18 (.inr (12, fs')) = iH F s k fs' := by
  refine congrArg (fun f => ((19 + k, s, f) : am_H)) (funext fun j => ?_)
  show va_up (iF F k fs) 18 _ j = iF F k fs' j
  unfold iF
  by_cases q : j = 18
  · subst q; rw [va_up_self, if_pos rfl]
  · rw [va_up_ne _ _ q, if_neg q, if_neg q]
theorem iH_new {F : Nat → am_C} {s k t n : Nat} {fs fs' : List Value} (ht : t = mty k) (hn : n = mlen k) : am_up (am_new (iH F s k fs) n (.inl (t, n, .inl (fun _ => 0)))) 18 (.inr (12, fs')) = iH F (s + n) (k + 1) fs' := by
  subst ht
  subst hn
  refine congrArg (fun f => ((19 + (k + 1), s + mlen k, f) : am_H)) (funext fun j => ?_)
  show va_up (va_up (iF F k fs) (19 + k) _) 18 _ j = iF F (k + 1) fs' j
  unfold iF
  by_cases q : j = 18
  · subst q; rw [va_up_self, if_pos rfl]
  · rw [va_up_ne _ _ q, if_neg q]
    by_cases q2 : j = 19 + k
    · subst q2
      rw [va_up_self, if_pos ⟨by omega, by omega⟩, show 19 + k - 19 = k by omega]
    · rw [va_up_ne _ _ q2, if_neg q]
      by_cases q3 : 19 ≤ j ∧ j < 19 + k
      · rw [if_pos q3, if_pos ⟨q3.1, by omega⟩]
      · rw [if_neg q3, if_neg (by omega)]
def mI_σ : Nat → Int32 := fun j => if j = 1 then 8 else if j = 2 then 8 else if j = 6 then 7 else if j = 27 then -9 else 0
def mI_A : Nat → Nat → Int32 := ms_keep 0 0 7 (ms_all 8 8 (va_up (va_up (fun _ _ => 0) 3 (va_up (fun _ => 0) 0 (-9))) 4 (va_up (fun _ => 0) 0 1)))
theorem iH_eq {F : Nat → am_C} {s : Nat} : iH F s 24 (am_ml mI_σ 0) = mH (43, s, F) mI_σ 0 (fun _ _ => 0) := rfl
theorem iH_0 {h : am_H} (h1 : h.1 = 19) (h18 : h.2.2 18 = .inr (12, am_df 12)) : h = iH h.2.2 h.2.1 0 (am_df 12) := by
  obtain ⟨n, s, F⟩ := h
  dsimp only at h1 h18 ⊢
  subst h1
  refine congrArg (fun f => ((19, s, f) : am_H)) (funext fun j => ?_)
  unfold iF
  by_cases q : j = 18
  · subst q; rw [h18, if_pos rfl]
  · rw [if_neg q, if_neg (by omega)]
def mI_n : Nat := 26290
theorem m_init (hd : 2 < d) (h1 : h.1 = 19) (h18 : h.2.2 18 = .inr (12, am_df 12)) : am_m d z_Model_init [.ref 18] h none (mH (43, h.2.1 + mI_n, h.2.2) (va_up (va_up mI_σ 10 (nI (0 + 1))) 11 (nI 0)) 0 mI_A) := by
  have hn : 43 ≤ ((43, h.2.1 + mI_n, h.2.2) : am_H).1 := Nat.le_refl _
  refine ev_hp (iH_0 h1 h18) ?_
  refine ev_go 1 (q := 1) rfl ?_
  refine ev_oinit (q := 4) rfl rfl (by omega) (by decide) rfl ?_
  refine ev_go 2 (q := 7) (st' := .int 8 :: .ref 18 :: _) rfl ?_
  refine ev_put (q := 10) rfl iH_o rfl (Nat.le_of_ble_eq_true rfl) rfl rfl rfl ?_
  refine ev_hp iH_put ?_
  refine ev_go 2 (q := 13) (st' := .int 8 :: .ref 18 :: _) rfl ?_
  refine ev_put (q := 16) rfl iH_o rfl (Nat.le_of_ble_eq_true rfl) rfl rfl rfl ?_
  refine ev_hp iH_put ?_
  refine ev_go 2 (q := 20) (st' := .int 300 :: .ref 18 :: _) rfl ?_
  refine ev_newb (a := 19) (N := 300) (t := 0) (q := 22) rfl rfl (by decide) rfl rfl ?_
  refine ev_put (q := 25) rfl (am_is.new iH_o) rfl (Nat.le_of_ble_eq_true rfl) rfl rfl rfl ?_
  refine ev_hp (iH_new (k := 0) rfl rfl) ?_
  refine ev_go 2 (q := 28) (st' := .int 100 :: .ref 18 :: _) rfl ?_
  refine ev_newb (a := 20) (N := 100) (t := 1) (q := 30) rfl rfl (by decide) rfl rfl ?_
  refine ev_put (q := 33) rfl (am_is.new iH_o) rfl (Nat.le_of_ble_eq_true rfl) rfl rfl rfl ?_
  refine ev_hp (iH_new (k := 1) rfl rfl) ?_
  refine ev_go 2 (q := 36) (st' := .int 7 :: .ref 18 :: _) rfl ?_
  refine ev_put (q := 39) rfl iH_o rfl (Nat.le_of_ble_eq_true rfl) rfl rfl rfl ?_
  refine ev_hp iH_put ?_
  refine ev_go 2 (q := 43) (st' := .int 24120 :: .ref 18 :: _) rfl ?_
  refine ev_newb (a := 21) (N := 24120) (t := 0) (q := 45) rfl rfl (by decide) rfl rfl ?_
  refine ev_put (q := 48) rfl (am_is.new iH_o) rfl (Nat.le_of_ble_eq_true rfl) rfl rfl rfl ?_
  refine ev_hp (iH_new (k := 2) rfl rfl) ?_
  refine ev_go 2 (q := 51) (st' := .int 60 :: .ref 18 :: _) rfl ?_
  refine ev_newb (a := 22) (N := 60) (t := 0) (q := 53) rfl rfl (by decide) rfl rfl ?_
  refine ev_put (q := 56) rfl (am_is.new iH_o) rfl (Nat.le_of_ble_eq_true rfl) rfl rfl rfl ?_
  refine ev_hp (iH_new (k := 3) rfl rfl) ?_
  refine ev_go 2 (q := 59) (st' := .int 60 :: .ref 18 :: _) rfl ?_
  refine ev_newb (a := 23) (N := 60) (t := 1) (q := 61) rfl rfl (by decide) rfl rfl ?_
  refine ev_put (q := 64) rfl (am_is.new iH_o) rfl (Nat.le_of_ble_eq_true rfl) rfl rfl rfl ?_
  refine ev_hp (iH_new (k := 4) rfl rfl) ?_
  refine ev_go 2 (q := 67) (st' := .int 40 :: .ref 18 :: _) rfl ?_
  refine ev_newb (a := 24) (N := 40) (t := 0) (q := 69) rfl rfl (by decide) rfl rfl ?_
  refine ev_put (q := 72) rfl (am_is.new iH_o) rfl (Nat.le_of_ble_eq_true rfl) rfl rfl rfl ?_
  refine ev_hp (iH_new (k := 5) rfl rfl) ?_
  refine ev_go 2 (q := 76) (st' := .int 200 :: .ref 18 :: _) rfl ?_
  refine ev_newb (a := 25) (N := 200) (t := 1) (q := 78) rfl rfl (by decide) rfl rfl ?_
  refine ev_put (q := 81) rfl (am_is.new iH_o) rfl (Nat.le_of_ble_eq_true rfl) rfl rfl rfl ?_
  refine ev_hp (iH_new (k := 6) rfl rfl) ?_
  refine ev_go 2 (q := 85) (st' := .int 200 :: .ref 18 :: _) rfl ?_
  refine ev_newb (a := 26) (N := 200) (t := 0) (q := 87) rfl rfl (by decide) rfl rfl ?_
  refine ev_put (q := 90) rfl (am_is.new iH_o) rfl (Nat.le_of_ble_eq_true rfl) rfl rfl rfl ?_
  refine ev_hp (iH_new (k := 7) rfl rfl) ?_
  refine ev_go 2 (q := 93) (st' := .int 20 :: .ref 18 :: _) rfl ?_
  refine ev_newb (a := 27) (N := 20) (t := 0) (q := 95) rfl rfl (by decide) rfl rfl ?_
  refine ev_put (q := 98) rfl (am_is.new iH_o) rfl (Nat.le_of_ble_eq_true rfl) rfl rfl rfl ?_
  refine ev_hp (iH_new (k := 8) rfl rfl) ?_
  refine ev_go 2 (q := 101) (st' := .int 20 :: .ref 18 :: _) rfl ?_
  refine ev_newb (a := 28) (N := 20) (t := 0) (q := 103) rfl rfl (by decide) rfl rfl ?_
  refine ev_put (q := 106) rfl (am_is.new iH_o) rfl (Nat.le_of_ble_eq_true rfl) rfl rfl rfl ?_
  refine ev_hp (iH_new (k := 9) rfl rfl) ?_
  refine ev_go 2 (q := 109) (st' := .int 20 :: .ref 18 :: _) rfl ?_
  refine ev_newb (a := 29) (N := 20) (t := 0) (q := 111) rfl rfl (by decide) rfl rfl ?_
  refine ev_put (q := 114) rfl (am_is.new iH_o) rfl (Nat.le_of_ble_eq_true rfl) rfl rfl rfl ?_
  refine ev_hp (iH_new (k := 10) rfl rfl) ?_
  refine ev_go 2 (q := 117) (st' := .int 20 :: .ref 18 :: _) rfl ?_
  refine ev_newb (a := 30) (N := 20) (t := 0) (q := 119) rfl rfl (by decide) rfl rfl ?_
  refine ev_put (q := 122) rfl (am_is.new iH_o) rfl (Nat.le_of_ble_eq_true rfl) rfl rfl rfl ?_
  refine ev_hp (iH_new (k := 11) rfl rfl) ?_
  refine ev_go 2 (q := 125) (st' := .int 20 :: .ref 18 :: _) rfl ?_
  refine ev_newb (a := 31) (N := 20) (t := 0) (q := 127) rfl rfl (by decide) rfl rfl ?_
  refine ev_put (q := 130) rfl (am_is.new iH_o) rfl (Nat.le_of_ble_eq_true rfl) rfl rfl rfl ?_
  refine ev_hp (iH_new (k := 12) rfl rfl) ?_
  refine ev_go 2 (q := 134) (st' := .int 160 :: .ref 18 :: _) rfl ?_
  refine ev_newb (a := 32) (N := 160) (t := 0) (q := 136) rfl rfl (by decide) rfl rfl ?_
  refine ev_put (q := 139) rfl (am_is.new iH_o) rfl (Nat.le_of_ble_eq_true rfl) rfl rfl rfl ?_
  refine ev_hp (iH_new (k := 13) rfl rfl) ?_
  refine ev_go 2 (q := 143) (st' := .int 640 :: .ref 18 :: _) rfl ?_
  refine ev_newb (a := 33) (N := 640) (t := 0) (q := 145) rfl rfl (by decide) rfl rfl ?_
  refine ev_put (q := 148) rfl (am_is.new iH_o) rfl (Nat.le_of_ble_eq_true rfl) rfl rfl rfl ?_
  refine ev_hp (iH_new (k := 14) rfl rfl) ?_
  refine ev_go 2 (q := 151) (st' := .int (-9) :: .ref 18 :: _) rfl ?_
  refine ev_put (q := 154) rfl iH_o rfl (Nat.le_of_ble_eq_true rfl) rfl rfl rfl ?_
  refine ev_hp iH_put ?_
  refine ev_go 2 (q := 156) (st' := .int 5 :: .ref 18 :: _) rfl ?_
  refine ev_newb (a := 34) (N := 5) (t := 0) (q := 158) rfl rfl (by decide) rfl rfl ?_
  refine ev_put (q := 161) rfl (am_is.new iH_o) rfl (Nat.le_of_ble_eq_true rfl) rfl rfl rfl ?_
  refine ev_hp (iH_new (k := 15) rfl rfl) ?_
  refine ev_go 2 (q := 164) (st' := .int 100 :: .ref 18 :: _) rfl ?_
  refine ev_newb (a := 35) (N := 100) (t := 0) (q := 166) rfl rfl (by decide) rfl rfl ?_
  refine ev_put (q := 169) rfl (am_is.new iH_o) rfl (Nat.le_of_ble_eq_true rfl) rfl rfl rfl ?_
  refine ev_hp (iH_new (k := 16) rfl rfl) ?_
  refine ev_go 2 (q := 172) (st' := .int 100 :: .ref 18 :: _) rfl ?_
  refine ev_newb (a := 36) (N := 100) (t := 1) (q := 174) rfl rfl (by decide) rfl rfl ?_
  refine ev_put (q := 177) rfl (am_is.new iH_o) rfl (Nat.le_of_ble_eq_true rfl) rfl rfl rfl ?_
  refine ev_hp (iH_new (k := 17) rfl rfl) ?_
  refine ev_go 2 (q := 179) (st' := .int 5 :: .ref 18 :: _) rfl ?_
  refine ev_newb (a := 37) (N := 5) (t := 0) (q := 181) rfl rfl (by decide) rfl rfl ?_
  refine ev_put (q := 184) rfl (am_is.new iH_o) rfl (Nat.le_of_ble_eq_true rfl) rfl rfl rfl ?_
  refine ev_hp (iH_new (k := 18) rfl rfl) ?_
  refine ev_go 2 (q := 187) (st' := .int 20 :: .ref 18 :: _) rfl ?_
  refine ev_newb (a := 38) (N := 20) (t := 0) (q := 189) rfl rfl (by decide) rfl rfl ?_
  refine ev_put (q := 192) rfl (am_is.new iH_o) rfl (Nat.le_of_ble_eq_true rfl) rfl rfl rfl ?_
  refine ev_hp (iH_new (k := 19) rfl rfl) ?_
  refine ev_go 2 (q := 195) (st' := .int 20 :: .ref 18 :: _) rfl ?_
  refine ev_newb (a := 39) (N := 20) (t := 0) (q := 197) rfl rfl (by decide) rfl rfl ?_
  refine ev_put (q := 200) rfl (am_is.new iH_o) rfl (Nat.le_of_ble_eq_true rfl) rfl rfl rfl ?_
  refine ev_hp (iH_new (k := 20) rfl rfl) ?_
  refine ev_go 2 (q := 203) (st' := .int 20 :: .ref 18 :: _) rfl ?_
  refine ev_newb (a := 40) (N := 20) (t := 0) (q := 205) rfl rfl (by decide) rfl rfl ?_
  refine ev_put (q := 208) rfl (am_is.new iH_o) rfl (Nat.le_of_ble_eq_true rfl) rfl rfl rfl ?_
  refine ev_hp (iH_new (k := 21) rfl rfl) ?_
  refine ev_go 2 (q := 211) (st' := .int 20 :: .ref 18 :: _) rfl ?_
  refine ev_newb (a := 41) (N := 20) (t := 0) (q := 213) rfl rfl (by decide) rfl rfl ?_
  refine ev_put (q := 216) rfl (am_is.new iH_o) rfl (Nat.le_of_ble_eq_true rfl) rfl rfl rfl ?_
  refine ev_hp (iH_new (k := 22) rfl rfl) ?_
  refine ev_go 2 (q := 219) (st' := .int 20 :: .ref 18 :: _) rfl ?_
  refine ev_newb (a := 42) (N := 20) (t := 0) (q := 221) rfl rfl (by decide) rfl rfl ?_
  refine ev_put (q := 224) rfl (am_is.new iH_o) rfl (Nat.le_of_ble_eq_true rfl) rfl rfl rfl ?_
  refine ev_hp (iH_new (k := 23) rfl rfl) ?_
  refine ev_go 2 (q := 226) (st' := .int 0 :: .ref 18 :: _) rfl ?_
  refine ev_put (q := 229) rfl iH_o rfl (Nat.le_of_ble_eq_true rfl) rfl rfl rfl ?_
  refine ev_hp iH_put ?_
  refine ev_hp (h2 := iH h.2.2 (h.2.1 + 300 + 100 + 24120 + 60 + 60 + 40 + 200 + 200 + 20 + 20 + 20 + 20 + 20 + 160 + 640 + 5 + 100 + 100 + 5 + 20 + 20 + 20 + 20 + 20) 24 (am_ml mI_σ 0)) rfl ?_
  rw [show h.2.1 + 300 + 100 + 24120 + 60 + 60 + 40 + 200 + 200 + 20 + 20 + 20 + 20 + 20 + 160 + 640 + 5 + 100 + 100 + 5 + 20 + 20 + 20 + 20 + 20 = h.2.1 + mI_n by unfold mI_n; omega]
  refine ev_hp iH_eq ?_
  refine ev_go 2 (q := 232) (st' := .int (-9) :: _ :: _) rfl ?_
  refine ev_virt (z' := z_Model_adds) (q := 235) rfl rfl (by decide) rfl (by simp [Value.category]) rfl (by omega) rfl rfl (mH_o hn) (m_adds (n := 0) hn rfl (by decide)) ?_
  refine ev_go 3 (q := 238) (st' := .int 1 :: _ :: _) rfl ?_
  refine ev_virt (z' := z_Model_all) (q := 241) rfl rfl (by decide) rfl (by simp [Value.category]) rfl (by omega) rfl rfl (mH_o hn) (m_all (R := 8) (C := 8) hn (by decide) (by decide) rfl rfl) ?_
  refine ev_go 2 (q := 243) (st' := .int 0 :: _ :: _) rfl ?_
  refine ev_virt (z' := z_Model_keeps) (q := 246) rfl rfl (by decide) rfl (by simp [Value.category]) rfl (by omega) rfl rfl (mH_o hn) (m_keeps (n := 0) hn (by decide)) ?_
  exact ev_vret rfl rfl (rfl)
end M13
