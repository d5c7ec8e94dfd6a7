/-! the class's constructor -/
theorem hx3 {n n' m m' : Nat} {f f' : Nat → am_C} (h1 : n = n') (h2 : m = m') (h3 : ∀ j, f j = f' j) : ((n, m, f) : am_H) = (n', m', f') := by
  rw [h1, h2, show f = f' from funext h3]
section V1
variable {d a c : Nat} {h : am_H}
theorem k_cinit (hd : 0 < d) : am_m d z_Command_init [.ref a] h none h := by
  refine ev_go 1 (q := 1) rfl ?_
  refine ev_oinit (q := 4) rfl rfl (by omega) (by decide) rfl ?_
  exact ev_vret rfl rfl (rfl)
theorem k_rinit (hd : 0 < d) (i : am_is h a (.inr (8, [.long 0]))) : am_m d z_Readiness_init [.ref a] h none (am_up h a (.inr (8, [.long 0]))) := by
  refine ev_go 1 (q := 1) rfl ?_
  refine ev_oinit (q := 4) rfl rfl (by omega) (by decide) rfl ?_
  refine ev_go 2 (q := 6) (st' := .long 0 :: _ :: _) rfl ?_
  refine ev_put (q := 9) rfl i rfl (Nat.le_of_ble_eq_true rfl) rfl rfl rfl ?_
  exact ev_vret rfl rfl (rfl)
theorem k_linit (hd : 0 < d) (i : am_is h a (.inr (3, [.null]))) : am_m d z_Looker_init [.ref a, .ref c] h none (am_up h a (.inr (3, [.ref c]))) := by
  refine ev_go 1 (q := 1) rfl ?_
  refine ev_oinit (q := 4) rfl rfl (by omega) (by decide) rfl ?_
  refine ev_go 2 (q := 6) rfl ?_
  refine ev_put (q := 9) rfl i rfl (Nat.le_of_ble_eq_true rfl) rfl rfl rfl ?_
  exact ev_vret rfl rfl (rfl)
abbrev rows2 : am_C := .inl (2, 60, .inr (fun _ => none))
theorem k_tinit (hd : 0 < d) (i : am_is h a (.inr (10, [.null, .int 0, .int 0]))) : am_m d z_Tree_init [.ref a] h none (am_up (am_new h 60 rows2) a (.inr (10, [.ref h.1, .int 0, .int 0]))) := by
  refine ev_go 1 (q := 1) rfl ?_
  refine ev_oinit (q := 4) rfl rfl (by omega) (by decide) rfl ?_
  refine ev_go 2 (q := 7) (st' := .int 60 :: _ :: _) rfl ?_
  refine ev_anew (N := 60) (q := 10) rfl rfl (by decide) rfl ?_
  refine ev_put (q := 13) rfl i.new rfl (Nat.le_of_ble_eq_true rfl) rfl rfl rfl ?_
  refine ev_go 2 (q := 15) (st' := .int 0 :: _ :: _) rfl ?_
  refine ev_put (q := 18) rfl i.new.self rfl (Nat.le_of_ble_eq_true rfl) rfl rfl rfl ?_
  refine ev_go 2 (q := 20) (st' := .int 0 :: _ :: _) rfl ?_
  refine ev_put (q := 23) rfl i.new.self.self rfl (Nat.le_of_ble_eq_true rfl) rfl rfl rfl ?_
  exact ev_vret rfl rfl (by rw [am_up_up, am_up_up]; rfl)
theorem k_painit (hd : 0 < d) (i : am_is h a (.inr (6, [.null, .null, .null, .int 0, .int 0, .int 0, .int 0]))) : am_m d z_Painter_init [.ref a, .ref c] h none (am_up (am_new (am_up (am_new h 100 (am_ia 100 (fun _ => 0))) a (.inr (6, [.null, .ref h.1, .null, .int 0, .int 0, .int 0, .int 0]))) 100 (am_ia 100 (fun _ => 0))) a (.inr (6, [.ref c, .ref h.1, .ref (h.1 + 1), .int 0, .int 0, .int 0, .int 0]))) := by
  refine ev_go 1 (q := 1) rfl ?_
  refine ev_oinit (q := 4) rfl rfl (by omega) (by decide) rfl ?_
  refine ev_go 2 (q := 7) (st' := .int 100 :: _ :: _) rfl ?_
  refine ev_newa (N := 100) (q := 9) rfl rfl (by decide) rfl ?_
  refine ev_put (q := 12) rfl i.new rfl (Nat.le_of_ble_eq_true rfl) rfl rfl rfl ?_
  refine ev_go 2 (q := 15) (st' := .int 100 :: _ :: _) rfl ?_
  refine ev_newa (N := 100) (q := 17) rfl rfl (by decide) rfl ?_
  refine ev_put (q := 20) rfl i.new.self.new rfl (Nat.le_of_ble_eq_true rfl) rfl rfl rfl ?_
  refine ev_go 2 (q := 22) rfl ?_
  refine ev_put (q := 25) rfl i.new.self.new.self rfl (Nat.le_of_ble_eq_true rfl) rfl rfl rfl ?_
  exact ev_vret rfl rfl (by rw [am_up_up]; rfl)
end V1
section V2
variable {d s : Nat} {F : Nat → am_C}
abbrev ru (x : List Value) : am_C := .inr (9, x)
def ruF (F : Nat → am_C) : Nat → am_C := fun j => match j with
  | 5 => ru [.ref 6, .int 0, .int 0, .int 0, .int (-9), .int 0, .ref 1, .ref 8, .ref 11, .ref 7, .int 0]
  | 6 => .inr (8, [.long 0])
  | 7 => .inr (1, [.int 0, .int 0, .int 0, .int 0, .int 0, .int 0])
  | 8 => .inr (6, [.ref 1, .ref 9, .ref 10, .int 0, .int 0, .int 0, .int 0])
  | 9 => am_ia 100 (fun _ => 0)
  | 10 => am_ia 100 (fun _ => 0)
  | 11 => .inr (3, [.ref 1])
  | j => F j
theorem k_ruinit (hd : 2 < d) (h5 : F 5 = .inr (9, am_df 9)) : am_m d z_Runner_init [.ref 5, .ref 1] (6, s, F) none (12, s + 215, ruF F) := by
  refine ev_go 1 (q := 1) rfl ?_
  refine ev_oinit (q := 4) rfl rfl (by omega) (by decide) rfl ?_
  refine ev_go 1 (q := 5) rfl ?_
  refine ev_new (q := 8) rfl rfl rfl rfl rfl ?_
  refine ev_go 1 (q := 9) rfl ?_
  refine ev_init (z' := z_Readiness_init) (q := 12) rfl rfl (by decide) rfl rfl (by simp [Value.category]) rfl (by omega) (k_rinit (by omega) ⟨Nat.le_of_ble_eq_true rfl, rfl⟩) ?_
  refine ev_put (q := 15) rfl ⟨Nat.le_of_ble_eq_true rfl, h5⟩ rfl (Nat.le_of_ble_eq_true rfl) rfl rfl rfl ?_
  refine ev_go 2 (q := 17) (st' := .int 0 :: _ :: _) rfl ?_
  refine ev_put (q := 20) rfl ⟨Nat.le_of_ble_eq_true rfl, rfl⟩ rfl (Nat.le_of_ble_eq_true rfl) rfl rfl rfl ?_
  refine ev_go 2 (q := 22) (st' := .int 0 :: _ :: _) rfl ?_
  refine ev_put (q := 25) rfl ⟨Nat.le_of_ble_eq_true rfl, rfl⟩ rfl (Nat.le_of_ble_eq_true rfl) rfl rfl rfl ?_
  refine ev_go 2 (q := 27) (st' := .int 0 :: _ :: _) rfl ?_
  refine ev_put (q := 30) rfl ⟨Nat.le_of_ble_eq_true rfl, rfl⟩ rfl (Nat.le_of_ble_eq_true rfl) rfl rfl rfl ?_
  refine ev_go 2 (q := 33) (st' := .int (-9) :: _ :: _) rfl ?_
  refine ev_put (q := 36) rfl ⟨Nat.le_of_ble_eq_true rfl, rfl⟩ rfl (Nat.le_of_ble_eq_true rfl) rfl rfl rfl ?_
  refine ev_go 2 (q := 38) (st' := .int 0 :: _ :: _) rfl ?_
  refine ev_put (q := 41) rfl ⟨Nat.le_of_ble_eq_true rfl, rfl⟩ rfl (Nat.le_of_ble_eq_true rfl) rfl rfl rfl ?_
  refine ev_go 1 (q := 42) rfl ?_
  refine ev_new (q := 45) rfl rfl rfl rfl rfl ?_
  refine ev_go 1 (q := 46) rfl ?_
  refine ev_init (z' := z_Command_init) (q := 49) rfl rfl (by decide) rfl rfl (by simp [Value.category]) rfl (by omega) (k_cinit (by omega)) ?_
  refine ev_put (q := 52) rfl ⟨Nat.le_of_ble_eq_true rfl, rfl⟩ rfl (Nat.le_of_ble_eq_true rfl) rfl rfl rfl ?_
  refine ev_go 2 (q := 54) (st' := .int 0 :: _ :: _) rfl ?_
  refine ev_put (q := 57) rfl ⟨Nat.le_of_ble_eq_true rfl, rfl⟩ rfl (Nat.le_of_ble_eq_true rfl) rfl rfl rfl ?_
  refine ev_go 2 (q := 59) rfl ?_
  refine ev_put (q := 62) rfl ⟨Nat.le_of_ble_eq_true rfl, rfl⟩ rfl (Nat.le_of_ble_eq_true rfl) rfl rfl rfl ?_
  refine ev_go 1 (q := 63) rfl ?_
  refine ev_new (q := 66) rfl rfl rfl rfl rfl ?_
  refine ev_go 2 (q := 68) rfl ?_
  refine ev_init (z' := z_Painter_init) (q := 71) rfl rfl (by decide) rfl rfl (by simp [Value.category]) rfl (by omega) (k_painit (by omega) ⟨Nat.le_of_ble_eq_true rfl, rfl⟩) ?_
  refine ev_put (q := 74) rfl ⟨Nat.le_of_ble_eq_true rfl, rfl⟩ rfl (Nat.le_of_ble_eq_true rfl) rfl rfl rfl ?_
  refine ev_go 1 (q := 75) rfl ?_
  refine ev_new (q := 78) rfl rfl rfl rfl rfl ?_
  refine ev_go 2 (q := 80) rfl ?_
  refine ev_init (z' := z_Looker_init) (q := 83) rfl rfl (by decide) rfl rfl (by simp [Value.category]) rfl (by omega) (k_linit (by omega) ⟨Nat.le_of_ble_eq_true rfl, rfl⟩) ?_
  refine ev_put (q := 86) rfl ⟨Nat.le_of_ble_eq_true rfl, rfl⟩ rfl (Nat.le_of_ble_eq_true rfl) rfl rfl rfl ?_
  exact ev_vret rfl rfl (by
      refine hx3 rfl ?_ (fun j => ?_)
      · simp only [am_new, am_up]
      · match j with
        | 0 => rfl
        | 1 => rfl
        | 2 => rfl
        | 3 => rfl
        | 4 => rfl
        | 5 => rfl
        | 6 => rfl
        | 7 => rfl
        | 8 => rfl
        | 9 => rfl
        | 10 => rfl
        | 11 => rfl
        | j + 12 => rfl)
def dI_τ : Nat → Int32 := fun j => if j = 0 then 1 else if j = 1 then 1 else if j = 9 then -9 else 0
theorem c_dinit0 (hd : 9 < d) (h0 : F 0 = .inr (11, am_df 11)) {H : am_H} (K : am_ev d z_Desk_init (80, [some (.ref 0)], [], dH (15, s + 760, F) dI_τ 0 (fun _ _ => 0) (fun _ _ => none)) none H) : am_m d z_Desk_init [.ref 0] (1, s, F) none H := by
  refine ev_go 1 (q := 1) rfl ?_
  refine ev_oinit (q := 4) rfl rfl (by omega) (by decide) rfl ?_
  refine ev_go 1 (q := 5) rfl ?_
  refine ev_new (q := 8) rfl rfl rfl rfl rfl ?_
  refine ev_go 1 (q := 9) rfl ?_
  refine ev_init (z' := z_Cloth_init) (q := 12) rfl rfl (by decide) rfl rfl (by simp [Value.category]) rfl (by omega) (k_Cloth_init (c0 := []) (by omega) ⟨Nat.le_of_ble_eq_true rfl, rfl⟩) ?_
  refine ev_put (q := 15) rfl ⟨Nat.le_of_ble_eq_true rfl, h0⟩ rfl (Nat.le_of_ble_eq_true rfl) rfl rfl rfl ?_
  refine ev_go 1 (q := 16) rfl ?_
  refine ev_new (q := 19) rfl rfl rfl rfl rfl ?_
  refine ev_go 1 (q := 20) rfl ?_
  refine ev_init (z' := z_Tree_init) (q := 23) rfl rfl (by decide) rfl rfl (by simp [Value.category]) rfl (by omega) (k_tinit (by omega) ⟨Nat.le_of_ble_eq_true rfl, rfl⟩) ?_
  refine ev_put (q := 26) rfl ⟨Nat.le_of_ble_eq_true rfl, rfl⟩ rfl (Nat.le_of_ble_eq_true rfl) rfl rfl rfl ?_
  refine ev_go 1 (q := 27) rfl ?_
  refine ev_new (q := 30) rfl rfl rfl rfl rfl ?_
  refine ev_go 2 (q := 32) rfl ?_
  refine ev_get (q := 35) rfl ⟨Nat.le_of_ble_eq_true rfl, rfl⟩ rfl rfl rfl ?_
  refine ev_init (z' := z_Runner_init) (q := 38) rfl rfl (by decide) rfl rfl (by simp [Value.category]) rfl (by omega) (k_ruinit (by omega) rfl) ?_
  refine ev_put (q := 41) rfl ⟨Nat.le_of_ble_eq_true rfl, rfl⟩ rfl (Nat.le_of_ble_eq_true rfl) rfl rfl rfl ?_
  refine ev_go 1 (q := 42) rfl ?_
  refine ev_new (q := 45) rfl rfl rfl rfl rfl ?_
  refine ev_go 1 (q := 46) rfl ?_
  refine ev_init (z' := z_Command_init) (q := 49) rfl rfl (by decide) rfl rfl (by simp [Value.category]) rfl (by omega) (k_cinit (by omega)) ?_
  refine ev_put (q := 52) rfl ⟨Nat.le_of_ble_eq_true rfl, rfl⟩ rfl (Nat.le_of_ble_eq_true rfl) rfl rfl rfl ?_
  refine ev_go 2 (q := 55) (st' := .int 40 :: _ :: _) rfl ?_
  refine ev_anew (N := 40) (q := 58) rfl rfl (by decide) rfl ?_
  refine ev_put (q := 61) rfl ⟨Nat.le_of_ble_eq_true rfl, rfl⟩ rfl (Nat.le_of_ble_eq_true rfl) rfl rfl rfl ?_
  refine ev_go 2 (q := 64) (st' := .int 20 :: _ :: _) rfl ?_
  refine ev_anew (N := 20) (q := 67) rfl rfl (by decide) rfl ?_
  refine ev_put (q := 70) rfl ⟨Nat.le_of_ble_eq_true rfl, rfl⟩ rfl (Nat.le_of_ble_eq_true rfl) rfl rfl rfl ?_
  refine ev_go 2 (q := 72) (st' := .int 0 :: _ :: _) rfl ?_
  refine ev_put (q := 75) rfl ⟨Nat.le_of_ble_eq_true rfl, rfl⟩ rfl (Nat.le_of_ble_eq_true rfl) rfl rfl rfl ?_
  refine ev_go 2 (q := 77) (st' := .int 0 :: _ :: _) rfl ?_
  refine ev_put (q := 80) rfl ⟨Nat.le_of_ble_eq_true rfl, rfl⟩ rfl (Nat.le_of_ble_eq_true rfl) rfl rfl rfl ?_
  refine ev_hp (h2 := dH (15, s + 760, F) dI_τ 0 (fun _ _ => 0) (fun _ _ => none)) ?_ K
  refine hx3 rfl ?_ (fun j => ?_)
  · simp only [am_new, am_up] <;> omega
  · match j with
    | 0 => rfl
    | 1 => rfl
    | 2 => rfl
    | 3 => rfl
    | 4 => rfl
    | 5 => rfl
    | 6 => rfl
    | 7 => rfl
    | 8 => rfl
    | 9 => rfl
    | 10 => rfl
    | 11 => rfl
    | 12 => rfl
    | 13 => rfl
    | 14 => rfl
    | j + 15 => rfl
end V2
