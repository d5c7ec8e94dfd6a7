/-! the class's own cells, laid over a heap: ints τ, sum t, rows B, rows of references P -/
def dF (h : Nat → am_C) (τ : Nat → Int32) (t : Int64) (B : Nat → Nat → Int32) (P : Nat → Nat → Option Nat) : Nat → am_C := fun k => match k with
  | 0 => .inr (11, [.ref 1, .ref 3, .ref 5, .ref 12, .ref 13, .ref 14, .int (τ 28), .int (τ 29)])
  | 1 => .inr (0, [.int (τ 0), .int (τ 1), .int (τ 2), .int (τ 3), .ref 2])
  | 2 => .inl (0, 400, .inl (B 0))
  | 3 => .inr (10, [.ref 4, .int (τ 4), .int (τ 5)])
  | 4 => .inl (2, 60, .inr (P 0))
  | 5 => .inr (9, [.ref 6, .int (τ 6), .int (τ 7), .int (τ 8), .int (τ 9), .int (τ 10), .ref 1, .ref 8, .ref 11, .ref 7, .int (τ 11)])
  | 6 => .inr (8, [.long t])
  | 7 => .inr (1, [.int (τ 12), .int (τ 13), .int (τ 14), .int (τ 15), .int (τ 16), .int (τ 17)])
  | 8 => .inr (6, [.ref 1, .ref 9, .ref 10, .int (τ 18), .int (τ 19), .int (τ 20), .int (τ 21)])
  | 9 => .inl (0, 100, .inl (B 1))
  | 10 => .inl (0, 100, .inl (B 2))
  | 11 => .inr (3, [.ref 1])
  | 12 => .inr (1, [.int (τ 22), .int (τ 23), .int (τ 24), .int (τ 25), .int (τ 26), .int (τ 27)])
  | 13 => .inl (3, 40, .inr (P 1))
  | 14 => .inl (4, 20, .inr (P 2))
  | k + 15 => h (k + 15)
def dH (h : am_H) (τ : Nat → Int32) (t : Int64) (B : Nat → Nat → Int32) (P : Nat → Nat → Option Nat) : am_H := (h.1, h.2.1, dF h.2.2 τ t B P)
section D1
variable {d z pc q : Nat} {L : List (Option Value)} {st : List Value} {h h' : am_H} {r : Option Value} {τ : Nat → Int32} {t : Int64} {B : Nat → Nat → Int32} {P : Nat → Nat → Option Nat}
theorem dH_ge {a : Nat} {x : am_C} (ha : 15 ≤ a) (hi : am_is h a x) : am_is (dH h τ t B P) a x := by
  obtain ⟨b, rfl⟩ : ∃ b, a = b + 15 := ⟨a - 15, by omega⟩
  exact hi
theorem dH_far {a : Nat} {x : am_C} (ha : 15 ≤ a) : am_up (dH h τ t B P) a x = dH (am_up h a x) τ t B P := by
  obtain ⟨b, rfl⟩ : ∃ b, a = b + 15 := ⟨a - 15, by omega⟩
  refine congrArg (fun f => ((h.1, h.2.1, f) : am_H)) (funext fun j => ?_)
  show va_up (dF h.2.2 τ t B P) (b + 15) x j = dF (va_up h.2.2 (b + 15) x) τ t B P j
  match j with
  | 0 => exact va_up_ne _ _ (by omega)
  | 1 => exact va_up_ne _ _ (by omega)
  | 2 => exact va_up_ne _ _ (by omega)
  | 3 => exact va_up_ne _ _ (by omega)
  | 4 => exact va_up_ne _ _ (by omega)
  | 5 => exact va_up_ne _ _ (by omega)
  | 6 => exact va_up_ne _ _ (by omega)
  | 7 => exact va_up_ne _ _ (by omega)
  | 8 => exact va_up_ne _ _ (by omega)
  | 9 => exact va_up_ne _ _ (by omega)
  | 10 => exact va_up_ne _ _ (by omega)
  | 11 => exact va_up_ne _ _ (by omega)
  | 12 => exact va_up_ne _ _ (by omega)
  | 13 => exact va_up_ne _ _ (by omega)
  | 14 => exact va_up_ne _ _ (by omega)
  | j + 15 =>
    by_cases e : j = b
    · subst e; rw [va_up_self]; exact (va_up_self h.2.2 _ _).symm
    · rw [va_up_ne _ _ (by omega)]; exact (va_up_ne h.2.2 _ (by omega)).symm
theorem dH_new {n : Nat} {x : am_C} (hn : 15 ≤ h.1) : am_new (dH h τ t B P) n x = dH (am_new h n x) τ t B P := by
  have e := dH_far (h := h) (τ := τ) (t := t) (B := B) (P := P) (a := h.1) (x := x) hn
  refine congrArg (fun f => ((h.1 + 1, h.2.1 + n, f) : am_H)) ?_
  exact congrArg (fun g : am_H => g.2.2) e
theorem d_0 (hn : 15 ≤ h.1) : am_is (dH h τ t B P) 0 (.inr (11, [.ref 1, .ref 3, .ref 5, .ref 12, .ref 13, .ref 14, .int (τ 28), .int (τ 29)])) := ⟨Nat.lt_of_lt_of_le (by decide) hn, rfl⟩
theorem d_1 (hn : 15 ≤ h.1) : am_is (dH h τ t B P) 1 (.inr (0, [.int (τ 0), .int (τ 1), .int (τ 2), .int (τ 3), .ref 2])) := ⟨Nat.lt_of_lt_of_le (by decide) hn, rfl⟩
theorem d_2 (hn : 15 ≤ h.1) : am_is (dH h τ t B P) 2 (.inl (0, 400, .inl (B 0))) := ⟨Nat.lt_of_lt_of_le (by decide) hn, rfl⟩
theorem d_3 (hn : 15 ≤ h.1) : am_is (dH h τ t B P) 3 (.inr (10, [.ref 4, .int (τ 4), .int (τ 5)])) := ⟨Nat.lt_of_lt_of_le (by decide) hn, rfl⟩
theorem d_4 (hn : 15 ≤ h.1) : am_is (dH h τ t B P) 4 (.inl (2, 60, .inr (P 0))) := ⟨Nat.lt_of_lt_of_le (by decide) hn, rfl⟩
theorem d_5 (hn : 15 ≤ h.1) : am_is (dH h τ t B P) 5 (.inr (9, [.ref 6, .int (τ 6), .int (τ 7), .int (τ 8), .int (τ 9), .int (τ 10), .ref 1, .ref 8, .ref 11, .ref 7, .int (τ 11)])) := ⟨Nat.lt_of_lt_of_le (by decide) hn, rfl⟩
theorem d_6 (hn : 15 ≤ h.1) : am_is (dH h τ t B P) 6 (.inr (8, [.long t])) := ⟨Nat.lt_of_lt_of_le (by decide) hn, rfl⟩
theorem d_7 (hn : 15 ≤ h.1) : am_is (dH h τ t B P) 7 (.inr (1, [.int (τ 12), .int (τ 13), .int (τ 14), .int (τ 15), .int (τ 16), .int (τ 17)])) := ⟨Nat.lt_of_lt_of_le (by decide) hn, rfl⟩
theorem d_8 (hn : 15 ≤ h.1) : am_is (dH h τ t B P) 8 (.inr (6, [.ref 1, .ref 9, .ref 10, .int (τ 18), .int (τ 19), .int (τ 20), .int (τ 21)])) := ⟨Nat.lt_of_lt_of_le (by decide) hn, rfl⟩
theorem d_9 (hn : 15 ≤ h.1) : am_is (dH h τ t B P) 9 (.inl (0, 100, .inl (B 1))) := ⟨Nat.lt_of_lt_of_le (by decide) hn, rfl⟩
theorem d_10 (hn : 15 ≤ h.1) : am_is (dH h τ t B P) 10 (.inl (0, 100, .inl (B 2))) := ⟨Nat.lt_of_lt_of_le (by decide) hn, rfl⟩
theorem d_11 (hn : 15 ≤ h.1) : am_is (dH h τ t B P) 11 (.inr (3, [.ref 1])) := ⟨Nat.lt_of_lt_of_le (by decide) hn, rfl⟩
theorem d_12 (hn : 15 ≤ h.1) : am_is (dH h τ t B P) 12 (.inr (1, [.int (τ 22), .int (τ 23), .int (τ 24), .int (τ 25), .int (τ 26), .int (τ 27)])) := ⟨Nat.lt_of_lt_of_le (by decide) hn, rfl⟩
theorem d_13 (hn : 15 ≤ h.1) : am_is (dH h τ t B P) 13 (.inl (3, 40, .inr (P 1))) := ⟨Nat.lt_of_lt_of_le (by decide) hn, rfl⟩
theorem d_14 (hn : 15 ≤ h.1) : am_is (dH h τ t B P) 14 (.inl (4, 20, .inr (P 2))) := ⟨Nat.lt_of_lt_of_le (by decide) hn, rfl⟩
theorem du_0_6 {x : Int32}  : am_up (dH h τ t B P) 0 (.inr (11, [.ref 1, .ref 3, .ref 5, .ref 12, .ref 13, .ref 14, .int x, .int (τ 29)])) = dH h (va_up τ 28 x) t B P := by
  refine congrArg (fun f => ((h.1, h.2.1, f) : am_H)) (funext fun j => ?_)
  match j with
  | 0 => rfl
  | 1 => rfl
  | 2 => rfl
  | 3 => rfl
  | 4 => rfl
  | 5 => rfl
  | 6 => rfl
  | 7 => rfl
  | 8 => rfl
  | 9 => rfl
  | 10 => rfl
  | 11 => rfl
  | 12 => rfl
  | 13 => rfl
  | 14 => rfl
  | j + 15 => rfl
theorem du_0_7 {x : Int32}  : am_up (dH h τ t B P) 0 (.inr (11, [.ref 1, .ref 3, .ref 5, .ref 12, .ref 13, .ref 14, .int (τ 28), .int x])) = dH h (va_up τ 29 x) t B P := by
  refine congrArg (fun f => ((h.1, h.2.1, f) : am_H)) (funext fun j => ?_)
  match j with
  | 0 => rfl
  | 1 => rfl
  | 2 => rfl
  | 3 => rfl
  | 4 => rfl
  | 5 => rfl
  | 6 => rfl
  | 7 => rfl
  | 8 => rfl
  | 9 => rfl
  | 10 => rfl
  | 11 => rfl
  | 12 => rfl
  | 13 => rfl
  | 14 => rfl
  | j + 15 => rfl
theorem du_1_0 {x : Int32}  : am_up (dH h τ t B P) 1 (.inr (0, [.int x, .int (τ 1), .int (τ 2), .int (τ 3), .ref 2])) = dH h (va_up τ 0 x) t B P := by
  refine congrArg (fun f => ((h.1, h.2.1, f) : am_H)) (funext fun j => ?_)
  match j with
  | 0 => rfl
  | 1 => rfl
  | 2 => rfl
  | 3 => rfl
  | 4 => rfl
  | 5 => rfl
  | 6 => rfl
  | 7 => rfl
  | 8 => rfl
  | 9 => rfl
  | 10 => rfl
  | 11 => rfl
  | 12 => rfl
  | 13 => rfl
  | 14 => rfl
  | j + 15 => rfl
theorem du_1_1 {x : Int32}  : am_up (dH h τ t B P) 1 (.inr (0, [.int (τ 0), .int x, .int (τ 2), .int (τ 3), .ref 2])) = dH h (va_up τ 1 x) t B P := by
  refine congrArg (fun f => ((h.1, h.2.1, f) : am_H)) (funext fun j => ?_)
  match j with
  | 0 => rfl
  | 1 => rfl
  | 2 => rfl
  | 3 => rfl
  | 4 => rfl
  | 5 => rfl
  | 6 => rfl
  | 7 => rfl
  | 8 => rfl
  | 9 => rfl
  | 10 => rfl
  | 11 => rfl
  | 12 => rfl
  | 13 => rfl
  | 14 => rfl
  | j + 15 => rfl
theorem du_1_2 {x : Int32}  : am_up (dH h τ t B P) 1 (.inr (0, [.int (τ 0), .int (τ 1), .int x, .int (τ 3), .ref 2])) = dH h (va_up τ 2 x) t B P := by
  refine congrArg (fun f => ((h.1, h.2.1, f) : am_H)) (funext fun j => ?_)
  match j with
  | 0 => rfl
  | 1 => rfl
  | 2 => rfl
  | 3 => rfl
  | 4 => rfl
  | 5 => rfl
  | 6 => rfl
  | 7 => rfl
  | 8 => rfl
  | 9 => rfl
  | 10 => rfl
  | 11 => rfl
  | 12 => rfl
  | 13 => rfl
  | 14 => rfl
  | j + 15 => rfl
theorem du_1_3 {x : Int32}  : am_up (dH h τ t B P) 1 (.inr (0, [.int (τ 0), .int (τ 1), .int (τ 2), .int x, .ref 2])) = dH h (va_up τ 3 x) t B P := by
  refine congrArg (fun f => ((h.1, h.2.1, f) : am_H)) (funext fun j => ?_)
  match j with
  | 0 => rfl
  | 1 => rfl
  | 2 => rfl
  | 3 => rfl
  | 4 => rfl
  | 5 => rfl
  | 6 => rfl
  | 7 => rfl
  | 8 => rfl
  | 9 => rfl
  | 10 => rfl
  | 11 => rfl
  | 12 => rfl
  | 13 => rfl
  | 14 => rfl
  | j + 15 => rfl
theorem du_2 {g : Nat → Int32}  : am_up (dH h τ t B P) 2 (.inl (0, 400, .inl (g))) = dH h τ t (va_up B 0 g) P := by
  refine congrArg (fun f => ((h.1, h.2.1, f) : am_H)) (funext fun j => ?_)
  match j with
  | 0 => rfl
  | 1 => rfl
  | 2 => rfl
  | 3 => rfl
  | 4 => rfl
  | 5 => rfl
  | 6 => rfl
  | 7 => rfl
  | 8 => rfl
  | 9 => rfl
  | 10 => rfl
  | 11 => rfl
  | 12 => rfl
  | 13 => rfl
  | 14 => rfl
  | j + 15 => rfl
theorem du_3_1 {x : Int32}  : am_up (dH h τ t B P) 3 (.inr (10, [.ref 4, .int x, .int (τ 5)])) = dH h (va_up τ 4 x) t B P := by
  refine congrArg (fun f => ((h.1, h.2.1, f) : am_H)) (funext fun j => ?_)
  match j with
  | 0 => rfl
  | 1 => rfl
  | 2 => rfl
  | 3 => rfl
  | 4 => rfl
  | 5 => rfl
  | 6 => rfl
  | 7 => rfl
  | 8 => rfl
  | 9 => rfl
  | 10 => rfl
  | 11 => rfl
  | 12 => rfl
  | 13 => rfl
  | 14 => rfl
  | j + 15 => rfl
theorem du_3_2 {x : Int32}  : am_up (dH h τ t B P) 3 (.inr (10, [.ref 4, .int (τ 4), .int x])) = dH h (va_up τ 5 x) t B P := by
  refine congrArg (fun f => ((h.1, h.2.1, f) : am_H)) (funext fun j => ?_)
  match j with
  | 0 => rfl
  | 1 => rfl
  | 2 => rfl
  | 3 => rfl
  | 4 => rfl
  | 5 => rfl
  | 6 => rfl
  | 7 => rfl
  | 8 => rfl
  | 9 => rfl
  | 10 => rfl
  | 11 => rfl
  | 12 => rfl
  | 13 => rfl
  | 14 => rfl
  | j + 15 => rfl
theorem du_4 {g : Nat → Option Nat}  : am_up (dH h τ t B P) 4 (.inl (2, 60, .inr (g))) = dH h τ t B (va_up P 0 g) := by
  refine congrArg (fun f => ((h.1, h.2.1, f) : am_H)) (funext fun j => ?_)
  match j with
  | 0 => rfl
  | 1 => rfl
  | 2 => rfl
  | 3 => rfl
  | 4 => rfl
  | 5 => rfl
  | 6 => rfl
  | 7 => rfl
  | 8 => rfl
  | 9 => rfl
  | 10 => rfl
  | 11 => rfl
  | 12 => rfl
  | 13 => rfl
  | 14 => rfl
  | j + 15 => rfl
theorem du_5_1 {x : Int32}  : am_up (dH h τ t B P) 5 (.inr (9, [.ref 6, .int x, .int (τ 7), .int (τ 8), .int (τ 9), .int (τ 10), .ref 1, .ref 8, .ref 11, .ref 7, .int (τ 11)])) = dH h (va_up τ 6 x) t B P := by
  refine congrArg (fun f => ((h.1, h.2.1, f) : am_H)) (funext fun j => ?_)
  match j with
  | 0 => rfl
  | 1 => rfl
  | 2 => rfl
  | 3 => rfl
  | 4 => rfl
  | 5 => rfl
  | 6 => rfl
  | 7 => rfl
  | 8 => rfl
  | 9 => rfl
  | 10 => rfl
  | 11 => rfl
  | 12 => rfl
  | 13 => rfl
  | 14 => rfl
  | j + 15 => rfl
theorem du_5_2 {x : Int32}  : am_up (dH h τ t B P) 5 (.inr (9, [.ref 6, .int (τ 6), .int x, .int (τ 8), .int (τ 9), .int (τ 10), .ref 1, .ref 8, .ref 11, .ref 7, .int (τ 11)])) = dH h (va_up τ 7 x) t B P := by
  refine congrArg (fun f => ((h.1, h.2.1, f) : am_H)) (funext fun j => ?_)
  match j with
  | 0 => rfl
  | 1 => rfl
  | 2 => rfl
  | 3 => rfl
  | 4 => rfl
  | 5 => rfl
  | 6 => rfl
  | 7 => rfl
  | 8 => rfl
  | 9 => rfl
  | 10 => rfl
  | 11 => rfl
  | 12 => rfl
  | 13 => rfl
  | 14 => rfl
  | j + 15 => rfl
theorem du_5_3 {x : Int32}  : am_up (dH h τ t B P) 5 (.inr (9, [.ref 6, .int (τ 6), .int (τ 7), .int x, .int (τ 9), .int (τ 10), .ref 1, .ref 8, .ref 11, .ref 7, .int (τ 11)])) = dH h (va_up τ 8 x) t B P := by
  refine congrArg (fun f => ((h.1, h.2.1, f) : am_H)) (funext fun j => ?_)
  match j with
  | 0 => rfl
  | 1 => rfl
  | 2 => rfl
  | 3 => rfl
  | 4 => rfl
  | 5 => rfl
  | 6 => rfl
  | 7 => rfl
  | 8 => rfl
  | 9 => rfl
  | 10 => rfl
  | 11 => rfl
  | 12 => rfl
  | 13 => rfl
  | 14 => rfl
  | j + 15 => rfl
theorem du_5_4 {x : Int32}  : am_up (dH h τ t B P) 5 (.inr (9, [.ref 6, .int (τ 6), .int (τ 7), .int (τ 8), .int x, .int (τ 10), .ref 1, .ref 8, .ref 11, .ref 7, .int (τ 11)])) = dH h (va_up τ 9 x) t B P := by
  refine congrArg (fun f => ((h.1, h.2.1, f) : am_H)) (funext fun j => ?_)
  match j with
  | 0 => rfl
  | 1 => rfl
  | 2 => rfl
  | 3 => rfl
  | 4 => rfl
  | 5 => rfl
  | 6 => rfl
  | 7 => rfl
  | 8 => rfl
  | 9 => rfl
  | 10 => rfl
  | 11 => rfl
  | 12 => rfl
  | 13 => rfl
  | 14 => rfl
  | j + 15 => rfl
theorem du_5_5 {x : Int32}  : am_up (dH h τ t B P) 5 (.inr (9, [.ref 6, .int (τ 6), .int (τ 7), .int (τ 8), .int (τ 9), .int x, .ref 1, .ref 8, .ref 11, .ref 7, .int (τ 11)])) = dH h (va_up τ 10 x) t B P := by
  refine congrArg (fun f => ((h.1, h.2.1, f) : am_H)) (funext fun j => ?_)
  match j with
  | 0 => rfl
  | 1 => rfl
  | 2 => rfl
  | 3 => rfl
  | 4 => rfl
  | 5 => rfl
  | 6 => rfl
  | 7 => rfl
  | 8 => rfl
  | 9 => rfl
  | 10 => rfl
  | 11 => rfl
  | 12 => rfl
  | 13 => rfl
  | 14 => rfl
  | j + 15 => rfl
theorem du_5_10 {x : Int32}  : am_up (dH h τ t B P) 5 (.inr (9, [.ref 6, .int (τ 6), .int (τ 7), .int (τ 8), .int (τ 9), .int (τ 10), .ref 1, .ref 8, .ref 11, .ref 7, .int x])) = dH h (va_up τ 11 x) t B P := by
  refine congrArg (fun f => ((h.1, h.2.1, f) : am_H)) (funext fun j => ?_)
  match j with
  | 0 => rfl
  | 1 => rfl
  | 2 => rfl
  | 3 => rfl
  | 4 => rfl
  | 5 => rfl
  | 6 => rfl
  | 7 => rfl
  | 8 => rfl
  | 9 => rfl
  | 10 => rfl
  | 11 => rfl
  | 12 => rfl
  | 13 => rfl
  | 14 => rfl
  | j + 15 => rfl
theorem du_6_0 {x : Int64}  : am_up (dH h τ t B P) 6 (.inr (8, [.long x])) = dH h τ x B P := by
  refine congrArg (fun f => ((h.1, h.2.1, f) : am_H)) (funext fun j => ?_)
  match j with
  | 0 => rfl
  | 1 => rfl
  | 2 => rfl
  | 3 => rfl
  | 4 => rfl
  | 5 => rfl
  | 6 => rfl
  | 7 => rfl
  | 8 => rfl
  | 9 => rfl
  | 10 => rfl
  | 11 => rfl
  | 12 => rfl
  | 13 => rfl
  | 14 => rfl
  | j + 15 => rfl
theorem du_7_0 {x : Int32}  : am_up (dH h τ t B P) 7 (.inr (1, [.int x, .int (τ 13), .int (τ 14), .int (τ 15), .int (τ 16), .int (τ 17)])) = dH h (va_up τ 12 x) t B P := by
  refine congrArg (fun f => ((h.1, h.2.1, f) : am_H)) (funext fun j => ?_)
  match j with
  | 0 => rfl
  | 1 => rfl
  | 2 => rfl
  | 3 => rfl
  | 4 => rfl
  | 5 => rfl
  | 6 => rfl
  | 7 => rfl
  | 8 => rfl
  | 9 => rfl
  | 10 => rfl
  | 11 => rfl
  | 12 => rfl
  | 13 => rfl
  | 14 => rfl
  | j + 15 => rfl
theorem du_7_1 {x : Int32}  : am_up (dH h τ t B P) 7 (.inr (1, [.int (τ 12), .int x, .int (τ 14), .int (τ 15), .int (τ 16), .int (τ 17)])) = dH h (va_up τ 13 x) t B P := by
  refine congrArg (fun f => ((h.1, h.2.1, f) : am_H)) (funext fun j => ?_)
  match j with
  | 0 => rfl
  | 1 => rfl
  | 2 => rfl
  | 3 => rfl
  | 4 => rfl
  | 5 => rfl
  | 6 => rfl
  | 7 => rfl
  | 8 => rfl
  | 9 => rfl
  | 10 => rfl
  | 11 => rfl
  | 12 => rfl
  | 13 => rfl
  | 14 => rfl
  | j + 15 => rfl
theorem du_7_2 {x : Int32}  : am_up (dH h τ t B P) 7 (.inr (1, [.int (τ 12), .int (τ 13), .int x, .int (τ 15), .int (τ 16), .int (τ 17)])) = dH h (va_up τ 14 x) t B P := by
  refine congrArg (fun f => ((h.1, h.2.1, f) : am_H)) (funext fun j => ?_)
  match j with
  | 0 => rfl
  | 1 => rfl
  | 2 => rfl
  | 3 => rfl
  | 4 => rfl
  | 5 => rfl
  | 6 => rfl
  | 7 => rfl
  | 8 => rfl
  | 9 => rfl
  | 10 => rfl
  | 11 => rfl
  | 12 => rfl
  | 13 => rfl
  | 14 => rfl
  | j + 15 => rfl
theorem du_7_3 {x : Int32}  : am_up (dH h τ t B P) 7 (.inr (1, [.int (τ 12), .int (τ 13), .int (τ 14), .int x, .int (τ 16), .int (τ 17)])) = dH h (va_up τ 15 x) t B P := by
  refine congrArg (fun f => ((h.1, h.2.1, f) : am_H)) (funext fun j => ?_)
  match j with
  | 0 => rfl
  | 1 => rfl
  | 2 => rfl
  | 3 => rfl
  | 4 => rfl
  | 5 => rfl
  | 6 => rfl
  | 7 => rfl
  | 8 => rfl
  | 9 => rfl
  | 10 => rfl
  | 11 => rfl
  | 12 => rfl
  | 13 => rfl
  | 14 => rfl
  | j + 15 => rfl
theorem du_7_4 {x : Int32}  : am_up (dH h τ t B P) 7 (.inr (1, [.int (τ 12), .int (τ 13), .int (τ 14), .int (τ 15), .int x, .int (τ 17)])) = dH h (va_up τ 16 x) t B P := by
  refine congrArg (fun f => ((h.1, h.2.1, f) : am_H)) (funext fun j => ?_)
  match j with
  | 0 => rfl
  | 1 => rfl
  | 2 => rfl
  | 3 => rfl
  | 4 => rfl
  | 5 => rfl
  | 6 => rfl
  | 7 => rfl
  | 8 => rfl
  | 9 => rfl
  | 10 => rfl
  | 11 => rfl
  | 12 => rfl
  | 13 => rfl
  | 14 => rfl
  | j + 15 => rfl
theorem du_7_5 {x : Int32}  : am_up (dH h τ t B P) 7 (.inr (1, [.int (τ 12), .int (τ 13), .int (τ 14), .int (τ 15), .int (τ 16), .int x])) = dH h (va_up τ 17 x) t B P := by
  refine congrArg (fun f => ((h.1, h.2.1, f) : am_H)) (funext fun j => ?_)
  match j with
  | 0 => rfl
  | 1 => rfl
  | 2 => rfl
  | 3 => rfl
  | 4 => rfl
  | 5 => rfl
  | 6 => rfl
  | 7 => rfl
  | 8 => rfl
  | 9 => rfl
  | 10 => rfl
  | 11 => rfl
  | 12 => rfl
  | 13 => rfl
  | 14 => rfl
  | j + 15 => rfl
theorem du_8_3 {x : Int32}  : am_up (dH h τ t B P) 8 (.inr (6, [.ref 1, .ref 9, .ref 10, .int x, .int (τ 19), .int (τ 20), .int (τ 21)])) = dH h (va_up τ 18 x) t B P := by
  refine congrArg (fun f => ((h.1, h.2.1, f) : am_H)) (funext fun j => ?_)
  match j with
  | 0 => rfl
  | 1 => rfl
  | 2 => rfl
  | 3 => rfl
  | 4 => rfl
  | 5 => rfl
  | 6 => rfl
  | 7 => rfl
  | 8 => rfl
  | 9 => rfl
  | 10 => rfl
  | 11 => rfl
  | 12 => rfl
  | 13 => rfl
  | 14 => rfl
  | j + 15 => rfl
theorem du_8_4 {x : Int32}  : am_up (dH h τ t B P) 8 (.inr (6, [.ref 1, .ref 9, .ref 10, .int (τ 18), .int x, .int (τ 20), .int (τ 21)])) = dH h (va_up τ 19 x) t B P := by
  refine congrArg (fun f => ((h.1, h.2.1, f) : am_H)) (funext fun j => ?_)
  match j with
  | 0 => rfl
  | 1 => rfl
  | 2 => rfl
  | 3 => rfl
  | 4 => rfl
  | 5 => rfl
  | 6 => rfl
  | 7 => rfl
  | 8 => rfl
  | 9 => rfl
  | 10 => rfl
  | 11 => rfl
  | 12 => rfl
  | 13 => rfl
  | 14 => rfl
  | j + 15 => rfl
theorem du_8_5 {x : Int32}  : am_up (dH h τ t B P) 8 (.inr (6, [.ref 1, .ref 9, .ref 10, .int (τ 18), .int (τ 19), .int x, .int (τ 21)])) = dH h (va_up τ 20 x) t B P := by
  refine congrArg (fun f => ((h.1, h.2.1, f) : am_H)) (funext fun j => ?_)
  match j with
  | 0 => rfl
  | 1 => rfl
  | 2 => rfl
  | 3 => rfl
  | 4 => rfl
  | 5 => rfl
  | 6 => rfl
  | 7 => rfl
  | 8 => rfl
  | 9 => rfl
  | 10 => rfl
  | 11 => rfl
  | 12 => rfl
  | 13 => rfl
  | 14 => rfl
  | j + 15 => rfl
theorem du_8_6 {x : Int32}  : am_up (dH h τ t B P) 8 (.inr (6, [.ref 1, .ref 9, .ref 10, .int (τ 18), .int (τ 19), .int (τ 20), .int x])) = dH h (va_up τ 21 x) t B P := by
  refine congrArg (fun f => ((h.1, h.2.1, f) : am_H)) (funext fun j => ?_)
  match j with
  | 0 => rfl
  | 1 => rfl
  | 2 => rfl
  | 3 => rfl
  | 4 => rfl
  | 5 => rfl
  | 6 => rfl
  | 7 => rfl
  | 8 => rfl
  | 9 => rfl
  | 10 => rfl
  | 11 => rfl
  | 12 => rfl
  | 13 => rfl
  | 14 => rfl
  | j + 15 => rfl
theorem du_9 {g : Nat → Int32}  : am_up (dH h τ t B P) 9 (.inl (0, 100, .inl (g))) = dH h τ t (va_up B 1 g) P := by
  refine congrArg (fun f => ((h.1, h.2.1, f) : am_H)) (funext fun j => ?_)
  match j with
  | 0 => rfl
  | 1 => rfl
  | 2 => rfl
  | 3 => rfl
  | 4 => rfl
  | 5 => rfl
  | 6 => rfl
  | 7 => rfl
  | 8 => rfl
  | 9 => rfl
  | 10 => rfl
  | 11 => rfl
  | 12 => rfl
  | 13 => rfl
  | 14 => rfl
  | j + 15 => rfl
theorem du_10 {g : Nat → Int32}  : am_up (dH h τ t B P) 10 (.inl (0, 100, .inl (g))) = dH h τ t (va_up B 2 g) P := by
  refine congrArg (fun f => ((h.1, h.2.1, f) : am_H)) (funext fun j => ?_)
  match j with
  | 0 => rfl
  | 1 => rfl
  | 2 => rfl
  | 3 => rfl
  | 4 => rfl
  | 5 => rfl
  | 6 => rfl
  | 7 => rfl
  | 8 => rfl
  | 9 => rfl
  | 10 => rfl
  | 11 => rfl
  | 12 => rfl
  | 13 => rfl
  | 14 => rfl
  | j + 15 => rfl
theorem du_12_0 {x : Int32}  : am_up (dH h τ t B P) 12 (.inr (1, [.int x, .int (τ 23), .int (τ 24), .int (τ 25), .int (τ 26), .int (τ 27)])) = dH h (va_up τ 22 x) t B P := by
  refine congrArg (fun f => ((h.1, h.2.1, f) : am_H)) (funext fun j => ?_)
  match j with
  | 0 => rfl
  | 1 => rfl
  | 2 => rfl
  | 3 => rfl
  | 4 => rfl
  | 5 => rfl
  | 6 => rfl
  | 7 => rfl
  | 8 => rfl
  | 9 => rfl
  | 10 => rfl
  | 11 => rfl
  | 12 => rfl
  | 13 => rfl
  | 14 => rfl
  | j + 15 => rfl
theorem du_12_1 {x : Int32}  : am_up (dH h τ t B P) 12 (.inr (1, [.int (τ 22), .int x, .int (τ 24), .int (τ 25), .int (τ 26), .int (τ 27)])) = dH h (va_up τ 23 x) t B P := by
  refine congrArg (fun f => ((h.1, h.2.1, f) : am_H)) (funext fun j => ?_)
  match j with
  | 0 => rfl
  | 1 => rfl
  | 2 => rfl
  | 3 => rfl
  | 4 => rfl
  | 5 => rfl
  | 6 => rfl
  | 7 => rfl
  | 8 => rfl
  | 9 => rfl
  | 10 => rfl
  | 11 => rfl
  | 12 => rfl
  | 13 => rfl
  | 14 => rfl
  | j + 15 => rfl
theorem du_12_2 {x : Int32}  : am_up (dH h τ t B P) 12 (.inr (1, [.int (τ 22), .int (τ 23), .int x, .int (τ 25), .int (τ 26), .int (τ 27)])) = dH h (va_up τ 24 x) t B P := by
  refine congrArg (fun f => ((h.1, h.2.1, f) : am_H)) (funext fun j => ?_)
  match j with
  | 0 => rfl
  | 1 => rfl
  | 2 => rfl
  | 3 => rfl
  | 4 => rfl
  | 5 => rfl
  | 6 => rfl
  | 7 => rfl
  | 8 => rfl
  | 9 => rfl
  | 10 => rfl
  | 11 => rfl
  | 12 => rfl
  | 13 => rfl
  | 14 => rfl
  | j + 15 => rfl
theorem du_12_3 {x : Int32}  : am_up (dH h τ t B P) 12 (.inr (1, [.int (τ 22), .int (τ 23), .int (τ 24), .int x, .int (τ 26), .int (τ 27)])) = dH h (va_up τ 25 x) t B P := by
  refine congrArg (fun f => ((h.1, h.2.1, f) : am_H)) (funext fun j => ?_)
  match j with
  | 0 => rfl
  | 1 => rfl
  | 2 => rfl
  | 3 => rfl
  | 4 => rfl
  | 5 => rfl
  | 6 => rfl
  | 7 => rfl
  | 8 => rfl
  | 9 => rfl
  | 10 => rfl
  | 11 => rfl
  | 12 => rfl
  | 13 => rfl
  | 14 => rfl
  | j + 15 => rfl
theorem du_12_4 {x : Int32}  : am_up (dH h τ t B P) 12 (.inr (1, [.int (τ 22), .int (τ 23), .int (τ 24), .int (τ 25), .int x, .int (τ 27)])) = dH h (va_up τ 26 x) t B P := by
  refine congrArg (fun f => ((h.1, h.2.1, f) : am_H)) (funext fun j => ?_)
  match j with
  | 0 => rfl
  | 1 => rfl
  | 2 => rfl
  | 3 => rfl
  | 4 => rfl
  | 5 => rfl
  | 6 => rfl
  | 7 => rfl
  | 8 => rfl
  | 9 => rfl
  | 10 => rfl
  | 11 => rfl
  | 12 => rfl
  | 13 => rfl
  | 14 => rfl
  | j + 15 => rfl
theorem du_12_5 {x : Int32}  : am_up (dH h τ t B P) 12 (.inr (1, [.int (τ 22), .int (τ 23), .int (τ 24), .int (τ 25), .int (τ 26), .int x])) = dH h (va_up τ 27 x) t B P := by
  refine congrArg (fun f => ((h.1, h.2.1, f) : am_H)) (funext fun j => ?_)
  match j with
  | 0 => rfl
  | 1 => rfl
  | 2 => rfl
  | 3 => rfl
  | 4 => rfl
  | 5 => rfl
  | 6 => rfl
  | 7 => rfl
  | 8 => rfl
  | 9 => rfl
  | 10 => rfl
  | 11 => rfl
  | 12 => rfl
  | 13 => rfl
  | 14 => rfl
  | j + 15 => rfl
theorem du_13 {g : Nat → Option Nat}  : am_up (dH h τ t B P) 13 (.inl (3, 40, .inr (g))) = dH h τ t B (va_up P 1 g) := by
  refine congrArg (fun f => ((h.1, h.2.1, f) : am_H)) (funext fun j => ?_)
  match j with
  | 0 => rfl
  | 1 => rfl
  | 2 => rfl
  | 3 => rfl
  | 4 => rfl
  | 5 => rfl
  | 6 => rfl
  | 7 => rfl
  | 8 => rfl
  | 9 => rfl
  | 10 => rfl
  | 11 => rfl
  | 12 => rfl
  | 13 => rfl
  | 14 => rfl
  | j + 15 => rfl
theorem du_14 {g : Nat → Option Nat}  : am_up (dH h τ t B P) 14 (.inl (4, 20, .inr (g))) = dH h τ t B (va_up P 2 g) := by
  refine congrArg (fun f => ((h.1, h.2.1, f) : am_H)) (funext fun j => ?_)
  match j with
  | 0 => rfl
  | 1 => rfl
  | 2 => rfl
  | 3 => rfl
  | 4 => rfl
  | 5 => rfl
  | 6 => rfl
  | 7 => rfl
  | 8 => rfl
  | 9 => rfl
  | 10 => rfl
  | 11 => rfl
  | 12 => rfl
  | 13 => rfl
  | 14 => rfl
  | j + 15 => rfl
/-- one of the two commands: its cell, and the place of its kind among the ints -/
abbrev cmd_at (q o : Nat) : Prop := (q = 7 ∧ o = 12) ∨ (q = 12 ∧ o = 22)
abbrev cmd (τ : Nat → Int32) (o : Nat) : am_C := .inr (1, [.int (τ o), .int (τ (o + 1)), .int (τ (o + 2)), .int (τ (o + 3)), .int (τ (o + 4)), .int (τ (o + 5))])
theorem d_cmd {q o : Nat} (hn : 15 ≤ h.1) (hq : cmd_at q o) : am_is (dH h τ t B P) q (cmd τ o) := by
  rcases hq with ⟨rfl, rfl⟩ | ⟨rfl, rfl⟩
  · exact d_7 hn
  · exact d_12 hn
theorem du_q_0 {q o : Nat} {x : Int32} (hq : cmd_at q o) : am_up (dH h τ t B P) q (.inr (1, [.int x, .int (τ (o + 1)), .int (τ (o + 2)), .int (τ (o + 3)), .int (τ (o + 4)), .int (τ (o + 5))])) = dH h (va_up τ o x) t B P := by
  rcases hq with ⟨rfl, rfl⟩ | ⟨rfl, rfl⟩
  · exact du_7_0
  · exact du_12_0
theorem du_q_1 {q o : Nat} {x : Int32} (hq : cmd_at q o) : am_up (dH h τ t B P) q (.inr (1, [.int (τ o), .int x, .int (τ (o + 2)), .int (τ (o + 3)), .int (τ (o + 4)), .int (τ (o + 5))])) = dH h (va_up τ (o + 1) x) t B P := by
  rcases hq with ⟨rfl, rfl⟩ | ⟨rfl, rfl⟩
  · exact du_7_1
  · exact du_12_1
theorem du_q_2 {q o : Nat} {x : Int32} (hq : cmd_at q o) : am_up (dH h τ t B P) q (.inr (1, [.int (τ o), .int (τ (o + 1)), .int x, .int (τ (o + 3)), .int (τ (o + 4)), .int (τ (o + 5))])) = dH h (va_up τ (o + 2) x) t B P := by
  rcases hq with ⟨rfl, rfl⟩ | ⟨rfl, rfl⟩
  · exact du_7_2
  · exact du_12_2
theorem du_q_3 {q o : Nat} {x : Int32} (hq : cmd_at q o) : am_up (dH h τ t B P) q (.inr (1, [.int (τ o), .int (τ (o + 1)), .int (τ (o + 2)), .int x, .int (τ (o + 4)), .int (τ (o + 5))])) = dH h (va_up τ (o + 3) x) t B P := by
  rcases hq with ⟨rfl, rfl⟩ | ⟨rfl, rfl⟩
  · exact du_7_3
  · exact du_12_3
theorem du_q_4 {q o : Nat} {x : Int32} (hq : cmd_at q o) : am_up (dH h τ t B P) q (.inr (1, [.int (τ o), .int (τ (o + 1)), .int (τ (o + 2)), .int (τ (o + 3)), .int x, .int (τ (o + 5))])) = dH h (va_up τ (o + 4) x) t B P := by
  rcases hq with ⟨rfl, rfl⟩ | ⟨rfl, rfl⟩
  · exact du_7_4
  · exact du_12_4
theorem du_q_5 {q o : Nat} {x : Int32} (hq : cmd_at q o) : am_up (dH h τ t B P) q (.inr (1, [.int (τ o), .int (τ (o + 1)), .int (τ (o + 2)), .int (τ (o + 3)), .int (τ (o + 4)), .int x])) = dH h (va_up τ (o + 5) x) t B P := by
  rcases hq with ⟨rfl, rfl⟩ | ⟨rfl, rfl⟩
  · exact du_7_5
  · exact du_12_5
variable {R C u : Nat}
theorem d_cl (hn : 15 ≤ h.1) (h0 : τ 0 = nI R) (h1 : τ 1 = nI C) : am_is (dH h τ t B P) 1 (am_cloth (nI R) (nI C) (τ 2) (τ 3) 2) := by
  rw [← h0, ← h1]
  exact d_1 hn
theorem d_clu (hn : 15 ≤ h.1) (h0 : τ 0 = nI R) (h1 : τ 1 = nI C) (h2 : τ 2 = nI u) : am_is (dH h τ t B P) 1 (am_cloth (nI R) (nI C) (nI u) (τ 3) 2) := by
  rw [← h0, ← h1, ← h2]
  exact d_1 hn
theorem c_kn {r c : Int32} (hn : 15 ≤ h.1) (h0 : τ 0 = nI R) (h1 : τ 1 = nI C) : am_m d z_Cloth_isKnot [.ref 1, .int r, .int c] (dH h τ t B P) (some (.int (am_b (cl_kn R C r c)))) (dH h τ t B P) := k_isKnot r c (d_cl hn h0 h1)
theorem c_wool {r c l : Nat} (hn : 15 ≤ h.1) (hd : 0 < d) (hR : R ≤ 10) (hC : C ≤ 10) (h0 : τ 0 = nI R) (h1 : τ 1 = nI C) (hr : r < R) (hc : c < C) (hl : l < 3) : am_m d z_Cloth_woolAt [.ref 1, .int (nI r), .int (nI c), .int (nI l)] (dH h τ t B P) (some (.int (B 0 (cx r c l)))) (dH h τ t B P) := k_woolAt hR hC hr hc hl hd (d_cl hn h0 h1) (d_2 hn)
theorem c_wool0 {r c l : Int32} (hn : 15 ≤ h.1) (hd : 0 < d) (h0 : τ 0 = nI R) (h1 : τ 1 = nI C) (hk : ¬ cl_kn R C r c) : am_m d z_Cloth_woolAt [.ref 1, .int r, .int c, .int l] (dH h τ t B P) (some (.int 0)) (dH h τ t B P) := k_woolAt0 hk hd (d_cl hn h0 h1)
theorem c_seen {r c : Nat} (hn : 15 ≤ h.1) (hd : 0 < d) (hR : R ≤ 10) (hC : C ≤ 10) (h0 : τ 0 = nI R) (h1 : τ 1 = nI C) (hr : r < R) (hc : c < C) : am_m d z_Cloth_seenAt [.ref 1, .int (nI r), .int (nI c)] (dH h τ t B P) (some (.int (sp_seen (τ 3) (fun l => B 0 (cx r c l))))) (dH h τ t B P) := k_seenAt hR hC hr hc hd (d_cl hn h0 h1) (d_2 hn)
theorem c_chosen {r c : Nat} (hn : 15 ≤ h.1) (hd : 0 < d) (hR : R ≤ 10) (hC : C ≤ 10) (h0 : τ 0 = nI R) (h1 : τ 1 = nI C) (hr : r < R) (hc : c < C) : am_m d z_Cloth_isChosen [.ref 1, .int (nI r), .int (nI c)] (dH h τ t B P) (some (.int (am_b (B 0 (cx r c 3) = 1)))) (dH h τ t B P) := k_isChosen hR hC hr hc hd (d_cl hn h0 h1) (d_2 hn)
theorem c_chosen0 {r c : Int32} (hn : 15 ≤ h.1) (hd : 0 < d) (h0 : τ 0 = nI R) (h1 : τ 1 = nI C) (hk : ¬ cl_kn R C r c) : am_m d z_Cloth_isChosen [.ref 1, .int r, .int c] (dH h τ t B P) (some (.int 0)) (dH h τ t B P) := k_isChosen0 hk hd (d_cl hn h0 h1)
theorem c_choose {r c : Nat} {x : Int32} (hn : 15 ≤ h.1) (hd : 0 < d) (hR : R ≤ 10) (hC : C ≤ 10) (h0 : τ 0 = nI R) (h1 : τ 1 = nI C) (hr : r < R) (hc : c < C) : am_m d z_Cloth_choose [.ref 1, .int (nI r), .int (nI c), .int x] (dH h τ t B P) none (dH h τ t (va_up B 0 (va_up (B 0) (cx r c 3) (am_b (¬ x = 0)))) P) := by
  rw [← du_2]
  exact k_choose hR hC hr hc hd (d_cl hn h0 h1) (d_2 hn)
theorem c_paint {r c x : Int32} (hn : 15 ≤ h.1) (hd : 0 < d) (hR : R ≤ 10) (hC : C ≤ 10) (h0 : τ 0 = nI R) (h1 : τ 1 = nI C) (h2 : τ 2 = nI u) (hu : u < 3) : am_m d z_Cloth_paint [.ref 1, .int r, .int c, .int x] (dH h τ t B P) none (dH h τ t (va_up B 0 (sp_paint R C u (B 0) r c x)) P) := by
  rw [← du_2]
  exact k_paint hR hC hu hd (d_clu hn h0 h1 h2) (d_2 hn)
theorem c_count (hn : 15 ≤ h.1) (hR : R ≤ 10) (hC : C ≤ 10) (h0 : τ 0 = nI R) (h1 : τ 1 = nI C) : am_m d z_Cloth_chosenCount [.ref 1] (dH h τ t B P) (some (.int (sp_sel (B 0) R C))) (dH h τ t B P) := k_chosenCount hR hC (d_cl hn h0 h1) (d_2 hn)
theorem c_seenC {x : Int32} (hn : 15 ≤ h.1) (hd : 1 < d) (hR : R ≤ 10) (hC : C ≤ 10) (h0 : τ 0 = nI R) (h1 : τ 1 = nI C) : am_m d z_Cloth_seenCount [.ref 1, .int x] (dH h τ t B P) (some (.int (sp_seenC (τ 3) (B 0) x R C))) (dH h τ t B P) := k_seenCount hd hR hC (d_cl hn h0 h1) (d_2 hn)
theorem c_float {n i wh : Int32} (hn : 15 ≤ h.1) (hd : 2 < d) (hR : R ≤ 10) (hC : C ≤ 10) (h0 : τ 0 = nI R) (h1 : τ 1 = nI C) (hw : 0 ≤ wh ∧ wh ≤ 3) : am_m d z_Cloth_findFloat [.ref 1, .int n, .int i, .int wh] (dH h τ t B P) (some (.int (sp_ff (sp_row (τ 3) (B 0)) C n i wh R 0 0))) (dH h τ t B P) := k_findFloat hd hR hC hw (d_cl hn h0 h1) (d_2 hn)
theorem c_fp (hn : 15 ≤ h.1) (hd : 1 < d) (hR : R ≤ 10) (hC : C ≤ 10) (h0 : τ 0 = nI R) (h1 : τ 1 = nI C) : am_m d z_Cloth_fingerprint [.ref 1] (dH h τ t B P) (some (.long (sp_fp (B 0) R C (τ 2) (τ 3)))) (dH h τ t B P) := k_fingerprint hd hR hC (d_cl hn h0 h1) (d_2 hn)
def fd_c (a b : Int32) : Int32 := if a ^^^ b < 0 ∧ ¬ a / b * b = a then a / b - 1 else a / b
def fm_c (a b : Int32) : Int32 := if a ^^^ b < 0 ∧ ¬ a - a / b * b = 0 then a - a / b * b + b else a - a / b * b
def ab_c (a : Int32) : Int32 := if a < 0 then -a else a
def mx_c (a b : Int32) : Int32 := if a < b then b else a
def mn_c (a b : Int32) : Int32 := if b < a then b else a
theorem j_abs {a : Int32} : am_m d z_Math_abs [.int a] h (some (.int (ab_c a))) h := by
  refine ev_go 1 (q := 1) rfl ?_
  refine ev_if_ge (t := 9) (q := 4) rfl rfl rfl (fun zc1 => ?_) (fun zc1 => ?_)
  · refine ev_go 1 (q := 10) rfl ?_
    exact ev_iret rfl rfl (by unfold ab_c; first | rw [if_neg (Int32.not_lt.mpr zc1)] | rw [if_pos (Int32.not_le.mp zc1)]) (rfl)
  · refine ev_go 3 (q := 10) rfl ?_
    exact ev_iret rfl rfl (by unfold ab_c; first | rw [if_neg (Int32.not_lt.mpr zc1)] | rw [if_pos (Int32.not_le.mp zc1)]) (rfl)
theorem j_max {a b : Int32} : am_m d z_Math_max [.int a, .int b] h (some (.int (mx_c a b))) h := by
  refine ev_go 2 (q := 2) rfl ?_
  refine ev_icmp_lt (t := 9) (q := 5) rfl rfl rfl (fun zc1 => ?_) (fun zc1 => ?_)
  · refine ev_go 1 (q := 10) rfl ?_
    exact ev_iret rfl rfl (by unfold mx_c; first | rw [if_neg zc1] | rw [if_pos zc1]) (rfl)
  · refine ev_go 2 (q := 10) rfl ?_
    exact ev_iret rfl rfl (by unfold mx_c; first | rw [if_neg zc1] | rw [if_pos zc1]) (rfl)
theorem j_min {a b : Int32} : am_m d z_Math_min [.int a, .int b] h (some (.int (mn_c a b))) h := by
  refine ev_go 2 (q := 2) rfl ?_
  refine ev_icmp_gt (t := 9) (q := 5) rfl rfl rfl (fun zc1 => ?_) (fun zc1 => ?_)
  · refine ev_go 1 (q := 10) rfl ?_
    exact ev_iret rfl rfl (by unfold mn_c; first | rw [if_neg zc1] | rw [if_pos zc1]) (rfl)
  · refine ev_go 2 (q := 10) rfl ?_
    exact ev_iret rfl rfl (by unfold mn_c; first | rw [if_neg zc1] | rw [if_pos zc1]) (rfl)
theorem j_fd {a b : Int32} (hb : ¬ b = 0) : am_m d z_Math_floorDiv [.int a, .int b] h (some (.int (fd_c a b))) h := by
  refine ev_go 2 (q := 2) rfl ?_
  refine ev_div (q := 3) rfl hb rfl ?_
  refine ev_go 4 (q := 7) rfl ?_
  refine ev_if_ge (t := 21) (q := 10) rfl rfl rfl (fun zc1 => ?_) (fun zc1 => ?_)
  · refine ev_go 1 (q := 22) rfl ?_
    exact ev_iret rfl rfl (by unfold fd_c; first | exact (if_pos ⟨Int32.not_le.mp zc1, zc2⟩).symm | exact (if_neg (fun q => Int32.not_lt.mpr zc1 q.1)).symm | exact (if_neg (fun q => q.2 zc2)).symm) (rfl)
  · refine ev_go 4 (q := 14) rfl ?_
    refine ev_icmp_eq (t := 21) (q := 17) rfl rfl rfl (fun zc2 => ?_) (fun zc2 => ?_)
    · refine ev_go 1 (q := 22) rfl ?_
      exact ev_iret rfl rfl (by unfold fd_c; first | exact (if_pos ⟨Int32.not_le.mp zc1, zc2⟩).symm | exact (if_neg (fun q => Int32.not_lt.mpr zc1 q.1)).symm | exact (if_neg (fun q => q.2 zc2)).symm) (rfl)
    · refine ev_go 3 (q := 20) (st' := .int (_ - 1) :: _) rfl ?_
      exact ev_iret rfl rfl (by unfold fd_c; first | exact (if_pos ⟨Int32.not_le.mp zc1, zc2⟩).symm | exact (if_neg (fun q => Int32.not_lt.mpr zc1 q.1)).symm | exact (if_neg (fun q => q.2 zc2)).symm) (rfl)
theorem j_fm {a b : Int32} (hb : ¬ b = 0) : am_m d z_Math_floorMod [.int a, .int b] h (some (.int (fm_c a b))) h := by
  refine ev_go 2 (q := 2) rfl ?_
  refine ev_rem (q := 3) rfl hb rfl ?_
  refine ev_go 4 (q := 7) rfl ?_
  refine ev_if_ge (t := 18) (q := 10) rfl rfl rfl (fun zc1 => ?_) (fun zc1 => ?_)
  · refine ev_go 1 (q := 19) rfl ?_
    exact ev_iret rfl rfl (by unfold fm_c; first | exact (if_pos ⟨Int32.not_le.mp zc1, zc2⟩).symm | exact (if_neg (fun q => Int32.not_lt.mpr zc1 q.1)).symm | exact (if_neg (fun q => q.2 zc2)).symm) (rfl)
  · refine ev_go 1 (q := 11) rfl ?_
    refine ev_if_eq (t := 18) (q := 14) rfl rfl rfl (fun zc2 => ?_) (fun zc2 => ?_)
    · refine ev_go 1 (q := 19) rfl ?_
      exact ev_iret rfl rfl (by unfold fm_c; first | exact (if_pos ⟨Int32.not_le.mp zc1, zc2⟩).symm | exact (if_neg (fun q => Int32.not_lt.mpr zc1 q.1)).symm | exact (if_neg (fun q => q.2 zc2)).symm) (rfl)
    · refine ev_go 3 (q := 17) rfl ?_
      exact ev_iret rfl rfl (by unfold fm_c; first | exact (if_pos ⟨Int32.not_le.mp zc1, zc2⟩).symm | exact (if_neg (fun q => Int32.not_lt.mpr zc1 q.1)).symm | exact (if_neg (fun q => q.2 zc2)).symm) (rfl)
end D1
