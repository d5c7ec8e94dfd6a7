/-! the world of both sides; calls that read -/
/-- a place outside the fixed cells -/
def AO (a : Nat) : Prop := (15 ≤ a ∧ a < 18) ∨ 43 ≤ a
section W1
variable {g : am_H} {σ τ : Nat → Int32} {t t' : Int64} {A B : Nat → Nat → Int32} {P : Nat → Nat → Option Nat}
theorem mH_ge {a : Nat} {x : am_C} (ha : AO a) (hi : am_is g a x) : am_is (mH g σ t A) a x := by
  refine ⟨hi.1, ?_⟩
  show mF g.2.2 σ t A a = x
  unfold mF AO at *
  rw [if_neg (by omega), if_neg (by omega)]
  exact hi.2
theorem mH_far {a : Nat} {x : am_C} (ha : AO a) : am_up (mH g σ t A) a x = mH (am_up g a x) σ t A := by
  refine hx (fun j => ?_)
  show va_up (mF g.2.2 σ t A) a x j = mF (va_up g.2.2 a x) σ t A j
  unfold AO at ha
  by_cases e : j = a
  · subst e
    rw [va_up_self]
    unfold mF
    rw [if_neg (by omega), if_neg (by omega), va_up_self]
  · rw [va_up_ne _ _ e]
    unfold mF
    rw [va_up_ne _ _ e]
theorem mH_new {n : Nat} {x : am_C} (hn : 43 ≤ g.1) : am_new (mH g σ t A) n x = mH (am_new g n x) σ t A := by
  have e := mH_far (g := g) (σ := σ) (t := t) (A := A) (a := g.1) (x := x) (Or.inr hn)
  refine congrArg (fun f => ((g.1 + 1, g.2.1 + n, f) : am_H)) ?_
  exact congrArg (fun q : am_H => q.2.2) e
theorem dm_swap : dH (mH g σ t' A) τ t B P = mH (dH g τ t B P) σ t' A := by
  refine hx (fun j => ?_)
  show dF (mF g.2.2 σ t' A) τ t B P j = mF (dF g.2.2 τ t B P) σ t' A j
  match j with
  | 0 => rfl
  | 1 => rfl
  | 2 => rfl
  | 3 => rfl
  | 4 => rfl
  | 5 => rfl
  | 6 => rfl
  | 7 => rfl
  | 8 => rfl
  | 9 => rfl
  | 10 => rfl
  | 11 => rfl
  | 12 => rfl
  | 13 => rfl
  | 14 => rfl
  | j + 15 =>
    show mF g.2.2 σ t' A (j + 15) = mF (dF g.2.2 τ t B P) σ t' A (j + 15)
    unfold mF
    split
    · rfl
    · split
      · rfl
      · rfl
end W1
/-- what the reference keeps of a node, as rows of a cloth -/
def KA (A : Nat → Nat → Int32) (k : Nat) : Nat → Nat → Int32 := fun r j => if r = 0 then (if j < 300 then A 2 (402 * k + j) else 0) else A 2 (402 * k + 300 + j)
/-- a node of the class -/
def NO (g : am_H) (P : Nat → Nat → Option Nat) (A : Nat → Nat → Int32) (PA : Nat → Int32) (KF : Nat → Nat → Int32) (k : Nat) : Prop := (P 0 k = none ∧ A 4 k = 0) ∨ ∃ (a : Nat) (r c u s : Int32), P 0 k = some a ∧ (AO a ∧ AO (a + 1) ∧ AO (a + 2)) ∧ am_is g a (nd_c (PA k) (cb (¬ A 4 k = 0)) (a + 1)) ∧ am_is g (a + 1) (am_cloth r c u s (a + 2)) ∧ am_is g (a + 2) (am_ia 400 (KF k))
abbrev IV (g : am_H) (σ τ : Nat → Int32) (A B : Nat → Nat → Int32) (P : Nat → Nat → Option Nat) (R C nh nm ev c : Nat) (PA : Nat → Int32) (KF : Nat → Nat → Int32) : Prop := (43 ≤ g.1) ∧ (1 ≤ R ∧ R ≤ 10) ∧ (1 ≤ C ∧ C ≤ 10) ∧ (RW R C σ τ A B) ∧ (σ 10 = nI ev) ∧ (τ 5 = nI ev) ∧ (1 ≤ ev ∧ ev ≤ 60) ∧ (σ 11 = nI c) ∧ (τ 4 = nI c) ∧ (c < ev) ∧ (¬ A 4 c = 0) ∧ (σ 12 = nI nh) ∧ (τ 28 = nI nh) ∧ (nh ≤ 40) ∧ (σ 16 = nI nm) ∧ (τ 29 = nI nm) ∧ (nm ≤ 20) ∧ (σ 24 = τ 6) ∧ (σ 25 = τ 7) ∧ (σ 27 = τ 9) ∧ (σ 28 = τ 10) ∧ (∀ n, n < nh → HO g P A n) ∧ (∀ m, m < nm → MO g P A nh m) ∧ (∀ i j a, i < nm → j < nm → P 2 i = some a → P 2 j = some a → i = j) ∧ (∀ m a, m < nm → P 2 m = some a → ∃ k1 k2 k3 k4 p, am_is g a (mc_c k1 k2 k3 k4 p (a + 1))) ∧ (∀ k, k < 60 → ¬ A 4 k = 0 → k < ev ∧ ((k = 0 ∧ A 3 k = -9) ∨ ∃ p, p < k ∧ A 3 k = nI p ∧ ¬ A 4 p = 0)) ∧ (¬ A 4 0 = 0) ∧ (md_wf (A 3) ev) ∧ (∀ k, k < 60 → NO g P A PA KF k) ∧ (∀ k, k < 60 → ¬ A 4 k = 0 → PA k = A 3 k) ∧ (∀ k a, k < 60 → ¬ A 4 k = 0 → P 0 k = some a → am_is g (a + 1) (am_cloth (nI R) (nI C) (A 2 (402 * k + 400)) (A 2 (402 * k + 401)) (a + 2)) ∧ (∃ u, u < 3 ∧ A 2 (402 * k + 400) = nI u) ∧ CR R C (KA A k) (KF k)) ∧ (NI P)
theorem IV.g43 {g : am_H} {σ τ : Nat → Int32} {A B : Nat → Nat → Int32} {P : Nat → Nat → Option Nat} {R C nh nm ev c : Nat} {PA : Nat → Int32} {KF : Nat → Nat → Int32} (q : IV g σ τ A B P R C nh nm ev c PA KF) : 43 ≤ g.1 := q.1
theorem IV.hR {g : am_H} {σ τ : Nat → Int32} {A B : Nat → Nat → Int32} {P : Nat → Nat → Option Nat} {R C nh nm ev c : Nat} {PA : Nat → Int32} {KF : Nat → Nat → Int32} (q : IV g σ τ A B P R C nh nm ev c PA KF) : 1 ≤ R ∧ R ≤ 10 := q.2.1
theorem IV.hC {g : am_H} {σ τ : Nat → Int32} {A B : Nat → Nat → Int32} {P : Nat → Nat → Option Nat} {R C nh nm ev c : Nat} {PA : Nat → Int32} {KF : Nat → Nat → Int32} (q : IV g σ τ A B P R C nh nm ev c PA KF) : 1 ≤ C ∧ C ≤ 10 := q.2.2.1
theorem IV.rw {g : am_H} {σ τ : Nat → Int32} {A B : Nat → Nat → Int32} {P : Nat → Nat → Option Nat} {R C nh nm ev c : Nat} {PA : Nat → Int32} {KF : Nat → Nat → Int32} (q : IV g σ τ A B P R C nh nm ev c PA KF) : RW R C σ τ A B := q.2.2.2.1
theorem IV.s10 {g : am_H} {σ τ : Nat → Int32} {A B : Nat → Nat → Int32} {P : Nat → Nat → Option Nat} {R C nh nm ev c : Nat} {PA : Nat → Int32} {KF : Nat → Nat → Int32} (q : IV g σ τ A B P R C nh nm ev c PA KF) : σ 10 = nI ev := q.2.2.2.2.1
theorem IV.t5 {g : am_H} {σ τ : Nat → Int32} {A B : Nat → Nat → Int32} {P : Nat → Nat → Option Nat} {R C nh nm ev c : Nat} {PA : Nat → Int32} {KF : Nat → Nat → Int32} (q : IV g σ τ A B P R C nh nm ev c PA KF) : τ 5 = nI ev := q.2.2.2.2.2.1
theorem IV.e60 {g : am_H} {σ τ : Nat → Int32} {A B : Nat → Nat → Int32} {P : Nat → Nat → Option Nat} {R C nh nm ev c : Nat} {PA : Nat → Int32} {KF : Nat → Nat → Int32} (q : IV g σ τ A B P R C nh nm ev c PA KF) : 1 ≤ ev ∧ ev ≤ 60 := q.2.2.2.2.2.2.1
theorem IV.s11 {g : am_H} {σ τ : Nat → Int32} {A B : Nat → Nat → Int32} {P : Nat → Nat → Option Nat} {R C nh nm ev c : Nat} {PA : Nat → Int32} {KF : Nat → Nat → Int32} (q : IV g σ τ A B P R C nh nm ev c PA KF) : σ 11 = nI c := q.2.2.2.2.2.2.2.1
theorem IV.t4 {g : am_H} {σ τ : Nat → Int32} {A B : Nat → Nat → Int32} {P : Nat → Nat → Option Nat} {R C nh nm ev c : Nat} {PA : Nat → Int32} {KF : Nat → Nat → Int32} (q : IV g σ τ A B P R C nh nm ev c PA KF) : τ 4 = nI c := q.2.2.2.2.2.2.2.2.1
theorem IV.hc {g : am_H} {σ τ : Nat → Int32} {A B : Nat → Nat → Int32} {P : Nat → Nat → Option Nat} {R C nh nm ev c : Nat} {PA : Nat → Int32} {KF : Nat → Nat → Int32} (q : IV g σ τ A B P R C nh nm ev c PA KF) : c < ev := q.2.2.2.2.2.2.2.2.2.1
theorem IV.thc {g : am_H} {σ τ : Nat → Int32} {A B : Nat → Nat → Int32} {P : Nat → Nat → Option Nat} {R C nh nm ev c : Nat} {PA : Nat → Int32} {KF : Nat → Nat → Int32} (q : IV g σ τ A B P R C nh nm ev c PA KF) : ¬ A 4 c = 0 := q.2.2.2.2.2.2.2.2.2.2.1
theorem IV.s12 {g : am_H} {σ τ : Nat → Int32} {A B : Nat → Nat → Int32} {P : Nat → Nat → Option Nat} {R C nh nm ev c : Nat} {PA : Nat → Int32} {KF : Nat → Nat → Int32} (q : IV g σ τ A B P R C nh nm ev c PA KF) : σ 12 = nI nh := q.2.2.2.2.2.2.2.2.2.2.2.1
theorem IV.t28 {g : am_H} {σ τ : Nat → Int32} {A B : Nat → Nat → Int32} {P : Nat → Nat → Option Nat} {R C nh nm ev c : Nat} {PA : Nat → Int32} {KF : Nat → Nat → Int32} (q : IV g σ τ A B P R C nh nm ev c PA KF) : τ 28 = nI nh := q.2.2.2.2.2.2.2.2.2.2.2.2.1
theorem IV.n40 {g : am_H} {σ τ : Nat → Int32} {A B : Nat → Nat → Int32} {P : Nat → Nat → Option Nat} {R C nh nm ev c : Nat} {PA : Nat → Int32} {KF : Nat → Nat → Int32} (q : IV g σ τ A B P R C nh nm ev c PA KF) : nh ≤ 40 := q.2.2.2.2.2.2.2.2.2.2.2.2.2.1
theorem IV.s16 {g : am_H} {σ τ : Nat → Int32} {A B : Nat → Nat → Int32} {P : Nat → Nat → Option Nat} {R C nh nm ev c : Nat} {PA : Nat → Int32} {KF : Nat → Nat → Int32} (q : IV g σ τ A B P R C nh nm ev c PA KF) : σ 16 = nI nm := q.2.2.2.2.2.2.2.2.2.2.2.2.2.2.1
theorem IV.t29 {g : am_H} {σ τ : Nat → Int32} {A B : Nat → Nat → Int32} {P : Nat → Nat → Option Nat} {R C nh nm ev c : Nat} {PA : Nat → Int32} {KF : Nat → Nat → Int32} (q : IV g σ τ A B P R C nh nm ev c PA KF) : τ 29 = nI nm := q.2.2.2.2.2.2.2.2.2.2.2.2.2.2.2.1
theorem IV.n20 {g : am_H} {σ τ : Nat → Int32} {A B : Nat → Nat → Int32} {P : Nat → Nat → Option Nat} {R C nh nm ev c : Nat} {PA : Nat → Int32} {KF : Nat → Nat → Int32} (q : IV g σ τ A B P R C nh nm ev c PA KF) : nm ≤ 20 := q.2.2.2.2.2.2.2.2.2.2.2.2.2.2.2.2.1
theorem IV.o6 {g : am_H} {σ τ : Nat → Int32} {A B : Nat → Nat → Int32} {P : Nat → Nat → Option Nat} {R C nh nm ev c : Nat} {PA : Nat → Int32} {KF : Nat → Nat → Int32} (q : IV g σ τ A B P R C nh nm ev c PA KF) : σ 24 = τ 6 := q.2.2.2.2.2.2.2.2.2.2.2.2.2.2.2.2.2.1
theorem IV.o7 {g : am_H} {σ τ : Nat → Int32} {A B : Nat → Nat → Int32} {P : Nat → Nat → Option Nat} {R C nh nm ev c : Nat} {PA : Nat → Int32} {KF : Nat → Nat → Int32} (q : IV g σ τ A B P R C nh nm ev c PA KF) : σ 25 = τ 7 := q.2.2.2.2.2.2.2.2.2.2.2.2.2.2.2.2.2.2.1
theorem IV.o9 {g : am_H} {σ τ : Nat → Int32} {A B : Nat → Nat → Int32} {P : Nat → Nat → Option Nat} {R C nh nm ev c : Nat} {PA : Nat → Int32} {KF : Nat → Nat → Int32} (q : IV g σ τ A B P R C nh nm ev c PA KF) : σ 27 = τ 9 := q.2.2.2.2.2.2.2.2.2.2.2.2.2.2.2.2.2.2.2.1
theorem IV.o10 {g : am_H} {σ τ : Nat → Int32} {A B : Nat → Nat → Int32} {P : Nat → Nat → Option Nat} {R C nh nm ev c : Nat} {PA : Nat → Int32} {KF : Nat → Nat → Int32} (q : IV g σ τ A B P R C nh nm ev c PA KF) : σ 28 = τ 10 := q.2.2.2.2.2.2.2.2.2.2.2.2.2.2.2.2.2.2.2.2.1
theorem IV.ho {g : am_H} {σ τ : Nat → Int32} {A B : Nat → Nat → Int32} {P : Nat → Nat → Option Nat} {R C nh nm ev c : Nat} {PA : Nat → Int32} {KF : Nat → Nat → Int32} (q : IV g σ τ A B P R C nh nm ev c PA KF) : ∀ n, n < nh → HO g P A n := q.2.2.2.2.2.2.2.2.2.2.2.2.2.2.2.2.2.2.2.2.2.1
theorem IV.mo {g : am_H} {σ τ : Nat → Int32} {A B : Nat → Nat → Int32} {P : Nat → Nat → Option Nat} {R C nh nm ev c : Nat} {PA : Nat → Int32} {KF : Nat → Nat → Int32} (q : IV g σ τ A B P R C nh nm ev c PA KF) : ∀ m, m < nm → MO g P A nh m := q.2.2.2.2.2.2.2.2.2.2.2.2.2.2.2.2.2.2.2.2.2.2.1
theorem IV.mi {g : am_H} {σ τ : Nat → Int32} {A B : Nat → Nat → Int32} {P : Nat → Nat → Option Nat} {R C nh nm ev c : Nat} {PA : Nat → Int32} {KF : Nat → Nat → Int32} (q : IV g σ τ A B P R C nh nm ev c PA KF) : ∀ i j a, i < nm → j < nm → P 2 i = some a → P 2 j = some a → i = j := q.2.2.2.2.2.2.2.2.2.2.2.2.2.2.2.2.2.2.2.2.2.2.2.1
theorem IV.mb {g : am_H} {σ τ : Nat → Int32} {A B : Nat → Nat → Int32} {P : Nat → Nat → Option Nat} {R C nh nm ev c : Nat} {PA : Nat → Int32} {KF : Nat → Nat → Int32} (q : IV g σ τ A B P R C nh nm ev c PA KF) : ∀ m a, m < nm → P 2 m = some a → ∃ k1 k2 k3 k4 p, am_is g a (mc_c k1 k2 k3 k4 p (a + 1)) := q.2.2.2.2.2.2.2.2.2.2.2.2.2.2.2.2.2.2.2.2.2.2.2.2.1
theorem IV.wf {g : am_H} {σ τ : Nat → Int32} {A B : Nat → Nat → Int32} {P : Nat → Nat → Option Nat} {R C nh nm ev c : Nat} {PA : Nat → Int32} {KF : Nat → Nat → Int32} (q : IV g σ τ A B P R C nh nm ev c PA KF) : ∀ k, k < 60 → ¬ A 4 k = 0 → k < ev ∧ ((k = 0 ∧ A 3 k = -9) ∨ ∃ p, p < k ∧ A 3 k = nI p ∧ ¬ A 4 p = 0) := q.2.2.2.2.2.2.2.2.2.2.2.2.2.2.2.2.2.2.2.2.2.2.2.2.2.1
theorem IV.t0 {g : am_H} {σ τ : Nat → Int32} {A B : Nat → Nat → Int32} {P : Nat → Nat → Option Nat} {R C nh nm ev c : Nat} {PA : Nat → Int32} {KF : Nat → Nat → Int32} (q : IV g σ τ A B P R C nh nm ev c PA KF) : ¬ A 4 0 = 0 := q.2.2.2.2.2.2.2.2.2.2.2.2.2.2.2.2.2.2.2.2.2.2.2.2.2.2.1
theorem IV.mw {g : am_H} {σ τ : Nat → Int32} {A B : Nat → Nat → Int32} {P : Nat → Nat → Option Nat} {R C nh nm ev c : Nat} {PA : Nat → Int32} {KF : Nat → Nat → Int32} (q : IV g σ τ A B P R C nh nm ev c PA KF) : md_wf (A 3) ev := q.2.2.2.2.2.2.2.2.2.2.2.2.2.2.2.2.2.2.2.2.2.2.2.2.2.2.2.1
theorem IV.no {g : am_H} {σ τ : Nat → Int32} {A B : Nat → Nat → Int32} {P : Nat → Nat → Option Nat} {R C nh nm ev c : Nat} {PA : Nat → Int32} {KF : Nat → Nat → Int32} (q : IV g σ τ A B P R C nh nm ev c PA KF) : ∀ k, k < 60 → NO g P A PA KF k := q.2.2.2.2.2.2.2.2.2.2.2.2.2.2.2.2.2.2.2.2.2.2.2.2.2.2.2.2.1
theorem IV.pa {g : am_H} {σ τ : Nat → Int32} {A B : Nat → Nat → Int32} {P : Nat → Nat → Option Nat} {R C nh nm ev c : Nat} {PA : Nat → Int32} {KF : Nat → Nat → Int32} (q : IV g σ τ A B P R C nh nm ev c PA KF) : ∀ k, k < 60 → ¬ A 4 k = 0 → PA k = A 3 k := q.2.2.2.2.2.2.2.2.2.2.2.2.2.2.2.2.2.2.2.2.2.2.2.2.2.2.2.2.2.1
theorem IV.kc {g : am_H} {σ τ : Nat → Int32} {A B : Nat → Nat → Int32} {P : Nat → Nat → Option Nat} {R C nh nm ev c : Nat} {PA : Nat → Int32} {KF : Nat → Nat → Int32} (q : IV g σ τ A B P R C nh nm ev c PA KF) : ∀ k a, k < 60 → ¬ A 4 k = 0 → P 0 k = some a → am_is g (a + 1) (am_cloth (nI R) (nI C) (A 2 (402 * k + 400)) (A 2 (402 * k + 401)) (a + 2)) ∧ (∃ u, u < 3 ∧ A 2 (402 * k + 400) = nI u) ∧ CR R C (KA A k) (KF k) := q.2.2.2.2.2.2.2.2.2.2.2.2.2.2.2.2.2.2.2.2.2.2.2.2.2.2.2.2.2.2.1
theorem IV.ni {g : am_H} {σ τ : Nat → Int32} {A B : Nat → Nat → Int32} {P : Nat → Nat → Option Nat} {R C nh nm ev c : Nat} {PA : Nat → Int32} {KF : Nat → Nat → Int32} (q : IV g σ τ A B P R C nh nm ev c PA KF) : NI P := q.2.2.2.2.2.2.2.2.2.2.2.2.2.2.2.2.2.2.2.2.2.2.2.2.2.2.2.2.2.2.2
/-- a heap that holds both sides, alike -/
def WO (X : am_H) : Prop := ∃ (g : am_H) (σ τ : Nat → Int32) (t : Int64) (A B : Nat → Nat → Int32) (P : Nat → Nat → Option Nat) (R C nh nm ev c : Nat) (PA : Nat → Int32) (KF : Nat → Nat → Int32), X = dH (mH g σ t A) τ t B P ∧ IV g σ τ A B P R C nh nm ev c PA KF
/-- a call answers alike on both sides, and leaves them alike -/
def CO (d zc zm : Nat) (as : List Value) (X : am_H) : Prop := ∃ (v : Value) (X1 X2 : am_H), am_m d zc (.ref 0 :: as) X (some v) X1 ∧ am_m d zm (.ref 18 :: as) X1 (some v) X2 ∧ WO X2 ∧ X1.1 ≤ X2.1 ∧ X2.1 ≤ X.1 + 5 ∧ X1.2.1 ≤ X2.2.1 ∧ X2.2.1 ≤ X.2.1 + 450
section W2
variable {d : Nat} {g : am_H} {σ τ : Nat → Int32} {t : Int64} {A B : Nat → Nat → Int32} {P : Nat → Nat → Option Nat} {R C nh nm ev c : Nat} {PA : Nat → Int32} {KF : Nat → Nat → Int32}
theorem IV_m0 (q : IV g σ τ A B P R C nh nm ev c PA KF) : IV g (m0 σ) τ A B P R C nh nm ev c PA KF := ⟨q.g43, q.hR, q.hC, q.rw, q.s10, q.t5, q.e60, q.s11, q.t4, q.hc, q.thc, q.s12, q.t28, q.n40, q.s16, q.t29, q.n20, q.o6, q.o7, q.o9, q.o10, q.ho, q.mo, q.mi, q.mb, q.wf, q.t0, q.mw, q.no, q.pa, q.kc, q.ni⟩
abbrev HCk (P : Nat → Nat → Option Nat) (k : Nat) : Nat := (P 0 k).getD 0 + 1
theorem IV_tw (q : IV g σ τ A B P R C nh nm ev c PA KF) : TW (mH g σ t A) P (fun k => ¬ A 4 k = 0) PA (HCk P) := by
  intro k hk
  rcases q.no k hk with ⟨e, e2⟩ | ⟨a, r, c, u, s, e, ⟨g0, g1, g2⟩, i0, i1, i2⟩
  · exact Or.inl ⟨e, fun z => z e2⟩
  · refine Or.inr ⟨a, e, by unfold AO at g0; omega, ?_⟩
    have := mH_ge (σ := σ) (t := t) (A := A) g0 i0
    unfold HCk
    rw [e]
    exact this
theorem IV_wf (q : IV g σ τ A B P R C nh nm ev c PA KF) : WF (fun k => ¬ A 4 k = 0) PA := by
  intro k hk ht
  rw [q.pa k hk ht]
  exact (q.wf k hk ht).2
/-- a call that changes nothing but the reference's own mark -/
theorem co_read {zc zm : Nat} {as : List Value} {v : Value} (q : IV g σ τ A B P R C nh nm ev c PA KF) (h1 : ∀ h : am_H, 15 ≤ h.1 → TW h P (fun k => ¬ A 4 k = 0) PA (HCk P) → am_m d zc (.ref 0 :: as) (dH h τ t B P) (some v) (dH h τ t B P)) (h2 : ∀ h : am_H, 43 ≤ h.1 → am_m d zm (.ref 18 :: as) (mH h σ t A) (some v) (mH h (m0 σ) t A)) : CO d zc zm as (dH (mH g σ t A) τ t B P) := by
  have g15 : 15 ≤ (mH g σ t A).1 := by show 15 ≤ g.1; have := q.g43; omega
  refine ⟨v, _, mH (dH g τ t B P) (m0 σ) t A, h1 _ g15 (IV_tw q), ?_, ⟨g, m0 σ, τ, t, A, B, P, R, C, nh, nm, ev, c, PA, KF, dm_swap.symm, IV_m0 q⟩, Nat.le_refl _, by show g.1 ≤ g.1 + 5; omega, Nat.le_refl _, by show g.2.1 ≤ g.2.1 + 450; omega⟩
  rw [dm_swap]
  exact h2 _ q.g43
theorem CO_at (hd : 5 < d) {X : am_H} (hX : WO X) {r c l : Int32} : CO d z_Desk_at z_Model_at [.int r, .int c, .int l] X := by
  obtain ⟨g, σ, τ, t, A, B, P, R, C, nh, nm, ev, c9, PA, KF, rfl, q⟩ := hX
  obtain ⟨⟨t0, t1, s1, s2⟩, ⟨u, hu, t2, s5⟩, s6, hcr, _⟩ := q.rw
  by_cases hb : cl_kn R C r c ∧ (-1 ≤ l ∧ l ≤ 2)
  · obtain ⟨r', c', hr, hc, rfl, rfl⟩ := kn_of q.hR.2 q.hC.2 hb.1
    by_cases zl : l = -1
    · subst zl
      refine co_read (v := .int (sp_seen (τ 3) (fun l => B 0 (cx r' c' l)))) q (fun h hn _ => D_atS hn hd q.hR q.hC t0 t1 hr hc) (fun h hn => ?_)
      have e := m_atS (d := d) (h := h) (σ := σ) (t := t) (A := A) hn (by omega) q.hR q.hC s1 s2 hr hc
      rw [s6, seen_if (fun l hl => (hcr.1 r' c' hr hc).1 l hl)] at e
      exact e
    · have z0 : bt 0 l (nI 2) := by
        refine ⟨?_, hb.2.2⟩
        have a1 := Int32.le_iff_toInt_le.mp hb.2.1
        rw [show (-1 : Int32).toInt = -1 by decide] at a1
        have a2 : l.toInt ≠ -1 := fun z => zl (Int32.toInt_inj.mp (z.trans (by decide)))
        refine Int32.le_iff_toInt_le.mpr ?_
        rw [show (0 : Int32).toInt = 0 by decide]
        omega
      obtain ⟨l', hl, rfl⟩ := bt_nat (by omega) z0
      refine co_read (v := .int (B 0 (cx r' c' l'))) q (fun h hn _ => D_atW hn hd q.hR q.hC t0 t1 hr hc (by omega)) (fun h hn => ?_)
      have e := m_atW (d := d) (h := h) (σ := σ) (t := t) (A := A) (l := l') hn (by omega) q.hR q.hC s1 s2 hr hc (by omega)
      rw [(hcr.1 r' c' hr hc).1 l' (by omega)] at e
      exact e
  · exact co_read (v := .int (-1)) q (fun h hn _ => D_atB hn hd q.hR q.hC t0 t1 hb) (fun h hn => m_atB hn (by omega) q.hR q.hC s1 s2 hb)
theorem CO_isSelected (hd : 5 < d) {X : am_H} (hX : WO X) {r c : Int32} : CO d z_Desk_isSelected z_Model_isSelected [.int r, .int c] X := by
  obtain ⟨g, σ, τ, t, A, B, P, R, C, nh, nm, ev, c9, PA, KF, rfl, q⟩ := hX
  obtain ⟨⟨t0, t1, s1, s2⟩, ⟨u, hu, t2, s5⟩, s6, hcr, _⟩ := q.rw
  by_cases hb : cl_kn R C r c
  · obtain ⟨r', c', hr, hc, rfl, rfl⟩ := kn_of q.hR.2 q.hC.2 hb
    refine co_read (v := .int (am_b (B 0 (cx r' c' 3) = 1))) q (fun h hn _ => D_is hn hd q.hR q.hC t0 t1 hr hc) (fun h hn => ?_)
    have e := m_isSel (d := d) (h := h) (σ := σ) (t := t) (A := A) hn (by omega) q.hR q.hC s1 s2 hr hc
    have e2 : am_b (¬ A 1 (10 * r' + c') = 0) = am_b (B 0 (cx r' c' 3) = 1) := by
      by_cases z : B 0 (cx r' c' 3) = 1
      · rw [am_b1 z, am_b1 ((CR_sel hcr hr hc).mpr z)]
      · rw [am_bz z, am_bz (fun p => z ((CR_sel hcr hr hc).mp p))]
    rw [e2] at e
    exact e
  · exact co_read (v := .int (-1)) q (fun h hn _ => D_isB hn hd q.hR q.hC t0 t1 hb) (fun h hn => m_isSelB hn (by omega) q.hR q.hC s1 s2 hb)
theorem ma_eq {A : Nat → Nat → Int32} : ma_n A = sp_it (fun k (y : Int32) => y + cb (¬ A 4 k = 0)) 0 60 0 := sp_it_congr 60 0 0 (fun j y _ _ => by rw [cb_am Iff.rfl])
theorem CO_about (hd : 5 < d) {X : am_H} (hX : WO X) {x : Int32} : CO d z_Desk_about z_Model_about [.int x] X := by
  obtain ⟨g, σ, τ, t, A, B, P, R, C, nh, nm, ev, c9, PA, KF, rfl, q⟩ := hX
  obtain ⟨⟨t0, t1, s1, s2⟩, ⟨u, hu, t2, s5⟩, s6, hcr, _⟩ := q.rw
  by_cases hb : 0 ≤ x ∧ x ≤ nI 8
  · obtain ⟨k, hk, rfl⟩ := bt_nat (by omega) hb
    match k, hk with
    | 0, _ => exact co_read (v := .int (τ 0)) q (fun h hn _ => D_about0 hn hd) (fun h hn => by have e := m_about0 (d := d) (h := h) (σ := σ) (t := t) (A := A) hn (by omega); rw [s1, ← t0] at e; exact e)
    | 1, _ => exact co_read (v := .int (τ 1)) q (fun h hn _ => D_about1 hn hd) (fun h hn => by have e := m_about1 (d := d) (h := h) (σ := σ) (t := t) (A := A) hn (by omega); rw [s2, ← t1] at e; exact e)
    | 2, _ => exact co_read (v := .int (τ 2)) q (fun h hn _ => D_about2 hn hd) (fun h hn => by have e := m_about2 (d := d) (h := h) (σ := σ) (t := t) (A := A) hn (by omega); rw [s5, ← t2] at e; exact e)
    | 3, _ => exact co_read (v := .int (τ 3)) q (fun h hn _ => D_about3 hn hd) (fun h hn => by have e := m_about3 (d := d) (h := h) (σ := σ) (t := t) (A := A) hn (by omega); rw [s6] at e; exact e)
    | 4, _ => exact co_read (v := .int (sp_sel (B 0) R C)) q (fun h hn _ => D_about4 hn hd q.hR q.hC t0 t1) (fun h hn => by have e := m_about4 (d := d) (h := h) (σ := σ) (t := t) (A := A) hn (by omega); rw [r_sel q.hR.2 q.hC.2 hcr] at e; exact e)
    | 5, _ => exact co_read (v := .int (τ 28)) q (fun h hn _ => D_about5 hn hd) (fun h hn => by have e := m_about5 (d := d) (h := h) (σ := σ) (t := t) (A := A) hn (by omega); rw [q.s12, ← q.t28] at e; exact e)
    | 6, _ => exact co_read (v := .int (τ 29)) q (fun h hn _ => D_about6 hn hd) (fun h hn => by have e := m_about6 (d := d) (h := h) (σ := σ) (t := t) (A := A) hn (by omega); rw [q.s16, ← q.t29] at e; exact e)
    | 7, _ => exact co_read (v := .int (sp_it (fun k (y : Int32) => y + cb (¬ A 4 k = 0)) 0 60 0)) q (fun h hn hw => D_about7 hn hd hw) (fun h hn => by have e := m_about7 (d := d) (h := h) (σ := σ) (t := t) (A := A) hn (by omega); rw [ma_eq] at e; exact e)
    | 8, _ => exact co_read (v := .int (τ 5)) q (fun h hn _ => D_about8 hn hd) (fun h hn => by have e := m_about8 (d := d) (h := h) (σ := σ) (t := t) (A := A) hn (by omega); rw [q.s10, ← q.t5] at e; exact e)
  · exact co_read (v := .int (-1)) q (fun h hn _ => D_aboutB hn hb) (fun h hn => m_aboutB hn hb)
theorem CO_outcome (hd : 5 < d) {X : am_H} (hX : WO X) {x : Int32} : CO d z_Desk_outcome z_Model_outcome [.int x] X := by
  obtain ⟨g, σ, τ, t, A, B, P, R, C, nh, nm, ev, c9, PA, KF, rfl, q⟩ := hX
  have h8 := q.rw.2.2.2.2
  by_cases hb : 0 ≤ x ∧ x ≤ nI 4
  · obtain ⟨k, hk, rfl⟩ := bt_nat (by omega) hb
    match k, hk with
    | 0, _ => exact co_read (v := .int (τ 6)) q (fun h hn _ => D_out0 hn) (fun h hn => by have e := m_outcome0 (d := d) (h := h) (σ := σ) (t := t) (A := A) hn; rw [q.o6] at e; exact e)
    | 1, _ => exact co_read (v := .int (τ 7)) q (fun h hn _ => D_out1 hn) (fun h hn => by have e := m_outcome1 (d := d) (h := h) (σ := σ) (t := t) (A := A) hn; rw [q.o7] at e; exact e)
    | 2, _ => exact co_read (v := .int (τ 8)) q (fun h hn _ => D_out2 hn) (fun h hn => by have e := m_outcome2 (d := d) (h := h) (σ := σ) (t := t) (A := A) hn; rw [← h8] at e; exact e)
    | 3, _ => exact co_read (v := .int (τ 9)) q (fun h hn _ => D_out3 hn) (fun h hn => by have e := m_outcome3 (d := d) (h := h) (σ := σ) (t := t) (A := A) hn; rw [q.o9] at e; exact e)
    | 4, _ => exact co_read (v := .int (τ 10)) q (fun h hn _ => D_out4 hn) (fun h hn => by have e := m_outcome4 (d := d) (h := h) (σ := σ) (t := t) (A := A) hn; rw [q.o10] at e; exact e)
  · exact co_read (v := .int (-1)) q (fun h hn _ => D_outB hn hb) (fun h hn => m_outcomeB hn hb)
theorem CO_node (hd : 5 < d) {X : am_H} (hX : WO X) : CO d z_Desk_node z_Model_node [] X := by
  obtain ⟨g, σ, τ, t, A, B, P, R, C, nh, nm, ev, c9, PA, KF, rfl, q⟩ := hX
  exact co_read (v := .int (τ 4)) q (fun h hn _ => D_node hn hd) (fun h hn => by have e := m_node (d := d) (h := h) (σ := σ) (t := t) (A := A) hn; rw [q.s11, ← q.t4] at e; exact e)
theorem CO_trace (hd : 5 < d) {X : am_H} (hX : WO X) : CO d z_Desk_trace z_Model_trace [] X := by
  obtain ⟨g, σ, τ, t, A, B, P, R, C, nh, nm, ev, c9, PA, KF, rfl, q⟩ := hX
  exact co_read (v := .long t) q (fun h hn _ => D_trace hn hd) (fun h hn => m_trace hn)
theorem CO_digest (hd : 5 < d) {X : am_H} (hX : WO X) : CO d z_Desk_digest z_Model_digest [] X := by
  obtain ⟨g, σ, τ, t, A, B, P, R, C, nh, nm, ev, c9, PA, KF, rfl, q⟩ := hX
  obtain ⟨⟨t0, t1, s1, s2⟩, ⟨u, hu, t2, s5⟩, s6, hcr, _⟩ := q.rw
  refine co_read (v := .long (sp_fp (B 0) R C (τ 2) (τ 3))) q (fun h hn _ => D_digest hn hd q.hR q.hC t0 t1) (fun h hn => ?_)
  have e := m_digest (d := d) (h := h) (σ := σ) (t := t) (A := A) hn (by omega) q.hR q.hC s1 s2
  have e2 : mdg A R C (σ 5) (σ 6) = sp_fp (B 0) R C (τ 2) (τ 3) := by
    unfold mdg sp_fp
    rw [s5, t2, s6]
    refine congrArg (fun z : Int64 => 31 * (31 * z + (nI u).toInt64) + (τ 3).toInt64) ?_
    refine sp_it_congr R 0 7 (fun r y _ hr => sp_it_congr C 0 y (fun c y _ hc => ?_))
    have z := hcr.1 r c (by omega) (by omega)
    rw [z.1 0 (by omega), z.1 1 (by omega), z.1 2 (by omega)]
    have e3 : am_b (¬ A 1 (10 * r + c) = 0) = am_b (B 0 (cx r c 3) = 1) := by
      by_cases y : B 0 (cx r c 3) = 1
      · rw [am_b1 y, am_b1 ((CR_sel hcr (by omega) (by omega)).mpr y)]
      · rw [am_bz y, am_bz (fun p => y ((CR_sel hcr (by omega) (by omega)).mp p))]
    rw [e3]
  rw [e2] at e
  exact e
theorem CO_used (hd : 5 < d) {X : am_H} (hX : WO X) {x : Int32} : CO d z_Desk_used z_Model_used [.int x] X := by
  obtain ⟨g, σ, τ, t, A, B, P, R, C, nh, nm, ev, c9, PA, KF, rfl, q⟩ := hX
  obtain ⟨⟨t0, t1, s1, s2⟩, ⟨u, hu, t2, s5⟩, s6, hcr, _⟩ := q.rw
  by_cases hb : 0 ≤ x ∧ x ≤ 9
  · refine co_read (v := .int (sp_seenC (τ 3) (B 0) x R C)) q (fun h hn _ => D_used hn hd q.hR q.hC t0 t1 hb) (fun h hn => ?_)
    have e := m_used (d := d) (h := h) (σ := σ) (t := t) (A := A) hn (by omega) q.hR q.hC s1 s2 hb
    have e2 : mu_u (σ 6) A x R C = sp_seenC (τ 3) (B 0) x R C := by
      unfold mu_u sp_seenC
      rw [it_sum2 (G := fun r c => am_b (sp_seen (σ 6) (fun l => A 0 (100 * l + (10 * r + c))) = x)), Int32.zero_add, s6]
      refine sp_s_congr R 0 (fun r _ hr => sp_s_congr C 0 (fun c _ hc => ?_))
      rw [seen_if (fun l hl => (hcr.1 r c (by omega) (by omega)).1 l hl)]
    rw [e2] at e
    exact e
  · exact co_read (v := .int (-1)) q (fun h hn _ => D_usedB hn hd hb) (fun h hn => m_usedB hn (by omega) hb)
end W2
