/-! the reference's object and its rows, laid over a heap: its ints σ by their places, its trace t, its rows A -/
def am_ml (σ : Nat → Int32) (t : Int64) : List Value := [.int (σ 0), .int (σ 1), .int (σ 2), .ref 19, .ref 20, .int (σ 5), .int (σ 6), .ref 21, .ref 22, .ref 23, .int (σ 10), .int (σ 11), .int (σ 12), .ref 24, .ref 25, .ref 26, .int (σ 16), .ref 27, .ref 28, .ref 29, .ref 30, .ref 31, .ref 32, .ref 33, .int (σ 24), .int (σ 25), .int (σ 26), .int (σ 27), .int (σ 28), .long t, .ref 34, .ref 35, .int (σ 32), .int (σ 33), .int (σ 34), .int (σ 35), .ref 36, .ref 37, .ref 38, .ref 39, .ref 40, .ref 41, .ref 42, .int (σ 43)]
def mlen (j : Nat) : Nat := match j with
  | 0 => 300
  | 1 => 100
  | 2 => 24120
  | 3 => 60
  | 4 => 60
  | 5 => 40
  | 6 => 200
  | 7 => 200
  | 8 => 20
  | 9 => 20
  | 10 => 20
  | 11 => 20
  | 12 => 20
  | 13 => 160
  | 14 => 640
  | 15 => 5
  | 16 => 100
  | 17 => 100
  | 18 => 5
  | 19 => 20
  | 20 => 20
  | 21 => 20
  | 22 => 20
  | _ => 20
def mty (j : Nat) : Nat := match j with
  | 0 => 0
  | 1 => 1
  | 2 => 0
  | 3 => 0
  | 4 => 1
  | 5 => 0
  | 6 => 1
  | 7 => 0
  | 8 => 0
  | 9 => 0
  | 10 => 0
  | 11 => 0
  | 12 => 0
  | 13 => 0
  | 14 => 0
  | 15 => 0
  | 16 => 0
  | 17 => 1
  | 18 => 0
  | 19 => 0
  | 20 => 0
  | 21 => 0
  | 22 => 0
  | _ => 0
def mF (h : Nat → am_C) (σ : Nat → Int32) (t : Int64) (A : Nat → Nat → Int32) : Nat → am_C := fun k => if k = 18 then .inr (12, am_ml σ t) else if 19 ≤ k ∧ k < 43 then .inl (mty (k - 19), mlen (k - 19), .inl (A (k - 19))) else h k
def mH (h : am_H) (σ : Nat → Int32) (t : Int64) (A : Nat → Nat → Int32) : am_H := (h.1, h.2.1, mF h.2.2 σ t A)
theorem mty01 : ∀ j, mty j = 0 ∨ mty j = 1 := by
  intro j
  unfold mty
  split <;> simp
theorem mlen_le : ∀ j, mlen j ≤ 100000 := by
  intro j
  unfold mlen
  split <;> omega
section MR
variable {d z pc q : Nat} {L : List (Option Value)} {st : List Value} {h h' : am_H} {r : Option Value} {σ σ' : Nat → Int32} {t t' : Int64} {A : Nat → Nat → Int32}
theorem mH_o (hn : 43 ≤ h.1) : am_is (mH h σ t A) 18 (.inr (12, am_ml σ t)) := ⟨Nat.lt_of_lt_of_le (by decide) hn, show mF h.2.2 σ t A 18 = _ from if_pos rfl⟩
theorem mH_a (hn : 43 ≤ h.1) {j : Nat} (hj : j < 24) : am_is (mH h σ t A) (j + 19) (.inl (mty j, mlen j, .inl (A j))) := by
  refine ⟨Nat.lt_of_lt_of_le (by omega : j + 19 < 43) hn, ?_⟩
  show mF h.2.2 σ t A (j + 19) = _
  unfold mF
  rw [if_neg (by omega), if_pos (by omega), Nat.add_sub_cancel]
theorem mH_up_o : am_up (mH h σ t A) 18 (.inr (12, am_ml σ' t')) = mH h σ' t' A := by
  unfold am_up mH
  dsimp only
  congr 2
  funext j
  by_cases q : j = 18
  · subst q; rw [va_up_self]; exact (if_pos rfl).symm
  · rw [va_up_ne _ _ q]; unfold mF; rw [if_neg q, if_neg q]
theorem mH_up_a {j : Nat} (hj : j < 24) {g : Nat → Int32} : am_up (mH h σ t A) (j + 19) (.inl (mty j, mlen j, .inl g)) = mH h σ t (va_up A j g) := by
  unfold am_up mH
  dsimp only
  congr 2
  funext i
  by_cases q : i = j + 19
  · subst q
    rw [va_up_self]
    unfold mF
    rw [if_neg (by omega), if_pos (by omega), Nat.add_sub_cancel, va_up_self]
  · rw [va_up_ne _ _ q]
    unfold mF
    by_cases q1 : i = 18
    · rw [if_pos q1, if_pos q1]
    · rw [if_neg q1, if_neg q1]
      by_cases q2 : 19 ≤ i ∧ i < 43
      · rw [if_pos q2, if_pos q2, va_up_ne _ _ (show i - 19 ≠ j by omega)]
      · rw [if_neg q2, if_neg q2]
theorem ev_mput {n len aux j : Nat} {x : Int32} (hn : 43 ≤ h.1) (hf : am_fetch z pc = some (.putfield n, len, aux)) (hci : 12 = aux / 1000000) (hj : aux / 10000 % 100 = j) (hl : j < 44) (ht : am_yModel j = .int) (hs : (am_ml σ t).set j (.int x) = am_ml (va_up σ j x) t) (hq : pc + 3 = q) (k : am_ev d z (q, L, st, mH h (va_up σ j x) t A) r h') : am_ev d z (pc, L, .int x :: .ref 18 :: st, mH h σ t A) r h' := by
  refine ev_put (fs' := am_ml (va_up σ j x) t) hf (mH_o hn) hci (by rw [hj]; exact hl) ?_ (by rw [hj]; exact hs) hq ?_
  · rw [hj]
    show am_fit (am_yModel j) (.int x) = true
    rw [ht]
    rfl
  · rw [mH_up_o]
    exact k
theorem ev_mputl {n len aux : Nat} {x : Int64} (hn : 43 ≤ h.1) (hf : am_fetch z pc = some (.putfield n, len, aux)) (hci : 12 = aux / 1000000) (hj : aux / 10000 % 100 = 29) (hl : 29 < 44) (ht : am_yModel 29 = .long) (hs : (am_ml σ t).set 29 (.long x) = am_ml σ x) (hq : pc + 3 = q) (k : am_ev d z (q, L, st, mH h σ x A) r h') : am_ev d z (pc, L, .long x :: .ref 18 :: st, mH h σ t A) r h' := by
  refine ev_put (fs' := am_ml σ x) hf (mH_o hn) hci (by rw [hj]; exact hl) ?_ (by rw [hj]; exact hs) hq ?_
  · rw [hj]
    rfl
  · rw [mH_up_o]
    exact k
theorem ev_mia {len aux j k : Nat} {i : Int32} (hn : 43 ≤ h.1) (hf : am_fetch z pc = some (.iaload, len, aux)) (hj : j < 24) (ht : mty j = 0) (he : i = nI k) (hk : k < mlen j) (hq : pc + 1 = q) (kk : am_ev d z (q, L, .int (A j k) :: st, mH h σ t A) r h') : am_ev d z (pc, L, .int i :: .ref (j + 19) :: st, mH h σ t A) r h' := by
  have hi := mH_a (h := h) (σ := σ) (t := t) (A := A) hn hj
  rw [ht] at hi
  exact ev_ialdn hf hi he hk (mlen_le j) hq kk
theorem ev_mza {len aux j k : Nat} {i : Int32} (hn : 43 ≤ h.1) (hf : am_fetch z pc = some (.baload, len, aux)) (hj : j < 24) (ht : mty j = 1) (he : i = nI k) (hk : k < mlen j) (hq : pc + 1 = q) (kk : am_ev d z (q, L, .int (A j k) :: st, mH h σ t A) r h') : am_ev d z (pc, L, .int i :: .ref (j + 19) :: st, mH h σ t A) r h' := by
  have hi := mH_a (h := h) (σ := σ) (t := t) (A := A) hn hj
  rw [ht] at hi
  exact ev_zaldn hf hi he hk (mlen_le j) hq kk
theorem ev_mias {len aux j k : Nat} {i x : Int32} (hn : 43 ≤ h.1) (hf : am_fetch z pc = some (.iastore, len, aux)) (hj : j < 24) (ht : mty j = 0) (he : i = nI k) (hk : k < mlen j) (hq : pc + 1 = q) (kk : am_ev d z (q, L, st, mH h σ t (va_up A j (va_up (A j) k x))) r h') : am_ev d z (pc, L, .int x :: .int i :: .ref (j + 19) :: st, mH h σ t A) r h' := by
  have hi := mH_a (h := h) (σ := σ) (t := t) (A := A) hn hj
  have hu := mH_up_a (h := h) (σ := σ) (t := t) (A := A) hj (g := va_up (A j) k x)
  rw [ht] at hi hu
  refine ev_iastn hf hi he hk (mlen_le j) hq ?_
  rw [hu]
  exact kk
theorem ev_mzas {len aux j k : Nat} {i x : Int32} (hn : 43 ≤ h.1) (hf : am_fetch z pc = some (.bastore, len, aux)) (hj : j < 24) (ht : mty j = 1) (he : i = nI k) (hk : k < mlen j) (hq : pc + 1 = q) (kk : am_ev d z (q, L, st, mH h σ t (va_up A j (va_up (A j) k (x &&& 1)))) r h') : am_ev d z (pc, L, .int x :: .int i :: .ref (j + 19) :: st, mH h σ t A) r h' := by
  have hi := mH_a (h := h) (σ := σ) (t := t) (A := A) hn hj
  have hu := mH_up_a (h := h) (σ := σ) (t := t) (A := A) hj (g := va_up (A j) k (x &&& 1))
  rw [ht] at hi hu
  refine ev_zastn hf hi he hk (mlen_le j) hq ?_
  rw [hu]
  exact kk
end MR
theorem mls_0 (σ : Nat → Int32) (t : Int64) (x : Int32) : (am_ml σ t).set 0 (.int x) = am_ml (va_up σ 0 x) t := rfl
theorem mls_1 (σ : Nat → Int32) (t : Int64) (x : Int32) : (am_ml σ t).set 1 (.int x) = am_ml (va_up σ 1 x) t := rfl
theorem mls_2 (σ : Nat → Int32) (t : Int64) (x : Int32) : (am_ml σ t).set 2 (.int x) = am_ml (va_up σ 2 x) t := rfl
theorem mls_5 (σ : Nat → Int32) (t : Int64) (x : Int32) : (am_ml σ t).set 5 (.int x) = am_ml (va_up σ 5 x) t := rfl
theorem mls_6 (σ : Nat → Int32) (t : Int64) (x : Int32) : (am_ml σ t).set 6 (.int x) = am_ml (va_up σ 6 x) t := rfl
theorem mls_10 (σ : Nat → Int32) (t : Int64) (x : Int32) : (am_ml σ t).set 10 (.int x) = am_ml (va_up σ 10 x) t := rfl
theorem mls_11 (σ : Nat → Int32) (t : Int64) (x : Int32) : (am_ml σ t).set 11 (.int x) = am_ml (va_up σ 11 x) t := rfl
theorem mls_12 (σ : Nat → Int32) (t : Int64) (x : Int32) : (am_ml σ t).set 12 (.int x) = am_ml (va_up σ 12 x) t := rfl
theorem mls_16 (σ : Nat → Int32) (t : Int64) (x : Int32) : (am_ml σ t).set 16 (.int x) = am_ml (va_up σ 16 x) t := rfl
theorem mls_24 (σ : Nat → Int32) (t : Int64) (x : Int32) : (am_ml σ t).set 24 (.int x) = am_ml (va_up σ 24 x) t := rfl
theorem mls_25 (σ : Nat → Int32) (t : Int64) (x : Int32) : (am_ml σ t).set 25 (.int x) = am_ml (va_up σ 25 x) t := rfl
theorem mls_26 (σ : Nat → Int32) (t : Int64) (x : Int32) : (am_ml σ t).set 26 (.int x) = am_ml (va_up σ 26 x) t := rfl
theorem mls_27 (σ : Nat → Int32) (t : Int64) (x : Int32) : (am_ml σ t).set 27 (.int x) = am_ml (va_up σ 27 x) t := rfl
theorem mls_28 (σ : Nat → Int32) (t : Int64) (x : Int32) : (am_ml σ t).set 28 (.int x) = am_ml (va_up σ 28 x) t := rfl
theorem mls_29 (σ : Nat → Int32) (t x : Int64) : (am_ml σ t).set 29 (.long x) = am_ml σ x := rfl
theorem mls_32 (σ : Nat → Int32) (t : Int64) (x : Int32) : (am_ml σ t).set 32 (.int x) = am_ml (va_up σ 32 x) t := rfl
theorem mls_33 (σ : Nat → Int32) (t : Int64) (x : Int32) : (am_ml σ t).set 33 (.int x) = am_ml (va_up σ 33 x) t := rfl
theorem mls_34 (σ : Nat → Int32) (t : Int64) (x : Int32) : (am_ml σ t).set 34 (.int x) = am_ml (va_up σ 34 x) t := rfl
theorem mls_35 (σ : Nat → Int32) (t : Int64) (x : Int32) : (am_ml σ t).set 35 (.int x) = am_ml (va_up σ 35 x) t := rfl
theorem mls_43 (σ : Nat → Int32) (t : Int64) (x : Int32) : (am_ml σ t).set 43 (.int x) = am_ml (va_up σ 43 x) t := rfl
section M1
variable {d : Nat} {h h' : am_H} {σ : Nat → Int32} {t : Int64} {A : Nat → Nat → Int32} {res : Option Value} {R C : Nat}
theorem kn_m {R C : Nat} (hR : 1 ≤ R ∧ R ≤ 10) (hC : 1 ≤ C ∧ C ≤ 10) (r c : Int32) : cl_kn R C r c ↔ (0 ≤ r ∧ r ≤ nI R - 1) ∧ 0 ≤ c ∧ c ≤ nI C - 1 := by
  rw [show nI R - 1 = nI (R - 1) by rw [show (1 : Int32) = nI 1 from rfl, pk_sub hR.1], show nI C - 1 = nI (C - 1) by rw [show (1 : Int32) = nI 1 from rfl, pk_sub hC.1]]
  simp only [cl_kn, Int32.lt_iff_toInt_lt, Int32.le_iff_toInt_le, nI_toInt (show R < 2 ^ 31 by omega), nI_toInt (show C < 2 ^ 31 by omega), nI_toInt (show R - 1 < 2 ^ 31 by omega), nI_toInt (show C - 1 < 2 ^ 31 by omega)]
  constructor
  · rintro ⟨⟨a1, a2⟩, a3, a4⟩
    refine ⟨⟨a1, ?_⟩, a3, ?_⟩ <;> omega
  · rintro ⟨⟨a1, a2⟩, a3, a4⟩
    refine ⟨⟨a1, ?_⟩, a3, ?_⟩ <;> omega
theorem m_isKnot (hn : 43 ≤ h.1) (hd : 0 < d) (hR : 1 ≤ R ∧ R ≤ 10) (hC : 1 ≤ C ∧ C ≤ 10) (h1 : σ 1 = nI R) (h2 : σ 2 = nI C) (r c : Int32) : am_m d z_Model_isKnot [.ref 18, .int r, .int c] (mH h σ t A) (some (.int (am_b (cl_kn R C r c)))) (mH h σ t A) := by
  refine ev_go 3 (q := 3) (st' := _ :: .int 0 :: _ :: _) rfl ?_
  refine ev_get (q := 6) rfl (mH_o hn) rfl rfl rfl ?_
  refine ev_go 2 (q := 8) (st' := .int (_ - 1) :: _ :: _ :: _) rfl ?_
  refine ev_static (z' := z_Model_in) (q := 11) rfl rfl (by decide) rfl rfl (by simp [Value.category]) rfl (by omega) (k_in _ _ _) ?_
  refine ev_if_eq (t := 32) (q := 14) rfl rfl rfl (fun zc1 => ?_) (fun zc1 => ?_)
  · refine ev_go 1 (q := 33) (st' := .int 0 :: _) rfl ?_
    exact ev_zret rfl rfl (by first | exact Or.inl rfl | exact Or.inr rfl | assumption) (by rw [h1] at zc1; exact (am_bz (fun q => am_b0.mp zc1 ((kn_m hR hC r c).mp q).1)).symm) (rfl)
  · refine ev_go 3 (q := 17) (st' := _ :: .int 0 :: _ :: _) rfl ?_
    refine ev_get (q := 20) rfl (mH_o hn) rfl rfl rfl ?_
    refine ev_go 2 (q := 22) (st' := .int (_ - 1) :: _ :: _ :: _) rfl ?_
    refine ev_static (z' := z_Model_in) (q := 25) rfl rfl (by decide) rfl rfl (by simp [Value.category]) rfl (by omega) (k_in _ _ _) ?_
    refine ev_if_eq (t := 32) (q := 28) rfl rfl rfl (fun zc2 => ?_) (fun zc2 => ?_)
    · refine ev_go 1 (q := 33) (st' := .int 0 :: _) rfl ?_
      exact ev_zret rfl rfl (by first | exact Or.inl rfl | exact Or.inr rfl | assumption) (by rw [h2] at zc2; exact (am_bz (fun q => am_b0.mp zc2 ((kn_m hR hC r c).mp q).2)).symm) (rfl)
    · refine ev_go 2 (q := 33) (st' := .int 1 :: _) rfl ?_
      exact ev_zret rfl rfl (by first | exact Or.inl rfl | exact Or.inr rfl | assumption) (by rw [h1] at zc1; rw [h2] at zc2; exact (am_b1 ((kn_m hR hC r c).mpr ⟨am_bn.mp zc1, am_bn.mp zc2⟩)).symm) (rfl)
theorem m_knT (hn : 43 ≤ h.1) (hd : 0 < d) (hR : 1 ≤ R ∧ R ≤ 10) (hC : 1 ≤ C ∧ C ≤ 10) (h1 : σ 1 = nI R) (h2 : σ 2 = nI C) {r c : Nat} (hr : r < R) (hc : c < C) : am_m d z_Model_isKnot [.ref 18, .int (nI r), .int (nI c)] (mH h σ t A) (some (.int 1)) (mH h σ t A) := by
  rw [← am_b1 (kn_in hR.2 hC.2 hr hc)]
  exact m_isKnot hn hd hR hC h1 h2 _ _
theorem m_knF (hn : 43 ≤ h.1) (hd : 0 < d) (hR : 1 ≤ R ∧ R ≤ 10) (hC : 1 ≤ C ∧ C ≤ 10) (h1 : σ 1 = nI R) (h2 : σ 2 = nI C) {r c : Int32} (hno : ¬ cl_kn R C r c) : am_m d z_Model_isKnot [.ref 18, .int r, .int c] (mH h σ t A) (some (.int 0)) (mH h σ t A) := by
  rw [← am_bz hno]
  exact m_isKnot hn hd hR hC h1 h2 _ _
theorem mx_ix (l k : Nat) : 100 * nI l + nI k = nI (100 * l + k) := by
  rw [show (100 : Int32) = nI 100 from rfl, pk_mul, nI_add]
theorem mx_k (r c : Nat) : 10 * nI r + nI c = nI (10 * r + c) := by
  rw [show (10 : Int32) = nI 10 from rfl, pk_mul, nI_add]
theorem m_seen (hn : 43 ≤ h.1) {k : Nat} (hk : k < 100) : am_m d z_Model_seen [.ref 18, .int (nI k)] (mH h σ t A) (some (.int (sp_seen (σ 6) (fun l => A 0 (100 * l + k))))) (mH h σ t A) := by
  refine ev_go 2 (q := 2) rfl ?_
  rw [show Int32.ofInt 2 = nI 2 from rfl]
  refine ev_go 1 (q := 3) (st' := .int (nI 2) :: _) rfl ?_
  refine ev_if_lt (t := 50) (q := 6) rfl rfl rfl (fun c => absurd c (by decide)) (fun _ => ?_)
  refine ev_go 1 (q := 7) rfl ?_
  refine ev_get (q := 10) rfl (mH_o hn) rfl rfl rfl ?_
  refine ev_go 5 (q := 15) (st' := .int 1 :: .int ((σ 6 >>> (2 &&& 31)) &&& 1) :: _) rfl ?_
  refine ev_icmp_ne (t := 44) (q := 18) rfl rfl rfl (fun o2 => ?_) (fun o2 => ?_)
  · refine ev_go 2 (q := 2) rfl ?_
    rw [nI_p (by decide)]
    refine ev_go 1 (q := 3) (st' := .int (nI 1) :: _) rfl ?_
    refine ev_if_lt (t := 50) (q := 6) rfl rfl rfl (fun c => absurd c (by decide)) (fun _ => ?_)
    refine ev_go 1 (q := 7) rfl ?_
    refine ev_get (q := 10) rfl (mH_o hn) rfl rfl rfl ?_
    refine ev_go 5 (q := 15) (st' := .int 1 :: .int ((σ 6 >>> (1 &&& 31)) &&& 1) :: _) rfl ?_
    refine ev_icmp_ne (t := 44) (q := 18) rfl rfl rfl (fun o1 => ?_) (fun o1 => ?_)
    · refine ev_go 2 (q := 2) rfl ?_
      rw [nI_p (by decide)]
      refine ev_go 1 (q := 3) (st' := .int (nI 0) :: _) rfl ?_
      refine ev_if_lt (t := 50) (q := 6) rfl rfl rfl (fun c => absurd c (by decide)) (fun _ => ?_)
      refine ev_go 1 (q := 7) rfl ?_
      refine ev_get (q := 10) rfl (mH_o hn) rfl rfl rfl ?_
      refine ev_go 5 (q := 15) (st' := .int 1 :: .int ((σ 6 >>> (0 &&& 31)) &&& 1) :: _) rfl ?_
      refine ev_icmp_ne (t := 44) (q := 18) rfl rfl rfl (fun o0 => ?_) (fun o0 => ?_)
      · refine ev_go 3 (q := 3) (st' := .int (-1) :: _) rfl ?_
        refine ev_if_lt (t := 50) (q := 6) rfl rfl rfl (fun _ => ?_) (fun c => absurd (by decide) c)
        refine ev_go 1 (q := 51) (st' := .int 0 :: _) rfl ?_
        exact ev_iret rfl rfl (by unfold sp_seen; dsimp only; repeat (first | rfl | rw [if_pos ⟨by assumption, by assumption⟩] | rw [if_neg (fun q => absurd (by assumption) q.1)] | rw [if_neg (fun q => absurd q.2 (by assumption))])) rfl
      · refine ev_go 1 (q := 19) rfl ?_
        refine ev_get (q := 22) rfl (mH_o hn) rfl rfl rfl ?_
        refine ev_go 5 (q := 28) (st' := .int (100 * nI 0 + nI k) :: _) rfl ?_
        refine ev_mia (j := 0) (q := 29) hn rfl (by decide) rfl (mx_ix _ _) (show 100 * 0 + k < 300 by omega) rfl ?_
        refine ev_if_eq (t := 44) (q := 32) rfl rfl rfl (fun e0 => ?_) (fun e0 => ?_)
        · refine ev_go 3 (q := 3) (st' := .int (-1) :: _) rfl ?_
          refine ev_if_lt (t := 50) (q := 6) rfl rfl rfl (fun _ => ?_) (fun c => absurd (by decide) c)
          refine ev_go 1 (q := 51) (st' := .int 0 :: _) rfl ?_
          exact ev_iret rfl rfl (by unfold sp_seen; dsimp only; repeat (first | rfl | rw [if_pos ⟨by assumption, by assumption⟩] | rw [if_neg (fun q => absurd (by assumption) q.1)] | rw [if_neg (fun q => absurd q.2 (by assumption))])) rfl
        · refine ev_go 1 (q := 33) rfl ?_
          refine ev_get (q := 36) rfl (mH_o hn) rfl rfl rfl ?_
          refine ev_go 5 (q := 42) (st' := .int (100 * nI 0 + nI k) :: _) rfl ?_
          refine ev_mia (j := 0) (q := 43) hn rfl (by decide) rfl (mx_ix _ _) (show 100 * 0 + k < 300 by omega) rfl ?_
          exact ev_iret rfl rfl (by unfold sp_seen; dsimp only; repeat (first | rfl | rw [if_pos ⟨by assumption, by assumption⟩] | rw [if_neg (fun q => absurd (by assumption) q.1)] | rw [if_neg (fun q => absurd q.2 (by assumption))])) rfl
    · refine ev_go 1 (q := 19) rfl ?_
      refine ev_get (q := 22) rfl (mH_o hn) rfl rfl rfl ?_
      refine ev_go 5 (q := 28) (st' := .int (100 * nI 1 + nI k) :: _) rfl ?_
      refine ev_mia (j := 0) (q := 29) hn rfl (by decide) rfl (mx_ix _ _) (show 100 * 1 + k < 300 by omega) rfl ?_
      refine ev_if_eq (t := 44) (q := 32) rfl rfl rfl (fun e1 => ?_) (fun e1 => ?_)
      · refine ev_go 2 (q := 2) rfl ?_
        rw [nI_p (by decide)]
        refine ev_go 1 (q := 3) (st' := .int (nI 0) :: _) rfl ?_
        refine ev_if_lt (t := 50) (q := 6) rfl rfl rfl (fun c => absurd c (by decide)) (fun _ => ?_)
        refine ev_go 1 (q := 7) rfl ?_
        refine ev_get (q := 10) rfl (mH_o hn) rfl rfl rfl ?_
        refine ev_go 5 (q := 15) (st' := .int 1 :: .int ((σ 6 >>> (0 &&& 31)) &&& 1) :: _) rfl ?_
        refine ev_icmp_ne (t := 44) (q := 18) rfl rfl rfl (fun o0 => ?_) (fun o0 => ?_)
        · refine ev_go 3 (q := 3) (st' := .int (-1) :: _) rfl ?_
          refine ev_if_lt (t := 50) (q := 6) rfl rfl rfl (fun _ => ?_) (fun c => absurd (by decide) c)
          refine ev_go 1 (q := 51) (st' := .int 0 :: _) rfl ?_
          exact ev_iret rfl rfl (by unfold sp_seen; dsimp only; repeat (first | rfl | rw [if_pos ⟨by assumption, by assumption⟩] | rw [if_neg (fun q => absurd (by assumption) q.1)] | rw [if_neg (fun q => absurd q.2 (by assumption))])) rfl
        · refine ev_go 1 (q := 19) rfl ?_
          refine ev_get (q := 22) rfl (mH_o hn) rfl rfl rfl ?_
          refine ev_go 5 (q := 28) (st' := .int (100 * nI 0 + nI k) :: _) rfl ?_
          refine ev_mia (j := 0) (q := 29) hn rfl (by decide) rfl (mx_ix _ _) (show 100 * 0 + k < 300 by omega) rfl ?_
          refine ev_if_eq (t := 44) (q := 32) rfl rfl rfl (fun e0 => ?_) (fun e0 => ?_)
          · refine ev_go 3 (q := 3) (st' := .int (-1) :: _) rfl ?_
            refine ev_if_lt (t := 50) (q := 6) rfl rfl rfl (fun _ => ?_) (fun c => absurd (by decide) c)
            refine ev_go 1 (q := 51) (st' := .int 0 :: _) rfl ?_
            exact ev_iret rfl rfl (by unfold sp_seen; dsimp only; repeat (first | rfl | rw [if_pos ⟨by assumption, by assumption⟩] | rw [if_neg (fun q => absurd (by assumption) q.1)] | rw [if_neg (fun q => absurd q.2 (by assumption))])) rfl
          · refine ev_go 1 (q := 33) rfl ?_
            refine ev_get (q := 36) rfl (mH_o hn) rfl rfl rfl ?_
            refine ev_go 5 (q := 42) (st' := .int (100 * nI 0 + nI k) :: _) rfl ?_
            refine ev_mia (j := 0) (q := 43) hn rfl (by decide) rfl (mx_ix _ _) (show 100 * 0 + k < 300 by omega) rfl ?_
            exact ev_iret rfl rfl (by unfold sp_seen; dsimp only; repeat (first | rfl | rw [if_pos ⟨by assumption, by assumption⟩] | rw [if_neg (fun q => absurd (by assumption) q.1)] | rw [if_neg (fun q => absurd q.2 (by assumption))])) rfl
      · refine ev_go 1 (q := 33) rfl ?_
        refine ev_get (q := 36) rfl (mH_o hn) rfl rfl rfl ?_
        refine ev_go 5 (q := 42) (st' := .int (100 * nI 1 + nI k) :: _) rfl ?_
        refine ev_mia (j := 0) (q := 43) hn rfl (by decide) rfl (mx_ix _ _) (show 100 * 1 + k < 300 by omega) rfl ?_
        exact ev_iret rfl rfl (by unfold sp_seen; dsimp only; repeat (first | rfl | rw [if_pos ⟨by assumption, by assumption⟩] | rw [if_neg (fun q => absurd (by assumption) q.1)] | rw [if_neg (fun q => absurd q.2 (by assumption))])) rfl
  · refine ev_go 1 (q := 19) rfl ?_
    refine ev_get (q := 22) rfl (mH_o hn) rfl rfl rfl ?_
    refine ev_go 5 (q := 28) (st' := .int (100 * nI 2 + nI k) :: _) rfl ?_
    refine ev_mia (j := 0) (q := 29) hn rfl (by decide) rfl (mx_ix _ _) (show 100 * 2 + k < 300 by omega) rfl ?_
    refine ev_if_eq (t := 44) (q := 32) rfl rfl rfl (fun e2 => ?_) (fun e2 => ?_)
    · refine ev_go 2 (q := 2) rfl ?_
      rw [nI_p (by decide)]
      refine ev_go 1 (q := 3) (st' := .int (nI 1) :: _) rfl ?_
      refine ev_if_lt (t := 50) (q := 6) rfl rfl rfl (fun c => absurd c (by decide)) (fun _ => ?_)
      refine ev_go 1 (q := 7) rfl ?_
      refine ev_get (q := 10) rfl (mH_o hn) rfl rfl rfl ?_
      refine ev_go 5 (q := 15) (st' := .int 1 :: .int ((σ 6 >>> (1 &&& 31)) &&& 1) :: _) rfl ?_
      refine ev_icmp_ne (t := 44) (q := 18) rfl rfl rfl (fun o1 => ?_) (fun o1 => ?_)
      · refine ev_go 2 (q := 2) rfl ?_
        rw [nI_p (by decide)]
        refine ev_go 1 (q := 3) (st' := .int (nI 0) :: _) rfl ?_
        refine ev_if_lt (t := 50) (q := 6) rfl rfl rfl (fun c => absurd c (by decide)) (fun _ => ?_)
        refine ev_go 1 (q := 7) rfl ?_
        refine ev_get (q := 10) rfl (mH_o hn) rfl rfl rfl ?_
        refine ev_go 5 (q := 15) (st' := .int 1 :: .int ((σ 6 >>> (0 &&& 31)) &&& 1) :: _) rfl ?_
        refine ev_icmp_ne (t := 44) (q := 18) rfl rfl rfl (fun o0 => ?_) (fun o0 => ?_)
        · refine ev_go 3 (q := 3) (st' := .int (-1) :: _) rfl ?_
          refine ev_if_lt (t := 50) (q := 6) rfl rfl rfl (fun _ => ?_) (fun c => absurd (by decide) c)
          refine ev_go 1 (q := 51) (st' := .int 0 :: _) rfl ?_
          exact ev_iret rfl rfl (by unfold sp_seen; dsimp only; repeat (first | rfl | rw [if_pos ⟨by assumption, by assumption⟩] | rw [if_neg (fun q => absurd (by assumption) q.1)] | rw [if_neg (fun q => absurd q.2 (by assumption))])) rfl
        · refine ev_go 1 (q := 19) rfl ?_
          refine ev_get (q := 22) rfl (mH_o hn) rfl rfl rfl ?_
          refine ev_go 5 (q := 28) (st' := .int (100 * nI 0 + nI k) :: _) rfl ?_
          refine ev_mia (j := 0) (q := 29) hn rfl (by decide) rfl (mx_ix _ _) (show 100 * 0 + k < 300 by omega) rfl ?_
          refine ev_if_eq (t := 44) (q := 32) rfl rfl rfl (fun e0 => ?_) (fun e0 => ?_)
          · refine ev_go 3 (q := 3) (st' := .int (-1) :: _) rfl ?_
            refine ev_if_lt (t := 50) (q := 6) rfl rfl rfl (fun _ => ?_) (fun c => absurd (by decide) c)
            refine ev_go 1 (q := 51) (st' := .int 0 :: _) rfl ?_
            exact ev_iret rfl rfl (by unfold sp_seen; dsimp only; repeat (first | rfl | rw [if_pos ⟨by assumption, by assumption⟩] | rw [if_neg (fun q => absurd (by assumption) q.1)] | rw [if_neg (fun q => absurd q.2 (by assumption))])) rfl
          · refine ev_go 1 (q := 33) rfl ?_
            refine ev_get (q := 36) rfl (mH_o hn) rfl rfl rfl ?_
            refine ev_go 5 (q := 42) (st' := .int (100 * nI 0 + nI k) :: _) rfl ?_
            refine ev_mia (j := 0) (q := 43) hn rfl (by decide) rfl (mx_ix _ _) (show 100 * 0 + k < 300 by omega) rfl ?_
            exact ev_iret rfl rfl (by unfold sp_seen; dsimp only; repeat (first | rfl | rw [if_pos ⟨by assumption, by assumption⟩] | rw [if_neg (fun q => absurd (by assumption) q.1)] | rw [if_neg (fun q => absurd q.2 (by assumption))])) rfl
      · refine ev_go 1 (q := 19) rfl ?_
        refine ev_get (q := 22) rfl (mH_o hn) rfl rfl rfl ?_
        refine ev_go 5 (q := 28) (st' := .int (100 * nI 1 + nI k) :: _) rfl ?_
        refine ev_mia (j := 0) (q := 29) hn rfl (by decide) rfl (mx_ix _ _) (show 100 * 1 + k < 300 by omega) rfl ?_
        refine ev_if_eq (t := 44) (q := 32) rfl rfl rfl (fun e1 => ?_) (fun e1 => ?_)
        · refine ev_go 2 (q := 2) rfl ?_
          rw [nI_p (by decide)]
          refine ev_go 1 (q := 3) (st' := .int (nI 0) :: _) rfl ?_
          refine ev_if_lt (t := 50) (q := 6) rfl rfl rfl (fun c => absurd c (by decide)) (fun _ => ?_)
          refine ev_go 1 (q := 7) rfl ?_
          refine ev_get (q := 10) rfl (mH_o hn) rfl rfl rfl ?_
          refine ev_go 5 (q := 15) (st' := .int 1 :: .int ((σ 6 >>> (0 &&& 31)) &&& 1) :: _) rfl ?_
          refine ev_icmp_ne (t := 44) (q := 18) rfl rfl rfl (fun o0 => ?_) (fun o0 => ?_)
          · refine ev_go 3 (q := 3) (st' := .int (-1) :: _) rfl ?_
            refine ev_if_lt (t := 50) (q := 6) rfl rfl rfl (fun _ => ?_) (fun c => absurd (by decide) c)
            refine ev_go 1 (q := 51) (st' := .int 0 :: _) rfl ?_
            exact ev_iret rfl rfl (by unfold sp_seen; dsimp only; repeat (first | rfl | rw [if_pos ⟨by assumption, by assumption⟩] | rw [if_neg (fun q => absurd (by assumption) q.1)] | rw [if_neg (fun q => absurd q.2 (by assumption))])) rfl
          · refine ev_go 1 (q := 19) rfl ?_
            refine ev_get (q := 22) rfl (mH_o hn) rfl rfl rfl ?_
            refine ev_go 5 (q := 28) (st' := .int (100 * nI 0 + nI k) :: _) rfl ?_
            refine ev_mia (j := 0) (q := 29) hn rfl (by decide) rfl (mx_ix _ _) (show 100 * 0 + k < 300 by omega) rfl ?_
            refine ev_if_eq (t := 44) (q := 32) rfl rfl rfl (fun e0 => ?_) (fun e0 => ?_)
            · refine ev_go 3 (q := 3) (st' := .int (-1) :: _) rfl ?_
              refine ev_if_lt (t := 50) (q := 6) rfl rfl rfl (fun _ => ?_) (fun c => absurd (by decide) c)
              refine ev_go 1 (q := 51) (st' := .int 0 :: _) rfl ?_
              exact ev_iret rfl rfl (by unfold sp_seen; dsimp only; repeat (first | rfl | rw [if_pos ⟨by assumption, by assumption⟩] | rw [if_neg (fun q => absurd (by assumption) q.1)] | rw [if_neg (fun q => absurd q.2 (by assumption))])) rfl
            · refine ev_go 1 (q := 33) rfl ?_
              refine ev_get (q := 36) rfl (mH_o hn) rfl rfl rfl ?_
              refine ev_go 5 (q := 42) (st' := .int (100 * nI 0 + nI k) :: _) rfl ?_
              refine ev_mia (j := 0) (q := 43) hn rfl (by decide) rfl (mx_ix _ _) (show 100 * 0 + k < 300 by omega) rfl ?_
              exact ev_iret rfl rfl (by unfold sp_seen; dsimp only; repeat (first | rfl | rw [if_pos ⟨by assumption, by assumption⟩] | rw [if_neg (fun q => absurd (by assumption) q.1)] | rw [if_neg (fun q => absurd q.2 (by assumption))])) rfl
        · refine ev_go 1 (q := 33) rfl ?_
          refine ev_get (q := 36) rfl (mH_o hn) rfl rfl rfl ?_
          refine ev_go 5 (q := 42) (st' := .int (100 * nI 1 + nI k) :: _) rfl ?_
          refine ev_mia (j := 0) (q := 43) hn rfl (by decide) rfl (mx_ix _ _) (show 100 * 1 + k < 300 by omega) rfl ?_
          exact ev_iret rfl rfl (by unfold sp_seen; dsimp only; repeat (first | rfl | rw [if_pos ⟨by assumption, by assumption⟩] | rw [if_neg (fun q => absurd (by assumption) q.1)] | rw [if_neg (fun q => absurd q.2 (by assumption))])) rfl
    · refine ev_go 1 (q := 33) rfl ?_
      refine ev_get (q := 36) rfl (mH_o hn) rfl rfl rfl ?_
      refine ev_go 5 (q := 42) (st' := .int (100 * nI 2 + nI k) :: _) rfl ?_
      refine ev_mia (j := 0) (q := 43) hn rfl (by decide) rfl (mx_ix _ _) (show 100 * 2 + k < 300 by omega) rfl ?_
      exact ev_iret rfl rfl (by unfold sp_seen; dsimp only; repeat (first | rfl | rw [if_pos ⟨by assumption, by assumption⟩] | rw [if_neg (fun q => absurd (by assumption) q.1)] | rw [if_neg (fun q => absurd q.2 (by assumption))])) rfl
def ms_sel (A : Nat → Nat → Int32) : Int32 := sp_s (fun k => am_b (¬ A 1 k = 0)) 0 100
theorem l_selm (hn : 43 ≤ h.1) : ∀ (m k : Nat) (x : Int32), k + m = 100 → am_ev d z_Model_selected (33, [some (.ref 18), some (.int (x + sp_s (fun k => am_b (¬ A 1 k = 0)) k m)), some (.int (nI 100))], [], mH h σ t A) res h' → am_ev d z_Model_selected (7, [some (.ref 18), some (.int x), some (.int (nI k))], [.int 100, .int (nI k)], mH h σ t A) res h'
  | 0, k, x, hm, K => by
    refine ev_icmp_ge (t := 33) (q := 10) rfl rfl rfl (fun _ => ?_) (fun c1 => absurd (nI_end (b := 100) hm (by omega)) c1)
    have hc : k = 100 := hm
    subst hc
    simpa [sp_s] using K
  | m + 1, k, x, hm, K => by
    refine ev_icmp_ge (t := 33) (q := 10) rfl rfl rfl (fun c1 => absurd c1 (nI_ge (b := 100) (by omega) (by omega))) (fun _ => ?_)
    have K1 : am_ev d z_Model_selected (33, [some (.ref 18), some (.int (x + am_b (¬ A 1 k = 0) + sp_s (fun k => am_b (¬ A 1 k = 0)) (k + 1) m)), some (.int (nI 100))], [], mH h σ t A) res h' := by rw [Int32.add_assoc]; exact K
    refine ev_go 2 (q := 12) rfl ?_
    refine ev_get (q := 15) rfl (mH_o hn) rfl rfl rfl ?_
    refine ev_go 1 (q := 16) rfl ?_
    refine ev_mza (q := 17) hn rfl (by decide) rfl rfl (show k < 100 by omega) rfl ?_
    refine ev_if_eq (t := 24) (q := 20) rfl rfl rfl (fun zc1 => ?_) (fun zc1 => ?_)
    · refine ev_go 7 (q := 7) (st' := .int 100 :: _ :: _) rfl ?_
      rw [am_bz (fun q => q zc1)] at K1
      rw [nI_s]
      exact l_selm hn m (k + 1) _ (by omega) K1
    · refine ev_go 8 (q := 7) (st' := .int 100 :: _ :: _) rfl ?_
      rw [am_b1 zc1] at K1
      rw [nI_s]
      exact l_selm hn m (k + 1) _ (by omega) K1
theorem m_selected (hn : 43 ≤ h.1) : am_m d z_Model_selected [.ref 18] (mH h σ t A) (some (.int (ms_sel A))) (mH h σ t A) := by
  refine ev_go 6 (q := 7) (st' := .int 100 :: _ :: _) rfl ?_
  refine l_selm hn 100 0 0 (by omega) ?_
  refine ev_go 1 (q := 34) rfl ?_
  exact ev_iret rfl rfl (by rw [Int32.zero_add]; rfl) (rfl)
def ms_paint (R C u : Nat) (A : Nat → Nat → Int32) (r c w : Int32) : Nat → Nat → Int32 := if cl_kn R C r c ∧ ¬ A 1 (10 * r.toNatClampNeg + c.toNatClampNeg) = 0 then va_up A 0 (va_up (A 0) (100 * u + (10 * r.toNatClampNeg + c.toNatClampNeg)) w) else A
theorem m_paintN {r c u : Nat} {x : Int32} (hn : 43 ≤ h.1) (hd : 1 < d) (hR : 1 ≤ R ∧ R ≤ 10) (hC : 1 ≤ C ∧ C ≤ 10) (h1 : σ 1 = nI R) (h2 : σ 2 = nI C) (h5 : σ 5 = nI u) (hu : u < 3) (hr : r < R) (hc : c < C) : am_m d z_Model_paints [.ref 18, .int (nI r), .int (nI c), .int x] (mH h σ t A) none (mH h σ t (if ¬ A 1 (10 * r + c) = 0 then va_up A 0 (va_up (A 0) (100 * u + (10 * r + c)) x) else A)) := by
  refine ev_go 3 (q := 3) rfl ?_
  refine ev_virt (z' := z_Model_isKnot) (q := 6) rfl rfl (by decide) rfl (by simp [Value.category]) rfl (by omega) rfl rfl (mH_o hn) (m_knT hn (by omega) hR hC h1 h2 hr hc) ?_
  refine ev_if_eq (t := 43) (q := 9) rfl rfl rfl (fun c => absurd c (by decide)) (fun zc1 => ?_)
  refine ev_go 1 (q := 10) rfl ?_
  refine ev_get (q := 13) rfl (mH_o hn) rfl rfl rfl ?_
  refine ev_go 5 (q := 19) (st' := .int ((10 * _) + _) :: _ :: _) rfl ?_
  refine ev_mza (q := 20) hn rfl (by decide) rfl (mx_k _ _) (show 10 * r + c < 100 by omega) rfl ?_
  refine ev_if_eq (t := 43) (q := 23) rfl rfl rfl (fun zc2 => ?_) (fun zc2 => ?_)
  · exact ev_vret rfl rfl (by first | rw [if_pos (by assumption)] | rw [if_neg (fun q => q (by assumption))])
  · refine ev_go 1 (q := 24) rfl ?_
    refine ev_get (q := 27) rfl (mH_o hn) rfl rfl rfl ?_
    refine ev_go 2 (q := 30) (st' := _ :: .int 100 :: _ :: _) rfl ?_
    refine ev_get (q := 33) rfl (mH_o hn) rfl rfl rfl ?_
    refine ev_go 8 (q := 42) (st' := _ :: .int ((_ + (10 * _)) + _) :: _ :: _) rfl ?_
    refine ev_mias (q := 43) hn rfl (by decide) rfl (by rw [h5, show (100 : Int32) = nI 100 from rfl, show (10 : Int32) = nI 10 from rfl, pk_mul, pk_mul, nI_add, nI_add, Nat.add_assoc]) (show 100 * u + (10 * r + c) < 300 by omega) rfl ?_
    exact ev_vret rfl rfl (by first | rw [if_pos (by assumption)] | rw [if_neg (fun q => q (by assumption))])
end M1
