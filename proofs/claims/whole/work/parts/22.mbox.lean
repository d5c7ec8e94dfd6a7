/-! the reference: stamps, and what is done in the box -/
section M5
variable {d : Nat} {h h' : am_H} {σ : Nat → Int32} {t : Int64} {A : Nat → Nat → Int32} {res : Option Value} {R C u : Nat}
def st_t (_ : Nat) (S : Int32 × Int32) : Int32 × Int32 := (S.2, 2 - S.1)
def st_ij (dd k : Nat) : Int32 × Int32 := let S := sp_it st_t 0 (dd % 4) (nI (k / 3), nI (k % 3)); (S.1, if dd ≤ 3 then S.2 else 2 - S.2)
theorem l_stt {a b bits x : Int32} {k dd : Nat} (hdd : dd < 8) : ∀ (m i : Nat) (S : Int32 × Int32) (e : Option Value), i + m = dd % 4 → (∀ e e9, am_ev d z_Model_stamps (64, [some (.ref 18), some (.int a), some (.int b), some (.int bits), some (.int (nI dd)), some (.int x), some (.int (nI k)), some (.int (sp_it st_t i m S).1), some (.int (sp_it st_t i m S).2), e9, e], [], mH h σ t A) res h') → am_ev d z_Model_stamps (35, [some (.ref 18), some (.int a), some (.int b), some (.int bits), some (.int (nI dd)), some (.int x), some (.int (nI k)), some (.int S.1), some (.int S.2), some (.int (nI i)), e], [], mH h σ t A) res h'
  | 0, i, S, e, hm, K => by
    refine ev_go 3 (q := 40) (st' := .int 4 :: _) rfl ?_
    refine ev_remn (b := 4) (q := 41) rfl rfl rfl (by decide) (by omega) (by decide) rfl ?_
    refine ev_icmp_ge (t := 64) (q := 44) rfl rfl rfl (fun _ => ?_) (fun c1 => absurd (nI_end hm (by omega)) c1)
    exact K _ _
  | m + 1, i, S, e, hm, K => by
    refine ev_go 3 (q := 40) (st' := .int 4 :: _) rfl ?_
    refine ev_remn (b := 4) (q := 41) rfl rfl rfl (by decide) (by omega) (by decide) rfl ?_
    refine ev_icmp_ge (t := 64) (q := 44) rfl rfl rfl (fun c1 => absurd c1 (nI_ge (by omega) (by omega))) (fun _ => ?_)
    simp only [sp_it] at K
    refine ev_go 10 (q := 35) rfl ?_
    rw [nI_s]
    exact l_stt hdd m (i + 1) (S.2, 2 - S.1) _ (by omega) K
def st_g (R C u : Nat) (a b bits x : Int32) (dd k : Nat) (A : Nat → Nat → Int32) : Nat → Nat → Int32 := if (bits >>> (nI k &&& 31)) &&& 1 = 1 then ms_paint R C u A (a - 1 + (st_ij dd k).1) (b - 1 + (st_ij dd k).2) x else A
theorem l_sto (hn : 43 ≤ h.1) (hd : 2 < d) (hR : 1 ≤ R ∧ R ≤ 10) (hC : 1 ≤ C ∧ C ≤ 10) (h1 : σ 1 = nI R) (h2 : σ 2 = nI C) (h5 : σ 5 = nI u) (hu : u < 3) {a b bits x : Int32} {dd : Nat} (hdd : dd < 8) : ∀ (m k : Nat) (A : Nat → Nat → Int32) (e7 : Option Value) (e8 : Option Value) (e9 : Option Value) (e10 : Option Value), k + m = 9 → (∀ e7 e8 e9 e10 : Option Value, am_ev d z_Model_stamps (105, [some (.ref 18), some (.int a), some (.int b), some (.int bits), some (.int (nI dd)), some (.int x), some (.int (nI 9)), e7, e8, e9, e10], [], mH h σ t (sp_it (st_g R C u a b bits x dd) k m A)) res h') → am_ev d z_Model_stamps (7, [some (.ref 18), some (.int a), some (.int b), some (.int bits), some (.int (nI dd)), some (.int x), some (.int (nI k)), e7, e8, e9, e10], [.int 9, .int (nI k)], mH h σ t A) res h'
  | 0, k, A, e7, e8, e9, e10, hm, K => by
    refine ev_icmp_ge (t := 105) (q := 10) rfl rfl rfl (fun _ => ?_) (fun c1 => absurd (nI_end (b := 9) hm (by omega)) c1)
    have hc : k = 9 := hm
    subst hc
    exact K e7 e8 e9 e10
  | m + 1, k, A, e7, e8, e9, e10, hm, K => by
    refine ev_icmp_ge (t := 105) (q := 10) rfl rfl rfl (fun c1 => absurd c1 (nI_ge (b := 9) (by omega) (by omega))) (fun _ => ?_)
    simp only [sp_it] at K
    refine ev_go 6 (q := 17) (st' := .int 1 :: .int (_ &&& 1) :: _) rfl ?_
    refine ev_icmp_ne (t := 99) (q := 20) rfl rfl rfl (fun zc1 => ?_) (fun zc1 => ?_)
    · refine ev_go 2 (q := 3) rfl ?_
      unfold st_g at K
      rw [if_neg (by assumption)] at K
      rw [nI_s]
      refine ev_go 2 (q := 7) (st' := .int 9 :: _) rfl ?_
      exact l_sto hn hd hR hC h1 h2 h5 hu hdd m (k + 1) _ _ _ _ _ (by omega) K
    · refine ev_go 2 (q := 23) (st' := .int 3 :: _ :: _) rfl ?_
      refine ev_divn (b := 3) (q := 24) rfl rfl rfl (by decide) (by omega) (by decide) rfl ?_
      refine ev_go 3 (q := 29) (st' := .int 3 :: _ :: _) rfl ?_
      refine ev_remn (b := 3) (q := 30) rfl rfl rfl (by decide) (by omega) (by decide) rfl ?_
      refine ev_go 3 (q := 35) rfl ?_
      rw [show Int32.ofInt 0 = nI 0 from rfl]
      refine l_stt hdd (dd % 4) 0 (nI (k / 3), nI (k % 3)) _ (by omega) (fun e e9 => ?_)
      have hcd : (bits >>> (nI k &&& 31)) &&& 1 = 1 := by assumption
      rw [show st_g R C u a b bits x dd k A = ms_paint R C u A (a - 1 + (st_ij dd k).1) (b - 1 + (st_ij dd k).2) x from if_pos hcd] at K
      refine ev_go 2 (q := 67) (st' := .int 3 :: _ :: _) rfl ?_
      refine ev_icmp_le (t := 77) (q := 70) rfl rfl rfl (fun zc1 => ?_) (fun zc1 => ?_)
      · refine ev_go 14 (q := 96) (st' := _ :: .int ((_ - 1) + _) :: .int ((_ - 1) + _) :: _ :: _) rfl ?_
        refine ev_virt (z' := z_Model_paints) (q := 99) rfl rfl (by decide) rfl (by simp [Value.category]) rfl (by omega) rfl rfl (mH_o hn) (m_paint hn (by omega) hR hC h1 h2 h5 hu) ?_
        refine ev_go 2 (q := 3) rfl ?_
        rw [show (st_ij dd k).2 = (sp_it st_t 0 (dd % 4) (nI (k / 3), nI (k % 3))).2 from if_pos ((nI_leI (b := 3) (by omega) (by decide)).mp zc1)] at K
        rw [nI_s]
        refine ev_go 2 (q := 7) (st' := .int 9 :: _) rfl ?_
        exact l_sto hn hd hR hC h1 h2 h5 hu hdd m (k + 1) _ _ _ _ _ (by omega) K
      · refine ev_go 17 (q := 96) (st' := _ :: .int ((_ - 1) + _) :: .int ((_ - 1) + _) :: _ :: _) rfl ?_
        refine ev_virt (z' := z_Model_paints) (q := 99) rfl rfl (by decide) rfl (by simp [Value.category]) rfl (by omega) rfl rfl (mH_o hn) (m_paint hn (by omega) hR hC h1 h2 h5 hu) ?_
        refine ev_go 2 (q := 3) rfl ?_
        rw [show (st_ij dd k).2 = 2 - (sp_it st_t 0 (dd % 4) (nI (k / 3), nI (k % 3))).2 from if_neg (fun q => zc1 ((nI_leI (b := 3) (by omega) (by decide)).mpr q))] at K
        rw [nI_s]
        refine ev_go 2 (q := 7) (st' := .int 9 :: _) rfl ?_
        exact l_sto hn hd hR hC h1 h2 h5 hu hdd m (k + 1) _ _ _ _ _ (by omega) K
theorem m_stamps (hn : 43 ≤ h.1) (hd : 2 < d) (hR : 1 ≤ R ∧ R ≤ 10) (hC : 1 ≤ C ∧ C ≤ 10) (h1 : σ 1 = nI R) (h2 : σ 2 = nI C) (h5 : σ 5 = nI u) (hu : u < 3) {a b bits x : Int32} {dd : Nat} (hdd : dd < 8) : am_m d z_Model_stamps [.ref 18, .int a, .int b, .int bits, .int (nI dd), .int x] (mH h σ t A) none (mH h σ t (sp_it (st_g R C u a b bits x dd) 0 9 A)) := by
  refine ev_go 4 (q := 7) (st' := .int 9 :: .int (nI 0) :: _) rfl ?_
  refine l_sto hn hd hR hC h1 h2 h5 hu hdd 9 0 A _ _ _ _ (by omega) (fun e7 e8 e9 e10 => ?_)
  exact ev_vret rfl rfl rfl
/-- knot by knot through the box T .. B, P .. S -/
def sp_bx {α : Type} (g : Nat → Nat → α → α) (T B P S : Nat) : α → α := sp_it (fun r => sp_it (g r) P (S + 1 - P)) T (B + 1 - T)
theorem bi_1 {r P S c : Nat} (h : c ≤ S) : 10 * nI r + nI P + nI S - nI c = nI (10 * r + (P + S - c)) := by
  rw [show (10 : Int32) = nI 10 from rfl, pk_mul, nI_add, nI_add, pk_sub (by omega)]
  congr 1
  omega
theorem bi_2 {T B r c : Nat} (h : r ≤ B) : 10 * (nI T + nI B - nI r) + nI c = nI (10 * (T + B - r) + c) := by
  rw [show (10 : Int32) = nI 10 from rfl, nI_add, pk_sub (by omega), pk_mul, nI_add]
theorem rd_in : ∀ x : Nat, x < 10 → ∀ i : Nat, i < 41 → ∀ n : Nat, n < 10 → (rd_m (nI x - Int32.ofInt ((i : Int) - 20)) (nI (n + 1))).toNatClampNeg < n + 1 ∧ rd_m (nI x - Int32.ofInt ((i : Int) - 20)) (nI (n + 1)) = nI (rd_m (nI x - Int32.ofInt ((i : Int) - 20)) (nI (n + 1))).toNatClampNeg := by decide +kernel
def bg4 (R C u T B P S : Nat) (a : Int32) (r c : Nat) (A : Nat → Nat → Int32) : Nat → Nat → Int32 := ms_paint R C u A (nI r) (nI c) (if a = 0 then A 16 (10 * r + (P + S - c)) else A 16 (10 * (T + B - r) + c))
def bg5 (R C u T B P S : Nat) (a b : Int32) (r c : Nat) (A : Nat → Nat → Int32) : Nat → Nat → Int32 := ms_paint R C u A (nI r) (nI c) (A 16 (10 * (T + (rd_m (nI (r - T) - a) (nI (B - T + 1))).toNatClampNeg) + P + (rd_m (nI (c - P) - b) (nI (S - P + 1))).toNatClampNeg))
def bg6 (R C u T B P S : Nat) (a x : Int32) (r c : Nat) (A : Nat → Nat → Int32) : Nat → Nat → Int32 := if nI r - nI T < a ∨ nI B - nI r < a ∨ nI c - nI P < a ∨ nI S - nI c < a then ms_paint R C u A (nI r) (nI c) x else A
def bg7 (R C u : Nat) (a b : Int32) (r c : Nat) (A : Nat → Nat → Int32) : Nat → Nat → Int32 := ms_paint R C u A (nI r) (nI c) (if A 16 (10 * r + c) = a then b else if A 16 (10 * r + c) = b then a else A 16 (10 * r + c))
theorem pt_15 (R C u : Nat) (A : Nat → Nat → Int32) (r c x : Int32) (j : Nat) (hj : j ≠ 0) : ms_paint R C u A r c x j = A j := by
  unfold ms_paint
  split
  · rw [va_up_ne _ _ hj]
  · rfl
theorem it_15 {g : Nat → (Nat → Nat → Int32) → (Nat → Nat → Int32)} {j : Nat} (hg : ∀ k A, g k A j = A j) : ∀ (m c : Nat) (A : Nat → Nat → Int32), sp_it g c m A j = A j
  | 0, _, _ => rfl
  | m + 1, c, A => by rw [sp_it, it_15 hg m (c + 1), hg]
theorem bx_15 {R C u T B P S : Nat} {a x : Int32} {r c m : Nat} {A : Nat → Nat → Int32} : sp_it (bg6 R C u T B P S a x r) c m A 15 = A 15 := it_15 (fun k A => by
  unfold bg6
  split
  · exact pt_15 _ _ _ _ _ _ _ _ (by decide)
  · rfl) m c A
theorem l_bi4 (hn : 43 ≤ h.1) (hd : 2 < d) (hR : 1 ≤ R ∧ R ≤ 10) (hC : 1 ≤ C ∧ C ≤ 10) (h1 : σ 1 = nI R) (h2 : σ 2 = nI C) (h5 : σ 5 = nI u) (hu : u < 3) {T B P S : Nat} (h32 : σ 32 = nI T) (h33 : σ 33 = nI B) (h34 : σ 34 = nI P) (h35 : σ 35 = nI S) (hT : T ≤ B ∧ B < R) (hP : P ≤ S ∧ S < C)  {a b hh ww : Int32} {r : Nat} (hr : T ≤ r ∧ r ≤ B) : ∀ (m c : Nat) (A : Nat → Nat → Int32) (e8 e9 e10 e11 : Option Value), c + m = S + 1 → P ≤ c → (True) → (∀ e8 e9 e10 e11, am_ev d z_Model_boxed (459, [some (.ref 18), some (.int 4), some (.int a), some (.int b), some (.int hh), some (.int ww), some (.int (nI r)), some (.int (nI (S + 1))), e8, e9, e10, e11], [], mH h σ t (sp_it ((bg4 R C u T B P S a) r) c m A)) res h') → am_ev d z_Model_boxed (67, [some (.ref 18), some (.int 4), some (.int a), some (.int b), some (.int hh), some (.int ww), some (.int (nI r)), some (.int (nI c)), e8, e9, e10, e11], [.int (nI S), .int (nI c)], mH h σ t A) res h'
  | 0, c, A, e8, e9, e10, e11, hm, hc, hA, K => by
    have hc : c = S + 1 := hm
    subst hc
    refine ev_icmp_gt (t := 459) (q := 70) rfl rfl rfl (fun _ => K _ _ _ _) (fun c1 => absurd (nI_lt (by omega) (by omega)) c1)
  | m + 1, c, A, e8, e9, e10, e11, hm, hc, hA, K => by
    refine ev_icmp_gt (t := 459) (q := 70) rfl rfl rfl (fun c1 => absurd c1 (nI_nlt (by omega) (by omega))) (fun _ => ?_)
    simp only [sp_it] at K
    refine ev_go 12 (q := 118) rfl ?_
    refine ev_if_ne (t := 147) (q := 121) rfl rfl rfl (fun zc1 => ?_) (fun zc1 => ?_)
    · refine ev_go 1 (q := 148) rfl ?_
      refine ev_get (q := 151) rfl (mH_o hn) rfl rfl rfl ?_
      refine ev_go 2 (q := 154) (st' := _ :: .int 10 :: _ :: _ :: _ :: _ :: _) rfl ?_
      refine ev_get (q := 157) rfl (mH_o hn) rfl rfl rfl ?_
      refine ev_go 1 (q := 158) rfl ?_
      refine ev_get (q := 161) rfl (mH_o hn) rfl rfl rfl ?_
      refine ev_go 6 (q := 169) rfl ?_
      refine ev_mia (q := 170) hn rfl (by decide) rfl (by rw [h32, h33]; exact bi_2 (by omega)) (show 10 * (T + B - r) + c < 100 by omega) rfl ?_
      refine ev_virt (z' := z_Model_paints) (q := 173) rfl rfl (by decide) rfl (by simp [Value.category]) rfl (by omega) rfl rfl (mH_o hn) (m_paint hn (by omega) hR hC h1 h2 h5 hu) ?_
      refine ev_go 2 (q := 456) rfl ?_
      skip
      rw [show bg4 R C u T B P S a r c A = ms_paint R C u A (nI r) (nI c) (A 16 (10 * (T + B - r) + c)) by unfold bg4; rw [if_neg zc1]] at K
      rw [nI_s]
      refine ev_go 3 (q := 64) rfl ?_
      refine ev_get (q := 67) rfl (mH_o hn) rfl rfl rfl ?_
      rw [h35]
      exact l_bi4 hn hd hR hC h1 h2 h5 hu h32 h33 h34 h35 hT hP  hr m (c + 1) _ _ _ _ _ (by omega) (by omega) hA K
    · refine ev_go 1 (q := 122) rfl ?_
      refine ev_get (q := 125) rfl (mH_o hn) rfl rfl rfl ?_
      refine ev_go 4 (q := 131) (st' := _ :: .int (10 * _) :: _ :: _ :: _ :: _ :: _) rfl ?_
      refine ev_get (q := 134) rfl (mH_o hn) rfl rfl rfl ?_
      refine ev_go 2 (q := 136) rfl ?_
      refine ev_get (q := 139) rfl (mH_o hn) rfl rfl rfl ?_
      refine ev_go 3 (q := 143) rfl ?_
      refine ev_mia (q := 144) hn rfl (by decide) rfl (by rw [h34, h35]; exact bi_1 (by omega)) (show 10 * r + (P + S - c) < 100 by omega) rfl ?_
      refine ev_go 1 (q := 170) rfl ?_
      refine ev_virt (z' := z_Model_paints) (q := 173) rfl rfl (by decide) rfl (by simp [Value.category]) rfl (by omega) rfl rfl (mH_o hn) (m_paint hn (by omega) hR hC h1 h2 h5 hu) ?_
      refine ev_go 2 (q := 456) rfl ?_
      skip
      rw [show bg4 R C u T B P S a r c A = ms_paint R C u A (nI r) (nI c) (A 16 (10 * r + (P + S - c))) by unfold bg4; rw [if_pos zc1]] at K
      rw [nI_s]
      refine ev_go 3 (q := 64) rfl ?_
      refine ev_get (q := 67) rfl (mH_o hn) rfl rfl rfl ?_
      rw [h35]
      exact l_bi4 hn hd hR hC h1 h2 h5 hu h32 h33 h34 h35 hT hP  hr m (c + 1) _ _ _ _ _ (by omega) (by omega) hA K
theorem l_bo4 (hn : 43 ≤ h.1) (hd : 2 < d) (hR : 1 ≤ R ∧ R ≤ 10) (hC : 1 ≤ C ∧ C ≤ 10) (h1 : σ 1 = nI R) (h2 : σ 2 = nI C) (h5 : σ 5 = nI u) (hu : u < 3) {T B P S : Nat} (h32 : σ 32 = nI T) (h33 : σ 33 = nI B) (h34 : σ 34 = nI P) (h35 : σ 35 = nI S) (hT : T ≤ B ∧ B < R) (hP : P ≤ S ∧ S < C)  {a b hh ww : Int32}  : ∀ (m r : Nat) (A : Nat → Nat → Int32) (e7 e8 e9 e10 e11 : Option Value), r + m = B + 1 → T ≤ r → (True) → (∀ e7 e8 e9 e10 e11, am_ev d z_Model_boxed (465, [some (.ref 18), some (.int 4), some (.int a), some (.int b), some (.int hh), some (.int ww), some (.int (nI (B + 1))), e7, e8, e9, e10, e11], [], mH h σ t (sp_it (fun r => sp_it ((bg4 R C u T B P S a) r) P (S + 1 - P)) r m A)) res h') → am_ev d z_Model_boxed (52, [some (.ref 18), some (.int 4), some (.int a), some (.int b), some (.int hh), some (.int ww), some (.int (nI r)), e7, e8, e9, e10, e11], [.int (nI B), .int (nI r)], mH h σ t A) res h'
  | 0, r, A, e7, e8, e9, e10, e11, hm, hc, hA, K => by
    have hc : r = B + 1 := hm
    subst hc
    refine ev_icmp_gt (t := 465) (q := 55) rfl rfl rfl (fun _ => K _ _ _ _ _) (fun c1 => absurd (nI_lt (by omega) (by omega)) c1)
  | m + 1, r, A, e7, e8, e9, e10, e11, hm, hc, hA, K => by
    refine ev_icmp_gt (t := 465) (q := 55) rfl rfl rfl (fun c1 => absurd c1 (nI_nlt (by omega) (by omega))) (fun _ => ?_)
    simp only [sp_it] at K
    refine ev_go 1 (q := 56) rfl ?_
    refine ev_get (q := 59) rfl (mH_o hn) rfl rfl rfl ?_
    refine ev_go 3 (q := 64) rfl ?_
    refine ev_get (q := 67) rfl (mH_o hn) rfl rfl rfl ?_
    rw [h34, h35]
    refine l_bi4 hn hd hR hC h1 h2 h5 hu h32 h33 h34 h35 hT hP  ⟨hc, by omega⟩ (S + 1 - P) P A _ _ _ _ (by omega) (by omega) hA (fun e8 e9 e10 e11 => ?_)
    refine ev_go 4 (q := 49) rfl ?_
    refine ev_get (q := 52) rfl (mH_o hn) rfl rfl rfl ?_
    rw [nI_s, h33]
    exact l_bo4 hn hd hR hC h1 h2 h5 hu h32 h33 h34 h35 hT hP   m (r + 1) _ _ _ _ _ _ (by omega) (by omega) (trivial) K
theorem l_bi7 (hn : 43 ≤ h.1) (hd : 2 < d) (hR : 1 ≤ R ∧ R ≤ 10) (hC : 1 ≤ C ∧ C ≤ 10) (h1 : σ 1 = nI R) (h2 : σ 2 = nI C) (h5 : σ 5 = nI u) (hu : u < 3) {T B P S : Nat} (h32 : σ 32 = nI T) (h33 : σ 33 = nI B) (h34 : σ 34 = nI P) (h35 : σ 35 = nI S) (hT : T ≤ B ∧ B < R) (hP : P ≤ S ∧ S < C)  {a b hh ww : Int32} {r : Nat} (hr : T ≤ r ∧ r ≤ B) : ∀ (m c : Nat) (A : Nat → Nat → Int32) (e8 e9 e10 e11 : Option Value), c + m = S + 1 → P ≤ c → (True) → (∀ e8 e9 e10 e11, am_ev d z_Model_boxed (459, [some (.ref 18), some (.int 7), some (.int a), some (.int b), some (.int hh), some (.int ww), some (.int (nI r)), some (.int (nI (S + 1))), e8, e9, e10, e11], [], mH h σ t (sp_it ((bg7 R C u a b) r) c m A)) res h') → am_ev d z_Model_boxed (67, [some (.ref 18), some (.int 7), some (.int a), some (.int b), some (.int hh), some (.int ww), some (.int (nI r)), some (.int (nI c)), e8, e9, e10, e11], [.int (nI S), .int (nI c)], mH h σ t A) res h'
  | 0, c, A, e8, e9, e10, e11, hm, hc, hA, K => by
    have hc : c = S + 1 := hm
    subst hc
    refine ev_icmp_gt (t := 459) (q := 70) rfl rfl rfl (fun _ => K _ _ _ _) (fun c1 => absurd (nI_lt (by omega) (by omega)) c1)
  | m + 1, c, A, e8, e9, e10, e11, hm, hc, hA, K => by
    refine ev_icmp_gt (t := 459) (q := 70) rfl rfl rfl (fun c1 => absurd c1 (nI_nlt (by omega) (by omega))) (fun _ => ?_)
    simp only [sp_it] at K
    refine ev_go 12 (q := 301) rfl ?_
    refine ev_get (q := 304) rfl (mH_o hn) rfl rfl rfl ?_
    refine ev_go 1 (q := 306) rfl ?_
    refine ev_mia (q := 307) hn rfl (by decide) rfl (mx_k r c) (show 10 * r + c < 100 by omega) rfl ?_
    refine ev_go 1 (q := 308) rfl ?_
    refine ev_icmp_ne (t := 315) (q := 311) rfl rfl rfl (fun zc1 => ?_) (fun zc1 => ?_)
    · refine ev_go 1 (q := 316) rfl ?_
      refine ev_get (q := 319) rfl (mH_o hn) rfl rfl rfl ?_
      refine ev_go 1 (q := 321) rfl ?_
      refine ev_mia (q := 322) hn rfl (by decide) rfl (mx_k r c) (show 10 * r + c < 100 by omega) rfl ?_
      refine ev_go 1 (q := 323) rfl ?_
      refine ev_icmp_ne (t := 330) (q := 326) rfl rfl rfl (fun zc2 => ?_) (fun zc2 => ?_)
      · refine ev_go 1 (q := 331) rfl ?_
        refine ev_get (q := 334) rfl (mH_o hn) rfl rfl rfl ?_
        refine ev_go 1 (q := 336) rfl ?_
        refine ev_mia (q := 337) hn rfl (by decide) rfl (mx_k r c) (show 10 * r + c < 100 by omega) rfl ?_
        refine ev_virt (z' := z_Model_paints) (q := 340) rfl rfl (by decide) rfl (by simp [Value.category]) rfl (by omega) rfl rfl (mH_o hn) (m_paint hn (by omega) hR hC h1 h2 h5 hu) ?_
        refine ev_go 2 (q := 456) rfl ?_
        rw [show bg7 R C u a b r c A = ms_paint R C u A (nI r) (nI c) (A 16 (10 * r + c)) by unfold bg7; rw [if_neg zc1, if_neg zc2]] at K
        rw [nI_s]
        refine ev_go 3 (q := 64) rfl ?_
        refine ev_get (q := 67) rfl (mH_o hn) rfl rfl rfl ?_
        rw [h35]
        exact l_bi7 hn hd hR hC h1 h2 h5 hu h32 h33 h34 h35 hT hP  hr m (c + 1) _ _ _ _ _ (by omega) (by omega) hA K
      · refine ev_go 2 (q := 337) rfl ?_
        refine ev_virt (z' := z_Model_paints) (q := 340) rfl rfl (by decide) rfl (by simp [Value.category]) rfl (by omega) rfl rfl (mH_o hn) (m_paint hn (by omega) hR hC h1 h2 h5 hu) ?_
        refine ev_go 2 (q := 456) rfl ?_
        rw [show bg7 R C u a b r c A = ms_paint R C u A (nI r) (nI c) a by unfold bg7; rw [if_neg zc1, if_pos zc2]] at K
        rw [nI_s]
        refine ev_go 3 (q := 64) rfl ?_
        refine ev_get (q := 67) rfl (mH_o hn) rfl rfl rfl ?_
        rw [h35]
        exact l_bi7 hn hd hR hC h1 h2 h5 hu h32 h33 h34 h35 hT hP  hr m (c + 1) _ _ _ _ _ (by omega) (by omega) hA K
    · refine ev_go 2 (q := 337) rfl ?_
      refine ev_virt (z' := z_Model_paints) (q := 340) rfl rfl (by decide) rfl (by simp [Value.category]) rfl (by omega) rfl rfl (mH_o hn) (m_paint hn (by omega) hR hC h1 h2 h5 hu) ?_
      refine ev_go 2 (q := 456) rfl ?_
      rw [show bg7 R C u a b r c A = ms_paint R C u A (nI r) (nI c) b by unfold bg7; rw [if_pos zc1]] at K
      rw [nI_s]
      refine ev_go 3 (q := 64) rfl ?_
      refine ev_get (q := 67) rfl (mH_o hn) rfl rfl rfl ?_
      rw [h35]
      exact l_bi7 hn hd hR hC h1 h2 h5 hu h32 h33 h34 h35 hT hP  hr m (c + 1) _ _ _ _ _ (by omega) (by omega) hA K
theorem l_bo7 (hn : 43 ≤ h.1) (hd : 2 < d) (hR : 1 ≤ R ∧ R ≤ 10) (hC : 1 ≤ C ∧ C ≤ 10) (h1 : σ 1 = nI R) (h2 : σ 2 = nI C) (h5 : σ 5 = nI u) (hu : u < 3) {T B P S : Nat} (h32 : σ 32 = nI T) (h33 : σ 33 = nI B) (h34 : σ 34 = nI P) (h35 : σ 35 = nI S) (hT : T ≤ B ∧ B < R) (hP : P ≤ S ∧ S < C)  {a b hh ww : Int32}  : ∀ (m r : Nat) (A : Nat → Nat → Int32) (e7 e8 e9 e10 e11 : Option Value), r + m = B + 1 → T ≤ r → (True) → (∀ e7 e8 e9 e10 e11, am_ev d z_Model_boxed (465, [some (.ref 18), some (.int 7), some (.int a), some (.int b), some (.int hh), some (.int ww), some (.int (nI (B + 1))), e7, e8, e9, e10, e11], [], mH h σ t (sp_it (fun r => sp_it ((bg7 R C u a b) r) P (S + 1 - P)) r m A)) res h') → am_ev d z_Model_boxed (52, [some (.ref 18), some (.int 7), some (.int a), some (.int b), some (.int hh), some (.int ww), some (.int (nI r)), e7, e8, e9, e10, e11], [.int (nI B), .int (nI r)], mH h σ t A) res h'
  | 0, r, A, e7, e8, e9, e10, e11, hm, hc, hA, K => by
    have hc : r = B + 1 := hm
    subst hc
    refine ev_icmp_gt (t := 465) (q := 55) rfl rfl rfl (fun _ => K _ _ _ _ _) (fun c1 => absurd (nI_lt (by omega) (by omega)) c1)
  | m + 1, r, A, e7, e8, e9, e10, e11, hm, hc, hA, K => by
    refine ev_icmp_gt (t := 465) (q := 55) rfl rfl rfl (fun c1 => absurd c1 (nI_nlt (by omega) (by omega))) (fun _ => ?_)
    simp only [sp_it] at K
    refine ev_go 1 (q := 56) rfl ?_
    refine ev_get (q := 59) rfl (mH_o hn) rfl rfl rfl ?_
    refine ev_go 3 (q := 64) rfl ?_
    refine ev_get (q := 67) rfl (mH_o hn) rfl rfl rfl ?_
    rw [h34, h35]
    refine l_bi7 hn hd hR hC h1 h2 h5 hu h32 h33 h34 h35 hT hP  ⟨hc, by omega⟩ (S + 1 - P) P A _ _ _ _ (by omega) (by omega) hA (fun e8 e9 e10 e11 => ?_)
    refine ev_go 4 (q := 49) rfl ?_
    refine ev_get (q := 52) rfl (mH_o hn) rfl rfl rfl ?_
    rw [nI_s, h33]
    exact l_bo7 hn hd hR hC h1 h2 h5 hu h32 h33 h34 h35 hT hP   m (r + 1) _ _ _ _ _ _ (by omega) (by omega) (trivial) K
theorem l_bi6 (hn : 43 ≤ h.1) (hd : 2 < d) (hR : 1 ≤ R ∧ R ≤ 10) (hC : 1 ≤ C ∧ C ≤ 10) (h1 : σ 1 = nI R) (h2 : σ 2 = nI C) (h5 : σ 5 = nI u) (hu : u < 3) {T B P S : Nat} (h32 : σ 32 = nI T) (h33 : σ 33 = nI B) (h34 : σ 34 = nI P) (h35 : σ 35 = nI S) (hT : T ≤ B ∧ B < R) (hP : P ≤ S ∧ S < C) {xw : Int32} {a b hh ww : Int32} {r : Nat} (hr : T ≤ r ∧ r ≤ B) : ∀ (m c : Nat) (A : Nat → Nat → Int32) (e8 e9 e10 e11 : Option Value), c + m = S + 1 → P ≤ c → (A 15 4 = xw) → (∀ e8 e9 e10 e11, am_ev d z_Model_boxed (459, [some (.ref 18), some (.int 6), some (.int a), some (.int b), some (.int hh), some (.int ww), some (.int (nI r)), some (.int (nI (S + 1))), e8, e9, e10, e11], [], mH h σ t (sp_it ((bg6 R C u T B P S a xw) r) c m A)) res h') → am_ev d z_Model_boxed (67, [some (.ref 18), some (.int 6), some (.int a), some (.int b), some (.int hh), some (.int ww), some (.int (nI r)), some (.int (nI c)), e8, e9, e10, e11], [.int (nI S), .int (nI c)], mH h σ t A) res h'
  | 0, c, A, e8, e9, e10, e11, hm, hc, hA, K => by
    have hc : c = S + 1 := hm
    subst hc
    refine ev_icmp_gt (t := 459) (q := 70) rfl rfl rfl (fun _ => K _ _ _ _) (fun c1 => absurd (nI_lt (by omega) (by omega)) c1)
  | m + 1, c, A, e8, e9, e10, e11, hm, hc, hA, K => by
    refine ev_icmp_gt (t := 459) (q := 70) rfl rfl rfl (fun c1 => absurd c1 (nI_nlt (by omega) (by omega))) (fun _ => ?_)
    simp only [sp_it] at K
    refine ev_go 10 (q := 237) rfl ?_
    refine ev_get (q := 240) rfl (mH_o hn) rfl rfl rfl ?_
    refine ev_go 2 (q := 242) rfl ?_
    refine ev_icmp_lt (t := 278) (q := 245) rfl rfl rfl (fun zc1 => ?_) (fun zc1 => ?_)
    · refine ev_go 4 (q := 284) rfl ?_
      refine ev_get (q := 287) rfl (mH_o hn) rfl rfl rfl ?_
      refine ev_go 1 (q := 288) (st' := .int 4 :: _ :: _ :: _ :: _ :: _) rfl ?_
      refine ev_mia (q := 289) hn rfl (by decide) rfl rfl (by decide) rfl ?_
      refine ev_virt (z' := z_Model_paints) (q := 292) rfl rfl (by decide) rfl (by simp [Value.category]) rfl (by omega) rfl rfl (mH_o hn) (m_paint hn (by omega) hR hC h1 h2 h5 hu) ?_
      refine ev_go 2 (q := 456) rfl ?_
      rw [h32] at zc1
      rw [show bg6 R C u T B P S a xw r c A = ms_paint R C u A (nI r) (nI c) xw by unfold bg6; rw [if_pos (Or.inl zc1)]] at K
      rw [hA]
      rw [nI_s]
      refine ev_go 3 (q := 64) rfl ?_
      refine ev_get (q := 67) rfl (mH_o hn) rfl rfl rfl ?_
      rw [h35]
      exact l_bi6 hn hd hR hC h1 h2 h5 hu h32 h33 h34 h35 hT hP  hr m (c + 1) _ _ _ _ _ (by omega) (by omega) (by rw [pt_15 _ _ _ _ _ _ _ _ (by decide)]; exact hA) K
    · refine ev_go 1 (q := 246) rfl ?_
      refine ev_get (q := 249) rfl (mH_o hn) rfl rfl rfl ?_
      refine ev_go 3 (q := 253) rfl ?_
      refine ev_icmp_lt (t := 278) (q := 256) rfl rfl rfl (fun zc2 => ?_) (fun zc2 => ?_)
      · refine ev_go 4 (q := 284) rfl ?_
        refine ev_get (q := 287) rfl (mH_o hn) rfl rfl rfl ?_
        refine ev_go 1 (q := 288) (st' := .int 4 :: _ :: _ :: _ :: _ :: _) rfl ?_
        refine ev_mia (q := 289) hn rfl (by decide) rfl rfl (by decide) rfl ?_
        refine ev_virt (z' := z_Model_paints) (q := 292) rfl rfl (by decide) rfl (by simp [Value.category]) rfl (by omega) rfl rfl (mH_o hn) (m_paint hn (by omega) hR hC h1 h2 h5 hu) ?_
        refine ev_go 2 (q := 456) rfl ?_
        rw [h32] at zc1
        rw [h33] at zc2
        rw [show bg6 R C u T B P S a xw r c A = ms_paint R C u A (nI r) (nI c) xw by unfold bg6; rw [if_pos (Or.inr (Or.inl zc2))]] at K
        rw [hA]
        rw [nI_s]
        refine ev_go 3 (q := 64) rfl ?_
        refine ev_get (q := 67) rfl (mH_o hn) rfl rfl rfl ?_
        rw [h35]
        exact l_bi6 hn hd hR hC h1 h2 h5 hu h32 h33 h34 h35 hT hP  hr m (c + 1) _ _ _ _ _ (by omega) (by omega) (by rw [pt_15 _ _ _ _ _ _ _ _ (by decide)]; exact hA) K
      · refine ev_go 2 (q := 259) rfl ?_
        refine ev_get (q := 262) rfl (mH_o hn) rfl rfl rfl ?_
        refine ev_go 2 (q := 264) rfl ?_
        refine ev_icmp_lt (t := 278) (q := 267) rfl rfl rfl (fun zc3 => ?_) (fun zc3 => ?_)
        · refine ev_go 4 (q := 284) rfl ?_
          refine ev_get (q := 287) rfl (mH_o hn) rfl rfl rfl ?_
          refine ev_go 1 (q := 288) (st' := .int 4 :: _ :: _ :: _ :: _ :: _) rfl ?_
          refine ev_mia (q := 289) hn rfl (by decide) rfl rfl (by decide) rfl ?_
          refine ev_virt (z' := z_Model_paints) (q := 292) rfl rfl (by decide) rfl (by simp [Value.category]) rfl (by omega) rfl rfl (mH_o hn) (m_paint hn (by omega) hR hC h1 h2 h5 hu) ?_
          refine ev_go 2 (q := 456) rfl ?_
          rw [h32] at zc1
          rw [h33] at zc2
          rw [h34] at zc3
          rw [show bg6 R C u T B P S a xw r c A = ms_paint R C u A (nI r) (nI c) xw by unfold bg6; rw [if_pos (Or.inr (Or.inr (Or.inl zc3)))]] at K
          rw [hA]
          rw [nI_s]
          refine ev_go 3 (q := 64) rfl ?_
          refine ev_get (q := 67) rfl (mH_o hn) rfl rfl rfl ?_
          rw [h35]
          exact l_bi6 hn hd hR hC h1 h2 h5 hu h32 h33 h34 h35 hT hP  hr m (c + 1) _ _ _ _ _ (by omega) (by omega) (by rw [pt_15 _ _ _ _ _ _ _ _ (by decide)]; exact hA) K
        · refine ev_go 1 (q := 268) rfl ?_
          refine ev_get (q := 271) rfl (mH_o hn) rfl rfl rfl ?_
          refine ev_go 3 (q := 275) rfl ?_
          refine ev_icmp_ge (t := 453) (q := 278) rfl rfl rfl (fun zc4 => ?_) (fun zc4 => ?_)
          · refine ev_go 1 (q := 456) rfl ?_
            rw [h32] at zc1
            rw [h33] at zc2
            rw [h34] at zc3
            rw [h35] at zc4
            rw [show bg6 R C u T B P S a xw r c A = A by unfold bg6; rw [if_neg (fun q => q.elim zc1 (fun q => q.elim zc2 (fun q => q.elim zc3 (fun q => Int32.not_lt.mpr zc4 q))))]] at K
            rw [nI_s]
            refine ev_go 3 (q := 64) rfl ?_
            refine ev_get (q := 67) rfl (mH_o hn) rfl rfl rfl ?_
            rw [h35]
            exact l_bi6 hn hd hR hC h1 h2 h5 hu h32 h33 h34 h35 hT hP  hr m (c + 1) _ _ _ _ _ (by omega) (by omega) hA K
          · refine ev_go 4 (q := 284) rfl ?_
            refine ev_get (q := 287) rfl (mH_o hn) rfl rfl rfl ?_
            refine ev_go 1 (q := 288) (st' := .int 4 :: _ :: _ :: _ :: _ :: _) rfl ?_
            refine ev_mia (q := 289) hn rfl (by decide) rfl rfl (by decide) rfl ?_
            refine ev_virt (z' := z_Model_paints) (q := 292) rfl rfl (by decide) rfl (by simp [Value.category]) rfl (by omega) rfl rfl (mH_o hn) (m_paint hn (by omega) hR hC h1 h2 h5 hu) ?_
            refine ev_go 2 (q := 456) rfl ?_
            rw [h32] at zc1
            rw [h33] at zc2
            rw [h34] at zc3
            rw [h35] at zc4
            rw [show bg6 R C u T B P S a xw r c A = ms_paint R C u A (nI r) (nI c) xw by unfold bg6; rw [if_pos (Or.inr (Or.inr (Or.inr (Int32.not_le.mp zc4))))]] at K
            rw [hA]
            rw [nI_s]
            refine ev_go 3 (q := 64) rfl ?_
            refine ev_get (q := 67) rfl (mH_o hn) rfl rfl rfl ?_
            rw [h35]
            exact l_bi6 hn hd hR hC h1 h2 h5 hu h32 h33 h34 h35 hT hP  hr m (c + 1) _ _ _ _ _ (by omega) (by omega) (by rw [pt_15 _ _ _ _ _ _ _ _ (by decide)]; exact hA) K
theorem l_bo6 (hn : 43 ≤ h.1) (hd : 2 < d) (hR : 1 ≤ R ∧ R ≤ 10) (hC : 1 ≤ C ∧ C ≤ 10) (h1 : σ 1 = nI R) (h2 : σ 2 = nI C) (h5 : σ 5 = nI u) (hu : u < 3) {T B P S : Nat} (h32 : σ 32 = nI T) (h33 : σ 33 = nI B) (h34 : σ 34 = nI P) (h35 : σ 35 = nI S) (hT : T ≤ B ∧ B < R) (hP : P ≤ S ∧ S < C) {xw : Int32} {a b hh ww : Int32}  : ∀ (m r : Nat) (A : Nat → Nat → Int32) (e7 e8 e9 e10 e11 : Option Value), r + m = B + 1 → T ≤ r → (A 15 4 = xw) → (∀ e7 e8 e9 e10 e11, am_ev d z_Model_boxed (465, [some (.ref 18), some (.int 6), some (.int a), some (.int b), some (.int hh), some (.int ww), some (.int (nI (B + 1))), e7, e8, e9, e10, e11], [], mH h σ t (sp_it (fun r => sp_it ((bg6 R C u T B P S a xw) r) P (S + 1 - P)) r m A)) res h') → am_ev d z_Model_boxed (52, [some (.ref 18), some (.int 6), some (.int a), some (.int b), some (.int hh), some (.int ww), some (.int (nI r)), e7, e8, e9, e10, e11], [.int (nI B), .int (nI r)], mH h σ t A) res h'
  | 0, r, A, e7, e8, e9, e10, e11, hm, hc, hA, K => by
    have hc : r = B + 1 := hm
    subst hc
    refine ev_icmp_gt (t := 465) (q := 55) rfl rfl rfl (fun _ => K _ _ _ _ _) (fun c1 => absurd (nI_lt (by omega) (by omega)) c1)
  | m + 1, r, A, e7, e8, e9, e10, e11, hm, hc, hA, K => by
    refine ev_icmp_gt (t := 465) (q := 55) rfl rfl rfl (fun c1 => absurd c1 (nI_nlt (by omega) (by omega))) (fun _ => ?_)
    simp only [sp_it] at K
    refine ev_go 1 (q := 56) rfl ?_
    refine ev_get (q := 59) rfl (mH_o hn) rfl rfl rfl ?_
    refine ev_go 3 (q := 64) rfl ?_
    refine ev_get (q := 67) rfl (mH_o hn) rfl rfl rfl ?_
    rw [h34, h35]
    refine l_bi6 hn hd hR hC h1 h2 h5 hu h32 h33 h34 h35 hT hP  ⟨hc, by omega⟩ (S + 1 - P) P A _ _ _ _ (by omega) (by omega) hA (fun e8 e9 e10 e11 => ?_)
    refine ev_go 4 (q := 49) rfl ?_
    refine ev_get (q := 52) rfl (mH_o hn) rfl rfl rfl ?_
    rw [nI_s, h33]
    exact l_bo6 hn hd hR hC h1 h2 h5 hu h32 h33 h34 h35 hT hP   m (r + 1) _ _ _ _ _ _ (by omega) (by omega) (by rw [bx_15]; exact hA) K
theorem rd_of {x : Nat} {a : Int32} {n : Nat} (hx : x < 10) (ha : -20 ≤ a ∧ a ≤ 20) (hn : 1 ≤ n ∧ n ≤ 10) : (rd_m (nI x - a) (nI n)).toNatClampNeg < n ∧ rd_m (nI x - a) (nI n) = nI (rd_m (nI x - a) (nI n)).toNatClampNeg := by
  have h1 : (-20 : Int32).toInt = -20 := by decide
  have h2 : (20 : Int32).toInt = 20 := by decide
  have g1 := Int32.le_iff_toInt_le.mp ha.1
  have g2 := Int32.le_iff_toInt_le.mp ha.2
  rw [h1] at g1
  rw [h2] at g2
  obtain ⟨i, hi⟩ : ∃ i : Nat, a.toInt + 20 = (i : Int) := ⟨(a.toInt + 20).toNat, by omega⟩
  have ea : a = Int32.ofInt ((i : Int) - 20) := by
    rw [show (i : Int) - 20 = a.toInt by omega, Int32.ofInt_toInt]
  obtain ⟨n', rfl⟩ : ∃ n', n = n' + 1 := ⟨n - 1, by omega⟩
  rw [ea]
  exact rd_in x hx i (by omega) n' (by omega)
theorem l_bi5 (hn : 43 ≤ h.1) (hd : 2 < d) (hR : 1 ≤ R ∧ R ≤ 10) (hC : 1 ≤ C ∧ C ≤ 10) (h1 : σ 1 = nI R) (h2 : σ 2 = nI C) (h5 : σ 5 = nI u) (hu : u < 3) {T B P S : Nat} (h32 : σ 32 = nI T) (h33 : σ 33 = nI B) (h34 : σ 34 = nI P) (h35 : σ 35 = nI S) (hT : T ≤ B ∧ B < R) (hP : P ≤ S ∧ S < C)  {a b hh ww : Int32} {r : Nat} (hr : T ≤ r ∧ r ≤ B) : ∀ (m c : Nat) (A : Nat → Nat → Int32) (e8 e9 e10 e11 : Option Value), c + m = S + 1 → P ≤ c → (-20 ≤ a ∧ a ≤ 20 ∧ -20 ≤ b ∧ b ≤ 20 ∧ hh = nI (B - T + 1) ∧ ww = nI (S - P + 1)) → (∀ e8 e9 e10 e11, am_ev d z_Model_boxed (459, [some (.ref 18), some (.int 5), some (.int a), some (.int b), some (.int hh), some (.int ww), some (.int (nI r)), some (.int (nI (S + 1))), e8, e9, e10, e11], [], mH h σ t (sp_it ((bg5 R C u T B P S a b) r) c m A)) res h') → am_ev d z_Model_boxed (67, [some (.ref 18), some (.int 5), some (.int a), some (.int b), some (.int hh), some (.int ww), some (.int (nI r)), some (.int (nI c)), e8, e9, e10, e11], [.int (nI S), .int (nI c)], mH h σ t A) res h'
  | 0, c, A, e8, e9, e10, e11, hm, hc, hA, K => by
    have hc : c = S + 1 := hm
    subst hc
    refine ev_icmp_gt (t := 459) (q := 70) rfl rfl rfl (fun _ => K _ _ _ _) (fun c1 => absurd (nI_lt (by omega) (by omega)) c1)
  | m + 1, c, A, e8, e9, e10, e11, hm, hc, hA, K => by
    refine ev_icmp_gt (t := 459) (q := 70) rfl rfl rfl (fun c1 => absurd c1 (nI_nlt (by omega) (by omega))) (fun _ => ?_)
    simp only [sp_it] at K
    obtain ⟨a1, a2, b1, b2, rfl, rfl⟩ := id hA
    have q1 := rd_of (x := r - T) (a := a) (n := B - T + 1) (by omega) ⟨a1, a2⟩ (by omega)
    have q2 := rd_of (x := c - P) (a := b) (n := S - P + 1) (by omega) ⟨b1, b2⟩ (by omega)
    refine ev_go 12 (q := 182) rfl ?_
    refine ev_get (q := 185) rfl (mH_o hn) rfl rfl rfl ?_
    refine ev_go 2 (q := 188) (st' := _ :: .int 10 :: _ :: _ :: _ :: _ :: _) rfl ?_
    refine ev_get (q := 191) rfl (mH_o hn) rfl rfl rfl ?_
    refine ev_go 2 (q := 194) rfl ?_
    refine ev_get (q := 197) rfl (mH_o hn) rfl rfl rfl ?_
    refine ev_go 4 (q := 202) rfl ?_
    refine ev_static (z' := z_Model_round) (q := 205) rfl rfl (by decide) rfl rfl (by simp [Value.category]) rfl (by omega) (m_round (nI_ne0 (by omega) (by omega))) ?_
    refine ev_go 3 (q := 208) rfl ?_
    refine ev_get (q := 211) rfl (mH_o hn) rfl rfl rfl ?_
    refine ev_go 3 (q := 215) rfl ?_
    refine ev_get (q := 218) rfl (mH_o hn) rfl rfl rfl ?_
    refine ev_go 4 (q := 223) rfl ?_
    refine ev_static (z' := z_Model_round) (q := 226) rfl rfl (by decide) rfl rfl (by simp [Value.category]) rfl (by omega) (m_round (nI_ne0 (by omega) (by omega))) ?_
    refine ev_go 1 (q := 227) rfl ?_
    refine ev_mia (q := 228) hn rfl (by decide) rfl (by rw [h32, h34, show nI r - nI T = nI (r - T) from pk_sub (by omega), show nI c - nI P = nI (c - P) from pk_sub (by omega)]; conv => { lhs; rw [q1.2, q2.2, show (10 : Int32) = nI 10 from rfl, nI_add, pk_mul, nI_add, nI_add] }) (show 10 * (T + (rd_m (nI (r - T) - a) (nI (B - T + 1))).toNatClampNeg) + P + (rd_m (nI (c - P) - b) (nI (S - P + 1))).toNatClampNeg < 100 by omega) rfl ?_
    refine ev_virt (z' := z_Model_paints) (q := 231) rfl rfl (by decide) rfl (by simp [Value.category]) rfl (by omega) rfl rfl (mH_o hn) (m_paint hn (by omega) hR hC h1 h2 h5 hu) ?_
    refine ev_go 2 (q := 456) rfl ?_
    rw [nI_s]
    refine ev_go 3 (q := 64) rfl ?_
    refine ev_get (q := 67) rfl (mH_o hn) rfl rfl rfl ?_
    rw [h35]
    exact l_bi5 hn hd hR hC h1 h2 h5 hu h32 h33 h34 h35 hT hP  hr m (c + 1) _ _ _ _ _ (by omega) (by omega) hA K
theorem l_bo5 (hn : 43 ≤ h.1) (hd : 2 < d) (hR : 1 ≤ R ∧ R ≤ 10) (hC : 1 ≤ C ∧ C ≤ 10) (h1 : σ 1 = nI R) (h2 : σ 2 = nI C) (h5 : σ 5 = nI u) (hu : u < 3) {T B P S : Nat} (h32 : σ 32 = nI T) (h33 : σ 33 = nI B) (h34 : σ 34 = nI P) (h35 : σ 35 = nI S) (hT : T ≤ B ∧ B < R) (hP : P ≤ S ∧ S < C)  {a b hh ww : Int32}  : ∀ (m r : Nat) (A : Nat → Nat → Int32) (e7 e8 e9 e10 e11 : Option Value), r + m = B + 1 → T ≤ r → (-20 ≤ a ∧ a ≤ 20 ∧ -20 ≤ b ∧ b ≤ 20 ∧ hh = nI (B - T + 1) ∧ ww = nI (S - P + 1)) → (∀ e7 e8 e9 e10 e11, am_ev d z_Model_boxed (465, [some (.ref 18), some (.int 5), some (.int a), some (.int b), some (.int hh), some (.int ww), some (.int (nI (B + 1))), e7, e8, e9, e10, e11], [], mH h σ t (sp_it (fun r => sp_it ((bg5 R C u T B P S a b) r) P (S + 1 - P)) r m A)) res h') → am_ev d z_Model_boxed (52, [some (.ref 18), some (.int 5), some (.int a), some (.int b), some (.int hh), some (.int ww), some (.int (nI r)), e7, e8, e9, e10, e11], [.int (nI B), .int (nI r)], mH h σ t A) res h'
  | 0, r, A, e7, e8, e9, e10, e11, hm, hc, hA, K => by
    have hc : r = B + 1 := hm
    subst hc
    refine ev_icmp_gt (t := 465) (q := 55) rfl rfl rfl (fun _ => K _ _ _ _ _) (fun c1 => absurd (nI_lt (by omega) (by omega)) c1)
  | m + 1, r, A, e7, e8, e9, e10, e11, hm, hc, hA, K => by
    refine ev_icmp_gt (t := 465) (q := 55) rfl rfl rfl (fun c1 => absurd c1 (nI_nlt (by omega) (by omega))) (fun _ => ?_)
    simp only [sp_it] at K
    refine ev_go 1 (q := 56) rfl ?_
    refine ev_get (q := 59) rfl (mH_o hn) rfl rfl rfl ?_
    refine ev_go 3 (q := 64) rfl ?_
    refine ev_get (q := 67) rfl (mH_o hn) rfl rfl rfl ?_
    rw [h34, h35]
    refine l_bi5 hn hd hR hC h1 h2 h5 hu h32 h33 h34 h35 hT hP  ⟨hc, by omega⟩ (S + 1 - P) P A _ _ _ _ (by omega) (by omega) hA (fun e8 e9 e10 e11 => ?_)
    refine ev_go 4 (q := 49) rfl ?_
    refine ev_get (q := 52) rfl (mH_o hn) rfl rfl rfl ?_
    rw [nI_s, h33]
    exact l_bo5 hn hd hR hC h1 h2 h5 hu h32 h33 h34 h35 hT hP   m (r + 1) _ _ _ _ _ _ (by omega) (by omega) (hA) K
/-- the i knots ahead of k have the wool x -/
def mb_all (f : Nat → Int32) (o : Nat) (x : Int32) : Nat → Prop
  | 0 => True
  | i + 1 => mb_all f o x i ∧ f (o - (i + 1)) = x
noncomputable def bg8 (R C u P : Nat) (aa : Nat) (r c : Nat) (A : Nat → Nat → Int32) : Nat → Nat → Int32 := @ite _ ((¬ A 0 (100 * u + (10 * r + c)) = 0 ∧ aa ≤ c - P) ∧ mb_all (A 0) (100 * u + (10 * r + c)) (A 0 (100 * u + (10 * r + c))) aa) (Classical.propDecidable _) (ms_paint R C u A (nI r) (nI c) (nI ((A 0 (100 * u + (10 * r + c))).toNatClampNeg % 9) + 1)) A
theorem mb_le {f : Nat → Int32} {o : Nat} {x : Int32} : ∀ {i j : Nat}, j ≤ i → mb_all f o x i → mb_all f o x j
  | 0, j, h, q => by
    have : j = 0 := by omega
    subst this
    trivial
  | i + 1, j, h, q => by
    by_cases e : j = i + 1
    · subst e; exact q
    · exact mb_le (by omega) q.1
theorem l_b8 (hn : 43 ≤ h.1) (hd : 2 < d) (hR : 1 ≤ R ∧ R ≤ 10) (hC : 1 ≤ C ∧ C ≤ 10) (h1 : σ 1 = nI R) (h2 : σ 2 = nI C) (h5 : σ 5 = nI u) (hu : u < 3) {T B P S : Nat} (h32 : σ 32 = nI T) (h33 : σ 33 = nI B) (h34 : σ 34 = nI P) (h35 : σ 35 = nI S) (hT : T ≤ B ∧ B < R) (hP : P ≤ S ∧ S < C) {b hh ww x : Int32} {r c aa : Nat} (hr : T ≤ r ∧ r ≤ B) (hc : P ≤ c ∧ c ≤ S) (ha : aa ≤ c - P) (haa : aa ≤ 9) (K : ∀ (y : Int32) (e : Option Value), (y = 1 ∧ mb_all (A 0) (100 * u + (10 * r + c)) x aa) ∨ (y = 0 ∧ ¬ mb_all (A 0) (100 * u + (10 * r + c)) x aa) → am_ev d z_Model_boxed (433, [some (.ref 18), some (.int 8), some (.int (nI aa)), some (.int b), some (.int hh), some (.int ww), some (.int (nI r)), some (.int (nI c)), some (.int (nI (10 * r + c))), some (.int x), some (.int y), e], [], mH h σ t A) res h') : ∀ (m i : Nat), i + m = aa → mb_all (A 0) (100 * u + (10 * r + c)) x i → am_ev d z_Model_boxed (386, [some (.ref 18), some (.int 8), some (.int (nI aa)), some (.int b), some (.int hh), some (.int ww), some (.int (nI r)), some (.int (nI c)), some (.int (nI (10 * r + c))), some (.int x), some (.int 1), some (.int (nI (i + 1)))], [], mH h σ t A) res h'
  | 0, i, hm, hq => by
    have hc9 : i = aa := hm
    subst hc9
    refine ev_go 2 (q := 389) rfl ?_
    refine ev_icmp_gt (t := 433) (q := 392) rfl rfl rfl (fun _ => K 1 _ (Or.inl ⟨rfl, hq⟩)) (fun c1 => absurd (nI_lt (by omega) (by omega)) c1)
  | m + 1, i, hm, hq => by
    refine ev_go 2 (q := 389) rfl ?_
    refine ev_icmp_gt (t := 433) (q := 392) rfl rfl rfl (fun c1 => absurd c1 (nI_nlt (by omega) (by omega))) (fun _ => ?_)
    refine ev_go 1 (q := 394) rfl ?_
    refine ev_if_eq (t := 433) (q := 397) rfl rfl rfl (fun c => absurd c (by decide)) (fun _ => ?_)
    refine ev_go 1 (q := 398) rfl ?_
    refine ev_get (q := 401) rfl (mH_o hn) rfl rfl rfl ?_
    refine ev_go 2 (q := 404) (st' := _ :: .int 100 :: _ :: _) rfl ?_
    refine ev_get (q := 407) rfl (mH_o hn) rfl rfl rfl ?_
    refine ev_go 5 (q := 414) rfl ?_
    refine ev_mia (q := 415) hn rfl (by decide) rfl (by rw [h5, show (100 : Int32) = nI 100 from rfl, pk_mul, nI_add, pk_sub (by omega)]) (show 100 * u + (10 * r + c) - (i + 1) < 300 by omega) rfl ?_
    refine ev_go 1 (q := 417) rfl ?_
    refine ev_icmp_ne (t := 424) (q := 420) rfl rfl rfl (fun zc1 => ?_) (fun zc1 => ?_)
    · refine ev_go 3 (q := 430) rfl ?_
      refine ev_go 3 (q := 389) rfl ?_
      rw [nI_s]
      refine ev_icmp_gt (t := 433) (q := 392) rfl rfl rfl (fun _ => K 0 _ (Or.inr ⟨rfl, fun q => zc1 (mb_le (i := aa) (j := i + 1) (by omega) q).2⟩)) (fun _ => ?_)
      refine ev_go 1 (q := 394) rfl ?_
      refine ev_if_eq (t := 433) (q := 397) rfl rfl rfl (fun _ => K 0 _ (Or.inr ⟨rfl, fun q => zc1 (mb_le (i := aa) (j := i + 1) (by omega) q).2⟩)) (fun c => absurd rfl c)
    · refine ev_go 4 (q := 430) rfl ?_
      refine ev_go 1 (q := 386) rfl ?_
      rw [nI_s]
      exact l_b8 hn hd hR hC h1 h2 h5 hu h32 h33 h34 h35 hT hP hr hc ha haa K m (i + 1) (by omega) ⟨hq, zc1⟩
theorem pt_rng {R C u : Nat} {A : Nat → Nat → Int32} {r c : Int32} {x : Nat} (hx : x < 10) (hA : ∀ j, ∃ y, y < 10 ∧ A 0 j = nI y) : ∀ j, ∃ y, y < 10 ∧ ms_paint R C u A r c (nI x) 0 j = nI y := by
  intro j
  unfold ms_paint
  split
  · rw [va_up_self]
    unfold va_up
    split
    · exact ⟨x, hx, rfl⟩
    · exact hA j
  · exact hA j
theorem bx_rng {R C u P aa r : Nat} : ∀ (m c : Nat) (A : Nat → Nat → Int32), (∀ j, ∃ y, y < 10 ∧ A 0 j = nI y) → ∀ j, ∃ y, y < 10 ∧ sp_it (bg8 R C u P aa r) c m A 0 j = nI y
  | 0, _, _, hA => hA
  | m + 1, c, A, hA => by
    rw [sp_it]
    refine bx_rng m (c + 1) _ ?_
    unfold bg8
    obtain ⟨y, hy, ey⟩ := hA (100 * u + (10 * r + c))
    split
    · rw [ey, nI_clamp (by omega), nI_1]
      exact pt_rng (by omega) hA
    · exact hA
theorem l_bi8 (hn : 43 ≤ h.1) (hd : 2 < d) (hR : 1 ≤ R ∧ R ≤ 10) (hC : 1 ≤ C ∧ C ≤ 10) (h1 : σ 1 = nI R) (h2 : σ 2 = nI C) (h5 : σ 5 = nI u) (hu : u < 3) {T B P S : Nat} (h32 : σ 32 = nI T) (h33 : σ 33 = nI B) (h34 : σ 34 = nI P) (h35 : σ 35 = nI S) (hT : T ≤ B ∧ B < R) (hP : P ≤ S ∧ S < C) {aa : Nat} (haa : aa ≤ 9) {b hh ww : Int32} {r : Nat} (hr : T ≤ r ∧ r ≤ B) : ∀ (m c : Nat) (A : Nat → Nat → Int32) (e8 e9 e10 e11 : Option Value), c + m = S + 1 → P ≤ c → (∀ j, ∃ y, y < 10 ∧ A 0 j = nI y) → (∀ e8 e9 e10 e11, am_ev d z_Model_boxed (459, [some (.ref 18), some (.int 8), some (.int (nI aa)), some (.int b), some (.int hh), some (.int ww), some (.int (nI r)), some (.int (nI (S + 1))), e8, e9, e10, e11], [], mH h σ t (sp_it ((bg8 R C u P aa) r) c m A)) res h') → am_ev d z_Model_boxed (67, [some (.ref 18), some (.int 8), some (.int (nI aa)), some (.int b), some (.int hh), some (.int ww), some (.int (nI r)), some (.int (nI c)), e8, e9, e10, e11], [.int (nI S), .int (nI c)], mH h σ t A) res h'
  | 0, c, A, e8, e9, e10, e11, hm, hc, hA, K => by
    have hc : c = S + 1 := hm
    subst hc
    refine ev_icmp_gt (t := 459) (q := 70) rfl rfl rfl (fun _ => K _ _ _ _) (fun c1 => absurd (nI_lt (by omega) (by omega)) c1)
  | m + 1, c, A, e8, e9, e10, e11, hm, hc, hA, K => by
    refine ev_icmp_gt (t := 459) (q := 70) rfl rfl rfl (fun c1 => absurd c1 (nI_nlt (by omega) (by omega))) (fun _ => ?_)
    simp only [sp_it] at K
    obtain ⟨y, hy, ey⟩ := hA (100 * u + (10 * r + c))
    have hcl : (nI y).toNatClampNeg = y := nI_clamp (by omega)
    have hP8 := m_paint (d := d - 1) (h := h) (σ := σ) (t := t) (A := A) (r := nI r) (c := nI c) (x := nI (y % 9 + 1)) hn (by omega) hR hC h1 h2 h5 hu
    have eno : ∀ q : ¬ ((¬ A 0 (100 * u + (10 * r + c)) = 0 ∧ aa ≤ c - P) ∧ mb_all (A 0) (100 * u + (10 * r + c)) (A 0 (100 * u + (10 * r + c))) aa), bg8 R C u P aa r c A = A := fun q => @if_neg _ (Classical.propDecidable _) q _ _ _
    have eye : ∀ q : ((¬ A 0 (100 * u + (10 * r + c)) = 0 ∧ aa ≤ c - P) ∧ mb_all (A 0) (100 * u + (10 * r + c)) (A 0 (100 * u + (10 * r + c))) aa), bg8 R C u P aa r c A = ms_paint R C u A (nI r) (nI c) (nI (y % 9 + 1)) := by
      intro q
      unfold bg8
      rw [@if_pos _ (Classical.propDecidable _) q, ey, hcl, nI_1]
    refine ev_go 8 (q := 343) rfl ?_
    rw [show (Int8.ofInt 10).toInt32 * nI r + nI c = nI (10 * r + c) from mx_k r c]
    have none8 : ∀ (e9 e11 : Option Value), ¬ ((¬ A 0 (100 * u + (10 * r + c)) = 0 ∧ aa ≤ c - P) ∧ mb_all (A 0) (100 * u + (10 * r + c)) (A 0 (100 * u + (10 * r + c))) aa) → am_ev d z_Model_boxed (433, [some (.ref 18), some (.int 8), some (.int (nI aa)), some (.int b), some (.int hh), some (.int ww), some (.int (nI r)), some (.int (nI c)), some (.int (nI (10 * r + c))), e9, some (.int 0), e11], [], mH h σ t A) res h' := by
      intro e9 e11 q
      refine ev_go 1 (q := 435) rfl ?_
      refine ev_if_eq (t := 453) (q := 438) rfl rfl rfl (fun _ => ?_) (fun c => absurd rfl c)
      rw [eno q] at K
      refine ev_go 1 (q := 456) rfl ?_
      rw [nI_s]
      refine ev_go 3 (q := 64) rfl ?_
      refine ev_get (q := 67) rfl (mH_o hn) rfl rfl rfl ?_
      rw [h35]
      exact l_bi8 hn hd hR hC h1 h2 h5 hu h32 h33 h34 h35 hT hP haa hr m (c + 1) _ _ _ _ _ (by omega) (by omega) hA K
    have all8 : ∀ (e11 : Option Value), ((¬ A 0 (100 * u + (10 * r + c)) = 0 ∧ aa ≤ c - P) ∧ mb_all (A 0) (100 * u + (10 * r + c)) (A 0 (100 * u + (10 * r + c))) aa) → am_ev d z_Model_boxed (433, [some (.ref 18), some (.int 8), some (.int (nI aa)), some (.int b), some (.int hh), some (.int ww), some (.int (nI r)), some (.int (nI c)), some (.int (nI (10 * r + c))), some (.int (nI y)), some (.int 1), e11], [], mH h σ t A) res h' := by
      intro e11 q
      refine ev_go 1 (q := 435) rfl ?_
      refine ev_if_eq (t := 453) (q := 438) rfl rfl rfl (fun c => absurd c (by decide)) (fun _ => ?_)
      rw [eye q] at K
      refine ev_go 5 (q := 447) (st' := .int 9 :: _) rfl ?_
      refine ev_remn (b := 9) (q := 448) rfl rfl rfl (by decide) (by omega) (by decide) rfl ?_
      refine ev_go 2 (q := 450) (st' := .int (nI (y % 9) + 1) :: _) rfl ?_
      rw [nI_1]
      refine ev_virt (z' := z_Model_paints) (q := 453) rfl rfl (by decide) rfl (by simp [Value.category]) rfl (by omega) rfl rfl (mH_o hn) hP8 ?_
      refine ev_go 1 (q := 456) rfl ?_
      rw [nI_s]
      refine ev_go 3 (q := 64) rfl ?_
      refine ev_get (q := 67) rfl (mH_o hn) rfl rfl rfl ?_
      rw [h35]
      exact l_bi8 hn hd hR hC h1 h2 h5 hu h32 h33 h34 h35 hT hP haa hr m (c + 1) _ _ _ _ _ (by omega) (by omega) (pt_rng (by omega) hA) K
    refine ev_go 1 (q := 344) rfl ?_
    refine ev_get (q := 347) rfl (mH_o hn) rfl rfl rfl ?_
    refine ev_go 2 (q := 350) (st' := _ :: .int 100 :: _) rfl ?_
    refine ev_get (q := 353) rfl (mH_o hn) rfl rfl rfl ?_
    refine ev_go 3 (q := 357) rfl ?_
    refine ev_mia (q := 358) hn rfl (by decide) rfl (by rw [h5]; rw [show (100 : Int32) = nI 100 from rfl, pk_mul, nI_add]) (show 100 * u + (10 * r + c) < 300 by omega) rfl ?_
    rw [ey]
    refine ev_go 2 (q := 362) rfl ?_
    refine ev_if_eq (t := 380) (q := 365) rfl rfl rfl (fun zc1 => ?_) (fun zc1 => ?_)
    · refine ev_go 4 (q := 386) rfl ?_
      refine ev_go 2 (q := 389) rfl ?_
      rw [show Int32.ofInt 0 = (0 : Int32) from rfl]
      refine ev_icmp_gt (t := 433) (q := 392) rfl rfl rfl (fun _ => none8 _ _ (fun q => q.1.1 (by rw [ey]; exact zc1))) (fun _ => ?_)
      refine ev_go 1 (q := 394) rfl ?_
      refine ev_if_eq (t := 433) (q := 397) rfl rfl rfl (fun _ => none8 _ _ (fun q => q.1.1 (by rw [ey]; exact zc1))) (fun c => absurd rfl c)
    · refine ev_go 2 (q := 368) rfl ?_
      refine ev_get (q := 371) rfl (mH_o hn) rfl rfl rfl ?_
      rw [h34]
      refine ev_go 2 (q := 373) rfl ?_
      rw [pk_sub (show P ≤ c by omega)]
      refine ev_icmp_lt (t := 380) (q := 376) rfl rfl rfl (fun zc2 => ?_) (fun zc2 => ?_)
      · have hlt : c - P < aa := (nI_ltI (by omega) (by omega)).mp zc2
        refine ev_go 4 (q := 386) rfl ?_
        refine ev_go 2 (q := 389) rfl ?_
        rw [show Int32.ofInt 0 = (0 : Int32) from rfl]
        refine ev_icmp_gt (t := 433) (q := 392) rfl rfl rfl (fun _ => none8 _ _ (fun q => absurd q.1.2 (by omega))) (fun _ => ?_)
        refine ev_go 1 (q := 394) rfl ?_
        refine ev_if_eq (t := 433) (q := 397) rfl rfl rfl (fun _ => none8 _ _ (fun q => absurd q.1.2 (by omega))) (fun c => absurd rfl c)
      · have hge : aa ≤ c - P := Nat.not_lt.mp (fun q => zc2 ((nI_ltI (by omega) (by omega)).mpr q))
        refine ev_go 5 (q := 386) rfl ?_
        rw [show Int32.ofInt 1 = nI (0 + 1) from rfl]
        refine l_b8 hn hd hR hC h1 h2 h5 hu h32 h33 h34 h35 hT hP hr ⟨hc, by omega⟩ hge haa (fun yy e hyy => ?_) aa 0 (by omega) trivial
        rcases hyy with ⟨rfl, q⟩ | ⟨rfl, q⟩
        · exact all8 _ ⟨⟨by rw [ey]; exact zc1, hge⟩, by rw [ey]; exact q⟩
        · exact none8 _ _ (fun p => q (by have := p.2; rw [ey] at this; exact this))
theorem l_bo8 (hn : 43 ≤ h.1) (hd : 2 < d) (hR : 1 ≤ R ∧ R ≤ 10) (hC : 1 ≤ C ∧ C ≤ 10) (h1 : σ 1 = nI R) (h2 : σ 2 = nI C) (h5 : σ 5 = nI u) (hu : u < 3) {T B P S : Nat} (h32 : σ 32 = nI T) (h33 : σ 33 = nI B) (h34 : σ 34 = nI P) (h35 : σ 35 = nI S) (hT : T ≤ B ∧ B < R) (hP : P ≤ S ∧ S < C) {aa : Nat} (haa : aa ≤ 9) {b hh ww : Int32}  : ∀ (m r : Nat) (A : Nat → Nat → Int32) (e7 e8 e9 e10 e11 : Option Value), r + m = B + 1 → T ≤ r → (∀ j, ∃ y, y < 10 ∧ A 0 j = nI y) → (∀ e7 e8 e9 e10 e11, am_ev d z_Model_boxed (465, [some (.ref 18), some (.int 8), some (.int (nI aa)), some (.int b), some (.int hh), some (.int ww), some (.int (nI (B + 1))), e7, e8, e9, e10, e11], [], mH h σ t (sp_it (fun r => sp_it ((bg8 R C u P aa) r) P (S + 1 - P)) r m A)) res h') → am_ev d z_Model_boxed (52, [some (.ref 18), some (.int 8), some (.int (nI aa)), some (.int b), some (.int hh), some (.int ww), some (.int (nI r)), e7, e8, e9, e10, e11], [.int (nI B), .int (nI r)], mH h σ t A) res h'
  | 0, r, A, e7, e8, e9, e10, e11, hm, hc, hA, K => by
    have hc : r = B + 1 := hm
    subst hc
    refine ev_icmp_gt (t := 465) (q := 55) rfl rfl rfl (fun _ => K _ _ _ _ _) (fun c1 => absurd (nI_lt (by omega) (by omega)) c1)
  | m + 1, r, A, e7, e8, e9, e10, e11, hm, hc, hA, K => by
    refine ev_icmp_gt (t := 465) (q := 55) rfl rfl rfl (fun c1 => absurd c1 (nI_nlt (by omega) (by omega))) (fun _ => ?_)
    simp only [sp_it] at K
    refine ev_go 1 (q := 56) rfl ?_
    refine ev_get (q := 59) rfl (mH_o hn) rfl rfl rfl ?_
    refine ev_go 3 (q := 64) rfl ?_
    refine ev_get (q := 67) rfl (mH_o hn) rfl rfl rfl ?_
    rw [h34, h35]
    refine l_bi8 hn hd hR hC h1 h2 h5 hu h32 h33 h34 h35 hT hP haa ⟨hc, by omega⟩ (S + 1 - P) P A _ _ _ _ (by omega) (by omega) hA (fun e8 e9 e10 e11 => ?_)
    refine ev_go 4 (q := 49) rfl ?_
    refine ev_get (q := 52) rfl (mH_o hn) rfl rfl rfl ?_
    rw [nI_s, h33]
    exact l_bo8 hn hd hR hC h1 h2 h5 hu h32 h33 h34 h35 hT hP haa  m (r + 1) _ _ _ _ _ _ (by omega) (by omega) (bx_rng _ _ _ hA) K
theorem m_boxed4 (hn : 43 ≤ h.1) (hd : 2 < d) (hR : 1 ≤ R ∧ R ≤ 10) (hC : 1 ≤ C ∧ C ≤ 10) (h1 : σ 1 = nI R) (h2 : σ 2 = nI C) (h5 : σ 5 = nI u) (hu : u < 3) {T B P S : Nat} (h32 : σ 32 = nI T) (h33 : σ 33 = nI B) (h34 : σ 34 = nI P) (h35 : σ 35 = nI S) (hT : T ≤ B ∧ B < R) (hP : P ≤ S ∧ S < C)   : am_m d z_Model_boxed [.ref 18, .int 4] (mH h σ t A) none (mH h σ t (sp_bx (bg4 R C u T B P S (A 15 0)) T B P S A)) := by
  refine ev_go 1 (q := 1) rfl ?_
  refine ev_get (q := 4) rfl (mH_o hn) rfl rfl rfl ?_
  refine ev_go 1 (q := 5) (st' := .int 0 :: _ :: _) rfl ?_
  refine ev_mia (q := 6) hn rfl (by decide) rfl rfl (by decide) rfl ?_
  refine ev_go 2 (q := 8) rfl ?_
  refine ev_get (q := 11) rfl (mH_o hn) rfl rfl rfl ?_
  refine ev_go 1 (q := 12) (st' := .int 1 :: _ :: _) rfl ?_
  refine ev_mia (q := 13) hn rfl (by decide) rfl rfl (by decide) rfl ?_
  refine ev_go 2 (q := 15) rfl ?_
  refine ev_get (q := 18) rfl (mH_o hn) rfl rfl rfl ?_
  refine ev_go 1 (q := 19) rfl ?_
  refine ev_get (q := 22) rfl (mH_o hn) rfl rfl rfl ?_
  refine ev_go 5 (q := 28) rfl ?_
  refine ev_get (q := 31) rfl (mH_o hn) rfl rfl rfl ?_
  refine ev_go 1 (q := 32) rfl ?_
  refine ev_get (q := 35) rfl (mH_o hn) rfl rfl rfl ?_
  refine ev_go 5 (q := 41) rfl ?_
  refine ev_get (q := 44) rfl (mH_o hn) rfl rfl rfl ?_
  refine ev_go 3 (q := 49) rfl ?_
  refine ev_get (q := 52) rfl (mH_o hn) rfl rfl rfl ?_
  rw [h32, h33]
  refine l_bo4 hn hd hR hC h1 h2 h5 hu h32 h33 h34 h35 hT hP  (B + 1 - T) T A _ _ _ _ _ (by omega) (by omega) (trivial) (fun e7 e8 e9 e10 e11 => ?_)
  exact ev_vret rfl rfl rfl
theorem m_boxed5 (hn : 43 ≤ h.1) (hd : 2 < d) (hR : 1 ≤ R ∧ R ≤ 10) (hC : 1 ≤ C ∧ C ≤ 10) (h1 : σ 1 = nI R) (h2 : σ 2 = nI C) (h5 : σ 5 = nI u) (hu : u < 3) {T B P S : Nat} (h32 : σ 32 = nI T) (h33 : σ 33 = nI B) (h34 : σ 34 = nI P) (h35 : σ 35 = nI S) (hT : T ≤ B ∧ B < R) (hP : P ≤ S ∧ S < C)  (hA : (-20 ≤ A 15 0 ∧ A 15 0 ≤ 20) ∧ -20 ≤ A 15 1 ∧ A 15 1 ≤ 20) : am_m d z_Model_boxed [.ref 18, .int 5] (mH h σ t A) none (mH h σ t (sp_bx (bg5 R C u T B P S (A 15 0) (A 15 1)) T B P S A)) := by
  refine ev_go 1 (q := 1) rfl ?_
  refine ev_get (q := 4) rfl (mH_o hn) rfl rfl rfl ?_
  refine ev_go 1 (q := 5) (st' := .int 0 :: _ :: _) rfl ?_
  refine ev_mia (q := 6) hn rfl (by decide) rfl rfl (by decide) rfl ?_
  refine ev_go 2 (q := 8) rfl ?_
  refine ev_get (q := 11) rfl (mH_o hn) rfl rfl rfl ?_
  refine ev_go 1 (q := 12) (st' := .int 1 :: _ :: _) rfl ?_
  refine ev_mia (q := 13) hn rfl (by decide) rfl rfl (by decide) rfl ?_
  refine ev_go 2 (q := 15) rfl ?_
  refine ev_get (q := 18) rfl (mH_o hn) rfl rfl rfl ?_
  refine ev_go 1 (q := 19) rfl ?_
  refine ev_get (q := 22) rfl (mH_o hn) rfl rfl rfl ?_
  refine ev_go 5 (q := 28) rfl ?_
  refine ev_get (q := 31) rfl (mH_o hn) rfl rfl rfl ?_
  refine ev_go 1 (q := 32) rfl ?_
  refine ev_get (q := 35) rfl (mH_o hn) rfl rfl rfl ?_
  refine ev_go 5 (q := 41) rfl ?_
  refine ev_get (q := 44) rfl (mH_o hn) rfl rfl rfl ?_
  refine ev_go 3 (q := 49) rfl ?_
  refine ev_get (q := 52) rfl (mH_o hn) rfl rfl rfl ?_
  rw [h32, h33]
  refine l_bo5 hn hd hR hC h1 h2 h5 hu h32 h33 h34 h35 hT hP  (B + 1 - T) T A _ _ _ _ _ (by omega) (by omega) (⟨hA.1.1, hA.1.2, hA.2.1, hA.2.2, by rw [pk_sub hT.1, nI_s], by rw [h35, h34, pk_sub hP.1, nI_s]⟩) (fun e7 e8 e9 e10 e11 => ?_)
  exact ev_vret rfl rfl rfl
theorem m_boxed6 (hn : 43 ≤ h.1) (hd : 2 < d) (hR : 1 ≤ R ∧ R ≤ 10) (hC : 1 ≤ C ∧ C ≤ 10) (h1 : σ 1 = nI R) (h2 : σ 2 = nI C) (h5 : σ 5 = nI u) (hu : u < 3) {T B P S : Nat} (h32 : σ 32 = nI T) (h33 : σ 33 = nI B) (h34 : σ 34 = nI P) (h35 : σ 35 = nI S) (hT : T ≤ B ∧ B < R) (hP : P ≤ S ∧ S < C)   : am_m d z_Model_boxed [.ref 18, .int 6] (mH h σ t A) none (mH h σ t (sp_bx (bg6 R C u T B P S (A 15 0) (A 15 4)) T B P S A)) := by
  refine ev_go 1 (q := 1) rfl ?_
  refine ev_get (q := 4) rfl (mH_o hn) rfl rfl rfl ?_
  refine ev_go 1 (q := 5) (st' := .int 0 :: _ :: _) rfl ?_
  refine ev_mia (q := 6) hn rfl (by decide) rfl rfl (by decide) rfl ?_
  refine ev_go 2 (q := 8) rfl ?_
  refine ev_get (q := 11) rfl (mH_o hn) rfl rfl rfl ?_
  refine ev_go 1 (q := 12) (st' := .int 1 :: _ :: _) rfl ?_
  refine ev_mia (q := 13) hn rfl (by decide) rfl rfl (by decide) rfl ?_
  refine ev_go 2 (q := 15) rfl ?_
  refine ev_get (q := 18) rfl (mH_o hn) rfl rfl rfl ?_
  refine ev_go 1 (q := 19) rfl ?_
  refine ev_get (q := 22) rfl (mH_o hn) rfl rfl rfl ?_
  refine ev_go 5 (q := 28) rfl ?_
  refine ev_get (q := 31) rfl (mH_o hn) rfl rfl rfl ?_
  refine ev_go 1 (q := 32) rfl ?_
  refine ev_get (q := 35) rfl (mH_o hn) rfl rfl rfl ?_
  refine ev_go 5 (q := 41) rfl ?_
  refine ev_get (q := 44) rfl (mH_o hn) rfl rfl rfl ?_
  refine ev_go 3 (q := 49) rfl ?_
  refine ev_get (q := 52) rfl (mH_o hn) rfl rfl rfl ?_
  rw [h32, h33]
  refine l_bo6 hn hd hR hC h1 h2 h5 hu h32 h33 h34 h35 hT hP  (B + 1 - T) T A _ _ _ _ _ (by omega) (by omega) (rfl) (fun e7 e8 e9 e10 e11 => ?_)
  exact ev_vret rfl rfl rfl
theorem m_boxed7 (hn : 43 ≤ h.1) (hd : 2 < d) (hR : 1 ≤ R ∧ R ≤ 10) (hC : 1 ≤ C ∧ C ≤ 10) (h1 : σ 1 = nI R) (h2 : σ 2 = nI C) (h5 : σ 5 = nI u) (hu : u < 3) {T B P S : Nat} (h32 : σ 32 = nI T) (h33 : σ 33 = nI B) (h34 : σ 34 = nI P) (h35 : σ 35 = nI S) (hT : T ≤ B ∧ B < R) (hP : P ≤ S ∧ S < C)   : am_m d z_Model_boxed [.ref 18, .int 7] (mH h σ t A) none (mH h σ t (sp_bx (bg7 R C u (A 15 0) (A 15 1)) T B P S A)) := by
  refine ev_go 1 (q := 1) rfl ?_
  refine ev_get (q := 4) rfl (mH_o hn) rfl rfl rfl ?_
  refine ev_go 1 (q := 5) (st' := .int 0 :: _ :: _) rfl ?_
  refine ev_mia (q := 6) hn rfl (by decide) rfl rfl (by decide) rfl ?_
  refine ev_go 2 (q := 8) rfl ?_
  refine ev_get (q := 11) rfl (mH_o hn) rfl rfl rfl ?_
  refine ev_go 1 (q := 12) (st' := .int 1 :: _ :: _) rfl ?_
  refine ev_mia (q := 13) hn rfl (by decide) rfl rfl (by decide) rfl ?_
  refine ev_go 2 (q := 15) rfl ?_
  refine ev_get (q := 18) rfl (mH_o hn) rfl rfl rfl ?_
  refine ev_go 1 (q := 19) rfl ?_
  refine ev_get (q := 22) rfl (mH_o hn) rfl rfl rfl ?_
  refine ev_go 5 (q := 28) rfl ?_
  refine ev_get (q := 31) rfl (mH_o hn) rfl rfl rfl ?_
  refine ev_go 1 (q := 32) rfl ?_
  refine ev_get (q := 35) rfl (mH_o hn) rfl rfl rfl ?_
  refine ev_go 5 (q := 41) rfl ?_
  refine ev_get (q := 44) rfl (mH_o hn) rfl rfl rfl ?_
  refine ev_go 3 (q := 49) rfl ?_
  refine ev_get (q := 52) rfl (mH_o hn) rfl rfl rfl ?_
  rw [h32, h33]
  refine l_bo7 hn hd hR hC h1 h2 h5 hu h32 h33 h34 h35 hT hP  (B + 1 - T) T A _ _ _ _ _ (by omega) (by omega) (trivial) (fun e7 e8 e9 e10 e11 => ?_)
  exact ev_vret rfl rfl rfl
theorem m_boxed8 (hn : 43 ≤ h.1) (hd : 2 < d) (hR : 1 ≤ R ∧ R ≤ 10) (hC : 1 ≤ C ∧ C ≤ 10) (h1 : σ 1 = nI R) (h2 : σ 2 = nI C) (h5 : σ 5 = nI u) (hu : u < 3) {T B P S : Nat} (h32 : σ 32 = nI T) (h33 : σ 33 = nI B) (h34 : σ 34 = nI P) (h35 : σ 35 = nI S) (hT : T ≤ B ∧ B < R) (hP : P ≤ S ∧ S < C) {aa : Nat} (haa : aa ≤ 9) (h15 : A 15 0 = nI aa) (hA : ∀ j, ∃ y, y < 10 ∧ A 0 j = nI y) : am_m d z_Model_boxed [.ref 18, .int 8] (mH h σ t A) none (mH h σ t (sp_bx (bg8 R C u P aa) T B P S A)) := by
  refine ev_go 1 (q := 1) rfl ?_
  refine ev_get (q := 4) rfl (mH_o hn) rfl rfl rfl ?_
  refine ev_go 1 (q := 5) (st' := .int 0 :: _ :: _) rfl ?_
  refine ev_mia (q := 6) hn rfl (by decide) rfl rfl (by decide) rfl ?_
  rw [h15]
  refine ev_go 2 (q := 8) rfl ?_
  refine ev_get (q := 11) rfl (mH_o hn) rfl rfl rfl ?_
  refine ev_go 1 (q := 12) (st' := .int 1 :: _ :: _) rfl ?_
  refine ev_mia (q := 13) hn rfl (by decide) rfl rfl (by decide) rfl ?_
  refine ev_go 2 (q := 15) rfl ?_
  refine ev_get (q := 18) rfl (mH_o hn) rfl rfl rfl ?_
  refine ev_go 1 (q := 19) rfl ?_
  refine ev_get (q := 22) rfl (mH_o hn) rfl rfl rfl ?_
  refine ev_go 5 (q := 28) rfl ?_
  refine ev_get (q := 31) rfl (mH_o hn) rfl rfl rfl ?_
  refine ev_go 1 (q := 32) rfl ?_
  refine ev_get (q := 35) rfl (mH_o hn) rfl rfl rfl ?_
  refine ev_go 5 (q := 41) rfl ?_
  refine ev_get (q := 44) rfl (mH_o hn) rfl rfl rfl ?_
  refine ev_go 3 (q := 49) rfl ?_
  refine ev_get (q := 52) rfl (mH_o hn) rfl rfl rfl ?_
  rw [h32, h33]
  refine l_bo8 hn hd hR hC h1 h2 h5 hu h32 h33 h34 h35 hT hP haa (B + 1 - T) T A _ _ _ _ _ (by omega) (by omega) hA (fun e7 e8 e9 e10 e11 => ?_)
  exact ev_vret rfl rfl rfl
end M5
