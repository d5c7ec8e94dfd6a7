/-! the reference: painting -/
section M4
variable {d : Nat} {h h' : am_H} {σ : Nat → Int32} {t : Int64} {A : Nat → Nat → Int32} {res : Option Value} {R C u : Nat}
theorem m_paint {r c x : Int32} (hn : 43 ≤ h.1) (hd : 1 < d) (hR : 1 ≤ R ∧ R ≤ 10) (hC : 1 ≤ C ∧ C ≤ 10) (h1 : σ 1 = nI R) (h2 : σ 2 = nI C) (h5 : σ 5 = nI u) (hu : u < 3) : am_m d z_Model_paints [.ref 18, .int r, .int c, .int x] (mH h σ t A) none (mH h σ t (ms_paint R C u A r c x)) := by
  by_cases hk : cl_kn R C r c
  · obtain ⟨r', c', hr, hc, rfl, rfl⟩ := kn_of hR.2 hC.2 hk
    have q1 := m_paintN (d := d) (h := h) (σ := σ) (t := t) (A := A) (x := x) hn hd hR hC h1 h2 h5 hu hr hc
    have e1 : (nI r').toNatClampNeg = r' := nI_clamp (by omega)
    have e2 : (nI c').toNatClampNeg = c' := nI_clamp (by omega)
    unfold ms_paint
    rw [e1, e2]
    by_cases hf : ¬ A 1 (10 * r' + c') = 0
    · rw [if_pos hf] at q1
      rw [if_pos ⟨hk, hf⟩]
      exact q1
    · rw [if_neg hf] at q1
      rw [if_neg (fun q => hf q.2)]
      exact q1
  · unfold ms_paint
    rw [if_neg (fun q => hk q.1)]
    refine ev_go 3 (q := 3) rfl ?_
    refine ev_virt (z' := z_Model_isKnot) (q := 6) rfl rfl (by decide) rfl (by simp [Value.category]) rfl (by omega) rfl rfl (mH_o hn) (m_knF hn (by omega) hR hC h1 h2 hk) ?_
    refine ev_if_eq (t := 43) (q := 9) rfl rfl rfl (fun zc1 => ?_) (fun c => absurd rfl c)
    exact ev_vret rfl rfl (rfl)
def fl_m (a b : Int32) : Int32 := if a < 0 then -((-a + b - 1) / b) else a / b
def rd_m (a b : Int32) : Int32 := if 0 ≤ a - a / b * b then a - a / b * b else a - a / b * b + b
theorem m_floor {a b : Int32} (hb : ¬ b = 0) : am_m d z_Model_floor [.int a, .int b] h (some (.int (fl_m a b))) h := by
  refine ev_go 1 (q := 1) rfl ?_
  refine ev_if_lt (t := 10) (q := 4) rfl rfl rfl (fun zc1 => ?_) (fun zc1 => ?_)
  · refine ev_go 7 (q := 17) (st' := _ :: .int (_ - 1) :: _) rfl ?_
    refine ev_div (q := 18) rfl hb rfl ?_
    refine ev_go 1 (q := 19) rfl ?_
    exact ev_iret rfl rfl (by unfold fl_m; first | rw [if_pos (by assumption)] | rw [if_neg (by assumption)]) (rfl)
  · refine ev_go 2 (q := 6) rfl ?_
    refine ev_div (q := 7) rfl hb rfl ?_
    refine ev_go 1 (q := 19) rfl ?_
    exact ev_iret rfl rfl (by unfold fl_m; first | rw [if_pos (by assumption)] | rw [if_neg (by assumption)]) (rfl)
theorem m_round {a b : Int32} (hb : ¬ b = 0) : am_m d z_Model_round [.int a, .int b] h (some (.int (rd_m a b))) h := by
  refine ev_go 2 (q := 2) rfl ?_
  refine ev_rem (q := 3) rfl hb rfl ?_
  refine ev_go 2 (q := 5) rfl ?_
  refine ev_if_ge (t := 14) (q := 8) rfl rfl rfl (fun zc1 => ?_) (fun zc1 => ?_)
  · refine ev_go 1 (q := 15) rfl ?_
    exact ev_iret rfl rfl (by unfold rd_m; first | rw [if_pos (by assumption)] | rw [if_neg (by assumption)]) (rfl)
  · refine ev_go 4 (q := 15) rfl ?_
    exact ev_iret rfl rfl (by unfold rd_m; first | rw [if_pos (by assumption)] | rw [if_neg (by assumption)]) (rfl)
/-- the row (or column) of the k-th knot of a line -/
def ln_m (a c n k : Nat) : Int32 := if n = 0 then nI a else nI a + fl_m (2 * nI k * (nI c - nI a) + nI n) (2 * nI n)
def ln_n (a b c e : Nat) : Nat := let x := if a < c then c - a else a - c; let y := if b < e then e - b else b - e; if y < x then x else y
theorem ln_2n {n : Nat} (h0 : 0 < n) (hn : n < 10) : ¬ (2 : Int32) * nI n = 0 := by
  rw [show (2 : Int32) = nI 2 from rfl, pk_mul]
  exact nI_ne0 (by omega) (by omega)
theorem l_lines (hn : 43 ≤ h.1) (hd : 2 < d) (hR : 1 ≤ R ∧ R ≤ 10) (hC : 1 ≤ C ∧ C ≤ 10) (h1 : σ 1 = nI R) (h2 : σ 2 = nI C) (h5 : σ 5 = nI u) (hu : u < 3) {a b c e n : Nat} {x xx yy : Int32} (hb : n < 10) : ∀ (m k : Nat) (A : Nat → Nat → Int32) (e10 e11 : Option Value), k + m = n + 1 → (∀ e10 e11, am_ev d z_Model_lines (140, [some (.ref 18), some (.int (nI a)), some (.int (nI b)), some (.int (nI c)), some (.int (nI e)), some (.int x), some (.int xx), some (.int yy), some (.int (nI n)), some (.int (nI (n + 1))), e10, e11], [], mH h σ t (sp_it (fun k A => ms_paint R C u A (ln_m a c n k) (ln_m b e n k) x) k m A)) res h') → am_ev d z_Model_lines (58, [some (.ref 18), some (.int (nI a)), some (.int (nI b)), some (.int (nI c)), some (.int (nI e)), some (.int x), some (.int xx), some (.int yy), some (.int (nI n)), some (.int (nI k)), e10, e11], [.int (nI n), .int (nI k)], mH h σ t A) res h'
  | 0, k, A, e10, e11, hm, K => by
    have hc : k = n + 1 := hm
    subst hc
    refine ev_icmp_gt (t := 140) (q := 61) rfl rfl rfl (fun _ => K _ _) (fun c1 => absurd (nI_lt (by omega) (by omega)) c1)
  | m + 1, k, A, e10, e11, hm, K => by
    refine ev_icmp_gt (t := 140) (q := 61) rfl rfl rfl (fun c1 => absurd c1 (nI_nlt (by omega) (by omega))) (fun _ => ?_)
    simp only [sp_it] at K
    by_cases hn0 : n = 0
    · have e1 : nI n = 0 := by rw [hn0]; rfl
      have e2 : ln_m a c n k = nI a := if_pos hn0
      have e3 : ln_m b e n k = nI b := if_pos hn0
      rw [e2, e3] at K
      refine ev_go 1 (q := 63) rfl ?_
      refine ev_if_ne (t := 70) (q := 66) rfl rfl rfl (fun c => absurd e1 c) (fun zc1 => ?_)
      refine ev_go 4 (q := 94) rfl ?_
      refine ev_if_ne (t := 101) (q := 97) rfl rfl rfl (fun c => absurd e1 c) (fun zc2 => ?_)
      refine ev_go 7 (q := 131) rfl ?_
      refine ev_virt (z' := z_Model_paints) (q := 134) rfl rfl (by decide) rfl (by simp [Value.category]) rfl (by omega) rfl rfl (mH_o hn) (m_paint hn (by omega) hR hC h1 h2 h5 hu) ?_
      refine ev_go 1 (q := 137) rfl ?_
      rw [nI_s]
      refine ev_go 3 (q := 58) rfl ?_
      exact l_lines hn hd hR hC h1 h2 h5 hu hb m (k + 1) _ _ _ (by omega) K
    · have e1 : ¬ nI n = 0 := nI_ne0 (by omega) (by omega)
      have e2 : ln_m a c n k = nI a + fl_m (2 * nI k * (nI c - nI a) + nI n) (2 * nI n) := if_neg hn0
      have e3 : ln_m b e n k = nI b + fl_m (2 * nI k * (nI e - nI b) + nI n) (2 * nI n) := if_neg hn0
      rw [e2, e3] at K
      refine ev_go 1 (q := 63) rfl ?_
      refine ev_if_ne (t := 70) (q := 66) rfl rfl rfl (fun zc1 => ?_) (fun c => absurd c e1)
      refine ev_go 13 (q := 86) (st' := .int (2 * _) :: .int (((2 * _) * _) + _) :: _ :: _) rfl ?_
      refine ev_static (z' := z_Model_floor) (q := 89) rfl rfl (by decide) rfl rfl (by simp [Value.category]) rfl (by omega) (m_floor (ln_2n (by omega) hb)) ?_
      refine ev_go 3 (q := 94) rfl ?_
      refine ev_if_ne (t := 101) (q := 97) rfl rfl rfl (fun zc2 => ?_) (fun c => absurd c e1)
      refine ev_go 13 (q := 118) (st' := .int (2 * _) :: .int (((2 * _) * _) + _) :: _ :: _) rfl ?_
      refine ev_static (z' := z_Model_floor) (q := 121) rfl rfl (by decide) rfl rfl (by simp [Value.category]) rfl (by omega) (m_floor (ln_2n (by omega) hb)) ?_
      refine ev_go 6 (q := 131) rfl ?_
      refine ev_virt (z' := z_Model_paints) (q := 134) rfl rfl (by decide) rfl (by simp [Value.category]) rfl (by omega) rfl rfl (mH_o hn) (m_paint hn (by omega) hR hC h1 h2 h5 hu) ?_
      refine ev_go 1 (q := 137) rfl ?_
      rw [nI_s]
      refine ev_go 3 (q := 58) rfl ?_
      exact l_lines hn hd hR hC h1 h2 h5 hu hb m (k + 1) _ _ _ (by omega) K
theorem m_lines (hn : 43 ≤ h.1) (hd : 2 < d) (hR : 1 ≤ R ∧ R ≤ 10) (hC : 1 ≤ C ∧ C ≤ 10) (h1 : σ 1 = nI R) (h2 : σ 2 = nI C) (h5 : σ 5 = nI u) (hu : u < 3) {a b c e : Nat} {x : Int32} (ha : a < 10) (hb : b < 10) (hc : c < 10) (he : e < 10) : am_m d z_Model_lines [.ref 18, .int (nI a), .int (nI b), .int (nI c), .int (nI e), .int x] (mH h σ t A) none (mH h σ t (sp_it (fun k A => ms_paint R C u A (ln_m a c (ln_n a b c e) k) (ln_m b e (ln_n a b c e) k) x) 0 (ln_n a b c e + 1) A)) := by
  have hx : ∀ {p q : Nat}, p < 10 → q < 10 → (¬ nI q ≤ nI p → nI q - nI p = nI (if p < q then q - p else p - q)) ∧ (nI q ≤ nI p → nI p - nI q = nI (if p < q then q - p else p - q)) := by
    intro p q hp hq
    constructor
    · intro z
      have : p < q := Nat.not_le.mp (fun y => z ((nI_leI (by omega) (by omega)).mpr y))
      rw [if_pos this, pk_sub (by omega)]
    · intro z
      have : q ≤ p := (nI_leI (by omega) (by omega)).mp z
      rw [if_neg (by omega), pk_sub (by omega)]
  have hy : ∀ {p q : Nat}, p < 10 → q < 10 → (if p < q then q - p else p - q) < 10 := by
    intro p q hp hq
    split <;> omega
  generalize hX : (if a < c then c - a else a - c) = X
  generalize hY : (if b < e then e - b else b - e) = Y
  have hX9 : X < 10 := by rw [← hX]; exact hy ha hc
  have hY9 : Y < 10 := by rw [← hY]; exact hy hb he
  have hN : ln_n a b c e = if Y < X then X else Y := by unfold ln_n; rw [hX, hY]
  have hN9 : ln_n a b c e < 10 := by rw [hN]; split <;> omega
  have tail : ∀ e8 e9 : Option Value, am_ev d z_Model_lines (35, [some (.ref 18), some (.int (nI a)), some (.int (nI b)), some (.int (nI c)), some (.int (nI e)), some (.int x), some (.int (nI X)), some (.int (nI Y)), e8, e9, none, none], [], mH h σ t A) none (mH h σ t (sp_it (fun k A => ms_paint R C u A (ln_m a c (ln_n a b c e) k) (ln_m b e (ln_n a b c e) k) x) 0 (ln_n a b c e + 1) A)) := by
    intro e8 e9
    refine ev_go 2 (q := 39) rfl ?_
    refine ev_icmp_le (t := 47) (q := 42) rfl rfl rfl (fun zc1 => ?_) (fun zc1 => ?_)
    · refine ev_go 6 (q := 58) rfl ?_
      have e1 : nI Y = nI (ln_n a b c e) := by rw [hN, if_neg (Nat.not_lt.mpr ((nI_leI (by omega) (by omega)).mp zc1))]
      rw [e1]
      refine l_lines hn hd hR hC h1 h2 h5 hu hN9 (ln_n a b c e + 1) 0 A _ _ (by omega) (fun e10 e11 => ?_)
      exact ev_vret rfl rfl rfl
    · refine ev_go 7 (q := 58) rfl ?_
      have e1 : nI X = nI (ln_n a b c e) := by rw [hN, if_pos (Nat.not_le.mp (fun y => zc1 ((nI_leI (by omega) (by omega)).mpr y)))]
      rw [e1]
      refine l_lines hn hd hR hC h1 h2 h5 hu hN9 (ln_n a b c e + 1) 0 A _ _ (by omega) (fun e10 e11 => ?_)
      exact ev_vret rfl rfl rfl
  refine ev_go 2 (q := 2) rfl ?_
  refine ev_icmp_le (t := 11) (q := 5) rfl rfl rfl (fun zc1 => ?_) (fun zc1 => ?_)
  · refine ev_go 4 (q := 16) rfl ?_
    rw [(hx ha hc).2 zc1, hX]
    refine ev_go 2 (q := 19) rfl ?_
    refine ev_icmp_le (t := 29) (q := 22) rfl rfl rfl (fun zc7 => ?_) (fun zc7 => ?_)
    · refine ev_go 4 (q := 35) rfl ?_
      rw [(hx hb he).2 zc7, hY]
      exact tail _ _
    · refine ev_go 5 (q := 35) rfl ?_
      rw [(hx hb he).1 zc7, hY]
      exact tail _ _
  · refine ev_go 5 (q := 16) rfl ?_
    rw [(hx ha hc).1 zc1, hX]
    refine ev_go 2 (q := 19) rfl ?_
    refine ev_icmp_le (t := 29) (q := 22) rfl rfl rfl (fun zc7 => ?_) (fun zc7 => ?_)
    · refine ev_go 4 (q := 35) rfl ?_
      rw [(hx hb he).2 zc7, hY]
      exact tail _ _
    · refine ev_go 5 (q := 35) rfl ?_
      rw [(hx hb he).1 zc7, hY]
      exact tail _ _
end M4
