/-! the class: the painter, in the box -/
section D5
variable {d : Nat} {h h' : am_H} {res : Option Value} {τ : Nat → Int32} {t : Int64} {B : Nat → Nat → Int32} {P : Nat → Nat → Option Nat} {R C u q o : Nat}
theorem wb_ix (a b : Nat) : nI a * 10 + nI b = nI (10 * a + b) := by
  rw [show (10 : Int32) = nI 10 from rfl, pk_mul, nI_add, Nat.mul_comm]
theorem c_wb (hn : 15 ≤ h.1) {a b : Nat} (hab : 10 * a + b < 100) : am_m d z_Painter_woolBefore [.ref 8, .int (nI a), .int (nI b)] (dH h τ t B P) (some (.int (B 1 (10 * a + b)))) (dH h τ t B P) := by
  refine ev_go 5 (q := 6) (st' := .int ((_ * 10) + _) :: _) rfl ?_
  rw [wb_ix]
  refine ev_go 2 (q := 8) rfl ?_
  refine ev_if_lt (t := 29) (q := 11) rfl rfl rfl (fun c => absurd c (nI_nlt (b := 0) (by omega) (by omega))) (fun zc1 => ?_)
  refine ev_go 2 (q := 13) rfl ?_
  refine ev_get (q := 16) rfl (d_8 hn) rfl rfl rfl ?_
  refine ev_alen (v := 100) (q := 17) rfl (d_9 hn) (by decide) rfl rfl ?_
  refine ev_icmp_ge (t := 29) (q := 20) rfl rfl rfl (fun c => absurd c (nI_ge (b := 100) (by omega) (by omega))) (fun zc2 => ?_)
  refine ev_go 1 (q := 21) rfl ?_
  refine ev_get (q := 24) rfl (d_8 hn) rfl rfl rfl ?_
  refine ev_go 1 (q := 25) rfl ?_
  refine ev_ialdn (q := 26) rfl (d_9 hn) rfl (by omega) (by decide) rfl ?_
  refine ev_go 1 (q := 30) rfl ?_
  exact ev_iret rfl rfl (rfl) (rfl)
def kb_g (R C u i : Nat) (B : Nat → Nat → Int32) : Nat → Nat → Int32 := va_up B 1 (va_up (B 1) i (if i / 10 < R ∧ i % 10 < C then B 0 (cx (i / 10) (i % 10) u) else 0))
theorem kn_nI {a R : Nat} (hR : R ≤ 10) (ha : a < 100) : (0 ≤ nI a ∧ nI a < nI R) ↔ a < R := by
  constructor
  · intro q; exact (nI_ltI (by omega) (by omega)).mp q.2
  · intro q; exact ⟨nI_le (a := 0) (by omega) (by omega), nI_lt q (by omega)⟩
theorem c_woolX (hn : 15 ≤ h.1) (hR : 1 ≤ R ∧ R ≤ 10) (hC : 1 ≤ C ∧ C ≤ 10) (h0 : τ 0 = nI R) (h1 : τ 1 = nI C) (h2 : τ 2 = nI u) (hu : u < 3) (hd : 0 < d) {i : Nat} (hi : i < 100) : am_m d z_Cloth_woolAt [.ref 1, .int (nI (i / 10)), .int (nI (i % 10)), .int (τ 2)] (dH h τ t B P) (some (.int (if i / 10 < R ∧ i % 10 < C then B 0 (cx (i / 10) (i % 10) u) else 0))) (dH h τ t B P) := by
  by_cases z : i / 10 < R ∧ i % 10 < C
  · rw [if_pos z, h2]; exact c_wool hn hd hR.2 hC.2 h0 h1 z.1 z.2 hu
  · rw [if_neg z]; exact c_wool0 hn hd h0 h1 (fun p => z ⟨(kn_nI hR.2 (by omega)).mp p.1, (kn_nI hC.2 (by omega)).mp p.2⟩)
theorem l_kb (hn : 15 ≤ h.1) (hR : 1 ≤ R ∧ R ≤ 10) (hC : 1 ≤ C ∧ C ≤ 10) (h0 : τ 0 = nI R) (h1 : τ 1 = nI C) (h2 : τ 2 = nI u) (hu : u < 3) (hd : 1 < d) : ∀ (m k : Nat) (B : Nat → Nat → Int32), k + m = 100 → am_ev d z_Painter_keepBefore (45, [some (.ref 8), some (.int (nI 100))], [], dH h τ t (sp_it (kb_g R C u) k m B) P) res h' → am_ev d z_Painter_keepBefore (8, [some (.ref 8), some (.int (nI k))], [.int 100, .int (nI k)], dH h τ t B P) res h'
  | 0, k, B, hm, K => by
    refine ev_icmp_ge (t := 45) (q := 11) rfl rfl rfl (fun _ => ?_) (fun c1 => absurd (nI_end (b := 100) hm (by omega)) c1)
    have hc : k = 100 := hm
    subst hc
    exact K
  | m + 1, k, B, hm, K => by
    refine ev_icmp_ge (t := 45) (q := 11) rfl rfl rfl (fun c1 => absurd c1 (nI_ge (b := 100) (by omega) (by omega))) (fun _ => ?_)
    rw [sp_it] at K
    refine ev_go 1 (q := 12) rfl ?_
    refine ev_get (q := 15) rfl (d_8 hn) rfl rfl rfl ?_
    refine ev_go 2 (q := 17) rfl ?_
    refine ev_get (q := 20) rfl (d_8 hn) rfl rfl rfl ?_
    refine ev_go 2 (q := 23) (st' := .int 10 :: _ :: _ :: _ :: _ :: _) rfl ?_
    refine ev_divn (b := 10) (q := 24) rfl rfl rfl (by decide) (by omega) (by decide) rfl ?_
    refine ev_go 2 (q := 27) (st' := .int 10 :: _ :: _ :: _ :: _ :: _ :: _) rfl ?_
    refine ev_remn (b := 10) (q := 28) rfl rfl rfl (by decide) (by omega) (by decide) rfl ?_
    refine ev_go 1 (q := 29) rfl ?_
    refine ev_get (q := 32) rfl (d_8 hn) rfl rfl rfl ?_
    refine ev_get (q := 35) rfl (d_1 hn) rfl rfl rfl ?_
    refine ev_virt (z' := z_Cloth_woolAt) (q := 38) rfl rfl (by decide) rfl (by simp [Value.category]) rfl (by omega) rfl rfl (d_1 hn) (c_woolX hn hR hC h0 h1 h2 hu (by omega) (by omega)) ?_
    refine ev_iastn (q := 39) rfl (d_9 hn) rfl (by omega) (by decide) rfl ?_
    refine ev_hp du_9 ?_
    refine ev_go 4 (q := 4) rfl ?_
    refine ev_get (q := 7) rfl (d_8 hn) rfl rfl rfl ?_
    refine ev_alen (v := 100) (q := 8) rfl (d_9 hn) (by decide) rfl rfl ?_
    rw [nI_s]
    exact l_kb hn hR hC h0 h1 h2 hu hd m (k + 1) _ (by omega) K
theorem c_keepB (hn : 15 ≤ h.1) (hR : 1 ≤ R ∧ R ≤ 10) (hC : 1 ≤ C ∧ C ≤ 10) (h0 : τ 0 = nI R) (h1 : τ 1 = nI C) (h2 : τ 2 = nI u) (hu : u < 3) (hd : 1 < d) : am_m d z_Painter_keepBefore [.ref 8] (dH h τ t B P) none (dH h τ t (sp_it (kb_g R C u) 0 100 B) P) := by
  refine ev_go 4 (q := 4) rfl ?_
  refine ev_get (q := 7) rfl (d_8 hn) rfl rfl rfl ?_
  refine ev_alen (v := 100) (q := 8) rfl (d_9 hn) (by decide) rfl rfl ?_
  rw [show Int32.ofInt 0 = nI 0 from rfl]
  refine l_kb hn hR hC h0 h1 h2 hu hd 100 0 B (by omega) ?_
  exact ev_vret rfl rfl rfl
def mx_τ (r c : Nat) (τ : Nat → Int32) : Nat → Int32 := va_up (va_up (va_up (va_up τ 18 (mn_c (τ 18) (nI r))) 19 (mn_c (τ 19) (nI c))) 20 (mx_c (τ 20) (nI r))) 21 (mx_c (τ 21) (nI c))
def mx_g (f : Nat → Int32) (r c : Nat) (τ : Nat → Int32) : Nat → Int32 := if f (cx r c 3) = 1 then mx_τ r c τ else τ
theorem mx_far {f : Nat → Int32} {r c : Nat} {τ : Nat → Int32} {j : Nat} (hj : j < 18 ∨ 21 < j) : mx_g f r c τ j = τ j := by
  unfold mx_g mx_τ
  split
  · rw [va_up_ne _ _ (by omega), va_up_ne _ _ (by omega), va_up_ne _ _ (by omega), va_up_ne _ _ (by omega)]
  · rfl
theorem l_mb_in (hn : 15 ≤ h.1) (hR : 1 ≤ R ∧ R ≤ 10) (hC : 1 ≤ C ∧ C ≤ 10) (hd : 1 < d) {r : Nat} (hr : r < R) : ∀ (m c : Nat) (τ : Nat → Int32), τ 0 = nI R ∧ τ 1 = nI C → c + m = C → am_ev d z_Painter_measureBox (114, [some (.ref 8), some (.int (nI r)), some (.int (nI C))], [], dH h (sp_it (mx_g (B 0) r) c m τ) t B P) res h' → am_ev d z_Painter_measureBox (45, [some (.ref 8), some (.int (nI r)), some (.int (nI c))], [.int (nI C), .int (nI c)], dH h τ t B P) res h'
  | 0, c, τ, ht, hm, K => by
    refine ev_icmp_ge (t := 114) (q := 48) rfl rfl rfl (fun _ => ?_) (fun c1 => absurd (nI_end (b := C) hm (by omega)) c1)
    have hc : c = C := hm
    subst hc
    exact K
  | m + 1, c, τ, ht, hm, K => by
    refine ev_icmp_ge (t := 114) (q := 48) rfl rfl rfl (fun c1 => absurd c1 (nI_ge (b := C) (by omega) (by omega))) (fun _ => ?_)
    simp only [sp_it] at K
    refine ev_go 1 (q := 49) rfl ?_
    refine ev_get (q := 52) rfl (d_8 hn) rfl rfl rfl ?_
    refine ev_go 2 (q := 54) rfl ?_
    refine ev_virt (z' := z_Cloth_isChosen) (q := 57) rfl rfl (by decide) rfl (by simp [Value.category]) rfl (by omega) rfl rfl (d_1 hn) (c_chosen hn (by omega) hR.2 hC.2 ht.1 ht.2 hr (by omega)) ?_
    refine ev_if_eq (t := 108) (q := 60) rfl rfl rfl (fun zc1 => ?_) (fun zc1 => ?_)
    · refine ev_go 4 (q := 39) rfl ?_
      refine ev_get (q := 42) rfl (d_8 hn) rfl rfl rfl ?_
      refine ev_get (q := 45) rfl (d_1 hn) rfl rfl rfl ?_
      refine ev_tp (y := nI C) ht.2 ?_
      rw [nI_s]
      rw [show mx_g (B 0) r c τ = τ from if_neg (am_b0.mp zc1)] at K
      exact l_mb_in hn hR hC hd hr m (c + 1) _ ht (by omega) K
    · refine ev_go 2 (q := 62) rfl ?_
      refine ev_get (q := 65) rfl (d_8 hn) rfl rfl rfl ?_
      refine ev_go 1 (q := 66) rfl ?_
      refine ev_static (z' := z_Math_min) (q := 69) rfl rfl (by decide) rfl rfl (by simp [Value.category]) rfl (by omega) j_min ?_
      refine ev_put (q := 72) rfl (d_8 hn) rfl (Nat.le_of_ble_eq_true rfl) rfl rfl rfl ?_
      refine ev_hp du_8_3 ?_
      refine ev_go 2 (q := 74) rfl ?_
      refine ev_get (q := 77) rfl (d_8 hn) rfl rfl rfl ?_
      refine ev_go 1 (q := 78) rfl ?_
      refine ev_static (z' := z_Math_min) (q := 81) rfl rfl (by decide) rfl rfl (by simp [Value.category]) rfl (by omega) j_min ?_
      refine ev_put (q := 84) rfl (d_8 hn) rfl (Nat.le_of_ble_eq_true rfl) rfl rfl rfl ?_
      refine ev_hp du_8_4 ?_
      refine ev_go 2 (q := 86) rfl ?_
      refine ev_get (q := 89) rfl (d_8 hn) rfl rfl rfl ?_
      refine ev_go 1 (q := 90) rfl ?_
      refine ev_static (z' := z_Math_max) (q := 93) rfl rfl (by decide) rfl rfl (by simp [Value.category]) rfl (by omega) j_max ?_
      refine ev_put (q := 96) rfl (d_8 hn) rfl (Nat.le_of_ble_eq_true rfl) rfl rfl rfl ?_
      refine ev_hp du_8_5 ?_
      refine ev_go 2 (q := 98) rfl ?_
      refine ev_get (q := 101) rfl (d_8 hn) rfl rfl rfl ?_
      refine ev_go 1 (q := 102) rfl ?_
      refine ev_static (z' := z_Math_max) (q := 105) rfl rfl (by decide) rfl rfl (by simp [Value.category]) rfl (by omega) j_max ?_
      refine ev_put (q := 108) rfl (d_8 hn) rfl (Nat.le_of_ble_eq_true rfl) rfl rfl rfl ?_
      refine ev_hp du_8_6 ?_
      refine ev_go 4 (q := 39) rfl ?_
      refine ev_get (q := 42) rfl (d_8 hn) rfl rfl rfl ?_
      refine ev_get (q := 45) rfl (d_1 hn) rfl rfl rfl ?_
      refine ev_tp (y := nI C) ht.2 ?_
      rw [nI_s]
      rw [show mx_g (B 0) r c τ = mx_τ r c τ from if_pos (am_bn.mp zc1)] at K
      exact l_mb_in hn hR hC hd hr m (c + 1) _ ht (by omega) K
theorem l_mb_far {f : Nat → Int32} {j r : Nat} (hj : j < 18 ∨ 21 < j) : ∀ (m c : Nat) (τ : Nat → Int32), sp_it (mx_g f r) c m τ j = τ j
  | 0, _, _ => rfl
  | m + 1, c, τ => by rw [sp_it, l_mb_far hj m, mx_far hj]
theorem l_mb_far2 {f : Nat → Int32} {j C : Nat} (hj : j < 18 ∨ 21 < j) : ∀ (m r : Nat) (τ : Nat → Int32), sp_it (fun r => sp_it (mx_g f r) 0 C) r m τ j = τ j
  | 0, _, _ => rfl
  | m + 1, r, τ => by rw [sp_it, l_mb_far2 hj m, l_mb_far hj]
theorem l_mb_out (hn : 15 ≤ h.1) (hR : 1 ≤ R ∧ R ≤ 10) (hC : 1 ≤ C ∧ C ≤ 10) (hd : 1 < d) : ∀ (m r : Nat) (τ : Nat → Int32) (e : Option Value), τ 0 = nI R ∧ τ 1 = nI C → r + m = R → (∀ e : Option Value, am_ev d z_Painter_measureBox (120, [some (.ref 8), some (.int (nI R)), e], [], dH h (sp_it (fun r => sp_it (mx_g (B 0) r) 0 C) r m τ) t B P) res h') → am_ev d z_Painter_measureBox (32, [some (.ref 8), some (.int (nI r)), e], [.int (nI R), .int (nI r)], dH h τ t B P) res h'
  | 0, r, τ, e, ht, hm, K => by
    refine ev_icmp_ge (t := 120) (q := 35) rfl rfl rfl (fun _ => ?_) (fun c1 => absurd (nI_end (b := R) hm (by omega)) c1)
    have hc : r = R := hm
    subst hc
    exact K e
  | m + 1, r, τ, e, ht, hm, K => by
    refine ev_icmp_ge (t := 120) (q := 35) rfl rfl rfl (fun c1 => absurd c1 (nI_ge (b := R) (by omega) (by omega))) (fun _ => ?_)
    simp only [sp_it] at K
    refine ev_go 4 (q := 39) rfl ?_
    refine ev_get (q := 42) rfl (d_8 hn) rfl rfl rfl ?_
    refine ev_get (q := 45) rfl (d_1 hn) rfl rfl rfl ?_
    refine ev_tp (y := nI C) ht.2 ?_
    rw [show Int32.ofInt 0 = nI 0 from rfl]
    refine l_mb_in hn hR hC hd (by omega) C 0 τ ht (by omega) ?_
    refine ev_go 4 (q := 26) rfl ?_
    refine ev_get (q := 29) rfl (d_8 hn) rfl rfl rfl ?_
    refine ev_get (q := 32) rfl (d_1 hn) rfl rfl rfl ?_
    refine ev_tp (y := nI R) ((l_mb_far (by omega) _ _ _).trans ht.1) ?_
    rw [nI_s]
    exact l_mb_out hn hR hC hd m (r + 1) _ _ ⟨(l_mb_far (by omega) _ _ _).trans ht.1, (l_mb_far (by omega) _ _ _).trans ht.2⟩ (by omega) K
abbrev mx_0 (τ : Nat → Int32) : Nat → Int32 := va_up (va_up (va_up (va_up τ 18 10) 19 10) 20 (-1)) 21 (-1)
theorem c_box (hn : 15 ≤ h.1) (hR : 1 ≤ R ∧ R ≤ 10) (hC : 1 ≤ C ∧ C ≤ 10) (h0 : τ 0 = nI R) (h1 : τ 1 = nI C) (hd : 1 < d) : am_m d z_Painter_measureBox [.ref 8] (dH h τ t B P) none (dH h (sp_it (fun r => sp_it (mx_g (B 0) r) 0 C) 0 R (mx_0 τ)) t B P) := by
  refine ev_go 2 (q := 3) (st' := .int 10 :: _ :: _) rfl ?_
  refine ev_put (q := 6) rfl (d_8 hn) rfl (Nat.le_of_ble_eq_true rfl) rfl rfl rfl ?_
  refine ev_hp du_8_3 ?_
  refine ev_go 2 (q := 9) (st' := .int 10 :: _ :: _) rfl ?_
  refine ev_put (q := 12) rfl (d_8 hn) rfl (Nat.le_of_ble_eq_true rfl) rfl rfl rfl ?_
  refine ev_hp du_8_4 ?_
  refine ev_go 2 (q := 14) (st' := .int (-1) :: _ :: _) rfl ?_
  refine ev_put (q := 17) rfl (d_8 hn) rfl (Nat.le_of_ble_eq_true rfl) rfl rfl rfl ?_
  refine ev_hp du_8_5 ?_
  refine ev_go 2 (q := 19) (st' := .int (-1) :: _ :: _) rfl ?_
  refine ev_put (q := 22) rfl (d_8 hn) rfl (Nat.le_of_ble_eq_true rfl) rfl rfl rfl ?_
  refine ev_hp du_8_6 ?_
  refine ev_go 4 (q := 26) rfl ?_
  refine ev_get (q := 29) rfl (d_8 hn) rfl rfl rfl ?_
  refine ev_get (q := 32) rfl (d_1 hn) rfl rfl rfl ?_
  refine ev_tp (y := nI R) h0 ?_
  rw [show Int32.ofInt 0 = nI 0 from rfl]
  refine l_mb_out hn hR hC hd R 0 (mx_0 τ) _ ⟨h0, h1⟩ (by omega) (fun e => ?_)
  exact ev_vret rfl rfl rfl
end D5
