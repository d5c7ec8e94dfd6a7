/-! the class: mend, line, stamp -/
section D7
variable {d : Nat} {h h' : am_H} {res : Option Value} {τ : Nat → Int32} {t : Int64} {B : Nat → Nat → Int32} {P : Nat → Nat → Option Nat} {R C u q o : Nat}
def me_B (R C u : Nat) (a : Int32) (r c : Nat) (B : Nat → Nat → Int32) (la le : Int32) : Nat → Nat → Int32 := if ¬ B 0 (cx r c u) = 0 ∧ B 0 (cx r c u) = la ∧ a ≤ le then va_up B 0 (sp_paint R C u (B 0) (nI r) (nI c) (B 0 (cx r c u) - B 0 (cx r c u) / 9 * 9 + 1)) else B
def me_g (R C u : Nat) (a : Int32) (r c : Nat) (X : (Nat → Nat → Int32) × Int32 × Int32) : (Nat → Nat → Int32) × Int32 × Int32 := (me_B R C u a r c X.1 X.2.1 X.2.2, me_B R C u a r c X.1 X.2.1 X.2.2 0 (cx r c u), if me_B R C u a r c X.1 X.2.1 X.2.2 0 (cx r c u) = X.2.1 then X.2.2 + 1 else 1)
def me_r (R C u : Nat) (a : Int32) (F S r : Nat) (B : Nat → Nat → Int32) : Nat → Nat → Int32 := (sp_it (me_g R C u a r) F (S + 1 - F) (B, 0, 0)).1
theorem l_me_in (hn : 15 ≤ h.1) (hR : 1 ≤ R ∧ R ≤ 10) (hC : 1 ≤ C ∧ C ≤ 10) (h0 : τ 0 = nI R) (h1 : τ 1 = nI C) (h2 : τ 2 = nI u) (hu : u < 3) (hd : 1 < d) {T E F S : Nat} (h18 : τ 18 = nI T) (h19 : τ 19 = nI F) (h20 : τ 20 = nI E) (h21 : τ 21 = nI S) (hT : T ≤ E ∧ E < R) (hF : F ≤ S ∧ S < C) {a : Int32} {r : Nat} (hr : T ≤ r ∧ r ≤ E) : ∀ (m c : Nat) (X : (Nat → Nat → Int32) × Int32 × Int32) (e : Option Value), F ≤ c → c + m = S + 1 → (∀ e : Option Value, am_ev d z_Painter_mend (130, [some (.ref 8), some (.int a), some (.int (nI r)), some (.int (sp_it (me_g R C u a r) c m X).2.1), some (.int (sp_it (me_g R C u a r) c m X).2.2), some (.int (nI (S + 1))), e], [], dH h τ t (sp_it (me_g R C u a r) c m X).1 P) res h') → am_ev d z_Painter_mend (30, [some (.ref 8), some (.int a), some (.int (nI r)), some (.int X.2.1), some (.int X.2.2), some (.int (nI c)), e], [.int (nI S), .int (nI c)], dH h τ t X.1 P) res h'
  | 0, c, X, e, lo, hm, K => by
    refine ev_icmp_gt (t := 130) (q := 33) rfl rfl rfl (fun _ => ?_) (fun c1 => absurd (nI_lt (by omega) (by omega)) c1)
    have hc : c = S + 1 := hm
    subst hc
    exact K e
  | m + 1, c, (B, la, le), e, lo, hm, K => by
    refine ev_icmp_gt (t := 130) (q := 33) rfl rfl rfl (fun c1 => absurd c1 (nI_nlt (by omega) (by omega))) (fun _ => ?_)
    simp only [sp_it] at K
    show am_ev d z_Painter_mend (33, [some (.ref 8), some (.int a), some (.int (nI r)), some (.int la), some (.int le), some (.int (nI c)), e], [], dH h τ t B P) res h'
    have K9 : ∀ e : Option Value, am_ev d z_Painter_mend (86, [some (.ref 8), some (.int a), some (.int (nI r)), some (.int la), some (.int le), some (.int (nI c)), e], [], dH h τ t (me_B R C u a r c B la le) P) res h' := by
      intro e
      refine ev_go 1 (q := 87) rfl ?_
      refine ev_get (q := 90) rfl (d_8 hn) rfl rfl rfl ?_
      refine ev_go 3 (q := 94) rfl ?_
      refine ev_get (q := 97) rfl (d_8 hn) rfl rfl rfl ?_
      refine ev_get (q := 100) rfl (d_1 hn) rfl rfl rfl ?_
      refine ev_tp (y := nI u) h2 ?_
      refine ev_virt (z' := z_Cloth_woolAt) (q := 103) rfl rfl (by decide) rfl (by simp [Value.category]) rfl (by omega) rfl rfl (d_1 hn) (c_wool hn (by omega) hR.2 hC.2 h0 h1 (by omega) (by omega) hu) ?_
      refine ev_go 3 (q := 108) rfl ?_
      refine ev_icmp_ne (t := 118) (q := 111) rfl rfl rfl (fun zc1 => ?_) (fun zc1 => ?_)
      · refine ev_go 8 (q := 27) rfl ?_
        refine ev_get (q := 30) rfl (d_8 hn) rfl rfl rfl ?_
        have ze : me_g R C u a r c (B, la, le) = (me_B R C u a r c B la le, me_B R C u a r c B la le 0 (cx r c u), 1) := congrArg (fun z => (me_B R C u a r c B la le, me_B R C u a r c B la le 0 (cx r c u), z)) (if_neg zc1)
        rw [ze] at K
        refine ev_tp (y := nI S) h21 ?_
        rw [nI_s]
        exact l_me_in hn hR hC h0 h1 h2 hu hd h18 h19 h20 h21 hT hF hr m (c + 1) (me_B R C u a r c B la le, me_B R C u a r c B la le 0 (cx r c u), 1) _ (by omega) (by omega) K
      · refine ev_go 11 (q := 27) rfl ?_
        refine ev_get (q := 30) rfl (d_8 hn) rfl rfl rfl ?_
        have ze : me_g R C u a r c (B, la, le) = (me_B R C u a r c B la le, me_B R C u a r c B la le 0 (cx r c u), le + 1) := congrArg (fun z => (me_B R C u a r c B la le, me_B R C u a r c B la le 0 (cx r c u), z)) (if_pos zc1)
        rw [ze] at K
        refine ev_tp (y := nI S) h21 ?_
        rw [nI_s]
        exact l_me_in hn hR hC h0 h1 h2 hu hd h18 h19 h20 h21 hT hF hr m (c + 1) (me_B R C u a r c B la le, me_B R C u a r c B la le 0 (cx r c u), le + 1) _ (by omega) (by omega) K
    refine ev_go 1 (q := 34) rfl ?_
    refine ev_get (q := 37) rfl (d_8 hn) rfl rfl rfl ?_
    refine ev_go 3 (q := 41) rfl ?_
    refine ev_get (q := 44) rfl (d_8 hn) rfl rfl rfl ?_
    refine ev_get (q := 47) rfl (d_1 hn) rfl rfl rfl ?_
    refine ev_tp (y := nI u) h2 ?_
    refine ev_virt (z' := z_Cloth_woolAt) (q := 50) rfl rfl (by decide) rfl (by simp [Value.category]) rfl (by omega) rfl rfl (d_1 hn) (c_wool hn (by omega) hR.2 hC.2 h0 h1 (by omega) (by omega) hu) ?_
    refine ev_go 2 (q := 54) rfl ?_
    refine ev_if_eq (t := 86) (q := 57) rfl rfl rfl (fun zc1 => ?_) (fun zc1 => ?_)
    · rw [show me_B R C u a r c B la le = B from if_neg (fun p => p.1 zc1)] at K9
      exact K9 _
    · refine ev_go 2 (q := 60) rfl ?_
      refine ev_icmp_ne (t := 86) (q := 63) rfl rfl rfl (fun zc2 => ?_) (fun zc2 => ?_)
      · rw [show me_B R C u a r c B la le = B from if_neg (fun p => zc2 p.2.1)] at K9
        exact K9 _
      · refine ev_go 2 (q := 66) rfl ?_
        refine ev_icmp_lt (t := 86) (q := 69) rfl rfl rfl (fun zc3 => ?_) (fun zc3 => ?_)
        · rw [show me_B R C u a r c B la le = B from if_neg (fun p => Int32.not_lt.mpr p.2.2 zc3)] at K9
          exact K9 _
        · refine ev_go 1 (q := 70) rfl ?_
          refine ev_get (q := 73) rfl (d_8 hn) rfl rfl rfl ?_
          refine ev_go 4 (q := 80) (st' := .int 9 :: _ :: _ :: _ :: _ :: _) rfl ?_
          refine ev_rem (q := 81) rfl (by decide) rfl ?_
          refine ev_go 2 (q := 83) (st' := .int (_ + 1) :: _ :: _ :: _ :: _) rfl ?_
          refine ev_virt (z' := z_Cloth_paint) (q := 86) rfl rfl (by decide) rfl (by simp [Value.category]) rfl (by omega) rfl rfl (d_1 hn) (c_paint hn (by omega) hR.2 hC.2 h0 h1 h2 hu) ?_
          rw [show me_B R C u a r c B la le = _ from if_pos ⟨zc1, zc2, Int32.not_lt.mp zc3⟩] at K9
          exact K9 _
theorem l_me_out (hn : 15 ≤ h.1) (hR : 1 ≤ R ∧ R ≤ 10) (hC : 1 ≤ C ∧ C ≤ 10) (h0 : τ 0 = nI R) (h1 : τ 1 = nI C) (h2 : τ 2 = nI u) (hu : u < 3) (hd : 1 < d) {T E F S : Nat} (h18 : τ 18 = nI T) (h19 : τ 19 = nI F) (h20 : τ 20 = nI E) (h21 : τ 21 = nI S) (hT : T ≤ E ∧ E < R) (hF : F ≤ S ∧ S < C) {a : Int32} : ∀ (m r : Nat) (B : Nat → Nat → Int32) (e0 e1 e2 e3 : Option Value), T ≤ r → r + m = E + 1 → (∀ (e0 e1 e2 e3 : Option Value), am_ev d z_Painter_mend (136, [some (.ref 8), some (.int a), some (.int (nI (E + 1))), e0, e1, e2, e3], [], dH h τ t (sp_it (me_r R C u a F S) r m B) P) res h') → am_ev d z_Painter_mend (10, [some (.ref 8), some (.int a), some (.int (nI r)), e0, e1, e2, e3], [.int (nI E), .int (nI r)], dH h τ t B P) res h'
  | 0, r, B, e0, e1, e2, e3, lo, hm, K => by
    refine ev_icmp_gt (t := 136) (q := 13) rfl rfl rfl (fun _ => ?_) (fun c1 => absurd (nI_lt (by omega) (by omega)) c1)
    have hc : r = E + 1 := hm
    subst hc
    exact K e0 e1 e2 e3
  | m + 1, r, B, e0, e1, e2, e3, lo, hm, K => by
    refine ev_icmp_gt (t := 136) (q := 13) rfl rfl rfl (fun c1 => absurd c1 (nI_nlt (by omega) (by omega))) (fun _ => ?_)
    simp only [sp_it] at K
    refine ev_go 5 (q := 19) rfl ?_
    refine ev_get (q := 22) rfl (d_8 hn) rfl rfl rfl ?_
    refine ev_tp (y := nI F) h19 ?_
    refine ev_go 3 (q := 27) rfl ?_
    refine ev_get (q := 30) rfl (d_8 hn) rfl rfl rfl ?_
    refine ev_tp (y := nI S) h21 ?_
    refine l_me_in hn hR hC h0 h1 h2 hu hd h18 h19 h20 h21 hT hF (by omega) (S + 1 - F) F (B, 0, 0) _ (by omega) (by omega) (fun e => ?_)
    refine ev_go 4 (q := 7) rfl ?_
    refine ev_get (q := 10) rfl (d_8 hn) rfl rfl rfl ?_
    refine ev_tp (y := nI E) h20 ?_
    rw [nI_s]
    exact l_me_out hn hR hC h0 h1 h2 hu hd h18 h19 h20 h21 hT hF m (r + 1) _ _ _ _ _ (by omega) (by omega) K
theorem c_mend (hn : 15 ≤ h.1) (hR : 1 ≤ R ∧ R ≤ 10) (hC : 1 ≤ C ∧ C ≤ 10) (h0 : τ 0 = nI R) (h1 : τ 1 = nI C) (h2 : τ 2 = nI u) (hu : u < 3) (hd : 1 < d) {T E F S : Nat} (h18 : τ 18 = nI T) (h19 : τ 19 = nI F) (h20 : τ 20 = nI E) (h21 : τ 21 = nI S) (hT : T ≤ E ∧ E < R) (hF : F ≤ S ∧ S < C) {a : Int32} : am_m d z_Painter_mend [.ref 8, .int a] (dH h τ t B P) none (dH h τ t (sp_it (me_r R C u a F S) T (E + 1 - T) B) P) := by
  refine ev_go 1 (q := 1) rfl ?_
  refine ev_get (q := 4) rfl (d_8 hn) rfl rfl rfl ?_
  refine ev_tp (y := nI T) h18 ?_
  refine ev_go 3 (q := 7) rfl ?_
  refine ev_get (q := 10) rfl (d_8 hn) rfl rfl rfl ?_
  refine ev_tp (y := nI E) h20 ?_
  refine l_me_out hn hR hC h0 h1 h2 hu hd h18 h19 h20 h21 hT hF (E + 1 - T) T B _ _ _ _ (by omega) (by omega) (fun e0 e1 e2 e3 => ?_)
  exact ev_vret rfl rfl rfl
theorem ln_ab : ∀ a : Nat, a < 10 → ∀ c : Nat, c < 10 → ab_c (nI c - nI a) = nI (if a < c then c - a else a - c) := by decide +kernel
theorem ln_mx : ∀ x : Nat, x < 10 → ∀ y : Nat, y < 10 → mx_c (nI x) (nI y) = nI (if y < x then x else y) := by decide +kernel
theorem ln_fd : ∀ k : Nat, k < 10 → ∀ n : Nat, n < 9 → ∀ a : Nat, a < 10 → ∀ c : Nat, c < 10 → fd_c (2 * nI k * (nI c - nI a) + nI (n + 1)) (2 * nI (n + 1)) = fl_m (2 * nI k * (nI c - nI a) + nI (n + 1)) (2 * nI (n + 1)) := by decide +kernel
theorem ln_fd1 {k n a c : Nat} (hk : k < 10) (hn : 1 ≤ n ∧ n < 10) (ha : a < 10) (hc : c < 10) : nI a + fd_c (2 * nI k * (nI c - nI a) + nI n) (2 * nI n) = ln_m a c n k := by
  obtain ⟨n', rfl⟩ : ∃ n', n = n' + 1 := ⟨n - 1, by omega⟩
  unfold ln_m
  rw [if_neg (by omega), ln_fd k hk n' (by omega) a ha c hc]
theorem ln_n_lt {a b c e : Nat} (ha : a < 10) (hb : b < 10) (hc : c < 10) (he : e < 10) : ln_n a b c e < 10 := by
  unfold ln_n
  dsimp only
  split <;> split <;> split <;> omega
def pl_g (R C u n a b c e : Nat) (x : Int32) (k : Nat) (B : Nat → Nat → Int32) : Nat → Nat → Int32 := va_up B 0 (sp_paint R C u (B 0) (ln_m a c n k) (ln_m b e n k) x)
theorem nI_eq0 {a : Nat} (ha : a < 2 ^ 31) (h : nI a = 0) : a = 0 := by
  have e := congrArg Int32.toInt h
  rw [nI_toInt ha, show (0 : Int32).toInt = 0 by decide] at e
  omega
theorem l_ln (hn : 15 ≤ h.1) (hR : 1 ≤ R ∧ R ≤ 10) (hC : 1 ≤ C ∧ C ≤ 10) (h0 : τ 0 = nI R) (h1 : τ 1 = nI C) (h2 : τ 2 = nI u) (hu : u < 3) (hd : 1 < d) (hq : cmd_at q o) {a b c e : Nat} (g1 : τ (o + 1) = nI a) (g2 : τ (o + 2) = nI b) (g3 : τ (o + 3) = nI c) (g4 : τ (o + 4) = nI e) (ha : a < 10) (hb : b < 10) (hc : c < 10) (he : e < 10) {n : Nat} (hn1 : 1 ≤ n ∧ n < 10) : ∀ (m k : Nat) (B : Nat → Nat → Int32) (e0 e1 : Option Value), k + m = n + 1 → (∀ e0 e1 : Option Value, am_ev d z_Painter_line (142, [some (.ref 8), some (.ref q), some (.int (nI c - nI a)), some (.int (nI e - nI b)), some (.int (nI n)), some (.int (nI (n + 1))), e0, e1], [], dH h τ t (sp_it (pl_g R C u n a b c e (τ (o + 5))) k m B) P) res h') → am_ev d z_Painter_line (65, [some (.ref 8), some (.ref q), some (.int (nI c - nI a)), some (.int (nI e - nI b)), some (.int (nI n)), some (.int (nI k)), e0, e1], [.int (nI n), .int (nI k)], dH h τ t B P) res h'
  | 0, k, B, e0, e1, hm, K => by
    refine ev_icmp_gt (t := 142) (q := 68) rfl rfl rfl (fun _ => ?_) (fun c1 => absurd (nI_lt (by omega) (by omega)) c1)
    have hc : k = n + 1 := hm
    subst hc
    exact K e0 e1
  | m + 1, k, B, e0, e1, hm, K => by
    refine ev_icmp_gt (t := 142) (q := 68) rfl rfl rfl (fun c1 => absurd c1 (nI_nlt (by omega) (by omega))) (fun _ => ?_)
    simp only [sp_it] at K
    refine ev_go 2 (q := 72) (st' := .int 10 :: _ :: _) rfl ?_
    refine ev_icmp_ge (t := 142) (q := 75) rfl rfl rfl (fun c => absurd c (nI_ge (b := 10) (by omega) (by omega))) (fun zc1 => ?_)
    refine ev_go 1 (q := 76) rfl ?_
    refine ev_get (q := 79) rfl (d_cmd hn hq) rfl rfl rfl ?_
    refine ev_tp (y := nI a) g1 ?_
    refine ev_go 10 (q := 92) (st' := .int (2 * _) :: .int (((2 * _) * _) + _) :: _ :: _) rfl ?_
    refine ev_static (z' := z_Math_floorDiv) (q := 95) rfl rfl (by decide) rfl rfl (by simp [Value.category]) rfl (by omega) (j_fd (ln_2n hn1.1 hn1.2)) ?_
    refine ev_go 1 (q := 96) rfl ?_
    rw [ln_fd1 (by omega) hn1 ha hc]
    refine ev_go 2 (q := 99) rfl ?_
    refine ev_get (q := 102) rfl (d_cmd hn hq) rfl rfl rfl ?_
    refine ev_tp (y := nI b) g2 ?_
    refine ev_go 10 (q := 115) (st' := .int (2 * _) :: .int (((2 * _) * _) + _) :: _ :: _) rfl ?_
    refine ev_static (z' := z_Math_floorDiv) (q := 118) rfl rfl (by decide) rfl rfl (by simp [Value.category]) rfl (by omega) (j_fd (ln_2n hn1.1 hn1.2)) ?_
    refine ev_go 1 (q := 119) rfl ?_
    rw [ln_fd1 (by omega) hn1 hb he]
    refine ev_go 2 (q := 122) rfl ?_
    refine ev_get (q := 125) rfl (d_8 hn) rfl rfl rfl ?_
    refine ev_go 3 (q := 130) rfl ?_
    refine ev_get (q := 133) rfl (d_cmd hn hq) rfl rfl rfl ?_
    refine ev_virt (z' := z_Cloth_paint) (q := 136) rfl rfl (by decide) rfl (by simp [Value.category]) rfl (by omega) rfl rfl (d_1 hn) (c_paint hn (by omega) hR.2 hC.2 h0 h1 h2 hu) ?_
    refine ev_go 4 (q := 65) rfl ?_
    rw [nI_s]
    exact l_ln hn hR hC h0 h1 h2 hu hd hq g1 g2 g3 g4 ha hb hc he hn1 m (k + 1) _ _ _ (by omega) K
theorem c_line (hn : 15 ≤ h.1) (hR : 1 ≤ R ∧ R ≤ 10) (hC : 1 ≤ C ∧ C ≤ 10) (h0 : τ 0 = nI R) (h1 : τ 1 = nI C) (h2 : τ 2 = nI u) (hu : u < 3) (hd : 1 < d) (hq : cmd_at q o) {a b c e : Nat} (g1 : τ (o + 1) = nI a) (g2 : τ (o + 2) = nI b) (g3 : τ (o + 3) = nI c) (g4 : τ (o + 4) = nI e) (ha : a < 10) (hb : b < 10) (hc : c < 10) (he : e < 10) : am_m d z_Painter_line [.ref 8, .ref q] (dH h τ t B P) none (dH h τ t (sp_it (pl_g R C u (ln_n a b c e) a b c e (τ (o + 5))) 0 ((ln_n a b c e) + 1) B) P) := by
  have hnn := ln_n_lt ha hb hc he
  refine ev_go 1 (q := 1) rfl ?_
  refine ev_get (q := 4) rfl (d_cmd hn hq) rfl rfl rfl ?_
  refine ev_tp (y := nI c) g3 ?_
  refine ev_go 1 (q := 5) rfl ?_
  refine ev_get (q := 8) rfl (d_cmd hn hq) rfl rfl rfl ?_
  refine ev_tp (y := nI a) g1 ?_
  refine ev_go 3 (q := 11) rfl ?_
  refine ev_get (q := 14) rfl (d_cmd hn hq) rfl rfl rfl ?_
  refine ev_tp (y := nI e) g4 ?_
  refine ev_go 1 (q := 15) rfl ?_
  refine ev_get (q := 18) rfl (d_cmd hn hq) rfl rfl rfl ?_
  refine ev_tp (y := nI b) g2 ?_
  refine ev_go 3 (q := 21) rfl ?_
  refine ev_static (z' := z_Math_abs) (q := 24) rfl rfl (by decide) rfl rfl (by simp [Value.category]) rfl (by omega) j_abs ?_
  refine ev_tp (y := nI (if a < c then c - a else a - c)) (ln_ab a ha c hc) ?_
  refine ev_go 1 (q := 25) rfl ?_
  refine ev_static (z' := z_Math_abs) (q := 28) rfl rfl (by decide) rfl rfl (by simp [Value.category]) rfl (by omega) j_abs ?_
  refine ev_tp (y := nI (if b < e then e - b else b - e)) (ln_ab b hb e he) ?_
  refine ev_static (z' := z_Math_max) (q := 31) rfl rfl (by decide) rfl rfl (by simp [Value.category]) rfl (by omega) j_max ?_
  refine ev_tp (y := nI (ln_n a b c e)) (ln_mx _ (by split <;> omega) _ (by split <;> omega)) ?_
  refine ev_go 2 (q := 35) rfl ?_
  refine ev_if_ne (t := 58) (q := 38) rfl rfl rfl (fun zc1 => ?_) (fun zc1 => ?_)
  · refine ev_go 4 (q := 65) rfl ?_
    rw [show Int32.ofInt 0 = nI 0 from rfl]
    refine l_ln hn hR hC h0 h1 h2 hu hd hq g1 g2 g3 g4 ha hb hc he ⟨Nat.pos_of_ne_zero (fun z9 => zc1 (by rw [z9]; rfl)), hnn⟩ (ln_n a b c e + 1) 0 B _ _ (by omega) (fun e0 e1 => ?_)
    exact ev_vret rfl rfl rfl
  · refine ev_go 1 (q := 39) rfl ?_
    refine ev_get (q := 42) rfl (d_8 hn) rfl rfl rfl ?_
    refine ev_go 1 (q := 43) rfl ?_
    refine ev_get (q := 46) rfl (d_cmd hn hq) rfl rfl rfl ?_
    refine ev_tp (y := nI a) g1 ?_
    refine ev_go 1 (q := 47) rfl ?_
    refine ev_get (q := 50) rfl (d_cmd hn hq) rfl rfl rfl ?_
    refine ev_tp (y := nI b) g2 ?_
    refine ev_go 1 (q := 51) rfl ?_
    refine ev_get (q := 54) rfl (d_cmd hn hq) rfl rfl rfl ?_
    refine ev_virt (z' := z_Cloth_paint) (q := 57) rfl rfl (by decide) rfl (by simp [Value.category]) rfl (by omega) rfl rfl (d_1 hn) (c_paint hn (by omega) hR.2 hC.2 h0 h1 h2 hu) ?_
    exact ev_vret rfl rfl (by
        have zn : ln_n a b c e = 0 := nI_eq0 (by omega) zc1
        rw [zn]; rfl)
theorem st_4 : ∀ k : Nat, k < 8 → nI k &&& 3 = nI (k % 4) := by decide
def ps_g (R C u : Nat) (a b bits x : Int32) (dd k : Nat) (B : Nat → Nat → Int32) : Nat → Nat → Int32 := if (bits >>> (nI k &&& 31)) &&& 1 = 1 then va_up B 0 (sp_paint R C u (B 0) (a - 1 + (st_ij dd k).1) (b - 1 + (st_ij dd k).2) x) else B
theorem l_st_in (hn : 15 ≤ h.1) (hR : 1 ≤ R ∧ R ≤ 10) (hC : 1 ≤ C ∧ C ≤ 10) (h0 : τ 0 = nI R) (h1 : τ 1 = nI C) (h2 : τ 2 = nI u) (hu : u < 3) (hd : 1 < d) (hq : cmd_at q o) {dd : Nat} (g4 : τ (o + 4) = nI dd) (hdd : dd < 8) {k : Nat} : ∀ (m j : Nat) (X : Int32 × Int32) (e : Option Value), j + m = dd % 4 → (∀ e e5 : Option Value, am_ev d z_Painter_stamp (49, [some (.ref 8), some (.ref q), some (.int (nI k)), some (.int (sp_it st_t j m X).1), some (.int (sp_it st_t j m X).2), e5, e], [], dH h τ t B P) res h') → am_ev d z_Painter_stamp (28, [some (.ref 8), some (.ref q), some (.int (nI k)), some (.int X.1), some (.int X.2), some (.int (nI j)), e], [.int (nI (dd % 4)), .int (nI j)], dH h τ t B P) res h'
  | 0, j, X, e, hm, K => by
    refine ev_icmp_ge (t := 49) (q := 31) rfl rfl rfl (fun _ => ?_) (fun c1 => absurd (nI_end (b := dd % 4) hm (by omega)) c1)
    exact K e _
  | m + 1, j, X, e, hm, K => by
    refine ev_icmp_ge (t := 49) (q := 31) rfl rfl rfl (fun c1 => absurd c1 (nI_ge (b := dd % 4) (by omega) (by omega))) (fun _ => ?_)
    simp only [sp_it] at K
    refine ev_go 12 (q := 23) rfl ?_
    refine ev_get (q := 26) rfl (d_cmd hn hq) rfl rfl rfl ?_
    refine ev_tp (y := nI dd) g4 ?_
    refine ev_go 2 (q := 28) (st' := .int (_ &&& 3) :: _ :: _) rfl ?_
    refine ev_tp (y := nI (dd % 4)) (st_4 dd hdd) ?_
    rw [nI_s]
    exact l_st_in hn hR hC h0 h1 h2 hu hd hq g4 hdd m (j + 1) (st_t j X) _ (by omega) K
theorem l_st_out (hn : 15 ≤ h.1) (hR : 1 ≤ R ∧ R ≤ 10) (hC : 1 ≤ C ∧ C ≤ 10) (h0 : τ 0 = nI R) (h1 : τ 1 = nI C) (h2 : τ 2 = nI u) (hu : u < 3) (hd : 1 < d) (hq : cmd_at q o) {dd : Nat} (g4 : τ (o + 4) = nI dd) (hdd : dd < 8) : ∀ (m k : Nat) (B : Nat → Nat → Int32) (e0 e1 e2 e3 : Option Value), k + m = 9 → (∀ e0 e1 e2 e3 : Option Value, am_ev d z_Painter_stamp (109, [some (.ref 8), some (.ref q), some (.int (nI 9)), e0, e1, e2, e3], [], dH h τ t (sp_it (ps_g R C u (τ (o + 1)) (τ (o + 2)) (τ (o + 3)) (τ (o + 5)) dd) k m B) P) res h') → am_ev d z_Painter_stamp (5, [some (.ref 8), some (.ref q), some (.int (nI k)), e0, e1, e2, e3], [.int 9, .int (nI k)], dH h τ t B P) res h'
  | 0, k, B, e0, e1, e2, e3, hm, K => by
    refine ev_icmp_ge (t := 109) (q := 8) rfl rfl rfl (fun _ => ?_) (fun c1 => absurd (nI_end (b := 9) hm (by omega)) c1)
    have hc : k = 9 := hm
    subst hc
    exact K e0 e1 e2 e3
  | m + 1, k, B, e0, e1, e2, e3, hm, K => by
    refine ev_icmp_ge (t := 109) (q := 8) rfl rfl rfl (fun c1 => absurd c1 (nI_ge (b := 9) (by omega) (by omega))) (fun _ => ?_)
    simp only [sp_it] at K
    have K9 : ∀ e2 e3 : Option Value, am_ev d z_Painter_stamp (63, [some (.ref 8), some (.ref q), some (.int (nI k)), some (.int (st_ij dd k).1), some (.int (st_ij dd k).2), e2, e3], [], dH h τ t B P) res h' := by
      intro e2 e3
      refine ev_go 1 (q := 64) rfl ?_
      refine ev_get (q := 67) rfl (d_cmd hn hq) rfl rfl rfl ?_
      refine ev_go 5 (q := 72) (st' := .int 1 :: .int (_ &&& 1) :: _) rfl ?_
      refine ev_icmp_ne (t := 103) (q := 75) rfl rfl rfl (fun zc1 => ?_) (fun zc1 => ?_)
      · refine ev_go 4 (q := 5) (st' := .int 9 :: _ :: _) rfl ?_
        rw [show (ps_g R C u (τ (o + 1)) (τ (o + 2)) (τ (o + 3)) (τ (o + 5)) dd) k B = B from if_neg zc1] at K
        rw [nI_s]
        exact l_st_out hn hR hC h0 h1 h2 hu hd hq g4 hdd m (k + 1) _ _ _ _ _ (by omega) K
      · refine ev_go 1 (q := 76) rfl ?_
        refine ev_get (q := 79) rfl (d_8 hn) rfl rfl rfl ?_
        refine ev_go 1 (q := 80) rfl ?_
        refine ev_get (q := 83) rfl (d_cmd hn hq) rfl rfl rfl ?_
        refine ev_go 5 (q := 88) (st' := _ :: .int ((_ - 1) + _) :: _ :: _) rfl ?_
        refine ev_get (q := 91) rfl (d_cmd hn hq) rfl rfl rfl ?_
        refine ev_go 5 (q := 97) (st' := _ :: .int ((_ - 1) + _) :: _ :: _ :: _) rfl ?_
        refine ev_get (q := 100) rfl (d_cmd hn hq) rfl rfl rfl ?_
        refine ev_virt (z' := z_Cloth_paint) (q := 103) rfl rfl (by decide) rfl (by simp [Value.category]) rfl (by omega) rfl rfl (d_1 hn) (c_paint hn (by omega) hR.2 hC.2 h0 h1 h2 hu) ?_
        refine ev_go 4 (q := 5) (st' := .int 9 :: _ :: _) rfl ?_
        rw [show (ps_g R C u (τ (o + 1)) (τ (o + 2)) (τ (o + 3)) (τ (o + 5)) dd) k B = _ from if_pos zc1] at K
        rw [nI_s]
        exact l_st_out hn hR hC h0 h1 h2 hu hd hq g4 hdd m (k + 1) _ _ _ _ _ (by omega) K
    refine ev_go 2 (q := 10) (st' := .int 3 :: _ :: _) rfl ?_
    refine ev_divn (b := 3) (q := 11) rfl rfl rfl (by decide) (by omega) (by decide) rfl ?_
    refine ev_go 3 (q := 14) (st' := .int 3 :: _ :: _) rfl ?_
    refine ev_remn (b := 3) (q := 15) rfl rfl rfl (by decide) (by omega) (by decide) rfl ?_
    refine ev_go 5 (q := 23) rfl ?_
    refine ev_get (q := 26) rfl (d_cmd hn hq) rfl rfl rfl ?_
    refine ev_tp (y := nI dd) g4 ?_
    refine ev_go 2 (q := 28) (st' := .int (_ &&& 3) :: _ :: _) rfl ?_
    refine ev_tp (y := nI (dd % 4)) (st_4 dd hdd) ?_
    rw [show Int32.ofInt 0 = nI 0 from rfl]
    refine l_st_in hn hR hC h0 h1 h2 hu hd hq g4 hdd (dd % 4) 0 (nI (k / 3), nI (k % 3)) _ (by omega) (fun e e5 => ?_)
    refine ev_go 1 (q := 50) rfl ?_
    refine ev_get (q := 53) rfl (d_cmd hn hq) rfl rfl rfl ?_
    refine ev_tp (y := nI dd) g4 ?_
    refine ev_go 1 (q := 54) (st' := .int 4 :: _ :: _) rfl ?_
    refine ev_icmp_lt (t := 63) (q := 57) rfl rfl rfl (fun zc1 => ?_) (fun zc1 => ?_)
    · have zl : dd ≤ 3 := by have := (nI_ltI (b := 4) (by omega) (by omega)).mp zc1; omega
      rw [show st_ij dd k = sp_it st_t 0 (dd % 4) (nI (k / 3), nI (k % 3)) from by unfold st_ij; dsimp only; rw [if_pos zl]] at K9
      exact K9 _ _
    · refine ev_go 4 (q := 63) rfl ?_
      have zl : ¬ dd ≤ 3 := fun q9 => zc1 (nI_lt (b := 4) (by omega) (by omega))
      rw [show st_ij dd k = ((sp_it st_t 0 (dd % 4) (nI (k / 3), nI (k % 3))).1, 2 - (sp_it st_t 0 (dd % 4) (nI (k / 3), nI (k % 3))).2) from by unfold st_ij; dsimp only; rw [if_neg zl]] at K9
      exact K9 _ _
theorem c_stamp (hn : 15 ≤ h.1) (hR : 1 ≤ R ∧ R ≤ 10) (hC : 1 ≤ C ∧ C ≤ 10) (h0 : τ 0 = nI R) (h1 : τ 1 = nI C) (h2 : τ 2 = nI u) (hu : u < 3) (hd : 1 < d) (hq : cmd_at q o) {dd : Nat} (g4 : τ (o + 4) = nI dd) (hdd : dd < 8) : am_m d z_Painter_stamp [.ref 8, .ref q] (dH h τ t B P) none (dH h τ t (sp_it (ps_g R C u (τ (o + 1)) (τ (o + 2)) (τ (o + 3)) (τ (o + 5)) dd) 0 9 B) P) := by
  refine ev_go 4 (q := 5) (st' := .int 9 :: _ :: _) rfl ?_
  rw [show Int32.ofInt 0 = nI 0 from rfl]
  refine l_st_out hn hR hC h0 h1 h2 hu hd hq g4 hdd 9 0 B _ _ _ _ (by omega) (fun e0 e1 e2 e3 => ?_)
  exact ev_vret rfl rfl rfl
end D7
