/-! the class: the painter's commands in the box -/
section D6
variable {d : Nat} {h h' : am_H} {res : Option Value} {τ : Nat → Int32} {t : Int64} {B : Nat → Nat → Int32} {P : Nat → Nat → Option Nat} {R C u q o : Nat}
theorem pb_3 {a b c : Nat} (hc : c ≤ a + b) : nI a + nI b - nI c = nI (a + b - c) := by rw [nI_add, pk_sub hc]
def pb4_0 (R C u T E F S : Nat) (r c : Nat) (B : Nat → Nat → Int32) : Nat → Nat → Int32 := va_up B 0 (sp_paint R C u (B 0) (nI r) (nI c) (B 1 (10 * r + (F + S - c))))
theorem l_mir0_in (hn : 15 ≤ h.1) (hR : 1 ≤ R ∧ R ≤ 10) (hC : 1 ≤ C ∧ C ≤ 10) (h0 : τ 0 = nI R) (h1 : τ 1 = nI C) (h2 : τ 2 = nI u) (hu : u < 3) (hd : 1 < d) {T E F S : Nat} (h18 : τ 18 = nI T) (h19 : τ 19 = nI F) (h20 : τ 20 = nI E) (h21 : τ 21 = nI S) (hT : T ≤ E ∧ E < R) (hF : F ≤ S ∧ S < C)  {r : Nat} (hr : T ≤ r ∧ r ≤ E) : ∀ (m c : Nat) (B : Nat → Nat → Int32) (e0 : Option Value) (e1 : Option Value), F ≤ c → c + m = S + 1 → (∀ (e0 : Option Value) (e1 : Option Value), am_ev d z_Painter_mirror (92, [some (.ref 8), some (.int 0), some (.int (nI r)), some (.int (nI (S + 1))), e0, e1], [], dH h τ t (sp_it ((pb4_0 R C u T E F S) r) c m B) P) res h') → am_ev d z_Painter_mirror (23, [some (.ref 8), some (.int 0), some (.int (nI r)), some (.int (nI c)), e0, e1], [.int (nI S), .int (nI c)], dH h τ t B P) res h'
  | 0, c, B, e0, e1, lo, hm, K => by
    refine ev_icmp_gt (t := 92) (q := 26) rfl rfl rfl (fun _ => ?_) (fun c1 => absurd (nI_lt (by omega) (by omega)) c1)
    have hc : c = S + 1 := hm
    subst hc
    exact K e0 e1
  | m + 1, c, B, e0, e1, lo, hm, K => by
    refine ev_icmp_gt (t := 92) (q := 26) rfl rfl rfl (fun c1 => absurd c1 (nI_nlt (by omega) (by omega))) (fun _ => ?_)
    simp only [sp_it] at K
    refine ev_go 2 (q := 28) (st' := .int 1 :: _ :: _) rfl ?_
    refine ev_icmp_ne (t := 45) (q := 31) rfl rfl rfl (fun _ => ?_) (fun c => absurd c (by decide))
    refine ev_go 3 (q := 49) rfl ?_
    refine ev_if_ne (t := 66) (q := 52) rfl rfl rfl (fun c => absurd (by decide) c) (fun _ => ?_)
    refine ev_go 1 (q := 53) rfl ?_
    refine ev_get (q := 56) rfl (d_8 hn) rfl rfl rfl ?_
    refine ev_go 1 (q := 57) rfl ?_
    refine ev_get (q := 60) rfl (d_8 hn) rfl rfl rfl ?_
    refine ev_go 3 (q := 63) rfl ?_
    rw [h19, h21, pb_3 (by omega)]
    refine ev_go 3 (q := 70) rfl ?_
    refine ev_get (q := 73) rfl (d_8 hn) rfl rfl rfl ?_
    refine ev_go 5 (q := 80) rfl ?_
    refine ev_virt (z' := z_Painter_woolBefore) (q := 83) rfl rfl (by decide) rfl (by simp [Value.category]) rfl (by omega) rfl rfl (d_8 hn) (c_wb (a := r) (b := F + S - c) hn (by omega)) ?_
    refine ev_virt (z' := z_Cloth_paint) (q := 86) rfl rfl (by decide) rfl (by simp [Value.category]) rfl (by omega) rfl rfl (d_1 hn) (c_paint hn (by omega) hR.2 hC.2 h0 h1 h2 hu) ?_
    refine ev_go 4 (q := 20) rfl ?_
    refine ev_get (q := 23) rfl (d_8 hn) rfl rfl rfl ?_
    refine ev_tp (y := nI S) h21 ?_
    rw [nI_s]
    exact l_mir0_in hn hR hC h0 h1 h2 hu hd h18 h19 h20 h21 hT hF  hr m (c + 1) _ _ _ (by omega) (by omega) K
theorem l_mir0_out (hn : 15 ≤ h.1) (hR : 1 ≤ R ∧ R ≤ 10) (hC : 1 ≤ C ∧ C ≤ 10) (h0 : τ 0 = nI R) (h1 : τ 1 = nI C) (h2 : τ 2 = nI u) (hu : u < 3) (hd : 1 < d) {T E F S : Nat} (h18 : τ 18 = nI T) (h19 : τ 19 = nI F) (h20 : τ 20 = nI E) (h21 : τ 21 = nI S) (hT : T ≤ E ∧ E < R) (hF : F ≤ S ∧ S < C)  : ∀ (m r : Nat) (B : Nat → Nat → Int32) (ec : Option Value) (e0 : Option Value) (e1 : Option Value), T ≤ r → r + m = E + 1 → (∀ (ec : Option Value) (e0 : Option Value) (e1 : Option Value), am_ev d z_Painter_mirror (98, [some (.ref 8), some (.int 0), some (.int (nI (E + 1))), ec, e0, e1], [], dH h τ t (sp_it (fun r => sp_it ((pb4_0 R C u T E F S) r) F (S + 1 - F)) r m B) P) res h') → am_ev d z_Painter_mirror (10, [some (.ref 8), some (.int 0), some (.int (nI r)), ec, e0, e1], [.int (nI E), .int (nI r)], dH h τ t B P) res h'
  | 0, r, B, ec, e0, e1, lo, hm, K => by
    refine ev_icmp_gt (t := 98) (q := 13) rfl rfl rfl (fun _ => ?_) (fun c1 => absurd (nI_lt (by omega) (by omega)) c1)
    have hc : r = E + 1 := hm
    subst hc
    exact K ec e0 e1
  | m + 1, r, B, ec, e0, e1, lo, hm, K => by
    refine ev_icmp_gt (t := 98) (q := 13) rfl rfl rfl (fun c1 => absurd c1 (nI_nlt (by omega) (by omega))) (fun _ => ?_)
    simp only [sp_it] at K
    refine ev_go 1 (q := 14) rfl ?_
    refine ev_get (q := 17) rfl (d_8 hn) rfl rfl rfl ?_
    refine ev_tp (y := nI F) h19 ?_
    refine ev_go 3 (q := 20) rfl ?_
    refine ev_get (q := 23) rfl (d_8 hn) rfl rfl rfl ?_
    refine ev_tp (y := nI S) h21 ?_
    refine l_mir0_in hn hR hC h0 h1 h2 hu hd h18 h19 h20 h21 hT hF  (by omega) (S + 1 - F) F B _ _ (by omega) (by omega) (fun e0 e1 => ?_)
    refine ev_go 4 (q := 7) rfl ?_
    refine ev_get (q := 10) rfl (d_8 hn) rfl rfl rfl ?_
    refine ev_tp (y := nI E) h20 ?_
    rw [nI_s]
    exact l_mir0_out hn hR hC h0 h1 h2 hu hd h18 h19 h20 h21 hT hF  m (r + 1) _ _ _ _ (by omega) (by omega) K
theorem c_mir0 (hn : 15 ≤ h.1) (hR : 1 ≤ R ∧ R ≤ 10) (hC : 1 ≤ C ∧ C ≤ 10) (h0 : τ 0 = nI R) (h1 : τ 1 = nI C) (h2 : τ 2 = nI u) (hu : u < 3) (hd : 1 < d) {T E F S : Nat} (h18 : τ 18 = nI T) (h19 : τ 19 = nI F) (h20 : τ 20 = nI E) (h21 : τ 21 = nI S) (hT : T ≤ E ∧ E < R) (hF : F ≤ S ∧ S < C)  : am_m d z_Painter_mirror [.ref 8, .int 0] (dH h τ t B P) none (dH h τ t (sp_bx (pb4_0 R C u T E F S) T E F S B) P) := by
  refine ev_go 1 (q := 1) rfl ?_
  refine ev_get (q := 4) rfl (d_8 hn) rfl rfl rfl ?_
  refine ev_tp (y := nI T) h18 ?_
  refine ev_go 3 (q := 7) rfl ?_
  refine ev_get (q := 10) rfl (d_8 hn) rfl rfl rfl ?_
  refine ev_tp (y := nI E) h20 ?_
  refine l_mir0_out hn hR hC h0 h1 h2 hu hd h18 h19 h20 h21 hT hF  (E + 1 - T) T B _ _ _ (by omega) (by omega) (fun ec e0 e1 => ?_)
  exact ev_vret rfl rfl rfl
def pb4_1 (R C u T E F S : Nat) (r c : Nat) (B : Nat → Nat → Int32) : Nat → Nat → Int32 := va_up B 0 (sp_paint R C u (B 0) (nI r) (nI c) (B 1 (10 * (T + E - r) + c)))
theorem l_mir1_in (hn : 15 ≤ h.1) (hR : 1 ≤ R ∧ R ≤ 10) (hC : 1 ≤ C ∧ C ≤ 10) (h0 : τ 0 = nI R) (h1 : τ 1 = nI C) (h2 : τ 2 = nI u) (hu : u < 3) (hd : 1 < d) {T E F S : Nat} (h18 : τ 18 = nI T) (h19 : τ 19 = nI F) (h20 : τ 20 = nI E) (h21 : τ 21 = nI S) (hT : T ≤ E ∧ E < R) (hF : F ≤ S ∧ S < C)  {r : Nat} (hr : T ≤ r ∧ r ≤ E) : ∀ (m c : Nat) (B : Nat → Nat → Int32) (e0 : Option Value) (e1 : Option Value), F ≤ c → c + m = S + 1 → (∀ (e0 : Option Value) (e1 : Option Value), am_ev d z_Painter_mirror (92, [some (.ref 8), some (.int 1), some (.int (nI r)), some (.int (nI (S + 1))), e0, e1], [], dH h τ t (sp_it ((pb4_1 R C u T E F S) r) c m B) P) res h') → am_ev d z_Painter_mirror (23, [some (.ref 8), some (.int 1), some (.int (nI r)), some (.int (nI c)), e0, e1], [.int (nI S), .int (nI c)], dH h τ t B P) res h'
  | 0, c, B, e0, e1, lo, hm, K => by
    refine ev_icmp_gt (t := 92) (q := 26) rfl rfl rfl (fun _ => ?_) (fun c1 => absurd (nI_lt (by omega) (by omega)) c1)
    have hc : c = S + 1 := hm
    subst hc
    exact K e0 e1
  | m + 1, c, B, e0, e1, lo, hm, K => by
    refine ev_icmp_gt (t := 92) (q := 26) rfl rfl rfl (fun c1 => absurd c1 (nI_nlt (by omega) (by omega))) (fun _ => ?_)
    simp only [sp_it] at K
    refine ev_go 2 (q := 28) (st' := .int 1 :: _ :: _) rfl ?_
    refine ev_icmp_ne (t := 45) (q := 31) rfl rfl rfl (fun c => absurd (by decide) c) (fun _ => ?_)
    refine ev_go 1 (q := 32) rfl ?_
    refine ev_get (q := 35) rfl (d_8 hn) rfl rfl rfl ?_
    refine ev_go 1 (q := 36) rfl ?_
    refine ev_get (q := 39) rfl (d_8 hn) rfl rfl rfl ?_
    refine ev_go 3 (q := 42) rfl ?_
    rw [h18, h20, pb_3 (by omega)]
    refine ev_go 3 (q := 49) rfl ?_
    refine ev_if_ne (t := 66) (q := 52) rfl rfl rfl (fun _ => ?_) (fun c => absurd c (by decide))
    refine ev_go 3 (q := 70) rfl ?_
    refine ev_get (q := 73) rfl (d_8 hn) rfl rfl rfl ?_
    refine ev_go 5 (q := 80) rfl ?_
    refine ev_virt (z' := z_Painter_woolBefore) (q := 83) rfl rfl (by decide) rfl (by simp [Value.category]) rfl (by omega) rfl rfl (d_8 hn) (c_wb (a := T + E - r) (b := c) hn (by omega)) ?_
    refine ev_virt (z' := z_Cloth_paint) (q := 86) rfl rfl (by decide) rfl (by simp [Value.category]) rfl (by omega) rfl rfl (d_1 hn) (c_paint hn (by omega) hR.2 hC.2 h0 h1 h2 hu) ?_
    refine ev_go 4 (q := 20) rfl ?_
    refine ev_get (q := 23) rfl (d_8 hn) rfl rfl rfl ?_
    refine ev_tp (y := nI S) h21 ?_
    rw [nI_s]
    exact l_mir1_in hn hR hC h0 h1 h2 hu hd h18 h19 h20 h21 hT hF  hr m (c + 1) _ _ _ (by omega) (by omega) K
theorem l_mir1_out (hn : 15 ≤ h.1) (hR : 1 ≤ R ∧ R ≤ 10) (hC : 1 ≤ C ∧ C ≤ 10) (h0 : τ 0 = nI R) (h1 : τ 1 = nI C) (h2 : τ 2 = nI u) (hu : u < 3) (hd : 1 < d) {T E F S : Nat} (h18 : τ 18 = nI T) (h19 : τ 19 = nI F) (h20 : τ 20 = nI E) (h21 : τ 21 = nI S) (hT : T ≤ E ∧ E < R) (hF : F ≤ S ∧ S < C)  : ∀ (m r : Nat) (B : Nat → Nat → Int32) (ec : Option Value) (e0 : Option Value) (e1 : Option Value), T ≤ r → r + m = E + 1 → (∀ (ec : Option Value) (e0 : Option Value) (e1 : Option Value), am_ev d z_Painter_mirror (98, [some (.ref 8), some (.int 1), some (.int (nI (E + 1))), ec, e0, e1], [], dH h τ t (sp_it (fun r => sp_it ((pb4_1 R C u T E F S) r) F (S + 1 - F)) r m B) P) res h') → am_ev d z_Painter_mirror (10, [some (.ref 8), some (.int 1), some (.int (nI r)), ec, e0, e1], [.int (nI E), .int (nI r)], dH h τ t B P) res h'
  | 0, r, B, ec, e0, e1, lo, hm, K => by
    refine ev_icmp_gt (t := 98) (q := 13) rfl rfl rfl (fun _ => ?_) (fun c1 => absurd (nI_lt (by omega) (by omega)) c1)
    have hc : r = E + 1 := hm
    subst hc
    exact K ec e0 e1
  | m + 1, r, B, ec, e0, e1, lo, hm, K => by
    refine ev_icmp_gt (t := 98) (q := 13) rfl rfl rfl (fun c1 => absurd c1 (nI_nlt (by omega) (by omega))) (fun _ => ?_)
    simp only [sp_it] at K
    refine ev_go 1 (q := 14) rfl ?_
    refine ev_get (q := 17) rfl (d_8 hn) rfl rfl rfl ?_
    refine ev_tp (y := nI F) h19 ?_
    refine ev_go 3 (q := 20) rfl ?_
    refine ev_get (q := 23) rfl (d_8 hn) rfl rfl rfl ?_
    refine ev_tp (y := nI S) h21 ?_
    refine l_mir1_in hn hR hC h0 h1 h2 hu hd h18 h19 h20 h21 hT hF  (by omega) (S + 1 - F) F B _ _ (by omega) (by omega) (fun e0 e1 => ?_)
    refine ev_go 4 (q := 7) rfl ?_
    refine ev_get (q := 10) rfl (d_8 hn) rfl rfl rfl ?_
    refine ev_tp (y := nI E) h20 ?_
    rw [nI_s]
    exact l_mir1_out hn hR hC h0 h1 h2 hu hd h18 h19 h20 h21 hT hF  m (r + 1) _ _ _ _ (by omega) (by omega) K
theorem c_mir1 (hn : 15 ≤ h.1) (hR : 1 ≤ R ∧ R ≤ 10) (hC : 1 ≤ C ∧ C ≤ 10) (h0 : τ 0 = nI R) (h1 : τ 1 = nI C) (h2 : τ 2 = nI u) (hu : u < 3) (hd : 1 < d) {T E F S : Nat} (h18 : τ 18 = nI T) (h19 : τ 19 = nI F) (h20 : τ 20 = nI E) (h21 : τ 21 = nI S) (hT : T ≤ E ∧ E < R) (hF : F ≤ S ∧ S < C)  : am_m d z_Painter_mirror [.ref 8, .int 1] (dH h τ t B P) none (dH h τ t (sp_bx (pb4_1 R C u T E F S) T E F S B) P) := by
  refine ev_go 1 (q := 1) rfl ?_
  refine ev_get (q := 4) rfl (d_8 hn) rfl rfl rfl ?_
  refine ev_tp (y := nI T) h18 ?_
  refine ev_go 3 (q := 7) rfl ?_
  refine ev_get (q := 10) rfl (d_8 hn) rfl rfl rfl ?_
  refine ev_tp (y := nI E) h20 ?_
  refine l_mir1_out hn hR hC h0 h1 h2 hu hd h18 h19 h20 h21 hT hF  (E + 1 - T) T B _ _ _ (by omega) (by omega) (fun ec e0 e1 => ?_)
  exact ev_vret rfl rfl rfl
theorem fm_rd : ∀ x : Nat, x < 10 → ∀ i : Nat, i < 41 → ∀ n : Nat, n < 10 → fm_c (nI x - Int32.ofInt ((i : Int) - 20)) (nI (n + 1)) = rd_m (nI x - Int32.ofInt ((i : Int) - 20)) (nI (n + 1)) := by decide +kernel
theorem fm_of {x : Nat} {a : Int32} {n : Nat} (hx : x < 10) (ha : bt (-20) a 20) (hn : 1 ≤ n ∧ n ≤ 10) : fm_c (nI x - a) (nI n) = nI (rd_m (nI x - a) (nI n)).toNatClampNeg ∧ (rd_m (nI x - a) (nI n)).toNatClampNeg < n := by
  have q := rd_of hx ha hn
  refine ⟨?_, q.1⟩
  rw [← q.2]
  have h1 : (-20 : Int32).toInt = -20 := by decide
  have h2 : (20 : Int32).toInt = 20 := by decide
  have g1 := Int32.le_iff_toInt_le.mp ha.1
  have g2 := Int32.le_iff_toInt_le.mp ha.2
  rw [h1] at g1
  rw [h2] at g2
  obtain ⟨i, hi⟩ : ∃ i : Nat, a.toInt + 20 = (i : Int) := ⟨(a.toInt + 20).toNat, by omega⟩
  have ea : a = Int32.ofInt ((i : Int) - 20) := by
    rw [show (i : Int) - 20 = a.toInt by omega, Int32.ofInt_toInt]
  obtain ⟨n', rfl⟩ : ∃ n', n = n' + 1 := ⟨n - 1, by omega⟩
  rw [ea]
  exact fm_rd x hx i (by omega) n' (by omega)
abbrev sh_r (a : Int32) (T E r : Nat) : Nat := (rd_m (nI (r - T) - a) (nI (E - T + 1))).toNatClampNeg
def pb5 (R C u T E F S : Nat) (a b : Int32) (r c : Nat) (B : Nat → Nat → Int32) : Nat → Nat → Int32 := va_up B 0 (sp_paint R C u (B 0) (nI r) (nI c) (B 1 (10 * (T + sh_r a T E r) + (F + sh_r b F S c))))
theorem l_shift_in (hn : 15 ≤ h.1) (hR : 1 ≤ R ∧ R ≤ 10) (hC : 1 ≤ C ∧ C ≤ 10) (h0 : τ 0 = nI R) (h1 : τ 1 = nI C) (h2 : τ 2 = nI u) (hu : u < 3) (hd : 1 < d) {T E F S : Nat} (h18 : τ 18 = nI T) (h19 : τ 19 = nI F) (h20 : τ 20 = nI E) (h21 : τ 21 = nI S) (hT : T ≤ E ∧ E < R) (hF : F ≤ S ∧ S < C) {a b : Int32} (ha : bt (-20) a 20) (hb : bt (-20) b 20) {r : Nat} (hr : T ≤ r ∧ r ≤ E) : ∀ (m c : Nat) (B : Nat → Nat → Int32) (e0 : Option Value) (e1 : Option Value), F ≤ c → c + m = S + 1 → (∀ (e0 : Option Value) (e1 : Option Value), am_ev d z_Painter_shift (133, [some (.ref 8), some (.int a), some (.int b), some (.int (nI (E - T + 1))), some (.int (nI (S - F + 1))), some (.int (nI r)), some (.int (nI (S + 1))), e0, e1], [], dH h τ t (sp_it ((pb5 R C u T E F S a b) r) c m B) P) res h') → am_ev d z_Painter_shift (64, [some (.ref 8), some (.int a), some (.int b), some (.int (nI (E - T + 1))), some (.int (nI (S - F + 1))), some (.int (nI r)), some (.int (nI c)), e0, e1], [.int (nI S), .int (nI c)], dH h τ t B P) res h'
  | 0, c, B, e0, e1, lo, hm, K => by
    refine ev_icmp_gt (t := 133) (q := 67) rfl rfl rfl (fun _ => ?_) (fun c1 => absurd (nI_lt (by omega) (by omega)) c1)
    have hc : c = S + 1 := hm
    subst hc
    exact K e0 e1
  | m + 1, c, B, e0, e1, lo, hm, K => by
    refine ev_icmp_gt (t := 133) (q := 67) rfl rfl rfl (fun c1 => absurd c1 (nI_nlt (by omega) (by omega))) (fun _ => ?_)
    simp only [sp_it] at K
    have q1 : fm_c (nI (r - T) - a) (nI (E - T + 1)) = nI (sh_r a T E r) ∧ sh_r a T E r < E - T + 1 := fm_of (by omega) ha (by omega)
    have q2 : fm_c (nI (c - F) - b) (nI (S - F + 1)) = nI (sh_r b F S c) ∧ sh_r b F S c < S - F + 1 := fm_of (by omega) hb (by omega)
    refine ev_go 1 (q := 68) rfl ?_
    refine ev_get (q := 71) rfl (d_8 hn) rfl rfl rfl ?_
    refine ev_tp (y := nI T) h18 ?_
    refine ev_go 2 (q := 74) rfl ?_
    refine ev_get (q := 77) rfl (d_8 hn) rfl rfl rfl ?_
    refine ev_tp (y := nI T) h18 ?_
    refine ev_go 1 (q := 78) rfl ?_
    rw [pk_sub (by omega : T ≤ r)]
    refine ev_go 3 (q := 81) rfl ?_
    refine ev_static (z' := z_Math_floorMod) (q := 84) rfl rfl (by decide) rfl rfl (by simp [Value.category]) rfl (by omega) (j_fm (nI_ne0 (by omega) (by omega))) ?_
    rw [q1.1]
    refine ev_go 1 (q := 85) rfl ?_
    rw [nI_add]
    refine ev_go 2 (q := 88) rfl ?_
    refine ev_get (q := 91) rfl (d_8 hn) rfl rfl rfl ?_
    refine ev_tp (y := nI F) h19 ?_
    refine ev_go 2 (q := 94) rfl ?_
    refine ev_get (q := 97) rfl (d_8 hn) rfl rfl rfl ?_
    refine ev_tp (y := nI F) h19 ?_
    refine ev_go 1 (q := 98) rfl ?_
    rw [pk_sub (by omega : F ≤ c)]
    refine ev_go 3 (q := 102) rfl ?_
    refine ev_static (z' := z_Math_floorMod) (q := 105) rfl rfl (by decide) rfl rfl (by simp [Value.category]) rfl (by omega) (j_fm (nI_ne0 (by omega) (by omega))) ?_
    rw [q2.1]
    refine ev_go 1 (q := 106) rfl ?_
    rw [nI_add]
    refine ev_go 2 (q := 109) rfl ?_
    refine ev_get (q := 112) rfl (d_8 hn) rfl rfl rfl ?_
    refine ev_go 5 (q := 121) rfl ?_
    refine ev_virt (z' := z_Painter_woolBefore) (q := 124) rfl rfl (by decide) rfl (by simp [Value.category]) rfl (by omega) rfl rfl (d_8 hn) (c_wb (a := T + sh_r a T E r) (b := F + sh_r b F S c) hn (by omega)) ?_
    refine ev_virt (z' := z_Cloth_paint) (q := 127) rfl rfl (by decide) rfl (by simp [Value.category]) rfl (by omega) rfl rfl (d_1 hn) (c_paint hn (by omega) hR.2 hC.2 h0 h1 h2 hu) ?_
    refine ev_go 4 (q := 61) rfl ?_
    refine ev_get (q := 64) rfl (d_8 hn) rfl rfl rfl ?_
    refine ev_tp (y := nI S) h21 ?_
    rw [nI_s]
    exact l_shift_in hn hR hC h0 h1 h2 hu hd h18 h19 h20 h21 hT hF ha hb hr m (c + 1) _ _ _ (by omega) (by omega) K
theorem l_shift_out (hn : 15 ≤ h.1) (hR : 1 ≤ R ∧ R ≤ 10) (hC : 1 ≤ C ∧ C ≤ 10) (h0 : τ 0 = nI R) (h1 : τ 1 = nI C) (h2 : τ 2 = nI u) (hu : u < 3) (hd : 1 < d) {T E F S : Nat} (h18 : τ 18 = nI T) (h19 : τ 19 = nI F) (h20 : τ 20 = nI E) (h21 : τ 21 = nI S) (hT : T ≤ E ∧ E < R) (hF : F ≤ S ∧ S < C) {a b : Int32} (ha : bt (-20) a 20) (hb : bt (-20) b 20) : ∀ (m r : Nat) (B : Nat → Nat → Int32) (ec : Option Value) (e0 : Option Value) (e1 : Option Value), T ≤ r → r + m = E + 1 → (∀ (ec : Option Value) (e0 : Option Value) (e1 : Option Value), am_ev d z_Painter_shift (139, [some (.ref 8), some (.int a), some (.int b), some (.int (nI (E - T + 1))), some (.int (nI (S - F + 1))), some (.int (nI (E + 1))), ec, e0, e1], [], dH h τ t (sp_it (fun r => sp_it ((pb5 R C u T E F S a b) r) F (S + 1 - F)) r m B) P) res h') → am_ev d z_Painter_shift (49, [some (.ref 8), some (.int a), some (.int b), some (.int (nI (E - T + 1))), some (.int (nI (S - F + 1))), some (.int (nI r)), ec, e0, e1], [.int (nI E), .int (nI r)], dH h τ t B P) res h'
  | 0, r, B, ec, e0, e1, lo, hm, K => by
    refine ev_icmp_gt (t := 139) (q := 52) rfl rfl rfl (fun _ => ?_) (fun c1 => absurd (nI_lt (by omega) (by omega)) c1)
    have hc : r = E + 1 := hm
    subst hc
    exact K ec e0 e1
  | m + 1, r, B, ec, e0, e1, lo, hm, K => by
    refine ev_icmp_gt (t := 139) (q := 52) rfl rfl rfl (fun c1 => absurd c1 (nI_nlt (by omega) (by omega))) (fun _ => ?_)
    simp only [sp_it] at K
    refine ev_go 1 (q := 53) rfl ?_
    refine ev_get (q := 56) rfl (d_8 hn) rfl rfl rfl ?_
    refine ev_tp (y := nI F) h19 ?_
    refine ev_go 3 (q := 61) rfl ?_
    refine ev_get (q := 64) rfl (d_8 hn) rfl rfl rfl ?_
    refine ev_tp (y := nI S) h21 ?_
    refine l_shift_in hn hR hC h0 h1 h2 hu hd h18 h19 h20 h21 hT hF ha hb (by omega) (S + 1 - F) F B _ _ (by omega) (by omega) (fun e0 e1 => ?_)
    refine ev_go 4 (q := 46) rfl ?_
    refine ev_get (q := 49) rfl (d_8 hn) rfl rfl rfl ?_
    refine ev_tp (y := nI E) h20 ?_
    rw [nI_s]
    exact l_shift_out hn hR hC h0 h1 h2 hu hd h18 h19 h20 h21 hT hF ha hb m (r + 1) _ _ _ _ (by omega) (by omega) K
theorem c_shift (hn : 15 ≤ h.1) (hR : 1 ≤ R ∧ R ≤ 10) (hC : 1 ≤ C ∧ C ≤ 10) (h0 : τ 0 = nI R) (h1 : τ 1 = nI C) (h2 : τ 2 = nI u) (hu : u < 3) (hd : 1 < d) {T E F S : Nat} (h18 : τ 18 = nI T) (h19 : τ 19 = nI F) (h20 : τ 20 = nI E) (h21 : τ 21 = nI S) (hT : T ≤ E ∧ E < R) (hF : F ≤ S ∧ S < C) {a b : Int32} (ha : bt (-20) a 20) (hb : bt (-20) b 20) : am_m d z_Painter_shift [.ref 8, .int a, .int b] (dH h τ t B P) none (dH h τ t (sp_bx (pb5 R C u T E F S a b) T E F S B) P) := by
  refine ev_go 1 (q := 1) rfl ?_
  refine ev_get (q := 4) rfl (d_8 hn) rfl rfl rfl ?_
  refine ev_tp (y := nI E) h20 ?_
  refine ev_go 1 (q := 5) rfl ?_
  refine ev_get (q := 8) rfl (d_8 hn) rfl rfl rfl ?_
  refine ev_tp (y := nI T) h18 ?_
  refine ev_go 1 (q := 9) rfl ?_
  rw [pk_sub hT.1]
  refine ev_go 2 (q := 11) (st' := .int (_ + 1) :: _) rfl ?_
  rw [nI_1]
  refine ev_go 2 (q := 13) rfl ?_
  refine ev_get (q := 16) rfl (d_8 hn) rfl rfl rfl ?_
  refine ev_tp (y := nI S) h21 ?_
  refine ev_go 1 (q := 17) rfl ?_
  refine ev_get (q := 20) rfl (d_8 hn) rfl rfl rfl ?_
  refine ev_tp (y := nI F) h19 ?_
  refine ev_go 1 (q := 21) rfl ?_
  rw [pk_sub hF.1]
  refine ev_go 2 (q := 23) (st' := .int (_ + 1) :: _) rfl ?_
  rw [nI_1]
  refine ev_go 3 (q := 27) (st' := .int 1 :: _ :: _) rfl ?_
  refine ev_icmp_lt (t := 36) (q := 30) rfl rfl rfl (fun c => absurd c (nI_nlt (b := 1) (by omega) (by omega))) (fun zc1 => ?_)
  refine ev_go 2 (q := 33) (st' := .int 1 :: _ :: _) rfl ?_
  refine ev_icmp_ge (t := 37) (q := 36) rfl rfl rfl (fun zc2 => ?_) (fun c => absurd (nI_le (a := 1) (by omega) (by omega)) c)
  refine ev_go 1 (q := 38) rfl ?_
  refine ev_get (q := 41) rfl (d_8 hn) rfl rfl rfl ?_
  refine ev_tp (y := nI T) h18 ?_
  refine ev_go 3 (q := 46) rfl ?_
  refine ev_get (q := 49) rfl (d_8 hn) rfl rfl rfl ?_
  refine ev_tp (y := nI E) h20 ?_
  refine l_shift_out hn hR hC h0 h1 h2 hu hd h18 h19 h20 h21 hT hF ha hb (E + 1 - T) T B _ _ _ (by omega) (by omega) (fun ec e0 e1 => ?_)
  exact ev_vret rfl rfl rfl
abbrev bo_p (a : Int32) (T E F S r c : Nat) : Prop := (nI r < nI T + a ∨ nI E - a < nI r) ∨ (nI c < nI F + a ∨ nI S - a < nI c)
def pb6 (R C u T E F S : Nat) (a x : Int32) (r c : Nat) (B : Nat → Nat → Int32) : Nat → Nat → Int32 := if bo_p a T E F S r c then va_up B 0 (sp_paint R C u (B 0) (nI r) (nI c) x) else B
theorem l_border_in (hn : 15 ≤ h.1) (hR : 1 ≤ R ∧ R ≤ 10) (hC : 1 ≤ C ∧ C ≤ 10) (h0 : τ 0 = nI R) (h1 : τ 1 = nI C) (h2 : τ 2 = nI u) (hu : u < 3) (hd : 1 < d) {T E F S : Nat} (h18 : τ 18 = nI T) (h19 : τ 19 = nI F) (h20 : τ 20 = nI E) (h21 : τ 21 = nI S) (hT : T ≤ E ∧ E < R) (hF : F ≤ S ∧ S < C) {a x : Int32} {r : Nat} (hr : T ≤ r ∧ r ≤ E) : ∀ (m c : Nat) (B : Nat → Nat → Int32) (e0 : Option Value) (e1 : Option Value), F ≤ c → c + m = S + 1 → (∀ (e0 : Option Value) (e1 : Option Value), am_ev d z_Painter_border (111, [some (.ref 8), some (.int a), some (.int x), some (.int (nI r)), some (.int (nI (S + 1))), e0, e1], [], dH h τ t (sp_it ((pb6 R C u T E F S a x) r) c m B) P) res h') → am_ev d z_Painter_border (25, [some (.ref 8), some (.int a), some (.int x), some (.int (nI r)), some (.int (nI c)), e0, e1], [.int (nI S), .int (nI c)], dH h τ t B P) res h'
  | 0, c, B, e0, e1, lo, hm, K => by
    refine ev_icmp_gt (t := 111) (q := 28) rfl rfl rfl (fun _ => ?_) (fun c1 => absurd (nI_lt (by omega) (by omega)) c1)
    have hc : c = S + 1 := hm
    subst hc
    exact K e0 e1
  | m + 1, c, B, e0, e1, lo, hm, K => by
    refine ev_icmp_gt (t := 111) (q := 28) rfl rfl rfl (fun c1 => absurd c1 (nI_nlt (by omega) (by omega))) (fun _ => ?_)
    simp only [sp_it] at K
    have K6 : ∀ y1 y2 : Int32, ((y1 = 1 ∧ (nI r < nI T + a ∨ nI E - a < nI r)) ∨ (y1 = 0 ∧ ¬ (nI r < nI T + a ∨ nI E - a < nI r))) → ((y2 = 1 ∧ (nI c < nI F + a ∨ nI S - a < nI c)) ∨ (y2 = 0 ∧ ¬ (nI c < nI F + a ∨ nI S - a < nI c))) → am_ev d z_Painter_border (84, [some (.ref 8), some (.int a), some (.int x), some (.int (nI r)), some (.int (nI c)), some (.int y1), some (.int y2)], [], dH h τ t B P) res h' := by
      intro y1 y2 hy1 hy2
      refine ev_go 1 (q := 86) rfl ?_
      refine ev_if_ne (t := 94) (q := 89) rfl rfl rfl (fun zc1 => ?_) (fun zc1 => ?_)
      · refine ev_go 1 (q := 95) rfl ?_
        refine ev_get (q := 98) rfl (d_8 hn) rfl rfl rfl ?_
        refine ev_go 3 (q := 102) rfl ?_
        refine ev_virt (z' := z_Cloth_paint) (q := 105) rfl rfl (by decide) rfl (by simp [Value.category]) rfl (by omega) rfl rfl (d_1 hn) (c_paint hn (by omega) hR.2 hC.2 h0 h1 h2 hu) ?_
        refine ev_go 4 (q := 22) rfl ?_
        refine ev_get (q := 25) rfl (d_8 hn) rfl rfl rfl ?_
        rw [show pb6 R C u T E F S a x r c B = va_up B 0 (sp_paint R C u (B 0) (nI r) (nI c) x) from if_pos (Or.inl (hy1.elim (fun q => q.2) (fun q => absurd q.1 zc1)))] at K
        refine ev_tp (y := nI S) h21 ?_
        rw [nI_s]
        exact l_border_in hn hR hC h0 h1 h2 hu hd h18 h19 h20 h21 hT hF  hr m (c + 1) _ _ _ (by omega) (by omega) K
      · refine ev_go 1 (q := 91) rfl ?_
        refine ev_if_eq (t := 105) (q := 94) rfl rfl rfl (fun zc2 => ?_) (fun zc2 => ?_)
        · refine ev_go 4 (q := 22) rfl ?_
          refine ev_get (q := 25) rfl (d_8 hn) rfl rfl rfl ?_
          rw [show pb6 R C u T E F S a x r c B = B from if_neg (fun p => p.elim (hy1.elim (fun q => absurd (q.1.symm.trans zc1) (by decide)) (fun q => q.2)) (hy2.elim (fun q => absurd (q.1.symm.trans zc2) (by decide)) (fun q => q.2)))] at K
          refine ev_tp (y := nI S) h21 ?_
          rw [nI_s]
          exact l_border_in hn hR hC h0 h1 h2 hu hd h18 h19 h20 h21 hT hF  hr m (c + 1) _ _ _ (by omega) (by omega) K
        · refine ev_go 1 (q := 95) rfl ?_
          refine ev_get (q := 98) rfl (d_8 hn) rfl rfl rfl ?_
          refine ev_go 3 (q := 102) rfl ?_
          refine ev_virt (z' := z_Cloth_paint) (q := 105) rfl rfl (by decide) rfl (by simp [Value.category]) rfl (by omega) rfl rfl (d_1 hn) (c_paint hn (by omega) hR.2 hC.2 h0 h1 h2 hu) ?_
          refine ev_go 4 (q := 22) rfl ?_
          refine ev_get (q := 25) rfl (d_8 hn) rfl rfl rfl ?_
          rw [show pb6 R C u T E F S a x r c B = va_up B 0 (sp_paint R C u (B 0) (nI r) (nI c) x) from if_pos (Or.inr (hy2.elim (fun q => q.2) (fun q => absurd q.1 zc2)))] at K
          refine ev_tp (y := nI S) h21 ?_
          rw [nI_s]
          exact l_border_in hn hR hC h0 h1 h2 hu hd h18 h19 h20 h21 hT hF  hr m (c + 1) _ _ _ (by omega) (by omega) K
    have K5 : ∀ y1 : Int32, ((y1 = 1 ∧ (nI r < nI T + a ∨ nI E - a < nI r)) ∨ (y1 = 0 ∧ ¬ (nI r < nI T + a ∨ nI E - a < nI r))) → am_ev d z_Painter_border (55, [some (.ref 8), some (.int a), some (.int x), some (.int (nI r)), some (.int (nI c)), some (.int y1), e1], [], dH h τ t B P) res h' := by
      intro y1 hy1
      refine ev_go 2 (q := 58) rfl ?_
      refine ev_get (q := 61) rfl (d_8 hn) rfl rfl rfl ?_
      refine ev_tp (y := nI F) h19 ?_
      refine ev_go 2 (q := 63) rfl ?_
      refine ev_icmp_lt (t := 77) (q := 66) rfl rfl rfl (fun zc1 => ?_) (fun zc1 => ?_)
      · refine ev_go 3 (q := 84) rfl ?_
        exact K6 y1 1 hy1 (Or.inl ⟨rfl, Or.inl zc1⟩)
      · refine ev_go 2 (q := 69) rfl ?_
        refine ev_get (q := 72) rfl (d_8 hn) rfl rfl rfl ?_
        refine ev_tp (y := nI S) h21 ?_
        refine ev_go 2 (q := 74) rfl ?_
        refine ev_icmp_le (t := 81) (q := 77) rfl rfl rfl (fun zc2 => ?_) (fun zc2 => ?_)
        · refine ev_go 2 (q := 84) rfl ?_
          exact K6 y1 0 hy1 (Or.inr ⟨rfl, fun p => p.elim zc1 (fun p => Int32.not_lt.mpr zc2 p)⟩)
        · refine ev_go 3 (q := 84) rfl ?_
          exact K6 y1 1 hy1 (Or.inl ⟨rfl, Or.inr (Int32.not_le.mp zc2)⟩)
    refine ev_go 2 (q := 30) rfl ?_
    refine ev_get (q := 33) rfl (d_8 hn) rfl rfl rfl ?_
    refine ev_tp (y := nI T) h18 ?_
    refine ev_go 2 (q := 35) rfl ?_
    refine ev_icmp_lt (t := 48) (q := 38) rfl rfl rfl (fun zc1 => ?_) (fun zc1 => ?_)
    · refine ev_go 3 (q := 55) rfl ?_
      exact K5 1 (Or.inl ⟨rfl, Or.inl zc1⟩)
    · refine ev_go 2 (q := 40) rfl ?_
      refine ev_get (q := 43) rfl (d_8 hn) rfl rfl rfl ?_
      refine ev_tp (y := nI E) h20 ?_
      refine ev_go 2 (q := 45) rfl ?_
      refine ev_icmp_le (t := 52) (q := 48) rfl rfl rfl (fun zc2 => ?_) (fun zc2 => ?_)
      · refine ev_go 2 (q := 55) rfl ?_
        exact K5 0 (Or.inr ⟨rfl, fun p => p.elim zc1 (fun p => Int32.not_lt.mpr zc2 p)⟩)
      · refine ev_go 3 (q := 55) rfl ?_
        exact K5 1 (Or.inl ⟨rfl, Or.inr (Int32.not_le.mp zc2)⟩)
theorem l_border_out (hn : 15 ≤ h.1) (hR : 1 ≤ R ∧ R ≤ 10) (hC : 1 ≤ C ∧ C ≤ 10) (h0 : τ 0 = nI R) (h1 : τ 1 = nI C) (h2 : τ 2 = nI u) (hu : u < 3) (hd : 1 < d) {T E F S : Nat} (h18 : τ 18 = nI T) (h19 : τ 19 = nI F) (h20 : τ 20 = nI E) (h21 : τ 21 = nI S) (hT : T ≤ E ∧ E < R) (hF : F ≤ S ∧ S < C) {a x : Int32} : ∀ (m r : Nat) (B : Nat → Nat → Int32) (ec : Option Value) (e0 : Option Value) (e1 : Option Value), T ≤ r → r + m = E + 1 → (∀ (ec : Option Value) (e0 : Option Value) (e1 : Option Value), am_ev d z_Painter_border (117, [some (.ref 8), some (.int a), some (.int x), some (.int (nI (E + 1))), ec, e0, e1], [], dH h τ t (sp_it (fun r => sp_it ((pb6 R C u T E F S a x) r) F (S + 1 - F)) r m B) P) res h') → am_ev d z_Painter_border (10, [some (.ref 8), some (.int a), some (.int x), some (.int (nI r)), ec, e0, e1], [.int (nI E), .int (nI r)], dH h τ t B P) res h'
  | 0, r, B, ec, e0, e1, lo, hm, K => by
    refine ev_icmp_gt (t := 117) (q := 13) rfl rfl rfl (fun _ => ?_) (fun c1 => absurd (nI_lt (by omega) (by omega)) c1)
    have hc : r = E + 1 := hm
    subst hc
    exact K ec e0 e1
  | m + 1, r, B, ec, e0, e1, lo, hm, K => by
    refine ev_icmp_gt (t := 117) (q := 13) rfl rfl rfl (fun c1 => absurd c1 (nI_nlt (by omega) (by omega))) (fun _ => ?_)
    simp only [sp_it] at K
    refine ev_go 1 (q := 14) rfl ?_
    refine ev_get (q := 17) rfl (d_8 hn) rfl rfl rfl ?_
    refine ev_tp (y := nI F) h19 ?_
    refine ev_go 3 (q := 22) rfl ?_
    refine ev_get (q := 25) rfl (d_8 hn) rfl rfl rfl ?_
    refine ev_tp (y := nI S) h21 ?_
    refine l_border_in hn hR hC h0 h1 h2 hu hd h18 h19 h20 h21 hT hF  (by omega) (S + 1 - F) F B _ _ (by omega) (by omega) (fun e0 e1 => ?_)
    refine ev_go 4 (q := 7) rfl ?_
    refine ev_get (q := 10) rfl (d_8 hn) rfl rfl rfl ?_
    refine ev_tp (y := nI E) h20 ?_
    rw [nI_s]
    exact l_border_out hn hR hC h0 h1 h2 hu hd h18 h19 h20 h21 hT hF  m (r + 1) _ _ _ _ (by omega) (by omega) K
theorem c_border (hn : 15 ≤ h.1) (hR : 1 ≤ R ∧ R ≤ 10) (hC : 1 ≤ C ∧ C ≤ 10) (h0 : τ 0 = nI R) (h1 : τ 1 = nI C) (h2 : τ 2 = nI u) (hu : u < 3) (hd : 1 < d) {T E F S : Nat} (h18 : τ 18 = nI T) (h19 : τ 19 = nI F) (h20 : τ 20 = nI E) (h21 : τ 21 = nI S) (hT : T ≤ E ∧ E < R) (hF : F ≤ S ∧ S < C) {a x : Int32} : am_m d z_Painter_border [.ref 8, .int a, .int x] (dH h τ t B P) none (dH h τ t (sp_bx (pb6 R C u T E F S a x) T E F S B) P) := by
  refine ev_go 1 (q := 1) rfl ?_
  refine ev_get (q := 4) rfl (d_8 hn) rfl rfl rfl ?_
  refine ev_tp (y := nI T) h18 ?_
  refine ev_go 3 (q := 7) rfl ?_
  refine ev_get (q := 10) rfl (d_8 hn) rfl rfl rfl ?_
  refine ev_tp (y := nI E) h20 ?_
  refine l_border_out hn hR hC h0 h1 h2 hu hd h18 h19 h20 h21 hT hF  (E + 1 - T) T B _ _ _ (by omega) (by omega) (fun ec e0 e1 => ?_)
  exact ev_vret rfl rfl rfl
def pb7 (R C u : Nat) (a b : Int32) (r c : Nat) (B : Nat → Nat → Int32) : Nat → Nat → Int32 := if B 1 (10 * r + c) = a then va_up B 0 (sp_paint R C u (B 0) (nI r) (nI c) b) else if B 1 (10 * r + c) = b then va_up B 0 (sp_paint R C u (B 0) (nI r) (nI c) a) else B
theorem l_swap_in (hn : 15 ≤ h.1) (hR : 1 ≤ R ∧ R ≤ 10) (hC : 1 ≤ C ∧ C ≤ 10) (h0 : τ 0 = nI R) (h1 : τ 1 = nI C) (h2 : τ 2 = nI u) (hu : u < 3) (hd : 1 < d) {T E F S : Nat} (h18 : τ 18 = nI T) (h19 : τ 19 = nI F) (h20 : τ 20 = nI E) (h21 : τ 21 = nI S) (hT : T ≤ E ∧ E < R) (hF : F ≤ S ∧ S < C) {a b : Int32} {r : Nat} (hr : T ≤ r ∧ r ≤ E) : ∀ (m c : Nat) (B : Nat → Nat → Int32) (e0 : Option Value), F ≤ c → c + m = S + 1 → (∀ (e0 : Option Value), am_ev d z_Painter_swap (80, [some (.ref 8), some (.int a), some (.int b), some (.int (nI r)), some (.int (nI (S + 1))), e0], [], dH h τ t (sp_it ((pb7 R C u a b) r) c m B) P) res h') → am_ev d z_Painter_swap (25, [some (.ref 8), some (.int a), some (.int b), some (.int (nI r)), some (.int (nI c)), e0], [.int (nI S), .int (nI c)], dH h τ t B P) res h'
  | 0, c, B, e0, lo, hm, K => by
    refine ev_icmp_gt (t := 80) (q := 28) rfl rfl rfl (fun _ => ?_) (fun c1 => absurd (nI_lt (by omega) (by omega)) c1)
    have hc : c = S + 1 := hm
    subst hc
    exact K e0
  | m + 1, c, B, e0, lo, hm, K => by
    refine ev_icmp_gt (t := 80) (q := 28) rfl rfl rfl (fun c1 => absurd c1 (nI_nlt (by omega) (by omega))) (fun _ => ?_)
    simp only [sp_it] at K
    refine ev_go 3 (q := 32) rfl ?_
    refine ev_virt (z' := z_Painter_woolBefore) (q := 35) rfl rfl (by decide) rfl (by simp [Value.category]) rfl (by omega) rfl rfl (d_8 hn) (c_wb (a := r) (b := c) hn (by omega)) ?_
    refine ev_go 3 (q := 40) rfl ?_
    refine ev_icmp_ne (t := 57) (q := 43) rfl rfl rfl (fun zc1 => ?_) (fun zc1 => ?_)
    · refine ev_go 2 (q := 60) rfl ?_
      refine ev_icmp_ne (t := 74) (q := 63) rfl rfl rfl (fun zc2 => ?_) (fun zc2 => ?_)
      · refine ev_go 4 (q := 22) rfl ?_
        refine ev_get (q := 25) rfl (d_8 hn) rfl rfl rfl ?_
        rw [show pb7 R C u a b r c B = B from (if_neg zc1).trans (if_neg zc2)] at K
        refine ev_tp (y := nI S) h21 ?_
        rw [nI_s]
        exact l_swap_in hn hR hC h0 h1 h2 hu hd h18 h19 h20 h21 hT hF  hr m (c + 1) _ _ (by omega) (by omega) K
      · refine ev_go 1 (q := 64) rfl ?_
        refine ev_get (q := 67) rfl (d_8 hn) rfl rfl rfl ?_
        refine ev_go 3 (q := 71) rfl ?_
        refine ev_virt (z' := z_Cloth_paint) (q := 74) rfl rfl (by decide) rfl (by simp [Value.category]) rfl (by omega) rfl rfl (d_1 hn) (c_paint hn (by omega) hR.2 hC.2 h0 h1 h2 hu) ?_
        refine ev_go 4 (q := 22) rfl ?_
        refine ev_get (q := 25) rfl (d_8 hn) rfl rfl rfl ?_
        rw [show pb7 R C u a b r c B = _ from (if_neg zc1).trans (if_pos zc2)] at K
        refine ev_tp (y := nI S) h21 ?_
        rw [nI_s]
        exact l_swap_in hn hR hC h0 h1 h2 hu hd h18 h19 h20 h21 hT hF  hr m (c + 1) _ _ (by omega) (by omega) K
    · refine ev_go 1 (q := 44) rfl ?_
      refine ev_get (q := 47) rfl (d_8 hn) rfl rfl rfl ?_
      refine ev_go 3 (q := 51) rfl ?_
      refine ev_virt (z' := z_Cloth_paint) (q := 54) rfl rfl (by decide) rfl (by simp [Value.category]) rfl (by omega) rfl rfl (d_1 hn) (c_paint hn (by omega) hR.2 hC.2 h0 h1 h2 hu) ?_
      refine ev_go 5 (q := 22) rfl ?_
      refine ev_get (q := 25) rfl (d_8 hn) rfl rfl rfl ?_
      rw [show pb7 R C u a b r c B = _ from if_pos zc1] at K
      refine ev_tp (y := nI S) h21 ?_
      rw [nI_s]
      exact l_swap_in hn hR hC h0 h1 h2 hu hd h18 h19 h20 h21 hT hF  hr m (c + 1) _ _ (by omega) (by omega) K
theorem l_swap_out (hn : 15 ≤ h.1) (hR : 1 ≤ R ∧ R ≤ 10) (hC : 1 ≤ C ∧ C ≤ 10) (h0 : τ 0 = nI R) (h1 : τ 1 = nI C) (h2 : τ 2 = nI u) (hu : u < 3) (hd : 1 < d) {T E F S : Nat} (h18 : τ 18 = nI T) (h19 : τ 19 = nI F) (h20 : τ 20 = nI E) (h21 : τ 21 = nI S) (hT : T ≤ E ∧ E < R) (hF : F ≤ S ∧ S < C) {a b : Int32} : ∀ (m r : Nat) (B : Nat → Nat → Int32) (ec : Option Value) (e0 : Option Value), T ≤ r → r + m = E + 1 → (∀ (ec : Option Value) (e0 : Option Value), am_ev d z_Painter_swap (86, [some (.ref 8), some (.int a), some (.int b), some (.int (nI (E + 1))), ec, e0], [], dH h τ t (sp_it (fun r => sp_it ((pb7 R C u a b) r) F (S + 1 - F)) r m B) P) res h') → am_ev d z_Painter_swap (10, [some (.ref 8), some (.int a), some (.int b), some (.int (nI r)), ec, e0], [.int (nI E), .int (nI r)], dH h τ t B P) res h'
  | 0, r, B, ec, e0, lo, hm, K => by
    refine ev_icmp_gt (t := 86) (q := 13) rfl rfl rfl (fun _ => ?_) (fun c1 => absurd (nI_lt (by omega) (by omega)) c1)
    have hc : r = E + 1 := hm
    subst hc
    exact K ec e0
  | m + 1, r, B, ec, e0, lo, hm, K => by
    refine ev_icmp_gt (t := 86) (q := 13) rfl rfl rfl (fun c1 => absurd c1 (nI_nlt (by omega) (by omega))) (fun _ => ?_)
    simp only [sp_it] at K
    refine ev_go 1 (q := 14) rfl ?_
    refine ev_get (q := 17) rfl (d_8 hn) rfl rfl rfl ?_
    refine ev_tp (y := nI F) h19 ?_
    refine ev_go 3 (q := 22) rfl ?_
    refine ev_get (q := 25) rfl (d_8 hn) rfl rfl rfl ?_
    refine ev_tp (y := nI S) h21 ?_
    refine l_swap_in hn hR hC h0 h1 h2 hu hd h18 h19 h20 h21 hT hF  (by omega) (S + 1 - F) F B _ (by omega) (by omega) (fun e0 => ?_)
    refine ev_go 4 (q := 7) rfl ?_
    refine ev_get (q := 10) rfl (d_8 hn) rfl rfl rfl ?_
    refine ev_tp (y := nI E) h20 ?_
    rw [nI_s]
    exact l_swap_out hn hR hC h0 h1 h2 hu hd h18 h19 h20 h21 hT hF  m (r + 1) _ _ _ (by omega) (by omega) K
theorem c_swap (hn : 15 ≤ h.1) (hR : 1 ≤ R ∧ R ≤ 10) (hC : 1 ≤ C ∧ C ≤ 10) (h0 : τ 0 = nI R) (h1 : τ 1 = nI C) (h2 : τ 2 = nI u) (hu : u < 3) (hd : 1 < d) {T E F S : Nat} (h18 : τ 18 = nI T) (h19 : τ 19 = nI F) (h20 : τ 20 = nI E) (h21 : τ 21 = nI S) (hT : T ≤ E ∧ E < R) (hF : F ≤ S ∧ S < C) {a b : Int32} : am_m d z_Painter_swap [.ref 8, .int a, .int b] (dH h τ t B P) none (dH h τ t (sp_bx (pb7 R C u a b) T E F S B) P) := by
  refine ev_go 1 (q := 1) rfl ?_
  refine ev_get (q := 4) rfl (d_8 hn) rfl rfl rfl ?_
  refine ev_tp (y := nI T) h18 ?_
  refine ev_go 3 (q := 7) rfl ?_
  refine ev_get (q := 10) rfl (d_8 hn) rfl rfl rfl ?_
  refine ev_tp (y := nI E) h20 ?_
  refine l_swap_out hn hR hC h0 h1 h2 hu hd h18 h19 h20 h21 hT hF  (E + 1 - T) T B _ _ (by omega) (by omega) (fun ec e0 => ?_)
  exact ev_vret rfl rfl rfl
end D6
