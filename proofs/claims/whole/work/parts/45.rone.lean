/-! one command: both sides -/
theorem rdy5 (R C : Nat) (s : Int32) (v : Nat → Int32) (t : Int64) : ∀ n : Nat, rdy R C s v t n = rdy R C s (fun j => if j = 0 then v 0 else if j = 1 then v 1 else if j = 2 then v 2 else if j = 3 then v 3 else v 4) t n
  | 0 => rfl
  | 1 => rfl
  | 2 => rfl
  | 3 => rfl
  | 4 => rfl
  | 5 => rfl
  | 6 => rfl
  | 7 => rfl
  | 8 => rfl
  | 9 => rfl
  | 10 => rfl
  | 11 => rfl
  | _ + 12 => rfl
theorem rdy_if {R C : Nat} {s s' : Int32} {v v' : Nat → Int32} {t : Int64} {n : Nat} (hs : s = s') (hv : ∀ j, j < 5 → v j = v' j) : rdy R C s v t n = rdy R C s' v' t n := by
  rw [rdy5 R C s v, rdy5 R C s' v', hs, hv 0 (by omega), hv 1 (by omega), hv 2 (by omega), hv 3 (by omega), hv 4 (by omega)]
def GP (x : Int32 × Int64) : Prop := x.1 = 0 ∨ 0 < x.1
theorem gp_ite {p : Prop} [Decidable p] {a b : Int32 × Int64} (ha : GP a) (hb : GP b) : GP (if p then a else b) := by
  split
  · exact ha
  · exact hb
theorem gp_num {p : Prop} [Decidable p] {t : Int64} : GP (if p then 0 else 4, t) := by
  show (if p then (0 : Int32) else 4) = 0 ∨ 0 < (if p then (0 : Int32) else 4)
  split
  · exact Or.inl rfl
  · exact Or.inr (by decide)
theorem gp_1 {t : Int64} : GP (1, t) := Or.inr (show (0 : Int32) < 1 by decide)
theorem gp_2 {t : Int64} : GP (2, t) := Or.inr (show (0 : Int32) < 2 by decide)
theorem gp_3 {t : Int64} : GP (3, t) := Or.inr (show (0 : Int32) < 3 by decide)
theorem rdy_gp (R C : Nat) (s : Int32) (v : Nat → Int32) (t : Int64) : ∀ n : Nat, GP (rdy R C s v t n)
  | 0 => gp_ite (gp_ite gp_num gp_2) gp_1
  | 1 => gp_ite (gp_ite gp_num gp_2) gp_1
  | 2 => gp_ite (gp_ite (gp_ite gp_num gp_2) gp_1) gp_1
  | 3 => gp_ite (gp_ite gp_num gp_2) gp_1
  | 4 => gp_ite gp_3 (gp_ite gp_num gp_2)
  | 5 => gp_ite gp_3 (gp_ite gp_num gp_2)
  | 6 => gp_ite gp_3 (gp_ite gp_num gp_2)
  | 7 => gp_ite gp_3 (gp_ite gp_num gp_2)
  | 8 => gp_ite gp_3 (gp_ite gp_num gp_2)
  | 9 => gp_ite gp_num gp_1
  | 10 => gp_ite gp_num gp_2
  | 11 => gp_ite gp_num gp_1
  | _ + 12 => gp_ite gp_num gp_1
def CF (j : Nat) : Prop := j = 0 ∨ j = 1 ∨ (3 < j ∧ j < 6) ∨ j = 7 ∨ (10 < j ∧ j < 18) ∨ 21 < j
def SF (j : Nat) : Prop := j < 5 ∨ (6 < j ∧ j < 26) ∨ (27 < j ∧ j < 32) ∨ 35 < j
def AF (j : Nat) : Prop := 1 < j ∧ j ≠ 16 ∧ j ≠ 17
def CmdPost (kd : Int32) (R C : Nat) (e x : Int32) (σ τ : Nat → Int32) (A B : Nat → Nat → Int32) (σ2 τ2 : Nat → Int32) (A2 B2 : Nat → Nat → Int32) (u2 : Nat) : Prop := (CR R C A2 (B2 0) ∧ u2 < 3 ∧ σ2 5 = nI u2 ∧ τ2 2 = nI u2 ∧ σ2 6 = τ2 3) ∧ (τ2 8 = τ 8 + 1 ∧ σ2 26 = σ 26 + 1) ∧ ((x = 0 ∧ τ2 6 = τ 6 ∧ τ2 9 = τ 9 ∧ τ2 10 = τ 10 ∧ σ2 27 = σ 27) ∨ (0 < x ∧ τ2 6 = x ∧ τ2 9 = kd ∧ τ2 10 = e ∧ σ2 27 = kd)) ∧ (∀ j, CF j → τ2 j = τ j) ∧ (∀ j, SF j → σ2 j = σ j) ∧ ∀ j, AF j → A2 j = A j
def CmdOK (d dm : Nat) (kd : Int32) (q R C : Nat) (h : am_H) (e : Int32) (σ τ : Nat → Int32) (t : Int64) (A B : Nat → Nat → Int32) (P : Nat → Nat → Option Nat) : Prop := ∃ (x : Int32) (τ2 : Nat → Int32) (t2 : Int64) (B2 : Nat → Nat → Int32) (σ2 : Nat → Int32) (A2 : Nat → Nat → Int32) (u2 : Nat), am_m d z_Runner_perform [.ref 5, .ref q, .int e] (dH h τ t B P) none (dH h τ2 t2 B2 P) ∧ (∀ h' : am_H, 43 ≤ h'.1 → am_m dm z_Model_does [.ref 18, .int kd] (mH h' σ t A) (some (.int x)) (mH h' σ2 t2 A2)) ∧ CmdPost kd R C e x σ τ A B σ2 τ2 A2 B2 u2
section RC
variable {d dm R C u q o : Nat} {h : am_H} {e : Int32} {σ τ : Nat → Int32} {t : Int64} {A B : Nat → Nat → Int32} {P : Nat → Nat → Option Nat}
theorem r15 (hv : ∀ j, j < 5 → A 15 j = τ (o + (j + 1))) {j : Nat} (hj : j < 5) : (ms_box u (md_1 σ) A).2 15 j = τ (o + (j + 1)) := by
  rw [mb_farA u _ _ (by omega : (15 : Nat) ≠ 16)]
  exact hv j hj
theorem p8_o (hq : cmd_at q o) {j : Nat} : p8 τ (o + j) = τ (o + j) := va_up_ne _ _ (by have := cmd_o hq; omega)
theorem bx_o (hq : cmd_at q o) {j : Nat} (hj : j < 6) : bx_τ R C B (p8 τ) (o + j) = τ (o + j) := (bx_keep (by have := cmd_o hq; omega)).trans (p8_o hq)
theorem fr_p8 {j : Nat} (hj : CF j) : p8 τ j = τ j := va_up_ne _ _ (by unfold CF at hj; omega)
theorem fr_bx {j : Nat} (hj : CF j) : bx_τ R C B (p8 τ) j = τ j := (bx_keep (by unfold CF at hj; omega)).trans (fr_p8 hj)
theorem fr_ms {j : Nat} (hj : SF j) : (ms_box u (md_1 σ) A).1 j = σ j := (mb_far u _ _ (by unfold SF at hj; omega)).trans (va_up_ne _ _ (by unfold SF at hj; omega))
theorem fr_A1 {j : Nat} (hj : AF j) : (ms_box u (md_1 σ) A).2 j = A j := mb_farA u _ _ hj.2.1
theorem ms_rest : (ms_box u (md_1 σ) A).1 5 = σ 5 ∧ (ms_box u (md_1 σ) A).1 6 = σ 6 ∧ (ms_box u (md_1 σ) A).1 26 = σ 26 + 1 ∧ (ms_box u (md_1 σ) A).1 27 = σ 27 := ⟨mb_far u _ _ (by omega), mb_far u _ _ (by omega), mb_far u _ _ (by omega), mb_far u _ _ (by omega)⟩
theorem CR_1 (hcr : CR R C A (B 0)) : CR R C (ms_box u (md_1 σ) A).2 (B 0) := CR_of hcr (mb_farA u _ _ (by omega)) (mb_farA u _ _ (by omega))
theorem CR_1k (hcr : CR R C A (B 0)) : CR R C (ms_box u (md_1 σ) A).2 (kb_B R C u B 0) := by
  unfold kb_B
  rw [kb_far R C u (by omega)]
  exact CR_1 hcr
theorem W_1k (hu : u < 3) (hcr : CR R C A (B 0)) : W16 (ms_box u (md_1 σ) A).2 (kb_B R C u B) := fun j hj => ⟨kb_16 hu hcr hj, by rw [mb_16a u _ _ hj]; exact hcr.2.2 _⟩
/-- what a doing command that changes only cells leaves -/
theorem post_0 {kd : Int32} {τ2 : Nat → Int32} {A2 B2 : Nat → Nat → Int32} (hu : u < 3) (h2 : τ 2 = nI u) (s5 : σ 5 = nI u) (s6 : σ 6 = τ 3) (hc : CR R C A2 (B2 0)) (t1 : τ2 2 = τ 2 ∧ τ2 3 = τ 3 ∧ τ2 8 = τ 8 + 1 ∧ τ2 6 = τ 6 ∧ τ2 9 = τ 9 ∧ τ2 10 = τ 10) (t2 : ∀ j, CF j → τ2 j = τ j) (a2 : ∀ j, AF j → A2 j = A j) : CmdPost kd R C e 0 σ τ A B (ms_box u (md_1 σ) A).1 τ2 A2 B2 u := by
  obtain ⟨m1, m2, m3, m4⟩ := ms_rest (u := u) (σ := σ) (A := A)
  exact ⟨⟨hc, hu, m1.trans s5, t1.1.trans h2, by rw [m2, t1.2.1, s6]⟩, ⟨t1.2.2.1, m3⟩, Or.inl ⟨rfl, t1.2.2.2.1, t1.2.2.2.2.1, t1.2.2.2.2.2, m4⟩, t2, fun j hj => fr_ms hj, a2⟩
theorem t_p8 : p8 τ 2 = τ 2 ∧ p8 τ 3 = τ 3 ∧ p8 τ 8 = τ 8 + 1 ∧ p8 τ 6 = τ 6 ∧ p8 τ 9 = τ 9 ∧ p8 τ 10 = τ 10 := ⟨rfl, rfl, rfl, rfl, rfl, rfl⟩
theorem t_bx : bx_τ R C B (p8 τ) 2 = τ 2 ∧ bx_τ R C B (p8 τ) 3 = τ 3 ∧ bx_τ R C B (p8 τ) 8 = τ 8 + 1 ∧ bx_τ R C B (p8 τ) 6 = τ 6 ∧ bx_τ R C B (p8 τ) 9 = τ 9 ∧ bx_τ R C B (p8 τ) 10 = τ 10 := ⟨bx_keep (by omega), bx_keep (by omega), bx_keep (by omega), bx_keep (by omega), bx_keep (by omega), bx_keep (by omega)⟩
theorem it_far {g : Nat → (Nat → Nat → Int32) → (Nat → Nat → Int32)} {j m c : Nat} {A : Nat → Nat → Int32} (hg : ∀ k A, g k A j = A j) : sp_it g c m A j = A j := it_15 hg m c A
theorem sb_far {g : Nat → Nat → (Nat → Nat → Int32) → (Nat → Nat → Int32)} {T E F S j : Nat} {A : Nat → Nat → Int32} (hg : ∀ r c A, g r c A j = A j) : sp_bx g T E F S A j = A j := it_15 (fun r A => it_15 (hg r) _ _ A) _ _ A
theorem r_c0 (hd : 7 < d) (hdm : 3 < dm) (hn : 15 ≤ h.1) (hR : 1 ≤ R ∧ R ≤ 10) (hC : 1 ≤ C ∧ C ≤ 10) (h0 : τ 0 = nI R) (h1 : τ 1 = nI C) (s1 : σ 1 = nI R) (s2 : σ 2 = nI C) (hq : cmd_at q o) (hu : u < 3) (h2 : τ 2 = nI u) (s5 : σ 5 = nI u) (s6 : σ 6 = τ 3) (hcr : CR R C A (B 0)) (hv : ∀ j, j < 5 → A 15 j = τ (o + (j + 1))) (hk : τ o = 0) : CmdOK d dm 0 q R C h e σ τ t A B P := by
  have es : ms_sel A = sp_sel (B 0) R C := r_sel hR.2 hC.2 hcr
  have er : (rdy R C (ms_sel A) (A 15) t 0) = (rdy R C (sp_sel (B 0) R C) (cv o τ) t 0) := rdy_if es hv
  have hs := CR_pos hR.2 hC.2 hcr
  by_cases zx : (rdy R C (sp_sel (B 0) R C) (cv o τ) t 0).1 = 0
  · have zp0 : cl_kn R C (cv o τ 0) (cv o τ 1) := Classical.byContradiction (fun z => absurd zx (by rw [show rdy R C (sp_sel (B 0) R C) (cv o τ) t 0 = (1, t + 1000) from if_neg z]; show ¬ (1 : Int32) = 0; decide))
    have zp1 : bt 0 (cv o τ 4) 9 := Classical.byContradiction (fun z => absurd zx (by rw [show rdy R C (sp_sel (B 0) R C) (cv o τ) t 0 = (2, t + 1000 + 10) from (if_pos zp0).trans (if_neg z)]; show ¬ (2 : Int32) = 0; decide))
    have zp2 : True := trivial
    have zr : (rdy R C (ms_sel A) (A 15) t 0).1 = 0 := by rw [er]; exact zx
    obtain ⟨wy, wy1, wx⟩ := bt_nat (n := 9) (by omega) zp1
    have a0 := r15 (u := u) (σ := σ) hv (show 0 < 5 by omega)
    have a1 := r15 (u := u) (σ := σ) hv (show 1 < 5 by omega)
    have a4 := r15 (u := u) (σ := σ) hv (show 4 < 5 by omega)
    have c9 := c_paint (d := d - 1 - 1) (h := h) (τ := p8 τ) (t := (rdy R C (sp_sel (B 0) R C) (cv o τ) t 0).2) (B := B) (P := P) (R := R) (C := C) (u := u) (r := p8 τ (o + 1)) (c := p8 τ (o + 2)) (x := p8 τ (o + 5)) hn (by omega) hR.2 hC.2 h0 h1 h2 hu
    have c8 := c_co0 (h := h) (τ := p8 τ) (t := (rdy R C (sp_sel (B 0) R C) (cv o τ) t 0).2) (B := B) (P := P) hn hR hC h0 h1 h2 hu (by omega) hq ((va_up_ne _ _ (by have := cmd_o hq; omega)).trans hk) (c9)
    rw [p8_o hq, p8_o hq, p8_o hq] at c8
    refine ⟨0, p8 τ, (rdy R C (sp_sel (B 0) R C) (cv o τ) t 0).2, va_up B 0 (sp_paint R C u (B 0) (τ (o + 1)) (τ (o + 2)) (τ (o + 5))), (ms_box u (md_1 σ) A).1, ms_paint R C u (ms_box u (md_1 σ) A).2 (τ (o + 1)) (τ (o + 2)) (τ (o + 5)), u, c_pf0 hn hR hC h0 h1 (by omega) hq hk hs zx c8, fun h' hn' => ?_, post_0 hu h2 s5 s6 (r_0 hR.2 hC.2 hu (CR_1 hcr) (show wy < 10 by omega) wx) t_p8 (fun j hj => fr_p8 hj) (fun j hj => (pt_15 _ _ _ _ _ _ _ _ (by unfold AF at hj; omega)).trans (fr_A1 hj))⟩
    have q9 := m_does0 (d := dm) (h := h') (σ := σ) (t := t) (A := A) hn' (by omega) hR hC s1 s2 s5 hu zr
    rw [er, a0, a1, a4] at q9
    exact q9
  · have hx0 : 0 < (rdy R C (sp_sel (B 0) R C) (cv o τ) t 0).1 := by
      exact (rdy_gp _ _ _ _ _ _).resolve_left zx
    refine ⟨(rdy R C (sp_sel (B 0) R C) (cv o τ) t 0).1, va_up (va_up (va_up (p8 τ) 6 (rdy R C (sp_sel (B 0) R C) (cv o τ) t 0).1) 9 0) 10 e, (rdy R C (sp_sel (B 0) R C) (cv o τ) t 0).2, B, va_up (md_1 σ) 27 0, A, u, c_pfF0 hn hR hC h0 h1 (by omega) hq hk hs rfl zx, fun h' hn' => ?_, ⟨hcr, hu, s5, h2, s6⟩, ⟨rfl, rfl⟩, Or.inr ⟨hx0, rfl, rfl, rfl, rfl⟩, fun j hj => ?_, fun j hj => ?_, fun j hj => rfl⟩
    · have q9 := m_doesF0 (d := dm) (h := h') (σ := σ) (t := t) (A := A) hn' (by omega) hR hC s1 s2 rfl (by rw [er]; exact hx0)
      rw [er] at q9
      exact q9
    · unfold CF at hj
      rw [va_up_ne _ _ (by omega), va_up_ne _ _ (by omega), va_up_ne _ _ (by omega)]
      exact va_up_ne _ _ (by omega)
    · unfold SF at hj
      rw [va_up_ne _ _ (by omega)]
      exact va_up_ne _ _ (by omega)
theorem r_c1 (hd : 7 < d) (hdm : 3 < dm) (hn : 15 ≤ h.1) (hR : 1 ≤ R ∧ R ≤ 10) (hC : 1 ≤ C ∧ C ≤ 10) (h0 : τ 0 = nI R) (h1 : τ 1 = nI C) (s1 : σ 1 = nI R) (s2 : σ 2 = nI C) (hq : cmd_at q o) (hu : u < 3) (h2 : τ 2 = nI u) (s5 : σ 5 = nI u) (s6 : σ 6 = τ 3) (hcr : CR R C A (B 0)) (hv : ∀ j, j < 5 → A 15 j = τ (o + (j + 1))) (hk : τ o = 1) : CmdOK d dm 1 q R C h e σ τ t A B P := by
  have es : ms_sel A = sp_sel (B 0) R C := r_sel hR.2 hC.2 hcr
  have er : (rdy R C (ms_sel A) (A 15) t 1) = (rdy R C (sp_sel (B 0) R C) (cv o τ) t 1) := rdy_if es hv
  have hs := CR_pos hR.2 hC.2 hcr
  by_cases zx : (rdy R C (sp_sel (B 0) R C) (cv o τ) t 1).1 = 0
  · have zp0 : cl_kn R C (cv o τ 0) (cv o τ 1) := Classical.byContradiction (fun z => absurd zx (by rw [show rdy R C (sp_sel (B 0) R C) (cv o τ) t 1 = (1, t + 1000) from if_neg z]; show ¬ (1 : Int32) = 0; decide))
    have zp1 : bt 0 (cv o τ 4) 9 := Classical.byContradiction (fun z => absurd zx (by rw [show rdy R C (sp_sel (B 0) R C) (cv o τ) t 1 = (2, t + 1000 + 10) from (if_pos zp0).trans (if_neg z)]; show ¬ (2 : Int32) = 0; decide))
    have zp2 : True := trivial
    have zr : (rdy R C (ms_sel A) (A 15) t 1).1 = 0 := by rw [er]; exact zx
    obtain ⟨wy, wy1, wx⟩ := bt_nat (n := 9) (by omega) zp1
    obtain ⟨a, b, ha, hb, ea, eb⟩ := kn_of hR.2 hC.2 zp0
    have ea2 : τ (o + 1) = nI a := ea
    have eb2 : τ (o + 2) = nI b := eb
    have a0 : A 15 0 = nI a := (hv 0 (by omega)).trans ea
    have b0 : A 15 1 = nI b := (hv 1 (by omega)).trans eb
    have a4 := r15 (u := u) (σ := σ) hv (show 4 < 5 by omega)
    have ar : p8 τ (o + 1) = nI a ∧ p8 τ (o + 2) = nI b ∧ p8 τ (o + 5) = τ (o + 5) := ⟨(p8_o hq).trans ea, (p8_o hq).trans eb, p8_o hq⟩
    have c7 : ∀ H : am_H, am_m (d - 1 - 1) z_Painter_fill [.ref 8, .int (nI a), .int (nI b), .int (τ (o + 5))] (dH h (p8 τ) (rdy R C (sp_sel (B 0) R C) (cv o τ) t 1).2 B P) none H → am_m (d - 1) z_Painter_carryOut [.ref 8, .ref q] (dH h (p8 τ) (rdy R C (sp_sel (B 0) R C) (cv o τ) t 1).2 B P) none H := by
      intro H c9
      rw [← ar.1, ← ar.2.1, ← ar.2.2] at c9
      exact c_co1 (h := h) (τ := p8 τ) (t := (rdy R C (sp_sel (B 0) R C) (cv o τ) t 1).2) (B := B) (P := P) hn hR hC h0 h1 h2 hu (by omega) hq ((va_up_ne _ _ (by have := cmd_o hq; omega)).trans hk) (c9)
    by_cases zs : B 0 (cx a b 3) = 1
    · have zsA : ¬ A 1 (10 * a + b) = 0 := (CR_sel hcr ha hb).mpr zs
      have hm : ∀ h' : am_H, 43 ≤ h'.1 → am_m dm z_Model_does [.ref 18, .int 1] (mH h' σ t A) (some (.int 0)) (mH h' (ms_box u (md_1 σ) A).1 (rdy R C (sp_sel (B 0) R C) (cv o τ) t 1).2 (ms_fill R C u (10 * a + b) (τ (o + 5)) (ms_box u (md_1 σ) A).2)) := by
        intro h' hn'
        have q9 := m_does1y (d := dm) (h := h') (σ := σ) (t := t) (A := A) hn' (by omega) hR hC s1 s2 s5 hu a0 b0 ⟨by omega, by omega⟩ zsA zr
        rw [er, a4] at q9
        exact q9
      have fA : ∀ j, AF j → ms_fill R C u (10 * a + b) (τ (o + 5)) (ms_box u (md_1 σ) A).2 j = A j := by
        intro j hj
        unfold ms_fill
        rw [it_far (fun k A9 => by
          unfold fl_pt
          split
          · rfl
          · exact pt_15 _ _ _ _ _ _ _ _ (by unfold AF at hj; omega)), va_up_ne _ _ hj.2.2]
        exact fr_A1 hj
      by_cases zw : B 0 (cx a b u) = τ (o + 5)
      · exact ⟨0, p8 τ, (rdy R C (sp_sel (B 0) R C) (cv o τ) t 1).2, B, (ms_box u (md_1 σ) A).1, _, u, c_pf1 hn hR hC h0 h1 (by omega) hq hk hs zx (c7 _ (c_fill0 (d := d - 1 - 1) (h := h) (τ := p8 τ) hn hR hC h0 h1 h2 hu ha hb (by omega) (Or.inl zw))), hm, post_0 hu h2 s5 s6 (r_1s hR.2 hC.2 hu hcr (mb_farA u _ _ (by omega)) (mb_farA u _ _ (by omega)) (fun j hj => mb_16a u _ _ hj) ha hb zs zw) t_p8 (fun j hj => fr_p8 hj) fA⟩
      · obtain ⟨ρ, g, q1, q2, q3⟩ := c_fill (d := d - 1 - 1) (h := h) (τ := p8 τ) (t := (rdy R C (sp_sel (B 0) R C) (cv o τ) t 1).2) (B := B) (P := P) hn hR hC h0 h1 h2 hu ha hb zs zw (by omega)
        exact ⟨0, p8 τ, (rdy R C (sp_sel (B 0) R C) (cv o τ) t 1).2, _, (ms_box u (md_1 σ) A).1, _, u, c_pf1 hn hR hC h0 h1 (by omega) hq hk hs zx (c7 _ q3), hm, post_0 hu h2 s5 s6 (r_1 hR.2 hC.2 hu (show wy < 10 by omega) wx hcr (mb_farA u _ _ (by omega)) (mb_farA u _ _ (by omega)) (fun j hj => mb_16a u _ _ hj) ha hb zs q1) t_p8 (fun j hj => fr_p8 hj) fA⟩
    · have zsA : A 1 (10 * a + b) = 0 := Classical.not_not.mp (fun z => zs ((CR_sel hcr ha hb).mp z))
      refine ⟨0, p8 τ, (rdy R C (sp_sel (B 0) R C) (cv o τ) t 1).2, B, (ms_box u (md_1 σ) A).1, (ms_box u (md_1 σ) A).2, u, c_pf1 hn hR hC h0 h1 (by omega) hq hk hs zx (c7 _ (c_fill0 (d := d - 1 - 1) (h := h) (τ := p8 τ) hn hR hC h0 h1 h2 hu ha hb (by omega) (Or.inr zs))), fun h' hn' => ?_, post_0 hu h2 s5 s6 (CR_1 hcr) t_p8 (fun j hj => fr_p8 hj) (fun j hj => fr_A1 hj)⟩
      have q9 := m_does1n (d := dm) (h := h') (σ := σ) (t := t) (A := A) hn' (by omega) hR hC s1 s2 s5 hu a0 b0 ⟨by omega, by omega⟩ zsA zr
      rw [er] at q9
      exact q9
  · have hx0 : 0 < (rdy R C (sp_sel (B 0) R C) (cv o τ) t 1).1 := by
      exact (rdy_gp _ _ _ _ _ _).resolve_left zx
    refine ⟨(rdy R C (sp_sel (B 0) R C) (cv o τ) t 1).1, va_up (va_up (va_up (p8 τ) 6 (rdy R C (sp_sel (B 0) R C) (cv o τ) t 1).1) 9 1) 10 e, (rdy R C (sp_sel (B 0) R C) (cv o τ) t 1).2, B, va_up (md_1 σ) 27 1, A, u, c_pfF1 hn hR hC h0 h1 (by omega) hq hk hs rfl zx, fun h' hn' => ?_, ⟨hcr, hu, s5, h2, s6⟩, ⟨rfl, rfl⟩, Or.inr ⟨hx0, rfl, rfl, rfl, rfl⟩, fun j hj => ?_, fun j hj => ?_, fun j hj => rfl⟩
    · have q9 := m_doesF1 (d := dm) (h := h') (σ := σ) (t := t) (A := A) hn' (by omega) hR hC s1 s2 rfl (by rw [er]; exact hx0)
      rw [er] at q9
      exact q9
    · unfold CF at hj
      rw [va_up_ne _ _ (by omega), va_up_ne _ _ (by omega), va_up_ne _ _ (by omega)]
      exact va_up_ne _ _ (by omega)
    · unfold SF at hj
      rw [va_up_ne _ _ (by omega)]
      exact va_up_ne _ _ (by omega)
theorem r_c2 (hd : 7 < d) (hdm : 3 < dm) (hn : 15 ≤ h.1) (hR : 1 ≤ R ∧ R ≤ 10) (hC : 1 ≤ C ∧ C ≤ 10) (h0 : τ 0 = nI R) (h1 : τ 1 = nI C) (s1 : σ 1 = nI R) (s2 : σ 2 = nI C) (hq : cmd_at q o) (hu : u < 3) (h2 : τ 2 = nI u) (s5 : σ 5 = nI u) (s6 : σ 6 = τ 3) (hcr : CR R C A (B 0)) (hv : ∀ j, j < 5 → A 15 j = τ (o + (j + 1))) (hk : τ o = 2) : CmdOK d dm 2 q R C h e σ τ t A B P := by
  have es : ms_sel A = sp_sel (B 0) R C := r_sel hR.2 hC.2 hcr
  have er : (rdy R C (ms_sel A) (A 15) t 2) = (rdy R C (sp_sel (B 0) R C) (cv o τ) t 2) := rdy_if es hv
  have hs := CR_pos hR.2 hC.2 hcr
  by_cases zx : (rdy R C (sp_sel (B 0) R C) (cv o τ) t 2).1 = 0
  · have zp0 : cl_kn R C (cv o τ 2) (cv o τ 3) := Classical.byContradiction (fun z => absurd zx (by rw [show rdy R C (sp_sel (B 0) R C) (cv o τ) t 2 = (1, t + 100000) from if_neg z]; show ¬ (1 : Int32) = 0; decide))
    have zp1 : cl_kn R C (cv o τ 0) (cv o τ 1) := Classical.byContradiction (fun z => absurd zx (by rw [show rdy R C (sp_sel (B 0) R C) (cv o τ) t 2 = (1, t + 100000 + 1000) from (if_pos zp0).trans (if_neg z)]; show ¬ (1 : Int32) = 0; decide))
    have zp2 : bt 0 (cv o τ 4) 9 := Classical.byContradiction (fun z => absurd zx (by rw [show rdy R C (sp_sel (B 0) R C) (cv o τ) t 2 = (2, t + 100000 + 1000 + 10) from (if_pos zp0).trans ((if_pos zp1).trans (if_neg z))]; show ¬ (2 : Int32) = 0; decide))
    have zp3 : True := trivial
    have zr : (rdy R C (ms_sel A) (A 15) t 2).1 = 0 := by rw [er]; exact zx
    obtain ⟨wy, wy1, wx⟩ := bt_nat (n := 9) (by omega) zp2
    obtain ⟨a, b, ha, hb, ea, eb⟩ := kn_of hR.2 hC.2 zp1
    obtain ⟨c, f, hc, hf, ec, ef⟩ := kn_of hR.2 hC.2 zp0
    have a0 : A 15 0 = nI a := (hv 0 (by omega)).trans ea
    have b0 : A 15 1 = nI b := (hv 1 (by omega)).trans eb
    have c0 : A 15 2 = nI c := (hv 2 (by omega)).trans ec
    have f0 : A 15 3 = nI f := (hv 3 (by omega)).trans ef
    have a4 := r15 (u := u) (σ := σ) hv (show 4 < 5 by omega)
    have c9 := c_line (d := d - 1 - 1) (h := h) (τ := p8 τ) (t := (rdy R C (sp_sel (B 0) R C) (cv o τ) t 2).2) (B := B) (P := P) (R := R) (C := C) (u := u) hn hR hC h0 h1 h2 hu (by omega) hq ((p8_o hq).trans ea) ((p8_o hq).trans eb) ((p8_o hq).trans ec) ((p8_o hq).trans ef) (by omega) (by omega) (by omega) (by omega)
    rw [p8_o hq] at c9
    refine ⟨0, p8 τ, (rdy R C (sp_sel (B 0) R C) (cv o τ) t 2).2, _, (ms_box u (md_1 σ) A).1, sp_it (fun k A9 => ms_paint R C u A9 (ln_m a c (ln_n a b c f) k) (ln_m b f (ln_n a b c f) k) (τ (o + 5))) 0 (ln_n a b c f + 1) (ms_box u (md_1 σ) A).2, u, c_pf2 hn hR hC h0 h1 (by omega) hq hk hs zx (c_co2 (h := h) (τ := p8 τ) (t := (rdy R C (sp_sel (B 0) R C) (cv o τ) t 2).2) (B := B) (P := P) hn hR hC h0 h1 h2 hu (by omega) hq ((va_up_ne _ _ (by have := cmd_o hq; omega)).trans hk) (c9)), fun h' hn' => ?_, post_0 hu h2 s5 s6 (r_2 hR.2 hC.2 hu (CR_1 hcr) (show wy < 10 by omega) wx _) t_p8 (fun j hj => fr_p8 hj) (fun j hj => (it_far (fun k A9 => pt_15 _ _ _ _ _ _ _ _ (by unfold AF at hj; omega))).trans (fr_A1 hj))⟩
    have q9 := m_does2 (d := dm) (h := h') (σ := σ) (t := t) (A := A) hn' (by omega) hR hC s1 s2 s5 hu a0 b0 ⟨by omega, by omega⟩ c0 f0 ⟨by omega, by omega⟩ zr
    rw [er, a4] at q9
    exact q9
  · have hx0 : 0 < (rdy R C (sp_sel (B 0) R C) (cv o τ) t 2).1 := by
      exact (rdy_gp _ _ _ _ _ _).resolve_left zx
    refine ⟨(rdy R C (sp_sel (B 0) R C) (cv o τ) t 2).1, va_up (va_up (va_up (p8 τ) 6 (rdy R C (sp_sel (B 0) R C) (cv o τ) t 2).1) 9 2) 10 e, (rdy R C (sp_sel (B 0) R C) (cv o τ) t 2).2, B, va_up (md_1 σ) 27 2, A, u, c_pfF2 hn hR hC h0 h1 (by omega) hq hk hs rfl zx, fun h' hn' => ?_, ⟨hcr, hu, s5, h2, s6⟩, ⟨rfl, rfl⟩, Or.inr ⟨hx0, rfl, rfl, rfl, rfl⟩, fun j hj => ?_, fun j hj => ?_, fun j hj => rfl⟩
    · have q9 := m_doesF2 (d := dm) (h := h') (σ := σ) (t := t) (A := A) hn' (by omega) hR hC s1 s2 rfl (by rw [er]; exact hx0)
      rw [er] at q9
      exact q9
    · unfold CF at hj
      rw [va_up_ne _ _ (by omega), va_up_ne _ _ (by omega), va_up_ne _ _ (by omega)]
      exact va_up_ne _ _ (by omega)
    · unfold SF at hj
      rw [va_up_ne _ _ (by omega)]
      exact va_up_ne _ _ (by omega)
theorem r_c3 (hd : 7 < d) (hdm : 3 < dm) (hn : 15 ≤ h.1) (hR : 1 ≤ R ∧ R ≤ 10) (hC : 1 ≤ C ∧ C ≤ 10) (h0 : τ 0 = nI R) (h1 : τ 1 = nI C) (s1 : σ 1 = nI R) (s2 : σ 2 = nI C) (hq : cmd_at q o) (hu : u < 3) (h2 : τ 2 = nI u) (s5 : σ 5 = nI u) (s6 : σ 6 = τ 3) (hcr : CR R C A (B 0)) (hv : ∀ j, j < 5 → A 15 j = τ (o + (j + 1))) (hk : τ o = 3) : CmdOK d dm 3 q R C h e σ τ t A B P := by
  have es : ms_sel A = sp_sel (B 0) R C := r_sel hR.2 hC.2 hcr
  have er : (rdy R C (ms_sel A) (A 15) t 3) = (rdy R C (sp_sel (B 0) R C) (cv o τ) t 3) := rdy_if es hv
  have hs := CR_pos hR.2 hC.2 hcr
  by_cases zx : (rdy R C (sp_sel (B 0) R C) (cv o τ) t 3).1 = 0
  · have zp0 : cl_kn R C (cv o τ 0) (cv o τ 1) := Classical.byContradiction (fun z => absurd zx (by rw [show rdy R C (sp_sel (B 0) R C) (cv o τ) t 3 = (1, t + 1000) from if_neg z]; show ¬ (1 : Int32) = 0; decide))
    have zp1 : bt 0 (cv o τ 4) 9 := Classical.byContradiction (fun z => absurd zx (by rw [show rdy R C (sp_sel (B 0) R C) (cv o τ) t 3 = (2, t + 1000 + 10) from (if_pos zp0).trans (if_neg z)]; show ¬ (2 : Int32) = 0; decide))
    have zp2 : bt 0 (cv o τ 2) 511 ∧ bt 0 (cv o τ 3) 7 := Classical.byContradiction (fun z => absurd zx (by rw [show rdy R C (sp_sel (B 0) R C) (cv o τ) t 3 = (4, t + 1000 + 10 + 1) from (if_pos zp0).trans ((if_pos zp1).trans (congrArg (fun z9 : Int32 => (z9, t + 1000 + 10 + 1)) (if_neg z)))]; show ¬ (4 : Int32) = 0; decide))
    have zr : (rdy R C (ms_sel A) (A 15) t 3).1 = 0 := by rw [er]; exact zx
    obtain ⟨wy, wy1, wx⟩ := bt_nat (n := 9) (by omega) zp1
    obtain ⟨dd, hdd, ed⟩ := bt_nat (n := 7) (by omega) zp2.2
    have a0 := r15 (u := u) (σ := σ) hv (show 0 < 5 by omega)
    have a1 := r15 (u := u) (σ := σ) hv (show 1 < 5 by omega)
    have a2 := r15 (u := u) (σ := σ) hv (show 2 < 5 by omega)
    have a4 := r15 (u := u) (σ := σ) hv (show 4 < 5 by omega)
    have c9 := c_stamp (d := d - 1 - 1) (h := h) (τ := p8 τ) (t := (rdy R C (sp_sel (B 0) R C) (cv o τ) t 3).2) (B := B) (P := P) (R := R) (C := C) (u := u) hn hR hC h0 h1 h2 hu (by omega) hq (dd := dd) ((p8_o hq).trans ed) (by omega)
    rw [p8_o hq, p8_o hq, p8_o hq, p8_o hq] at c9
    refine ⟨0, p8 τ, (rdy R C (sp_sel (B 0) R C) (cv o τ) t 3).2, _, (ms_box u (md_1 σ) A).1, sp_it (st_g R C u (τ (o + 1)) (τ (o + 2)) (τ (o + 3)) (τ (o + 5)) dd) 0 9 (ms_box u (md_1 σ) A).2, u, c_pf3 hn hR hC h0 h1 (by omega) hq hk hs zx (c_co3 (h := h) (τ := p8 τ) (t := (rdy R C (sp_sel (B 0) R C) (cv o τ) t 3).2) (B := B) (P := P) hn hR hC h0 h1 h2 hu (by omega) hq ((va_up_ne _ _ (by have := cmd_o hq; omega)).trans hk) (c9)), fun h' hn' => ?_, post_0 hu h2 s5 s6 (r_3 hR.2 hC.2 hu (CR_1 hcr) (show wy < 10 by omega) wx _) t_p8 (fun j hj => fr_p8 hj) (fun j hj => (it_far (fun k A9 => by
      unfold st_g
      split
      · exact pt_15 _ _ _ _ _ _ _ _ (by unfold AF at hj; omega)
      · rfl)).trans (fr_A1 hj))⟩
    have q9 := m_does3 (d := dm) (h := h') (σ := σ) (t := t) (A := A) hn' (by omega) hR hC s1 s2 s5 hu (dd := dd) ((hv 3 (by omega)).trans ed) (by omega) zr
    rw [er, a0, a1, a2, a4] at q9
    exact q9
  · have hx0 : 0 < (rdy R C (sp_sel (B 0) R C) (cv o τ) t 3).1 := by
      exact (rdy_gp _ _ _ _ _ _).resolve_left zx
    refine ⟨(rdy R C (sp_sel (B 0) R C) (cv o τ) t 3).1, va_up (va_up (va_up (p8 τ) 6 (rdy R C (sp_sel (B 0) R C) (cv o τ) t 3).1) 9 3) 10 e, (rdy R C (sp_sel (B 0) R C) (cv o τ) t 3).2, B, va_up (md_1 σ) 27 3, A, u, c_pfF3 hn hR hC h0 h1 (by omega) hq hk hs rfl zx, fun h' hn' => ?_, ⟨hcr, hu, s5, h2, s6⟩, ⟨rfl, rfl⟩, Or.inr ⟨hx0, rfl, rfl, rfl, rfl⟩, fun j hj => ?_, fun j hj => ?_, fun j hj => rfl⟩
    · have q9 := m_doesF3 (d := dm) (h := h') (σ := σ) (t := t) (A := A) hn' (by omega) hR hC s1 s2 rfl (by rw [er]; exact hx0)
      rw [er] at q9
      exact q9
    · unfold CF at hj
      rw [va_up_ne _ _ (by omega), va_up_ne _ _ (by omega), va_up_ne _ _ (by omega)]
      exact va_up_ne _ _ (by omega)
    · unfold SF at hj
      rw [va_up_ne _ _ (by omega)]
      exact va_up_ne _ _ (by omega)
theorem r_c4 (hd : 7 < d) (hdm : 3 < dm) (hn : 15 ≤ h.1) (hR : 1 ≤ R ∧ R ≤ 10) (hC : 1 ≤ C ∧ C ≤ 10) (h0 : τ 0 = nI R) (h1 : τ 1 = nI C) (s1 : σ 1 = nI R) (s2 : σ 2 = nI C) (hq : cmd_at q o) (hu : u < 3) (h2 : τ 2 = nI u) (s5 : σ 5 = nI u) (s6 : σ 6 = τ 3) (hcr : CR R C A (B 0)) (hv : ∀ j, j < 5 → A 15 j = τ (o + (j + 1))) (hk : τ o = 4) : CmdOK d dm 4 q R C h e σ τ t A B P := by
  have es : ms_sel A = sp_sel (B 0) R C := r_sel hR.2 hC.2 hcr
  have er : (rdy R C (ms_sel A) (A 15) t 4) = (rdy R C (sp_sel (B 0) R C) (cv o τ) t 4) := rdy_if es hv
  have hs := CR_pos hR.2 hC.2 hcr
  by_cases zx : (rdy R C (sp_sel (B 0) R C) (cv o τ) t 4).1 = 0
  · have zp0 : ¬ sp_sel (B 0) R C = 0 := Classical.byContradiction (fun z => absurd zx (by rw [show rdy R C (sp_sel (B 0) R C) (cv o τ) t 4 = (3, t + 10000) from if_pos (Classical.not_not.mp z)]; show ¬ (3 : Int32) = 0; decide))
    have zp1 : True := trivial
    have zp2 : bt 0 (cv o τ 0) 1 := Classical.byContradiction (fun z => absurd zx (by rw [show rdy R C (sp_sel (B 0) R C) (cv o τ) t 4 = (4, t + 10000 + 10 + 1) from (if_neg zp0).trans ((if_pos zp1).trans (congrArg (fun z9 : Int32 => (z9, t + 10000 + 10 + 1)) (if_neg z)))]; show ¬ (4 : Int32) = 0; decide))
    have zr : (rdy R C (ms_sel A) (A 15) t 4).1 = 0 := by rw [er]; exact zx
    obtain ⟨T, E, F, S, ⟨hT, hF⟩, ⟨b1, b2, b3, b4⟩, g1, g2, g3, g4⟩ := r_box (u := u) (σ := md_1 σ) (τ := p8 τ) hR.2 hC.2 hcr zp0
    have k0 : bx_τ R C B (p8 τ) 0 = nI R := (bx_keep (by omega)).trans h0
    have k1 : bx_τ R C B (p8 τ) 1 = nI C := (bx_keep (by omega)).trans h1
    have k2 : bx_τ R C B (p8 τ) 2 = nI u := (bx_keep (by omega)).trans h2
    have pq : PQ R C (ms_box u (md_1 σ) A).2 (kb_B R C u B) (ms_box u (md_1 σ) A).2 (kb_B R C u B) := ⟨CR_1k hcr, rfl, rfl⟩
    have w16 : W16 (ms_box u (md_1 σ) A).2 (kb_B R C u B) := W_1k hu hcr
    have a0 := r15 (u := u) (σ := σ) hv (show 0 < 5 by omega)
    obtain ⟨a, ha, ea⟩ := bt_nat (n := 1) (by omega) zp2
    have ea2 : τ (o + (0 + 1)) = nI a := ea
    have ea3 : bx_τ R C B (p8 τ) (o + 1) = nI a := (bx_o hq (by omega)).trans ea
    match a, ha, ea2, ea3 with
    | 0, _, ea2, ea3 =>
      have c9 := c_mir0 (d := d - 1 - 1) (h := h) (τ := bx_τ R C B (p8 τ)) (t := (rdy R C (sp_sel (B 0) R C) (cv o τ) t 4).2) (B := kb_B R C u B) (P := P) hn hR hC k0 k1 k2 hu (by omega) g1 g2 g3 g4 hT hF 
      refine ⟨0, bx_τ R C B (p8 τ), (rdy R C (sp_sel (B 0) R C) (cv o τ) t 4).2, _, (ms_box u (md_1 σ) A).1, sp_bx (bg4 R C u T E F S 0) T E F S (ms_box u (md_1 σ) A).2, u, c_pf4 hn hR hC h0 h1 (by omega) hq hk hs zx (c_co4 (h := h) (τ := p8 τ) (t := (rdy R C (sp_sel (B 0) R C) (cv o τ) t 4).2) (B := B) (P := P) hn hR hC h0 h1 h2 hu (by omega) hq ((va_up_ne _ _ (by have := cmd_o hq; omega)).trans hk) (by rw [ea3]; exact c9)), fun h' hn' => ?_, post_0 hu h2 s5 s6 ((r_4_0 hR.2 hC.2 hu w16 hT hF pq).1) t_bx (fun j hj => fr_bx hj) (fun j hj => (sb_far (fun r c A9 => pt_15 _ _ _ _ _ _ _ _ (by unfold AF at hj; omega))).trans (fr_A1 hj))⟩
      have q9 := m_does4 (d := dm) (h := h') (σ := σ) (t := t) (A := A) hn' (by omega) hR hC s1 s2 s5 hu b1 b2 b3 b4 hT hF  zr
      rw [er, a0, ea2] at q9
      exact q9
    | 1, _, ea2, ea3 =>
      have c9 := c_mir1 (d := d - 1 - 1) (h := h) (τ := bx_τ R C B (p8 τ)) (t := (rdy R C (sp_sel (B 0) R C) (cv o τ) t 4).2) (B := kb_B R C u B) (P := P) hn hR hC k0 k1 k2 hu (by omega) g1 g2 g3 g4 hT hF 
      refine ⟨0, bx_τ R C B (p8 τ), (rdy R C (sp_sel (B 0) R C) (cv o τ) t 4).2, _, (ms_box u (md_1 σ) A).1, sp_bx (bg4 R C u T E F S 1) T E F S (ms_box u (md_1 σ) A).2, u, c_pf4 hn hR hC h0 h1 (by omega) hq hk hs zx (c_co4 (h := h) (τ := p8 τ) (t := (rdy R C (sp_sel (B 0) R C) (cv o τ) t 4).2) (B := B) (P := P) hn hR hC h0 h1 h2 hu (by omega) hq ((va_up_ne _ _ (by have := cmd_o hq; omega)).trans hk) (by rw [ea3]; exact c9)), fun h' hn' => ?_, post_0 hu h2 s5 s6 ((r_4_1 hR.2 hC.2 hu w16 hT hF pq).1) t_bx (fun j hj => fr_bx hj) (fun j hj => (sb_far (fun r c A9 => pt_15 _ _ _ _ _ _ _ _ (by unfold AF at hj; omega))).trans (fr_A1 hj))⟩
      have q9 := m_does4 (d := dm) (h := h') (σ := σ) (t := t) (A := A) hn' (by omega) hR hC s1 s2 s5 hu b1 b2 b3 b4 hT hF  zr
      rw [er, a0, ea2] at q9
      exact q9
  · have hx0 : 0 < (rdy R C (sp_sel (B 0) R C) (cv o τ) t 4).1 := by
      exact (rdy_gp _ _ _ _ _ _).resolve_left zx
    refine ⟨(rdy R C (sp_sel (B 0) R C) (cv o τ) t 4).1, va_up (va_up (va_up (p8 τ) 6 (rdy R C (sp_sel (B 0) R C) (cv o τ) t 4).1) 9 4) 10 e, (rdy R C (sp_sel (B 0) R C) (cv o τ) t 4).2, B, va_up (md_1 σ) 27 4, A, u, c_pfF4 hn hR hC h0 h1 (by omega) hq hk hs rfl zx, fun h' hn' => ?_, ⟨hcr, hu, s5, h2, s6⟩, ⟨rfl, rfl⟩, Or.inr ⟨hx0, rfl, rfl, rfl, rfl⟩, fun j hj => ?_, fun j hj => ?_, fun j hj => rfl⟩
    · have q9 := m_doesF4 (d := dm) (h := h') (σ := σ) (t := t) (A := A) hn' (by omega) hR hC s1 s2 rfl (by rw [er]; exact hx0)
      rw [er] at q9
      exact q9
    · unfold CF at hj
      rw [va_up_ne _ _ (by omega), va_up_ne _ _ (by omega), va_up_ne _ _ (by omega)]
      exact va_up_ne _ _ (by omega)
    · unfold SF at hj
      rw [va_up_ne _ _ (by omega)]
      exact va_up_ne _ _ (by omega)
theorem r_c5 (hd : 7 < d) (hdm : 3 < dm) (hn : 15 ≤ h.1) (hR : 1 ≤ R ∧ R ≤ 10) (hC : 1 ≤ C ∧ C ≤ 10) (h0 : τ 0 = nI R) (h1 : τ 1 = nI C) (s1 : σ 1 = nI R) (s2 : σ 2 = nI C) (hq : cmd_at q o) (hu : u < 3) (h2 : τ 2 = nI u) (s5 : σ 5 = nI u) (s6 : σ 6 = τ 3) (hcr : CR R C A (B 0)) (hv : ∀ j, j < 5 → A 15 j = τ (o + (j + 1))) (hk : τ o = 5) : CmdOK d dm 5 q R C h e σ τ t A B P := by
  have es : ms_sel A = sp_sel (B 0) R C := r_sel hR.2 hC.2 hcr
  have er : (rdy R C (ms_sel A) (A 15) t 5) = (rdy R C (sp_sel (B 0) R C) (cv o τ) t 5) := rdy_if es hv
  have hs := CR_pos hR.2 hC.2 hcr
  by_cases zx : (rdy R C (sp_sel (B 0) R C) (cv o τ) t 5).1 = 0
  · have zp0 : ¬ sp_sel (B 0) R C = 0 := Classical.byContradiction (fun z => absurd zx (by rw [show rdy R C (sp_sel (B 0) R C) (cv o τ) t 5 = (3, t + 10000) from if_pos (Classical.not_not.mp z)]; show ¬ (3 : Int32) = 0; decide))
    have zp1 : True := trivial
    have zp2 : bt (-20) (cv o τ 0) 20 ∧ bt (-20) (cv o τ 1) 20 := Classical.byContradiction (fun z => absurd zx (by rw [show rdy R C (sp_sel (B 0) R C) (cv o τ) t 5 = (4, t + 10000 + 10 + 1) from (if_neg zp0).trans ((if_pos zp1).trans (congrArg (fun z9 : Int32 => (z9, t + 10000 + 10 + 1)) (if_neg z)))]; show ¬ (4 : Int32) = 0; decide))
    have zr : (rdy R C (ms_sel A) (A 15) t 5).1 = 0 := by rw [er]; exact zx
    obtain ⟨T, E, F, S, ⟨hT, hF⟩, ⟨b1, b2, b3, b4⟩, g1, g2, g3, g4⟩ := r_box (u := u) (σ := md_1 σ) (τ := p8 τ) hR.2 hC.2 hcr zp0
    have k0 : bx_τ R C B (p8 τ) 0 = nI R := (bx_keep (by omega)).trans h0
    have k1 : bx_τ R C B (p8 τ) 1 = nI C := (bx_keep (by omega)).trans h1
    have k2 : bx_τ R C B (p8 τ) 2 = nI u := (bx_keep (by omega)).trans h2
    have pq : PQ R C (ms_box u (md_1 σ) A).2 (kb_B R C u B) (ms_box u (md_1 σ) A).2 (kb_B R C u B) := ⟨CR_1k hcr, rfl, rfl⟩
    have w16 : W16 (ms_box u (md_1 σ) A).2 (kb_B R C u B) := W_1k hu hcr
    have a0 := r15 (u := u) (σ := σ) hv (show 0 < 5 by omega)
    have a1 := r15 (u := u) (σ := σ) hv (show 1 < 5 by omega)
    have v0 : A 15 0 = τ (o + 1) := hv 0 (by omega)
    have v1 : A 15 1 = τ (o + 2) := hv 1 (by omega)
    have c9 := c_shift (d := d - 1 - 1) (h := h) (τ := bx_τ R C B (p8 τ)) (t := (rdy R C (sp_sel (B 0) R C) (cv o τ) t 5).2) (B := kb_B R C u B) (P := P) hn hR hC k0 k1 k2 hu (by omega) g1 g2 g3 g4 hT hF (a := τ (o + 1)) (b := τ (o + 2)) zp2.1 zp2.2
    refine ⟨0, bx_τ R C B (p8 τ), (rdy R C (sp_sel (B 0) R C) (cv o τ) t 5).2, _, (ms_box u (md_1 σ) A).1, sp_bx (bg5 R C u T E F S (τ (o + 1)) (τ (o + 2))) T E F S (ms_box u (md_1 σ) A).2, u, c_pf5 hn hR hC h0 h1 (by omega) hq hk hs zx (c_co5 (h := h) (τ := p8 τ) (t := (rdy R C (sp_sel (B 0) R C) (cv o τ) t 5).2) (B := B) (P := P) hn hR hC h0 h1 h2 hu (by omega) hq ((va_up_ne _ _ (by have := cmd_o hq; omega)).trans hk) (by rw [bx_o hq (show 1 < 6 by omega), bx_o hq (show 2 < 6 by omega)]; exact c9)), fun h' hn' => ?_, post_0 hu h2 s5 s6 ((r_5 hR.2 hC.2 hu w16 hT hF zp2.1 zp2.2 pq).1) t_bx (fun j hj => fr_bx hj) (fun j hj => (sb_far (fun r c A9 => pt_15 _ _ _ _ _ _ _ _ (by unfold AF at hj; omega))).trans (fr_A1 hj))⟩
    have q9 := m_does5 (d := dm) (h := h') (σ := σ) (t := t) (A := A) hn' (by omega) hR hC s1 s2 s5 hu b1 b2 b3 b4 hT hF (by rw [v0, v1]; exact zp2) zr
    rw [er, a0, a1] at q9
    exact q9
  · have hx0 : 0 < (rdy R C (sp_sel (B 0) R C) (cv o τ) t 5).1 := by
      exact (rdy_gp _ _ _ _ _ _).resolve_left zx
    refine ⟨(rdy R C (sp_sel (B 0) R C) (cv o τ) t 5).1, va_up (va_up (va_up (p8 τ) 6 (rdy R C (sp_sel (B 0) R C) (cv o τ) t 5).1) 9 5) 10 e, (rdy R C (sp_sel (B 0) R C) (cv o τ) t 5).2, B, va_up (md_1 σ) 27 5, A, u, c_pfF5 hn hR hC h0 h1 (by omega) hq hk hs rfl zx, fun h' hn' => ?_, ⟨hcr, hu, s5, h2, s6⟩, ⟨rfl, rfl⟩, Or.inr ⟨hx0, rfl, rfl, rfl, rfl⟩, fun j hj => ?_, fun j hj => ?_, fun j hj => rfl⟩
    · have q9 := m_doesF5 (d := dm) (h := h') (σ := σ) (t := t) (A := A) hn' (by omega) hR hC s1 s2 rfl (by rw [er]; exact hx0)
      rw [er] at q9
      exact q9
    · unfold CF at hj
      rw [va_up_ne _ _ (by omega), va_up_ne _ _ (by omega), va_up_ne _ _ (by omega)]
      exact va_up_ne _ _ (by omega)
    · unfold SF at hj
      rw [va_up_ne _ _ (by omega)]
      exact va_up_ne _ _ (by omega)
theorem r_c6 (hd : 7 < d) (hdm : 3 < dm) (hn : 15 ≤ h.1) (hR : 1 ≤ R ∧ R ≤ 10) (hC : 1 ≤ C ∧ C ≤ 10) (h0 : τ 0 = nI R) (h1 : τ 1 = nI C) (s1 : σ 1 = nI R) (s2 : σ 2 = nI C) (hq : cmd_at q o) (hu : u < 3) (h2 : τ 2 = nI u) (s5 : σ 5 = nI u) (s6 : σ 6 = τ 3) (hcr : CR R C A (B 0)) (hv : ∀ j, j < 5 → A 15 j = τ (o + (j + 1))) (hk : τ o = 6) : CmdOK d dm 6 q R C h e σ τ t A B P := by
  have es : ms_sel A = sp_sel (B 0) R C := r_sel hR.2 hC.2 hcr
  have er : (rdy R C (ms_sel A) (A 15) t 6) = (rdy R C (sp_sel (B 0) R C) (cv o τ) t 6) := rdy_if es hv
  have hs := CR_pos hR.2 hC.2 hcr
  by_cases zx : (rdy R C (sp_sel (B 0) R C) (cv o τ) t 6).1 = 0
  · have zp0 : ¬ sp_sel (B 0) R C = 0 := Classical.byContradiction (fun z => absurd zx (by rw [show rdy R C (sp_sel (B 0) R C) (cv o τ) t 6 = (3, t + 10000) from if_pos (Classical.not_not.mp z)]; show ¬ (3 : Int32) = 0; decide))
    have zp1 : bt 0 (cv o τ 4) 9 := Classical.byContradiction (fun z => absurd zx (by rw [show rdy R C (sp_sel (B 0) R C) (cv o τ) t 6 = (2, t + 10000 + 10) from (if_neg zp0).trans (if_neg z)]; show ¬ (2 : Int32) = 0; decide))
    have zp2 : bt 1 (cv o τ 0) 5 := Classical.byContradiction (fun z => absurd zx (by rw [show rdy R C (sp_sel (B 0) R C) (cv o τ) t 6 = (4, t + 10000 + 10 + 1) from (if_neg zp0).trans ((if_pos zp1).trans (congrArg (fun z9 : Int32 => (z9, t + 10000 + 10 + 1)) (if_neg z)))]; show ¬ (4 : Int32) = 0; decide))
    have zr : (rdy R C (ms_sel A) (A 15) t 6).1 = 0 := by rw [er]; exact zx
    obtain ⟨T, E, F, S, ⟨hT, hF⟩, ⟨b1, b2, b3, b4⟩, g1, g2, g3, g4⟩ := r_box (u := u) (σ := md_1 σ) (τ := p8 τ) hR.2 hC.2 hcr zp0
    have k0 : bx_τ R C B (p8 τ) 0 = nI R := (bx_keep (by omega)).trans h0
    have k1 : bx_τ R C B (p8 τ) 1 = nI C := (bx_keep (by omega)).trans h1
    have k2 : bx_τ R C B (p8 τ) 2 = nI u := (bx_keep (by omega)).trans h2
    have pq : PQ R C (ms_box u (md_1 σ) A).2 (kb_B R C u B) (ms_box u (md_1 σ) A).2 (kb_B R C u B) := ⟨CR_1k hcr, rfl, rfl⟩
    have w16 : W16 (ms_box u (md_1 σ) A).2 (kb_B R C u B) := W_1k hu hcr
    obtain ⟨wy, wy1, wx⟩ := bt_nat (n := 9) (by omega) zp1
    have a0 := r15 (u := u) (σ := σ) hv (show 0 < 5 by omega)
    have a4 := r15 (u := u) (σ := σ) hv (show 4 < 5 by omega)
    have c9 := c_border (d := d - 1 - 1) (h := h) (τ := bx_τ R C B (p8 τ)) (t := (rdy R C (sp_sel (B 0) R C) (cv o τ) t 6).2) (B := kb_B R C u B) (P := P) hn hR hC k0 k1 k2 hu (by omega) g1 g2 g3 g4 hT hF (a := τ (o + 1)) (x := τ (o + 5))
    refine ⟨0, bx_τ R C B (p8 τ), (rdy R C (sp_sel (B 0) R C) (cv o τ) t 6).2, _, (ms_box u (md_1 σ) A).1, sp_bx (bg6 R C u T E F S (τ (o + 1)) (τ (o + 5))) T E F S (ms_box u (md_1 σ) A).2, u, c_pf6 hn hR hC h0 h1 (by omega) hq hk hs zx (c_co6 (h := h) (τ := p8 τ) (t := (rdy R C (sp_sel (B 0) R C) (cv o τ) t 6).2) (B := B) (P := P) hn hR hC h0 h1 h2 hu (by omega) hq ((va_up_ne _ _ (by have := cmd_o hq; omega)).trans hk) (by rw [bx_o hq (show 1 < 6 by omega), bx_o hq (show 5 < 6 by omega)]; exact c9)), fun h' hn' => ?_, post_0 hu h2 s5 s6 ((r_6 hR.2 hC.2 hu w16 hT hF zp2 (show wy < 10 by omega) wx pq).1) t_bx (fun j hj => fr_bx hj) (fun j hj => (sb_far (fun r c A9 => by
      unfold bg6
      split
      · exact pt_15 _ _ _ _ _ _ _ _ (by unfold AF at hj; omega)
      · rfl)).trans (fr_A1 hj))⟩
    have q9 := m_does6 (d := dm) (h := h') (σ := σ) (t := t) (A := A) hn' (by omega) hR hC s1 s2 s5 hu b1 b2 b3 b4 hT hF  zr
    rw [er, a0, a4] at q9
    exact q9
  · have hx0 : 0 < (rdy R C (sp_sel (B 0) R C) (cv o τ) t 6).1 := by
      exact (rdy_gp _ _ _ _ _ _).resolve_left zx
    refine ⟨(rdy R C (sp_sel (B 0) R C) (cv o τ) t 6).1, va_up (va_up (va_up (p8 τ) 6 (rdy R C (sp_sel (B 0) R C) (cv o τ) t 6).1) 9 6) 10 e, (rdy R C (sp_sel (B 0) R C) (cv o τ) t 6).2, B, va_up (md_1 σ) 27 6, A, u, c_pfF6 hn hR hC h0 h1 (by omega) hq hk hs rfl zx, fun h' hn' => ?_, ⟨hcr, hu, s5, h2, s6⟩, ⟨rfl, rfl⟩, Or.inr ⟨hx0, rfl, rfl, rfl, rfl⟩, fun j hj => ?_, fun j hj => ?_, fun j hj => rfl⟩
    · have q9 := m_doesF6 (d := dm) (h := h') (σ := σ) (t := t) (A := A) hn' (by omega) hR hC s1 s2 rfl (by rw [er]; exact hx0)
      rw [er] at q9
      exact q9
    · unfold CF at hj
      rw [va_up_ne _ _ (by omega), va_up_ne _ _ (by omega), va_up_ne _ _ (by omega)]
      exact va_up_ne _ _ (by omega)
    · unfold SF at hj
      rw [va_up_ne _ _ (by omega)]
      exact va_up_ne _ _ (by omega)
theorem r_c7 (hd : 7 < d) (hdm : 3 < dm) (hn : 15 ≤ h.1) (hR : 1 ≤ R ∧ R ≤ 10) (hC : 1 ≤ C ∧ C ≤ 10) (h0 : τ 0 = nI R) (h1 : τ 1 = nI C) (s1 : σ 1 = nI R) (s2 : σ 2 = nI C) (hq : cmd_at q o) (hu : u < 3) (h2 : τ 2 = nI u) (s5 : σ 5 = nI u) (s6 : σ 6 = τ 3) (hcr : CR R C A (B 0)) (hv : ∀ j, j < 5 → A 15 j = τ (o + (j + 1))) (hk : τ o = 7) : CmdOK d dm 7 q R C h e σ τ t A B P := by
  have es : ms_sel A = sp_sel (B 0) R C := r_sel hR.2 hC.2 hcr
  have er : (rdy R C (ms_sel A) (A 15) t 7) = (rdy R C (sp_sel (B 0) R C) (cv o τ) t 7) := rdy_if es hv
  have hs := CR_pos hR.2 hC.2 hcr
  by_cases zx : (rdy R C (sp_sel (B 0) R C) (cv o τ) t 7).1 = 0
  · have zp0 : ¬ sp_sel (B 0) R C = 0 := Classical.byContradiction (fun z => absurd zx (by rw [show rdy R C (sp_sel (B 0) R C) (cv o τ) t 7 = (3, t + 10000) from if_pos (Classical.not_not.mp z)]; show ¬ (3 : Int32) = 0; decide))
    have zp1 : bt 0 (cv o τ 0) 9 ∧ bt 0 (cv o τ 1) 9 := Classical.byContradiction (fun z => absurd zx (by rw [show rdy R C (sp_sel (B 0) R C) (cv o τ) t 7 = (2, t + 10000 + 10) from (if_neg zp0).trans (if_neg z)]; show ¬ (2 : Int32) = 0; decide))
    have zp2 : True := trivial
    have zr : (rdy R C (ms_sel A) (A 15) t 7).1 = 0 := by rw [er]; exact zx
    obtain ⟨T, E, F, S, ⟨hT, hF⟩, ⟨b1, b2, b3, b4⟩, g1, g2, g3, g4⟩ := r_box (u := u) (σ := md_1 σ) (τ := p8 τ) hR.2 hC.2 hcr zp0
    have k0 : bx_τ R C B (p8 τ) 0 = nI R := (bx_keep (by omega)).trans h0
    have k1 : bx_τ R C B (p8 τ) 1 = nI C := (bx_keep (by omega)).trans h1
    have k2 : bx_τ R C B (p8 τ) 2 = nI u := (bx_keep (by omega)).trans h2
    have pq : PQ R C (ms_box u (md_1 σ) A).2 (kb_B R C u B) (ms_box u (md_1 σ) A).2 (kb_B R C u B) := ⟨CR_1k hcr, rfl, rfl⟩
    have w16 : W16 (ms_box u (md_1 σ) A).2 (kb_B R C u B) := W_1k hu hcr
    obtain ⟨ya, ya1, yx⟩ := bt_nat (n := 9) (by omega) zp1.1
    obtain ⟨yb, yb1, yz⟩ := bt_nat (n := 9) (by omega) zp1.2
    have a0 := r15 (u := u) (σ := σ) hv (show 0 < 5 by omega)
    have a1 := r15 (u := u) (σ := σ) hv (show 1 < 5 by omega)
    have h16 : ∀ i j, i < R → j < C → (ms_box u (md_1 σ) A).2 0 (100 * u + (10 * i + j)) = (ms_box u (md_1 σ) A).2 16 (10 * i + j) := fun i j hi hj => by rw [mb_16a u _ _ (by omega), mb_farA u _ _ (by omega)]
    have c9 := c_swap (d := d - 1 - 1) (h := h) (τ := bx_τ R C B (p8 τ)) (t := (rdy R C (sp_sel (B 0) R C) (cv o τ) t 7).2) (B := kb_B R C u B) (P := P) hn hR hC k0 k1 k2 hu (by omega) g1 g2 g3 g4 hT hF (a := τ (o + 1)) (b := τ (o + 2))
    refine ⟨0, bx_τ R C B (p8 τ), (rdy R C (sp_sel (B 0) R C) (cv o τ) t 7).2, _, (ms_box u (md_1 σ) A).1, sp_bx (bg7 R C u (τ (o + 1)) (τ (o + 2))) T E F S (ms_box u (md_1 σ) A).2, u, c_pf7 hn hR hC h0 h1 (by omega) hq hk hs zx (c_co7 (h := h) (τ := p8 τ) (t := (rdy R C (sp_sel (B 0) R C) (cv o τ) t 7).2) (B := B) (P := P) hn hR hC h0 h1 h2 hu (by omega) hq ((va_up_ne _ _ (by have := cmd_o hq; omega)).trans hk) (by rw [bx_o hq (show 1 < 6 by omega), bx_o hq (show 2 < 6 by omega)]; exact c9)), fun h' hn' => ?_, post_0 hu h2 s5 s6 ((r_7 hR.2 hC.2 hu w16 hT hF (show ya < 10 by omega) yx (show yb < 10 by omega) yz pq h16).1) t_bx (fun j hj => fr_bx hj) (fun j hj => (sb_far (fun r c A9 => pt_15 _ _ _ _ _ _ _ _ (by unfold AF at hj; omega))).trans (fr_A1 hj))⟩
    have q9 := m_does7 (d := dm) (h := h') (σ := σ) (t := t) (A := A) hn' (by omega) hR hC s1 s2 s5 hu b1 b2 b3 b4 hT hF  zr
    rw [er, a0, a1] at q9
    exact q9
  · have hx0 : 0 < (rdy R C (sp_sel (B 0) R C) (cv o τ) t 7).1 := by
      exact (rdy_gp _ _ _ _ _ _).resolve_left zx
    refine ⟨(rdy R C (sp_sel (B 0) R C) (cv o τ) t 7).1, va_up (va_up (va_up (p8 τ) 6 (rdy R C (sp_sel (B 0) R C) (cv o τ) t 7).1) 9 7) 10 e, (rdy R C (sp_sel (B 0) R C) (cv o τ) t 7).2, B, va_up (md_1 σ) 27 7, A, u, c_pfF7 hn hR hC h0 h1 (by omega) hq hk hs rfl zx, fun h' hn' => ?_, ⟨hcr, hu, s5, h2, s6⟩, ⟨rfl, rfl⟩, Or.inr ⟨hx0, rfl, rfl, rfl, rfl⟩, fun j hj => ?_, fun j hj => ?_, fun j hj => rfl⟩
    · have q9 := m_doesF7 (d := dm) (h := h') (σ := σ) (t := t) (A := A) hn' (by omega) hR hC s1 s2 rfl (by rw [er]; exact hx0)
      rw [er] at q9
      exact q9
    · unfold CF at hj
      rw [va_up_ne _ _ (by omega), va_up_ne _ _ (by omega), va_up_ne _ _ (by omega)]
      exact va_up_ne _ _ (by omega)
    · unfold SF at hj
      rw [va_up_ne _ _ (by omega)]
      exact va_up_ne _ _ (by omega)
theorem r_c8 (hd : 7 < d) (hdm : 3 < dm) (hn : 15 ≤ h.1) (hR : 1 ≤ R ∧ R ≤ 10) (hC : 1 ≤ C ∧ C ≤ 10) (h0 : τ 0 = nI R) (h1 : τ 1 = nI C) (s1 : σ 1 = nI R) (s2 : σ 2 = nI C) (hq : cmd_at q o) (hu : u < 3) (h2 : τ 2 = nI u) (s5 : σ 5 = nI u) (s6 : σ 6 = τ 3) (hcr : CR R C A (B 0)) (hv : ∀ j, j < 5 → A 15 j = τ (o + (j + 1))) (hk : τ o = 8) : CmdOK d dm 8 q R C h e σ τ t A B P := by
  have es : ms_sel A = sp_sel (B 0) R C := r_sel hR.2 hC.2 hcr
  have er : (rdy R C (ms_sel A) (A 15) t 8) = (rdy R C (sp_sel (B 0) R C) (cv o τ) t 8) := rdy_if es hv
  have hs := CR_pos hR.2 hC.2 hcr
  by_cases zx : (rdy R C (sp_sel (B 0) R C) (cv o τ) t 8).1 = 0
  · have zp0 : ¬ sp_sel (B 0) R C = 0 := Classical.byContradiction (fun z => absurd zx (by rw [show rdy R C (sp_sel (B 0) R C) (cv o τ) t 8 = (3, t + 10000) from if_pos (Classical.not_not.mp z)]; show ¬ (3 : Int32) = 0; decide))
    have zp1 : True := trivial
    have zp2 : bt 1 (cv o τ 0) 9 := Classical.byContradiction (fun z => absurd zx (by rw [show rdy R C (sp_sel (B 0) R C) (cv o τ) t 8 = (4, t + 10000 + 10 + 1) from (if_neg zp0).trans ((if_pos zp1).trans (congrArg (fun z9 : Int32 => (z9, t + 10000 + 10 + 1)) (if_neg z)))]; show ¬ (4 : Int32) = 0; decide))
    have zr : (rdy R C (ms_sel A) (A 15) t 8).1 = 0 := by rw [er]; exact zx
    obtain ⟨T, E, F, S, ⟨hT, hF⟩, ⟨b1, b2, b3, b4⟩, g1, g2, g3, g4⟩ := r_box (u := u) (σ := md_1 σ) (τ := p8 τ) hR.2 hC.2 hcr zp0
    have k0 : bx_τ R C B (p8 τ) 0 = nI R := (bx_keep (by omega)).trans h0
    have k1 : bx_τ R C B (p8 τ) 1 = nI C := (bx_keep (by omega)).trans h1
    have k2 : bx_τ R C B (p8 τ) 2 = nI u := (bx_keep (by omega)).trans h2
    have pq : PQ R C (ms_box u (md_1 σ) A).2 (kb_B R C u B) (ms_box u (md_1 σ) A).2 (kb_B R C u B) := ⟨CR_1k hcr, rfl, rfl⟩
    have w16 : W16 (ms_box u (md_1 σ) A).2 (kb_B R C u B) := W_1k hu hcr
    have zl : bt 0 (τ (o + 1)) (nI 9) := ⟨Int32.le_trans (by decide) zp2.1, zp2.2⟩
    obtain ⟨aa, ha, ea⟩ := bt_nat (n := 9) (by omega) zl
    have ha1 : 1 ≤ aa := Nat.pos_of_ne_zero (fun z => by
      have z1 : (1 : Int32) ≤ τ (o + 1) := zp2.1
      rw [ea, z] at z1
      exact absurd z1 (by decide))
    have ea3 : bx_τ R C B (p8 τ) (o + 1) = nI aa := (bx_o hq (by omega)).trans ea
    have c9 := c_mend (d := d - 1 - 1) (h := h) (τ := bx_τ R C B (p8 τ)) (t := (rdy R C (sp_sel (B 0) R C) (cv o τ) t 8).2) (B := kb_B R C u B) (P := P) hn hR hC k0 k1 k2 hu (by omega) g1 g2 g3 g4 hT hF (a := nI aa)
    refine ⟨0, bx_τ R C B (p8 τ), (rdy R C (sp_sel (B 0) R C) (cv o τ) t 8).2, _, (ms_box u (md_1 σ) A).1, sp_bx (bg8 R C u F aa) T E F S (ms_box u (md_1 σ) A).2, u, c_pf8 hn hR hC h0 h1 (by omega) hq hk hs zx (c_co8 (h := h) (τ := p8 τ) (t := (rdy R C (sp_sel (B 0) R C) (cv o τ) t 8).2) (B := B) (P := P) hn hR hC h0 h1 h2 hu (by omega) hq ((va_up_ne _ _ (by have := cmd_o hq; omega)).trans hk) (by rw [ea3]; exact c9)), fun h' hn' => ?_, post_0 hu h2 s5 s6 (r_8 hR.2 hC.2 hu hT hF ⟨ha1, ha⟩ (CR_1k hcr)) t_bx (fun j hj => fr_bx hj) (fun j hj => (sb_far (fun r c A9 => by
      unfold bg8
      split
      · exact pt_15 _ _ _ _ _ _ _ _ (by unfold AF at hj; omega)
      · rfl)).trans (fr_A1 hj))⟩
    have q9 := m_does8 (d := dm) (h := h') (σ := σ) (t := t) (A := A) hn' (by omega) hR hC s1 s2 s5 hu b1 b2 b3 b4 hT hF ha ((hv 0 (by omega)).trans ea) hcr.2.2 zr
    rw [er] at q9
    exact q9
  · have hx0 : 0 < (rdy R C (sp_sel (B 0) R C) (cv o τ) t 8).1 := by
      exact (rdy_gp _ _ _ _ _ _).resolve_left zx
    refine ⟨(rdy R C (sp_sel (B 0) R C) (cv o τ) t 8).1, va_up (va_up (va_up (p8 τ) 6 (rdy R C (sp_sel (B 0) R C) (cv o τ) t 8).1) 9 8) 10 e, (rdy R C (sp_sel (B 0) R C) (cv o τ) t 8).2, B, va_up (md_1 σ) 27 8, A, u, c_pfF8 hn hR hC h0 h1 (by omega) hq hk hs rfl zx, fun h' hn' => ?_, ⟨hcr, hu, s5, h2, s6⟩, ⟨rfl, rfl⟩, Or.inr ⟨hx0, rfl, rfl, rfl, rfl⟩, fun j hj => ?_, fun j hj => ?_, fun j hj => rfl⟩
    · have q9 := m_doesF8 (d := dm) (h := h') (σ := σ) (t := t) (A := A) hn' (by omega) hR hC s1 s2 rfl (by rw [er]; exact hx0)
      rw [er] at q9
      exact q9
    · unfold CF at hj
      rw [va_up_ne _ _ (by omega), va_up_ne _ _ (by omega), va_up_ne _ _ (by omega)]
      exact va_up_ne _ _ (by omega)
    · unfold SF at hj
      rw [va_up_ne _ _ (by omega)]
      exact va_up_ne _ _ (by omega)
theorem r_c9 (hd : 7 < d) (hdm : 3 < dm) (hn : 15 ≤ h.1) (hR : 1 ≤ R ∧ R ≤ 10) (hC : 1 ≤ C ∧ C ≤ 10) (h0 : τ 0 = nI R) (h1 : τ 1 = nI C) (s1 : σ 1 = nI R) (s2 : σ 2 = nI C) (hq : cmd_at q o) (hu : u < 3) (h2 : τ 2 = nI u) (s5 : σ 5 = nI u) (s6 : σ 6 = τ 3) (hcr : CR R C A (B 0)) (hv : ∀ j, j < 5 → A 15 j = τ (o + (j + 1))) (hk : τ o = 9) : CmdOK d dm 9 q R C h e σ τ t A B P := by
  have es : ms_sel A = sp_sel (B 0) R C := r_sel hR.2 hC.2 hcr
  have er : (rdy R C (ms_sel A) (A 15) t 9) = (rdy R C (sp_sel (B 0) R C) (cv o τ) t 9) := rdy_if es hv
  have hs := CR_pos hR.2 hC.2 hcr
  by_cases zx : (rdy R C (sp_sel (B 0) R C) (cv o τ) t 9).1 = 0
  · have zp0 : blk R C (cv o τ) := Classical.byContradiction (fun z => absurd zx (by rw [show rdy R C (sp_sel (B 0) R C) (cv o τ) t 9 = (1, t + 100) from if_neg z]; show ¬ (1 : Int32) = 0; decide))
    have zp1 : bt 0 (cv o τ 4) 3 := Classical.byContradiction (fun z => absurd zx (by rw [show rdy R C (sp_sel (B 0) R C) (cv o τ) t 9 = (4, t + 100 + 1) from (if_pos zp0).trans (congrArg (fun z9 : Int32 => (z9, t + 100 + 1)) (if_neg z))]; show ¬ (4 : Int32) = 0; decide))
    have zr : (rdy R C (ms_sel A) (A 15) t 9).1 = 0 := by rw [er]; exact zx
    have c9 := (c_look9 (d := d - 1) (h := h) (τ := p8 τ) (t := (rdy R C (sp_sel (B 0) R C) (cv o τ) t 9).2) (B := B) (P := P) hn hR hC h0 h1 (by omega) hq ((va_up_ne _ _ (by have := cmd_o hq; omega)).trans hk) (by rw [p8_o hq]; exact zp1))
    rw [p8_o hq, p8_o hq, p8_o hq, p8_o hq, p8_o hq] at c9
    have v9 : (ms_box u (md_1 σ) A).2 15 = A 15 := mb_farA u _ _ (by omega)
    have v0 : A 15 0 = τ (o + 1) := hv 0 (by omega)
    have v1 : A 15 1 = τ (o + 2) := hv 1 (by omega)
    have v2 : A 15 2 = τ (o + 3) := hv 2 (by omega)
    have v3 : A 15 3 = τ (o + 4) := hv 3 (by omega)
    have v4 : A 15 4 = τ (o + 5) := hv 4 (by omega)
    have bk : blk R C (A 15) := by
      unfold blk
      rw [v0, v1, v2, v3]
      exact zp0
    have r9 := r_9 hR.2 hC.2 (CR_1 (u := u) (σ := σ) hcr) v9 bk
    rw [v0, v1, v2, v3, v4] at r9
    refine ⟨0, p8 τ, (rdy R C (sp_sel (B 0) R C) (cv o τ) t 9).2, _, (ms_box u (md_1 σ) A).1, sp_it (lk_9 R C (τ (o + 1)) (τ (o + 2))) 0 100 (ms_box u (md_1 σ) A).2, u, c_pf9 hn hR hC h0 h1 (by omega) hq hk hs zx c9, fun h' hn' => ?_, post_0 hu h2 s5 s6 r9 t_p8 (fun j hj => fr_p8 hj) (fun j hj => (it_far (fun k A9 => by
      unfold lk_9
      split
      · exact va_up_ne _ _ (by unfold AF at hj; omega)
      · rfl)).trans (fr_A1 hj))⟩
    have q9 := m_does9 (d := dm) (h := h') (σ := σ) (t := t) (A := A) hn' (by omega) hR hC s1 s2 s5 hu zr
    rw [er, v9, v0, v1] at q9
    exact q9
  · have hx0 : 0 < (rdy R C (sp_sel (B 0) R C) (cv o τ) t 9).1 := by
      exact (rdy_gp _ _ _ _ _ _).resolve_left zx
    refine ⟨(rdy R C (sp_sel (B 0) R C) (cv o τ) t 9).1, va_up (va_up (va_up (p8 τ) 6 (rdy R C (sp_sel (B 0) R C) (cv o τ) t 9).1) 9 9) 10 e, (rdy R C (sp_sel (B 0) R C) (cv o τ) t 9).2, B, va_up (md_1 σ) 27 9, A, u, c_pfF9 hn hR hC h0 h1 (by omega) hq hk hs rfl zx, fun h' hn' => ?_, ⟨hcr, hu, s5, h2, s6⟩, ⟨rfl, rfl⟩, Or.inr ⟨hx0, rfl, rfl, rfl, rfl⟩, fun j hj => ?_, fun j hj => ?_, fun j hj => rfl⟩
    · have q9 := m_doesF9 (d := dm) (h := h') (σ := σ) (t := t) (A := A) hn' (by omega) hR hC s1 s2 rfl (by rw [er]; exact hx0)
      rw [er] at q9
      exact q9
    · unfold CF at hj
      rw [va_up_ne _ _ (by omega), va_up_ne _ _ (by omega), va_up_ne _ _ (by omega)]
      exact va_up_ne _ _ (by omega)
    · unfold SF at hj
      rw [va_up_ne _ _ (by omega)]
      exact va_up_ne _ _ (by omega)
theorem r_c10 (hd : 7 < d) (hdm : 3 < dm) (hn : 15 ≤ h.1) (hR : 1 ≤ R ∧ R ≤ 10) (hC : 1 ≤ C ∧ C ≤ 10) (h0 : τ 0 = nI R) (h1 : τ 1 = nI C) (s1 : σ 1 = nI R) (s2 : σ 2 = nI C) (hq : cmd_at q o) (hu : u < 3) (h2 : τ 2 = nI u) (s5 : σ 5 = nI u) (s6 : σ 6 = τ 3) (hcr : CR R C A (B 0)) (hv : ∀ j, j < 5 → A 15 j = τ (o + (j + 1))) (hk : τ o = 10) : CmdOK d dm 10 q R C h e σ τ t A B P := by
  have es : ms_sel A = sp_sel (B 0) R C := r_sel hR.2 hC.2 hcr
  have er : (rdy R C (ms_sel A) (A 15) t 10) = (rdy R C (sp_sel (B 0) R C) (cv o τ) t 10) := rdy_if es hv
  have hs := CR_pos hR.2 hC.2 hcr
  by_cases zx : (rdy R C (sp_sel (B 0) R C) (cv o τ) t 10).1 = 0
  · have zp0 : bt 0 (cv o τ 0) 9 := Classical.byContradiction (fun z => absurd zx (by rw [show rdy R C (sp_sel (B 0) R C) (cv o τ) t 10 = (2, t + 100) from if_neg z]; show ¬ (2 : Int32) = 0; decide))
    have zp1 : True := trivial
    have zr : (rdy R C (ms_sel A) (A 15) t 10).1 = 0 := by rw [er]; exact zx
    have c9 := (c_look10 (d := d - 1) (h := h) (τ := p8 τ) (t := (rdy R C (sp_sel (B 0) R C) (cv o τ) t 10).2) (B := B) (P := P) hn hR hC h0 h1 (by omega) hq ((va_up_ne _ _ (by have := cmd_o hq; omega)).trans hk))
    rw [p8_o hq] at c9
    have v9 : (ms_box u (md_1 σ) A).2 15 0 = τ (o + 1) := r15 hv (by omega)
    have v6 : (ms_box u (md_1 σ) A).1 6 = τ 3 := ms_rest.2.1.trans s6
    refine ⟨0, p8 τ, (rdy R C (sp_sel (B 0) R C) (cv o τ) t 10).2, _, (ms_box u (md_1 σ) A).1, sp_it (lk_10 (τ 3) (τ (o + 1))) 0 100 (ms_box u (md_1 σ) A).2, u, c_pf10 hn hR hC h0 h1 (by omega) hq hk hs zx c9, fun h' hn' => ?_, post_0 hu h2 s5 s6 (r_10 hR.2 hC.2 (CR_1 hcr)) t_p8 (fun j hj => fr_p8 hj) (fun j hj => (it_far (fun k A9 => va_up_ne _ _ (by unfold AF at hj; omega))).trans (fr_A1 hj))⟩
    have q9 := m_does10 (d := dm) (h := h') (σ := σ) (t := t) (A := A) hn' (by omega) hR hC s1 s2 s5 hu zr
    rw [er, v9, v6] at q9
    exact q9
  · have hx0 : 0 < (rdy R C (sp_sel (B 0) R C) (cv o τ) t 10).1 := by
      exact (rdy_gp _ _ _ _ _ _).resolve_left zx
    refine ⟨(rdy R C (sp_sel (B 0) R C) (cv o τ) t 10).1, va_up (va_up (va_up (p8 τ) 6 (rdy R C (sp_sel (B 0) R C) (cv o τ) t 10).1) 9 10) 10 e, (rdy R C (sp_sel (B 0) R C) (cv o τ) t 10).2, B, va_up (md_1 σ) 27 10, A, u, c_pfF10 hn hR hC h0 h1 (by omega) hq hk hs rfl zx, fun h' hn' => ?_, ⟨hcr, hu, s5, h2, s6⟩, ⟨rfl, rfl⟩, Or.inr ⟨hx0, rfl, rfl, rfl, rfl⟩, fun j hj => ?_, fun j hj => ?_, fun j hj => rfl⟩
    · have q9 := m_doesF10 (d := dm) (h := h') (σ := σ) (t := t) (A := A) hn' (by omega) hR hC s1 s2 rfl (by rw [er]; exact hx0)
      rw [er] at q9
      exact q9
    · unfold CF at hj
      rw [va_up_ne _ _ (by omega), va_up_ne _ _ (by omega), va_up_ne _ _ (by omega)]
      exact va_up_ne _ _ (by omega)
    · unfold SF at hj
      rw [va_up_ne _ _ (by omega)]
      exact va_up_ne _ _ (by omega)
theorem r_c11 (hd : 7 < d) (hdm : 3 < dm) (hn : 15 ≤ h.1) (hR : 1 ≤ R ∧ R ≤ 10) (hC : 1 ≤ C ∧ C ≤ 10) (h0 : τ 0 = nI R) (h1 : τ 1 = nI C) (s1 : σ 1 = nI R) (s2 : σ 2 = nI C) (hq : cmd_at q o) (hu : u < 3) (h2 : τ 2 = nI u) (s5 : σ 5 = nI u) (s6 : σ 6 = τ 3) (hcr : CR R C A (B 0)) (hv : ∀ j, j < 5 → A 15 j = τ (o + (j + 1))) (hk : τ o = 11) : CmdOK d dm 11 q R C h e σ τ t A B P := by
  have es : ms_sel A = sp_sel (B 0) R C := r_sel hR.2 hC.2 hcr
  have er : (rdy R C (ms_sel A) (A 15) t 11) = (rdy R C (sp_sel (B 0) R C) (cv o τ) t 11) := rdy_if es hv
  have hs := CR_pos hR.2 hC.2 hcr
  by_cases zx : (rdy R C (sp_sel (B 0) R C) (cv o τ) t 11).1 = 0
  · have zp0 : bt 0 (cv o τ 0) 2 := Classical.byContradiction (fun z => absurd zx (by rw [show rdy R C (sp_sel (B 0) R C) (cv o τ) t 11 = (1, t + 100) from if_neg z]; show ¬ (1 : Int32) = 0; decide))
    have zp1 : True := trivial
    have zr : (rdy R C (ms_sel A) (A 15) t 11).1 = 0 := by rw [er]; exact zx
    obtain ⟨u2, hu2, eu2⟩ := bt_nat (n := 2) (by omega) zp0
    have c9 := c_look11 (d := d - 1) (h := h) (τ := p8 τ) (t := (rdy R C (sp_sel (B 0) R C) (cv o τ) t 11).2) (B := B) (P := P) hn hR hC h0 h1 (by omega) hq ((va_up_ne _ _ (by have := cmd_o hq; omega)).trans hk)
    rw [p8_o hq] at c9
    have v9 : (ms_box u (md_1 σ) A).2 15 0 = τ (o + 1) := r15 hv (by omega)
    have ms := ms_rest (u := u) (σ := σ) (A := A)
    refine ⟨0, va_up (p8 τ) 2 (τ (o + 1)), (rdy R C (sp_sel (B 0) R C) (cv o τ) t 11).2, B, va_up (ms_box u (md_1 σ) A).1 5 (τ (o + 1)), (ms_box u (md_1 σ) A).2, u2, c_pf11 hn hR hC h0 h1 (by omega) hq hk hs zx c9, fun h' hn' => ?_, ⟨CR_1 hcr, by omega, eu2, eu2, ms.2.1.trans s6⟩, ⟨rfl, ms.2.2.1⟩, Or.inl ⟨rfl, rfl, rfl, rfl, ms.2.2.2⟩, fun j hj => (va_up_ne _ _ (by unfold CF at hj; omega)).trans (fr_p8 hj), fun j hj => (va_up_ne _ _ (by unfold SF at hj; omega)).trans (fr_ms hj), fun j hj => fr_A1 hj⟩
    have q9 := m_does11 (d := dm) (h := h') (σ := σ) (t := t) (A := A) hn' (by omega) hR hC s1 s2 s5 hu zr
    rw [er, v9] at q9
    exact q9
  · have hx0 : 0 < (rdy R C (sp_sel (B 0) R C) (cv o τ) t 11).1 := by
      exact (rdy_gp _ _ _ _ _ _).resolve_left zx
    refine ⟨(rdy R C (sp_sel (B 0) R C) (cv o τ) t 11).1, va_up (va_up (va_up (p8 τ) 6 (rdy R C (sp_sel (B 0) R C) (cv o τ) t 11).1) 9 11) 10 e, (rdy R C (sp_sel (B 0) R C) (cv o τ) t 11).2, B, va_up (md_1 σ) 27 11, A, u, c_pfF11 hn hR hC h0 h1 (by omega) hq hk hs rfl zx, fun h' hn' => ?_, ⟨hcr, hu, s5, h2, s6⟩, ⟨rfl, rfl⟩, Or.inr ⟨hx0, rfl, rfl, rfl, rfl⟩, fun j hj => ?_, fun j hj => ?_, fun j hj => rfl⟩
    · have q9 := m_doesF11 (d := dm) (h := h') (σ := σ) (t := t) (A := A) hn' (by omega) hR hC s1 s2 rfl (by rw [er]; exact hx0)
      rw [er] at q9
      exact q9
    · unfold CF at hj
      rw [va_up_ne _ _ (by omega), va_up_ne _ _ (by omega), va_up_ne _ _ (by omega)]
      exact va_up_ne _ _ (by omega)
    · unfold SF at hj
      rw [va_up_ne _ _ (by omega)]
      exact va_up_ne _ _ (by omega)
theorem r_c12 (hd : 7 < d) (hdm : 3 < dm) (hn : 15 ≤ h.1) (hR : 1 ≤ R ∧ R ≤ 10) (hC : 1 ≤ C ∧ C ≤ 10) (h0 : τ 0 = nI R) (h1 : τ 1 = nI C) (s1 : σ 1 = nI R) (s2 : σ 2 = nI C) (hq : cmd_at q o) (hu : u < 3) (h2 : τ 2 = nI u) (s5 : σ 5 = nI u) (s6 : σ 6 = τ 3) (hcr : CR R C A (B 0)) (hv : ∀ j, j < 5 → A 15 j = τ (o + (j + 1))) (hk : τ o = 12) : CmdOK d dm 12 q R C h e σ τ t A B P := by
  have es : ms_sel A = sp_sel (B 0) R C := r_sel hR.2 hC.2 hcr
  have er : (rdy R C (ms_sel A) (A 15) t 12) = (rdy R C (sp_sel (B 0) R C) (cv o τ) t 12) := rdy_if es hv
  have hs := CR_pos hR.2 hC.2 hcr
  by_cases zx : (rdy R C (sp_sel (B 0) R C) (cv o τ) t 12).1 = 0
  · have zp0 : bt 0 (cv o τ 0) 2 := Classical.byContradiction (fun z => absurd zx (by rw [show rdy R C (sp_sel (B 0) R C) (cv o τ) t 12 = (1, t + 100) from if_neg z]; show ¬ (1 : Int32) = 0; decide))
    have zp1 : bt 0 (cv o τ 1) 1 := Classical.byContradiction (fun z => absurd zx (by rw [show rdy R C (sp_sel (B 0) R C) (cv o τ) t 12 = (4, t + 100 + 1) from (if_pos zp0).trans (congrArg (fun z9 : Int32 => (z9, t + 100 + 1)) (if_neg z))]; show ¬ (4 : Int32) = 0; decide))
    have zr : (rdy R C (ms_sel A) (A 15) t 12).1 = 0 := by rw [er]; exact zx
    have c9 := c_look12 (d := d - 1) (h := h) (τ := p8 τ) (t := (rdy R C (sp_sel (B 0) R C) (cv o τ) t 12).2) (B := B) (P := P) hn hR hC h0 h1 (by omega) hq ((va_up_ne _ _ (by have := cmd_o hq; omega)).trans hk)
    rw [p8_o hq, p8_o hq] at c9
    have v9 : (ms_box u (md_1 σ) A).2 15 0 = τ (o + 1) := r15 hv (by omega)
    have v8 : (ms_box u (md_1 σ) A).2 15 1 = τ (o + 2) := r15 hv (by omega)
    have ms := ms_rest (u := u) (σ := σ) (A := A)
    have v6 : (ms_box u (md_1 σ) A).1 6 = τ 3 := ms.2.1.trans s6
    refine ⟨0, va_up (p8 τ) 3 (sh_x (τ 3) (τ (o + 1)) (τ (o + 2))), (rdy R C (sp_sel (B 0) R C) (cv o τ) t 12).2, B, va_up (ms_box u (md_1 σ) A).1 6 (sh_x (τ 3) (τ (o + 1)) (τ (o + 2))), (ms_box u (md_1 σ) A).2, u, c_pf12 hn hR hC h0 h1 (by omega) hq hk hs zx c9, fun h' hn' => ?_, ⟨CR_1 hcr, hu, ms.1.trans s5, h2, rfl⟩, ⟨rfl, ms.2.2.1⟩, Or.inl ⟨rfl, rfl, rfl, rfl, ms.2.2.2⟩, fun j hj => (va_up_ne _ _ (by unfold CF at hj; omega)).trans (fr_p8 hj), fun j hj => (va_up_ne _ _ (by unfold SF at hj; omega)).trans (fr_ms hj), fun j hj => fr_A1 hj⟩
    have q9 := m_does12 (d := dm) (h := h') (σ := σ) (t := t) (A := A) hn' (by omega) hR hC s1 s2 s5 hu zr
    rw [er, v9, v8, v6] at q9
    exact q9
  · have hx0 : 0 < (rdy R C (sp_sel (B 0) R C) (cv o τ) t 12).1 := by
      exact (rdy_gp _ _ _ _ _ _).resolve_left zx
    refine ⟨(rdy R C (sp_sel (B 0) R C) (cv o τ) t 12).1, va_up (va_up (va_up (p8 τ) 6 (rdy R C (sp_sel (B 0) R C) (cv o τ) t 12).1) 9 12) 10 e, (rdy R C (sp_sel (B 0) R C) (cv o τ) t 12).2, B, va_up (md_1 σ) 27 12, A, u, c_pfF12 hn hR hC h0 h1 (by omega) hq hk hs rfl zx, fun h' hn' => ?_, ⟨hcr, hu, s5, h2, s6⟩, ⟨rfl, rfl⟩, Or.inr ⟨hx0, rfl, rfl, rfl, rfl⟩, fun j hj => ?_, fun j hj => ?_, fun j hj => rfl⟩
    · have q9 := m_doesF12 (d := dm) (h := h') (σ := σ) (t := t) (A := A) hn' (by omega) hR hC s1 s2 rfl (by rw [er]; exact hx0)
      rw [er] at q9
      exact q9
    · unfold CF at hj
      rw [va_up_ne _ _ (by omega), va_up_ne _ _ (by omega), va_up_ne _ _ (by omega)]
      exact va_up_ne _ _ (by omega)
    · unfold SF at hj
      rw [va_up_ne _ _ (by omega)]
      exact va_up_ne _ _ (by omega)
end RC
