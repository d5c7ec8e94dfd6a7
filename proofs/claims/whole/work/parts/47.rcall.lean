/-! handles filled in, on both sides -/
section E2
variable {d dm n s : Nat} {h h' : am_H} {res : Option Value} {k : Int32} {F G : Nat → Int32} {τ σ : Nat → Int32} {t : Int64} {A B : Nat → Nat → Int32} {P : Nat → Nat → Option Nat} {R C u q o : Nat}
def hf_s (o : Nat) (F G g : Nat → Int32) (j : Nat) (S : Nat × (Nat → Int32)) : Nat × (Nat → Int32) := if F j = 0 then (S.1 + 1, va_up S.2 (o + (j + 1)) (g S.1)) else (S.1, va_up S.2 (o + (j + 1)) (G j))
theorem l_hf (hn : 15 ≤ h.1) (hd : 0 < d) (hq : cmd_at q o) {a b c e l : Nat} {g g' : Nat → Int32} (ha : 15 ≤ a) (hb : 15 ≤ b) (hc : 15 ≤ c) (he : 15 ≤ e) (h0 : am_is h a (hd_c k b c)) (h1 : am_is h b (am_za 5 F)) (h2 : am_is h c (am_ia 5 G)) (hg : am_is h e (am_ia l g)) (hl : l ≤ 5) (hgg : ∀ j, j < 5 → g' j = if j < l then g j else 0) : ∀ (m j : Nat) (S : Nat × (Nat → Int32)), j + m = 5 → S.1 ≤ j → am_ev d z_Handle_fillIn (73, [some (.ref a), some (.ref q), some (.ref e), some (.int (nI (sp_it (hf_s o F G g') j m S).1)), some (.int (nI 5))], [], dH h (sp_it (hf_s o F G g') j m S).2 t B P) res h' → am_ev d z_Handle_fillIn (16, [some (.ref a), some (.ref q), some (.ref e), some (.int (nI S.1)), some (.int (nI j))], [.int 5, .int (nI j)], dH h S.2 t B P) res h'
  | 0, j, S, hm, hs, K => by
    refine ev_icmp_ge (t := 73) (q := 19) rfl rfl rfl (fun _ => ?_) (fun c1 => absurd (nI_end (b := 5) hm (by omega)) c1)
    have hc : j = 5 := hm
    subst hc
    exact K
  | m + 1, j, S, hm, hs, K => by
    refine ev_icmp_ge (t := 73) (q := 19) rfl rfl rfl (fun c1 => absurd c1 (nI_ge (b := 5) (by omega) (by omega))) (fun _ => ?_)
    simp only [sp_it] at K
    have K5 : ∀ x : Int32, F j = 0 → x = g' S.1 → am_ev d z_Handle_fillIn (61, [some (.ref a), some (.ref q), some (.ref e), some (.int (nI S.1)), some (.int (nI j))], [.int x, .int (nI j), .ref q], dH h S.2 t B P) res h' := by
      intro x zc ex
      subst ex
      rw [show hf_s o F G g' j S = (S.1 + 1, va_up S.2 (o + (j + 1)) (g' S.1)) from if_pos zc] at K
      refine ev_virt (z' := z_Command_put) (q := 64) rfl rfl (by decide) rfl (by simp [Value.category]) rfl (by omega) rfl rfl (d_cmd hn hq) (c_put (k := j) hn hq (by omega)) ?_
      refine ev_go 5 (q := 16) (st' := .int 5 :: _ :: _) rfl ?_
      rw [nI_s, nI_s]
      exact l_hf hn hd hq ha hb hc he h0 h1 h2 hg hl hgg m (j + 1) (S.1 + 1, va_up S.2 (o + (j + 1)) (g' S.1)) (by omega) (show S.1 + 1 ≤ j + 1 by omega) K
    refine ev_go 1 (q := 20) rfl ?_
    refine ev_get (q := 23) rfl (dH_ge ha h0) rfl rfl rfl ?_
    refine ev_go 1 (q := 25) rfl ?_
    refine ev_zaldn (q := 26) rfl (dH_ge hb h1) rfl (show j < 5 by omega) (by decide) rfl ?_
    refine ev_if_eq (t := 45) (q := 29) rfl rfl rfl (fun zc1 => ?_) (fun zc1 => ?_)
    · refine ev_go 4 (q := 50) rfl ?_
      refine ev_alen (v := nI l) (q := 51) rfl (dH_ge he hg) (by omega) rfl rfl ?_
      refine ev_icmp_ge (t := 60) (q := 54) rfl rfl rfl (fun zc2 => ?_) (fun zc2 => ?_)
      · refine ev_go 1 (q := 61) (st' := .int 0 :: _ :: _ :: _) rfl ?_
        exact K5 _ zc1 ((hgg S.1 (by omega)).trans (if_neg (fun z9 => absurd (nI_lt (b := l) z9 (by omega)) (Int32.not_lt.mpr zc2)))).symm
      · refine ev_go 2 (q := 56) rfl ?_
        have zlt : S.1 < l := Nat.lt_of_not_le (fun z9 => zc2 (nI_le z9 (by omega)))
        refine ev_ialdn (q := 57) rfl (dH_ge he hg) rfl zlt (by omega) rfl ?_
        refine ev_go 1 (q := 61) rfl ?_
        exact K5 _ zc1 ((hgg S.1 (by omega)).trans (if_pos zlt)).symm
    · refine ev_go 3 (q := 33) rfl ?_
      refine ev_get (q := 36) rfl (dH_ge ha h0) rfl rfl rfl ?_
      refine ev_go 1 (q := 38) rfl ?_
      refine ev_ialdn (q := 39) rfl (dH_ge hc h2) rfl (show j < 5 by omega) (by decide) rfl ?_
      refine ev_virt (z' := z_Command_put) (q := 42) rfl rfl (by decide) rfl (by simp [Value.category]) rfl (by omega) rfl rfl (d_cmd hn hq) (c_put (k := j) hn hq (by omega)) ?_
      refine ev_go 5 (q := 16) (st' := .int 5 :: _ :: _) rfl ?_
      rw [show hf_s o F G g' j S = (S.1, va_up S.2 (o + (j + 1)) (G j)) from if_neg zc1] at K
      rw [nI_s]
      exact l_hf hn hd hq ha hb hc he h0 h1 h2 hg hl hgg m (j + 1) (S.1, va_up S.2 (o + (j + 1)) (G j)) (by omega) (show S.1 ≤ j + 1 by omega) K
theorem c_hfill (hn : 15 ≤ h.1) (hd : 0 < d) (hq : cmd_at q o) {a b c e l : Nat} {g g' : Nat → Int32} (ha : 15 ≤ a) (hb : 15 ≤ b) (hc : 15 ≤ c) (he : 15 ≤ e) (h0 : am_is h a (hd_c k b c)) (h1 : am_is h b (am_za 5 F)) (h2 : am_is h c (am_ia 5 G)) (hg : am_is h e (am_ia l g)) (hl : l ≤ 5) (hgg : ∀ j, j < 5 → g' j = if j < l then g j else 0) : am_m d z_Handle_fillIn [.ref a, .ref q, .ref e] (dH h τ t B P) none (dH h (sp_it (hf_s o F G g') 0 5 (0, va_up τ o k)).2 t B P) := by
  refine ev_go 2 (q := 2) rfl ?_
  refine ev_get (q := 5) rfl (dH_ge ha h0) rfl rfl rfl ?_
  refine ev_put (q := 8) rfl (d_cmd hn hq) rfl (Nat.le_of_ble_eq_true rfl) rfl rfl rfl ?_
  refine ev_hp (du_q_0 hq) ?_
  refine ev_go 6 (q := 16) (st' := .int 5 :: _ :: _) rfl ?_
  rw [show Int32.ofInt 0 = nI 0 from rfl]
  refine l_hf hn hd hq ha hb hc he h0 h1 h2 hg hl hgg 5 0 (0, va_up τ o k) (by omega) (Nat.le_refl _) ?_
  exact ev_vret rfl rfl rfl
theorem hf_far {g : Nat → Int32} {i : Nat} (hi : i ≤ o ∨ o + 5 < i) : ∀ (m j : Nat) (S : Nat × (Nat → Int32)), j + m = 5 → (sp_it (hf_s o F G g) j m S).2 i = S.2 i
  | 0, _, _, _ => rfl
  | m + 1, j, S, hm => by
    rw [sp_it, hf_far hi m (j + 1) _ (by omega)]
    unfold hf_s
    split
    · exact va_up_ne _ _ (by omega)
    · exact va_up_ne _ _ (by omega)
/-- a handle and its row -/
def HO (h : am_H) (P : Nat → Nat → Option Nat) (A : Nat → Nat → Int32) (n : Nat) : Prop := ∃ (a b c : Nat) (F G : Nat → Int32), P 1 n = some a ∧ (43 ≤ a ∧ 43 ≤ b ∧ 43 ≤ c) ∧ am_is h a (hd_c (A 5 n) b c) ∧ am_is h b (am_za 5 F) ∧ am_is h c (am_ia 5 G) ∧ (∃ kd, kd < 13 ∧ A 5 n = nI kd) ∧ ∀ i, i < 5 → A 6 (5 * n + i) = F i ∧ (F i = 0 ∨ F i = 1) ∧ (F i = 0 → G i = 0) ∧ (¬ F i = 0 → A 7 (5 * n + i) = G i)
/-- filled in alike -/
theorem hf_eq {n : Nat} {g : Nat → Int32} (hF : ∀ i, i < 5 → A 6 (5 * n + i) = F i ∧ (¬ F i = 0 → A 7 (5 * n + i) = G i)) (hg : ∀ j, j < 5 → A 18 j = g j) : ∀ j, j < 5 → mc_v n A 15 j = (sp_it (hf_s o F G g) 0 5 (0, τ)).2 (o + (j + 1)) := by
  have e := it_rel (g := mc_s n) (g' := hf_s o F G g) (fun k S T => S.1 = T.1 ∧ S.1 ≤ k ∧ (∀ i, i ≠ 15 → S.2 i = A i) ∧ ∀ j, j < k → S.2 15 j = T.2 (o + (j + 1))) 5 0 (0, A) (0, τ) (fun k S T _ hk q => by
    obtain ⟨q1, q2, q3, q4⟩ := q
    have f1 := hF k (by omega)
    have e6 : S.2 6 (5 * n + k) = F k := by rw [q3 6 (by omega)]; exact f1.1
    unfold mc_s hf_s
    by_cases z : F k = 0
    · rw [if_pos (e6.trans z), if_pos z]
      refine ⟨congrArg (· + 1) q1, by show S.1 + 1 ≤ k + 1; omega, fun i hi => (va_up_ne _ _ hi).trans (q3 i hi), fun j hj => ?_⟩
      show va_up S.2 15 (va_up (S.2 15) k (S.2 18 S.1)) 15 j = va_up T.2 (o + (k + 1)) (g T.1) (o + (j + 1))
      rw [va_up_self]
      by_cases ej : j = k
      · subst ej
        rw [va_up_self, va_up_self, q3 18 (by omega), hg S.1 (by omega), q1]
      · rw [va_up_ne _ _ ej, va_up_ne _ _ (by omega)]
        exact q4 j (by omega)
    · rw [if_neg (fun p => z (e6.symm.trans p)), if_neg z]
      refine ⟨q1, by show S.1 ≤ k + 1; omega, fun i hi => (va_up_ne _ _ hi).trans (q3 i hi), fun j hj => ?_⟩
      show va_up S.2 15 (va_up (S.2 15) k (S.2 7 (5 * n + k))) 15 j = va_up T.2 (o + (k + 1)) (G k) (o + (j + 1))
      rw [va_up_self]
      by_cases ej : j = k
      · subst ej
        rw [va_up_self, va_up_self, q3 7 (by omega), f1.2 z]
      · rw [va_up_ne _ _ ej, va_up_ne _ _ (by omega)]
        exact q4 j (by omega)) ⟨rfl, Nat.le_refl _, fun _ _ => rfl, fun j hj => absurd hj (by omega)⟩
  exact fun j hj => e.2.2.2 j (by omega)
theorem mc_o {n j : Nat} (hj : j ≠ 15) : mc_v n A j = A j := mc_far n hj 5 0 (0, A)
theorem r_cmd (hd : 7 < d) (hdm : 3 < dm) (hn : 15 ≤ h.1) (hR : 1 ≤ R ∧ R ≤ 10) (hC : 1 ≤ C ∧ C ≤ 10) (h0 : τ 0 = nI R) (h1 : τ 1 = nI C) (s1 : σ 1 = nI R) (s2 : σ 2 = nI C) (hq : cmd_at q o) (hu : u < 3) (h2 : τ 2 = nI u) (s5 : σ 5 = nI u) (s6 : σ 6 = τ 3) (hcr : CR R C A (B 0)) (hv : ∀ j, j < 5 → A 15 j = τ (o + (j + 1))) {e : Int32} : ∀ {kd : Nat}, kd < 13 → τ o = nI kd → CmdOK d dm (nI kd) q R C h e σ τ t A B P
  | 0, _, hk => r_c0 hd hdm hn hR hC h0 h1 s1 s2 hq hu h2 s5 s6 hcr hv hk
  | 1, _, hk => r_c1 hd hdm hn hR hC h0 h1 s1 s2 hq hu h2 s5 s6 hcr hv hk
  | 2, _, hk => r_c2 hd hdm hn hR hC h0 h1 s1 s2 hq hu h2 s5 s6 hcr hv hk
  | 3, _, hk => r_c3 hd hdm hn hR hC h0 h1 s1 s2 hq hu h2 s5 s6 hcr hv hk
  | 4, _, hk => r_c4 hd hdm hn hR hC h0 h1 s1 s2 hq hu h2 s5 s6 hcr hv hk
  | 5, _, hk => r_c5 hd hdm hn hR hC h0 h1 s1 s2 hq hu h2 s5 s6 hcr hv hk
  | 6, _, hk => r_c6 hd hdm hn hR hC h0 h1 s1 s2 hq hu h2 s5 s6 hcr hv hk
  | 7, _, hk => r_c7 hd hdm hn hR hC h0 h1 s1 s2 hq hu h2 s5 s6 hcr hv hk
  | 8, _, hk => r_c8 hd hdm hn hR hC h0 h1 s1 s2 hq hu h2 s5 s6 hcr hv hk
  | 9, _, hk => r_c9 hd hdm hn hR hC h0 h1 s1 s2 hq hu h2 s5 s6 hcr hv hk
  | 10, _, hk => r_c10 hd hdm hn hR hC h0 h1 s1 s2 hq hu h2 s5 s6 hcr hv hk
  | 11, _, hk => r_c11 hd hdm hn hR hC h0 h1 s1 s2 hq hu h2 s5 s6 hcr hv hk
  | 12, _, hk => r_c12 hd hdm hn hR hC h0 h1 s1 s2 hq hu h2 s5 s6 hcr hv hk
/-- the world of a run: what the two sides share -/
def RW (R C : Nat) (σ τ : Nat → Int32) (A B : Nat → Nat → Int32) : Prop := (τ 0 = nI R ∧ τ 1 = nI C ∧ σ 1 = nI R ∧ σ 2 = nI C) ∧ (∃ u, u < 3 ∧ τ 2 = nI u ∧ σ 5 = nI u) ∧ σ 6 = τ 3 ∧ CR R C A (B 0) ∧ τ 8 = σ 26
/-- a handle called: on both sides -/
theorem r_call (hd : 7 < d) (hdm : 4 < dm) (hn : 15 ≤ h.1) (hR : 1 ≤ R ∧ R ≤ 10) (hC : 1 ≤ C ∧ C ≤ 10) (hq : cmd_at q o) (hw : RW R C σ τ A B) {n : Nat} (hb : n < 40) (hh : HO h P A n) {e l : Nat} {g : Nat → Int32} (he : 15 ≤ e) (hg : am_is h e (am_ia l g)) (hl : l ≤ 5) (h18 : ∀ j, j < 5 → A 18 j = if j < l then g j else 0) {dp : Int32} : ∃ (ah : Nat) (kd : Nat) (x : Int32) (τ1 τ2 : Nat → Int32) (t2 : Int64) (B2 : Nat → Nat → Int32) (σ2 : Nat → Int32) (A2 : Nat → Nat → Int32), P 1 n = some ah ∧ 43 ≤ ah ∧ (∃ y, am_is h ah (.inr (2, y))) ∧ A 5 n = nI kd ∧ am_m d z_Handle_fillIn [.ref ah, .ref q, .ref e] (dH h τ t B P) none (dH h τ1 t B P) ∧ am_m d z_Runner_perform [.ref 5, .ref q, .int dp] (dH h τ1 t B P) none (dH h τ2 t2 B2 P) ∧ (∀ h' : am_H, 43 ≤ h'.1 → am_m dm z_Model_calls [.ref 18, .int (nI n)] (mH h' σ t A) (some (.int x)) (mH h' σ2 t2 A2)) ∧ RW R C σ2 τ2 A2 B2 ∧ ((x = 0 ∧ τ2 6 = τ 6 ∧ τ2 9 = τ 9 ∧ τ2 10 = τ 10 ∧ σ2 27 = σ 27) ∨ (0 < x ∧ τ2 6 = x ∧ τ2 9 = nI kd ∧ τ2 10 = dp ∧ σ2 27 = nI kd)) ∧ (∀ j, CF j → j < o ∨ o + 5 < j → τ2 j = τ j) ∧ (∀ j, SF j → σ2 j = σ j) ∧ ∀ j, AF j → j ≠ 15 → A2 j = A j := by
  obtain ⟨a, b, c, F, G, p1, ⟨ga, gb, gc⟩, i0, i1, i2, ⟨kd, kd1, ek⟩, hF⟩ := hh
  obtain ⟨⟨h0, h1, s1, s2⟩, ⟨u, hu, h2, s5⟩, s6, hcr, h8⟩ := hw
  have ho := cmd_o hq
  have c1 := c_hfill (d := d) (h := h) (τ := τ) (t := t) (B := B) (P := P) (g' := fun j => if j < l then g j else 0) hn (by omega) hq (by omega) (by omega) (by omega) he i0 i1 i2 hg hl (fun j _ => rfl)
  have far : ∀ i, i < o ∨ o + 5 < i → (sp_it (hf_s o F G (fun j => if j < l then g j else 0)) 0 5 (0, va_up τ o (A 5 n))).2 i = τ i := fun i hi => (hf_far (by omega) 5 0 _ (by omega)).trans (va_up_ne _ _ (by omega))
  have eo : (sp_it (hf_s o F G (fun j => if j < l then g j else 0)) 0 5 (0, va_up τ o (A 5 n))).2 o = nI kd := (hf_far (by omega) 5 0 _ (by omega)).trans ((va_up_self _ _ _).trans ek)
  have hv := hf_eq (A := A) (o := o) (τ := va_up τ o (A 5 n)) (n := n) (F := F) (G := G) (g := fun j => if j < l then g j else 0) (fun i hi => ⟨(hF i hi).1, (hF i hi).2.2.2⟩) h18
  have hcr2 : CR R C (mc_v n A) (B 0) := CR_of hcr (mc_o (by omega)) (mc_o (by omega))
  obtain ⟨x, τ2, t2, B2, σ2, A2, u2, k1, k2, ⟨⟨q1, q2, q3, q4, q5⟩, ⟨q6, q7⟩, q8, q9, q10, q11⟩⟩ := r_cmd (d := d) (dm := dm - 1) (h := h) (t := t) (P := P) (e := dp) (σ := σ) (by omega) (by omega) hn hR hC ((far 0 (by omega)).trans h0) ((far 1 (by omega)).trans h1) s1 s2 hq hu ((far 2 (by omega)).trans h2) s5 (s6.trans (far 3 (by omega)).symm) hcr2 hv kd1 eo
  rw [far 8 (by omega)] at q6
  rw [far 6 (by omega), far 9 (by omega), far 10 (by omega)] at q8
  have k2' : ∀ h' : am_H, 43 ≤ h'.1 → am_m dm z_Model_calls [.ref 18, .int (nI n)] (mH h' σ t A) (some (.int x)) (mH h' σ2 t2 A2) := fun h' hn' => m_calls hn' (by omega) hb ek (r := none) (k2 h' hn')
  refine ⟨a, kd, x, _, τ2, t2, B2, σ2, A2, p1, ga, ⟨_, i0⟩, ek, c1, k1, k2', ⟨⟨(q9 0 (by unfold CF; omega)).trans ((far 0 (by omega)).trans h0), (q9 1 (by unfold CF; omega)).trans ((far 1 (by omega)).trans h1), (q10 1 (by unfold SF; omega)).trans s1, (q10 2 (by unfold SF; omega)).trans s2⟩, ⟨u2, q2, q4, q3⟩, q5, q1, by rw [q6, q7, h8]⟩, q8, fun j hj hjo => (q9 j hj).trans (far j hjo), q10, fun j hj hj15 => (q11 j hj).trans (mc_o hj15)⟩
end E2
