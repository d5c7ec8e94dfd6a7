/-! macros played, on both sides: rounds, the whole -/
section RM
variable {dm d R C nh : Nat} {x0 : Int32} {h : am_H} {P : Nat → Nat → Option Nat}
theorem ea_far {k x : Int32} {τ : Nat → Int32} {j : Nat} (hj : j ≠ 2) : ea_τ k x τ j = τ j := by
  unfold ea_τ
  split
  · exact va_up_ne _ _ hj
  · rfl
abbrev RH (R C nh k m pc r j c : Nat) (u0 : Int32) (h : am_H) (P : Nat → Nat → Option Nat) (f : Nat → Option Nat) (σ τ : Nat → Int32) (A B : Nat → Nat → Int32) : Prop := (σ 43 = nI (k + 1)) ∧ (A 19 k = nI m) ∧ (A 20 k = 0) ∧ (A 21 k = nI r) ∧ (A 22 k = nI j) ∧ (A 23 k = u0) ∧ (∃ u, u < 3 ∧ u0 = nI u) ∧ (r + j ≤ 9) ∧ (A 8 m = 3 → r + j = 3) ∧ (RW R C σ τ A B) ∧ (CL τ σ) ∧ (τ 11 = nI c) ∧ (c ≤ 300) ∧ (A 12 m = nI pc) ∧ (∀ n, n < nh → HO h P A n) ∧ (∀ o, o < m → MO h P A nh o) ∧ (∀ i, i < pc → PO h P A nh m (8 * m + i) (f i))
theorem RH.s43 {R C nh k m pc r j c : Nat} {u0 : Int32} {h : am_H} {P : Nat → Nat → Option Nat} {f : Nat → Option Nat} {σ τ : Nat → Int32} {A B : Nat → Nat → Int32} (q : RH R C nh k m pc r j c u0 h P f σ τ A B) : σ 43 = nI (k + 1) := q.1
theorem RH.a19 {R C nh k m pc r j c : Nat} {u0 : Int32} {h : am_H} {P : Nat → Nat → Option Nat} {f : Nat → Option Nat} {σ τ : Nat → Int32} {A B : Nat → Nat → Int32} (q : RH R C nh k m pc r j c u0 h P f σ τ A B) : A 19 k = nI m := q.2.1
theorem RH.a20 {R C nh k m pc r j c : Nat} {u0 : Int32} {h : am_H} {P : Nat → Nat → Option Nat} {f : Nat → Option Nat} {σ τ : Nat → Int32} {A B : Nat → Nat → Int32} (q : RH R C nh k m pc r j c u0 h P f σ τ A B) : A 20 k = 0 := q.2.2.1
theorem RH.a21 {R C nh k m pc r j c : Nat} {u0 : Int32} {h : am_H} {P : Nat → Nat → Option Nat} {f : Nat → Option Nat} {σ τ : Nat → Int32} {A B : Nat → Nat → Int32} (q : RH R C nh k m pc r j c u0 h P f σ τ A B) : A 21 k = nI r := q.2.2.2.1
theorem RH.a22 {R C nh k m pc r j c : Nat} {u0 : Int32} {h : am_H} {P : Nat → Nat → Option Nat} {f : Nat → Option Nat} {σ τ : Nat → Int32} {A B : Nat → Nat → Int32} (q : RH R C nh k m pc r j c u0 h P f σ τ A B) : A 22 k = nI j := q.2.2.2.2.1
theorem RH.a23 {R C nh k m pc r j c : Nat} {u0 : Int32} {h : am_H} {P : Nat → Nat → Option Nat} {f : Nat → Option Nat} {σ τ : Nat → Int32} {A B : Nat → Nat → Int32} (q : RH R C nh k m pc r j c u0 h P f σ τ A B) : A 23 k = u0 := q.2.2.2.2.2.1
theorem RH.u3 {R C nh k m pc r j c : Nat} {u0 : Int32} {h : am_H} {P : Nat → Nat → Option Nat} {f : Nat → Option Nat} {σ τ : Nat → Int32} {A B : Nat → Nat → Int32} (q : RH R C nh k m pc r j c u0 h P f σ τ A B) : ∃ u, u < 3 ∧ u0 = nI u := q.2.2.2.2.2.2.1
theorem RH.r3 {R C nh k m pc r j c : Nat} {u0 : Int32} {h : am_H} {P : Nat → Nat → Option Nat} {f : Nat → Option Nat} {σ τ : Nat → Int32} {A B : Nat → Nat → Int32} (q : RH R C nh k m pc r j c u0 h P f σ τ A B) : r + j ≤ 9 := q.2.2.2.2.2.2.2.1
theorem RH.e3 {R C nh k m pc r j c : Nat} {u0 : Int32} {h : am_H} {P : Nat → Nat → Option Nat} {f : Nat → Option Nat} {σ τ : Nat → Int32} {A B : Nat → Nat → Int32} (q : RH R C nh k m pc r j c u0 h P f σ τ A B) : A 8 m = 3 → r + j = 3 := q.2.2.2.2.2.2.2.2.1
theorem RH.rw {R C nh k m pc r j c : Nat} {u0 : Int32} {h : am_H} {P : Nat → Nat → Option Nat} {f : Nat → Option Nat} {σ τ : Nat → Int32} {A B : Nat → Nat → Int32} (q : RH R C nh k m pc r j c u0 h P f σ τ A B) : RW R C σ τ A B := q.2.2.2.2.2.2.2.2.2.1
theorem RH.cl {R C nh k m pc r j c : Nat} {u0 : Int32} {h : am_H} {P : Nat → Nat → Option Nat} {f : Nat → Option Nat} {σ τ : Nat → Int32} {A B : Nat → Nat → Int32} (q : RH R C nh k m pc r j c u0 h P f σ τ A B) : CL τ σ := q.2.2.2.2.2.2.2.2.2.2.1
theorem RH.t11 {R C nh k m pc r j c : Nat} {u0 : Int32} {h : am_H} {P : Nat → Nat → Option Nat} {f : Nat → Option Nat} {σ τ : Nat → Int32} {A B : Nat → Nat → Int32} (q : RH R C nh k m pc r j c u0 h P f σ τ A B) : τ 11 = nI c := q.2.2.2.2.2.2.2.2.2.2.2.1
theorem RH.c3 {R C nh k m pc r j c : Nat} {u0 : Int32} {h : am_H} {P : Nat → Nat → Option Nat} {f : Nat → Option Nat} {σ τ : Nat → Int32} {A B : Nat → Nat → Int32} (q : RH R C nh k m pc r j c u0 h P f σ τ A B) : c ≤ 300 := q.2.2.2.2.2.2.2.2.2.2.2.2.1
theorem RH.a12 {R C nh k m pc r j c : Nat} {u0 : Int32} {h : am_H} {P : Nat → Nat → Option Nat} {f : Nat → Option Nat} {σ τ : Nat → Int32} {A B : Nat → Nat → Int32} (q : RH R C nh k m pc r j c u0 h P f σ τ A B) : A 12 m = nI pc := q.2.2.2.2.2.2.2.2.2.2.2.2.2.1
theorem RH.ho {R C nh k m pc r j c : Nat} {u0 : Int32} {h : am_H} {P : Nat → Nat → Option Nat} {f : Nat → Option Nat} {σ τ : Nat → Int32} {A B : Nat → Nat → Int32} (q : RH R C nh k m pc r j c u0 h P f σ τ A B) : ∀ n, n < nh → HO h P A n := q.2.2.2.2.2.2.2.2.2.2.2.2.2.2.1
theorem RH.mo {R C nh k m pc r j c : Nat} {u0 : Int32} {h : am_H} {P : Nat → Nat → Option Nat} {f : Nat → Option Nat} {σ τ : Nat → Int32} {A B : Nat → Nat → Int32} (q : RH R C nh k m pc r j c u0 h P f σ τ A B) : ∀ o, o < m → MO h P A nh o := q.2.2.2.2.2.2.2.2.2.2.2.2.2.2.2.1
theorem RH.po {R C nh k m pc r j c : Nat} {u0 : Int32} {h : am_H} {P : Nat → Nat → Option Nat} {f : Nat → Option Nat} {σ τ : Nat → Int32} {A B : Nat → Nat → Int32} (q : RH R C nh k m pc r j c u0 h P f σ τ A B) : ∀ i, i < pc → PO h P A nh m (8 * m + i) (f i) := q.2.2.2.2.2.2.2.2.2.2.2.2.2.2.2.2
theorem p_rounds (hdm : 7 < dm) (hn : 15 ≤ h.1) (hR : 1 ≤ R ∧ R ≤ 10) (hC : 1 ≤ C ∧ C ≤ 10) (hnh : nh ≤ 40) {k m pc a b : Nat} {k1 k2 k3 k4 u0 : Int32} {f : Nat → Option Nat} (hkm : k + m ≤ 19) (hpc : pc ≤ 8) (hd : 2 * m + 20 < d) (ha : 43 ≤ a) (hb : 43 ≤ b) (h0 : am_is h a (mc_c k1 k2 k3 k4 (nI pc) b)) (h1 : am_is h b (pa_c f)) (IH : ∀ o, o < m → PMs dm x0 R C nh h P o) : ∀ (r j c : Nat) (σ τ : Nat → Int32) (t : Int64) (A B : Nat → Nat → Int32), A 8 m = k1 → RH R C nh k m pc r j c u0 h P f σ τ A B → OKE dm x0 R C k (fun τ2 t2 B2 => am_ev d z_Runner_callMacro (37, [some (.ref 5), some (.ref a), some (.int (nI (k + 1))), some (.int u0), some (.int (nI (r + j))), some (.int (nI j))], [.int (nI (r + j)), .int (nI j)], dH h τ t B P) none (dH h τ2 t2 B2 P)) c σ σ τ t A A (fun σ2 τ2 A2 B2 => σ2 43 = nI k ∧ RW R C σ2 τ2 A2 B2)
  | 0, j, c, σ, τ, t, A, B, ek, q => by
    obtain ⟨u, hu, eu⟩ := q.u3
    refine Or.inl ⟨c, ea_τ k1 u0 τ, t, B, va_up (va_up σ 5 (if A 8 m = 3 then A 23 k else σ 5)) 43 (nI k), A, cm_end hn (by omega) (by omega) h0 h1 hpc (by omega) (by have := q.r3; omega), fun h' res hh hn' K e3 e4 e5 e6 => t_pl1 hn' q.s43 (by omega) q.a19 (by omega) q.a21 (K _ _ _ _), ?_, ⟨(ea_far (by omega)).trans q.t11, q.c3⟩, fun j hj => ea_far (by omega), fun j hj => ?_, fun _ _ _ => rfl, fun _ _ _ _ _ => rfl, va_up_self _ _ _, ?_⟩
    · obtain ⟨z1, z2, z3, z4, z5⟩ := q.cl
      exact ⟨(ea_far (by omega)).trans z1, (ea_far (by omega)).trans z2, (ea_far (by omega)).trans z3, z4, z5⟩
    · rw [va_up_ne _ _ (by omega), va_up_ne _ _ (by omega)]
    · obtain ⟨⟨w1, w2, w3, w4⟩, ⟨v, hv, w5, w6⟩, w7, w8, w9⟩ := q.rw
      refine ⟨⟨(ea_far (by omega)).trans w1, (ea_far (by omega)).trans w2, w3, w4⟩, ?_, ?_, w8, (ea_far (by omega)).trans w9⟩
      · by_cases z : k1 = 3
        · refine ⟨u, hu, ?_, ?_⟩
          · unfold ea_τ
            rw [if_pos z, va_up_self]
            exact eu
          · show va_up (va_up σ 5 (if A 8 m = 3 then A 23 k else σ 5)) 43 (nI k) 5 = nI u
            rw [va_up_ne _ _ (by omega), va_up_self, if_pos (ek.trans z), q.a23]
            exact eu
        · refine ⟨v, hv, ?_, ?_⟩
          · unfold ea_τ
            rw [if_neg z]
            exact w5
          · show va_up (va_up σ 5 (if A 8 m = 3 then A 23 k else σ 5)) 43 (nI k) 5 = nI v
            rw [va_up_ne _ _ (by omega), va_up_self, if_neg (fun y => z (ek.symm.trans y))]
            exact w6
      · show va_up (va_up σ 5 (if A 8 m = 3 then A 23 k else σ 5)) 43 (nI k) 6 = _
        rw [va_up_ne _ _ (by omega), va_up_ne _ _ (by omega), w7]
        exact (ea_far (by omega)).symm
  | r + 1, j, c, σ, τ, t, A, B, ek, q => by
    have hr9 := q.r3
    have rw1 : RW R C (pl_σ k m σ A) (ea_τ k1 (nI j) τ) A B := by
      by_cases z : k1 = 3
      · have e := q.e3 (ek.trans z)
        have e1 : pl_σ k m σ A = va_up σ 5 (nI j) := by
          unfold pl_σ
          rw [if_pos ⟨q.a20, ek.trans z⟩, q.a22]
        have e2 : ea_τ k1 (nI j) τ = va_up τ 2 (nI j) := if_pos z
        rw [e1, e2]
        obtain ⟨⟨w1, w2, w3, w4⟩, ⟨v, hv, w5, w6⟩, w7, w8, w9⟩ := q.rw
        exact ⟨⟨w1, w2, w3, w4⟩, ⟨j, by omega, va_up_self _ _ _, va_up_self _ _ _⟩, w7, w8, w9⟩
      · have e1 : pl_σ k m σ A = σ := if_neg (fun y => z (ek.symm.trans y.2))
        have e2 : ea_τ k1 (nI j) τ = τ := if_neg z
        rw [e1, e2]
        exact q.rw
    have cl1 : CL (ea_τ k1 (nI j) τ) σ := by
      obtain ⟨z1, z2, z3, z4, z5⟩ := q.cl
      exact ⟨(ea_far (by omega)).trans z1, (ea_far (by omega)).trans z2, (ea_far (by omega)).trans z3, z4, z5⟩
    have a21 : ¬ A 21 k = 0 := by rw [q.a21]; exact nI_s8 (by omega)
    have ph : PH R C nh k m pc 0 c h P f σ (ea_τ k1 (nI j) τ) A B := ⟨q.s43, q.a19, q.a20, a21, rw1, cl1, (ea_far (by omega)).trans q.t11, q.c3, q.a12, q.ho, q.mo, q.po⟩
    have fc0 : FRc τ (ea_τ k1 (nI j) τ) := fun j hj => ea_far (by omega)
    rcases p_parts (d := d - 1) hdm hn hR hC hnh hkm hpc (by omega) ha hb h0 h1 IH pc 0 c σ (ea_τ k1 (nI j) τ) t A B none (by omega) ph with ⟨c2, τ2, t2, B2, σ2, A2, z1, z2, z3, z4, z5, z6, z7, z8, ⟨y1, y2, y3, y4, y5, y6⟩, z10⟩ | ⟨x, τ2, t2, B2, σ2, A2, z1, z2, z3, z4, z5, z6, z7⟩
    · have e12 : A2 12 m = nI pc := by rw [z7 12 (by omega) (by omega)]; exact q.a12
      have step : RC dm x0 c2 σ2 t2 A2 c2 (pl_σ k m σ2 A2) t2 (pl_nx k A2) := fun h' res hh hn' K e3 e4 e5 e6 => t_plN hn' y1 (by omega) (y3.trans q.a19) (by omega) (by rw [y4]; exact a21) (y2.trans e12.symm) (K _ _ _ _)
      have nxo : ∀ i, i ≠ 20 → i ≠ 21 → i ≠ 22 → pl_nx k A2 i = A2 i := fun i b1 b2 b3 => by
        unfold pl_nx
        rw [va_up_ne _ _ b1, va_up_ne _ _ b3, va_up_ne _ _ b2]
      have nxk : ∀ i x, x ≠ k → pl_nx k A2 i x = A2 i x := fun i x hx => by
        by_cases e20 : i = 20
        · subst e20
          show va_up (va_up (va_up A2 21 _) 22 _) 20 (va_up (A2 20) k 0) 20 x = A2 20 x
          rw [va_up_self, va_up_ne _ _ hx]
        · by_cases e22 : i = 22
          · subst e22
            show va_up (va_up (va_up A2 21 _) 22 (va_up (A2 22) k (A2 22 k + 1))) 20 _ 22 x = A2 22 x
            rw [va_up_ne _ _ (by omega), va_up_self, va_up_ne _ _ hx]
          · by_cases e21 : i = 21
            · subst e21
              show va_up (va_up (va_up A2 21 (va_up (A2 21) k (A2 21 k - 1))) 22 _) 20 _ 21 x = A2 21 x
              rw [va_up_ne _ _ (by omega), va_up_ne _ _ (by omega), va_up_self, va_up_ne _ _ hx]
            · rw [nxo i e20 e21 e22]
      have n20 : pl_nx k A2 20 k = 0 := by
        unfold pl_nx
        rw [va_up_self, va_up_self]
      have n21 : pl_nx k A2 21 k = nI r := by
        unfold pl_nx
        rw [va_up_ne _ _ (by omega), va_up_ne _ _ (by omega), va_up_self, va_up_self, y4, q.a21]
        exact pk_sub (a := r + 1) (b := 1) (by omega)
      have n22 : pl_nx k A2 22 k = nI (j + 1) := by
        unfold pl_nx
        rw [va_up_ne _ _ (by omega), va_up_self, va_up_self, y5, q.a22]
        exact nI_1 _
      have fA : FRA A (pl_nx k A2) := fun i b1 b2 => (nxo i (by omega) (by omega) (by omega)).trans (z7 i b1 b2)
      have fs : FRs σ (pl_σ k m σ2 A2) := fun i hi => (pl_far _ _ _ _ (by omega)).trans (z6 i hi)
      have fb : FB k A (pl_nx k A2) := fun i x b1 b2 b3 => (nxk i x (by omega)).trans (z8 i x b1 b2 b3)
      have q2 : RH R C nh k m pc r (j + 1) c2 u0 h P f (pl_σ k m σ2 A2) τ2 (pl_nx k A2) B2 := by
        refine ⟨(pl_far _ _ _ _ (by omega)).trans y1, ?_, n20, n21, n22, ?_, q.u3, by omega, ?_, RW_rows z10 (nxo 0 (by omega) (by omega) (by omega)) (nxo 1 (by omega) (by omega) (by omega)), ?_, z4.1, z4.2, ?_, fun n hn2 => ?_, fun o2 ho2 => ?_, fun i2 hi2 => ?_⟩
        · rw [nxo 19 (by omega) (by omega) (by omega), y3]; exact q.a19
        · rw [nxo 23 (by omega) (by omega) (by omega), y6]; exact q.a23
        · rw [fA 8 (by omega) (by omega)]
          intro z
          have := q.e3 z
          omega
        · obtain ⟨v1, v2, v3, v4, v5⟩ := z3
          exact ⟨v1, v2, v3, (pl_far _ _ _ _ (by omega)).trans v4, (pl_far _ _ _ _ (by omega)).trans v5⟩
        · rw [fA 12 (by omega) (by omega)]; exact q.a12
        · exact HO_of (q.ho n hn2) (fA 5 (by omega) (by omega)) (fA 6 (by omega) (by omega)) (fA 7 (by omega) (by omega))
        · exact MO_of (q.mo o2 ho2) fA
        · have z := q.po i2 hi2
          unfold PO at z ⊢
          rw [fA 13 (by omega) (by omega), fA 14 (by omega) (by omega)]
          exact z
      have e8 : pl_nx k A2 8 m = k1 := by rw [fA 8 (by omega) (by omega)]; exact ek
      have hp := cp_0 hn (by omega) (by omega) h0 h1 hpc z1
      have cls : ∀ H, am_ev d z_Runner_callMacro (37, [some (.ref 5), some (.ref a), some (.int (nI (k + 1))), some (.int u0), some (.int (nI (r + (j + 1)))), some (.int (nI (j + 1)))], [.int (nI (r + (j + 1))), .int (nI (j + 1))], dH h τ2 t2 B2 P) none H → am_ev d z_Runner_callMacro (37, [some (.ref 5), some (.ref a), some (.int (nI (k + 1))), some (.int u0), some (.int (nI (r + 1 + j))), some (.int (nI j))], [.int (nI (r + 1 + j)), .int (nI j)], dH h τ t B P) none H := by
        intro H K
        rw [show r + (j + 1) = r + 1 + j by omega] at K
        exact cm_rnd (by omega) hn (by omega) (by omega) h0 h1 hpc (by omega) (by omega) q.cl.1 hp K
      rcases p_rounds hdm hn hR hC hnh hkm hpc hd ha hb h0 h1 IH r (j + 1) c2 (pl_σ k m σ2 A2) τ2 t2 (pl_nx k A2) B2 e8 q2 with ⟨c3, τ3, t3, B3, σ3, A3, v1, v2, v3, v4, v5, v6, v7, v8, v9⟩ | ⟨x, τ3, t3, B3, σ3, A3, v1, v2, v3, v4, v5, v6, v7⟩
      · exact Or.inl ⟨c3, τ3, t3, B3, σ3, A3, cls _ v1, (z2.tr step).tr v2, v3, v4, (fc0.tr z5).tr v5, fs.tr v6, fA.tr v7, fb.tr v8, v9⟩
      · exact Or.inr ⟨x, τ3, t3, B3, σ3, A3, cls _ v1, (z2.tr step).en v2, v3, (fc0.tr z5).tr v4, fs.tr v5, fA.tr v6, v7⟩
    · have hp := cp_0 hn (by omega) (by omega) h0 h1 hpc z1
      have z60 : ¬ τ2 6 = 0 := by
        rw [z3.2.1]
        exact fun z => absurd (z ▸ z3.1) (by decide)
      obtain ⟨v1, v2, v3, v4, v5⟩ := z3
      exact Or.inr ⟨x, ea_τ k1 u0 τ2, t2, B2, σ2, A2, cm_rnd (by omega) hn (by omega) (by omega) h0 h1 hpc (by omega) (by omega) q.cl.1 hp (cm_fail hn (by omega) (by omega) h0 h1 hpc z60), z2, ⟨v1, (ea_far (by omega)).trans v2, (ea_far (by omega)).trans v3, (ea_far (by omega)).trans v4, (ea_far (by omega)).trans v5⟩, fun i hi => (ea_far (by omega)).trans ((z4 i hi).trans (fc0 i hi)), z5, z6, z7⟩
theorem r_rounds {σ τ : Nat → Int32} {A B : Nat → Nat → Int32} {m : Nat} (hR : R ≤ 10) (hC : C ≤ 10) (s6 : σ 6 = τ 3) (hcr : CR R C A (B 0)) : mo_r R C σ A m = ro_x R C (τ 3) (B 0) (A 8 m) (A 9 m) (A 10 m) (A 11 m) := by
  unfold mo_r ro_x
  have e : cb (mo_c R C σ A m) = cb (tr_p R C (τ 3) (B 0) (A 9 m) (A 10 m) (A 11 m)) := by
    refine cb_if ?_
    unfold mo_c tr_p
    rw [s6]
    have k : cl_kn R C (A 9 m) (A 10 m) → sp_seen (τ 3) (fun l => A 0 (100 * l + (10 * (A 9 m).toNatClampNeg + (A 10 m).toNatClampNeg))) = sp_seen (τ 3) (fun l => B 0 (cx (A 9 m).toNatClampNeg (A 10 m).toNatClampNeg l)) := by
      intro z
      obtain ⟨r, c, hr, hc, q1, q2⟩ := kn_of hR hC z
      rw [q1, q2, nI_clamp (by omega), nI_clamp (by omega)]
      exact seen_if (fun l hl => (hcr.1 r c hr hc).1 l hl)
    exact ⟨fun p => ⟨p.1, (k p.1).symm.trans p.2⟩, fun p => ⟨p.1, (k p.1).trans p.2⟩⟩
  rw [e]
theorem r_r9 {A : Nat → Nat → Int32} {m : Nat} {s : Int32} {f : Nat → Int32} (hk : A 8 m = 0 ∨ (A 8 m = 1 ∧ ∃ y, y ≤ 9 ∧ A 9 m = nI y) ∨ A 8 m = 2 ∨ A 8 m = 3) : ∃ r, r ≤ 9 ∧ ro_x R C s f (A 8 m) (A 9 m) (A 10 m) (A 11 m) = nI r ∧ (A 8 m = 3 → r = 3) := by
  unfold ro_x
  rcases hk with e | ⟨e, y, hy, ey⟩ | e | e
  · rw [e]; exact ⟨1, by omega, rfl, fun z => absurd z (by decide)⟩
  · rw [e]; exact ⟨y, hy, ey, fun z => absurd z (by decide)⟩
  · rw [e]
    rcases cb_01 (p := tr_p R C s f (A 9 m) (A 10 m) (A 11 m)) with z | z
    · exact ⟨0, by omega, z, fun z => absurd z (by decide)⟩
    · exact ⟨1, by omega, z, fun z => absurd z (by decide)⟩
  · rw [e]; exact ⟨3, by omega, rfl, fun _ => rfl⟩
theorem mo_far {σ : Nat → Int32} {A : Nat → Nat → Int32} {m k j : Nat} (hj : j < 19 ∨ 23 < j) : mo_A R C σ A m k j = A j := by
  unfold mo_A
  rw [va_up_ne _ _ (by omega), va_up_ne _ _ (by omega), va_up_ne _ _ (by omega), va_up_ne _ _ (by omega), va_up_ne _ _ (by omega)]
theorem mo_at {σ : Nat → Int32} {A : Nat → Nat → Int32} {m k : Nat} : mo_A R C σ A m k 19 = va_up (A 19) k (nI m) ∧ mo_A R C σ A m k 20 = va_up (A 20) k 0 ∧ mo_A R C σ A m k 21 = va_up (A 21) k (mo_r R C σ A m) ∧ mo_A R C σ A m k 22 = va_up (A 22) k 0 ∧ mo_A R C σ A m k 23 = va_up (A 23) k (σ 5) := by
  refine ⟨?_, ?_, ?_, ?_, ?_⟩ <;> unfold mo_A
  · rw [va_up_ne _ _ (by omega), va_up_ne _ _ (by omega), va_up_ne _ _ (by omega), va_up_ne _ _ (by omega), va_up_self]
  · rw [va_up_ne _ _ (by omega), va_up_ne _ _ (by omega), va_up_ne _ _ (by omega), va_up_self]
  · rw [va_up_ne _ _ (by omega), va_up_ne _ _ (by omega), va_up_self]
  · rw [va_up_ne _ _ (by omega), va_up_self]
  · rw [va_up_self]
theorem mo_lo {σ : Nat → Int32} {A : Nat → Nat → Int32} {m k j i : Nat} (hi : i ≠ k) : mo_A R C σ A m k j i = A j i := by
  obtain ⟨a, b, c, d, e⟩ := mo_at (R := R) (C := C) (σ := σ) (A := A) (m := m) (k := k)
  by_cases h : j < 19 ∨ 23 < j
  · rw [mo_far h]
  · have h2 : j = 19 ∨ j = 20 ∨ j = 21 ∨ j = 22 ∨ j = 23 := by omega
    rcases h2 with rfl | rfl | rfl | rfl | rfl
    · rw [a, va_up_ne _ _ hi]
    · rw [b, va_up_ne _ _ hi]
    · rw [c, va_up_ne _ _ hi]
    · rw [d, va_up_ne _ _ hi]
    · rw [e, va_up_ne _ _ hi]
theorem p_macro (hdm : 7 < dm) (hn : 15 ≤ h.1) (hR : 1 ≤ R ∧ R ≤ 10) (hC : 1 ≤ C ∧ C ≤ 10) (hnh : nh ≤ 40) (m : Nat) : PMs dm x0 R C nh h P m := by
  induction m using Nat.strongRecOn with
  | ind m IH =>
    intro k d c σ τ t A B hkm hd hw hcl h11 hc hho hmo
    obtain ⟨a, b, pc, f, p1, ⟨ga, gb, hpc⟩, i0, i1, e12, hk, hpo⟩ := hmo m (Nat.le_refl _)
    refine ⟨a, p1, ?_⟩
    obtain ⟨⟨w1, w2, w3, w4⟩, ⟨u, hu, w5, w6⟩, w7, w8, w9⟩ := id hw
    obtain ⟨r, hr9, er, e3⟩ := r_r9 (R := R) (C := C) (s := τ 3) (f := B 0) hk
    have hk2 : A 8 m = 0 ∨ A 8 m = 1 ∨ A 8 m = 2 ∨ A 8 m = 3 := by
      rcases hk with z | z | z | z
      · exact Or.inl z
      · exact Or.inr (Or.inl z.1)
      · exact Or.inr (Or.inr (Or.inl z))
      · exact Or.inr (Or.inr (Or.inr z))
    obtain ⟨m19, m20, m21, m22, m23⟩ := mo_at (R := R) (C := C) (σ := σ) (A := A) (m := m) (k := k)
    have mfar : ∀ j, j < 19 → mo_A R C σ A m k j = A j := fun j hj => mo_far (by omega)
    have fA : FRA A (mo_A R C σ A m k) := fun j b1 b2 => mfar j (by omega)
    have q : RH R C nh k m pc r 0 c (τ 2) h P f (va_up σ 43 (nI (k + 1))) τ (mo_A R C σ A m k) B := by
      refine ⟨va_up_self _ _ _, ?_, ?_, ?_, ?_, ?_, ⟨u, hu, w5⟩, by omega, ?_, ?_, ?_, h11, hc, ?_, fun n hn2 => ?_, fun o ho => MO_of (hmo o (by omega)) fA, fun i hi => ?_⟩
      · rw [m19, va_up_self]
      · rw [m20, va_up_self]
      · rw [m21, va_up_self, r_rounds hR.2 hC.2 w7 w8]; exact er
      · rw [m22, va_up_self]; rfl
      · rw [m23, va_up_self, w6, w5]
      · rw [mfar 8 (by omega)]
        intro z
        have := e3 z
        omega
      · exact RW_σ (RW_rows hw (mfar 0 (by omega)) (mfar 1 (by omega))) (fun j hj => va_up_ne _ _ (by omega))
      · obtain ⟨z1, z2, z3, z4, z5⟩ := hcl
        exact ⟨z1, z2, z3, z4, z5⟩
      · rw [mfar 12 (by omega)]; exact e12
      · exact HO_of (hho n hn2) (mfar 5 (by omega)) (mfar 6 (by omega)) (mfar 7 (by omega))
      · have z := hpo i hi
        unfold PO at z ⊢
        rw [mfar 13 (by omega), mfar 14 (by omega)]
        exact z
    have cls : ∀ H, am_ev d z_Runner_callMacro (37, [some (.ref 5), some (.ref a), some (.int (nI (k + 1))), some (.int (τ 2)), some (.int (nI (r + 0))), some (.int (nI 0))], [.int (nI (r + 0)), .int (nI 0)], dH h τ t B P) none H → am_m d z_Runner_callMacro [.ref 5, .ref a, .int (nI (k + 1))] (dH h τ t B P) none H := fun H K => cm_0 (by omega) hn hR hC w1 w2 (by omega) (by omega) i0 i1 hpc hk2 (nI_le (b := 20) (by omega) (by omega)) (rr := nI r) er K
    have fs : FRs σ (va_up σ 43 (nI (k + 1))) := fun j hj => va_up_ne _ _ (by omega)
    have fb : FB k A (mo_A R C σ A m k) := fun j i _ _ hi => mo_lo (by omega)
    rcases p_rounds (x0 := x0) hdm hn hR hC hnh hkm hpc hd ga gb i0 i1 IH r 0 c _ τ t _ B (mfar 8 (by omega) ▸ rfl) q with ⟨c3, τ3, t3, B3, σ3, A3, v1, v2, v3, v4, v5, v6, v7, v8, v9⟩ | ⟨x, τ3, t3, B3, σ3, A3, v1, v2, v3, v4, v5, v6, v7⟩
    · exact Or.inl ⟨c3, τ3, t3, B3, σ3, A3, cls _ v1, v2, v3, v4, v5, fs.tr v6, fA.tr v7, fb.tr v8, v9⟩
    · exact Or.inr ⟨x, τ3, t3, B3, σ3, A3, cls _ v1, v2, v3, v4, fs.tr v5, fA.tr v6, v7⟩
/-- a macro played from the outside -/
theorem r_play (hdm : 7 < dm) (hd : 60 < d) (hn : 15 ≤ h.1) (hR : 1 ≤ R ∧ R ≤ 10) (hC : 1 ≤ C ∧ C ≤ 10) (hnh : nh ≤ 40) {m : Nat} (hm : m < 20) {σ τ : Nat → Int32} {t : Int64} {A B : Nat → Nat → Int32} (hw : RW R C σ τ A B) (hcl : CL τ σ) (h11 : τ 11 = 0) (hho : ∀ n, n < nh → HO h P A n) (hmo : ∀ o, o ≤ m → MO h P A nh o) : ∃ (a : Nat) (x : Int32) (τ2 : Nat → Int32) (t2 : Int64) (B2 : Nat → Nat → Int32) (σ2 : Nat → Int32) (A2 : Nat → Nat → Int32), P 2 m = some a ∧ am_m d z_Runner_callMacro [.ref 5, .ref a, .int 1] (dH h τ t B P) none (dH h τ2 t2 B2 P) ∧ (∀ h' : am_H, 43 ≤ h'.1 → am_m dm z_Model_plays [.ref 18, .int (nI m)] (mH h' σ t A) (some (.int x)) (mH h' σ2 t2 A2)) ∧ ((x = 0 ∧ RW R C σ2 τ2 A2 B2 ∧ CL τ2 σ2) ∨ (FL x τ2 σ2 ∧ RG A2)) ∧ FRc τ τ2 ∧ FRs σ σ2 ∧ FRA A A2 := by
  have hw2 : RW R C (va_up σ 43 0) τ A B := RW_σ hw (fun j hj => va_up_ne _ _ (by omega))
  have hcl2 : CL τ (va_up σ 43 0) := hcl
  have fs : FRs σ (va_up σ 43 0) := fun j hj => va_up_ne _ _ (by omega)
  obtain ⟨a, p1, hk⟩ := p_macro (x0 := nI m) (h := h) (P := P) hdm hn hR hC hnh m 0 d 0 (va_up σ 43 0) τ t A B (by omega) (by omega) hw2 hcl2 h11 (by omega) hho hmo
  rcases hk with ⟨c3, τ3, t3, B3, σ3, A3, v1, v2, v3, v4, v5, v6, v7, v8, v9, v10⟩ | ⟨x, τ3, t3, B3, σ3, A3, v1, v2, v3, v4, v5, v6, v7⟩
  · exact ⟨a, 0, τ3, t3, B3, σ3, A3, p1, v1, fun h' hn' => m_plays hn' (by omega) hR hC hw.1.2.2.1 hw.1.2.2.2 hm (v2 h' _ _ hn' (fun e3 e4 e5 e6 => t_plE hn' v9) _ _ _ _), Or.inl ⟨rfl, v10, v3⟩, v5, fs.tr v6, v7⟩
  · exact ⟨a, x, τ3, t3, B3, σ3, A3, p1, v1, fun h' hn' => m_plays hn' (by omega) hR hC hw.1.2.2.1 hw.1.2.2.2 hm (v2 h' hn' _ _ _ _), Or.inr ⟨v3, v7⟩, v4, fs.tr v5, v6⟩
end RM
