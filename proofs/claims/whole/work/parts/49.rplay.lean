/-! macros played, on both sides -/
def FRc (τ τ2 : Nat → Int32) : Prop := ∀ j, (j = 0 ∨ j = 1 ∨ j = 4 ∨ j = 5 ∨ j = 7 ∨ 21 < j) → τ2 j = τ j
def FRs (σ σ2 : Nat → Int32) : Prop := ∀ j, (j < 5 ∨ (6 < j ∧ j < 26) ∨ (28 < j ∧ j < 32) ∨ (35 < j ∧ j < 43)) → σ2 j = σ j
def FRA (A A2 : Nat → Nat → Int32) : Prop := ∀ j, 2 ≤ j → j ≤ 14 → A2 j = A j
def FB (k : Nat) (A A2 : Nat → Nat → Int32) : Prop := ∀ j i, 19 ≤ j → j ≤ 23 → i < k → A2 j i = A j i
def CL (τ σ : Nat → Int32) : Prop := τ 6 = 0 ∧ τ 9 = -9 ∧ τ 10 = 0 ∧ σ 27 = -9 ∧ σ 28 = 0
def FL (x : Int32) (τ σ : Nat → Int32) : Prop := 0 < x ∧ τ 6 = x ∧ τ 8 = σ 26 ∧ τ 9 = σ 27 ∧ τ 10 = σ 28
theorem FRc.tr {a b c : Nat → Int32} (p : FRc a b) (q : FRc b c) : FRc a c := fun j hj => (q j hj).trans (p j hj)
theorem FRs.tr {a b c : Nat → Int32} (p : FRs a b) (q : FRs b c) : FRs a c := fun j hj => (q j hj).trans (p j hj)
theorem FRA.tr {a b c : Nat → Nat → Int32} (p : FRA a b) (q : FRA b c) : FRA a c := fun j h1 h2 => (q j h1 h2).trans (p j h1 h2)
theorem FB.tr {k : Nat} {a b c : Nat → Nat → Int32} (p : FB k a b) (q : FB k b c) : FB k a c := fun j i h1 h2 h3 => (q j i h1 h2 h3).trans (p j i h1 h2 h3)
/-- a part of a macro and its rows -/
def PO (h : am_H) (P : Nat → Nat → Option Nat) (A : Nat → Nat → Int32) (nh m x : Nat) (w : Option Nat) : Prop := (∃ p o ao, w = some p ∧ 43 ≤ p ∧ am_is h p (pt_c .null (.ref ao) .null) ∧ o < m ∧ P 2 o = some ao ∧ A 13 x = nI (100 + o)) ∨ (∃ (p hh ah ga : Nat) (g : Nat → Int32), w = some p ∧ (43 ≤ p ∧ 43 ≤ ga) ∧ am_is h p (pt_c (.ref ah) .null (.ref ga)) ∧ hh < nh ∧ P 1 hh = some ah ∧ A 13 x = nI hh ∧ am_is h ga (am_ia 4 g) ∧ ∀ j, j < 4 → A 14 (4 * x + j) = g j)
/-- a macro and its rows -/
def MO (h : am_H) (P : Nat → Nat → Option Nat) (A : Nat → Nat → Int32) (nh m : Nat) : Prop := ∃ (a b pc : Nat) (f : Nat → Option Nat), P 2 m = some a ∧ (43 ≤ a ∧ 43 ≤ b ∧ pc ≤ 8) ∧ am_is h a (mc_c (A 8 m) (A 10 m) (A 11 m) (A 9 m) (nI pc) b) ∧ am_is h b (pa_c f) ∧ A 12 m = nI pc ∧ (A 8 m = 0 ∨ (A 8 m = 1 ∧ ∃ y, y ≤ 9 ∧ A 9 m = nI y) ∨ A 8 m = 2 ∨ A 8 m = 3) ∧ ∀ i, i < pc → PO h P A nh m (8 * m + i) (f i)
theorem MO_of {h : am_H} {P : Nat → Nat → Option Nat} {A A2 : Nat → Nat → Int32} {nh m : Nat} (q : MO h P A nh m) (e : FRA A A2) : MO h P A2 nh m := by
  unfold MO PO at q ⊢
  rw [e 8 (by omega) (by omega), e 9 (by omega) (by omega), e 10 (by omega) (by omega), e 11 (by omega) (by omega), e 12 (by omega) (by omega), e 13 (by omega) (by omega), e 14 (by omega) (by omega)]
  exact q
theorem HO_of {h : am_H} {P : Nat → Nat → Option Nat} {A A2 : Nat → Nat → Int32} {n : Nat} (q : HO h P A n) (e5 : A2 5 = A 5) (e6 : A2 6 = A 6) (e7 : A2 7 = A 7) : HO h P A2 n := by
  unfold HO at q ⊢
  rw [e5, e6, e7]
  exact q
abbrev LPl (x0 : Int32) (c : Nat) (e3 e4 e5 e6 : Option Value) : List (Option Value) := [some (.ref 18), some (.int x0), some (.int (nI c)), e3, e4, e5, e6]
/-- the reference goes on from one state of its plays to another -/
def RC (dm : Nat) (x0 : Int32) (c : Nat) (σ : Nat → Int32) (t : Int64) (A : Nat → Nat → Int32) (c2 : Nat) (σ2 : Nat → Int32) (t2 : Int64) (A2 : Nat → Nat → Int32) : Prop := ∀ (h' : am_H) (res : Option Value) (hh : am_H), 43 ≤ h'.1 → (∀ e3 e4 e5 e6 : Option Value, am_ev dm z_Model_plays (12, LPl x0 c2 e3 e4 e5 e6, [], mH h' σ2 t2 A2) res hh) → ∀ e3 e4 e5 e6 : Option Value, am_ev dm z_Model_plays (12, LPl x0 c e3 e4 e5 e6, [], mH h' σ t A) res hh
def RE (dm : Nat) (x0 : Int32) (c : Nat) (σ : Nat → Int32) (t : Int64) (A : Nat → Nat → Int32) (x : Int32) (σ2 : Nat → Int32) (t2 : Int64) (A2 : Nat → Nat → Int32) : Prop := ∀ (h' : am_H), 43 ≤ h'.1 → ∀ e3 e4 e5 e6 : Option Value, am_ev dm z_Model_plays (12, LPl x0 c e3 e4 e5 e6, [], mH h' σ t A) (some (.int x)) (mH h' σ2 t2 A2)
theorem RC.tr {dm : Nat} {x0 : Int32} {c c1 c2 : Nat} {σ σ1 σ2 : Nat → Int32} {t t1 t2 : Int64} {A A1 A2 : Nat → Nat → Int32} (p : RC dm x0 c σ t A c1 σ1 t1 A1) (q : RC dm x0 c1 σ1 t1 A1 c2 σ2 t2 A2) : RC dm x0 c σ t A c2 σ2 t2 A2 := fun h' res hh hn K => p h' res hh hn (q h' res hh hn K)
theorem RC.en {dm : Nat} {x0 : Int32} {c c1 : Nat} {x : Int32} {σ σ1 σ2 : Nat → Int32} {t t1 t2 : Int64} {A A1 A2 : Nat → Nat → Int32} (p : RC dm x0 c σ t A c1 σ1 t1 A1) (q : RE dm x0 c1 σ1 t1 A1 x σ2 t2 A2) : RE dm x0 c σ t A x σ2 t2 A2 := fun h' hn => p h' _ _ hn (q h' hn)
/-- wools are wools -/
def RG (A : Nat → Nat → Int32) : Prop := ∀ j, ∃ y, y < 10 ∧ A 0 j = nI y
/-- how a piece of a play ends -/
def OKE (dm : Nat) (x0 : Int32) (R C k : Nat) (cls : (Nat → Int32) → Int64 → (Nat → Nat → Int32) → Prop) (c : Nat) (σ0 σ τ : Nat → Int32) (t : Int64) (A0 A : Nat → Nat → Int32) (post : (Nat → Int32) → (Nat → Int32) → (Nat → Nat → Int32) → (Nat → Nat → Int32) → Prop) : Prop := (∃ (c2 : Nat) (τ2 : Nat → Int32) (t2 : Int64) (B2 : Nat → Nat → Int32) (σ2 : Nat → Int32) (A2 : Nat → Nat → Int32), cls τ2 t2 B2 ∧ RC dm x0 c σ t A c2 σ2 t2 A2 ∧ CL τ2 σ2 ∧ (τ2 11 = nI c2 ∧ c2 ≤ 300) ∧ FRc τ τ2 ∧ FRs σ0 σ2 ∧ FRA A0 A2 ∧ FB k A0 A2 ∧ post σ2 τ2 A2 B2) ∨ (∃ (x : Int32) (τ2 : Nat → Int32) (t2 : Int64) (B2 : Nat → Nat → Int32) (σ2 : Nat → Int32) (A2 : Nat → Nat → Int32), cls τ2 t2 B2 ∧ RE dm x0 c σ t A x σ2 t2 A2 ∧ FL x τ2 σ2 ∧ FRc τ τ2 ∧ FRs σ0 σ2 ∧ FRA A0 A2 ∧ RG A2)
section RP
variable {dm d R C nh nm : Nat} {x0 : Int32} {h : am_H} {P : Nat → Nat → Option Nat}
theorem pl_s0 {k m : Nat} {σ : Nat → Int32} {A : Nat → Nat → Int32} (hz : ¬ A 20 k = 0) : pl_σ k m σ A = σ := if_neg (fun q => hz q.1)
theorem RW_rows {σ τ : Nat → Int32} {A A2 B : Nat → Nat → Int32} (q : RW R C σ τ A B) (h0 : A2 0 = A 0) (h1 : A2 1 = A 1) : RW R C σ τ A2 B := ⟨q.1, q.2.1, q.2.2.1, CR_of q.2.2.2.1 h0 h1, q.2.2.2.2⟩
theorem RW_τ {σ τ τ2 : Nat → Int32} {A B : Nat → Nat → Int32} (q : RW R C σ τ A B) (h : ∀ j, j < 4 ∨ j = 8 → τ2 j = τ j) : RW R C σ τ2 A B := by
  unfold RW at q ⊢
  rw [h 0 (by omega), h 1 (by omega), h 2 (by omega), h 3 (by omega), h 8 (by omega)]
  exact q
theorem RW_σ {σ σ2 τ : Nat → Int32} {A B : Nat → Nat → Int32} (q : RW R C σ τ A B) (h : ∀ j, j < 7 ∨ j = 26 → σ2 j = σ j) : RW R C σ2 τ A B := by
  unfold RW at q ⊢
  rw [h 1 (by omega), h 2 (by omega), h 5 (by omega), h 6 (by omega), h 26 (by omega)]
  exact q
theorem nI_s8 {k : Nat} (hk : k < 100) : ¬ nI (k + 1) = 0 := fun q => by
  have := nI_eq0 (by omega) q
  omega
/-- what is known at the head of the parts -/
abbrev PH (R C nh k m pc i c : Nat) (h : am_H) (P : Nat → Nat → Option Nat) (f : Nat → Option Nat) (σ τ : Nat → Int32) (A B : Nat → Nat → Int32) : Prop := (σ 43 = nI (k + 1)) ∧ (A 19 k = nI m) ∧ (A 20 k = nI i) ∧ (¬ A 21 k = 0) ∧ (RW R C (pl_σ k m σ A) τ A B) ∧ (CL τ σ) ∧ (τ 11 = nI c) ∧ (c ≤ 300) ∧ (A 12 m = nI pc) ∧ (∀ n, n < nh → HO h P A n) ∧ (∀ o, o < m → MO h P A nh o) ∧ (∀ i, i < pc → PO h P A nh m (8 * m + i) (f i))
theorem PH.s43 {R C nh k m pc i c : Nat} {h : am_H} {P : Nat → Nat → Option Nat} {f : Nat → Option Nat} {σ τ : Nat → Int32} {A B : Nat → Nat → Int32} (q : PH R C nh k m pc i c h P f σ τ A B) : σ 43 = nI (k + 1) := q.1
theorem PH.a19 {R C nh k m pc i c : Nat} {h : am_H} {P : Nat → Nat → Option Nat} {f : Nat → Option Nat} {σ τ : Nat → Int32} {A B : Nat → Nat → Int32} (q : PH R C nh k m pc i c h P f σ τ A B) : A 19 k = nI m := q.2.1
theorem PH.a20 {R C nh k m pc i c : Nat} {h : am_H} {P : Nat → Nat → Option Nat} {f : Nat → Option Nat} {σ τ : Nat → Int32} {A B : Nat → Nat → Int32} (q : PH R C nh k m pc i c h P f σ τ A B) : A 20 k = nI i := q.2.2.1
theorem PH.a21 {R C nh k m pc i c : Nat} {h : am_H} {P : Nat → Nat → Option Nat} {f : Nat → Option Nat} {σ τ : Nat → Int32} {A B : Nat → Nat → Int32} (q : PH R C nh k m pc i c h P f σ τ A B) : ¬ A 21 k = 0 := q.2.2.2.1
theorem PH.rw {R C nh k m pc i c : Nat} {h : am_H} {P : Nat → Nat → Option Nat} {f : Nat → Option Nat} {σ τ : Nat → Int32} {A B : Nat → Nat → Int32} (q : PH R C nh k m pc i c h P f σ τ A B) : RW R C (pl_σ k m σ A) τ A B := q.2.2.2.2.1
theorem PH.cl {R C nh k m pc i c : Nat} {h : am_H} {P : Nat → Nat → Option Nat} {f : Nat → Option Nat} {σ τ : Nat → Int32} {A B : Nat → Nat → Int32} (q : PH R C nh k m pc i c h P f σ τ A B) : CL τ σ := q.2.2.2.2.2.1
theorem PH.t11 {R C nh k m pc i c : Nat} {h : am_H} {P : Nat → Nat → Option Nat} {f : Nat → Option Nat} {σ τ : Nat → Int32} {A B : Nat → Nat → Int32} (q : PH R C nh k m pc i c h P f σ τ A B) : τ 11 = nI c := q.2.2.2.2.2.2.1
theorem PH.c3 {R C nh k m pc i c : Nat} {h : am_H} {P : Nat → Nat → Option Nat} {f : Nat → Option Nat} {σ τ : Nat → Int32} {A B : Nat → Nat → Int32} (q : PH R C nh k m pc i c h P f σ τ A B) : c ≤ 300 := q.2.2.2.2.2.2.2.1
theorem PH.a12 {R C nh k m pc i c : Nat} {h : am_H} {P : Nat → Nat → Option Nat} {f : Nat → Option Nat} {σ τ : Nat → Int32} {A B : Nat → Nat → Int32} (q : PH R C nh k m pc i c h P f σ τ A B) : A 12 m = nI pc := q.2.2.2.2.2.2.2.2.1
theorem PH.ho {R C nh k m pc i c : Nat} {h : am_H} {P : Nat → Nat → Option Nat} {f : Nat → Option Nat} {σ τ : Nat → Int32} {A B : Nat → Nat → Int32} (q : PH R C nh k m pc i c h P f σ τ A B) : ∀ n, n < nh → HO h P A n := q.2.2.2.2.2.2.2.2.2.1
theorem PH.mo {R C nh k m pc i c : Nat} {h : am_H} {P : Nat → Nat → Option Nat} {f : Nat → Option Nat} {σ τ : Nat → Int32} {A B : Nat → Nat → Int32} (q : PH R C nh k m pc i c h P f σ τ A B) : ∀ o, o < m → MO h P A nh o := q.2.2.2.2.2.2.2.2.2.2.1
theorem PH.po {R C nh k m pc i c : Nat} {h : am_H} {P : Nat → Nat → Option Nat} {f : Nat → Option Nat} {σ τ : Nat → Int32} {A B : Nat → Nat → Int32} (q : PH R C nh k m pc i c h P f σ τ A B) : ∀ i, i < pc → PO h P A nh m (8 * m + i) (f i) := q.2.2.2.2.2.2.2.2.2.2.2
def PMs (dm : Nat) (x0 : Int32) (R C nh : Nat) (h : am_H) (P : Nat → Nat → Option Nat) (m : Nat) : Prop := ∀ (k d c : Nat) (σ τ : Nat → Int32) (t : Int64) (A B : Nat → Nat → Int32), k + m ≤ 19 → 2 * m + 20 < d → RW R C σ τ A B → CL τ σ → τ 11 = nI c → c ≤ 300 → (∀ n, n < nh → HO h P A n) → (∀ o, o ≤ m → MO h P A nh o) → ∃ a, P 2 m = some a ∧ OKE dm x0 R C k (fun τ2 t2 B2 => am_m d z_Runner_callMacro [.ref 5, .ref a, .int (nI (k + 1))] (dH h τ t B P) none (dH h τ2 t2 B2 P)) c σ (va_up σ 43 (nI (k + 1))) τ t A (mo_A R C σ A m k) (fun σ2 τ2 A2 B2 => σ2 43 = nI k ∧ RW R C σ2 τ2 A2 B2)
theorem p_parts (hdm : 7 < dm) (hn : 15 ≤ h.1) (hR : 1 ≤ R ∧ R ≤ 10) (hC : 1 ≤ C ∧ C ≤ 10) (hnh : nh ≤ 40) {k m pc a b : Nat} {k1 k2 k3 k4 : Int32} {f : Nat → Option Nat} (hkm : k + m ≤ 19) (hpc : pc ≤ 8) (hd : 2 * m + 19 < d) (ha : 43 ≤ a) (hb : 43 ≤ b) (h0 : am_is h a (mc_c k1 k2 k3 k4 (nI pc) b)) (h1 : am_is h b (pa_c f)) (IH : ∀ o, o < m → PMs dm x0 R C nh h P o) : ∀ (n i c : Nat) (σ τ : Nat → Int32) (t : Int64) (A B : Nat → Nat → Int32) (e4 : Option Value), i + n = pc → PH R C nh k m pc i c h P f σ τ A B → OKE dm x0 R C k (fun τ2 t2 B2 => am_ev d z_Runner_callParts (7, [some (.ref 5), some (.ref a), some (.int (nI (k + 1))), some (.int (nI i)), e4], [.int (nI pc), .int (nI i)], dH h τ t B P) none (dH h τ2 t2 B2 P)) c σ σ τ t A A (fun σ2 τ2 A2 B2 => (σ2 43 = nI (k + 1) ∧ A2 20 k = nI pc ∧ A2 19 k = A 19 k ∧ A2 21 k = A 21 k ∧ A2 22 k = A 22 k ∧ A2 23 k = A 23 k) ∧ RW R C (pl_σ k m σ2 A2) τ2 A2 B2)
  | 0, i, c, σ, τ, t, A, B, e4, hi, q => by
    have ei : i = pc := hi
    subst ei
    exact Or.inl ⟨c, τ, t, B, σ, A, cp_end hn (Nat.le_refl _) (by omega), fun h' res hh hn' K => K, q.cl, ⟨q.t11, q.c3⟩, fun _ _ => rfl, fun _ _ => rfl, fun _ _ _ => rfl, fun _ _ _ _ _ => rfl, ⟨q.s43, q.a20, rfl, rfl, rfl, rfl⟩, q.rw⟩
  | n + 1, i, c, σ, τ, t, A, B, e4, hi, q => by
    have hne : ¬ A 20 k = A 12 m := by
      rw [q.a20, q.a12]
      intro z
      have := nI_ij (by omega) (by omega) z
      omega
    by_cases zc : c = 300
    · obtain ⟨p, ep⟩ : ∃ p, f i = some p := by
        rcases q.po i (by omega) with ⟨p, _, _, e, _⟩ | ⟨p, _, _, _, _, e, _⟩
        · exact ⟨p, e⟩
        · exact ⟨p, e⟩
      refine Or.inr ⟨5, _, t, B, va_up (pl_σ k m σ A) 28 (nI (k + 1)), pl_at k i A, cp_long (by omega) hn (by omega) (by omega) h0 h1 hpc (by omega) q.cl.1 ep (by rw [q.t11, zc]), fun h' hn' e3 e4 e5 e6 => t_plL hn' q.s43 (by omega) q.a19 (by omega) q.a21 q.a20 (by omega) hne zc rfl rfl, ⟨by decide, rfl, ?_, ?_, rfl⟩, fun j hj => ?_, fun j hj => ?_, fun j h2 h3 => va_up_ne _ _ (by omega), q.rw.2.2.2.1.2.2⟩
      · rw [va_up_ne _ _ (by omega), va_up_ne _ _ (by omega), va_up_ne _ _ (by omega), va_up_ne _ _ (by omega)]
        exact q.rw.2.2.2.2
      · rw [va_up_ne _ _ (by omega), va_up_self, va_up_ne _ _ (by omega), pl_far _ _ _ _ (by omega)]
        exact q.cl.2.2.2.1.symm
      · rw [va_up_ne _ _ (by omega), va_up_ne _ _ (by omega), va_up_ne _ _ (by omega)]
      · rw [va_up_ne _ _ (by omega), pl_far _ _ _ _ (by omega)]
    · have hc3 : c < 300 := by have := q.c3; omega
      have hfar : ∀ {j : Nat}, j ≠ 5 → pl_σ k m σ A j = σ j := fun hj => pl_far k m σ A hj
      have at20 : pl_at k i A 20 k = nI (i + 1) := by
        unfold pl_at
        rw [va_up_self, va_up_self]
      have ato : ∀ j, j ≠ 20 → pl_at k i A j = A j := fun j hj => va_up_ne _ _ hj
      have at20b : ∀ x, x ≠ k → pl_at k i A 20 x = A 20 x := by
        intro x hx
        unfold pl_at
        rw [va_up_self, va_up_ne _ _ hx]
      rcases q.po i (by omega) with ⟨p, o, ao, ep, gp, ip, ho, eao, e13⟩ | ⟨p, hh, ah, ga, g, ep, ⟨gp, gg⟩, ip, hhn, eah, e13, ig, e14⟩
      · -- a macro in it
        have hmo : ∀ o2, o2 ≤ o → MO h P (pl_at k i A) nh o2 := fun o2 ho2 => MO_of (q.mo o2 (by omega)) (fun j h2 h3 => ato j (by omega))
        have rw1 : RW R C (pl_σ k m σ A) (va_up τ 11 (nI (c + 1))) (pl_at k i A) B := RW_τ (RW_rows q.rw (ato 0 (by omega)) (ato 1 (by omega))) (fun j hj => va_up_ne _ _ (by omega))
        have cl1 : CL (va_up τ 11 (nI (c + 1))) (pl_σ k m σ A) := by
          obtain ⟨z1, z2, z3, z4, z5⟩ := q.cl
          exact ⟨z1, z2, z3, (hfar (by omega)).trans z4, (hfar (by omega)).trans z5⟩
        obtain ⟨ao2, e2, hk⟩ := IH o ho (k + 1) (d - 1) (c + 1) (pl_σ k m σ A) (va_up τ 11 (nI (c + 1))) t (pl_at k i A) B (by omega) (by omega) rw1 cl1 (va_up_self _ _ _) (by omega) (fun n hn2 => HO_of (q.ho n hn2) (ato 5 (by omega)) (ato 6 (by omega)) (ato 7 (by omega))) hmo
        have eo : ao2 = ao := Option.some.inj (e2.symm.trans eao)
        subst eo
        obtain ⟨ia, ib, ipc, if2, im1, im2, im3, _⟩ := q.mo o ho
        have ea2 : ia = ao2 := Option.some.inj (im1.symm.trans eao)
        subst ea2
        have dep : nI (k + 1) + 1 = nI (k + 1 + 1) := nI_1 _
        have step : RC dm x0 c σ t A (c + 1) (va_up (pl_σ k m σ A) 43 (nI (k + 1 + 1))) t (mo_A R C (pl_σ k m σ A) (pl_at k i A) o (k + 1)) := fun h' res hh hn' K e3 e4 e5 e6 => t_plM (d := dm) (by omega) hR hC (q.rw.1.2.2.1.symm.trans (hfar (by omega)) |>.symm) ((q.rw.1.2.2.2.symm.trans (hfar (by omega))).symm) hn' q.s43 (by omega) q.a19 (by omega) q.a21 q.a20 (by omega) hne hc3 (by omega) e13 (by omega) (fun e5 => K _ _ _ _)
        rcases hk with ⟨c2, τ2, t2, B2, σ2, A2, k1', k2', k3', k4', k5', k6', k7', k8', ⟨k9', k10'⟩⟩ | ⟨x, τ2, t2, B2, σ2, A2, k1', k2', k3', k4', k5', k6', k7'⟩
        · have a2k : ∀ j, 19 ≤ j → j ≤ 23 → A2 j k = pl_at k i A j k := fun j h2 h3 => k8' j k h2 h3 (by omega)
          have e20 : A2 20 k = nI (i + 1) := (a2k 20 (by omega) (by omega)).trans at20
          have q2 : PH R C nh k m pc (i + 1) c2 h P f σ2 τ2 A2 B2 := by
            refine ⟨k9', ?_, e20, ?_, ?_, k3', k4'.1, k4'.2, ?_, fun n hn2 => ?_, fun o2 ho2 => ?_, fun i2 hi2 => ?_⟩
            · rw [a2k 19 (by omega) (by omega), ato 19 (by omega)]; exact q.a19
            · rw [a2k 21 (by omega) (by omega), ato 21 (by omega)]; exact q.a21
            · rw [pl_s0 (by rw [e20]; exact nI_s8 (by omega))]; exact k10'
            · rw [k7' 12 (by omega) (by omega), ato 12 (by omega)]; exact q.a12
            · exact HO_of (q.ho n hn2) ((k7' 5 (by omega) (by omega)).trans (ato 5 (by omega))) ((k7' 6 (by omega) (by omega)).trans (ato 6 (by omega))) ((k7' 7 (by omega) (by omega)).trans (ato 7 (by omega)))
            · exact MO_of (q.mo o2 ho2) (fun j h2 h3 => (k7' j h2 h3).trans (ato j (by omega)))
            · have z := q.po i2 hi2
              unfold PO at z ⊢
              rw [k7' 13 (by omega) (by omega), k7' 14 (by omega) (by omega), ato 13 (by omega), ato 14 (by omega)]
              exact z
          have fA : FRA A A2 := fun j h2 h3 => (k7' j h2 h3).trans (ato j (by omega))
          have fs : FRs σ σ2 := fun j hj => (k6' j hj).trans (hfar (by omega))
          have fc : FRc τ τ2 := fun j hj => (k5' j hj).trans (va_up_ne _ _ (by omega))
          have fb : FB k A A2 := fun j x h2 h3 h4 => (k8' j x h2 h3 (by omega)).trans (by
            by_cases e : j = 20
            · subst e; exact at20b x (by omega)
            · rw [ato j e])
          have cls : ∀ τ3 t3 B3, am_ev d z_Runner_callParts (7, [some (.ref 5), some (.ref a), some (.int (nI (k + 1))), some (.int (nI (i + 1))), some (.ref p)], [.int (nI pc), .int (nI (i + 1))], dH h τ2 t2 B2 P) none (dH h τ3 t3 B3 P) → am_ev d z_Runner_callParts (7, [some (.ref 5), some (.ref a), some (.int (nI (k + 1))), some (.int (nI i)), e4], [.int (nI pc), .int (nI i)], dH h τ t B P) none (dH h τ3 t3 B3 P) := fun τ3 t3 B3 K => cp_mac (by omega) hn (by omega) (by omega) h0 h1 hpc (by omega) q.cl.1 ep q.t11 hc3 (by omega) (by omega) ip im3 (by rw [dep]; exact k1') K
          rcases p_parts hdm hn hR hC hnh hkm hpc hd ha hb h0 h1 IH n (i + 1) c2 σ2 τ2 t2 A2 B2 (some (.ref p)) (by omega) q2 with ⟨c3, τ3, t3, B3, σ3, A3, z1, z2, z3, z4, z5, z6, z7, z8, ⟨y1, y2, y3, y4, y5, y6⟩, z10⟩ | ⟨x, τ3, t3, B3, σ3, A3, z1, z2, z3, z4, z5, z6, z7⟩
          · refine Or.inl ⟨c3, τ3, t3, B3, σ3, A3, cls _ _ _ z1, (step.tr k2').tr z2, z3, z4, fc.tr z5, fs.tr z6, fA.tr z7, fb.tr z8, ⟨y1, y2, y3.trans ((a2k 19 (by omega) (by omega)).trans (by rw [ato 19 (by omega)])), y4.trans ((a2k 21 (by omega) (by omega)).trans (by rw [ato 21 (by omega)])), y5.trans ((a2k 22 (by omega) (by omega)).trans (by rw [ato 22 (by omega)])), y6.trans ((a2k 23 (by omega) (by omega)).trans (by rw [ato 23 (by omega)]))⟩, z10⟩
          · exact Or.inr ⟨x, τ3, t3, B3, σ3, A3, cls _ _ _ z1, (step.tr k2').en z2, z3, fc.tr z4, fs.tr z5, fA.tr z6, z7⟩
        · have z6 : ¬ τ2 6 = 0 := by
            rw [k3'.2.1]
            exact fun z => absurd (z ▸ k3'.1) (by decide)
          exact Or.inr ⟨x, τ2, t2, B2, σ2, A2, cp_mac (by omega) hn (by omega) (by omega) h0 h1 hpc (by omega) q.cl.1 ep q.t11 hc3 (by omega) (by omega) ip im3 (by rw [dep]; exact k1') (cp_fail hn z6), step.en k2', k3', fun j hj => (k4' j hj).trans (va_up_ne _ _ (by omega)), fun j hj => (k5' j hj).trans (hfar (by omega)), fun j h2 h3 => (k6' j h2 h3).trans (ato j (by omega)), k7'⟩
      · -- a handle in it
        have tdo : ∀ j, j ≠ 18 → pl_td (8 * m + i) (pl_at k i A) j = pl_at k i A j := fun j hj => va_up_ne _ _ hj
        have rw1 : RW R C (pl_σ k m σ A) (va_up τ 11 (nI (c + 1))) (pl_td (8 * m + i) (pl_at k i A)) B := RW_τ (RW_rows q.rw ((tdo 0 (by omega)).trans (ato 0 (by omega))) ((tdo 1 (by omega)).trans (ato 1 (by omega)))) (fun j hj => va_up_ne _ _ (by omega))
        have h18 : ∀ j, j < 5 → pl_td (8 * m + i) (pl_at k i A) 18 j = if j < 4 then g j else 0 := by
          intro j hj
          have e : pl_td (8 * m + i) (pl_at k i A) 18 = va_up (va_up (va_up (va_up (va_up (pl_at k i A 18) 0 (pl_at k i A 14 (4 * (8 * m + i) + 0))) 1 (pl_at k i A 14 (4 * (8 * m + i) + 1))) 2 (pl_at k i A 14 (4 * (8 * m + i) + 2))) 3 (pl_at k i A 14 (4 * (8 * m + i) + 3))) 4 0 := by
            unfold pl_td v5
            exact va_up_self _ _ _
          rw [e, ato 14 (by omega), e14 0 (by omega), e14 1 (by omega), e14 2 (by omega), e14 3 (by omega)]
          match j, hj with
          | 0, _ => rfl
          | 1, _ => rfl
          | 2, _ => rfl
          | 3, _ => rfl
          | 4, _ => rfl
        obtain ⟨ah2, kd, x, τ1, τ2, t2, B2, σ2, A2, w1, w2, ⟨yy, w3⟩, w4, w5, w6, w7, w8, w9, w10, w11, w12⟩ := r_call (d := d - 1) (dm := dm - 1) (h := h) (t := t) (P := P) (q := 7) (o := 12) (dp := nI (k + 1)) (by omega) (by omega) hn hR hC (Or.inl ⟨rfl, rfl⟩) rw1 (n := hh) (by omega) (HO_of (q.ho hh hhn) ((tdo 5 (by omega)).trans (ato 5 (by omega))) ((tdo 6 (by omega)).trans (ato 6 (by omega))) ((tdo 7 (by omega)).trans (ato 7 (by omega)))) (e := ga) (l := 4) (g := g) (by omega) ig (by omega) h18
        have eo : ah2 = ah := Option.some.inj (w1.symm.trans eah)
        subst eo
        have A2o : ∀ j, 2 ≤ j → j ≠ 15 → j ≠ 16 → j ≠ 17 → j ≠ 18 → A2 j = pl_at k i A j := fun j b1 b2 b3 b4 b5 => (w12 j ⟨by omega, b3, b4⟩ b2).trans (tdo j b5)
        have fA : FRA A A2 := fun j b1 b2 => (A2o j b1 (by omega) (by omega) (by omega) (by omega)).trans (ato j (by omega))
        have fs : FRs σ σ2 := fun j hj => (w11 j (by unfold SF; omega)).trans (hfar (by omega))
        have fc : FRc τ τ2 := fun j hj => (w10 j (by unfold CF; omega) (by omega)).trans (va_up_ne _ _ (by omega))
        have a2k : ∀ j, 19 ≤ j → j ≤ 23 → A2 j = pl_at k i A j := fun j b1 b2 => A2o j (by omega) (by omega) (by omega) (by omega) (by omega)
        have e20 : A2 20 k = nI (i + 1) := by rw [a2k 20 (by omega) (by omega)]; exact at20
        have fb : FB k A A2 := fun j x b1 b2 b3 => by
          rw [a2k j b1 b2]
          by_cases e : j = 20
          · subst e; exact at20b x (by omega)
          · rw [ato j e]
        have s43 : σ2 43 = nI (k + 1) := (w11 43 (by unfold SF; omega)).trans ((hfar (by omega)).trans q.s43)
        have cls : ∀ H, am_ev d z_Runner_callParts (7, [some (.ref 5), some (.ref a), some (.int (nI (k + 1))), some (.int (nI (i + 1))), some (.ref p)], [.int (nI pc), .int (nI (i + 1))], dH h τ2 t2 B2 P) none H → am_ev d z_Runner_callParts (7, [some (.ref 5), some (.ref a), some (.int (nI (k + 1))), some (.int (nI i)), e4], [.int (nI pc), .int (nI i)], dH h τ t B P) none H := fun H K => cp_han (by omega) hn (by omega) (by omega) h0 h1 hpc (by omega) q.cl.1 ep q.t11 hc3 (by omega) (by omega) ip w3 w5 w6 K
        rcases w9 with ⟨v1, v2, v3, v4, v5⟩ | ⟨v1, v2, v3, v4, v5⟩
        · have step : RC dm x0 c σ t A (c + 1) σ2 t2 A2 := fun h' res hh hn' K e3 e4 e5 e6 => t_plH0 (d := dm) (by omega) hn' q.s43 (by omega) q.a19 (by omega) q.a21 q.a20 (by omega) hne hc3 (by omega) e13 (w7 h' hn') v1 (fun e5 e6 => K _ _ _ _)
          have cl2 : CL τ2 σ2 := by
            obtain ⟨z1, z2, z3, z4, z5⟩ := q.cl
            exact ⟨v2.trans z1, v3.trans z2, v4.trans z3, v5.trans ((hfar (by omega)).trans z4), (w11 28 (by unfold SF; omega)).trans ((hfar (by omega)).trans z5)⟩
          have q2 : PH R C nh k m pc (i + 1) (c + 1) h P f σ2 τ2 A2 B2 := by
            refine ⟨s43, ?_, e20, ?_, ?_, cl2, ?_, by omega, ?_, fun n hn2 => ?_, fun o2 ho2 => ?_, fun i2 hi2 => ?_⟩
            · rw [a2k 19 (by omega) (by omega), ato 19 (by omega)]; exact q.a19
            · rw [a2k 21 (by omega) (by omega), ato 21 (by omega)]; exact q.a21
            · rw [pl_s0 (by rw [e20]; exact nI_s8 (by omega))]; exact w8
            · exact (w10 11 (by unfold CF; omega) (by omega)).trans (va_up_self _ _ _)
            · rw [fA 12 (by omega) (by omega)]; exact q.a12
            · exact HO_of (q.ho n hn2) (fA 5 (by omega) (by omega)) (fA 6 (by omega) (by omega)) (fA 7 (by omega) (by omega))
            · exact MO_of (q.mo o2 ho2) fA
            · have z := q.po i2 hi2
              unfold PO at z ⊢
              rw [fA 13 (by omega) (by omega), fA 14 (by omega) (by omega)]
              exact z
          rcases p_parts hdm hn hR hC hnh hkm hpc hd ha hb h0 h1 IH n (i + 1) (c + 1) σ2 τ2 t2 A2 B2 (some (.ref p)) (by omega) q2 with ⟨c3, τ3, t3, B3, σ3, A3, z1, z2, z3, z4, z5, z6, z7, z8, ⟨y1, y2, y3, y4, y5, y6⟩, z10⟩ | ⟨x, τ3, t3, B3, σ3, A3, z1, z2, z3, z4, z5, z6, z7⟩
          · refine Or.inl ⟨c3, τ3, t3, B3, σ3, A3, cls _ z1, step.tr z2, z3, z4, fc.tr z5, fs.tr z6, fA.tr z7, fb.tr z8, ⟨y1, y2, y3.trans (by rw [a2k 19 (by omega) (by omega), ato 19 (by omega)]), y4.trans (by rw [a2k 21 (by omega) (by omega), ato 21 (by omega)]), y5.trans (by rw [a2k 22 (by omega) (by omega), ato 22 (by omega)]), y6.trans (by rw [a2k 23 (by omega) (by omega), ato 23 (by omega)])⟩, z10⟩
          · exact Or.inr ⟨x, τ3, t3, B3, σ3, A3, cls _ z1, step.en z2, z3, fc.tr z4, fs.tr z5, fA.tr z6, z7⟩
        · have z6 : ¬ τ2 6 = 0 := by
            rw [v2]
            exact fun z => absurd (z ▸ v1) (by decide)
          refine Or.inr ⟨x, τ2, t2, B2, va_up σ2 28 (σ2 43), A2, cls _ (cp_fail hn z6), fun h' hn' e3 e4 e5 e6 => t_plHF (d := dm) (by omega) hn' q.s43 (by omega) q.a19 (by omega) q.a21 q.a20 (by omega) hne hc3 (by omega) e13 (w7 h' hn') v1 rfl rfl, ⟨v1, v2, ?_, ?_, ?_⟩, fc, fun j hj => (va_up_ne _ _ (by omega)).trans (fs j hj), fA, w8.2.2.2.1.2.2⟩
          · rw [va_up_ne _ _ (by omega)]; exact w8.2.2.2.2
          · rw [va_up_ne _ _ (by omega), v3, v5]
          · rw [va_up_self, v4, s43]
end RP
