/-! the two cloths: fill -/
section RF
variable {A : Nat → Nat → Int32} {x : Int32}
def fl_W (A : Nat → Nat → Int32) (x : Int32) (k : Nat) : Prop := ¬ A 1 k = 0 ∧ A 16 k = x
theorem fl_nb_iff {ρ : Nat → Int32} {k : Nat} (hk : k < 100) : fl_nb ρ k ↔ ∃ a, a < 100 ∧ nb a k ∧ ¬ ρ a = 0 := by
  constructor
  · rintro (⟨q, p⟩ | ⟨q, p⟩ | ⟨q, p⟩ | ⟨q, p⟩)
    · exact ⟨k - 10, by omega, Or.inr (Or.inr (Or.inr ⟨by omega, by omega⟩)), p⟩
    · exact ⟨k + 10, by omega, Or.inl ⟨by omega, by omega⟩, p⟩
    · exact ⟨k - 1, by omega, Or.inr (Or.inr (Or.inl ⟨by omega, by omega⟩)), p⟩
    · exact ⟨k + 1, by omega, Or.inr (Or.inl ⟨by omega, by omega⟩), p⟩
  · rintro ⟨a, ha, (⟨q, e⟩ | ⟨q, e⟩ | ⟨q, e⟩ | ⟨q, e⟩), p⟩
    · exact Or.inr (Or.inl ⟨by omega, by rw [show k + 10 = a by omega]; exact p⟩)
    · exact Or.inr (Or.inr (Or.inr ⟨by omega, by rw [show k + 1 = a by omega]; exact p⟩))
    · exact Or.inr (Or.inr (Or.inl ⟨by omega, by rw [show k - 1 = a by omega]; exact p⟩))
    · exact Or.inl ⟨by omega, by rw [show k - 10 = a by omega]; exact p⟩
/-- sound: all that is reached is reachable; the start stays -/
def fl_I (A : Nat → Nat → Int32) (x : Int32) (s : Nat) (ρ : Nat → Int32) : Prop := (∀ k, k < 100 → ¬ ρ k = 0 → fl_R (fl_W A x) s k) ∧ ¬ ρ s = 0
theorem fl_Is {s k : Nat} {S : (Nat → Int32) × Int32} (hk : k < 100) (q : fl_I A x s S.1) : fl_I A x s (fl_s A x k S).1 := by
  by_cases z : fl_c A x S.1 k
  · rw [fl_y z]
    refine ⟨fun j hj hr => ?_, ?_⟩
    · by_cases e : j = k
      · subst e
        obtain ⟨a, ha, hab, hra⟩ := (fl_nb_iff hk).mp z.2
        exact fun Q q1 q2 => q2 a j (q.1 a ha hra Q q1 q2) ha hab hj z.1.2
      · have hr2 : ¬ va_up S.1 k 1 j = 0 := hr
        rw [va_up_ne _ _ e] at hr2
        exact q.1 j hj hr2
    · by_cases e : s = k
      · subst e
        show ¬ va_up S.1 s 1 s = 0
        rw [va_up_self]
        decide
      · show ¬ va_up S.1 k 1 s = 0
        rw [va_up_ne _ _ e]
        exact q.2
  · rw [fl_no z]
    exact q
theorem fl_Ip {s : Nat} {ρ : Nat → Int32} (q : fl_I A x s ρ) : fl_I A x s (fl_p A x ρ).1 := it_inv (fun S : (Nat → Int32) × Int32 => fl_I A x s S.1) 100 0 (ρ, 0) (fun k S _ hk q => fl_Is (by omega) q) q
theorem fl_f1 : ∀ (m k : Nat) (S : (Nat → Int32) × Int32), ¬ S.2 = 0 → ¬ (sp_it (fl_s A x) k m S).2 = 0
  | 0, _, _, q => q
  | m + 1, k, S, q => by
    rw [sp_it]
    refine fl_f1 m (k + 1) _ ?_
    by_cases z : fl_c A x S.1 k
    · rw [fl_y z]; exact (by decide : ¬ (1 : Int32) = 0)
    · rw [fl_no z]; exact q
theorem fl_f0 : ∀ (m k : Nat) (S : (Nat → Int32) × Int32), (sp_it (fl_s A x) k m S).2 = 0 → (sp_it (fl_s A x) k m S).1 = S.1 ∧ ∀ j, k ≤ j → j < k + m → ¬ fl_c A x S.1 j
  | 0, k, S, _ => ⟨rfl, fun j h1 h2 => absurd h1 (by omega)⟩
  | m + 1, k, S, q => by
    rw [sp_it] at q ⊢
    by_cases z : fl_c A x S.1 k
    · exfalso
      rw [fl_y z] at q
      exact fl_f1 m (k + 1) (va_up S.1 k 1, 1) (show ¬ (1 : Int32) = 0 by decide) q
    · rw [fl_no z] at q ⊢
      obtain ⟨q1, q2⟩ := fl_f0 m (k + 1) S q
      refine ⟨q1, fun j h1 h2 => ?_⟩
      by_cases e : j = k
      · subst e; exact z
      · exact q2 j (by omega) (by omega)
theorem fl_end {s : Nat} (n : Nat) : ∀ (ρ : Nat → Int32), fl_z ρ 0 100 < n → fl_I A x s ρ → fl_I A x s (fl_run A x n ρ) ∧ ∀ j, j < 100 → ¬ fl_c A x (fl_run A x n ρ) j := by
  induction n with
  | zero => intro ρ hz _; exact absurd hz (by omega)
  | succ n ih =>
    intro ρ hz q
    unfold fl_run
    by_cases z : (fl_p A x ρ).2 = 0
    · rw [if_pos z]
      obtain ⟨e1, e2⟩ := fl_f0 100 0 (ρ, 0) z
      refine ⟨fl_Ip q, fun j hj => ?_⟩
      have e3 : (fl_p A x ρ).1 = ρ := e1
      rw [e3]
      exact e2 j (by omega) (by omega)
    · rw [if_neg z]
      have d := (fl_dec A x 100 0 (ρ, 0) (by omega)).2 rfl z
      have d2 : fl_z (fl_p A x ρ).1 0 100 < fl_z ρ 0 100 := d
      exact ih _ (by omega) (fl_Ip q)
theorem fl_all {s : Nat} (hs : s < 100) {k : Nat} (hk : k < 100) : ¬ fl_run A x 101 (fl_0 A s) k = 0 ↔ fl_R (fl_W A x) s k := by
  have h0 : fl_I A x s (fl_0 A s) := by
    refine ⟨fun j hj hr => ?_, ?_⟩
    · unfold fl_0 at hr
      rw [if_pos (by omega)] at hr
      have e : j = s := am_bn.mp hr
      subst e
      exact fun Q q1 _ => q1
    · unfold fl_0
      rw [if_pos (by omega), am_b1 rfl]
      decide
  have hz := fl_z_le (fl_0 A s) 100 0
  obtain ⟨q1, q2⟩ := fl_end (A := A) (x := x) (s := s) 101 (fl_0 A s) (by omega) h0
  refine ⟨fun q => q1.1 k hk q, fun q => ?_⟩
  have q9 := q (fun k => k < 100 → ¬ fl_run A x 101 (fl_0 A s) k = 0) (fun _ => q1.2) (fun a b qa ha hab hb hW _ => by
    intro z
    exact q2 b hb ⟨⟨z, hW⟩, (fl_nb_iff hb).mpr ⟨a, ha, hab, qa ha⟩⟩)
  exact q9 hk
end RF
theorem fl_R_of {W W' : Nat → Prop} {s k : Nat} (h : ∀ j, j < 100 → (W j → W' j)) (q : fl_R W s k) : fl_R W' s k := fun Q q1 q2 => q Q q1 (fun a b qa ha hab hb hW => q2 a b qa ha hab hb (h b hb hW))
theorem fl_R_W {W : Nat → Prop} {s k : Nat} (hs : W s) (q : fl_R W s k) : W k := q W hs (fun a b _ _ _ _ hW => hW)
theorem fp_if {u : Nat} {f : Nat → Int32} {wl : Int32} {ρ ρ' : Nat → Int32} (h : ∀ j, ρ j = 0 ↔ ρ' j = 0) : fp u f wl ρ = fp u f wl ρ' := by
  funext i
  unfold fp
  by_cases z : i % 4 = u ∧ ¬ ρ (i / 4) = 0
  · rw [if_pos z, if_pos ⟨z.1, fun p => z.2 ((h _).mpr p)⟩]
  · rw [if_neg z, if_neg (fun p => z ⟨p.1, fun p2 => p.2 ((h _).mp p2)⟩)]
theorem CR_f {R C : Nat} {A : Nat → Nat → Int32} {f f' : Nat → Int32} (hR : R ≤ 10) (hC : C ≤ 10) (h : CR R C A f) (he : ∀ i, i < 400 → f' i = f i) : CR R C A f' := by
  refine ⟨fun r c hr hc => ?_, h.2.1, h.2.2⟩
  have e3 := he (cx r c 3) (cx_lt (by omega) (by omega) (by omega))
  rw [e3]
  refine ⟨fun l hl => ?_, (h.1 r c hr hc).2.1, (h.1 r c hr hc).2.2⟩
  rw [he (cx r c l) (cx_lt (by omega) (by omega) (by omega))]
  exact (h.1 r c hr hc).1 l hl
theorem r_1p {R C u : Nat} {A : Nat → Nat → Int32} {f : Nat → Int32} {wl : Int32} {ρ ρ' : Nat → Int32} {y : Nat} (hR : R ≤ 10) (hC : C ≤ 10) (hu : u < 3) (hy : y < 10) (hx : wl = nI y) (h : CR R C A f) (he : ∀ k, k < 100 → (ρ k = 0 ↔ ρ' k = 0)) (hf : ∀ k, k < 100 → ¬ ρ k = 0 → (k / 10 < R ∧ k % 10 < C) ∧ f (kx k 3) = 1) : CR R C (sp_it (fl_pt R C u ρ wl) 0 100 A) (fp u f wl ρ') := by
  have e := it_rel (g := fl_pt R C u ρ wl) (g' := fun (_ : Nat) (_ : Unit) => ()) (fun k A _ => CR R C A (fp u f wl (fun j => if j < k then ρ' j else 0))) 100 0 A () (fun k A _ _ hk q => by
    unfold fl_pt
    by_cases z : ρ k = 0
    · rw [if_pos z]
      have e2 : fp u f wl (fun j => if j < k + 1 then ρ' j else 0) = fp u f wl (fun j => if j < k then ρ' j else 0) := fp_if (fun j => by
        by_cases e3 : j = k
        · subst e3
          rw [if_pos (by omega), if_neg (by omega)]
          exact ⟨fun _ => rfl, fun _ => (he j (by omega)).mp z⟩
        · by_cases e4 : j < k
          · rw [if_pos (by omega), if_pos e4]
          · rw [if_neg (by omega), if_neg e4])
      rw [e2]
      exact q
    · rw [if_neg z]
      obtain ⟨f1, f2⟩ := hf k (by omega) z
      have e2 : fp u f wl (fun j => if j < k + 1 then ρ' j else 0) = sp_paint R C u (fp u f wl (fun j => if j < k then ρ' j else 0)) (nI (k / 10)) (nI (k % 10)) wl := by
        rw [fp_paint hR hC hu (by omega) f1 f2]
        refine fp_if (fun j => ?_)
        by_cases e3 : j = k
        · subst e3
          rw [if_pos (by omega), va_up_self]
          exact ⟨fun p => absurd ((he j (by omega)).mpr p) z, fun p => absurd p (by decide)⟩
        · rw [va_up_ne _ _ e3]
          by_cases e4 : j < k
          · rw [if_pos (by omega), if_pos e4]
          · rw [if_neg (by omega), if_neg e4]
      rw [e2]
      exact CR_paint hR hC hu q hy hx) (CR_f hR hC h (fun i _ => if_neg (fun p => p.2 (if_neg (by omega)))))
  refine CR_f hR hC e (fun i hi => ?_)
  have e9 : (if i / 4 < 0 + 100 then ρ' (i / 4) else 0) = ρ' (i / 4) := if_pos (show i / 4 < 0 + 100 by omega)
  show (if i % 4 = u ∧ ¬ ρ' (i / 4) = 0 then wl else f i) = (if i % 4 = u ∧ ¬ (if i / 4 < 0 + 100 then ρ' (i / 4) else 0) = 0 then wl else f i)
  rw [e9]
theorem fr_W {R C u : Nat} {A A1 : Nat → Nat → Int32} {f : Nat → Int32} {x : Int32} (hu : u < 3) (h : CR R C A f) (h1 : A1 1 = A 1) (h16 : ∀ j, j < 100 → A1 16 j = A 0 (100 * u + j)) {k : Nat} (hk : k < 100) : fl_W A1 x k ↔ fr R C u f x k := by
  unfold fl_W fr
  rw [h1, h16 k hk]
  have ek : 10 * (k / 10) + k % 10 = k := by omega
  by_cases z : k / 10 < R ∧ k % 10 < C
  · have e1 := CR_sel h z.1 z.2
    have e2 := (h.1 (k / 10) (k % 10) z.1 z.2).1 u hu
    rw [ek] at e1 e2
    rw [e1, e2]
    exact ⟨fun p => ⟨z, p⟩, fun p => p.2⟩
  · have e1 := (h.2.1 (k / 10) (k % 10) (by omega) (by omega) z).1
    rw [ek] at e1
    exact ⟨fun p => absurd e1 p.1, fun p => absurd p.1 z⟩
/-- the reference's fill and the class's -/
theorem r_1 {R C u a b : Nat} {A A1 B : Nat → Nat → Int32} {wl : Int32} {y : Nat} (hR : R ≤ 10) (hC : C ≤ 10) (hu : u < 3) (hy : y < 10) (hx : wl = nI y) (h : CR R C A (B 0)) (h0 : A1 0 = A 0) (h1 : A1 1 = A 1) (h16 : ∀ j, j < 100 → A1 16 j = A 0 (100 * u + j)) (ha : a < R) (hb : b < C) (hs : B 0 (cx a b 3) = 1) {ρ : Nat → Int32} (hρ : ∀ k, k < 100 → (¬ ρ k = 0 ↔ fl_R (fr R C u (B 0) (B 0 (cx a b u))) (10 * a + b) k)) : CR R C (ms_fill R C u (10 * a + b) wl A1) (fp u (B 0) wl ρ) := by
  have ex : A1 16 (10 * a + b) = B 0 (cx a b u) := by
    rw [h16 _ (by omega)]
    exact (h.1 a b ha hb).1 u hu
  have hW : ∀ k, k < 100 → (fl_W A1 (B 0 (cx a b u)) k ↔ fr R C u (B 0) (B 0 (cx a b u)) k) := fun k hk => fr_W hu h h1 h16 hk
  have hs1 : fr R C u (B 0) (B 0 (cx a b u)) (10 * a + b) := by
    unfold fr kx
    rw [show (10 * a + b) / 10 = a by omega, show (10 * a + b) % 10 = b by omega]
    exact ⟨⟨ha, hb⟩, hs, rfl⟩
  unfold ms_fill
  rw [ex]
  have eq1 : ∀ k, k < 100 → (¬ fl_run A1 (B 0 (cx a b u)) 101 (fl_0 A1 (10 * a + b)) k = 0 ↔ fl_R (fr R C u (B 0) (B 0 (cx a b u))) (10 * a + b) k) := by
    intro k hk
    rw [fl_all (by omega) hk]
    exact ⟨fl_R_of (fun j hj => (hW j hj).mp), fl_R_of (fun j hj => (hW j hj).mpr)⟩
  refine r_1p hR hC hu hy hx (CR_of h ?_ ?_) (fun k hk => ?_) (fun k hk hr => ?_)
  · rw [va_up_ne _ _ (by omega), h0]
  · rw [va_up_ne _ _ (by omega), h1]
  · have := (eq1 k hk).trans (hρ k hk).symm
    exact ⟨fun p => Classical.not_not.mp (fun p2 => this.mpr p2 p), fun p => Classical.not_not.mp (fun p2 => this.mp p2 p)⟩
  · have := fl_R_W hs1 ((eq1 k hk).mp hr)
    exact ⟨this.1, this.2.1⟩
/-- with the wool that is there already nothing changes -/
theorem r_1s {R C u a b : Nat} {A A1 B : Nat → Nat → Int32} {wl : Int32} (hR : R ≤ 10) (hC : C ≤ 10) (hu : u < 3) (h : CR R C A (B 0)) (h0 : A1 0 = A 0) (h1 : A1 1 = A 1) (h16 : ∀ j, j < 100 → A1 16 j = A 0 (100 * u + j)) (ha : a < R) (hb : b < C) (hs : B 0 (cx a b 3) = 1) (hw : B 0 (cx a b u) = wl) : CR R C (ms_fill R C u (10 * a + b) wl A1) (B 0) := by
  have ex : A1 16 (10 * a + b) = B 0 (cx a b u) := by
    rw [h16 _ (by omega)]
    exact (h.1 a b ha hb).1 u hu
  have hW : ∀ k, k < 100 → (fl_W A1 (B 0 (cx a b u)) k ↔ fr R C u (B 0) (B 0 (cx a b u)) k) := fun k hk => fr_W hu h h1 h16 hk
  have hs1 : fl_W A1 (B 0 (cx a b u)) (10 * a + b) := by
    refine (hW _ (by omega)).mpr ?_
    unfold fr kx
    rw [show (10 * a + b) / 10 = a by omega, show (10 * a + b) % 10 = b by omega]
    exact ⟨⟨ha, hb⟩, hs, rfl⟩
  unfold ms_fill
  rw [ex]
  refine CR_of (A := A1) (CR_of h h0 h1) ?_ ?_ <;> rw [it_id]
  · exact va_up_ne _ _ (by omega)
  · intro k _ hk
    unfold fl_pt
    split
    · rfl
    · rename_i z
      have q := fl_R_W hs1 ((fl_all (by omega) (by omega)).mp z)
      refine ms_self (by omega) (by omega) ?_
      rw [va_up_ne _ _ (by omega), h0, show 10 * (k / 10) + k % 10 = k by omega, ← h16 k (by omega), q.2, hw]
  · exact va_up_ne _ _ (by omega)
  · intro k _ hk
    unfold fl_pt
    split
    · rfl
    · rename_i z
      have q := fl_R_W hs1 ((fl_all (by omega) (by omega)).mp z)
      refine ms_self (by omega) (by omega) ?_
      rw [va_up_ne _ _ (by omega), h0, show 10 * (k / 10) + k % 10 = k by omega, ← h16 k (by omega), q.2, hw]
