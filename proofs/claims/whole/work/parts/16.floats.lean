/-! the cloth of the class: floats, the fingerprint, weaving, copying -/
def sp_it {α : Type} (g : Nat → α → α) : Nat → Nat → α → α
  | _, 0, x => x
  | c, m + 1, x => sp_it g (c + 1) m (g c x)
theorem sp_it_congr {α : Type} {g g' : Nat → α → α} : ∀ (m c : Nat) (x : α), (∀ j y, c ≤ j → j < c + m → g j y = g' j y) → sp_it g c m x = sp_it g' c m x
  | 0, _, _, _ => rfl
  | m + 1, c, x, h => by
    rw [sp_it, sp_it, h c x (Nat.le_refl _) (by omega)]
    exact sp_it_congr m (c + 1) _ (fun j y h1 h2 => h j y (by omega) (by omega))
/-- where a run of w ends, m knots from e on at most -/
def sp_end (s : Nat → Int32) (w : Int32) : Nat → Nat → Nat
  | 0, e => e
  | m + 1, e => if s e = w then sp_end s w m (e + 1) else e
theorem sp_end_le (s : Nat → Int32) (w : Int32) : ∀ m e, e ≤ sp_end s w m e ∧ sp_end s w m e ≤ e + m
  | 0, e => ⟨Nat.le_refl _, Nat.le_refl _⟩
  | m + 1, e => by
    unfold sp_end
    split
    · have := sp_end_le s w m (e + 1)
      omega
    · omega
/-- how long the float is whose first knot is c; 0 if it is no float's first -/
def sp_len (s : Nat → Int32) (C c : Nat) : Nat := if s c = 0 ∨ (0 < c ∧ s (c - 1) = s c) then 0 else sp_end s (s c) (C - (c + 1)) (c + 1) - c
section CE
variable {d : Nat} {h h' : am_H} {a k R C : Nat} {use sh : Int32} {f : Nat → Int32} {res : Option Value}
abbrev sp_row (sh : Int32) (f : Nat → Int32) (r : Nat) : Nat → Int32 := fun c => sp_seen sh (fun l => f (cx r c l))
theorem l_flf (hd : 1 < d) (hR : R ≤ 10) (hC : C ≤ 10) {r c : Nat} (hr : r < R) (hc : c < C) {wl : Int32} (hi : am_is h a (am_cloth (nI R) (nI C) use sh k)) (hk : am_is h k (am_ia 400 f)) : ∀ (m e : Nat), e + m = C → am_ev d z_Cloth_floatFrom (56, [some (.ref a), some (.int (nI r)), some (.int (nI c)), some (.int wl), some (.int (nI (sp_end (sp_row sh f r) wl m e)))], [], h) res h' → am_ev d z_Cloth_floatFrom (36, [some (.ref a), some (.int (nI r)), some (.int (nI c)), some (.int wl), some (.int (nI e))], [.int (nI C), .int (nI e)], h) res h'
  | 0, e, hm, K => by
    refine ev_icmp_ge (t := 56) (q := 39) rfl rfl rfl (fun _ => ?_) (fun c1 => absurd (nI_end hm (by omega)) c1)
    exact K
  | m + 1, e, hm, K => by
    refine ev_icmp_ge (t := 56) (q := 39) rfl rfl rfl (fun c1 => absurd c1 (nI_ge (by omega) (by omega))) (fun _ => ?_)
    refine ev_go 3 (q := 43) rfl ?_
    refine ev_virt (z' := z_Cloth_seenAt) (q := 46) rfl rfl (by decide) rfl (by simp [Value.category]) rfl (by omega) rfl rfl hi (k_seenAt hR hC hr (by omega) (by omega) hi hk) ?_
    refine ev_go 1 (q := 47) rfl ?_
    refine ev_icmp_ne (t := 56) (q := 50) rfl rfl rfl (fun zc1 => ?_) (fun zc1 => ?_)
    · rw [sp_end, if_neg (by assumption)] at K
      exact K
    · refine ev_go 4 (q := 33) rfl ?_
      refine ev_get (q := 36) rfl hi rfl rfl rfl ?_
      rw [nI_s]
      exact l_flf hd hR hC hr hc hi hk m (e + 1) (by omega) (by rw [sp_end, if_pos (by assumption)] at K; exact K)
theorem k_floatFrom (hd : 1 < d) (hR : R ≤ 10) (hC : C ≤ 10) {r c : Nat} (hr : r < R) (hc : c < C) (hi : am_is h a (am_cloth (nI R) (nI C) use sh k)) (hk : am_is h k (am_ia 400 f)) : am_m d z_Cloth_floatFrom [.ref a, .int (nI r), .int (nI c)] h (some (.int (nI (sp_len (sp_row sh f r) C c)))) h := by
  have hp : am_m (d - 1) z_Cloth_seenAt [.ref a, .int (nI r), .int (nI c - 1)] h (some (.int (if 0 < c then sp_row sh f r (c - 1) else 0))) h := by
    by_cases hc0 : 0 < c
    · rw [if_pos hc0, show nI c - 1 = nI (c - 1) by rw [show (1 : Int32) = nI 1 from rfl, pk_sub (by omega)]]
      exact k_seenAt hR hC hr (by omega) (by omega) hi hk
    · rw [if_neg hc0]
      refine k_seenAt0 (fun q => ?_) (by omega) hi
      rw [show c = 0 by omega] at q
      exact absurd q.2.1 (by decide)
  refine ev_go 3 (q := 3) rfl ?_
  refine ev_virt (z' := z_Cloth_seenAt) (q := 6) rfl rfl (by decide) rfl (by simp [Value.category]) rfl (by omega) rfl rfl hi (k_seenAt hR hC hr hc (by omega) hi hk) ?_
  refine ev_go 2 (q := 8) rfl ?_
  refine ev_if_eq (t := 23) (q := 11) rfl rfl rfl (fun zc1 => ?_) (fun zc1 => ?_)
  · refine ev_go 1 (q := 24) (st' := .int 0 :: _) rfl ?_
    exact ev_iret rfl rfl (by unfold sp_len; rw [if_pos (Or.inl zc1)]; rfl) (rfl)
  · refine ev_go 5 (q := 16) (st' := .int (_ - 1) :: _ :: _ :: _) rfl ?_
    refine ev_virt (z' := z_Cloth_seenAt) (q := 19) rfl rfl (by decide) rfl (by simp [Value.category]) rfl (by omega) rfl rfl hi hp ?_
    refine ev_go 1 (q := 20) rfl ?_
    refine ev_icmp_ne (t := 25) (q := 23) rfl rfl rfl (fun zc2 => ?_) (fun zc2 => ?_)
    · refine ev_go 6 (q := 33) rfl ?_
      refine ev_get (q := 36) rfl hi rfl rfl rfl ?_
      have hno : ¬ (sp_row sh f r c = 0 ∨ (0 < c ∧ sp_row sh f r (c - 1) = sp_row sh f r c)) := by
        rintro (q | ⟨q1, q2⟩)
        · exact zc1 q
        · rw [if_pos q1] at zc2; exact zc2 q2
      rw [nI_s]
      refine l_flf hd hR hC hr hc hi hk (C - (c + 1)) (c + 1) (by omega) ?_
      refine ev_go 3 (q := 60) rfl ?_
      exact ev_iret rfl rfl (by unfold sp_len; rw [if_neg hno]; exact pk_sub (Nat.le_trans (Nat.le_succ c) (sp_end_le _ _ _ _).1)) (rfl)
    · refine ev_go 1 (q := 24) (st' := .int 0 :: _) rfl ?_
      exact ev_iret rfl rfl (by
        unfold sp_len
        rw [if_pos (Or.inr ?_)]
        · rfl
        · by_cases hc0 : 0 < c
          · rw [if_pos hc0] at zc2; exact ⟨hc0, zc2⟩
          · rw [if_neg hc0] at zc2; exact absurd zc2.symm zc1) (rfl)
def sp_tell (r c len : Nat) (s what : Int32) : Int32 := if what = 0 then nI r else if what = 1 then nI c else if what = 2 then nI len else s
theorem k_tellFloat (hd : 1 < d) (hR : R ≤ 10) (hC : C ≤ 10) {r c len : Nat} {what : Int32} (hr : r < R) (hc : c < C) (hw : 0 ≤ what ∧ what ≤ 3) (hi : am_is h a (am_cloth (nI R) (nI C) use sh k)) (hk : am_is h k (am_ia 400 f)) : am_m d z_Cloth_tellFloat [.ref a, .int (nI r), .int (nI c), .int (nI len), .int what] h (some (.int (sp_tell r c len (sp_row sh f r c) what))) h := by
  obtain ⟨j, hj, rfl⟩ := nI_of2 (x := what) (M := 3) (n := 3) rfl (Int32.not_lt.mpr hw.1) hw.2
  refine ev_go 1 (q := 2) rfl ?_
  rcases (show j = 0 ∨ j = 1 ∨ j = 2 ∨ j = 3 by omega) with rfl | rfl | rfl | rfl
  · refine ev_go 2 (q := 29) rfl ?_
    exact ev_iret rfl rfl rfl rfl
  · refine ev_go 2 (q := 31) rfl ?_
    exact ev_iret rfl rfl rfl rfl
  · refine ev_go 2 (q := 33) rfl ?_
    exact ev_iret rfl rfl rfl rfl
  · refine ev_go 4 (q := 37) rfl ?_
    refine ev_virt (z' := z_Cloth_seenAt) (q := 40) rfl rfl (by decide) rfl (by simp [Value.category]) rfl (by omega) rfl rfl hi (k_seenAt hR hC hr hc (by omega) hi hk) ?_
    exact ev_iret rfl rfl rfl rfl
/-- the search for the i-th float that is longer than n, from column c of row r on: the answer, or how many were passed -/
def sp_ffr (s : Nat → Int32) (C r : Nat) (n i what : Int32) : Nat → Nat → Int32 → Int32 ⊕ Int32
  | 0, _, p => .inr p
  | m + 1, c, p => if nI (sp_len s C c) ≤ n then sp_ffr s C r n i what m (c + 1) p else if p = i then .inl (sp_tell r c (sp_len s C c) (s c) what) else sp_ffr s C r n i what m (c + 1) (p + 1)
def sp_ff (s : Nat → Nat → Int32) (C : Nat) (n i what : Int32) : Nat → Nat → Int32 → Int32
  | 0, _, _ => -9
  | m + 1, r, p => match sp_ffr (s r) C r n i what C 0 p with
    | .inl x => x
    | .inr p' => sp_ff s C n i what m (r + 1) p'
theorem l_ff_in (hd : 2 < d) (hR : R ≤ 10) (hC : C ≤ 10) {n i what : Int32} (hw : 0 ≤ what ∧ what ≤ 3) (hi : am_is h a (am_cloth (nI R) (nI C) use sh k)) (hk : am_is h k (am_ia 400 f)) {r : Nat} (hr : r < R) : ∀ (m c : Nat) (p : Int32) (e : Option Value), c + m = C → (∀ x, sp_ffr (sp_row sh f r) C r n i what m c p = .inl x → res = some (.int x) ∧ h = h') → (∀ p' e1, sp_ffr (sp_row sh f r) C r n i what m c p = .inr p' → am_ev d z_Cloth_findFloat (70, [some (.ref a), some (.int n), some (.int i), some (.int what), some (.int p'), some (.int (nI r)), some (.int (nI C)), e1], [], h) res h') → am_ev d z_Cloth_findFloat (24, [some (.ref a), some (.int n), some (.int i), some (.int what), some (.int p), some (.int (nI r)), some (.int (nI c)), e], [.int (nI C), .int (nI c)], h) res h'
  | 0, c, p, e, hm, K1, K2 => by
    refine ev_icmp_ge (t := 70) (q := 27) rfl rfl rfl (fun _ => ?_) (fun c1 => absurd (nI_end hm (by omega)) c1)
    have hc : c = C := hm
    subst hc
    exact K2 p e rfl
  | m + 1, c, p, e, hm, K1, K2 => by
    refine ev_icmp_ge (t := 70) (q := 27) rfl rfl rfl (fun c1 => absurd c1 (nI_ge (by omega) (by omega))) (fun _ => ?_)
    rw [sp_ffr] at K1 K2
    refine ev_go 3 (q := 32) rfl ?_
    refine ev_virt (z' := z_Cloth_floatFrom) (q := 35) rfl rfl (by decide) rfl (by simp [Value.category]) rfl (by omega) rfl rfl hi (k_floatFrom (by omega) hR hC hr (by omega) hi hk) ?_
    refine ev_go 3 (q := 40) rfl ?_
    refine ev_icmp_le (t := 64) (q := 43) rfl rfl rfl (fun zc1 => ?_) (fun zc1 => ?_)
    · refine ev_go 4 (q := 21) rfl ?_
      refine ev_get (q := 24) rfl hi rfl rfl rfl ?_
      rw [if_pos zc1] at K1 K2
      rw [nI_s]
      exact l_ff_in hd hR hC hw hi hk hr m (c + 1) p _ (by omega) K1 K2
    · refine ev_go 2 (q := 46) rfl ?_
      refine ev_icmp_ne (t := 61) (q := 49) rfl rfl rfl (fun zc2 => ?_) (fun zc2 => ?_)
      · refine ev_go 5 (q := 21) rfl ?_
        refine ev_get (q := 24) rfl hi rfl rfl rfl ?_
        rw [if_neg zc1, if_neg zc2] at K1 K2
        rw [nI_s]
        exact l_ff_in hd hR hC hw hi hk hr m (c + 1) (p + 1) _ (by omega) K1 K2
      · refine ev_go 5 (q := 57) rfl ?_
        refine ev_virt (z' := z_Cloth_tellFloat) (q := 60) rfl rfl (by decide) rfl (by simp [Value.category]) rfl (by omega) rfl rfl hi (k_tellFloat (by omega) hR hC hr (by omega) hw hi hk) ?_
        rw [if_neg zc1, if_pos zc2] at K1
        obtain ⟨rfl, rfl⟩ := K1 _ rfl
        exact ev_iret rfl rfl rfl rfl
theorem l_ff_out (hd : 2 < d) (hR : R ≤ 10) (hC : C ≤ 10) {n i what : Int32} (hw : 0 ≤ what ∧ what ≤ 3) (hi : am_is h a (am_cloth (nI R) (nI C) use sh k)) (hk : am_is h k (am_ia 400 f)) : ∀ (m r : Nat) (p : Int32) (e e1 : Option Value), r + m = R → res = some (.int (sp_ff (sp_row sh f) C n i what m r p)) → h = h' → am_ev d z_Cloth_findFloat (12, [some (.ref a), some (.int n), some (.int i), some (.int what), some (.int p), some (.int (nI r)), e, e1], [.int (nI R), .int (nI r)], h) res h'
  | 0, r, p, e, e1, hm, K1, K2 => by
    refine ev_icmp_ge (t := 76) (q := 15) rfl rfl rfl (fun _ => ?_) (fun c1 => absurd (nI_end hm (by omega)) c1)
    subst K1; subst K2
    refine ev_go 1 (q := 78) (st' := .int (-9) :: _) rfl ?_
    exact ev_iret rfl rfl (rfl) (rfl)
  | m + 1, r, p, e, e1, hm, K1, K2 => by
    refine ev_icmp_ge (t := 76) (q := 15) rfl rfl rfl (fun c1 => absurd c1 (nI_ge (by omega) (by omega))) (fun _ => ?_)
    rw [sp_ff] at K1
    refine ev_go 4 (q := 21) rfl ?_
    refine ev_get (q := 24) rfl hi rfl rfl rfl ?_
    refine l_ff_in hd hR hC hw hi hk (by omega) C 0 p _ (by omega) (fun x hx => ?_) (fun p' e1 hx => ?_)
    · rw [hx] at K1; exact ⟨K1, K2⟩
    · rw [hx] at K1
      refine ev_go 4 (q := 9) rfl ?_
      refine ev_get (q := 12) rfl hi rfl rfl rfl ?_
      rw [nI_s]
      exact l_ff_out hd hR hC hw hi hk m (r + 1) p' _ _ (by omega) K1 K2
theorem k_findFloat (hd : 2 < d) (hR : R ≤ 10) (hC : C ≤ 10) {n i what : Int32} (hw : 0 ≤ what ∧ what ≤ 3) (hi : am_is h a (am_cloth (nI R) (nI C) use sh k)) (hk : am_is h k (am_ia 400 f)) : am_m d z_Cloth_findFloat [.ref a, .int n, .int i, .int what] h (some (.int (sp_ff (sp_row sh f) C n i what R 0 0))) h := by
  refine ev_go 6 (q := 9) rfl ?_
  refine ev_get (q := 12) rfl hi rfl rfl rfl ?_
  exact l_ff_out hd hR hC hw hi hk R 0 0 _ _ (by omega) rfl rfl
def sp_fk (w0 w1 w2 s : Int32) (x : Int64) : Int64 := 31 * (31 * (31 * (31 * x + w0.toInt64) + w1.toInt64) + w2.toInt64) + s.toInt64
def sp_fp (f : Nat → Int32) (R C : Nat) (u sh : Int32) : Int64 := 31 * (31 * sp_it (fun r => sp_it (fun c => sp_fk (f (cx r c 0)) (f (cx r c 1)) (f (cx r c 2)) (am_b (f (cx r c 3) = 1))) 0 C) 0 R 7 + u.toInt64) + sh.toInt64
theorem l_fp_in (hd : 1 < d) (hR : R ≤ 10) (hC : C ≤ 10) (hi : am_is h a (am_cloth (nI R) (nI C) use sh k)) (hk : am_is h k (am_ia 400 f)) {r : Nat} (hr : r < R) : ∀ (m c : Nat) (x : Int64) (e : Option Value), c + m = C → (∀ e, am_ev d z_Cloth_fingerprint (87, [some (.ref a), some (.long (sp_it ((fun r c => sp_fk (f (cx r c 0)) (f (cx r c 1)) (f (cx r c 2)) (am_b (f (cx r c 3) = 1))) r) c m x)), none, some (.int (nI r)), some (.int (nI C)), e], [], h) res h') → am_ev d z_Cloth_fingerprint (23, [some (.ref a), some (.long x), none, some (.int (nI r)), some (.int (nI c)), e], [.int (nI C), .int (nI c)], h) res h'
  | 0, c, x, e, hm, K => by
    refine ev_icmp_ge (t := 87) (q := 26) rfl rfl rfl (fun _ => ?_) (fun c1 => absurd (nI_end hm (by omega)) c1)
    have hc : c = C := hm
    subst hc
    exact K e
  | m + 1, c, x, e, hm, K => by
    refine ev_icmp_ge (t := 87) (q := 26) rfl rfl rfl (fun c1 => absurd c1 (nI_ge (by omega) (by omega))) (fun _ => ?_)
    refine ev_go 2 (q := 29) rfl ?_
    rw [show Int32.ofInt 0 = nI 0 from rfl]
    refine ev_go 2 (q := 32) (st' := .int 3 :: .int (nI 0) :: _) rfl ?_
    refine ev_icmp_ge (t := 58) (q := 35) rfl rfl rfl (fun c => absurd c (by decide)) (fun _ => ?_)
    refine ev_go 7 (q := 46) (st' := .int (nI 0) :: _) rfl ?_
    refine ev_virt (z' := z_Cloth_woolAt) (q := 49) rfl rfl (by decide) rfl (by simp [Value.category]) rfl (by omega) rfl rfl hi (k_woolAt (l := 0) hR hC hr (by omega) (by omega) (by omega) hi hk) ?_
    refine ev_go 5 (q := 29) rfl ?_
    rw [nI_s]
    refine ev_go 2 (q := 32) (st' := .int 3 :: .int (nI 1) :: _) rfl ?_
    refine ev_icmp_ge (t := 58) (q := 35) rfl rfl rfl (fun c => absurd c (by decide)) (fun _ => ?_)
    refine ev_go 7 (q := 46) (st' := .int (nI 1) :: _) rfl ?_
    refine ev_virt (z' := z_Cloth_woolAt) (q := 49) rfl rfl (by decide) rfl (by simp [Value.category]) rfl (by omega) rfl rfl hi (k_woolAt (l := 1) hR hC hr (by omega) (by omega) (by omega) hi hk) ?_
    refine ev_go 5 (q := 29) rfl ?_
    rw [nI_s]
    refine ev_go 2 (q := 32) (st' := .int 3 :: .int (nI 2) :: _) rfl ?_
    refine ev_icmp_ge (t := 58) (q := 35) rfl rfl rfl (fun c => absurd c (by decide)) (fun _ => ?_)
    refine ev_go 7 (q := 46) (st' := .int (nI 2) :: _) rfl ?_
    refine ev_virt (z' := z_Cloth_woolAt) (q := 49) rfl rfl (by decide) rfl (by simp [Value.category]) rfl (by omega) rfl rfl hi (k_woolAt (l := 2) hR hC hr (by omega) (by omega) (by omega) hi hk) ?_
    refine ev_go 5 (q := 29) rfl ?_
    rw [nI_s]
    refine ev_go 2 (q := 32) (st' := .int 3 :: .int (nI 3) :: _) rfl ?_
    refine ev_icmp_ge (t := 58) (q := 35) rfl rfl rfl (fun _ => ?_) (fun c => absurd (by decide) c)
    refine ev_go 6 (q := 67) (st' := _ :: _ :: _ :: .long (31 * _) :: _) rfl ?_
    refine ev_virt (z' := z_Cloth_isChosen) (q := 70) rfl rfl (by decide) rfl (by simp [Value.category]) rfl (by omega) rfl rfl hi (k_isChosen hR hC hr (by omega) (by omega) hi hk) ?_
    refine ev_if_eq (t := 77) (q := 73) rfl rfl rfl (fun zc1 => ?_) (fun zc1 => ?_)
    · refine ev_go 8 (q := 20) rfl ?_
      refine ev_get (q := 23) rfl hi rfl rfl rfl ?_
      rw [nI_s]
      refine l_fp_in hd hR hC hi hk hr m (c + 1) _ _ (by omega) (fun e => ?_)
      have K1 := K e
      rw [sp_it] at K1
      dsimp only at K1
      rw [show sp_fk (f (cx r c 0)) (f (cx r c 1)) (f (cx r c 2)) (am_b (f (cx r c 3) = 1)) x = sp_fk (f (cx r c 0)) (f (cx r c 1)) (f (cx r c 2)) 0 x by rw [am_bz (am_b0.mp zc1)]] at K1
      exact K1
    · refine ev_go 9 (q := 20) rfl ?_
      refine ev_get (q := 23) rfl hi rfl rfl rfl ?_
      rw [nI_s]
      refine l_fp_in hd hR hC hi hk hr m (c + 1) _ _ (by omega) (fun e => ?_)
      have K1 := K e
      rw [sp_it] at K1
      dsimp only at K1
      rw [show sp_fk (f (cx r c 0)) (f (cx r c 1)) (f (cx r c 2)) (am_b (f (cx r c 3) = 1)) x = sp_fk (f (cx r c 0)) (f (cx r c 1)) (f (cx r c 2)) 1 x by rw [am_b1 (am_bn.mp zc1)]] at K1
      exact K1
theorem l_fp_out (hd : 1 < d) (hR : R ≤ 10) (hC : C ≤ 10) (hi : am_is h a (am_cloth (nI R) (nI C) use sh k)) (hk : am_is h k (am_ia 400 f)) : ∀ (m r : Nat) (x : Int64) (e e1 : Option Value), r + m = R → (∀ e e1, am_ev d z_Cloth_fingerprint (93, [some (.ref a), some (.long (sp_it (fun r => sp_it ((fun r c => sp_fk (f (cx r c 0)) (f (cx r c 1)) (f (cx r c 2)) (am_b (f (cx r c 3) = 1))) r) 0 C) r m x)), none, some (.int (nI R)), e, e1], [], h) res h') → am_ev d z_Cloth_fingerprint (11, [some (.ref a), some (.long x), none, some (.int (nI r)), e, e1], [.int (nI R), .int (nI r)], h) res h'
  | 0, r, x, e, e1, hm, K => by
    refine ev_icmp_ge (t := 93) (q := 14) rfl rfl rfl (fun _ => ?_) (fun c1 => absurd (nI_end hm (by omega)) c1)
    have hc : r = R := hm
    subst hc
    exact K e e1
  | m + 1, r, x, e, e1, hm, K => by
    refine ev_icmp_ge (t := 93) (q := 14) rfl rfl rfl (fun c1 => absurd c1 (nI_ge (by omega) (by omega))) (fun _ => ?_)
    refine ev_go 4 (q := 20) rfl ?_
    refine ev_get (q := 23) rfl hi rfl rfl rfl ?_
    refine l_fp_in hd hR hC hi hk (by omega) C 0 x _ (by omega) (fun e => ?_)
    refine ev_go 4 (q := 8) rfl ?_
    refine ev_get (q := 11) rfl hi rfl rfl rfl ?_
    rw [nI_s]
    exact l_fp_out hd hR hC hi hk m (r + 1) _ _ _ (by omega) K
theorem k_fingerprint (hd : 1 < d) (hR : R ≤ 10) (hC : C ≤ 10) (hi : am_is h a (am_cloth (nI R) (nI C) use sh k)) (hk : am_is h k (am_ia 400 f)) : am_m d z_Cloth_fingerprint [.ref a] h (some (.long (sp_fp f R C use sh))) h := by
  refine ev_go 6 (q := 8) rfl ?_
  refine ev_get (q := 11) rfl hi rfl rfl rfl ?_
  refine l_fp_out hd hR hC hi hk R 0 7 _ _ (by omega) (fun e e1 => ?_)
  refine ev_go 4 (q := 99) (st' := _ :: .long (31 * _) :: _) rfl ?_
  refine ev_get (q := 102) rfl hi rfl rfl rfl ?_
  refine ev_go 7 (q := 111) (st' := _ :: .long (31 * _) :: _) rfl ?_
  refine ev_get (q := 114) rfl hi rfl rfl rfl ?_
  refine ev_go 2 (q := 116) rfl ?_
  exact ev_lret rfl rfl (rfl) (rfl)
end CE
