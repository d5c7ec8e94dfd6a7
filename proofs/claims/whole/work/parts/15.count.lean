/-! the cloth of the class: what is counted of it -/
def sp_s (g : Nat → Int32) : Nat → Nat → Int32
  | _, 0 => 0
  | c, m + 1 => g c + sp_s g (c + 1) m
theorem sp_s_congr {g g' : Nat → Int32} : ∀ (m c : Nat), (∀ j, c ≤ j → j < c + m → g j = g' j) → sp_s g c m = sp_s g' c m
  | 0, _, _ => rfl
  | m + 1, c, h => by
    rw [sp_s, sp_s, h c (Nat.le_refl _) (by omega), sp_s_congr m (c + 1) (fun j h1 h2 => h j (by omega) (by omega))]
theorem nI_end {a b : Nat} (h : a = b) (hb : b < 2 ^ 31) : nI b ≤ nI a := by rw [h]; exact nI_le (Nat.le_refl _) hb
section CC
variable {d : Nat} {h h' : am_H} {a k R C : Nat} {use sh : Int32} {f : Nat → Int32} {res : Option Value}
def sp_sel (f : Nat → Int32) (R C : Nat) : Int32 := sp_s (fun r => sp_s (fun c => f (cx r c 3)) 0 C) 0 R
theorem l_cc_in (hR : R ≤ 10) (hC : C ≤ 10) (hi : am_is h a (am_cloth (nI R) (nI C) use sh k)) (hk : am_is h k (am_ia 400 f)) {r : Nat} (hr : r < R) : ∀ (m c : Nat) (x : Int32), c + m = C → am_ev d z_Cloth_chosenCount (46, [some (.ref a), some (.int (x + sp_s ((fun r c => f (cx r c 3)) r) c m)), some (.int (nI r)), some (.int (nI C))], [], h) res h' → am_ev d z_Cloth_chosenCount (19, [some (.ref a), some (.int x), some (.int (nI r)), some (.int (nI c))], [.int (nI C), .int (nI c)], h) res h'
  | 0, c, x, hm, K => by
    refine ev_icmp_ge (t := 46) (q := 22) rfl rfl rfl (fun _ => ?_) (fun c1 => absurd (nI_end hm (by omega)) c1)
    have hc : c = C := hm
    subst hc
    simpa [sp_s] using K
  | m + 1, c, x, hm, K => by
    refine ev_icmp_ge (t := 46) (q := 22) rfl rfl rfl (fun c1 => absurd c1 (nI_ge (by omega) (by omega))) (fun _ => ?_)
    refine ev_go 2 (q := 24) rfl ?_
    refine ev_get (q := 27) rfl (by assumption) rfl rfl rfl ?_
    refine ev_go 9 (q := 37) (st' := .int ((((_ * 10) + _) * 4) + 3) :: _ :: _ :: _) rfl ?_
    refine ev_ialdn (q := 38) rfl (by assumption) (cx_ix _ _ 3) (cx_lt (by omega) (by omega) (by omega)) (by decide) rfl ?_
    refine ev_go 6 (q := 16) rfl ?_
    refine ev_get (q := 19) rfl (by assumption) rfl rfl rfl ?_
    rw [nI_s]
    exact l_cc_in hR hC hi hk hr m (c + 1) _ (by omega) (by rw [Int32.add_assoc]; exact K)
theorem l_cc_out (hR : R ≤ 10) (hC : C ≤ 10) (hi : am_is h a (am_cloth (nI R) (nI C) use sh k)) (hk : am_is h k (am_ia 400 f)) : ∀ (m r : Nat) (x : Int32) (e : Option Value), r + m = R → (∀ e, am_ev d z_Cloth_chosenCount (52, [some (.ref a), some (.int (x + sp_s (fun r => sp_s ((fun r c => f (cx r c 3)) r) 0 C) r m)), some (.int (nI R)), e], [], h) res h') → am_ev d z_Cloth_chosenCount (9, [some (.ref a), some (.int x), some (.int (nI r)), e], [.int (nI R), .int (nI r)], h) res h'
  | 0, r, x, e, hm, K => by
    refine ev_icmp_ge (t := 52) (q := 12) rfl rfl rfl (fun _ => ?_) (fun c1 => absurd (nI_end hm (by omega)) c1)
    have hc : r = R := hm
    subst hc
    simpa [sp_s] using K e
  | m + 1, r, x, e, hm, K => by
    refine ev_icmp_ge (t := 52) (q := 12) rfl rfl rfl (fun c1 => absurd c1 (nI_ge (by omega) (by omega))) (fun _ => ?_)
    refine ev_go 4 (q := 16) rfl ?_
    refine ev_get (q := 19) rfl (by assumption) rfl rfl rfl ?_
    refine l_cc_in hR hC hi hk (by omega) C 0 x (by omega) ?_
    refine ev_go 4 (q := 6) rfl ?_
    refine ev_get (q := 9) rfl (by assumption) rfl rfl rfl ?_
    rw [nI_s]
    exact l_cc_out hR hC hi hk m (r + 1) _ _ (by omega) (fun e => by rw [Int32.add_assoc]; exact K e)
theorem k_chosenCount (hR : R ≤ 10) (hC : C ≤ 10) (hi : am_is h a (am_cloth (nI R) (nI C) use sh k)) (hk : am_is h k (am_ia 400 f)) : am_m d z_Cloth_chosenCount [.ref a] h (some (.int (sp_sel f R C))) h := by
  refine ev_go 6 (q := 6) rfl ?_
  refine ev_get (q := 9) rfl (by assumption) rfl rfl rfl ?_
  refine l_cc_out hR hC hi hk R 0 0 _ (by omega) (fun e => ?_)
  refine ev_go 1 (q := 53) rfl ?_
  exact ev_iret rfl rfl (by rw [Int32.zero_add]; rfl) (rfl)
def sp_seenC (sh : Int32) (f : Nat → Int32) (w : Int32) (R C : Nat) : Int32 := sp_s (fun r => sp_s (fun c => am_b (sp_seen sh (fun l => f (cx r c l)) = w)) 0 C) 0 R
theorem l_sc_in {wl : Int32} (hd : 1 < d) (hR : R ≤ 10) (hC : C ≤ 10) (hi : am_is h a (am_cloth (nI R) (nI C) use sh k)) (hk : am_is h k (am_ia 400 f)) {r : Nat} (hr : r < R) : ∀ (m c : Nat) (x : Int32), c + m = C → am_ev d z_Cloth_seenCount (44, [some (.ref a), some (.int wl), some (.int (x + sp_s ((fun r c => am_b (sp_seen sh (fun l => f (cx r c l)) = wl)) r) c m)), some (.int (nI r)), some (.int (nI C))], [], h) res h' → am_ev d z_Cloth_seenCount (21, [some (.ref a), some (.int wl), some (.int x), some (.int (nI r)), some (.int (nI c))], [.int (nI C), .int (nI c)], h) res h'
  | 0, c, x, hm, K => by
    refine ev_icmp_ge (t := 44) (q := 24) rfl rfl rfl (fun _ => ?_) (fun c1 => absurd (nI_end hm (by omega)) c1)
    have hc : c = C := hm
    subst hc
    simpa [sp_s] using K
  | m + 1, c, x, hm, K => by
    refine ev_icmp_ge (t := 44) (q := 24) rfl rfl rfl (fun c1 => absurd c1 (nI_ge (by omega) (by omega))) (fun _ => ?_)
    refine ev_go 3 (q := 28) rfl ?_
    refine ev_virt (z' := z_Cloth_seenAt) (q := 31) rfl rfl (by decide) rfl (by simp [Value.category]) rfl (by omega) rfl rfl (by assumption) (k_seenAt hR hC hr (by omega) (by omega) (by assumption) (by assumption)) ?_
    refine ev_go 1 (q := 32) rfl ?_
    refine ev_icmp_ne (t := 38) (q := 35) rfl rfl rfl (fun zc1 => ?_) (fun zc1 => ?_)
    · refine ev_go 4 (q := 18) rfl ?_
      refine ev_get (q := 21) rfl (by assumption) rfl rfl rfl ?_
      rw [nI_s]
      exact l_sc_in hd hR hC hi hk hr m (c + 1) _ (by omega) (by rw [show sp_s ((fun r c => am_b (sp_seen sh (fun l => f (cx r c l)) = wl)) r) c (m + 1) = am_b (sp_seen sh (fun l => f (cx r c l)) = wl) + sp_s ((fun r c => am_b (sp_seen sh (fun l => f (cx r c l)) = wl)) r) (c + 1) m from rfl, am_bz (by assumption), Int32.zero_add] at K; exact K)
    · refine ev_go 5 (q := 18) rfl ?_
      refine ev_get (q := 21) rfl (by assumption) rfl rfl rfl ?_
      rw [nI_s]
      exact l_sc_in hd hR hC hi hk hr m (c + 1) _ (by omega) (by rw [show sp_s ((fun r c => am_b (sp_seen sh (fun l => f (cx r c l)) = wl)) r) c (m + 1) = am_b (sp_seen sh (fun l => f (cx r c l)) = wl) + sp_s ((fun r c => am_b (sp_seen sh (fun l => f (cx r c l)) = wl)) r) (c + 1) m from rfl, am_b1 (by assumption), ← Int32.add_assoc] at K; exact K)
theorem l_sc_out {wl : Int32} (hd : 1 < d) (hR : R ≤ 10) (hC : C ≤ 10) (hi : am_is h a (am_cloth (nI R) (nI C) use sh k)) (hk : am_is h k (am_ia 400 f)) : ∀ (m r : Nat) (x : Int32) (e : Option Value), r + m = R → (∀ e, am_ev d z_Cloth_seenCount (50, [some (.ref a), some (.int wl), some (.int (x + sp_s (fun r => sp_s ((fun r c => am_b (sp_seen sh (fun l => f (cx r c l)) = wl)) r) 0 C) r m)), some (.int (nI R)), e], [], h) res h') → am_ev d z_Cloth_seenCount (9, [some (.ref a), some (.int wl), some (.int x), some (.int (nI r)), e], [.int (nI R), .int (nI r)], h) res h'
  | 0, r, x, e, hm, K => by
    refine ev_icmp_ge (t := 50) (q := 12) rfl rfl rfl (fun _ => ?_) (fun c1 => absurd (nI_end hm (by omega)) c1)
    have hc : r = R := hm
    subst hc
    simpa [sp_s] using K e
  | m + 1, r, x, e, hm, K => by
    refine ev_icmp_ge (t := 50) (q := 12) rfl rfl rfl (fun c1 => absurd c1 (nI_ge (by omega) (by omega))) (fun _ => ?_)
    refine ev_go 4 (q := 18) rfl ?_
    refine ev_get (q := 21) rfl (by assumption) rfl rfl rfl ?_
    refine l_sc_in hd hR hC hi hk (by omega) C 0 x (by omega) ?_
    refine ev_go 4 (q := 6) rfl ?_
    refine ev_get (q := 9) rfl (by assumption) rfl rfl rfl ?_
    rw [nI_s]
    exact l_sc_out hd hR hC hi hk m (r + 1) _ _ (by omega) (fun e => by rw [Int32.add_assoc]; exact K e)
theorem k_seenCount {wl : Int32} (hd : 1 < d) (hR : R ≤ 10) (hC : C ≤ 10) (hi : am_is h a (am_cloth (nI R) (nI C) use sh k)) (hk : am_is h k (am_ia 400 f)) : am_m d z_Cloth_seenCount [.ref a, .int wl] h (some (.int (sp_seenC sh f wl R C))) h := by
  refine ev_go 6 (q := 6) rfl ?_
  refine ev_get (q := 9) rfl (by assumption) rfl rfl rfl ?_
  refine l_sc_out hd hR hC hi hk R 0 0 _ (by omega) (fun e => ?_)
  refine ev_go 1 (q := 51) rfl ?_
  exact ev_iret rfl rfl (by rw [Int32.zero_add]; rfl) (rfl)
end CC
section CD
variable {d : Nat} {h h' : am_H} {a k a2 k2 R C R2 C2 : Nat} {use sh use2 sh2 : Int32} {f f2 : Nat → Int32} {res : Option Value}
def sp_same (f f2 : Nat → Int32) (r c : Nat) : Prop := f (cx r c 0) = f2 (cx r c 0) ∧ f (cx r c 1) = f2 (cx r c 1) ∧ f (cx r c 2) = f2 (cx r c 2)
noncomputable def sp_diff (f f2 : Nat → Int32) (r c : Nat) : Int32 := @am_b (¬ sp_same f f2 r c) (Classical.propDecidable _)
theorem k_hasWoolsOf (hd : 1 < d) (hR : R ≤ 10) (hC : C ≤ 10) (hR2 : R2 ≤ 10) (hC2 : C2 ≤ 10) {r c : Nat} (hr : r < R) (hc : c < C) (hr2 : r < R2) (hc2 : c < C2) (hi : am_is h a (am_cloth (nI R) (nI C) use sh k)) (hk : am_is h k (am_ia 400 f)) (hi2 : am_is h a2 (am_cloth (nI R2) (nI C2) use2 sh2 k2)) (hk2 : am_is h k2 (am_ia 400 f2)) : am_m d z_Cloth_hasWoolsOf [.ref a, .ref a2, .int (nI r), .int (nI c)] h (some (.int (@am_b (sp_same f f2 r c) (Classical.propDecidable _)))) h := by
  refine ev_go 2 (q := 3) rfl ?_
  rw [show Int32.ofInt 0 = nI 0 from rfl]
  refine ev_go 2 (q := 6) (st' := .int 3 :: .int (nI 0) :: _) rfl ?_
  refine ev_icmp_ge (t := 36) (q := 9) rfl rfl rfl (fun c => absurd c (by decide)) (fun _ => ?_)
  refine ev_go 4 (q := 14) (st' := .int (nI 0) :: _) rfl ?_
  refine ev_virt (z' := z_Cloth_woolAt) (q := 17) rfl rfl (by decide) rfl (by simp [Value.category]) rfl (by omega) rfl rfl hi (k_woolAt (l := 0) hR hC hr hc (by omega) (by omega) hi hk) ?_
  refine ev_go 4 (q := 22) (st' := .int (nI 0) :: _) rfl ?_
  refine ev_virt (z' := z_Cloth_woolAt) (q := 25) rfl rfl (by decide) rfl (by simp [Value.category]) rfl (by omega) rfl rfl hi2 (k_woolAt (l := 0) hR2 hC2 hr2 hc2 (by omega) (by omega) hi2 hk2) ?_
  refine ev_icmp_eq (t := 30) (q := 28) rfl rfl rfl (fun e0 => ?_) (fun e0 => ?_)
  case refine_2 =>
    refine ev_go 1 (q := 29) (st' := .int 0 :: _) rfl ?_
    exact ev_zret rfl rfl (Or.inl rfl) (@am_bz _ (Classical.propDecidable _) (fun q => e0 (by unfold sp_same at q; first | exact q.1 | exact q.2.1 | exact q.2.2))).symm rfl
  refine ev_go 2 (q := 3) rfl ?_
  rw [nI_s]
  refine ev_go 2 (q := 6) (st' := .int 3 :: .int (nI 1) :: _) rfl ?_
  refine ev_icmp_ge (t := 36) (q := 9) rfl rfl rfl (fun c => absurd c (by decide)) (fun _ => ?_)
  refine ev_go 4 (q := 14) (st' := .int (nI 1) :: _) rfl ?_
  refine ev_virt (z' := z_Cloth_woolAt) (q := 17) rfl rfl (by decide) rfl (by simp [Value.category]) rfl (by omega) rfl rfl hi (k_woolAt (l := 1) hR hC hr hc (by omega) (by omega) hi hk) ?_
  refine ev_go 4 (q := 22) (st' := .int (nI 1) :: _) rfl ?_
  refine ev_virt (z' := z_Cloth_woolAt) (q := 25) rfl rfl (by decide) rfl (by simp [Value.category]) rfl (by omega) rfl rfl hi2 (k_woolAt (l := 1) hR2 hC2 hr2 hc2 (by omega) (by omega) hi2 hk2) ?_
  refine ev_icmp_eq (t := 30) (q := 28) rfl rfl rfl (fun e1 => ?_) (fun e1 => ?_)
  case refine_2 =>
    refine ev_go 1 (q := 29) (st' := .int 0 :: _) rfl ?_
    exact ev_zret rfl rfl (Or.inl rfl) (@am_bz _ (Classical.propDecidable _) (fun q => e1 (by unfold sp_same at q; first | exact q.1 | exact q.2.1 | exact q.2.2))).symm rfl
  refine ev_go 2 (q := 3) rfl ?_
  rw [nI_s]
  refine ev_go 2 (q := 6) (st' := .int 3 :: .int (nI 2) :: _) rfl ?_
  refine ev_icmp_ge (t := 36) (q := 9) rfl rfl rfl (fun c => absurd c (by decide)) (fun _ => ?_)
  refine ev_go 4 (q := 14) (st' := .int (nI 2) :: _) rfl ?_
  refine ev_virt (z' := z_Cloth_woolAt) (q := 17) rfl rfl (by decide) rfl (by simp [Value.category]) rfl (by omega) rfl rfl hi (k_woolAt (l := 2) hR hC hr hc (by omega) (by omega) hi hk) ?_
  refine ev_go 4 (q := 22) (st' := .int (nI 2) :: _) rfl ?_
  refine ev_virt (z' := z_Cloth_woolAt) (q := 25) rfl rfl (by decide) rfl (by simp [Value.category]) rfl (by omega) rfl rfl hi2 (k_woolAt (l := 2) hR2 hC2 hr2 hc2 (by omega) (by omega) hi2 hk2) ?_
  refine ev_icmp_eq (t := 30) (q := 28) rfl rfl rfl (fun e2 => ?_) (fun e2 => ?_)
  case refine_2 =>
    refine ev_go 1 (q := 29) (st' := .int 0 :: _) rfl ?_
    exact ev_zret rfl rfl (Or.inl rfl) (@am_bz _ (Classical.propDecidable _) (fun q => e2 (by unfold sp_same at q; first | exact q.1 | exact q.2.1 | exact q.2.2))).symm rfl
  refine ev_go 2 (q := 3) rfl ?_
  rw [nI_s]
  refine ev_go 2 (q := 6) (st' := .int 3 :: .int (nI 3) :: _) rfl ?_
  refine ev_icmp_ge (t := 36) (q := 9) rfl rfl rfl (fun _ => ?_) (fun c => absurd (by decide) c)
  refine ev_go 1 (q := 37) (st' := .int 1 :: _) rfl ?_
  exact ev_zret rfl rfl (Or.inr rfl) (@am_b1 _ (Classical.propDecidable _) ⟨e0, e1, e2⟩).symm rfl
theorem sp_diff_z {f f2 : Nat → Int32} {r c : Nat} (h : ¬ @am_b (sp_same f f2 r c) (Classical.propDecidable _) = 0) : sp_diff f f2 r c = 0 := by
  unfold sp_diff
  exact @am_bz _ (Classical.propDecidable _) (fun q => q (@am_bn _ (Classical.propDecidable _)|>.mp h))
theorem sp_diff_1 {f f2 : Nat → Int32} {r c : Nat} (h : @am_b (sp_same f f2 r c) (Classical.propDecidable _) = 0) : sp_diff f f2 r c = 1 := by
  unfold sp_diff
  exact @am_b1 _ (Classical.propDecidable _) (@am_b0 _ (Classical.propDecidable _)|>.mp h)
theorem l_cf_in (hd : 2 < d) (hR : R ≤ 10) (hC : C ≤ 10) (hi : am_is h a (am_cloth (nI R) (nI C) use sh k)) (hk : am_is h k (am_ia 400 f)) (hi2 : am_is h a2 (am_cloth (nI R) (nI C) use2 sh2 k2)) (hk2 : am_is h k2 (am_ia 400 f2)) {r : Nat} (hr : r < R) : ∀ (m c : Nat) (x : Int32), c + m = C → am_ev d z_Cloth_changedFrom (44, [some (.ref a), some (.ref a2), some (.int (x + sp_s ((fun r c => sp_diff f f2 r c) r) c m)), some (.int (nI r)), some (.int (nI C))], [], h) res h' → am_ev d z_Cloth_changedFrom (21, [some (.ref a), some (.ref a2), some (.int x), some (.int (nI r)), some (.int (nI c))], [.int (nI C), .int (nI c)], h) res h'
  | 0, c, x, hm, K => by
    refine ev_icmp_ge (t := 44) (q := 24) rfl rfl rfl (fun _ => ?_) (fun c1 => absurd (nI_end hm (by omega)) c1)
    have hc : c = C := hm
    subst hc
    simpa [sp_s] using K
  | m + 1, c, x, hm, K => by
    refine ev_icmp_ge (t := 44) (q := 24) rfl rfl rfl (fun c1 => absurd c1 (nI_ge (by omega) (by omega))) (fun _ => ?_)
    refine ev_go 4 (q := 29) rfl ?_
    refine ev_virt (z' := z_Cloth_hasWoolsOf) (q := 32) rfl rfl (by decide) rfl (by simp [Value.category]) rfl (by omega) rfl rfl hi (k_hasWoolsOf (by omega) hR hC hR hC hr (by omega) hr (by omega) hi hk hi2 hk2) ?_
    refine ev_if_ne (t := 38) (q := 35) rfl rfl rfl (fun zc1 => ?_) (fun zc1 => ?_)
    · refine ev_go 4 (q := 18) rfl ?_
      refine ev_get (q := 21) rfl hi rfl rfl rfl ?_
      rw [nI_s]
      exact l_cf_in hd hR hC hi hk hi2 hk2 hr m (c + 1) _ (by omega) (by rw [show sp_s ((fun r c => sp_diff f f2 r c) r) c (m + 1) = sp_diff f f2 r c + sp_s ((fun r c => sp_diff f f2 r c) r) (c + 1) m from rfl, sp_diff_z zc1, Int32.zero_add] at K; exact K)
    · refine ev_go 5 (q := 18) rfl ?_
      refine ev_get (q := 21) rfl hi rfl rfl rfl ?_
      rw [nI_s]
      exact l_cf_in hd hR hC hi hk hi2 hk2 hr m (c + 1) _ (by omega) (by rw [show sp_s ((fun r c => sp_diff f f2 r c) r) c (m + 1) = sp_diff f f2 r c + sp_s ((fun r c => sp_diff f f2 r c) r) (c + 1) m from rfl, sp_diff_1 zc1, ← Int32.add_assoc] at K; exact K)
theorem l_cf_out (hd : 2 < d) (hR : R ≤ 10) (hC : C ≤ 10) (hi : am_is h a (am_cloth (nI R) (nI C) use sh k)) (hk : am_is h k (am_ia 400 f)) (hi2 : am_is h a2 (am_cloth (nI R) (nI C) use2 sh2 k2)) (hk2 : am_is h k2 (am_ia 400 f2)) : ∀ (m r : Nat) (x : Int32) (e : Option Value), r + m = R → (∀ e, am_ev d z_Cloth_changedFrom (50, [some (.ref a), some (.ref a2), some (.int (x + sp_s (fun r => sp_s ((fun r c => sp_diff f f2 r c) r) 0 C) r m)), some (.int (nI R)), e], [], h) res h') → am_ev d z_Cloth_changedFrom (9, [some (.ref a), some (.ref a2), some (.int x), some (.int (nI r)), e], [.int (nI R), .int (nI r)], h) res h'
  | 0, r, x, e, hm, K => by
    refine ev_icmp_ge (t := 50) (q := 12) rfl rfl rfl (fun _ => ?_) (fun c1 => absurd (nI_end hm (by omega)) c1)
    have hc : r = R := hm
    subst hc
    simpa [sp_s] using K e
  | m + 1, r, x, e, hm, K => by
    refine ev_icmp_ge (t := 50) (q := 12) rfl rfl rfl (fun c1 => absurd c1 (nI_ge (by omega) (by omega))) (fun _ => ?_)
    refine ev_go 4 (q := 18) rfl ?_
    refine ev_get (q := 21) rfl hi rfl rfl rfl ?_
    refine l_cf_in hd hR hC hi hk hi2 hk2 (by omega) C 0 x (by omega) ?_
    refine ev_go 4 (q := 6) rfl ?_
    refine ev_get (q := 9) rfl hi rfl rfl rfl ?_
    rw [nI_s]
    exact l_cf_out hd hR hC hi hk hi2 hk2 m (r + 1) _ _ (by omega) (fun e => by rw [Int32.add_assoc]; exact K e)
noncomputable def sp_chg (f f2 : Nat → Int32) (R C : Nat) : Int32 := sp_s (fun r => sp_s (fun c => sp_diff f f2 r c) 0 C) 0 R
theorem k_changedFrom (hd : 2 < d) (hR : R ≤ 10) (hC : C ≤ 10) (hi : am_is h a (am_cloth (nI R) (nI C) use sh k)) (hk : am_is h k (am_ia 400 f)) (hi2 : am_is h a2 (am_cloth (nI R) (nI C) use2 sh2 k2)) (hk2 : am_is h k2 (am_ia 400 f2)) : am_m d z_Cloth_changedFrom [.ref a, .ref a2] h (some (.int (sp_chg f f2 R C))) h := by
  refine ev_go 6 (q := 6) rfl ?_
  refine ev_get (q := 9) rfl hi rfl rfl rfl ?_
  refine l_cf_out hd hR hC hi hk hi2 hk2 R 0 0 _ (by omega) (fun e => ?_)
  refine ev_go 1 (q := 51) rfl ?_
  exact ev_iret rfl rfl (by rw [Int32.zero_add]; rfl) (rfl)
end CD
