/-! the switch and the loop of the law -/
theorem lw_k0 : lw_cOK 148 2 13 17 z_Desk_cloth z_Model_cloth 1 = true := by decide +kernel
theorem lw_k1 : lw_cOK 181 3 18 22 z_Desk_at z_Model_at 1 = true := by decide +kernel
theorem lw_k2 : lw_cOK 224 2 23 26 z_Desk_isSelected z_Model_isSelected 1 = true := by decide +kernel
theorem lw_k3 : lw_cOK 257 1 27 31 z_Desk_about z_Model_about 1 = true := by decide +kernel
theorem lw_k4 : lw_cOK 280 1 32 35 z_Desk_used z_Model_used 1 = true := by decide +kernel
theorem lw_k5 : lw_cOK 303 3 36 39 z_Desk_floats z_Model_floats 1 = true := by decide +kernel
theorem lw_k6 : lw_cOK 346 6 40 44 z_Desk_run z_Model_run 1 = true := by decide +kernel
theorem lw_k7 : lw_cOK 421 1 45 48 z_Desk_handle z_Model_handle 1 = true := by decide +kernel
theorem lw_k8 : lw_cOK 444 3 49 52 z_Desk_bind z_Model_bind 1 = true := by decide +kernel
theorem lw_k9 : lw_cOK 487 2 53 56 z_Desk_same z_Model_same 1 = true := by decide +kernel
theorem lw_k10 : lw_cOK 520 6 57 60 z_Desk_call z_Model_call 1 = true := by decide +kernel
theorem lw_k11 : lw_cOK 595 4 61 65 z_Desk_macro z_Model_macro 1 = true := by decide +kernel
theorem lw_k12 : lw_cOK 648 6 66 69 z_Desk_part z_Model_part 1 = true := by decide +kernel
theorem lw_k13 : lw_cOK 723 2 70 73 z_Desk_nest z_Model_nest 1 = true := by decide +kernel
theorem lw_k14 : lw_cOK 756 2 74 77 z_Desk_times z_Model_times 1 = true := by decide +kernel
theorem lw_k15 : lw_cOK 789 1 78 81 z_Desk_play z_Model_play 1 = true := by decide +kernel
theorem lw_k16 : lw_cOK 812 1 82 85 z_Desk_outcome z_Model_outcome 1 = true := by decide +kernel
theorem lw_k17 : lw_cOK 835 0 86 90 z_Desk_node z_Model_node 1 = true := by decide +kernel
theorem lw_k18 : lw_cOK 848 1 91 94 z_Desk_go z_Model_go 1 = true := by decide +kernel
theorem lw_k19 : lw_cOK 871 0 95 98 z_Desk_undo z_Model_undo 1 = true := by decide +kernel
theorem lw_k20 : lw_cOK 884 0 99 102 z_Desk_redo z_Model_redo 1 = true := by decide +kernel
theorem lw_k21 : lw_cOK 897 2 103 106 z_Desk_told z_Model_told 1 = true := by decide +kernel
theorem lw_k22 : lw_cOK 930 1 107 110 z_Desk_squeeze z_Model_squeeze 1 = true := by decide +kernel
theorem lw_k23 : lw_cOK 953 0 111 115 z_Desk_trace z_Model_trace 3 = true := by decide +kernel
theorem lw_k24 : lw_cOK 967 0 116 119 z_Desk_digest z_Model_digest 3 = true := by decide +kernel
def lw_tgt : Nat → Nat := fun k => match k with
  | 0 => 148
  | 1 => 181
  | 2 => 224
  | 3 => 257
  | 4 => 280
  | 5 => 303
  | 6 => 346
  | 7 => 421
  | 8 => 444
  | 9 => 487
  | 10 => 520
  | 11 => 595
  | 12 => 648
  | 13 => 723
  | 14 => 756
  | 15 => 789
  | 16 => 812
  | 17 => 835
  | 18 => 848
  | 19 => 871
  | 20 => 884
  | 21 => 897
  | 22 => 930
  | 23 => 953
  | _ => 967
def lw_offs : Array Int := #[115, 148, 191, 224, 247, 270, 313, 388, 411, 454, 487, 562, 615, 690, 723, 756, 779, 802, 815, 838, 851, 864, 897, 920, 934]
theorem d_law_0 : decode code 0 = .ok (.new 7, 3) := by decide +kernel
theorem d_law_3 : decode code 3 = .ok (.dup, 1) := by decide +kernel
theorem d_law_4 : decode code 4 = .ok (.invokespecial 9, 3) := by decide +kernel
theorem d_law_7 : decode code 7 = .ok (.astore_n 1, 1) := by decide +kernel
theorem d_law_8 : decode code 8 = .ok (.new 10, 3) := by decide +kernel
theorem d_law_11 : decode code 11 = .ok (.dup, 1) := by decide +kernel
theorem d_law_12 : decode code 12 = .ok (.invokespecial 12, 3) := by decide +kernel
theorem d_law_15 : decode code 15 = .ok (.astore_n 2, 1) := by decide +kernel
theorem d_law_16 : decode code 16 = .ok (.iconst 0, 1) := by decide +kernel
theorem d_law_17 : decode code 17 = .ok (.istore_n 3, 1) := by decide +kernel
theorem d_law_18 : decode code 18 = .ok (.iload_n 3, 1) := by decide +kernel
theorem d_law_19 : decode code 19 = .ok (.aload_n 0, 1) := by decide +kernel
theorem d_law_20 : decode code 20 = .ok (.arraylength, 1) := by decide +kernel
theorem d_law_21 : decode code 21 = .ok (.bipush 7, 2) := by decide +kernel
theorem d_law_23 : decode code 23 = .ok (.isub, 1) := by decide +kernel
theorem d_law_24 : decode code 24 = .ok (.if_icmp .gt 963, 3) := by decide +kernel
theorem d_law_27 : decode code 27 = .ok (.aload_n 0, 1) := by decide +kernel
theorem d_law_28 : decode code 28 = .ok (.iload_n 3, 1) := by decide +kernel
theorem d_law_29 : decode code 29 = .ok (.iaload, 1) := by decide +kernel
theorem d_law_30 : decode code 30 = .ok (.bipush 31, 2) := by decide +kernel
theorem d_law_32 : decode code 32 = .ok (.iand, 1) := by decide +kernel
theorem d_law_33 : decode code 33 = .ok (.tableswitch 948 0 24 lw_offs, 115) := by decide +kernel
theorem d_law_981 : decode code 981 = .ok (.iinc 3 7, 3) := by decide +kernel
theorem d_law_984 : decode code 984 = .ok (.goto (-966), 3) := by decide +kernel
theorem d_law_987 : decode code 987 = .ok (.iconst 1, 1) := by decide +kernel
theorem d_law_988 : decode code 988 = .ok (.ireturn, 1) := by decide +kernel
theorem lw_tgts : ∀ k : Nat, k < 25 → lw_offs[k]? = some (((lw_tgt k : Nat) : Int) - 33) := by decide +kernel
theorem lw_gt {i L : Nat} (hL : L ≤ 3584) (hi : i ≤ L) (h : ¬ nI L - 7 < nI i) : i + 7 ≤ L := by
  rcases Nat.lt_or_ge L 7 with q | q
  · exfalso
    apply h
    have h0 : (0 : Int32) ≤ nI i := nI_pos' (by omega)
    have h1 : nI L - 7 < 0 := by
      rcases (show L = 0 ∨ L = 1 ∨ L = 2 ∨ L = 3 ∨ L = 4 ∨ L = 5 ∨ L = 6 by omega) with rfl | rfl | rfl | rfl | rfl | rfl | rfl <;> decide
    exact Int32.lt_of_lt_of_le h1 h0
  · have e : nI L - 7 = nI (L - 7) := by
      have h1 : nI (L - 7) + 7 = nI L := by
        have := nI_add (L - 7) 7
        rw [show L - 7 + 7 = L by omega] at this
        exact this
      rw [← h1]
      exact Int32.add_sub_cancel _ _
    rw [e, nI_ltI (by omega) (by omega)] at h
    omega
