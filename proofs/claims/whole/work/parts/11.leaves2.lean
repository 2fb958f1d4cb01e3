set_option maxRecDepth 100000 in
set_option maxHeartbeats 4000000 in
theorem c_X4_isWidthOrUntold (π : dz_Pl) (Λ : Nat → dz_Ds) (N : Nat) (v : Int32) (I : dz_MI) (J : dz_MJ) : dz_Cl π Λ N mX4_isWidthOrUntold 2 42 [.inl v] I J (dz_Pu (.inl (dz_b (v = 0 ∨ (nI 100 ≤ v ∧ v ≤ nI 3000)))) I J) := by
  refine dz_body (own := 4) dz_mX4_isWidthOrUntold rfl (Nat.le_of_ble_eq_true rfl) (fun V hV => ?_)
  refine dr_iload_n 0 hV dX4_isWidthOrUntold_0 rfl ?_
  first | refine dr_ifb_eq (tgt := 11) 1 hV dX4_isWidthOrUntold_1 (by decide) (fun c1 => ?_) (fun c1 => ?_) | refine dr_if_eq (tgt := 11) 1 hV dX4_isWidthOrUntold_1 (by decide) (fun c1 => ?_) (fun c1 => ?_)
  · refine dr_iconst (v := nI 1) 11 hV dX4_isWidthOrUntold_11 (by decide) ?_
    refine dr_goto (tgt := 16) 12 hV dX4_isWidthOrUntold_12 (by decide) ?_
    exact dr_iret 16 hV dX4_isWidthOrUntold_16 rfl (by first | rfl | exact dz_bn) (by clear hV; first | exact dz_pu1 (by simp only [fa_lt, fa_le, fa_eq] at *; omega) | exact dz_pu0 (by simp only [fa_lt, fa_le, fa_eq] at *; omega))
  · refine dr_iload_n 4 hV dX4_isWidthOrUntold_4 rfl ?_
    refine dr_csp1 5 hV (Or.inl dz_lX4_51) dX4_isWidthOrUntold_5 (by decide) (by decide) (Nat.le_of_ble_eq_true rfl) (c_X4_isWidth π _ _ _ _ _) ?_
    first | refine dr_ifb_eq (tgt := 15) 8 hV dX4_isWidthOrUntold_8 (by decide) (fun c8 => ?_) (fun c8 => ?_) | refine dr_if_eq (tgt := 15) 8 hV dX4_isWidthOrUntold_8 (by decide) (fun c8 => ?_) (fun c8 => ?_)
    · refine dr_iconst (v := nI 0) 15 hV dX4_isWidthOrUntold_15 (by decide) ?_
      exact dr_iret 16 hV dX4_isWidthOrUntold_16 rfl (by first | rfl | exact dz_bn) (by clear hV; first | exact dz_pu1 (by simp only [fa_lt, fa_le, fa_eq] at *; omega) | exact dz_pu0 (by simp only [fa_lt, fa_le, fa_eq] at *; omega))
    · refine dr_iconst (v := nI 1) 11 hV dX4_isWidthOrUntold_11 (by decide) ?_
      refine dr_goto (tgt := 16) 12 hV dX4_isWidthOrUntold_12 (by decide) ?_
      exact dr_iret 16 hV dX4_isWidthOrUntold_16 rfl (by first | rfl | exact dz_bn) (by clear hV; first | exact dz_pu1 (by simp only [fa_lt, fa_le, fa_eq] at *; omega) | exact dz_pu0 (by simp only [fa_lt, fa_le, fa_eq] at *; omega))
set_option maxRecDepth 100000 in
set_option maxHeartbeats 4000000 in
theorem c_X4_isHoles (π : dz_Pl) (Λ : Nat → dz_Ds) (N : Nat) (v : Int32) (I : dz_MI) (J : dz_MJ) : dz_Cl π Λ N mX4_isHoles 1 22 [.inl v] I J (dz_Pu (.inl (dz_b (nI 0 ≤ v ∧ v ≤ 65535))) I J) := by
  refine dz_body (own := 4) dz_mX4_isHoles rfl (Nat.le_of_ble_eq_true rfl) (fun V hV => ?_)
  refine dr_iload_n 0 hV dX4_isHoles_0 rfl ?_
  refine dr_iconst (v := nI 0) 1 hV dX4_isHoles_1 (by decide) ?_
  refine dr_ldc 2 hV dX4_isHoles_2 dz_kX4_176 ?_
  refine dr_csp3 4 hV (Or.inl dz_lX4_55) dX4_isHoles_4 (by decide) (by decide) (Nat.le_of_ble_eq_true rfl) (c_X4_isWithin π _ _ _ _ _ _ _) ?_
  exact dr_iret 7 hV dX4_isHoles_7 rfl (by first | rfl | exact dz_bn) dz_pu
set_option maxRecDepth 100000 in
set_option maxHeartbeats 4000000 in
theorem c_X4_hasBit (π : dz_Pl) (Λ : Nat → dz_Ds) (N : Nat) (x d : Int32) (I : dz_MI) (J : dz_MJ) : dz_Cl π Λ N mX4_hasBit 0 0 [.inl x, .inl d] I J (dz_Pu (.inl (dz_b (¬ ((x >>> (d &&& 31)) &&& nI 1 = 0)))) I J) := by
  refine dz_body (own := 4) dz_mX4_hasBit rfl (Nat.le_of_ble_eq_true rfl) (fun V hV => ?_)
  refine dr_iload_n 0 hV dX4_hasBit_0 rfl ?_
  refine dr_iload_n 1 hV dX4_hasBit_1 rfl ?_
  refine dr_ishr 2 hV dX4_hasBit_2 rfl ?_
  refine dr_iconst (v := nI 1) 3 hV dX4_hasBit_3 (by decide) ?_
  refine dr_iand 4 hV dX4_hasBit_4 rfl ?_
  first | refine dr_ifb_eq (tgt := 12) 5 hV dX4_hasBit_5 (by decide) (fun c5 => ?_) (fun c5 => ?_) | refine dr_if_eq (tgt := 12) 5 hV dX4_hasBit_5 (by decide) (fun c5 => ?_) (fun c5 => ?_)
  · refine dr_iconst (v := nI 0) 12 hV dX4_hasBit_12 (by decide) ?_
    exact dr_iret 13 hV dX4_hasBit_13 rfl (by first | rfl | exact dz_bn) (by clear hV; first | exact dz_pu1 c5 | exact dz_pu0 (fun h => h c5))
  · refine dr_iconst (v := nI 1) 8 hV dX4_hasBit_8 (by decide) ?_
    refine dr_goto (tgt := 13) 9 hV dX4_hasBit_9 (by decide) ?_
    exact dr_iret 13 hV dX4_hasBit_13 rfl (by first | rfl | exact dz_bn) (by clear hV; first | exact dz_pu1 c5 | exact dz_pu0 (fun h => h c5))
theorem c_hasBit (π : dz_Pl) (Λ : Nat → dz_Ds) (N : Nat) {x d : Nat} (I : dz_MI) (J : dz_MJ) (hx : x < 2 ^ 31) (hd : d < 31) : dz_Cl π Λ N mX4_hasBit 0 0 [.inl (nI x), .inl (nI d)] I J (dz_Pu (.inl (dz_b (x.testBit d = true))) I J) := (c_X4_hasBit π Λ N (nI x) (nI d) I J).mono (fun r I2 J2 h => by obtain ⟨rfl, rfl, rfl⟩ := h; exact dz_pub (by rw [dz_hb0 hx hd]; simp))
set_option maxRecDepth 100000 in
set_option maxHeartbeats 4000000 in
theorem c_X5_isDrum (π : dz_Pl) (v : Int32) (I : dz_MI) (J : dz_MJ) : dz_Cl π dz_M 24 mX5_isDrum 0 0 [.inr (.inr 0), .inl v] I J (dz_Pu (.inl (dz_b (0 ≤ v ∧ v < I 0 1))) I J) := by
  refine dz_body (own := 5) dz_mX5_isDrum rfl (Nat.le_of_ble_eq_true rfl) (fun V hV => ?_)
  refine dr_iload_n 0 hV dX5_isDrum_0 rfl ?_
  refine dr_if_lt (tgt := 16) 1 hV dX5_isDrum_1 (by decide) (fun c1 => ?_) (fun c1 => ?_)
  · refine dr_iconst (v := nI 0) 16 hV dX5_isDrum_16 (by decide) ?_
    exact dr_iret 17 hV dX5_isDrum_17 rfl (by first | rfl | exact dz_bn) (by clear hV; first | exact dz_pu1 (by simp only [fa_lt, fa_le, fa_eq] at *; omega) | exact dz_pu0 (by simp only [fa_lt, fa_le, fa_eq] at *; omega))
  · refine dr_iload_n 4 hV dX5_isDrum_4 rfl ?_
    refine dr_aload_n 5 hV dX5_isDrum_5 rfl ?_
    refine dr_geti 6 hV dX5_isDrum_6 (by decide) (by decide) rfl rfl rfl rfl ?_
    refine dr_icmp_ge (tgt := 16) 9 hV dX5_isDrum_9 (by decide) (fun c9 => ?_) (fun c9 => ?_)
    · refine dr_iconst (v := nI 0) 16 hV dX5_isDrum_16 (by decide) ?_
      exact dr_iret 17 hV dX5_isDrum_17 rfl (by first | rfl | exact dz_bn) (by clear hV; first | exact dz_pu1 (by simp only [fa_lt, fa_le, fa_eq] at *; omega) | exact dz_pu0 (by simp only [fa_lt, fa_le, fa_eq] at *; omega))
    · refine dr_iconst (v := nI 1) 12 hV dX5_isDrum_12 (by decide) ?_
      refine dr_goto (tgt := 17) 13 hV dX5_isDrum_13 (by decide) ?_
      exact dr_iret 17 hV dX5_isDrum_17 rfl (by first | rfl | exact dz_bn) (by clear hV; first | exact dz_pu1 (by simp only [fa_lt, fa_le, fa_eq] at *; omega) | exact dz_pu0 (by simp only [fa_lt, fa_le, fa_eq] at *; omega))
set_option maxRecDepth 100000 in
set_option maxHeartbeats 4000000 in
theorem c_X5_isColumn (π : dz_Pl) (v : Int32) (I : dz_MI) (J : dz_MJ) : dz_Cl π dz_M 24 mX5_isColumn 0 0 [.inr (.inr 0), .inl v] I J (dz_Pu (.inl (dz_b (0 ≤ v ∧ v < I 0 2))) I J) := by
  refine dz_body (own := 5) dz_mX5_isColumn rfl (Nat.le_of_ble_eq_true rfl) (fun V hV => ?_)
  refine dr_iload_n 0 hV dX5_isColumn_0 rfl ?_
  refine dr_if_lt (tgt := 16) 1 hV dX5_isColumn_1 (by decide) (fun c1 => ?_) (fun c1 => ?_)
  · refine dr_iconst (v := nI 0) 16 hV dX5_isColumn_16 (by decide) ?_
    exact dr_iret 17 hV dX5_isColumn_17 rfl (by first | rfl | exact dz_bn) (by clear hV; first | exact dz_pu1 (by simp only [fa_lt, fa_le, fa_eq] at *; omega) | exact dz_pu0 (by simp only [fa_lt, fa_le, fa_eq] at *; omega))
  · refine dr_iload_n 4 hV dX5_isColumn_4 rfl ?_
    refine dr_aload_n 5 hV dX5_isColumn_5 rfl ?_
    refine dr_geti 6 hV dX5_isColumn_6 (by decide) (by decide) rfl rfl rfl rfl ?_
    refine dr_icmp_ge (tgt := 16) 9 hV dX5_isColumn_9 (by decide) (fun c9 => ?_) (fun c9 => ?_)
    · refine dr_iconst (v := nI 0) 16 hV dX5_isColumn_16 (by decide) ?_
      exact dr_iret 17 hV dX5_isColumn_17 rfl (by first | rfl | exact dz_bn) (by clear hV; first | exact dz_pu1 (by simp only [fa_lt, fa_le, fa_eq] at *; omega) | exact dz_pu0 (by simp only [fa_lt, fa_le, fa_eq] at *; omega))
    · refine dr_iconst (v := nI 1) 12 hV dX5_isColumn_12 (by decide) ?_
      refine dr_goto (tgt := 17) 13 hV dX5_isColumn_13 (by decide) ?_
      exact dr_iret 17 hV dX5_isColumn_17 rfl (by first | rfl | exact dz_bn) (by clear hV; first | exact dz_pu1 (by simp only [fa_lt, fa_le, fa_eq] at *; omega) | exact dz_pu0 (by simp only [fa_lt, fa_le, fa_eq] at *; omega))
set_option maxRecDepth 100000 in
set_option maxHeartbeats 4000000 in
theorem c_X5_isPlace (π : dz_Pl) (v : Int32) (I : dz_MI) (J : dz_MJ) : dz_Cl π dz_M 24 mX5_isPlace 0 0 [.inr (.inr 0), .inl v] I J (dz_Pu (.inl (dz_b (0 ≤ v ∧ v < I 0 3))) I J) := by
  refine dz_body (own := 5) dz_mX5_isPlace rfl (Nat.le_of_ble_eq_true rfl) (fun V hV => ?_)
  refine dr_iload_n 0 hV dX5_isPlace_0 rfl ?_
  refine dr_if_lt (tgt := 16) 1 hV dX5_isPlace_1 (by decide) (fun c1 => ?_) (fun c1 => ?_)
  · refine dr_iconst (v := nI 0) 16 hV dX5_isPlace_16 (by decide) ?_
    exact dr_iret 17 hV dX5_isPlace_17 rfl (by first | rfl | exact dz_bn) (by clear hV; first | exact dz_pu1 (by simp only [fa_lt, fa_le, fa_eq] at *; omega) | exact dz_pu0 (by simp only [fa_lt, fa_le, fa_eq] at *; omega))
  · refine dr_iload_n 4 hV dX5_isPlace_4 rfl ?_
    refine dr_aload_n 5 hV dX5_isPlace_5 rfl ?_
    refine dr_geti 6 hV dX5_isPlace_6 (by decide) (by decide) rfl rfl rfl rfl ?_
    refine dr_icmp_ge (tgt := 16) 9 hV dX5_isPlace_9 (by decide) (fun c9 => ?_) (fun c9 => ?_)
    · refine dr_iconst (v := nI 0) 16 hV dX5_isPlace_16 (by decide) ?_
      exact dr_iret 17 hV dX5_isPlace_17 rfl (by first | rfl | exact dz_bn) (by clear hV; first | exact dz_pu1 (by simp only [fa_lt, fa_le, fa_eq] at *; omega) | exact dz_pu0 (by simp only [fa_lt, fa_le, fa_eq] at *; omega))
    · refine dr_iconst (v := nI 1) 12 hV dX5_isPlace_12 (by decide) ?_
      refine dr_goto (tgt := 17) 13 hV dX5_isPlace_13 (by decide) ?_
      exact dr_iret 17 hV dX5_isPlace_17 rfl (by first | rfl | exact dz_bn) (by clear hV; first | exact dz_pu1 (by simp only [fa_lt, fa_le, fa_eq] at *; omega) | exact dz_pu0 (by simp only [fa_lt, fa_le, fa_eq] at *; omega))
set_option maxRecDepth 100000 in
set_option maxHeartbeats 4000000 in
theorem c_X5_thrown (π : dz_Pl) (I : dz_MI) (J : dz_MJ) : dz_Cl π dz_M 24 mX5_thrown 0 0 [.inr (.inr 0)] I J (dz_Pu (.inl (I 0 0)) I J) := by
  refine dz_body (own := 5) dz_mX5_thrown rfl (Nat.le_of_ble_eq_true rfl) (fun V hV => ?_)
  refine dr_aload_n 0 hV dX5_thrown_0 rfl ?_
  refine dr_geti 1 hV dX5_thrown_1 (by decide) (by decide) rfl rfl rfl rfl ?_
  exact dr_iret 4 hV dX5_thrown_4 rfl (by first | rfl | exact dz_bn) dz_pu
set_option maxRecDepth 100000 in
set_option maxHeartbeats 4000000 in
theorem c_X5_index (π : dz_Pl) (Λ : Nat → dz_Ds) (N : Nat) (p u l : Nat) (I : dz_MI) (J : dz_MJ) : dz_Cl π Λ N mX5_index 0 0 [.inl (nI p), .inl (nI u), .inl (nI l)] I J (dz_Pu (.inl (nI ((1024 * p + u) * 11 + l))) I J) := by
  refine dz_body (own := 5) dz_mX5_index rfl (Nat.le_of_ble_eq_true rfl) (fun V hV => ?_)
  refine dr_sipush (v := nI 1024) 0 hV dX5_index_0 (by decide) ?_
  refine dr_iload_n 3 hV dX5_index_3 rfl ?_
  refine dr_imul 4 hV dX5_index_4 rfl ?_
  refine dr_iload_n 5 hV dX5_index_5 rfl ?_
  refine dr_iadd 6 hV dX5_index_6 rfl ?_
  refine dr_bipush (v := nI 11) 7 hV dX5_index_7 (by decide) ?_
  refine dr_imul 9 hV dX5_index_9 rfl ?_
  refine dr_iload_n 10 hV dX5_index_10 rfl ?_
  refine dr_iadd 11 hV dX5_index_11 rfl ?_
  exact dr_iret 12 hV dX5_index_12 rfl (by first | rfl | exact dz_bn) (dz_pue (by rw [pk_mul, nI_add, pk_mul, nI_add]))
set_option maxRecDepth 100000 in
set_option maxHeartbeats 4000000 in
theorem c_X5_behind (π : dz_Pl) (p d u : Nat) (I : dz_MI) (J : dz_MJ) (hd : d ≤ 10) : dz_Cl π dz_M 24 mX5_behind 1 22 [.inr (.inr 0), .inl (nI p), .inl (nI d), .inl (nI u)] I J (dz_Pu (.inl (nI ((1024 * (p + 1) + (if d = 10 then u else u ||| 2 ^ d)) * 11 + d))) I J) := by
  refine dz_body (own := 5) dz_mX5_behind rfl (Nat.le_of_ble_eq_true rfl) (fun V hV => ?_)
  refine dr_iload_n 0 hV dX5_behind_0 rfl ?_
  refine dr_iconst (v := nI 1) 1 hV dX5_behind_1 (by decide) ?_
  refine dr_iadd (z := nI (p + 1)) 2 hV dX5_behind_2 (nI_1 p) ?_
  refine dr_iload_n 3 hV dX5_behind_3 rfl ?_
  refine dr_bipush (v := nI 10) 4 hV dX5_behind_4 (by decide) ?_
  refine dn_icmp_ne (tgt := 13) 6 hV dX5_behind_6 (by decide) (by omega) (by omega) (fun c6 => ?_) (fun c6 => ?_)
  · refine dr_iload_n 13 hV dX5_behind_13 rfl ?_
    refine dr_iconst (v := nI 1) 14 hV dX5_behind_14 (by decide) ?_
    refine dr_iload_n 15 hV dX5_behind_15 rfl ?_
    refine dr_ishl (z := nI (2 ^ d)) 16 hV dX5_behind_16 (dz_s1 (by omega)) ?_
    refine dr_ior (z := nI (u ||| 2 ^ d)) 17 hV dX5_behind_17 (fa_or _ _) ?_
    refine dr_iload_n 18 hV dX5_behind_18 rfl ?_
    refine dr_csp3 19 hV (Or.inl dz_lX5_144) dX5_behind_19 (by decide) (by decide) (Nat.le_of_ble_eq_true rfl) (c_X5_index π _ _ _ _ _ _ _) ?_
    exact dr_iret 22 hV dX5_behind_22 rfl (by first | rfl | exact dz_bn) (dz_pue (by clear hV; simp [c6]))
  · refine dr_iload_n 9 hV dX5_behind_9 rfl ?_
    refine dr_goto (tgt := 18) 10 hV dX5_behind_10 (by decide) ?_
    refine dr_iload_n 18 hV dX5_behind_18 rfl ?_
    refine dr_csp3 19 hV (Or.inl dz_lX5_144) dX5_behind_19 (by decide) (by decide) (Nat.le_of_ble_eq_true rfl) (c_X5_index π _ _ _ _ _ _ _) ?_
    exact dr_iret 22 hV dX5_behind_22 rfl (by first | rfl | exact dz_bn) (dz_pue (by clear hV; simp [c6]))
set_option maxRecDepth 100000 in
set_option maxHeartbeats 4000000 in
theorem c_X1_areAlike (π : dz_Pl) (Λ : Nat → dz_Ds) (N : Nat) (a b : Int32) (I : dz_MI) (J : dz_MJ) : dz_Cl π Λ N mX1_areAlike 0 0 [.inl a, .inl b] I J (dz_Pu (.inl (dz_b (a = 0 ∨ b = 0 ∨ a = b))) I J) := by
  refine dz_body (own := 1) dz_mX1_areAlike rfl (Nat.le_of_ble_eq_true rfl) (fun V hV => ?_)
  refine dr_iload_n 0 hV dX1_areAlike_0 rfl ?_
  first | refine dr_ifb_eq (tgt := 13) 1 hV dX1_areAlike_1 (by decide) (fun c1 => ?_) (fun c1 => ?_) | refine dr_if_eq (tgt := 13) 1 hV dX1_areAlike_1 (by decide) (fun c1 => ?_) (fun c1 => ?_)
  · refine dr_iconst (v := nI 1) 13 hV dX1_areAlike_13 (by decide) ?_
    refine dr_goto (tgt := 18) 14 hV dX1_areAlike_14 (by decide) ?_
    exact dr_iret 18 hV dX1_areAlike_18 rfl (by first | rfl | exact dz_bn) (by clear hV; first | exact dz_pu1 (by simp only [fa_lt, fa_le, fa_eq] at *; omega) | exact dz_pu0 (by simp only [fa_lt, fa_le, fa_eq] at *; omega))
  · refine dr_iload_n 4 hV dX1_areAlike_4 rfl ?_
    first | refine dr_ifb_eq (tgt := 13) 5 hV dX1_areAlike_5 (by decide) (fun c5 => ?_) (fun c5 => ?_) | refine dr_if_eq (tgt := 13) 5 hV dX1_areAlike_5 (by decide) (fun c5 => ?_) (fun c5 => ?_)
    · refine dr_iconst (v := nI 1) 13 hV dX1_areAlike_13 (by decide) ?_
      refine dr_goto (tgt := 18) 14 hV dX1_areAlike_14 (by decide) ?_
      exact dr_iret 18 hV dX1_areAlike_18 rfl (by first | rfl | exact dz_bn) (by clear hV; first | exact dz_pu1 (by simp only [fa_lt, fa_le, fa_eq] at *; omega) | exact dz_pu0 (by simp only [fa_lt, fa_le, fa_eq] at *; omega))
    · refine dr_iload_n 8 hV dX1_areAlike_8 rfl ?_
      refine dr_iload_n 9 hV dX1_areAlike_9 rfl ?_
      refine dr_icmp_ne (tgt := 17) 10 hV dX1_areAlike_10 (by decide) (fun c10 => ?_) (fun c10 => ?_)
      · refine dr_iconst (v := nI 0) 17 hV dX1_areAlike_17 (by decide) ?_
        exact dr_iret 18 hV dX1_areAlike_18 rfl (by first | rfl | exact dz_bn) (by clear hV; first | exact dz_pu1 (by simp only [fa_lt, fa_le, fa_eq] at *; omega) | exact dz_pu0 (by simp only [fa_lt, fa_le, fa_eq] at *; omega))
      · refine dr_iconst (v := nI 1) 13 hV dX1_areAlike_13 (by decide) ?_
        refine dr_goto (tgt := 18) 14 hV dX1_areAlike_14 (by decide) ?_
        exact dr_iret 18 hV dX1_areAlike_18 rfl (by first | rfl | exact dz_bn) (by clear hV; first | exact dz_pu1 (by simp only [fa_lt, fa_le, fa_eq] at *; omega) | exact dz_pu0 (by simp only [fa_lt, fa_le, fa_eq] at *; omega))
def dz_tu (h r : Int32) : Int32 := ((h <<< (r &&& 31)) ||| ((h <<< (r &&& 31)) >>> (nI 16 &&& 31))) &&& 65535
set_option maxRecDepth 100000 in
set_option maxHeartbeats 4000000 in
theorem c_X1_turned (π : dz_Pl) (Λ : Nat → dz_Ds) (N : Nat) (h r : Int32) (I : dz_MI) (J : dz_MJ) : dz_Cl π Λ N mX1_turned 0 0 [.inl h, .inl r] I J (dz_Pu (.inl (dz_tu h r)) I J) := by
  refine dz_body (own := 1) dz_mX1_turned rfl (Nat.le_of_ble_eq_true rfl) (fun V hV => ?_)
  refine dr_iload_n 0 hV dX1_turned_0 rfl ?_
  refine dr_iload_n 1 hV dX1_turned_1 rfl ?_
  refine dr_ishl 2 hV dX1_turned_2 rfl ?_
  refine dr_istore_n 3 hV dX1_turned_3 (by decide) ?_
  refine dr_iload_n 4 hV dX1_turned_4 rfl ?_
  refine dr_iload_n 5 hV dX1_turned_5 rfl ?_
  refine dr_bipush (v := nI 16) 6 hV dX1_turned_6 (by decide) ?_
  refine dr_ishr 8 hV dX1_turned_8 rfl ?_
  refine dr_ior 9 hV dX1_turned_9 rfl ?_
  refine dr_ldc 10 hV dX1_turned_10 dz_kX1_71 ?_
  refine dr_iand 12 hV dX1_turned_12 rfl ?_
  exact dr_iret 13 hV dX1_turned_13 rfl (by first | rfl | exact dz_bn) dz_pu
set_option maxRecDepth 100000 in
set_option maxHeartbeats 4000000 in
theorem c_X1_canTakeOne (π : dz_Pl) (I : dz_MI) (J : dz_MJ) : dz_Cl π dz_Y 62 mX1_canTakeOne 0 0 [.inr (.inr 1)] I J (dz_Pu (.inl (dz_b (¬ I 1 2 = 0 ∧ I 1 3 < nI 10))) I J) := by
  refine dz_body (own := 1) dz_mX1_canTakeOne rfl (Nat.le_of_ble_eq_true rfl) (fun V hV => ?_)
  refine dr_aload_n 0 hV dX1_canTakeOne_0 rfl ?_
  refine dr_geti 1 hV dX1_canTakeOne_1 (by decide) (by decide) rfl rfl rfl rfl ?_
  first | refine dr_ifb_eq (tgt := 20) 4 hV dX1_canTakeOne_4 (by decide) (fun c4 => ?_) (fun c4 => ?_) | refine dr_if_eq (tgt := 20) 4 hV dX1_canTakeOne_4 (by decide) (fun c4 => ?_) (fun c4 => ?_)
  · refine dr_iconst (v := nI 0) 20 hV dX1_canTakeOne_20 (by decide) ?_
    exact dr_iret 21 hV dX1_canTakeOne_21 rfl (by first | rfl | exact dz_bn) (by clear hV; first | exact dz_pu1 (by simp only [fa_lt, fa_le, fa_eq] at *; omega) | exact dz_pu0 (by simp only [fa_lt, fa_le, fa_eq] at *; omega))
  · refine dr_aload_n 7 hV dX1_canTakeOne_7 rfl ?_
    refine dr_geti 8 hV dX1_canTakeOne_8 (by decide) (by decide) rfl rfl rfl rfl ?_
    refine dr_bipush (v := nI 10) 11 hV dX1_canTakeOne_11 (by decide) ?_
    refine dr_icmp_ge (tgt := 20) 13 hV dX1_canTakeOne_13 (by decide) (fun c13 => ?_) (fun c13 => ?_)
    · refine dr_iconst (v := nI 0) 20 hV dX1_canTakeOne_20 (by decide) ?_
      exact dr_iret 21 hV dX1_canTakeOne_21 rfl (by first | rfl | exact dz_bn) (by clear hV; first | exact dz_pu1 (by simp only [fa_lt, fa_le, fa_eq] at *; omega) | exact dz_pu0 (by simp only [fa_lt, fa_le, fa_eq] at *; omega))
    · refine dr_iconst (v := nI 1) 16 hV dX1_canTakeOne_16 (by decide) ?_
      refine dr_goto (tgt := 21) 17 hV dX1_canTakeOne_17 (by decide) ?_
      exact dr_iret 21 hV dX1_canTakeOne_21 rfl (by first | rfl | exact dz_bn) (by clear hV; first | exact dz_pu1 (by simp only [fa_lt, fa_le, fa_eq] at *; omega) | exact dz_pu0 (by simp only [fa_lt, fa_le, fa_eq] at *; omega))
set_option maxRecDepth 100000 in
set_option maxHeartbeats 4000000 in
theorem c_X0_canTakeOne (π : dz_Pl) (n : Int32) (I : dz_MI) (J : dz_MJ) : dz_Cl π dz_Y 62 mX0_canTakeOne 0 0 [.inr (.inr 2), .inl n] I J (dz_Pu (.inl (dz_b (I 2 6 < nI 4 ∧ I 2 7 + n ≤ nI 8))) I J) := by
  refine dz_body (own := 0) dz_mX0_canTakeOne rfl (Nat.le_of_ble_eq_true rfl) (fun V hV => ?_)
  refine dr_aload_n 0 hV dX0_canTakeOne_0 rfl ?_
  refine dr_geti 1 hV dX0_canTakeOne_1 (by decide) (by decide) rfl rfl rfl rfl ?_
  refine dr_iconst (v := nI 4) 4 hV dX0_canTakeOne_4 (by decide) ?_
  refine dr_icmp_ge (tgt := 23) 5 hV dX0_canTakeOne_5 (by decide) (fun c5 => ?_) (fun c5 => ?_)
  · refine dr_iconst (v := nI 0) 23 hV dX0_canTakeOne_23 (by decide) ?_
    exact dr_iret 24 hV dX0_canTakeOne_24 rfl (by first | rfl | exact dz_bn) (by clear hV; first | exact dz_pu1 (by simp only [fa_lt, fa_le, fa_eq] at *; omega) | exact dz_pu0 (by simp only [fa_lt, fa_le, fa_eq] at *; omega))
  · refine dr_aload_n 8 hV dX0_canTakeOne_8 rfl ?_
    refine dr_geti 9 hV dX0_canTakeOne_9 (by decide) (by decide) rfl rfl rfl rfl ?_
    refine dr_iload_n 12 hV dX0_canTakeOne_12 rfl ?_
    refine dr_iadd 13 hV dX0_canTakeOne_13 rfl ?_
    refine dr_bipush (v := nI 8) 14 hV dX0_canTakeOne_14 (by decide) ?_
    refine dr_icmp_gt (tgt := 23) 16 hV dX0_canTakeOne_16 (by decide) (fun c16 => ?_) (fun c16 => ?_)
    · refine dr_iconst (v := nI 0) 23 hV dX0_canTakeOne_23 (by decide) ?_
      exact dr_iret 24 hV dX0_canTakeOne_24 rfl (by first | rfl | exact dz_bn) (by clear hV; first | exact dz_pu1 (by simp only [fa_lt, fa_le, fa_eq] at *; omega) | exact dz_pu0 (by simp only [fa_lt, fa_le, fa_eq] at *; omega))
    · refine dr_iconst (v := nI 1) 19 hV dX0_canTakeOne_19 (by decide) ?_
      refine dr_goto (tgt := 24) 20 hV dX0_canTakeOne_20 (by decide) ?_
      exact dr_iret 24 hV dX0_canTakeOne_24 rfl (by first | rfl | exact dz_bn) (by clear hV; first | exact dz_pu1 (by simp only [fa_lt, fa_le, fa_eq] at *; omega) | exact dz_pu0 (by simp only [fa_lt, fa_le, fa_eq] at *; omega))
set_option maxRecDepth 100000 in
set_option maxHeartbeats 4000000 in
theorem c_X2_leastNew (π : dz_Pl) (I : dz_MI) (J : dz_MJ) : dz_Cl π dz_Y 62 mX2_leastNew 0 0 [.inr (.inr 4)] I J (dz_Pu (.inl (I 4 10)) I J) := by
  refine dz_body (own := 2) dz_mX2_leastNew rfl (Nat.le_of_ble_eq_true rfl) (fun V hV => ?_)
  refine dr_aload_n 0 hV dX2_leastNew_0 rfl ?_
  refine dr_geti 1 hV dX2_leastNew_1 (by decide) (by decide) rfl rfl rfl rfl ?_
  exact dr_iret 4 hV dX2_leastNew_4 rfl (by first | rfl | exact dz_bn) dz_pu
set_option maxRecDepth 100000 in
set_option maxHeartbeats 4000000 in
theorem c_X2_bestWays (π : dz_Pl) (I : dz_MI) (J : dz_MJ) : dz_Cl π dz_Y 62 mX2_bestWays 0 0 [.inr (.inr 4)] I J (dz_Pu (.inr (.inl (J 4 11))) I J) := by
  refine dz_body (own := 2) dz_mX2_bestWays rfl (Nat.le_of_ble_eq_true rfl) (fun V hV => ?_)
  refine dr_aload_n 0 hV dX2_bestWays_0 rfl ?_
  refine dr_getl 1 hV dX2_bestWays_1 (by decide) (by decide) rfl rfl rfl rfl ?_
  exact dr_lret 4 hV dX2_bestWays_4 rfl dz_pu
set_option maxRecDepth 100000 in
set_option maxHeartbeats 4000000 in
theorem c_X2_hasWay (π : dz_Pl) (I : dz_MI) (J : dz_MJ) : dz_Cl π dz_Y 62 mX2_hasWay 0 0 [.inr (.inr 4)] I J (dz_Pu (.inl (dz_b (¬ I 4 10 = -1))) I J) := by
  refine dz_body (own := 2) dz_mX2_hasWay rfl (Nat.le_of_ble_eq_true rfl) (fun V hV => ?_)
  refine dr_aload_n 0 hV dX2_hasWay_0 rfl ?_
  refine dr_geti 1 hV dX2_hasWay_1 (by decide) (by decide) rfl rfl rfl rfl ?_
  refine dr_iconst (v := (-1)) 4 hV dX2_hasWay_4 (by decide) ?_
  refine dr_icmp_eq (tgt := 12) 5 hV dX2_hasWay_5 (by decide) (fun c5 => ?_) (fun c5 => ?_)
  · refine dr_iconst (v := nI 0) 12 hV dX2_hasWay_12 (by decide) ?_
    exact dr_iret 13 hV dX2_hasWay_13 rfl (by first | rfl | exact dz_bn) (by clear hV; first | exact dz_pu1 (by simp only [fa_lt, fa_le, fa_eq] at *; omega) | exact dz_pu0 (by simp only [fa_lt, fa_le, fa_eq] at *; omega))
  · refine dr_iconst (v := nI 1) 8 hV dX2_hasWay_8 (by decide) ?_
    refine dr_goto (tgt := 13) 9 hV dX2_hasWay_9 (by decide) ?_
    exact dr_iret 13 hV dX2_hasWay_13 rfl (by first | rfl | exact dz_bn) (by clear hV; first | exact dz_pu1 (by simp only [fa_lt, fa_le, fa_eq] at *; omega) | exact dz_pu0 (by simp only [fa_lt, fa_le, fa_eq] at *; omega))
set_option maxRecDepth 100000 in
set_option maxHeartbeats 4000000 in
theorem c_X2_isPlace (π : dz_Pl) (v : Int32) (I : dz_MI) (J : dz_MJ) : dz_Cl π dz_Y 62 mX2_isPlace 0 0 [.inr (.inr 4), .inl v] I J (dz_Pu (.inl (dz_b (0 ≤ v ∧ v < I 4 9))) I J) := by
  refine dz_body (own := 2) dz_mX2_isPlace rfl (Nat.le_of_ble_eq_true rfl) (fun V hV => ?_)
  refine dr_iload_n 0 hV dX2_isPlace_0 rfl ?_
  refine dr_if_lt (tgt := 16) 1 hV dX2_isPlace_1 (by decide) (fun c1 => ?_) (fun c1 => ?_)
  · refine dr_iconst (v := nI 0) 16 hV dX2_isPlace_16 (by decide) ?_
    exact dr_iret 17 hV dX2_isPlace_17 rfl (by first | rfl | exact dz_bn) (by clear hV; first | exact dz_pu1 (by simp only [fa_lt, fa_le, fa_eq] at *; omega) | exact dz_pu0 (by simp only [fa_lt, fa_le, fa_eq] at *; omega))
  · refine dr_iload_n 4 hV dX2_isPlace_4 rfl ?_
    refine dr_aload_n 5 hV dX2_isPlace_5 rfl ?_
    refine dr_geti 6 hV dX2_isPlace_6 (by decide) (by decide) rfl rfl rfl rfl ?_
    refine dr_icmp_ge (tgt := 16) 9 hV dX2_isPlace_9 (by decide) (fun c9 => ?_) (fun c9 => ?_)
    · refine dr_iconst (v := nI 0) 16 hV dX2_isPlace_16 (by decide) ?_
      exact dr_iret 17 hV dX2_isPlace_17 rfl (by first | rfl | exact dz_bn) (by clear hV; first | exact dz_pu1 (by simp only [fa_lt, fa_le, fa_eq] at *; omega) | exact dz_pu0 (by simp only [fa_lt, fa_le, fa_eq] at *; omega))
    · refine dr_iconst (v := nI 1) 12 hV dX2_isPlace_12 (by decide) ?_
      refine dr_goto (tgt := 17) 13 hV dX2_isPlace_13 (by decide) ?_
      exact dr_iret 17 hV dX2_isPlace_17 rfl (by first | rfl | exact dz_bn) (by clear hV; first | exact dz_pu1 (by simp only [fa_lt, fa_le, fa_eq] at *; omega) | exact dz_pu0 (by simp only [fa_lt, fa_le, fa_eq] at *; omega))
set_option maxRecDepth 100000 in
set_option maxHeartbeats 4000000 in
theorem c_X3_isRow (π : dz_Pl) (Λ : Nat → dz_Ds) (N : Nat) (v : Int32) (I : dz_MI) (J : dz_MJ) : dz_Cl π Λ N mX3_isRow 0 0 [.inl v] I J (dz_Pu (.inl (dz_b (0 ≤ v ∧ v < nI 8))) I J) := by
  refine dz_body (own := 3) dz_mX3_isRow rfl (Nat.le_of_ble_eq_true rfl) (fun V hV => ?_)
  refine dr_iload_n 0 hV dX3_isRow_0 rfl ?_
  refine dr_if_lt (tgt := 14) 1 hV dX3_isRow_1 (by decide) (fun c1 => ?_) (fun c1 => ?_)
  · refine dr_iconst (v := nI 0) 14 hV dX3_isRow_14 (by decide) ?_
    exact dr_iret 15 hV dX3_isRow_15 rfl (by first | rfl | exact dz_bn) (by clear hV; first | exact dz_pu1 (by simp only [fa_lt, fa_le, fa_eq] at *; omega) | exact dz_pu0 (by simp only [fa_lt, fa_le, fa_eq] at *; omega))
  · refine dr_iload_n 4 hV dX3_isRow_4 rfl ?_
    refine dr_bipush (v := nI 8) 5 hV dX3_isRow_5 (by decide) ?_
    refine dr_icmp_ge (tgt := 14) 7 hV dX3_isRow_7 (by decide) (fun c7 => ?_) (fun c7 => ?_)
    · refine dr_iconst (v := nI 0) 14 hV dX3_isRow_14 (by decide) ?_
      exact dr_iret 15 hV dX3_isRow_15 rfl (by first | rfl | exact dz_bn) (by clear hV; first | exact dz_pu1 (by simp only [fa_lt, fa_le, fa_eq] at *; omega) | exact dz_pu0 (by simp only [fa_lt, fa_le, fa_eq] at *; omega))
    · refine dr_iconst (v := nI 1) 10 hV dX3_isRow_10 (by decide) ?_
      refine dr_goto (tgt := 15) 11 hV dX3_isRow_11 (by decide) ?_
      exact dr_iret 15 hV dX3_isRow_15 rfl (by first | rfl | exact dz_bn) (by clear hV; first | exact dz_pu1 (by simp only [fa_lt, fa_le, fa_eq] at *; omega) | exact dz_pu0 (by simp only [fa_lt, fa_le, fa_eq] at *; omega))
set_option maxRecDepth 100000 in
set_option maxHeartbeats 4000000 in
theorem c_X0_columnOf (π : dz_Pl) {k n : Nat} (I : dz_MI) (J : dz_MJ) (hn : I 2 7 = nI n) (h8 : n ≤ 8) (hk : k < n) : dz_Cl π dz_Y 62 mX0_columnOf 1 21 [.inr (.inr 2), .inl (nI k)] I J (dz_Pu (.inl (I 11 k)) I J) := by
  refine dz_body (own := 0) dz_mX0_columnOf rfl (Nat.le_of_ble_eq_true rfl) (fun V hV => ?_)
  refine dr_aload_n 0 hV dX0_columnOf_0 rfl ?_
  refine dr_iload_n 1 hV dX0_columnOf_1 rfl ?_
  refine dr_cvp1 2 hV dz_lX0_41 dX0_columnOf_2 (by decide) (by decide) ⟨by decide, _, _, rfl, by decide, rfl⟩ (Nat.le_of_ble_eq_true rfl) (c_X0_hasPlace π _ _ _) ?_
  first | refine dr_ifb_eq (tgt := 17) 5 hV dX0_columnOf_5 (by decide) (fun c5 => ?_) (fun c5 => ?_) | refine dr_if_eq (tgt := 17) 5 hV dX0_columnOf_5 (by decide) (fun c5 => ?_) (fun c5 => ?_)
  · exact absurd (dz_inI hn hk (by omega)) c5
  · refine dr_aload_n 8 hV dX0_columnOf_8 rfl ?_
    refine dr_geta 9 hV dX0_columnOf_9 (by decide) (by decide) rfl rfl rfl ?_
    refine dr_iload_n 12 hV dX0_columnOf_12 rfl ?_
    refine dr_iald 13 hV dX0_columnOf_13 (by decide) rfl rfl (by omega) (by decide) rfl ?_
    refine dr_goto (tgt := 18) 14 hV dX0_columnOf_14 (by decide) ?_
    exact dr_iret 18 hV dX0_columnOf_18 rfl (by first | rfl | exact dz_bn) dz_pu
set_option maxRecDepth 100000 in
set_option maxHeartbeats 4000000 in
theorem c_X0_startOf (π : dz_Pl) {k n : Nat} (I : dz_MI) (J : dz_MJ) (hn : I 2 6 = nI n) (h4 : n ≤ 4) (hk : k < n) : dz_Cl π dz_Y 62 mX0_startOf 1 21 [.inr (.inr 2), .inl (nI k)] I J (dz_Pu (.inl (I 7 k)) I J) := by
  refine dz_body (own := 0) dz_mX0_startOf rfl (Nat.le_of_ble_eq_true rfl) (fun V hV => ?_)
  refine dr_aload_n 0 hV dX0_startOf_0 rfl ?_
  refine dr_iload_n 1 hV dX0_startOf_1 rfl ?_
  refine dr_cvp1 2 hV dz_lX0_44 dX0_startOf_2 (by decide) (by decide) ⟨by decide, _, _, rfl, by decide, rfl⟩ (Nat.le_of_ble_eq_true rfl) (c_X0_has π _ _ _) ?_
  first | refine dr_ifb_eq (tgt := 17) 5 hV dX0_startOf_5 (by decide) (fun c5 => ?_) (fun c5 => ?_) | refine dr_if_eq (tgt := 17) 5 hV dX0_startOf_5 (by decide) (fun c5 => ?_) (fun c5 => ?_)
  · exact absurd (dz_inI hn hk (by omega)) c5
  · refine dr_aload_n 8 hV dX0_startOf_8 rfl ?_
    refine dr_geta 9 hV dX0_startOf_9 (by decide) (by decide) rfl rfl rfl ?_
    refine dr_iload_n 12 hV dX0_startOf_12 rfl ?_
    refine dr_iald 13 hV dX0_startOf_13 (by decide) rfl rfl (by omega) (by decide) rfl ?_
    refine dr_goto (tgt := 18) 14 hV dX0_startOf_14 (by decide) ?_
    exact dr_iret 18 hV dX0_startOf_18 rfl (by first | rfl | exact dz_bn) dz_pu
set_option maxRecDepth 100000 in
set_option maxHeartbeats 4000000 in
theorem c_X0_footOf (π : dz_Pl) {k n : Nat} (I : dz_MI) (J : dz_MJ) (hn : I 2 6 = nI n) (h4 : n ≤ 4) (hk : k < n) : dz_Cl π dz_Y 62 mX0_footOf 1 21 [.inr (.inr 2), .inl (nI k)] I J (dz_Pu (.inl (I 9 k)) I J) := by
  refine dz_body (own := 0) dz_mX0_footOf rfl (Nat.le_of_ble_eq_true rfl) (fun V hV => ?_)
  refine dr_aload_n 0 hV dX0_footOf_0 rfl ?_
  refine dr_iload_n 1 hV dX0_footOf_1 rfl ?_
  refine dr_cvp1 2 hV dz_lX0_44 dX0_footOf_2 (by decide) (by decide) ⟨by decide, _, _, rfl, by decide, rfl⟩ (Nat.le_of_ble_eq_true rfl) (c_X0_has π _ _ _) ?_
  first | refine dr_ifb_eq (tgt := 17) 5 hV dX0_footOf_5 (by decide) (fun c5 => ?_) (fun c5 => ?_) | refine dr_if_eq (tgt := 17) 5 hV dX0_footOf_5 (by decide) (fun c5 => ?_) (fun c5 => ?_)
  · exact absurd (dz_inI hn hk (by omega)) c5
  · refine dr_aload_n 8 hV dX0_footOf_8 rfl ?_
    refine dr_geta 9 hV dX0_footOf_9 (by decide) (by decide) rfl rfl rfl ?_
    refine dr_iload_n 12 hV dX0_footOf_12 rfl ?_
    refine dr_iald 13 hV dX0_footOf_13 (by decide) rfl rfl (by omega) (by decide) rfl ?_
    refine dr_goto (tgt := 18) 14 hV dX0_footOf_14 (by decide) ?_
    exact dr_iret 18 hV dX0_footOf_18 rfl (by first | rfl | exact dz_bn) dz_pu
set_option maxRecDepth 100000 in
set_option maxHeartbeats 4000000 in
theorem c_X0_headOf (π : dz_Pl) {k n : Nat} (I : dz_MI) (J : dz_MJ) (hn : I 2 6 = nI n) (h4 : n ≤ 4) (hk : k < n) : dz_Cl π dz_Y 62 mX0_headOf 1 21 [.inr (.inr 2), .inl (nI k)] I J (dz_Pu (.inl (I 10 k)) I J) := by
  refine dz_body (own := 0) dz_mX0_headOf rfl (Nat.le_of_ble_eq_true rfl) (fun V hV => ?_)
  refine dr_aload_n 0 hV dX0_headOf_0 rfl ?_
  refine dr_iload_n 1 hV dX0_headOf_1 rfl ?_
  refine dr_cvp1 2 hV dz_lX0_44 dX0_headOf_2 (by decide) (by decide) ⟨by decide, _, _, rfl, by decide, rfl⟩ (Nat.le_of_ble_eq_true rfl) (c_X0_has π _ _ _) ?_
  first | refine dr_ifb_eq (tgt := 17) 5 hV dX0_headOf_5 (by decide) (fun c5 => ?_) (fun c5 => ?_) | refine dr_if_eq (tgt := 17) 5 hV dX0_headOf_5 (by decide) (fun c5 => ?_) (fun c5 => ?_)
  · exact absurd (dz_inI hn hk (by omega)) c5
  · refine dr_aload_n 8 hV dX0_headOf_8 rfl ?_
    refine dr_geta 9 hV dX0_headOf_9 (by decide) (by decide) rfl rfl rfl ?_
    refine dr_iload_n 12 hV dX0_headOf_12 rfl ?_
    refine dr_iald 13 hV dX0_headOf_13 (by decide) rfl rfl (by omega) (by decide) rfl ?_
    refine dr_goto (tgt := 18) 14 hV dX0_headOf_14 (by decide) ?_
    exact dr_iret 18 hV dX0_headOf_18 rfl (by first | rfl | exact dz_bn) dz_pu
set_option maxRecDepth 100000 in
set_option maxHeartbeats 4000000 in
theorem c_X0_endOf (π : dz_Pl) {k n : Nat} (I : dz_MI) (J : dz_MJ) (hn : I 2 6 = nI n) (h4 : n ≤ 4) (hk : k < n) : dz_Cl π dz_Y 62 mX0_endOf 1 21 [.inr (.inr 2), .inl (nI k)] I J (dz_Pu (.inl (I 7 k + I 8 k)) I J) := by
  refine dz_body (own := 0) dz_mX0_endOf rfl (Nat.le_of_ble_eq_true rfl) (fun V hV => ?_)
  refine dr_aload_n 0 hV dX0_endOf_0 rfl ?_
  refine dr_iload_n 1 hV dX0_endOf_1 rfl ?_
  refine dr_cvp1 2 hV dz_lX0_44 dX0_endOf_2 (by decide) (by decide) ⟨by decide, _, _, rfl, by decide, rfl⟩ (Nat.le_of_ble_eq_true rfl) (c_X0_has π _ _ _) ?_
  first | refine dr_ifb_eq (tgt := 24) 5 hV dX0_endOf_5 (by decide) (fun c5 => ?_) (fun c5 => ?_) | refine dr_if_eq (tgt := 24) 5 hV dX0_endOf_5 (by decide) (fun c5 => ?_) (fun c5 => ?_)
  · exact absurd (dz_inI hn hk (by omega)) c5
  · refine dr_aload_n 8 hV dX0_endOf_8 rfl ?_
    refine dr_geta 9 hV dX0_endOf_9 (by decide) (by decide) rfl rfl rfl ?_
    refine dr_iload_n 12 hV dX0_endOf_12 rfl ?_
    refine dr_iald 13 hV dX0_endOf_13 (by decide) rfl rfl (by omega) (by decide) rfl ?_
    refine dr_aload_n 14 hV dX0_endOf_14 rfl ?_
    refine dr_geta 15 hV dX0_endOf_15 (by decide) (by decide) rfl rfl rfl ?_
    refine dr_iload_n 18 hV dX0_endOf_18 rfl ?_
    refine dr_iald 19 hV dX0_endOf_19 (by decide) rfl rfl (by omega) (by decide) rfl ?_
    refine dr_iadd 20 hV dX0_endOf_20 rfl ?_
    refine dr_goto (tgt := 25) 21 hV dX0_endOf_21 (by decide) ?_
    exact dr_iret 25 hV dX0_endOf_25 rfl (by first | rfl | exact dz_bn) dz_pu
set_option maxRecDepth 100000 in
set_option maxHeartbeats 4000000 in
theorem c_X1_fact (π : dz_Pl) {k n w : Nat} (I : dz_MI) (J : dz_MJ) (hn : I 1 3 = nI n) (h10 : n ≤ 10) (hk : k < n) (hw : w < 9) : dz_Cl π dz_Y 62 mX1_fact 1 21 [.inr (.inr 1), .inl (nI k), .inl (nI w)] I J (dz_Pu (.inl (I (24 + k) w)) I J) := by
  refine dz_body (own := 1) dz_mX1_fact rfl (Nat.le_of_ble_eq_true rfl) (fun V hV => ?_)
  refine dr_aload_n 0 hV dX1_fact_0 rfl ?_
  refine dr_iload_n 1 hV dX1_fact_1 rfl ?_
  refine dr_cvp1 2 hV dz_lX1_24 dX1_fact_2 (by decide) (by decide) ⟨by decide, _, _, rfl, by decide, rfl⟩ (Nat.le_of_ble_eq_true rfl) (c_X1_has π _ _ _) ?_
  first | refine dr_ifb_eq (tgt := 18) 5 hV dX1_fact_5 (by decide) (fun c5 => ?_) (fun c5 => ?_) | refine dr_if_eq (tgt := 18) 5 hV dX1_fact_5 (by decide) (fun c5 => ?_) (fun c5 => ?_)
  · exact absurd (dz_inI hn hk (by omega)) c5
  · refine dr_iload_n 8 hV dX1_fact_8 rfl ?_
    refine dr_if_lt (tgt := 18) 9 hV dX1_fact_9 (by decide) (fun c9 => ?_) (fun c9 => ?_)
    · exact absurd c9 (nI_pos (by omega))
    · refine dr_iload_n 12 hV dX1_fact_12 rfl ?_
      refine dr_bipush (v := nI 9) 13 hV dX1_fact_13 (by decide) ?_
      refine dn_icmp_lt (tgt := 20) 15 hV dX1_fact_15 (by decide) (by omega) (by omega) (fun c15 => ?_) (fun c15 => ?_)
      · refine dr_aload_n 20 hV dX1_fact_20 rfl ?_
        refine dr_geta 21 hV dX1_fact_21 (by decide) (by decide) rfl rfl rfl ?_
        refine dr_iload_n 24 hV dX1_fact_24 rfl ?_
        refine dr_aaldi 25 hV dX1_fact_25 (by decide) rfl rfl (by omega) (by decide) ?_
        refine dr_iload_n 26 hV dX1_fact_26 rfl ?_
        refine dr_iald 27 hV dX1_fact_27 (by omega) (dz_Y_f (by omega)) rfl (by omega) (by decide) rfl ?_
        exact dr_iret 28 hV dX1_fact_28 rfl (by first | rfl | exact dz_bn) dz_pu
      · omega
set_option maxRecDepth 100000 in
set_option maxHeartbeats 4000000 in
theorem c_X3_toldOf (π : dz_Pl) {k : Nat} (I : dz_MI) (J : dz_MJ) (hk : k < 8) : dz_Cl π dz_Y 62 mX3_toldOf 1 20 [.inr (.inr 3), .inl (nI k)] I J (dz_Pu (.inl (I 13 k)) I J) := by
  refine dz_body (own := 3) dz_mX3_toldOf rfl (Nat.le_of_ble_eq_true rfl) (fun V hV => ?_)
  refine dr_iload_n 0 hV dX3_toldOf_0 rfl ?_
  refine dr_csp1 1 hV (Or.inl dz_lX3_18) dX3_toldOf_1 (by decide) (by decide) (Nat.le_of_ble_eq_true rfl) (c_X3_isRow π _ _ _ _ _) ?_
  first | refine dr_ifb_eq (tgt := 16) 4 hV dX3_toldOf_4 (by decide) (fun c4 => ?_) (fun c4 => ?_) | refine dr_if_eq (tgt := 16) 4 hV dX3_toldOf_4 (by decide) (fun c4 => ?_) (fun c4 => ?_)
  · exact absurd (dz_inI rfl hk (by decide)) c4
  · refine dr_aload_n 7 hV dX3_toldOf_7 rfl ?_
    refine dr_geta 8 hV dX3_toldOf_8 (by decide) (by decide) rfl rfl rfl ?_
    refine dr_iload_n 11 hV dX3_toldOf_11 rfl ?_
    refine dr_iald 12 hV dX3_toldOf_12 (by decide) rfl rfl (by omega) (by decide) rfl ?_
    refine dr_goto (tgt := 17) 13 hV dX3_toldOf_13 (by decide) ?_
    exact dr_iret 17 hV dX3_toldOf_17 rfl (by first | rfl | exact dz_bn) dz_pu
set_option maxRecDepth 100000 in
set_option maxHeartbeats 4000000 in
theorem c_X3_isBarred (π : dz_Pl) {k x d : Nat} (I : dz_MI) (J : dz_MJ) (hk : k < 8) (hx : I 14 k = nI x) (hx2 : x < 2 ^ 31) (hd : d < 31) : dz_Cl π dz_Y 62 mX3_isBarred 1 21 [.inr (.inr 3), .inl (nI k), .inl (nI d)] I J (dz_Pu (.inl (dz_b (x.testBit d = true))) I J) := by
  refine dz_body (own := 3) dz_mX3_isBarred rfl (Nat.le_of_ble_eq_true rfl) (fun V hV => ?_)
  refine dr_iload_n 0 hV dX3_isBarred_0 rfl ?_
  refine dr_csp1 1 hV (Or.inl dz_lX3_18) dX3_isBarred_1 (by decide) (by decide) (Nat.le_of_ble_eq_true rfl) (c_X3_isRow π _ _ _ _ _) ?_
  first | refine dr_ifb_eq (tgt := 24) 4 hV dX3_isBarred_4 (by decide) (fun c4 => ?_) (fun c4 => ?_) | refine dr_if_eq (tgt := 24) 4 hV dX3_isBarred_4 (by decide) (fun c4 => ?_) (fun c4 => ?_)
  · exact absurd (dz_inI rfl hk (by decide)) c4
  · refine dr_aload_n 7 hV dX3_isBarred_7 rfl ?_
    refine dr_geta 8 hV dX3_isBarred_8 (by decide) (by decide) rfl rfl rfl ?_
    refine dr_iload_n 11 hV dX3_isBarred_11 rfl ?_
    refine dr_iald 12 hV dX3_isBarred_12 (by decide) rfl rfl (by omega) (by decide) hx ?_
    refine dr_iload_n 13 hV dX3_isBarred_13 rfl ?_
    refine dr_csp2 14 hV (Or.inr ⟨dz_mX4_hasBit, dz_w_hasBit, rfl, by decide⟩) dX3_isBarred_14 (by decide) (by decide) (Nat.le_of_ble_eq_true rfl) (c_hasBit π _ _ _ _ hx2 hd) ?_
    first | refine dr_ifb_eq (tgt := 24) 17 hV dX3_isBarred_17 (by decide) (fun c17 => ?_) (fun c17 => ?_) | refine dr_if_eq (tgt := 24) 17 hV dX3_isBarred_17 (by decide) (fun c17 => ?_) (fun c17 => ?_)
    · refine dr_iconst (v := nI 0) 24 hV dX3_isBarred_24 (by decide) ?_
      exact dr_iret 25 hV dX3_isBarred_25 rfl (by first | rfl | exact dz_bn) (by clear hV; first | exact dz_pu1 c17 | exact dz_pu0 c17)
    · refine dr_iconst (v := nI 1) 20 hV dX3_isBarred_20 (by decide) ?_
      refine dr_goto (tgt := 25) 21 hV dX3_isBarred_21 (by decide) ?_
      exact dr_iret 25 hV dX3_isBarred_25 rfl (by first | rfl | exact dz_bn) (by clear hV; first | exact dz_pu1 c17 | exact dz_pu0 c17)
set_option maxRecDepth 100000 in
set_option maxHeartbeats 4000000 in
theorem c_X2_firstAt (π : dz_Pl) {k n : Nat} (I : dz_MI) (J : dz_MJ) (hn : I 4 9 = nI n) (h8 : n ≤ 8) (hk : k < n) : dz_Cl π dz_Y 62 mX2_firstAt 1 21 [.inr (.inr 4), .inl (nI k)] I J (dz_Pu (.inl (I 19 k)) I J) := by
  refine dz_body (own := 2) dz_mX2_firstAt rfl (Nat.le_of_ble_eq_true rfl) (fun V hV => ?_)
  refine dr_aload_n 0 hV dX2_firstAt_0 rfl ?_
  refine dr_iload_n 1 hV dX2_firstAt_1 rfl ?_
  refine dr_cvp1 2 hV dz_lX2_52 dX2_firstAt_2 (by decide) (by decide) ⟨by decide, _, _, rfl, by decide, rfl⟩ (Nat.le_of_ble_eq_true rfl) (c_X2_isPlace π _ _ _) ?_
  first | refine dr_ifb_eq (tgt := 17) 5 hV dX2_firstAt_5 (by decide) (fun c5 => ?_) (fun c5 => ?_) | refine dr_if_eq (tgt := 17) 5 hV dX2_firstAt_5 (by decide) (fun c5 => ?_) (fun c5 => ?_)
  · exact absurd (dz_inI hn hk (by omega)) c5
  · refine dr_aload_n 8 hV dX2_firstAt_8 rfl ?_
    refine dr_geta 9 hV dX2_firstAt_9 (by decide) (by decide) rfl rfl rfl ?_
    refine dr_iload_n 12 hV dX2_firstAt_12 rfl ?_
    refine dr_iald 13 hV dX2_firstAt_13 (by decide) rfl rfl (by omega) (by decide) rfl ?_
    refine dr_goto (tgt := 18) 14 hV dX2_firstAt_14 (by decide) ?_
    exact dr_iret 18 hV dX2_firstAt_18 rfl (by first | rfl | exact dz_bn) dz_pu
set_option maxRecDepth 100000 in
set_option maxHeartbeats 4000000 in
theorem c_X2_bestHeldAt (π : dz_Pl) {k n : Nat} (I : dz_MI) (J : dz_MJ) (hn : I 4 9 = nI n) (h8 : n ≤ 8) (hk : k < n) : dz_Cl π dz_Y 62 mX2_bestHeldAt 1 21 [.inr (.inr 4), .inl (nI k)] I J (dz_Pu (.inl (I 18 k)) I J) := by
  refine dz_body (own := 2) dz_mX2_bestHeldAt rfl (Nat.le_of_ble_eq_true rfl) (fun V hV => ?_)
  refine dr_aload_n 0 hV dX2_bestHeldAt_0 rfl ?_
  refine dr_iload_n 1 hV dX2_bestHeldAt_1 rfl ?_
  refine dr_cvp1 2 hV dz_lX2_52 dX2_bestHeldAt_2 (by decide) (by decide) ⟨by decide, _, _, rfl, by decide, rfl⟩ (Nat.le_of_ble_eq_true rfl) (c_X2_isPlace π _ _ _) ?_
  first | refine dr_ifb_eq (tgt := 17) 5 hV dX2_bestHeldAt_5 (by decide) (fun c5 => ?_) (fun c5 => ?_) | refine dr_if_eq (tgt := 17) 5 hV dX2_bestHeldAt_5 (by decide) (fun c5 => ?_) (fun c5 => ?_)
  · exact absurd (dz_inI hn hk (by omega)) c5
  · refine dr_aload_n 8 hV dX2_bestHeldAt_8 rfl ?_
    refine dr_geta 9 hV dX2_bestHeldAt_9 (by decide) (by decide) rfl rfl rfl ?_
    refine dr_iload_n 12 hV dX2_bestHeldAt_12 rfl ?_
    refine dr_iald 13 hV dX2_bestHeldAt_13 (by decide) rfl rfl (by omega) (by decide) rfl ?_
    refine dr_goto (tgt := 18) 14 hV dX2_bestHeldAt_14 (by decide) ?_
    exact dr_iret 18 hV dX2_bestHeldAt_18 rfl (by first | rfl | exact dz_bn) dz_pu
set_option maxRecDepth 100000 in
set_option maxHeartbeats 4000000 in
theorem c_X5_isFull (π : dz_Pl) {k : Nat} (I : dz_MI) (J : dz_MJ) (hk : k < 4) : dz_Cl π dz_M 24 mX5_isFull 0 0 [.inr (.inr 0), .inl (nI k)] I J (dz_Pu (.inl (dz_b (I 23 k = I 14 k))) I J) := by
  refine dz_body (own := 5) dz_mX5_isFull rfl (Nat.le_of_ble_eq_true rfl) (fun V hV => ?_)
  refine dr_aload_n 0 hV dX5_isFull_0 rfl ?_
  refine dr_geta 1 hV dX5_isFull_1 (by decide) (by decide) rfl rfl rfl ?_
  refine dr_iload_n 4 hV dX5_isFull_4 rfl ?_
  refine dr_iald 5 hV dX5_isFull_5 (by decide) rfl rfl (by omega) (by decide) rfl ?_
  refine dr_aload_n 6 hV dX5_isFull_6 rfl ?_
  refine dr_geta 7 hV dX5_isFull_7 (by decide) (by decide) rfl rfl rfl ?_
  refine dr_iload_n 10 hV dX5_isFull_10 rfl ?_
  refine dr_iald 11 hV dX5_isFull_11 (by decide) rfl rfl (by omega) (by decide) rfl ?_
  refine dr_icmp_ne (tgt := 19) 12 hV dX5_isFull_12 (by decide) (fun c12 => ?_) (fun c12 => ?_)
  · refine dr_iconst (v := nI 0) 19 hV dX5_isFull_19 (by decide) ?_
    exact dr_iret 20 hV dX5_isFull_20 rfl (by first | rfl | exact dz_bn) (by clear hV; first | exact dz_pu1 (by simp only [fa_lt, fa_le, fa_eq] at *; omega) | exact dz_pu0 (by simp only [fa_lt, fa_le, fa_eq] at *; omega))
  · refine dr_iconst (v := nI 1) 15 hV dX5_isFull_15 (by decide) ?_
    refine dr_goto (tgt := 20) 16 hV dX5_isFull_16 (by decide) ?_
    exact dr_iret 20 hV dX5_isFull_20 rfl (by first | rfl | exact dz_bn) (by clear hV; first | exact dz_pu1 (by simp only [fa_lt, fa_le, fa_eq] at *; omega) | exact dz_pu0 (by simp only [fa_lt, fa_le, fa_eq] at *; omega))
set_option maxRecDepth 100000 in
set_option maxHeartbeats 4000000 in
theorem c_X0_isFull (π : dz_Pl) {k : Nat} (I : dz_MI) (J : dz_MJ) (hk : k < 4) : dz_Cl π dz_Y 62 mX0_isFull 0 0 [.inr (.inr 2), .inl (nI k)] I J (dz_Pu (.inl (dz_b (I 8 k ≤ I 12 k))) I J) := by
  refine dz_body (own := 0) dz_mX0_isFull rfl (Nat.le_of_ble_eq_true rfl) (fun V hV => ?_)
  refine dr_aload_n 0 hV dX0_isFull_0 rfl ?_
  refine dr_geta 1 hV dX0_isFull_1 (by decide) (by decide) rfl rfl rfl ?_
  refine dr_iload_n 4 hV dX0_isFull_4 rfl ?_
  refine dr_iald 5 hV dX0_isFull_5 (by decide) rfl rfl (by omega) (by decide) rfl ?_
  refine dr_aload_n 6 hV dX0_isFull_6 rfl ?_
  refine dr_geta 7 hV dX0_isFull_7 (by decide) (by decide) rfl rfl rfl ?_
  refine dr_iload_n 10 hV dX0_isFull_10 rfl ?_
  refine dr_iald 11 hV dX0_isFull_11 (by decide) rfl rfl (by omega) (by decide) rfl ?_
  refine dr_icmp_lt (tgt := 19) 12 hV dX0_isFull_12 (by decide) (fun c12 => ?_) (fun c12 => ?_)
  · refine dr_iconst (v := nI 0) 19 hV dX0_isFull_19 (by decide) ?_
    exact dr_iret 20 hV dX0_isFull_20 rfl (by first | rfl | exact dz_bn) (by clear hV; first | exact dz_pu1 (by simp only [fa_lt, fa_le, fa_eq] at *; omega) | exact dz_pu0 (by simp only [fa_lt, fa_le, fa_eq] at *; omega))
  · refine dr_iconst (v := nI 1) 15 hV dX0_isFull_15 (by decide) ?_
    refine dr_goto (tgt := 20) 16 hV dX0_isFull_16 (by decide) ?_
    exact dr_iret 20 hV dX0_isFull_20 rfl (by first | rfl | exact dz_bn) (by clear hV; first | exact dz_pu1 (by simp only [fa_lt, fa_le, fa_eq] at *; omega) | exact dz_pu0 (by simp only [fa_lt, fa_le, fa_eq] at *; omega))
