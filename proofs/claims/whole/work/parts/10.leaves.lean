set_option maxRecDepth 100000 in
set_option maxHeartbeats 4000000 in
theorem c_X4_isWithin (π : dz_Pl) (Λ : Nat → dz_Ds) (N : Nat) (v a b : Int32) (I : dz_MI) (J : dz_MJ) : dz_Cl π Λ N mX4_isWithin 0 0 [.inl v, .inl a, .inl b] I J (dz_Pu (.inl (dz_b (a ≤ v ∧ v ≤ b))) I J) := by
  refine dz_body (own := 4) dz_mX4_isWithin rfl (Nat.le_of_ble_eq_true rfl) (fun V hV => ?_)
  refine dr_iload_n 0 hV dX4_isWithin_0 rfl ?_
  refine dr_iload_n 1 hV dX4_isWithin_1 rfl ?_
  refine dr_icmp_lt (tgt := 14) 2 hV dX4_isWithin_2 (by decide) (fun c2 => ?_) (fun c2 => ?_)
  · refine dr_iconst (v := nI 0) 14 hV dX4_isWithin_14 (by decide) ?_
    exact dr_iret 15 hV dX4_isWithin_15 rfl (by first | rfl | exact dz_bn) (by clear hV; first | exact dz_pu1 (by simp only [fa_lt, fa_le, fa_eq] at *; omega) | exact dz_pu0 (by simp only [fa_lt, fa_le, fa_eq] at *; omega))
  · refine dr_iload_n 5 hV dX4_isWithin_5 rfl ?_
    refine dr_iload_n 6 hV dX4_isWithin_6 rfl ?_
    refine dr_icmp_gt (tgt := 14) 7 hV dX4_isWithin_7 (by decide) (fun c7 => ?_) (fun c7 => ?_)
    · refine dr_iconst (v := nI 0) 14 hV dX4_isWithin_14 (by decide) ?_
      exact dr_iret 15 hV dX4_isWithin_15 rfl (by first | rfl | exact dz_bn) (by clear hV; first | exact dz_pu1 (by simp only [fa_lt, fa_le, fa_eq] at *; omega) | exact dz_pu0 (by simp only [fa_lt, fa_le, fa_eq] at *; omega))
    · refine dr_iconst (v := nI 1) 10 hV dX4_isWithin_10 (by decide) ?_
      refine dr_goto (tgt := 15) 11 hV dX4_isWithin_11 (by decide) ?_
      exact dr_iret 15 hV dX4_isWithin_15 rfl (by first | rfl | exact dz_bn) (by clear hV; first | exact dz_pu1 (by simp only [fa_lt, fa_le, fa_eq] at *; omega) | exact dz_pu0 (by simp only [fa_lt, fa_le, fa_eq] at *; omega))
set_option maxRecDepth 100000 in
set_option maxHeartbeats 4000000 in
theorem c_X5_isIn (π : dz_Pl) (Λ : Nat → dz_Ds) (N : Nat) (v a b : Int32) (I : dz_MI) (J : dz_MJ) : dz_Cl π Λ N mX5_isIn 0 0 [.inl v, .inl a, .inl b] I J (dz_Pu (.inl (dz_b (a ≤ v ∧ v ≤ b))) I J) := by
  refine dz_body (own := 5) dz_mX5_isIn rfl (Nat.le_of_ble_eq_true rfl) (fun V hV => ?_)
  refine dr_iload_n 0 hV dX5_isIn_0 rfl ?_
  refine dr_iload_n 1 hV dX5_isIn_1 rfl ?_
  refine dr_icmp_lt (tgt := 14) 2 hV dX5_isIn_2 (by decide) (fun c2 => ?_) (fun c2 => ?_)
  · refine dr_iconst (v := nI 0) 14 hV dX5_isIn_14 (by decide) ?_
    exact dr_iret 15 hV dX5_isIn_15 rfl (by first | rfl | exact dz_bn) (by clear hV; first | exact dz_pu1 (by simp only [fa_lt, fa_le, fa_eq] at *; omega) | exact dz_pu0 (by simp only [fa_lt, fa_le, fa_eq] at *; omega))
  · refine dr_iload_n 5 hV dX5_isIn_5 rfl ?_
    refine dr_iload_n 6 hV dX5_isIn_6 rfl ?_
    refine dr_icmp_gt (tgt := 14) 7 hV dX5_isIn_7 (by decide) (fun c7 => ?_) (fun c7 => ?_)
    · refine dr_iconst (v := nI 0) 14 hV dX5_isIn_14 (by decide) ?_
      exact dr_iret 15 hV dX5_isIn_15 rfl (by first | rfl | exact dz_bn) (by clear hV; first | exact dz_pu1 (by simp only [fa_lt, fa_le, fa_eq] at *; omega) | exact dz_pu0 (by simp only [fa_lt, fa_le, fa_eq] at *; omega))
    · refine dr_iconst (v := nI 1) 10 hV dX5_isIn_10 (by decide) ?_
      refine dr_goto (tgt := 15) 11 hV dX5_isIn_11 (by decide) ?_
      exact dr_iret 15 hV dX5_isIn_15 rfl (by first | rfl | exact dz_bn) (by clear hV; first | exact dz_pu1 (by simp only [fa_lt, fa_le, fa_eq] at *; omega) | exact dz_pu0 (by simp only [fa_lt, fa_le, fa_eq] at *; omega))
set_option maxRecDepth 100000 in
set_option maxHeartbeats 4000000 in
theorem c_X4_isWidth (π : dz_Pl) (Λ : Nat → dz_Ds) (N : Nat) (v : Int32) (I : dz_MI) (J : dz_MJ) : dz_Cl π Λ N mX4_isWidth 1 22 [.inl v] I J (dz_Pu (.inl (dz_b (nI 100 ≤ v ∧ v ≤ nI 3000))) I J) := by
  refine dz_body (own := 4) dz_mX4_isWidth rfl (Nat.le_of_ble_eq_true rfl) (fun V hV => ?_)
  refine dr_iload_n 0 hV dX4_isWidth_0 rfl ?_
  refine dr_bipush (v := nI 100) 1 hV dX4_isWidth_1 (by decide) ?_
  refine dr_sipush (v := nI 3000) 3 hV dX4_isWidth_3 (by decide) ?_
  refine dr_csp3 6 hV (Or.inl dz_lX4_55) dX4_isWidth_6 (by decide) (by decide) (Nat.le_of_ble_eq_true rfl) (c_X4_isWithin π _ _ _ _ _ _ _) ?_
  exact dr_iret 9 hV dX4_isWidth_9 rfl (by first | rfl | exact dz_bn) dz_pu
set_option maxRecDepth 100000 in
set_option maxHeartbeats 4000000 in
theorem c_X5_isWidth (π : dz_Pl) (Λ : Nat → dz_Ds) (N : Nat) (v : Int32) (I : dz_MI) (J : dz_MJ) : dz_Cl π Λ N mX5_isWidth 1 22 [.inl v] I J (dz_Pu (.inl (dz_b (nI 100 ≤ v ∧ v ≤ nI 3000))) I J) := by
  refine dz_body (own := 5) dz_mX5_isWidth rfl (Nat.le_of_ble_eq_true rfl) (fun V hV => ?_)
  refine dr_iload_n 0 hV dX5_isWidth_0 rfl ?_
  refine dr_bipush (v := nI 100) 1 hV dX5_isWidth_1 (by decide) ?_
  refine dr_sipush (v := nI 3000) 3 hV dX5_isWidth_3 (by decide) ?_
  refine dr_csp3 6 hV (Or.inl dz_lX5_95) dX5_isWidth_6 (by decide) (by decide) (Nat.le_of_ble_eq_true rfl) (c_X5_isIn π _ _ _ _ _ _ _) ?_
  exact dr_iret 9 hV dX5_isWidth_9 rfl (by first | rfl | exact dz_bn) dz_pu
set_option maxRecDepth 100000 in
set_option maxHeartbeats 4000000 in
theorem c_X0_has (π : dz_Pl) (v : Int32) (I : dz_MI) (J : dz_MJ) : dz_Cl π dz_Y 62 mX0_has 0 0 [.inr (.inr 2), .inl v] I J (dz_Pu (.inl (dz_b (0 ≤ v ∧ v < I 2 6))) I J) := by
  refine dz_body (own := 0) dz_mX0_has rfl (Nat.le_of_ble_eq_true rfl) (fun V hV => ?_)
  refine dr_iload_n 0 hV dX0_has_0 rfl ?_
  refine dr_if_lt (tgt := 16) 1 hV dX0_has_1 (by decide) (fun c1 => ?_) (fun c1 => ?_)
  · refine dr_iconst (v := nI 0) 16 hV dX0_has_16 (by decide) ?_
    exact dr_iret 17 hV dX0_has_17 rfl (by first | rfl | exact dz_bn) (by clear hV; first | exact dz_pu1 (by simp only [fa_lt, fa_le, fa_eq] at *; omega) | exact dz_pu0 (by simp only [fa_lt, fa_le, fa_eq] at *; omega))
  · refine dr_iload_n 4 hV dX0_has_4 rfl ?_
    refine dr_aload_n 5 hV dX0_has_5 rfl ?_
    refine dr_geti 6 hV dX0_has_6 (by decide) (by decide) rfl rfl rfl rfl ?_
    refine dr_icmp_ge (tgt := 16) 9 hV dX0_has_9 (by decide) (fun c9 => ?_) (fun c9 => ?_)
    · refine dr_iconst (v := nI 0) 16 hV dX0_has_16 (by decide) ?_
      exact dr_iret 17 hV dX0_has_17 rfl (by first | rfl | exact dz_bn) (by clear hV; first | exact dz_pu1 (by simp only [fa_lt, fa_le, fa_eq] at *; omega) | exact dz_pu0 (by simp only [fa_lt, fa_le, fa_eq] at *; omega))
    · refine dr_iconst (v := nI 1) 12 hV dX0_has_12 (by decide) ?_
      refine dr_goto (tgt := 17) 13 hV dX0_has_13 (by decide) ?_
      exact dr_iret 17 hV dX0_has_17 rfl (by first | rfl | exact dz_bn) (by clear hV; first | exact dz_pu1 (by simp only [fa_lt, fa_le, fa_eq] at *; omega) | exact dz_pu0 (by simp only [fa_lt, fa_le, fa_eq] at *; omega))
set_option maxRecDepth 100000 in
set_option maxHeartbeats 4000000 in
theorem c_X0_hasPlace (π : dz_Pl) (v : Int32) (I : dz_MI) (J : dz_MJ) : dz_Cl π dz_Y 62 mX0_hasPlace 0 0 [.inr (.inr 2), .inl v] I J (dz_Pu (.inl (dz_b (0 ≤ v ∧ v < I 2 7))) I J) := by
  refine dz_body (own := 0) dz_mX0_hasPlace rfl (Nat.le_of_ble_eq_true rfl) (fun V hV => ?_)
  refine dr_iload_n 0 hV dX0_hasPlace_0 rfl ?_
  refine dr_if_lt (tgt := 16) 1 hV dX0_hasPlace_1 (by decide) (fun c1 => ?_) (fun c1 => ?_)
  · refine dr_iconst (v := nI 0) 16 hV dX0_hasPlace_16 (by decide) ?_
    exact dr_iret 17 hV dX0_hasPlace_17 rfl (by first | rfl | exact dz_bn) (by clear hV; first | exact dz_pu1 (by simp only [fa_lt, fa_le, fa_eq] at *; omega) | exact dz_pu0 (by simp only [fa_lt, fa_le, fa_eq] at *; omega))
  · refine dr_iload_n 4 hV dX0_hasPlace_4 rfl ?_
    refine dr_aload_n 5 hV dX0_hasPlace_5 rfl ?_
    refine dr_geti 6 hV dX0_hasPlace_6 (by decide) (by decide) rfl rfl rfl rfl ?_
    refine dr_icmp_ge (tgt := 16) 9 hV dX0_hasPlace_9 (by decide) (fun c9 => ?_) (fun c9 => ?_)
    · refine dr_iconst (v := nI 0) 16 hV dX0_hasPlace_16 (by decide) ?_
      exact dr_iret 17 hV dX0_hasPlace_17 rfl (by first | rfl | exact dz_bn) (by clear hV; first | exact dz_pu1 (by simp only [fa_lt, fa_le, fa_eq] at *; omega) | exact dz_pu0 (by simp only [fa_lt, fa_le, fa_eq] at *; omega))
    · refine dr_iconst (v := nI 1) 12 hV dX0_hasPlace_12 (by decide) ?_
      refine dr_goto (tgt := 17) 13 hV dX0_hasPlace_13 (by decide) ?_
      exact dr_iret 17 hV dX0_hasPlace_17 rfl (by first | rfl | exact dz_bn) (by clear hV; first | exact dz_pu1 (by simp only [fa_lt, fa_le, fa_eq] at *; omega) | exact dz_pu0 (by simp only [fa_lt, fa_le, fa_eq] at *; omega))
set_option maxRecDepth 100000 in
set_option maxHeartbeats 4000000 in
theorem c_X1_has (π : dz_Pl) (v : Int32) (I : dz_MI) (J : dz_MJ) : dz_Cl π dz_Y 62 mX1_has 0 0 [.inr (.inr 1), .inl v] I J (dz_Pu (.inl (dz_b (0 ≤ v ∧ v < I 1 3))) I J) := by
  refine dz_body (own := 1) dz_mX1_has rfl (Nat.le_of_ble_eq_true rfl) (fun V hV => ?_)
  refine dr_iload_n 0 hV dX1_has_0 rfl ?_
  refine dr_if_lt (tgt := 16) 1 hV dX1_has_1 (by decide) (fun c1 => ?_) (fun c1 => ?_)
  · refine dr_iconst (v := nI 0) 16 hV dX1_has_16 (by decide) ?_
    exact dr_iret 17 hV dX1_has_17 rfl (by first | rfl | exact dz_bn) (by clear hV; first | exact dz_pu1 (by simp only [fa_lt, fa_le, fa_eq] at *; omega) | exact dz_pu0 (by simp only [fa_lt, fa_le, fa_eq] at *; omega))
  · refine dr_iload_n 4 hV dX1_has_4 rfl ?_
    refine dr_aload_n 5 hV dX1_has_5 rfl ?_
    refine dr_geti 6 hV dX1_has_6 (by decide) (by decide) rfl rfl rfl rfl ?_
    refine dr_icmp_ge (tgt := 16) 9 hV dX1_has_9 (by decide) (fun c9 => ?_) (fun c9 => ?_)
    · refine dr_iconst (v := nI 0) 16 hV dX1_has_16 (by decide) ?_
      exact dr_iret 17 hV dX1_has_17 rfl (by first | rfl | exact dz_bn) (by clear hV; first | exact dz_pu1 (by simp only [fa_lt, fa_le, fa_eq] at *; omega) | exact dz_pu0 (by simp only [fa_lt, fa_le, fa_eq] at *; omega))
    · refine dr_iconst (v := nI 1) 12 hV dX1_has_12 (by decide) ?_
      refine dr_goto (tgt := 17) 13 hV dX1_has_13 (by decide) ?_
      exact dr_iret 17 hV dX1_has_17 rfl (by first | rfl | exact dz_bn) (by clear hV; first | exact dz_pu1 (by simp only [fa_lt, fa_le, fa_eq] at *; omega) | exact dz_pu0 (by simp only [fa_lt, fa_le, fa_eq] at *; omega))
set_option maxRecDepth 100000 in
set_option maxHeartbeats 4000000 in
theorem c_X0_number (π : dz_Pl) (I : dz_MI) (J : dz_MJ) : dz_Cl π dz_Y 62 mX0_number 0 0 [.inr (.inr 2)] I J (dz_Pu (.inl (I 2 6)) I J) := by
  refine dz_body (own := 0) dz_mX0_number rfl (Nat.le_of_ble_eq_true rfl) (fun V hV => ?_)
  refine dr_aload_n 0 hV dX0_number_0 rfl ?_
  refine dr_geti 1 hV dX0_number_1 (by decide) (by decide) rfl rfl rfl rfl ?_
  exact dr_iret 4 hV dX0_number_4 rfl (by first | rfl | exact dz_bn) dz_pu
set_option maxRecDepth 100000 in
set_option maxHeartbeats 4000000 in
theorem c_X0_placeNumber (π : dz_Pl) (I : dz_MI) (J : dz_MJ) : dz_Cl π dz_Y 62 mX0_placeNumber 0 0 [.inr (.inr 2)] I J (dz_Pu (.inl (I 2 7)) I J) := by
  refine dz_body (own := 0) dz_mX0_placeNumber rfl (Nat.le_of_ble_eq_true rfl) (fun V hV => ?_)
  refine dr_aload_n 0 hV dX0_placeNumber_0 rfl ?_
  refine dr_geti 1 hV dX0_placeNumber_1 (by decide) (by decide) rfl rfl rfl rfl ?_
  exact dr_iret 4 hV dX0_placeNumber_4 rfl (by first | rfl | exact dz_bn) dz_pu
set_option maxRecDepth 100000 in
set_option maxHeartbeats 4000000 in
theorem c_X1_number (π : dz_Pl) (I : dz_MI) (J : dz_MJ) : dz_Cl π dz_Y 62 mX1_number 0 0 [.inr (.inr 1)] I J (dz_Pu (.inl (I 1 3)) I J) := by
  refine dz_body (own := 1) dz_mX1_number rfl (Nat.le_of_ble_eq_true rfl) (fun V hV => ?_)
  refine dr_aload_n 0 hV dX1_number_0 rfl ?_
  refine dr_geti 1 hV dX1_number_1 (by decide) (by decide) rfl rfl rfl rfl ?_
  exact dr_iret 4 hV dX1_number_4 rfl (by first | rfl | exact dz_bn) dz_pu
