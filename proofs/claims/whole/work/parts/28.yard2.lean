/-! the yard: turn, fits, place, count -/
theorem dz_tO_cong {f g : Nat → Nat → Int32} {tol : Int32} {k q : Nat} (hk : ∀ w, w < 9 → f k w = g k w) (hq : ∀ w, w < 9 → f q w = g q w) : dz_tO f tol k q = dz_tO g tol k q := by
  unfold dz_tO
  rw [hk 0 (by decide), hk 2 (by decide), hk 4 (by decide), hk 5 (by decide), hq 1 (by decide), hq 2 (by decide), hq 4 (by decide), hq 6 (by decide)]
theorem dz_tP_cong {f g : Nat → Nat → Int32} {tol : Int32} {k q : Nat} (hk : ∀ w, w < 9 → f k w = g k w) (hq : ∀ w, w < 9 → f q w = g q w) : dz_tP f tol k q = dz_tP g tol k q := by
  unfold dz_tP
  rw [dz_tO_cong hk hq]
theorem c_turnAll (π : dz_Pl) {s : dz_Sg} (u l : Int32) (I : dz_MI) (J : dz_MJ) (hO : dz_OK s) (hR : dz_RY s I) : dz_Cl π dz_Y 62 mX1_turnOn 2 44 [.inr (.inr 1), .inl u, .inl l, .inl (sg_tol s)] I J (dz_Pu (.inl (q_turn s u l)) I J) := by
  have hO2 := hO
  have hR2 := hR
  obtain ⟨o1, o2, o3, o4, o5, o6, o7, o8, o9⟩ := hO
  obtain ⟨y1, y2, y3, y4, y5, y6, y7, y8, y9, y10, y11, y12, y13⟩ := hR
  by_cases h : (0 ≤ u ∧ u < nI (sg_n s)) ∧ (0 ≤ l ∧ l < nI (sg_n s)) ∧ ¬ u = l
  · obtain ⟨k, hk, rfl⟩ := dz_ofI rfl (by omega) h.1
    obtain ⟨q, hq, rfl⟩ := dz_ofI rfl (by omega) h.2.1
    have e : q_turn s (nI k) (nI q) = dz_tO (fun d w => I (24 + d) w) (sg_tol s) k q := by
      unfold q_turn
      rw [dz_B1 h, nI_clamp (by omega), nI_clamp (by omega)]
      exact dz_tO_cong (fun w hw => (y9 k w hk hw).symm) (fun w hw => (y9 q w hq hw).symm)
    rw [e]
    exact c_X1_turnOn π (sg_tol s) I J y1 o1 hk hq (fun z => h.2.2 (by rw [z]))
  · have e : q_turn s u l = -1 := by unfold q_turn; rw [dz_B0 h]
    rw [e]
    exact c_X1_turnOn_no π u l (sg_tol s) I J y1 o1 (by rw [y1]; exact h)
set_option maxRecDepth 100000 in
set_option maxHeartbeats 4000000 in
theorem c_X4_turn (π : dz_Pl) {s : dz_Sg} (u l : Int32) (I : dz_MI) (J : dz_MJ) (hO : dz_OK s) (hR : dz_RY s I) : dz_Cl π dz_Y 62 mX4_turn 3 70 [.inr (.inr 0), .inl u, .inl l] I J (dz_Pu (.inl (q_turn s u l)) I J) := by
  refine dz_body (own := 4) dz_mX4_turn rfl (Nat.le_of_ble_eq_true rfl) (fun V hV => ?_)
  have hO2 := hO
  have hR2 := hR
  obtain ⟨o1, o2, o3, o4, o5, o6, o7, o8, o9⟩ := hO
  obtain ⟨y1, y2, y3, y4, y5, y6, y7, y8, y9, y10, y11, y12, y13⟩ := hR
  refine dr_aload_n 0 hV dX4_turn_0 rfl ?_
  refine dr_geta 1 hV dX4_turn_1 (by decide) (by decide) rfl rfl rfl ?_
  refine dr_iload_n 4 hV dX4_turn_4 rfl ?_
  refine dr_iload_n 5 hV dX4_turn_5 rfl ?_
  refine dr_aload_n 6 hV dX4_turn_6 rfl ?_
  refine dr_geti 7 hV dX4_turn_7 (by decide) (by decide) rfl rfl rfl y4 ?_
  refine dr_cvp3 10 hV dz_lX4_83 dX4_turn_10 (by decide) (by decide) ⟨by decide, _, _, rfl, by decide, rfl⟩ (Nat.le_of_ble_eq_true rfl) (c_turnAll π _ _ _ _ hO2 hR2) ?_
  exact dr_iret 13 hV dX4_turn_13 rfl (by first | rfl | exact dz_bn) dz_pu
