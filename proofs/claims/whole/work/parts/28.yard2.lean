/-! the yard: turn, fits, place, count -/
theorem dz_tO_cong {f g : Nat → Nat → Int32} {tol : Int32} {k q : Nat} (hk : ∀ w, w < 9 → f k w = g k w) (hq : ∀ w, w < 9 → f q w = g q w) : dz_tO f tol k q = dz_tO g tol k q := by
  unfold dz_tO
  rw [hk 0 (by decide), hk 2 (by decide), hk 4 (by decide), hk 5 (by decide), hq 1 (by decide), hq 2 (by decide), hq 4 (by decide), hq 6 (by decide)]
theorem dz_tP_cong {f g : Nat → Nat → Int32} {tol : Int32} {k q : Nat} (hk : ∀ w, w < 9 → f k w = g k w) (hq : ∀ w, w < 9 → f q w = g q w) : dz_tP f tol k q = dz_tP g tol k q := by
  unfold dz_tP
  rw [dz_tO_cong hk hq]
theorem c_turnAll (π : dz_Pl) {s : dz_Sg} (u l : Int32) (I : dz_MI) (J : dz_MJ) (hO : dz_OK s) (hR : dz_RY s I) : dz_Cl π dz_Y 62 mX1_turnOn 2 44 [.inr (.inr 1), .inl u, .inl l, .inl (sg_tol s)] I J (dz_Pu (.inl (q_turn s u l)) I J) := by
  have hO2 := hO
  have hR2 := hR
  obtain ⟨o1, o2, o3, o4, o5, o6, o7, o8, o9⟩ := hO
  obtain ⟨y1, y2, y3, y4, y5, y6, y7, y8, y9, y10, y11, y12, y13⟩ := hR
  by_cases h : (0 ≤ u ∧ u < nI (sg_n s)) ∧ (0 ≤ l ∧ l < nI (sg_n s)) ∧ ¬ u = l
  · obtain ⟨k, hk, rfl⟩ := dz_ofI rfl (by omega) h.1
    obtain ⟨q, hq, rfl⟩ := dz_ofI rfl (by omega) h.2.1
    have e : q_turn s (nI k) (nI q) = dz_tO (fun d w => I (24 + d) w) (sg_tol s) k q := by
      unfold q_turn
      rw [dz_B1 h, nI_clamp (by omega), nI_clamp (by omega)]
      exact dz_tO_cong (fun w hw => (y9 k w hk hw).symm) (fun w hw => (y9 q w hq hw).symm)
    rw [e]
    exact c_X1_turnOn π (sg_tol s) I J y1 o1 hk hq (fun z => h.2.2 (by rw [z]))
  · have e : q_turn s u l = -1 := by unfold q_turn; rw [dz_B0 h]
    rw [e]
    exact c_X1_turnOn_no π u l (sg_tol s) I J y1 o1 (by rw [y1]; exact h)
set_option maxRecDepth 100000 in
set_option maxHeartbeats 4000000 in
theorem c_X4_turn (π : dz_Pl) {s : dz_Sg} (u l : Int32) (I : dz_MI) (J : dz_MJ) (hO : dz_OK s) (hR : dz_RY s I) : dz_Cl π dz_Y 62 mX4_turn 3 70 [.inr (.inr 0), .inl u, .inl l] I J (dz_Pu (.inl (q_turn s u l)) I J) := by
  refine dz_body (own := 4) dz_mX4_turn rfl (Nat.le_of_ble_eq_true rfl) (fun V hV => ?_)
  have hO2 := hO
  have hR2 := hR
  obtain ⟨o1, o2, o3, o4, o5, o6, o7, o8, o9⟩ := hO
  obtain ⟨y1, y2, y3, y4, y5, y6, y7, y8, y9, y10, y11, y12, y13⟩ := hR
  refine dr_aload_n 0 hV dX4_turn_0 rfl ?_
  refine dr_geta 1 hV dX4_turn_1 (by decide) (by decide) rfl rfl rfl ?_
  refine dr_iload_n 4 hV dX4_turn_4 rfl ?_
  refine dr_iload_n 5 hV dX4_turn_5 rfl ?_
  refine dr_aload_n 6 hV dX4_turn_6 rfl ?_
  refine dr_geti 7 hV dX4_turn_7 (by decide) (by decide) rfl rfl rfl y4 ?_
  refine dr_cvp3 10 hV dz_lX4_83 dX4_turn_10 (by decide) (by decide) ⟨by decide, _, _, rfl, by decide, rfl⟩ (Nat.le_of_ble_eq_true rfl) (c_turnAll π _ _ _ _ hO2 hR2) ?_
  exact dr_iret 13 hV dX4_turn_13 rfl (by first | rfl | exact dz_bn) dz_pu
set_option maxRecDepth 100000 in
set_option maxHeartbeats 4000000 in
theorem c_X4_fits (π : dz_Pl) {s : dz_Sg} (d c : Int32) (I : dz_MI) (J : dz_MJ) (hO : dz_OK s) (hR : dz_RY s I) : dz_Cl π dz_Y 62 mX4_fits 4 88 [.inr (.inr 0), .inl d, .inl c] I J (dz_Pu (.inl (q_fits s d c)) I J) := by
  refine dz_body (own := 4) dz_mX4_fits rfl (Nat.le_of_ble_eq_true rfl) (fun V hV => ?_)
  have hO2 := hO
  have hR2 := hR
  obtain ⟨o1, o2, o3, o4, o5, o6, o7, o8, o9⟩ := hO
  obtain ⟨y1, y2, y3, y4, y5, y6, y7, y8, y9, y10, y11, y12, y13⟩ := hR
  refine dr_aload_n 0 hV dX4_fits_0 rfl ?_
  refine dr_geta 1 hV dX4_fits_1 (by decide) (by decide) rfl rfl rfl ?_
  refine dr_iload_n 4 hV dX4_fits_4 rfl ?_
  refine dr_cvp1 5 hV dz_lX4_86 dX4_fits_5 (by decide) (by decide) ⟨by decide, _, _, rfl, by decide, rfl⟩ (Nat.le_of_ble_eq_true rfl) (c_X1_has π _ _ _) ?_
  first | refine dr_ifb_eq (tgt := 22) 8 hV dX4_fits_8 (by decide) (fun c8 => ?_) (fun c8 => ?_) | refine dr_if_eq (tgt := 22) 8 hV dX4_fits_8 (by decide) (fun c8 => ?_) (fun c8 => ?_)
  · refine dr_iconst (v := (-1)) 22 hV dX4_fits_22 (by decide) ?_
    exact dr_iret 23 hV dX4_fits_23 rfl (by first | rfl | exact dz_bn) (dz_pue (by clear hV; unfold q_fits; rw [dz_B0 (by rw [y1, y2] at *; grind)]))
  · refine dr_aload_n 11 hV dX4_fits_11 rfl ?_
    refine dr_geta 12 hV dX4_fits_12 (by decide) (by decide) rfl rfl rfl ?_
    refine dr_iload_n 15 hV dX4_fits_15 rfl ?_
    refine dr_cvp1 16 hV dz_lX4_89 dX4_fits_16 (by decide) (by decide) ⟨by decide, _, _, rfl, by decide, rfl⟩ (Nat.le_of_ble_eq_true rfl) (c_X0_has π _ _ _) ?_
    first | refine dr_ifb_ne (tgt := 24) 19 hV dX4_fits_19 (by decide) (fun c19 => ?_) (fun c19 => ?_) | refine dr_if_ne (tgt := 24) 19 hV dX4_fits_19 (by decide) (fun c19 => ?_) (fun c19 => ?_)
    · have hok : (0 ≤ d ∧ d < nI (sg_n s)) ∧ (0 ≤ c ∧ c < nI (sg_c s)) := by rw [y1] at c8; rw [y2] at c19; exact ⟨c8, c19⟩
      obtain ⟨k, hk, rfl⟩ := dz_ofI rfl (by omega) hok.1
      obtain ⟨q, hq, rfl⟩ := dz_ofI rfl (by omega) hok.2
      refine dr_iconst (v := nI 0) 24 hV dX4_fits_24 (by decide) ?_
      refine dr_istore_n 25 hV dX4_fits_25 (by decide) ?_
      refine dr_aload_n 26 hV dX4_fits_26 rfl ?_
      refine dr_iload_n 27 hV dX4_fits_27 rfl ?_
      refine dr_iload_n 28 hV dX4_fits_28 rfl ?_
      refine dr_cvp2 29 hV dz_lX4_90 dX4_fits_29 (by decide) (by decide) ⟨by decide, _, _, rfl, by decide, rfl⟩ (Nat.le_of_ble_eq_true rfl) (c_X4_fitsFoot π _ _ hO2 hR2 hk hq) ?_
      first | refine dr_ifb_eq (tgt := 39) 32 hV dX4_fits_32 (by decide) (fun c32 => ?_) (fun c32 => ?_) | refine dr_if_eq (tgt := 39) 32 hV dX4_fits_32 (by decide) (fun c32 => ?_) (fun c32 => ?_)
      · refine dr_aload_n 39 hV dX4_fits_39 rfl ?_
        refine dr_iload_n 40 hV dX4_fits_40 rfl ?_
        refine dr_iload_n 41 hV dX4_fits_41 rfl ?_
        refine dr_cvp2 42 hV dz_lX4_94 dX4_fits_42 (by decide) (by decide) ⟨by decide, _, _, rfl, by decide, rfl⟩ (Nat.le_of_ble_eq_true rfl) (c_X4_fitsHead π _ _ hO2 hR2 hk hq) ?_
        first | refine dr_ifb_eq (tgt := 52) 45 hV dX4_fits_45 (by decide) (fun c45 => ?_) (fun c45 => ?_) | refine dr_if_eq (tgt := 52) 45 hV dX4_fits_45 (by decide) (fun c45 => ?_) (fun c45 => ?_)
        · refine dr_iload_n 52 hV dX4_fits_52 rfl ?_
          exact dr_iret 53 hV dX4_fits_53 rfl (by first | rfl | exact dz_bn) (dz_pue (by clear hV; unfold q_fits sg_ff sg_fh; rw [dz_B1 hok, nI_clamp (by omega), nI_clamp (by omega)]; first | (rw [dz_B1 c32, dz_B1 c45]; decide) | rw [dz_B1 c32, dz_B0 c45] | (rw [dz_B0 c32, dz_B1 c45]; decide) | rw [dz_B0 c32, dz_B0 c45]))
        · refine dr_iload_n 48 hV dX4_fits_48 rfl ?_
          refine dr_iconst (v := nI 2) 49 hV dX4_fits_49 (by decide) ?_
          refine dr_ior (z := _) 50 hV dX4_fits_50 (fa_or _ _) ?_
          refine dr_istore_n 51 hV dX4_fits_51 (by decide) ?_
          refine dr_iload_n 52 hV dX4_fits_52 rfl ?_
          exact dr_iret 53 hV dX4_fits_53 rfl (by first | rfl | exact dz_bn) (dz_pue (by clear hV; unfold q_fits sg_ff sg_fh; rw [dz_B1 hok, nI_clamp (by omega), nI_clamp (by omega)]; first | (rw [dz_B1 c32, dz_B1 c45]; decide) | rw [dz_B1 c32, dz_B0 c45] | (rw [dz_B0 c32, dz_B1 c45]; decide) | rw [dz_B0 c32, dz_B0 c45]))
      · refine dr_iload_n 35 hV dX4_fits_35 rfl ?_
        refine dr_iconst (v := nI 1) 36 hV dX4_fits_36 (by decide) ?_
        refine dr_ior (z := nI 1) 37 hV dX4_fits_37 (fa_or 0 1) ?_
        refine dr_istore_n 38 hV dX4_fits_38 (by decide) ?_
        refine dr_aload_n 39 hV dX4_fits_39 rfl ?_
        refine dr_iload_n 40 hV dX4_fits_40 rfl ?_
        refine dr_iload_n 41 hV dX4_fits_41 rfl ?_
        refine dr_cvp2 42 hV dz_lX4_94 dX4_fits_42 (by decide) (by decide) ⟨by decide, _, _, rfl, by decide, rfl⟩ (Nat.le_of_ble_eq_true rfl) (c_X4_fitsHead π _ _ hO2 hR2 hk hq) ?_
        first | refine dr_ifb_eq (tgt := 52) 45 hV dX4_fits_45 (by decide) (fun c45 => ?_) (fun c45 => ?_) | refine dr_if_eq (tgt := 52) 45 hV dX4_fits_45 (by decide) (fun c45 => ?_) (fun c45 => ?_)
        · refine dr_iload_n 52 hV dX4_fits_52 rfl ?_
          exact dr_iret 53 hV dX4_fits_53 rfl (by first | rfl | exact dz_bn) (dz_pue (by clear hV; unfold q_fits sg_ff sg_fh; rw [dz_B1 hok, nI_clamp (by omega), nI_clamp (by omega)]; first | (rw [dz_B1 c32, dz_B1 c45]; decide) | rw [dz_B1 c32, dz_B0 c45] | (rw [dz_B0 c32, dz_B1 c45]; decide) | rw [dz_B0 c32, dz_B0 c45]))
        · refine dr_iload_n 48 hV dX4_fits_48 rfl ?_
          refine dr_iconst (v := nI 2) 49 hV dX4_fits_49 (by decide) ?_
          refine dr_ior (z := _) 50 hV dX4_fits_50 (fa_or _ _) ?_
          refine dr_istore_n 51 hV dX4_fits_51 (by decide) ?_
          refine dr_iload_n 52 hV dX4_fits_52 rfl ?_
          exact dr_iret 53 hV dX4_fits_53 rfl (by first | rfl | exact dz_bn) (dz_pue (by clear hV; unfold q_fits sg_ff sg_fh; rw [dz_B1 hok, nI_clamp (by omega), nI_clamp (by omega)]; first | (rw [dz_B1 c32, dz_B1 c45]; decide) | rw [dz_B1 c32, dz_B0 c45] | (rw [dz_B0 c32, dz_B1 c45]; decide) | rw [dz_B0 c32, dz_B0 c45]))
    · refine dr_iconst (v := (-1)) 22 hV dX4_fits_22 (by decide) ?_
      exact dr_iret 23 hV dX4_fits_23 rfl (by first | rfl | exact dz_bn) (dz_pue (by clear hV; unfold q_fits; rw [dz_B0 (by rw [y1, y2] at *; grind)]))
set_option maxRecDepth 100000 in
set_option maxHeartbeats 4000000 in
theorem c_X4_place (π : dz_Pl) {s : dz_Sg} (p w : Int32) (I : dz_MI) (J : dz_MJ) (hO : dz_OK s) (hR : dz_RY s I) : dz_Cl π dz_Y 62 mX4_place 2 42 [.inr (.inr 0), .inl p, .inl w] I J (dz_Pu (.inl (q_place s p w)) I J) := by
  refine dz_body (own := 4) dz_mX4_place rfl (Nat.le_of_ble_eq_true rfl) (fun V hV => ?_)
  have hO2 := hO
  have hR2 := hR
  obtain ⟨o1, o2, o3, o4, o5, o6, o7, o8, o9⟩ := hO
  obtain ⟨y1, y2, y3, y4, y5, y6, y7, y8, y9, y10, y11, y12, y13⟩ := hR
  refine dr_aload_n 0 hV dX4_place_0 rfl ?_
  refine dr_geta 1 hV dX4_place_1 (by decide) (by decide) rfl rfl rfl ?_
  refine dr_iload_n 4 hV dX4_place_4 rfl ?_
  refine dr_cvp1 5 hV dz_lX4_97 dX4_place_5 (by decide) (by decide) ⟨by decide, _, _, rfl, by decide, rfl⟩ (Nat.le_of_ble_eq_true rfl) (c_X0_hasPlace π _ _ _) ?_
  first | refine dr_ifb_ne (tgt := 13) 8 hV dX4_place_8 (by decide) (fun c8 => ?_) (fun c8 => ?_) | refine dr_if_ne (tgt := 13) 8 hV dX4_place_8 (by decide) (fun c8 => ?_) (fun c8 => ?_)
  · have hok : 0 ≤ p ∧ p < nI (sg_p s) := by rw [y3] at c8; exact c8
    obtain ⟨k, hk, rfl⟩ := dz_ofI rfl (by omega) hok
    obtain ⟨g1, g2, g3⟩ := o6 k hk
    refine dr_iload_n 13 hV dX4_place_13 rfl ?_
    by_cases w0 : w = nI 0
    · subst w0
      refine dr_tin (tgt := 40) 14 hV dX4_place_14 (by decide) (by decide) (by decide : _ = some (26 : Int)) (by decide) ?_
      refine dr_aload_n 40 hV dX4_place_40 rfl ?_
      refine dr_geta 41 hV dX4_place_41 (by decide) (by decide) rfl rfl rfl ?_
      refine dr_iload_n 44 hV dX4_place_44 rfl ?_
      refine dr_cvp1 45 hV dz_lX4_163 dX4_place_45 (by decide) (by decide) ⟨by decide, _, _, rfl, by decide, rfl⟩ (Nat.le_of_ble_eq_true rfl) (c_X0_columnOf π _ _ y3 o3 hk) ?_
      rw [(y11 k hk).1]
      exact dr_iret 48 hV dX4_place_48 rfl (by first | rfl | exact dz_bn) (dz_pue (by clear hV; unfold q_place; rw [dz_B1 hok, nI_clamp (by omega)]; rw [if_pos (by decide)]))
    by_cases w1 : w = nI 1
    · subst w1
      refine dr_tin (tgt := 49) 14 hV dX4_place_14 (by decide) (by decide) (by decide : _ = some (35 : Int)) (by decide) ?_
      refine dr_iload_n 49 hV dX4_place_49 rfl ?_
      refine dr_aload_n 50 hV dX4_place_50 rfl ?_
      refine dr_geta 51 hV dX4_place_51 (by decide) (by decide) rfl rfl rfl ?_
      refine dr_aload_n 54 hV dX4_place_54 rfl ?_
      refine dr_geta 55 hV dX4_place_55 (by decide) (by decide) rfl rfl rfl ?_
      refine dr_iload_n 58 hV dX4_place_58 rfl ?_
      refine dr_cvp1 59 hV dz_lX4_163 dX4_place_59 (by decide) (by decide) ⟨by decide, _, _, rfl, by decide, rfl⟩ (Nat.le_of_ble_eq_true rfl) (c_X0_columnOf π _ _ y3 o3 hk) ?_
      rw [(y11 k hk).1]
      refine dr_cvp1 62 hV dz_lX4_154 dX4_place_62 (by decide) (by decide) ⟨by decide, _, _, rfl, by decide, rfl⟩ (Nat.le_of_ble_eq_true rfl) (c_X0_startOf π _ _ y2 o2 g1) ?_
      rw [(y10 _ g1).2.2.1]
      refine dr_isub 65 hV dX4_place_65 rfl ?_
      exact dr_iret 66 hV dX4_place_66 rfl (by first | rfl | exact dz_bn) (dz_pue (by clear hV; unfold q_place; rw [dz_B1 hok, nI_clamp (by omega)]; rw [if_neg (by decide), if_pos rfl]))
    by_cases w2 : w = nI 2
    · subst w2
      refine dr_tin (tgt := 67) 14 hV dX4_place_14 (by decide) (by decide) (by decide : _ = some (53 : Int)) (by decide) ?_
      refine dr_aload_n 67 hV dX4_place_67 rfl ?_
      refine dr_geta 68 hV dX4_place_68 (by decide) (by decide) rfl rfl rfl ?_
      refine dr_iload_n 71 hV dX4_place_71 rfl ?_
      refine dr_cvp1 72 hV dz_lX4_100 dX4_place_72 (by decide) (by decide) ⟨by decide, _, _, rfl, by decide, rfl⟩ (Nat.le_of_ble_eq_true rfl) (c_X3_toldOf π _ _ (by omega)) ?_
      rw [(y11 k hk).2]
      exact dr_iret 75 hV dX4_place_75 rfl (by first | rfl | exact dz_bn) (dz_pue (by clear hV; unfold q_place; rw [dz_B1 hok, nI_clamp (by omega)]; rw [if_neg (by decide), if_neg (by decide), if_pos rfl]))
    refine dr_tout (tgt := 76) 14 hV dX4_place_14 (dz_tswo 2 (fun j hj => by rcases (show j = 0 ∨ j = 1 ∨ j = 2 by omega) with rfl | rfl | rfl <;> assumption) (by decide)) (by decide) ?_
    refine dr_iconst (v := (-1)) 76 hV dX4_place_76 (by decide) ?_
    exact dr_iret 77 hV dX4_place_77 rfl (by first | rfl | exact dz_bn) (dz_pue (by clear hV; unfold q_place; rw [dz_B1 hok, nI_clamp (by omega)]; rw [if_neg (show ¬ w = 0 from w0), if_neg w1, if_neg w2]))
  · refine dr_iconst (v := (-1)) 11 hV dX4_place_11 (by decide) ?_
    exact dr_iret 12 hV dX4_place_12 rfl (by first | rfl | exact dz_bn) (dz_pue (by clear hV; unfold q_place; rw [dz_B0 (by rw [y3] at *; exact c8)]))
theorem dz_cnt_sm (p : Nat → Bool) : ∀ n, fa_cnt p n = fb_sm (fun k => if p k then 1 else 0) n
  | 0 => rfl
  | n + 1 => by rw [fb_sm_succ, ← dz_cnt_sm p n]; rfl
theorem dz_cnt_ext {p q : Nat → Bool} {n : Nat} (h : ∀ k, k < n → p k = q k) (hz : ∀ k, n ≤ k → p k = false) : ∀ m, n ≤ m → fa_cnt p m = fa_cnt q n
  | 0, hm => by rw [show n = 0 by omega]; rfl
  | m + 1, hm => by
    rcases Nat.lt_or_ge m n with z | z
    · rw [show m + 1 = n by omega]; exact fa_cnt_cong h
    · rw [fa_cnt_no (hz m z)]; exact dz_cnt_ext h hz m z
theorem yd_pairs {s : dz_Sg} {I : dz_MI} (hn : sg_n s ≤ 10) (y9 : ∀ d w, d < sg_n s → w < 9 → I (24 + d) w = sg_f s d w) : fb_sm (fun q => fa_cnt (fun i => (dz_bits (fun u => decide (¬ dz_tP (fun d w => I (24 + d) w) (sg_tol s) u q = -1)) (sg_n s)).testBit i) 10) (sg_n s) = q_pairs s := by
  have h1 : ∀ q, q < sg_n s → fa_cnt (fun i => (dz_bits (fun u => decide (¬ dz_tP (fun d w => I (24 + d) w) (sg_tol s) u q = -1)) (sg_n s)).testBit i) 10 = fb_sm (fun u => if decide (¬ dz_tP (sg_f s) (sg_tol s) u q = -1) then 1 else 0) (sg_n s) := fun q hq => by
    rw [dz_cnt_ext (q := fun u => decide (¬ dz_tP (sg_f s) (sg_tol s) u q = -1)) (n := sg_n s) (fun k hk => by rw [dz_bits_tb, dz_tP_cong (g := sg_f s) (fun w hw => y9 k w hk hw) (fun w hw => y9 q w hq hw)]; simp [hk]) (fun k hk => by rw [dz_bits_tb]; simp [Nat.not_lt.mpr hk]) 10 hn]
    exact dz_cnt_sm _ _
  rw [fb_sm_cong h1, dz_sm_comm]
  unfold q_pairs
  exact fb_sm_cong (fun a _ => (dz_cnt_sm _ _).symm)
theorem yd_told {s : dz_Sg} {I : dz_MI} (h8 : sg_p s ≤ 8) (y11 : ∀ q, q < sg_p s → I 13 q = sg_wo s q) (y12 : ∀ q, q < 8 → sg_p s ≤ q → I 13 q = -1) : fa_cnt (fun p => decide (¬ I 13 p = -1)) 8 = fa_cnt (fun p => decide (¬ sg_wo s p = -1)) (sg_p s) := by
  have h0 : fa_cnt (fun p => decide (¬ I 13 p = -1)) 8 = fa_cnt (fun p => decide (p < 8 ∧ ¬ I 13 p = -1)) 8 := fa_cnt_cong (fun k hk => by simp [hk])
  rw [h0]
  exact dz_cnt_ext (fun k hk => by simp [y11 k hk, show k < 8 by omega]) (fun k hk => by
    by_cases z : k < 8
    · simp [y12 k z hk]
    · simp [z]) 8 h8
set_option maxRecDepth 100000 in
set_option maxHeartbeats 4000000 in
theorem c_X4_count (π : dz_Pl) {s : dz_Sg} (w : Int32) (I : dz_MI) (J : dz_MJ) (hO : dz_OK s) (hR : dz_RY s I) : dz_Cl π dz_Y 62 mX4_count 5 117 [.inr (.inr 0), .inl w] I J (dz_Pu (.inl (q_count s w)) I J) := by
  refine dz_body (own := 4) dz_mX4_count rfl (Nat.le_of_ble_eq_true rfl) (fun V hV => ?_)
  have hO2 := hO
  have hR2 := hR
  obtain ⟨o1, o2, o3, o4, o5, o6, o7, o8, o9⟩ := hO
  obtain ⟨y1, y2, y3, y4, y5, y6, y7, y8, y9, y10, y11, y12, y13⟩ := hR
  refine dr_iload_n 0 hV dX4_count_0 rfl ?_
  by_cases w0 : w = nI 0
  · subst w0
    refine dr_tin (tgt := 36) 1 hV dX4_count_1 (by decide) (by decide) (by decide : _ = some (35 : Int)) (by decide) ?_
    refine dr_aload_n 36 hV dX4_count_36 rfl ?_
    refine dr_geta 37 hV dX4_count_37 (by decide) (by decide) rfl rfl rfl ?_
    refine dr_cvp0 40 hV dz_lX4_166 dX4_count_40 (by decide) (by decide) ⟨by decide, _, _, rfl, by decide, rfl⟩ (Nat.le_of_ble_eq_true rfl) (c_X1_number π _ _) ?_
    rw [y1]
    exact dr_iret 43 hV dX4_count_43 rfl (by first | rfl | exact dz_bn) (dz_pue (by clear hV; unfold q_count; rw [if_pos rfl]))
  by_cases w1 : w = nI 1
  · subst w1
    refine dr_tin (tgt := 44) 1 hV dX4_count_1 (by decide) (by decide) (by decide : _ = some (43 : Int)) (by decide) ?_
    refine dr_aload_n 44 hV dX4_count_44 rfl ?_
    refine dr_geta 45 hV dX4_count_45 (by decide) (by decide) rfl rfl rfl ?_
    refine dr_cvp0 48 hV dz_lX4_169 dX4_count_48 (by decide) (by decide) ⟨by decide, _, _, rfl, by decide, rfl⟩ (Nat.le_of_ble_eq_true rfl) (c_X0_number π _ _) ?_
    rw [y2]
    exact dr_iret 51 hV dX4_count_51 rfl (by first | rfl | exact dz_bn) (dz_pue (by clear hV; unfold q_count; rw [if_neg (by decide), if_pos rfl]))
  by_cases w2 : w = nI 2
  · subst w2
    refine dr_tin (tgt := 52) 1 hV dX4_count_1 (by decide) (by decide) (by decide : _ = some (51 : Int)) (by decide) ?_
    refine dr_aload_n 52 hV dX4_count_52 rfl ?_
    refine dr_geta 53 hV dX4_count_53 (by decide) (by decide) rfl rfl rfl ?_
    refine dr_cvp0 56 hV dz_lX4_129 dX4_count_56 (by decide) (by decide) ⟨by decide, _, _, rfl, by decide, rfl⟩ (Nat.le_of_ble_eq_true rfl) (c_X0_placeNumber π _ _) ?_
    rw [y3]
    exact dr_iret 59 hV dX4_count_59 rfl (by first | rfl | exact dz_bn) (dz_pue (by clear hV; unfold q_count; rw [if_neg (by decide), if_neg (by decide), if_pos rfl]))
  by_cases w3 : w = nI 3
  · subst w3
    refine dr_tin (tgt := 60) 1 hV dX4_count_1 (by decide) (by decide) (by decide : _ = some (59 : Int)) (by decide) ?_
    refine dr_aload_n 60 hV dX4_count_60 rfl ?_
    refine dr_geta 61 hV dX4_count_61 (by decide) (by decide) rfl rfl rfl ?_
    refine dr_aload_n 64 hV dX4_count_64 rfl ?_
    refine dr_geti 65 hV dX4_count_65 (by decide) (by decide) rfl rfl rfl y4 ?_
    refine dr_cvp1 68 hV dz_lX4_170 dX4_count_68 (by decide) (by decide) ⟨by decide, _, _, rfl, by decide, rfl⟩ (Nat.le_of_ble_eq_true rfl) (c_X1_pairsLying π (sg_tol s) _ _ y1 o1) ?_
    rw [yd_pairs o1 y9]
    exact dr_iret 71 hV dX4_count_71 rfl (by first | rfl | exact dz_bn) (dz_pue (by clear hV; unfold q_count; rw [if_neg (by decide), if_neg (by decide), if_neg (by decide), if_pos rfl]))
  by_cases w4 : w = nI 4
  · subst w4
    refine dr_tin (tgt := 72) 1 hV dX4_count_1 (by decide) (by decide) (by decide : _ = some (71 : Int)) (by decide) ?_
    refine dr_aload_n 72 hV dX4_count_72 rfl ?_
    refine dr_geta 73 hV dX4_count_73 (by decide) (by decide) rfl rfl rfl ?_
    refine dr_cvp0 76 hV dz_lX4_173 dX4_count_76 (by decide) (by decide) ⟨by decide, _, _, rfl, by decide, rfl⟩ (Nat.le_of_ble_eq_true rfl) (c_X3_toldNumber π _ _) ?_
    rw [yd_told o3 (fun q hq => (y11 q hq).2) y12]
    exact dr_iret 79 hV dX4_count_79 rfl (by first | rfl | exact dz_bn) (dz_pue (by clear hV; unfold q_count; rw [if_neg (by decide), if_neg (by decide), if_neg (by decide), if_neg (by decide), if_pos rfl]))
  refine dr_tout (tgt := 80) 1 hV dX4_count_1 (dz_tswo 4 (fun j hj => by rcases (show j = 0 ∨ j = 1 ∨ j = 2 ∨ j = 3 ∨ j = 4 by omega) with rfl | rfl | rfl | rfl | rfl <;> assumption) (by decide)) (by decide) ?_
  refine dr_iconst (v := (-1)) 80 hV dX4_count_80 (by decide) ?_
  exact dr_iret 81 hV dX4_count_81 rfl (by first | rfl | exact dz_bn) (dz_pue (by clear hV; unfold q_count; rw [if_neg w0, if_neg w1, if_neg w2, if_neg w3, if_neg w4]))
