/-! the yard is told: measure, set, hand -/
/-- what the paper is drawn from is the same -/
def sg_eqp (s s2 : dz_Sg) : Prop := sg_n s2 = sg_n s ∧ sg_c s2 = sg_c s ∧ sg_p s2 = sg_p s ∧ sg_b s2 = sg_b s ∧ sg_h s2 = sg_h s ∧ sg_col s2 = sg_col s ∧ sg_f s2 = sg_f s ∧ sg_fo s2 = sg_fo s ∧ sg_he s2 = sg_he s ∧ sg_wo s2 = sg_wo s ∧ sg_nt s2 = sg_nt s ∧ sg_tol s2 = sg_tol s
theorem sg_eqp.rf (s : dz_Sg) : sg_eqp s s := ⟨rfl, rfl, rfl, rfl, rfl, rfl, rfl, rfl, rfl, rfl, rfl, rfl⟩
/-- the end of a call that tells the yard something -/
def yd_S (s s2 : dz_Sg) (v : dz_AV) (I : dz_MI) (J : dz_MJ) : Option dz_AV → dz_MI → dz_MJ → Prop := fun r I2 J2 => r = some v ∧ dz_RY s2 I2 ∧ J2 = J ∧ (∀ c k, 15 ≤ c → (c < 24 ∨ 34 ≤ c) → I2 c k = I c k) ∧ (∀ k, I2 4 k = I 4 k) ∧ (I2 0 7 = nI 1 ∨ (I2 0 7 = I 0 7 ∧ sg_eqp s s2))
def dz_Ex (I2 : dz_MI) (J : dz_MJ) : Option dz_AV → dz_MI → dz_MJ → Prop := fun r I3 J3 => r = none ∧ I3 = I2 ∧ J3 = J
set_option maxRecDepth 100000 in
set_option maxHeartbeats 4000000 in
theorem c_X1_keepMeasured (π : dz_Pl) (a b c d : Int32) (I : dz_MI) (J : dz_MJ) : dz_Cl π dz_Y 62 mX1_keepMeasured 0 0 [.inr (.inr 1), .inl a, .inl b, .inl c, .inl d] I J (dz_Ex (dz_wi (dz_wi (dz_wi (dz_wi (dz_wi I 6 0 a) 6 1 b) 6 2 c) 6 3 d) 1 2 (nI 1)) J) := by
  refine dz_body (own := 1) dz_mX1_keepMeasured rfl (Nat.le_of_ble_eq_true rfl) (fun V hV => ?_)
  refine dr_aload_n 0 hV dX1_keepMeasured_0 rfl ?_
  refine dr_geta 1 hV dX1_keepMeasured_1 (by decide) (by decide) rfl rfl rfl ?_
  refine dr_iconst (v := nI 0) 4 hV dX1_keepMeasured_4 (by decide) ?_
  refine dr_iload_n 5 hV dX1_keepMeasured_5 rfl ?_
  refine dr_iast 6 hV dX1_keepMeasured_6 (by decide) rfl rfl (by omega) (by decide) ?_
  refine dr_aload_n 7 hV dX1_keepMeasured_7 rfl ?_
  refine dr_geta 8 hV dX1_keepMeasured_8 (by decide) (by decide) rfl rfl rfl ?_
  refine dr_iconst (v := nI 1) 11 hV dX1_keepMeasured_11 (by decide) ?_
  refine dr_iload_n 12 hV dX1_keepMeasured_12 rfl ?_
  refine dr_iast 13 hV dX1_keepMeasured_13 (by decide) rfl rfl (by omega) (by decide) ?_
  refine dr_aload_n 14 hV dX1_keepMeasured_14 rfl ?_
  refine dr_geta 15 hV dX1_keepMeasured_15 (by decide) (by decide) rfl rfl rfl ?_
  refine dr_iconst (v := nI 2) 18 hV dX1_keepMeasured_18 (by decide) ?_
  refine dr_iload_n 19 hV dX1_keepMeasured_19 rfl ?_
  refine dr_iast 20 hV dX1_keepMeasured_20 (by decide) rfl rfl (by omega) (by decide) ?_
  refine dr_aload_n 21 hV dX1_keepMeasured_21 rfl ?_
  refine dr_geta 22 hV dX1_keepMeasured_22 (by decide) (by decide) rfl rfl rfl ?_
  refine dr_iconst (v := nI 3) 25 hV dX1_keepMeasured_25 (by decide) ?_
  refine dr_iload 26 hV dX1_keepMeasured_26 rfl ?_
  refine dr_iast 28 hV dX1_keepMeasured_28 (by decide) rfl rfl (by omega) (by decide) ?_
  refine dr_aload_n 29 hV dX1_keepMeasured_29 rfl ?_
  refine dr_iconst (v := nI 1) 30 hV dX1_keepMeasured_30 (by decide) ?_
  refine dr_puti 31 hV dX1_keepMeasured_31 (by decide) (by decide) rfl rfl rfl rfl rfl rfl ?_
  exact dr_vret 34 hV dX1_keepMeasured_34 rfl ⟨rfl, rfl, rfl⟩
set_option maxRecDepth 100000 in
set_option maxHeartbeats 4000000 in
theorem c_X4_measure (π : dz_Pl) {s : dz_Sg} (a b c d : Int32) (I : dz_MI) (J : dz_MJ) (hO : dz_OK s) (hR : dz_RY s I) : dz_Cl π dz_Y 62 mX4_measure 2 42 [.inr (.inr 0), .inl a, .inl b, .inl c, .inl d] I J (yd_S s (sn_measure s a b c d) (.inl (dz_bp (ok_measure a b c d))) I J) := by
  refine dz_body (own := 4) dz_mX4_measure rfl (Nat.le_of_ble_eq_true rfl) (fun V hV => ?_)
  have hO2 := hO
  have hR2 := hR
  obtain ⟨o1, o2, o3, o4, o5, o6, o7, o8, o9⟩ := hO
  obtain ⟨y1, y2, y3, y4, y5, y6, y7, y8, y9, y10, y11, y12, y13⟩ := hR
  refine dr_iload_n 0 hV dX4_measure_0 rfl ?_
  refine dr_csp1 1 hV (Or.inl dz_lX4_51) dX4_measure_1 (by decide) (by decide) (Nat.le_of_ble_eq_true rfl) (c_X4_isWidth π _ _ _ _ _) ?_
  first | refine dr_ifb_eq (tgt := 36) 4 hV dX4_measure_4 (by decide) (fun c4 => ?_) (fun c4 => ?_) | refine dr_if_eq (tgt := 36) 4 hV dX4_measure_4 (by decide) (fun c4 => ?_) (fun c4 => ?_)
  · refine dr_iconst (v := nI 0) 36 hV dX4_measure_36 (by decide) ?_
    exact dr_iret 37 hV dX4_measure_37 rfl (by first | rfl | exact dz_bn) ⟨by rw [← dz_bpf (P := ok_measure a b c d) (by unfold ok_measure; grind)], by rw [sn_measure, dz_B0 (by unfold ok_measure; grind)]; exact hR2, rfl, fun _ _ _ _ => rfl, fun _ => rfl, Or.inr ⟨rfl, by rw [sn_measure, dz_B0 (by unfold ok_measure; grind)]; exact sg_eqp.rf s⟩⟩
  · refine dr_iload_n 7 hV dX4_measure_7 rfl ?_
    refine dr_csp1 8 hV (Or.inl dz_lX4_51) dX4_measure_8 (by decide) (by decide) (Nat.le_of_ble_eq_true rfl) (c_X4_isWidth π _ _ _ _ _) ?_
    first | refine dr_ifb_eq (tgt := 36) 11 hV dX4_measure_11 (by decide) (fun c11 => ?_) (fun c11 => ?_) | refine dr_if_eq (tgt := 36) 11 hV dX4_measure_11 (by decide) (fun c11 => ?_) (fun c11 => ?_)
    · refine dr_iconst (v := nI 0) 36 hV dX4_measure_36 (by decide) ?_
      exact dr_iret 37 hV dX4_measure_37 rfl (by first | rfl | exact dz_bn) ⟨by rw [← dz_bpf (P := ok_measure a b c d) (by unfold ok_measure; grind)], by rw [sn_measure, dz_B0 (by unfold ok_measure; grind)]; exact hR2, rfl, fun _ _ _ _ => rfl, fun _ => rfl, Or.inr ⟨rfl, by rw [sn_measure, dz_B0 (by unfold ok_measure; grind)]; exact sg_eqp.rf s⟩⟩
    · refine dr_iload_n 14 hV dX4_measure_14 rfl ?_
      refine dr_iconst (v := nI 0) 15 hV dX4_measure_15 (by decide) ?_
      refine dr_bipush (v := nI 50) 16 hV dX4_measure_16 (by decide) ?_
      refine dr_csp3 18 hV (Or.inl dz_lX4_55) dX4_measure_18 (by decide) (by decide) (Nat.le_of_ble_eq_true rfl) (c_X4_isWithin π _ _ _ _ _ _ _) ?_
      first | refine dr_ifb_eq (tgt := 36) 21 hV dX4_measure_21 (by decide) (fun c21 => ?_) (fun c21 => ?_) | refine dr_if_eq (tgt := 36) 21 hV dX4_measure_21 (by decide) (fun c21 => ?_) (fun c21 => ?_)
      · refine dr_iconst (v := nI 0) 36 hV dX4_measure_36 (by decide) ?_
        exact dr_iret 37 hV dX4_measure_37 rfl (by first | rfl | exact dz_bn) ⟨by rw [← dz_bpf (P := ok_measure a b c d) (by unfold ok_measure; grind)], by rw [sn_measure, dz_B0 (by unfold ok_measure; grind)]; exact hR2, rfl, fun _ _ _ _ => rfl, fun _ => rfl, Or.inr ⟨rfl, by rw [sn_measure, dz_B0 (by unfold ok_measure; grind)]; exact sg_eqp.rf s⟩⟩
      · refine dr_iload 24 hV dX4_measure_24 rfl ?_
        refine dr_iconst (v := nI 1) 26 hV dX4_measure_26 (by decide) ?_
        refine dr_sipush (v := nI 2000) 27 hV dX4_measure_27 (by decide) ?_
        refine dr_csp3 30 hV (Or.inl dz_lX4_55) dX4_measure_30 (by decide) (by decide) (Nat.le_of_ble_eq_true rfl) (c_X4_isWithin π _ _ _ _ _ _ _) ?_
        first | refine dr_ifb_ne (tgt := 38) 33 hV dX4_measure_33 (by decide) (fun c33 => ?_) (fun c33 => ?_) | refine dr_if_ne (tgt := 38) 33 hV dX4_measure_33 (by decide) (fun c33 => ?_) (fun c33 => ?_)
        · have hok : ok_measure a b c d := ⟨c4, c11, c21, c33⟩
          refine dr_aload_n 38 hV dX4_measure_38 rfl ?_
          refine dr_geta 39 hV dX4_measure_39 (by decide) (by decide) rfl rfl rfl ?_
          refine dr_iload_n 42 hV dX4_measure_42 rfl ?_
          refine dr_iload_n 43 hV dX4_measure_43 rfl ?_
          refine dr_iload_n 44 hV dX4_measure_44 rfl ?_
          refine dr_iload 45 hV dX4_measure_45 rfl ?_
          refine dr_cv4 47 hV dz_lX4_59 dX4_measure_47 (by decide) (by decide) ⟨by decide, _, _, rfl, by decide, rfl⟩ (Nat.le_of_ble_eq_true rfl) (c_X1_keepMeasured π _ _ _ _ _ _) (fun r I2 J2 hf => ?_)
          obtain ⟨rfl, rfl, rfl⟩ := hf
          refine dr_iconst (v := nI 1) 50 hV dX4_measure_50 (by decide) ?_
          exact dr_iret 51 hV dX4_measure_51 rfl (by first | rfl | exact dz_bn) ⟨by rw [← dz_bpt (P := ok_measure a b c d) hok], by rw [sn_measure, dz_B1 hok]; exact ⟨(by (repeat rw [dz_wi_n _ _ (by omega)]); exact y1), (by (repeat rw [dz_wi_n _ _ (by omega)]); exact y2), (by (repeat rw [dz_wi_n _ _ (by omega)]); exact y3), (by (repeat rw [dz_wi_n _ _ (by omega)]); exact y4), (by (repeat rw [dz_wi_n _ _ (by omega)]); exact y5), (by (repeat rw [dz_wi_n _ _ (by omega)]); exact y6), (by rw [dz_wi_s]; rfl), (fun k hk => by rw [dz_wi_n _ _ (by omega)]; rcases (show k = 0 ∨ k = 1 ∨ k = 2 ∨ k = 3 by omega) with rfl | rfl | rfl | rfl <;> rfl), (fun d w hd hw => by (repeat rw [dz_wi_n _ _ (by omega)]); exact y9 d w hd hw), (fun k hk => ⟨by (repeat rw [dz_wi_n _ _ (by omega)]); exact (y10 k hk).1, by (repeat rw [dz_wi_n _ _ (by omega)]); exact (y10 k hk).2.1, by (repeat rw [dz_wi_n _ _ (by omega)]); exact (y10 k hk).2.2.1, by (repeat rw [dz_wi_n _ _ (by omega)]); exact (y10 k hk).2.2.2⟩), (fun q hq => ⟨by (repeat rw [dz_wi_n _ _ (by omega)]); exact (y11 q hq).1, by (repeat rw [dz_wi_n _ _ (by omega)]); exact (y11 q hq).2⟩), (fun q hq hq2 => by (repeat rw [dz_wi_n _ _ (by omega)]); exact y12 q hq hq2), (fun q hq => by (repeat rw [dz_wi_n _ _ (by omega)]); exact y13 q hq)⟩, rfl, (fun c k h1 h2 => by (repeat rw [dz_wi_n _ _ (by omega)])), (fun k => by (repeat rw [dz_wi_n _ _ (by omega)])), Or.inr ⟨by (repeat rw [dz_wi_n _ _ (by omega)]), by rw [sn_measure, dz_B1 hok]; exact sg_eqp.rf s⟩⟩
        · refine dr_iconst (v := nI 0) 36 hV dX4_measure_36 (by decide) ?_
          exact dr_iret 37 hV dX4_measure_37 rfl (by first | rfl | exact dz_bn) ⟨by rw [← dz_bpf (P := ok_measure a b c d) (by unfold ok_measure; grind)], by rw [sn_measure, dz_B0 (by unfold ok_measure; grind)]; exact hR2, rfl, fun _ _ _ _ => rfl, fun _ => rfl, Or.inr ⟨rfl, by rw [sn_measure, dz_B0 (by unfold ok_measure; grind)]; exact sg_eqp.rf s⟩⟩
set_option maxRecDepth 100000 in
set_option maxHeartbeats 4000000 in
theorem c_X4_set (π : dz_Pl) {s : dz_Sg} (a b c : Int32) (I : dz_MI) (J : dz_MJ) (hO : dz_OK s) (hR : dz_RY s I) : dz_Cl π dz_Y 62 mX4_set 1 22 [.inr (.inr 0), .inl a, .inl b, .inl c] I J (yd_S s (sn_set s a b c) (.inl (dz_bp (ok_set a b c))) I J) := by
  refine dz_body (own := 4) dz_mX4_set rfl (Nat.le_of_ble_eq_true rfl) (fun V hV => ?_)
  have hO2 := hO
  have hR2 := hR
  obtain ⟨o1, o2, o3, o4, o5, o6, o7, o8, o9⟩ := hO
  obtain ⟨y1, y2, y3, y4, y5, y6, y7, y8, y9, y10, y11, y12, y13⟩ := hR
  refine dr_iload_n 0 hV dX4_set_0 rfl ?_
  refine dr_iconst (v := nI 0) 1 hV dX4_set_1 (by decide) ?_
  refine dr_bipush (v := nI 50) 2 hV dX4_set_2 (by decide) ?_
  refine dr_csp3 4 hV (Or.inl dz_lX4_55) dX4_set_4 (by decide) (by decide) (Nat.le_of_ble_eq_true rfl) (c_X4_isWithin π _ _ _ _ _ _ _) ?_
  first | refine dr_ifb_eq (tgt := 30) 7 hV dX4_set_7 (by decide) (fun c7 => ?_) (fun c7 => ?_) | refine dr_if_eq (tgt := 30) 7 hV dX4_set_7 (by decide) (fun c7 => ?_) (fun c7 => ?_)
  · refine dr_iconst (v := nI 0) 30 hV dX4_set_30 (by decide) ?_
    exact dr_iret 31 hV dX4_set_31 rfl (by first | rfl | exact dz_bn) ⟨by rw [← dz_bpf (P := ok_set a b c) (by unfold ok_set; grind)], by rw [sn_set, dz_B0 (by unfold ok_set; grind)]; exact hR2, rfl, fun _ _ _ _ => rfl, fun _ => rfl, Or.inr ⟨rfl, by rw [sn_set, dz_B0 (by unfold ok_set; grind)]; exact sg_eqp.rf s⟩⟩
  · refine dr_iload_n 10 hV dX4_set_10 rfl ?_
    refine dr_iconst (v := nI 1) 11 hV dX4_set_11 (by decide) ?_
    refine dr_sipush (v := nI 10000) 12 hV dX4_set_12 (by decide) ?_
    refine dr_csp3 15 hV (Or.inl dz_lX4_55) dX4_set_15 (by decide) (by decide) (Nat.le_of_ble_eq_true rfl) (c_X4_isWithin π _ _ _ _ _ _ _) ?_
    first | refine dr_ifb_eq (tgt := 30) 18 hV dX4_set_18 (by decide) (fun c18 => ?_) (fun c18 => ?_) | refine dr_if_eq (tgt := 30) 18 hV dX4_set_18 (by decide) (fun c18 => ?_) (fun c18 => ?_)
    · refine dr_iconst (v := nI 0) 30 hV dX4_set_30 (by decide) ?_
      exact dr_iret 31 hV dX4_set_31 rfl (by first | rfl | exact dz_bn) ⟨by rw [← dz_bpf (P := ok_set a b c) (by unfold ok_set; grind)], by rw [sn_set, dz_B0 (by unfold ok_set; grind)]; exact hR2, rfl, fun _ _ _ _ => rfl, fun _ => rfl, Or.inr ⟨rfl, by rw [sn_set, dz_B0 (by unfold ok_set; grind)]; exact sg_eqp.rf s⟩⟩
    · refine dr_iload_n 21 hV dX4_set_21 rfl ?_
      refine dr_iconst (v := nI 1) 22 hV dX4_set_22 (by decide) ?_
      refine dr_iconst (v := nI 5) 23 hV dX4_set_23 (by decide) ?_
      refine dr_csp3 24 hV (Or.inl dz_lX4_55) dX4_set_24 (by decide) (by decide) (Nat.le_of_ble_eq_true rfl) (c_X4_isWithin π _ _ _ _ _ _ _) ?_
      first | refine dr_ifb_ne (tgt := 32) 27 hV dX4_set_27 (by decide) (fun c27 => ?_) (fun c27 => ?_) | refine dr_if_ne (tgt := 32) 27 hV dX4_set_27 (by decide) (fun c27 => ?_) (fun c27 => ?_)
      · have hok : ok_set a b c := ⟨c7, c18, c27⟩
        refine dr_iload_n 32 hV dX4_set_32 rfl ?_
        refine dr_aload_n 33 hV dX4_set_33 rfl ?_
        refine dr_geti 34 hV dX4_set_34 (by decide) (by decide) rfl rfl rfl y4 ?_
        refine dr_icmp_eq (tgt := 45) 37 hV dX4_set_37 (by decide) (fun c37 => ?_) (fun c37 => ?_)
        · refine dr_aload_n 45 hV dX4_set_45 rfl ?_
          refine dr_iload_n 46 hV dX4_set_46 rfl ?_
          refine dr_puti 47 hV dX4_set_47 (by decide) (by decide) rfl rfl rfl rfl rfl rfl ?_
          refine dr_aload_n 50 hV dX4_set_50 rfl ?_
          refine dr_iload_n 51 hV dX4_set_51 rfl ?_
          refine dr_puti 52 hV dX4_set_52 (by decide) (by decide) rfl rfl rfl rfl rfl rfl ?_
          refine dr_aload_n 55 hV dX4_set_55 rfl ?_
          refine dr_iload_n 56 hV dX4_set_56 rfl ?_
          refine dr_puti 57 hV dX4_set_57 (by decide) (by decide) rfl rfl rfl rfl rfl rfl ?_
          refine dr_iconst (v := nI 1) 60 hV dX4_set_60 (by decide) ?_
          exact dr_iret 61 hV dX4_set_61 rfl (by first | rfl | exact dz_bn) ⟨by rw [← dz_bpt (P := ok_set a b c) hok], by rw [sn_set, dz_B1 hok]; exact ⟨(by (repeat rw [dz_wi_n _ _ (by omega)]); exact y1), (by (repeat rw [dz_wi_n _ _ (by omega)]); exact y2), (by (repeat rw [dz_wi_n _ _ (by omega)]); exact y3), (rfl), (rfl), (rfl), (by (repeat rw [dz_wi_n _ _ (by omega)]); exact y7), (fun k hk => by (repeat rw [dz_wi_n _ _ (by omega)]); exact y8 k hk), (fun d w hd hw => by (repeat rw [dz_wi_n _ _ (by omega)]); exact y9 d w hd hw), (fun k hk => ⟨by (repeat rw [dz_wi_n _ _ (by omega)]); exact (y10 k hk).1, by (repeat rw [dz_wi_n _ _ (by omega)]); exact (y10 k hk).2.1, by (repeat rw [dz_wi_n _ _ (by omega)]); exact (y10 k hk).2.2.1, by (repeat rw [dz_wi_n _ _ (by omega)]); exact (y10 k hk).2.2.2⟩), (fun q hq => ⟨by (repeat rw [dz_wi_n _ _ (by omega)]); exact (y11 q hq).1, by (repeat rw [dz_wi_n _ _ (by omega)]); exact (y11 q hq).2⟩), (fun q hq hq2 => by (repeat rw [dz_wi_n _ _ (by omega)]); exact y12 q hq hq2), (fun q hq => by (repeat rw [dz_wi_n _ _ (by omega)]); exact y13 q hq)⟩, rfl, (fun c k h1 h2 => by (repeat rw [dz_wi_n _ _ (by omega)])), (fun k => by (repeat rw [dz_wi_n _ _ (by omega)])), by first | exact Or.inl rfl | exact Or.inr ⟨by (repeat rw [dz_wi_n _ _ (by omega)]), by rw [sn_set, dz_B1 hok]; exact ⟨rfl, rfl, rfl, rfl, rfl, rfl, rfl, rfl, rfl, rfl, rfl, c37⟩⟩⟩
        · refine dr_aload_n 40 hV dX4_set_40 rfl ?_
          refine dr_iconst (v := nI 1) 41 hV dX4_set_41 (by decide) ?_
          refine dr_puti 42 hV dX4_set_42 (by decide) (by decide) rfl rfl rfl rfl rfl rfl ?_
          refine dr_aload_n 45 hV dX4_set_45 rfl ?_
          refine dr_iload_n 46 hV dX4_set_46 rfl ?_
          refine dr_puti 47 hV dX4_set_47 (by decide) (by decide) rfl rfl rfl rfl rfl rfl ?_
          refine dr_aload_n 50 hV dX4_set_50 rfl ?_
          refine dr_iload_n 51 hV dX4_set_51 rfl ?_
          refine dr_puti 52 hV dX4_set_52 (by decide) (by decide) rfl rfl rfl rfl rfl rfl ?_
          refine dr_aload_n 55 hV dX4_set_55 rfl ?_
          refine dr_iload_n 56 hV dX4_set_56 rfl ?_
          refine dr_puti 57 hV dX4_set_57 (by decide) (by decide) rfl rfl rfl rfl rfl rfl ?_
          refine dr_iconst (v := nI 1) 60 hV dX4_set_60 (by decide) ?_
          exact dr_iret 61 hV dX4_set_61 rfl (by first | rfl | exact dz_bn) ⟨by rw [← dz_bpt (P := ok_set a b c) hok], by rw [sn_set, dz_B1 hok]; exact ⟨(by (repeat rw [dz_wi_n _ _ (by omega)]); exact y1), (by (repeat rw [dz_wi_n _ _ (by omega)]); exact y2), (by (repeat rw [dz_wi_n _ _ (by omega)]); exact y3), (rfl), (rfl), (rfl), (by (repeat rw [dz_wi_n _ _ (by omega)]); exact y7), (fun k hk => by (repeat rw [dz_wi_n _ _ (by omega)]); exact y8 k hk), (fun d w hd hw => by (repeat rw [dz_wi_n _ _ (by omega)]); exact y9 d w hd hw), (fun k hk => ⟨by (repeat rw [dz_wi_n _ _ (by omega)]); exact (y10 k hk).1, by (repeat rw [dz_wi_n _ _ (by omega)]); exact (y10 k hk).2.1, by (repeat rw [dz_wi_n _ _ (by omega)]); exact (y10 k hk).2.2.1, by (repeat rw [dz_wi_n _ _ (by omega)]); exact (y10 k hk).2.2.2⟩), (fun q hq => ⟨by (repeat rw [dz_wi_n _ _ (by omega)]); exact (y11 q hq).1, by (repeat rw [dz_wi_n _ _ (by omega)]); exact (y11 q hq).2⟩), (fun q hq hq2 => by (repeat rw [dz_wi_n _ _ (by omega)]); exact y12 q hq hq2), (fun q hq => by (repeat rw [dz_wi_n _ _ (by omega)]); exact y13 q hq)⟩, rfl, (fun c k h1 h2 => by (repeat rw [dz_wi_n _ _ (by omega)])), (fun k => by (repeat rw [dz_wi_n _ _ (by omega)])), by first | exact Or.inl rfl | exact Or.inr ⟨by (repeat rw [dz_wi_n _ _ (by omega)]), by rw [sn_set, dz_B1 hok]; exact ⟨rfl, rfl, rfl, rfl, rfl, rfl, rfl, rfl, rfl, rfl, rfl, c37⟩⟩⟩
      · refine dr_iconst (v := nI 0) 30 hV dX4_set_30 (by decide) ?_
        exact dr_iret 31 hV dX4_set_31 rfl (by first | rfl | exact dz_bn) ⟨by rw [← dz_bpf (P := ok_set a b c) (by unfold ok_set; grind)], by rw [sn_set, dz_B0 (by unfold ok_set; grind)]; exact hR2, rfl, fun _ _ _ _ => rfl, fun _ => rfl, Or.inr ⟨rfl, by rw [sn_set, dz_B0 (by unfold ok_set; grind)]; exact sg_eqp.rf s⟩⟩
