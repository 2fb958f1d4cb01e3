/-! the yard is told: hand, not -/
set_option maxRecDepth 100000 in
set_option maxHeartbeats 4000000 in
theorem c_X3_tell (π : dz_Pl) {k : Nat} (d : Int32) (I : dz_MI) (J : dz_MJ) (hk : k < 8) : dz_Cl π dz_Y 62 mX3_tell 1 20 [.inr (.inr 3), .inl (nI k), .inl d] I J (dz_Ex (dz_wi I 13 k d) J) := by
  refine dz_body (own := 3) dz_mX3_tell rfl (Nat.le_of_ble_eq_true rfl) (fun V hV => ?_)
  refine dr_iload_n 0 hV dX3_tell_0 rfl ?_
  refine dr_csp1 1 hV (Or.inl dz_lX3_18) dX3_tell_1 (by decide) (by decide) (Nat.le_of_ble_eq_true rfl) (c_X3_isRow π _ _ _ _ _) ?_
  first | refine dr_ifb_eq (tgt := 14) 4 hV dX3_tell_4 (by decide) (fun c4 => ?_) (fun c4 => ?_) | refine dr_if_eq (tgt := 14) 4 hV dX3_tell_4 (by decide) (fun c4 => ?_) (fun c4 => ?_)
  · exact absurd (dz_inI rfl hk (by decide)) c4
  · refine dr_aload_n 7 hV dX3_tell_7 rfl ?_
    refine dr_geta 8 hV dX3_tell_8 (by decide) (by decide) rfl rfl rfl ?_
    refine dr_iload_n 11 hV dX3_tell_11 rfl ?_
    refine dr_iload_n 12 hV dX3_tell_12 rfl ?_
    refine dr_iast 13 hV dX3_tell_13 (by decide) rfl rfl (by omega) (by decide) ?_
    exact dr_vret 14 hV dX3_tell_14 rfl ⟨rfl, rfl, rfl⟩
theorem hand_y {I : dz_MI} {k q : Nat} {d x : Int32} (h : I 13 q = x) : dz_wi I 13 k d 13 q = (if q = k then d else x) := by
  by_cases e : q = k
  · subst e; rw [dz_wi_s, if_pos rfl]
  · rw [dz_wi_n _ _ (by omega), if_neg e]; exact h
theorem hand_same {s : dz_Sg} {k q : Nat} {d : Int32} (hk : k < 2 ^ 31) (h : d = sg_wo s k) : (if q = (nI k).toNatClampNeg then d else sg_wo s q) = sg_wo s q := by
  by_cases e : q = (nI k).toNatClampNeg
  · rw [if_pos e]
    rw [nI_clamp hk] at e; rw [e]; exact h
  · rw [if_neg e]
set_option maxRecDepth 100000 in
set_option maxHeartbeats 4000000 in
theorem c_X4_hand (π : dz_Pl) {s : dz_Sg} (p d : Int32) (I : dz_MI) (J : dz_MJ) (hO : dz_OK s) (hR : dz_RY s I) : dz_Cl π dz_Y 62 mX4_hand 2 42 [.inr (.inr 0), .inl p, .inl d] I J (yd_S s (sn_hand s p d) (.inl (dz_bp (ok_hand s p d))) I J) := by
  refine dz_body (own := 4) dz_mX4_hand rfl (Nat.le_of_ble_eq_true rfl) (fun V hV => ?_)
  have hO2 := hO
  have hR2 := hR
  obtain ⟨o1, o2, o3, o4, o5, o6, o7, o8, o9⟩ := hO
  obtain ⟨y1, y2, y3, y4, y5, y6, y7, y8, y9, y10, y11, y12, y13⟩ := hR
  refine dr_aload_n 0 hV dX4_hand_0 rfl ?_
  refine dr_geta 1 hV dX4_hand_1 (by decide) (by decide) rfl rfl rfl ?_
  refine dr_iload_n 4 hV dX4_hand_4 rfl ?_
  refine dr_cvp1 5 hV dz_lX4_97 dX4_hand_5 (by decide) (by decide) ⟨by decide, _, _, rfl, by decide, rfl⟩ (Nat.le_of_ble_eq_true rfl) (c_X0_hasPlace π _ _ _) ?_
  first | refine dr_ifb_eq (tgt := 33) 8 hV dX4_hand_8 (by decide) (fun c8 => ?_) (fun c8 => ?_) | refine dr_if_eq (tgt := 33) 8 hV dX4_hand_8 (by decide) (fun c8 => ?_) (fun c8 => ?_)
  · refine dr_iconst (v := nI 0) 33 hV dX4_hand_33 (by decide) ?_
    exact dr_iret 34 hV dX4_hand_34 rfl (by first | rfl | exact dz_bn) ⟨by rw [← dz_bpf (P := ok_hand s p d) (by unfold ok_hand; rw [y3, y1] at *; grind)], by rw [sn_hand, dz_B0 (by unfold ok_hand; rw [y3, y1] at *; grind)]; exact hR2, rfl, fun _ _ _ _ => rfl, fun _ => rfl, Or.inr ⟨rfl, by rw [sn_hand, dz_B0 (by unfold ok_hand; rw [y3, y1] at *; grind)]; exact sg_eqp.rf s⟩⟩
  · refine dr_iload_n 11 hV dX4_hand_11 rfl ?_
    refine dr_iconst (v := (-1)) 12 hV dX4_hand_12 (by decide) ?_
    refine dr_icmp_eq (tgt := 35) 13 hV dX4_hand_13 (by decide) (fun c13 => ?_) (fun c13 => ?_)
    · have hok : ok_hand s p d := by unfold ok_hand; rw [y3, y1] at *; grind
      obtain ⟨k, hk, rfl⟩ := dz_ofI y3 (by omega) c8
      refine dr_iload_n 35 hV dX4_hand_35 rfl ?_
      refine dr_aload_n 36 hV dX4_hand_36 rfl ?_
      refine dr_geta 37 hV dX4_hand_37 (by decide) (by decide) rfl rfl rfl ?_
      refine dr_iload_n 40 hV dX4_hand_40 rfl ?_
      refine dr_cvp1 41 hV dz_lX4_100 dX4_hand_41 (by decide) (by decide) ⟨by decide, _, _, rfl, by decide, rfl⟩ (Nat.le_of_ble_eq_true rfl) (c_X3_toldOf π _ _ (show k < 8 by omega)) ?_
      rw [(y11 k hk).2]
      refine dr_icmp_eq (tgt := 52) 44 hV dX4_hand_44 (by decide) (fun c44 => ?_) (fun c44 => ?_)
      · refine dr_aload_n 52 hV dX4_hand_52 rfl ?_
        refine dr_geta 53 hV dX4_hand_53 (by decide) (by decide) rfl rfl rfl ?_
        refine dr_iload_n 56 hV dX4_hand_56 rfl ?_
        refine dr_iload_n 57 hV dX4_hand_57 rfl ?_
        refine dr_cv2 58 hV dz_lX4_104 dX4_hand_58 (by decide) (by decide) ⟨by decide, _, _, rfl, by decide, rfl⟩ (Nat.le_of_ble_eq_true rfl) (c_X3_tell π d _ _ (show k < 8 by omega)) (fun r I2 J2 hf => ?_)
        obtain ⟨rfl, rfl, rfl⟩ := hf
        refine dr_iconst (v := nI 1) 61 hV dX4_hand_61 (by decide) ?_
        exact dr_iret 62 hV dX4_hand_62 rfl (by first | rfl | exact dz_bn) ⟨by rw [← dz_bpt (P := ok_hand s (nI k) d) hok], by rw [sn_hand, dz_B1 hok]; exact ⟨(by (repeat rw [dz_wi_n _ _ (by omega)]); exact y1), (by (repeat rw [dz_wi_n _ _ (by omega)]); exact y2), (by (repeat rw [dz_wi_n _ _ (by omega)]); exact y3), (by (repeat rw [dz_wi_n _ _ (by omega)]); exact y4), (by (repeat rw [dz_wi_n _ _ (by omega)]); exact y5), (by (repeat rw [dz_wi_n _ _ (by omega)]); exact y6), (by (repeat rw [dz_wi_n _ _ (by omega)]); exact y7), (fun k hk => by (repeat rw [dz_wi_n _ _ (by omega)]); exact y8 k hk), (fun d w hd hw => by (repeat rw [dz_wi_n _ _ (by omega)]); exact y9 d w hd hw), (fun k hk => ⟨by (repeat rw [dz_wi_n _ _ (by omega)]); exact (y10 k hk).1, by (repeat rw [dz_wi_n _ _ (by omega)]); exact (y10 k hk).2.1, by (repeat rw [dz_wi_n _ _ (by omega)]); exact (y10 k hk).2.2.1, by (repeat rw [dz_wi_n _ _ (by omega)]); exact (y10 k hk).2.2.2⟩), (fun q hq => ⟨by (repeat rw [dz_wi_n _ _ (by omega)]); exact (y11 q hq).1, by show _ = (if q = (nI k).toNatClampNeg then d else sg_wo s q); rw [nI_clamp (by omega)]; exact hand_y (by (repeat rw [dz_wi_n _ _ (by omega)]); exact (y11 q hq).2)⟩), (fun q hq hq2 => by have hq3 : sg_p s ≤ q := hq2; rw [dz_wi_n _ _ (by omega)]; (repeat rw [dz_wi_n _ _ (by omega)]); exact y12 q hq hq3), (fun q hq => by (repeat rw [dz_wi_n _ _ (by omega)]); exact y13 q hq)⟩, rfl, (fun c k h1 h2 => by (repeat rw [dz_wi_n _ _ (by omega)])), (fun k => by (repeat rw [dz_wi_n _ _ (by omega)])), by first | exact Or.inl rfl | exact Or.inr ⟨by (repeat rw [dz_wi_n _ _ (by omega)]), by rw [sn_hand, dz_B1 hok]; exact ⟨rfl, rfl, rfl, rfl, rfl, rfl, rfl, rfl, rfl, funext fun q => hand_same (show k < 2 ^ 31 by omega) c44, rfl, rfl⟩⟩⟩
      · refine dr_aload_n 47 hV dX4_hand_47 rfl ?_
        refine dr_iconst (v := nI 1) 48 hV dX4_hand_48 (by decide) ?_
        refine dr_puti 49 hV dX4_hand_49 (by decide) (by decide) rfl rfl rfl rfl rfl rfl ?_
        refine dr_aload_n 52 hV dX4_hand_52 rfl ?_
        refine dr_geta 53 hV dX4_hand_53 (by decide) (by decide) rfl rfl rfl ?_
        refine dr_iload_n 56 hV dX4_hand_56 rfl ?_
        refine dr_iload_n 57 hV dX4_hand_57 rfl ?_
        refine dr_cv2 58 hV dz_lX4_104 dX4_hand_58 (by decide) (by decide) ⟨by decide, _, _, rfl, by decide, rfl⟩ (Nat.le_of_ble_eq_true rfl) (c_X3_tell π d _ _ (show k < 8 by omega)) (fun r I2 J2 hf => ?_)
        obtain ⟨rfl, rfl, rfl⟩ := hf
        refine dr_iconst (v := nI 1) 61 hV dX4_hand_61 (by decide) ?_
        exact dr_iret 62 hV dX4_hand_62 rfl (by first | rfl | exact dz_bn) ⟨by rw [← dz_bpt (P := ok_hand s (nI k) d) hok], by rw [sn_hand, dz_B1 hok]; exact ⟨(by (repeat rw [dz_wi_n _ _ (by omega)]); exact y1), (by (repeat rw [dz_wi_n _ _ (by omega)]); exact y2), (by (repeat rw [dz_wi_n _ _ (by omega)]); exact y3), (by (repeat rw [dz_wi_n _ _ (by omega)]); exact y4), (by (repeat rw [dz_wi_n _ _ (by omega)]); exact y5), (by (repeat rw [dz_wi_n _ _ (by omega)]); exact y6), (by (repeat rw [dz_wi_n _ _ (by omega)]); exact y7), (fun k hk => by (repeat rw [dz_wi_n _ _ (by omega)]); exact y8 k hk), (fun d w hd hw => by (repeat rw [dz_wi_n _ _ (by omega)]); exact y9 d w hd hw), (fun k hk => ⟨by (repeat rw [dz_wi_n _ _ (by omega)]); exact (y10 k hk).1, by (repeat rw [dz_wi_n _ _ (by omega)]); exact (y10 k hk).2.1, by (repeat rw [dz_wi_n _ _ (by omega)]); exact (y10 k hk).2.2.1, by (repeat rw [dz_wi_n _ _ (by omega)]); exact (y10 k hk).2.2.2⟩), (fun q hq => ⟨by (repeat rw [dz_wi_n _ _ (by omega)]); exact (y11 q hq).1, by show _ = (if q = (nI k).toNatClampNeg then d else sg_wo s q); rw [nI_clamp (by omega)]; exact hand_y (by (repeat rw [dz_wi_n _ _ (by omega)]); exact (y11 q hq).2)⟩), (fun q hq hq2 => by have hq3 : sg_p s ≤ q := hq2; rw [dz_wi_n _ _ (by omega)]; (repeat rw [dz_wi_n _ _ (by omega)]); exact y12 q hq hq3), (fun q hq => by (repeat rw [dz_wi_n _ _ (by omega)]); exact y13 q hq)⟩, rfl, (fun c k h1 h2 => by (repeat rw [dz_wi_n _ _ (by omega)])), (fun k => by (repeat rw [dz_wi_n _ _ (by omega)])), by first | exact Or.inl rfl | exact Or.inr ⟨by (repeat rw [dz_wi_n _ _ (by omega)]), by rw [sn_hand, dz_B1 hok]; exact ⟨rfl, rfl, rfl, rfl, rfl, rfl, rfl, rfl, rfl, funext fun q => hand_same (show k < 2 ^ 31 by omega) c44, rfl, rfl⟩⟩⟩
    · refine dr_iload_n 16 hV dX4_hand_16 rfl ?_
      refine dr_bipush (v := nI 10) 17 hV dX4_hand_17 (by decide) ?_
      refine dr_icmp_eq (tgt := 35) 19 hV dX4_hand_19 (by decide) (fun c19 => ?_) (fun c19 => ?_)
      · have hok : ok_hand s p d := by unfold ok_hand; rw [y3, y1] at *; grind
        obtain ⟨k, hk, rfl⟩ := dz_ofI y3 (by omega) c8
        refine dr_iload_n 35 hV dX4_hand_35 rfl ?_
        refine dr_aload_n 36 hV dX4_hand_36 rfl ?_
        refine dr_geta 37 hV dX4_hand_37 (by decide) (by decide) rfl rfl rfl ?_
        refine dr_iload_n 40 hV dX4_hand_40 rfl ?_
        refine dr_cvp1 41 hV dz_lX4_100 dX4_hand_41 (by decide) (by decide) ⟨by decide, _, _, rfl, by decide, rfl⟩ (Nat.le_of_ble_eq_true rfl) (c_X3_toldOf π _ _ (show k < 8 by omega)) ?_
        rw [(y11 k hk).2]
        refine dr_icmp_eq (tgt := 52) 44 hV dX4_hand_44 (by decide) (fun c44 => ?_) (fun c44 => ?_)
        · refine dr_aload_n 52 hV dX4_hand_52 rfl ?_
          refine dr_geta 53 hV dX4_hand_53 (by decide) (by decide) rfl rfl rfl ?_
          refine dr_iload_n 56 hV dX4_hand_56 rfl ?_
          refine dr_iload_n 57 hV dX4_hand_57 rfl ?_
          refine dr_cv2 58 hV dz_lX4_104 dX4_hand_58 (by decide) (by decide) ⟨by decide, _, _, rfl, by decide, rfl⟩ (Nat.le_of_ble_eq_true rfl) (c_X3_tell π d _ _ (show k < 8 by omega)) (fun r I2 J2 hf => ?_)
          obtain ⟨rfl, rfl, rfl⟩ := hf
          refine dr_iconst (v := nI 1) 61 hV dX4_hand_61 (by decide) ?_
          exact dr_iret 62 hV dX4_hand_62 rfl (by first | rfl | exact dz_bn) ⟨by rw [← dz_bpt (P := ok_hand s (nI k) d) hok], by rw [sn_hand, dz_B1 hok]; exact ⟨(by (repeat rw [dz_wi_n _ _ (by omega)]); exact y1), (by (repeat rw [dz_wi_n _ _ (by omega)]); exact y2), (by (repeat rw [dz_wi_n _ _ (by omega)]); exact y3), (by (repeat rw [dz_wi_n _ _ (by omega)]); exact y4), (by (repeat rw [dz_wi_n _ _ (by omega)]); exact y5), (by (repeat rw [dz_wi_n _ _ (by omega)]); exact y6), (by (repeat rw [dz_wi_n _ _ (by omega)]); exact y7), (fun k hk => by (repeat rw [dz_wi_n _ _ (by omega)]); exact y8 k hk), (fun d w hd hw => by (repeat rw [dz_wi_n _ _ (by omega)]); exact y9 d w hd hw), (fun k hk => ⟨by (repeat rw [dz_wi_n _ _ (by omega)]); exact (y10 k hk).1, by (repeat rw [dz_wi_n _ _ (by omega)]); exact (y10 k hk).2.1, by (repeat rw [dz_wi_n _ _ (by omega)]); exact (y10 k hk).2.2.1, by (repeat rw [dz_wi_n _ _ (by omega)]); exact (y10 k hk).2.2.2⟩), (fun q hq => ⟨by (repeat rw [dz_wi_n _ _ (by omega)]); exact (y11 q hq).1, by show _ = (if q = (nI k).toNatClampNeg then d else sg_wo s q); rw [nI_clamp (by omega)]; exact hand_y (by (repeat rw [dz_wi_n _ _ (by omega)]); exact (y11 q hq).2)⟩), (fun q hq hq2 => by have hq3 : sg_p s ≤ q := hq2; rw [dz_wi_n _ _ (by omega)]; (repeat rw [dz_wi_n _ _ (by omega)]); exact y12 q hq hq3), (fun q hq => by (repeat rw [dz_wi_n _ _ (by omega)]); exact y13 q hq)⟩, rfl, (fun c k h1 h2 => by (repeat rw [dz_wi_n _ _ (by omega)])), (fun k => by (repeat rw [dz_wi_n _ _ (by omega)])), by first | exact Or.inl rfl | exact Or.inr ⟨by (repeat rw [dz_wi_n _ _ (by omega)]), by rw [sn_hand, dz_B1 hok]; exact ⟨rfl, rfl, rfl, rfl, rfl, rfl, rfl, rfl, rfl, funext fun q => hand_same (show k < 2 ^ 31 by omega) c44, rfl, rfl⟩⟩⟩
        · refine dr_aload_n 47 hV dX4_hand_47 rfl ?_
          refine dr_iconst (v := nI 1) 48 hV dX4_hand_48 (by decide) ?_
          refine dr_puti 49 hV dX4_hand_49 (by decide) (by decide) rfl rfl rfl rfl rfl rfl ?_
          refine dr_aload_n 52 hV dX4_hand_52 rfl ?_
          refine dr_geta 53 hV dX4_hand_53 (by decide) (by decide) rfl rfl rfl ?_
          refine dr_iload_n 56 hV dX4_hand_56 rfl ?_
          refine dr_iload_n 57 hV dX4_hand_57 rfl ?_
          refine dr_cv2 58 hV dz_lX4_104 dX4_hand_58 (by decide) (by decide) ⟨by decide, _, _, rfl, by decide, rfl⟩ (Nat.le_of_ble_eq_true rfl) (c_X3_tell π d _ _ (show k < 8 by omega)) (fun r I2 J2 hf => ?_)
          obtain ⟨rfl, rfl, rfl⟩ := hf
          refine dr_iconst (v := nI 1) 61 hV dX4_hand_61 (by decide) ?_
          exact dr_iret 62 hV dX4_hand_62 rfl (by first | rfl | exact dz_bn) ⟨by rw [← dz_bpt (P := ok_hand s (nI k) d) hok], by rw [sn_hand, dz_B1 hok]; exact ⟨(by (repeat rw [dz_wi_n _ _ (by omega)]); exact y1), (by (repeat rw [dz_wi_n _ _ (by omega)]); exact y2), (by (repeat rw [dz_wi_n _ _ (by omega)]); exact y3), (by (repeat rw [dz_wi_n _ _ (by omega)]); exact y4), (by (repeat rw [dz_wi_n _ _ (by omega)]); exact y5), (by (repeat rw [dz_wi_n _ _ (by omega)]); exact y6), (by (repeat rw [dz_wi_n _ _ (by omega)]); exact y7), (fun k hk => by (repeat rw [dz_wi_n _ _ (by omega)]); exact y8 k hk), (fun d w hd hw => by (repeat rw [dz_wi_n _ _ (by omega)]); exact y9 d w hd hw), (fun k hk => ⟨by (repeat rw [dz_wi_n _ _ (by omega)]); exact (y10 k hk).1, by (repeat rw [dz_wi_n _ _ (by omega)]); exact (y10 k hk).2.1, by (repeat rw [dz_wi_n _ _ (by omega)]); exact (y10 k hk).2.2.1, by (repeat rw [dz_wi_n _ _ (by omega)]); exact (y10 k hk).2.2.2⟩), (fun q hq => ⟨by (repeat rw [dz_wi_n _ _ (by omega)]); exact (y11 q hq).1, by show _ = (if q = (nI k).toNatClampNeg then d else sg_wo s q); rw [nI_clamp (by omega)]; exact hand_y (by (repeat rw [dz_wi_n _ _ (by omega)]); exact (y11 q hq).2)⟩), (fun q hq hq2 => by have hq3 : sg_p s ≤ q := hq2; rw [dz_wi_n _ _ (by omega)]; (repeat rw [dz_wi_n _ _ (by omega)]); exact y12 q hq hq3), (fun q hq => by (repeat rw [dz_wi_n _ _ (by omega)]); exact y13 q hq)⟩, rfl, (fun c k h1 h2 => by (repeat rw [dz_wi_n _ _ (by omega)])), (fun k => by (repeat rw [dz_wi_n _ _ (by omega)])), by first | exact Or.inl rfl | exact Or.inr ⟨by (repeat rw [dz_wi_n _ _ (by omega)]), by rw [sn_hand, dz_B1 hok]; exact ⟨rfl, rfl, rfl, rfl, rfl, rfl, rfl, rfl, rfl, funext fun q => hand_same (show k < 2 ^ 31 by omega) c44, rfl, rfl⟩⟩⟩
      · refine dr_aload_n 22 hV dX4_hand_22 rfl ?_
        refine dr_geta 23 hV dX4_hand_23 (by decide) (by decide) rfl rfl rfl ?_
        refine dr_iload_n 26 hV dX4_hand_26 rfl ?_
        refine dr_cvp1 27 hV dz_lX4_86 dX4_hand_27 (by decide) (by decide) ⟨by decide, _, _, rfl, by decide, rfl⟩ (Nat.le_of_ble_eq_true rfl) (c_X1_has π _ _ _) ?_
        first | refine dr_ifb_ne (tgt := 35) 30 hV dX4_hand_30 (by decide) (fun c30 => ?_) (fun c30 => ?_) | refine dr_if_ne (tgt := 35) 30 hV dX4_hand_30 (by decide) (fun c30 => ?_) (fun c30 => ?_)
        · have hok : ok_hand s p d := by unfold ok_hand; rw [y3, y1] at *; grind
          obtain ⟨k, hk, rfl⟩ := dz_ofI y3 (by omega) c8
          refine dr_iload_n 35 hV dX4_hand_35 rfl ?_
          refine dr_aload_n 36 hV dX4_hand_36 rfl ?_
          refine dr_geta 37 hV dX4_hand_37 (by decide) (by decide) rfl rfl rfl ?_
          refine dr_iload_n 40 hV dX4_hand_40 rfl ?_
          refine dr_cvp1 41 hV dz_lX4_100 dX4_hand_41 (by decide) (by decide) ⟨by decide, _, _, rfl, by decide, rfl⟩ (Nat.le_of_ble_eq_true rfl) (c_X3_toldOf π _ _ (show k < 8 by omega)) ?_
          rw [(y11 k hk).2]
          refine dr_icmp_eq (tgt := 52) 44 hV dX4_hand_44 (by decide) (fun c44 => ?_) (fun c44 => ?_)
          · refine dr_aload_n 52 hV dX4_hand_52 rfl ?_
            refine dr_geta 53 hV dX4_hand_53 (by decide) (by decide) rfl rfl rfl ?_
            refine dr_iload_n 56 hV dX4_hand_56 rfl ?_
            refine dr_iload_n 57 hV dX4_hand_57 rfl ?_
            refine dr_cv2 58 hV dz_lX4_104 dX4_hand_58 (by decide) (by decide) ⟨by decide, _, _, rfl, by decide, rfl⟩ (Nat.le_of_ble_eq_true rfl) (c_X3_tell π d _ _ (show k < 8 by omega)) (fun r I2 J2 hf => ?_)
            obtain ⟨rfl, rfl, rfl⟩ := hf
            refine dr_iconst (v := nI 1) 61 hV dX4_hand_61 (by decide) ?_
            exact dr_iret 62 hV dX4_hand_62 rfl (by first | rfl | exact dz_bn) ⟨by rw [← dz_bpt (P := ok_hand s (nI k) d) hok], by rw [sn_hand, dz_B1 hok]; exact ⟨(by (repeat rw [dz_wi_n _ _ (by omega)]); exact y1), (by (repeat rw [dz_wi_n _ _ (by omega)]); exact y2), (by (repeat rw [dz_wi_n _ _ (by omega)]); exact y3), (by (repeat rw [dz_wi_n _ _ (by omega)]); exact y4), (by (repeat rw [dz_wi_n _ _ (by omega)]); exact y5), (by (repeat rw [dz_wi_n _ _ (by omega)]); exact y6), (by (repeat rw [dz_wi_n _ _ (by omega)]); exact y7), (fun k hk => by (repeat rw [dz_wi_n _ _ (by omega)]); exact y8 k hk), (fun d w hd hw => by (repeat rw [dz_wi_n _ _ (by omega)]); exact y9 d w hd hw), (fun k hk => ⟨by (repeat rw [dz_wi_n _ _ (by omega)]); exact (y10 k hk).1, by (repeat rw [dz_wi_n _ _ (by omega)]); exact (y10 k hk).2.1, by (repeat rw [dz_wi_n _ _ (by omega)]); exact (y10 k hk).2.2.1, by (repeat rw [dz_wi_n _ _ (by omega)]); exact (y10 k hk).2.2.2⟩), (fun q hq => ⟨by (repeat rw [dz_wi_n _ _ (by omega)]); exact (y11 q hq).1, by show _ = (if q = (nI k).toNatClampNeg then d else sg_wo s q); rw [nI_clamp (by omega)]; exact hand_y (by (repeat rw [dz_wi_n _ _ (by omega)]); exact (y11 q hq).2)⟩), (fun q hq hq2 => by have hq3 : sg_p s ≤ q := hq2; rw [dz_wi_n _ _ (by omega)]; (repeat rw [dz_wi_n _ _ (by omega)]); exact y12 q hq hq3), (fun q hq => by (repeat rw [dz_wi_n _ _ (by omega)]); exact y13 q hq)⟩, rfl, (fun c k h1 h2 => by (repeat rw [dz_wi_n _ _ (by omega)])), (fun k => by (repeat rw [dz_wi_n _ _ (by omega)])), by first | exact Or.inl rfl | exact Or.inr ⟨by (repeat rw [dz_wi_n _ _ (by omega)]), by rw [sn_hand, dz_B1 hok]; exact ⟨rfl, rfl, rfl, rfl, rfl, rfl, rfl, rfl, rfl, funext fun q => hand_same (show k < 2 ^ 31 by omega) c44, rfl, rfl⟩⟩⟩
          · refine dr_aload_n 47 hV dX4_hand_47 rfl ?_
            refine dr_iconst (v := nI 1) 48 hV dX4_hand_48 (by decide) ?_
            refine dr_puti 49 hV dX4_hand_49 (by decide) (by decide) rfl rfl rfl rfl rfl rfl ?_
            refine dr_aload_n 52 hV dX4_hand_52 rfl ?_
            refine dr_geta 53 hV dX4_hand_53 (by decide) (by decide) rfl rfl rfl ?_
            refine dr_iload_n 56 hV dX4_hand_56 rfl ?_
            refine dr_iload_n 57 hV dX4_hand_57 rfl ?_
            refine dr_cv2 58 hV dz_lX4_104 dX4_hand_58 (by decide) (by decide) ⟨by decide, _, _, rfl, by decide, rfl⟩ (Nat.le_of_ble_eq_true rfl) (c_X3_tell π d _ _ (show k < 8 by omega)) (fun r I2 J2 hf => ?_)
            obtain ⟨rfl, rfl, rfl⟩ := hf
            refine dr_iconst (v := nI 1) 61 hV dX4_hand_61 (by decide) ?_
            exact dr_iret 62 hV dX4_hand_62 rfl (by first | rfl | exact dz_bn) ⟨by rw [← dz_bpt (P := ok_hand s (nI k) d) hok], by rw [sn_hand, dz_B1 hok]; exact ⟨(by (repeat rw [dz_wi_n _ _ (by omega)]); exact y1), (by (repeat rw [dz_wi_n _ _ (by omega)]); exact y2), (by (repeat rw [dz_wi_n _ _ (by omega)]); exact y3), (by (repeat rw [dz_wi_n _ _ (by omega)]); exact y4), (by (repeat rw [dz_wi_n _ _ (by omega)]); exact y5), (by (repeat rw [dz_wi_n _ _ (by omega)]); exact y6), (by (repeat rw [dz_wi_n _ _ (by omega)]); exact y7), (fun k hk => by (repeat rw [dz_wi_n _ _ (by omega)]); exact y8 k hk), (fun d w hd hw => by (repeat rw [dz_wi_n _ _ (by omega)]); exact y9 d w hd hw), (fun k hk => ⟨by (repeat rw [dz_wi_n _ _ (by omega)]); exact (y10 k hk).1, by (repeat rw [dz_wi_n _ _ (by omega)]); exact (y10 k hk).2.1, by (repeat rw [dz_wi_n _ _ (by omega)]); exact (y10 k hk).2.2.1, by (repeat rw [dz_wi_n _ _ (by omega)]); exact (y10 k hk).2.2.2⟩), (fun q hq => ⟨by (repeat rw [dz_wi_n _ _ (by omega)]); exact (y11 q hq).1, by show _ = (if q = (nI k).toNatClampNeg then d else sg_wo s q); rw [nI_clamp (by omega)]; exact hand_y (by (repeat rw [dz_wi_n _ _ (by omega)]); exact (y11 q hq).2)⟩), (fun q hq hq2 => by have hq3 : sg_p s ≤ q := hq2; rw [dz_wi_n _ _ (by omega)]; (repeat rw [dz_wi_n _ _ (by omega)]); exact y12 q hq hq3), (fun q hq => by (repeat rw [dz_wi_n _ _ (by omega)]); exact y13 q hq)⟩, rfl, (fun c k h1 h2 => by (repeat rw [dz_wi_n _ _ (by omega)])), (fun k => by (repeat rw [dz_wi_n _ _ (by omega)])), by first | exact Or.inl rfl | exact Or.inr ⟨by (repeat rw [dz_wi_n _ _ (by omega)]), by rw [sn_hand, dz_B1 hok]; exact ⟨rfl, rfl, rfl, rfl, rfl, rfl, rfl, rfl, rfl, funext fun q => hand_same (show k < 2 ^ 31 by omega) c44, rfl, rfl⟩⟩⟩
        · refine dr_iconst (v := nI 0) 33 hV dX4_hand_33 (by decide) ?_
          exact dr_iret 34 hV dX4_hand_34 rfl (by first | rfl | exact dz_bn) ⟨by rw [← dz_bpf (P := ok_hand s p d) (by unfold ok_hand; rw [y3, y1] at *; grind)], by rw [sn_hand, dz_B0 (by unfold ok_hand; rw [y3, y1] at *; grind)]; exact hR2, rfl, fun _ _ _ _ => rfl, fun _ => rfl, Or.inr ⟨rfl, by rw [sn_hand, dz_B0 (by unfold ok_hand; rw [y3, y1] at *; grind)]; exact sg_eqp.rf s⟩⟩
theorem bar_bits {x d : Nat} (b : Bool) (hx : x < 1024) (hd : d < 10) : ∃ y, y < 1024 ∧ (∀ i, i < 10 → y.testBit i = if i = d then b else x.testBit i) ∧ nI y = (if b = true then (nI x &&& (nI (2 ^ d) ^^^ -1)) ||| nI (2 ^ d) else nI x &&& (nI (2 ^ d) ^^^ -1)) := by
  have hm : (-1 : Int32) = nI (2 ^ 32 - 1) := by decide
  have hp : 2 ^ d < 2 ^ 10 := Nat.pow_lt_pow_right (by decide) hd
  have hb : ∀ i, i < 10 → (x &&& (2 ^ d ^^^ (2 ^ 32 - 1))).testBit i = (x.testBit i && !decide (i = d)) := fun i hi => by
    rw [Nat.testBit_and, Nat.testBit_xor, Nat.testBit_two_pow, Nat.testBit_two_pow_sub_one]
    have h32 : i < 32 := by omega
    by_cases e : d = i
    · simp [e, h32]
    · simp [e, Ne.symm e, h32]
  have hl : x &&& (2 ^ d ^^^ (2 ^ 32 - 1)) < 1024 := Nat.lt_of_le_of_lt Nat.and_le_left hx
  rw [hm, fb_xorI, fa_and, fa_or]
  cases b with
  | true =>
    refine ⟨(x &&& (2 ^ d ^^^ (2 ^ 32 - 1))) ||| 2 ^ d, Nat.or_lt_two_pow (n := 10) hl hp, fun i hi => ?_, by rw [if_pos rfl]⟩
    rw [fb_bit_set, hb i hi]
    by_cases e : i = d <;> simp [e]
  | false =>
    refine ⟨x &&& (2 ^ d ^^^ (2 ^ 32 - 1)), hl, fun i hi => ?_, by simp⟩
    rw [hb i hi]
    by_cases e : i = d <;> simp [e]
set_option maxRecDepth 100000 in
set_option maxHeartbeats 4000000 in
theorem c_X3_bar (π : dz_Pl) {k x d : Nat} (b : Bool) (I : dz_MI) (J : dz_MJ) (hk : k < 8) (hx : I 14 k = nI x) (hx2 : x < 1024) (hd : d < 10) : dz_Cl π dz_Y 62 mX3_bar 1 20 [.inr (.inr 3), .inl (nI k), .inl (nI d), .inl (dz_b (b = true))] I J (fun r I2 J2 => ∃ y, y < 1024 ∧ (∀ i, i < 10 → y.testBit i = if i = d then b else x.testBit i) ∧ r = none ∧ I2 = dz_wi I 14 k (nI y) ∧ J2 = J) := by
  refine dz_body (own := 3) dz_mX3_bar rfl (Nat.le_of_ble_eq_true rfl) (fun V hV => ?_)
  obtain ⟨y, h1, h2, h3⟩ := bar_bits b hx2 hd
  refine dr_iload_n 0 hV dX3_bar_0 rfl ?_
  refine dr_csp1 1 hV (Or.inl dz_lX3_18) dX3_bar_1 (by decide) (by decide) (Nat.le_of_ble_eq_true rfl) (c_X3_isRow π _ _ _ _ _) ?_
  first | refine dr_ifb_eq (tgt := 42) 4 hV dX3_bar_4 (by decide) (fun c4 => ?_) (fun c4 => ?_) | refine dr_if_eq (tgt := 42) 4 hV dX3_bar_4 (by decide) (fun c4 => ?_) (fun c4 => ?_)
  · exact absurd (dz_inI rfl hk (by decide)) c4
  · refine dr_aload_n 7 hV dX3_bar_7 rfl ?_
    refine dr_geta 8 hV dX3_bar_8 (by decide) (by decide) rfl rfl rfl ?_
    refine dr_iload_n 11 hV dX3_bar_11 rfl ?_
    refine dr_iald 12 hV dX3_bar_12 (by decide) rfl rfl (by omega) (by decide) hx ?_
    refine dr_iconst (v := nI 1) 13 hV dX3_bar_13 (by decide) ?_
    refine dr_iload_n 14 hV dX3_bar_14 rfl ?_
    refine dr_ishl (z := nI (2 ^ d)) 15 hV dX3_bar_15 (dz_s1 (by omega)) ?_
    refine dr_iconst (v := (-1)) 16 hV dX3_bar_16 (by decide) ?_
    refine dr_ixor 17 hV dX3_bar_17 rfl ?_
    refine dr_iand 18 hV dX3_bar_18 rfl ?_
    refine dr_istore 19 hV dX3_bar_19 (by decide) ?_
    refine dr_aload_n 21 hV dX3_bar_21 rfl ?_
    refine dr_geta 22 hV dX3_bar_22 (by decide) (by decide) rfl rfl rfl ?_
    refine dr_iload_n 25 hV dX3_bar_25 rfl ?_
    refine dr_iload_n 26 hV dX3_bar_26 rfl ?_
    first | refine dr_ifb_eq (tgt := 39) 27 hV dX3_bar_27 (by decide) (fun c27 => ?_) (fun c27 => ?_) | refine dr_if_eq (tgt := 39) 27 hV dX3_bar_27 (by decide) (fun c27 => ?_) (fun c27 => ?_)
    · rw [if_neg c27] at h3
      refine dr_iload 39 hV dX3_bar_39 rfl ?_
      rw [← h3]
      refine dr_iast 41 hV dX3_bar_41 (by decide) rfl rfl (by omega) (by decide) ?_
      exact dr_vret 42 hV dX3_bar_42 rfl ⟨y, h1, h2, rfl, rfl, rfl⟩
    · rw [if_pos c27] at h3
      refine dr_iload 30 hV dX3_bar_30 rfl ?_
      refine dr_iconst (v := nI 1) 32 hV dX3_bar_32 (by decide) ?_
      refine dr_iload_n 33 hV dX3_bar_33 rfl ?_
      refine dr_ishl (z := nI (2 ^ d)) 34 hV dX3_bar_34 (dz_s1 (by omega)) ?_
      refine dr_ior 35 hV dX3_bar_35 rfl ?_
      refine dr_goto (tgt := 41) 36 hV dX3_bar_36 (by decide) ?_
      rw [← h3]
      refine dr_iast 41 hV dX3_bar_41 (by decide) rfl rfl (by omega) (by decide) ?_
      exact dr_vret 42 hV dX3_bar_42 rfl ⟨y, h1, h2, rfl, rfl, rfl⟩
