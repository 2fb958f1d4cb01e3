/-! the model: cracked, tall, told, and what it is told -/
set_option maxRecDepth 100000 in
set_option maxHeartbeats 4000000 in
theorem c_X5_cracked (π : dz_Pl) {s : dz_Sg} (I : dz_MI) (J : dz_MJ) (hO : dz_OK s) (hR : dz_RM s I) : dz_Cl π dz_M 24 mX5_cracked 5 143 [.inr (.inr 0)] I J (dz_Qm s (.inl (q_cracked s))) := by
  refine dz_body (own := 5) dz_mX5_cracked rfl (Nat.le_of_ble_eq_true rfl) (fun V hV => ?_)
  have hO2 := hO
  obtain ⟨o1, o2, o3, o4, o5, o6, o7, o8, o9⟩ := hO
  have hle := sg_L_le s 0 0 10
  refine dr_aload_n 0 hV dX5_cracked_0 rfl ?_
  refine dr_cv0 1 hV dz_lX5_158 dX5_cracked_1 (by decide) (by decide) ⟨by decide, _, _, rfl, by decide, rfl⟩ (Nat.le_of_ble_eq_true rfl) (c_X5_find π _ _ hO2 hR) (fun r I2 J2 hf => ?_)
  obtain ⟨rfl, hR2, hA2, hF2⟩ := hf
  obtain ⟨m1, m2, m3, m4, m5, m6, m7, m8, m9, m10, m11, m12⟩ := id hR2
  first | refine dr_ifb_ne (tgt := 9) 4 hV dX5_cracked_4 (by decide) (fun c4 => ?_) (fun c4 => ?_) | refine dr_if_ne (tgt := 9) 4 hV dX5_cracked_4 (by decide) (fun c4 => ?_) (fun c4 => ?_)
  · have loop : ∀ (fu i : Nat), sg_n s < i + fu → i ≤ sg_n s → V 13 I2 J2 [(0, .inr (.inr 0)), (1, .inl (nI (dz_bits (fun d => dz_B (sg_f s d 8 < q_borne s (nI d))) (i)))), (2, .inl (nI (i)))] [] := by
      intro fu
      induction fu with
      | zero => intro i h1 h2; exact absurd h1 (by omega)
      | succ fu ih =>
        intro i h1 h2
        refine dr_iload_n 13 hV dX5_cracked_13 rfl ?_
        refine dr_aload_n 14 hV dX5_cracked_14 rfl ?_
        refine dr_geti 15 hV dX5_cracked_15 (by decide) (by decide) rfl rfl rfl m1 ?_
        refine dn_icmp_ge (tgt := 51) 18 hV dX5_cracked_18 (by decide) (by omega) (by omega) (fun c18 => ?_) (fun c18 => ?_)
        · refine dr_iload_n 51 hV dX5_cracked_51 rfl ?_
          exact dr_iret 52 hV dX5_cracked_52 rfl (by first | rfl | exact dz_bn) (dz_qm (by clear hV ih; unfold q_cracked; rw [dz_B0 (show ¬ sg_no s from c4), show i = sg_n s by omega]) hR2)
        · refine dr_iload_n 21 hV dX5_cracked_21 rfl ?_
          refine dr_aload_n 22 hV dX5_cracked_22 rfl ?_
          refine dr_iload_n 23 hV dX5_cracked_23 rfl ?_
          refine dr_cvp1 24 hV dz_lX5_165 dX5_cracked_24 (by decide) (by decide) ⟨by decide, _, _, rfl, by decide, rfl⟩ (Nat.le_of_ble_eq_true rfl) (c_X5_borne π (nI i) _ _ hO2 hR2 c4 (hF2 c4)) ?_
          refine dr_aload_n 27 hV dX5_cracked_27 rfl ?_
          refine dr_geta 28 hV dX5_cracked_28 (by decide) (by decide) rfl rfl rfl ?_
          refine dr_iload_n 31 hV dX5_cracked_31 rfl ?_
          refine dr_iald 32 hV dX5_cracked_32 (by decide) rfl rfl (by omega) (by decide) (m9 i 8 (by omega) (by decide)) ?_
          refine dr_icmp_le (tgt := 42) 33 hV dX5_cracked_33 (by decide) (fun c33 => ?_) (fun c33 => ?_)
          · refine dr_iconst (v := nI 0) 42 hV dX5_cracked_42 (by decide) ?_
            refine dr_ior (z := nI (dz_bits (fun d => dz_B (sg_f s d 8 < q_borne s (nI d))) (i + 1))) 43 hV dX5_cracked_43 (by rw [fa_or, Nat.or_zero, dz_bits_n (dz_Bf.mpr (Int32.not_lt.mpr c33))]) ?_
            refine dr_istore_n 44 hV dX5_cracked_44 (by decide) ?_
            refine dr_iinc1 45 hV dX5_cracked_45 (by decide) rfl ?_
            refine dr_goto (tgt := 13) 48 hV dX5_cracked_48 (by decide) ?_
            refine dr_sub hV (ls2 := [(0, .inr (.inr 0)), (1, .inl (nI (dz_bits (fun d => dz_B (sg_f s d 8 < q_borne s (nI d))) (i + 1)))), (2, .inl (nI (i + 1)))]) rfl ?_
            exact ih (i + 1) (by omega) (by omega)
          · refine dr_iconst (v := nI 1) 36 hV dX5_cracked_36 (by decide) ?_
            refine dr_iload_n 37 hV dX5_cracked_37 rfl ?_
            refine dr_ishl 38 hV dX5_cracked_38 rfl ?_
            refine dr_goto (tgt := 43) 39 hV dX5_cracked_39 (by decide) ?_
            refine dr_ior (z := nI (dz_bits (fun d => dz_B (sg_f s d 8 < q_borne s (nI d))) (i + 1))) 43 hV dX5_cracked_43 (dz_bits_s (by omega) (dz_Bt.mpr (Int32.not_le.mp c33))) ?_
            refine dr_istore_n 44 hV dX5_cracked_44 (by decide) ?_
            refine dr_iinc1 45 hV dX5_cracked_45 (by decide) rfl ?_
            refine dr_goto (tgt := 13) 48 hV dX5_cracked_48 (by decide) ?_
            refine dr_sub hV (ls2 := [(0, .inr (.inr 0)), (1, .inl (nI (dz_bits (fun d => dz_B (sg_f s d 8 < q_borne s (nI d))) (i + 1)))), (2, .inl (nI (i + 1)))]) rfl ?_
            exact ih (i + 1) (by omega) (by omega)
    refine dr_iconst (v := nI 0) 9 hV dX5_cracked_9 (by decide) ?_
    refine dr_istore_n 10 hV dX5_cracked_10 (by decide) ?_
    refine dr_iconst (v := nI 0) 11 hV dX5_cracked_11 (by decide) ?_
    refine dr_istore_n 12 hV dX5_cracked_12 (by decide) ?_
    refine dr_sub hV (ls2 := [(0, .inr (.inr 0)), (1, .inl (nI (dz_bits (fun d => dz_B (sg_f s d 8 < q_borne s (nI d))) (0)))), (2, .inl (nI (0)))]) rfl ?_
    exact loop (sg_n s + 1) 0 (by omega) (Nat.zero_le _)
  · refine dr_iconst (v := nI 0) 7 hV dX5_cracked_7 (by decide) ?_
    exact dr_iret 8 hV dX5_cracked_8 rfl (by first | rfl | exact dz_bn) (dz_qm (by clear hV; unfold q_cracked; rw [dz_B1 (show sg_no s from Classical.byContradiction c4)]) hR2)
set_option maxRecDepth 100000 in
set_option maxHeartbeats 4000000 in
theorem c_X5_tall (π : dz_Pl) {s : dz_Sg} (v : Int32) (I : dz_MI) (J : dz_MJ) (hO : dz_OK s) (hR : dz_RM s I) : dz_Cl π dz_M 24 mX5_tall 5 143 [.inr (.inr 0), .inl v] I J (dz_Qm s (.inl (q_tall s v))) := by
  refine dz_body (own := 5) dz_mX5_tall rfl (Nat.le_of_ble_eq_true rfl) (fun V hV => ?_)
  have hO2 := hO
  obtain ⟨o1, o2, o3, o4, o5, o6, o7, o8, o9⟩ := hO
  have hle := sg_L_le s 0 0 10
  refine dr_aload_n 0 hV dX5_tall_0 rfl ?_
  refine dr_cv0 1 hV dz_lX5_158 dX5_tall_1 (by decide) (by decide) ⟨by decide, _, _, rfl, by decide, rfl⟩ (Nat.le_of_ble_eq_true rfl) (c_X5_find π _ _ hO2 hR) (fun r I2 J2 hf => ?_)
  obtain ⟨rfl, hR2, hA2, hF2⟩ := hf
  obtain ⟨m1, m2, m3, m4, m5, m6, m7, m8, m9, m10, m11, m12⟩ := id hR2
  first | refine dr_ifb_eq (tgt := 15) 4 hV dX5_tall_4 (by decide) (fun c4 => ?_) (fun c4 => ?_) | refine dr_if_eq (tgt := 15) 4 hV dX5_tall_4 (by decide) (fun c4 => ?_) (fun c4 => ?_)
  · refine dr_iconst (v := (-1)) 15 hV dX5_tall_15 (by decide) ?_
    exact dr_iret 16 hV dX5_tall_16 rfl (by first | rfl | exact dz_bn) (dz_qm (by clear hV; unfold q_tall; rw [dz_B1 (by rw [m2] at *; grind [sg_no])]) hR2)
  · refine dr_aload_n 7 hV dX5_tall_7 rfl ?_
    refine dr_iload_n 8 hV dX5_tall_8 rfl ?_
    refine dr_cvp1 9 hV dz_lX5_131 dX5_tall_9 (by decide) (by decide) ⟨by decide, _, _, rfl, by decide, rfl⟩ (Nat.le_of_ble_eq_true rfl) (c_X5_isColumn π _ _ _) ?_
    first | refine dr_ifb_ne (tgt := 17) 12 hV dX5_tall_12 (by decide) (fun c12 => ?_) (fun c12 => ?_) | refine dr_if_ne (tgt := 17) 12 hV dX5_tall_12 (by decide) (fun c12 => ?_) (fun c12 => ?_)
    · have hok : ¬ (sg_no s ∨ ¬ (0 ≤ v ∧ v < nI (sg_c s))) := fun z => z.elim c4 (fun y => y (by rw [m2] at c12; exact c12))
      have loop2 : ∀ (fu i : Nat), sg_p s < i + fu → i ≤ sg_p s → V 68 I2 J2 [(0, .inr (.inr 0)), (1, .inl v), (3, .inl (dz_mean (fun d => sg_f s d 3) (sg_n s))), (4, .inl (dz_sumI (fun q => if nI (sg_col s q) = v then sg_hp s (sg_fw s q) else 0) (i))), (5, .inl (nI (i)))] [] := by
        intro fu
        induction fu with
        | zero => intro i h1 h2; exact absurd h1 (by omega)
        | succ fu ih =>
          intro i h1 h2
          refine dr_iload 68 hV dX5_tall_68 rfl ?_
          refine dr_aload_n 70 hV dX5_tall_70 rfl ?_
          refine dr_geti 71 hV dX5_tall_71 (by decide) (by decide) rfl rfl rfl m3 ?_
          refine dn_icmp_ge (tgt := 127) 74 hV dX5_tall_74 (by decide) (by omega) (by omega) (fun c74 => ?_) (fun c74 => ?_)
          · refine dr_iload 127 hV dX5_tall_127 rfl ?_
            exact dr_iret 129 hV dX5_tall_129 rfl (by first | rfl | exact dz_bn) (dz_qm (by clear hV ih; unfold q_tall; rw [dz_B0 hok, show i = sg_p s by omega]) hR2)
          · refine dr_aload_n 77 hV dX5_tall_77 rfl ?_
            refine dr_geta 78 hV dX5_tall_78 (by decide) (by decide) rfl rfl rfl ?_
            refine dr_iload 81 hV dX5_tall_81 rfl ?_
            refine dr_iald 83 hV dX5_tall_83 (by decide) rfl rfl (by omega) (by decide) (m11 i (by omega)).1 ?_
            refine dr_iload_n 84 hV dX5_tall_84 rfl ?_
            refine dr_icmp_ne (tgt := 121) 85 hV dX5_tall_85 (by decide) (fun c85 => ?_) (fun c85 => ?_)
            · have ez : dz_sumI (fun q => if nI (sg_col s q) = v then sg_hp s (sg_fw s q) else 0) (i + 1) = dz_sumI (fun q => if nI (sg_col s q) = v then sg_hp s (sg_fw s q) else 0) i := by
                show dz_sumI (fun q => if nI (sg_col s q) = v then sg_hp s (sg_fw s q) else 0) i + (if nI (sg_col s i) = v then sg_hp s (sg_fw s i) else 0) = _
                rw [if_neg c85]; exact dz_add0 _
              rw [← ez]
              refine dr_iinc1 121 hV dX5_tall_121 (by decide) rfl ?_
              refine dr_goto (tgt := 68) 124 hV dX5_tall_124 (by decide) ?_
              refine dr_sub hV (ls2 := [(0, .inr (.inr 0)), (1, .inl v), (3, .inl (dz_mean (fun d => sg_f s d 3) (sg_n s))), (4, .inl (dz_sumI (fun q => if nI (sg_col s q) = v then sg_hp s (sg_fw s q) else 0) (i + 1))), (5, .inl (nI (i + 1)))]) rfl ?_
              exact ih (i + 1) (by omega) (by omega)
            · have hfi := sg_fw_ok o3 c4 (show i < sg_p s by omega)
              have et : dz_sumI (fun q => if nI (sg_col s q) = v then sg_hp s (sg_fw s q) else 0) (i + 1) = dz_sumI (fun q => if nI (sg_col s q) = v then sg_hp s (sg_fw s q) else 0) i + sg_hp s (sg_fw s i) := by
                show dz_sumI (fun q => if nI (sg_col s q) = v then sg_hp s (sg_fw s q) else 0) i + (if nI (sg_col s i) = v then sg_hp s (sg_fw s i) else 0) = _
                rw [if_pos c85]
              refine dr_iload 88 hV dX5_tall_88 rfl ?_
              refine dr_aload_n 90 hV dX5_tall_90 rfl ?_
              refine dr_geta 91 hV dX5_tall_91 (by decide) (by decide) rfl rfl rfl ?_
              refine dr_iload 94 hV dX5_tall_94 rfl ?_
              refine dr_iald 96 hV dX5_tall_96 (by decide) rfl rfl (by omega) (by decide) (hF2 c4 i (by omega)) ?_
              refine dr_bipush (v := nI 10) 97 hV dX5_tall_97 (by decide) ?_
              refine dn_icmp_ne (tgt := 106) 99 hV dX5_tall_99 (by decide) (by omega) (by omega) (fun c99 => ?_) (fun c99 => ?_)
              · refine dr_aload_n 106 hV dX5_tall_106 rfl ?_
                refine dr_geta 107 hV dX5_tall_107 (by decide) (by decide) rfl rfl rfl ?_
                refine dr_aload_n 110 hV dX5_tall_110 rfl ?_
                refine dr_geta 111 hV dX5_tall_111 (by decide) (by decide) rfl rfl rfl ?_
                refine dr_iload 114 hV dX5_tall_114 rfl ?_
                refine dr_iald 116 hV dX5_tall_116 (by decide) rfl rfl (by omega) (by decide) (hF2 c4 i (by omega)) ?_
                refine dr_iald 117 hV dX5_tall_117 (by decide) rfl rfl (by have := hfi.2.1.1; omega) (by decide) (m9 (sg_fw s i) 3 (by have := hfi.2.1.1; omega) (by decide)) ?_
                refine dr_iadd (z := dz_sumI (fun q => if nI (sg_col s q) = v then sg_hp s (sg_fw s q) else 0) (i + 1)) 118 hV dX5_tall_118 (by rw [et]; unfold sg_hp; simp [c99]) ?_
                refine dr_istore 119 hV dX5_tall_119 (by decide) ?_
                refine dr_iinc1 121 hV dX5_tall_121 (by decide) rfl ?_
                refine dr_goto (tgt := 68) 124 hV dX5_tall_124 (by decide) ?_
                refine dr_sub hV (ls2 := [(0, .inr (.inr 0)), (1, .inl v), (3, .inl (dz_mean (fun d => sg_f s d 3) (sg_n s))), (4, .inl (dz_sumI (fun q => if nI (sg_col s q) = v then sg_hp s (sg_fw s q) else 0) (i + 1))), (5, .inl (nI (i + 1)))]) rfl ?_
                exact ih (i + 1) (by omega) (by omega)
              · refine dr_iload_n 102 hV dX5_tall_102 rfl ?_
                refine dr_goto (tgt := 118) 103 hV dX5_tall_103 (by decide) ?_
                refine dr_iadd (z := dz_sumI (fun q => if nI (sg_col s q) = v then sg_hp s (sg_fw s q) else 0) (i + 1)) 118 hV dX5_tall_118 (by rw [et]; unfold sg_hp; simp [c99]) ?_
                refine dr_istore 119 hV dX5_tall_119 (by decide) ?_
                refine dr_iinc1 121 hV dX5_tall_121 (by decide) rfl ?_
                refine dr_goto (tgt := 68) 124 hV dX5_tall_124 (by decide) ?_
                refine dr_sub hV (ls2 := [(0, .inr (.inr 0)), (1, .inl v), (3, .inl (dz_mean (fun d => sg_f s d 3) (sg_n s))), (4, .inl (dz_sumI (fun q => if nI (sg_col s q) = v then sg_hp s (sg_fw s q) else 0) (i + 1))), (5, .inl (nI (i + 1)))]) rfl ?_
                exact ih (i + 1) (by omega) (by omega)
      have loop1 : ∀ (fu i : Nat), sg_n s < i + fu → i ≤ sg_n s → V 21 I2 J2 [(0, .inr (.inr 0)), (1, .inl v), (2, .inl (dz_sumI (fun d => sg_f s d 3) (i))), (3, .inl (nI (i)))] [] := by
        intro fu
        induction fu with
        | zero => intro i h1 h2; exact absurd h1 (by omega)
        | succ fu ih =>
          intro i h1 h2
          refine dr_iload_n 21 hV dX5_tall_21 rfl ?_
          refine dr_aload_n 22 hV dX5_tall_22 rfl ?_
          refine dr_geti 23 hV dX5_tall_23 (by decide) (by decide) rfl rfl rfl m1 ?_
          refine dn_icmp_ge (tgt := 44) 26 hV dX5_tall_26 (by decide) (by omega) (by omega) (fun c26 => ?_) (fun c26 => ?_)
          · have hin : i = sg_n s := by omega
            subst hin
            refine dr_aload_n 44 hV dX5_tall_44 rfl ?_
            refine dr_geti 45 hV dX5_tall_45 (by decide) (by decide) rfl rfl rfl m1 ?_
            refine dr_if_ne (tgt := 55) 48 hV dX5_tall_48 (by decide) (fun c48 => ?_) (fun c48 => ?_)
            · have hz : ¬ sg_n s = 0 := fun z => c48 (by rw [z]; rfl)
              refine dr_iload_n 55 hV dX5_tall_55 rfl ?_
              refine dr_aload_n 56 hV dX5_tall_56 rfl ?_
              refine dr_geti 57 hV dX5_tall_57 (by decide) (by decide) rfl rfl rfl m1 ?_
              refine dr_idiv (z := dz_mean (fun d => sg_f s d 3) (sg_n s)) 60 hV dX5_tall_60 c48 (by unfold dz_mean; rw [if_neg hz]) ?_
              refine dr_istore_n 61 hV dX5_tall_61 (by decide) ?_
              refine dr_iconst (v := nI 0) 62 hV dX5_tall_62 (by decide) ?_
              refine dr_istore 63 hV dX5_tall_63 (by decide) ?_
              refine dr_iconst (v := nI 0) 65 hV dX5_tall_65 (by decide) ?_
              refine dr_istore 66 hV dX5_tall_66 (by decide) ?_
              refine dr_sub hV (ls2 := [(0, .inr (.inr 0)), (1, .inl v), (3, .inl (dz_mean (fun d => sg_f s d 3) (sg_n s))), (4, .inl (dz_sumI (fun q => if nI (sg_col s q) = v then sg_hp s (sg_fw s q) else 0) (0))), (5, .inl (nI (0)))]) rfl ?_
              exact loop2 (sg_p s + 1) 0 (by omega) (Nat.zero_le _)
            · have hz : sg_n s = 0 := (nI_eq (by omega) (by decide)).mp (by rw [c48]; rfl)
              refine dr_iconst (v := dz_mean (fun d => sg_f s d 3) (sg_n s)) 51 hV dX5_tall_51 (by unfold dz_mean; rw [if_pos hz]; decide) ?_
              refine dr_goto (tgt := 61) 52 hV dX5_tall_52 (by decide) ?_
              refine dr_istore_n 61 hV dX5_tall_61 (by decide) ?_
              refine dr_iconst (v := nI 0) 62 hV dX5_tall_62 (by decide) ?_
              refine dr_istore 63 hV dX5_tall_63 (by decide) ?_
              refine dr_iconst (v := nI 0) 65 hV dX5_tall_65 (by decide) ?_
              refine dr_istore 66 hV dX5_tall_66 (by decide) ?_
              refine dr_sub hV (ls2 := [(0, .inr (.inr 0)), (1, .inl v), (3, .inl (dz_mean (fun d => sg_f s d 3) (sg_n s))), (4, .inl (dz_sumI (fun q => if nI (sg_col s q) = v then sg_hp s (sg_fw s q) else 0) (0))), (5, .inl (nI (0)))]) rfl ?_
              exact loop2 (sg_p s + 1) 0 (by omega) (Nat.zero_le _)
          · refine dr_iload_n 29 hV dX5_tall_29 rfl ?_
            refine dr_aload_n 30 hV dX5_tall_30 rfl ?_
            refine dr_geta 31 hV dX5_tall_31 (by decide) (by decide) rfl rfl rfl ?_
            refine dr_iload_n 34 hV dX5_tall_34 rfl ?_
            refine dr_iald 35 hV dX5_tall_35 (by decide) rfl rfl (by omega) (by decide) (m9 i 3 (by omega) (by decide)) ?_
            refine dr_iadd (z := dz_sumI (fun d => sg_f s d 3) (i + 1)) 36 hV dX5_tall_36 rfl ?_
            refine dr_istore_n 37 hV dX5_tall_37 (by decide) ?_
            refine dr_iinc1 38 hV dX5_tall_38 (by decide) rfl ?_
            refine dr_goto (tgt := 21) 41 hV dX5_tall_41 (by decide) ?_
            refine dr_sub hV (ls2 := [(0, .inr (.inr 0)), (1, .inl v), (2, .inl (dz_sumI (fun d => sg_f s d 3) (i + 1))), (3, .inl (nI (i + 1)))]) rfl ?_
            exact ih (i + 1) (by omega) (by omega)
      refine dr_iconst (v := nI 0) 17 hV dX5_tall_17 (by decide) ?_
      refine dr_istore_n 18 hV dX5_tall_18 (by decide) ?_
      refine dr_iconst (v := nI 0) 19 hV dX5_tall_19 (by decide) ?_
      refine dr_istore_n 20 hV dX5_tall_20 (by decide) ?_
      refine dr_sub hV (ls2 := [(0, .inr (.inr 0)), (1, .inl v), (2, .inl (dz_sumI (fun d => sg_f s d 3) (0))), (3, .inl (nI (0)))]) rfl ?_
      exact loop1 (sg_n s + 1) 0 (by omega) (Nat.zero_le _)
    · refine dr_iconst (v := (-1)) 15 hV dX5_tall_15 (by decide) ?_
      exact dr_iret 16 hV dX5_tall_16 rfl (by first | rfl | exact dz_bn) (dz_qm (by clear hV; unfold q_tall; rw [dz_B1 (by rw [m2] at *; grind [sg_no])]) hR2)
def q_tok (s : dz_Sg) (d w : Int32) : Prop := (0 ≤ d ∧ d < nI (sg_n s)) ∧ (nI 0 ≤ w ∧ w ≤ nI 8)
def q_tPost (s : dz_Sg) (d w : Int32) : Option dz_AV → dz_MI → dz_MJ → Prop := fun r I2 J2 => dz_RM s I2 ∧ (q_tok s d w → r = some (.inl (sg_f s d.toNatClampNeg w.toNatClampNeg)) ∧ I2 0 0 = nI 0) ∧ (¬ q_tok s d w → (∃ x, r = some (.inl x)) ∧ I2 0 0 = nI 1)
theorem dz_w8 {w : Int32} (hw : nI 0 ≤ w ∧ w ≤ nI 8) (h : ∀ j, j ≤ 7 → ¬ w = nI j) : w = nI 8 := by
  have h1 := dz_tswo 7 h (by decide)
  rw [fa_le, fa_le, nI_toInt (by decide), nI_toInt (by decide)] at hw
  rw [fa_eq, nI_toInt (by decide)]
  omega
set_option maxRecDepth 100000 in
set_option maxHeartbeats 4000000 in
theorem c_X5_told (π : dz_Pl) {s : dz_Sg} (d w : Int32) (I : dz_MI) (J : dz_MJ) (hO : dz_OK s) (hR : dz_RM s I) : dz_Cl π dz_M 24 mX5_told 1 22 [.inr (.inr 0), .inl d, .inl w] I J (q_tPost s d w) := by
  refine dz_body (own := 5) dz_mX5_told rfl (Nat.le_of_ble_eq_true rfl) (fun V hV => ?_)
  have hO2 := hO
  obtain ⟨o1, o2, o3, o4, o5, o6, o7, o8, o9⟩ := hO
  have m1 := hR.1
  refine dr_aload_n 0 hV dX5_told_0 rfl ?_
  refine dr_aload_n 1 hV dX5_told_1 rfl ?_
  refine dr_iload_n 2 hV dX5_told_2 rfl ?_
  refine dr_cvp1 3 hV dz_lX5_124 dX5_told_3 (by decide) (by decide) ⟨by decide, _, _, rfl, by decide, rfl⟩ (Nat.le_of_ble_eq_true rfl) (c_X5_isDrum π _ _ _) ?_
  first | refine dr_ifb_eq (tgt := 23) 6 hV dX5_told_6 (by decide) (fun c6 => ?_) (fun c6 => ?_) | refine dr_if_eq (tgt := 23) 6 hV dX5_told_6 (by decide) (fun c6 => ?_) (fun c6 => ?_)
  · refine dr_iconst (v := nI 1) 23 hV dX5_told_23 (by decide) ?_
    refine dr_puti 24 hV dX5_told_24 (by decide) (by decide) rfl rfl rfl rfl rfl rfl ?_
    have hno : ¬ q_tok s d w := by
      unfold q_tok; rw [m1] at *; grind
    have hR1 := hR.w hO2 (c := 0) (k := 0) (x := nI 1) (Or.inr ⟨rfl, rfl⟩)
    have h00 : dz_wi I 0 0 (nI 1) 0 0 = nI 1 := dz_wi_s _ _ _ _
    generalize dz_wi I 0 0 (nI 1) = I1 at hR1 h00 ⊢
    obtain ⟨m1, m2, m3, m4, m5, m6, m7, m8, m9, m10, m11, m12⟩ := id hR1
    refine dr_aload_n 27 hV dX5_told_27 rfl ?_
    refine dr_geti 28 hV dX5_told_28 (by decide) (by decide) rfl rfl rfl h00 ?_
    refine dr_if_le (tgt := 36) 31 hV dX5_told_31 (by decide) (fun c31 => ?_) (fun c31 => ?_)
    · exact absurd c31 (by decide)
    · refine dr_iconst (v := nI 0) 34 hV dX5_told_34 (by decide) ?_
      exact dr_iret 35 hV dX5_told_35 rfl (by first | rfl | exact dz_bn) ⟨hR1, fun z => absurd z hno, fun _ => ⟨⟨_, rfl⟩, h00⟩⟩
  · refine dr_iload_n 9 hV dX5_told_9 rfl ?_
    refine dr_iconst (v := nI 0) 10 hV dX5_told_10 (by decide) ?_
    refine dr_bipush (v := nI 8) 11 hV dX5_told_11 (by decide) ?_
    refine dr_csp3 13 hV (Or.inl dz_lX5_95) dX5_told_13 (by decide) (by decide) (Nat.le_of_ble_eq_true rfl) (c_X5_isIn π _ _ _ _ _ _ _) ?_
    first | refine dr_ifb_eq (tgt := 23) 16 hV dX5_told_16 (by decide) (fun c16 => ?_) (fun c16 => ?_) | refine dr_if_eq (tgt := 23) 16 hV dX5_told_16 (by decide) (fun c16 => ?_) (fun c16 => ?_)
    · refine dr_iconst (v := nI 1) 23 hV dX5_told_23 (by decide) ?_
      refine dr_puti 24 hV dX5_told_24 (by decide) (by decide) rfl rfl rfl rfl rfl rfl ?_
      have hno : ¬ q_tok s d w := by
        unfold q_tok; rw [m1] at *; grind
      have hR1 := hR.w hO2 (c := 0) (k := 0) (x := nI 1) (Or.inr ⟨rfl, rfl⟩)
      have h00 : dz_wi I 0 0 (nI 1) 0 0 = nI 1 := dz_wi_s _ _ _ _
      generalize dz_wi I 0 0 (nI 1) = I1 at hR1 h00 ⊢
      obtain ⟨m1, m2, m3, m4, m5, m6, m7, m8, m9, m10, m11, m12⟩ := id hR1
      refine dr_aload_n 27 hV dX5_told_27 rfl ?_
      refine dr_geti 28 hV dX5_told_28 (by decide) (by decide) rfl rfl rfl h00 ?_
      refine dr_if_le (tgt := 36) 31 hV dX5_told_31 (by decide) (fun c31 => ?_) (fun c31 => ?_)
      · exact absurd c31 (by decide)
      · refine dr_iconst (v := nI 0) 34 hV dX5_told_34 (by decide) ?_
        exact dr_iret 35 hV dX5_told_35 rfl (by first | rfl | exact dz_bn) ⟨hR1, fun z => absurd z hno, fun _ => ⟨⟨_, rfl⟩, h00⟩⟩
    · refine dr_iconst (v := nI 0) 19 hV dX5_told_19 (by decide) ?_
      refine dr_goto (tgt := 24) 20 hV dX5_told_20 (by decide) ?_
      refine dr_puti 24 hV dX5_told_24 (by decide) (by decide) rfl rfl rfl rfl rfl rfl ?_
      have hok : q_tok s d w := by
        unfold q_tok; rw [m1] at c6; exact ⟨c6, c16⟩
      have hw := hok.2
      have hR1 := hR.w hO2 (c := 0) (k := 0) (x := nI 0) (Or.inr ⟨rfl, rfl⟩)
      have h00 : dz_wi I 0 0 (nI 0) 0 0 = nI 0 := dz_wi_s _ _ _ _
      generalize dz_wi I 0 0 (nI 0) = I1 at hR1 h00 ⊢
      obtain ⟨m1, m2, m3, m4, m5, m6, m7, m8, m9, m10, m11, m12⟩ := id hR1
      obtain ⟨k, hk, rfl⟩ := dz_ofI rfl (by omega) hok.1
      refine dr_aload_n 27 hV dX5_told_27 rfl ?_
      refine dr_geti 28 hV dX5_told_28 (by decide) (by decide) rfl rfl rfl h00 ?_
      refine dr_if_le (tgt := 36) 31 hV dX5_told_31 (by decide) (fun c31 => ?_) (fun c31 => ?_)
      · refine dr_iload_n 36 hV dX5_told_36 rfl ?_
        by_cases w0 : w = nI 0
        · subst w0
          refine dr_tin (tgt := 84) 37 hV dX5_told_37 (by decide) (by decide) (by decide : _ = some (47 : Int)) (by decide) ?_
          refine dr_aload_n 84 hV dX5_told_84 rfl ?_
          refine dr_geta 85 hV dX5_told_85 (by decide) (by decide) rfl rfl rfl ?_
          refine dr_iload_n 88 hV dX5_told_88 rfl ?_
          refine dr_iald 89 hV dX5_told_89 (by decide) rfl rfl (by omega) (by decide) (m9 k 0 hk (by decide)) ?_
          exact dr_iret 90 hV dX5_told_90 rfl (by first | rfl | exact dz_bn) ⟨hR1, fun _ => ⟨by rw [nI_clamp (by omega)]; rfl, h00⟩, fun z => absurd hok z⟩
        by_cases w1 : w = nI 1
        · subst w1
          refine dr_tin (tgt := 91) 37 hV dX5_told_37 (by decide) (by decide) (by decide : _ = some (54 : Int)) (by decide) ?_
          refine dr_aload_n 91 hV dX5_told_91 rfl ?_
          refine dr_geta 92 hV dX5_told_92 (by decide) (by decide) rfl rfl rfl ?_
          refine dr_iload_n 95 hV dX5_told_95 rfl ?_
          refine dr_iald 96 hV dX5_told_96 (by decide) rfl rfl (by omega) (by decide) (m9 k 1 hk (by decide)) ?_
          exact dr_iret 97 hV dX5_told_97 rfl (by first | rfl | exact dz_bn) ⟨hR1, fun _ => ⟨by rw [nI_clamp (by omega)]; rfl, h00⟩, fun z => absurd hok z⟩
        by_cases w2 : w = nI 2
        · subst w2
          refine dr_tin (tgt := 98) 37 hV dX5_told_37 (by decide) (by decide) (by decide : _ = some (61 : Int)) (by decide) ?_
          refine dr_aload_n 98 hV dX5_told_98 rfl ?_
          refine dr_geta 99 hV dX5_told_99 (by decide) (by decide) rfl rfl rfl ?_
          refine dr_iload_n 102 hV dX5_told_102 rfl ?_
          refine dr_iald 103 hV dX5_told_103 (by decide) rfl rfl (by omega) (by decide) (m9 k 2 hk (by decide)) ?_
          exact dr_iret 104 hV dX5_told_104 rfl (by first | rfl | exact dz_bn) ⟨hR1, fun _ => ⟨by rw [nI_clamp (by omega)]; rfl, h00⟩, fun z => absurd hok z⟩
        by_cases w3 : w = nI 3
        · subst w3
          refine dr_tin (tgt := 105) 37 hV dX5_told_37 (by decide) (by decide) (by decide : _ = some (68 : Int)) (by decide) ?_
          refine dr_aload_n 105 hV dX5_told_105 rfl ?_
          refine dr_geta 106 hV dX5_told_106 (by decide) (by decide) rfl rfl rfl ?_
          refine dr_iload_n 109 hV dX5_told_109 rfl ?_
          refine dr_iald 110 hV dX5_told_110 (by decide) rfl rfl (by omega) (by decide) (m9 k 3 hk (by decide)) ?_
          exact dr_iret 111 hV dX5_told_111 rfl (by first | rfl | exact dz_bn) ⟨hR1, fun _ => ⟨by rw [nI_clamp (by omega)]; rfl, h00⟩, fun z => absurd hok z⟩
        by_cases w4 : w = nI 4
        · subst w4
          refine dr_tin (tgt := 112) 37 hV dX5_told_37 (by decide) (by decide) (by decide : _ = some (75 : Int)) (by decide) ?_
          refine dr_aload_n 112 hV dX5_told_112 rfl ?_
          refine dr_geta 113 hV dX5_told_113 (by decide) (by decide) rfl rfl rfl ?_
          refine dr_iload_n 116 hV dX5_told_116 rfl ?_
          refine dr_iald 117 hV dX5_told_117 (by decide) rfl rfl (by omega) (by decide) (m9 k 4 hk (by decide)) ?_
          exact dr_iret 118 hV dX5_told_118 rfl (by first | rfl | exact dz_bn) ⟨hR1, fun _ => ⟨by rw [nI_clamp (by omega)]; rfl, h00⟩, fun z => absurd hok z⟩
        by_cases w5 : w = nI 5
        · subst w5
          refine dr_tin (tgt := 119) 37 hV dX5_told_37 (by decide) (by decide) (by decide : _ = some (82 : Int)) (by decide) ?_
          refine dr_aload_n 119 hV dX5_told_119 rfl ?_
          refine dr_geta 120 hV dX5_told_120 (by decide) (by decide) rfl rfl rfl ?_
          refine dr_iload_n 123 hV dX5_told_123 rfl ?_
          refine dr_iald 124 hV dX5_told_124 (by decide) rfl rfl (by omega) (by decide) (m9 k 5 hk (by decide)) ?_
          exact dr_iret 125 hV dX5_told_125 rfl (by first | rfl | exact dz_bn) ⟨hR1, fun _ => ⟨by rw [nI_clamp (by omega)]; rfl, h00⟩, fun z => absurd hok z⟩
        by_cases w6 : w = nI 6
        · subst w6
          refine dr_tin (tgt := 126) 37 hV dX5_told_37 (by decide) (by decide) (by decide : _ = some (89 : Int)) (by decide) ?_
          refine dr_aload_n 126 hV dX5_told_126 rfl ?_
          refine dr_geta 127 hV dX5_told_127 (by decide) (by decide) rfl rfl rfl ?_
          refine dr_iload_n 130 hV dX5_told_130 rfl ?_
          refine dr_iald 131 hV dX5_told_131 (by decide) rfl rfl (by omega) (by decide) (m9 k 6 hk (by decide)) ?_
          exact dr_iret 132 hV dX5_told_132 rfl (by first | rfl | exact dz_bn) ⟨hR1, fun _ => ⟨by rw [nI_clamp (by omega)]; rfl, h00⟩, fun z => absurd hok z⟩
        by_cases w7 : w = nI 7
        · subst w7
          refine dr_tin (tgt := 133) 37 hV dX5_told_37 (by decide) (by decide) (by decide : _ = some (96 : Int)) (by decide) ?_
          refine dr_aload_n 133 hV dX5_told_133 rfl ?_
          refine dr_geta 134 hV dX5_told_134 (by decide) (by decide) rfl rfl rfl ?_
          refine dr_iload_n 137 hV dX5_told_137 rfl ?_
          refine dr_iald 138 hV dX5_told_138 (by decide) rfl rfl (by omega) (by decide) (m9 k 7 hk (by decide)) ?_
          exact dr_iret 139 hV dX5_told_139 rfl (by first | rfl | exact dz_bn) ⟨hR1, fun _ => ⟨by rw [nI_clamp (by omega)]; rfl, h00⟩, fun z => absurd hok z⟩
        have w8 := dz_w8 hw (fun j hj => by rcases (show j = 0 ∨ j = 1 ∨ j = 2 ∨ j = 3 ∨ j = 4 ∨ j = 5 ∨ j = 6 ∨ j = 7 by omega) with rfl | rfl | rfl | rfl | rfl | rfl | rfl | rfl <;> assumption)
        subst w8
        refine dr_tout (tgt := 140) 37 hV dX5_told_37 (dz_tswo 7 (fun j hj => by rcases (show j = 0 ∨ j = 1 ∨ j = 2 ∨ j = 3 ∨ j = 4 ∨ j = 5 ∨ j = 6 ∨ j = 7 by omega) with rfl | rfl | rfl | rfl | rfl | rfl | rfl | rfl <;> assumption) (by decide)) (by decide) ?_
        refine dr_aload_n 140 hV dX5_told_140 rfl ?_
        refine dr_geta 141 hV dX5_told_141 (by decide) (by decide) rfl rfl rfl ?_
        refine dr_iload_n 144 hV dX5_told_144 rfl ?_
        refine dr_iald 145 hV dX5_told_145 (by decide) rfl rfl (by omega) (by decide) (m9 k 8 hk (by decide)) ?_
        exact dr_iret 146 hV dX5_told_146 rfl (by first | rfl | exact dz_bn) ⟨hR1, fun _ => ⟨by rw [nI_clamp (by omega)]; rfl, h00⟩, fun z => absurd hok z⟩
      · exact absurd (by decide) c31
