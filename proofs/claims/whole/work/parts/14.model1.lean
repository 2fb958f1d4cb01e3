theorem dz_tuM {x r : Nat} (hx : x < 65536) (hr : r < 16) : ((nI x <<< (nI r &&& 31)) ||| (nI x >>> ((nI 16 - nI r) &&& 31))) &&& 65535 = dz_tu (nI x) (nI r) := by
  have hp : 2 ^ r ≤ 2 ^ 15 := Nat.pow_le_pow_right (by decide) (by omega)
  have h2 : x * 2 ^ r < 2 ^ 31 := by
    have := Nat.mul_lt_mul_of_lt_of_le hx hp (by decide)
    omega
  have e1 : nI x <<< (nI r &&& 31) = nI (x * 2 ^ r) := pk_shlN _ r (s_l r (by omega)) (by omega)
  have e2 : nI 16 - nI r = nI (16 - r) := pk_sub (by omega)
  unfold dz_tu
  rw [e1, e2, dz_sh (by omega) (by omega), dz_sh h2 (by decide)]
  have e3 : x * 2 ^ r / 2 ^ 16 = x / 2 ^ (16 - r) := by
    have : 2 ^ 16 = 2 ^ (16 - r) * 2 ^ r := by rw [← Nat.pow_add]; congr 1; omega
    rw [this, Nat.mul_div_mul_right _ _ (Nat.two_pow_pos r)]
  rw [e3]
set_option maxRecDepth 100000 in
set_option maxHeartbeats 4000000 in
theorem c_X5_turnOf (π : dz_Pl) {s : dz_Sg} {k q : Nat} (I : dz_MI) (J : dz_MJ) (hO : dz_OK s) (hR : dz_RM s I) (hk : k < sg_n s) (hq : q < sg_n s) : dz_Cl π dz_M 24 mX5_turnOf 1 40 [.inr (.inr 0), .inl (nI k), .inl (nI q)] I J (dz_Pu (.inl (dz_tO (sg_f s) (sg_tol s) k q)) I J) := by
  refine dz_body (own := 5) dz_mX5_turnOf rfl (Nat.le_of_ble_eq_true rfl) (fun V hV => ?_)
  obtain ⟨o1, o2, o3, o4, o5, o6, o7, o8, o9⟩ := hO
  obtain ⟨m1, m2, m3, m4, m5, m6, m7, m8, m9, m10, m11, m12⟩ := hR
  obtain ⟨x, hx, hx5⟩ := o7 k hk
  have loop : ∀ (fu i : Nat), 16 < i + fu → i ≤ 16 → (¬ (sg_f s q 6 < sg_f s q 6)) → (¬ (sg_f s k 5 = 0 ∨ sg_f s q 6 = 0)) → (¬ (sg_f s k 2 + sg_f s q 2 + sg_tol s < dz_abs (sg_f s k 0 - sg_f s q 1) ∨ ¬ (sg_f s k 4 = 0 ∨ sg_f s q 4 = 0 ∨ sg_f s k 4 = sg_f s q 4))) → (∀ j, j < i → ¬ dz_tu (sg_f s k 5) (nI j) = sg_f s q 6) → V 96 I J [(0, .inr (.inr 0)), (1, .inl (nI k)), (2, .inl (nI q)), (3, .inl (nI (i)))] [] := by
    intro fu
    induction fu with
    | zero => intro i h1 h2; exact absurd h1 (by omega)
    | succ fu ih =>
      intro i h1 h2 hh hz ha hi
      refine dr_iload_n 96 hV dX5_turnOf_96 rfl ?_
      refine dr_bipush (v := nI 16) 97 hV dX5_turnOf_97 (by decide) ?_
      refine dn_icmp_ge (tgt := 146) 99 hV dX5_turnOf_99 (by decide) (by omega) (by omega) (fun c99 => ?_) (fun c99 => ?_)
      · refine dr_iconst (v := (-1)) 146 hV dX5_turnOf_146 (by decide) ?_
        exact dr_iret 147 hV dX5_turnOf_147 rfl (by first | rfl | exact dz_bn) (dz_pue (by clear hV ih; unfold dz_tO dz_lT; rw [if_neg ha, if_neg hz, dz_find_n (fun j hj => by simpa using hi j (by omega))]))
      · refine dr_aload_n 102 hV dX5_turnOf_102 rfl ?_
        refine dr_geta 103 hV dX5_turnOf_103 (by decide) (by decide) rfl rfl rfl ?_
        refine dr_iload_n 106 hV dX5_turnOf_106 rfl ?_
        refine dr_iald 107 hV dX5_turnOf_107 (by decide) rfl rfl (by omega) (by decide) (m9 k 5 (by omega) (by decide)) ?_
        refine dr_iload_n 108 hV dX5_turnOf_108 rfl ?_
        refine dr_ishl 109 hV dX5_turnOf_109 rfl ?_
        refine dr_aload_n 110 hV dX5_turnOf_110 rfl ?_
        refine dr_geta 111 hV dX5_turnOf_111 (by decide) (by decide) rfl rfl rfl ?_
        refine dr_iload_n 114 hV dX5_turnOf_114 rfl ?_
        refine dr_iald 115 hV dX5_turnOf_115 (by decide) rfl rfl (by omega) (by decide) (m9 k 5 (by omega) (by decide)) ?_
        refine dr_bipush (v := nI 16) 116 hV dX5_turnOf_116 (by decide) ?_
        refine dr_iload_n 118 hV dX5_turnOf_118 rfl ?_
        refine dr_isub 119 hV dX5_turnOf_119 rfl ?_
        refine dr_ishr 120 hV dX5_turnOf_120 rfl ?_
        refine dr_ior 121 hV dX5_turnOf_121 rfl ?_
        refine dr_ldc 122 hV dX5_turnOf_122 dz_kX5_116 ?_
        refine dr_iand (z := dz_tu (sg_f s k 5) (nI i)) 124 hV dX5_turnOf_124 (by rw [hx5]; exact dz_tuM hx (by omega)) ?_
        refine dr_istore 125 hV dX5_turnOf_125 (by decide) ?_
        refine dr_iload 127 hV dX5_turnOf_127 rfl ?_
        refine dr_aload_n 129 hV dX5_turnOf_129 rfl ?_
        refine dr_geta 130 hV dX5_turnOf_130 (by decide) (by decide) rfl rfl rfl ?_
        refine dr_iload_n 133 hV dX5_turnOf_133 rfl ?_
        refine dr_iald 134 hV dX5_turnOf_134 (by decide) rfl rfl (by omega) (by decide) (m9 q 6 (by omega) (by decide)) ?_
        refine dr_icmp_ne (tgt := 140) 135 hV dX5_turnOf_135 (by decide) (fun c135 => ?_) (fun c135 => ?_)
        · refine dr_iinc1 140 hV dX5_turnOf_140 (by decide) rfl ?_
          refine dr_goto (tgt := 96) 143 hV dX5_turnOf_143 (by decide) ?_
          refine dr_sub hV (ls2 := [(0, .inr (.inr 0)), (1, .inl (nI k)), (2, .inl (nI q)), (3, .inl (nI (i + 1)))]) rfl ?_
          exact ih (i + 1) (by omega) (by omega) hh hz ha (lt_s hi c135)
        · refine dr_iload_n 138 hV dX5_turnOf_138 rfl ?_
          exact dr_iret 139 hV dX5_turnOf_139 rfl (by first | rfl | exact dz_bn) (dz_pue (by clear hV ih; unfold dz_tO dz_lT; rw [if_neg ha, if_neg hz, dz_find_s c99 (by simpa using c135) (fun j hj => by simpa using hi j hj)]))
  refine dr_aload_n 0 hV dX5_turnOf_0 rfl ?_
  refine dr_geta 1 hV dX5_turnOf_1 (by decide) (by decide) rfl rfl rfl ?_
  refine dr_iload_n 4 hV dX5_turnOf_4 rfl ?_
  refine dr_iald 5 hV dX5_turnOf_5 (by decide) rfl rfl (by omega) (by decide) (m9 k 0 (by omega) (by decide)) ?_
  refine dr_aload_n 6 hV dX5_turnOf_6 rfl ?_
  refine dr_geta 7 hV dX5_turnOf_7 (by decide) (by decide) rfl rfl rfl ?_
  refine dr_iload_n 10 hV dX5_turnOf_10 rfl ?_
  refine dr_iald 11 hV dX5_turnOf_11 (by decide) rfl rfl (by omega) (by decide) (m9 q 1 (by omega) (by decide)) ?_
  refine dr_isub 12 hV dX5_turnOf_12 rfl ?_
  refine dr_absd 13 hV dX5_turnOf_13 dz_j5_118 (by decide) (by decide) (Nat.le_of_ble_eq_true rfl) ?_
  refine dr_aload_n 16 hV dX5_turnOf_16 rfl ?_
  refine dr_geta 17 hV dX5_turnOf_17 (by decide) (by decide) rfl rfl rfl ?_
  refine dr_iload_n 20 hV dX5_turnOf_20 rfl ?_
  refine dr_iald 21 hV dX5_turnOf_21 (by decide) rfl rfl (by omega) (by decide) (m9 k 2 (by omega) (by decide)) ?_
  refine dr_aload_n 22 hV dX5_turnOf_22 rfl ?_
  refine dr_geta 23 hV dX5_turnOf_23 (by decide) (by decide) rfl rfl rfl ?_
  refine dr_iload_n 26 hV dX5_turnOf_26 rfl ?_
  refine dr_iald 27 hV dX5_turnOf_27 (by decide) rfl rfl (by omega) (by decide) (m9 q 2 (by omega) (by decide)) ?_
  refine dr_iadd 28 hV dX5_turnOf_28 rfl ?_
  refine dr_aload_n 29 hV dX5_turnOf_29 rfl ?_
  refine dr_geti 30 hV dX5_turnOf_30 (by decide) (by decide) rfl rfl rfl m4 ?_
  refine dr_iadd 33 hV dX5_turnOf_33 rfl ?_
  refine dr_icmp_le (tgt := 39) 34 hV dX5_turnOf_34 (by decide) (fun c34 => ?_) (fun c34 => ?_)
  · refine dr_aload_n 39 hV dX5_turnOf_39 rfl ?_
    refine dr_geta 40 hV dX5_turnOf_40 (by decide) (by decide) rfl rfl rfl ?_
    refine dr_iload_n 43 hV dX5_turnOf_43 rfl ?_
    refine dr_iald 44 hV dX5_turnOf_44 (by decide) rfl rfl (by omega) (by decide) (m9 k 4 (by omega) (by decide)) ?_
    first | refine dr_ifb_eq (tgt := 74) 45 hV dX5_turnOf_45 (by decide) (fun c45 => ?_) (fun c45 => ?_) | refine dr_if_eq (tgt := 74) 45 hV dX5_turnOf_45 (by decide) (fun c45 => ?_) (fun c45 => ?_)
    · refine dr_aload_n 74 hV dX5_turnOf_74 rfl ?_
      refine dr_geta 75 hV dX5_turnOf_75 (by decide) (by decide) rfl rfl rfl ?_
      refine dr_iload_n 78 hV dX5_turnOf_78 rfl ?_
      refine dr_iald 79 hV dX5_turnOf_79 (by decide) rfl rfl (by omega) (by decide) (m9 k 5 (by omega) (by decide)) ?_
      first | refine dr_ifb_eq (tgt := 92) 80 hV dX5_turnOf_80 (by decide) (fun c80 => ?_) (fun c80 => ?_) | refine dr_if_eq (tgt := 92) 80 hV dX5_turnOf_80 (by decide) (fun c80 => ?_) (fun c80 => ?_)
      · refine dr_iconst (v := nI 0) 92 hV dX5_turnOf_92 (by decide) ?_
        exact dr_iret 93 hV dX5_turnOf_93 rfl (by first | rfl | exact dz_bn) (dz_pue (by clear hV loop; unfold dz_tO dz_lT; rw [if_neg (by grind), if_pos (by grind)]))
      · refine dr_aload_n 83 hV dX5_turnOf_83 rfl ?_
        refine dr_geta 84 hV dX5_turnOf_84 (by decide) (by decide) rfl rfl rfl ?_
        refine dr_iload_n 87 hV dX5_turnOf_87 rfl ?_
        refine dr_iald 88 hV dX5_turnOf_88 (by decide) rfl rfl (by omega) (by decide) (m9 q 6 (by omega) (by decide)) ?_
        first | refine dr_ifb_ne (tgt := 94) 89 hV dX5_turnOf_89 (by decide) (fun c89 => ?_) (fun c89 => ?_) | refine dr_if_ne (tgt := 94) 89 hV dX5_turnOf_89 (by decide) (fun c89 => ?_) (fun c89 => ?_)
        · refine dr_iconst (v := nI 0) 94 hV dX5_turnOf_94 (by decide) ?_
          refine dr_istore_n 95 hV dX5_turnOf_95 (by decide) ?_
          refine dr_sub hV (ls2 := [(0, .inr (.inr 0)), (1, .inl (nI k)), (2, .inl (nI q)), (3, .inl (nI (0)))]) rfl ?_
          exact loop 17 0 (by omega) (by omega) (fun h => absurd h (by simp [fa_lt])) (fun h => h.elim c80 c89) (by grind) (fun j hj => absurd hj (by omega))
        · refine dr_iconst (v := nI 0) 92 hV dX5_turnOf_92 (by decide) ?_
          exact dr_iret 93 hV dX5_turnOf_93 rfl (by first | rfl | exact dz_bn) (dz_pue (by clear hV loop; unfold dz_tO dz_lT; rw [if_neg (by grind), if_pos (by grind)]))
    · refine dr_aload_n 48 hV dX5_turnOf_48 rfl ?_
      refine dr_geta 49 hV dX5_turnOf_49 (by decide) (by decide) rfl rfl rfl ?_
      refine dr_iload_n 52 hV dX5_turnOf_52 rfl ?_
      refine dr_iald 53 hV dX5_turnOf_53 (by decide) rfl rfl (by omega) (by decide) (m9 q 4 (by omega) (by decide)) ?_
      first | refine dr_ifb_eq (tgt := 74) 54 hV dX5_turnOf_54 (by decide) (fun c54 => ?_) (fun c54 => ?_) | refine dr_if_eq (tgt := 74) 54 hV dX5_turnOf_54 (by decide) (fun c54 => ?_) (fun c54 => ?_)
      · refine dr_aload_n 74 hV dX5_turnOf_74 rfl ?_
        refine dr_geta 75 hV dX5_turnOf_75 (by decide) (by decide) rfl rfl rfl ?_
        refine dr_iload_n 78 hV dX5_turnOf_78 rfl ?_
        refine dr_iald 79 hV dX5_turnOf_79 (by decide) rfl rfl (by omega) (by decide) (m9 k 5 (by omega) (by decide)) ?_
        first | refine dr_ifb_eq (tgt := 92) 80 hV dX5_turnOf_80 (by decide) (fun c80 => ?_) (fun c80 => ?_) | refine dr_if_eq (tgt := 92) 80 hV dX5_turnOf_80 (by decide) (fun c80 => ?_) (fun c80 => ?_)
        · refine dr_iconst (v := nI 0) 92 hV dX5_turnOf_92 (by decide) ?_
          exact dr_iret 93 hV dX5_turnOf_93 rfl (by first | rfl | exact dz_bn) (dz_pue (by clear hV loop; unfold dz_tO dz_lT; rw [if_neg (by grind), if_pos (by grind)]))
        · refine dr_aload_n 83 hV dX5_turnOf_83 rfl ?_
          refine dr_geta 84 hV dX5_turnOf_84 (by decide) (by decide) rfl rfl rfl ?_
          refine dr_iload_n 87 hV dX5_turnOf_87 rfl ?_
          refine dr_iald 88 hV dX5_turnOf_88 (by decide) rfl rfl (by omega) (by decide) (m9 q 6 (by omega) (by decide)) ?_
          first | refine dr_ifb_ne (tgt := 94) 89 hV dX5_turnOf_89 (by decide) (fun c89 => ?_) (fun c89 => ?_) | refine dr_if_ne (tgt := 94) 89 hV dX5_turnOf_89 (by decide) (fun c89 => ?_) (fun c89 => ?_)
          · refine dr_iconst (v := nI 0) 94 hV dX5_turnOf_94 (by decide) ?_
            refine dr_istore_n 95 hV dX5_turnOf_95 (by decide) ?_
            refine dr_sub hV (ls2 := [(0, .inr (.inr 0)), (1, .inl (nI k)), (2, .inl (nI q)), (3, .inl (nI (0)))]) rfl ?_
            exact loop 17 0 (by omega) (by omega) (fun h => absurd h (by simp [fa_lt])) (fun h => h.elim c80 c89) (by grind) (fun j hj => absurd hj (by omega))
          · refine dr_iconst (v := nI 0) 92 hV dX5_turnOf_92 (by decide) ?_
            exact dr_iret 93 hV dX5_turnOf_93 rfl (by first | rfl | exact dz_bn) (dz_pue (by clear hV loop; unfold dz_tO dz_lT; rw [if_neg (by grind), if_pos (by grind)]))
      · refine dr_aload_n 57 hV dX5_turnOf_57 rfl ?_
        refine dr_geta 58 hV dX5_turnOf_58 (by decide) (by decide) rfl rfl rfl ?_
        refine dr_iload_n 61 hV dX5_turnOf_61 rfl ?_
        refine dr_iald 62 hV dX5_turnOf_62 (by decide) rfl rfl (by omega) (by decide) (m9 k 4 (by omega) (by decide)) ?_
        refine dr_aload_n 63 hV dX5_turnOf_63 rfl ?_
        refine dr_geta 64 hV dX5_turnOf_64 (by decide) (by decide) rfl rfl rfl ?_
        refine dr_iload_n 67 hV dX5_turnOf_67 rfl ?_
        refine dr_iald 68 hV dX5_turnOf_68 (by decide) rfl rfl (by omega) (by decide) (m9 q 4 (by omega) (by decide)) ?_
        refine dr_icmp_eq (tgt := 74) 69 hV dX5_turnOf_69 (by decide) (fun c69 => ?_) (fun c69 => ?_)
        · refine dr_aload_n 74 hV dX5_turnOf_74 rfl ?_
          refine dr_geta 75 hV dX5_turnOf_75 (by decide) (by decide) rfl rfl rfl ?_
          refine dr_iload_n 78 hV dX5_turnOf_78 rfl ?_
          refine dr_iald 79 hV dX5_turnOf_79 (by decide) rfl rfl (by omega) (by decide) (m9 k 5 (by omega) (by decide)) ?_
          first | refine dr_ifb_eq (tgt := 92) 80 hV dX5_turnOf_80 (by decide) (fun c80 => ?_) (fun c80 => ?_) | refine dr_if_eq (tgt := 92) 80 hV dX5_turnOf_80 (by decide) (fun c80 => ?_) (fun c80 => ?_)
          · refine dr_iconst (v := nI 0) 92 hV dX5_turnOf_92 (by decide) ?_
            exact dr_iret 93 hV dX5_turnOf_93 rfl (by first | rfl | exact dz_bn) (dz_pue (by clear hV loop; unfold dz_tO dz_lT; rw [if_neg (by grind), if_pos (by grind)]))
          · refine dr_aload_n 83 hV dX5_turnOf_83 rfl ?_
            refine dr_geta 84 hV dX5_turnOf_84 (by decide) (by decide) rfl rfl rfl ?_
            refine dr_iload_n 87 hV dX5_turnOf_87 rfl ?_
            refine dr_iald 88 hV dX5_turnOf_88 (by decide) rfl rfl (by omega) (by decide) (m9 q 6 (by omega) (by decide)) ?_
            first | refine dr_ifb_ne (tgt := 94) 89 hV dX5_turnOf_89 (by decide) (fun c89 => ?_) (fun c89 => ?_) | refine dr_if_ne (tgt := 94) 89 hV dX5_turnOf_89 (by decide) (fun c89 => ?_) (fun c89 => ?_)
            · refine dr_iconst (v := nI 0) 94 hV dX5_turnOf_94 (by decide) ?_
              refine dr_istore_n 95 hV dX5_turnOf_95 (by decide) ?_
              refine dr_sub hV (ls2 := [(0, .inr (.inr 0)), (1, .inl (nI k)), (2, .inl (nI q)), (3, .inl (nI (0)))]) rfl ?_
              exact loop 17 0 (by omega) (by omega) (fun h => absurd h (by simp [fa_lt])) (fun h => h.elim c80 c89) (by grind) (fun j hj => absurd hj (by omega))
            · refine dr_iconst (v := nI 0) 92 hV dX5_turnOf_92 (by decide) ?_
              exact dr_iret 93 hV dX5_turnOf_93 rfl (by first | rfl | exact dz_bn) (dz_pue (by clear hV loop; unfold dz_tO dz_lT; rw [if_neg (by grind), if_pos (by grind)]))
        · refine dr_iconst (v := (-1)) 72 hV dX5_turnOf_72 (by decide) ?_
          exact dr_iret 73 hV dX5_turnOf_73 rfl (by first | rfl | exact dz_bn) (dz_pue (by clear hV loop; unfold dz_tO; rw [if_pos (by grind)]))
  · refine dr_iconst (v := (-1)) 37 hV dX5_turnOf_37 (by decide) ?_
    exact dr_iret 38 hV dX5_turnOf_38 rfl (by first | rfl | exact dz_bn) (dz_pue (by clear hV loop; unfold dz_tO; rw [if_pos (by simp only [Int32.not_le] at c34; exact Or.inl c34)]))
theorem dz_bp1 {P : Prop} {I : dz_MI} {J : dz_MJ} (h : P) : dz_Pu (.inl (dz_bp P)) I J (some (.inl (nI 1))) I J := dz_pu1 h
theorem dz_bp0 {P : Prop} {I : dz_MI} {J : dz_MJ} (h : ¬ P) : dz_Pu (.inl (dz_bp P)) I J (some (.inl (nI 0))) I J := dz_pu0 h
theorem dz_bpb {P Q : Prop} {hp : Decidable P} {I : dz_MI} {J : dz_MJ} (h : P ↔ Q) : dz_Pu (.inl (dz_bp Q)) I J (some (.inl (@dz_b P hp))) I J := dz_pub h
set_option maxRecDepth 100000 in
set_option maxHeartbeats 4000000 in
theorem c_X5_fitsFoot (π : dz_Pl) {s : dz_Sg} {k c : Nat} (I : dz_MI) (J : dz_MJ) (hO : dz_OK s) (hR : dz_RM s I) (hk : k < sg_n s) (hc : c < sg_c s) : dz_Cl π dz_M 24 mX5_fitsFoot 1 40 [.inr (.inr 0), .inl (nI k), .inl (nI c)] I J (dz_Pu (.inl (dz_bp (dz_fitp (sg_f s k 0) (sg_fo s c) (sg_f s k 2) (sg_tol s)))) I J) := by
  refine dz_body (own := 5) dz_mX5_fitsFoot rfl (Nat.le_of_ble_eq_true rfl) (fun V hV => ?_)
  obtain ⟨o1, o2, o3, o4, o5, o6, o7, o8, o9⟩ := hO
  obtain ⟨m1, m2, m3, m4, m5, m6, m7, m8, m9, m10, m11, m12⟩ := hR
  refine dr_aload_n 0 hV dX5_fitsFoot_0 rfl ?_
  refine dr_geta 1 hV dX5_fitsFoot_1 (by decide) (by decide) rfl rfl rfl ?_
  refine dr_iload_n 4 hV dX5_fitsFoot_4 rfl ?_
  refine dr_iald 5 hV dX5_fitsFoot_5 (by decide) rfl rfl (by omega) (by decide) (m10 c hc).1 ?_
  first | refine dr_ifb_eq (tgt := 39) 6 hV dX5_fitsFoot_6 (by decide) (fun c6 => ?_) (fun c6 => ?_) | refine dr_if_eq (tgt := 39) 6 hV dX5_fitsFoot_6 (by decide) (fun c6 => ?_) (fun c6 => ?_)
  · refine dr_iconst (v := nI 1) 39 hV dX5_fitsFoot_39 (by decide) ?_
    refine dr_goto (tgt := 44) 40 hV dX5_fitsFoot_40 (by decide) ?_
    exact dr_iret 44 hV dX5_fitsFoot_44 rfl (by first | rfl | exact dz_bn) (by clear hV; first | exact dz_bp1 (by unfold dz_fitp; grind) | exact dz_bp0 (by unfold dz_fitp; grind))
  · refine dr_aload_n 9 hV dX5_fitsFoot_9 rfl ?_
    refine dr_geta 10 hV dX5_fitsFoot_10 (by decide) (by decide) rfl rfl rfl ?_
    refine dr_iload_n 13 hV dX5_fitsFoot_13 rfl ?_
    refine dr_iald 14 hV dX5_fitsFoot_14 (by decide) rfl rfl (by omega) (by decide) (m9 k 0 (by omega) (by decide)) ?_
    refine dr_aload_n 15 hV dX5_fitsFoot_15 rfl ?_
    refine dr_geta 16 hV dX5_fitsFoot_16 (by decide) (by decide) rfl rfl rfl ?_
    refine dr_iload_n 19 hV dX5_fitsFoot_19 rfl ?_
    refine dr_iald 20 hV dX5_fitsFoot_20 (by decide) rfl rfl (by omega) (by decide) (m10 c hc).1 ?_
    refine dr_isub 21 hV dX5_fitsFoot_21 rfl ?_
    refine dr_absd 22 hV dX5_fitsFoot_22 dz_j5_118 (by decide) (by decide) (Nat.le_of_ble_eq_true rfl) ?_
    refine dr_aload_n 25 hV dX5_fitsFoot_25 rfl ?_
    refine dr_geta 26 hV dX5_fitsFoot_26 (by decide) (by decide) rfl rfl rfl ?_
    refine dr_iload_n 29 hV dX5_fitsFoot_29 rfl ?_
    refine dr_iald 30 hV dX5_fitsFoot_30 (by decide) rfl rfl (by omega) (by decide) (m9 k 2 (by omega) (by decide)) ?_
    refine dr_aload_n 31 hV dX5_fitsFoot_31 rfl ?_
    refine dr_geti 32 hV dX5_fitsFoot_32 (by decide) (by decide) rfl rfl rfl m4 ?_
    refine dr_iadd 35 hV dX5_fitsFoot_35 rfl ?_
    refine dr_icmp_gt (tgt := 43) 36 hV dX5_fitsFoot_36 (by decide) (fun c36 => ?_) (fun c36 => ?_)
    · refine dr_iconst (v := nI 0) 43 hV dX5_fitsFoot_43 (by decide) ?_
      exact dr_iret 44 hV dX5_fitsFoot_44 rfl (by first | rfl | exact dz_bn) (by clear hV; first | exact dz_bp1 (by unfold dz_fitp; grind) | exact dz_bp0 (by unfold dz_fitp; grind))
    · refine dr_iconst (v := nI 1) 39 hV dX5_fitsFoot_39 (by decide) ?_
      refine dr_goto (tgt := 44) 40 hV dX5_fitsFoot_40 (by decide) ?_
      exact dr_iret 44 hV dX5_fitsFoot_44 rfl (by first | rfl | exact dz_bn) (by clear hV; first | exact dz_bp1 (by unfold dz_fitp; grind) | exact dz_bp0 (by unfold dz_fitp; grind))
set_option maxRecDepth 100000 in
set_option maxHeartbeats 4000000 in
theorem c_X5_fitsHead (π : dz_Pl) {s : dz_Sg} {k c : Nat} (I : dz_MI) (J : dz_MJ) (hO : dz_OK s) (hR : dz_RM s I) (hk : k < sg_n s) (hc : c < sg_c s) : dz_Cl π dz_M 24 mX5_fitsHead 1 40 [.inr (.inr 0), .inl (nI k), .inl (nI c)] I J (dz_Pu (.inl (dz_bp (dz_fitp (sg_f s k 1) (sg_he s c) (sg_f s k 2) (sg_tol s)))) I J) := by
  refine dz_body (own := 5) dz_mX5_fitsHead rfl (Nat.le_of_ble_eq_true rfl) (fun V hV => ?_)
  obtain ⟨o1, o2, o3, o4, o5, o6, o7, o8, o9⟩ := hO
  obtain ⟨m1, m2, m3, m4, m5, m6, m7, m8, m9, m10, m11, m12⟩ := hR
  refine dr_aload_n 0 hV dX5_fitsHead_0 rfl ?_
  refine dr_geta 1 hV dX5_fitsHead_1 (by decide) (by decide) rfl rfl rfl ?_
  refine dr_iload_n 4 hV dX5_fitsHead_4 rfl ?_
  refine dr_iald 5 hV dX5_fitsHead_5 (by decide) rfl rfl (by omega) (by decide) (m10 c hc).2.1 ?_
  first | refine dr_ifb_eq (tgt := 39) 6 hV dX5_fitsHead_6 (by decide) (fun c6 => ?_) (fun c6 => ?_) | refine dr_if_eq (tgt := 39) 6 hV dX5_fitsHead_6 (by decide) (fun c6 => ?_) (fun c6 => ?_)
  · refine dr_iconst (v := nI 1) 39 hV dX5_fitsHead_39 (by decide) ?_
    refine dr_goto (tgt := 44) 40 hV dX5_fitsHead_40 (by decide) ?_
    exact dr_iret 44 hV dX5_fitsHead_44 rfl (by first | rfl | exact dz_bn) (by clear hV; first | exact dz_bp1 (by unfold dz_fitp; grind) | exact dz_bp0 (by unfold dz_fitp; grind))
  · refine dr_aload_n 9 hV dX5_fitsHead_9 rfl ?_
    refine dr_geta 10 hV dX5_fitsHead_10 (by decide) (by decide) rfl rfl rfl ?_
    refine dr_iload_n 13 hV dX5_fitsHead_13 rfl ?_
    refine dr_iald 14 hV dX5_fitsHead_14 (by decide) rfl rfl (by omega) (by decide) (m9 k 1 (by omega) (by decide)) ?_
    refine dr_aload_n 15 hV dX5_fitsHead_15 rfl ?_
    refine dr_geta 16 hV dX5_fitsHead_16 (by decide) (by decide) rfl rfl rfl ?_
    refine dr_iload_n 19 hV dX5_fitsHead_19 rfl ?_
    refine dr_iald 20 hV dX5_fitsHead_20 (by decide) rfl rfl (by omega) (by decide) (m10 c hc).2.1 ?_
    refine dr_isub 21 hV dX5_fitsHead_21 rfl ?_
    refine dr_absd 22 hV dX5_fitsHead_22 dz_j5_118 (by decide) (by decide) (Nat.le_of_ble_eq_true rfl) ?_
    refine dr_aload_n 25 hV dX5_fitsHead_25 rfl ?_
    refine dr_geta 26 hV dX5_fitsHead_26 (by decide) (by decide) rfl rfl rfl ?_
    refine dr_iload_n 29 hV dX5_fitsHead_29 rfl ?_
    refine dr_iald 30 hV dX5_fitsHead_30 (by decide) rfl rfl (by omega) (by decide) (m9 k 2 (by omega) (by decide)) ?_
    refine dr_aload_n 31 hV dX5_fitsHead_31 rfl ?_
    refine dr_geti 32 hV dX5_fitsHead_32 (by decide) (by decide) rfl rfl rfl m4 ?_
    refine dr_iadd 35 hV dX5_fitsHead_35 rfl ?_
    refine dr_icmp_gt (tgt := 43) 36 hV dX5_fitsHead_36 (by decide) (fun c36 => ?_) (fun c36 => ?_)
    · refine dr_iconst (v := nI 0) 43 hV dX5_fitsHead_43 (by decide) ?_
      exact dr_iret 44 hV dX5_fitsHead_44 rfl (by first | rfl | exact dz_bn) (by clear hV; first | exact dz_bp1 (by unfold dz_fitp; grind) | exact dz_bp0 (by unfold dz_fitp; grind))
    · refine dr_iconst (v := nI 1) 39 hV dX5_fitsHead_39 (by decide) ?_
      refine dr_goto (tgt := 44) 40 hV dX5_fitsHead_40 (by decide) ?_
      exact dr_iret 44 hV dX5_fitsHead_44 rfl (by first | rfl | exact dz_bn) (by clear hV; first | exact dz_bp1 (by unfold dz_fitp; grind) | exact dz_bp0 (by unfold dz_fitp; grind))
set_option maxRecDepth 100000 in
set_option maxHeartbeats 4000000 in
theorem c_X5_may (π : dz_Pl) {s : dz_Sg} {p d u l : Nat} (I : dz_MI) (J : dz_MJ) (hO : dz_OK s) (hR : dz_RM s I) (hp : p < sg_p s) (hd : d = 10 ∨ d < sg_n s) (hu : u < 2 ^ 31) (hl : l = 10 ∨ l < sg_n s) : dz_Cl π dz_M 24 mX5_may 2 64 [.inr (.inr 0), .inl (nI p), .inl (nI d), .inl (nI u), .inl (nI l)] I J (dz_Pu (.inl (dz_bp (sg_may s p d u l))) I J) := by
  refine dz_body (own := 5) dz_mX5_may rfl (Nat.le_of_ble_eq_true rfl) (fun V hV => ?_)
  have hO2 := hO
  have hR2 := hR
  obtain ⟨o1, o2, o3, o4, o5, o6, o7, o8, o9⟩ := hO
  obtain ⟨m1, m2, m3, m4, m5, m6, m7, m8, m9, m10, m11, m12⟩ := hR
  obtain ⟨g1, g2, g3⟩ := o6 p hp
  obtain ⟨g4, g5, g6⟩ := o4 _ g1
  obtain ⟨w1, w2⟩ := m11 p hp
  obtain ⟨k1, k2, k3, k4⟩ := m10 _ g1
  refine dr_aload_n 0 hV dX5_may_0 rfl ?_
  refine dr_geta 1 hV dX5_may_1 (by decide) (by decide) rfl rfl rfl ?_
  refine dr_iload_n 4 hV dX5_may_4 rfl ?_
  refine dr_iald 5 hV dX5_may_5 (by decide) rfl rfl (by omega) (by decide) w2 ?_
  refine dr_iconst (v := (-1)) 6 hV dX5_may_6 (by decide) ?_
  refine dr_icmp_eq (tgt := 22) 7 hV dX5_may_7 (by decide) (fun c7 => ?_) (fun c7 => ?_)
  · refine dr_iload_n 22 hV dX5_may_22 rfl ?_
    refine dr_bipush (v := nI 10) 23 hV dX5_may_23 (by decide) ?_
    refine dn_icmp_ne (tgt := 30) 25 hV dX5_may_25 (by decide) (by omega) (by omega) (fun c25 => ?_) (fun c25 => ?_)
    · refine dr_aload_n 30 hV dX5_may_30 rfl ?_
      refine dr_geta 31 hV dX5_may_31 (by decide) (by decide) rfl rfl rfl ?_
      refine dr_iload_n 34 hV dX5_may_34 rfl ?_
      refine dr_iald 35 hV dX5_may_35 (by decide) rfl rfl (by omega) (by decide) w1 ?_
      refine dr_istore 36 hV dX5_may_36 (by decide) ?_
      refine dr_iload_n 38 hV dX5_may_38 rfl ?_
      refine dr_aload_n 39 hV dX5_may_39 rfl ?_
      refine dr_geta 40 hV dX5_may_40 (by decide) (by decide) rfl rfl rfl ?_
      refine dr_iload 43 hV dX5_may_43 rfl ?_
      refine dr_iald 45 hV dX5_may_45 (by decide) rfl rfl (by omega) (by decide) k3 ?_
      refine dr_mat_ne (P := p = sg_b s (sg_col s p)) 46 hV dX5_may_46 dX5_may_49 dX5_may_50 dX5_may_53 (nI_eq (by omega) (by omega)).symm ?_
      refine dr_istore 54 hV dX5_may_54 (by decide) ?_
      refine dr_iload_n 56 hV dX5_may_56 rfl ?_
      refine dr_aload_n 57 hV dX5_may_57 rfl ?_
      refine dr_geta 58 hV dX5_may_58 (by decide) (by decide) rfl rfl rfl ?_
      refine dr_iload 61 hV dX5_may_61 rfl ?_
      refine dr_iald 63 hV dX5_may_63 (by decide) rfl rfl (by omega) (by decide) k3 ?_
      refine dr_aload_n 64 hV dX5_may_64 rfl ?_
      refine dr_geta 65 hV dX5_may_65 (by decide) (by decide) rfl rfl rfl ?_
      refine dr_iload 68 hV dX5_may_68 rfl ?_
      refine dr_iald 70 hV dX5_may_70 (by decide) rfl rfl (by omega) (by decide) k4 ?_
      refine dr_iadd (z := nI (sg_b s (sg_col s p) + sg_h s (sg_col s p))) 71 hV dX5_may_71 (nI_add _ _) ?_
      refine dr_iconst (v := nI 1) 72 hV dX5_may_72 (by decide) ?_
      refine dr_isub (z := nI (sg_b s (sg_col s p) + sg_h s (sg_col s p) - 1)) 73 hV dX5_may_73 (pk_sub (by omega)) ?_
      refine dr_mat_ne (P := p + 1 = sg_b s (sg_col s p) + sg_h s (sg_col s p)) 74 hV dX5_may_74 dX5_may_77 dX5_may_78 dX5_may_81 (by rw [nI_eq (by omega) (by omega)]; omega) ?_
      refine dr_istore 82 hV dX5_may_82 (by decide) ?_
      refine dr_iload_n 84 hV dX5_may_84 rfl ?_
      refine dr_iload_n 85 hV dX5_may_85 rfl ?_
      refine dr_ishr 86 hV dX5_may_86 rfl ?_
      refine dr_iconst (v := nI 1) 87 hV dX5_may_87 (by decide) ?_
      refine dr_iand (z := nI (u / 2 ^ d % 2)) 88 hV dX5_may_88 (dz_hb hu (by omega)) ?_
      refine dr_iconst (v := nI 1) 89 hV dX5_may_89 (by decide) ?_
      refine dn_icmp_eq (tgt := 137) 90 hV dX5_may_90 (by decide) (by omega) (by omega) (fun c90 => ?_) (fun c90 => ?_)
      · have ht : u.testBit d = true := by rw [dz_tb]; simp [c90]
        refine dr_iconst (v := nI 0) 137 hV dX5_may_137 (by decide) ?_
        exact dr_iret 138 hV dX5_may_138 rfl (by first | rfl | exact dz_bn) (by clear hV; first | exact dz_bp1 (by unfold sg_may sg_at sg_foot sg_head; grind) | exact dz_bp0 (by unfold sg_may sg_at sg_foot sg_head; grind))
      · have ht : u.testBit d = false := by rw [dz_tb]; simp [c90]
        refine dr_aload_n 93 hV dX5_may_93 rfl ?_
        refine dr_geta 94 hV dX5_may_94 (by decide) (by decide) rfl rfl rfl ?_
        refine dr_bipush (v := nI 10) 97 hV dX5_may_97 (by decide) ?_
        refine dr_iload_n 99 hV dX5_may_99 rfl ?_
        refine dr_imul (z := nI (10 * p)) 100 hV dX5_may_100 (pk_mul _ _) ?_
        refine dr_iload_n 101 hV dX5_may_101 rfl ?_
        refine dr_iadd (z := nI (10 * p + d)) 102 hV dX5_may_102 (nI_add _ _) ?_
        refine dr_zald 103 hV dX5_may_103 (by decide) rfl rfl (by omega) (by decide) (m12 p d (by omega) (by omega)) ?_
        first | refine dr_ifb_ne (tgt := 137) 104 hV dX5_may_104 (by decide) (fun c104 => ?_) (fun c104 => ?_) | refine dr_if_ne (tgt := 137) 104 hV dX5_may_104 (by decide) (fun c104 => ?_) (fun c104 => ?_)
        · refine dr_iconst (v := nI 0) 137 hV dX5_may_137 (by decide) ?_
          exact dr_iret 138 hV dX5_may_138 rfl (by first | rfl | exact dz_bn) (by clear hV; first | exact dz_bp1 (by unfold sg_may sg_at sg_foot sg_head; grind) | exact dz_bp0 (by unfold sg_may sg_at sg_foot sg_head; grind))
        · refine dr_iload 107 hV dX5_may_107 rfl ?_
          first | refine dr_ifb_eq (tgt := 122) 109 hV dX5_may_109 (by decide) (fun c109 => ?_) (fun c109 => ?_) | refine dr_if_eq (tgt := 122) 109 hV dX5_may_109 (by decide) (fun c109 => ?_) (fun c109 => ?_)
          · refine dr_iload 122 hV dX5_may_122 rfl ?_
            first | refine dr_ifb_eq (tgt := 139) 124 hV dX5_may_124 (by decide) (fun c124 => ?_) (fun c124 => ?_) | refine dr_if_eq (tgt := 139) 124 hV dX5_may_124 (by decide) (fun c124 => ?_) (fun c124 => ?_)
            · refine dr_iload 139 hV dX5_may_139 rfl ?_
              first | refine dr_ifb_ne (tgt := 162) 141 hV dX5_may_141 (by decide) (fun c141 => ?_) (fun c141 => ?_) | refine dr_if_ne (tgt := 162) 141 hV dX5_may_141 (by decide) (fun c141 => ?_) (fun c141 => ?_)
              · refine dr_iconst (v := nI 1) 162 hV dX5_may_162 (by decide) ?_
                refine dr_goto (tgt := 167) 163 hV dX5_may_163 (by decide) ?_
                exact dr_iret 167 hV dX5_may_167 rfl (by first | rfl | exact dz_bn) (by clear hV; first | exact dz_bp1 (by unfold sg_may sg_at sg_foot sg_head; grind) | exact dz_bp0 (by unfold sg_may sg_at sg_foot sg_head; grind))
              · refine dr_iload 144 hV dX5_may_144 rfl ?_
                refine dr_bipush (v := nI 10) 146 hV dX5_may_146 (by decide) ?_
                refine dn_icmp_eq (tgt := 162) 148 hV dX5_may_148 (by decide) (by omega) (by omega) (fun c148 => ?_) (fun c148 => ?_)
                · refine dr_iconst (v := nI 1) 162 hV dX5_may_162 (by decide) ?_
                  refine dr_goto (tgt := 167) 163 hV dX5_may_163 (by decide) ?_
                  exact dr_iret 167 hV dX5_may_167 rfl (by first | rfl | exact dz_bn) (by clear hV; first | exact dz_bp1 (by unfold sg_may sg_at sg_foot sg_head; grind) | exact dz_bp0 (by unfold sg_may sg_at sg_foot sg_head; grind))
                · refine dr_aload_n 151 hV dX5_may_151 rfl ?_
                  refine dr_iload_n 152 hV dX5_may_152 rfl ?_
                  refine dr_iload 153 hV dX5_may_153 rfl ?_
                  refine dr_cvp2 155 hV dz_lX5_127 dX5_may_155 (by decide) (by decide) ⟨by decide, _, _, rfl, by decide, rfl⟩ (Nat.le_of_ble_eq_true rfl) (c_X5_turnOf π _ _ hO2 hR2 (by omega) (by omega)) ?_
                  refine dr_iconst (v := (-1)) 158 hV dX5_may_158 (by decide) ?_
                  refine dr_icmp_eq (tgt := 166) 159 hV dX5_may_159 (by decide) (fun c159 => ?_) (fun c159 => ?_)
                  · refine dr_iconst (v := nI 0) 166 hV dX5_may_166 (by decide) ?_
                    exact dr_iret 167 hV dX5_may_167 rfl (by first | rfl | exact dz_bn) (by clear hV; first | exact dz_bp1 (by unfold sg_may sg_at sg_foot sg_head; grind) | exact dz_bp0 (by unfold sg_may sg_at sg_foot sg_head; grind))
                  · refine dr_iconst (v := nI 1) 162 hV dX5_may_162 (by decide) ?_
                    refine dr_goto (tgt := 167) 163 hV dX5_may_163 (by decide) ?_
                    exact dr_iret 167 hV dX5_may_167 rfl (by first | rfl | exact dz_bn) (by clear hV; first | exact dz_bp1 (by unfold sg_may sg_at sg_foot sg_head; grind) | exact dz_bp0 (by unfold sg_may sg_at sg_foot sg_head; grind))
            · refine dr_aload_n 127 hV dX5_may_127 rfl ?_
              refine dr_iload_n 128 hV dX5_may_128 rfl ?_
              refine dr_iload 129 hV dX5_may_129 rfl ?_
              refine dr_cvp2 131 hV dz_lX5_138 dX5_may_131 (by decide) (by decide) ⟨by decide, _, _, rfl, by decide, rfl⟩ (Nat.le_of_ble_eq_true rfl) (c_X5_fitsHead π _ _ hO2 hR2 (by omega) g1) ?_
              first | refine dr_ifb_ne (tgt := 139) 134 hV dX5_may_134 (by decide) (fun c134 => ?_) (fun c134 => ?_) | refine dr_if_ne (tgt := 139) 134 hV dX5_may_134 (by decide) (fun c134 => ?_) (fun c134 => ?_)
              · refine dr_iload 139 hV dX5_may_139 rfl ?_
                first | refine dr_ifb_ne (tgt := 162) 141 hV dX5_may_141 (by decide) (fun c141 => ?_) (fun c141 => ?_) | refine dr_if_ne (tgt := 162) 141 hV dX5_may_141 (by decide) (fun c141 => ?_) (fun c141 => ?_)
                · refine dr_iconst (v := nI 1) 162 hV dX5_may_162 (by decide) ?_
                  refine dr_goto (tgt := 167) 163 hV dX5_may_163 (by decide) ?_
                  exact dr_iret 167 hV dX5_may_167 rfl (by first | rfl | exact dz_bn) (by clear hV; first | exact dz_bp1 (by unfold sg_may sg_at sg_foot sg_head; grind) | exact dz_bp0 (by unfold sg_may sg_at sg_foot sg_head; grind))
                · refine dr_iload 144 hV dX5_may_144 rfl ?_
                  refine dr_bipush (v := nI 10) 146 hV dX5_may_146 (by decide) ?_
                  refine dn_icmp_eq (tgt := 162) 148 hV dX5_may_148 (by decide) (by omega) (by omega) (fun c148 => ?_) (fun c148 => ?_)
                  · refine dr_iconst (v := nI 1) 162 hV dX5_may_162 (by decide) ?_
                    refine dr_goto (tgt := 167) 163 hV dX5_may_163 (by decide) ?_
                    exact dr_iret 167 hV dX5_may_167 rfl (by first | rfl | exact dz_bn) (by clear hV; first | exact dz_bp1 (by unfold sg_may sg_at sg_foot sg_head; grind) | exact dz_bp0 (by unfold sg_may sg_at sg_foot sg_head; grind))
                  · refine dr_aload_n 151 hV dX5_may_151 rfl ?_
                    refine dr_iload_n 152 hV dX5_may_152 rfl ?_
                    refine dr_iload 153 hV dX5_may_153 rfl ?_
                    refine dr_cvp2 155 hV dz_lX5_127 dX5_may_155 (by decide) (by decide) ⟨by decide, _, _, rfl, by decide, rfl⟩ (Nat.le_of_ble_eq_true rfl) (c_X5_turnOf π _ _ hO2 hR2 (by omega) (by omega)) ?_
                    refine dr_iconst (v := (-1)) 158 hV dX5_may_158 (by decide) ?_
                    refine dr_icmp_eq (tgt := 166) 159 hV dX5_may_159 (by decide) (fun c159 => ?_) (fun c159 => ?_)
                    · refine dr_iconst (v := nI 0) 166 hV dX5_may_166 (by decide) ?_
                      exact dr_iret 167 hV dX5_may_167 rfl (by first | rfl | exact dz_bn) (by clear hV; first | exact dz_bp1 (by unfold sg_may sg_at sg_foot sg_head; grind) | exact dz_bp0 (by unfold sg_may sg_at sg_foot sg_head; grind))
                    · refine dr_iconst (v := nI 1) 162 hV dX5_may_162 (by decide) ?_
                      refine dr_goto (tgt := 167) 163 hV dX5_may_163 (by decide) ?_
                      exact dr_iret 167 hV dX5_may_167 rfl (by first | rfl | exact dz_bn) (by clear hV; first | exact dz_bp1 (by unfold sg_may sg_at sg_foot sg_head; grind) | exact dz_bp0 (by unfold sg_may sg_at sg_foot sg_head; grind))
              · refine dr_iconst (v := nI 0) 137 hV dX5_may_137 (by decide) ?_
                exact dr_iret 138 hV dX5_may_138 rfl (by first | rfl | exact dz_bn) (by clear hV; first | exact dz_bp1 (by unfold sg_may sg_at sg_foot sg_head; grind) | exact dz_bp0 (by unfold sg_may sg_at sg_foot sg_head; grind))
          · refine dr_aload_n 112 hV dX5_may_112 rfl ?_
            refine dr_iload_n 113 hV dX5_may_113 rfl ?_
            refine dr_iload 114 hV dX5_may_114 rfl ?_
            refine dr_cvp2 116 hV dz_lX5_134 dX5_may_116 (by decide) (by decide) ⟨by decide, _, _, rfl, by decide, rfl⟩ (Nat.le_of_ble_eq_true rfl) (c_X5_fitsFoot π _ _ hO2 hR2 (by omega) g1) ?_
            first | refine dr_ifb_eq (tgt := 137) 119 hV dX5_may_119 (by decide) (fun c119 => ?_) (fun c119 => ?_) | refine dr_if_eq (tgt := 137) 119 hV dX5_may_119 (by decide) (fun c119 => ?_) (fun c119 => ?_)
            · refine dr_iconst (v := nI 0) 137 hV dX5_may_137 (by decide) ?_
              exact dr_iret 138 hV dX5_may_138 rfl (by first | rfl | exact dz_bn) (by clear hV; first | exact dz_bp1 (by unfold sg_may sg_at sg_foot sg_head; grind) | exact dz_bp0 (by unfold sg_may sg_at sg_foot sg_head; grind))
            · refine dr_iload 122 hV dX5_may_122 rfl ?_
              first | refine dr_ifb_eq (tgt := 139) 124 hV dX5_may_124 (by decide) (fun c124 => ?_) (fun c124 => ?_) | refine dr_if_eq (tgt := 139) 124 hV dX5_may_124 (by decide) (fun c124 => ?_) (fun c124 => ?_)
              · refine dr_iload 139 hV dX5_may_139 rfl ?_
                first | refine dr_ifb_ne (tgt := 162) 141 hV dX5_may_141 (by decide) (fun c141 => ?_) (fun c141 => ?_) | refine dr_if_ne (tgt := 162) 141 hV dX5_may_141 (by decide) (fun c141 => ?_) (fun c141 => ?_)
                · refine dr_iconst (v := nI 1) 162 hV dX5_may_162 (by decide) ?_
                  refine dr_goto (tgt := 167) 163 hV dX5_may_163 (by decide) ?_
                  exact dr_iret 167 hV dX5_may_167 rfl (by first | rfl | exact dz_bn) (by clear hV; first | exact dz_bp1 (by unfold sg_may sg_at sg_foot sg_head; grind) | exact dz_bp0 (by unfold sg_may sg_at sg_foot sg_head; grind))
                · refine dr_iload 144 hV dX5_may_144 rfl ?_
                  refine dr_bipush (v := nI 10) 146 hV dX5_may_146 (by decide) ?_
                  refine dn_icmp_eq (tgt := 162) 148 hV dX5_may_148 (by decide) (by omega) (by omega) (fun c148 => ?_) (fun c148 => ?_)
                  · refine dr_iconst (v := nI 1) 162 hV dX5_may_162 (by decide) ?_
                    refine dr_goto (tgt := 167) 163 hV dX5_may_163 (by decide) ?_
                    exact dr_iret 167 hV dX5_may_167 rfl (by first | rfl | exact dz_bn) (by clear hV; first | exact dz_bp1 (by unfold sg_may sg_at sg_foot sg_head; grind) | exact dz_bp0 (by unfold sg_may sg_at sg_foot sg_head; grind))
                  · refine dr_aload_n 151 hV dX5_may_151 rfl ?_
                    refine dr_iload_n 152 hV dX5_may_152 rfl ?_
                    refine dr_iload 153 hV dX5_may_153 rfl ?_
                    refine dr_cvp2 155 hV dz_lX5_127 dX5_may_155 (by decide) (by decide) ⟨by decide, _, _, rfl, by decide, rfl⟩ (Nat.le_of_ble_eq_true rfl) (c_X5_turnOf π _ _ hO2 hR2 (by omega) (by omega)) ?_
                    refine dr_iconst (v := (-1)) 158 hV dX5_may_158 (by decide) ?_
                    refine dr_icmp_eq (tgt := 166) 159 hV dX5_may_159 (by decide) (fun c159 => ?_) (fun c159 => ?_)
                    · refine dr_iconst (v := nI 0) 166 hV dX5_may_166 (by decide) ?_
                      exact dr_iret 167 hV dX5_may_167 rfl (by first | rfl | exact dz_bn) (by clear hV; first | exact dz_bp1 (by unfold sg_may sg_at sg_foot sg_head; grind) | exact dz_bp0 (by unfold sg_may sg_at sg_foot sg_head; grind))
                    · refine dr_iconst (v := nI 1) 162 hV dX5_may_162 (by decide) ?_
                      refine dr_goto (tgt := 167) 163 hV dX5_may_163 (by decide) ?_
                      exact dr_iret 167 hV dX5_may_167 rfl (by first | rfl | exact dz_bn) (by clear hV; first | exact dz_bp1 (by unfold sg_may sg_at sg_foot sg_head; grind) | exact dz_bp0 (by unfold sg_may sg_at sg_foot sg_head; grind))
              · refine dr_aload_n 127 hV dX5_may_127 rfl ?_
                refine dr_iload_n 128 hV dX5_may_128 rfl ?_
                refine dr_iload 129 hV dX5_may_129 rfl ?_
                refine dr_cvp2 131 hV dz_lX5_138 dX5_may_131 (by decide) (by decide) ⟨by decide, _, _, rfl, by decide, rfl⟩ (Nat.le_of_ble_eq_true rfl) (c_X5_fitsHead π _ _ hO2 hR2 (by omega) g1) ?_
                first | refine dr_ifb_ne (tgt := 139) 134 hV dX5_may_134 (by decide) (fun c134 => ?_) (fun c134 => ?_) | refine dr_if_ne (tgt := 139) 134 hV dX5_may_134 (by decide) (fun c134 => ?_) (fun c134 => ?_)
                · refine dr_iload 139 hV dX5_may_139 rfl ?_
                  first | refine dr_ifb_ne (tgt := 162) 141 hV dX5_may_141 (by decide) (fun c141 => ?_) (fun c141 => ?_) | refine dr_if_ne (tgt := 162) 141 hV dX5_may_141 (by decide) (fun c141 => ?_) (fun c141 => ?_)
                  · refine dr_iconst (v := nI 1) 162 hV dX5_may_162 (by decide) ?_
                    refine dr_goto (tgt := 167) 163 hV dX5_may_163 (by decide) ?_
                    exact dr_iret 167 hV dX5_may_167 rfl (by first | rfl | exact dz_bn) (by clear hV; first | exact dz_bp1 (by unfold sg_may sg_at sg_foot sg_head; grind) | exact dz_bp0 (by unfold sg_may sg_at sg_foot sg_head; grind))
                  · refine dr_iload 144 hV dX5_may_144 rfl ?_
                    refine dr_bipush (v := nI 10) 146 hV dX5_may_146 (by decide) ?_
                    refine dn_icmp_eq (tgt := 162) 148 hV dX5_may_148 (by decide) (by omega) (by omega) (fun c148 => ?_) (fun c148 => ?_)
                    · refine dr_iconst (v := nI 1) 162 hV dX5_may_162 (by decide) ?_
                      refine dr_goto (tgt := 167) 163 hV dX5_may_163 (by decide) ?_
                      exact dr_iret 167 hV dX5_may_167 rfl (by first | rfl | exact dz_bn) (by clear hV; first | exact dz_bp1 (by unfold sg_may sg_at sg_foot sg_head; grind) | exact dz_bp0 (by unfold sg_may sg_at sg_foot sg_head; grind))
                    · refine dr_aload_n 151 hV dX5_may_151 rfl ?_
                      refine dr_iload_n 152 hV dX5_may_152 rfl ?_
                      refine dr_iload 153 hV dX5_may_153 rfl ?_
                      refine dr_cvp2 155 hV dz_lX5_127 dX5_may_155 (by decide) (by decide) ⟨by decide, _, _, rfl, by decide, rfl⟩ (Nat.le_of_ble_eq_true rfl) (c_X5_turnOf π _ _ hO2 hR2 (by omega) (by omega)) ?_
                      refine dr_iconst (v := (-1)) 158 hV dX5_may_158 (by decide) ?_
                      refine dr_icmp_eq (tgt := 166) 159 hV dX5_may_159 (by decide) (fun c159 => ?_) (fun c159 => ?_)
                      · refine dr_iconst (v := nI 0) 166 hV dX5_may_166 (by decide) ?_
                        exact dr_iret 167 hV dX5_may_167 rfl (by first | rfl | exact dz_bn) (by clear hV; first | exact dz_bp1 (by unfold sg_may sg_at sg_foot sg_head; grind) | exact dz_bp0 (by unfold sg_may sg_at sg_foot sg_head; grind))
                      · refine dr_iconst (v := nI 1) 162 hV dX5_may_162 (by decide) ?_
                        refine dr_goto (tgt := 167) 163 hV dX5_may_163 (by decide) ?_
                        exact dr_iret 167 hV dX5_may_167 rfl (by first | rfl | exact dz_bn) (by clear hV; first | exact dz_bp1 (by unfold sg_may sg_at sg_foot sg_head; grind) | exact dz_bp0 (by unfold sg_may sg_at sg_foot sg_head; grind))
                · refine dr_iconst (v := nI 0) 137 hV dX5_may_137 (by decide) ?_
                  exact dr_iret 138 hV dX5_may_138 rfl (by first | rfl | exact dz_bn) (by clear hV; first | exact dz_bp1 (by unfold sg_may sg_at sg_foot sg_head; grind) | exact dz_bp0 (by unfold sg_may sg_at sg_foot sg_head; grind))
    · refine dr_iconst (v := nI 1) 28 hV dX5_may_28 (by decide) ?_
      exact dr_iret 29 hV dX5_may_29 rfl (by first | rfl | exact dz_bn) (by clear hV; first | exact dz_bp1 (by unfold sg_may sg_at sg_foot sg_head; grind) | exact dz_bp0 (by unfold sg_may sg_at sg_foot sg_head; grind))
  · refine dr_aload_n 10 hV dX5_may_10 rfl ?_
    refine dr_geta 11 hV dX5_may_11 (by decide) (by decide) rfl rfl rfl ?_
    refine dr_iload_n 14 hV dX5_may_14 rfl ?_
    refine dr_iald 15 hV dX5_may_15 (by decide) rfl rfl (by omega) (by decide) w2 ?_
    refine dr_iload_n 16 hV dX5_may_16 rfl ?_
    refine dr_icmp_eq (tgt := 22) 17 hV dX5_may_17 (by decide) (fun c17 => ?_) (fun c17 => ?_)
    · refine dr_iload_n 22 hV dX5_may_22 rfl ?_
      refine dr_bipush (v := nI 10) 23 hV dX5_may_23 (by decide) ?_
      refine dn_icmp_ne (tgt := 30) 25 hV dX5_may_25 (by decide) (by omega) (by omega) (fun c25 => ?_) (fun c25 => ?_)
      · refine dr_aload_n 30 hV dX5_may_30 rfl ?_
        refine dr_geta 31 hV dX5_may_31 (by decide) (by decide) rfl rfl rfl ?_
        refine dr_iload_n 34 hV dX5_may_34 rfl ?_
        refine dr_iald 35 hV dX5_may_35 (by decide) rfl rfl (by omega) (by decide) w1 ?_
        refine dr_istore 36 hV dX5_may_36 (by decide) ?_
        refine dr_iload_n 38 hV dX5_may_38 rfl ?_
        refine dr_aload_n 39 hV dX5_may_39 rfl ?_
        refine dr_geta 40 hV dX5_may_40 (by decide) (by decide) rfl rfl rfl ?_
        refine dr_iload 43 hV dX5_may_43 rfl ?_
        refine dr_iald 45 hV dX5_may_45 (by decide) rfl rfl (by omega) (by decide) k3 ?_
        refine dr_mat_ne (P := p = sg_b s (sg_col s p)) 46 hV dX5_may_46 dX5_may_49 dX5_may_50 dX5_may_53 (nI_eq (by omega) (by omega)).symm ?_
        refine dr_istore 54 hV dX5_may_54 (by decide) ?_
        refine dr_iload_n 56 hV dX5_may_56 rfl ?_
        refine dr_aload_n 57 hV dX5_may_57 rfl ?_
        refine dr_geta 58 hV dX5_may_58 (by decide) (by decide) rfl rfl rfl ?_
        refine dr_iload 61 hV dX5_may_61 rfl ?_
        refine dr_iald 63 hV dX5_may_63 (by decide) rfl rfl (by omega) (by decide) k3 ?_
        refine dr_aload_n 64 hV dX5_may_64 rfl ?_
        refine dr_geta 65 hV dX5_may_65 (by decide) (by decide) rfl rfl rfl ?_
        refine dr_iload 68 hV dX5_may_68 rfl ?_
        refine dr_iald 70 hV dX5_may_70 (by decide) rfl rfl (by omega) (by decide) k4 ?_
        refine dr_iadd (z := nI (sg_b s (sg_col s p) + sg_h s (sg_col s p))) 71 hV dX5_may_71 (nI_add _ _) ?_
        refine dr_iconst (v := nI 1) 72 hV dX5_may_72 (by decide) ?_
        refine dr_isub (z := nI (sg_b s (sg_col s p) + sg_h s (sg_col s p) - 1)) 73 hV dX5_may_73 (pk_sub (by omega)) ?_
        refine dr_mat_ne (P := p + 1 = sg_b s (sg_col s p) + sg_h s (sg_col s p)) 74 hV dX5_may_74 dX5_may_77 dX5_may_78 dX5_may_81 (by rw [nI_eq (by omega) (by omega)]; omega) ?_
        refine dr_istore 82 hV dX5_may_82 (by decide) ?_
        refine dr_iload_n 84 hV dX5_may_84 rfl ?_
        refine dr_iload_n 85 hV dX5_may_85 rfl ?_
        refine dr_ishr 86 hV dX5_may_86 rfl ?_
        refine dr_iconst (v := nI 1) 87 hV dX5_may_87 (by decide) ?_
        refine dr_iand (z := nI (u / 2 ^ d % 2)) 88 hV dX5_may_88 (dz_hb hu (by omega)) ?_
        refine dr_iconst (v := nI 1) 89 hV dX5_may_89 (by decide) ?_
        refine dn_icmp_eq (tgt := 137) 90 hV dX5_may_90 (by decide) (by omega) (by omega) (fun c90 => ?_) (fun c90 => ?_)
        · have ht : u.testBit d = true := by rw [dz_tb]; simp [c90]
          refine dr_iconst (v := nI 0) 137 hV dX5_may_137 (by decide) ?_
          exact dr_iret 138 hV dX5_may_138 rfl (by first | rfl | exact dz_bn) (by clear hV; first | exact dz_bp1 (by unfold sg_may sg_at sg_foot sg_head; grind) | exact dz_bp0 (by unfold sg_may sg_at sg_foot sg_head; grind))
        · have ht : u.testBit d = false := by rw [dz_tb]; simp [c90]
          refine dr_aload_n 93 hV dX5_may_93 rfl ?_
          refine dr_geta 94 hV dX5_may_94 (by decide) (by decide) rfl rfl rfl ?_
          refine dr_bipush (v := nI 10) 97 hV dX5_may_97 (by decide) ?_
          refine dr_iload_n 99 hV dX5_may_99 rfl ?_
          refine dr_imul (z := nI (10 * p)) 100 hV dX5_may_100 (pk_mul _ _) ?_
          refine dr_iload_n 101 hV dX5_may_101 rfl ?_
          refine dr_iadd (z := nI (10 * p + d)) 102 hV dX5_may_102 (nI_add _ _) ?_
          refine dr_zald 103 hV dX5_may_103 (by decide) rfl rfl (by omega) (by decide) (m12 p d (by omega) (by omega)) ?_
          first | refine dr_ifb_ne (tgt := 137) 104 hV dX5_may_104 (by decide) (fun c104 => ?_) (fun c104 => ?_) | refine dr_if_ne (tgt := 137) 104 hV dX5_may_104 (by decide) (fun c104 => ?_) (fun c104 => ?_)
          · refine dr_iconst (v := nI 0) 137 hV dX5_may_137 (by decide) ?_
            exact dr_iret 138 hV dX5_may_138 rfl (by first | rfl | exact dz_bn) (by clear hV; first | exact dz_bp1 (by unfold sg_may sg_at sg_foot sg_head; grind) | exact dz_bp0 (by unfold sg_may sg_at sg_foot sg_head; grind))
          · refine dr_iload 107 hV dX5_may_107 rfl ?_
            first | refine dr_ifb_eq (tgt := 122) 109 hV dX5_may_109 (by decide) (fun c109 => ?_) (fun c109 => ?_) | refine dr_if_eq (tgt := 122) 109 hV dX5_may_109 (by decide) (fun c109 => ?_) (fun c109 => ?_)
            · refine dr_iload 122 hV dX5_may_122 rfl ?_
              first | refine dr_ifb_eq (tgt := 139) 124 hV dX5_may_124 (by decide) (fun c124 => ?_) (fun c124 => ?_) | refine dr_if_eq (tgt := 139) 124 hV dX5_may_124 (by decide) (fun c124 => ?_) (fun c124 => ?_)
              · refine dr_iload 139 hV dX5_may_139 rfl ?_
                first | refine dr_ifb_ne (tgt := 162) 141 hV dX5_may_141 (by decide) (fun c141 => ?_) (fun c141 => ?_) | refine dr_if_ne (tgt := 162) 141 hV dX5_may_141 (by decide) (fun c141 => ?_) (fun c141 => ?_)
                · refine dr_iconst (v := nI 1) 162 hV dX5_may_162 (by decide) ?_
                  refine dr_goto (tgt := 167) 163 hV dX5_may_163 (by decide) ?_
                  exact dr_iret 167 hV dX5_may_167 rfl (by first | rfl | exact dz_bn) (by clear hV; first | exact dz_bp1 (by unfold sg_may sg_at sg_foot sg_head; grind) | exact dz_bp0 (by unfold sg_may sg_at sg_foot sg_head; grind))
                · refine dr_iload 144 hV dX5_may_144 rfl ?_
                  refine dr_bipush (v := nI 10) 146 hV dX5_may_146 (by decide) ?_
                  refine dn_icmp_eq (tgt := 162) 148 hV dX5_may_148 (by decide) (by omega) (by omega) (fun c148 => ?_) (fun c148 => ?_)
                  · refine dr_iconst (v := nI 1) 162 hV dX5_may_162 (by decide) ?_
                    refine dr_goto (tgt := 167) 163 hV dX5_may_163 (by decide) ?_
                    exact dr_iret 167 hV dX5_may_167 rfl (by first | rfl | exact dz_bn) (by clear hV; first | exact dz_bp1 (by unfold sg_may sg_at sg_foot sg_head; grind) | exact dz_bp0 (by unfold sg_may sg_at sg_foot sg_head; grind))
                  · refine dr_aload_n 151 hV dX5_may_151 rfl ?_
                    refine dr_iload_n 152 hV dX5_may_152 rfl ?_
                    refine dr_iload 153 hV dX5_may_153 rfl ?_
                    refine dr_cvp2 155 hV dz_lX5_127 dX5_may_155 (by decide) (by decide) ⟨by decide, _, _, rfl, by decide, rfl⟩ (Nat.le_of_ble_eq_true rfl) (c_X5_turnOf π _ _ hO2 hR2 (by omega) (by omega)) ?_
                    refine dr_iconst (v := (-1)) 158 hV dX5_may_158 (by decide) ?_
                    refine dr_icmp_eq (tgt := 166) 159 hV dX5_may_159 (by decide) (fun c159 => ?_) (fun c159 => ?_)
                    · refine dr_iconst (v := nI 0) 166 hV dX5_may_166 (by decide) ?_
                      exact dr_iret 167 hV dX5_may_167 rfl (by first | rfl | exact dz_bn) (by clear hV; first | exact dz_bp1 (by unfold sg_may sg_at sg_foot sg_head; grind) | exact dz_bp0 (by unfold sg_may sg_at sg_foot sg_head; grind))
                    · refine dr_iconst (v := nI 1) 162 hV dX5_may_162 (by decide) ?_
                      refine dr_goto (tgt := 167) 163 hV dX5_may_163 (by decide) ?_
                      exact dr_iret 167 hV dX5_may_167 rfl (by first | rfl | exact dz_bn) (by clear hV; first | exact dz_bp1 (by unfold sg_may sg_at sg_foot sg_head; grind) | exact dz_bp0 (by unfold sg_may sg_at sg_foot sg_head; grind))
              · refine dr_aload_n 127 hV dX5_may_127 rfl ?_
                refine dr_iload_n 128 hV dX5_may_128 rfl ?_
                refine dr_iload 129 hV dX5_may_129 rfl ?_
                refine dr_cvp2 131 hV dz_lX5_138 dX5_may_131 (by decide) (by decide) ⟨by decide, _, _, rfl, by decide, rfl⟩ (Nat.le_of_ble_eq_true rfl) (c_X5_fitsHead π _ _ hO2 hR2 (by omega) g1) ?_
                first | refine dr_ifb_ne (tgt := 139) 134 hV dX5_may_134 (by decide) (fun c134 => ?_) (fun c134 => ?_) | refine dr_if_ne (tgt := 139) 134 hV dX5_may_134 (by decide) (fun c134 => ?_) (fun c134 => ?_)
                · refine dr_iload 139 hV dX5_may_139 rfl ?_
                  first | refine dr_ifb_ne (tgt := 162) 141 hV dX5_may_141 (by decide) (fun c141 => ?_) (fun c141 => ?_) | refine dr_if_ne (tgt := 162) 141 hV dX5_may_141 (by decide) (fun c141 => ?_) (fun c141 => ?_)
                  · refine dr_iconst (v := nI 1) 162 hV dX5_may_162 (by decide) ?_
                    refine dr_goto (tgt := 167) 163 hV dX5_may_163 (by decide) ?_
                    exact dr_iret 167 hV dX5_may_167 rfl (by first | rfl | exact dz_bn) (by clear hV; first | exact dz_bp1 (by unfold sg_may sg_at sg_foot sg_head; grind) | exact dz_bp0 (by unfold sg_may sg_at sg_foot sg_head; grind))
                  · refine dr_iload 144 hV dX5_may_144 rfl ?_
                    refine dr_bipush (v := nI 10) 146 hV dX5_may_146 (by decide) ?_
                    refine dn_icmp_eq (tgt := 162) 148 hV dX5_may_148 (by decide) (by omega) (by omega) (fun c148 => ?_) (fun c148 => ?_)
                    · refine dr_iconst (v := nI 1) 162 hV dX5_may_162 (by decide) ?_
                      refine dr_goto (tgt := 167) 163 hV dX5_may_163 (by decide) ?_
                      exact dr_iret 167 hV dX5_may_167 rfl (by first | rfl | exact dz_bn) (by clear hV; first | exact dz_bp1 (by unfold sg_may sg_at sg_foot sg_head; grind) | exact dz_bp0 (by unfold sg_may sg_at sg_foot sg_head; grind))
                    · refine dr_aload_n 151 hV dX5_may_151 rfl ?_
                      refine dr_iload_n 152 hV dX5_may_152 rfl ?_
                      refine dr_iload 153 hV dX5_may_153 rfl ?_
                      refine dr_cvp2 155 hV dz_lX5_127 dX5_may_155 (by decide) (by decide) ⟨by decide, _, _, rfl, by decide, rfl⟩ (Nat.le_of_ble_eq_true rfl) (c_X5_turnOf π _ _ hO2 hR2 (by omega) (by omega)) ?_
                      refine dr_iconst (v := (-1)) 158 hV dX5_may_158 (by decide) ?_
                      refine dr_icmp_eq (tgt := 166) 159 hV dX5_may_159 (by decide) (fun c159 => ?_) (fun c159 => ?_)
                      · refine dr_iconst (v := nI 0) 166 hV dX5_may_166 (by decide) ?_
                        exact dr_iret 167 hV dX5_may_167 rfl (by first | rfl | exact dz_bn) (by clear hV; first | exact dz_bp1 (by unfold sg_may sg_at sg_foot sg_head; grind) | exact dz_bp0 (by unfold sg_may sg_at sg_foot sg_head; grind))
                      · refine dr_iconst (v := nI 1) 162 hV dX5_may_162 (by decide) ?_
                        refine dr_goto (tgt := 167) 163 hV dX5_may_163 (by decide) ?_
                        exact dr_iret 167 hV dX5_may_167 rfl (by first | rfl | exact dz_bn) (by clear hV; first | exact dz_bp1 (by unfold sg_may sg_at sg_foot sg_head; grind) | exact dz_bp0 (by unfold sg_may sg_at sg_foot sg_head; grind))
                · refine dr_iconst (v := nI 0) 137 hV dX5_may_137 (by decide) ?_
                  exact dr_iret 138 hV dX5_may_138 rfl (by first | rfl | exact dz_bn) (by clear hV; first | exact dz_bp1 (by unfold sg_may sg_at sg_foot sg_head; grind) | exact dz_bp0 (by unfold sg_may sg_at sg_foot sg_head; grind))
            · refine dr_aload_n 112 hV dX5_may_112 rfl ?_
              refine dr_iload_n 113 hV dX5_may_113 rfl ?_
              refine dr_iload 114 hV dX5_may_114 rfl ?_
              refine dr_cvp2 116 hV dz_lX5_134 dX5_may_116 (by decide) (by decide) ⟨by decide, _, _, rfl, by decide, rfl⟩ (Nat.le_of_ble_eq_true rfl) (c_X5_fitsFoot π _ _ hO2 hR2 (by omega) g1) ?_
              first | refine dr_ifb_eq (tgt := 137) 119 hV dX5_may_119 (by decide) (fun c119 => ?_) (fun c119 => ?_) | refine dr_if_eq (tgt := 137) 119 hV dX5_may_119 (by decide) (fun c119 => ?_) (fun c119 => ?_)
              · refine dr_iconst (v := nI 0) 137 hV dX5_may_137 (by decide) ?_
                exact dr_iret 138 hV dX5_may_138 rfl (by first | rfl | exact dz_bn) (by clear hV; first | exact dz_bp1 (by unfold sg_may sg_at sg_foot sg_head; grind) | exact dz_bp0 (by unfold sg_may sg_at sg_foot sg_head; grind))
              · refine dr_iload 122 hV dX5_may_122 rfl ?_
                first | refine dr_ifb_eq (tgt := 139) 124 hV dX5_may_124 (by decide) (fun c124 => ?_) (fun c124 => ?_) | refine dr_if_eq (tgt := 139) 124 hV dX5_may_124 (by decide) (fun c124 => ?_) (fun c124 => ?_)
                · refine dr_iload 139 hV dX5_may_139 rfl ?_
                  first | refine dr_ifb_ne (tgt := 162) 141 hV dX5_may_141 (by decide) (fun c141 => ?_) (fun c141 => ?_) | refine dr_if_ne (tgt := 162) 141 hV dX5_may_141 (by decide) (fun c141 => ?_) (fun c141 => ?_)
                  · refine dr_iconst (v := nI 1) 162 hV dX5_may_162 (by decide) ?_
                    refine dr_goto (tgt := 167) 163 hV dX5_may_163 (by decide) ?_
                    exact dr_iret 167 hV dX5_may_167 rfl (by first | rfl | exact dz_bn) (by clear hV; first | exact dz_bp1 (by unfold sg_may sg_at sg_foot sg_head; grind) | exact dz_bp0 (by unfold sg_may sg_at sg_foot sg_head; grind))
                  · refine dr_iload 144 hV dX5_may_144 rfl ?_
                    refine dr_bipush (v := nI 10) 146 hV dX5_may_146 (by decide) ?_
                    refine dn_icmp_eq (tgt := 162) 148 hV dX5_may_148 (by decide) (by omega) (by omega) (fun c148 => ?_) (fun c148 => ?_)
                    · refine dr_iconst (v := nI 1) 162 hV dX5_may_162 (by decide) ?_
                      refine dr_goto (tgt := 167) 163 hV dX5_may_163 (by decide) ?_
                      exact dr_iret 167 hV dX5_may_167 rfl (by first | rfl | exact dz_bn) (by clear hV; first | exact dz_bp1 (by unfold sg_may sg_at sg_foot sg_head; grind) | exact dz_bp0 (by unfold sg_may sg_at sg_foot sg_head; grind))
                    · refine dr_aload_n 151 hV dX5_may_151 rfl ?_
                      refine dr_iload_n 152 hV dX5_may_152 rfl ?_
                      refine dr_iload 153 hV dX5_may_153 rfl ?_
                      refine dr_cvp2 155 hV dz_lX5_127 dX5_may_155 (by decide) (by decide) ⟨by decide, _, _, rfl, by decide, rfl⟩ (Nat.le_of_ble_eq_true rfl) (c_X5_turnOf π _ _ hO2 hR2 (by omega) (by omega)) ?_
                      refine dr_iconst (v := (-1)) 158 hV dX5_may_158 (by decide) ?_
                      refine dr_icmp_eq (tgt := 166) 159 hV dX5_may_159 (by decide) (fun c159 => ?_) (fun c159 => ?_)
                      · refine dr_iconst (v := nI 0) 166 hV dX5_may_166 (by decide) ?_
                        exact dr_iret 167 hV dX5_may_167 rfl (by first | rfl | exact dz_bn) (by clear hV; first | exact dz_bp1 (by unfold sg_may sg_at sg_foot sg_head; grind) | exact dz_bp0 (by unfold sg_may sg_at sg_foot sg_head; grind))
                      · refine dr_iconst (v := nI 1) 162 hV dX5_may_162 (by decide) ?_
                        refine dr_goto (tgt := 167) 163 hV dX5_may_163 (by decide) ?_
                        exact dr_iret 167 hV dX5_may_167 rfl (by first | rfl | exact dz_bn) (by clear hV; first | exact dz_bp1 (by unfold sg_may sg_at sg_foot sg_head; grind) | exact dz_bp0 (by unfold sg_may sg_at sg_foot sg_head; grind))
                · refine dr_aload_n 127 hV dX5_may_127 rfl ?_
                  refine dr_iload_n 128 hV dX5_may_128 rfl ?_
                  refine dr_iload 129 hV dX5_may_129 rfl ?_
                  refine dr_cvp2 131 hV dz_lX5_138 dX5_may_131 (by decide) (by decide) ⟨by decide, _, _, rfl, by decide, rfl⟩ (Nat.le_of_ble_eq_true rfl) (c_X5_fitsHead π _ _ hO2 hR2 (by omega) g1) ?_
                  first | refine dr_ifb_ne (tgt := 139) 134 hV dX5_may_134 (by decide) (fun c134 => ?_) (fun c134 => ?_) | refine dr_if_ne (tgt := 139) 134 hV dX5_may_134 (by decide) (fun c134 => ?_) (fun c134 => ?_)
                  · refine dr_iload 139 hV dX5_may_139 rfl ?_
                    first | refine dr_ifb_ne (tgt := 162) 141 hV dX5_may_141 (by decide) (fun c141 => ?_) (fun c141 => ?_) | refine dr_if_ne (tgt := 162) 141 hV dX5_may_141 (by decide) (fun c141 => ?_) (fun c141 => ?_)
                    · refine dr_iconst (v := nI 1) 162 hV dX5_may_162 (by decide) ?_
                      refine dr_goto (tgt := 167) 163 hV dX5_may_163 (by decide) ?_
                      exact dr_iret 167 hV dX5_may_167 rfl (by first | rfl | exact dz_bn) (by clear hV; first | exact dz_bp1 (by unfold sg_may sg_at sg_foot sg_head; grind) | exact dz_bp0 (by unfold sg_may sg_at sg_foot sg_head; grind))
                    · refine dr_iload 144 hV dX5_may_144 rfl ?_
                      refine dr_bipush (v := nI 10) 146 hV dX5_may_146 (by decide) ?_
                      refine dn_icmp_eq (tgt := 162) 148 hV dX5_may_148 (by decide) (by omega) (by omega) (fun c148 => ?_) (fun c148 => ?_)
                      · refine dr_iconst (v := nI 1) 162 hV dX5_may_162 (by decide) ?_
                        refine dr_goto (tgt := 167) 163 hV dX5_may_163 (by decide) ?_
                        exact dr_iret 167 hV dX5_may_167 rfl (by first | rfl | exact dz_bn) (by clear hV; first | exact dz_bp1 (by unfold sg_may sg_at sg_foot sg_head; grind) | exact dz_bp0 (by unfold sg_may sg_at sg_foot sg_head; grind))
                      · refine dr_aload_n 151 hV dX5_may_151 rfl ?_
                        refine dr_iload_n 152 hV dX5_may_152 rfl ?_
                        refine dr_iload 153 hV dX5_may_153 rfl ?_
                        refine dr_cvp2 155 hV dz_lX5_127 dX5_may_155 (by decide) (by decide) ⟨by decide, _, _, rfl, by decide, rfl⟩ (Nat.le_of_ble_eq_true rfl) (c_X5_turnOf π _ _ hO2 hR2 (by omega) (by omega)) ?_
                        refine dr_iconst (v := (-1)) 158 hV dX5_may_158 (by decide) ?_
                        refine dr_icmp_eq (tgt := 166) 159 hV dX5_may_159 (by decide) (fun c159 => ?_) (fun c159 => ?_)
                        · refine dr_iconst (v := nI 0) 166 hV dX5_may_166 (by decide) ?_
                          exact dr_iret 167 hV dX5_may_167 rfl (by first | rfl | exact dz_bn) (by clear hV; first | exact dz_bp1 (by unfold sg_may sg_at sg_foot sg_head; grind) | exact dz_bp0 (by unfold sg_may sg_at sg_foot sg_head; grind))
                        · refine dr_iconst (v := nI 1) 162 hV dX5_may_162 (by decide) ?_
                          refine dr_goto (tgt := 167) 163 hV dX5_may_163 (by decide) ?_
                          exact dr_iret 167 hV dX5_may_167 rfl (by first | rfl | exact dz_bn) (by clear hV; first | exact dz_bp1 (by unfold sg_may sg_at sg_foot sg_head; grind) | exact dz_bp0 (by unfold sg_may sg_at sg_foot sg_head; grind))
                  · refine dr_iconst (v := nI 0) 137 hV dX5_may_137 (by decide) ?_
                    exact dr_iret 138 hV dX5_may_138 rfl (by first | rfl | exact dz_bn) (by clear hV; first | exact dz_bp1 (by unfold sg_may sg_at sg_foot sg_head; grind) | exact dz_bp0 (by unfold sg_may sg_at sg_foot sg_head; grind))
      · refine dr_iconst (v := nI 1) 28 hV dX5_may_28 (by decide) ?_
        exact dr_iret 29 hV dX5_may_29 rfl (by first | rfl | exact dz_bn) (by clear hV; first | exact dz_bp1 (by unfold sg_may sg_at sg_foot sg_head; grind) | exact dz_bp0 (by unfold sg_may sg_at sg_foot sg_head; grind))
    · refine dr_iconst (v := nI 0) 20 hV dX5_may_20 (by decide) ?_
      exact dr_iret 21 hV dX5_may_21 rfl (by first | rfl | exact dz_bn) (by clear hV; first | exact dz_bp1 (by unfold sg_may sg_at sg_foot sg_head; grind) | exact dz_bp0 (by unfold sg_may sg_at sg_foot sg_head; grind))
