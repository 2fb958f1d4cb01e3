/-! the model's questions -/
def dz_Qm (s : dz_Sg) (v : dz_AV) : Option dz_AV → dz_MI → dz_MJ → Prop := fun r I2 J2 => r = some v ∧ dz_RM s I2
theorem dz_qm {s : dz_Sg} {I : dz_MI} {J : dz_MJ} {x y : Int32} (h : x = y) (hR : dz_RM s I) : dz_Qm s (.inl y) (some (.inl x)) I J := ⟨by rw [h], hR⟩
def sg_no (s : dz_Sg) : Prop := sg_L s 0 0 10 = 1000
noncomputable def q_least (s : dz_Sg) : Int32 := if dz_B (sg_no s) then -1 else nI (sg_L s 0 0 10)
noncomputable def q_ways (s : dz_Sg) : Int64 := lN (sg_M s 0 0 10)
noncomputable def q_first (s : dz_Sg) (v : Int32) : Int32 := if dz_B (sg_no s ∨ ¬ (0 ≤ v ∧ v < nI (sg_p s))) then -1 else nI (sg_fw s v.toNatClampNeg)
def sg_sure (s : dz_Sg) (p k : Nat) : Prop := ∀ j, j < 11 → (sg_held s p j ↔ j = k)
noncomputable def q_sure (s : dz_Sg) (v : Int32) : Int32 := if dz_B (sg_no s ∨ ¬ (0 ≤ v ∧ v < nI (sg_n s))) then -1 else dz_find (fun p => dz_B (sg_sure s p v.toNatClampNeg)) (sg_p s)
noncomputable def q_open (s : dz_Sg) (v : Int32) : Int32 := if dz_B (sg_no s ∨ ¬ (0 ≤ v ∧ v < nI (sg_n s))) then nI 0 else nI (dz_bits (fun p => dz_B (sg_held s p v.toNatClampNeg)) (sg_p s))
def sg_wt (s : dz_Sg) (j : Nat) : Int32 := if j = 10 then sg_st s else sg_f s j 7
noncomputable def sg_lt (s : dz_Sg) (p q : Nat) : Int32 := if p < q ∧ sg_col s q = sg_col s p then sg_wt s (sg_fw s q) else 0
noncomputable def sg_load (s : dz_Sg) (p : Nat) : Int32 := dz_sumI (sg_lt s p) (sg_p s)
noncomputable def q_borne (s : dz_Sg) (v : Int32) : Int32 := if dz_fs (fun p => nI (sg_fw s p) = v) (sg_p s) < sg_p s then sg_load s (dz_fs (fun p => nI (sg_fw s p) = v) (sg_p s)) else -1
noncomputable def q_bears (s : dz_Sg) (v : Int32) : Int32 := if dz_B (sg_no s ∨ ¬ (0 ≤ v ∧ v < nI (sg_n s))) then -1 else q_borne s v
noncomputable def q_cracked (s : dz_Sg) : Int32 := if dz_B (sg_no s) then nI 0 else nI (dz_bits (fun d => dz_B (sg_f s d 8 < q_borne s (nI d))) (sg_n s))
noncomputable def sg_hp (s : dz_Sg) (j : Nat) : Int32 := if j = 10 then dz_mean (fun d => sg_f s d 3) (sg_n s) else sg_f s j 3
noncomputable def q_tall (s : dz_Sg) (v : Int32) : Int32 := if dz_B (sg_no s ∨ ¬ (0 ≤ v ∧ v < nI (sg_c s))) then -1 else dz_sumI (fun q => if nI (sg_col s q) = v then sg_hp s (sg_fw s q) else 0) (sg_p s)
theorem dz_B1 {P : Prop} {α : Type} {a b : α} (h : P) : (if dz_B P then a else b) = a := if_pos (dz_Bt.mpr h)
theorem dz_B0 {P : Prop} {α : Type} {a b : α} (h : ¬ P) : (if dz_B P then a else b) = b := if_neg (fun q => h (dz_Bt.mp q))
theorem dz_lt_pre (s : dz_Sg) (p : Nat) : ∀ q, q ≤ p + 1 → dz_sumI (sg_lt s p) q = 0
  | 0, _ => rfl
  | q + 1, h => by
    have ih := dz_lt_pre s p q (by omega)
    show dz_sumI (sg_lt s p) q + sg_lt s p q = 0
    rw [ih]
    unfold sg_lt
    rw [if_neg (by omega)]
    rfl
theorem dz_add0 (x : Int32) : x + 0 = x := Int32.add_zero x
set_option maxRecDepth 100000 in
set_option maxHeartbeats 4000000 in
theorem c_X5_least (π : dz_Pl) {s : dz_Sg} (I : dz_MI) (J : dz_MJ) (hO : dz_OK s) (hR : dz_RM s I) : dz_Cl π dz_M 24 mX5_least 5 143 [.inr (.inr 0)] I J (dz_Qm s (.inl (q_least s))) := by
  refine dz_body (own := 5) dz_mX5_least rfl (Nat.le_of_ble_eq_true rfl) (fun V hV => ?_)
  have hO2 := hO
  obtain ⟨o1, o2, o3, o4, o5, o6, o7, o8, o9⟩ := hO
  have hle := sg_L_le s 0 0 10
  refine dr_aload_n 0 hV dX5_least_0 rfl ?_
  refine dr_cv0 1 hV dz_lX5_158 dX5_least_1 (by decide) (by decide) ⟨by decide, _, _, rfl, by decide, rfl⟩ (Nat.le_of_ble_eq_true rfl) (c_X5_find π _ _ hO2 hR) (fun r I2 J2 hf => ?_)
  obtain ⟨rfl, hR2, hA2, hF2⟩ := hf
  obtain ⟨m1, m2, m3, m4, m5, m6, m7, m8, m9, m10, m11, m12⟩ := id hR2
  first | refine dr_ifb_eq (tgt := 22) 4 hV dX5_least_4 (by decide) (fun c4 => ?_) (fun c4 => ?_) | refine dr_if_eq (tgt := 22) 4 hV dX5_least_4 (by decide) (fun c4 => ?_) (fun c4 => ?_)
  · have hy : sg_no s := Classical.byContradiction c4
    refine dr_iconst (v := (-1)) 22 hV dX5_least_22 (by decide) ?_
    exact dr_iret 23 hV dX5_least_23 rfl (by first | rfl | exact dz_bn) (dz_qm (by clear hV; first | rw [q_least, dz_B1 hy] | rw [q_least, dz_B0 (show ¬ sg_no s from c4)]) hR2)
  · refine dr_aload_n 7 hV dX5_least_7 rfl ?_
    refine dr_geta 8 hV dX5_least_8 (by decide) (by decide) rfl rfl rfl ?_
    refine dr_iconst (v := nI 0) 11 hV dX5_least_11 (by decide) ?_
    refine dr_iconst (v := nI 0) 12 hV dX5_least_12 (by decide) ?_
    refine dr_bipush (v := nI 10) 13 hV dX5_least_13 (by decide) ?_
    refine dr_csp3 15 hV (Or.inl dz_lX5_144) dX5_least_15 (by decide) (by decide) (Nat.le_of_ble_eq_true rfl) (c_index π _ _ 0 0 10 _ _) ?_
    refine dr_iald 18 hV dX5_least_18 (by decide) rfl rfl (by decide) (by decide) (hA2 0 0 10 (Nat.zero_le _) (Nat.two_pow_pos _) (by decide) (Nat.le_refl _)).1 ?_
    refine dr_goto (tgt := 23) 19 hV dX5_least_19 (by decide) ?_
    exact dr_iret 23 hV dX5_least_23 rfl (by first | rfl | exact dz_bn) (dz_qm (by clear hV; first | rw [q_least, dz_B1 hy] | rw [q_least, dz_B0 (show ¬ sg_no s from c4)]) hR2)
set_option maxRecDepth 100000 in
set_option maxHeartbeats 4000000 in
theorem c_X5_ways (π : dz_Pl) {s : dz_Sg} (I : dz_MI) (J : dz_MJ) (hO : dz_OK s) (hR : dz_RM s I) : dz_Cl π dz_M 24 mX5_ways 5 143 [.inr (.inr 0)] I J (dz_Qm s (.inr (.inl (q_ways s)))) := by
  refine dz_body (own := 5) dz_mX5_ways rfl (Nat.le_of_ble_eq_true rfl) (fun V hV => ?_)
  have hO2 := hO
  obtain ⟨o1, o2, o3, o4, o5, o6, o7, o8, o9⟩ := hO
  have hle := sg_L_le s 0 0 10
  refine dr_aload_n 0 hV dX5_ways_0 rfl ?_
  refine dr_cv0 1 hV dz_lX5_158 dX5_ways_1 (by decide) (by decide) ⟨by decide, _, _, rfl, by decide, rfl⟩ (Nat.le_of_ble_eq_true rfl) (c_X5_find π _ _ hO2 hR) (fun r I2 J2 hf => ?_)
  obtain ⟨rfl, hR2, hA2, hF2⟩ := hf
  obtain ⟨m1, m2, m3, m4, m5, m6, m7, m8, m9, m10, m11, m12⟩ := id hR2
  first | refine dr_ifb_eq (tgt := 22) 4 hV dX5_ways_4 (by decide) (fun c4 => ?_) (fun c4 => ?_) | refine dr_if_eq (tgt := 22) 4 hV dX5_ways_4 (by decide) (fun c4 => ?_) (fun c4 => ?_)
  · have hy : sg_no s := Classical.byContradiction c4
    have hM : sg_M s 0 0 10 = 0 := by
      rw [sg_M_v (Or.inr (Or.inl rfl))]
      exact dz_no_0 (by rw [← sg_L_v (Or.inr (Or.inl rfl))]; exact hy)
    refine dr_lconst (v := lN 0) 22 hV dX5_ways_22 (by decide) ?_
    exact dr_lret 23 hV dX5_ways_23 rfl ⟨by clear hV; first | rfl | (unfold q_ways; rw [hM]), hR2⟩
  · refine dr_aload_n 7 hV dX5_ways_7 rfl ?_
    refine dr_geta 8 hV dX5_ways_8 (by decide) (by decide) rfl rfl rfl ?_
    refine dr_iconst (v := nI 0) 11 hV dX5_ways_11 (by decide) ?_
    refine dr_iconst (v := nI 0) 12 hV dX5_ways_12 (by decide) ?_
    refine dr_bipush (v := nI 10) 13 hV dX5_ways_13 (by decide) ?_
    refine dr_csp3 15 hV (Or.inl dz_lX5_144) dX5_ways_15 (by decide) (by decide) (Nat.le_of_ble_eq_true rfl) (c_index π _ _ 0 0 10 _ _) ?_
    refine dr_lald 18 hV dX5_ways_18 (by decide) rfl rfl (by decide) (by decide) (hA2 0 0 10 (Nat.zero_le _) (Nat.two_pow_pos _) (by decide) (Nat.le_refl _)).2.1 ?_
    refine dr_goto (tgt := 23) 19 hV dX5_ways_19 (by decide) ?_
    exact dr_lret 23 hV dX5_ways_23 rfl ⟨by clear hV; first | rfl | (unfold q_ways; rw [hM]), hR2⟩
set_option maxRecDepth 100000 in
set_option maxHeartbeats 4000000 in
theorem c_X5_first (π : dz_Pl) {s : dz_Sg} (v : Int32) (I : dz_MI) (J : dz_MJ) (hO : dz_OK s) (hR : dz_RM s I) : dz_Cl π dz_M 24 mX5_first 5 143 [.inr (.inr 0), .inl v] I J (dz_Qm s (.inl (q_first s v))) := by
  refine dz_body (own := 5) dz_mX5_first rfl (Nat.le_of_ble_eq_true rfl) (fun V hV => ?_)
  have hO2 := hO
  obtain ⟨o1, o2, o3, o4, o5, o6, o7, o8, o9⟩ := hO
  have hle := sg_L_le s 0 0 10
  refine dr_aload_n 0 hV dX5_first_0 rfl ?_
  refine dr_cv0 1 hV dz_lX5_158 dX5_first_1 (by decide) (by decide) ⟨by decide, _, _, rfl, by decide, rfl⟩ (Nat.le_of_ble_eq_true rfl) (c_X5_find π _ _ hO2 hR) (fun r I2 J2 hf => ?_)
  obtain ⟨rfl, hR2, hA2, hF2⟩ := hf
  obtain ⟨m1, m2, m3, m4, m5, m6, m7, m8, m9, m10, m11, m12⟩ := id hR2
  first | refine dr_ifb_eq (tgt := 24) 4 hV dX5_first_4 (by decide) (fun c4 => ?_) (fun c4 => ?_) | refine dr_if_eq (tgt := 24) 4 hV dX5_first_4 (by decide) (fun c4 => ?_) (fun c4 => ?_)
  · refine dr_iconst (v := (-1)) 24 hV dX5_first_24 (by decide) ?_
    exact dr_iret 25 hV dX5_first_25 rfl (by first | rfl | exact dz_bn) (dz_qm (by clear hV; unfold q_first; first | rw [dz_B0 (by rw [m3] at *; intro z; exact z.elim c4 (fun y => y c12)), nI_clamp (by omega)] | rw [dz_B1 (by rw [m3] at *; grind [sg_no])]) hR2)
  · refine dr_aload_n 7 hV dX5_first_7 rfl ?_
    refine dr_iload_n 8 hV dX5_first_8 rfl ?_
    refine dr_cvp1 9 hV dz_lX5_141 dX5_first_9 (by decide) (by decide) ⟨by decide, _, _, rfl, by decide, rfl⟩ (Nat.le_of_ble_eq_true rfl) (c_X5_isPlace π _ _ _) ?_
    first | refine dr_ifb_eq (tgt := 24) 12 hV dX5_first_12 (by decide) (fun c12 => ?_) (fun c12 => ?_) | refine dr_if_eq (tgt := 24) 12 hV dX5_first_12 (by decide) (fun c12 => ?_) (fun c12 => ?_)
    · refine dr_iconst (v := (-1)) 24 hV dX5_first_24 (by decide) ?_
      exact dr_iret 25 hV dX5_first_25 rfl (by first | rfl | exact dz_bn) (dz_qm (by clear hV; unfold q_first; first | rw [dz_B0 (by rw [m3] at *; intro z; exact z.elim c4 (fun y => y c12)), nI_clamp (by omega)] | rw [dz_B1 (by rw [m3] at *; grind [sg_no])]) hR2)
    · obtain ⟨k, hk, rfl⟩ := dz_ofI m3 (by omega) c12
      refine dr_aload_n 15 hV dX5_first_15 rfl ?_
      refine dr_geta 16 hV dX5_first_16 (by decide) (by decide) rfl rfl rfl ?_
      refine dr_iload_n 19 hV dX5_first_19 rfl ?_
      refine dr_iald 20 hV dX5_first_20 (by decide) rfl rfl (by omega) (by decide) (hF2 c4 k hk) ?_
      refine dr_goto (tgt := 25) 21 hV dX5_first_21 (by decide) ?_
      exact dr_iret 25 hV dX5_first_25 rfl (by first | rfl | exact dz_bn) (dz_qm (by clear hV; unfold q_first; first | rw [dz_B0 (by rw [m3] at *; intro z; exact z.elim c4 (fun y => y c12)), nI_clamp (by omega)] | rw [dz_B1 (by rw [m3] at *; grind [sg_no])]) hR2)
theorem sg_US_sure {s : dz_Sg} (h8 : sg_p s ≤ 8) (h0 : ¬ sg_L s 0 0 10 = 1000) {p d : Nat} (hp : p < sg_p s) (hd : d < 11) : sg_US s p d = sg_M s 0 0 10 ↔ sg_sure s p d := sg_US_all h8 h0 hp hd
theorem dz_lgeq {a b : Nat} (ha : a < 2 ^ 62) (hb : b < 2 ^ 62) (h : lg_cmp (lN a) (lN b) = 0) : a = b := by
  unfold lg_cmp at h
  split at h
  · exact absurd h (by decide)
  · split at h
    · rename_i e; exact (pk_lEQ (by omega) (by omega)).mp e
    · exact absurd h (by decide)
set_option maxRecDepth 100000 in
set_option maxHeartbeats 4000000 in
theorem c_X5_sure (π : dz_Pl) {s : dz_Sg} (v : Int32) (I : dz_MI) (J : dz_MJ) (hO : dz_OK s) (hR : dz_RM s I) : dz_Cl π dz_M 24 mX5_sure 5 143 [.inr (.inr 0), .inl v] I J (dz_Qm s (.inl (q_sure s v))) := by
  refine dz_body (own := 5) dz_mX5_sure rfl (Nat.le_of_ble_eq_true rfl) (fun V hV => ?_)
  have hO2 := hO
  obtain ⟨o1, o2, o3, o4, o5, o6, o7, o8, o9⟩ := hO
  have hle := sg_L_le s 0 0 10
  refine dr_aload_n 0 hV dX5_sure_0 rfl ?_
  refine dr_cv0 1 hV dz_lX5_158 dX5_sure_1 (by decide) (by decide) ⟨by decide, _, _, rfl, by decide, rfl⟩ (Nat.le_of_ble_eq_true rfl) (c_X5_find π _ _ hO2 hR) (fun r I2 J2 hf => ?_)
  obtain ⟨rfl, hR2, hA2, hF2⟩ := hf
  obtain ⟨m1, m2, m3, m4, m5, m6, m7, m8, m9, m10, m11, m12⟩ := id hR2
  first | refine dr_ifb_eq (tgt := 15) 4 hV dX5_sure_4 (by decide) (fun c4 => ?_) (fun c4 => ?_) | refine dr_if_eq (tgt := 15) 4 hV dX5_sure_4 (by decide) (fun c4 => ?_) (fun c4 => ?_)
  · refine dr_iconst (v := (-1)) 15 hV dX5_sure_15 (by decide) ?_
    exact dr_iret 16 hV dX5_sure_16 rfl (by first | rfl | exact dz_bn) (dz_qm (by clear hV; unfold q_sure; rw [dz_B1 (by rw [m1] at *; grind [sg_no])]) hR2)
  · refine dr_aload_n 7 hV dX5_sure_7 rfl ?_
    refine dr_iload_n 8 hV dX5_sure_8 rfl ?_
    refine dr_cvp1 9 hV dz_lX5_124 dX5_sure_9 (by decide) (by decide) ⟨by decide, _, _, rfl, by decide, rfl⟩ (Nat.le_of_ble_eq_true rfl) (c_X5_isDrum π _ _ _) ?_
    first | refine dr_ifb_ne (tgt := 17) 12 hV dX5_sure_12 (by decide) (fun c12 => ?_) (fun c12 => ?_) | refine dr_if_ne (tgt := 17) 12 hV dX5_sure_12 (by decide) (fun c12 => ?_) (fun c12 => ?_)
    · refine dr_aload_n 17 hV dX5_sure_17 rfl ?_
      refine dr_cv0 18 hV dz_lX5_162 dX5_sure_18 (by decide) (by decide) ⟨by decide, _, _, rfl, by decide, rfl⟩ (Nat.le_of_ble_eq_true rfl) (c_X5_use π _ _ hO2 hR2 hA2 c4) (fun r3 I3 J3 hu3 => ?_)
      obtain ⟨rfl, rfl, hU, h19⟩ := hu3
      obtain ⟨k, hk, rfl⟩ := dz_ofI m1 (by omega) c12
      have hok : ¬ (sg_no s ∨ ¬ (0 ≤ nI k ∧ nI k < nI (sg_n s))) := fun z => z.elim c4 (fun y => y (dz_inI rfl hk (by omega)))
      have loop : ∀ (fu i : Nat), sg_p s < i + fu → i ≤ sg_p s → (∀ j, j < i → ¬ sg_US s j k = sg_M s 0 0 10) → V 23 I3 J3 [(0, .inr (.inr 0)), (1, .inl (nI k)), (2, .inl (nI (i)))] [] := by
        intro fu
        induction fu with
        | zero => intro i h1 h2; exact absurd h1 (by omega)
        | succ fu ih =>
          intro i h1 h2 hi
          refine dr_iload_n 23 hV dX5_sure_23 rfl ?_
          refine dr_aload_n 24 hV dX5_sure_24 rfl ?_
          refine dr_geti 25 hV dX5_sure_25 (by decide) (by decide) rfl rfl rfl m3 ?_
          refine dn_icmp_ge (tgt := 66) 28 hV dX5_sure_28 (by decide) (by omega) (by omega) (fun c28 => ?_) (fun c28 => ?_)
          · refine dr_iconst (v := (-1)) 66 hV dX5_sure_66 (by decide) ?_
            exact dr_iret 67 hV dX5_sure_67 rfl (by first | rfl | exact dz_bn) (dz_qm (by clear hV ih; unfold q_sure; rw [dz_B0 hok, nI_clamp (by omega), dz_find_n (fun j hj => dz_Bf.mpr (fun z => hi j (by omega) ((sg_US_sure o3 c4 hj (by omega)).mpr z)))]) hR2)
          · refine dr_aload_n 31 hV dX5_sure_31 rfl ?_
            refine dr_geta 32 hV dX5_sure_32 (by decide) (by decide) rfl rfl rfl ?_
            refine dr_bipush (v := nI 11) 35 hV dX5_sure_35 (by decide) ?_
            refine dr_iload_n 37 hV dX5_sure_37 rfl ?_
            refine dr_imul (z := nI (11 * i)) 38 hV dX5_sure_38 (pk_mul _ _) ?_
            refine dr_iload_n 39 hV dX5_sure_39 rfl ?_
            refine dr_iadd (z := nI (11 * i + k)) 40 hV dX5_sure_40 (nI_add _ _) ?_
            refine dr_lald (v := lN (sg_US s i k)) 41 hV dX5_sure_41 (by decide) rfl rfl (by omega) (by decide) (hU i k (by omega) (by omega)) ?_
            refine dr_aload_n 42 hV dX5_sure_42 rfl ?_
            refine dr_geta 43 hV dX5_sure_43 (by decide) (by decide) rfl rfl rfl ?_
            refine dr_iconst (v := nI 0) 46 hV dX5_sure_46 (by decide) ?_
            refine dr_iconst (v := nI 0) 47 hV dX5_sure_47 (by decide) ?_
            refine dr_bipush (v := nI 10) 48 hV dX5_sure_48 (by decide) ?_
            refine dr_csp3 50 hV (Or.inl dz_lX5_144) dX5_sure_50 (by decide) (by decide) (Nat.le_of_ble_eq_true rfl) (c_index π _ _ 0 0 10 _ _) ?_
            refine dr_lald (v := lN (sg_M s 0 0 10)) 53 hV dX5_sure_53 (by decide) rfl rfl (by decide) (by decide) (by rw [h19]; exact (hA2 0 0 10 (Nat.zero_le _) (Nat.two_pow_pos _) (by decide) (Nat.le_refl _)).2.1) ?_
            refine dr_lcmp 54 hV dX5_sure_54 ?_
            refine dr_if_ne (tgt := 60) 55 hV dX5_sure_55 (by decide) (fun c55 => ?_) (fun c55 => ?_)
            · have hne : ¬ sg_US s i k = sg_M s 0 0 10 := fun z => c55 (by rw [z]; unfold lg_cmp; rw [if_neg (by simp), if_pos rfl])
              refine dr_iinc1 60 hV dX5_sure_60 (by decide) rfl ?_
              refine dr_goto (tgt := 23) 63 hV dX5_sure_63 (by decide) ?_
              refine dr_sub hV (ls2 := [(0, .inr (.inr 0)), (1, .inl (nI k)), (2, .inl (nI (i + 1)))]) rfl ?_
              exact ih (i + 1) (by omega) (by omega) (lt_s hi hne)
            · have heq : sg_US s i k = sg_M s 0 0 10 := dz_lgeq (Nat.lt_of_le_of_lt (sg_US_le o3 c4 c28 (by omega)) (by decide)) (Nat.lt_of_le_of_lt (sg_M_le s 0 0 10 o3) (by decide)) c55
              refine dr_iload_n 58 hV dX5_sure_58 rfl ?_
              exact dr_iret 59 hV dX5_sure_59 rfl (by first | rfl | exact dz_bn) (dz_qm (by clear hV ih; unfold q_sure; rw [dz_B0 hok, nI_clamp (by omega), dz_find_s c28 (dz_Bt.mpr ((sg_US_sure o3 c4 c28 (by omega)).mp heq)) (fun j hj => dz_Bf.mpr (fun z => hi j hj ((sg_US_sure o3 c4 (by omega) (by omega)).mpr z)))]) hR2)
      refine dr_iconst (v := nI 0) 21 hV dX5_sure_21 (by decide) ?_
      refine dr_istore_n 22 hV dX5_sure_22 (by decide) ?_
      refine dr_sub hV (ls2 := [(0, .inr (.inr 0)), (1, .inl (nI k)), (2, .inl (nI (0)))]) rfl ?_
      exact loop (sg_p s + 1) 0 (by omega) (Nat.zero_le _) (fun j hj => absurd hj (by omega))
    · refine dr_iconst (v := (-1)) 15 hV dX5_sure_15 (by decide) ?_
      exact dr_iret 16 hV dX5_sure_16 rfl (by first | rfl | exact dz_bn) (dz_qm (by clear hV; unfold q_sure; rw [dz_B1 (by rw [m1] at *; grind [sg_no])]) hR2)
set_option maxRecDepth 100000 in
set_option maxHeartbeats 4000000 in
theorem c_X5_open (π : dz_Pl) {s : dz_Sg} (v : Int32) (I : dz_MI) (J : dz_MJ) (hO : dz_OK s) (hR : dz_RM s I) : dz_Cl π dz_M 24 mX5_open 5 143 [.inr (.inr 0), .inl v] I J (dz_Qm s (.inl (q_open s v))) := by
  refine dz_body (own := 5) dz_mX5_open rfl (Nat.le_of_ble_eq_true rfl) (fun V hV => ?_)
  have hO2 := hO
  obtain ⟨o1, o2, o3, o4, o5, o6, o7, o8, o9⟩ := hO
  have hle := sg_L_le s 0 0 10
  refine dr_aload_n 0 hV dX5_open_0 rfl ?_
  refine dr_cv0 1 hV dz_lX5_158 dX5_open_1 (by decide) (by decide) ⟨by decide, _, _, rfl, by decide, rfl⟩ (Nat.le_of_ble_eq_true rfl) (c_X5_find π _ _ hO2 hR) (fun r I2 J2 hf => ?_)
  obtain ⟨rfl, hR2, hA2, hF2⟩ := hf
  obtain ⟨m1, m2, m3, m4, m5, m6, m7, m8, m9, m10, m11, m12⟩ := id hR2
  first | refine dr_ifb_eq (tgt := 15) 4 hV dX5_open_4 (by decide) (fun c4 => ?_) (fun c4 => ?_) | refine dr_if_eq (tgt := 15) 4 hV dX5_open_4 (by decide) (fun c4 => ?_) (fun c4 => ?_)
  · refine dr_iconst (v := nI 0) 15 hV dX5_open_15 (by decide) ?_
    exact dr_iret 16 hV dX5_open_16 rfl (by first | rfl | exact dz_bn) (dz_qm (by clear hV; unfold q_open; rw [dz_B1 (by rw [m1] at *; grind [sg_no])]) hR2)
  · refine dr_aload_n 7 hV dX5_open_7 rfl ?_
    refine dr_iload_n 8 hV dX5_open_8 rfl ?_
    refine dr_cvp1 9 hV dz_lX5_124 dX5_open_9 (by decide) (by decide) ⟨by decide, _, _, rfl, by decide, rfl⟩ (Nat.le_of_ble_eq_true rfl) (c_X5_isDrum π _ _ _) ?_
    first | refine dr_ifb_ne (tgt := 17) 12 hV dX5_open_12 (by decide) (fun c12 => ?_) (fun c12 => ?_) | refine dr_if_ne (tgt := 17) 12 hV dX5_open_12 (by decide) (fun c12 => ?_) (fun c12 => ?_)
    · refine dr_aload_n 17 hV dX5_open_17 rfl ?_
      refine dr_cv0 18 hV dz_lX5_162 dX5_open_18 (by decide) (by decide) ⟨by decide, _, _, rfl, by decide, rfl⟩ (Nat.le_of_ble_eq_true rfl) (c_X5_use π _ _ hO2 hR2 hA2 c4) (fun r3 I3 J3 hu3 => ?_)
      obtain ⟨rfl, rfl, hU, h19⟩ := hu3
      obtain ⟨k, hk, rfl⟩ := dz_ofI m1 (by omega) c12
      have hok : ¬ (sg_no s ∨ ¬ (0 ≤ nI k ∧ nI k < nI (sg_n s))) := fun z => z.elim c4 (fun y => y (dz_inI rfl hk (by omega)))
      have loop : ∀ (fu i : Nat), sg_p s < i + fu → i ≤ sg_p s → V 25 I3 J3 [(0, .inr (.inr 0)), (1, .inl (nI k)), (2, .inl (nI (dz_bits (fun p => dz_B (sg_held s p k)) (i)))), (3, .inl (nI (i)))] [] := by
        intro fu
        induction fu with
        | zero => intro i h1 h2; exact absurd h1 (by omega)
        | succ fu ih =>
          intro i h1 h2
          refine dr_iload_n 25 hV dX5_open_25 rfl ?_
          refine dr_aload_n 26 hV dX5_open_26 rfl ?_
          refine dr_geti 27 hV dX5_open_27 (by decide) (by decide) rfl rfl rfl m3 ?_
          refine dn_icmp_ge (tgt := 65) 30 hV dX5_open_30 (by decide) (by omega) (by omega) (fun c30 => ?_) (fun c30 => ?_)
          · refine dr_iload_n 65 hV dX5_open_65 rfl ?_
            exact dr_iret 66 hV dX5_open_66 rfl (by first | rfl | exact dz_bn) (dz_qm (by clear hV ih; unfold q_open; rw [dz_B0 hok, nI_clamp (by omega), show i = sg_p s by omega]) hR2)
          · refine dr_iload_n 33 hV dX5_open_33 rfl ?_
            refine dr_aload_n 34 hV dX5_open_34 rfl ?_
            refine dr_geta 35 hV dX5_open_35 (by decide) (by decide) rfl rfl rfl ?_
            refine dr_bipush (v := nI 11) 38 hV dX5_open_38 (by decide) ?_
            refine dr_iload_n 40 hV dX5_open_40 rfl ?_
            refine dr_imul (z := nI (11 * i)) 41 hV dX5_open_41 (pk_mul _ _) ?_
            refine dr_iload_n 42 hV dX5_open_42 rfl ?_
            refine dr_iadd (z := nI (11 * i + k)) 43 hV dX5_open_43 (nI_add _ _) ?_
            refine dr_lald (v := lN (sg_US s i k)) 44 hV dX5_open_44 (by decide) rfl rfl (by omega) (by decide) (hU i k (by omega) (by omega)) ?_
            refine dr_lconst (v := lN 0) 45 hV dX5_open_45 (by decide) ?_
            refine dr_lcmp 46 hV dX5_open_46 ?_
            refine dr_if_le (tgt := 56) 47 hV dX5_open_47 (by decide) (fun c47 => ?_) (fun c47 => ?_)
            · have hz : ¬ sg_held s i k := fun z => by
                rw [lg_p ((sg_US_pos (by omega)).mpr z) (Nat.lt_of_le_of_lt (sg_US_le o3 c4 c30 (by omega)) (by decide))] at c47
                exact absurd c47 (by decide)
              refine dr_iconst (v := nI 0) 56 hV dX5_open_56 (by decide) ?_
              refine dr_ior (z := nI (dz_bits (fun p => dz_B (sg_held s p k)) (i + 1))) 57 hV dX5_open_57 (by rw [fa_or, Nat.or_zero, dz_bits_n (dz_Bf.mpr hz)]) ?_
              refine dr_istore_n 58 hV dX5_open_58 (by decide) ?_
              refine dr_iinc1 59 hV dX5_open_59 (by decide) rfl ?_
              refine dr_goto (tgt := 25) 62 hV dX5_open_62 (by decide) ?_
              refine dr_sub hV (ls2 := [(0, .inr (.inr 0)), (1, .inl (nI k)), (2, .inl (nI (dz_bits (fun p => dz_B (sg_held s p k)) (i + 1)))), (3, .inl (nI (i + 1)))]) rfl ?_
              exact ih (i + 1) (by omega) (by omega)
            · have hz : sg_held s i k := (sg_US_pos (by omega)).mp (Nat.pos_of_ne_zero (fun z => c47 (by rw [z, lg_z]; decide)))
              refine dr_iconst (v := nI 1) 50 hV dX5_open_50 (by decide) ?_
              refine dr_iload_n 51 hV dX5_open_51 rfl ?_
              refine dr_ishl 52 hV dX5_open_52 rfl ?_
              refine dr_goto (tgt := 57) 53 hV dX5_open_53 (by decide) ?_
              refine dr_ior (z := nI (dz_bits (fun p => dz_B (sg_held s p k)) (i + 1))) 57 hV dX5_open_57 (dz_bits_s (by omega) (dz_Bt.mpr hz)) ?_
              refine dr_istore_n 58 hV dX5_open_58 (by decide) ?_
              refine dr_iinc1 59 hV dX5_open_59 (by decide) rfl ?_
              refine dr_goto (tgt := 25) 62 hV dX5_open_62 (by decide) ?_
              refine dr_sub hV (ls2 := [(0, .inr (.inr 0)), (1, .inl (nI k)), (2, .inl (nI (dz_bits (fun p => dz_B (sg_held s p k)) (i + 1)))), (3, .inl (nI (i + 1)))]) rfl ?_
              exact ih (i + 1) (by omega) (by omega)
      refine dr_iconst (v := nI 0) 21 hV dX5_open_21 (by decide) ?_
      refine dr_istore_n 22 hV dX5_open_22 (by decide) ?_
      refine dr_iconst (v := nI 0) 23 hV dX5_open_23 (by decide) ?_
      refine dr_istore_n 24 hV dX5_open_24 (by decide) ?_
      refine dr_sub hV (ls2 := [(0, .inr (.inr 0)), (1, .inl (nI k)), (2, .inl (nI (dz_bits (fun p => dz_B (sg_held s p k)) (0)))), (3, .inl (nI (0)))]) rfl ?_
      exact loop (sg_p s + 1) 0 (by omega) (Nat.zero_le _)
    · refine dr_iconst (v := nI 0) 15 hV dX5_open_15 (by decide) ?_
      exact dr_iret 16 hV dX5_open_16 rfl (by first | rfl | exact dz_bn) (dz_qm (by clear hV; unfold q_open; rw [dz_B1 (by rw [m1] at *; grind [sg_no])]) hR2)
theorem q_borne_s {s : dz_Sg} {v : Int32} {i : Nat} (hi : i < sg_p s) (h : nI (sg_fw s i) = v) (hl : ∀ j, j < i → ¬ nI (sg_fw s j) = v) : q_borne s v = sg_load s i := by
  unfold q_borne
  rw [dz_fs_eq (P := fun p => nI (sg_fw s p) = v) hi h hl, if_pos hi]
theorem q_borne_n {s : dz_Sg} {v : Int32} (hl : ∀ j, j < sg_p s → ¬ nI (sg_fw s j) = v) : q_borne s v = -1 := by
  unfold q_borne
  rcases dz_fs_c (fun p => nI (sg_fw s p) = v) (sg_p s) with w | w
  · exact absurd w.2.1 (hl _ w.1)
  · rw [if_neg (by omega)]
set_option maxRecDepth 100000 in
set_option maxHeartbeats 4000000 in
theorem c_X5_borne (π : dz_Pl) {s : dz_Sg} (v : Int32) (I : dz_MI) (J : dz_MJ) (hO : dz_OK s) (hR : dz_RM s I) (hn : ¬ sg_L s 0 0 10 = 1000) (hF : ∀ p, p < sg_p s → I 22 p = nI (sg_fw s p)) : dz_Cl π dz_M 24 mX5_borne 0 0 [.inr (.inr 0), .inl v] I J (dz_Pu (.inl (q_borne s v)) I J) := by
  refine dz_body (own := 5) dz_mX5_borne rfl (Nat.le_of_ble_eq_true rfl) (fun V hV => ?_)
  obtain ⟨o1, o2, o3, o4, o5, o6, o7, o8, o9⟩ := hO
  obtain ⟨m1, m2, m3, m4, m5, m6, m7, m8, m9, m10, m11, m12⟩ := hR
  have inner : ∀ (p fu i : Nat), sg_p s < i + fu → i ≤ sg_p s → ∀ (hp : p < sg_p s) (hlo : p + 1 ≤ i) (hq : q_borne s v = sg_load s p), V 30 I J [(0, .inr (.inr 0)), (2, .inl (nI p)), (3, .inl (dz_sumI (sg_lt s p) (i))), (4, .inl (nI (i)))] [] := by
    intro p fu
    induction fu with
    | zero => intro i h1 h2; exact absurd h1 (by omega)
    | succ fu ih =>
      intro i h1 h2 hp hlo hq
      refine dr_iload 30 hV dX5_borne_30 rfl ?_
      refine dr_aload_n 32 hV dX5_borne_32 rfl ?_
      refine dr_geti 33 hV dX5_borne_33 (by decide) (by decide) rfl rfl rfl m3 ?_
      refine dn_icmp_ge (tgt := 95) 36 hV dX5_borne_36 (by decide) (by omega) (by omega) (fun c36 => ?_) (fun c36 => ?_)
      · refine dr_iload_n 95 hV dX5_borne_95 rfl ?_
        exact dr_iret 96 hV dX5_borne_96 rfl (by first | rfl | exact dz_bn) (dz_pue (by rw [show i = sg_p s by omega]; exact hq.symm))
      · refine dr_aload_n 39 hV dX5_borne_39 rfl ?_
        refine dr_geta 40 hV dX5_borne_40 (by decide) (by decide) rfl rfl rfl ?_
        refine dr_iload 43 hV dX5_borne_43 rfl ?_
        refine dr_iald 45 hV dX5_borne_45 (by decide) rfl rfl (by omega) (by decide) (m11 i (by omega)).1 ?_
        refine dr_aload_n 46 hV dX5_borne_46 rfl ?_
        refine dr_geta 47 hV dX5_borne_47 (by decide) (by decide) rfl rfl rfl ?_
        refine dr_iload_n 50 hV dX5_borne_50 rfl ?_
        refine dr_iald 51 hV dX5_borne_51 (by decide) rfl rfl (by omega) (by decide) (m11 p (by omega)).1 ?_
        refine dn_icmp_ne (tgt := 89) 52 hV dX5_borne_52 (by decide) (by have := (o6 i (by omega)).1; omega) (by have := (o6 p (by omega)).1; omega) (fun c52 => ?_) (fun c52 => ?_)
        · have ez : dz_sumI (sg_lt s p) (i + 1) = dz_sumI (sg_lt s p) i := by
            show dz_sumI (sg_lt s p) i + sg_lt s p i = _
            unfold sg_lt; rw [if_neg (fun z => c52 z.2)]; exact dz_add0 _
          rw [← ez]
          refine dr_iinc1 89 hV dX5_borne_89 (by decide) rfl ?_
          refine dr_goto (tgt := 30) 92 hV dX5_borne_92 (by decide) ?_
          refine dr_sub hV (ls2 := [(0, .inr (.inr 0)), (2, .inl (nI p)), (3, .inl (dz_sumI (sg_lt s p) (i + 1))), (4, .inl (nI (i + 1)))]) rfl ?_
          exact ih (i + 1) (by omega) (by omega) hp (by omega) hq
        · have hfi := sg_fw_ok o3 hn (show i < sg_p s by omega)
          have et : sg_lt s p i = sg_wt s (sg_fw s i) := by unfold sg_lt; rw [if_pos ⟨by omega, c52⟩]
          refine dr_iload_n 55 hV dX5_borne_55 rfl ?_
          refine dr_aload_n 56 hV dX5_borne_56 rfl ?_
          refine dr_geta 57 hV dX5_borne_57 (by decide) (by decide) rfl rfl rfl ?_
          refine dr_iload 60 hV dX5_borne_60 rfl ?_
          refine dr_iald 62 hV dX5_borne_62 (by decide) rfl rfl (by omega) (by decide) (hF i (by omega)) ?_
          refine dr_bipush (v := nI 10) 63 hV dX5_borne_63 (by decide) ?_
          refine dn_icmp_ne (tgt := 75) 65 hV dX5_borne_65 (by decide) (by omega) (by omega) (fun c65 => ?_) (fun c65 => ?_)
          · refine dr_aload_n 75 hV dX5_borne_75 rfl ?_
            refine dr_geta 76 hV dX5_borne_76 (by decide) (by decide) rfl rfl rfl ?_
            refine dr_aload_n 79 hV dX5_borne_79 rfl ?_
            refine dr_geta 80 hV dX5_borne_80 (by decide) (by decide) rfl rfl rfl ?_
            refine dr_iload 83 hV dX5_borne_83 rfl ?_
            refine dr_iald 85 hV dX5_borne_85 (by decide) rfl rfl (by omega) (by decide) (hF i (by omega)) ?_
            refine dr_iald 86 hV dX5_borne_86 (by decide) rfl rfl (by have := hfi.2.1.1; omega) (by decide) (m9 (sg_fw s i) 7 (by have := hfi.2.1.1; omega) (by decide)) ?_
            refine dr_iadd (z := dz_sumI (sg_lt s p) (i + 1)) 87 hV dX5_borne_87 (by show _ = dz_sumI (sg_lt s p) i + sg_lt s p i; rw [et]; unfold sg_wt; simp [c65]) ?_
            refine dr_istore_n 88 hV dX5_borne_88 (by decide) ?_
            refine dr_iinc1 89 hV dX5_borne_89 (by decide) rfl ?_
            refine dr_goto (tgt := 30) 92 hV dX5_borne_92 (by decide) ?_
            refine dr_sub hV (ls2 := [(0, .inr (.inr 0)), (2, .inl (nI p)), (3, .inl (dz_sumI (sg_lt s p) (i + 1))), (4, .inl (nI (i + 1)))]) rfl ?_
            exact ih (i + 1) (by omega) (by omega) hp (by omega) hq
          · refine dr_aload_n 68 hV dX5_borne_68 rfl ?_
            refine dr_geti 69 hV dX5_borne_69 (by decide) (by decide) rfl rfl rfl m5 ?_
            refine dr_goto (tgt := 87) 72 hV dX5_borne_72 (by decide) ?_
            refine dr_iadd (z := dz_sumI (sg_lt s p) (i + 1)) 87 hV dX5_borne_87 (by show _ = dz_sumI (sg_lt s p) i + sg_lt s p i; rw [et]; unfold sg_wt; simp [c65]) ?_
            refine dr_istore_n 88 hV dX5_borne_88 (by decide) ?_
            refine dr_iinc1 89 hV dX5_borne_89 (by decide) rfl ?_
            refine dr_goto (tgt := 30) 92 hV dX5_borne_92 (by decide) ?_
            refine dr_sub hV (ls2 := [(0, .inr (.inr 0)), (2, .inl (nI p)), (3, .inl (dz_sumI (sg_lt s p) (i + 1))), (4, .inl (nI (i + 1)))]) rfl ?_
            exact ih (i + 1) (by omega) (by omega) hp (by omega) hq
  have loop : ∀ (fu i : Nat), sg_p s < i + fu → i ≤ sg_p s → (∀ j, j < i → ¬ nI (sg_fw s j) = v) → V 2 I J [(0, .inr (.inr 0)), (1, .inl v), (2, .inl (nI (i)))] [] := by
    intro fu
    induction fu with
    | zero => intro i h1 h2; exact absurd h1 (by omega)
    | succ fu ih =>
      intro i h1 h2 hi
      refine dr_iload_n 2 hV dX5_borne_2 rfl ?_
      refine dr_aload_n 3 hV dX5_borne_3 rfl ?_
      refine dr_geti 4 hV dX5_borne_4 (by decide) (by decide) rfl rfl rfl m3 ?_
      refine dn_icmp_ge (tgt := 103) 7 hV dX5_borne_7 (by decide) (by omega) (by omega) (fun c7 => ?_) (fun c7 => ?_)
      · refine dr_iconst (v := (-1)) 103 hV dX5_borne_103 (by decide) ?_
        exact dr_iret 104 hV dX5_borne_104 rfl (by first | rfl | exact dz_bn) (dz_pue (q_borne_n (fun j hj => hi j (by omega))).symm)
      · refine dr_aload_n 10 hV dX5_borne_10 rfl ?_
        refine dr_geta 11 hV dX5_borne_11 (by decide) (by decide) rfl rfl rfl ?_
        refine dr_iload_n 14 hV dX5_borne_14 rfl ?_
        refine dr_iald 15 hV dX5_borne_15 (by decide) rfl rfl (by omega) (by decide) (hF i (by omega)) ?_
        refine dr_iload_n 16 hV dX5_borne_16 rfl ?_
        refine dr_icmp_eq (tgt := 23) 17 hV dX5_borne_17 (by decide) (fun c17 => ?_) (fun c17 => ?_)
        · refine dr_iconst (v := nI 0) 23 hV dX5_borne_23 (by decide) ?_
          refine dr_istore_n 24 hV dX5_borne_24 (by decide) ?_
          refine dr_iload_n 25 hV dX5_borne_25 rfl ?_
          refine dr_iconst (v := nI 1) 26 hV dX5_borne_26 (by decide) ?_
          refine dr_iadd (z := nI (i + 1)) 27 hV dX5_borne_27 (nI_1 i) ?_
          refine dr_istore 28 hV dX5_borne_28 (by decide) ?_
          refine dr_sub hV (ls2 := [(0, .inr (.inr 0)), (2, .inl (nI i)), (3, .inl (dz_sumI (sg_lt s i) (i + 1))), (4, .inl (nI (i + 1)))]) (by rw [dz_lt_pre s i (i + 1) (Nat.le_refl _)]; rfl) ?_
          exact inner i (sg_p s + 1) (i + 1) (by omega) (by omega) c7 (Nat.le_refl _) (q_borne_s c7 c17 hi)
        · refine dr_goto (tgt := 97) 20 hV dX5_borne_20 (by decide) ?_
          refine dr_iinc1 97 hV dX5_borne_97 (by decide) rfl ?_
          refine dr_goto (tgt := 2) 100 hV dX5_borne_100 (by decide) ?_
          refine dr_sub hV (ls2 := [(0, .inr (.inr 0)), (1, .inl v), (2, .inl (nI (i + 1)))]) rfl ?_
          exact ih (i + 1) (by omega) (by omega) (lt_s hi c17)
  refine dr_iconst (v := nI 0) 0 hV dX5_borne_0 (by decide) ?_
  refine dr_istore_n 1 hV dX5_borne_1 (by decide) ?_
  refine dr_sub hV (ls2 := [(0, .inr (.inr 0)), (1, .inl v), (2, .inl (nI (0)))]) rfl ?_
  exact loop (sg_p s + 1) 0 (by omega) (Nat.zero_le _) (fun j hj => absurd hj (by omega))
set_option maxRecDepth 100000 in
set_option maxHeartbeats 4000000 in
theorem c_X5_bears (π : dz_Pl) {s : dz_Sg} (v : Int32) (I : dz_MI) (J : dz_MJ) (hO : dz_OK s) (hR : dz_RM s I) : dz_Cl π dz_M 24 mX5_bears 5 143 [.inr (.inr 0), .inl v] I J (dz_Qm s (.inl (q_bears s v))) := by
  refine dz_body (own := 5) dz_mX5_bears rfl (Nat.le_of_ble_eq_true rfl) (fun V hV => ?_)
  have hO2 := hO
  obtain ⟨o1, o2, o3, o4, o5, o6, o7, o8, o9⟩ := hO
  have hle := sg_L_le s 0 0 10
  refine dr_aload_n 0 hV dX5_bears_0 rfl ?_
  refine dr_cv0 1 hV dz_lX5_158 dX5_bears_1 (by decide) (by decide) ⟨by decide, _, _, rfl, by decide, rfl⟩ (Nat.le_of_ble_eq_true rfl) (c_X5_find π _ _ hO2 hR) (fun r I2 J2 hf => ?_)
  obtain ⟨rfl, hR2, hA2, hF2⟩ := hf
  obtain ⟨m1, m2, m3, m4, m5, m6, m7, m8, m9, m10, m11, m12⟩ := id hR2
  first | refine dr_ifb_eq (tgt := 23) 4 hV dX5_bears_4 (by decide) (fun c4 => ?_) (fun c4 => ?_) | refine dr_if_eq (tgt := 23) 4 hV dX5_bears_4 (by decide) (fun c4 => ?_) (fun c4 => ?_)
  · refine dr_iconst (v := (-1)) 23 hV dX5_bears_23 (by decide) ?_
    exact dr_iret 24 hV dX5_bears_24 rfl (by first | rfl | exact dz_bn) (dz_qm (by clear hV; unfold q_bears; first | rw [dz_B0 (by rw [m1] at *; intro z; exact z.elim c4 (fun y => y c12))] | rw [dz_B1 (by rw [m1] at *; grind [sg_no])]) hR2)
  · refine dr_aload_n 7 hV dX5_bears_7 rfl ?_
    refine dr_iload_n 8 hV dX5_bears_8 rfl ?_
    refine dr_cvp1 9 hV dz_lX5_124 dX5_bears_9 (by decide) (by decide) ⟨by decide, _, _, rfl, by decide, rfl⟩ (Nat.le_of_ble_eq_true rfl) (c_X5_isDrum π _ _ _) ?_
    first | refine dr_ifb_eq (tgt := 23) 12 hV dX5_bears_12 (by decide) (fun c12 => ?_) (fun c12 => ?_) | refine dr_if_eq (tgt := 23) 12 hV dX5_bears_12 (by decide) (fun c12 => ?_) (fun c12 => ?_)
    · refine dr_iconst (v := (-1)) 23 hV dX5_bears_23 (by decide) ?_
      exact dr_iret 24 hV dX5_bears_24 rfl (by first | rfl | exact dz_bn) (dz_qm (by clear hV; unfold q_bears; first | rw [dz_B0 (by rw [m1] at *; intro z; exact z.elim c4 (fun y => y c12))] | rw [dz_B1 (by rw [m1] at *; grind [sg_no])]) hR2)
    · refine dr_aload_n 15 hV dX5_bears_15 rfl ?_
      refine dr_iload_n 16 hV dX5_bears_16 rfl ?_
      refine dr_cvp1 17 hV dz_lX5_165 dX5_bears_17 (by decide) (by decide) ⟨by decide, _, _, rfl, by decide, rfl⟩ (Nat.le_of_ble_eq_true rfl) ((c_X5_borne π _ _ _ hO2 hR2 c4 (hF2 c4))) ?_
      refine dr_goto (tgt := 24) 20 hV dX5_bears_20 (by decide) ?_
      exact dr_iret 24 hV dX5_bears_24 rfl (by first | rfl | exact dz_bn) (dz_qm (by clear hV; unfold q_bears; first | rw [dz_B0 (by rw [m1] at *; intro z; exact z.elim c4 (fun y => y c12))] | rw [dz_B1 (by rw [m1] at *; grind [sg_no])]) hR2)
