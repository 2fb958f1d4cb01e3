/-! the yard: fits, feet and heads, items allowed at a place -/
set_option maxRecDepth 100000 in
set_option maxHeartbeats 4000000 in
theorem c_X4_agrees (π : dz_Pl) {s : dz_Sg} {k : Nat} (w f : Int32) (I : dz_MI) (J : dz_MJ) (hO : dz_OK s) (hR : dz_RY s I) (hk : k < sg_n s) : dz_Cl π dz_Y 62 mX4_agrees 2 43 [.inr (.inr 0), .inl (nI k), .inl w, .inl f] I J (dz_Pu (.inl (dz_bp (dz_fitp w f (sg_f s k 2) (sg_tol s)))) I J) := by
  refine dz_body (own := 4) dz_mX4_agrees rfl (Nat.le_of_ble_eq_true rfl) (fun V hV => ?_)
  have hO2 := hO
  have hR2 := hR
  obtain ⟨o1, o2, o3, o4, o5, o6, o7, o8, o9⟩ := hO
  obtain ⟨y1, y2, y3, y4, y5, y6, y7, y8, y9, y10, y11, y12, y13⟩ := hR
  refine dr_iload_n 0 hV dX4_agrees_0 rfl ?_
  first | refine dr_ifb_eq (tgt := 27) 1 hV dX4_agrees_1 (by decide) (fun c1 => ?_) (fun c1 => ?_) | refine dr_if_eq (tgt := 27) 1 hV dX4_agrees_1 (by decide) (fun c1 => ?_) (fun c1 => ?_)
  · refine dr_iconst (v := nI 1) 27 hV dX4_agrees_27 (by decide) ?_
    refine dr_goto (tgt := 32) 28 hV dX4_agrees_28 (by decide) ?_
    exact dr_iret 32 hV dX4_agrees_32 rfl (by first | rfl | exact dz_bn) (by clear hV; first | exact dz_bp1 (by unfold dz_fitp; grind) | exact dz_bp0 (by unfold dz_fitp; grind))
  · refine dr_iload_n 4 hV dX4_agrees_4 rfl ?_
    refine dr_iload_n 5 hV dX4_agrees_5 rfl ?_
    refine dr_isub 6 hV dX4_agrees_6 rfl ?_
    refine dr_absd 7 hV dX4_agrees_7 dz_j4_186 (by decide) (by decide) (Nat.le_of_ble_eq_true rfl) ?_
    refine dr_aload_n 10 hV dX4_agrees_10 rfl ?_
    refine dr_geta 11 hV dX4_agrees_11 (by decide) (by decide) rfl rfl rfl ?_
    refine dr_iload_n 14 hV dX4_agrees_14 rfl ?_
    refine dr_iconst (v := nI 2) 15 hV dX4_agrees_15 (by decide) ?_
    refine dr_cvp2 16 hV dz_lX4_141 dX4_agrees_16 (by decide) (by decide) ⟨by decide, _, _, rfl, by decide, rfl⟩ (Nat.le_of_ble_eq_true rfl) (c_X1_fact π _ _ y1 o1 hk (by decide)) ?_
    rw [y9 k 2 hk (by decide)]
    refine dr_aload_n 19 hV dX4_agrees_19 rfl ?_
    refine dr_geti 20 hV dX4_agrees_20 (by decide) (by decide) rfl rfl rfl y4 ?_
    refine dr_iadd 23 hV dX4_agrees_23 rfl ?_
    refine dr_icmp_gt (tgt := 31) 24 hV dX4_agrees_24 (by decide) (fun c24 => ?_) (fun c24 => ?_)
    · refine dr_iconst (v := nI 0) 31 hV dX4_agrees_31 (by decide) ?_
      exact dr_iret 32 hV dX4_agrees_32 rfl (by first | rfl | exact dz_bn) (by clear hV; first | exact dz_bp1 (by unfold dz_fitp; grind) | exact dz_bp0 (by unfold dz_fitp; grind))
    · refine dr_iconst (v := nI 1) 27 hV dX4_agrees_27 (by decide) ?_
      refine dr_goto (tgt := 32) 28 hV dX4_agrees_28 (by decide) ?_
      exact dr_iret 32 hV dX4_agrees_32 rfl (by first | rfl | exact dz_bn) (by clear hV; first | exact dz_bp1 (by unfold dz_fitp; grind) | exact dz_bp0 (by unfold dz_fitp; grind))
set_option maxRecDepth 100000 in
set_option maxHeartbeats 4000000 in
theorem c_X4_fitsFoot (π : dz_Pl) {s : dz_Sg} {k c : Nat} (I : dz_MI) (J : dz_MJ) (hO : dz_OK s) (hR : dz_RY s I) (hk : k < sg_n s) (hc : c < sg_c s) : dz_Cl π dz_Y 62 mX4_fitsFoot 3 66 [.inr (.inr 0), .inl (nI k), .inl (nI c)] I J (dz_Pu (.inl (dz_bp (dz_fitp (sg_f s k 0) (sg_fo s c) (sg_f s k 2) (sg_tol s)))) I J) := by
  refine dz_body (own := 4) dz_mX4_fitsFoot rfl (Nat.le_of_ble_eq_true rfl) (fun V hV => ?_)
  have hO2 := hO
  have hR2 := hR
  obtain ⟨o1, o2, o3, o4, o5, o6, o7, o8, o9⟩ := hO
  obtain ⟨y1, y2, y3, y4, y5, y6, y7, y8, y9, y10, y11, y12, y13⟩ := hR
  refine dr_aload_n 0 hV dX4_fitsFoot_0 rfl ?_
  refine dr_iload_n 1 hV dX4_fitsFoot_1 rfl ?_
  refine dr_aload_n 2 hV dX4_fitsFoot_2 rfl ?_
  refine dr_geta 3 hV dX4_fitsFoot_3 (by decide) (by decide) rfl rfl rfl ?_
  refine dr_iload_n 6 hV dX4_fitsFoot_6 rfl ?_
  refine dr_iconst (v := nI 0) 7 hV dX4_fitsFoot_7 (by decide) ?_
  refine dr_cvp2 8 hV dz_lX4_141 dX4_fitsFoot_8 (by decide) (by decide) ⟨by decide, _, _, rfl, by decide, rfl⟩ (Nat.le_of_ble_eq_true rfl) (c_X1_fact π _ _ y1 o1 hk (by decide)) ?_
  rw [y9 k 0 hk (by decide)]
  refine dr_aload_n 11 hV dX4_fitsFoot_11 rfl ?_
  refine dr_geta 12 hV dX4_fitsFoot_12 (by decide) (by decide) rfl rfl rfl ?_
  refine dr_iload_n 15 hV dX4_fitsFoot_15 rfl ?_
  refine dr_cvp1 16 hV dz_lX4_177 dX4_fitsFoot_16 (by decide) (by decide) ⟨by decide, _, _, rfl, by decide, rfl⟩ (Nat.le_of_ble_eq_true rfl) (c_X0_footOf π _ _ y2 o2 hc) ?_
  rw [(y10 c hc).1]
  refine dr_cvp3 19 hV dz_lX4_180 dX4_fitsFoot_19 (by decide) (by decide) ⟨by decide, _, _, rfl, by decide, rfl⟩ (Nat.le_of_ble_eq_true rfl) (c_X4_agrees π _ _ _ _ hO2 hR2 hk) ?_
  exact dr_iret 22 hV dX4_fitsFoot_22 rfl (by first | rfl | exact dz_bn) dz_pu
set_option maxRecDepth 100000 in
set_option maxHeartbeats 4000000 in
theorem c_X4_fitsHead (π : dz_Pl) {s : dz_Sg} {k c : Nat} (I : dz_MI) (J : dz_MJ) (hO : dz_OK s) (hR : dz_RY s I) (hk : k < sg_n s) (hc : c < sg_c s) : dz_Cl π dz_Y 62 mX4_fitsHead 3 66 [.inr (.inr 0), .inl (nI k), .inl (nI c)] I J (dz_Pu (.inl (dz_bp (dz_fitp (sg_f s k 1) (sg_he s c) (sg_f s k 2) (sg_tol s)))) I J) := by
  refine dz_body (own := 4) dz_mX4_fitsHead rfl (Nat.le_of_ble_eq_true rfl) (fun V hV => ?_)
  have hO2 := hO
  have hR2 := hR
  obtain ⟨o1, o2, o3, o4, o5, o6, o7, o8, o9⟩ := hO
  obtain ⟨y1, y2, y3, y4, y5, y6, y7, y8, y9, y10, y11, y12, y13⟩ := hR
  refine dr_aload_n 0 hV dX4_fitsHead_0 rfl ?_
  refine dr_iload_n 1 hV dX4_fitsHead_1 rfl ?_
  refine dr_aload_n 2 hV dX4_fitsHead_2 rfl ?_
  refine dr_geta 3 hV dX4_fitsHead_3 (by decide) (by decide) rfl rfl rfl ?_
  refine dr_iload_n 6 hV dX4_fitsHead_6 rfl ?_
  refine dr_iconst (v := nI 1) 7 hV dX4_fitsHead_7 (by decide) ?_
  refine dr_cvp2 8 hV dz_lX4_141 dX4_fitsHead_8 (by decide) (by decide) ⟨by decide, _, _, rfl, by decide, rfl⟩ (Nat.le_of_ble_eq_true rfl) (c_X1_fact π _ _ y1 o1 hk (by decide)) ?_
  rw [y9 k 1 hk (by decide)]
  refine dr_aload_n 11 hV dX4_fitsHead_11 rfl ?_
  refine dr_geta 12 hV dX4_fitsHead_12 (by decide) (by decide) rfl rfl rfl ?_
  refine dr_iload_n 15 hV dX4_fitsHead_15 rfl ?_
  refine dr_cvp1 16 hV dz_lX4_183 dX4_fitsHead_16 (by decide) (by decide) ⟨by decide, _, _, rfl, by decide, rfl⟩ (Nat.le_of_ble_eq_true rfl) (c_X0_headOf π _ _ y2 o2 hc) ?_
  rw [(y10 c hc).2.1]
  refine dr_cvp3 19 hV dz_lX4_180 dX4_fitsHead_19 (by decide) (by decide) ⟨by decide, _, _, rfl, by decide, rfl⟩ (Nat.le_of_ble_eq_true rfl) (c_X4_agrees π _ _ _ _ hO2 hR2 hk) ?_
  exact dr_iret 22 hV dX4_fitsHead_22 rfl (by first | rfl | exact dz_bn) dz_pu
set_option maxRecDepth 100000 in
set_option maxHeartbeats 4000000 in
theorem c_X0_isFoot (π : dz_Pl) {s : dz_Sg} {q : Nat} (I : dz_MI) (J : dz_MJ) (hO : dz_OK s) (hR : dz_RY s I) (hq : q < sg_p s) : dz_Cl π dz_Y 62 mX0_isFoot 2 42 [.inr (.inr 2), .inl (nI q)] I J (dz_Pu (.inl (dz_bp (sg_foot s q))) I J) := by
  refine dz_body (own := 0) dz_mX0_isFoot rfl (Nat.le_of_ble_eq_true rfl) (fun V hV => ?_)
  have hO2 := hO
  have hR2 := hR
  obtain ⟨o1, o2, o3, o4, o5, o6, o7, o8, o9⟩ := hO
  obtain ⟨y1, y2, y3, y4, y5, y6, y7, y8, y9, y10, y11, y12, y13⟩ := hR
  obtain ⟨g1, g2, g3⟩ := o6 q hq
  obtain ⟨g4, g5, g6⟩ := o4 _ g1
  refine dr_iload_n 0 hV dX0_isFoot_0 rfl ?_
  refine dr_aload_n 1 hV dX0_isFoot_1 rfl ?_
  refine dr_aload_n 2 hV dX0_isFoot_2 rfl ?_
  refine dr_iload_n 3 hV dX0_isFoot_3 rfl ?_
  refine dr_cvp1 4 hV dz_lX0_47 dX0_isFoot_4 (by decide) (by decide) ⟨by decide, _, _, rfl, by decide, rfl⟩ (Nat.le_of_ble_eq_true rfl) (c_X0_columnOf π _ _ y3 o3 hq) ?_
  rw [(y11 q hq).1]
  refine dr_cvp1 7 hV dz_lX0_51 dX0_isFoot_7 (by decide) (by decide) ⟨by decide, _, _, rfl, by decide, rfl⟩ (Nat.le_of_ble_eq_true rfl) (c_X0_startOf π _ _ y2 o2 g1) ?_
  rw [(y10 _ g1).2.2.1]
  refine dn_icmp_ne (tgt := 17) 10 hV dX0_isFoot_10 (by decide) (by omega) (by omega) (fun c10 => ?_) (fun c10 => ?_)
  · refine dr_iconst (v := nI 0) 17 hV dX0_isFoot_17 (by decide) ?_
    exact dr_iret 18 hV dX0_isFoot_18 rfl (by first | rfl | exact dz_bn) (by clear hV; first | exact dz_bp1 (by unfold sg_foot; omega) | exact dz_bp0 (by unfold sg_foot; omega))
  · refine dr_iconst (v := nI 1) 13 hV dX0_isFoot_13 (by decide) ?_
    refine dr_goto (tgt := 18) 14 hV dX0_isFoot_14 (by decide) ?_
    exact dr_iret 18 hV dX0_isFoot_18 rfl (by first | rfl | exact dz_bn) (by clear hV; first | exact dz_bp1 (by unfold sg_foot; omega) | exact dz_bp0 (by unfold sg_foot; omega))
set_option maxRecDepth 100000 in
set_option maxHeartbeats 4000000 in
theorem c_X0_isHead (π : dz_Pl) {s : dz_Sg} {q : Nat} (I : dz_MI) (J : dz_MJ) (hO : dz_OK s) (hR : dz_RY s I) (hq : q < sg_p s) : dz_Cl π dz_Y 62 mX0_isHead 2 42 [.inr (.inr 2), .inl (nI q)] I J (dz_Pu (.inl (dz_bp (sg_head s q))) I J) := by
  refine dz_body (own := 0) dz_mX0_isHead rfl (Nat.le_of_ble_eq_true rfl) (fun V hV => ?_)
  have hO2 := hO
  have hR2 := hR
  obtain ⟨o1, o2, o3, o4, o5, o6, o7, o8, o9⟩ := hO
  obtain ⟨y1, y2, y3, y4, y5, y6, y7, y8, y9, y10, y11, y12, y13⟩ := hR
  obtain ⟨g1, g2, g3⟩ := o6 q hq
  obtain ⟨g4, g5, g6⟩ := o4 _ g1
  refine dr_iload_n 0 hV dX0_isHead_0 rfl ?_
  refine dr_iconst (v := nI 1) 1 hV dX0_isHead_1 (by decide) ?_
  refine dr_iadd (z := nI (q + 1)) 2 hV dX0_isHead_2 (nI_1 q) ?_
  refine dr_aload_n 3 hV dX0_isHead_3 rfl ?_
  refine dr_aload_n 4 hV dX0_isHead_4 rfl ?_
  refine dr_iload_n 5 hV dX0_isHead_5 rfl ?_
  refine dr_cvp1 6 hV dz_lX0_47 dX0_isHead_6 (by decide) (by decide) ⟨by decide, _, _, rfl, by decide, rfl⟩ (Nat.le_of_ble_eq_true rfl) (c_X0_columnOf π _ _ y3 o3 hq) ?_
  rw [(y11 q hq).1]
  refine dr_cvp1 9 hV dz_lX0_54 dX0_isHead_9 (by decide) (by decide) ⟨by decide, _, _, rfl, by decide, rfl⟩ (Nat.le_of_ble_eq_true rfl) (c_X0_endOf π _ _ y2 o2 g1) ?_
  rw [(y10 _ g1).2.2.1, (y10 _ g1).2.2.2, nI_add]
  refine dn_icmp_ne (tgt := 19) 12 hV dX0_isHead_12 (by decide) (by omega) (by omega) (fun c12 => ?_) (fun c12 => ?_)
  · refine dr_iconst (v := nI 0) 19 hV dX0_isHead_19 (by decide) ?_
    exact dr_iret 20 hV dX0_isHead_20 rfl (by first | rfl | exact dz_bn) (by clear hV; first | exact dz_bp1 (by unfold sg_head; omega) | exact dz_bp0 (by unfold sg_head; omega))
  · refine dr_iconst (v := nI 1) 15 hV dX0_isHead_15 (by decide) ?_
    refine dr_goto (tgt := 20) 16 hV dX0_isHead_16 (by decide) ?_
    exact dr_iret 20 hV dX0_isHead_20 rfl (by first | rfl | exact dz_bn) (by clear hV; first | exact dz_bp1 (by unfold sg_head; omega) | exact dz_bp0 (by unfold sg_head; omega))
def sg_atd (s : dz_Sg) (q d : Nat) : Prop := sg_nt s q d = false ∧ (sg_foot s q → dz_fitp (sg_f s d 0) (sg_fo s (sg_col s q)) (sg_f s d 2) (sg_tol s)) ∧ (sg_head s q → dz_fitp (sg_f s d 1) (sg_he s (sg_col s q)) (sg_f s d 2) (sg_tol s))
/-- the drums that a place lets in, and new stone -/
noncomputable def sg_ib (s : dz_Sg) (q n : Nat) : Nat := 1024 + dz_bits (fun d => dz_B (sg_atd s q d)) n
noncomputable def sg_it (s : dz_Sg) (q : Nat) : Nat := dz_bits (fun d => dz_B ((d = 10 ∨ d < sg_n s) ∧ sg_at s q d)) 11
theorem dz_1024 {a : Nat} (h : a < 1024) : 1024 + a = a ||| 2 ^ 10 := by rw [dz_or_add (show a < 2 ^ 10 from h)]; omega
theorem sg_ib_lt {s : dz_Sg} {q n : Nat} (hn : n ≤ 10) : sg_ib s q n < 2048 := by
  have := dz_bits_lt (fun d => dz_B (sg_atd s q d)) n
  have := dz_pn hn
  unfold sg_ib; omega
theorem sg_ib_tb {s : dz_Sg} {q d n : Nat} (hn : n ≤ 10) (hd : d < 11) : (sg_ib s q n).testBit d = dz_B (d = 10 ∨ (d < n ∧ sg_atd s q d)) := by
  have h1 := dz_bits_lt (fun d => dz_B (sg_atd s q d)) n
  have h2 := dz_pn hn
  unfold sg_ib
  rw [dz_1024 (by omega), fb_bit_set, dz_bits_tb]
  by_cases e : d = 10
  · rw [dz_Bt.mpr (Or.inl e)]; simp [e]
  · by_cases h : d < n ∧ sg_atd s q d
    · rw [dz_Bt.mpr (Or.inr h), dz_Bt.mpr h.2]; simp [h.1]
    · have hB : dz_B (d = 10 ∨ (d < n ∧ sg_atd s q d)) = false := dz_Bf.mpr (fun z => z.elim e h)
      rw [hB]
      simp only [e, decide_false, Bool.or_false]
      by_cases hl : d < n
      · rw [dz_Bf.mpr (fun z => h ⟨hl, z⟩)]; simp
      · simp [hl]
theorem sg_ib_s {s : dz_Sg} {q d : Nat} (hd : d < 10) (h : sg_atd s q d) : nI (sg_ib s q d) ||| nI 1 <<< (nI d &&& 31) = nI (sg_ib s q (d + 1)) := by
  rw [dz_s1 (by omega), fa_or]
  congr 1
  apply dz_bits_ext (n := 11)
  · exact Nat.or_lt_two_pow (sg_ib_lt (by omega)) (Nat.pow_lt_pow_right (by decide) (by omega))
  · exact sg_ib_lt (by omega)
  · intro i hi
    rw [fb_bit_set, sg_ib_tb (by omega) hi, sg_ib_tb (by omega) hi]
    by_cases e : i = d
    · subst e
      have hB : dz_B (i = 10 ∨ (i < i + 1 ∧ sg_atd s q i)) = true := dz_Bt.mpr (Or.inr ⟨Nat.lt_succ_self _, h⟩)
      rw [hB]; simp
    · simp only [e, decide_false, Bool.or_false]
      by_cases z : i = 10 ∨ (i < d ∧ sg_atd s q i)
      · rw [dz_Bt.mpr z, dz_Bt.mpr (z.elim Or.inl (fun y => Or.inr ⟨by omega, y.2⟩))]
      · rw [dz_Bf.mpr z, dz_Bf.mpr (fun y => z (y.elim Or.inl (fun y => Or.inr ⟨by omega, y.2⟩)))]
theorem sg_ib_n {s : dz_Sg} {q d : Nat} (h : ¬ sg_atd s q d) : sg_ib s q (d + 1) = sg_ib s q d := by
  unfold sg_ib; rw [dz_bits_n (dz_Bf.mpr h)]
theorem sg_at_iff {s : dz_Sg} {q d : Nat} : sg_at s q d ↔ (sg_wo s q = -1 ∨ sg_wo s q = nI d) ∧ (d = 10 ∨ sg_atd s q d) := Iff.rfl
theorem sg_it_lt (s : dz_Sg) (q : Nat) : sg_it s q < 2048 := dz_bits_lt _ 11
theorem sg_it_free {s : dz_Sg} {q : Nat} (hn : sg_n s ≤ 10) (h : sg_wo s q = -1) : sg_ib s q (sg_n s) = sg_it s q := by
  apply dz_bits_ext (n := 11) (sg_ib_lt hn) (sg_it_lt s q)
  intro i hi
  rw [sg_ib_tb hn hi]
  unfold sg_it
  rw [dz_bits_tb]
  simp only [hi, decide_true, Bool.true_and]
  by_cases z : i = 10 ∨ (i < sg_n s ∧ sg_atd s q i)
  · rw [dz_Bt.mpr z, dz_Bt.mpr (by rw [sg_at_iff]; grind)]
  · rw [dz_Bf.mpr z, dz_Bf.mpr (by rw [sg_at_iff]; grind)]
theorem sg_it_told {s : dz_Sg} {q x : Nat} (hn : sg_n s ≤ 10) (hx : x = 10 ∨ x < sg_n s) (h : sg_wo s q = nI x) : sg_ib s q (sg_n s) &&& 2 ^ x = sg_it s q := by
  apply dz_bits_ext (n := 11) (Nat.lt_of_le_of_lt Nat.and_le_left (sg_ib_lt hn)) (sg_it_lt s q)
  intro i hi
  rw [Nat.testBit_and, sg_ib_tb hn hi, Nat.testBit_two_pow]
  unfold sg_it
  rw [dz_bits_tb]
  simp only [hi, decide_true, Bool.true_and]
  have hxi : nI x = nI i ↔ x = i := nI_eq (by omega) (by omega)
  have hm1 : ¬ nI x = -1 := dz_m1n (by omega)
  by_cases e : x = i
  · subst e
    by_cases z : x = 10 ∨ (x < sg_n s ∧ sg_atd s q x)
    · rw [dz_Bt.mpr z, dz_Bt.mpr (by rw [sg_at_iff, h]; grind)]; simp
    · rw [dz_Bf.mpr z, dz_Bf.mpr (by rw [sg_at_iff, h]; grind)]; simp
  · have hB : dz_B ((i = 10 ∨ i < sg_n s) ∧ sg_at s q i) = false := dz_Bf.mpr (by rw [sg_at_iff, h]; grind)
    rw [hB]; simp [e]
set_option maxRecDepth 100000 in
set_option maxHeartbeats 4000000 in
theorem c_X4_itemsAllowedAt (π : dz_Pl) {s : dz_Sg} {q : Nat} (I : dz_MI) (J : dz_MJ) (hO : dz_OK s) (hR : dz_RY s I) (hq : q < sg_p s) : dz_Cl π dz_Y 62 mX4_itemsAllowedAt 4 88 [.inr (.inr 0), .inl (nI q)] I J (dz_Pu (.inl (nI (sg_it s q))) I J) := by
  refine dz_body (own := 4) dz_mX4_itemsAllowedAt rfl (Nat.le_of_ble_eq_true rfl) (fun V hV => ?_)
  have hO2 := hO
  have hR2 := hR
  obtain ⟨o1, o2, o3, o4, o5, o6, o7, o8, o9⟩ := hO
  obtain ⟨y1, y2, y3, y4, y5, y6, y7, y8, y9, y10, y11, y12, y13⟩ := hR
  obtain ⟨g1, g2, g3⟩ := o6 q hq
  obtain ⟨x, x1, x2, x3⟩ := y13 q (by omega)
  have loop : ∀ (fu i : Nat), sg_n s < i + fu → i ≤ sg_n s → V 16 I J [(0, .inr (.inr 0)), (1, .inl (nI q)), (2, .inl (nI (sg_col s q))), (3, .inl (nI (sg_ib s q (i)))), (4, .inl (nI (i)))] [] := by
    intro fu
    induction fu with
    | zero => intro i h1 h2; exact absurd h1 (by omega)
    | succ fu ih =>
      intro i h1 h2
      refine dr_iload 16 hV dX4_itemsAllowedAt_16 rfl ?_
      refine dr_aload_n 18 hV dX4_itemsAllowedAt_18 rfl ?_
      refine dr_geta 19 hV dX4_itemsAllowedAt_19 (by decide) (by decide) rfl rfl rfl ?_
      refine dr_cvp0 22 hV dz_lX4_166 dX4_itemsAllowedAt_22 (by decide) (by decide) ⟨by decide, _, _, rfl, by decide, rfl⟩ (Nat.le_of_ble_eq_true rfl) (c_X1_number π _ _) ?_
      rw [y1]
      refine dn_icmp_ge (tgt := 96) 25 hV dX4_itemsAllowedAt_25 (by decide) (by omega) (by omega) (fun c25 => ?_) (fun c25 => ?_)
      · have hin : i = sg_n s := by omega
        subst hin
        refine dr_aload_n 96 hV dX4_itemsAllowedAt_96 rfl ?_
        refine dr_geta 97 hV dX4_itemsAllowedAt_97 (by decide) (by decide) rfl rfl rfl ?_
        refine dr_iload_n 100 hV dX4_itemsAllowedAt_100 rfl ?_
        refine dr_cvp1 101 hV dz_lX4_100 dX4_itemsAllowedAt_101 (by decide) (by decide) ⟨by decide, _, _, rfl, by decide, rfl⟩ (Nat.le_of_ble_eq_true rfl) (c_X3_toldOf π _ _ (by omega)) ?_
        rw [(y11 q hq).2]
        refine dr_istore 104 hV dX4_itemsAllowedAt_104 (by decide) ?_
        refine dr_iload 106 hV dX4_itemsAllowedAt_106 rfl ?_
        refine dr_iconst (v := (-1)) 108 hV dX4_itemsAllowedAt_108 (by decide) ?_
        refine dr_icmp_ne (tgt := 116) 109 hV dX4_itemsAllowedAt_109 (by decide) (fun c109 => ?_) (fun c109 => ?_)
        · obtain ⟨x, hx1, hx2⟩ : ∃ x, (x = 10 ∨ x < sg_n s) ∧ sg_wo s q = nI x := (o8 q hq).elim (fun z => absurd z c109) id
          refine dr_iload_n 116 hV dX4_itemsAllowedAt_116 rfl ?_
          refine dr_iconst (v := nI 1) 117 hV dX4_itemsAllowedAt_117 (by decide) ?_
          refine dr_iload 118 hV dX4_itemsAllowedAt_118 rfl ?_
          refine dr_ishl (z := nI (2 ^ x)) 120 hV dX4_itemsAllowedAt_120 (by rw [hx2]; exact dz_s1 (by omega)) ?_
          refine dr_iand (z := nI (sg_it s q)) 121 hV dX4_itemsAllowedAt_121 (by rw [fa_and, sg_it_told o1 hx1 hx2]) ?_
          exact dr_iret 122 hV dX4_itemsAllowedAt_122 rfl (by first | rfl | exact dz_bn) (by clear hV ih; first | exact dz_pu | exact dz_pue (by rw [sg_it_free o1 c109]))
        · refine dr_iload_n 112 hV dX4_itemsAllowedAt_112 rfl ?_
          refine dr_goto (tgt := 122) 113 hV dX4_itemsAllowedAt_113 (by decide) ?_
          exact dr_iret 122 hV dX4_itemsAllowedAt_122 rfl (by first | rfl | exact dz_bn) (by clear hV ih; first | exact dz_pu | exact dz_pue (by rw [sg_it_free o1 c109]))
      · refine dr_aload_n 28 hV dX4_itemsAllowedAt_28 rfl ?_
        refine dr_geta 29 hV dX4_itemsAllowedAt_29 (by decide) (by decide) rfl rfl rfl ?_
        refine dr_iload_n 32 hV dX4_itemsAllowedAt_32 rfl ?_
        refine dr_iload 33 hV dX4_itemsAllowedAt_33 rfl ?_
        refine dr_cvp2 35 hV dz_lX4_108 dX4_itemsAllowedAt_35 (by decide) (by decide) ⟨by decide, _, _, rfl, by decide, rfl⟩ (Nat.le_of_ble_eq_true rfl) (c_X3_isBarred π _ _ (by omega) x2 (by omega) (by omega)) ?_
        rw [x3 i (by omega)]
        first | refine dr_ifb_ne (tgt := 90) 38 hV dX4_itemsAllowedAt_38 (by decide) (fun c38 => ?_) (fun c38 => ?_) | refine dr_if_ne (tgt := 90) 38 hV dX4_itemsAllowedAt_38 (by decide) (fun c38 => ?_) (fun c38 => ?_)
        · refine dr_iinc1 90 hV dX4_itemsAllowedAt_90 (by decide) rfl ?_
          refine dr_goto (tgt := 16) 93 hV dX4_itemsAllowedAt_93 (by decide) ?_
          rw [← sg_ib_n (s := s) (q := q) (d := i) (by unfold sg_atd; grind)]
          refine dr_sub hV (ls2 := [(0, .inr (.inr 0)), (1, .inl (nI q)), (2, .inl (nI (sg_col s q))), (3, .inl (nI (sg_ib s q (i + 1)))), (4, .inl (nI (i + 1)))]) rfl ?_
          exact ih (i + 1) (by omega) (by omega)
        · refine dr_aload_n 41 hV dX4_itemsAllowedAt_41 rfl ?_
          refine dr_geta 42 hV dX4_itemsAllowedAt_42 (by decide) (by decide) rfl rfl rfl ?_
          refine dr_iload_n 45 hV dX4_itemsAllowedAt_45 rfl ?_
          refine dr_cvp1 46 hV dz_lX4_216 dX4_itemsAllowedAt_46 (by decide) (by decide) ⟨by decide, _, _, rfl, by decide, rfl⟩ (Nat.le_of_ble_eq_true rfl) (c_X0_isFoot π _ _ hO2 hR2 hq) ?_
          first | refine dr_ifb_eq (tgt := 62) 49 hV dX4_itemsAllowedAt_49 (by decide) (fun c49 => ?_) (fun c49 => ?_) | refine dr_if_eq (tgt := 62) 49 hV dX4_itemsAllowedAt_49 (by decide) (fun c49 => ?_) (fun c49 => ?_)
          · refine dr_aload_n 62 hV dX4_itemsAllowedAt_62 rfl ?_
            refine dr_geta 63 hV dX4_itemsAllowedAt_63 (by decide) (by decide) rfl rfl rfl ?_
            refine dr_iload_n 66 hV dX4_itemsAllowedAt_66 rfl ?_
            refine dr_cvp1 67 hV dz_lX4_207 dX4_itemsAllowedAt_67 (by decide) (by decide) ⟨by decide, _, _, rfl, by decide, rfl⟩ (Nat.le_of_ble_eq_true rfl) (c_X0_isHead π _ _ hO2 hR2 hq) ?_
            first | refine dr_ifb_eq (tgt := 83) 70 hV dX4_itemsAllowedAt_70 (by decide) (fun c70 => ?_) (fun c70 => ?_) | refine dr_if_eq (tgt := 83) 70 hV dX4_itemsAllowedAt_70 (by decide) (fun c70 => ?_) (fun c70 => ?_)
            · refine dr_iload_n 83 hV dX4_itemsAllowedAt_83 rfl ?_
              refine dr_iconst (v := nI 1) 84 hV dX4_itemsAllowedAt_84 (by decide) ?_
              refine dr_iload 85 hV dX4_itemsAllowedAt_85 rfl ?_
              refine dr_ishl 87 hV dX4_itemsAllowedAt_87 rfl ?_
              refine dr_ior (z := nI (sg_ib s q (i + 1))) 88 hV dX4_itemsAllowedAt_88 (sg_ib_s (by omega) (by unfold sg_atd; grind)) ?_
              refine dr_istore_n 89 hV dX4_itemsAllowedAt_89 (by decide) ?_
              refine dr_iinc1 90 hV dX4_itemsAllowedAt_90 (by decide) rfl ?_
              refine dr_goto (tgt := 16) 93 hV dX4_itemsAllowedAt_93 (by decide) ?_
              refine dr_sub hV (ls2 := [(0, .inr (.inr 0)), (1, .inl (nI q)), (2, .inl (nI (sg_col s q))), (3, .inl (nI (sg_ib s q (i + 1)))), (4, .inl (nI (i + 1)))]) rfl ?_
              exact ih (i + 1) (by omega) (by omega)
            · refine dr_aload_n 73 hV dX4_itemsAllowedAt_73 rfl ?_
              refine dr_iload 74 hV dX4_itemsAllowedAt_74 rfl ?_
              refine dr_iload_n 76 hV dX4_itemsAllowedAt_76 rfl ?_
              refine dr_cvp2 77 hV dz_lX4_94 dX4_itemsAllowedAt_77 (by decide) (by decide) ⟨by decide, _, _, rfl, by decide, rfl⟩ (Nat.le_of_ble_eq_true rfl) (c_X4_fitsHead π _ _ hO2 hR2 (by omega) g1) ?_
              first | refine dr_ifb_eq (tgt := 90) 80 hV dX4_itemsAllowedAt_80 (by decide) (fun c80 => ?_) (fun c80 => ?_) | refine dr_if_eq (tgt := 90) 80 hV dX4_itemsAllowedAt_80 (by decide) (fun c80 => ?_) (fun c80 => ?_)
              · refine dr_iinc1 90 hV dX4_itemsAllowedAt_90 (by decide) rfl ?_
                refine dr_goto (tgt := 16) 93 hV dX4_itemsAllowedAt_93 (by decide) ?_
                rw [← sg_ib_n (s := s) (q := q) (d := i) (by unfold sg_atd; grind)]
                refine dr_sub hV (ls2 := [(0, .inr (.inr 0)), (1, .inl (nI q)), (2, .inl (nI (sg_col s q))), (3, .inl (nI (sg_ib s q (i + 1)))), (4, .inl (nI (i + 1)))]) rfl ?_
                exact ih (i + 1) (by omega) (by omega)
              · refine dr_iload_n 83 hV dX4_itemsAllowedAt_83 rfl ?_
                refine dr_iconst (v := nI 1) 84 hV dX4_itemsAllowedAt_84 (by decide) ?_
                refine dr_iload 85 hV dX4_itemsAllowedAt_85 rfl ?_
                refine dr_ishl 87 hV dX4_itemsAllowedAt_87 rfl ?_
                refine dr_ior (z := nI (sg_ib s q (i + 1))) 88 hV dX4_itemsAllowedAt_88 (sg_ib_s (by omega) (by unfold sg_atd; grind)) ?_
                refine dr_istore_n 89 hV dX4_itemsAllowedAt_89 (by decide) ?_
                refine dr_iinc1 90 hV dX4_itemsAllowedAt_90 (by decide) rfl ?_
                refine dr_goto (tgt := 16) 93 hV dX4_itemsAllowedAt_93 (by decide) ?_
                refine dr_sub hV (ls2 := [(0, .inr (.inr 0)), (1, .inl (nI q)), (2, .inl (nI (sg_col s q))), (3, .inl (nI (sg_ib s q (i + 1)))), (4, .inl (nI (i + 1)))]) rfl ?_
                exact ih (i + 1) (by omega) (by omega)
          · refine dr_aload_n 52 hV dX4_itemsAllowedAt_52 rfl ?_
            refine dr_iload 53 hV dX4_itemsAllowedAt_53 rfl ?_
            refine dr_iload_n 55 hV dX4_itemsAllowedAt_55 rfl ?_
            refine dr_cvp2 56 hV dz_lX4_90 dX4_itemsAllowedAt_56 (by decide) (by decide) ⟨by decide, _, _, rfl, by decide, rfl⟩ (Nat.le_of_ble_eq_true rfl) (c_X4_fitsFoot π _ _ hO2 hR2 (by omega) g1) ?_
            first | refine dr_ifb_eq (tgt := 90) 59 hV dX4_itemsAllowedAt_59 (by decide) (fun c59 => ?_) (fun c59 => ?_) | refine dr_if_eq (tgt := 90) 59 hV dX4_itemsAllowedAt_59 (by decide) (fun c59 => ?_) (fun c59 => ?_)
            · refine dr_iinc1 90 hV dX4_itemsAllowedAt_90 (by decide) rfl ?_
              refine dr_goto (tgt := 16) 93 hV dX4_itemsAllowedAt_93 (by decide) ?_
              rw [← sg_ib_n (s := s) (q := q) (d := i) (by unfold sg_atd; grind)]
              refine dr_sub hV (ls2 := [(0, .inr (.inr 0)), (1, .inl (nI q)), (2, .inl (nI (sg_col s q))), (3, .inl (nI (sg_ib s q (i + 1)))), (4, .inl (nI (i + 1)))]) rfl ?_
              exact ih (i + 1) (by omega) (by omega)
            · refine dr_aload_n 62 hV dX4_itemsAllowedAt_62 rfl ?_
              refine dr_geta 63 hV dX4_itemsAllowedAt_63 (by decide) (by decide) rfl rfl rfl ?_
              refine dr_iload_n 66 hV dX4_itemsAllowedAt_66 rfl ?_
              refine dr_cvp1 67 hV dz_lX4_207 dX4_itemsAllowedAt_67 (by decide) (by decide) ⟨by decide, _, _, rfl, by decide, rfl⟩ (Nat.le_of_ble_eq_true rfl) (c_X0_isHead π _ _ hO2 hR2 hq) ?_
              first | refine dr_ifb_eq (tgt := 83) 70 hV dX4_itemsAllowedAt_70 (by decide) (fun c70 => ?_) (fun c70 => ?_) | refine dr_if_eq (tgt := 83) 70 hV dX4_itemsAllowedAt_70 (by decide) (fun c70 => ?_) (fun c70 => ?_)
              · refine dr_iload_n 83 hV dX4_itemsAllowedAt_83 rfl ?_
                refine dr_iconst (v := nI 1) 84 hV dX4_itemsAllowedAt_84 (by decide) ?_
                refine dr_iload 85 hV dX4_itemsAllowedAt_85 rfl ?_
                refine dr_ishl 87 hV dX4_itemsAllowedAt_87 rfl ?_
                refine dr_ior (z := nI (sg_ib s q (i + 1))) 88 hV dX4_itemsAllowedAt_88 (sg_ib_s (by omega) (by unfold sg_atd; grind)) ?_
                refine dr_istore_n 89 hV dX4_itemsAllowedAt_89 (by decide) ?_
                refine dr_iinc1 90 hV dX4_itemsAllowedAt_90 (by decide) rfl ?_
                refine dr_goto (tgt := 16) 93 hV dX4_itemsAllowedAt_93 (by decide) ?_
                refine dr_sub hV (ls2 := [(0, .inr (.inr 0)), (1, .inl (nI q)), (2, .inl (nI (sg_col s q))), (3, .inl (nI (sg_ib s q (i + 1)))), (4, .inl (nI (i + 1)))]) rfl ?_
                exact ih (i + 1) (by omega) (by omega)
              · refine dr_aload_n 73 hV dX4_itemsAllowedAt_73 rfl ?_
                refine dr_iload 74 hV dX4_itemsAllowedAt_74 rfl ?_
                refine dr_iload_n 76 hV dX4_itemsAllowedAt_76 rfl ?_
                refine dr_cvp2 77 hV dz_lX4_94 dX4_itemsAllowedAt_77 (by decide) (by decide) ⟨by decide, _, _, rfl, by decide, rfl⟩ (Nat.le_of_ble_eq_true rfl) (c_X4_fitsHead π _ _ hO2 hR2 (by omega) g1) ?_
                first | refine dr_ifb_eq (tgt := 90) 80 hV dX4_itemsAllowedAt_80 (by decide) (fun c80 => ?_) (fun c80 => ?_) | refine dr_if_eq (tgt := 90) 80 hV dX4_itemsAllowedAt_80 (by decide) (fun c80 => ?_) (fun c80 => ?_)
                · refine dr_iinc1 90 hV dX4_itemsAllowedAt_90 (by decide) rfl ?_
                  refine dr_goto (tgt := 16) 93 hV dX4_itemsAllowedAt_93 (by decide) ?_
                  rw [← sg_ib_n (s := s) (q := q) (d := i) (by unfold sg_atd; grind)]
                  refine dr_sub hV (ls2 := [(0, .inr (.inr 0)), (1, .inl (nI q)), (2, .inl (nI (sg_col s q))), (3, .inl (nI (sg_ib s q (i + 1)))), (4, .inl (nI (i + 1)))]) rfl ?_
                  exact ih (i + 1) (by omega) (by omega)
                · refine dr_iload_n 83 hV dX4_itemsAllowedAt_83 rfl ?_
                  refine dr_iconst (v := nI 1) 84 hV dX4_itemsAllowedAt_84 (by decide) ?_
                  refine dr_iload 85 hV dX4_itemsAllowedAt_85 rfl ?_
                  refine dr_ishl 87 hV dX4_itemsAllowedAt_87 rfl ?_
                  refine dr_ior (z := nI (sg_ib s q (i + 1))) 88 hV dX4_itemsAllowedAt_88 (sg_ib_s (by omega) (by unfold sg_atd; grind)) ?_
                  refine dr_istore_n 89 hV dX4_itemsAllowedAt_89 (by decide) ?_
                  refine dr_iinc1 90 hV dX4_itemsAllowedAt_90 (by decide) rfl ?_
                  refine dr_goto (tgt := 16) 93 hV dX4_itemsAllowedAt_93 (by decide) ?_
                  refine dr_sub hV (ls2 := [(0, .inr (.inr 0)), (1, .inl (nI q)), (2, .inl (nI (sg_col s q))), (3, .inl (nI (sg_ib s q (i + 1)))), (4, .inl (nI (i + 1)))]) rfl ?_
                  exact ih (i + 1) (by omega) (by omega)
  refine dr_aload_n 0 hV dX4_itemsAllowedAt_0 rfl ?_
  refine dr_geta 1 hV dX4_itemsAllowedAt_1 (by decide) (by decide) rfl rfl rfl ?_
  refine dr_iload_n 4 hV dX4_itemsAllowedAt_4 rfl ?_
  refine dr_cvp1 5 hV dz_lX4_163 dX4_itemsAllowedAt_5 (by decide) (by decide) ⟨by decide, _, _, rfl, by decide, rfl⟩ (Nat.le_of_ble_eq_true rfl) (c_X0_columnOf π _ _ y3 o3 hq) ?_
  rw [(y11 q hq).1]
  refine dr_istore_n 8 hV dX4_itemsAllowedAt_8 (by decide) ?_
  refine dr_sipush (v := nI 1024) 9 hV dX4_itemsAllowedAt_9 (by decide) ?_
  refine dr_istore_n 12 hV dX4_itemsAllowedAt_12 (by decide) ?_
  refine dr_iconst (v := nI 0) 13 hV dX4_itemsAllowedAt_13 (by decide) ?_
  refine dr_istore 14 hV dX4_itemsAllowedAt_14 (by decide) ?_
  refine dr_sub hV (ls2 := [(0, .inr (.inr 0)), (1, .inl (nI q)), (2, .inl (nI (sg_col s q))), (3, .inl (nI (sg_ib s q (0)))), (4, .inl (nI (0)))]) rfl ?_
  exact loop (sg_n s + 1) 0 (by omega) (Nat.zero_le _)
