/-! the yard's loads and heights -/
theorem dz_sumI_0 {f : Nat → Int32} {a : Nat} : ∀ {b : Nat}, a ≤ b → (∀ k, a ≤ k → k < b → f k = 0) → dz_sumI f b = dz_sumI f a
  | 0, h, _ => by rw [show a = 0 by omega]
  | b + 1, h, h0 => by
    rcases Nat.lt_or_ge b a with z | z
    · rw [show a = b + 1 by omega]
    · show dz_sumI f b + f b = _
      rw [h0 b z (by omega), dz_sumI_0 z (fun k h1 h2 => h0 k h1 (by omega))]
      exact dz_add0 _
theorem ld_f {s : dz_Sg} (hno : ¬ sg_no s) (q : Nat) : pa_fst s q = nI (sg_fw s q) := by unfold pa_fst; rw [dz_B0 hno]
theorem ld_end {s : dz_Sg} (hO : dz_OK s) {p : Nat} (hp : p < sg_p s) : dz_sumI (sg_lt s p) (sg_b s (sg_col s p) + sg_h s (sg_col s p)) = sg_load s p := by
  obtain ⟨o1, o2, o3, o4, o5, o6, o7⟩ := hO
  obtain ⟨g1, g2, g3⟩ := o6 p hp
  obtain ⟨g4, g5, g6⟩ := o4 _ g1
  unfold sg_load
  refine (dz_sumI_0 g6 (fun k h1 h2 => ?_)).symm
  unfold sg_lt
  rw [if_neg]
  rintro ⟨-, e⟩
  have := (o6 k h2).2.2
  rw [e] at this
  omega
set_option maxRecDepth 100000 in
set_option maxHeartbeats 4000000 in
theorem c_X4_loadOver (π : dz_Pl) {s : dz_Sg} {p : Nat} (I : dz_MI) (J : dz_MJ) (hO : dz_OK s) (hR : dz_RY s I) (hD : PD s I J) (hno : ¬ sg_no s) (hp : p < sg_p s) : dz_Cl π dz_Y 62 mX4_loadOver 2 43 [.inr (.inr 0), .inl (nI p)] I J (dz_Pu (.inl (sg_load s p)) I J) := by
  refine dz_body (own := 4) dz_mX4_loadOver rfl (Nat.le_of_ble_eq_true rfl) (fun V hV => ?_)
  have hO2 := hO
  obtain ⟨o1, o2, o3, o4, o5, o6, o7, o8, o9⟩ := hO
  obtain ⟨y1, y2, y3, y4, y5, y6, y7, y8, y9, y10, y11, y12, y13⟩ := hR
  obtain ⟨d1, d2, d3, d4⟩ := hD
  obtain ⟨g1, g2, g3⟩ := o6 p hp
  obtain ⟨g4, g5, g6⟩ := o4 _ g1
  have loop : ∀ (fu i : Nat), sg_b s (sg_col s p) + sg_h s (sg_col s p) < i + fu → i ≤ sg_b s (sg_col s p) + sg_h s (sg_col s p) → (p + 1 ≤ i) → V 23 I J [(0, .inr (.inr 0)), (2, .inl (dz_sumI (sg_lt s p) (i))), (3, .inl (nI (sg_b s (sg_col s p) + sg_h s (sg_col s p)))), (4, .inl (nI (i)))] [] := by
    intro fu
    induction fu with
    | zero => intro i h1 h2; exact absurd h1 (by omega)
    | succ fu ih =>
      intro i h1 h2 hlo
      refine dr_iload 23 hV dX4_loadOver_23 rfl ?_
      refine dr_iload_n 25 hV dX4_loadOver_25 rfl ?_
      refine dn_icmp_ge (tgt := 74) 26 hV dX4_loadOver_26 (by decide) (by omega) (by omega) (fun c26 => ?_) (fun c26 => ?_)
      · have hie : i = (sg_b s (sg_col s p) + sg_h s (sg_col s p)) := by omega
        subst hie
        refine dr_iload_n 74 hV dX4_loadOver_74 rfl ?_
        exact dr_iret 75 hV dX4_loadOver_75 rfl (by first | rfl | exact dz_bn) (dz_pue (ld_end hO2 hp))
      · have hip : i < sg_p s := by omega
        have hfi := sg_fw_ok o3 hno hip
        have hcol := o5 (sg_col s p) i g1 (by omega) c26
        have et : sg_lt s p i = sg_wt s (sg_fw s i) := by unfold sg_lt; rw [if_pos ⟨by omega, hcol⟩]
        refine dr_aload_n 29 hV dX4_loadOver_29 rfl ?_
        refine dr_geta 30 hV dX4_loadOver_30 (by decide) (by decide) rfl rfl rfl ?_
        refine dr_iload 33 hV dX4_loadOver_33 rfl ?_
        refine dr_cvp1 35 hV dz_lX4_126 dX4_loadOver_35 (by decide) (by decide) ⟨by decide, _, _, rfl, by decide, rfl⟩ (Nat.le_of_ble_eq_true rfl) (c_X2_firstAt π _ _ d1 o3 hip) ?_
        rw [(d4 i hip).1, ld_f hno]
        refine dr_istore 38 hV dX4_loadOver_38 (by decide) ?_
        refine dr_iload_n 40 hV dX4_loadOver_40 rfl ?_
        refine dr_iload 41 hV dX4_loadOver_41 rfl ?_
        refine dr_bipush (v := nI 10) 43 hV dX4_loadOver_43 (by decide) ?_
        refine dn_icmp_ne (tgt := 55) 45 hV dX4_loadOver_45 (by decide) (by omega) (by omega) (fun c45 => ?_) (fun c45 => ?_)
        · refine dr_aload_n 55 hV dX4_loadOver_55 rfl ?_
          refine dr_geta 56 hV dX4_loadOver_56 (by decide) (by decide) rfl rfl rfl ?_
          refine dr_iload 59 hV dX4_loadOver_59 rfl ?_
          refine dr_bipush (v := nI 7) 61 hV dX4_loadOver_61 (by decide) ?_
          refine dr_cvp2 63 hV dz_lX4_141 dX4_loadOver_63 (by decide) (by decide) ⟨by decide, _, _, rfl, by decide, rfl⟩ (Nat.le_of_ble_eq_true rfl) (c_X1_fact π _ _ y1 o1 (show sg_fw s i < sg_n s by have := hfi.2.1.1; omega) (by decide)) ?_
          rw [y9 _ 7 (by have := hfi.2.1.1; omega) (by decide)]
          refine dr_iadd (z := dz_sumI (sg_lt s p) (i + 1)) 66 hV dX4_loadOver_66 (by show _ = dz_sumI (sg_lt s p) i + sg_lt s p i; rw [et]; unfold sg_wt; simp [c45]) ?_
          refine dr_istore_n 67 hV dX4_loadOver_67 (by decide) ?_
          refine dr_iinc1 68 hV dX4_loadOver_68 (by decide) rfl ?_
          refine dr_goto (tgt := 23) 71 hV dX4_loadOver_71 (by decide) ?_
          refine dr_sub hV (ls2 := [(0, .inr (.inr 0)), (2, .inl (dz_sumI (sg_lt s p) (i + 1))), (3, .inl (nI (sg_b s (sg_col s p) + sg_h s (sg_col s p)))), (4, .inl (nI (i + 1)))]) rfl ?_
          exact ih (i + 1) (by omega) (by omega) (by omega)
        · refine dr_aload_n 48 hV dX4_loadOver_48 rfl ?_
          refine dr_geti 49 hV dX4_loadOver_49 (by decide) (by decide) rfl rfl rfl y5 ?_
          refine dr_goto (tgt := 66) 52 hV dX4_loadOver_52 (by decide) ?_
          refine dr_iadd (z := dz_sumI (sg_lt s p) (i + 1)) 66 hV dX4_loadOver_66 (by show _ = dz_sumI (sg_lt s p) i + sg_lt s p i; rw [et]; unfold sg_wt; simp [c45]) ?_
          refine dr_istore_n 67 hV dX4_loadOver_67 (by decide) ?_
          refine dr_iinc1 68 hV dX4_loadOver_68 (by decide) rfl ?_
          refine dr_goto (tgt := 23) 71 hV dX4_loadOver_71 (by decide) ?_
          refine dr_sub hV (ls2 := [(0, .inr (.inr 0)), (2, .inl (dz_sumI (sg_lt s p) (i + 1))), (3, .inl (nI (sg_b s (sg_col s p) + sg_h s (sg_col s p)))), (4, .inl (nI (i + 1)))]) rfl ?_
          exact ih (i + 1) (by omega) (by omega) (by omega)
  refine dr_iconst (v := nI 0) 0 hV dX4_loadOver_0 (by decide) ?_
  refine dr_istore_n 1 hV dX4_loadOver_1 (by decide) ?_
  refine dr_aload_n 2 hV dX4_loadOver_2 rfl ?_
  refine dr_geta 3 hV dX4_loadOver_3 (by decide) (by decide) rfl rfl rfl ?_
  refine dr_aload_n 6 hV dX4_loadOver_6 rfl ?_
  refine dr_geta 7 hV dX4_loadOver_7 (by decide) (by decide) rfl rfl rfl ?_
  refine dr_iload_n 10 hV dX4_loadOver_10 rfl ?_
  refine dr_cvp1 11 hV dz_lX4_163 dX4_loadOver_11 (by decide) (by decide) ⟨by decide, _, _, rfl, by decide, rfl⟩ (Nat.le_of_ble_eq_true rfl) (c_X0_columnOf π _ _ y3 o3 hp) ?_
  rw [(y11 p hp).1]
  refine dr_cvp1 14 hV dz_lX4_151 dX4_loadOver_14 (by decide) (by decide) ⟨by decide, _, _, rfl, by decide, rfl⟩ (Nat.le_of_ble_eq_true rfl) (c_X0_endOf π _ _ y2 o2 g1) ?_
  rw [(y10 _ g1).2.2.1, (y10 _ g1).2.2.2, nI_add]
  refine dr_istore_n 17 hV dX4_loadOver_17 (by decide) ?_
  refine dr_iload_n 18 hV dX4_loadOver_18 rfl ?_
  refine dr_iconst (v := nI 1) 19 hV dX4_loadOver_19 (by decide) ?_
  refine dr_iadd (z := nI (p + 1)) 20 hV dX4_loadOver_20 (nI_1 p) ?_
  refine dr_istore 21 hV dX4_loadOver_21 (by decide) ?_
  refine dr_sub hV (ls2 := [(0, .inr (.inr 0)), (2, .inl (dz_sumI (sg_lt s p) (p + 1))), (3, .inl (nI (sg_b s (sg_col s p) + sg_h s (sg_col s p)))), (4, .inl (nI (p + 1)))]) (by rw [dz_lt_pre s p (p + 1) (Nat.le_refl _)]; rfl) ?_
  exact loop ((sg_b s (sg_col s p) + sg_h s (sg_col s p)) + 1) (p + 1) (by omega) (by omega) (Nat.le_refl _)
theorem br_fst {s : dz_Sg} {q k : Nat} (hk : k < 2 ^ 31) (h : pa_fst s q = nI k) : ¬ sg_no s ∧ nI (sg_fw s q) = nI k := by
  by_cases hno : sg_no s
  · unfold pa_fst at h; rw [dz_B1 hno] at h; exact absurd h.symm (dz_m1n hk)
  · rw [ld_f hno] at h; exact ⟨hno, h⟩
theorem br_n {s : dz_Sg} {k : Nat} (hin : 0 ≤ nI k ∧ nI k < nI (sg_n s)) (hi : ∀ j, j < sg_p s → ¬ pa_fst s j = nI k) : -1 = q_bears s (nI k) := by
  unfold q_bears
  by_cases hno : sg_no s
  · rw [dz_B1 (Or.inl hno)]
  · rw [dz_B0 (fun z => z.elim hno (fun y => y hin)), q_borne_n (fun j hj => by rw [← ld_f hno]; exact hi j hj)]
set_option maxRecDepth 100000 in
set_option maxHeartbeats 4000000 in
theorem c_X4_bears (π : dz_Pl) {s : dz_Sg} (v : Int32) (I : dz_MI) (J : dz_MJ) (hO : dz_OK s) (hY : YI s I J) : dz_Cl π dz_Y 62 mX4_bears 6 133 [.inr (.inr 0), .inl v] I J (yq_P s (.inl (q_bears s v))) := by
  refine dz_body (own := 4) dz_mX4_bears rfl (Nat.le_of_ble_eq_true rfl) (fun V hV => ?_)
  have hO2 := hO
  have hY2 := hY
  obtain ⟨o1, o2, o3, o4, o5, o6, o7, o8, o9⟩ := hO
  have y1 := hY.1.1
  refine dr_aload_n 0 hV dX4_bears_0 rfl ?_
  refine dr_geta 1 hV dX4_bears_1 (by decide) (by decide) rfl rfl rfl ?_
  refine dr_iload_n 4 hV dX4_bears_4 rfl ?_
  refine dr_cvp1 5 hV dz_lX4_86 dX4_bears_5 (by decide) (by decide) ⟨by decide, _, _, rfl, by decide, rfl⟩ (Nat.le_of_ble_eq_true rfl) (c_X1_has π _ _ _) ?_
  first | refine dr_ifb_ne (tgt := 13) 8 hV dX4_bears_8 (by decide) (fun c8 => ?_) (fun c8 => ?_) | refine dr_if_ne (tgt := 13) 8 hV dX4_bears_8 (by decide) (fun c8 => ?_) (fun c8 => ?_)
  · obtain ⟨k, hk, rfl⟩ := dz_ofI y1 (by omega) c8
    have hin : 0 ≤ nI k ∧ nI k < nI (sg_n s) := dz_inI rfl hk (by omega)
    refine dr_aload_n 13 hV dX4_bears_13 rfl ?_
    refine dr_cv0 14 hV dz_lX4_115 dX4_bears_14 (by decide) (by decide) ⟨by decide, _, _, rfl, by decide, rfl⟩ (Nat.le_of_ble_eq_true rfl) (c_X4_drawPaper π _ _ hO2 hY2) (fun r1 I1 J1 hp => ?_)
    obtain ⟨rfl, hR2, hC2, hs2, hD2⟩ := id hp
    obtain ⟨y1, y2, y3, y4, y5, y6, y7, y8, y9, y10, y11, y12, y13⟩ := id hR2
    obtain ⟨d1, d2, d3, d4⟩ := id hD2
    have hYY := dp_Y hp
    have loop : ∀ (fu i : Nat), sg_p s < i + fu → i ≤ sg_p s → (∀ j, j < i → ¬ pa_fst s j = nI k) → V 19 I1 J1 [(0, .inr (.inr 0)), (1, .inl (nI k)), (2, .inl (nI (i)))] [] := by
      intro fu
      induction fu with
      | zero => intro i h1 h2; exact absurd h1 (by omega)
      | succ fu ih =>
        intro i h1 h2 hi
        refine dr_iload_n 19 hV dX4_bears_19 rfl ?_
        refine dr_aload_n 20 hV dX4_bears_20 rfl ?_
        refine dr_geta 21 hV dX4_bears_21 (by decide) (by decide) rfl rfl rfl ?_
        refine dr_cvp0 24 hV dz_lX4_129 dX4_bears_24 (by decide) (by decide) ⟨by decide, _, _, rfl, by decide, rfl⟩ (Nat.le_of_ble_eq_true rfl) (c_X0_placeNumber π _ _) ?_
        rw [y3]
        refine dn_icmp_ge (tgt := 54) 27 hV dX4_bears_27 (by decide) (by omega) (by omega) (fun c27 => ?_) (fun c27 => ?_)
        · refine dr_iconst (v := (-1)) 54 hV dX4_bears_54 (by decide) ?_
          exact dr_iret 55 hV dX4_bears_55 rfl (by first | rfl | exact dz_bn) (yq_i (br_n hin (fun j hj => hi j (by omega))) hYY)
        · refine dr_aload_n 30 hV dX4_bears_30 rfl ?_
          refine dr_geta 31 hV dX4_bears_31 (by decide) (by decide) rfl rfl rfl ?_
          refine dr_iload_n 34 hV dX4_bears_34 rfl ?_
          refine dr_cvp1 35 hV dz_lX4_126 dX4_bears_35 (by decide) (by decide) ⟨by decide, _, _, rfl, by decide, rfl⟩ (Nat.le_of_ble_eq_true rfl) (c_X2_firstAt π _ _ d1 o3 c27) ?_
          rw [(d4 i c27).1]
          refine dr_iload_n 38 hV dX4_bears_38 rfl ?_
          refine dr_icmp_ne (tgt := 48) 39 hV dX4_bears_39 (by decide) (fun c39 => ?_) (fun c39 => ?_)
          · refine dr_iinc1 48 hV dX4_bears_48 (by decide) rfl ?_
            refine dr_goto (tgt := 19) 51 hV dX4_bears_51 (by decide) ?_
            refine dr_sub hV (ls2 := [(0, .inr (.inr 0)), (1, .inl (nI k)), (2, .inl (nI (i + 1)))]) rfl ?_
            exact ih (i + 1) (by omega) (by omega) (lt_s hi c39)
          · obtain ⟨hno, hfw⟩ := br_fst (by omega) c39
            refine dr_aload_n 42 hV dX4_bears_42 rfl ?_
            refine dr_iload_n 43 hV dX4_bears_43 rfl ?_
            refine dr_cvp1 44 hV dz_lX4_138 dX4_bears_44 (by decide) (by decide) ⟨by decide, _, _, rfl, by decide, rfl⟩ (Nat.le_of_ble_eq_true rfl) (c_X4_loadOver π _ _ hO2 hR2 hD2 hno c27) ?_
            exact dr_iret 47 hV dX4_bears_47 rfl (by first | rfl | exact dz_bn) (yq_i (by clear hV ih; unfold q_bears; rw [dz_B0 (fun z => z.elim hno (fun y => y hin)), q_borne_s c27 hfw (fun j hj => by rw [← ld_f hno]; exact hi j hj)]) hYY)
    refine dr_iconst (v := nI 0) 17 hV dX4_bears_17 (by decide) ?_
    refine dr_istore_n 18 hV dX4_bears_18 (by decide) ?_
    refine dr_sub hV (ls2 := [(0, .inr (.inr 0)), (1, .inl (nI k)), (2, .inl (nI (0)))]) rfl ?_
    exact loop (sg_p s + 1) 0 (by omega) (Nat.zero_le _) (fun j hj => absurd hj (by omega))
  · refine dr_iconst (v := (-1)) 11 hV dX4_bears_11 (by decide) ?_
    exact dr_iret 12 hV dX4_bears_12 rfl (by first | rfl | exact dz_bn) (yq_i (by rw [y1] at c8; unfold q_bears; rw [dz_B1 (Or.inr c8)]) hY2)
theorem sg_go_bit {s : dz_Sg} (hO : dz_OK s) (hno : ¬ sg_no s) {p : Nat} (h10 : ¬ sg_fw s p = 10) : ∀ t, p + 1 + t ≤ sg_p s → (sg_go s (p + 1 + t)).1.testBit (sg_fw s p) = true
  | 0, _ => by
    rw [Nat.add_zero, sg_go_s]
    show (sg_nx (sg_go s p).1 (sg_fw s p)).testBit (sg_fw s p) = true
    unfold sg_nx; rw [if_neg h10, fb_bit_set]; simp
  | t + 1, h => by
    have ih := sg_go_bit hO hno h10 t (by omega)
    rw [show p + 1 + (t + 1) = (p + 1 + t) + 1 by omega, sg_go_s]
    show (sg_nx (sg_go s (p + 1 + t)).1 (sg_fw s (p + 1 + t))).testBit (sg_fw s p) = true
    unfold sg_nx
    split
    · exact ih
    · rw [fb_bit_set, ih]; rfl
theorem sg_fw_lt {s : dz_Sg} (hO : dz_OK s) (hno : ¬ sg_no s) {p q : Nat} (hpq : p < q) (hq : q < sg_p s) (h10 : ¬ sg_fw s p = 10) : ¬ sg_fw s p = sg_fw s q := fun e => by
  have h1 := sg_go_bit hO hno h10 (q - p - 1) (by omega)
  rw [show p + 1 + (q - p - 1) = q by omega] at h1
  have h2 := (sg_fw_ok hO.2.2.1 hno hq).2.1.2.1.2
  rw [← e] at h2
  have := (h2.resolve_left h10).1
  rw [h1] at this
  cases this
theorem sg_fw_inj {s : dz_Sg} (hO : dz_OK s) (hno : ¬ sg_no s) {p q : Nat} (hp : p < sg_p s) (hq : q < sg_p s) (h10 : ¬ sg_fw s p = 10) (e : sg_fw s p = sg_fw s q) : p = q := by
  rcases Nat.lt_trichotomy p q with z | z | z
  · exact absurd e (sg_fw_lt hO hno z hq h10)
  · exact z
  · exact absurd e.symm (sg_fw_lt hO hno z hp (by rw [← e]; exact h10))
def cr_c (s : dz_Sg) (i d : Nat) : Prop := ¬ sg_no s ∧ ∃ p, p < i ∧ sg_fw s p = d ∧ sg_f s d 8 < sg_load s p
theorem cr_n {s : dz_Sg} {i : Nat} (h : ¬ sg_no s → sg_fw s i < sg_n s → ¬ sg_f s (sg_fw s i) 8 < sg_load s i) : dz_bits (fun d => dz_B (cr_c s (i + 1) d)) (sg_n s) = dz_bits (fun d => dz_B (cr_c s i d)) (sg_n s) := by
  refine dz_bits_cong (fun d hd => dz_B_cong ⟨fun ⟨a, p, b, c, e⟩ => ⟨a, p, ?_, c, e⟩, fun ⟨a, p, b, c, e⟩ => ⟨a, p, by omega, c, e⟩⟩)
  rcases Nat.lt_or_ge p i with z | z
  · exact z
  · have e2 : p = i := by omega
    subst e2; subst c
    exact absurd e (h a hd)
theorem cr_s {s : dz_Sg} {i : Nat} (hn : sg_n s ≤ 10) (hno : ¬ sg_no s) (hf : sg_fw s i < sg_n s) (h : sg_f s (sg_fw s i) 8 < sg_load s i) : nI (dz_bits (fun d => dz_B (cr_c s i d)) (sg_n s)) ||| nI (2 ^ sg_fw s i) = nI (dz_bits (fun d => dz_B (cr_c s (i + 1) d)) (sg_n s)) := by
  rw [fa_or]
  congr 1
  refine dz_bits_ext (n := sg_n s) (Nat.or_lt_two_pow (dz_bits_lt _ _) (Nat.pow_lt_pow_right (by decide) hf)) (dz_bits_lt _ _) (fun d hd => ?_)
  rw [fb_bit_set, dz_bits_tb, dz_bits_tb]
  simp only [hd, decide_true, Bool.true_and]
  by_cases e : d = sg_fw s i
  · rw [dz_Bt.mpr (show cr_c s (i + 1) d from ⟨hno, i, by omega, e.symm, by rw [e]; exact h⟩)]; simp [e]
  · have : dz_B (cr_c s i d) = dz_B (cr_c s (i + 1) d) := dz_B_cong ⟨fun ⟨a, p, b, c, f⟩ => ⟨a, p, by omega, c, f⟩, fun ⟨a, p, b, c, f⟩ => ⟨a, p, by
      rcases Nat.lt_or_ge p i with z | z
      · exact z
      · rw [show p = i by omega] at c; exact absurd c.symm e, c, f⟩⟩
    rw [this]; simp [e]
theorem cr_end {s : dz_Sg} (hO : dz_OK s) : nI (dz_bits (fun d => dz_B (cr_c s (sg_p s) d)) (sg_n s)) = q_cracked s := by
  unfold q_cracked
  by_cases hno : sg_no s
  · rw [dz_B1 hno, dz_bits_0.mpr (fun d _ => dz_Bf.mpr (fun z => z.1 hno))]
  · rw [dz_B0 hno]
    congr 1
    refine dz_bits_cong (fun d hd => dz_B_cong ?_)
    have h10 : d < 10 := by have := hO.1; omega
    by_cases hx : ∃ p, p < sg_p s ∧ sg_fw s p = d
    · obtain ⟨p, hp, e⟩ := hx
      have hb : q_borne s (nI d) = sg_load s p := q_borne_s hp (by rw [e]) (fun j hj z => by
        have z2 : sg_fw s j = d := (nI_eq (by have := (sg_fw_ok hO.2.2.1 hno (show j < sg_p s by omega)).1; omega) (by omega)).mp z
        have := sg_fw_inj hO hno (show j < sg_p s by omega) hp (by omega) (z2.trans e.symm)
        omega)
      rw [hb]
      constructor
      · rintro ⟨-, q, hq, e2, h⟩
        rw [sg_fw_inj hO hno hp hq (by omega) (e.trans e2.symm)]; exact h
      · intro h; exact ⟨hno, p, hp, e, h⟩
    · have hb : q_borne s (nI d) = -1 := q_borne_n (fun j hj z => hx ⟨j, hj, (nI_eq (by have := (sg_fw_ok hO.2.2.1 hno hj).1; omega) (by omega)).mp z⟩)
      rw [hb]
      constructor
      · rintro ⟨-, q, hq, e2, h⟩; exact absurd ⟨q, hq, e2⟩ hx
      · intro h
        have h0 := hO.2.2.2.2.2.2.2.2.2.1 d hd
        rw [fa_lt] at h
        rw [fa_le] at h0
        have e1 : (-1 : Int32).toInt = -1 := by decide
        have e2 : (0 : Int32).toInt = 0 := by decide
        omega
theorem cr_0 (s : dz_Sg) : dz_bits (fun d => dz_B (cr_c s 0 d)) (sg_n s) = 0 := dz_bits_0.mpr (fun d _ => dz_Bf.mpr (fun ⟨_, p, hp, _⟩ => absurd hp (by omega)))
set_option maxRecDepth 100000 in
set_option maxHeartbeats 4000000 in
theorem c_X4_cracked (π : dz_Pl) {s : dz_Sg} (I : dz_MI) (J : dz_MJ) (hO : dz_OK s) (hY : YI s I J) : dz_Cl π dz_Y 62 mX4_cracked 6 133 [.inr (.inr 0)] I J (yq_P s (.inl (q_cracked s))) := by
  refine dz_body (own := 4) dz_mX4_cracked rfl (Nat.le_of_ble_eq_true rfl) (fun V hV => ?_)
  have hO2 := hO
  have hY2 := hY
  obtain ⟨o1, o2, o3, o4, o5, o6, o7, o8, o9⟩ := hO
  refine dr_aload_n 0 hV dX4_cracked_0 rfl ?_
  refine dr_cv0 1 hV dz_lX4_115 dX4_cracked_1 (by decide) (by decide) ⟨by decide, _, _, rfl, by decide, rfl⟩ (Nat.le_of_ble_eq_true rfl) (c_X4_drawPaper π _ _ hO2 hY2) (fun r1 I1 J1 hp => ?_)
  obtain ⟨rfl, hR2, hC2, hs2, hD2⟩ := id hp
  obtain ⟨y1, y2, y3, y4, y5, y6, y7, y8, y9, y10, y11, y12, y13⟩ := id hR2
  obtain ⟨d1, d2, d3, d4⟩ := id hD2
  have hYY := dp_Y hp
  have loop : ∀ (fu i : Nat), sg_p s < i + fu → i ≤ sg_p s → V 8 I1 J1 [(0, .inr (.inr 0)), (1, .inl (nI (dz_bits (fun d => dz_B (cr_c s (i) d)) (sg_n s)))), (2, .inl (nI (i)))] [] := by
    intro fu
    induction fu with
    | zero => intro i h1 h2; exact absurd h1 (by omega)
    | succ fu ih =>
      intro i h1 h2
      refine dr_iload_n 8 hV dX4_cracked_8 rfl ?_
      refine dr_aload_n 9 hV dX4_cracked_9 rfl ?_
      refine dr_geta 10 hV dX4_cracked_10 (by decide) (by decide) rfl rfl rfl ?_
      refine dr_cvp0 13 hV dz_lX4_129 dX4_cracked_13 (by decide) (by decide) ⟨by decide, _, _, rfl, by decide, rfl⟩ (Nat.le_of_ble_eq_true rfl) (c_X0_placeNumber π _ _) ?_
      rw [y3]
      refine dn_icmp_ge (tgt := 69) 16 hV dX4_cracked_16 (by decide) (by omega) (by omega) (fun c16 => ?_) (fun c16 => ?_)
      · refine dr_iload_n 69 hV dX4_cracked_69 rfl ?_
        exact dr_iret 70 hV dX4_cracked_70 rfl (by first | rfl | exact dz_bn) (yq_i (by rw [show i = sg_p s by omega]; exact cr_end hO2) hYY)
      · refine dr_aload_n 19 hV dX4_cracked_19 rfl ?_
        refine dr_geta 20 hV dX4_cracked_20 (by decide) (by decide) rfl rfl rfl ?_
        refine dr_iload_n 23 hV dX4_cracked_23 rfl ?_
        refine dr_cvp1 24 hV dz_lX4_126 dX4_cracked_24 (by decide) (by decide) ⟨by decide, _, _, rfl, by decide, rfl⟩ (Nat.le_of_ble_eq_true rfl) (c_X2_firstAt π _ _ d1 o3 c16) ?_
        rw [(d4 i c16).1]
        refine dr_istore_n 27 hV dX4_cracked_27 (by decide) ?_
        refine dr_aload_n 28 hV dX4_cracked_28 rfl ?_
        refine dr_geta 29 hV dX4_cracked_29 (by decide) (by decide) rfl rfl rfl ?_
        refine dr_iload_n 32 hV dX4_cracked_32 rfl ?_
        refine dr_cvp1 33 hV dz_lX4_86 dX4_cracked_33 (by decide) (by decide) ⟨by decide, _, _, rfl, by decide, rfl⟩ (Nat.le_of_ble_eq_true rfl) (c_X1_has π _ _ _) ?_
        first | refine dr_ifb_eq (tgt := 63) 36 hV dX4_cracked_36 (by decide) (fun c36 => ?_) (fun c36 => ?_) | refine dr_if_eq (tgt := 63) 36 hV dX4_cracked_36 (by decide) (fun c36 => ?_) (fun c36 => ?_)
        · refine dr_iinc1 63 hV dX4_cracked_63 (by decide) rfl ?_
          refine dr_goto (tgt := 8) 66 hV dX4_cracked_66 (by decide) ?_
          rw [← cr_n (s := s) (i := i) (fun a b => absurd (by rw [y1, ld_f a]; exact dz_inI rfl b (by omega)) c36)]
          refine dr_sub hV (ls2 := [(0, .inr (.inr 0)), (1, .inl (nI (dz_bits (fun d => dz_B (cr_c s (i + 1) d)) (sg_n s)))), (2, .inl (nI (i + 1)))]) rfl ?_
          exact ih (i + 1) (by omega) (by omega)
        · obtain ⟨k, hk, hke⟩ := dz_ofI y1 (by omega) c36
          obtain ⟨hno, hfw⟩ := br_fst (show k < 2 ^ 31 by omega) hke
          have hfw2 : sg_fw s i = k := (nI_eq (by have := (sg_fw_ok o3 hno c16).1; omega) (by omega)).mp hfw
          subst hfw2
          rw [hke]
          refine dr_aload_n 39 hV dX4_cracked_39 rfl ?_
          refine dr_iload_n 40 hV dX4_cracked_40 rfl ?_
          refine dr_cvp1 41 hV dz_lX4_138 dX4_cracked_41 (by decide) (by decide) ⟨by decide, _, _, rfl, by decide, rfl⟩ (Nat.le_of_ble_eq_true rfl) (c_X4_loadOver π _ _ hO2 hR2 hD2 hno c16) ?_
          refine dr_aload_n 44 hV dX4_cracked_44 rfl ?_
          refine dr_geta 45 hV dX4_cracked_45 (by decide) (by decide) rfl rfl rfl ?_
          refine dr_iload_n 48 hV dX4_cracked_48 rfl ?_
          refine dr_bipush (v := nI 8) 49 hV dX4_cracked_49 (by decide) ?_
          refine dr_cvp2 51 hV dz_lX4_141 dX4_cracked_51 (by decide) (by decide) ⟨by decide, _, _, rfl, by decide, rfl⟩ (Nat.le_of_ble_eq_true rfl) (c_X1_fact π _ _ y1 o1 hk (by decide)) ?_
          rw [y9 _ 8 hk (by decide)]
          refine dr_icmp_le (tgt := 63) 54 hV dX4_cracked_54 (by decide) (fun c54 => ?_) (fun c54 => ?_)
          · refine dr_iinc1 63 hV dX4_cracked_63 (by decide) rfl ?_
            refine dr_goto (tgt := 8) 66 hV dX4_cracked_66 (by decide) ?_
            rw [← cr_n (s := s) (i := i) (fun _ _ => Int32.not_lt.mpr c54)]
            refine dr_sub hV (ls2 := [(0, .inr (.inr 0)), (1, .inl (nI (dz_bits (fun d => dz_B (cr_c s (i + 1) d)) (sg_n s)))), (2, .inl (nI (i + 1)))]) rfl ?_
            exact ih (i + 1) (by omega) (by omega)
          · refine dr_iload_n 57 hV dX4_cracked_57 rfl ?_
            refine dr_iconst (v := nI 1) 58 hV dX4_cracked_58 (by decide) ?_
            refine dr_iload_n 59 hV dX4_cracked_59 rfl ?_
            refine dr_ishl (z := nI (2 ^ sg_fw s i)) 60 hV dX4_cracked_60 (dz_s1 (by omega)) ?_
            refine dr_ior (z := nI (dz_bits (fun d => dz_B (cr_c s (i + 1) d)) (sg_n s))) 61 hV dX4_cracked_61 (cr_s o1 hno hk (Int32.not_le.mp c54)) ?_
            refine dr_istore_n 62 hV dX4_cracked_62 (by decide) ?_
            refine dr_iinc1 63 hV dX4_cracked_63 (by decide) rfl ?_
            refine dr_goto (tgt := 8) 66 hV dX4_cracked_66 (by decide) ?_
            refine dr_sub hV (ls2 := [(0, .inr (.inr 0)), (1, .inl (nI (dz_bits (fun d => dz_B (cr_c s (i + 1) d)) (sg_n s)))), (2, .inl (nI (i + 1)))]) rfl ?_
            exact ih (i + 1) (by omega) (by omega)
  refine dr_iconst (v := nI 0) 4 hV dX4_cracked_4 (by decide) ?_
  refine dr_istore_n 5 hV dX4_cracked_5 (by decide) ?_
  refine dr_iconst (v := nI 0) 6 hV dX4_cracked_6 (by decide) ?_
  refine dr_istore_n 7 hV dX4_cracked_7 (by decide) ?_
  refine dr_sub hV (ls2 := [(0, .inr (.inr 0)), (1, .inl (nI (dz_bits (fun d => dz_B (cr_c s (0) d)) (sg_n s)))), (2, .inl (nI (0)))]) (by rw [cr_0]; rfl) ?_
  exact loop (sg_p s + 1) 0 (by omega) (Nat.zero_le _)
theorem hp_mean {s : dz_Sg} {I : dz_MI} (y9 : ∀ d w, d < sg_n s → w < 9 → I (24 + d) w = sg_f s d w) : dz_mean (fun d => I (24 + d) 3) (sg_n s) = dz_mean (fun d => sg_f s d 3) (sg_n s) := by
  unfold dz_mean
  rw [dz_sumI_cong (g := fun d => sg_f s d 3) (fun d hd => y9 d 3 hd (by decide))]
set_option maxRecDepth 100000 in
set_option maxHeartbeats 4000000 in
theorem c_X4_heightOf (π : dz_Pl) {s : dz_Sg} {j : Nat} (I : dz_MI) (J : dz_MJ) (hO : dz_OK s) (hR : dz_RY s I) (hj : j = 10 ∨ j < sg_n s) : dz_Cl π dz_Y 62 mX4_heightOf 2 43 [.inr (.inr 0), .inl (nI j)] I J (dz_Pu (.inl (sg_hp s j)) I J) := by
  refine dz_body (own := 4) dz_mX4_heightOf rfl (Nat.le_of_ble_eq_true rfl) (fun V hV => ?_)
  obtain ⟨o1, o2, o3, o4, o5, o6, o7, o8, o9⟩ := hO
  obtain ⟨y1, y2, y3, y4, y5, y6, y7, y8, y9, y10, y11, y12, y13⟩ := hR
  refine dr_iload_n 0 hV dX4_heightOf_0 rfl ?_
  refine dr_bipush (v := nI 10) 1 hV dX4_heightOf_1 (by decide) ?_
  refine dn_icmp_ne (tgt := 16) 3 hV dX4_heightOf_3 (by decide) (by omega) (by omega) (fun c3 => ?_) (fun c3 => ?_)
  · refine dr_aload_n 16 hV dX4_heightOf_16 rfl ?_
    refine dr_geta 17 hV dX4_heightOf_17 (by decide) (by decide) rfl rfl rfl ?_
    refine dr_iload_n 20 hV dX4_heightOf_20 rfl ?_
    refine dr_iconst (v := nI 3) 21 hV dX4_heightOf_21 (by decide) ?_
    refine dr_cvp2 22 hV dz_lX4_141 dX4_heightOf_22 (by decide) (by decide) ⟨by decide, _, _, rfl, by decide, rfl⟩ (Nat.le_of_ble_eq_true rfl) (c_X1_fact π _ _ y1 o1 (show j < sg_n s by omega) (by decide)) ?_
    rw [y9 _ 3 (by omega) (by decide)]
    exact dr_iret 25 hV dX4_heightOf_25 rfl (by first | rfl | exact dz_bn) (dz_pue (by unfold sg_hp; first | rw [if_pos c3] | rw [if_neg c3]))
  · refine dr_aload_n 6 hV dX4_heightOf_6 rfl ?_
    refine dr_geta 7 hV dX4_heightOf_7 (by decide) (by decide) rfl rfl rfl ?_
    refine dr_cvp0 10 hV dz_lX4_191 dX4_heightOf_10 (by decide) (by decide) ⟨by decide, _, _, rfl, by decide, rfl⟩ (Nat.le_of_ble_eq_true rfl) (c_X1_meanHeight π _ _ y1 o1) ?_
    rw [hp_mean y9]
    refine dr_goto (tgt := 25) 13 hV dX4_heightOf_13 (by decide) ?_
    exact dr_iret 25 hV dX4_heightOf_25 rfl (by first | rfl | exact dz_bn) (dz_pue (by unfold sg_hp; first | rw [if_pos c3] | rw [if_neg c3]))
theorem ta_eq {s : dz_Sg} (hO : dz_OK s) {q c : Nat} (hq : q < sg_p s) (hc : c < sg_c s) : nI (sg_col s q) = nI c ↔ sg_col s q = c := nI_eq (by have := (hO.2.2.2.2.2.1 q hq).1; have := hO.2.1; omega) (by have := hO.2.1; omega)
theorem ta_0 {s : dz_Sg} (hO : dz_OK s) {c : Nat} (hc : c < sg_c s) : dz_sumI (fun q => if nI (sg_col s q) = nI c then sg_hp s (sg_fw s q) else 0) (sg_b s c) = 0 := by
  have h := dz_sumI_0 (f := fun q => if nI (sg_col s q) = nI c then sg_hp s (sg_fw s q) else 0) (a := 0) (b := sg_b s c) (Nat.zero_le _) (fun k _ hk => by
    have hkp : k < sg_p s := by have := (hO.2.2.2.1 c hc).2.2; omega
    show (if nI (sg_col s k) = nI c then sg_hp s (sg_fw s k) else 0) = 0
    rw [if_neg]
    rw [ta_eq hO hkp hc]
    intro e
    have := (hO.2.2.2.2.2.1 k hkp).2.1
    rw [e] at this
    omega)
  exact h
theorem ta_e {s : dz_Sg} (hO : dz_OK s) {c : Nat} (hc : c < sg_c s) (hno : ¬ sg_no s) : dz_sumI (fun q => if nI (sg_col s q) = nI c then sg_hp s (sg_fw s q) else 0) (sg_b s c + sg_h s c) = q_tall s (nI c) := by
  unfold q_tall
  rw [dz_B0 (fun z => z.elim hno (fun y => y (dz_inI rfl hc (by have := hO.2.1; omega))))]
  refine (dz_sumI_0 (hO.2.2.2.1 c hc).2.2 (fun k h1 hk => ?_)).symm
  show (if nI (sg_col s k) = nI c then sg_hp s (sg_fw s k) else 0) = 0
  rw [if_neg]
  rw [ta_eq hO hk hc]
  intro e
  have := (hO.2.2.2.2.2.1 k hk).2.2
  rw [e] at this
  omega
theorem ql_no {s : dz_Sg} (h : ¬ ¬ q_least s = -1) : sg_no s := Classical.byContradiction fun z => h (fun e => by
  unfold q_least at e; rw [dz_B0 z] at e
  exact dz_m1n (Nat.lt_of_le_of_lt (sg_L_le s 0 0 10) (by decide)) e)
theorem ql_yes {s : dz_Sg} (h : ¬ q_least s = -1) : ¬ sg_no s := fun z => h (by unfold q_least; rw [dz_B1 z])
set_option maxRecDepth 100000 in
set_option maxHeartbeats 4000000 in
theorem c_X4_tall (π : dz_Pl) {s : dz_Sg} (v : Int32) (I : dz_MI) (J : dz_MJ) (hO : dz_OK s) (hY : YI s I J) : dz_Cl π dz_Y 62 mX4_tall 6 133 [.inr (.inr 0), .inl v] I J (yq_P s (.inl (q_tall s v))) := by
  refine dz_body (own := 4) dz_mX4_tall rfl (Nat.le_of_ble_eq_true rfl) (fun V hV => ?_)
  have hO2 := hO
  have hY2 := hY
  obtain ⟨o1, o2, o3, o4, o5, o6, o7, o8, o9⟩ := hO
  refine dr_aload_n 0 hV dX4_tall_0 rfl ?_
  refine dr_cv0 1 hV dz_lX4_115 dX4_tall_1 (by decide) (by decide) ⟨by decide, _, _, rfl, by decide, rfl⟩ (Nat.le_of_ble_eq_true rfl) (c_X4_drawPaper π _ _ hO2 hY2) (fun r1 I1 J1 hp => ?_)
  obtain ⟨rfl, hR2, hC2, hs2, hD2⟩ := id hp
  obtain ⟨y1, y2, y3, y4, y5, y6, y7, y8, y9, y10, y11, y12, y13⟩ := id hR2
  obtain ⟨d1, d2, d3, d4⟩ := id hD2
  have hYY := dp_Y hp
  refine dr_aload_n 4 hV dX4_tall_4 rfl ?_
  refine dr_geta 5 hV dX4_tall_5 (by decide) (by decide) rfl rfl rfl ?_
  refine dr_iload_n 8 hV dX4_tall_8 rfl ?_
  refine dr_cvp1 9 hV dz_lX4_89 dX4_tall_9 (by decide) (by decide) ⟨by decide, _, _, rfl, by decide, rfl⟩ (Nat.le_of_ble_eq_true rfl) (c_X0_has π _ _ _) ?_
  first | refine dr_ifb_eq (tgt := 25) 12 hV dX4_tall_12 (by decide) (fun c12 => ?_) (fun c12 => ?_) | refine dr_if_eq (tgt := 25) 12 hV dX4_tall_12 (by decide) (fun c12 => ?_) (fun c12 => ?_)
  · have hbad : sg_no s ∨ ¬ (0 ≤ v ∧ v < nI (sg_c s)) := Or.inr (by rw [y2] at c12; exact c12)
    refine dr_iconst (v := (-1)) 25 hV dX4_tall_25 (by decide) ?_
    exact dr_iret 26 hV dX4_tall_26 rfl (by first | rfl | exact dz_bn) (yq_i (by unfold q_tall; rw [dz_B1 hbad]) hYY)
  · obtain ⟨c, hc, rfl⟩ := dz_ofI y2 (by omega) c12
    obtain ⟨g4, g5, g6⟩ := o4 c hc
    refine dr_aload_n 15 hV dX4_tall_15 rfl ?_
    refine dr_geta 16 hV dX4_tall_16 (by decide) (by decide) rfl rfl rfl ?_
    refine dr_cvp0 19 hV dz_lX4_145 dX4_tall_19 (by decide) (by decide) ⟨by decide, _, _, rfl, by decide, rfl⟩ (Nat.le_of_ble_eq_true rfl) (c_X2_hasWay π  _ _) ?_
    rw [d2]
    first | refine dr_ifb_ne (tgt := 27) 22 hV dX4_tall_22 (by decide) (fun c22 => ?_) (fun c22 => ?_) | refine dr_if_ne (tgt := 27) 22 hV dX4_tall_22 (by decide) (fun c22 => ?_) (fun c22 => ?_)
    · have hno := ql_yes c22
      have loop : ∀ (fu i : Nat), sg_b s c + sg_h s c < i + fu → i ≤ sg_b s c + sg_h s c → (sg_b s c ≤ i) → V 48 I1 J1 [(0, .inr (.inr 0)), (1, .inl (nI c)), (2, .inl (dz_sumI (fun q => if nI (sg_col s q) = nI c then sg_hp s (sg_fw s q) else 0) (i))), (3, .inl (nI (sg_b s c + sg_h s c))), (4, .inl (nI (i)))] [] := by
        intro fu
        induction fu with
        | zero => intro i h1 h2; exact absurd h1 (by omega)
        | succ fu ih =>
          intro i h1 h2 hlo
          refine dr_iload 48 hV dX4_tall_48 rfl ?_
          refine dr_iload_n 50 hV dX4_tall_50 rfl ?_
          refine dn_icmp_ge (tgt := 76) 51 hV dX4_tall_51 (by decide) (by omega) (by omega) (fun c51 => ?_) (fun c51 => ?_)
          · have hie : i = sg_b s c + sg_h s c := by omega
            subst hie
            refine dr_iload_n 76 hV dX4_tall_76 rfl ?_
            exact dr_iret 77 hV dX4_tall_77 rfl (by first | rfl | exact dz_bn) (yq_i (ta_e hO2 hc hno) hYY)
          · have hip : i < sg_p s := by omega
            have hfi := sg_fw_ok o3 hno hip
            have hcol := o5 c i hc (by omega) c51
            refine dr_iload_n 54 hV dX4_tall_54 rfl ?_
            refine dr_aload_n 55 hV dX4_tall_55 rfl ?_
            refine dr_aload_n 56 hV dX4_tall_56 rfl ?_
            refine dr_geta 57 hV dX4_tall_57 (by decide) (by decide) rfl rfl rfl ?_
            refine dr_iload 60 hV dX4_tall_60 rfl ?_
            refine dr_cvp1 62 hV dz_lX4_126 dX4_tall_62 (by decide) (by decide) ⟨by decide, _, _, rfl, by decide, rfl⟩ (Nat.le_of_ble_eq_true rfl) (c_X2_firstAt π _ _ d1 o3 hip) ?_
            rw [(d4 i hip).1, ld_f hno]
            refine dr_cvp1 65 hV dz_lX4_157 dX4_tall_65 (by decide) (by decide) ⟨by decide, _, _, rfl, by decide, rfl⟩ (Nat.le_of_ble_eq_true rfl) (c_X4_heightOf π _ _ hO2 hR2 hfi.2.1.1) ?_
            refine dr_iadd (z := dz_sumI (fun q => if nI (sg_col s q) = nI c then sg_hp s (sg_fw s q) else 0) (i + 1)) 68 hV dX4_tall_68 (by show _ = dz_sumI (fun q => if nI (sg_col s q) = nI c then sg_hp s (sg_fw s q) else 0) i + (if nI (sg_col s i) = nI c then sg_hp s (sg_fw s i) else 0); rw [if_pos (by rw [hcol])]) ?_
            refine dr_istore_n 69 hV dX4_tall_69 (by decide) ?_
            refine dr_iinc1 70 hV dX4_tall_70 (by decide) rfl ?_
            refine dr_goto (tgt := 48) 73 hV dX4_tall_73 (by decide) ?_
            refine dr_sub hV (ls2 := [(0, .inr (.inr 0)), (1, .inl (nI c)), (2, .inl (dz_sumI (fun q => if nI (sg_col s q) = nI c then sg_hp s (sg_fw s q) else 0) (i + 1))), (3, .inl (nI (sg_b s c + sg_h s c))), (4, .inl (nI (i + 1)))]) rfl ?_
            exact ih (i + 1) (by omega) (by omega) (by omega)
      refine dr_iconst (v := nI 0) 27 hV dX4_tall_27 (by decide) ?_
      refine dr_istore_n 28 hV dX4_tall_28 (by decide) ?_
      refine dr_aload_n 29 hV dX4_tall_29 rfl ?_
      refine dr_geta 30 hV dX4_tall_30 (by decide) (by decide) rfl rfl rfl ?_
      refine dr_iload_n 33 hV dX4_tall_33 rfl ?_
      refine dr_cvp1 34 hV dz_lX4_151 dX4_tall_34 (by decide) (by decide) ⟨by decide, _, _, rfl, by decide, rfl⟩ (Nat.le_of_ble_eq_true rfl) (c_X0_endOf π _ _ y2 o2 hc) ?_
      rw [(y10 _ hc).2.2.1, (y10 _ hc).2.2.2, nI_add]
      refine dr_istore_n 37 hV dX4_tall_37 (by decide) ?_
      refine dr_aload_n 38 hV dX4_tall_38 rfl ?_
      refine dr_geta 39 hV dX4_tall_39 (by decide) (by decide) rfl rfl rfl ?_
      refine dr_iload_n 42 hV dX4_tall_42 rfl ?_
      refine dr_cvp1 43 hV dz_lX4_154 dX4_tall_43 (by decide) (by decide) ⟨by decide, _, _, rfl, by decide, rfl⟩ (Nat.le_of_ble_eq_true rfl) (c_X0_startOf π _ _ y2 o2 hc) ?_
      rw [(y10 _ hc).2.2.1]
      refine dr_istore 46 hV dX4_tall_46 (by decide) ?_
      refine dr_sub hV (ls2 := [(0, .inr (.inr 0)), (1, .inl (nI c)), (2, .inl (dz_sumI (fun q => if nI (sg_col s q) = nI c then sg_hp s (sg_fw s q) else 0) (sg_b s c))), (3, .inl (nI (sg_b s c + sg_h s c))), (4, .inl (nI (sg_b s c)))]) (by rw [ta_0 hO2 hc]; rfl) ?_
      exact loop (sg_b s c + sg_h s c + 1) (sg_b s c) (by omega) (by omega) (Nat.le_refl _)
    · have hbad : sg_no s ∨ ¬ (0 ≤ nI c ∧ nI c < nI (sg_c s)) := Or.inl (ql_no c22)
      refine dr_iconst (v := (-1)) 25 hV dX4_tall_25 (by decide) ?_
      exact dr_iret 26 hV dX4_tall_26 rfl (by first | rfl | exact dz_bn) (yq_i (by unfold q_tall; rw [dz_B1 hbad]) hYY)
