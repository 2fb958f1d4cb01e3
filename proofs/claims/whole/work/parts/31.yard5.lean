/-! the yard is told: not, drum, column -/
theorem not_y {s : dz_Sg} {I : dz_MI} {k e x y : Nat} {b : Bool} (hx1 : x < 1024) (hx2 : I 14 k = nI x) (hx3 : ∀ d, d < 10 → x.testBit d = sg_nt s k d) (h1 : y < 1024) (h2 : ∀ i, i < 10 → y.testBit i = if i = e then b else x.testBit i) {q : Nat} {f : Nat → Nat → Bool} (hf : ∀ d, f q d = if q = k ∧ d = e then b else sg_nt s q d) (y13 : ∃ x, x < 1024 ∧ I 14 q = nI x ∧ ∀ d, d < 10 → x.testBit d = sg_nt s q d) : ∃ x, x < 1024 ∧ dz_wi I 14 k (nI y) 14 q = nI x ∧ ∀ d, d < 10 → x.testBit d = f q d := by
  by_cases z : q = k
  · subst z
    refine ⟨y, h1, dz_wi_s _ _ _ _, fun d hd => ?_⟩
    rw [h2 d hd, hf d]
    by_cases w : d = e
    · simp [w]
    · simp [w, hx3 d hd]
  · obtain ⟨x2, a1, a2, a3⟩ := y13
    refine ⟨x2, a1, by rw [dz_wi_n _ _ (by omega)]; exact a2, fun d hd => ?_⟩
    rw [hf d, a3 d hd]; simp [z]
set_option maxRecDepth 100000 in
set_option maxHeartbeats 4000000 in
theorem c_X4_not (π : dz_Pl) {s : dz_Sg} (p d : Int32) (b : Bool) (I : dz_MI) (J : dz_MJ) (hO : dz_OK s) (hR : dz_RY s I) : dz_Cl π dz_Y 62 mX4_not 2 44 [.inr (.inr 0), .inl p, .inl d, .inl (dz_b (b = true))] I J (yd_S s (sn_not s p d b) (.inl (dz_bp (ok_not s p d b))) I J) := by
  refine dz_body (own := 4) dz_mX4_not rfl (Nat.le_of_ble_eq_true rfl) (fun V hV => ?_)
  have hO2 := hO
  have hR2 := hR
  obtain ⟨o1, o2, o3, o4, o5, o6, o7, o8, o9⟩ := hO
  obtain ⟨y1, y2, y3, y4, y5, y6, y7, y8, y9, y10, y11, y12, y13⟩ := hR
  refine dr_aload_n 0 hV dX4_not_0 rfl ?_
  refine dr_geta 1 hV dX4_not_1 (by decide) (by decide) rfl rfl rfl ?_
  refine dr_iload_n 4 hV dX4_not_4 rfl ?_
  refine dr_cvp1 5 hV dz_lX4_97 dX4_not_5 (by decide) (by decide) ⟨by decide, _, _, rfl, by decide, rfl⟩ (Nat.le_of_ble_eq_true rfl) (c_X0_hasPlace π _ _ _) ?_
  first | refine dr_ifb_eq (tgt := 35) 8 hV dX4_not_8 (by decide) (fun c8 => ?_) (fun c8 => ?_) | refine dr_if_eq (tgt := 35) 8 hV dX4_not_8 (by decide) (fun c8 => ?_) (fun c8 => ?_)
  · refine dr_iconst (v := nI 0) 35 hV dX4_not_35 (by decide) ?_
    exact dr_iret 36 hV dX4_not_36 rfl (by first | rfl | exact dz_bn) ⟨by rw [← dz_bpf (P := ok_not s p d b) (by unfold ok_not; rw [y3, y1] at *; grind)], by rw [sn_not, dz_B0 (by unfold ok_not; rw [y3, y1] at *; grind)]; exact hR2, rfl, fun _ _ _ _ => rfl, fun _ => rfl, Or.inr ⟨rfl, by rw [sn_not, dz_B0 (by unfold ok_not; rw [y3, y1] at *; grind)]; exact sg_eqp.rf s⟩⟩
  · refine dr_aload_n 11 hV dX4_not_11 rfl ?_
    refine dr_geta 12 hV dX4_not_12 (by decide) (by decide) rfl rfl rfl ?_
    refine dr_iload_n 15 hV dX4_not_15 rfl ?_
    refine dr_cvp1 16 hV dz_lX4_86 dX4_not_16 (by decide) (by decide) ⟨by decide, _, _, rfl, by decide, rfl⟩ (Nat.le_of_ble_eq_true rfl) (c_X1_has π _ _ _) ?_
    first | refine dr_ifb_eq (tgt := 35) 19 hV dX4_not_19 (by decide) (fun c19 => ?_) (fun c19 => ?_) | refine dr_if_eq (tgt := 35) 19 hV dX4_not_19 (by decide) (fun c19 => ?_) (fun c19 => ?_)
    · refine dr_iconst (v := nI 0) 35 hV dX4_not_35 (by decide) ?_
      exact dr_iret 36 hV dX4_not_36 rfl (by first | rfl | exact dz_bn) ⟨by rw [← dz_bpf (P := ok_not s p d b) (by unfold ok_not; rw [y3, y1] at *; grind)], by rw [sn_not, dz_B0 (by unfold ok_not; rw [y3, y1] at *; grind)]; exact hR2, rfl, fun _ _ _ _ => rfl, fun _ => rfl, Or.inr ⟨rfl, by rw [sn_not, dz_B0 (by unfold ok_not; rw [y3, y1] at *; grind)]; exact sg_eqp.rf s⟩⟩
    · obtain ⟨k, hk, rfl⟩ := dz_ofI y3 (by omega) c8
      obtain ⟨e, he, rfl⟩ := dz_ofI y1 (by omega) c19
      obtain ⟨x, x1, x2, x3⟩ := y13 k (by omega)
      refine dr_aload_n 22 hV dX4_not_22 rfl ?_
      refine dr_geta 23 hV dX4_not_23 (by decide) (by decide) rfl rfl rfl ?_
      refine dr_iload_n 26 hV dX4_not_26 rfl ?_
      refine dr_iload_n 27 hV dX4_not_27 rfl ?_
      refine dr_cvp2 28 hV dz_lX4_108 dX4_not_28 (by decide) (by decide) ⟨by decide, _, _, rfl, by decide, rfl⟩ (Nat.le_of_ble_eq_true rfl) (c_X3_isBarred π _ _ (by omega) x2 (by omega) (by omega)) ?_
      rw [x3 e (by omega)]
      refine dr_iload_n 31 hV dX4_not_31 rfl ?_
      refine dr_icmp_ne (tgt := 37) 32 hV dX4_not_32 (by decide) (fun c32 => ?_) (fun c32 => ?_)
      · have hok : ok_not s (nI k) (nI e) b := by unfold ok_not; rw [y3] at c8; rw [y1] at c19; rw [nI_clamp (by omega), nI_clamp (by omega)]; exact ⟨c8, c19, fun z => c32 (dz_bB.mpr z)⟩
        refine dr_aload_n 37 hV dX4_not_37 rfl ?_
        refine dr_geta 38 hV dX4_not_38 (by decide) (by decide) rfl rfl rfl ?_
        refine dr_iload_n 41 hV dX4_not_41 rfl ?_
        refine dr_iload_n 42 hV dX4_not_42 rfl ?_
        refine dr_iload_n 43 hV dX4_not_43 rfl ?_
        refine dr_cv3 44 hV dz_lX4_111 dX4_not_44 (by decide) (by decide) ⟨by decide, _, _, rfl, by decide, rfl⟩ (Nat.le_of_ble_eq_true rfl) (c_X3_bar π b _ _ (by omega) x2 x1 (by omega)) (fun r I2 J2 hf => ?_)
        obtain ⟨y, hy1, hy2, rfl, rfl, rfl⟩ := hf
        refine dr_aload_n 47 hV dX4_not_47 rfl ?_
        refine dr_iconst (v := nI 1) 48 hV dX4_not_48 (by decide) ?_
        refine dr_puti 49 hV dX4_not_49 (by decide) (by decide) rfl rfl rfl rfl rfl rfl ?_
        refine dr_iconst (v := nI 1) 52 hV dX4_not_52 (by decide) ?_
        exact dr_iret 53 hV dX4_not_53 rfl (by first | rfl | exact dz_bn) ⟨by rw [← dz_bpt (P := ok_not s (nI k) (nI e) b) hok], by rw [sn_not, dz_B1 hok]; exact ⟨(by (repeat rw [dz_wi_n _ _ (by omega)]); exact y1), (by (repeat rw [dz_wi_n _ _ (by omega)]); exact y2), (by (repeat rw [dz_wi_n _ _ (by omega)]); exact y3), (by (repeat rw [dz_wi_n _ _ (by omega)]); exact y4), (by (repeat rw [dz_wi_n _ _ (by omega)]); exact y5), (by (repeat rw [dz_wi_n _ _ (by omega)]); exact y6), (by (repeat rw [dz_wi_n _ _ (by omega)]); exact y7), (fun k hk => by (repeat rw [dz_wi_n _ _ (by omega)]); exact y8 k hk), (fun d w hd hw => by (repeat rw [dz_wi_n _ _ (by omega)]); exact y9 d w hd hw), (fun k hk => ⟨by (repeat rw [dz_wi_n _ _ (by omega)]); exact (y10 k hk).1, by (repeat rw [dz_wi_n _ _ (by omega)]); exact (y10 k hk).2.1, by (repeat rw [dz_wi_n _ _ (by omega)]); exact (y10 k hk).2.2.1, by (repeat rw [dz_wi_n _ _ (by omega)]); exact (y10 k hk).2.2.2⟩), (fun q hq => ⟨by (repeat rw [dz_wi_n _ _ (by omega)]); exact (y11 q hq).1, by (repeat rw [dz_wi_n _ _ (by omega)]); exact (y11 q hq).2⟩), (fun q hq hq2 => by (repeat rw [dz_wi_n _ _ (by omega)]); exact y12 q hq hq2), (fun q hq => by rw [dz_wi_n (c := 0) _ _ (by omega)]; exact not_y x1 x2 x3 hy1 hy2 (fun d => by show (if q = (nI k).toNatClampNeg ∧ d = (nI e).toNatClampNeg then b else sg_nt s q d) = _; rw [nI_clamp (by omega), nI_clamp (by omega)]) (y13 q hq))⟩, rfl, (fun c k h1 h2 => by (repeat rw [dz_wi_n _ _ (by omega)])), (fun k => by (repeat rw [dz_wi_n _ _ (by omega)])), Or.inl (dz_wi_s _ _ _ _)⟩
      · have hno : ¬ ok_not s (nI k) (nI e) b := by unfold ok_not; rw [nI_clamp (by omega), nI_clamp (by omega)]; exact fun z => z.2.2 (dz_bB.mp c32)
        refine dr_iconst (v := nI 0) 35 hV dX4_not_35 (by decide) ?_
        exact dr_iret 36 hV dX4_not_36 rfl (by first | rfl | exact dz_bn) ⟨by rw [← dz_bpf (P := ok_not s (nI k) (nI e) b) (hno)], by rw [sn_not, dz_B0 (hno)]; exact hR2, rfl, fun _ _ _ _ => rfl, fun _ => rfl, Or.inr ⟨rfl, by rw [sn_not, dz_B0 (hno)]; exact sg_eqp.rf s⟩⟩
theorem dr_copy {π : dz_Pl} {Λ : Nat → dz_Ds} {N own : Nat} {μ : dz_Mu} {F Lc : Nat} {post : Option dz_AV → dz_MI → dz_MJ → Prop} {V : dz_Vt} {I : dz_MI} {J : dz_MJ} {ls : dz_LS} {st : List dz_AV} (pc : Nat) (hV : dz_Clo π Λ N own μ F Lc post V) {k a b m L0 b0 L1 b1 : Nat} (d : decode μ.2.1 pc = .ok (.invokestatic k, 3)) (hw : Cond.methodLink (dz_R own) k arraycopyName ∈ dz_WS) (hF : 1 ≤ F) (hL : 40 ≤ Lc) (hs : dz_wd st ≤ 8) (ha : a < N) (hb : b < N) (hLa : Λ a = .inr (0, L0, b0)) (hLb : Λ b = .inr (0, L1, b1)) (hm : m < 2 ^ 31) (h0 : m ≤ L0) (h1 : m ≤ L1) (kk : V (pc + 3) (dz_cp I a b 0 0 m) J ls st) : V pc I J ls (.inl (nI m) :: .inl (nI 0) :: .inr (.inr b) :: .inl (nI 0) :: .inr (.inr a) :: st) := by
  have hc0 : (nI 0).toNatClampNeg = 0 := nI_clamp (by decide)
  have hcm : (nI m).toNatClampNeg = m := nI_clamp hm
  refine hV.1 d ⟨rfl, hF, hL, Or.inr (Or.inr (Or.inr ⟨hw, a, b, nI 0, nI 0, nI m, st, L0, b0, L1, b1, rfl, hs, ha, hb, hLa, hLb, by decide, by decide, ?_, by rw [hc0, hcm]; omega, by rw [hc0, hcm]; omega, by rw [hc0, hcm]; exact kk⟩))⟩
  rw [fa_lt, nI_toInt hm]; simp
def tk_P (n : Nat) (a b c d e : Int32) (I : dz_MI) (J : dz_MJ) : Option dz_AV → dz_MI → dz_MJ → Prop := fun r I2 J2 => r = some (.inl (nI n)) ∧ J2 = J ∧ I2 1 2 = nI 0 ∧ I2 1 3 = nI (n + 1) ∧ (∀ w, w < 9 → I2 (24 + n) w = if w < 4 then I 6 w else if w = 4 then a else if w = 5 then b else if w = 6 then c else if w = 7 then d else e) ∧ (∀ w, w < 4 → I2 6 w = I 6 w) ∧ ∀ x k, ¬ x = 1 → ¬ x = 6 → ¬ x = 24 + n → I2 x k = I x k
theorem tk_m {n : Nat} {a b c d e x y : Int32} {I : dz_MI} {J : dz_MJ} (hx : x = nI 0) (hy : y = nI (n + 1)) : tk_P n a b c d e I J (some (.inl (nI n))) (dz_wi (dz_wi (dz_cp (dz_wi (dz_wi (dz_wi (dz_wi (dz_wi I 6 4 a) 6 5 b) 6 6 c) 6 7 d) 6 8 e) 6 (24 + n) 0 0 9) 1 2 x) 1 3 y) J := by
  have h0 : ∀ c2 k, ¬ c2 = 1 → ¬ c2 = 24 + n → (dz_wi (dz_wi (dz_cp (dz_wi (dz_wi (dz_wi (dz_wi (dz_wi I 6 4 a) 6 5 b) 6 6 c) 6 7 d) 6 8 e) 6 (24 + n) 0 0 9) 1 2 x) 1 3 y) c2 k = (dz_wi (dz_wi (dz_wi (dz_wi (dz_wi I 6 4 a) 6 5 b) 6 6 c) 6 7 d) 6 8 e) c2 k := fun c2 k h1 h2 => by
    rw [dz_wi_n _ _ (by omega), dz_wi_n _ _ (by omega)]
    simp only [dz_cp, if_neg h2]
  refine ⟨rfl, rfl, by rw [dz_wi_n _ _ (by omega), dz_wi_s]; exact hx, by rw [dz_wi_s]; exact hy, fun w hw => ?_, fun w hw => ?_, fun c2 k h1 h2 h3 => ?_⟩
  · rw [dz_wi_n _ _ (by omega), dz_wi_n _ _ (by omega)]
    simp only [dz_cp, if_true, va_cpy]
    rw [if_pos (by omega)]
    rcases (show w = 0 ∨ w = 1 ∨ w = 2 ∨ w = 3 ∨ w = 4 ∨ w = 5 ∨ w = 6 ∨ w = 7 ∨ w = 8 by omega) with rfl | rfl | rfl | rfl | rfl | rfl | rfl | rfl | rfl <;> simp [dz_wi]
  · rw [h0 6 w (by omega) (by omega)]
    (repeat rw [dz_wi_n _ _ (by omega)])
  · rw [h0 c2 k h1 h3]
    (repeat rw [dz_wi_n _ _ (by omega)])
set_option maxRecDepth 100000 in
set_option maxHeartbeats 4000000 in
theorem c_X1_take (π : dz_Pl) {n : Nat} (a b c d e : Int32) (I : dz_MI) (J : dz_MJ) (hn : I 1 3 = nI n) (hn2 : n < 10) (hm : ¬ I 1 2 = 0) : dz_Cl π dz_Y 62 mX1_take 1 40 [.inr (.inr 1), .inl a, .inl b, .inl c, .inl d, .inl e] I J (tk_P n a b c d e I J) := by
  refine dz_body (own := 1) dz_mX1_take rfl (Nat.le_of_ble_eq_true rfl) (fun V hV => ?_)
  refine dr_aload_n 0 hV dX1_take_0 rfl ?_
  refine dr_cvp0 1 hV dz_lX1_32 dX1_take_1 (by decide) (by decide) ⟨by decide, _, _, rfl, by decide, rfl⟩ (Nat.le_of_ble_eq_true rfl) (c_X1_canTakeOne π  _ _) ?_
  first | refine dr_ifb_ne (tgt := 9) 4 hV dX1_take_4 (by decide) (fun c4 => ?_) (fun c4 => ?_) | refine dr_if_ne (tgt := 9) 4 hV dX1_take_4 (by decide) (fun c4 => ?_) (fun c4 => ?_)
  · refine dr_aload_n 9 hV dX1_take_9 rfl ?_
    refine dr_geta 10 hV dX1_take_10 (by decide) (by decide) rfl rfl rfl ?_
    refine dr_iconst (v := nI 4) 13 hV dX1_take_13 (by decide) ?_
    refine dr_iload_n 14 hV dX1_take_14 rfl ?_
    refine dr_iast 15 hV dX1_take_15 (by decide) rfl rfl (by omega) (by decide) ?_
    refine dr_aload_n 16 hV dX1_take_16 rfl ?_
    refine dr_geta 17 hV dX1_take_17 (by decide) (by decide) rfl rfl rfl ?_
    refine dr_iconst (v := nI 5) 20 hV dX1_take_20 (by decide) ?_
    refine dr_iload_n 21 hV dX1_take_21 rfl ?_
    refine dr_iast 22 hV dX1_take_22 (by decide) rfl rfl (by omega) (by decide) ?_
    refine dr_aload_n 23 hV dX1_take_23 rfl ?_
    refine dr_geta 24 hV dX1_take_24 (by decide) (by decide) rfl rfl rfl ?_
    refine dr_bipush (v := nI 6) 27 hV dX1_take_27 (by decide) ?_
    refine dr_iload_n 29 hV dX1_take_29 rfl ?_
    refine dr_iast 30 hV dX1_take_30 (by decide) rfl rfl (by omega) (by decide) ?_
    refine dr_aload_n 31 hV dX1_take_31 rfl ?_
    refine dr_geta 32 hV dX1_take_32 (by decide) (by decide) rfl rfl rfl ?_
    refine dr_bipush (v := nI 7) 35 hV dX1_take_35 (by decide) ?_
    refine dr_iload 37 hV dX1_take_37 rfl ?_
    refine dr_iast 39 hV dX1_take_39 (by decide) rfl rfl (by omega) (by decide) ?_
    refine dr_aload_n 40 hV dX1_take_40 rfl ?_
    refine dr_geta 41 hV dX1_take_41 (by decide) (by decide) rfl rfl rfl ?_
    refine dr_bipush (v := nI 8) 44 hV dX1_take_44 (by decide) ?_
    refine dr_iload 46 hV dX1_take_46 rfl ?_
    refine dr_iast 48 hV dX1_take_48 (by decide) rfl rfl (by omega) (by decide) ?_
    refine dr_aload_n 49 hV dX1_take_49 rfl ?_
    refine dr_geta 50 hV dX1_take_50 (by decide) (by decide) rfl rfl rfl ?_
    refine dr_iconst (v := nI 0) 53 hV dX1_take_53 (by decide) ?_
    refine dr_aload_n 54 hV dX1_take_54 rfl ?_
    refine dr_geta 55 hV dX1_take_55 (by decide) (by decide) rfl rfl rfl ?_
    refine dr_aload_n 58 hV dX1_take_58 rfl ?_
    refine dr_geti (v := nI n) 59 hV dX1_take_59 (by decide) (by decide) rfl rfl rfl (by (repeat rw [dz_wi_n _ _ (by omega)]); exact hn) ?_
    refine dr_aaldi 62 hV dX1_take_62 (by decide) rfl rfl (by omega) (by decide) ?_
    refine dr_iconst (v := nI 0) 63 hV dX1_take_63 (by decide) ?_
    refine dr_bipush (v := nI 9) 64 hV dX1_take_64 (by decide) ?_
    refine dr_copy 66 hV dX1_take_66 dz_j1_36 (by decide) (by decide) (Nat.le_of_ble_eq_true rfl) (by decide) (by omega) rfl (dz_Y_f hn2) (by decide) (by decide) (by decide) ?_
    refine dr_aload_n 69 hV dX1_take_69 rfl ?_
    refine dr_iconst (v := nI 0) 70 hV dX1_take_70 (by decide) ?_
    refine dr_puti 71 hV dX1_take_71 (by decide) (by decide) rfl rfl rfl rfl rfl rfl ?_
    refine dr_aload_n 74 hV dX1_take_74 rfl ?_
    refine dr_dup 75 hV dX1_take_75 rfl ?_
    refine dr_geti (v := nI n) 76 hV dX1_take_76 (by decide) (by decide) rfl rfl rfl (by rw [dz_wi_n _ _ (by omega)]; simp only [dz_cp, show ¬ (1 = 24 + n) by omega, if_false]; (repeat rw [dz_wi_n _ _ (by omega)]); exact hn) ?_
    refine dr_iconst (v := nI 1) 79 hV dX1_take_79 (by decide) ?_
    refine dr_iadd (z := nI (n + 1)) 80 hV dX1_take_80 (nI_1 _) ?_
    refine dr_puti 81 hV dX1_take_81 (by decide) (by decide) rfl rfl rfl rfl rfl rfl ?_
    refine dr_aload_n 84 hV dX1_take_84 rfl ?_
    refine dr_geti (v := nI (n + 1)) 85 hV dX1_take_85 (by decide) (by decide) rfl rfl rfl (dz_wi_s _ _ _ _) ?_
    refine dr_iconst (v := nI 1) 88 hV dX1_take_88 (by decide) ?_
    refine dr_isub (z := nI n) 89 hV dX1_take_89 (by rw [pk_sub (by omega)]; rfl) ?_
    exact dr_iret 90 hV dX1_take_90 rfl (by first | rfl | exact dz_bn) (tk_m rfl rfl)
  · exact absurd ⟨hm, by rw [hn]; exact (nI_ltI (by omega) (by decide)).mpr hn2⟩ c4
theorem drum_S {s : dz_Sg} {a b c d e : Int32} {I I2 : dz_MI} {J J2 : dz_MJ} {r : Option dz_AV} (hok : ok_drum s a b c d e) (hR : dz_RY s I) (hf : tk_P (sg_n s) a b c d e (dz_wi I 0 7 (nI 1)) J r I2 J2) : yd_S s (sn_drum s a b c d e) (.inl (a_drum s a b c d e)) I J r I2 J2 := by
  obtain ⟨y1, y2, y3, y4, y5, y6, y7, y8, y9, y10, y11, y12, y13⟩ := hR
  obtain ⟨f1, f2, f3, f4, f5, f6, f7⟩ := hf
  have hn := hok.2.1
  have g : ∀ x k, ¬ x = 1 → ¬ x = 6 → ¬ x = 24 + sg_n s → ¬ (x = 0 ∧ k = 7) → I2 x k = I x k := fun x k h1 h2 h3 h4 => by
    rw [f7 x k h1 h2 h3, dz_wi_n _ _ h4]
  have h6 : ∀ w, dz_wi I 0 7 (nI 1) 6 w = I 6 w := fun w => dz_wi_n _ _ (by omega)
  refine ⟨by rw [f1, a_drum, dz_B1 hok], ?_, f2, fun c k h1 h2 => by rw [g c k (by omega) (by omega) (by omega) (by omega)], fun k => by rw [g 4 k (by omega) (by omega) (by omega) (by omega)], Or.inl (by rw [f7 0 7 (by omega) (by omega) (by omega), dz_wi_s])⟩
  rw [sn_drum, dz_B1 hok]
  refine ⟨f4, by rw [g 2 6 (by omega) (by omega) (by omega) (by omega)]; exact y2, by rw [g 2 7 (by omega) (by omega) (by omega) (by omega)]; exact y3, by rw [g 0 4 (by omega) (by omega) (by omega) (by omega)]; exact y4, by rw [g 0 5 (by omega) (by omega) (by omega) (by omega)]; exact y5, by rw [g 0 6 (by omega) (by omega) (by omega) (by omega)]; exact y6, by rw [f3]; rfl, fun k hk => by rw [f6 k hk, h6]; exact y8 k hk, fun k w hk hw => ?_, fun k hk => ?_, fun q hq => ?_, fun q hq hq2 => by rw [g 13 q (by omega) (by omega) (by omega) (by omega)]; exact y12 q hq hq2, fun q hq => by rw [g 14 q (by omega) (by omega) (by omega) (by omega)]; exact y13 q hq⟩
  · have hk2 : k < sg_n s + 1 := hk
    show _ = (if k = sg_n s then sg_row s a b c d e w else sg_f s k w)
    by_cases z : k = sg_n s
    · subst z
      rw [if_pos rfl, f5 w hw]
      unfold sg_row
      by_cases w4 : w < 4
      · rw [if_pos w4, if_pos w4, h6]; exact y8 w w4
      · rw [if_neg w4, if_neg w4]
    · rw [if_neg z, g _ _ (by omega) (by omega) (by omega) (by omega)]; exact y9 k w (by omega) hw
  · rw [g 9 k (by omega) (by omega) (by omega) (by omega), g 10 k (by omega) (by omega) (by omega) (by omega), g 7 k (by omega) (by omega) (by omega) (by omega), g 8 k (by omega) (by omega) (by omega) (by omega)]; exact y10 k hk
  · rw [g 11 q (by omega) (by omega) (by omega) (by omega), g 13 q (by omega) (by omega) (by omega) (by omega)]; exact y11 q hq
theorem dz_me {b : Bool} {x : Int32} (h : x = dz_b (b = true)) (hx : ¬ x = 0) : b = true := by
  subst h
  cases b with
  | true => rfl
  | false => exact absurd (by decide) hx
theorem dz_men {b : Bool} {x : Int32} (h : x = dz_b (b = true)) (hb : b = true) : ¬ x = 0 := by
  subst h; subst hb; decide
set_option maxRecDepth 100000 in
set_option maxHeartbeats 4000000 in
theorem c_X4_drum (π : dz_Pl) {s : dz_Sg} (a b c d e : Int32) (I : dz_MI) (J : dz_MJ) (hO : dz_OK s) (hR : dz_RY s I) : dz_Cl π dz_Y 62 mX4_drum 2 65 [.inr (.inr 0), .inl a, .inl b, .inl c, .inl d, .inl e] I J (yd_S s (sn_drum s a b c d e) (.inl (a_drum s a b c d e)) I J) := by
  refine dz_body (own := 4) dz_mX4_drum rfl (Nat.le_of_ble_eq_true rfl) (fun V hV => ?_)
  have hO2 := hO
  have hR2 := hR
  obtain ⟨o1, o2, o3, o4, o5, o6, o7, o8, o9⟩ := hO
  obtain ⟨y1, y2, y3, y4, y5, y6, y7, y8, y9, y10, y11, y12, y13⟩ := hR
  refine dr_iload_n 0 hV dX4_drum_0 rfl ?_
  refine dr_iconst (v := nI 0) 1 hV dX4_drum_1 (by decide) ?_
  refine dr_bipush (v := nI 40) 2 hV dX4_drum_2 (by decide) ?_
  refine dr_csp3 4 hV (Or.inl dz_lX4_55) dX4_drum_4 (by decide) (by decide) (Nat.le_of_ble_eq_true rfl) (c_X4_isWithin π _ _ _ _ _ _ _) ?_
  first | refine dr_ifb_eq (tgt := 57) 7 hV dX4_drum_7 (by decide) (fun c7 => ?_) (fun c7 => ?_) | refine dr_if_eq (tgt := 57) 7 hV dX4_drum_7 (by decide) (fun c7 => ?_) (fun c7 => ?_)
  · have hno : ¬ ok_drum s a b c d e := by unfold ok_drum; grind
    refine dr_iconst (v := (-1)) 57 hV dX4_drum_57 (by decide) ?_
    exact dr_iret 58 hV dX4_drum_58 rfl (by first | rfl | exact dz_bn) ⟨by rw [a_drum, dz_B0 hno], by rw [sn_drum, dz_B0 hno]; exact hR2, rfl, fun _ _ _ _ => rfl, fun _ => rfl, Or.inr ⟨rfl, by rw [sn_drum, dz_B0 hno]; exact sg_eqp.rf s⟩⟩
  · refine dr_iload_n 10 hV dX4_drum_10 rfl ?_
    refine dr_csp1 11 hV (Or.inl dz_lX4_63) dX4_drum_11 (by decide) (by decide) (Nat.le_of_ble_eq_true rfl) (c_X4_isHoles π _ _ _ _ _) ?_
    first | refine dr_ifb_eq (tgt := 57) 14 hV dX4_drum_14 (by decide) (fun c14 => ?_) (fun c14 => ?_) | refine dr_if_eq (tgt := 57) 14 hV dX4_drum_14 (by decide) (fun c14 => ?_) (fun c14 => ?_)
    · have hno : ¬ ok_drum s a b c d e := by unfold ok_drum; grind
      refine dr_iconst (v := (-1)) 57 hV dX4_drum_57 (by decide) ?_
      exact dr_iret 58 hV dX4_drum_58 rfl (by first | rfl | exact dz_bn) ⟨by rw [a_drum, dz_B0 hno], by rw [sn_drum, dz_B0 hno]; exact hR2, rfl, fun _ _ _ _ => rfl, fun _ => rfl, Or.inr ⟨rfl, by rw [sn_drum, dz_B0 hno]; exact sg_eqp.rf s⟩⟩
    · refine dr_iload_n 17 hV dX4_drum_17 rfl ?_
      refine dr_csp1 18 hV (Or.inl dz_lX4_63) dX4_drum_18 (by decide) (by decide) (Nat.le_of_ble_eq_true rfl) (c_X4_isHoles π _ _ _ _ _) ?_
      first | refine dr_ifb_eq (tgt := 57) 21 hV dX4_drum_21 (by decide) (fun c21 => ?_) (fun c21 => ?_) | refine dr_if_eq (tgt := 57) 21 hV dX4_drum_21 (by decide) (fun c21 => ?_) (fun c21 => ?_)
      · have hno : ¬ ok_drum s a b c d e := by unfold ok_drum; grind
        refine dr_iconst (v := (-1)) 57 hV dX4_drum_57 (by decide) ?_
        exact dr_iret 58 hV dX4_drum_58 rfl (by first | rfl | exact dz_bn) ⟨by rw [a_drum, dz_B0 hno], by rw [sn_drum, dz_B0 hno]; exact hR2, rfl, fun _ _ _ _ => rfl, fun _ => rfl, Or.inr ⟨rfl, by rw [sn_drum, dz_B0 hno]; exact sg_eqp.rf s⟩⟩
      · refine dr_iload 24 hV dX4_drum_24 rfl ?_
        refine dr_iconst (v := nI 1) 26 hV dX4_drum_26 (by decide) ?_
        refine dr_sipush (v := nI 10000) 27 hV dX4_drum_27 (by decide) ?_
        refine dr_csp3 30 hV (Or.inl dz_lX4_55) dX4_drum_30 (by decide) (by decide) (Nat.le_of_ble_eq_true rfl) (c_X4_isWithin π _ _ _ _ _ _ _) ?_
        first | refine dr_ifb_eq (tgt := 57) 33 hV dX4_drum_33 (by decide) (fun c33 => ?_) (fun c33 => ?_) | refine dr_if_eq (tgt := 57) 33 hV dX4_drum_33 (by decide) (fun c33 => ?_) (fun c33 => ?_)
        · have hno : ¬ ok_drum s a b c d e := by unfold ok_drum; grind
          refine dr_iconst (v := (-1)) 57 hV dX4_drum_57 (by decide) ?_
          exact dr_iret 58 hV dX4_drum_58 rfl (by first | rfl | exact dz_bn) ⟨by rw [a_drum, dz_B0 hno], by rw [sn_drum, dz_B0 hno]; exact hR2, rfl, fun _ _ _ _ => rfl, fun _ => rfl, Or.inr ⟨rfl, by rw [sn_drum, dz_B0 hno]; exact sg_eqp.rf s⟩⟩
        · refine dr_iload 36 hV dX4_drum_36 rfl ?_
          refine dr_iconst (v := nI 0) 38 hV dX4_drum_38 (by decide) ?_
          refine dr_ldc 39 hV dX4_drum_39 dz_kX4_66 ?_
          refine dr_csp3 41 hV (Or.inl dz_lX4_55) dX4_drum_41 (by decide) (by decide) (Nat.le_of_ble_eq_true rfl) (c_X4_isWithin π _ _ _ _ _ _ _) ?_
          first | refine dr_ifb_eq (tgt := 57) 44 hV dX4_drum_44 (by decide) (fun c44 => ?_) (fun c44 => ?_) | refine dr_if_eq (tgt := 57) 44 hV dX4_drum_44 (by decide) (fun c44 => ?_) (fun c44 => ?_)
          · have hno : ¬ ok_drum s a b c d e := by unfold ok_drum; grind
            refine dr_iconst (v := (-1)) 57 hV dX4_drum_57 (by decide) ?_
            exact dr_iret 58 hV dX4_drum_58 rfl (by first | rfl | exact dz_bn) ⟨by rw [a_drum, dz_B0 hno], by rw [sn_drum, dz_B0 hno]; exact hR2, rfl, fun _ _ _ _ => rfl, fun _ => rfl, Or.inr ⟨rfl, by rw [sn_drum, dz_B0 hno]; exact sg_eqp.rf s⟩⟩
          · refine dr_aload_n 47 hV dX4_drum_47 rfl ?_
            refine dr_geta 48 hV dX4_drum_48 (by decide) (by decide) rfl rfl rfl ?_
            refine dr_cvp0 51 hV dz_lX4_67 dX4_drum_51 (by decide) (by decide) ⟨by decide, _, _, rfl, by decide, rfl⟩ (Nat.le_of_ble_eq_true rfl) (c_X1_canTakeOne π  _ _) ?_
            first | refine dr_ifb_ne (tgt := 59) 54 hV dX4_drum_54 (by decide) (fun c54 => ?_) (fun c54 => ?_) | refine dr_if_ne (tgt := 59) 54 hV dX4_drum_54 (by decide) (fun c54 => ?_) (fun c54 => ?_)
            · have hok : ok_drum s a b c d e := ⟨dz_me y7 c54.1, (nI_ltI (by omega) (by decide)).mp (by rw [← y1]; exact c54.2), c7, c14, c21, c33, c44⟩
              refine dr_aload_n 59 hV dX4_drum_59 rfl ?_
              refine dr_iconst (v := nI 1) 60 hV dX4_drum_60 (by decide) ?_
              refine dr_puti 61 hV dX4_drum_61 (by decide) (by decide) rfl rfl rfl rfl rfl rfl ?_
              refine dr_aload_n 64 hV dX4_drum_64 rfl ?_
              refine dr_geta 65 hV dX4_drum_65 (by decide) (by decide) rfl rfl rfl ?_
              refine dr_iload_n 68 hV dX4_drum_68 rfl ?_
              refine dr_iload_n 69 hV dX4_drum_69 rfl ?_
              refine dr_iload_n 70 hV dX4_drum_70 rfl ?_
              refine dr_iload 71 hV dX4_drum_71 rfl ?_
              refine dr_iload 73 hV dX4_drum_73 rfl ?_
              refine dr_cv5 75 hV dz_lX4_71 dX4_drum_75 (by decide) (by decide) ⟨by decide, _, _, rfl, by decide, rfl⟩ (Nat.le_of_ble_eq_true rfl) (c_X1_take π a b c d e _ _ (by (repeat rw [dz_wi_n _ _ (by omega)]); exact y1) hok.2.1 (by (repeat rw [dz_wi_n _ _ (by omega)]); exact c54.1)) (fun r I2 J2 hf => ?_)
              have hr := hf.1
              subst hr
              exact dr_iret 78 hV dX4_drum_78 rfl (by first | rfl | exact dz_bn) (drum_S hok hR2 hf)
            · have hno : ¬ ok_drum s a b c d e := fun z => c54 ⟨dz_men y7 z.1, by rw [y1]; exact (nI_ltI (by omega) (by decide)).mpr z.2.1⟩
              refine dr_iconst (v := (-1)) 57 hV dX4_drum_57 (by decide) ?_
              exact dr_iret 58 hV dX4_drum_58 rfl (by first | rfl | exact dz_bn) ⟨by rw [a_drum, dz_B0 hno], by rw [sn_drum, dz_B0 hno]; exact hR2, rfl, fun _ _ _ _ => rfl, fun _ => rfl, Or.inr ⟨rfl, by rw [sn_drum, dz_B0 hno]; exact sg_eqp.rf s⟩⟩
