/-! the yard: the paper drawn; its questions -/
theorem dz_RY.fr {s : dz_Sg} {I I2 : dz_MI} (hn : sg_n s ≤ 10) (h : dz_RY s I) (hF : ∀ a k, (a < 15 ∨ (24 ≤ a ∧ a < 34)) → ¬ a = 4 → ¬ (a = 0 ∧ k = 7) → I2 a k = I a k) : dz_RY s I2 := by
  obtain ⟨y1, y2, y3, y4, y5, y6, y7, y8, y9, y10, y11, y12, y13⟩ := h
  refine ⟨by rw [hF _ _ (by omega) (by omega) (by omega)]; exact y1, by rw [hF _ _ (by omega) (by omega) (by omega)]; exact y2, by rw [hF _ _ (by omega) (by omega) (by omega)]; exact y3, by rw [hF _ _ (by omega) (by omega) (by omega)]; exact y4, by rw [hF _ _ (by omega) (by omega) (by omega)]; exact y5, by rw [hF _ _ (by omega) (by omega) (by omega)]; exact y6, by rw [hF _ _ (by omega) (by omega) (by omega)]; exact y7, fun k hk => by rw [hF _ _ (by omega) (by omega) (by omega)]; exact y8 k hk, fun d w hd hw => by rw [hF _ _ (by omega) (by omega) (by omega)]; exact y9 d w hd hw, fun k hk => ?_, fun q hq => ?_, fun q hq hq2 => by rw [hF _ _ (by omega) (by omega) (by omega)]; exact y12 q hq hq2, fun q hq => by rw [hF _ _ (by omega) (by omega) (by omega)]; exact y13 q hq⟩
  · rw [hF 9 _ (by omega) (by omega) (by omega), hF 10 _ (by omega) (by omega) (by omega), hF 7 _ (by omega) (by omega) (by omega), hF 8 _ (by omega) (by omega) (by omega)]; exact y10 k hk
  · rw [hF 11 _ (by omega) (by omega) (by omega), hF 13 _ (by omega) (by omega) (by omega)]; exact y11 q hq
/-- a yard between two calls -/
noncomputable def YI (s : dz_Sg) (I : dz_MI) (J : dz_MJ) : Prop := dz_RY s I ∧ CL I J ∧ (I 0 7 = nI 1 ∨ (I 0 7 = nI 0 ∧ PD s I J))
noncomputable def dp_P (s : dz_Sg) : Option dz_AV → dz_MI → dz_MJ → Prop := fun r I2 J2 => r = none ∧ dz_RY s I2 ∧ CL I2 J2 ∧ I2 0 7 = nI 0 ∧ PD s I2 J2
theorem dp_Y {s : dz_Sg} {r : Option dz_AV} {I : dz_MI} {J : dz_MJ} (h : dp_P s r I J) : YI s I J := ⟨h.2.1, h.2.2.1, Or.inr ⟨h.2.2.2.1, h.2.2.2.2⟩⟩
theorem dp_ly {s : dz_Sg} {I : dz_MI} {q : Nat} (hq : q < sg_n s) (y9 : ∀ d w, d < sg_n s → w < 9 → I (24 + d) w = sg_f s d w) : dz_bits (fun u => decide (¬ dz_tP (fun d w => I (24 + d) w) (sg_tol s) u q = -1)) (sg_n s) = dz_bits (fun u => decide (¬ dz_tP (sg_f s) (sg_tol s) u q = -1)) (sg_n s) := dz_bits_cong (fun u hu => by rw [dz_tP_cong (g := sg_f s) (fun w hw => y9 u w hu hw) (fun w hw => y9 q w hq hw)])
def dp_A (s : dz_Sg) (I1 I2 : dz_MI) (d : Nat) : Prop := (∀ l, l < d → I2 17 l = nI (pa_ov s l)) ∧ (∀ l, d ≤ l → l < 11 → I2 17 l = nI 2047) ∧ ∀ a k, ¬ a = 17 → I2 a k = I1 a k
theorem dp_A.s {s : dz_Sg} {I1 I2 : dz_MI} {d : Nat} (hd : d < sg_n s) (h : dp_A s I1 I2 d) : dp_A s I1 (dz_wi I2 17 d (nI (dz_bits (fun u => decide (¬ dz_tP (sg_f s) (sg_tol s) u d = -1)) (sg_n s) ||| 1024))) (d + 1) := by
  refine ⟨fun l hl => ?_, fun l h1 h2 => by rw [dz_wi_n _ _ (by omega)]; exact h.2.1 l (by omega) h2, fun a k ha => by rw [dz_wi_n _ _ (by omega)]; exact h.2.2 a k ha⟩
  by_cases e : l = d
  · subst e; rw [dz_wi_s]; unfold pa_ov; rw [if_pos hd]
  · rw [dz_wi_n _ _ (by omega)]; exact h.1 l (by omega)
noncomputable def dp_B (s : dz_Sg) (I2 I3 : dz_MI) (q : Nat) : Prop := (∀ y, y < q → I3 15 y = nI (sg_it s y) ∧ I3 16 y = dz_bp (sg_head s y)) ∧ ∀ a k, ¬ a = 15 → ¬ a = 16 → I3 a k = I2 a k
theorem dp_B.s {s : dz_Sg} {I2 I3 : dz_MI} {q : Nat} (h : dp_B s I2 I3 q) : dp_B s I2 (dz_wi (dz_wi I3 15 q (nI (sg_it s q))) 16 q (dz_bp (sg_head s q))) (q + 1) := by
  refine ⟨fun y hy => ?_, fun a k ha hb => by rw [dz_wi_n _ _ (by omega), dz_wi_n _ _ (by omega)]; exact h.2 a k ha hb⟩
  by_cases e : y = q
  · subst e; exact ⟨by rw [dz_wi_n _ _ (by omega), dz_wi_s], dz_wi_s _ _ _ _⟩
  · rw [dz_wi_n (a := 15) _ _ (by omega), dz_wi_n (a := 15) _ _ (by omega), dz_wi_n (a := 16) _ _ (by omega), dz_wi_n (a := 16) _ _ (by omega)]; exact h.1 y (by omega)
theorem rw_0 {s : dz_Sg} {I : dz_MI} {J : dz_MJ} (hO : dz_OK s) (hS : SU s I) (hM : PM ps_0 I J) : rw_I s 0 0 I J := by
  have h8 := hO.2.2.1
  have hg : ∀ f m, pa_gk s 0 f m = 0 := fun f m => by unfold pa_gk; rw [if_neg (by omega)]
  refine ⟨hS, ps_0, fun _ _ => 0, hM, fun x hx => absurd hx (by omega), fun x _ hx => ?_, fun x _ _ => ⟨rfl, fun _ => rfl⟩⟩
  refine ⟨⟨fun i hi => absurd hi (Nat.not_lt_zero _), fun i j hi => absurd hi (Nat.not_lt_zero _), fun m => ⟨fun z => absurd z (Nat.lt_irrefl 0), fun ⟨i, hi, _⟩ => absurd hi (Nat.not_lt_zero _)⟩⟩, rfl, fun m => (hg x m).symm, fun j hj => ?_⟩
  have e : j = 0 := by omega
  subst e
  exact ⟨hS.2.2.2 x (by omega), Nat.le_refl _, fun m => ⟨fun z => by rw [hg] at z; omega, fun ⟨i, hi, _⟩ => absurd hi (Nat.not_lt_zero _)⟩⟩
theorem CL.w {I : dz_MI} {J : dz_MJ} {a k : Nat} {v : Int32} (h : CL I J) (ha : ¬ a = 22) (hb : ¬ (43 ≤ a ∧ a < 52)) (hc : ¬ a = 52) : CL (dz_wi I a k v) J := by
  obtain ⟨P, h1, h2, h3, h4⟩ := h
  exact ⟨P, h1.w ha hb, h2, h3, fun f hf => by rw [dz_wi_n _ _ (by omega)]; exact h4 f hf⟩
theorem PD.fr {s : dz_Sg} {I I2 : dz_MI} {J J2 : dz_MJ} (h : PD s I J) (hI : ∀ a k, a = 4 ∨ a = 18 ∨ a = 19 → I2 a k = I a k) (hJ : J2 4 11 = J 4 11) : PD s I2 J2 := by
  obtain ⟨h1, h2, h3, h4⟩ := h
  exact ⟨by rw [hI _ _ (by omega)]; exact h1, by rw [hI _ _ (by omega)]; exact h2, by rw [hJ]; exact h3, fun q hq => ⟨by rw [hI _ _ (by omega)]; exact (h4 q hq).1, by rw [hI _ _ (by omega)]; exact (h4 q hq).2⟩⟩
theorem PD.w {s : dz_Sg} {I : dz_MI} {J : dz_MJ} {a k : Nat} {v : Int32} (h : PD s I J) (ha : ¬ a = 4) (hb : ¬ a = 18) (hc : ¬ a = 19) : PD s (dz_wi I a k v) J := h.fr (fun x y z => dz_wi_n _ _ (by omega)) rfl
set_option maxRecDepth 100000 in
set_option maxHeartbeats 4000000 in
theorem c_X4_drawPaper (π : dz_Pl) {s : dz_Sg} (I : dz_MI) (J : dz_MJ) (hO : dz_OK s) (hY : YI s I J) : dz_Cl π dz_Y 62 mX4_drawPaper 5 112 [.inr (.inr 0)] I J (dp_P s) := by
  refine dz_body (own := 4) dz_mX4_drawPaper rfl (Nat.le_of_ble_eq_true rfl) (fun V hV => ?_)
  have hO2 := hO
  obtain ⟨o1, o2, o3, o4, o5, o6, o7, o8, o9⟩ := hO
  obtain ⟨hR, hC, hst⟩ := hY
  obtain ⟨y1, y2, y3, -⟩ := id hR
  have loopB : ∀ (I2 : dz_MI) (J1 : dz_MJ), dz_RY s I2 → PM ps_0 I2 J1 → I2 4 9 = nI (sg_p s) → (∀ l, l < 11 → I2 17 l = nI (pa_ov s l)) → (∀ f, f < 9 → I2 52 f = nI 0) → ∀ (fu q : Nat) (I3 : dz_MI), sg_p s < q + fu → q ≤ sg_p s → dp_B s I2 I3 q → V 63 I3 J1 [(0, .inr (.inr 0)), (1, .inl (nI (q)))] [] := by
    intro I2 J1 hR1 hM1 hp1 ho1 hr1 fu
    induction fu with
    | zero => intro q I3 h1 h2; exact absurd h1 (by omega)
    | succ fu ih =>
      intro q I3 h1 h2 hB
      have hR2 : dz_RY s I3 := hR1.fr o1 (fun a k z1 z2 z3 => hB.2 a k (by omega) (by omega))
      obtain ⟨y1, y2, y3, y4, y5, y6, y7, y8, y9, y10, y11, y12, y13⟩ := id hR2
      refine dr_iload_n 63 hV dX4_drawPaper_63 rfl ?_
      refine dr_aload_n 64 hV dX4_drawPaper_64 rfl ?_
      refine dr_geta 65 hV dX4_drawPaper_65 (by decide) (by decide) rfl rfl rfl ?_
      refine dr_cvp0 68 hV dz_lX4_129 dX4_drawPaper_68 (by decide) (by decide) ⟨by decide, _, _, rfl, by decide, rfl⟩ (Nat.le_of_ble_eq_true rfl) (c_X0_placeNumber π _ _) ?_
      rw [y3]
      refine dn_icmp_ge (tgt := 101) 71 hV dX4_drawPaper_71 (by decide) (by omega) (by omega) (fun c71 => ?_) (fun c71 => ?_)
      · have hqe : q = sg_p s := by omega
        subst hqe
        refine dr_aload_n 101 hV dX4_drawPaper_101 rfl ?_
        refine dr_geta 102 hV dX4_drawPaper_102 (by decide) (by decide) rfl rfl rfl ?_
        refine dr_cv0 105 hV dz_lX4_213 dX4_drawPaper_105 (by decide) (by decide) ⟨by decide, _, _, rfl, by decide, rfl⟩ (Nat.le_of_ble_eq_true rfl) (c_X2_findBest π _ _ hO2 (rw_0 hO2 ⟨by rw [hB.2 _ _ (by omega) (by omega)]; exact hp1, hB.1, fun l hl => by rw [hB.2 _ _ (by omega) (by omega)]; exact ho1 l hl, fun f hf => by rw [hB.2 _ _ (by omega) (by omega)]; exact hr1 f hf⟩ (hM1.fr2 (fun a k z => hB.2 a k (by omega) (by omega)) (fun _ _ _ _ => rfl)))) (fun r4 I4 J4 hf4 => ?_)
        obtain ⟨rfl, hC4, hD4, hF4⟩ := hf4
        refine dr_aload_n 108 hV dX4_drawPaper_108 rfl ?_
        refine dr_iconst (v := nI 0) 109 hV dX4_drawPaper_109 (by decide) ?_
        refine dr_puti 110 hV dX4_drawPaper_110 (by decide) (by decide) rfl rfl rfl rfl rfl rfl ?_
        exact dr_vret 113 hV dX4_drawPaper_113 rfl ⟨rfl, hR2.fr o1 (fun a k z1 z2 z3 => by rw [dz_wi_n _ _ z3]; exact hF4 a k z1 z2), hC4.w (by omega) (by omega) (by omega), dz_wi_s _ _ _ _, hD4.w (by omega) (by omega) (by omega)⟩
      · refine dr_aload_n 74 hV dX4_drawPaper_74 rfl ?_
        refine dr_geta 75 hV dX4_drawPaper_75 (by decide) (by decide) rfl rfl rfl ?_
        refine dr_iload_n 78 hV dX4_drawPaper_78 rfl ?_
        refine dr_aload_n 79 hV dX4_drawPaper_79 rfl ?_
        refine dr_iload_n 80 hV dX4_drawPaper_80 rfl ?_
        refine dr_cvp1 81 hV dz_lX4_204 dX4_drawPaper_81 (by decide) (by decide) ⟨by decide, _, _, rfl, by decide, rfl⟩ (Nat.le_of_ble_eq_true rfl) (c_X4_itemsAllowedAt π _ _ hO2 hR2 c71) ?_
        refine dr_aload_n 84 hV dX4_drawPaper_84 rfl ?_
        refine dr_geta 85 hV dX4_drawPaper_85 (by decide) (by decide) rfl rfl rfl ?_
        refine dr_iload_n 88 hV dX4_drawPaper_88 rfl ?_
        refine dr_cvp1 89 hV dz_lX4_207 dX4_drawPaper_89 (by decide) (by decide) ⟨by decide, _, _, rfl, by decide, rfl⟩ (Nat.le_of_ble_eq_true rfl) (c_X0_isHead π _ _ hO2 hR2 c71) ?_
        refine dr_cv3 92 hV dz_lX4_210 dX4_drawPaper_92 (by decide) (by decide) ⟨by decide, _, _, rfl, by decide, rfl⟩ (Nat.le_of_ble_eq_true rfl) (c_X2_allowAt π _ _ (n := sg_p s) (by rw [hB.2 _ _ (by omega) (by omega)]; exact hp1) c71 o3) (fun r4 I4 J4 hf4 => ?_)
        obtain ⟨rfl, rfl, rfl⟩ := hf4
        refine dr_iinc1 95 hV dX4_drawPaper_95 (by decide) rfl ?_
        refine dr_goto (tgt := 63) 98 hV dX4_drawPaper_98 (by decide) ?_
        refine dr_sub hV (ls2 := [(0, .inr (.inr 0)), (1, .inl (nI (q + 1)))]) rfl ?_
        exact ih (q + 1) _ (by omega) (by omega) hB.s
  have loopA : ∀ (I1 : dz_MI) (J1 : dz_MJ), dz_RY s I1 → PM ps_0 I1 J1 → I1 4 9 = nI (sg_p s) → (∀ f, f < 9 → I1 52 f = nI 0) → ∀ (fu d : Nat) (I2 : dz_MI), sg_n s < d + fu → d ≤ sg_n s → dp_A s I1 I2 d → V 24 I2 J1 [(0, .inr (.inr 0)), (1, .inl (nI (d)))] [] := by
    intro I1 J1 hR1 hM1 hp1 hr1 fu
    induction fu with
    | zero => intro d I2 h1 h2; exact absurd h1 (by omega)
    | succ fu ih =>
      intro d I2 h1 h2 hA
      have hR2 : dz_RY s I2 := hR1.fr o1 (fun a k z1 z2 z3 => hA.2.2 a k (by omega))
      obtain ⟨y1, y2, y3, y4, y5, y6, y7, y8, y9, y10, y11, y12, y13⟩ := id hR2
      refine dr_iload_n 24 hV dX4_drawPaper_24 rfl ?_
      refine dr_aload_n 25 hV dX4_drawPaper_25 rfl ?_
      refine dr_geta 26 hV dX4_drawPaper_26 (by decide) (by decide) rfl rfl rfl ?_
      refine dr_cvp0 29 hV dz_lX4_166 dX4_drawPaper_29 (by decide) (by decide) ⟨by decide, _, _, rfl, by decide, rfl⟩ (Nat.le_of_ble_eq_true rfl) (c_X1_number π _ _) ?_
      rw [y1]
      refine dn_icmp_ge (tgt := 61) 32 hV dX4_drawPaper_32 (by decide) (by omega) (by omega) (fun c32 => ?_) (fun c32 => ?_)
      · have hde : d = sg_n s := by omega
        subst hde
        refine dr_iconst (v := nI 0) 61 hV dX4_drawPaper_61 (by decide) ?_
        refine dr_istore_n 62 hV dX4_drawPaper_62 (by decide) ?_
        refine dr_sub hV (ls2 := [(0, .inr (.inr 0)), (1, .inl (nI (0)))]) rfl ?_
        exact loopB I2 J1 hR2 (hM1.fr2 (fun a k z => hA.2.2 a k (by omega)) (fun _ _ _ _ => rfl)) (by rw [hA.2.2 _ _ (by omega)]; exact hp1) (fun l hl => by
          rcases Nat.lt_or_ge l (sg_n s) with z | z
          · exact hA.1 l z
          · rw [hA.2.1 l z hl]; unfold pa_ov; rw [if_neg (by omega)]) (fun f hf => by rw [hA.2.2 _ _ (by omega)]; exact hr1 f hf) (sg_p s + 1) 0 I2 (by omega) (Nat.zero_le _) ⟨fun y hy => absurd hy (by omega), fun _ _ _ _ => rfl⟩
      · refine dr_aload_n 35 hV dX4_drawPaper_35 rfl ?_
        refine dr_geta 36 hV dX4_drawPaper_36 (by decide) (by decide) rfl rfl rfl ?_
        refine dr_iload_n 39 hV dX4_drawPaper_39 rfl ?_
        refine dr_aload_n 40 hV dX4_drawPaper_40 rfl ?_
        refine dr_geta 41 hV dX4_drawPaper_41 (by decide) (by decide) rfl rfl rfl ?_
        refine dr_iload_n 44 hV dX4_drawPaper_44 rfl ?_
        refine dr_aload_n 45 hV dX4_drawPaper_45 rfl ?_
        refine dr_geti (v := sg_tol s) 46 hV dX4_drawPaper_46 (by decide) (by decide) rfl rfl rfl y4 ?_
        refine dr_cvp2 49 hV dz_lX4_198 dX4_drawPaper_49 (by decide) (by decide) ⟨by decide, _, _, rfl, by decide, rfl⟩ (Nat.le_of_ble_eq_true rfl) (c_X1_lyingOn π (sg_tol s) _ _ y1 o1 c32) ?_
        rw [dp_ly c32 y9]
        refine dr_cv2 52 hV dz_lX4_201 dX4_drawPaper_52 (by decide) (by decide) ⟨by decide, _, _, rfl, by decide, rfl⟩ (Nat.le_of_ble_eq_true rfl) (c_X2_allowOver π _ _ (by omega)) (fun r4 I4 J4 hf4 => ?_)
        obtain ⟨rfl, rfl, rfl⟩ := hf4
        refine dr_iinc1 55 hV dX4_drawPaper_55 (by decide) rfl ?_
        refine dr_goto (tgt := 24) 58 hV dX4_drawPaper_58 (by decide) ?_
        refine dr_sub hV (ls2 := [(0, .inr (.inr 0)), (1, .inl (nI (d + 1)))]) rfl ?_
        exact ih (d + 1) _ (by omega) (by omega) (hA.s c32)
  refine dr_aload_n 0 hV dX4_drawPaper_0 rfl ?_
  refine dr_geti (v := I 0 7) 1 hV dX4_drawPaper_1 (by decide) (by decide) rfl rfl rfl rfl ?_
  refine dr_if_ne (tgt := 8) 4 hV dX4_drawPaper_4 (by decide) (fun c4 => ?_) (fun c4 => ?_)
  · refine dr_aload_n 8 hV dX4_drawPaper_8 rfl ?_
    refine dr_geta 9 hV dX4_drawPaper_9 (by decide) (by decide) rfl rfl rfl ?_
    refine dr_aload_n 12 hV dX4_drawPaper_12 rfl ?_
    refine dr_geta 13 hV dX4_drawPaper_13 (by decide) (by decide) rfl rfl rfl ?_
    refine dr_cvp0 16 hV dz_lX4_129 dX4_drawPaper_16 (by decide) (by decide) ⟨by decide, _, _, rfl, by decide, rfl⟩ (Nat.le_of_ble_eq_true rfl) (c_X0_placeNumber π _ _) ?_
    rw [y3]
    refine dr_cv1 19 hV dz_lX4_194 dX4_drawPaper_19 (by decide) (by decide) ⟨by decide, _, _, rfl, by decide, rfl⟩ (Nat.le_of_ble_eq_true rfl) (c_X2_clear π _ _ hC o3) (fun r1 I1 J1 hf1 => ?_)
    obtain ⟨rfl, hM1, ho1, hp1, hF1⟩ := hf1
    refine dr_iconst (v := nI 0) 22 hV dX4_drawPaper_22 (by decide) ?_
    refine dr_istore_n 23 hV dX4_drawPaper_23 (by decide) ?_
    refine dr_sub hV (ls2 := [(0, .inr (.inr 0)), (1, .inl (nI (0)))]) rfl ?_
    exact loopA I1 J1 (hR.fr o1 (fun a k z1 z2 z3 => hF1 a k (by omega) (by omega) (by omega))) hM1 hp1 (fun f hf => by obtain ⟨P, -, -, -, h4⟩ := hC; rw [hF1 _ _ (by omega) (by omega) (by omega)]; exact h4 f hf) (sg_n s + 1) 0 I1 (by omega) (Nat.zero_le _) ⟨fun l hl => absurd hl (by omega), fun l _ hl => ho1 l hl, fun _ _ _ => rfl⟩
  · exact dr_vret 7 hV dX4_drawPaper_7 rfl (hst.elim (fun z => absurd (z.symm.trans c4) (by decide)) (fun z => ⟨rfl, hR, hC, z.1, z.2⟩))
noncomputable def yq_P (s : dz_Sg) (v : dz_AV) : Option dz_AV → dz_MI → dz_MJ → Prop := fun r I2 J2 => r = some v ∧ YI s I2 J2
theorem yq_i {s : dz_Sg} {x y : Int32} {I : dz_MI} {J : dz_MJ} (h : x = y) (hY : YI s I J) : yq_P s (.inl y) (some (.inl x)) I J := ⟨by rw [h], hY⟩
theorem yq_sure {s : dz_Sg} {p k : Nat} (hk : k < 11) : nI (dz_bits (fun d => dz_B (¬ sg_no s ∧ sg_held s p d)) 11) = nI (2 ^ k) ↔ ¬ sg_no s ∧ sg_sure s p k := by
  have hlt := dz_bits_lt (fun d => dz_B (¬ sg_no s ∧ sg_held s p d)) 11
  have hlt2 : 2 ^ k < 2 ^ 11 := Nat.pow_lt_pow_right (by decide) hk
  rw [nI_eq (by omega) (by omega)]
  constructor
  · intro h
    have hb : ∀ j, j < 11 → dz_B (¬ sg_no s ∧ sg_held s p j) = decide (k = j) := fun j hj => by
      have := dz_bits_tb (fun d => dz_B (¬ sg_no s ∧ sg_held s p d)) 11 j
      rw [h, Nat.testBit_two_pow] at this
      simpa [hj] using this.symm
    have hno : ¬ sg_no s := (dz_Bt.mp (show dz_B (¬ sg_no s ∧ sg_held s p k) = true by rw [hb k hk]; simp)).1
    refine ⟨hno, fun j hj => ⟨fun z => ?_, fun z => ?_⟩⟩
    · have := hb j hj
      rw [dz_Bt.mpr ⟨hno, z⟩] at this
      exact (of_decide_eq_true this.symm).symm
    · exact (dz_Bt.mp (show dz_B (¬ sg_no s ∧ sg_held s p j) = true by rw [hb j hj]; simp [z])).2
  · rintro ⟨hno, h⟩
    refine dz_bits_ext (n := 11) hlt hlt2 (fun j hj => ?_)
    rw [dz_bits_tb, Nat.testBit_two_pow]
    simp only [hj, decide_true, Bool.true_and]
    by_cases e : k = j
    · rw [dz_Bt.mpr ⟨hno, (h j hj).mpr e.symm⟩]; simp [e]
    · rw [dz_Bf.mpr (fun z => e ((h j hj).mp z.2).symm)]; simp [e]
theorem yq_first {s : dz_Sg} {k : Nat} (hk : k < 2 ^ 31) (hin : 0 ≤ nI k ∧ nI k < nI (sg_p s)) : pa_fst s k = q_first s (nI k) := by
  unfold q_first pa_fst
  rw [nI_clamp hk]
  by_cases hno : sg_no s
  · rw [dz_B1 hno, dz_B1 (Or.inl hno)]
  · rw [dz_B0 hno, dz_B0 (fun z => z.elim hno (fun y => y hin))]
theorem yq_suren {s : dz_Sg} {k : Nat} (hk : k < 2 ^ 31) (hin : 0 ≤ nI k ∧ nI k < nI (sg_n s)) (hi : ∀ j, j < sg_p s → ¬ (¬ sg_no s ∧ sg_sure s j k)) : -1 = q_sure s (nI k) := by
  unfold q_sure
  by_cases hno : sg_no s
  · rw [dz_B1 (Or.inl hno)]
  · rw [dz_B0 (fun z => z.elim hno (fun y => y hin)), nI_clamp hk, dz_find_n (fun j hj => dz_Bf.mpr (fun z => hi j hj ⟨hno, z⟩))]
set_option maxRecDepth 100000 in
set_option maxHeartbeats 4000000 in
theorem c_X4_least (π : dz_Pl) {s : dz_Sg} (I : dz_MI) (J : dz_MJ) (hO : dz_OK s) (hY : YI s I J) : dz_Cl π dz_Y 62 mX4_least 6 133 [.inr (.inr 0)] I J (yq_P s (.inl (q_least s))) := by
  refine dz_body (own := 4) dz_mX4_least rfl (Nat.le_of_ble_eq_true rfl) (fun V hV => ?_)
  have hO2 := hO
  have hY2 := hY
  obtain ⟨o1, o2, o3, o4, o5, o6, o7, o8, o9⟩ := hO
  refine dr_aload_n 0 hV dX4_least_0 rfl ?_
  refine dr_cv0 1 hV dz_lX4_115 dX4_least_1 (by decide) (by decide) ⟨by decide, _, _, rfl, by decide, rfl⟩ (Nat.le_of_ble_eq_true rfl) (c_X4_drawPaper π _ _ hO2 hY2) (fun r1 I1 J1 hp => ?_)
  obtain ⟨rfl, hR2, hC2, hs2, hD2⟩ := id hp
  obtain ⟨y1, y2, y3, y4, y5, y6, y7, y8, y9, y10, y11, y12, y13⟩ := id hR2
  obtain ⟨d1, d2, d3, d4⟩ := id hD2
  have hYY := dp_Y hp
  refine dr_aload_n 4 hV dX4_least_4 rfl ?_
  refine dr_geta 5 hV dX4_least_5 (by decide) (by decide) rfl rfl rfl ?_
  refine dr_cvp0 8 hV dz_lX4_118 dX4_least_8 (by decide) (by decide) ⟨by decide, _, _, rfl, by decide, rfl⟩ (Nat.le_of_ble_eq_true rfl) (c_X2_leastNew π  _ _) ?_
  exact dr_iret 11 hV dX4_least_11 rfl (by first | rfl | exact dz_bn) (yq_i d2 hYY)
set_option maxRecDepth 100000 in
set_option maxHeartbeats 4000000 in
theorem c_X4_ways (π : dz_Pl) {s : dz_Sg} (I : dz_MI) (J : dz_MJ) (hO : dz_OK s) (hY : YI s I J) : dz_Cl π dz_Y 62 mX4_ways 6 133 [.inr (.inr 0)] I J (yq_P s (.inr (.inl (q_ways s)))) := by
  refine dz_body (own := 4) dz_mX4_ways rfl (Nat.le_of_ble_eq_true rfl) (fun V hV => ?_)
  have hO2 := hO
  have hY2 := hY
  obtain ⟨o1, o2, o3, o4, o5, o6, o7, o8, o9⟩ := hO
  refine dr_aload_n 0 hV dX4_ways_0 rfl ?_
  refine dr_cv0 1 hV dz_lX4_115 dX4_ways_1 (by decide) (by decide) ⟨by decide, _, _, rfl, by decide, rfl⟩ (Nat.le_of_ble_eq_true rfl) (c_X4_drawPaper π _ _ hO2 hY2) (fun r1 I1 J1 hp => ?_)
  obtain ⟨rfl, hR2, hC2, hs2, hD2⟩ := id hp
  obtain ⟨y1, y2, y3, y4, y5, y6, y7, y8, y9, y10, y11, y12, y13⟩ := id hR2
  obtain ⟨d1, d2, d3, d4⟩ := id hD2
  have hYY := dp_Y hp
  refine dr_aload_n 4 hV dX4_ways_4 rfl ?_
  refine dr_geta 5 hV dX4_ways_5 (by decide) (by decide) rfl rfl rfl ?_
  refine dr_cvp0 8 hV dz_lX4_122 dX4_ways_8 (by decide) (by decide) ⟨by decide, _, _, rfl, by decide, rfl⟩ (Nat.le_of_ble_eq_true rfl) (c_X2_bestWays π  _ _) ?_
  exact dr_lret 11 hV dX4_ways_11 rfl ⟨by rw [d3], hYY⟩
set_option maxRecDepth 100000 in
set_option maxHeartbeats 4000000 in
theorem c_X4_first (π : dz_Pl) {s : dz_Sg} (v : Int32) (I : dz_MI) (J : dz_MJ) (hO : dz_OK s) (hY : YI s I J) : dz_Cl π dz_Y 62 mX4_first 6 133 [.inr (.inr 0), .inl v] I J (yq_P s (.inl (q_first s v))) := by
  refine dz_body (own := 4) dz_mX4_first rfl (Nat.le_of_ble_eq_true rfl) (fun V hV => ?_)
  have hO2 := hO
  have hY2 := hY
  obtain ⟨o1, o2, o3, o4, o5, o6, o7, o8, o9⟩ := hO
  have y3 := hY.1.2.2.1
  refine dr_aload_n 0 hV dX4_first_0 rfl ?_
  refine dr_geta 1 hV dX4_first_1 (by decide) (by decide) rfl rfl rfl ?_
  refine dr_iload_n 4 hV dX4_first_4 rfl ?_
  refine dr_cvp1 5 hV dz_lX4_97 dX4_first_5 (by decide) (by decide) ⟨by decide, _, _, rfl, by decide, rfl⟩ (Nat.le_of_ble_eq_true rfl) (c_X0_hasPlace π _ _ _) ?_
  first | refine dr_ifb_ne (tgt := 13) 8 hV dX4_first_8 (by decide) (fun c8 => ?_) (fun c8 => ?_) | refine dr_if_ne (tgt := 13) 8 hV dX4_first_8 (by decide) (fun c8 => ?_) (fun c8 => ?_)
  · have hin := c8
    rw [y3] at hin
    obtain ⟨k, hk, rfl⟩ := dz_ofI y3 (by omega) c8
    refine dr_aload_n 13 hV dX4_first_13 rfl ?_
    refine dr_cv0 14 hV dz_lX4_115 dX4_first_14 (by decide) (by decide) ⟨by decide, _, _, rfl, by decide, rfl⟩ (Nat.le_of_ble_eq_true rfl) (c_X4_drawPaper π _ _ hO2 hY2) (fun r1 I1 J1 hp => ?_)
    obtain ⟨rfl, hR2, hC2, hs2, hD2⟩ := id hp
    obtain ⟨y1, y2, y3, y4, y5, y6, y7, y8, y9, y10, y11, y12, y13⟩ := id hR2
    obtain ⟨d1, d2, d3, d4⟩ := id hD2
    have hYY := dp_Y hp
    refine dr_aload_n 17 hV dX4_first_17 rfl ?_
    refine dr_geta 18 hV dX4_first_18 (by decide) (by decide) rfl rfl rfl ?_
    refine dr_iload_n 21 hV dX4_first_21 rfl ?_
    refine dr_cvp1 22 hV dz_lX4_126 dX4_first_22 (by decide) (by decide) ⟨by decide, _, _, rfl, by decide, rfl⟩ (Nat.le_of_ble_eq_true rfl) (c_X2_firstAt π _ _ d1 o3 hk) ?_
    rw [(d4 k hk).1]
    exact dr_iret 25 hV dX4_first_25 rfl (by first | rfl | exact dz_bn) (yq_i (yq_first (by omega) hin) hYY)
  · refine dr_iconst (v := (-1)) 11 hV dX4_first_11 (by decide) ?_
    exact dr_iret 12 hV dX4_first_12 rfl (by first | rfl | exact dz_bn) (yq_i (by rw [y3] at c8; unfold q_first; rw [dz_B1 (Or.inr c8)]) hY2)
set_option maxRecDepth 100000 in
set_option maxHeartbeats 4000000 in
theorem c_X4_sure (π : dz_Pl) {s : dz_Sg} (v : Int32) (I : dz_MI) (J : dz_MJ) (hO : dz_OK s) (hY : YI s I J) : dz_Cl π dz_Y 62 mX4_sure 6 133 [.inr (.inr 0), .inl v] I J (yq_P s (.inl (q_sure s v))) := by
  refine dz_body (own := 4) dz_mX4_sure rfl (Nat.le_of_ble_eq_true rfl) (fun V hV => ?_)
  have hO2 := hO
  have hY2 := hY
  obtain ⟨o1, o2, o3, o4, o5, o6, o7, o8, o9⟩ := hO
  have y1 := hY.1.1
  refine dr_aload_n 0 hV dX4_sure_0 rfl ?_
  refine dr_geta 1 hV dX4_sure_1 (by decide) (by decide) rfl rfl rfl ?_
  refine dr_iload_n 4 hV dX4_sure_4 rfl ?_
  refine dr_cvp1 5 hV dz_lX4_86 dX4_sure_5 (by decide) (by decide) ⟨by decide, _, _, rfl, by decide, rfl⟩ (Nat.le_of_ble_eq_true rfl) (c_X1_has π _ _ _) ?_
  first | refine dr_ifb_ne (tgt := 13) 8 hV dX4_sure_8 (by decide) (fun c8 => ?_) (fun c8 => ?_) | refine dr_if_ne (tgt := 13) 8 hV dX4_sure_8 (by decide) (fun c8 => ?_) (fun c8 => ?_)
  · obtain ⟨k, hk, rfl⟩ := dz_ofI y1 (by omega) c8
    have hin : 0 ≤ nI k ∧ nI k < nI (sg_n s) := dz_inI rfl hk (by omega)
    refine dr_aload_n 13 hV dX4_sure_13 rfl ?_
    refine dr_cv0 14 hV dz_lX4_115 dX4_sure_14 (by decide) (by decide) ⟨by decide, _, _, rfl, by decide, rfl⟩ (Nat.le_of_ble_eq_true rfl) (c_X4_drawPaper π _ _ hO2 hY2) (fun r1 I1 J1 hp => ?_)
    obtain ⟨rfl, hR2, hC2, hs2, hD2⟩ := id hp
    obtain ⟨y1, y2, y3, y4, y5, y6, y7, y8, y9, y10, y11, y12, y13⟩ := id hR2
    obtain ⟨d1, d2, d3, d4⟩ := id hD2
    have hYY := dp_Y hp
    have loop : ∀ (fu i : Nat), sg_p s < i + fu → i ≤ sg_p s → (∀ j, j < i → ¬ (¬ sg_no s ∧ sg_sure s j k)) → V 19 I1 J1 [(0, .inr (.inr 0)), (1, .inl (nI k)), (2, .inl (nI (i)))] [] := by
      intro fu
      induction fu with
      | zero => intro i h1 h2; exact absurd h1 (by omega)
      | succ fu ih =>
        intro i h1 h2 hi
        refine dr_iload_n 19 hV dX4_sure_19 rfl ?_
        refine dr_aload_n 20 hV dX4_sure_20 rfl ?_
        refine dr_geta 21 hV dX4_sure_21 (by decide) (by decide) rfl rfl rfl ?_
        refine dr_cvp0 24 hV dz_lX4_129 dX4_sure_24 (by decide) (by decide) ⟨by decide, _, _, rfl, by decide, rfl⟩ (Nat.le_of_ble_eq_true rfl) (c_X0_placeNumber π _ _) ?_
        rw [y3]
        refine dn_icmp_ge (tgt := 52) 27 hV dX4_sure_27 (by decide) (by omega) (by omega) (fun c27 => ?_) (fun c27 => ?_)
        · refine dr_iconst (v := (-1)) 52 hV dX4_sure_52 (by decide) ?_
          exact dr_iret 53 hV dX4_sure_53 rfl (by first | rfl | exact dz_bn) (yq_i (yq_suren (by omega) hin (fun j hj => hi j (by omega))) hYY)
        · refine dr_aload_n 30 hV dX4_sure_30 rfl ?_
          refine dr_geta 31 hV dX4_sure_31 (by decide) (by decide) rfl rfl rfl ?_
          refine dr_iload_n 34 hV dX4_sure_34 rfl ?_
          refine dr_cvp1 35 hV dz_lX4_132 dX4_sure_35 (by decide) (by decide) ⟨by decide, _, _, rfl, by decide, rfl⟩ (Nat.le_of_ble_eq_true rfl) (c_X2_bestHeldAt π _ _ d1 o3 c27) ?_
          rw [(d4 i c27).2]
          refine dr_iconst (v := nI 1) 38 hV dX4_sure_38 (by decide) ?_
          refine dr_iload_n 39 hV dX4_sure_39 rfl ?_
          refine dr_ishl (z := nI (2 ^ k)) 40 hV dX4_sure_40 (dz_s1 (by omega)) ?_
          refine dr_icmp_ne (tgt := 46) 41 hV dX4_sure_41 (by decide) (fun c41 => ?_) (fun c41 => ?_)
          · have hne := fun z => c41 ((yq_sure (s := s) (p := i) (show k < 11 by omega)).mpr z)
            refine dr_iinc1 46 hV dX4_sure_46 (by decide) rfl ?_
            refine dr_goto (tgt := 19) 49 hV dX4_sure_49 (by decide) ?_
            refine dr_sub hV (ls2 := [(0, .inr (.inr 0)), (1, .inl (nI k)), (2, .inl (nI (i + 1)))]) rfl ?_
            exact ih (i + 1) (by omega) (by omega) (lt_s hi hne)
          · have heq := (yq_sure (s := s) (p := i) (show k < 11 by omega)).mp c41
            refine dr_iload_n 44 hV dX4_sure_44 rfl ?_
            exact dr_iret 45 hV dX4_sure_45 rfl (by first | rfl | exact dz_bn) (yq_i (by clear hV ih; unfold q_sure; rw [dz_B0 (fun z => z.elim heq.1 (fun y => y hin)), nI_clamp (by omega), dz_find_s c27 (dz_Bt.mpr heq.2) (fun j hj => dz_Bf.mpr (fun z => hi j hj ⟨heq.1, z⟩))]) hYY)
    refine dr_iconst (v := nI 0) 17 hV dX4_sure_17 (by decide) ?_
    refine dr_istore_n 18 hV dX4_sure_18 (by decide) ?_
    refine dr_sub hV (ls2 := [(0, .inr (.inr 0)), (1, .inl (nI k)), (2, .inl (nI (0)))]) rfl ?_
    exact loop (sg_p s + 1) 0 (by omega) (Nat.zero_le _) (fun j hj => absurd hj (by omega))
  · refine dr_iconst (v := (-1)) 11 hV dX4_sure_11 (by decide) ?_
    exact dr_iret 12 hV dX4_sure_12 rfl (by first | rfl | exact dz_bn) (yq_i (by rw [y1] at c8; unfold q_sure; rw [dz_B1 (Or.inr c8)]) hY2)
theorem yq_open {s : dz_Sg} {k : Nat} (hk : k < 2 ^ 31) (hin : 0 ≤ nI k ∧ nI k < nI (sg_n s)) : nI (dz_bits (fun p => dz_B (¬ sg_no s ∧ sg_held s p k)) (sg_p s)) = q_open s (nI k) := by
  unfold q_open
  by_cases hno : sg_no s
  · rw [dz_B1 (Or.inl hno), dz_bits_0.mpr (fun d _ => dz_Bf.mpr (fun z => z.1 hno))]
  · rw [dz_B0 (fun z => z.elim hno (fun y => y hin)), nI_clamp hk]
    congr 1
    exact dz_bits_cong (fun d _ => dz_B_cong ⟨fun z => z.2, fun z => ⟨hno, z⟩⟩)
set_option maxRecDepth 100000 in
set_option maxHeartbeats 4000000 in
theorem c_X4_open (π : dz_Pl) {s : dz_Sg} (v : Int32) (I : dz_MI) (J : dz_MJ) (hO : dz_OK s) (hY : YI s I J) : dz_Cl π dz_Y 62 mX4_open 6 133 [.inr (.inr 0), .inl v] I J (yq_P s (.inl (q_open s v))) := by
  refine dz_body (own := 4) dz_mX4_open rfl (Nat.le_of_ble_eq_true rfl) (fun V hV => ?_)
  have hO2 := hO
  have hY2 := hY
  obtain ⟨o1, o2, o3, o4, o5, o6, o7, o8, o9⟩ := hO
  have y1 := hY.1.1
  refine dr_aload_n 0 hV dX4_open_0 rfl ?_
  refine dr_geta 1 hV dX4_open_1 (by decide) (by decide) rfl rfl rfl ?_
  refine dr_iload_n 4 hV dX4_open_4 rfl ?_
  refine dr_cvp1 5 hV dz_lX4_86 dX4_open_5 (by decide) (by decide) ⟨by decide, _, _, rfl, by decide, rfl⟩ (Nat.le_of_ble_eq_true rfl) (c_X1_has π _ _ _) ?_
  first | refine dr_ifb_ne (tgt := 13) 8 hV dX4_open_8 (by decide) (fun c8 => ?_) (fun c8 => ?_) | refine dr_if_ne (tgt := 13) 8 hV dX4_open_8 (by decide) (fun c8 => ?_) (fun c8 => ?_)
  · obtain ⟨k, hk, rfl⟩ := dz_ofI y1 (by omega) c8
    have hin : 0 ≤ nI k ∧ nI k < nI (sg_n s) := dz_inI rfl hk (by omega)
    refine dr_aload_n 13 hV dX4_open_13 rfl ?_
    refine dr_cv0 14 hV dz_lX4_115 dX4_open_14 (by decide) (by decide) ⟨by decide, _, _, rfl, by decide, rfl⟩ (Nat.le_of_ble_eq_true rfl) (c_X4_drawPaper π _ _ hO2 hY2) (fun r1 I1 J1 hp => ?_)
    obtain ⟨rfl, hR2, hC2, hs2, hD2⟩ := id hp
    obtain ⟨y1, y2, y3, y4, y5, y6, y7, y8, y9, y10, y11, y12, y13⟩ := id hR2
    obtain ⟨d1, d2, d3, d4⟩ := id hD2
    have hYY := dp_Y hp
    have loop : ∀ (fu i : Nat), sg_p s < i + fu → i ≤ sg_p s → V 21 I1 J1 [(0, .inr (.inr 0)), (1, .inl (nI k)), (2, .inl (nI (dz_bits (fun p => dz_B (¬ sg_no s ∧ sg_held s p k)) (i)))), (3, .inl (nI (i)))] [] := by
      intro fu
      induction fu with
      | zero => intro i h1 h2; exact absurd h1 (by omega)
      | succ fu ih =>
        intro i h1 h2
        refine dr_iload_n 21 hV dX4_open_21 rfl ?_
        refine dr_aload_n 22 hV dX4_open_22 rfl ?_
        refine dr_geta 23 hV dX4_open_23 (by decide) (by decide) rfl rfl rfl ?_
        refine dr_cvp0 26 hV dz_lX4_129 dX4_open_26 (by decide) (by decide) ⟨by decide, _, _, rfl, by decide, rfl⟩ (Nat.le_of_ble_eq_true rfl) (c_X0_placeNumber π _ _) ?_
        rw [y3]
        refine dn_icmp_ge (tgt := 59) 29 hV dX4_open_29 (by decide) (by omega) (by omega) (fun c29 => ?_) (fun c29 => ?_)
        · refine dr_iload_n 59 hV dX4_open_59 rfl ?_
          exact dr_iret 60 hV dX4_open_60 rfl (by first | rfl | exact dz_bn) (yq_i (by clear hV ih; rw [show i = sg_p s by omega]; exact yq_open (by omega) hin) hYY)
        · refine dr_aload_n 32 hV dX4_open_32 rfl ?_
          refine dr_geta 33 hV dX4_open_33 (by decide) (by decide) rfl rfl rfl ?_
          refine dr_iload_n 36 hV dX4_open_36 rfl ?_
          refine dr_cvp1 37 hV dz_lX4_132 dX4_open_37 (by decide) (by decide) ⟨by decide, _, _, rfl, by decide, rfl⟩ (Nat.le_of_ble_eq_true rfl) (c_X2_bestHeldAt π _ _ d1 o3 c29) ?_
          rw [(d4 i c29).2]
          refine dr_iload_n 40 hV dX4_open_40 rfl ?_
          refine dr_csp2 41 hV (Or.inl dz_lX4_135) dX4_open_41 (by decide) (by decide) (Nat.le_of_ble_eq_true rfl) (c_hasBit π _ _ _ _ (Nat.lt_trans (dz_bits_lt _ 11) (by decide)) (by omega)) ?_
          have hbi : (dz_bits (fun d => dz_B (¬ sg_no s ∧ sg_held s i d)) 11).testBit k = dz_B (¬ sg_no s ∧ sg_held s i k) := by rw [dz_bits_tb]; simp [show k < 11 by omega]
          rw [hbi]
          first | refine dr_ifb_eq (tgt := 53) 44 hV dX4_open_44 (by decide) (fun c44 => ?_) (fun c44 => ?_) | refine dr_if_eq (tgt := 53) 44 hV dX4_open_44 (by decide) (fun c44 => ?_) (fun c44 => ?_)
          · refine dr_iinc1 53 hV dX4_open_53 (by decide) rfl ?_
            refine dr_goto (tgt := 21) 56 hV dX4_open_56 (by decide) ?_
            rw [← dz_bits_n (p := (fun p => dz_B (¬ sg_no s ∧ sg_held s p k))) (i := i) (by simpa using c44)]
            refine dr_sub hV (ls2 := [(0, .inr (.inr 0)), (1, .inl (nI k)), (2, .inl (nI (dz_bits (fun p => dz_B (¬ sg_no s ∧ sg_held s p k)) (i + 1)))), (3, .inl (nI (i + 1)))]) rfl ?_
            exact ih (i + 1) (by omega) (by omega)
          · refine dr_iload_n 47 hV dX4_open_47 rfl ?_
            refine dr_iconst (v := nI 1) 48 hV dX4_open_48 (by decide) ?_
            refine dr_iload_n 49 hV dX4_open_49 rfl ?_
            refine dr_ishl 50 hV dX4_open_50 rfl ?_
            refine dr_ior (z := nI (dz_bits (fun p => dz_B (¬ sg_no s ∧ sg_held s p k)) (i + 1))) 51 hV dX4_open_51 (dz_bits_s (by omega) c44) ?_
            refine dr_istore_n 52 hV dX4_open_52 (by decide) ?_
            refine dr_iinc1 53 hV dX4_open_53 (by decide) rfl ?_
            refine dr_goto (tgt := 21) 56 hV dX4_open_56 (by decide) ?_
            refine dr_sub hV (ls2 := [(0, .inr (.inr 0)), (1, .inl (nI k)), (2, .inl (nI (dz_bits (fun p => dz_B (¬ sg_no s ∧ sg_held s p k)) (i + 1)))), (3, .inl (nI (i + 1)))]) rfl ?_
            exact ih (i + 1) (by omega) (by omega)
    refine dr_iconst (v := nI 0) 17 hV dX4_open_17 (by decide) ?_
    refine dr_istore_n 18 hV dX4_open_18 (by decide) ?_
    refine dr_iconst (v := nI 0) 19 hV dX4_open_19 (by decide) ?_
    refine dr_istore_n 20 hV dX4_open_20 (by decide) ?_
    refine dr_sub hV (ls2 := [(0, .inr (.inr 0)), (1, .inl (nI k)), (2, .inl (nI (dz_bits (fun p => dz_B (¬ sg_no s ∧ sg_held s p k)) (0)))), (3, .inl (nI (0)))]) rfl ?_
    exact loop (sg_p s + 1) 0 (by omega) (Nat.zero_le _)
  · refine dr_iconst (v := nI 0) 11 hV dX4_open_11 (by decide) ?_
    exact dr_iret 12 hV dX4_open_12 rfl (by first | rfl | exact dz_bn) (yq_i (by rw [y1] at c8; unfold q_open; rw [dz_B1 (Or.inr c8)]) hY2)
