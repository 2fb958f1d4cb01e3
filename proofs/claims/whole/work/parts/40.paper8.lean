/-! the paper: BEST found; the paper drawn -/
theorem fb_0 (s : dz_Sg) (m k : Nat) : pa_Cm s (sg_p s) m k = if k = 0 then 1 else 0 := by unfold pa_Cm; rw [Nat.sub_self]; rfl
theorem fb_zero {s : dz_Sg} {P : dz_PS} {w : Nat → Nat → Nat} {I : dz_MI} {k : Nat} (hO : dz_OK s) (hl : lvl s P w I (k + 1) (sg_p s)) (h0 : P.1 (sg_p s) = 0) : sg_C s (sg_p s) 0 10 k = 0 := by
  rcases Nat.eq_zero_or_pos (sg_C s (sg_p s) 0 10 k) with z | z
  · exact z
  · rw [← pa_dual hO k (sg_p s) (Nat.le_refl _)] at z
    obtain ⟨m, hm, h⟩ := dz_sm_pos.mp z
    have hG : 0 < pa_G s (sg_p s) m := Nat.pos_of_ne_zero (fun e => by rw [e, Nat.zero_mul] at h; omega)
    have hw : ¬ pa_w s (sg_p s) k m = 0 := fun e => by rw [e, Nat.mul_zero] at h; omega
    unfold pa_w at hw
    rw [fb_0] at hw
    have hlev : pa_lev (sg_p s) m < k + 1 := by
      split at hw
      · omega
      · exact absurd rfl hw
    have := (hl.1.2.2 m).mp (by rw [hl.2.2.1]; exact pa_gk_pos.mpr ⟨hG, hlev⟩)
    obtain ⟨i, hi, -⟩ := this
    omega
theorem fb_found {s : dz_Sg} {P : dz_PS} {w : Nat → Nat → Nat} {I : dz_MI} {k : Nat} (hO : dz_OK s) (hl : lvl s P w I (k + 1) (sg_p s)) (h0 : 0 < P.1 (sg_p s)) (hz : ∀ j, j < k → sg_C s (sg_p s) 0 10 j = 0) : 0 < sg_C s (sg_p s) 0 10 k := by
  have h1 := (hl.1.2.2 (P.2.1 (sg_p s) 0)).mpr ⟨0, h0, rfl⟩
  rw [hl.2.2.1] at h1
  obtain ⟨g1, g2⟩ := pa_gk_pos.mp h1
  have h2 := pa_pos hO (Nat.le_refl _) g1 (j := 0) (by rw [fb_0]; decide)
  rcases Nat.lt_or_ge (pa_lev (sg_p s) (P.2.1 (sg_p s) 0)) k with z | z
  · rw [Nat.add_zero, hz _ z] at h2; omega
  · rw [Nat.add_zero, show pa_lev (sg_p s) (P.2.1 (sg_p s) 0) = k by omega] at h2; exact h2
theorem fb_K {s : dz_Sg} {k : Nat} (hO : dz_OK s) (hk : k ≤ sg_p s) (hz : ∀ j, j < k → sg_C s (sg_p s) 0 10 j = 0) (hc : 0 < sg_C s (sg_p s) 0 10 k) : ¬ sg_no s ∧ sg_L s 0 0 10 = k ∧ pa_K s = k := by
  have hL : sg_L s 0 0 10 = k := by
    rw [sg_L_v (p := 0) (Or.inr (Or.inl rfl))]
    exact dz_lo_s (by have := hO.2.2.1; omega) (by show ¬ sg_C s (sg_p s - 0) 0 10 k = 0; rw [Nat.sub_zero]; omega) (fun j hj => hz j hj)
  have hno : ¬ sg_no s := fun z => by unfold sg_no at z; have := hO.2.2.1; omega
  exact ⟨hno, hL, by rw [pa_K_no hno]; exact hL⟩
theorem fb_no {s : dz_Sg} (hz : ∀ j, j < sg_p s + 1 → sg_C s (sg_p s) 0 10 j = 0) : sg_no s ∧ pa_K s = sg_p s := by
  have h : sg_no s := by
    unfold sg_no
    rw [sg_L_v (p := 0) (Or.inr (Or.inl rfl))]
    refine dz_lo_n (fun j hj => ?_)
    rcases Nat.lt_or_ge j (sg_p s + 1) with z | z
    · exact hz j z
    · exact sg_C_big s _ _ _ _ (by omega)
  exact ⟨h, by unfold pa_K; rw [if_pos (dz_Bt.mpr h)]⟩
def frB (I I2 : dz_MI) : Prop := ∀ a k, a < 43 → ¬ a = 22 → ¬ (a = 4 ∧ k = 10) → I2 a k = I a k
theorem lvl.fr {s : dz_Sg} {P : dz_PS} {w : Nat → Nat → Nat} {I I2 : dz_MI} {k f : Nat} (h : lvl s P w I k f) (hI : ∀ a k, 52 ≤ a → I2 a k = I a k) : lvl s P w I2 k f := h.agree ⟨rfl, rfl, rfl⟩ (fun j _ => hI _ _ (by omega)) (fun _ _ => rfl)
theorem rw_I.w {s : dz_Sg} {k f : Nat} {I : dz_MI} {J : dz_MJ} {v : Int32} (h : rw_I s k f I J) : rw_I s k f (dz_wi I 4 10 v) J := by
  obtain ⟨hS, P, w, hM, h1, h2, h3⟩ := h
  exact ⟨hS.w (by omega) (by omega) (by omega) (by omega) (by omega), P, w, hM.w (by omega) (by omega), fun x a b => (h1 x a b).fr (fun a k ha => dz_wi_n _ _ (by omega)), fun x a b => (h2 x a b).fr (fun a k ha => dz_wi_n _ _ (by omega)), h3⟩
/-- the paper drawn -/
noncomputable def PD (s : dz_Sg) (I : dz_MI) (J : dz_MJ) : Prop := I 4 9 = nI (sg_p s) ∧ I 4 10 = q_least s ∧ J 4 11 = q_ways s ∧ ∀ q, q < sg_p s → I 19 q = pa_fst s q ∧ I 18 q = nI (dz_bits (fun d => dz_B (¬ sg_no s ∧ sg_held s q d)) 11)
theorem pa_hs_h {s : dz_Sg} (hO : dz_OK s) {q : Nat} (hq : q < sg_p s) : dz_bits (fun d => dz_B (pa_hs s q d)) 11 = dz_bits (fun d => dz_B (¬ sg_no s ∧ sg_held s q d)) 11 := by
  refine dz_bits_cong (fun d hd => dz_B_cong ?_)
  by_cases hno : sg_no s
  · exact ⟨fun ⟨m, a, b, c, e⟩ => absurd e (pa_on_no hO hno (by omega)), fun z => absurd hno z.1⟩
  · rw [pa_held hO hno hq hd]
    exact ⟨fun z => ⟨hno, z⟩, fun z => z.2⟩
def fb_P (s : dz_Sg) (I : dz_MI) : Option dz_AV → dz_MI → dz_MJ → Prop := fun r I2 J2 => r = none ∧ CL I2 J2 ∧ PD s I2 J2 ∧ ∀ a k, (a < 15 ∨ (24 ≤ a ∧ a < 34)) → ¬ a = 4 → I2 a k = I a k
theorem fb_end {s : dz_Sg} {P P2 : dz_PS} {w : Nat → Nat → Nat} {I I2 I3 I4 : dz_MI} {J3 J4 : dz_MJ} (hO : dz_OK s) (hS : SU s I2) (hl : ∀ x, x ≤ sg_p s → lvl s P w I2 (pa_K s + 1) x) (hz : ∀ x, sg_p s < x → x < 9 → P.1 x = 0 ∧ ∀ m, P.2.2 x m = 0) (hle : I2 4 10 = q_least s) (hB : frB I I2) (hF3 : ∀ a k, ¬ a = 18 → I3 a k = I2 a k) (hH : ∀ y, y < sg_p s → I3 18 y = nI (dz_bits (fun d => dz_B (pa_hs s y d)) 11)) (hM3 : PM P2 I3 J3) (hI : db_I s P P2 0) (hF4 : ∀ a k, ¬ a = 19 → I4 a k = I3 a k) (h4 : ∀ q, q < sg_p s → I4 19 q = pa_fst s q) (hJ : J4 = J3) (hw : J3 4 11 = q_ways s) : fb_P s I none I4 J4 := by
  subst hJ
  refine ⟨rfl, ⟨P2, hM3.fr2 (fun a k z => hF4 a k (by omega)) (fun _ _ _ _ => rfl), fun f hf => ?_, fun f m hf hm => ?_, fun f hf => ?_⟩, ⟨?_, ?_, hw, fun q hq => ⟨h4 q hq, ?_⟩⟩, fun a k ha hb => ?_⟩
  · rw [hI.1, hI.2.1]
    rcases Nat.lt_or_ge (sg_p s) f with z | z
    · rw [(hz f z hf).1]; exact ⟨by omega, fun i hi => absurd hi (by omega)⟩
    · exact ⟨(hl f z).1.le, fun i hi => ((hl f z).1.1 i hi).1⟩
  · rw [hI.1, hI.2.1]
    have hm2 := hI.2.2.2.2 f m
    rcases Nat.lt_or_ge (sg_p s) f with z | z
    · rw [(hz f z hf).2 m] at hm2; omega
    · exact ((hl f z).1.2.2 m).mp (by omega)
  · rw [hF4 _ _ (by omega), hF3 _ _ (by omega)]; exact hS.2.2.2 f hf
  · rw [hF4 _ _ (by omega), hF3 _ _ (by omega)]; exact hS.1
  · rw [hF4 _ _ (by omega), hF3 _ _ (by omega)]; exact hle
  · rw [hF4 _ _ (by omega), hH q hq, pa_hs_h hO hq]
  · rw [hF4 _ _ (by omega), hF3 _ _ (by omega)]; exact hB a k (by omega) (by omega) (by omega)
set_option maxRecDepth 100000 in
set_option maxHeartbeats 4000000 in
theorem c_X2_findBest (π : dz_Pl) {s : dz_Sg} (I : dz_MI) (J : dz_MJ) (hO : dz_OK s) (h0 : rw_I s 0 0 I J) : dz_Cl π dz_Y 62 mX2_findBest 3 76 [.inr (.inr 4)] I J (fb_P s I) := by
  refine dz_body (own := 2) dz_mX2_findBest rfl (Nat.le_of_ble_eq_true rfl) (fun V hV => ?_)
  have h8 := hO.2.2.1
  have k51 : ∀ (I2 : dz_MI) (J2 : dz_MJ), rw_I s (pa_K s + 1) 0 I2 J2 → I2 4 10 = q_least s → frB I I2 → V 51 I2 J2 [(0, .inr (.inr 4))] [] := by
    intro I2 J0 hrw hle hB
    obtain ⟨hS, P, w, hM, -, hl2, hz2⟩ := hrw
    have u1 := hS.1
    have hlP := hl2 (sg_p s) (Nat.zero_le _) (Nat.le_refl _)
    have hc6 := hlP.1.le
    have loop2 : ∀ (fu i : Nat) (J2 : dz_MJ), P.1 (sg_p s) < i + fu → i ≤ P.1 (sg_p s) → (PM P I2 J2) → (J2 4 11 = lN (fb_sm (fun j => pa_gk s (pa_K s + 1) (sg_p s) (P.2.1 (sg_p s) j)) i)) → V 58 I2 J2 [(0, .inr (.inr 4)), (1, .inl (nI (i)))] [] := by
      intro fu
      induction fu with
      | zero => intro i J2 h1 h2; exact absurd h1 (by omega)
      | succ fu ih =>
        intro i J2 h1 h2 hM2 hJ
        refine dr_iload_n 58 hV dX2_findBest_58 rfl ?_
        refine dr_aload_n 59 hV dX2_findBest_59 rfl ?_
        refine dr_geta 60 hV dX2_findBest_60 (by decide) (by decide) rfl rfl rfl ?_
        refine dr_aload_n 63 hV dX2_findBest_63 rfl ?_
        refine dr_geti (v := nI (sg_p s)) 64 hV dX2_findBest_64 (by decide) (by decide) rfl rfl rfl u1 ?_
        refine dr_iald (v := nI (P.1 (sg_p s))) 67 hV dX2_findBest_67 (by decide) rfl rfl (by omega) (by decide) (hM2.1 _ (by omega)) ?_
        refine dn_icmp_ge (tgt := 107) 68 hV dX2_findBest_68 (by decide) (by omega) (by omega) (fun c68 => ?_) (fun c68 => ?_)
        · have hie : i = P.1 (sg_p s) := by omega
          subst hie
          rw [pa_ways hO hlP.1.2.1 (fun m => by rw [← hlP.2.2.1 m]; exact hlP.1.2.2 m)] at hJ
          refine dr_aload_n 107 hV dX2_findBest_107 rfl ?_
          refine dr_cv0 108 hV dz_lX2_72 dX2_findBest_108 (by decide) (by decide) ⟨by decide, _, _, rfl, by decide, rfl⟩ (Nat.le_of_ble_eq_true rfl) (c_X2_dropAllButBest π _ _ hO hS hM2 (fun x hx => (hl2 x (Nat.zero_le _) hx).1) (fun x m hx => (hl2 x (Nat.zero_le _) hx).2.2.1 m)) (fun r3 I3 J3 hf => ?_)
          obtain ⟨rfl, hF3, hJ3, hH3, P3, hM3, hI3⟩ := hf
          refine dr_aload_n 111 hV dX2_findBest_111 rfl ?_
          refine dr_cv0 112 hV dz_lX2_75 dX2_findBest_112 (by decide) (by decide) ⟨by decide, _, _, rfl, by decide, rfl⟩ (Nat.le_of_ble_eq_true rfl) (c_X2_walkFirst π _ _ hO (hS.fr2 (fun a k z => hF3 a k (by omega))) hM3 (fun x m hx => hI3.2.2.1 x m (Nat.zero_le _) hx) (fun x m hx => Nat.lt_of_le_of_lt (hI3.2.2.2.2 x m) (by rw [(hl2 x (Nat.zero_le _) hx).2.2.1]; exact Nat.lt_of_le_of_lt (pa_gk_le hO hx m) (by decide))) (by rw [hF3 _ _ (by omega)]; exact hle)) (fun r4 I4 J4 hf4 => ?_)
          obtain ⟨rfl, hJ4, h4, hF4⟩ := hf4
          exact dr_vret 115 hV dX2_findBest_115 rfl (fb_end hO hS (fun x hx => hl2 x (Nat.zero_le _) hx) hz2 hle hB hF3 hH3 hM3 hI3 hF4 h4 hJ4 ((hJ3 11).trans hJ))
        · have hm := (hlP.1.1 i c68).1
          refine dr_aload_n 71 hV dX2_findBest_71 rfl ?_
          refine dr_dup 72 hV dX2_findBest_72 rfl ?_
          refine dr_getl (v := lN (fb_sm (fun j => pa_gk s (pa_K s + 1) (sg_p s) (P.2.1 (sg_p s) j)) i)) 73 hV dX2_findBest_73 (by decide) (by decide) rfl rfl rfl hJ ?_
          refine dr_aload_n 76 hV dX2_findBest_76 rfl ?_
          refine dr_geta 77 hV dX2_findBest_77 (by decide) (by decide) rfl rfl rfl ?_
          refine dr_aload_n 80 hV dX2_findBest_80 rfl ?_
          refine dr_geti (v := nI (sg_p s)) 81 hV dX2_findBest_81 (by decide) (by decide) rfl rfl rfl u1 ?_
          refine dr_aaldl 84 hV dX2_findBest_84 (by decide) rfl rfl (by omega) (by decide) ?_
          refine dr_aload_n 85 hV dX2_findBest_85 rfl ?_
          refine dr_geta 86 hV dX2_findBest_86 (by decide) (by decide) rfl rfl rfl ?_
          refine dr_aload_n 89 hV dX2_findBest_89 rfl ?_
          refine dr_geti (v := nI (sg_p s)) 90 hV dX2_findBest_90 (by decide) (by decide) rfl rfl rfl u1 ?_
          refine dr_aaldi 93 hV dX2_findBest_93 (by decide) rfl rfl (by omega) (by decide) ?_
          refine dr_iload_n 94 hV dX2_findBest_94 rfl ?_
          refine dr_iald (v := nI (P.2.1 (sg_p s) i)) 95 hV dX2_findBest_95 (by omega) (dz_Y_r (by omega)) rfl (by omega) (by decide) (hM2.2.1 _ i (by omega) c68) ?_
          refine dr_lald (v := lN (pa_gk s (pa_K s + 1) (sg_p s) (P.2.1 (sg_p s) i))) 96 hV dX2_findBest_96 (by omega) (dz_Y_b (by omega)) rfl hm (by decide) (by rw [hM2.2.2 _ _ (by omega) hm, hlP.2.2.1]) ?_
          refine dr_ladd (z := lN (fb_sm (fun j => pa_gk s (pa_K s + 1) (sg_p s) (P.2.1 (sg_p s) j)) (i + 1))) 97 hV dX2_findBest_97 (by rw [fb_sm_succ]; exact lN_add _ _) ?_
          refine dr_putl 98 hV dX2_findBest_98 (by decide) (by decide) rfl rfl rfl rfl rfl ?_
          refine dr_iinc1 101 hV dX2_findBest_101 (by decide) rfl ?_
          refine dr_goto (tgt := 58) 104 hV dX2_findBest_104 (by decide) ?_
          refine dr_sub hV (ls2 := [(0, .inr (.inr 4)), (1, .inl (nI (i + 1)))]) rfl ?_
          exact ih (i + 1) _ (by omega) (by omega) (hM2.fr2 (fun _ _ _ => rfl) (fun a k z1 z2 => dz_wj_n _ _ (by omega))) (dz_wj_s _ _ _ _)
    refine dr_aload_n 51 hV dX2_findBest_51 rfl ?_
    refine dr_lconst (v := lN 0) 52 hV dX2_findBest_52 (by decide) ?_
    refine dr_putl 53 hV dX2_findBest_53 (by decide) (by decide) rfl rfl rfl rfl rfl ?_
    refine dr_iconst (v := nI 0) 56 hV dX2_findBest_56 (by decide) ?_
    refine dr_istore_n 57 hV dX2_findBest_57 (by decide) ?_
    refine dr_sub hV (ls2 := [(0, .inr (.inr 4)), (1, .inl (nI (0)))]) rfl ?_
    exact loop2 (P.1 (sg_p s) + 1) 0 _ (by omega) (Nat.zero_le _) (hM.fr2 (fun _ _ _ => rfl) (fun a k z1 z2 => dz_wj_n _ _ (by omega))) (dz_wj_s _ _ _ _)
  have loop : ∀ (fu k : Nat) (I2 : dz_MI) (J2 : dz_MJ), sg_p s + 1 < k + fu → k ≤ sg_p s + 1 → rw_I s k 0 I2 J2 → I2 4 10 = (-1) → (∀ j, j < k → sg_C s (sg_p s) 0 10 j = 0) → frB I I2 → V 7 I2 J2 [(0, .inr (.inr 4)), (1, .inl (nI (k)))] [] := by
    intro fu
    induction fu with
    | zero => intro k I2 J2 h1 h2; exact absurd h1 (by omega)
    | succ fu ih =>
      intro k I2 J2 h1 h2 hrw hl hz hB
      have u1 := hrw.1.1
      refine dr_iload_n 7 hV dX2_findBest_7 rfl ?_
      refine dr_aload_n 8 hV dX2_findBest_8 rfl ?_
      refine dr_geti (v := nI (sg_p s)) 9 hV dX2_findBest_9 (by decide) (by decide) rfl rfl rfl u1 ?_
      refine dn_icmp_gt (tgt := 51) 12 hV dX2_findBest_12 (by decide) (by omega) (by omega) (fun c12 => ?_) (fun c12 => ?_)
      · have hke : k = sg_p s + 1 := by omega
        subst hke
        obtain ⟨hno, hK⟩ := fb_no hz
        refine dr_sub hV (ls2 := [(0, .inr (.inr 4))]) rfl ?_
        exact k51 _ _ (by rw [hK]; exact hrw) (by rw [hl]; unfold q_least; rw [dz_B1 hno]) hB
      · refine dr_aload_n 15 hV dX2_findBest_15 rfl ?_
        refine dr_geti (v := (-1)) 16 hV dX2_findBest_16 (by decide) (by decide) rfl rfl rfl hl ?_
        refine dr_iconst (v := (-1)) 19 hV dX2_findBest_19 (by decide) ?_
        refine dr_icmp_ne (tgt := 51) 20 hV dX2_findBest_20 (by decide) (fun c20 => ?_) (fun c20 => ?_)
        · exact absurd rfl c20
        · refine dr_aload_n 23 hV dX2_findBest_23 rfl ?_
          refine dr_iload_n 24 hV dX2_findBest_24 rfl ?_
          refine dr_cv1 25 hV dz_lX2_68 dX2_findBest_25 (by decide) (by decide) ⟨by decide, _, _, rfl, by decide, rfl⟩ (Nat.le_of_ble_eq_true rfl) (c_X2_reachWith π _ _ hO c12 hrw) (fun r3 I3 J3 hf => ?_)
          obtain ⟨rfl, hrw3a, hf3⟩ := hf
          have hrw3 := hrw3a.next
          obtain ⟨hS3, P3, w3, hM3, -, hl3, hz3⟩ := id hrw3
          have hlP := hl3 (sg_p s) (Nat.zero_le _) (Nat.le_refl _)
          have hc6 := hlP.1.le
          have u3 := hS3.1
          refine dr_aload_n 28 hV dX2_findBest_28 rfl ?_
          refine dr_geta 29 hV dX2_findBest_29 (by decide) (by decide) rfl rfl rfl ?_
          refine dr_aload_n 32 hV dX2_findBest_32 rfl ?_
          refine dr_geti (v := nI (sg_p s)) 33 hV dX2_findBest_33 (by decide) (by decide) rfl rfl rfl u3 ?_
          refine dr_iald (v := nI (P3.1 (sg_p s))) 36 hV dX2_findBest_36 (by decide) rfl rfl (by omega) (by decide) (hM3.1 _ (by omega)) ?_
          refine dr_if_le (tgt := 45) 37 hV dX2_findBest_37 (by decide) (fun c37 => ?_) (fun c37 => ?_)
          · have hz0 : P3.1 (sg_p s) = 0 := by have := (nI_leI (by omega) (by decide)).mp (show nI (P3.1 (sg_p s)) ≤ nI 0 from c37); omega
            refine dr_iinc1 45 hV dX2_findBest_45 (by decide) rfl ?_
            refine dr_goto (tgt := 7) 48 hV dX2_findBest_48 (by decide) ?_
            refine dr_sub hV (ls2 := [(0, .inr (.inr 4)), (1, .inl (nI (k + 1)))]) rfl ?_
            exact ih (k + 1) _ _ (by omega) (by omega) hrw3 (by rw [hf3 4 10 (by omega) (by omega)]; exact hl) (fun j hj => by
              rcases Nat.lt_or_ge j k with z | z
              · exact hz j z
              · rw [show j = k by omega]; exact fb_zero hO hlP hz0) (fun a b q1 q2 q3 => (hf3 a b q1 q2).trans (hB a b q1 q2 q3))
          · have hpos : 0 < P3.1 (sg_p s) := Nat.pos_of_ne_zero (fun z => c37 (by rw [z]; decide))
            obtain ⟨hno, hLk, hK⟩ := fb_K hO c12 hz (fb_found hO hlP hpos hz)
            have hrw9 := hrw3.w (v := nI k)
            have hS9 := hrw9.1
            have hB9 : frB I (dz_wi I3 4 10 (nI k)) := fun a b q1 q2 q3 => by rw [dz_wi_n _ _ q3, hf3 a b q1 q2]; exact hB a b q1 q2 q3
            refine dr_aload_n 40 hV dX2_findBest_40 rfl ?_
            refine dr_iload_n 41 hV dX2_findBest_41 rfl ?_
            refine dr_puti 42 hV dX2_findBest_42 (by decide) (by decide) rfl rfl rfl rfl rfl rfl ?_
            refine dr_iinc1 45 hV dX2_findBest_45 (by decide) rfl ?_
            refine dr_goto (tgt := 7) 48 hV dX2_findBest_48 (by decide) ?_
            refine dr_sub hV (ls2 := [(0, .inr (.inr 4)), (1, .inl (nI (k + 1)))]) rfl ?_
            refine dr_iload_n 7 hV dX2_findBest_7 rfl ?_
            refine dr_aload_n 8 hV dX2_findBest_8 rfl ?_
            refine dr_geti (v := nI (sg_p s)) 9 hV dX2_findBest_9 (by decide) (by decide) rfl rfl rfl hS9.1 ?_
            refine dn_icmp_gt (tgt := 51) 12 hV dX2_findBest_12 (by decide) (by omega) (by omega) (fun c12 => ?_) (fun c12 => ?_)
            · refine dr_sub hV (ls2 := [(0, .inr (.inr 4))]) rfl ?_
              exact k51 _ _ (by rw [hK]; exact hrw9) (by rw [dz_wi_s]; unfold q_least; rw [dz_B0 hno, hLk]) hB9
            · refine dr_aload_n 15 hV dX2_findBest_15 rfl ?_
              refine dr_geti (v := nI k) 16 hV dX2_findBest_16 (by decide) (by decide) rfl rfl rfl (dz_wi_s _ _ _ _) ?_
              refine dr_iconst (v := (-1)) 19 hV dX2_findBest_19 (by decide) ?_
              refine dr_icmp_ne (tgt := 51) 20 hV dX2_findBest_20 (by decide) (fun c20 => ?_) (fun c20 => ?_)
              · refine dr_sub hV (ls2 := [(0, .inr (.inr 4))]) rfl ?_
                exact k51 _ _ (by rw [hK]; exact hrw9) (by rw [dz_wi_s]; unfold q_least; rw [dz_B0 hno, hLk]) hB9
              · exact absurd c20 (dz_m1n (by omega))
  refine dr_aload_n 0 hV dX2_findBest_0 rfl ?_
  refine dr_iconst (v := (-1)) 1 hV dX2_findBest_1 (by decide) ?_
  refine dr_puti 2 hV dX2_findBest_2 (by decide) (by decide) rfl rfl rfl rfl rfl rfl ?_
  refine dr_iconst (v := nI 0) 5 hV dX2_findBest_5 (by decide) ?_
  refine dr_istore_n 6 hV dX2_findBest_6 (by decide) ?_
  refine dr_sub hV (ls2 := [(0, .inr (.inr 4)), (1, .inl (nI (0)))]) rfl ?_
  exact loop (sg_p s + 2) 0 _ _ (by omega) (by omega) h0.w (dz_wi_s _ _ _ _) (fun j hj => absurd hj (by omega)) (fun a b q1 q2 q3 => dz_wi_n _ _ q3)
