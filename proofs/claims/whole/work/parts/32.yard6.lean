/-! the yard is told: column -/
def ck_X (Ib I : dz_MI) (p c i : Nat) : Prop := (∀ j, p ≤ j → j < p + i → I 11 j = nI c) ∧ ∀ a j, ¬ (a = 11 ∧ p ≤ j ∧ j < p + i) → I a j = Ib a j
theorem ck_X.s {Ib I : dz_MI} {p c i : Nat} (h : ck_X Ib I p c i) : ck_X Ib (dz_wi I 11 (p + i) (nI c)) p c (i + 1) := by
  refine ⟨fun j h1 h2 => ?_, fun a j h1 => ?_⟩
  · by_cases e : j = p + i
    · subst e; rw [dz_wi_s]
    · rw [dz_wi_n _ _ (by omega)]; exact h.1 j h1 (by omega)
  · rw [dz_wi_n _ _ (by omega)]; exact h.2 a j (by omega)
def ck_P (c p m : Nat) (lo hi : Int32) (I : dz_MI) (J : dz_MJ) : Option dz_AV → dz_MI → dz_MJ → Prop := fun r I2 J2 => r = some (.inl (nI c)) ∧ J2 = J ∧ I2 2 6 = nI (c + 1) ∧ I2 2 7 = nI (p + m) ∧ (I2 7 c = nI p ∧ I2 8 c = nI m ∧ I2 9 c = lo ∧ I2 10 c = hi) ∧ (∀ j, p ≤ j → j < p + m → I2 11 j = nI c) ∧ ∀ a j, ¬ (a = 2 ∧ (j = 6 ∨ j = 7)) → ¬ ((a = 7 ∨ a = 8 ∨ a = 9 ∨ a = 10) ∧ j = c) → ¬ (a = 11 ∧ p ≤ j ∧ j < p + m) → I2 a j = I a j
theorem ck_m {c p m : Nat} {lo hi : Int32} {I I2 : dz_MI} {J : dz_MJ} (hx : ck_X (dz_wi (dz_wi (dz_wi (dz_wi I 7 c (nI p)) 8 c (nI m)) 9 c lo) 10 c hi) I2 p c m) : ck_P c p m lo hi I J (some (.inl (nI c))) (dz_wi (dz_wi I2 2 7 (nI (p + m))) 2 6 (nI (c + 1))) J := by
  refine ⟨rfl, rfl, dz_wi_s _ _ _ _, by rw [dz_wi_n _ _ (by omega), dz_wi_s], ⟨?_, ?_, ?_, ?_⟩, fun j h1 h2 => by rw [dz_wi_n _ _ (by omega), dz_wi_n _ _ (by omega)]; exact hx.1 j h1 h2, fun a j h1 h2 h3 => ?_⟩
  · rw [dz_wi_n _ _ (by omega), dz_wi_n _ _ (by omega), hx.2 _ _ (by omega)]; simp [dz_wi]
  · rw [dz_wi_n _ _ (by omega), dz_wi_n _ _ (by omega), hx.2 _ _ (by omega)]; simp [dz_wi]
  · rw [dz_wi_n _ _ (by omega), dz_wi_n _ _ (by omega), hx.2 _ _ (by omega)]; simp [dz_wi]
  · rw [dz_wi_n _ _ (by omega), dz_wi_n _ _ (by omega), hx.2 _ _ (by omega)]; simp [dz_wi]
  · rw [dz_wi_n _ _ (by omega), dz_wi_n _ _ (by omega), hx.2 a j h3, dz_wi_n _ _ (by omega), dz_wi_n _ _ (by omega), dz_wi_n _ _ (by omega), dz_wi_n _ _ (by omega)]
set_option maxRecDepth 100000 in
set_option maxHeartbeats 4000000 in
theorem c_X0_take (π : dz_Pl) {c p m : Nat} (lo hi : Int32) (I : dz_MI) (J : dz_MJ) (hc : I 2 6 = nI c) (hp : I 2 7 = nI p) (hc2 : c < 4) (hp2 : p + m ≤ 8) : dz_Cl π dz_Y 62 mX0_take 1 21 [.inr (.inr 2), .inl (nI m), .inl lo, .inl hi] I J (ck_P c p m lo hi I J) := by
  refine dz_body (own := 0) dz_mX0_take rfl (Nat.le_of_ble_eq_true rfl) (fun V hV => ?_)
  have loop : ∀ (fu i : Nat), m < i + fu → i ≤ m → ∀ I2 : dz_MI, ck_X (dz_wi (dz_wi (dz_wi (dz_wi I 7 c (nI p)) 8 c (nI m)) 9 c lo) 10 c hi) I2 p c i → V 56 I2 J [(0, .inr (.inr 2)), (1, .inl (nI m)), (4, .inl (nI (i)))] [] := by
    intro fu
    induction fu with
    | zero => intro i h1 h2; exact absurd h1 (by omega)
    | succ fu ih =>
      intro i h1 h2 I2 hx
      refine dr_iload 56 hV dX0_take_56 rfl ?_
      refine dr_iload_n 58 hV dX0_take_58 rfl ?_
      refine dn_icmp_ge (tgt := 84) 59 hV dX0_take_59 (by decide) (by omega) (by omega) (fun c59 => ?_) (fun c59 => ?_)
      · have him : i = m := by omega
        subst him
        refine dr_aload_n 84 hV dX0_take_84 rfl ?_
        refine dr_dup 85 hV dX0_take_85 rfl ?_
        refine dr_geti (v := nI p) 86 hV dX0_take_86 (by decide) (by decide) rfl rfl rfl (by rw [hx.2 2 7 (by omega)]; (repeat rw [dz_wi_n _ _ (by omega)]); exact hp) ?_
        refine dr_iload_n 89 hV dX0_take_89 rfl ?_
        refine dr_iadd (z := nI (p + i)) 90 hV dX0_take_90 (nI_add _ _) ?_
        refine dr_puti 91 hV dX0_take_91 (by decide) (by decide) rfl rfl rfl rfl rfl rfl ?_
        refine dr_aload_n 94 hV dX0_take_94 rfl ?_
        refine dr_dup 95 hV dX0_take_95 rfl ?_
        refine dr_geti (v := nI c) 96 hV dX0_take_96 (by decide) (by decide) rfl rfl rfl (by rw [dz_wi_n _ _ (by omega), hx.2 2 6 (by omega)]; (repeat rw [dz_wi_n _ _ (by omega)]); exact hc) ?_
        refine dr_iconst (v := nI 1) 99 hV dX0_take_99 (by decide) ?_
        refine dr_iadd (z := nI (c + 1)) 100 hV dX0_take_100 (nI_1 _) ?_
        refine dr_puti 101 hV dX0_take_101 (by decide) (by decide) rfl rfl rfl rfl rfl rfl ?_
        refine dr_aload_n 104 hV dX0_take_104 rfl ?_
        refine dr_geti (v := nI (c + 1)) 105 hV dX0_take_105 (by decide) (by decide) rfl rfl rfl (dz_wi_s _ _ _ _) ?_
        refine dr_iconst (v := nI 1) 108 hV dX0_take_108 (by decide) ?_
        refine dr_isub (z := nI c) 109 hV dX0_take_109 (by rw [pk_sub (by omega)]; rfl) ?_
        exact dr_iret 110 hV dX0_take_110 rfl (by first | rfl | exact dz_bn) (ck_m hx)
      · refine dr_aload_n 62 hV dX0_take_62 rfl ?_
        refine dr_geta 63 hV dX0_take_63 (by decide) (by decide) rfl rfl rfl ?_
        refine dr_aload_n 66 hV dX0_take_66 rfl ?_
        refine dr_geti (v := nI p) 67 hV dX0_take_67 (by decide) (by decide) rfl rfl rfl (by rw [hx.2 2 7 (by omega)]; (repeat rw [dz_wi_n _ _ (by omega)]); exact hp) ?_
        refine dr_iload 70 hV dX0_take_70 rfl ?_
        refine dr_iadd (z := nI (p + i)) 72 hV dX0_take_72 (nI_add _ _) ?_
        refine dr_aload_n 73 hV dX0_take_73 rfl ?_
        refine dr_geti (v := nI c) 74 hV dX0_take_74 (by decide) (by decide) rfl rfl rfl (by rw [hx.2 2 6 (by omega)]; (repeat rw [dz_wi_n _ _ (by omega)]); exact hc) ?_
        refine dr_iast 77 hV dX0_take_77 (by decide) rfl rfl (by omega) (by decide) ?_
        refine dr_iinc1 78 hV dX0_take_78 (by decide) rfl ?_
        refine dr_goto (tgt := 56) 81 hV dX0_take_81 (by decide) ?_
        refine dr_sub hV (ls2 := [(0, .inr (.inr 2)), (1, .inl (nI m)), (4, .inl (nI (i + 1)))]) rfl ?_
        exact ih (i + 1) (by omega) (by omega) _ hx.s
  refine dr_aload_n 0 hV dX0_take_0 rfl ?_
  refine dr_iload_n 1 hV dX0_take_1 rfl ?_
  refine dr_cvp1 2 hV dz_lX0_37 dX0_take_2 (by decide) (by decide) ⟨by decide, _, _, rfl, by decide, rfl⟩ (Nat.le_of_ble_eq_true rfl) (c_X0_canTakeOne π _ _ _) ?_
  first | refine dr_ifb_ne (tgt := 10) 5 hV dX0_take_5 (by decide) (fun c5 => ?_) (fun c5 => ?_) | refine dr_if_ne (tgt := 10) 5 hV dX0_take_5 (by decide) (fun c5 => ?_) (fun c5 => ?_)
  · refine dr_aload_n 10 hV dX0_take_10 rfl ?_
    refine dr_geta 11 hV dX0_take_11 (by decide) (by decide) rfl rfl rfl ?_
    refine dr_aload_n 14 hV dX0_take_14 rfl ?_
    refine dr_geti (v := nI c) 15 hV dX0_take_15 (by decide) (by decide) rfl rfl rfl (by (repeat rw [dz_wi_n _ _ (by omega)]); exact hc) ?_
    refine dr_aload_n 18 hV dX0_take_18 rfl ?_
    refine dr_geti (v := nI p) 19 hV dX0_take_19 (by decide) (by decide) rfl rfl rfl (by (repeat rw [dz_wi_n _ _ (by omega)]); exact hp) ?_
    refine dr_iast 22 hV dX0_take_22 (by decide) rfl rfl (by omega) (by decide) ?_
    refine dr_aload_n 23 hV dX0_take_23 rfl ?_
    refine dr_geta 24 hV dX0_take_24 (by decide) (by decide) rfl rfl rfl ?_
    refine dr_aload_n 27 hV dX0_take_27 rfl ?_
    refine dr_geti (v := nI c) 28 hV dX0_take_28 (by decide) (by decide) rfl rfl rfl (by (repeat rw [dz_wi_n _ _ (by omega)]); exact hc) ?_
    refine dr_iload_n 31 hV dX0_take_31 rfl ?_
    refine dr_iast 32 hV dX0_take_32 (by decide) rfl rfl (by omega) (by decide) ?_
    refine dr_aload_n 33 hV dX0_take_33 rfl ?_
    refine dr_geta 34 hV dX0_take_34 (by decide) (by decide) rfl rfl rfl ?_
    refine dr_aload_n 37 hV dX0_take_37 rfl ?_
    refine dr_geti (v := nI c) 38 hV dX0_take_38 (by decide) (by decide) rfl rfl rfl (by (repeat rw [dz_wi_n _ _ (by omega)]); exact hc) ?_
    refine dr_iload_n 41 hV dX0_take_41 rfl ?_
    refine dr_iast 42 hV dX0_take_42 (by decide) rfl rfl (by omega) (by decide) ?_
    refine dr_aload_n 43 hV dX0_take_43 rfl ?_
    refine dr_geta 44 hV dX0_take_44 (by decide) (by decide) rfl rfl rfl ?_
    refine dr_aload_n 47 hV dX0_take_47 rfl ?_
    refine dr_geti (v := nI c) 48 hV dX0_take_48 (by decide) (by decide) rfl rfl rfl (by (repeat rw [dz_wi_n _ _ (by omega)]); exact hc) ?_
    refine dr_iload_n 51 hV dX0_take_51 rfl ?_
    refine dr_iast 52 hV dX0_take_52 (by decide) rfl rfl (by omega) (by decide) ?_
    refine dr_iconst (v := nI 0) 53 hV dX0_take_53 (by decide) ?_
    refine dr_istore 54 hV dX0_take_54 (by decide) ?_
    refine dr_sub hV (ls2 := [(0, .inr (.inr 2)), (1, .inl (nI m)), (4, .inl (nI (0)))]) rfl ?_
    exact loop (m + 1) 0 (by omega) (Nat.zero_le _) _ ⟨fun j h1 h2 => absurd h2 (by omega), fun a j h => rfl⟩
  · exact absurd ⟨by rw [hc]; exact (nI_ltI (by omega) (by decide)).mpr hc2, by rw [hp, nI_add]; exact (nI_leI (by omega) (by decide)).mpr hp2⟩ c5
theorem col_S {s : dz_Sg} {m : Nat} {lo hi : Int32} {I I2 : dz_MI} {J J2 : dz_MJ} {r : Option dz_AV} (hO : dz_OK s) (hok : ok_column s (nI m) lo hi) (hm : 1 ≤ m ∧ m ≤ 5) (hp : sg_p s + m ≤ 8) (hR : dz_RY s I) (hf : ck_P (sg_c s) (sg_p s) m lo hi (dz_wi I 0 7 (nI 1)) J r I2 J2) : yd_S s (sn_column s (nI m) lo hi) (.inl (a_column s (nI m) lo hi)) I J r I2 J2 := by
  obtain ⟨y1, y2, y3, y4, y5, y6, y7, y8, y9, y10, y11, y12, y13⟩ := hR
  obtain ⟨f1, f2, f3, f4, ⟨f5, f6, f7, f8⟩, f9, f10⟩ := hf
  have hn := hO.1
  have hc := hok.1
  have g : ∀ a j, ¬ (a = 2 ∧ (j = 6 ∨ j = 7)) → ¬ ((a = 7 ∨ a = 8 ∨ a = 9 ∨ a = 10) ∧ j = sg_c s) → ¬ (a = 11 ∧ sg_p s ≤ j ∧ j < sg_p s + m) → ¬ (a = 0 ∧ j = 7) → I2 a j = I a j := fun x k h1 h2 h3 h4 => by
    rw [f10 x k h1 h2 h3, dz_wi_n _ _ h4]
  refine ⟨by rw [f1, a_column, dz_B1 hok], ?_, f2, fun c k h1 h2 => by rw [g c k (by omega) (by omega) (by omega) (by omega)], fun k => by rw [g 4 k (by omega) (by omega) (by omega) (by omega)], Or.inl (by rw [f10 0 7 (by omega) (by omega) (by omega), dz_wi_s])⟩
  rw [sn_column, dz_B1 hok, nI_clamp (show m < 2 ^ 31 by omega)]
  have G : ∀ a j, (a = 0 ∧ j < 7) ∨ a = 1 ∨ a = 6 ∨ 13 ≤ a → I2 a j = I a j := fun a j h => g a j (by omega) (by omega) (by omega) (by omega)
  refine ⟨by rw [G _ _ (by omega)]; exact y1, f3, f4, by rw [G _ _ (by omega)]; exact y4, by rw [G _ _ (by omega)]; exact y5, by rw [G _ _ (by omega)]; exact y6, by rw [G _ _ (by omega)]; exact y7, fun k hk => by rw [G _ _ (by omega)]; exact y8 k hk, fun d w hd hw => by rw [G _ _ (by omega)]; exact y9 d w hd hw, fun k hk => ?_, fun q hq => ?_, fun q hq hq2 => by have hq3 : sg_p s + m ≤ q := hq2; rw [G _ _ (by omega)]; exact y12 q hq (by omega), fun q hq => by rw [G _ _ (by omega)]; exact y13 q hq⟩
  · have hk2 : k < sg_c s + 1 := hk
    show _ = (if k = sg_c s then lo else sg_fo s k) ∧ _ = (if k = sg_c s then hi else sg_he s k) ∧ _ = nI (if k = sg_c s then sg_p s else sg_b s k) ∧ _ = nI (if k = sg_c s then m else sg_h s k)
    by_cases e : k = sg_c s
    · subst e
      simp only [if_pos]
      exact ⟨f7, f8, f5, f6⟩
    · simp only [if_neg e]
      rw [g 9 k (by omega) (by omega) (by omega) (by omega), g 10 k (by omega) (by omega) (by omega) (by omega), g 7 k (by omega) (by omega) (by omega) (by omega), g 8 k (by omega) (by omega) (by omega) (by omega)]
      exact y10 k (by omega)
  · have hq2 : q < sg_p s + m := hq
    show _ = nI (if sg_p s ≤ q then sg_c s else sg_col s q) ∧ _ = (if sg_p s ≤ q then (-1 : Int32) else sg_wo s q)
    rw [G 13 q (by omega)]
    by_cases e : sg_p s ≤ q
    · simp only [if_pos e]
      exact ⟨f9 q e hq2, y12 q (by omega) e⟩
    · simp only [if_neg e]
      rw [g 11 q (by omega) (by omega) (by omega) (by omega)]
      exact y11 q (by omega)
set_option maxRecDepth 100000 in
set_option maxHeartbeats 4000000 in
theorem c_X4_column (π : dz_Pl) {s : dz_Sg} (mm lo hi : Int32) (I : dz_MI) (J : dz_MJ) (hO : dz_OK s) (hR : dz_RY s I) : dz_Cl π dz_Y 62 mX4_column 3 62 [.inr (.inr 0), .inl mm, .inl lo, .inl hi] I J (yd_S s (sn_column s mm lo hi) (.inl (a_column s mm lo hi)) I J) := by
  refine dz_body (own := 4) dz_mX4_column rfl (Nat.le_of_ble_eq_true rfl) (fun V hV => ?_)
  have hO2 := hO
  have hR2 := hR
  obtain ⟨o1, o2, o3, o4, o5, o6, o7, o8, o9⟩ := hO
  obtain ⟨y1, y2, y3, y4, y5, y6, y7, y8, y9, y10, y11, y12, y13⟩ := hR
  refine dr_iload_n 0 hV dX4_column_0 rfl ?_
  refine dr_iconst (v := nI 1) 1 hV dX4_column_1 (by decide) ?_
  refine dr_iconst (v := nI 5) 2 hV dX4_column_2 (by decide) ?_
  refine dr_csp3 3 hV (Or.inl dz_lX4_55) dX4_column_3 (by decide) (by decide) (Nat.le_of_ble_eq_true rfl) (c_X4_isWithin π _ _ _ _ _ _ _) ?_
  first | refine dr_ifb_eq (tgt := 34) 6 hV dX4_column_6 (by decide) (fun c6 => ?_) (fun c6 => ?_) | refine dr_if_eq (tgt := 34) 6 hV dX4_column_6 (by decide) (fun c6 => ?_) (fun c6 => ?_)
  · have hno : ¬ ok_column s mm lo hi := fun z => c6 z.2.1
    refine dr_iconst (v := (-1)) 34 hV dX4_column_34 (by decide) ?_
    exact dr_iret 35 hV dX4_column_35 rfl (by first | rfl | exact dz_bn) ⟨by rw [a_column, dz_B0 hno], by rw [sn_column, dz_B0 hno]; exact hR2, rfl, fun _ _ _ _ => rfl, fun _ => rfl, Or.inr ⟨rfl, by rw [sn_column, dz_B0 hno]; exact sg_eqp.rf s⟩⟩
  · obtain ⟨m, hm1, hm2, rfl⟩ := col_m c6
    have hm : 1 ≤ m ∧ m ≤ 5 := ⟨hm1, hm2⟩
    refine dr_iload_n 9 hV dX4_column_9 rfl ?_
    refine dr_csp1 10 hV (Or.inl dz_lX4_75) dX4_column_10 (by decide) (by decide) (Nat.le_of_ble_eq_true rfl) (c_X4_isWidthOrUntold π _ _ _ _ _) ?_
    first | refine dr_ifb_eq (tgt := 34) 13 hV dX4_column_13 (by decide) (fun c13 => ?_) (fun c13 => ?_) | refine dr_if_eq (tgt := 34) 13 hV dX4_column_13 (by decide) (fun c13 => ?_) (fun c13 => ?_)
    · have hno : ¬ ok_column s (nI m) lo hi := fun z => c13 z.2.2.2.1
      refine dr_iconst (v := (-1)) 34 hV dX4_column_34 (by decide) ?_
      exact dr_iret 35 hV dX4_column_35 rfl (by first | rfl | exact dz_bn) ⟨by rw [a_column, dz_B0 hno], by rw [sn_column, dz_B0 hno]; exact hR2, rfl, fun _ _ _ _ => rfl, fun _ => rfl, Or.inr ⟨rfl, by rw [sn_column, dz_B0 hno]; exact sg_eqp.rf s⟩⟩
    · refine dr_iload_n 16 hV dX4_column_16 rfl ?_
      refine dr_csp1 17 hV (Or.inl dz_lX4_75) dX4_column_17 (by decide) (by decide) (Nat.le_of_ble_eq_true rfl) (c_X4_isWidthOrUntold π _ _ _ _ _) ?_
      first | refine dr_ifb_eq (tgt := 34) 20 hV dX4_column_20 (by decide) (fun c20 => ?_) (fun c20 => ?_) | refine dr_if_eq (tgt := 34) 20 hV dX4_column_20 (by decide) (fun c20 => ?_) (fun c20 => ?_)
      · have hno : ¬ ok_column s (nI m) lo hi := fun z => c20 z.2.2.2.2
        refine dr_iconst (v := (-1)) 34 hV dX4_column_34 (by decide) ?_
        exact dr_iret 35 hV dX4_column_35 rfl (by first | rfl | exact dz_bn) ⟨by rw [a_column, dz_B0 hno], by rw [sn_column, dz_B0 hno]; exact hR2, rfl, fun _ _ _ _ => rfl, fun _ => rfl, Or.inr ⟨rfl, by rw [sn_column, dz_B0 hno]; exact sg_eqp.rf s⟩⟩
      · refine dr_aload_n 23 hV dX4_column_23 rfl ?_
        refine dr_geta 24 hV dX4_column_24 (by decide) (by decide) rfl rfl rfl ?_
        refine dr_iload_n 27 hV dX4_column_27 rfl ?_
        refine dr_cvp1 28 hV dz_lX4_78 dX4_column_28 (by decide) (by decide) ⟨by decide, _, _, rfl, by decide, rfl⟩ (Nat.le_of_ble_eq_true rfl) (c_X0_canTakeOne π _ _ _) ?_
        first | refine dr_ifb_ne (tgt := 36) 31 hV dX4_column_31 (by decide) (fun c31 => ?_) (fun c31 => ?_) | refine dr_if_ne (tgt := 36) 31 hV dX4_column_31 (by decide) (fun c31 => ?_) (fun c31 => ?_)
        · have hok : ok_column s (nI m) lo hi := ⟨(nI_ltI (by omega) (by decide)).mp (by rw [← y2]; exact c31.1), c6, by rw [← y3]; exact c31.2, c13, c20⟩
          have hp8 : sg_p s + m ≤ 8 := (nI_leI (by omega) (by decide)).mp (by rw [← nI_add]; exact hok.2.2.1)
          refine dr_aload_n 36 hV dX4_column_36 rfl ?_
          refine dr_iconst (v := nI 1) 37 hV dX4_column_37 (by decide) ?_
          refine dr_puti 38 hV dX4_column_38 (by decide) (by decide) rfl rfl rfl rfl rfl rfl ?_
          refine dr_aload_n 41 hV dX4_column_41 rfl ?_
          refine dr_geta 42 hV dX4_column_42 (by decide) (by decide) rfl rfl rfl ?_
          refine dr_iload_n 45 hV dX4_column_45 rfl ?_
          refine dr_iload_n 46 hV dX4_column_46 rfl ?_
          refine dr_iload_n 47 hV dX4_column_47 rfl ?_
          refine dr_cv3 48 hV dz_lX4_80 dX4_column_48 (by decide) (by decide) ⟨by decide, _, _, rfl, by decide, rfl⟩ (Nat.le_of_ble_eq_true rfl) (c_X0_take π lo hi _ _ (c := sg_c s) (p := sg_p s) (m := m) (by (repeat rw [dz_wi_n _ _ (by omega)]); exact y2) (by (repeat rw [dz_wi_n _ _ (by omega)]); exact y3) hok.1 hp8) (fun r I2 J2 hf => ?_)
          have hr := hf.1
          subst hr
          exact dr_iret 51 hV dX4_column_51 rfl (by first | rfl | exact dz_bn) (col_S hO2 hok hm hp8 hR2 hf)
        · have hno : ¬ ok_column s (nI m) lo hi := fun z => c31 ⟨by rw [y2]; exact (nI_ltI (by omega) (by decide)).mpr z.1, by rw [y3]; exact z.2.2.1⟩
          refine dr_iconst (v := (-1)) 34 hV dX4_column_34 (by decide) ?_
          exact dr_iret 35 hV dX4_column_35 rfl (by first | rfl | exact dz_bn) ⟨by rw [a_column, dz_B0 hno], by rw [sn_column, dz_B0 hno]; exact hR2, rfl, fun _ _ _ _ => rfl, fun _ => rfl, Or.inr ⟨rfl, by rw [sn_column, dz_B0 hno]; exact sg_eqp.rf s⟩⟩
