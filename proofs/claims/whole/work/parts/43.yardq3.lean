/-! the yard's setting -/
theorem dz_RY.f12 {s : dz_Sg} {I I2 : dz_MI} (hn : sg_n s ≤ 10) (h : dz_RY s I) (hF : ∀ a k, ¬ a = 12 → I2 a k = I a k) : dz_RY s I2 := by
  obtain ⟨y1, y2, y3, y4, y5, y6, y7, y8, y9, y10, y11, y12, y13⟩ := h
  refine ⟨by rw [hF _ _ (by omega)]; exact y1, by rw [hF _ _ (by omega)]; exact y2, by rw [hF _ _ (by omega)]; exact y3, by rw [hF _ _ (by omega)]; exact y4, by rw [hF _ _ (by omega)]; exact y5, by rw [hF _ _ (by omega)]; exact y6, by rw [hF _ _ (by omega)]; exact y7, fun k hk => by rw [hF _ _ (by omega)]; exact y8 k hk, fun d w hd hw => by rw [hF _ _ (by omega)]; exact y9 d w hd hw, fun k hk => ?_, fun q hq => ?_, fun q hq hq2 => by rw [hF _ _ (by omega)]; exact y12 q hq hq2, fun q hq => by rw [hF _ _ (by omega)]; exact y13 q hq⟩
  · rw [hF 9 _ (by omega), hF 10 _ (by omega), hF 7 _ (by omega), hF 8 _ (by omega)]; exact y10 k hk
  · rw [hF 11 _ (by omega), hF 13 _ (by omega)]; exact y11 q hq
theorem CL.fr {I I2 : dz_MI} {J J2 : dz_MJ} (h : CL I J) (hI : ∀ a k, (a = 22 ∨ 43 ≤ a) → I2 a k = I a k) (hJ : ∀ a k, 34 ≤ a → a < 43 → J2 a k = J a k) : CL I2 J2 := by
  obtain ⟨P, h1, h2, h3, h4⟩ := h
  exact ⟨P, h1.fr2 (fun a k z => hI a k (by omega)) hJ, h2, h3, fun f hf => by rw [hI _ _ (by omega)]; exact h4 f hf⟩
theorem YI.f12 {s : dz_Sg} {I I2 : dz_MI} {J : dz_MJ} (hn : sg_n s ≤ 10) (h : YI s I J) (hF : ∀ a k, ¬ a = 12 → I2 a k = I a k) : YI s I2 J := by
  obtain ⟨h1, h2, h3⟩ := h
  refine ⟨h1.f12 hn hF, h2.fr (fun a k z => hF a k (by omega)) (fun _ _ _ _ => rfl), ?_⟩
  rw [hF 0 7 (by omega)]
  exact h3.imp id (fun z => ⟨z.1, z.2.fr (fun a k y => hF a k (by omega)) rfl⟩)
def an_P (s : dz_Sg) (k : Nat → Nat) (o f : Int32) : Prop := ∀ j, j < sg_c s → o = nI j → (k j = sg_h s j ∨ f ≤ nI (k j))
set_option maxRecDepth 100000 in
set_option maxHeartbeats 4000000 in
theorem c_X0_allowsNext (π : dz_Pl) {s : dz_Sg} {k : Nat → Nat} (v f : Int32) (I : dz_MI) (J : dz_MJ) (hO : dz_OK s) (hR : dz_RY s I) (hk : ∀ j, j < sg_c s → I 12 j = nI (k j) ∧ k j ≤ sg_h s j) : dz_Cl π dz_Y 62 mX0_allowsNext 1 21 [.inr (.inr 2), .inl v, .inl f] I J (dz_Pu (.inl (dz_bp (an_P s k v f))) I J) := by
  refine dz_body (own := 0) dz_mX0_allowsNext rfl (Nat.le_of_ble_eq_true rfl) (fun V hV => ?_)
  obtain ⟨o1, o2, o3, o4, o5, o6, o7, o8, o9⟩ := hO
  obtain ⟨y1, y2, y3, y4, y5, y6, y7, y8, y9, y10, y11, y12, y13⟩ := hR
  refine dr_aload_n 0 hV dX0_allowsNext_0 rfl ?_
  refine dr_iload_n 1 hV dX0_allowsNext_1 rfl ?_
  refine dr_cvp1 2 hV dz_lX0_44 dX0_allowsNext_2 (by decide) (by decide) ⟨by decide, _, _, rfl, by decide, rfl⟩ (Nat.le_of_ble_eq_true rfl) (c_X0_has π _ _ _) ?_
  first | refine dr_ifb_eq (tgt := 26) 5 hV dX0_allowsNext_5 (by decide) (fun c5 => ?_) (fun c5 => ?_) | refine dr_if_eq (tgt := 26) 5 hV dX0_allowsNext_5 (by decide) (fun c5 => ?_) (fun c5 => ?_)
  · have hA : an_P s k v f := fun j hj e => absurd (by rw [e]; exact dz_inI y2 hj (by omega)) c5
    refine dr_iconst (v := nI 1) 26 hV dX0_allowsNext_26 (by decide) ?_
    refine dr_goto (tgt := 31) 27 hV dX0_allowsNext_27 (by decide) ?_
    exact dr_iret 31 hV dX0_allowsNext_31 rfl rfl (by first | exact dz_bp1 hA | exact dz_bp0 hA)
  · obtain ⟨j, hj, rfl⟩ := dz_ofI y2 (by omega) c5
    obtain ⟨g4, g5, g6⟩ := o4 j hj
    obtain ⟨k1, k2⟩ := hk j hj
    have y8j := (y10 j hj).2.2.2
    refine dr_aload_n 8 hV dX0_allowsNext_8 rfl ?_
    refine dr_iload_n 9 hV dX0_allowsNext_9 rfl ?_
    refine dr_cvp1 10 hV dz_lX0_60 dX0_allowsNext_10 (by decide) (by decide) ⟨by decide, _, _, rfl, by decide, rfl⟩ (Nat.le_of_ble_eq_true rfl) (c_X0_isFull π _ _ (show j < 4 by omega)) ?_
    rw [y8j, k1]
    first | refine dr_ifb_ne (tgt := 26) 13 hV dX0_allowsNext_13 (by decide) (fun c13 => ?_) (fun c13 => ?_) | refine dr_if_ne (tgt := 26) 13 hV dX0_allowsNext_13 (by decide) (fun c13 => ?_) (fun c13 => ?_)
    · have hA : an_P s k (nI j) f := fun j2 hj2 e => by rw [nI_eq (by omega) (by omega)] at e; subst e; exact Or.inl (by have := (nI_leI (by omega) (by omega)).mp c13; omega)
      refine dr_iconst (v := nI 1) 26 hV dX0_allowsNext_26 (by decide) ?_
      refine dr_goto (tgt := 31) 27 hV dX0_allowsNext_27 (by decide) ?_
      exact dr_iret 31 hV dX0_allowsNext_31 rfl rfl (by first | exact dz_bp1 hA | exact dz_bp0 hA)
    · have hnf : ¬ k j = sg_h s j := fun e => c13 (by rw [e]; exact (nI_leI (by omega) (by omega)).mpr (Nat.le_refl _))
      refine dr_aload_n 16 hV dX0_allowsNext_16 rfl ?_
      refine dr_geta 17 hV dX0_allowsNext_17 (by decide) (by decide) rfl rfl rfl ?_
      refine dr_iload_n 20 hV dX0_allowsNext_20 rfl ?_
      refine dr_iald (v := nI (k j)) 21 hV dX0_allowsNext_21 (by decide) rfl rfl (by omega) (by decide) k1 ?_
      refine dr_iload_n 22 hV dX0_allowsNext_22 rfl ?_
      refine dr_icmp_lt (tgt := 30) 23 hV dX0_allowsNext_23 (by decide) (fun c23 => ?_) (fun c23 => ?_)
      · have hA : ¬ an_P s k (nI j) f := fun z => (z j hj rfl).elim hnf (fun y => Int32.not_le.mpr c23 y)
        refine dr_iconst (v := nI 0) 30 hV dX0_allowsNext_30 (by decide) ?_
        exact dr_iret 31 hV dX0_allowsNext_31 rfl rfl (by first | exact dz_bp1 hA | exact dz_bp0 hA)
      · have hA : an_P s k (nI j) f := fun j2 hj2 e => by rw [nI_eq (by omega) (by omega)] at e; subst e; exact Or.inr (Int32.not_lt.mp c23)
        refine dr_iconst (v := nI 1) 26 hV dX0_allowsNext_26 (by decide) ?_
        refine dr_goto (tgt := 31) 27 hV dX0_allowsNext_27 (by decide) ?_
        exact dr_iret 31 hV dX0_allowsNext_31 rfl rfl (by first | exact dz_bp1 hA | exact dz_bp0 hA)
theorem an_lev {s : dz_Sg} {a c : Nat} {k : Nat → Nat} (hO : dz_OK s) (hc : c < sg_c s) (ha : a ≤ 5) (hk : ∀ j, j < sg_c s → k j ≤ sg_h s j) : sg_lev s a k c ↔ ¬ k c = sg_h s c ∧ an_P s k (nI c - nI 1) (nI (k c + 1) - nI a) ∧ an_P s k (nI (c + 1)) (nI (k c + 1) - nI a) := by
  have h4 := hO.2.1
  have hle : ∀ j, j < sg_c s → (nI (k c + 1) - nI a ≤ nI (k j) ↔ k c + 1 ≤ k j + a) := fun j hj => by
    have := hk j hj
    have := hk c hc
    have := (hO.2.2.2.1 j hj).2.1
    have := (hO.2.2.2.1 c hc).2.1
    rw [fa_le, pk_sub_toInt (by omega) (by omega), nI_toInt (by omega)]
    omega
  unfold sg_lev an_P
  constructor
  · rintro ⟨h1, h2⟩
    refine ⟨h1, fun j hj e => ?_, fun j hj e => ?_⟩
    · rw [fa_eq, pk_sub_toInt (by omega) (by decide), nI_toInt (by omega)] at e
      exact (h2 j hj (Or.inl (by omega))).imp id (hle j hj).mpr
    · rw [nI_eq (by omega) (by omega)] at e
      exact (h2 j hj (Or.inr (by omega))).imp id (hle j hj).mpr
  · rintro ⟨h1, h2, h3⟩
    refine ⟨h1, fun j hj e => ?_⟩
    rcases e with e | e
    · exact (h2 j hj (by rw [fa_eq, pk_sub_toInt (by omega) (by decide), nI_toInt (by omega)]; omega)).imp id (hle j hj).mp
    · exact (h3 j hj (by rw [e])).imp id (hle j hj).mp
set_option maxRecDepth 100000 in
set_option maxHeartbeats 4000000 in
theorem c_X0_nextColumn (π : dz_Pl) {s : dz_Sg} {k : Nat → Nat} {a : Nat} (I : dz_MI) (J : dz_MJ) (hO : dz_OK s) (hR : dz_RY s I) (hk : ∀ j, j < sg_c s → I 12 j = nI (k j) ∧ k j ≤ sg_h s j) (ha5 : a ≤ 5) : dz_Cl π dz_Y 62 mX0_nextColumn 2 43 [.inr (.inr 2), .inl (nI a)] I J (dz_Pu (.inl (dz_find (fun c => dz_B (sg_lev s a k c)) (sg_c s))) I J) := by
  refine dz_body (own := 0) dz_mX0_nextColumn rfl (Nat.le_of_ble_eq_true rfl) (fun V hV => ?_)
  have hO2 := hO
  have hR2 := hR
  obtain ⟨o1, o2, o3, o4, o5, o6, o7, o8, o9⟩ := hO
  obtain ⟨y1, y2, y3, y4, y5, y6, y7, y8, y9, y10, y11, y12, y13⟩ := hR
  have loop : ∀ (fu i : Nat), sg_c s < i + fu → i ≤ sg_c s → (∀ j, j < i → ¬ sg_lev s a k j) → V 2 I J [(0, .inr (.inr 2)), (1, .inl (nI a)), (2, .inl (nI (i)))] [] := by
    intro fu
    induction fu with
    | zero => intro i h1 h2; exact absurd h1 (by omega)
    | succ fu ih =>
      intro i h1 h2 hi
      refine dr_iload_n 2 hV dX0_nextColumn_2 rfl ?_
      refine dr_aload_n 3 hV dX0_nextColumn_3 rfl ?_
      refine dr_geti 4 hV dX0_nextColumn_4 (by decide) (by decide) rfl rfl rfl y2 ?_
      refine dn_icmp_ge (tgt := 59) 7 hV dX0_nextColumn_7 (by decide) (by omega) (by omega) (fun c7 => ?_) (fun c7 => ?_)
      · refine dr_iconst (v := (-1)) 59 hV dX0_nextColumn_59 (by decide) ?_
        exact dr_iret 60 hV dX0_nextColumn_60 rfl (by first | rfl | exact dz_bn) (dz_pue (dz_find_n (p := fun c => dz_B (sg_lev s a k c)) (fun j hj => dz_Bf.mpr (hi j (by omega)))).symm)
      · obtain ⟨g4, g5, g6⟩ := o4 i c7
        obtain ⟨k1, k2⟩ := hk i c7
        have y8i := (y10 i c7).2.2.2
        have hal := an_lev hO2 c7 ha5 (fun j hj => (hk j hj).2)
        refine dr_aload_n 10 hV dX0_nextColumn_10 rfl ?_
        refine dr_geta 11 hV dX0_nextColumn_11 (by decide) (by decide) rfl rfl rfl ?_
        refine dr_iload_n 14 hV dX0_nextColumn_14 rfl ?_
        refine dr_iald (v := nI (k i)) 15 hV dX0_nextColumn_15 (by decide) rfl rfl (by omega) (by decide) k1 ?_
        refine dr_iconst (v := nI 1) 16 hV dX0_nextColumn_16 (by decide) ?_
        refine dr_iadd (z := nI (k i + 1)) 17 hV dX0_nextColumn_17 (nI_1 _) ?_
        refine dr_iload_n 18 hV dX0_nextColumn_18 rfl ?_
        refine dr_isub 19 hV dX0_nextColumn_19 rfl ?_
        refine dr_istore_n 20 hV dX0_nextColumn_20 (by decide) ?_
        refine dr_aload_n 21 hV dX0_nextColumn_21 rfl ?_
        refine dr_iload_n 22 hV dX0_nextColumn_22 rfl ?_
        refine dr_cvp1 23 hV dz_lX0_60 dX0_nextColumn_23 (by decide) (by decide) ⟨by decide, _, _, rfl, by decide, rfl⟩ (Nat.le_of_ble_eq_true rfl) (c_X0_isFull π _ _ (show i < 4 by omega)) ?_
        rw [y8i, k1]
        first | refine dr_ifb_ne (tgt := 53) 26 hV dX0_nextColumn_26 (by decide) (fun c26 => ?_) (fun c26 => ?_) | refine dr_if_ne (tgt := 53) 26 hV dX0_nextColumn_26 (by decide) (fun c26 => ?_) (fun c26 => ?_)
        · have hno : ¬ sg_lev s a k i := fun z => z.1 (by have := (nI_leI (by omega) (by omega)).mp c26; omega)
          refine dr_iinc1 53 hV dX0_nextColumn_53 (by decide) rfl ?_
          refine dr_goto (tgt := 2) 56 hV dX0_nextColumn_56 (by decide) ?_
          refine dr_sub hV (ls2 := [(0, .inr (.inr 2)), (1, .inl (nI a)), (2, .inl (nI (i + 1)))]) rfl ?_
          exact ih (i + 1) (by omega) (by omega) (lt_s hi hno)
        · have hnf : ¬ k i = sg_h s i := fun e => c26 (by rw [e]; exact (nI_leI (by omega) (by omega)).mpr (Nat.le_refl _))
          refine dr_aload_n 29 hV dX0_nextColumn_29 rfl ?_
          refine dr_iload_n 30 hV dX0_nextColumn_30 rfl ?_
          refine dr_iconst (v := nI 1) 31 hV dX0_nextColumn_31 (by decide) ?_
          refine dr_isub 32 hV dX0_nextColumn_32 rfl ?_
          refine dr_iload_n 33 hV dX0_nextColumn_33 rfl ?_
          refine dr_cvp2 34 hV dz_lX0_63 dX0_nextColumn_34 (by decide) (by decide) ⟨by decide, _, _, rfl, by decide, rfl⟩ (Nat.le_of_ble_eq_true rfl) (c_X0_allowsNext π _ _ _ _ hO2 hR2 hk) ?_
          first | refine dr_ifb_eq (tgt := 53) 37 hV dX0_nextColumn_37 (by decide) (fun c37 => ?_) (fun c37 => ?_) | refine dr_if_eq (tgt := 53) 37 hV dX0_nextColumn_37 (by decide) (fun c37 => ?_) (fun c37 => ?_)
          · have hno : ¬ sg_lev s a k i := fun z => c37 (hal.mp z).2.1
            refine dr_iinc1 53 hV dX0_nextColumn_53 (by decide) rfl ?_
            refine dr_goto (tgt := 2) 56 hV dX0_nextColumn_56 (by decide) ?_
            refine dr_sub hV (ls2 := [(0, .inr (.inr 2)), (1, .inl (nI a)), (2, .inl (nI (i + 1)))]) rfl ?_
            exact ih (i + 1) (by omega) (by omega) (lt_s hi hno)
          · refine dr_aload_n 40 hV dX0_nextColumn_40 rfl ?_
            refine dr_iload_n 41 hV dX0_nextColumn_41 rfl ?_
            refine dr_iconst (v := nI 1) 42 hV dX0_nextColumn_42 (by decide) ?_
            refine dr_iadd (z := nI (i + 1)) 43 hV dX0_nextColumn_43 (nI_1 _) ?_
            refine dr_iload_n 44 hV dX0_nextColumn_44 rfl ?_
            refine dr_cvp2 45 hV dz_lX0_63 dX0_nextColumn_45 (by decide) (by decide) ⟨by decide, _, _, rfl, by decide, rfl⟩ (Nat.le_of_ble_eq_true rfl) (c_X0_allowsNext π _ _ _ _ hO2 hR2 hk) ?_
            first | refine dr_ifb_eq (tgt := 53) 48 hV dX0_nextColumn_48 (by decide) (fun c48 => ?_) (fun c48 => ?_) | refine dr_if_eq (tgt := 53) 48 hV dX0_nextColumn_48 (by decide) (fun c48 => ?_) (fun c48 => ?_)
            · have hno : ¬ sg_lev s a k i := fun z => c48 (hal.mp z).2.2
              refine dr_iinc1 53 hV dX0_nextColumn_53 (by decide) rfl ?_
              refine dr_goto (tgt := 2) 56 hV dX0_nextColumn_56 (by decide) ?_
              refine dr_sub hV (ls2 := [(0, .inr (.inr 2)), (1, .inl (nI a)), (2, .inl (nI (i + 1)))]) rfl ?_
              exact ih (i + 1) (by omega) (by omega) (lt_s hi hno)
            · have hyes : sg_lev s a k i := hal.mpr ⟨hnf, c37, c48⟩
              refine dr_iload_n 51 hV dX0_nextColumn_51 rfl ?_
              exact dr_iret 52 hV dX0_nextColumn_52 rfl (by first | rfl | exact dz_bn) (dz_pue (dz_find_s (p := fun c => dz_B (sg_lev s a k c)) c7 (dz_Bt.mpr hyes) (fun j hj => dz_Bf.mpr (hi j hj))).symm)
  refine dr_iconst (v := nI 0) 0 hV dX0_nextColumn_0 (by decide) ?_
  refine dr_istore_n 1 hV dX0_nextColumn_1 (by decide) ?_
  refine dr_sub hV (ls2 := [(0, .inr (.inr 2)), (1, .inl (nI a)), (2, .inl (nI (0)))]) rfl ?_
  exact loop (sg_c s + 1) 0 (by omega) (Nat.zero_le _) (fun j hj => absurd hj (by omega))
def st_X (s : dz_Sg) (I I2 : dz_MI) (k : Nat → Nat) : Prop := (∀ j, j < sg_c s → I2 12 j = nI (k j)) ∧ ∀ a b, ¬ a = 12 → I2 a b = I a b
def st_0 (I I2 : dz_MI) (i : Nat) : Prop := (∀ j, j < i → I2 12 j = nI 0) ∧ ∀ a b, ¬ a = 12 → I2 a b = I a b
theorem st_0.s {I I2 : dz_MI} {i : Nat} (h : st_0 I I2 i) : st_0 I (dz_wi I2 12 i (nI 0)) (i + 1) := by
  refine ⟨fun j hj => ?_, fun a b ha => by rw [dz_wi_n _ _ (by omega)]; exact h.2 a b ha⟩
  by_cases e : j = i
  · subst e; exact dz_wi_s _ _ _ _
  · rw [dz_wi_n _ _ (by omega)]; exact h.1 j (by omega)
theorem st_X.s {s : dz_Sg} {I I2 : dz_MI} {a t : Nat} {v : Int32} (h : st_X s I I2 (sg_kk s a t)) (hv : v = nI (sg_kk s a t (sg_nc s a t) + 1)) : st_X s I (dz_wi I2 12 (sg_nc s a t) v) (sg_kk s a (t + 1)) := by
  refine ⟨fun j hj => ?_, fun a b ha => by rw [dz_wi_n _ _ (by omega)]; exact h.2 a b ha⟩
  rw [sg_kk_s]
  by_cases e : j = sg_nc s a t
  · subst e; rw [dz_wi_s, hv]; simp
  · rw [dz_wi_n _ _ (by omega)]; simp only [if_neg e]; exact h.1 j hj
set_option maxRecDepth 100000 in
set_option maxHeartbeats 4000000 in
theorem c_X0_placeOfStone (π : dz_Pl) {s : dz_Sg} {x a : Nat} (I : dz_MI) (J : dz_MJ) (hO : dz_OK s) (hR : dz_RY s I) (ha1 : 1 ≤ a) (ha5 : a ≤ 5) (hx : x < sg_p s) : dz_Cl π dz_Y 62 mX0_placeOfStone 3 66 [.inr (.inr 2), .inl (nI x), .inl (nI a)] I J (fun r I2 J2 => r = some (.inl (se_pl s a (x + 1))) ∧ J2 = J ∧ ∀ c b, ¬ c = 12 → I2 c b = I c b) := by
  refine dz_body (own := 0) dz_mX0_placeOfStone rfl (Nat.le_of_ble_eq_true rfl) (fun V hV => ?_)
  have hO2 := hO
  have hR2 := hR
  obtain ⟨o1, o2, o3, o4, o5, o6, o7, o8, o9⟩ := hO
  obtain ⟨y1, y2, y3, y4, y5, y6, y7, y8, y9, y10, y11, y12, y13⟩ := hR
  have loop2 : ∀ (fu i : Nat) (I2 : dz_MI), x + 1 < i + fu → i ≤ x + 1 → st_X s I I2 (sg_kk s a i) → V 28 I2 J [(0, .inr (.inr 2)), (1, .inl (nI x)), (2, .inl (nI a)), (3, .inl (se_pl s a (i))), (4, .inl (nI (i)))] [] := by
    intro fu
    induction fu with
    | zero => intro i I2 h1 h2; exact absurd h1 (by omega)
    | succ fu ih =>
      intro i I2 h1 h2 hX
      refine dr_iload 28 hV dX0_placeOfStone_28 rfl ?_
      refine dr_iload_n 30 hV dX0_placeOfStone_30 rfl ?_
      refine dn_icmp_gt (tgt := 91) 31 hV dX0_placeOfStone_31 (by decide) (by omega) (by omega) (fun c31 => ?_) (fun c31 => ?_)
      · have hie : i = x + 1 := by omega
        subst hie
        refine dr_iload_n 91 hV dX0_placeOfStone_91 rfl ?_
        exact dr_iret 92 hV dX0_placeOfStone_92 rfl (by first | rfl | exact dz_bn) ⟨rfl, rfl, hX.2⟩
      · obtain ⟨n1, n2, n3⟩ := sg_nc_ok hO2 ha1 (show i < sg_p s by omega)
        obtain ⟨kk1, kk2⟩ := sg_kk_ok hO2 ha1 i (by omega)
        obtain ⟨g4, g5, g6⟩ := o4 _ n1
        have hR3 : dz_RY s I2 := hR2.f12 o1 hX.2
        refine dr_iload 34 hV dX0_placeOfStone_34 rfl ?_
        refine dr_aload_n 36 hV dX0_placeOfStone_36 rfl ?_
        refine dr_geti (v := nI (sg_p s)) 37 hV dX0_placeOfStone_37 (by decide) (by decide) rfl rfl rfl (by rw [hX.2 _ _ (by omega)]; exact y3) ?_
        refine dn_icmp_ge (tgt := 91) 40 hV dX0_placeOfStone_40 (by decide) (by omega) (by omega) (fun c40 => ?_) (fun c40 => ?_)
        · omega
        · refine dr_aload_n 43 hV dX0_placeOfStone_43 rfl ?_
          refine dr_iload_n 44 hV dX0_placeOfStone_44 rfl ?_
          refine dr_cvp1 45 hV dz_lX0_57 dX0_placeOfStone_45 (by decide) (by decide) ⟨by decide, _, _, rfl, by decide, rfl⟩ (Nat.le_of_ble_eq_true rfl) (c_X0_nextColumn π _ _ hO2 hR3 (fun j hj => ⟨hX.1 j hj, kk1 j hj⟩) ha5) ?_
          rw [dz_find_s (p := fun c => dz_B (sg_lev s a (sg_kk s a i) c)) n1 (dz_Bt.mpr n2) (fun j hj => dz_Bf.mpr (n3 j hj))]
          refine dr_istore 48 hV dX0_placeOfStone_48 (by decide) ?_
          refine dr_iload 50 hV dX0_placeOfStone_50 rfl ?_
          refine dr_iconst (v := (-1)) 52 hV dX0_placeOfStone_52 (by decide) ?_
          refine dr_icmp_ne (tgt := 58) 53 hV dX0_placeOfStone_53 (by decide) (fun c53 => ?_) (fun c53 => ?_)
          · refine dr_aload_n 58 hV dX0_placeOfStone_58 rfl ?_
            refine dr_geta 59 hV dX0_placeOfStone_59 (by decide) (by decide) rfl rfl rfl ?_
            refine dr_iload 62 hV dX0_placeOfStone_62 rfl ?_
            refine dr_iald (v := nI (sg_b s (sg_nc s a i))) 64 hV dX0_placeOfStone_64 (by decide) rfl rfl (by omega) (by decide) (by rw [hX.2 _ _ (by omega)]; exact (y10 _ n1).2.2.1) ?_
            refine dr_aload_n 65 hV dX0_placeOfStone_65 rfl ?_
            refine dr_geta 66 hV dX0_placeOfStone_66 (by decide) (by decide) rfl rfl rfl ?_
            refine dr_iload 69 hV dX0_placeOfStone_69 rfl ?_
            refine dr_iald (v := nI (sg_kk s a i (sg_nc s a i))) 71 hV dX0_placeOfStone_71 (by decide) rfl rfl (by omega) (by decide) (hX.1 _ n1) ?_
            refine dr_iadd (z := se_pl s a (i + 1)) 72 hV dX0_placeOfStone_72 (nI_add _ _) ?_
            refine dr_istore_n 73 hV dX0_placeOfStone_73 (by decide) ?_
            refine dr_aload_n 74 hV dX0_placeOfStone_74 rfl ?_
            refine dr_geta 75 hV dX0_placeOfStone_75 (by decide) (by decide) rfl rfl rfl ?_
            refine dr_iload 78 hV dX0_placeOfStone_78 rfl ?_
            refine dr_dup2 80 hV dX0_placeOfStone_80 rfl rfl ?_
            refine dr_iald (v := nI (sg_kk s a i (sg_nc s a i))) 81 hV dX0_placeOfStone_81 (by decide) rfl rfl (by omega) (by decide) (hX.1 _ n1) ?_
            refine dr_iconst (v := nI 1) 82 hV dX0_placeOfStone_82 (by decide) ?_
            refine dr_iadd (z := nI (sg_kk s a i (sg_nc s a i) + 1)) 83 hV dX0_placeOfStone_83 (nI_1 _) ?_
            refine dr_iast 84 hV dX0_placeOfStone_84 (by decide) rfl rfl (by omega) (by decide) ?_
            refine dr_iinc1 85 hV dX0_placeOfStone_85 (by decide) rfl ?_
            refine dr_goto (tgt := 28) 88 hV dX0_placeOfStone_88 (by decide) ?_
            refine dr_sub hV (ls2 := [(0, .inr (.inr 2)), (1, .inl (nI x)), (2, .inl (nI a)), (3, .inl (se_pl s a (i + 1))), (4, .inl (nI (i + 1)))]) rfl ?_
            exact ih (i + 1) _ (by omega) (by omega) (hX.s rfl)
          · exact absurd c53 (dz_m1n (by omega))
  have loop1 : ∀ (fu i : Nat) (I2 : dz_MI), sg_c s < i + fu → i ≤ sg_c s → st_0 I I2 i → V 2 I2 J [(0, .inr (.inr 2)), (1, .inl (nI x)), (2, .inl (nI a)), (3, .inl (nI (i)))] [] := by
    intro fu
    induction fu with
    | zero => intro i I2 h1 h2; exact absurd h1 (by omega)
    | succ fu ih =>
      intro i I2 h1 h2 hX
      refine dr_iload_n 2 hV dX0_placeOfStone_2 rfl ?_
      refine dr_aload_n 3 hV dX0_placeOfStone_3 rfl ?_
      refine dr_geti (v := nI (sg_c s)) 4 hV dX0_placeOfStone_4 (by decide) (by decide) rfl rfl rfl (by rw [hX.2 _ _ (by omega)]; exact y2) ?_
      refine dn_icmp_ge (tgt := 23) 7 hV dX0_placeOfStone_7 (by decide) (by omega) (by omega) (fun c7 => ?_) (fun c7 => ?_)
      · have hie : i = sg_c s := by omega
        subst hie
        refine dr_iconst (v := (-1)) 23 hV dX0_placeOfStone_23 (by decide) ?_
        refine dr_istore_n 24 hV dX0_placeOfStone_24 (by decide) ?_
        refine dr_iconst (v := nI 0) 25 hV dX0_placeOfStone_25 (by decide) ?_
        refine dr_istore 26 hV dX0_placeOfStone_26 (by decide) ?_
        refine dr_sub hV (ls2 := [(0, .inr (.inr 2)), (1, .inl (nI x)), (2, .inl (nI a)), (3, .inl (se_pl s a (0))), (4, .inl (nI (0)))]) rfl ?_
        exact loop2 (x + 2) 0 I2 (by omega) (by omega) hX
      · refine dr_aload_n 10 hV dX0_placeOfStone_10 rfl ?_
        refine dr_geta 11 hV dX0_placeOfStone_11 (by decide) (by decide) rfl rfl rfl ?_
        refine dr_iload_n 14 hV dX0_placeOfStone_14 rfl ?_
        refine dr_iconst (v := nI 0) 15 hV dX0_placeOfStone_15 (by decide) ?_
        refine dr_iast 16 hV dX0_placeOfStone_16 (by decide) rfl rfl (by omega) (by decide) ?_
        refine dr_iinc1 17 hV dX0_placeOfStone_17 (by decide) rfl ?_
        refine dr_goto (tgt := 2) 20 hV dX0_placeOfStone_20 (by decide) ?_
        refine dr_sub hV (ls2 := [(0, .inr (.inr 2)), (1, .inl (nI x)), (2, .inl (nI a)), (3, .inl (nI (i + 1)))]) rfl ?_
        exact ih (i + 1) _ (by omega) (by omega) hX.s
  refine dr_iconst (v := nI 0) 0 hV dX0_placeOfStone_0 (by decide) ?_
  refine dr_istore_n 1 hV dX0_placeOfStone_1 (by decide) ?_
  refine dr_sub hV (ls2 := [(0, .inr (.inr 2)), (1, .inl (nI x)), (2, .inl (nI a)), (3, .inl (nI (0)))]) rfl ?_
  exact loop1 (sg_c s + 1) 0 I (by omega) (Nat.zero_le _) ⟨fun j hj => absurd hj (by omega), fun _ _ _ => rfl⟩
set_option maxRecDepth 100000 in
set_option maxHeartbeats 4000000 in
theorem c_X4_setting (π : dz_Pl) {s : dz_Sg} (v : Int32) (I : dz_MI) (J : dz_MJ) (hO : dz_OK s) (hY : YI s I J) : dz_Cl π dz_Y 62 mX4_setting 6 133 [.inr (.inr 0), .inl v] I J (yq_P s (.inl (q_setting s v))) := by
  refine dz_body (own := 4) dz_mX4_setting rfl (Nat.le_of_ble_eq_true rfl) (fun V hV => ?_)
  have hO2 := hO
  have hY2 := hY
  obtain ⟨o1, o2, o3, o4, o5, o6, o7, o8, o9⟩ := hO
  refine dr_aload_n 0 hV dX4_setting_0 rfl ?_
  refine dr_cv0 1 hV dz_lX4_115 dX4_setting_1 (by decide) (by decide) ⟨by decide, _, _, rfl, by decide, rfl⟩ (Nat.le_of_ble_eq_true rfl) (c_X4_drawPaper π _ _ hO2 hY2) (fun r1 I1 J1 hp => ?_)
  obtain ⟨rfl, hR2, hC2, hs2, hD2⟩ := id hp
  obtain ⟨y1, y2, y3, y4, y5, y6, y7, y8, y9, y10, y11, y12, y13⟩ := id hR2
  obtain ⟨d1, d2, d3, d4⟩ := id hD2
  have hYY := dp_Y hp
  refine dr_iload_n 4 hV dX4_setting_4 rfl ?_
  refine dr_if_lt (tgt := 29) 5 hV dX4_setting_5 (by decide) (fun c5 => ?_) (fun c5 => ?_)
  · have hbad : sg_no s ∨ ¬ (0 ≤ v ∧ v < nI (sg_p s)) := Or.inr (fun z => Int32.not_le.mpr c5 z.1)
    refine dr_iconst (v := (-1)) 29 hV dX4_setting_29 (by decide) ?_
    exact dr_iret 30 hV dX4_setting_30 rfl (by first | rfl | exact dz_bn) (yq_i (by unfold q_setting; rw [dz_B1 hbad]) hYY)
  · refine dr_iload_n 8 hV dX4_setting_8 rfl ?_
    refine dr_aload_n 9 hV dX4_setting_9 rfl ?_
    refine dr_geta 10 hV dX4_setting_10 (by decide) (by decide) rfl rfl rfl ?_
    refine dr_cvp0 13 hV dz_lX4_129 dX4_setting_13 (by decide) (by decide) ⟨by decide, _, _, rfl, by decide, rfl⟩ (Nat.le_of_ble_eq_true rfl) (c_X0_placeNumber π _ _) ?_
    rw [y3]
    refine dr_icmp_ge (tgt := 29) 16 hV dX4_setting_16 (by decide) (fun c16 => ?_) (fun c16 => ?_)
    · have hbad : sg_no s ∨ ¬ (0 ≤ v ∧ v < nI (sg_p s)) := Or.inr (fun z => Int32.not_lt.mpr c16 z.2)
      refine dr_iconst (v := (-1)) 29 hV dX4_setting_29 (by decide) ?_
      exact dr_iret 30 hV dX4_setting_30 rfl (by first | rfl | exact dz_bn) (yq_i (by unfold q_setting; rw [dz_B1 hbad]) hYY)
    · refine dr_aload_n 19 hV dX4_setting_19 rfl ?_
      refine dr_geta 20 hV dX4_setting_20 (by decide) (by decide) rfl rfl rfl ?_
      refine dr_cvp0 23 hV dz_lX4_145 dX4_setting_23 (by decide) (by decide) ⟨by decide, _, _, rfl, by decide, rfl⟩ (Nat.le_of_ble_eq_true rfl) (c_X2_hasWay π  _ _) ?_
      rw [d2]
      first | refine dr_ifb_ne (tgt := 31) 26 hV dX4_setting_26 (by decide) (fun c26 => ?_) (fun c26 => ?_) | refine dr_if_ne (tgt := 31) 26 hV dX4_setting_26 (by decide) (fun c26 => ?_) (fun c26 => ?_)
      · have hno := ql_yes c26
        have hin : 0 ≤ v ∧ v < nI (sg_p s) := ⟨Int32.not_lt.mp c5, Int32.not_le.mp c16⟩
        obtain ⟨x, hx, rfl⟩ := dz_ofI rfl (by omega) hin
        obtain ⟨a, ha1, ha5, hae⟩ := o9.1
        refine dr_aload_n 31 hV dX4_setting_31 rfl ?_
        refine dr_geta 32 hV dX4_setting_32 (by decide) (by decide) rfl rfl rfl ?_
        refine dr_iload_n 35 hV dX4_setting_35 rfl ?_
        refine dr_aload_n 36 hV dX4_setting_36 rfl ?_
        refine dr_geti (v := nI a) 37 hV dX4_setting_37 (by decide) (by decide) rfl rfl rfl (by rw [y6]; exact hae) ?_
        refine dr_cv2 40 hV dz_lX4_148 dX4_setting_40 (by decide) (by decide) ⟨by decide, _, _, rfl, by decide, rfl⟩ (Nat.le_of_ble_eq_true rfl) (c_X0_placeOfStone π _ _ hO2 hR2 ha1 ha5 hx) (fun r5 I5 J5 hf5 => ?_)
        obtain ⟨rfl, rfl, hF5⟩ := hf5
        exact dr_iret 43 hV dX4_setting_43 rfl (by first | rfl | exact dz_bn) (yq_i (by unfold q_setting; rw [dz_B0 (fun z => z.elim hno (fun y => y hin)), hae, nI_clamp (by omega), nI_clamp (by omega)]; rfl) (hYY.f12 o1 hF5))
      · have hbad : sg_no s ∨ ¬ (0 ≤ v ∧ v < nI (sg_p s)) := Or.inl (ql_no c26)
        refine dr_iconst (v := (-1)) 29 hV dX4_setting_29 (by decide) ?_
        exact dr_iret 30 hV dX4_setting_30 rfl (by first | rfl | exact dz_bn) (yq_i (by unfold q_setting; rw [dz_B1 hbad]) hYY)
