/-! SETTING: stones set one by one; the model's isLevel and setting -/
/-- a column that may take the next stone: not full, and not far ahead of its neighbours that aren't full -/
def sg_lev (s : dz_Sg) (a : Nat) (k : Nat → Nat) (c : Nat) : Prop := ¬ k c = sg_h s c ∧ ∀ j, j < sg_c s → (j + 1 = c ∨ j = c + 1) → (k j = sg_h s j ∨ k c + 1 ≤ k j + a)
noncomputable def sg_kk (s : dz_Sg) (a : Nat) : Nat → Nat → Nat
  | 0 => fun _ => 0
  | t + 1 => fun j => if j = dz_fs (sg_lev s a (sg_kk s a t)) (sg_c s) then sg_kk s a t j + 1 else sg_kk s a t j
noncomputable def sg_nc (s : dz_Sg) (a t : Nat) : Nat := dz_fs (sg_lev s a (sg_kk s a t)) (sg_c s)
theorem sg_kk_s (s : dz_Sg) (a t : Nat) : sg_kk s a (t + 1) = fun j => if j = sg_nc s a t then sg_kk s a t j + 1 else sg_kk s a t j := rfl
theorem sg_lev_ex {s : dz_Sg} {a : Nat} (ha : 1 ≤ a) {k : Nat → Nat} (hk : ∀ j, j < sg_c s → k j ≤ sg_h s j) (hs : fb_sm k (sg_c s) < fb_sm (sg_h s) (sg_c s)) : ∃ c, c < sg_c s ∧ sg_lev s a k c := by
  have hx : ∃ c, c < sg_c s ∧ k c < sg_h s c := Classical.byContradiction fun hn => by
    have h0 : ∀ j, j < sg_c s → k j = sg_h s j := fun j hj => by
      have h1 := hk j hj
      have h2 : ¬ k j < sg_h s j := fun z => hn ⟨j, hj, z⟩
      omega
    rw [fb_sm_cong h0] at hs
    omega
  -- the lowest stand among those that aren't full
  have hw : ∀ (n c : Nat), k c ≤ n → c < sg_c s → k c < sg_h s c → ∃ c, c < sg_c s ∧ k c < sg_h s c ∧ ∀ j, j < sg_c s → k j < sg_h s j → k c ≤ k j := by
    intro n
    induction n with
    | zero => intro c h1 h2 h3; exact ⟨c, h2, h3, fun j _ _ => by omega⟩
    | succ n ih =>
      intro c h1 h2 h3
      by_cases hy : ∃ j, j < sg_c s ∧ k j < sg_h s j ∧ k j < k c
      · obtain ⟨j, j1, j2, j3⟩ := hy
        exact ih j (by omega) j1 j2
      · exact ⟨c, h2, h3, fun j j1 j2 => Nat.not_lt.mp (fun z => hy ⟨j, j1, j2, z⟩)⟩
  obtain ⟨c0, c1, c2⟩ := hx
  obtain ⟨c, h1, h2, h3⟩ := hw (k c0) c0 (Nat.le_refl _) c1 c2
  refine ⟨c, h1, by omega, fun j hj _ => ?_⟩
  by_cases e : k j = sg_h s j
  · exact Or.inl e
  · have := h3 j hj (by have := hk j hj; omega)
    exact Or.inr (by omega)
theorem sg_kk_ok {s : dz_Sg} (hO : dz_OK s) {a : Nat} (ha : 1 ≤ a) : ∀ t, t ≤ sg_p s → (∀ j, j < sg_c s → sg_kk s a t j ≤ sg_h s j) ∧ fb_sm (sg_kk s a t) (sg_c s) = t
  | 0, _ => ⟨fun _ _ => Nat.zero_le _, by rw [show fb_sm (sg_kk s a 0) (sg_c s) = fb_sm (fun _ => 0) (sg_c s) from rfl, fb_sm_const]; rfl⟩
  | t + 1, ht => by
    obtain ⟨h1, h2⟩ := sg_kk_ok hO ha t (by omega)
    have hs := hO.2.2.2.2.2.2.2.2.2.2
    obtain ⟨c, hc, hl⟩ := sg_lev_ex ha h1 (by rw [h2, hs]; omega)
    have hn : sg_nc s a t < sg_c s ∧ sg_lev s a (sg_kk s a t) (sg_nc s a t) := by
      rcases dz_fs_c (sg_lev s a (sg_kk s a t)) (sg_c s) with q | q
      · exact ⟨q.1, q.2.1⟩
      · exact absurd hl (q.2 c hc)
    rw [sg_kk_s]
    refine ⟨fun j hj => ?_, ?_⟩
    · by_cases e : j = sg_nc s a t
      · simp only [if_pos e]
        have := h1 j hj
        have := hn.2.1
        rw [← e] at this
        omega
      · simp only [if_neg e]; exact h1 j hj
    · have e1 : (fun j => if j = sg_nc s a t then sg_kk s a t j + 1 else sg_kk s a t j) = (fun j => if j = sg_nc s a t then sg_kk s a t (sg_nc s a t) + 1 else sg_kk s a t j) := funext fun j => by
        by_cases e : j = sg_nc s a t
        · rw [if_pos e, if_pos e, e]
        · rw [if_neg e, if_neg e]
      have := fb_sm_upd (sg_kk s a t) (sg_kk s a t (sg_nc s a t) + 1) hn.1
      rw [e1]
      omega
theorem sg_nc_ok {s : dz_Sg} (hO : dz_OK s) {a : Nat} (ha : 1 ≤ a) {t : Nat} (ht : t < sg_p s) : sg_nc s a t < sg_c s ∧ sg_lev s a (sg_kk s a t) (sg_nc s a t) ∧ ∀ j, j < sg_nc s a t → ¬ sg_lev s a (sg_kk s a t) j := by
  obtain ⟨h1, h2⟩ := sg_kk_ok hO ha t (by omega)
  have hs := hO.2.2.2.2.2.2.2.2.2.2
  obtain ⟨c, hc, hl⟩ := sg_lev_ex ha h1 (by rw [h2, hs]; exact ht)
  rcases dz_fs_c (sg_lev s a (sg_kk s a t)) (sg_c s) with q | q
  · exact q
  · exact absurd hl (q.2 c hc)
noncomputable def q_setting (s : dz_Sg) (v : Int32) : Int32 := if dz_B (sg_no s ∨ ¬ (0 ≤ v ∧ v < nI (sg_p s))) then -1 else nI (sg_b s (sg_nc s (sg_ah s).toNatClampNeg v.toNatClampNeg) + sg_kk s (sg_ah s).toNatClampNeg v.toNatClampNeg (sg_nc s (sg_ah s).toNatClampNeg v.toNatClampNeg))
theorem lev_2 {c : Nat} : nI c - nI 1 + Int32.ofInt 2 = nI (c + 1) := by
  rw [show Int32.ofInt 2 = nI 1 + nI 1 from by decide, ← Int32.add_assoc, Int32.sub_add_cancel]
  exact nI_1 c
set_option maxRecDepth 100000 in
set_option maxHeartbeats 4000000 in
theorem c_X5_isLevel (π : dz_Pl) {s : dz_Sg} {a c : Nat} {k : Nat → Nat} (I : dz_MI) (J : dz_MJ) (hO : dz_OK s) (hR : dz_RM s I) (ha : sg_ah s = nI a) (ha5 : a ≤ 5) (hc : c < sg_c s) (hk : ∀ j, j < sg_c s → I 23 j = nI (k j) ∧ k j ≤ sg_h s j) : dz_Cl π dz_M 24 mX5_isLevel 1 21 [.inr (.inr 0), .inl (nI c)] I J (dz_Pu (.inl (dz_bp (sg_lev s a k c))) I J) := by
  refine dz_body (own := 5) dz_mX5_isLevel rfl (Nat.le_of_ble_eq_true rfl) (fun V hV => ?_)
  have hO2 := hO
  obtain ⟨o1, o2, o3, o4, o5, o6, o7, o8, o9⟩ := hO
  obtain ⟨m1, m2, m3, m4, m5, m6, m7, m8, m9, m10, m11, m12⟩ := hR
  obtain ⟨kc1, kc2⟩ := hk c hc
  obtain ⟨gc1, gc2, gc3⟩ := o4 c hc
  have body : ∀ o : Int32, ¬ nI (c + 1) < o → (∀ j, o = nI j → j < sg_c s → (j + 1 = c ∨ j = c + 1)) → ((∀ j, j < sg_c s → o = nI j → (k j = sg_h s j ∨ k c + 1 ≤ k j + a)) → V 61 I J [(0, .inr (.inr 0)), (1, .inl (nI c)), (2, .inl (o))] []) → V 14 I J [(0, .inr (.inr 0)), (1, .inl (nI c)), (2, .inl (o))] [] := by
    intro o hx hnb K
    refine dr_iload_n 14 hV dX5_isLevel_14 rfl ?_
    refine dr_iload_n 15 hV dX5_isLevel_15 rfl ?_
    refine dr_iconst (v := nI 1) 16 hV dX5_isLevel_16 (by decide) ?_
    refine dr_iadd (z := nI (c + 1)) 17 hV dX5_isLevel_17 (nI_1 c) ?_
    refine dr_icmp_gt (tgt := 67) 18 hV dX5_isLevel_18 (by decide) (fun c18 => ?_) (fun c18 => ?_)
    · exact absurd c18 hx
    · refine dr_aload_n 21 hV dX5_isLevel_21 rfl ?_
      refine dr_iload_n 22 hV dX5_isLevel_22 rfl ?_
      refine dr_cvp1 23 hV dz_lX5_131 dX5_isLevel_23 (by decide) (by decide) ⟨by decide, _, _, rfl, by decide, rfl⟩ (Nat.le_of_ble_eq_true rfl) (c_X5_isColumn π _ _ _) ?_
      first | refine dr_ifb_eq (tgt := 61) 26 hV dX5_isLevel_26 (by decide) (fun c26 => ?_) (fun c26 => ?_) | refine dr_if_eq (tgt := 61) 26 hV dX5_isLevel_26 (by decide) (fun c26 => ?_) (fun c26 => ?_)
      · exact K (fun j hj e => absurd (by rw [e, m2]; exact dz_inI rfl hj (by omega)) c26)
      · obtain ⟨j, hj, rfl⟩ := dz_ofI m2 (by omega) c26
        obtain ⟨k1, k2⟩ := hk j hj
        obtain ⟨k3, k4⟩ := hk c hc
        obtain ⟨g1, g2, g3⟩ := o4 j hj
        obtain ⟨g4, g5, g6⟩ := o4 c hc
        obtain ⟨-, -, -, i4⟩ := m10 j hj
        refine dr_aload_n 29 hV dX5_isLevel_29 rfl ?_
        refine dr_iload_n 30 hV dX5_isLevel_30 rfl ?_
        refine dr_cvp1 31 hV dz_lX5_168 dX5_isLevel_31 (by decide) (by decide) ⟨by decide, _, _, rfl, by decide, rfl⟩ (Nat.le_of_ble_eq_true rfl) (c_X5_isFull π _ _ (show j < 4 by omega)) ?_
        first | refine dr_ifb_ne (tgt := 61) 34 hV dX5_isLevel_34 (by decide) (fun c34 => ?_) (fun c34 => ?_) | refine dr_if_ne (tgt := 61) 34 hV dX5_isLevel_34 (by decide) (fun c34 => ?_) (fun c34 => ?_)
        · rw [k1, i4, nI_eq (by omega) (by omega)] at c34
          exact K (fun j2 hj2 e => by rw [nI_eq (by omega) (by omega)] at e; subst e; exact Or.inl c34)
        · rw [k1, i4, nI_eq (by omega) (by omega)] at c34
          refine dr_aload_n 37 hV dX5_isLevel_37 rfl ?_
          refine dr_geta 38 hV dX5_isLevel_38 (by decide) (by decide) rfl rfl rfl ?_
          refine dr_iload_n 41 hV dX5_isLevel_41 rfl ?_
          refine dr_iald 42 hV dX5_isLevel_42 (by decide) rfl rfl (by omega) (by decide) k3 ?_
          refine dr_iconst (v := nI 1) 43 hV dX5_isLevel_43 (by decide) ?_
          refine dr_iadd (z := nI (k c + 1)) 44 hV dX5_isLevel_44 (nI_1 _) ?_
          refine dr_aload_n 45 hV dX5_isLevel_45 rfl ?_
          refine dr_geta 46 hV dX5_isLevel_46 (by decide) (by decide) rfl rfl rfl ?_
          refine dr_iload_n 49 hV dX5_isLevel_49 rfl ?_
          refine dr_iald 50 hV dX5_isLevel_50 (by decide) rfl rfl (by omega) (by decide) k1 ?_
          refine dr_isub 51 hV dX5_isLevel_51 rfl ?_
          refine dr_aload_n 52 hV dX5_isLevel_52 rfl ?_
          refine dr_geti 53 hV dX5_isLevel_53 (by decide) (by decide) rfl rfl rfl m6 ?_
          refine dr_icmp_le (tgt := 61) 56 hV dX5_isLevel_56 (by decide) (fun c56 => ?_) (fun c56 => ?_)
          · rw [ha, fa_le, pk_sub_toInt (by omega) (by omega), nI_toInt (by omega)] at c56
            exact K (fun j2 hj2 e => by rw [nI_eq (by omega) (by omega)] at e; subst e; exact Or.inr (by omega))
          · rw [ha, fa_le, pk_sub_toInt (by omega) (by omega), nI_toInt (by omega)] at c56
            refine dr_iconst (v := nI 0) 59 hV dX5_isLevel_59 (by decide) ?_
            exact dr_iret 60 hV dX5_isLevel_60 rfl (by first | rfl | exact dz_bn) (dz_bp0 (fun z => by rcases z.2 j hj (hnb j rfl hj) with q | q <;> omega))
  refine dr_aload_n 0 hV dX5_isLevel_0 rfl ?_
  refine dr_iload_n 1 hV dX5_isLevel_1 rfl ?_
  refine dr_cvp1 2 hV dz_lX5_168 dX5_isLevel_2 (by decide) (by decide) ⟨by decide, _, _, rfl, by decide, rfl⟩ (Nat.le_of_ble_eq_true rfl) (c_X5_isFull π _ _ (show c < 4 by omega)) ?_
  first | refine dr_ifb_eq (tgt := 10) 5 hV dX5_isLevel_5 (by decide) (fun c5 => ?_) (fun c5 => ?_) | refine dr_if_eq (tgt := 10) 5 hV dX5_isLevel_5 (by decide) (fun c5 => ?_) (fun c5 => ?_)
  · have hfull : ¬ k c = sg_h s c := fun z => c5 (by rw [kc1, (m10 c hc).2.2.2, z])
    refine dr_iload_n 10 hV dX5_isLevel_10 rfl ?_
    refine dr_iconst (v := nI 1) 11 hV dX5_isLevel_11 (by decide) ?_
    refine dr_isub 12 hV dX5_isLevel_12 rfl ?_
    refine dr_istore_n 13 hV dX5_isLevel_13 (by decide) ?_
    refine dr_sub hV (ls2 := [(0, .inr (.inr 0)), (1, .inl (nI c)), (2, .inl (nI c - nI 1))]) rfl ?_
    refine body (nI c - nI 1) (by rw [fa_lt, pk_sub_toInt (by omega) (by decide), nI_toInt (by omega)]; omega) (fun j e hj => ?_) (fun q1 => ?_)
    · rw [fa_eq, pk_sub_toInt (by omega) (by decide), nI_toInt (by omega)] at e; omega
    refine dr_iinc (v2 := nI (c + 1)) 61 hV dX5_isLevel_61 (by decide) rfl lev_2 ?_
    refine dr_goto (tgt := 14) 64 hV dX5_isLevel_64 (by decide) ?_
    refine dr_sub hV (ls2 := [(0, .inr (.inr 0)), (1, .inl (nI c)), (2, .inl (nI (c + 1)))]) rfl ?_
    refine body (nI (c + 1)) (by simp [fa_lt]) (fun j e hj => ?_) (fun q2 => ?_)
    · rw [nI_eq (by omega) (by omega)] at e; omega
    refine dr_iinc (v2 := nI (c + 3)) 61 hV dX5_isLevel_61 (by decide) rfl (nI_add (c + 1) 2) ?_
    refine dr_goto (tgt := 14) 64 hV dX5_isLevel_64 (by decide) ?_
    refine dr_iload_n 14 hV dX5_isLevel_14 rfl ?_
    refine dr_iload_n 15 hV dX5_isLevel_15 rfl ?_
    refine dr_iconst (v := nI 1) 16 hV dX5_isLevel_16 (by decide) ?_
    refine dr_iadd (z := nI (c + 1)) 17 hV dX5_isLevel_17 (nI_1 c) ?_
    refine dn_icmp_gt (tgt := 67) 18 hV dX5_isLevel_18 (by decide) (by omega) (by omega) (fun c18 => ?_) (fun c18 => ?_)
    · refine dr_iconst (v := nI 1) 67 hV dX5_isLevel_67 (by decide) ?_
      exact dr_iret 68 hV dX5_isLevel_68 rfl (by first | rfl | exact dz_bn) (dz_bp1 ⟨hfull, fun j hj z => z.elim (fun z => q1 j hj (by rw [fa_eq, pk_sub_toInt (by omega) (by decide), nI_toInt (by omega)]; omega)) (fun z => q2 j hj (by rw [z]))⟩)
    · omega
  · have hfull : k c = sg_h s c := (nI_eq (by omega) (by omega)).mp (by rw [← kc1, ← (m10 c hc).2.2.2]; exact c5)
    refine dr_iconst (v := nI 0) 8 hV dX5_isLevel_8 (by decide) ?_
    exact dr_iret 9 hV dX5_isLevel_9 rfl (by first | rfl | exact dz_bn) (dz_bp0 (fun z => z.1 hfull))
def se_N (s : dz_Sg) (a : Nat) (k : Nat → Nat) (q : Nat) (v : Int32) : Prop := (v = -1 ∧ ∀ j, q ≤ j → j < sg_c s → ¬ sg_lev s a k j) ∨ (∃ j, q ≤ j ∧ j < sg_c s ∧ sg_lev s a k j ∧ v = nI j ∧ ∀ i, q ≤ i → i < j → ¬ sg_lev s a k i)
theorem se_N.y {s : dz_Sg} {a : Nat} {k : Nat → Nat} {q : Nat} (hq : q < sg_c s) (h : sg_lev s a k q) : se_N s a k q (nI q) := Or.inr ⟨q, Nat.le_refl _, hq, h, rfl, fun i h1 h2 => absurd h2 (by omega)⟩
theorem se_N.n {s : dz_Sg} {a : Nat} {k : Nat → Nat} {q : Nat} {v : Int32} (hn : se_N s a k (q + 1) v) (h : ¬ sg_lev s a k q) : se_N s a k q v := by
  rcases hn with ⟨h1, h2⟩ | ⟨j, h1, h2, h3, h4, h5⟩
  · exact Or.inl ⟨h1, fun j hj hj2 => by
      rcases Nat.lt_or_ge q j with z | z
      · exact h2 j z hj2
      · rw [show j = q by omega]; exact h⟩
  · exact Or.inr ⟨j, by omega, h2, h3, h4, fun i hi hi2 => by
      rcases Nat.lt_or_ge q i with z | z
      · exact h5 i z hi2
      · rw [show i = q by omega]; exact h⟩
theorem dz_dn_sub (q : Nat) : nI q - nI 1 = dz_dn q := by
  rw [← dz_dn_dec]
  rw [show Int32.ofInt (-1) = -(nI 1) from by decide, Int32.sub_eq_add_neg]
noncomputable def se_pl (s : dz_Sg) (a t : Nat) : Int32 := if t = 0 then -1 else nI (sg_b s (sg_nc s a (t - 1)) + sg_kk s a (t - 1) (sg_nc s a (t - 1)))
set_option maxRecDepth 100000 in
set_option maxHeartbeats 4000000 in
theorem se_d {π : dz_Pl} {post : Option dz_AV → dz_MI → dz_MJ → Prop} {V : dz_Vt} (hV : dz_Clo π dz_M 24 5 mX5_setting 5 143 post V) {s : dz_Sg} {I : dz_MI} {J : dz_MJ} {a x t : Nat} (hO : dz_OK s) (hR : dz_RM s I) (ha : sg_ah s = nI a) (ha5 : a ≤ 5) (ha1 : 1 ≤ a) (ht : t < sg_p s) (hk : ∀ j, j < sg_c s → I 23 j = nI (sg_kk s a t j) ∧ sg_kk s a t j ≤ sg_h s j) (K : V 193 I J [(0, .inr (.inr 0)), (1, .inl (nI x)), (3, .inl (nI t)), (4, .inl (nI (sg_nc s a t)))] []) : ∀ (q : Nat), q ≤ sg_c s → ∀ (v4 : Int32), se_N s a (sg_kk s a t) q v4 → V 64 I J [(0, .inr (.inr 0)), (1, .inl (nI x)), (3, .inl (nI t)), (4, .inl (v4)), (5, .inl (dz_dn q))] [] := by
  have hO2 := hO
  obtain ⟨o1, o2, o3, o4, o5, o6, o7, o8, o9⟩ := hO
  have m2 := hR.2.1
  obtain ⟨n1, n2, n3⟩ := sg_nc_ok hO2 ha1 ht
  intro q
  induction q with
  | zero =>
      intro hq v4 hN
      have hv4 : v4 = nI (sg_nc s a t) := by
        rcases hN with ⟨z1, z2⟩ | ⟨j, z1, z2, z3, z4, z5⟩
        · exact absurd n2 (z2 _ (Nat.zero_le _) n1)
        · rw [z4]
          rcases Nat.lt_trichotomy j (sg_nc s a t) with y | y | y
          · exact absurd z3 (n3 j y)
          · rw [y]
          · exact absurd n2 (z5 _ (Nat.zero_le _) y)
      subst hv4
      rw [show dz_dn 0 = (-1) from rfl]
      refine dr_iload 64 hV dX5_setting_64 rfl ?_
      refine dr_if_lt (tgt := 88) 66 hV dX5_setting_66 (by decide) (fun c66 => ?_) (fun c66 => ?_)
      · refine dr_iconst (v := nI 0) 88 hV dX5_setting_88 (by decide) ?_
        refine dr_istore 89 hV dX5_setting_89 (by decide) ?_
        refine dr_iload 91 hV dX5_setting_91 rfl ?_
        refine dr_aload_n 93 hV dX5_setting_93 rfl ?_
        refine dr_geti 94 hV dX5_setting_94 (by decide) (by decide) rfl rfl rfl m2 ?_
        refine dn_icmp_ge (tgt := 193) 97 hV dX5_setting_97 (by decide) (by omega) (by omega) (fun c97 => ?_) (fun c97 => ?_)
        · omega
        · refine dr_iload 100 hV dX5_setting_100 rfl ?_
          refine dr_iconst (v := (-1)) 102 hV dX5_setting_102 (by decide) ?_
          refine dr_icmp_ne (tgt := 193) 103 hV dX5_setting_103 (by decide) (fun c103 => ?_) (fun c103 => ?_)
          · refine dr_sub hV (ls2 := [(0, .inr (.inr 0)), (1, .inl (nI x)), (3, .inl (nI t)), (4, .inl (nI (sg_nc s a t)))]) rfl ?_
            exact K
          · exact absurd c103 (dz_m1n (by omega))
      · exact absurd (by decide) c66
  | succ q ih =>
      intro hq v4 hN
      rw [dz_dn_s]
      refine dr_iload 64 hV dX5_setting_64 rfl ?_
      refine dr_if_lt (tgt := 88) 66 hV dX5_setting_66 (by decide) (fun c66 => ?_) (fun c66 => ?_)
      · exact absurd c66 (nI_pos (by omega))
      · refine dr_aload_n 69 hV dX5_setting_69 rfl ?_
        refine dr_iload 70 hV dX5_setting_70 rfl ?_
        refine dr_cvp1 72 hV dz_lX5_171 dX5_setting_72 (by decide) (by decide) ⟨by decide, _, _, rfl, by decide, rfl⟩ (Nat.le_of_ble_eq_true rfl) (c_X5_isLevel π _ _ hO2 hR ha ha5 (by omega) hk) ?_
        first | refine dr_ifb_eq (tgt := 82) 75 hV dX5_setting_75 (by decide) (fun c75 => ?_) (fun c75 => ?_) | refine dr_if_eq (tgt := 82) 75 hV dX5_setting_75 (by decide) (fun c75 => ?_) (fun c75 => ?_)
        · refine dr_iinc 82 hV dX5_setting_82 (by decide) rfl (v2 := dz_dn q) (dz_dn_dec q) ?_
          refine dr_goto (tgt := 64) 85 hV dX5_setting_85 (by decide) ?_
          refine dr_sub hV (ls2 := [(0, .inr (.inr 0)), (1, .inl (nI x)), (3, .inl (nI t)), (4, .inl (v4)), (5, .inl (dz_dn q))]) rfl ?_
          exact ih (by omega) _ (hN.n c75)
        · refine dr_iload 78 hV dX5_setting_78 rfl ?_
          refine dr_istore 80 hV dX5_setting_80 (by decide) ?_
          refine dr_iinc 82 hV dX5_setting_82 (by decide) rfl (v2 := dz_dn q) (dz_dn_dec q) ?_
          refine dr_goto (tgt := 64) 85 hV dX5_setting_85 (by decide) ?_
          refine dr_sub hV (ls2 := [(0, .inr (.inr 0)), (1, .inl (nI x)), (3, .inl (nI t)), (4, .inl (nI q)), (5, .inl (dz_dn q))]) rfl ?_
          exact ih (by omega) _ (se_N.y (by omega) c75)
set_option maxRecDepth 100000 in
set_option maxHeartbeats 4000000 in
theorem se_t {π : dz_Pl} {post : Option dz_AV → dz_MI → dz_MJ → Prop} {V : dz_Vt} (hV : dz_Clo π dz_M 24 5 mX5_setting 5 143 post V) {s : dz_Sg} {J : dz_MJ} {a x : Nat} (hO : dz_OK s) (ha : sg_ah s = nI a) (ha5 : a ≤ 5) (ha1 : 1 ≤ a) (hx : x < sg_p s) (hok : ¬ (sg_no s ∨ ¬ (0 ≤ nI x ∧ nI x < nI (sg_p s)))) (hpost : ∀ {r I2}, dz_Qm s (.inl (q_setting s (nI x))) r I2 J → post r I2 J) : ∀ (fu t : Nat), x + 1 < t + fu → t ≤ x + 1 → ∀ (I : dz_MI), dz_RM s I → (∀ j, j < sg_c s → I 23 j = nI (sg_kk s a t j)) → V 48 I J [(0, .inr (.inr 0)), (1, .inl (nI x)), (2, .inl (se_pl s a t)), (3, .inl (nI (t)))] [] := by
  have hO2 := hO
  obtain ⟨o1, o2, o3, o4, o5, o6, o7, o8, o9⟩ := hO
  intro fu
  induction fu with
  | zero => intro t h1 h2; exact absurd h1 (by omega)
  | succ fu ih =>
      intro t h1 h2 I hR hk
      have m2 := hR.2.1
      have m10 := hR.2.2.2.2.2.2.2.2.2.1
      refine dr_iload_n 48 hV dX5_setting_48 rfl ?_
      refine dr_iload_n 49 hV dX5_setting_49 rfl ?_
      refine dn_icmp_gt (tgt := 226) 50 hV dX5_setting_50 (by decide) (by omega) (by omega) (fun c50 => ?_) (fun c50 => ?_)
      · have htx : t = x + 1 := by omega
        subst htx
        refine dr_iload_n 226 hV dX5_setting_226 rfl ?_
        exact dr_iret 227 hV dX5_setting_227 rfl (by first | rfl | exact dz_bn) (hpost ⟨by unfold q_setting se_pl; rw [dz_B0 hok, ha, nI_clamp (by omega), nI_clamp (by omega), if_neg (by omega)]; rfl, hR⟩)
      · refine dr_iconst (v := (-1)) 53 hV dX5_setting_53 (by decide) ?_
        refine dr_istore 54 hV dX5_setting_54 (by decide) ?_
        refine dr_aload_n 56 hV dX5_setting_56 rfl ?_
        refine dr_geti 57 hV dX5_setting_57 (by decide) (by decide) rfl rfl rfl m2 ?_
        refine dr_iconst (v := nI 1) 60 hV dX5_setting_60 (by decide) ?_
        refine dr_isub (z := dz_dn (sg_c s)) 61 hV dX5_setting_61 (dz_dn_sub _) ?_
        refine dr_istore 62 hV dX5_setting_62 (by decide) ?_
        obtain ⟨n1, n2, n3⟩ := sg_nc_ok hO2 ha1 (show t < sg_p s by omega)
        have hpl : se_pl s a (t + 1) = nI (sg_b s (sg_nc s a t) + sg_kk s a t (sg_nc s a t)) := by unfold se_pl; rw [if_neg (by omega)]; rfl
        refine dr_sub hV (ls2 := [(0, .inr (.inr 0)), (1, .inl (nI x)), (3, .inl (nI t)), (4, .inl ((-1))), (5, .inl (dz_dn (sg_c s)))]) rfl ?_
        refine se_d hV hO2 hR ha ha5 ha1 (by omega) (fun j hj => ⟨hk j hj, (sg_kk_ok hO2 ha1 t (by omega)).1 j hj⟩) ?_ (sg_c s) (Nat.le_refl _) (-1) (Or.inl ⟨rfl, fun j h1 h2 => absurd h2 (by omega)⟩)
        refine dr_aload_n 193 hV dX5_setting_193 rfl ?_
        refine dr_geta 194 hV dX5_setting_194 (by decide) (by decide) rfl rfl rfl ?_
        refine dr_iload 197 hV dX5_setting_197 rfl ?_
        refine dr_iald 199 hV dX5_setting_199 (by decide) rfl rfl (by omega) (by decide) (m10 _ n1).2.2.1 ?_
        refine dr_aload_n 200 hV dX5_setting_200 rfl ?_
        refine dr_geta 201 hV dX5_setting_201 (by decide) (by decide) rfl rfl rfl ?_
        refine dr_iload 204 hV dX5_setting_204 rfl ?_
        refine dr_iald 206 hV dX5_setting_206 (by decide) rfl rfl (by omega) (by decide) (hk _ n1) ?_
        refine dr_iadd (z := nI (sg_b s (sg_nc s a t) + sg_kk s a t (sg_nc s a t))) 207 hV dX5_setting_207 (nI_add _ _) ?_
        refine dr_istore_n 208 hV dX5_setting_208 (by decide) ?_
        refine dr_aload_n 209 hV dX5_setting_209 rfl ?_
        refine dr_geta 210 hV dX5_setting_210 (by decide) (by decide) rfl rfl rfl ?_
        refine dr_iload 213 hV dX5_setting_213 rfl ?_
        refine dr_dup2 215 hV dX5_setting_215 rfl rfl ?_
        refine dr_iald 216 hV dX5_setting_216 (by decide) rfl rfl (by omega) (by decide) (hk _ n1) ?_
        refine dr_iconst (v := nI 1) 217 hV dX5_setting_217 (by decide) ?_
        refine dr_iadd (z := nI (sg_kk s a t (sg_nc s a t) + 1)) 218 hV dX5_setting_218 (nI_1 _) ?_
        refine dr_iast 219 hV dX5_setting_219 (by decide) rfl rfl (by omega) (by decide) ?_
        refine dr_iinc1 220 hV dX5_setting_220 (by decide) rfl ?_
        refine dr_goto (tgt := 48) 223 hV dX5_setting_223 (by decide) ?_
        refine dr_sub hV (ls2 := [(0, .inr (.inr 0)), (1, .inl (nI x)), (2, .inl (se_pl s a (t + 1))), (3, .inl (nI (t + 1)))]) (by rw [hpl]; rfl) ?_
        refine ih (t + 1) (by omega) (by omega) _ (hR.w hO2 (Or.inl (by decide))) (fun j hj => ?_)
        rw [sg_kk_s]
        by_cases e : j = sg_nc s a t
        · subst e; rw [dz_wi_s]; simp
        · rw [dz_wi_n _ _ (by omega)]; simp only [if_neg e]; exact (hk j hj)
set_option maxRecDepth 100000 in
set_option maxHeartbeats 4000000 in
theorem c_X5_setting (π : dz_Pl) {s : dz_Sg} (v : Int32) (I : dz_MI) (J : dz_MJ) (hO : dz_OK s) (hR : dz_RM s I) : dz_Cl π dz_M 24 mX5_setting 5 143 [.inr (.inr 0), .inl v] I J (dz_Qm s (.inl (q_setting s v))) := by
  refine dz_body (own := 5) dz_mX5_setting rfl (Nat.le_of_ble_eq_true rfl) (fun V hV => ?_)
  have hO2 := hO
  obtain ⟨o1, o2, o3, o4, o5, o6, o7, o8, o9⟩ := hO
  have hle := sg_L_le s 0 0 10
  obtain ⟨⟨a, ha1, ha5, ha⟩, -, -⟩ := o9
  refine dr_aload_n 0 hV dX5_setting_0 rfl ?_
  refine dr_cv0 1 hV dz_lX5_158 dX5_setting_1 (by decide) (by decide) ⟨by decide, _, _, rfl, by decide, rfl⟩ (Nat.le_of_ble_eq_true rfl) (c_X5_find π _ _ hO2 hR) (fun r I2 J2 hf => ?_)
  obtain ⟨rfl, hR2, hA2, hF2⟩ := hf
  obtain ⟨m1, m2, m3, m4, m5, m6, m7, m8, m9, m10, m11, m12⟩ := id hR2
  first | refine dr_ifb_eq (tgt := 19) 4 hV dX5_setting_4 (by decide) (fun c4 => ?_) (fun c4 => ?_) | refine dr_if_eq (tgt := 19) 4 hV dX5_setting_4 (by decide) (fun c4 => ?_) (fun c4 => ?_)
  · refine dr_iconst (v := (-1)) 19 hV dX5_setting_19 (by decide) ?_
    exact dr_iret 20 hV dX5_setting_20 rfl (by first | rfl | exact dz_bn) (dz_qm (by clear hV; unfold q_setting; rw [dz_B1 (by rw [m3] at *; grind [sg_no])]) hR2)
  · refine dr_iload_n 7 hV dX5_setting_7 rfl ?_
    refine dr_if_lt (tgt := 19) 8 hV dX5_setting_8 (by decide) (fun c8 => ?_) (fun c8 => ?_)
    · refine dr_iconst (v := (-1)) 19 hV dX5_setting_19 (by decide) ?_
      exact dr_iret 20 hV dX5_setting_20 rfl (by first | rfl | exact dz_bn) (dz_qm (by clear hV; unfold q_setting; rw [dz_B1 (by rw [m3] at *; grind [sg_no])]) hR2)
    · refine dr_iload_n 11 hV dX5_setting_11 rfl ?_
      refine dr_aload_n 12 hV dX5_setting_12 rfl ?_
      refine dr_geti 13 hV dX5_setting_13 (by decide) (by decide) rfl rfl rfl rfl ?_
      refine dr_icmp_lt (tgt := 21) 16 hV dX5_setting_16 (by decide) (fun c16 => ?_) (fun c16 => ?_)
      · obtain ⟨x, hx, rfl⟩ := dz_ofI m3 (by omega) ⟨Int32.not_lt.mp c8, c16⟩
        have hok : ¬ (sg_no s ∨ ¬ (0 ≤ nI x ∧ nI x < nI (sg_p s))) := fun z => z.elim c4 (fun y => y (dz_inI rfl hx (by omega)))
        have zero : ∀ (fu i : Nat), sg_c s < i + fu → i ≤ sg_c s → ∀ I3 : dz_MI, dz_RM s I3 → (∀ j, j < i → I3 23 j = nI 0) → V 23 I3 J2 [(0, .inr (.inr 0)), (1, .inl (nI x)), (2, .inl (nI (i)))] [] := by
          intro fu
          induction fu with
          | zero => intro i h1 h2; exact absurd h1 (by omega)
          | succ fu ih =>
            intro i h1 h2 I3 hR3 hz
            refine dr_iload_n 23 hV dX5_setting_23 rfl ?_
            refine dr_aload_n 24 hV dX5_setting_24 rfl ?_
            refine dr_geti 25 hV dX5_setting_25 (by decide) (by decide) rfl rfl rfl hR3.2.1 ?_
            refine dn_icmp_ge (tgt := 44) 28 hV dX5_setting_28 (by decide) (by omega) (by omega) (fun c28 => ?_) (fun c28 => ?_)
            · refine dr_iconst (v := (-1)) 44 hV dX5_setting_44 (by decide) ?_
              refine dr_istore_n 45 hV dX5_setting_45 (by decide) ?_
              refine dr_iconst (v := nI 0) 46 hV dX5_setting_46 (by decide) ?_
              refine dr_istore_n 47 hV dX5_setting_47 (by decide) ?_
              refine dr_sub hV (ls2 := [(0, .inr (.inr 0)), (1, .inl (nI x)), (2, .inl (se_pl s a 0)), (3, .inl (nI (0)))]) rfl ?_
              exact se_t hV hO2 ha ha5 ha1 hx hok (fun h => h) (x + 2) 0 (by omega) (Nat.zero_le _) I3 hR3 (fun j hj => hz j (by omega))
            · refine dr_aload_n 31 hV dX5_setting_31 rfl ?_
              refine dr_geta 32 hV dX5_setting_32 (by decide) (by decide) rfl rfl rfl ?_
              refine dr_iload_n 35 hV dX5_setting_35 rfl ?_
              refine dr_iconst (v := nI 0) 36 hV dX5_setting_36 (by decide) ?_
              refine dr_iast 37 hV dX5_setting_37 (by decide) rfl rfl (by omega) (by decide) ?_
              refine dr_iinc1 38 hV dX5_setting_38 (by decide) rfl ?_
              refine dr_goto (tgt := 23) 41 hV dX5_setting_41 (by decide) ?_
              refine dr_sub hV (ls2 := [(0, .inr (.inr 0)), (1, .inl (nI x)), (2, .inl (nI (i + 1)))]) rfl ?_
              exact ih (i + 1) (by omega) (by omega) _ (hR3.w hO2 (Or.inl (by decide))) (fun j hj => by
                rcases Nat.lt_or_ge j i with z | z
                · rw [dz_wi_n _ _ (by omega)]; exact hz j z
                · rw [show j = i by omega, dz_wi_s])
        refine dr_iconst (v := nI 0) 21 hV dX5_setting_21 (by decide) ?_
        refine dr_istore_n 22 hV dX5_setting_22 (by decide) ?_
        refine dr_sub hV (ls2 := [(0, .inr (.inr 0)), (1, .inl (nI x)), (2, .inl (nI (0)))]) rfl ?_
        exact zero (sg_c s + 1) 0 (by omega) (Nat.zero_le _) I2 hR2 (fun j hj => absurd hj (by omega))
      · refine dr_iconst (v := (-1)) 19 hV dX5_setting_19 (by decide) ?_
        exact dr_iret 20 hV dX5_setting_20 rfl (by first | rfl | exact dz_bn) (dz_qm (by clear hV; unfold q_setting; rw [dz_B1 (by rw [m3] at *; grind [sg_no])]) hR2)
