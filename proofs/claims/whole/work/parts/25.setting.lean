/-! SETTING: stones set one by one; the model's isLevel and setting -/
/-- a column that may take the next stone: not full, and not far ahead of its neighbours that aren't full -/
def sg_lev (s : dz_Sg) (a : Nat) (k : Nat → Nat) (c : Nat) : Prop := ¬ k c = sg_h s c ∧ ∀ j, j < sg_c s → (j + 1 = c ∨ j = c + 1) → (k j = sg_h s j ∨ k c + 1 ≤ k j + a)
noncomputable def sg_kk (s : dz_Sg) (a : Nat) : Nat → Nat → Nat
  | 0 => fun _ => 0
  | t + 1 => fun j => if j = dz_fs (sg_lev s a (sg_kk s a t)) (sg_c s) then sg_kk s a t j + 1 else sg_kk s a t j
noncomputable def sg_nc (s : dz_Sg) (a t : Nat) : Nat := dz_fs (sg_lev s a (sg_kk s a t)) (sg_c s)
theorem sg_kk_s (s : dz_Sg) (a t : Nat) : sg_kk s a (t + 1) = fun j => if j = sg_nc s a t then sg_kk s a t j + 1 else sg_kk s a t j := rfl
theorem sg_lev_ex {s : dz_Sg} {a : Nat} (ha : 1 ≤ a) {k : Nat → Nat} (hk : ∀ j, j < sg_c s → k j ≤ sg_h s j) (hs : fb_sm k (sg_c s) < fb_sm (sg_h s) (sg_c s)) : ∃ c, c < sg_c s ∧ sg_lev s a k c := by
  have hx : ∃ c, c < sg_c s ∧ k c < sg_h s c := Classical.byContradiction fun hn => by
    have h0 : ∀ j, j < sg_c s → k j = sg_h s j := fun j hj => by
      have h1 := hk j hj
      have h2 : ¬ k j < sg_h s j := fun z => hn ⟨j, hj, z⟩
      omega
    rw [fb_sm_cong h0] at hs
    omega
  -- the lowest stand among those that aren't full
  have hw : ∀ (n c : Nat), k c ≤ n → c < sg_c s → k c < sg_h s c → ∃ c, c < sg_c s ∧ k c < sg_h s c ∧ ∀ j, j < sg_c s → k j < sg_h s j → k c ≤ k j := by
    intro n
    induction n with
    | zero => intro c h1 h2 h3; exact ⟨c, h2, h3, fun j _ _ => by omega⟩
    | succ n ih =>
      intro c h1 h2 h3
      by_cases hy : ∃ j, j < sg_c s ∧ k j < sg_h s j ∧ k j < k c
      · obtain ⟨j, j1, j2, j3⟩ := hy
        exact ih j (by omega) j1 j2
      · exact ⟨c, h2, h3, fun j j1 j2 => Nat.not_lt.mp (fun z => hy ⟨j, j1, j2, z⟩)⟩
  obtain ⟨c0, c1, c2⟩ := hx
  obtain ⟨c, h1, h2, h3⟩ := hw (k c0) c0 (Nat.le_refl _) c1 c2
  refine ⟨c, h1, by omega, fun j hj _ => ?_⟩
  by_cases e : k j = sg_h s j
  · exact Or.inl e
  · have := h3 j hj (by have := hk j hj; omega)
    exact Or.inr (by omega)
theorem sg_kk_ok {s : dz_Sg} (hO : dz_OK s) {a : Nat} (ha : 1 ≤ a) : ∀ t, t ≤ sg_p s → (∀ j, j < sg_c s → sg_kk s a t j ≤ sg_h s j) ∧ fb_sm (sg_kk s a t) (sg_c s) = t
  | 0, _ => ⟨fun _ _ => Nat.zero_le _, by rw [show fb_sm (sg_kk s a 0) (sg_c s) = fb_sm (fun _ => 0) (sg_c s) from rfl, fb_sm_const]; rfl⟩
  | t + 1, ht => by
    obtain ⟨h1, h2⟩ := sg_kk_ok hO ha t (by omega)
    have hs := hO.2.2.2.2.2.2.2.2.2.2
    obtain ⟨c, hc, hl⟩ := sg_lev_ex ha h1 (by rw [h2, hs]; omega)
    have hn : sg_nc s a t < sg_c s ∧ sg_lev s a (sg_kk s a t) (sg_nc s a t) := by
      rcases dz_fs_c (sg_lev s a (sg_kk s a t)) (sg_c s) with q | q
      · exact ⟨q.1, q.2.1⟩
      · exact absurd hl (q.2 c hc)
    rw [sg_kk_s]
    refine ⟨fun j hj => ?_, ?_⟩
    · by_cases e : j = sg_nc s a t
      · simp only [if_pos e]
        have := h1 j hj
        have := hn.2.1
        rw [← e] at this
        omega
      · simp only [if_neg e]; exact h1 j hj
    · have e1 : (fun j => if j = sg_nc s a t then sg_kk s a t j + 1 else sg_kk s a t j) = (fun j => if j = sg_nc s a t then sg_kk s a t (sg_nc s a t) + 1 else sg_kk s a t j) := funext fun j => by
        by_cases e : j = sg_nc s a t
        · rw [if_pos e, if_pos e, e]
        · rw [if_neg e, if_neg e]
      have := fb_sm_upd (sg_kk s a t) (sg_kk s a t (sg_nc s a t) + 1) hn.1
      rw [e1]
      omega
theorem sg_nc_ok {s : dz_Sg} (hO : dz_OK s) {a : Nat} (ha : 1 ≤ a) {t : Nat} (ht : t < sg_p s) : sg_nc s a t < sg_c s ∧ sg_lev s a (sg_kk s a t) (sg_nc s a t) ∧ ∀ j, j < sg_nc s a t → ¬ sg_lev s a (sg_kk s a t) j := by
  obtain ⟨h1, h2⟩ := sg_kk_ok hO ha t (by omega)
  have hs := hO.2.2.2.2.2.2.2.2.2.2
  obtain ⟨c, hc, hl⟩ := sg_lev_ex ha h1 (by rw [h2, hs]; exact ht)
  rcases dz_fs_c (sg_lev s a (sg_kk s a t)) (sg_c s) with q | q
  · exact q
  · exact absurd hl (q.2 c hc)
noncomputable def q_setting (s : dz_Sg) (v : Int32) : Int32 := if dz_B (sg_no s ∨ ¬ (0 ≤ v ∧ v < nI (sg_p s))) then -1 else nI (sg_b s (sg_nc s (sg_ah s).toNatClampNeg v.toNatClampNeg) + sg_kk s (sg_ah s).toNatClampNeg v.toNatClampNeg (sg_nc s (sg_ah s).toNatClampNeg v.toNatClampNeg))
theorem lev_2 {c : Nat} : nI c - nI 1 + Int32.ofInt 2 = nI (c + 1) := by
  rw [show Int32.ofInt 2 = nI 1 + nI 1 from by decide, ← Int32.add_assoc, Int32.sub_add_cancel]
  exact nI_1 c
set_option maxRecDepth 100000 in
set_option maxHeartbeats 4000000 in
theorem c_X5_isLevel (π : dz_Pl) {s : dz_Sg} {a c : Nat} {k : Nat → Nat} (I : dz_MI) (J : dz_MJ) (hO : dz_OK s) (hR : dz_RM s I) (ha : sg_ah s = nI a) (ha5 : a ≤ 5) (hc : c < sg_c s) (hk : ∀ j, j < sg_c s → I 23 j = nI (k j) ∧ k j ≤ sg_h s j) : dz_Cl π dz_M 24 mX5_isLevel 1 21 [.inr (.inr 0), .inl (nI c)] I J (dz_Pu (.inl (dz_bp (sg_lev s a k c))) I J) := by
  refine dz_body (own := 5) dz_mX5_isLevel rfl (Nat.le_of_ble_eq_true rfl) (fun V hV => ?_)
  have hO2 := hO
  obtain ⟨o1, o2, o3, o4, o5, o6, o7, o8, o9⟩ := hO
  obtain ⟨m1, m2, m3, m4, m5, m6, m7, m8, m9, m10, m11, m12⟩ := hR
  obtain ⟨kc1, kc2⟩ := hk c hc
  obtain ⟨gc1, gc2, gc3⟩ := o4 c hc
  have body : ∀ o : Int32, ¬ nI (c + 1) < o → (∀ j, o = nI j → j < sg_c s → (j + 1 = c ∨ j = c + 1)) → ((∀ j, j < sg_c s → o = nI j → (k j = sg_h s j ∨ k c + 1 ≤ k j + a)) → V 61 I J [(0, .inr (.inr 0)), (1, .inl (nI c)), (2, .inl (o))] []) → V 14 I J [(0, .inr (.inr 0)), (1, .inl (nI c)), (2, .inl (o))] [] := by
    intro o hx hnb K
    refine dr_iload_n 14 hV dX5_isLevel_14 rfl ?_
    refine dr_iload_n 15 hV dX5_isLevel_15 rfl ?_
    refine dr_iconst (v := nI 1) 16 hV dX5_isLevel_16 (by decide) ?_
    refine dr_iadd (z := nI (c + 1)) 17 hV dX5_isLevel_17 (nI_1 c) ?_
    refine dr_icmp_gt (tgt := 67) 18 hV dX5_isLevel_18 (by decide) (fun c18 => ?_) (fun c18 => ?_)
    · exact absurd c18 hx
    · refine dr_aload_n 21 hV dX5_isLevel_21 rfl ?_
      refine dr_iload_n 22 hV dX5_isLevel_22 rfl ?_
      refine dr_cvp1 23 hV dz_lX5_131 dX5_isLevel_23 (by decide) (by decide) ⟨by decide, _, _, rfl, by decide, rfl⟩ (Nat.le_of_ble_eq_true rfl) (c_X5_isColumn π _ _ _) ?_
      first | refine dr_ifb_eq (tgt := 61) 26 hV dX5_isLevel_26 (by decide) (fun c26 => ?_) (fun c26 => ?_) | refine dr_if_eq (tgt := 61) 26 hV dX5_isLevel_26 (by decide) (fun c26 => ?_) (fun c26 => ?_)
      · exact K (fun j hj e => absurd (by rw [e, m2]; exact dz_inI rfl hj (by omega)) c26)
      · obtain ⟨j, hj, rfl⟩ := dz_ofI m2 (by omega) c26
        obtain ⟨k1, k2⟩ := hk j hj
        obtain ⟨k3, k4⟩ := hk c hc
        obtain ⟨g1, g2, g3⟩ := o4 j hj
        obtain ⟨g4, g5, g6⟩ := o4 c hc
        obtain ⟨-, -, -, i4⟩ := m10 j hj
        refine dr_aload_n 29 hV dX5_isLevel_29 rfl ?_
        refine dr_iload_n 30 hV dX5_isLevel_30 rfl ?_
        refine dr_cvp1 31 hV dz_lX5_168 dX5_isLevel_31 (by decide) (by decide) ⟨by decide, _, _, rfl, by decide, rfl⟩ (Nat.le_of_ble_eq_true rfl) (c_X5_isFull π _ _ (show j < 4 by omega)) ?_
        first | refine dr_ifb_ne (tgt := 61) 34 hV dX5_isLevel_34 (by decide) (fun c34 => ?_) (fun c34 => ?_) | refine dr_if_ne (tgt := 61) 34 hV dX5_isLevel_34 (by decide) (fun c34 => ?_) (fun c34 => ?_)
        · rw [k1, i4, nI_eq (by omega) (by omega)] at c34
          exact K (fun j2 hj2 e => by rw [nI_eq (by omega) (by omega)] at e; subst e; exact Or.inl c34)
        · rw [k1, i4, nI_eq (by omega) (by omega)] at c34
          refine dr_aload_n 37 hV dX5_isLevel_37 rfl ?_
          refine dr_geta 38 hV dX5_isLevel_38 (by decide) (by decide) rfl rfl rfl ?_
          refine dr_iload_n 41 hV dX5_isLevel_41 rfl ?_
          refine dr_iald 42 hV dX5_isLevel_42 (by decide) rfl rfl (by omega) (by decide) k3 ?_
          refine dr_iconst (v := nI 1) 43 hV dX5_isLevel_43 (by decide) ?_
          refine dr_iadd (z := nI (k c + 1)) 44 hV dX5_isLevel_44 (nI_1 _) ?_
          refine dr_aload_n 45 hV dX5_isLevel_45 rfl ?_
          refine dr_geta 46 hV dX5_isLevel_46 (by decide) (by decide) rfl rfl rfl ?_
          refine dr_iload_n 49 hV dX5_isLevel_49 rfl ?_
          refine dr_iald 50 hV dX5_isLevel_50 (by decide) rfl rfl (by omega) (by decide) k1 ?_
          refine dr_isub 51 hV dX5_isLevel_51 rfl ?_
          refine dr_aload_n 52 hV dX5_isLevel_52 rfl ?_
          refine dr_geti 53 hV dX5_isLevel_53 (by decide) (by decide) rfl rfl rfl m6 ?_
          refine dr_icmp_le (tgt := 61) 56 hV dX5_isLevel_56 (by decide) (fun c56 => ?_) (fun c56 => ?_)
          · rw [ha, fa_le, pk_sub_toInt (by omega) (by omega), nI_toInt (by omega)] at c56
            exact K (fun j2 hj2 e => by rw [nI_eq (by omega) (by omega)] at e; subst e; exact Or.inr (by omega))
          · rw [ha, fa_le, pk_sub_toInt (by omega) (by omega), nI_toInt (by omega)] at c56
            refine dr_iconst (v := nI 0) 59 hV dX5_isLevel_59 (by decide) ?_
            exact dr_iret 60 hV dX5_isLevel_60 rfl (by first | rfl | exact dz_bn) (dz_bp0 (fun z => by rcases z.2 j hj (hnb j rfl hj) with q | q <;> omega))
  refine dr_aload_n 0 hV dX5_isLevel_0 rfl ?_
  refine dr_iload_n 1 hV dX5_isLevel_1 rfl ?_
  refine dr_cvp1 2 hV dz_lX5_168 dX5_isLevel_2 (by decide) (by decide) ⟨by decide, _, _, rfl, by decide, rfl⟩ (Nat.le_of_ble_eq_true rfl) (c_X5_isFull π _ _ (show c < 4 by omega)) ?_
  first | refine dr_ifb_eq (tgt := 10) 5 hV dX5_isLevel_5 (by decide) (fun c5 => ?_) (fun c5 => ?_) | refine dr_if_eq (tgt := 10) 5 hV dX5_isLevel_5 (by decide) (fun c5 => ?_) (fun c5 => ?_)
  · have hfull : ¬ k c = sg_h s c := fun z => c5 (by rw [kc1, (m10 c hc).2.2.2, z])
    refine dr_iload_n 10 hV dX5_isLevel_10 rfl ?_
    refine dr_iconst (v := nI 1) 11 hV dX5_isLevel_11 (by decide) ?_
    refine dr_isub 12 hV dX5_isLevel_12 rfl ?_
    refine dr_istore_n 13 hV dX5_isLevel_13 (by decide) ?_
    refine dr_sub hV (ls2 := [(0, .inr (.inr 0)), (1, .inl (nI c)), (2, .inl (nI c - nI 1))]) rfl ?_
    refine body (nI c - nI 1) (by rw [fa_lt, pk_sub_toInt (by omega) (by decide), nI_toInt (by omega)]; omega) (fun j e hj => ?_) (fun q1 => ?_)
    · rw [fa_eq, pk_sub_toInt (by omega) (by decide), nI_toInt (by omega)] at e; omega
    refine dr_iinc (v2 := nI (c + 1)) 61 hV dX5_isLevel_61 (by decide) rfl lev_2 ?_
    refine dr_goto (tgt := 14) 64 hV dX5_isLevel_64 (by decide) ?_
    refine dr_sub hV (ls2 := [(0, .inr (.inr 0)), (1, .inl (nI c)), (2, .inl (nI (c + 1)))]) rfl ?_
    refine body (nI (c + 1)) (by simp [fa_lt]) (fun j e hj => ?_) (fun q2 => ?_)
    · rw [nI_eq (by omega) (by omega)] at e; omega
    refine dr_iinc (v2 := nI (c + 3)) 61 hV dX5_isLevel_61 (by decide) rfl (nI_add (c + 1) 2) ?_
    refine dr_goto (tgt := 14) 64 hV dX5_isLevel_64 (by decide) ?_
    refine dr_iload_n 14 hV dX5_isLevel_14 rfl ?_
    refine dr_iload_n 15 hV dX5_isLevel_15 rfl ?_
    refine dr_iconst (v := nI 1) 16 hV dX5_isLevel_16 (by decide) ?_
    refine dr_iadd (z := nI (c + 1)) 17 hV dX5_isLevel_17 (nI_1 c) ?_
    refine dn_icmp_gt (tgt := 67) 18 hV dX5_isLevel_18 (by decide) (by omega) (by omega) (fun c18 => ?_) (fun c18 => ?_)
    · refine dr_iconst (v := nI 1) 67 hV dX5_isLevel_67 (by decide) ?_
      exact dr_iret 68 hV dX5_isLevel_68 rfl (by first | rfl | exact dz_bn) (dz_bp1 ⟨hfull, fun j hj z => z.elim (fun z => q1 j hj (by rw [fa_eq, pk_sub_toInt (by omega) (by decide), nI_toInt (by omega)]; omega)) (fun z => q2 j hj (by rw [z]))⟩)
    · omega
  · have hfull : k c = sg_h s c := (nI_eq (by omega) (by omega)).mp (by rw [← kc1, ← (m10 c hc).2.2.2]; exact c5)
    refine dr_iconst (v := nI 0) 8 hV dX5_isLevel_8 (by decide) ?_
    exact dr_iret 9 hV dX5_isLevel_9 rfl (by first | rfl | exact dz_bn) (dz_bp0 (fun z => z.1 hfull))
