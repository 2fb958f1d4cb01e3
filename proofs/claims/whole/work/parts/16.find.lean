/-! the model's find -/
def sg_best (s : dz_Sg) (p d u l : Nat) : Prop := (d = 10 ∨ d < sg_n s) ∧ sg_may s p d u l ∧ ¬ sg_L s (p + 1) (sg_nx u d) d = 1000 ∧ sg_L s (p + 1) (sg_nx u d) d + (if d = 10 then 1 else 0) = sg_L s p u l
theorem sg_L_9 {s : dz_Sg} {p u l : Nat} (h : ¬ sg_L s p u l = 1000) : sg_L s p u l < 9 := by
  unfold sg_L at h ⊢
  split at h
  · rename_i q
    rw [if_pos q]
    rcases dz_lo_c (sg_C s (sg_p s - p) u l) with z | z
    · exact absurd z.1 h
    · exact z.1
  · exact absurd rfl h
theorem dz_addb {a : Nat} {P : Prop} {hd : Decidable P} : nI a + @dz_b P hd = nI (a + if P then 1 else 0) := by
  unfold dz_b; split
  · exact nI_1 a
  · rw [Nat.add_zero]; exact (congrArg (fun z => nI a + z) nI_0.symm).trans ((nI_add a 0).trans rfl)
theorem c_index (π : dz_Pl) (Λ : Nat → dz_Ds) (N : Nat) (p u l : Nat) (I : dz_MI) (J : dz_MJ) : dz_Cl π Λ N mX5_index 0 0 [.inl (nI p), .inl (nI u), .inl (nI l)] I J (dz_Pu (.inl (nI (sg_ix p u l))) I J) := c_X5_index π Λ N p u l I J
theorem c_behind (π : dz_Pl) (p d u : Nat) (I : dz_MI) (J : dz_MJ) (hd : d ≤ 10) : dz_Cl π dz_M 24 mX5_behind 1 22 [.inr (.inr 0), .inl (nI p), .inl (nI d), .inl (nI u)] I J (dz_Pu (.inl (nI (sg_ix (p + 1) (sg_nx u d) d))) I J) := c_X5_behind π p d u I J hd
def fi_L (s : dz_Sg) (I : dz_MI) : Prop := ∀ p u l, p ≤ sg_p s → u < 2 ^ sg_n s → l < 11 → I 18 (sg_ix p u l) = nI (sg_L s p u l)
set_option maxRecDepth 100000 in
set_option maxHeartbeats 4000000 in
theorem c_X5_isBest (π : dz_Pl) {s : dz_Sg} {p d u l : Nat} (I : dz_MI) (J : dz_MJ) (hO : dz_OK s) (hR : dz_RM s I) (hT : fi_L s I) (hp : p < sg_p s) (hd : d ≤ 10) (hu : u < 2 ^ sg_n s) (hl : l = 10 ∨ l < sg_n s) : dz_Cl π dz_M 24 mX5_isBest 3 91 [.inr (.inr 0), .inl (nI p), .inl (nI d), .inl (nI u), .inl (nI l)] I J (dz_Pu (.inl (dz_bp (sg_best s p d u l))) I J) := by
  refine dz_body (own := 5) dz_mX5_isBest rfl (Nat.le_of_ble_eq_true rfl) (fun V hV => ?_)
  have hO2 := hO
  have hR2 := hR
  obtain ⟨o1, o2, o3, o4, o5, o6, o7, o8, o9⟩ := hO
  obtain ⟨m1, m2, m3, m4, m5, m6, m7, m8, m9, m10, m11, m12⟩ := hR
  have hu2 := dz_pn o1
  have hle := sg_L_le s (p + 1) (sg_nx u d) d
  have hle2 := sg_L_le s p u l
  refine dr_iload_n 0 hV dX5_isBest_0 rfl ?_
  refine dr_bipush (v := nI 10) 1 hV dX5_isBest_1 (by decide) ?_
  refine dn_icmp_eq (tgt := 14) 3 hV dX5_isBest_3 (by decide) (by omega) (by omega) (fun c3 => ?_) (fun c3 => ?_)
  · refine dr_aload_n 14 hV dX5_isBest_14 rfl ?_
    refine dr_iload_n 15 hV dX5_isBest_15 rfl ?_
    refine dr_iload_n 16 hV dX5_isBest_16 rfl ?_
    refine dr_iload_n 17 hV dX5_isBest_17 rfl ?_
    refine dr_iload 18 hV dX5_isBest_18 rfl ?_
    refine dr_cvp4 20 hV dz_lX5_148 dX5_isBest_20 (by decide) (by decide) ⟨by decide, _, _, rfl, by decide, rfl⟩ (Nat.le_of_ble_eq_true rfl) (c_X5_may π _ _ hO2 hR2 hp (by omega) (by omega) hl) ?_
    first | refine dr_ifb_ne (tgt := 28) 23 hV dX5_isBest_23 (by decide) (fun c23 => ?_) (fun c23 => ?_) | refine dr_if_ne (tgt := 28) 23 hV dX5_isBest_23 (by decide) (fun c23 => ?_) (fun c23 => ?_)
    · have hdn : d = 10 ∨ d < sg_n s := by omega
      have hnx := sg_nx_lt hu hdn
      refine dr_aload_n 28 hV dX5_isBest_28 rfl ?_
      refine dr_geta 29 hV dX5_isBest_29 (by decide) (by decide) rfl rfl rfl ?_
      refine dr_aload_n 32 hV dX5_isBest_32 rfl ?_
      refine dr_iload_n 33 hV dX5_isBest_33 rfl ?_
      refine dr_iload_n 34 hV dX5_isBest_34 rfl ?_
      refine dr_iload_n 35 hV dX5_isBest_35 rfl ?_
      refine dr_cvp3 36 hV dz_lX5_152 dX5_isBest_36 (by decide) (by decide) ⟨by decide, _, _, rfl, by decide, rfl⟩ (Nat.le_of_ble_eq_true rfl) (c_behind π p d u _ _ hd) ?_
      refine dr_iald 39 hV dX5_isBest_39 (by decide) rfl rfl (sg_ix_lt (p := p + 1) (u := sg_nx u d) (l := d) (by omega) (by omega) (by omega)) (by decide) (hT (p + 1) (sg_nx u d) d (by omega) hnx (by omega)) ?_
      refine dr_istore 40 hV dX5_isBest_40 (by decide) ?_
      refine dr_iload 42 hV dX5_isBest_42 rfl ?_
      refine dr_sipush (v := nI 1000) 44 hV dX5_isBest_44 (by decide) ?_
      refine dn_icmp_eq (tgt := 83) 47 hV dX5_isBest_47 (by decide) (by omega) (by omega) (fun c47 => ?_) (fun c47 => ?_)
      · refine dr_iconst (v := nI 0) 83 hV dX5_isBest_83 (by decide) ?_
        exact dr_iret 84 hV dX5_isBest_84 rfl (by first | rfl | exact dz_bn) (by clear hV; first | exact dz_bp1 (by unfold sg_best; grind) | exact dz_bp0 (by unfold sg_best; grind))
      · refine dr_iload 50 hV dX5_isBest_50 rfl ?_
        refine dr_iload_n 52 hV dX5_isBest_52 rfl ?_
        refine dr_bipush (v := nI 10) 53 hV dX5_isBest_53 (by decide) ?_
        refine dr_mat_ne (P := d = 10) 55 hV dX5_isBest_55 dX5_isBest_58 dX5_isBest_59 dX5_isBest_62 (nI_eq (by omega) (by decide)).symm ?_
        refine dr_iadd (z := nI (sg_L s (p + 1) (sg_nx u d) d + if d = 10 then 1 else 0)) 63 hV dX5_isBest_63 dz_addb ?_
        refine dr_aload_n 64 hV dX5_isBest_64 rfl ?_
        refine dr_geta 65 hV dX5_isBest_65 (by decide) (by decide) rfl rfl rfl ?_
        refine dr_iload_n 68 hV dX5_isBest_68 rfl ?_
        refine dr_iload_n 69 hV dX5_isBest_69 rfl ?_
        refine dr_iload 70 hV dX5_isBest_70 rfl ?_
        refine dr_csp3 72 hV (Or.inl dz_lX5_144) dX5_isBest_72 (by decide) (by decide) (Nat.le_of_ble_eq_true rfl) (c_index π _ _ p u l _ _) ?_
        refine dr_iald 75 hV dX5_isBest_75 (by decide) rfl rfl (sg_ix_lt (p := p) (u := u) (l := l) (by omega) (by omega) (by omega)) (by decide) (hT p u l (by omega) hu (by omega)) ?_
        refine dn_icmp_ne (tgt := 83) 76 hV dX5_isBest_76 (by decide) (by split <;> omega) (by omega) (fun c76 => ?_) (fun c76 => ?_)
        · refine dr_iconst (v := nI 0) 83 hV dX5_isBest_83 (by decide) ?_
          exact dr_iret 84 hV dX5_isBest_84 rfl (by first | rfl | exact dz_bn) (by clear hV; first | exact dz_bp1 (by unfold sg_best; grind) | exact dz_bp0 (by unfold sg_best; grind))
        · refine dr_iconst (v := nI 1) 79 hV dX5_isBest_79 (by decide) ?_
          refine dr_goto (tgt := 84) 80 hV dX5_isBest_80 (by decide) ?_
          exact dr_iret 84 hV dX5_isBest_84 rfl (by first | rfl | exact dz_bn) (by clear hV; first | exact dz_bp1 (by unfold sg_best; grind) | exact dz_bp0 (by unfold sg_best; grind))
    · refine dr_iconst (v := nI 0) 26 hV dX5_isBest_26 (by decide) ?_
      exact dr_iret 27 hV dX5_isBest_27 rfl (by first | rfl | exact dz_bn) (by clear hV; first | exact dz_bp1 (by unfold sg_best; grind) | exact dz_bp0 (by unfold sg_best; grind))
  · refine dr_iload_n 6 hV dX5_isBest_6 rfl ?_
    refine dr_aload_n 7 hV dX5_isBest_7 rfl ?_
    refine dr_geti 8 hV dX5_isBest_8 (by decide) (by decide) rfl rfl rfl m1 ?_
    refine dn_icmp_ge (tgt := 26) 11 hV dX5_isBest_11 (by decide) (by omega) (by omega) (fun c11 => ?_) (fun c11 => ?_)
    · refine dr_iconst (v := nI 0) 26 hV dX5_isBest_26 (by decide) ?_
      exact dr_iret 27 hV dX5_isBest_27 rfl (by first | rfl | exact dz_bn) (by clear hV; first | exact dz_bp1 (by unfold sg_best; grind) | exact dz_bp0 (by unfold sg_best; grind))
    · refine dr_aload_n 14 hV dX5_isBest_14 rfl ?_
      refine dr_iload_n 15 hV dX5_isBest_15 rfl ?_
      refine dr_iload_n 16 hV dX5_isBest_16 rfl ?_
      refine dr_iload_n 17 hV dX5_isBest_17 rfl ?_
      refine dr_iload 18 hV dX5_isBest_18 rfl ?_
      refine dr_cvp4 20 hV dz_lX5_148 dX5_isBest_20 (by decide) (by decide) ⟨by decide, _, _, rfl, by decide, rfl⟩ (Nat.le_of_ble_eq_true rfl) (c_X5_may π _ _ hO2 hR2 hp (by omega) (by omega) hl) ?_
      first | refine dr_ifb_ne (tgt := 28) 23 hV dX5_isBest_23 (by decide) (fun c23 => ?_) (fun c23 => ?_) | refine dr_if_ne (tgt := 28) 23 hV dX5_isBest_23 (by decide) (fun c23 => ?_) (fun c23 => ?_)
      · have hdn : d = 10 ∨ d < sg_n s := by omega
        have hnx := sg_nx_lt hu hdn
        refine dr_aload_n 28 hV dX5_isBest_28 rfl ?_
        refine dr_geta 29 hV dX5_isBest_29 (by decide) (by decide) rfl rfl rfl ?_
        refine dr_aload_n 32 hV dX5_isBest_32 rfl ?_
        refine dr_iload_n 33 hV dX5_isBest_33 rfl ?_
        refine dr_iload_n 34 hV dX5_isBest_34 rfl ?_
        refine dr_iload_n 35 hV dX5_isBest_35 rfl ?_
        refine dr_cvp3 36 hV dz_lX5_152 dX5_isBest_36 (by decide) (by decide) ⟨by decide, _, _, rfl, by decide, rfl⟩ (Nat.le_of_ble_eq_true rfl) (c_behind π p d u _ _ hd) ?_
        refine dr_iald 39 hV dX5_isBest_39 (by decide) rfl rfl (sg_ix_lt (p := p + 1) (u := sg_nx u d) (l := d) (by omega) (by omega) (by omega)) (by decide) (hT (p + 1) (sg_nx u d) d (by omega) hnx (by omega)) ?_
        refine dr_istore 40 hV dX5_isBest_40 (by decide) ?_
        refine dr_iload 42 hV dX5_isBest_42 rfl ?_
        refine dr_sipush (v := nI 1000) 44 hV dX5_isBest_44 (by decide) ?_
        refine dn_icmp_eq (tgt := 83) 47 hV dX5_isBest_47 (by decide) (by omega) (by omega) (fun c47 => ?_) (fun c47 => ?_)
        · refine dr_iconst (v := nI 0) 83 hV dX5_isBest_83 (by decide) ?_
          exact dr_iret 84 hV dX5_isBest_84 rfl (by first | rfl | exact dz_bn) (by clear hV; first | exact dz_bp1 (by unfold sg_best; grind) | exact dz_bp0 (by unfold sg_best; grind))
        · refine dr_iload 50 hV dX5_isBest_50 rfl ?_
          refine dr_iload_n 52 hV dX5_isBest_52 rfl ?_
          refine dr_bipush (v := nI 10) 53 hV dX5_isBest_53 (by decide) ?_
          refine dr_mat_ne (P := d = 10) 55 hV dX5_isBest_55 dX5_isBest_58 dX5_isBest_59 dX5_isBest_62 (nI_eq (by omega) (by decide)).symm ?_
          refine dr_iadd (z := nI (sg_L s (p + 1) (sg_nx u d) d + if d = 10 then 1 else 0)) 63 hV dX5_isBest_63 dz_addb ?_
          refine dr_aload_n 64 hV dX5_isBest_64 rfl ?_
          refine dr_geta 65 hV dX5_isBest_65 (by decide) (by decide) rfl rfl rfl ?_
          refine dr_iload_n 68 hV dX5_isBest_68 rfl ?_
          refine dr_iload_n 69 hV dX5_isBest_69 rfl ?_
          refine dr_iload 70 hV dX5_isBest_70 rfl ?_
          refine dr_csp3 72 hV (Or.inl dz_lX5_144) dX5_isBest_72 (by decide) (by decide) (Nat.le_of_ble_eq_true rfl) (c_index π _ _ p u l _ _) ?_
          refine dr_iald 75 hV dX5_isBest_75 (by decide) rfl rfl (sg_ix_lt (p := p) (u := u) (l := l) (by omega) (by omega) (by omega)) (by decide) (hT p u l (by omega) hu (by omega)) ?_
          refine dn_icmp_ne (tgt := 83) 76 hV dX5_isBest_76 (by decide) (by split <;> omega) (by omega) (fun c76 => ?_) (fun c76 => ?_)
          · refine dr_iconst (v := nI 0) 83 hV dX5_isBest_83 (by decide) ?_
            exact dr_iret 84 hV dX5_isBest_84 rfl (by first | rfl | exact dz_bn) (by clear hV; first | exact dz_bp1 (by unfold sg_best; grind) | exact dz_bp0 (by unfold sg_best; grind))
          · refine dr_iconst (v := nI 1) 79 hV dX5_isBest_79 (by decide) ?_
            refine dr_goto (tgt := 84) 80 hV dX5_isBest_80 (by decide) ?_
            exact dr_iret 84 hV dX5_isBest_84 rfl (by first | rfl | exact dz_bn) (by clear hV; first | exact dz_bp1 (by unfold sg_best; grind) | exact dz_bp0 (by unfold sg_best; grind))
      · refine dr_iconst (v := nI 0) 26 hV dX5_isBest_26 (by decide) ?_
        exact dr_iret 27 hV dX5_isBest_27 rfl (by first | rfl | exact dz_bn) (by clear hV; first | exact dz_bp1 (by unfold sg_best; grind) | exact dz_bp0 (by unfold sg_best; grind))
def fi_X (I0 : dz_MI) (J0 : dz_MJ) (I : dz_MI) (J : dz_MJ) (k0 : Nat) : Prop := (∀ c k, ¬ (c = 18 ∧ k = k0) → I c k = I0 c k) ∧ (∀ c k, ¬ ((c = 19 ∨ c = 20) ∧ k = k0) → J c k = J0 c k)
theorem fi_X.rf (I : dz_MI) (J : dz_MJ) (k0 : Nat) : fi_X I J I J k0 := ⟨fun _ _ _ => rfl, fun _ _ _ => rfl⟩
theorem fi_X.wi {I0 : dz_MI} {J0 : dz_MJ} {I : dz_MI} {J : dz_MJ} {k0 : Nat} (h : fi_X I0 J0 I J k0) (x : Int32) : fi_X I0 J0 (dz_wi I 18 k0 x) J k0 := ⟨fun c k q => by rw [dz_wi_n I x q]; exact h.1 c k q, h.2⟩
theorem fi_X.wj {I0 : dz_MI} {J0 : dz_MJ} {I : dz_MI} {J : dz_MJ} {k0 c0 : Nat} (hc : c0 = 19 ∨ c0 = 20) (h : fi_X I0 J0 I J k0) (x : Int64) : fi_X I0 J0 I (dz_wj J c0 k0 x) k0 := ⟨h.1, fun c k q => by rw [dz_wj_n J x (fun z => q ⟨by rw [z.1]; exact hc, z.2⟩)]; exact h.2 c k q⟩
theorem dz_RM.agree {s : dz_Sg} {I I2 : dz_MI} (hO : dz_OK s) (h : dz_RM s I) (ha : ∀ c k, c ≤ 17 → ¬ (c = 0 ∧ k = 0) → I2 c k = I c k) : dz_RM s I2 := by
  obtain ⟨m1, m2, m3, m4, m5, m6, m7, m8, m9, m10, m11, m12⟩ := h
  refine ⟨by rw [ha _ _ (by omega) (by omega)]; exact m1, by rw [ha _ _ (by omega) (by omega)]; exact m2, by rw [ha _ _ (by omega) (by omega)]; exact m3, by rw [ha _ _ (by omega) (by omega)]; exact m4, by rw [ha _ _ (by omega) (by omega)]; exact m5, by rw [ha _ _ (by omega) (by omega)]; exact m6, by rw [ha _ _ (by omega) (by omega)]; exact m7, fun k hk => by rw [ha _ _ (by omega) (by omega)]; exact m8 k hk, fun d w hd hw => by rw [ha _ _ (by omega) (by omega)]; exact m9 d w hd hw, fun k hk => ?_, fun q hq => ?_, fun q d hq hd => by rw [ha _ _ (by omega) (by omega)]; exact m12 q d hq hd⟩
  · rw [ha 11 _ (by omega) (by omega), ha 12 _ (by omega) (by omega), ha 13 _ (by omega) (by omega), ha 14 _ (by omega) (by omega)]; exact m10 k hk
  · rw [ha 15 _ (by omega) (by omega), ha 16 _ (by omega) (by omega)]; exact m11 q hq
theorem fi_X.RM {s : dz_Sg} {I0 : dz_MI} {J0 : dz_MJ} {I : dz_MI} {J : dz_MJ} {k0 : Nat} (hO : dz_OK s) (hR : dz_RM s I0) (h : fi_X I0 J0 I J k0) : dz_RM s I := dz_RM.agree hO hR (fun c k hc _ => h.1 c k (by omega))
/-- the tables are filled: all places behind p0, and m states of p0 -/
def fi_T (s : dz_Sg) (I : dz_MI) (J : dz_MJ) (p0 m : Nat) : Prop := ∀ p u l, p ≤ sg_p s → u < 2 ^ sg_n s → l < 11 → (p0 < p ∨ (p = p0 ∧ u * 11 + l < m)) → I 18 (sg_ix p u l) = nI (sg_L s p u l) ∧ J 19 (sg_ix p u l) = lN (sg_M s p u l) ∧ J 20 (sg_ix p u l) = 0
theorem fi_T.next {s : dz_Sg} {I0 I : dz_MI} {J0 J : dz_MJ} {p u l : Nat} (hn : sg_n s ≤ 10) (hu : u < 2 ^ sg_n s) (hl : l < 11) (h : fi_T s I0 J0 p (u * 11 + l)) (hx : fi_X I0 J0 I J (sg_ix p u l)) (h1 : I 18 (sg_ix p u l) = nI (sg_L s p u l)) (h2 : J 19 (sg_ix p u l) = lN (sg_M s p u l)) (h3 : J 20 (sg_ix p u l) = 0) : fi_T s I J p (u * 11 + (l + 1)) := by
  intro p2 u2 l2 hp2 hu2 hl2 hc
  have e10 := dz_pn hn
  by_cases he : p2 = p ∧ u2 = u ∧ l2 = l
  · obtain ⟨rfl, rfl, rfl⟩ := he
    exact ⟨h1, h2, h3⟩
  · have hne : ¬ sg_ix p2 u2 l2 = sg_ix p u l := fun q => he (sg_ix_inj (by omega) hl2 (by omega) hl q)
    have hc2 : p < p2 ∨ (p2 = p ∧ u2 * 11 + l2 < u * 11 + l) := by
      rcases hc with q | ⟨q1, q2⟩
      · exact Or.inl q
      · refine Or.inr ⟨q1, ?_⟩
        rcases Nat.lt_or_ge (u2 * 11 + l2) (u * 11 + l) with z | z
        · exact z
        · exact absurd ⟨q1, by omega, by omega⟩ he
    obtain ⟨g1, g2, g3⟩ := h p2 u2 l2 hp2 hu2 hl2 hc2
    rw [hx.1 18 _ (fun q => hne q.2), hx.2 19 _ (fun q => hne q.2), hx.2 20 _ (fun q => hne q.2)]
    exact ⟨g1, g2, g3⟩
noncomputable def fi_c (s : dz_Sg) (r u l d : Nat) : Nat → Nat := fun k => fb_sm (fun d => sg_E s r u l d k) d
theorem fi_c_s (s : dz_Sg) (r u l d : Nat) : fi_c s r u l (d + 1) = fun k => fi_c s r u l d k + sg_E s r u l d k := rfl
theorem fi_e_no {s : dz_Sg} {r u l d : Nat} (h : sg_ok s (sg_p s - (r + 1)) d u l = false) : dz_lo (sg_E s r u l d) = 1000 := dz_lo_n (fun j _ => by unfold sg_E; rw [h]; rfl)
theorem fi_e {s : dz_Sg} {r u l d p : Nat} (hr : sg_p s = p + (r + 1)) (h8 : sg_p s ≤ 8) (hd : d = 10 ∨ d < sg_n s) (h : sg_ok s (sg_p s - (r + 1)) d u l = true) : (sg_L s (p + 1) (sg_nx u d) d = 1000 → dz_lo (sg_E s r u l d) = 1000) ∧ (¬ sg_L s (p + 1) (sg_nx u d) d = 1000 → dz_lo (sg_E s r u l d) = sg_L s (p + 1) (sg_nx u d) d + (if d = 10 then 1 else 0) ∧ dz_no (sg_E s r u l d) = sg_M s (p + 1) (sg_nx u d) d) := by
  have e0 : sg_E s r u l d = sg_sh d (sg_C s r (sg_nx u d) d) := by funext k; unfold sg_E; rw [h]; rfl
  have hv := sg_vl_nx (s := s) (u := u) hd
  have er : sg_p s - (p + 1) = r := by omega
  rw [sg_L_v (Or.inr hv), sg_M_v (Or.inr hv), er, e0]
  by_cases h10 : d = 10
  · subst h10
    obtain ⟨q1, q2⟩ := sg_sh_lo (sg_C s r (sg_nx u 10) 10) (sg_C_big s r _ _ 8 (by omega))
    rw [q1, q2]
    refine ⟨fun z => by rw [if_pos z], fun z => ⟨by rw [if_neg z, if_pos rfl], rfl⟩⟩
  · rw [sg_sh_n h10, if_neg h10]
    exact ⟨fun z => z, fun z => ⟨(Nat.add_zero _).symm, rfl⟩⟩
set_option maxRecDepth 100000 in
set_option maxHeartbeats 4000000 in
theorem fi_in {π : dz_Pl} {post : Option dz_AV → dz_MI → dz_MJ → Prop} {V : dz_Vt} (hV : dz_Clo π dz_M 24 5 mX5_find 4 116 post V) {s : dz_Sg} {I0 : dz_MI} {J0 : dz_MJ} {p u l r : Nat} (hO : dz_OK s) (hR : dz_RM s I0) (hT : fi_T s I0 J0 p (u * 11 + l)) (hr : sg_p s = p + (r + 1)) (hu : u < 2 ^ sg_n s) (hl : l = 10 ∨ l < sg_n s) (K : ∀ I J, fi_X I0 J0 I J (sg_ix p u l) → I 18 (sg_ix p u l) = nI (dz_lo (fi_c s r u l 11)) → J 19 (sg_ix p u l) = lN (dz_no (fi_c s r u l 11)) → J 20 (sg_ix p u l) = 0 → V 285 I J [(0, .inr (.inr 0)), (1, .inl (nI p)), (2, .inl (nI u)), (3, .inl (nI l))] []) : ∀ (fu d : Nat) (I : dz_MI) (J : dz_MJ), 11 < d + fu → d ≤ 11 → fi_X I0 J0 I J (sg_ix p u l) → I 18 (sg_ix p u l) = nI (dz_lo (fi_c s r u l d)) → J 19 (sg_ix p u l) = lN (dz_no (fi_c s r u l d)) → J 20 (sg_ix p u l) = 0 → V 128 I J [(0, .inr (.inr 0)), (1, .inl (nI p)), (2, .inl (nI u)), (3, .inl (nI l)), (4, .inl (nI (sg_ix p u l))), (5, .inl (nI (d)))] [] := by
  have hO2 := hO
  obtain ⟨o1, o2, o3, o4, o5, o6, o7, o8, o9⟩ := hO
  have hu2 := dz_pn o1
  have hp : p < sg_p s := by omega
  have hk0 := sg_ix_lt (p := p) (u := u) (l := l) (by omega) (by omega) (by omega)
  intro fu
  induction fu with
  | zero => intro d I J h1 h2; exact absurd h1 (by omega)
  | succ fu ih =>
      intro d I J h1 h2 hx h18 h19 h20
      have hRI := hx.RM hO2 hR
      have hO := hO2
      have m1 := hRI.1
      refine dr_iload 128 hV dX5_find_128 rfl ?_
      refine dr_bipush (v := nI 10) 130 hV dX5_find_130 (by decide) ?_
      refine dn_icmp_gt (tgt := 285) 132 hV dX5_find_132 (by decide) (by omega) (by omega) (fun c132 => ?_) (fun c132 => ?_)
      · have hd11 : d = 11 := by omega
        subst hd11
        refine dr_sub hV (ls2 := [(0, .inr (.inr 0)), (1, .inl (nI p)), (2, .inl (nI u)), (3, .inl (nI l))]) rfl ?_
        exact K I J hx h18 h19 h20
      · refine dr_iload 135 hV dX5_find_135 rfl ?_
        refine dr_bipush (v := nI 10) 137 hV dX5_find_137 (by decide) ?_
        refine dn_icmp_eq (tgt := 151) 139 hV dX5_find_139 (by decide) (by omega) (by omega) (fun c139 => ?_) (fun c139 => ?_)
        · refine dr_aload_n 151 hV dX5_find_151 rfl ?_
          refine dr_iload_n 152 hV dX5_find_152 rfl ?_
          refine dr_iload 153 hV dX5_find_153 rfl ?_
          refine dr_iload_n 155 hV dX5_find_155 rfl ?_
          refine dr_iload_n 156 hV dX5_find_156 rfl ?_
          refine dr_cvp4 157 hV dz_lX5_148 dX5_find_157 (by decide) (by decide) ⟨by decide, _, _, rfl, by decide, rfl⟩ (Nat.le_of_ble_eq_true rfl) (c_X5_may π _ _ hO hRI hp (by omega) (by omega) hl) ?_
          first | refine dr_ifb_ne (tgt := 166) 160 hV dX5_find_160 (by decide) (fun c160 => ?_) (fun c160 => ?_) | refine dr_if_ne (tgt := 166) 160 hV dX5_find_160 (by decide) (fun c160 => ?_) (fun c160 => ?_)
          · have hdn : d = 10 ∨ d < sg_n s := by omega
            have hnx := sg_nx_lt hu hdn
            have hok : sg_ok s (sg_p s - (r + 1)) d u l = true := dz_Bt.mpr ⟨hdn, by rw [show sg_p s - (r + 1) = p by omega]; exact c160⟩
            obtain ⟨f1, f2⟩ := fi_e hr o3 hdn hok
            have hne : ¬ sg_ix (p + 1) (sg_nx u d) d = sg_ix p u l := fun q => by have := (sg_ix_inj (by omega) (by omega) (by omega) (by omega) q).1; omega
            obtain ⟨t1, t2, -⟩ := hT (p + 1) (sg_nx u d) d (by omega) hnx (by omega) (Or.inl (by omega))
            have hLn : I 18 (sg_ix (p + 1) (sg_nx u d) d) = nI (sg_L s (p + 1) (sg_nx u d) d) := by rw [hx.1 18 _ (fun q => hne q.2)]; exact t1
            have hMn : J 19 (sg_ix (p + 1) (sg_nx u d) d) = lN (sg_M s (p + 1) (sg_nx u d) d) := by rw [hx.2 19 _ (fun q => hne q.2)]; exact t2
            have hle := sg_L_le s (p + 1) (sg_nx u d) d
            have hle2 := dz_lo_le (fi_c s r u l d)
            have h2k : sg_L s (p + 1) (sg_nx u d) d + (if d = 10 then 1 else 0) < 2 ^ 31 := by split <;> omega
            refine dr_aload_n 166 hV dX5_find_166 rfl ?_
            refine dr_iload_n 167 hV dX5_find_167 rfl ?_
            refine dr_iload 168 hV dX5_find_168 rfl ?_
            refine dr_iload_n 170 hV dX5_find_170 rfl ?_
            refine dr_cvp3 171 hV dz_lX5_152 dX5_find_171 (by decide) (by decide) ⟨by decide, _, _, rfl, by decide, rfl⟩ (Nat.le_of_ble_eq_true rfl) (c_behind π p d u _ _ (by omega)) ?_
            refine dr_istore 174 hV dX5_find_174 (by decide) ?_
            refine dr_aload_n 176 hV dX5_find_176 rfl ?_
            refine dr_geta 177 hV dX5_find_177 (by decide) (by decide) rfl rfl rfl ?_
            refine dr_iload 180 hV dX5_find_180 rfl ?_
            refine dr_iald 182 hV dX5_find_182 (by decide) rfl rfl (sg_ix_lt (p := p + 1) (u := sg_nx u d) (l := d) (by omega) (by omega) (by omega)) (by decide) hLn ?_
            refine dr_iload 183 hV dX5_find_183 rfl ?_
            refine dr_bipush (v := nI 10) 185 hV dX5_find_185 (by decide) ?_
            refine dr_mat_ne (P := d = 10) 187 hV dX5_find_187 dX5_find_190 dX5_find_191 dX5_find_194 (nI_eq (by omega) (by decide)).symm ?_
            refine dr_iadd (z := nI (sg_L s (p + 1) (sg_nx u d) d + if d = 10 then 1 else 0)) 195 hV dX5_find_195 dz_addb ?_
            refine dr_istore 196 hV dX5_find_196 (by decide) ?_
            refine dr_iload 198 hV dX5_find_198 rfl ?_
            refine dr_aload_n 200 hV dX5_find_200 rfl ?_
            refine dr_geta 201 hV dX5_find_201 (by decide) (by decide) rfl rfl rfl ?_
            refine dr_iload 204 hV dX5_find_204 rfl ?_
            refine dr_iald 206 hV dX5_find_206 (by decide) rfl rfl hk0 (by decide) h18 ?_
            refine dn_icmp_gt (tgt := 279) 207 hV dX5_find_207 (by decide) h2k (by omega) (fun c207 => ?_) (fun c207 => ?_)
            · refine dr_iinc1 279 hV dX5_find_279 (by decide) rfl ?_
              refine dr_goto (tgt := 128) 282 hV dX5_find_282 (by decide) ?_
              have ha : dz_lo (fun k => fi_c s r u l d k + sg_E s r u l d k) = dz_lo (fi_c s r u l d) ∧ dz_no (fun k => fi_c s r u l d k + sg_E s r u l d k) = dz_no (fi_c s r u l d) := by
                by_cases z : sg_L s (p + 1) (sg_nx u d) d = 1000
                · exact dz_ad_n (f1 z)
                · exact dz_ad_gt (by rw [(f2 z).1]; omega)
              refine dr_sub hV (ls2 := [(0, .inr (.inr 0)), (1, .inl (nI p)), (2, .inl (nI u)), (3, .inl (nI l)), (4, .inl (nI (sg_ix p u l))), (5, .inl (nI (d + 1)))]) rfl ?_
              exact ih (d + 1) _ _ (by omega) (by omega) hx (by rw [h18, fi_c_s]; exact congrArg nI ha.1.symm) (by rw [h19, fi_c_s]; exact congrArg lN ha.2.symm) h20
            · refine dr_aload_n 210 hV dX5_find_210 rfl ?_
              refine dr_geta 211 hV dX5_find_211 (by decide) (by decide) rfl rfl rfl ?_
              refine dr_iload 214 hV dX5_find_214 rfl ?_
              refine dr_iald 216 hV dX5_find_216 (by decide) rfl rfl (sg_ix_lt (p := p + 1) (u := sg_nx u d) (l := d) (by omega) (by omega) (by omega)) (by decide) hLn ?_
              refine dr_sipush (v := nI 1000) 217 hV dX5_find_217 (by decide) ?_
              refine dn_icmp_ne (tgt := 226) 220 hV dX5_find_220 (by decide) (by omega) (by omega) (fun c220 => ?_) (fun c220 => ?_)
              · refine dr_aload_n 226 hV dX5_find_226 rfl ?_
                refine dr_geta 227 hV dX5_find_227 (by decide) (by decide) rfl rfl rfl ?_
                refine dr_iload 230 hV dX5_find_230 rfl ?_
                refine dr_iload 232 hV dX5_find_232 rfl ?_
                refine dr_aload_n 234 hV dX5_find_234 rfl ?_
                refine dr_geta 235 hV dX5_find_235 (by decide) (by decide) rfl rfl rfl ?_
                refine dr_iload 238 hV dX5_find_238 rfl ?_
                refine dr_iald 240 hV dX5_find_240 (by decide) rfl rfl hk0 (by decide) h18 ?_
                refine dn_icmp_ge (tgt := 254) 241 hV dX5_find_241 (by decide) h2k (by omega) (fun c241 => ?_) (fun c241 => ?_)
                · refine dr_aload_n 254 hV dX5_find_254 rfl ?_
                  refine dr_geta 255 hV dX5_find_255 (by decide) (by decide) rfl rfl rfl ?_
                  refine dr_iload 258 hV dX5_find_258 rfl ?_
                  refine dr_lald 260 hV dX5_find_260 (by decide) rfl rfl hk0 (by decide) h19 ?_
                  refine dr_aload_n 261 hV dX5_find_261 rfl ?_
                  refine dr_geta 262 hV dX5_find_262 (by decide) (by decide) rfl rfl rfl ?_
                  refine dr_iload 265 hV dX5_find_265 rfl ?_
                  refine dr_lald 267 hV dX5_find_267 (by decide) rfl rfl (sg_ix_lt (p := p + 1) (u := sg_nx u d) (l := d) (by omega) (by omega) (by omega)) (by decide) hMn ?_
                  refine dr_ladd (z := lN (dz_no (fi_c s r u l d) + sg_M s (p + 1) (sg_nx u d) d)) 268 hV dX5_find_268 (lN_add _ _) ?_
                  refine dr_last 269 hV dX5_find_269 (by decide) rfl rfl hk0 (by decide) ?_
                  refine dr_aload_n 270 hV dX5_find_270 rfl ?_
                  refine dr_geta 271 hV dX5_find_271 (by decide) (by decide) rfl rfl rfl ?_
                  refine dr_iload 274 hV dX5_find_274 rfl ?_
                  refine dr_iload 276 hV dX5_find_276 rfl ?_
                  refine dr_iast 278 hV dX5_find_278 (by decide) rfl rfl hk0 (by decide) ?_
                  refine dr_iinc1 279 hV dX5_find_279 (by decide) rfl ?_
                  refine dr_goto (tgt := 128) 282 hV dX5_find_282 (by decide) ?_
                  have he : dz_lo (sg_E s r u l d) = dz_lo (fi_c s r u l d) := by rw [(f2 c220).1]; omega
                  have ha := dz_ad_eq he (by have h9 := sg_L_9 c220; rw [(f2 c220).1]; split <;> omega)
                  refine dr_sub hV (ls2 := [(0, .inr (.inr 0)), (1, .inl (nI p)), (2, .inl (nI u)), (3, .inl (nI l)), (4, .inl (nI (sg_ix p u l))), (5, .inl (nI (d + 1)))]) rfl ?_
                  exact ih (d + 1) _ _ (by omega) (by omega) ((hx.wj (Or.inl rfl) _).wi _) (by rw [dz_wi_s, fi_c_s, ha.1]; rw [← he, (f2 c220).1]) (by rw [dz_wj_s, fi_c_s, ha.2]; rw [(f2 c220).2]) (by rw [dz_wj_n _ _ (by omega)]; exact h20)
                · refine dr_aload_n 244 hV dX5_find_244 rfl ?_
                  refine dr_geta 245 hV dX5_find_245 (by decide) (by decide) rfl rfl rfl ?_
                  refine dr_iload 248 hV dX5_find_248 rfl ?_
                  refine dr_lald 250 hV dX5_find_250 (by decide) rfl rfl (sg_ix_lt (p := p + 1) (u := sg_nx u d) (l := d) (by omega) (by omega) (by omega)) (by decide) hMn ?_
                  refine dr_goto (tgt := 269) 251 hV dX5_find_251 (by decide) ?_
                  refine dr_last 269 hV dX5_find_269 (by decide) rfl rfl hk0 (by decide) ?_
                  refine dr_aload_n 270 hV dX5_find_270 rfl ?_
                  refine dr_geta 271 hV dX5_find_271 (by decide) (by decide) rfl rfl rfl ?_
                  refine dr_iload 274 hV dX5_find_274 rfl ?_
                  refine dr_iload 276 hV dX5_find_276 rfl ?_
                  refine dr_iast 278 hV dX5_find_278 (by decide) rfl rfl hk0 (by decide) ?_
                  refine dr_iinc1 279 hV dX5_find_279 (by decide) rfl ?_
                  refine dr_goto (tgt := 128) 282 hV dX5_find_282 (by decide) ?_
                  have ha := dz_ad_lt (c := fi_c s r u l d) (e := sg_E s r u l d) (by rw [(f2 c220).1]; exact c241)
                  refine dr_sub hV (ls2 := [(0, .inr (.inr 0)), (1, .inl (nI p)), (2, .inl (nI u)), (3, .inl (nI l)), (4, .inl (nI (sg_ix p u l))), (5, .inl (nI (d + 1)))]) rfl ?_
                  exact ih (d + 1) _ _ (by omega) (by omega) ((hx.wj (Or.inl rfl) _).wi _) (by rw [dz_wi_s, fi_c_s, ha.1]; rw [(f2 c220).1]) (by rw [dz_wj_s, fi_c_s, ha.2]; rw [(f2 c220).2]) (by rw [dz_wj_n _ _ (by omega)]; exact h20)
              · refine dr_goto (tgt := 279) 223 hV dX5_find_223 (by decide) ?_
                refine dr_iinc1 279 hV dX5_find_279 (by decide) rfl ?_
                refine dr_goto (tgt := 128) 282 hV dX5_find_282 (by decide) ?_
                have ha := dz_ad_n (c := fi_c s r u l d) (e := sg_E s r u l d) (f1 c220)
                refine dr_sub hV (ls2 := [(0, .inr (.inr 0)), (1, .inl (nI p)), (2, .inl (nI u)), (3, .inl (nI l)), (4, .inl (nI (sg_ix p u l))), (5, .inl (nI (d + 1)))]) rfl ?_
                exact ih (d + 1) _ _ (by omega) (by omega) hx (by rw [h18, fi_c_s]; exact congrArg nI ha.1.symm) (by rw [h19, fi_c_s]; exact congrArg lN ha.2.symm) h20
          · refine dr_goto (tgt := 279) 163 hV dX5_find_163 (by decide) ?_
            refine dr_iinc1 279 hV dX5_find_279 (by decide) rfl ?_
            refine dr_goto (tgt := 128) 282 hV dX5_find_282 (by decide) ?_
            have ha := (dz_ad_n (c := fi_c s r u l d) (e := sg_E s r u l d) (fi_e_no (dz_Bf.mpr (fun q => by have := q.1; have := q.2; rw [show sg_p s - (r + 1) = p by omega] at this; first | omega | exact c160 this))))
            refine dr_sub hV (ls2 := [(0, .inr (.inr 0)), (1, .inl (nI p)), (2, .inl (nI u)), (3, .inl (nI l)), (4, .inl (nI (sg_ix p u l))), (5, .inl (nI (d + 1)))]) rfl ?_
            exact ih (d + 1) _ _ (by omega) (by omega) hx (by rw [h18, fi_c_s]; exact congrArg nI ha.1.symm) (by rw [h19, fi_c_s]; exact congrArg lN ha.2.symm) h20
        · refine dr_iload 142 hV dX5_find_142 rfl ?_
          refine dr_aload_n 144 hV dX5_find_144 rfl ?_
          refine dr_geti 145 hV dX5_find_145 (by decide) (by decide) rfl rfl rfl m1 ?_
          refine dn_icmp_ge (tgt := 279) 148 hV dX5_find_148 (by decide) (by omega) (by omega) (fun c148 => ?_) (fun c148 => ?_)
          · refine dr_iinc1 279 hV dX5_find_279 (by decide) rfl ?_
            refine dr_goto (tgt := 128) 282 hV dX5_find_282 (by decide) ?_
            have ha := (dz_ad_n (c := fi_c s r u l d) (e := sg_E s r u l d) (fi_e_no (dz_Bf.mpr (fun q => by have := q.1; have := q.2; rw [show sg_p s - (r + 1) = p by omega] at this; first | omega | exact c160 this))))
            refine dr_sub hV (ls2 := [(0, .inr (.inr 0)), (1, .inl (nI p)), (2, .inl (nI u)), (3, .inl (nI l)), (4, .inl (nI (sg_ix p u l))), (5, .inl (nI (d + 1)))]) rfl ?_
            exact ih (d + 1) _ _ (by omega) (by omega) hx (by rw [h18, fi_c_s]; exact congrArg nI ha.1.symm) (by rw [h19, fi_c_s]; exact congrArg lN ha.2.symm) h20
          · refine dr_aload_n 151 hV dX5_find_151 rfl ?_
            refine dr_iload_n 152 hV dX5_find_152 rfl ?_
            refine dr_iload 153 hV dX5_find_153 rfl ?_
            refine dr_iload_n 155 hV dX5_find_155 rfl ?_
            refine dr_iload_n 156 hV dX5_find_156 rfl ?_
            refine dr_cvp4 157 hV dz_lX5_148 dX5_find_157 (by decide) (by decide) ⟨by decide, _, _, rfl, by decide, rfl⟩ (Nat.le_of_ble_eq_true rfl) (c_X5_may π _ _ hO hRI hp (by omega) (by omega) hl) ?_
            first | refine dr_ifb_ne (tgt := 166) 160 hV dX5_find_160 (by decide) (fun c160 => ?_) (fun c160 => ?_) | refine dr_if_ne (tgt := 166) 160 hV dX5_find_160 (by decide) (fun c160 => ?_) (fun c160 => ?_)
            · have hdn : d = 10 ∨ d < sg_n s := by omega
              have hnx := sg_nx_lt hu hdn
              have hok : sg_ok s (sg_p s - (r + 1)) d u l = true := dz_Bt.mpr ⟨hdn, by rw [show sg_p s - (r + 1) = p by omega]; exact c160⟩
              obtain ⟨f1, f2⟩ := fi_e hr o3 hdn hok
              have hne : ¬ sg_ix (p + 1) (sg_nx u d) d = sg_ix p u l := fun q => by have := (sg_ix_inj (by omega) (by omega) (by omega) (by omega) q).1; omega
              obtain ⟨t1, t2, -⟩ := hT (p + 1) (sg_nx u d) d (by omega) hnx (by omega) (Or.inl (by omega))
              have hLn : I 18 (sg_ix (p + 1) (sg_nx u d) d) = nI (sg_L s (p + 1) (sg_nx u d) d) := by rw [hx.1 18 _ (fun q => hne q.2)]; exact t1
              have hMn : J 19 (sg_ix (p + 1) (sg_nx u d) d) = lN (sg_M s (p + 1) (sg_nx u d) d) := by rw [hx.2 19 _ (fun q => hne q.2)]; exact t2
              have hle := sg_L_le s (p + 1) (sg_nx u d) d
              have hle2 := dz_lo_le (fi_c s r u l d)
              have h2k : sg_L s (p + 1) (sg_nx u d) d + (if d = 10 then 1 else 0) < 2 ^ 31 := by split <;> omega
              refine dr_aload_n 166 hV dX5_find_166 rfl ?_
              refine dr_iload_n 167 hV dX5_find_167 rfl ?_
              refine dr_iload 168 hV dX5_find_168 rfl ?_
              refine dr_iload_n 170 hV dX5_find_170 rfl ?_
              refine dr_cvp3 171 hV dz_lX5_152 dX5_find_171 (by decide) (by decide) ⟨by decide, _, _, rfl, by decide, rfl⟩ (Nat.le_of_ble_eq_true rfl) (c_behind π p d u _ _ (by omega)) ?_
              refine dr_istore 174 hV dX5_find_174 (by decide) ?_
              refine dr_aload_n 176 hV dX5_find_176 rfl ?_
              refine dr_geta 177 hV dX5_find_177 (by decide) (by decide) rfl rfl rfl ?_
              refine dr_iload 180 hV dX5_find_180 rfl ?_
              refine dr_iald 182 hV dX5_find_182 (by decide) rfl rfl (sg_ix_lt (p := p + 1) (u := sg_nx u d) (l := d) (by omega) (by omega) (by omega)) (by decide) hLn ?_
              refine dr_iload 183 hV dX5_find_183 rfl ?_
              refine dr_bipush (v := nI 10) 185 hV dX5_find_185 (by decide) ?_
              refine dr_mat_ne (P := d = 10) 187 hV dX5_find_187 dX5_find_190 dX5_find_191 dX5_find_194 (nI_eq (by omega) (by decide)).symm ?_
              refine dr_iadd (z := nI (sg_L s (p + 1) (sg_nx u d) d + if d = 10 then 1 else 0)) 195 hV dX5_find_195 dz_addb ?_
              refine dr_istore 196 hV dX5_find_196 (by decide) ?_
              refine dr_iload 198 hV dX5_find_198 rfl ?_
              refine dr_aload_n 200 hV dX5_find_200 rfl ?_
              refine dr_geta 201 hV dX5_find_201 (by decide) (by decide) rfl rfl rfl ?_
              refine dr_iload 204 hV dX5_find_204 rfl ?_
              refine dr_iald 206 hV dX5_find_206 (by decide) rfl rfl hk0 (by decide) h18 ?_
              refine dn_icmp_gt (tgt := 279) 207 hV dX5_find_207 (by decide) h2k (by omega) (fun c207 => ?_) (fun c207 => ?_)
              · refine dr_iinc1 279 hV dX5_find_279 (by decide) rfl ?_
                refine dr_goto (tgt := 128) 282 hV dX5_find_282 (by decide) ?_
                have ha : dz_lo (fun k => fi_c s r u l d k + sg_E s r u l d k) = dz_lo (fi_c s r u l d) ∧ dz_no (fun k => fi_c s r u l d k + sg_E s r u l d k) = dz_no (fi_c s r u l d) := by
                  by_cases z : sg_L s (p + 1) (sg_nx u d) d = 1000
                  · exact dz_ad_n (f1 z)
                  · exact dz_ad_gt (by rw [(f2 z).1]; omega)
                refine dr_sub hV (ls2 := [(0, .inr (.inr 0)), (1, .inl (nI p)), (2, .inl (nI u)), (3, .inl (nI l)), (4, .inl (nI (sg_ix p u l))), (5, .inl (nI (d + 1)))]) rfl ?_
                exact ih (d + 1) _ _ (by omega) (by omega) hx (by rw [h18, fi_c_s]; exact congrArg nI ha.1.symm) (by rw [h19, fi_c_s]; exact congrArg lN ha.2.symm) h20
              · refine dr_aload_n 210 hV dX5_find_210 rfl ?_
                refine dr_geta 211 hV dX5_find_211 (by decide) (by decide) rfl rfl rfl ?_
                refine dr_iload 214 hV dX5_find_214 rfl ?_
                refine dr_iald 216 hV dX5_find_216 (by decide) rfl rfl (sg_ix_lt (p := p + 1) (u := sg_nx u d) (l := d) (by omega) (by omega) (by omega)) (by decide) hLn ?_
                refine dr_sipush (v := nI 1000) 217 hV dX5_find_217 (by decide) ?_
                refine dn_icmp_ne (tgt := 226) 220 hV dX5_find_220 (by decide) (by omega) (by omega) (fun c220 => ?_) (fun c220 => ?_)
                · refine dr_aload_n 226 hV dX5_find_226 rfl ?_
                  refine dr_geta 227 hV dX5_find_227 (by decide) (by decide) rfl rfl rfl ?_
                  refine dr_iload 230 hV dX5_find_230 rfl ?_
                  refine dr_iload 232 hV dX5_find_232 rfl ?_
                  refine dr_aload_n 234 hV dX5_find_234 rfl ?_
                  refine dr_geta 235 hV dX5_find_235 (by decide) (by decide) rfl rfl rfl ?_
                  refine dr_iload 238 hV dX5_find_238 rfl ?_
                  refine dr_iald 240 hV dX5_find_240 (by decide) rfl rfl hk0 (by decide) h18 ?_
                  refine dn_icmp_ge (tgt := 254) 241 hV dX5_find_241 (by decide) h2k (by omega) (fun c241 => ?_) (fun c241 => ?_)
                  · refine dr_aload_n 254 hV dX5_find_254 rfl ?_
                    refine dr_geta 255 hV dX5_find_255 (by decide) (by decide) rfl rfl rfl ?_
                    refine dr_iload 258 hV dX5_find_258 rfl ?_
                    refine dr_lald 260 hV dX5_find_260 (by decide) rfl rfl hk0 (by decide) h19 ?_
                    refine dr_aload_n 261 hV dX5_find_261 rfl ?_
                    refine dr_geta 262 hV dX5_find_262 (by decide) (by decide) rfl rfl rfl ?_
                    refine dr_iload 265 hV dX5_find_265 rfl ?_
                    refine dr_lald 267 hV dX5_find_267 (by decide) rfl rfl (sg_ix_lt (p := p + 1) (u := sg_nx u d) (l := d) (by omega) (by omega) (by omega)) (by decide) hMn ?_
                    refine dr_ladd (z := lN (dz_no (fi_c s r u l d) + sg_M s (p + 1) (sg_nx u d) d)) 268 hV dX5_find_268 (lN_add _ _) ?_
                    refine dr_last 269 hV dX5_find_269 (by decide) rfl rfl hk0 (by decide) ?_
                    refine dr_aload_n 270 hV dX5_find_270 rfl ?_
                    refine dr_geta 271 hV dX5_find_271 (by decide) (by decide) rfl rfl rfl ?_
                    refine dr_iload 274 hV dX5_find_274 rfl ?_
                    refine dr_iload 276 hV dX5_find_276 rfl ?_
                    refine dr_iast 278 hV dX5_find_278 (by decide) rfl rfl hk0 (by decide) ?_
                    refine dr_iinc1 279 hV dX5_find_279 (by decide) rfl ?_
                    refine dr_goto (tgt := 128) 282 hV dX5_find_282 (by decide) ?_
                    have he : dz_lo (sg_E s r u l d) = dz_lo (fi_c s r u l d) := by rw [(f2 c220).1]; omega
                    have ha := dz_ad_eq he (by have h9 := sg_L_9 c220; rw [(f2 c220).1]; split <;> omega)
                    refine dr_sub hV (ls2 := [(0, .inr (.inr 0)), (1, .inl (nI p)), (2, .inl (nI u)), (3, .inl (nI l)), (4, .inl (nI (sg_ix p u l))), (5, .inl (nI (d + 1)))]) rfl ?_
                    exact ih (d + 1) _ _ (by omega) (by omega) ((hx.wj (Or.inl rfl) _).wi _) (by rw [dz_wi_s, fi_c_s, ha.1]; rw [← he, (f2 c220).1]) (by rw [dz_wj_s, fi_c_s, ha.2]; rw [(f2 c220).2]) (by rw [dz_wj_n _ _ (by omega)]; exact h20)
                  · refine dr_aload_n 244 hV dX5_find_244 rfl ?_
                    refine dr_geta 245 hV dX5_find_245 (by decide) (by decide) rfl rfl rfl ?_
                    refine dr_iload 248 hV dX5_find_248 rfl ?_
                    refine dr_lald 250 hV dX5_find_250 (by decide) rfl rfl (sg_ix_lt (p := p + 1) (u := sg_nx u d) (l := d) (by omega) (by omega) (by omega)) (by decide) hMn ?_
                    refine dr_goto (tgt := 269) 251 hV dX5_find_251 (by decide) ?_
                    refine dr_last 269 hV dX5_find_269 (by decide) rfl rfl hk0 (by decide) ?_
                    refine dr_aload_n 270 hV dX5_find_270 rfl ?_
                    refine dr_geta 271 hV dX5_find_271 (by decide) (by decide) rfl rfl rfl ?_
                    refine dr_iload 274 hV dX5_find_274 rfl ?_
                    refine dr_iload 276 hV dX5_find_276 rfl ?_
                    refine dr_iast 278 hV dX5_find_278 (by decide) rfl rfl hk0 (by decide) ?_
                    refine dr_iinc1 279 hV dX5_find_279 (by decide) rfl ?_
                    refine dr_goto (tgt := 128) 282 hV dX5_find_282 (by decide) ?_
                    have ha := dz_ad_lt (c := fi_c s r u l d) (e := sg_E s r u l d) (by rw [(f2 c220).1]; exact c241)
                    refine dr_sub hV (ls2 := [(0, .inr (.inr 0)), (1, .inl (nI p)), (2, .inl (nI u)), (3, .inl (nI l)), (4, .inl (nI (sg_ix p u l))), (5, .inl (nI (d + 1)))]) rfl ?_
                    exact ih (d + 1) _ _ (by omega) (by omega) ((hx.wj (Or.inl rfl) _).wi _) (by rw [dz_wi_s, fi_c_s, ha.1]; rw [(f2 c220).1]) (by rw [dz_wj_s, fi_c_s, ha.2]; rw [(f2 c220).2]) (by rw [dz_wj_n _ _ (by omega)]; exact h20)
                · refine dr_goto (tgt := 279) 223 hV dX5_find_223 (by decide) ?_
                  refine dr_iinc1 279 hV dX5_find_279 (by decide) rfl ?_
                  refine dr_goto (tgt := 128) 282 hV dX5_find_282 (by decide) ?_
                  have ha := dz_ad_n (c := fi_c s r u l d) (e := sg_E s r u l d) (f1 c220)
                  refine dr_sub hV (ls2 := [(0, .inr (.inr 0)), (1, .inl (nI p)), (2, .inl (nI u)), (3, .inl (nI l)), (4, .inl (nI (sg_ix p u l))), (5, .inl (nI (d + 1)))]) rfl ?_
                  exact ih (d + 1) _ _ (by omega) (by omega) hx (by rw [h18, fi_c_s]; exact congrArg nI ha.1.symm) (by rw [h19, fi_c_s]; exact congrArg lN ha.2.symm) h20
            · refine dr_goto (tgt := 279) 163 hV dX5_find_163 (by decide) ?_
              refine dr_iinc1 279 hV dX5_find_279 (by decide) rfl ?_
              refine dr_goto (tgt := 128) 282 hV dX5_find_282 (by decide) ?_
              have ha := (dz_ad_n (c := fi_c s r u l d) (e := sg_E s r u l d) (fi_e_no (dz_Bf.mpr (fun q => by have := q.1; have := q.2; rw [show sg_p s - (r + 1) = p by omega] at this; first | omega | exact c160 this))))
              refine dr_sub hV (ls2 := [(0, .inr (.inr 0)), (1, .inl (nI p)), (2, .inl (nI u)), (3, .inl (nI l)), (4, .inl (nI (sg_ix p u l))), (5, .inl (nI (d + 1)))]) rfl ?_
              exact ih (d + 1) _ _ (by omega) (by omega) hx (by rw [h18, fi_c_s]; exact congrArg nI ha.1.symm) (by rw [h19, fi_c_s]; exact congrArg lN ha.2.symm) h20
set_option maxRecDepth 100000 in
set_option maxHeartbeats 4000000 in
theorem fi_l {π : dz_Pl} {post : Option dz_AV → dz_MI → dz_MJ → Prop} {V : dz_Vt} (hV : dz_Clo π dz_M 24 5 mX5_find 4 116 post V) {s : dz_Sg} {p u : Nat} (hO : dz_OK s) (hp : p ≤ sg_p s) (hu : u < 2 ^ sg_n s) (K : ∀ I J, dz_RM s I → fi_T s I J p (u * 11 + 11) → V 291 I J [(0, .inr (.inr 0)), (1, .inl (nI p)), (2, .inl (nI (u)))] []) : ∀ (fu l : Nat) (I : dz_MI) (J : dz_MJ), 11 < l + fu → l ≤ 11 → dz_RM s I → fi_T s I J p (u * 11 + l) → V 28 I J [(0, .inr (.inr 0)), (1, .inl (nI p)), (2, .inl (nI u)), (3, .inl (nI (l)))] [] := by
  have hO2 := hO
  obtain ⟨o1, o2, o3, o4, o5, o6, o7, o8, o9⟩ := hO
  have hu2 := dz_pn o1
  intro fu
  induction fu with
  | zero => intro l I J h1 h2; exact absurd h1 (by omega)
  | succ fu ih =>
      intro l I J h1 h2 hR hT
      have m1 := hR.1
      have m3 := hR.2.2.1
      have hk0 : l < 11 → sg_ix p u l < 101376 := fun hl => sg_ix_lt (p := p) (u := u) (l := l) (by omega) (by omega) hl
      refine dr_iload_n 28 hV dX5_find_28 rfl ?_
      refine dr_bipush (v := nI 10) 29 hV dX5_find_29 (by decide) ?_
      refine dn_icmp_gt (tgt := 291) 31 hV dX5_find_31 (by decide) (by omega) (by omega) (fun c31 => ?_) (fun c31 => ?_)
      · have hl11 : l = 11 := by omega
        subst hl11
        refine dr_sub hV (ls2 := [(0, .inr (.inr 0)), (1, .inl (nI p)), (2, .inl (nI (u)))]) rfl ?_
        exact K I J hR hT
      · refine dr_iload_n 34 hV dX5_find_34 rfl ?_
        refine dr_iload_n 35 hV dX5_find_35 rfl ?_
        refine dr_iload_n 36 hV dX5_find_36 rfl ?_
        refine dr_csp3 37 hV (Or.inl dz_lX5_144) dX5_find_37 (by decide) (by decide) (Nat.le_of_ble_eq_true rfl) (c_index π _ _ p u l _ _) ?_
        refine dr_istore 40 hV dX5_find_40 (by decide) ?_
        refine dr_aload_n 42 hV dX5_find_42 rfl ?_
        refine dr_geta 43 hV dX5_find_43 (by decide) (by decide) rfl rfl rfl ?_
        refine dr_iload 46 hV dX5_find_46 rfl ?_
        refine dr_lconst (v := 0) 48 hV dX5_find_48 (by decide) ?_
        refine dr_last 49 hV dX5_find_49 (by decide) rfl rfl (hk0 (by omega)) (by decide) ?_
        refine dr_aload_n 50 hV dX5_find_50 rfl ?_
        refine dr_geta 51 hV dX5_find_51 (by decide) (by decide) rfl rfl rfl ?_
        refine dr_iload 54 hV dX5_find_54 rfl ?_
        refine dr_iload_n 56 hV dX5_find_56 rfl ?_
        refine dr_aload_n 57 hV dX5_find_57 rfl ?_
        refine dr_geti 58 hV dX5_find_58 (by decide) (by decide) rfl rfl rfl m3 ?_
        refine dn_icmp_ne (tgt := 68) 61 hV dX5_find_61 (by decide) (by omega) (by omega) (fun c61 => ?_) (fun c61 => ?_)
        · refine dr_sipush (v := nI 1000) 68 hV dX5_find_68 (by decide) ?_
          refine dr_iast 71 hV dX5_find_71 (by decide) rfl rfl (hk0 (by omega)) (by decide) ?_
          refine dr_aload_n 72 hV dX5_find_72 rfl ?_
          refine dr_geta 73 hV dX5_find_73 (by decide) (by decide) rfl rfl rfl ?_
          refine dr_iload 76 hV dX5_find_76 rfl ?_
          refine dr_iload_n 78 hV dX5_find_78 rfl ?_
          refine dr_aload_n 79 hV dX5_find_79 rfl ?_
          refine dr_geti 80 hV dX5_find_80 (by decide) (by decide) rfl rfl rfl m3 ?_
          refine dn_icmp_ne (tgt := 90) 83 hV dX5_find_83 (by decide) (by omega) (by omega) (fun c83 => ?_) (fun c83 => ?_)
          · refine dr_lconst (v := 0) 90 hV dX5_find_90 (by decide) ?_
            refine dr_last 91 hV dX5_find_91 (by decide) rfl rfl (hk0 (by omega)) (by decide) ?_
            refine dr_iload_n 92 hV dX5_find_92 rfl ?_
            refine dr_aload_n 93 hV dX5_find_93 rfl ?_
            refine dr_geti 94 hV dX5_find_94 (by decide) (by decide) rfl rfl rfl m3 ?_
            refine dn_icmp_eq (tgt := 285) 97 hV dX5_find_97 (by decide) (by omega) (by omega) (fun c97 => ?_) (fun c97 => ?_)
            · exact absurd c97 c61
            · refine dr_iload_n 100 hV dX5_find_100 rfl ?_
              refine dr_bipush (v := nI 10) 101 hV dX5_find_101 (by decide) ?_
              refine dn_icmp_eq (tgt := 125) 103 hV dX5_find_103 (by decide) (by omega) (by omega) (fun c103 => ?_) (fun c103 => ?_)
              · refine dr_iconst (v := nI 0) 125 hV dX5_find_125 (by decide) ?_
                refine dr_istore 126 hV dX5_find_126 (by decide) ?_
                have hx9 := (((fi_X.rf I J (sg_ix p u l)).wj (Or.inr rfl) (0 : Int64)).wi (nI 1000)).wj (Or.inl rfl) ((0 : Int64))
                obtain ⟨r, hr⟩ : ∃ r, sg_p s = p + (r + 1) := ⟨sg_p s - p - 1, by omega⟩
                have hvl : sg_vl s u l := by
                  unfold sg_vl; rw [dz_tb]
                  grind
                have er : sg_p s - p = r + 1 := by omega
                have e11 : fi_c s r u l 11 = sg_C s (sg_p s - p) u l := by rw [er]; funext k; exact (sg_C_succ s r u l k).symm
                refine dr_sub hV (ls2 := [(0, .inr (.inr 0)), (1, .inl (nI p)), (2, .inl (nI u)), (3, .inl (nI l)), (4, .inl (nI (sg_ix p u l))), (5, .inl (nI (0)))]) rfl ?_
                refine fi_in hV hO2 hR hT hr hu (by omega) (fun I2 J2 hx9 h18 h19 h20 => ?_) 12 0 _ _ (by omega) (by omega) hx9 (by rw [dz_wi_s]; exact congrArg nI dz_lo_zero.symm) (by rw [dz_wj_s]; exact congrArg lN dz_no_zero.symm) (by rw [dz_wj_n _ _ (by omega), dz_wj_s])
                refine dr_iinc1 285 hV dX5_find_285 (by decide) rfl ?_
                refine dr_goto (tgt := 28) 288 hV dX5_find_288 (by decide) ?_
                refine dr_sub hV (ls2 := [(0, .inr (.inr 0)), (1, .inl (nI p)), (2, .inl (nI u)), (3, .inl (nI (l + 1)))]) rfl ?_
                exact ih (l + 1) _ _ (by omega) (by omega) (hx9.RM hO2 hR) (fi_T.next o1 hu (by omega) hT hx9 (by rw [h18, e11, sg_L_v (Or.inr hvl)]) (by rw [h19, e11, sg_M_v (Or.inr hvl)]) h20)
              · refine dr_iload_n 106 hV dX5_find_106 rfl ?_
                refine dr_aload_n 107 hV dX5_find_107 rfl ?_
                refine dr_geti 108 hV dX5_find_108 (by decide) (by decide) rfl rfl rfl m1 ?_
                refine dn_icmp_ge (tgt := 285) 111 hV dX5_find_111 (by decide) (by omega) (by omega) (fun c111 => ?_) (fun c111 => ?_)
                · have hx9 := (((fi_X.rf I J (sg_ix p u l)).wj (Or.inr rfl) (0 : Int64)).wi (nI 1000)).wj (Or.inl rfl) ((0 : Int64))
                  have hno : ¬ (p = sg_p s ∨ sg_vl s u l) := by
                    unfold sg_vl; rw [dz_tb]
                    grind
                  refine dr_iinc1 285 hV dX5_find_285 (by decide) rfl ?_
                  refine dr_goto (tgt := 28) 288 hV dX5_find_288 (by decide) ?_
                  refine dr_sub hV (ls2 := [(0, .inr (.inr 0)), (1, .inl (nI p)), (2, .inl (nI u)), (3, .inl (nI (l + 1)))]) rfl ?_
                  exact ih (l + 1) _ _ (by omega) (by omega) (hx9.RM hO2 hR) (fi_T.next o1 hu (by omega) hT hx9 (by rw [dz_wi_s, sg_L_n hno]) (by rw [dz_wj_s, sg_M_n hno]; rfl) (by rw [dz_wj_n _ _ (by omega), dz_wj_s]))
                · refine dr_iload_n 114 hV dX5_find_114 rfl ?_
                  refine dr_iload_n 115 hV dX5_find_115 rfl ?_
                  refine dr_ishr 116 hV dX5_find_116 rfl ?_
                  refine dr_iconst (v := nI 1) 117 hV dX5_find_117 (by decide) ?_
                  refine dr_iand (z := nI (u / 2 ^ l % 2)) 118 hV dX5_find_118 (dz_hb (by omega) (by omega)) ?_
                  refine dr_if_ne (tgt := 125) 119 hV dX5_find_119 (by decide) (fun c119 => ?_) (fun c119 => ?_)
                  · have c119b : u / 2 ^ l % 2 = 1 := by
                      have h2 : u / 2 ^ l % 2 < 2 := Nat.mod_lt _ (by decide)
                      have : ¬ u / 2 ^ l % 2 = 0 := fun q => c119 (by rw [q]; rfl)
                      omega
                    refine dr_iconst (v := nI 0) 125 hV dX5_find_125 (by decide) ?_
                    refine dr_istore 126 hV dX5_find_126 (by decide) ?_
                    have hx9 := (((fi_X.rf I J (sg_ix p u l)).wj (Or.inr rfl) (0 : Int64)).wi (nI 1000)).wj (Or.inl rfl) ((0 : Int64))
                    obtain ⟨r, hr⟩ : ∃ r, sg_p s = p + (r + 1) := ⟨sg_p s - p - 1, by omega⟩
                    have hvl : sg_vl s u l := by
                      unfold sg_vl; rw [dz_tb]
                      grind
                    have er : sg_p s - p = r + 1 := by omega
                    have e11 : fi_c s r u l 11 = sg_C s (sg_p s - p) u l := by rw [er]; funext k; exact (sg_C_succ s r u l k).symm
                    refine dr_sub hV (ls2 := [(0, .inr (.inr 0)), (1, .inl (nI p)), (2, .inl (nI u)), (3, .inl (nI l)), (4, .inl (nI (sg_ix p u l))), (5, .inl (nI (0)))]) rfl ?_
                    refine fi_in hV hO2 hR hT hr hu (by omega) (fun I2 J2 hx9 h18 h19 h20 => ?_) 12 0 _ _ (by omega) (by omega) hx9 (by rw [dz_wi_s]; exact congrArg nI dz_lo_zero.symm) (by rw [dz_wj_s]; exact congrArg lN dz_no_zero.symm) (by rw [dz_wj_n _ _ (by omega), dz_wj_s])
                    refine dr_iinc1 285 hV dX5_find_285 (by decide) rfl ?_
                    refine dr_goto (tgt := 28) 288 hV dX5_find_288 (by decide) ?_
                    refine dr_sub hV (ls2 := [(0, .inr (.inr 0)), (1, .inl (nI p)), (2, .inl (nI u)), (3, .inl (nI (l + 1)))]) rfl ?_
                    exact ih (l + 1) _ _ (by omega) (by omega) (hx9.RM hO2 hR) (fi_T.next o1 hu (by omega) hT hx9 (by rw [h18, e11, sg_L_v (Or.inr hvl)]) (by rw [h19, e11, sg_M_v (Or.inr hvl)]) h20)
                  · have c119b : ¬ u / 2 ^ l % 2 = 1 := by
                      have h2 : u / 2 ^ l % 2 < 2 := Nat.mod_lt _ (by decide)
                      have := (nI_eq (a := u / 2 ^ l % 2) (b := 0) (by omega) (by decide)).mp (by rw [c119]; rfl)
                      omega
                    refine dr_goto (tgt := 285) 122 hV dX5_find_122 (by decide) ?_
                    have hx9 := (((fi_X.rf I J (sg_ix p u l)).wj (Or.inr rfl) (0 : Int64)).wi (nI 1000)).wj (Or.inl rfl) ((0 : Int64))
                    have hno : ¬ (p = sg_p s ∨ sg_vl s u l) := by
                      unfold sg_vl; rw [dz_tb]
                      grind
                    refine dr_iinc1 285 hV dX5_find_285 (by decide) rfl ?_
                    refine dr_goto (tgt := 28) 288 hV dX5_find_288 (by decide) ?_
                    refine dr_sub hV (ls2 := [(0, .inr (.inr 0)), (1, .inl (nI p)), (2, .inl (nI u)), (3, .inl (nI (l + 1)))]) rfl ?_
                    exact ih (l + 1) _ _ (by omega) (by omega) (hx9.RM hO2 hR) (fi_T.next o1 hu (by omega) hT hx9 (by rw [dz_wi_s, sg_L_n hno]) (by rw [dz_wj_s, sg_M_n hno]; rfl) (by rw [dz_wj_n _ _ (by omega), dz_wj_s]))
          · exact absurd c83 c61
        · refine dr_iconst (v := nI 0) 64 hV dX5_find_64 (by decide) ?_
          refine dr_goto (tgt := 71) 65 hV dX5_find_65 (by decide) ?_
          refine dr_iast 71 hV dX5_find_71 (by decide) rfl rfl (hk0 (by omega)) (by decide) ?_
          refine dr_aload_n 72 hV dX5_find_72 rfl ?_
          refine dr_geta 73 hV dX5_find_73 (by decide) (by decide) rfl rfl rfl ?_
          refine dr_iload 76 hV dX5_find_76 rfl ?_
          refine dr_iload_n 78 hV dX5_find_78 rfl ?_
          refine dr_aload_n 79 hV dX5_find_79 rfl ?_
          refine dr_geti 80 hV dX5_find_80 (by decide) (by decide) rfl rfl rfl m3 ?_
          refine dn_icmp_ne (tgt := 90) 83 hV dX5_find_83 (by decide) (by omega) (by omega) (fun c83 => ?_) (fun c83 => ?_)
          · exact absurd c61 c83
          · refine dr_lconst (v := 1) 86 hV dX5_find_86 (by decide) ?_
            refine dr_goto (tgt := 91) 87 hV dX5_find_87 (by decide) ?_
            refine dr_last 91 hV dX5_find_91 (by decide) rfl rfl (hk0 (by omega)) (by decide) ?_
            refine dr_iload_n 92 hV dX5_find_92 rfl ?_
            refine dr_aload_n 93 hV dX5_find_93 rfl ?_
            refine dr_geti 94 hV dX5_find_94 (by decide) (by decide) rfl rfl rfl m3 ?_
            refine dn_icmp_eq (tgt := 285) 97 hV dX5_find_97 (by decide) (by omega) (by omega) (fun c97 => ?_) (fun c97 => ?_)
            · have hx9 := (((fi_X.rf I J (sg_ix p u l)).wj (Or.inr rfl) (0 : Int64)).wi (nI 0)).wj (Or.inl rfl) ((1 : Int64))
              refine dr_iinc1 285 hV dX5_find_285 (by decide) rfl ?_
              refine dr_goto (tgt := 28) 288 hV dX5_find_288 (by decide) ?_
              refine dr_sub hV (ls2 := [(0, .inr (.inr 0)), (1, .inl (nI p)), (2, .inl (nI u)), (3, .inl (nI (l + 1)))]) rfl ?_
              exact ih (l + 1) _ _ (by omega) (by omega) (hx9.RM hO2 hR) (fi_T.next o1 hu (by omega) hT hx9 (by rw [dz_wi_s, c61, (sg_L_P s u l).1]) (by rw [dz_wj_s, c61, (sg_L_P s u l).2]; rfl) (by rw [dz_wj_n _ _ (by omega), dz_wj_s]))
            · exact absurd c61 c97
