/-! the paper: spreading -/
def sd_D (f : Nat) (P P2 : dz_PS) (G : Nat → Nat) : Prop := (∀ x, ¬ x = f → P2.1 x = P.1 x ∧ P2.2.1 x = P.2.1 x ∧ P2.2.2 x = P.2.2 x) ∧ P.1 f ≤ P2.1 f ∧ (∀ i, i < P.1 f → P2.2.1 f i = P.2.1 f i) ∧ ps_wf P2 f ∧ ∀ m, P2.2.2 f m = G m
theorem sd_D.rf {f : Nat} {P : dz_PS} {G : Nat → Nat} (h : ps_wf P f) (hG : ∀ m, P.2.2 f m = G m) : sd_D f P P G := ⟨fun _ _ => ⟨rfl, rfl, rfl⟩, Nat.le_refl _, fun _ _ => rfl, h, hG⟩
theorem sd_D.cong {f : Nat} {P P2 : dz_PS} {G G2 : Nat → Nat} (h : sd_D f P P2 G) (hG : ∀ m, G m = G2 m) : sd_D f P P2 G2 := ⟨h.1, h.2.1, h.2.2.1, h.2.2.2.1, fun m => (h.2.2.2.2 m).trans (hG m)⟩
theorem sd_D.rc {f m n : Nat} {P P2 : dz_PS} {G : Nat → Nat} (h : sd_D f P P2 G) (hm : m < 11264) (hv : pv m = true) (hn : 0 < n) : sd_D f P (ps_rc P2 f m n) (fun y => G y + (if y = m then n else 0)) := by
  obtain ⟨h1, h2, h3, h4, h5⟩ := h
  refine ⟨fun x hx => ?_, Nat.le_trans h2 ps_rc_e.1, fun i hi => ?_, h4.rc hm hv hn, fun y => ?_⟩
  · obtain ⟨a1, a2, a3⟩ := h1 x hx
    obtain ⟨b1, b2, b3⟩ := ps_rc_o (P := P2) (f := f) (m := m) (n := n) hx
    exact ⟨b1.trans a1, b2.trans a2, b3.trans a3⟩
  · rw [ps_rc_e.2.1 i (by omega)]; exact h3 i hi
  · rw [ps_rc_e.2.2 y, h5 y]
theorem sd_D.trans {f : Nat} {P P2 P3 : dz_PS} {G G2 : Nat → Nat} (h : sd_D f P P2 G) (h2 : sd_D f P2 P3 G2) : sd_D f P P3 G2 := by
  obtain ⟨a1, a2, a3, a4, a5⟩ := h
  obtain ⟨b1, b2, b3, b4, b5⟩ := h2
  refine ⟨fun x hx => ?_, by omega, fun i hi => by rw [b3 i (by omega)]; exact a3 i hi, b4, b5⟩
  obtain ⟨c1, c2, c3⟩ := a1 x hx
  obtain ⟨d1, d2, d3⟩ := b1 x hx
  exact ⟨d1.trans c1, d2.trans c2, d3.trans c3⟩
def sd_F (f : Nat) (I I2 : dz_MI) : Prop := ∀ a k, ¬ a = 22 → ¬ a = 43 + f → I2 a k = I a k
theorem sd_F.rf (f : Nat) (I : dz_MI) : sd_F f I I := fun _ _ _ _ => rfl
theorem sd_F.trans {f : Nat} {I I2 I3 : dz_MI} (h : sd_F f I I2) (h2 : ∀ a k, ¬ a = 22 → ¬ a = 43 + f → I3 a k = I2 a k) : sd_F f I I3 := fun a k h3 h4 => (h2 a k h3 h4).trans (h a k h3 h4)
theorem SU.fr {s : dz_Sg} {f : Nat} {I I2 : dz_MI} (h : SU s I) (hf : f < 9) (h2 : sd_F f I I2) : SU s I2 := by
  obtain ⟨u1, u2, u3, u4⟩ := h
  exact ⟨by rw [h2 _ _ (by omega) (by omega)]; exact u1, fun q hq => ⟨by rw [h2 _ _ (by omega) (by omega)]; exact (u2 q hq).1, by rw [h2 _ _ (by omega) (by omega)]; exact (u2 q hq).2⟩, fun l hl => by rw [h2 _ _ (by omega) (by omega)]; exact u3 l hl, fun x hx => by rw [h2 _ _ (by omega) (by omega)]; exact u4 x hx⟩
/-- the list of a place: its first a states -/
def sd_R (s : dz_Sg) (P : dz_PS) (p a : Nat) : Prop := a ≤ 6144 ∧ a ≤ P.1 p ∧ ∀ i, i < a → 0 < pa_G s p (P.2.1 p i) ∧ P.2.2 p (P.2.1 p i) = pa_G s p (P.2.1 p i)
def sd_P (p : Nat) (P : dz_PS) (G : Nat → Nat) (I : dz_MI) : Option dz_AV → dz_MI → dz_MJ → Prop := fun r I2 J2 => r = none ∧ sd_F (p + 1) I I2 ∧ ∃ P2, PM P2 I2 J2 ∧ sd_D (p + 1) P P2 G
theorem pa_E_no {s : dz_Sg} {p i d m : Nat} (h : ¬ pa_ok s p i d = true) : pa_E s p i d m = 0 := by
  unfold pa_E; rw [if_neg]; simp [h]
theorem pa_E_yes {s : dz_Sg} {p i d m : Nat} (h : pa_ok s p i d = true) : pa_E s p i d m = if m = pa_nx s p i d then pa_G s p i else 0 := by
  unfold pa_E
  by_cases e : m = pa_nx s p i d
  · subst e; simp [h]
  · rw [if_neg e, if_neg]; simp [h, Ne.symm e]
theorem pa_S_j (s : dz_Sg) (p : Nat) (r : Nat → Nat) (j b m : Nat) : pa_S s p r (j + 1) b m = pa_S s p r j b m + fb_sm (fun d => pa_E s p (r j) d m) 10 := by
  unfold pa_S; rw [fb_sm_succ]; omega
theorem pa_S_b (s : dz_Sg) (p : Nat) (r : Nat → Nat) (a b m : Nat) : pa_S s p r a (b + 1) m = pa_S s p r a b m + pa_E s p (r b) 10 m := by
  unfold pa_S; rw [fb_sm_succ]; omega
theorem pa_nx_pv {s : dz_Sg} (hO : dz_OK s) {p m d : Nat} (hp : p < sg_p s) (hd : d < 11) (h : pa_ok s p m d = true) (hg : 0 < pa_G s p m) : pa_nx s p m d < 11264 ∧ pv (pa_nx s p m d) = true := by
  have hm := (pa_G_vd hO p m (by omega) hg).1.1
  have := pa_G_vd hO (p + 1) _ (by omega) (pa_G_step hm hd h hg)
  exact pv_vd hO.1 this.1
set_option maxRecDepth 100000 in
set_option maxHeartbeats 4000000 in
theorem sd_i {π : dz_Pl} {post : Option dz_AV → dz_MI → dz_MJ → Prop} {V : dz_Vt} (hV : dz_Clo π dz_Y 62 2 mX2_spreadDrums 1 25 post V) {s : dz_Sg} {P : dz_PS} {I : dz_MI} {p j a1 b : Nat} (hO : dz_OK s) (hS : SU s I) (hp : p < sg_p s) (hj : j < a1) (hg : 0 < pa_G s p (P.2.1 p j)) (hbd : ∀ m, pa_S s p (P.2.1 p) a1 b m ≤ 11 ^ 8) (K : ∀ P2 I2 J2, PM P2 I2 J2 → sd_D (p + 1) P P2 (pa_S s p (P.2.1 p) (j + 1) b) → sd_F (p + 1) I I2 → V 102 I2 J2 [(0, .inr (.inr 4)), (2, .inl (nI p)), (3, .inl (nI a1)), (4, .inl (nI (j)))] []) : ∀ (fu d : Nat) (P2 : dz_PS) (I2 : dz_MI) (J2 : dz_MJ), 10 < d + fu → d ≤ 10 → PM P2 I2 J2 → sd_D (p + 1) P P2 (fun m => pa_S s p (P.2.1 p) j b m + fb_sm (fun d => pa_E s p (P.2.1 p j) d m) (d)) → sd_F (p + 1) I I2 → V 61 I2 J2 [(0, .inr (.inr 4)), (2, .inl (nI p)), (3, .inl (nI a1)), (4, .inl (nI j)), (5, .inl (nI (P.2.1 p j))), (6, .inl (nI (dz_bits (fun d => pa_ok s p (P.2.1 p j) d) 11))), (7, .inr (.inl (lN (pa_G s p (P.2.1 p j))))), (9, .inl (nI (d)))] [] := by
  have h8 := hO.2.2.1
  have hm := (pv_vd hO.1 (pa_G_vd hO p _ (by omega) hg).1).1
  have hB : ∀ d, d ≤ 10 → ∀ m, pa_S s p (P.2.1 p) j b m + fb_sm (fun d => pa_E s p (P.2.1 p j) d m) d ≤ 11 ^ 8 := fun d hd m => by
    have e1 := pa_S_j s p (P.2.1 p) j b m
    have e2 := pa_S_mono (s := s) (p := p) (r := P.2.1 p) (m := m) (show j + 1 ≤ a1 by omega) (Nat.le_refl b)
    have e3 := hbd m
    have e4 := fb_sm_mono (fun d => pa_E s p (P.2.1 p j) d m) d (10 - d)
    rw [show d + (10 - d) = 10 by omega] at e4
    omega
  intro fu
  induction fu with
  | zero => intro d P2 I2 J2 h1 h2; exact absurd h1 (by omega)
  | succ fu ih =>
      intro d P2 I2 J2 h1 h2 hM2 hD hF2
      have hS2 := hS.fr (by omega) hF2
      refine dr_iload 61 hV dX2_spreadDrums_61 rfl ?_
      refine dr_bipush (v := nI 10) 63 hV dX2_spreadDrums_63 (by decide) ?_
      refine dn_icmp_ge (tgt := 102) 65 hV dX2_spreadDrums_65 (by decide) (by omega) (by omega) (fun c65 => ?_) (fun c65 => ?_)
      · have hd10 : d = 10 := by omega
        subst hd10
        refine dr_sub hV (ls2 := [(0, .inr (.inr 4)), (2, .inl (nI p)), (3, .inl (nI a1)), (4, .inl (nI (j)))]) rfl ?_
        exact K P2 I2 J2 hM2 (hD.cong (fun m => (pa_S_j _ _ _ _ _ _).symm)) hF2
      · refine dr_iload 68 hV dX2_spreadDrums_68 rfl ?_
        refine dr_iload 70 hV dX2_spreadDrums_70 rfl ?_
        refine dr_csp2 72 hV (Or.inr ⟨dz_mX4_hasBit, dz_w_hasBit, rfl, by decide⟩) dX2_spreadDrums_72 (by decide) (by decide) (Nat.le_of_ble_eq_true rfl) (c_hasBit π _ _ _ _ (Nat.lt_trans (dz_bits_lt _ 11) (by decide)) (by omega)) ?_
        have hbi : (dz_bits (fun d => pa_ok s p (P.2.1 p j) d) 11).testBit d = pa_ok s p (P.2.1 p j) d := by rw [dz_bits_tb]; simp [show d < 11 by omega]
        rw [hbi]
        first | refine dr_ifb_eq (tgt := 96) 75 hV dX2_spreadDrums_75 (by decide) (fun c75 => ?_) (fun c75 => ?_) | refine dr_if_eq (tgt := 96) 75 hV dX2_spreadDrums_75 (by decide) (fun c75 => ?_) (fun c75 => ?_)
        · refine dr_iinc1 96 hV dX2_spreadDrums_96 (by decide) rfl ?_
          refine dr_goto (tgt := 61) 99 hV dX2_spreadDrums_99 (by decide) ?_
          refine dr_sub hV (ls2 := [(0, .inr (.inr 4)), (2, .inl (nI p)), (3, .inl (nI a1)), (4, .inl (nI j)), (5, .inl (nI (P.2.1 p j))), (6, .inl (nI (dz_bits (fun d => pa_ok s p (P.2.1 p j) d) 11))), (7, .inr (.inl (lN (pa_G s p (P.2.1 p j))))), (9, .inl (nI (d + 1)))]) rfl ?_
          exact ih (d + 1) _ _ _ (by omega) (by omega) hM2 (hD.cong (fun m => by rw [fb_sm_succ, pa_E_no c75, Nat.add_zero])) hF2
        · obtain ⟨hn1, hn2⟩ := pa_nx_pv hO hp (show d < 11 by omega) c75 hg
          refine dr_aload_n 78 hV dX2_spreadDrums_78 rfl ?_
          refine dr_iload_n 79 hV dX2_spreadDrums_79 rfl ?_
          refine dr_iconst (v := nI 1) 80 hV dX2_spreadDrums_80 (by decide) ?_
          refine dr_iadd (z := nI (p + 1)) 81 hV dX2_spreadDrums_81 (nI_1 p) ?_
          refine dr_aload_n 82 hV dX2_spreadDrums_82 rfl ?_
          refine dr_iload_n 83 hV dX2_spreadDrums_83 rfl ?_
          refine dr_iload 84 hV dX2_spreadDrums_84 rfl ?_
          refine dr_iload 86 hV dX2_spreadDrums_86 rfl ?_
          refine dr_cvp3 88 hV dz_lX2_96 dX2_spreadDrums_88 (by decide) (by decide) ⟨by decide, _, _, rfl, by decide, rfl⟩ (Nat.le_of_ble_eq_true rfl) (c_X2_after π _ _ hO hS2 hp hm (by omega)) ?_
          refine dr_lload 91 hV dX2_spreadDrums_91 rfl ?_
          refine dr_cv3 93 hV dz_lX2_85 dX2_spreadDrums_93 (by decide) (by decide) ⟨by decide, _, _, rfl, by decide, rfl⟩ (Nat.le_of_ble_eq_true rfl) (c_X2_reach π _ _ hM2 (by omega) hn1 (fun z => hD.2.2.2.1.lt hn1 hn2 z) (by rw [hD.2.2.2.2]; exact Nat.lt_of_le_of_lt (hB d (by omega) _) (by decide))) (fun r3 I3 J3 hf => ?_)
          obtain ⟨rfl, hM3, hF3, -⟩ := hf
          refine dr_iinc1 96 hV dX2_spreadDrums_96 (by decide) rfl ?_
          refine dr_goto (tgt := 61) 99 hV dX2_spreadDrums_99 (by decide) ?_
          refine dr_sub hV (ls2 := [(0, .inr (.inr 4)), (2, .inl (nI p)), (3, .inl (nI a1)), (4, .inl (nI j)), (5, .inl (nI (P.2.1 p j))), (6, .inl (nI (dz_bits (fun d => pa_ok s p (P.2.1 p j) d) 11))), (7, .inr (.inl (lN (pa_G s p (P.2.1 p j))))), (9, .inl (nI (d + 1)))]) rfl ?_
          exact ih (d + 1) _ _ _ (by omega) (by omega) hM3 ((hD.rc hn1 hn2 hg).cong (fun m => by rw [fb_sm_succ, pa_E_yes c75, Nat.add_assoc])) (hF2.trans hF3)
set_option maxRecDepth 100000 in
set_option maxHeartbeats 4000000 in
theorem c_X2_spreadDrums (π : dz_Pl) {s : dz_Sg} {P : dz_PS} {k p a0 a1 b : Nat} (I : dz_MI) (J : dz_MJ) (hO : dz_OK s) (hS : SU s I) (hM : PM P I J) (hp : p < sg_p s) (hk : k ≤ 8) (hr : sd_R s P p a1) (ha1 : I (52 + (k + 1)) p = nI a1) (ha0 : I (52 + k) p = nI a0) (h01 : a0 ≤ a1) (hw : ps_wf P (p + 1)) (hG : ∀ m, P.2.2 (p + 1) m = pa_S s p (P.2.1 p) a0 b m) (hbd : ∀ m, pa_S s p (P.2.1 p) a1 b m ≤ 11 ^ 8) : dz_Cl π dz_Y 62 mX2_spreadDrums 1 25 [.inr (.inr 4), .inl (nI k), .inl (nI p)] I J (sd_P p P (pa_S s p (P.2.1 p) a1 b) I) := by
  refine dz_body (own := 2) dz_mX2_spreadDrums rfl (Nat.le_of_ble_eq_true rfl) (fun V hV => ?_)
  have h8 := hO.2.2.1
  obtain ⟨hr1, hr2, hr3⟩ := hr
  have loop : ∀ (fu j : Nat) (P2 : dz_PS) (I2 : dz_MI) (J2 : dz_MJ), a1 < j + fu → j ≤ a1 → PM P2 I2 J2 → sd_D (p + 1) P P2 (pa_S s p (P.2.1 p) j b) → sd_F (p + 1) I I2 → V 21 I2 J2 [(0, .inr (.inr 4)), (2, .inl (nI p)), (3, .inl (nI a1)), (4, .inl (nI (j)))] [] := by
    intro fu
    induction fu with
    | zero => intro j P2 I2 J2 h1 h2; exact absurd h1 (by omega)
    | succ fu ih =>
      intro j P2 I2 J2 h1 h2 hM2 hD hF2
      have hS2 := hS.fr (by omega) hF2
      refine dr_iload 21 hV dX2_spreadDrums_21 rfl ?_
      refine dr_iload_n 23 hV dX2_spreadDrums_23 rfl ?_
      refine dn_icmp_ge (tgt := 108) 24 hV dX2_spreadDrums_24 (by decide) (by omega) (by omega) (fun c24 => ?_) (fun c24 => ?_)
      · have hje : j = a1 := by omega
        subst hje
        exact dr_vret 108 hV dX2_spreadDrums_108 rfl ⟨rfl, hF2, P2, hM2, hD⟩
      · obtain ⟨hg, hgv⟩ := hr3 j c24
        have hvd := (pa_G_vd hO p _ (by omega) hg).1
        have hm := (pv_vd hO.1 hvd).1
        refine dr_aload_n 27 hV dX2_spreadDrums_27 rfl ?_
        refine dr_geta 28 hV dX2_spreadDrums_28 (by decide) (by decide) rfl rfl rfl ?_
        refine dr_iload_n 31 hV dX2_spreadDrums_31 rfl ?_
        refine dr_aaldi 32 hV dX2_spreadDrums_32 (by decide) rfl rfl (by omega) (by decide) ?_
        refine dr_iload 33 hV dX2_spreadDrums_33 rfl ?_
        refine dr_iald (v := nI (P.2.1 p j)) 35 hV dX2_spreadDrums_35 (by omega) (dz_Y_r (by omega)) rfl (by omega) (by decide) (by rw [hM2.2.1 p j (by omega) (by rw [(hD.1 p (by omega)).1]; omega), (hD.1 p (by omega)).2.1]) ?_
        refine dr_istore 36 hV dX2_spreadDrums_36 (by decide) ?_
        refine dr_aload_n 38 hV dX2_spreadDrums_38 rfl ?_
        refine dr_iload_n 39 hV dX2_spreadDrums_39 rfl ?_
        refine dr_iload 40 hV dX2_spreadDrums_40 rfl ?_
        refine dr_cvp2 42 hV dz_lX2_89 dX2_spreadDrums_42 (by decide) (by decide) ⟨by decide, _, _, rfl, by decide, rfl⟩ (Nat.le_of_ble_eq_true rfl) (c_X2_itemsFor π _ _ hO hS2 hp hvd) ?_
        refine dr_istore 45 hV dX2_spreadDrums_45 (by decide) ?_
        refine dr_aload_n 47 hV dX2_spreadDrums_47 rfl ?_
        refine dr_geta 48 hV dX2_spreadDrums_48 (by decide) (by decide) rfl rfl rfl ?_
        refine dr_iload_n 51 hV dX2_spreadDrums_51 rfl ?_
        refine dr_aaldl 52 hV dX2_spreadDrums_52 (by decide) rfl rfl (by omega) (by decide) ?_
        refine dr_iload 53 hV dX2_spreadDrums_53 rfl ?_
        refine dr_lald (v := lN (pa_G s p (P.2.1 p j))) 55 hV dX2_spreadDrums_55 (by omega) (dz_Y_b (by omega)) rfl hm (by decide) (by rw [hM2.2.2 p _ (by omega) hm, (hD.1 p (by omega)).2.2, hgv]) ?_
        refine dr_lstore 56 hV dX2_spreadDrums_56 (by decide) ?_
        refine dr_iconst (v := nI 0) 58 hV dX2_spreadDrums_58 (by decide) ?_
        refine dr_istore 59 hV dX2_spreadDrums_59 (by decide) ?_
        refine dr_sub hV (ls2 := [(0, .inr (.inr 4)), (2, .inl (nI p)), (3, .inl (nI a1)), (4, .inl (nI j)), (5, .inl (nI (P.2.1 p j))), (6, .inl (nI (dz_bits (fun d => pa_ok s p (P.2.1 p j) d) 11))), (7, .inr (.inl (lN (pa_G s p (P.2.1 p j))))), (9, .inl (nI (0)))]) rfl ?_
        refine sd_i hV hO hS hp c24 hg hbd (fun P3 I3 J3 hM3 hD3 hF3 => ?_) 11 0 P2 I2 J2 (by omega) (by omega) hM2 (hD.cong (fun m => rfl)) hF2
        refine dr_iinc1 102 hV dX2_spreadDrums_102 (by decide) rfl ?_
        refine dr_goto (tgt := 21) 105 hV dX2_spreadDrums_105 (by decide) ?_
        refine dr_sub hV (ls2 := [(0, .inr (.inr 4)), (2, .inl (nI p)), (3, .inl (nI a1)), (4, .inl (nI (j + 1)))]) rfl ?_
        exact ih (j + 1) _ _ _ (by omega) (by omega) hM3 hD3 hF3
  refine dr_aload_n 0 hV dX2_spreadDrums_0 rfl ?_
  refine dr_geta 1 hV dX2_spreadDrums_1 (by decide) (by decide) rfl rfl rfl ?_
  refine dr_iload_n 4 hV dX2_spreadDrums_4 rfl ?_
  refine dr_iconst (v := nI 1) 5 hV dX2_spreadDrums_5 (by decide) ?_
  refine dr_iadd (z := nI (k + 1)) 6 hV dX2_spreadDrums_6 (nI_1 k) ?_
  refine dr_aaldi 7 hV dX2_spreadDrums_7 (by decide) rfl rfl (by omega) (by decide) ?_
  refine dr_iload_n 8 hV dX2_spreadDrums_8 rfl ?_
  refine dr_iald (v := nI a1) 9 hV dX2_spreadDrums_9 (by omega) (dz_Y_w (by omega)) rfl (by omega) (by decide) ha1 ?_
  refine dr_istore_n 10 hV dX2_spreadDrums_10 (by decide) ?_
  refine dr_aload_n 11 hV dX2_spreadDrums_11 rfl ?_
  refine dr_geta 12 hV dX2_spreadDrums_12 (by decide) (by decide) rfl rfl rfl ?_
  refine dr_iload_n 15 hV dX2_spreadDrums_15 rfl ?_
  refine dr_aaldi 16 hV dX2_spreadDrums_16 (by decide) rfl rfl (by omega) (by decide) ?_
  refine dr_iload_n 17 hV dX2_spreadDrums_17 rfl ?_
  refine dr_iald (v := nI a0) 18 hV dX2_spreadDrums_18 (by omega) (dz_Y_w (by omega)) rfl (by omega) (by decide) ha0 ?_
  refine dr_istore 19 hV dX2_spreadDrums_19 (by decide) ?_
  refine dr_sub hV (ls2 := [(0, .inr (.inr 4)), (2, .inl (nI p)), (3, .inl (nI a1)), (4, .inl (nI (a0)))]) rfl ?_
  exact loop (a1 + 1) a0 P I J (by omega) (by omega) hM (sd_D.rf hw hG) (sd_F.rf _ _)
set_option maxRecDepth 100000 in
set_option maxHeartbeats 4000000 in
theorem c_spreadNew_no (π : dz_Pl) (v k : Int32) (I : dz_MI) (J : dz_MJ) (hv : v < 0) : dz_Cl π dz_Y 62 mX2_spreadNew 1 25 [.inr (.inr 4), .inl v, .inl k] I J (dz_Ex I J) := by
  refine dz_body (own := 2) dz_mX2_spreadNew rfl (Nat.le_of_ble_eq_true rfl) (fun V hV => ?_)
  refine dr_iload_n 0 hV dX2_spreadNew_0 rfl ?_
  refine dr_if_lt (tgt := 18) 1 hV dX2_spreadNew_1 (by decide) (fun c1 => ?_) (fun c1 => ?_)
  · exact dr_vret 18 hV dX2_spreadNew_18 rfl ⟨rfl, rfl, rfl⟩
  · exact absurd hv c1
theorem sd_no10 {s : dz_Sg} {p a b c m : Nat} {r : Nat → Nat} (h : ¬ sg_at s p 10) (hbc : b ≤ c) : pa_S s p r a b m = pa_S s p r a c m := by
  unfold pa_S
  have h0 : ∀ i, pa_E s p i 10 m = 0 := fun i => pa_E_no (fun z => h (dz_Bt.mp z).2.1)
  rw [fb_sm_cong (n := b) (fun j _ => h0 (r j)), fb_sm_cong (n := c) (fun j _ => h0 (r j)), fb_sm_const, fb_sm_const]; omega
theorem sg_it_10 (s : dz_Sg) (p : Nat) : (sg_it s p).testBit 10 = true ↔ sg_at s p 10 := by
  unfold sg_it
  rw [dz_bits_tb]
  simp only [show (10 : Nat) < 11 by omega, decide_true, Bool.true_and]
  exact ⟨fun z => (dz_Bt.mp z).2, fun z => dz_Bt.mpr ⟨Or.inl trivial, z⟩⟩
set_option maxRecDepth 100000 in
set_option maxHeartbeats 4000000 in
theorem c_X2_spreadNew (π : dz_Pl) {s : dz_Sg} {P : dz_PS} {k p a0 a1 a : Nat} (I : dz_MI) (J : dz_MJ) (hO : dz_OK s) (hS : SU s I) (hM : PM P I J) (hp : p < sg_p s) (hk : k ≤ 8) (hr : sd_R s P p a1) (ha1 : I (52 + (k + 1)) p = nI a1) (ha0 : I (52 + k) p = nI a0) (h01 : a0 ≤ a1) (hw : ps_wf P (p + 1)) (hG : ∀ m, P.2.2 (p + 1) m = pa_S s p (P.2.1 p) a a0 m) (hbd : ∀ m, pa_S s p (P.2.1 p) a a1 m ≤ 11 ^ 8) : dz_Cl π dz_Y 62 mX2_spreadNew 1 25 [.inr (.inr 4), .inl (nI k), .inl (nI p)] I J (sd_P p P (pa_S s p (P.2.1 p) a a1) I) := by
  refine dz_body (own := 2) dz_mX2_spreadNew rfl (Nat.le_of_ble_eq_true rfl) (fun V hV => ?_)
  have h8 := hO.2.2.1
  obtain ⟨hr1, hr2, hr3⟩ := hr
  obtain ⟨u1, u2, u3, u4⟩ := id hS
  have loop : ∀ (fu j : Nat) (P2 : dz_PS) (I2 : dz_MI) (J2 : dz_MJ), a1 < j + fu → j ≤ a1 → PM P2 I2 J2 → sd_D (p + 1) P P2 (pa_S s p (P.2.1 p) a j) → sd_F (p + 1) I I2 → sg_at s p 10 → V 40 I2 J2 [(0, .inr (.inr 4)), (2, .inl (nI p)), (3, .inl (nI a1)), (4, .inl (nI (j)))] [] := by
    intro fu
    induction fu with
    | zero => intro j P2 I2 J2 h1 h2; exact absurd h1 (by omega)
    | succ fu ih =>
      intro j P2 I2 J2 h1 h2 hM2 hD hF2 hat
      have hS2 := hS.fr (by omega) hF2
      refine dr_iload 40 hV dX2_spreadNew_40 rfl ?_
      refine dr_iload_n 42 hV dX2_spreadNew_42 rfl ?_
      refine dn_icmp_ge (tgt := 88) 43 hV dX2_spreadNew_43 (by decide) (by omega) (by omega) (fun c43 => ?_) (fun c43 => ?_)
      · have hje : j = a1 := by omega
        subst hje
        exact dr_vret 88 hV dX2_spreadNew_88 rfl ⟨rfl, hF2, P2, hM2, hD⟩
      · obtain ⟨hg, hgv⟩ := hr3 j c43
        have hvd := (pa_G_vd hO p _ (by omega) hg).1
        have hm := (pv_vd hO.1 hvd).1
        have hok : pa_ok s p (P.2.1 p j) 10 = true := dz_Bt.mpr ⟨Or.inl rfl, hat, Or.inl rfl⟩
        obtain ⟨hn1, hn2⟩ := pa_nx_pv hO hp (show 10 < 11 by omega) hok hg
        refine dr_aload_n 46 hV dX2_spreadNew_46 rfl ?_
        refine dr_geta 47 hV dX2_spreadNew_47 (by decide) (by decide) rfl rfl rfl ?_
        refine dr_iload_n 50 hV dX2_spreadNew_50 rfl ?_
        refine dr_aaldi 51 hV dX2_spreadNew_51 (by decide) rfl rfl (by omega) (by decide) ?_
        refine dr_iload 52 hV dX2_spreadNew_52 rfl ?_
        refine dr_iald (v := nI (P.2.1 p j)) 54 hV dX2_spreadNew_54 (by omega) (dz_Y_r (by omega)) rfl (by omega) (by decide) (by rw [hM2.2.1 p j (by omega) (by rw [(hD.1 p (by omega)).1]; omega), (hD.1 p (by omega)).2.1]) ?_
        refine dr_istore 55 hV dX2_spreadNew_55 (by decide) ?_
        refine dr_aload_n 57 hV dX2_spreadNew_57 rfl ?_
        refine dr_iload_n 58 hV dX2_spreadNew_58 rfl ?_
        refine dr_iconst (v := nI 1) 59 hV dX2_spreadNew_59 (by decide) ?_
        refine dr_iadd (z := nI (p + 1)) 60 hV dX2_spreadNew_60 (nI_1 p) ?_
        refine dr_aload_n 61 hV dX2_spreadNew_61 rfl ?_
        refine dr_iload_n 62 hV dX2_spreadNew_62 rfl ?_
        refine dr_iload 63 hV dX2_spreadNew_63 rfl ?_
        refine dr_bipush (v := nI 10) 65 hV dX2_spreadNew_65 (by decide) ?_
        refine dr_cvp3 67 hV dz_lX2_96 dX2_spreadNew_67 (by decide) (by decide) ⟨by decide, _, _, rfl, by decide, rfl⟩ (Nat.le_of_ble_eq_true rfl) (c_X2_after π _ _ hO hS2 hp hm (by omega)) ?_
        refine dr_aload_n 70 hV dX2_spreadNew_70 rfl ?_
        refine dr_geta 71 hV dX2_spreadNew_71 (by decide) (by decide) rfl rfl rfl ?_
        refine dr_iload_n 74 hV dX2_spreadNew_74 rfl ?_
        refine dr_aaldl 75 hV dX2_spreadNew_75 (by decide) rfl rfl (by omega) (by decide) ?_
        refine dr_iload 76 hV dX2_spreadNew_76 rfl ?_
        refine dr_lald (v := lN (pa_G s p (P.2.1 p j))) 78 hV dX2_spreadNew_78 (by omega) (dz_Y_b (by omega)) rfl hm (by decide) (by rw [hM2.2.2 p _ (by omega) hm, (hD.1 p (by omega)).2.2, hgv]) ?_
        refine dr_cv3 79 hV dz_lX2_85 dX2_spreadNew_79 (by decide) (by decide) ⟨by decide, _, _, rfl, by decide, rfl⟩ (Nat.le_of_ble_eq_true rfl) (c_X2_reach π _ _ hM2 (by omega) hn1 (fun z => hD.2.2.2.1.lt hn1 hn2 z) (by rw [hD.2.2.2.2]; exact Nat.lt_of_le_of_lt (Nat.le_trans (pa_S_mono (Nat.le_refl _) h2) (hbd _)) (by decide))) (fun r3 I3 J3 hf => ?_)
        obtain ⟨rfl, hM3, hF3, -⟩ := hf
        refine dr_iinc1 82 hV dX2_spreadNew_82 (by decide) rfl ?_
        refine dr_goto (tgt := 40) 85 hV dX2_spreadNew_85 (by decide) ?_
        refine dr_sub hV (ls2 := [(0, .inr (.inr 4)), (2, .inl (nI p)), (3, .inl (nI a1)), (4, .inl (nI (j + 1)))]) rfl ?_
        exact ih (j + 1) _ _ _ (by omega) (by omega) hM3 ((hD.rc hn1 hn2 hg).cong (fun m => by rw [pa_S_b, pa_E_yes hok])) (hF2.trans hF3) hat
  refine dr_iload_n 0 hV dX2_spreadNew_0 rfl ?_
  refine dr_if_lt (tgt := 18) 1 hV dX2_spreadNew_1 (by decide) (fun c1 => ?_) (fun c1 => ?_)
  · exact absurd c1 (nI_pos (by omega))
  · refine dr_aload_n 4 hV dX2_spreadNew_4 rfl ?_
    refine dr_geta 5 hV dX2_spreadNew_5 (by decide) (by decide) rfl rfl rfl ?_
    refine dr_iload_n 8 hV dX2_spreadNew_8 rfl ?_
    refine dr_iald (v := nI (sg_it s p)) 9 hV dX2_spreadNew_9 (by decide) rfl rfl (by omega) (by decide) (u2 p hp).1 ?_
    refine dr_bipush (v := nI 10) 10 hV dX2_spreadNew_10 (by decide) ?_
    refine dr_csp2 12 hV (Or.inr ⟨dz_mX4_hasBit, dz_w_hasBit, rfl, by decide⟩) dX2_spreadNew_12 (by decide) (by decide) (Nat.le_of_ble_eq_true rfl) (c_hasBit π _ _ _ _ (Nat.lt_trans (sg_it_lt s p) (by decide)) (by decide)) ?_
    first | refine dr_ifb_ne (tgt := 19) 15 hV dX2_spreadNew_15 (by decide) (fun c15 => ?_) (fun c15 => ?_) | refine dr_if_ne (tgt := 19) 15 hV dX2_spreadNew_15 (by decide) (fun c15 => ?_) (fun c15 => ?_)
    · have hat := (sg_it_10 s p).mp c15
      refine dr_aload_n 19 hV dX2_spreadNew_19 rfl ?_
      refine dr_geta 20 hV dX2_spreadNew_20 (by decide) (by decide) rfl rfl rfl ?_
      refine dr_iload_n 23 hV dX2_spreadNew_23 rfl ?_
      refine dr_iconst (v := nI 1) 24 hV dX2_spreadNew_24 (by decide) ?_
      refine dr_iadd (z := nI (k + 1)) 25 hV dX2_spreadNew_25 (nI_1 k) ?_
      refine dr_aaldi 26 hV dX2_spreadNew_26 (by decide) rfl rfl (by omega) (by decide) ?_
      refine dr_iload_n 27 hV dX2_spreadNew_27 rfl ?_
      refine dr_iald (v := nI a1) 28 hV dX2_spreadNew_28 (by omega) (dz_Y_w (by omega)) rfl (by omega) (by decide) ha1 ?_
      refine dr_istore_n 29 hV dX2_spreadNew_29 (by decide) ?_
      refine dr_aload_n 30 hV dX2_spreadNew_30 rfl ?_
      refine dr_geta 31 hV dX2_spreadNew_31 (by decide) (by decide) rfl rfl rfl ?_
      refine dr_iload_n 34 hV dX2_spreadNew_34 rfl ?_
      refine dr_aaldi 35 hV dX2_spreadNew_35 (by decide) rfl rfl (by omega) (by decide) ?_
      refine dr_iload_n 36 hV dX2_spreadNew_36 rfl ?_
      refine dr_iald (v := nI a0) 37 hV dX2_spreadNew_37 (by omega) (dz_Y_w (by omega)) rfl (by omega) (by decide) ha0 ?_
      refine dr_istore 38 hV dX2_spreadNew_38 (by decide) ?_
      refine dr_sub hV (ls2 := [(0, .inr (.inr 4)), (2, .inl (nI p)), (3, .inl (nI a1)), (4, .inl (nI (a0)))]) rfl ?_
      exact loop (a1 + 1) a0 P I J (by omega) (by omega) hM (sd_D.rf hw hG) (sd_F.rf _ _) hat
    · have hat : ¬ sg_at s p 10 := fun z => c15 ((sg_it_10 s p).mpr z)
      exact dr_vret 18 hV dX2_spreadNew_18 rfl ⟨rfl, sd_F.rf _ _, P, hM, sd_D.rf hw (fun m => (hG m).trans (sd_no10 hat h01))⟩
