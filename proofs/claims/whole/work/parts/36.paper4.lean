/-! the paper: cleared, and told what may lie where -/
/-- a paper that can be cleared -/
def CL (I : dz_MI) (J : dz_MJ) : Prop := ∃ P : dz_PS, PM P I J ∧ (∀ f, f < 9 → P.1 f ≤ 6144 ∧ ∀ i, i < P.1 f → P.2.1 f i < 11264) ∧ (∀ f m, f < 9 → ¬ P.2.2 f m = 0 → ∃ i, i < P.1 f ∧ P.2.1 f i = m) ∧ ∀ f, f < 9 → I 52 f = nI 0
def cl_O (I : dz_MI) (J : dz_MJ) (I2 : dz_MI) (J2 : dz_MJ) (f : Nat) : Prop := (∀ x, x < f → I2 22 x = nI 0) ∧ (∀ x, f ≤ x → x < 9 → I2 22 x = I 22 x) ∧ (∀ a k, ¬ a = 22 → I2 a k = I a k) ∧ (∀ x m, x < f → m < 11264 → J2 (34 + x) m = lN 0) ∧ (∀ x m, f ≤ x → x < 9 → J2 (34 + x) m = J (34 + x) m)
def cl_N (P : dz_PS) (J0 J2 : dz_MJ) (f i : Nat) : Prop := (∀ a k, ¬ a = 34 + f → J2 a k = J0 a k) ∧ (∀ m, J2 (34 + f) m = J0 (34 + f) m ∨ J2 (34 + f) m = lN 0) ∧ ∀ j, j < i → J2 (34 + f) (P.2.1 f j) = lN 0
theorem cl_N.s {P : dz_PS} {J0 J2 : dz_MJ} {f i : Nat} (h : cl_N P J0 J2 f i) : cl_N P J0 (dz_wj J2 (34 + f) (P.2.1 f i) (lN 0)) f (i + 1) := by
  refine ⟨fun a k ha => by rw [dz_wj_n _ _ (by omega)]; exact h.1 a k ha, fun m => ?_, fun j hj => ?_⟩
  · by_cases e : m = P.2.1 f i
    · subst e; exact Or.inr (dz_wj_s _ _ _ _)
    · rw [dz_wj_n _ _ (by omega)]; exact h.2.1 m
  · by_cases e : P.2.1 f j = P.2.1 f i
    · rw [e, dz_wj_s]
    · rw [dz_wj_n _ _ (by omega)]
      refine h.2.2 j ?_
      rcases Nat.lt_or_ge j i with z | z
      · exact z
      · exact absurd (by rw [show j = i by omega]) e
theorem cl_O.s {P : dz_PS} {I I2 : dz_MI} {J J0 J2 : dz_MJ} {f : Nat} (hM : PM P I J) (hz : ∀ f m, f < 9 → ¬ P.2.2 f m = 0 → ∃ i, i < P.1 f ∧ P.2.1 f i = m) (hf : f < 9) (h : cl_O I J I2 J0 f) (hn : cl_N P J0 J2 f (P.1 f)) : cl_O I J (dz_wi I2 22 f (nI 0)) J2 (f + 1) := by
  obtain ⟨h1, h2, h3, h4, h5⟩ := h
  refine ⟨fun x hx => ?_, fun x h6 h7 => by rw [dz_wi_n _ _ (by omega)]; exact h2 x (by omega) h7, fun a k ha => by rw [dz_wi_n _ _ (by omega)]; exact h3 a k ha, fun x m hx hm => ?_, fun x m h6 h7 => by rw [hn.1 _ _ (by omega)]; exact h5 x m (by omega) h7⟩
  · by_cases e : x = f
    · subst e; exact dz_wi_s _ _ _ _
    · rw [dz_wi_n _ _ (by omega)]; exact h1 x (by omega)
  · by_cases e : x = f
    · subst e
      rcases hn.2.1 m with q | q
      · rw [q, h5 x m (Nat.le_refl _) hf, hM.2.2 x m hf hm]
        by_cases z : P.2.2 x m = 0
        · rw [z]
        · obtain ⟨i, hi, e⟩ := hz x m hf z
          have := hn.2.2 i hi
          rw [e, q, h5 x m (Nat.le_refl _) hf, hM.2.2 x m hf hm] at this
          exact this
      · exact q
    · rw [hn.1 _ _ (by omega)]; exact h4 x m (by omega) hm
def cl_V (I2 I3 : dz_MI) (i : Nat) : Prop := (∀ l, l < i → I3 17 l = nI 2047) ∧ ∀ a k, ¬ a = 17 → I3 a k = I2 a k
theorem cl_V.s {I2 I3 : dz_MI} {i : Nat} (h : cl_V I2 I3 i) : cl_V I2 (dz_wi I3 17 i (nI 2047)) (i + 1) := by
  refine ⟨fun l hl => ?_, fun a k ha => by rw [dz_wi_n _ _ (by omega)]; exact h.2 a k ha⟩
  by_cases e : l = i
  · subst e; exact dz_wi_s _ _ _ _
  · rw [dz_wi_n _ _ (by omega)]; exact h.1 l (by omega)
theorem cl_mm {n : Nat} (h8 : n ≤ 8) : (if nI 0 < (if nI 8 < nI n then nI 8 else nI n) then (if nI 8 < nI n then nI 8 else nI n) else nI 0) = nI n := by
  rcases (show n = 0 ∨ n = 1 ∨ n = 2 ∨ n = 3 ∨ n = 4 ∨ n = 5 ∨ n = 6 ∨ n = 7 ∨ n = 8 by omega) with rfl | rfl | rfl | rfl | rfl | rfl | rfl | rfl | rfl <;> decide
def cl_P (n : Nat) (I : dz_MI) : Option dz_AV → dz_MI → dz_MJ → Prop := fun r I2 J2 => r = none ∧ PM ps_0 I2 J2 ∧ (∀ l, l < 11 → I2 17 l = nI 2047) ∧ I2 4 9 = nI n ∧ ∀ a k, ¬ a = 22 → ¬ a = 17 → ¬ (a = 4 ∧ k = 9) → I2 a k = I a k
theorem cl_m {n : Nat} {I I2 I3 : dz_MI} {J J2 : dz_MJ} {x : Int32} (hx : x = nI n) (h : cl_O I J I2 J2 9) (hv : cl_V I2 I3 11) : cl_P n I none (dz_wi I3 4 9 x) J2 := by
  obtain ⟨h1, h2, h3, h4, h5⟩ := h
  refine ⟨rfl, ⟨fun f hf => by rw [dz_wi_n _ _ (by omega), hv.2 _ _ (by omega)]; exact h1 f hf, fun f i hf hi => absurd hi (Nat.not_lt_zero _), fun f m hf hm => h4 f m hf hm⟩, fun l hl => by rw [dz_wi_n _ _ (by omega)]; exact hv.1 l hl, by rw [dz_wi_s]; exact hx, fun a k ha hb hc => by rw [dz_wi_n _ _ hc, hv.2 a k hb, h3 a k ha]⟩
set_option maxRecDepth 100000 in
set_option maxHeartbeats 4000000 in
theorem cl_i {π : dz_Pl} {post : Option dz_AV → dz_MI → dz_MJ → Prop} {V : dz_Vt} (hV : dz_Clo π dz_Y 62 2 mX2_clear 1 40 post V) {P : dz_PS} {I I2 : dz_MI} {J J0 : dz_MJ} {n f : Nat} (hM : PM P I J) (hb : ∀ f, f < 9 → P.1 f ≤ 6144 ∧ ∀ i, i < P.1 f → P.2.1 f i < 11264) (hf : f < 9) (hC : cl_O I J I2 J0 f) (K : ∀ J2, cl_N P J0 J2 f (P.1 f) → V 42 I2 J2 [(0, .inr (.inr 4)), (1, .inl (nI n)), (2, .inl (nI (f)))] []) : ∀ (fu i : Nat) (J2 : dz_MJ), P.1 f < i + fu → i ≤ P.1 f → cl_N P J0 J2 f i → V 10 I2 J2 [(0, .inr (.inr 4)), (1, .inl (nI n)), (2, .inl (nI f)), (3, .inl (nI (i)))] [] := by
  obtain ⟨hb1, hb2⟩ := hb f hf
  intro fu
  induction fu with
  | zero => intro i J2 h1 h2; exact absurd h1 (by omega)
  | succ fu ih =>
      intro i J2 h1 h2 hN
      refine dr_iload_n 10 hV dX2_clear_10 rfl ?_
      refine dr_aload_n 11 hV dX2_clear_11 rfl ?_
      refine dr_geta 12 hV dX2_clear_12 (by decide) (by decide) rfl rfl rfl ?_
      refine dr_iload_n 15 hV dX2_clear_15 rfl ?_
      refine dr_iald (v := nI (P.1 f)) 16 hV dX2_clear_16 (by decide) rfl rfl hf (by decide) (by rw [hC.2.1 f (Nat.le_refl _) hf]; exact hM.1 f hf) ?_
      refine dn_icmp_ge (tgt := 42) 17 hV dX2_clear_17 (by decide) (by omega) (by omega) (fun c17 => ?_) (fun c17 => ?_)
      · have hie : i = P.1 f := by omega
        subst hie
        refine dr_sub hV (ls2 := [(0, .inr (.inr 4)), (1, .inl (nI n)), (2, .inl (nI (f)))]) rfl ?_
        exact K J2 hN
      · refine dr_aload_n 20 hV dX2_clear_20 rfl ?_
        refine dr_geta 21 hV dX2_clear_21 (by decide) (by decide) rfl rfl rfl ?_
        refine dr_iload_n 24 hV dX2_clear_24 rfl ?_
        refine dr_aaldl 25 hV dX2_clear_25 (by decide) rfl rfl hf (by decide) ?_
        refine dr_aload_n 26 hV dX2_clear_26 rfl ?_
        refine dr_geta 27 hV dX2_clear_27 (by decide) (by decide) rfl rfl rfl ?_
        refine dr_iload_n 30 hV dX2_clear_30 rfl ?_
        refine dr_aaldi 31 hV dX2_clear_31 (by decide) rfl rfl hf (by decide) ?_
        refine dr_iload_n 32 hV dX2_clear_32 rfl ?_
        refine dr_iald (v := nI (P.2.1 f i)) 33 hV dX2_clear_33 (by omega) (dz_Y_r hf) rfl (by omega) (by decide) (by rw [hC.2.2.1 _ _ (by omega)]; exact hM.2.1 f i hf c17) ?_
        refine dr_lconst (v := lN 0) 34 hV dX2_clear_34 (by decide) ?_
        refine dr_last 35 hV dX2_clear_35 (by omega) (dz_Y_b hf) rfl (hb2 i c17) (by decide) ?_
        refine dr_iinc1 36 hV dX2_clear_36 (by decide) rfl ?_
        refine dr_goto (tgt := 10) 39 hV dX2_clear_39 (by decide) ?_
        refine dr_sub hV (ls2 := [(0, .inr (.inr 4)), (1, .inl (nI n)), (2, .inl (nI f)), (3, .inl (nI (i + 1)))]) rfl ?_
        exact ih (i + 1) _ (by omega) (by omega) hN.s
set_option maxRecDepth 100000 in
set_option maxHeartbeats 4000000 in
theorem c_X2_clear (π : dz_Pl) {n : Nat} (I : dz_MI) (J : dz_MJ) (hC : CL I J) (h8 : n ≤ 8) : dz_Cl π dz_Y 62 mX2_clear 1 40 [.inr (.inr 4), .inl (nI n)] I J (cl_P n I) := by
  refine dz_body (own := 2) dz_mX2_clear rfl (Nat.le_of_ble_eq_true rfl) (fun V hV => ?_)
  obtain ⟨P, hM, hb, hz, -⟩ := hC
  have loop2 : ∀ (fu i : Nat) (I3 : dz_MI), 11 < i + fu → i ≤ 11 → ∀ (I2 : dz_MI) (J2 : dz_MJ), cl_O I J I2 J2 9 → cl_V I2 I3 i → V 57 I3 J2 [(0, .inr (.inr 4)), (1, .inl (nI n)), (2, .inl (nI (i)))] [] := by
    intro fu
    induction fu with
    | zero => intro i I3 h1 h2; exact absurd h1 (by omega)
    | succ fu ih =>
      intro i I3 h1 h2 I2 J2 hC hv
      refine dr_iload_n 57 hV dX2_clear_57 rfl ?_
      refine dr_bipush (v := nI 11) 58 hV dX2_clear_58 (by decide) ?_
      refine dn_icmp_ge (tgt := 78) 60 hV dX2_clear_60 (by decide) (by omega) (by omega) (fun c60 => ?_) (fun c60 => ?_)
      · have hi11 : i = 11 := by omega
        subst hi11
        refine dr_aload_n 78 hV dX2_clear_78 rfl ?_
        refine dr_iconst (v := nI 0) 79 hV dX2_clear_79 (by decide) ?_
        refine dr_iload_n 80 hV dX2_clear_80 rfl ?_
        refine dr_bipush (v := nI 8) 81 hV dX2_clear_81 (by decide) ?_
        refine dr_min 83 hV dX2_clear_83 dz_j2_56 (by decide) (by decide) (Nat.le_of_ble_eq_true rfl) ?_
        refine dr_max 86 hV dX2_clear_86 dz_j2_62 (by decide) (by decide) (Nat.le_of_ble_eq_true rfl) ?_
        refine dr_puti 89 hV dX2_clear_89 (by decide) (by decide) rfl rfl rfl rfl rfl rfl ?_
        exact dr_vret 92 hV dX2_clear_92 rfl (cl_m (cl_mm h8) hC hv)
      · refine dr_aload_n 63 hV dX2_clear_63 rfl ?_
        refine dr_geta 64 hV dX2_clear_64 (by decide) (by decide) rfl rfl rfl ?_
        refine dr_iload_n 67 hV dX2_clear_67 rfl ?_
        refine dr_sipush (v := nI 2047) 68 hV dX2_clear_68 (by decide) ?_
        refine dr_iast 71 hV dX2_clear_71 (by decide) rfl rfl (by omega) (by decide) ?_
        refine dr_iinc1 72 hV dX2_clear_72 (by decide) rfl ?_
        refine dr_goto (tgt := 57) 75 hV dX2_clear_75 (by decide) ?_
        refine dr_sub hV (ls2 := [(0, .inr (.inr 4)), (1, .inl (nI n)), (2, .inl (nI (i + 1)))]) rfl ?_
        exact ih (i + 1) _ (by omega) (by omega) _ _ hC hv.s
  have loop : ∀ (fu f : Nat) (I2 : dz_MI) (J2 : dz_MJ), 9 < f + fu → f ≤ 9 → cl_O I J I2 J2 f → V 2 I2 J2 [(0, .inr (.inr 4)), (1, .inl (nI n)), (2, .inl (nI (f)))] [] := by
    intro fu
    induction fu with
    | zero => intro f I2 J2 h1 h2; exact absurd h1 (by omega)
    | succ fu ih =>
      intro f I2 J2 h1 h2 hC
      refine dr_iload_n 2 hV dX2_clear_2 rfl ?_
      refine dr_bipush (v := nI 8) 3 hV dX2_clear_3 (by decide) ?_
      refine dn_icmp_gt (tgt := 55) 5 hV dX2_clear_5 (by decide) (by omega) (by omega) (fun c5 => ?_) (fun c5 => ?_)
      · have hf9 : f = 9 := by omega
        subst hf9
        refine dr_iconst (v := nI 0) 55 hV dX2_clear_55 (by decide) ?_
        refine dr_istore_n 56 hV dX2_clear_56 (by decide) ?_
        refine dr_sub hV (ls2 := [(0, .inr (.inr 4)), (1, .inl (nI n)), (2, .inl (nI (0)))]) rfl ?_
        exact loop2 12 0 I2 (by omega) (by omega) _ _ hC ⟨fun l hl => absurd hl (by omega), fun _ _ _ => rfl⟩
      · have hf : f < 9 := by omega
        refine dr_iconst (v := nI 0) 8 hV dX2_clear_8 (by decide) ?_
        refine dr_istore_n 9 hV dX2_clear_9 (by decide) ?_
        refine dr_sub hV (ls2 := [(0, .inr (.inr 4)), (1, .inl (nI n)), (2, .inl (nI f)), (3, .inl (nI (0)))]) rfl ?_
        refine cl_i hV hM hb hf hC (fun J3 hN => ?_) (P.1 f + 1) 0 J2 (by omega) (Nat.zero_le _) ⟨fun _ _ _ => rfl, fun _ => Or.inl rfl, fun j hj => absurd hj (by omega)⟩
        refine dr_aload_n 42 hV dX2_clear_42 rfl ?_
        refine dr_geta 43 hV dX2_clear_43 (by decide) (by decide) rfl rfl rfl ?_
        refine dr_iload_n 46 hV dX2_clear_46 rfl ?_
        refine dr_iconst (v := nI 0) 47 hV dX2_clear_47 (by decide) ?_
        refine dr_iast 48 hV dX2_clear_48 (by decide) rfl rfl hf (by decide) ?_
        refine dr_iinc1 49 hV dX2_clear_49 (by decide) rfl ?_
        refine dr_goto (tgt := 2) 52 hV dX2_clear_52 (by decide) ?_
        refine dr_sub hV (ls2 := [(0, .inr (.inr 4)), (1, .inl (nI n)), (2, .inl (nI (f + 1)))]) rfl ?_
        exact ih (f + 1) _ _ (by omega) (by omega) (hC.s hM hz hf hN)
  refine dr_iconst (v := nI 0) 0 hV dX2_clear_0 (by decide) ?_
  refine dr_istore_n 1 hV dX2_clear_1 (by decide) ?_
  refine dr_sub hV (ls2 := [(0, .inr (.inr 4)), (1, .inl (nI n)), (2, .inl (nI (0)))]) rfl ?_
  exact loop 10 0 I J (by omega) (by omega) ⟨fun x hx => absurd hx (by omega), fun _ _ _ => rfl, fun _ _ _ => rfl, fun x m hx => absurd hx (by omega), fun _ _ _ _ => rfl⟩
set_option maxRecDepth 100000 in
set_option maxHeartbeats 4000000 in
theorem c_X2_allowOver (π : dz_Pl) {d x : Nat} (I : dz_MI) (J : dz_MJ) (hd : d < 10) : dz_Cl π dz_Y 62 mX2_allowOver 0 0 [.inr (.inr 4), .inl (nI d), .inl (nI x)] I J (dz_Ex (dz_wi I 17 d (nI (x ||| 1024))) J) := by
  refine dz_body (own := 2) dz_mX2_allowOver rfl (Nat.le_of_ble_eq_true rfl) (fun V hV => ?_)
  refine dr_iload_n 0 hV dX2_allowOver_0 rfl ?_
  refine dr_if_lt (tgt := 21) 1 hV dX2_allowOver_1 (by decide) (fun c1 => ?_) (fun c1 => ?_)
  · exact absurd c1 (nI_pos (by omega))
  · refine dr_iload_n 4 hV dX2_allowOver_4 rfl ?_
    refine dr_bipush (v := nI 10) 5 hV dX2_allowOver_5 (by decide) ?_
    refine dn_icmp_ge (tgt := 21) 7 hV dX2_allowOver_7 (by decide) (by omega) (by omega) (fun c7 => ?_) (fun c7 => ?_)
    · omega
    · refine dr_aload_n 10 hV dX2_allowOver_10 rfl ?_
      refine dr_geta 11 hV dX2_allowOver_11 (by decide) (by decide) rfl rfl rfl ?_
      refine dr_iload_n 14 hV dX2_allowOver_14 rfl ?_
      refine dr_iload_n 15 hV dX2_allowOver_15 rfl ?_
      refine dr_sipush (v := nI 1024) 16 hV dX2_allowOver_16 (by decide) ?_
      refine dr_ior (z := nI (x ||| 1024)) 19 hV dX2_allowOver_19 (fa_or _ _) ?_
      refine dr_iast 20 hV dX2_allowOver_20 (by decide) rfl rfl (by omega) (by decide) ?_
      exact dr_vret 21 hV dX2_allowOver_21 rfl ⟨rfl, rfl, rfl⟩
set_option maxRecDepth 100000 in
set_option maxHeartbeats 4000000 in
theorem c_X2_allowAt (π : dz_Pl) {q n x : Nat} {Q : Prop} (I : dz_MI) (J : dz_MJ) (hn : I 4 9 = nI n) (hq : q < n) (h8 : n ≤ 8) : dz_Cl π dz_Y 62 mX2_allowAt 1 21 [.inr (.inr 4), .inl (nI q), .inl (nI x), .inl (dz_bp Q)] I J (dz_Ex (dz_wi (dz_wi I 15 q (nI x)) 16 q (dz_bp Q)) J) := by
  refine dz_body (own := 2) dz_mX2_allowAt rfl (Nat.le_of_ble_eq_true rfl) (fun V hV => ?_)
  refine dr_aload_n 0 hV dX2_allowAt_0 rfl ?_
  refine dr_iload_n 1 hV dX2_allowAt_1 rfl ?_
  refine dr_cvp1 2 hV dz_lX2_52 dX2_allowAt_2 (by decide) (by decide) ⟨by decide, _, _, rfl, by decide, rfl⟩ (Nat.le_of_ble_eq_true rfl) (c_X2_isPlace π (nI q) _ _) ?_
  first | refine dr_ifb_eq (tgt := 22) 5 hV dX2_allowAt_5 (by decide) (fun c5 => ?_) (fun c5 => ?_) | refine dr_if_eq (tgt := 22) 5 hV dX2_allowAt_5 (by decide) (fun c5 => ?_) (fun c5 => ?_)
  · exact absurd (dz_inI hn hq (by omega)) c5
  · refine dr_aload_n 8 hV dX2_allowAt_8 rfl ?_
    refine dr_geta 9 hV dX2_allowAt_9 (by decide) (by decide) rfl rfl rfl ?_
    refine dr_iload_n 12 hV dX2_allowAt_12 rfl ?_
    refine dr_iload_n 13 hV dX2_allowAt_13 rfl ?_
    refine dr_iast 14 hV dX2_allowAt_14 (by decide) rfl rfl (by omega) (by decide) ?_
    refine dr_aload_n 15 hV dX2_allowAt_15 rfl ?_
    refine dr_geta 16 hV dX2_allowAt_16 (by decide) (by decide) rfl rfl rfl ?_
    refine dr_iload_n 19 hV dX2_allowAt_19 rfl ?_
    refine dr_iload_n 20 hV dX2_allowAt_20 rfl ?_
    refine dr_zast 21 hV dX2_allowAt_21 (by decide) rfl rfl (by omega) (by decide) dz_bnar ?_
    exact dr_vret 22 hV dX2_allowAt_22 rfl ⟨rfl, rfl, rfl⟩
