/-! the paper: all of one level -/
def lvl (s : dz_Sg) (P : dz_PS) (w : Nat → Nat → Nat) (I : dz_MI) (k f : Nat) : Prop := ps_wf P f ∧ P.1 f = w k f ∧ (∀ m, P.2.2 f m = pa_gk s k f m) ∧ (∀ j, j ≤ k → I (52 + j) f = nI (w j f) ∧ w j f ≤ w k f ∧ ∀ m, 0 < pa_gk s j f m ↔ ∃ i, i < w j f ∧ P.2.1 f i = m)
theorem lvl.agree {s : dz_Sg} {P P2 : dz_PS} {w w2 : Nat → Nat → Nat} {I I2 : dz_MI} {k f : Nat} (h : lvl s P w I k f) (hP : P2.1 f = P.1 f ∧ P2.2.1 f = P.2.1 f ∧ P2.2.2 f = P.2.2 f) (hI : ∀ j, j ≤ k → I2 (52 + j) f = I (52 + j) f) (hw : ∀ j, j ≤ k → w2 j f = w j f) : lvl s P2 w2 I2 k f := by
  obtain ⟨h1, h2, h3, h4⟩ := h
  obtain ⟨p1, p2, p3⟩ := hP
  refine ⟨?_, by rw [p1, hw k (Nat.le_refl _)]; exact h2, fun m => by rw [p3]; exact h3 m, fun j hj => ?_⟩
  · unfold ps_wf; rw [p1, p2, p3]; exact h1
  · rw [hI j hj, hw j hj, hw k (Nat.le_refl _), p2]; exact h4 j hj
def rw_I (s : dz_Sg) (k f : Nat) (I : dz_MI) (J : dz_MJ) : Prop := SU s I ∧ ∃ (P : dz_PS) (w : Nat → Nat → Nat), PM P I J ∧ (∀ x, x < f → x ≤ sg_p s → lvl s P w I (k + 1) x) ∧ (∀ x, f ≤ x → x ≤ sg_p s → lvl s P w I k x) ∧ (∀ x, sg_p s < x → x < 9 → P.1 x = 0 ∧ ∀ m, P.2.2 x m = 0)
theorem rw_I.next {s : dz_Sg} {k : Nat} {I : dz_MI} {J : dz_MJ} (h : rw_I s k (sg_p s + 1) I J) : rw_I s (k + 1) 0 I J := by
  obtain ⟨hS, P, w, hM, h1, h2, h3⟩ := h
  exact ⟨hS, P, w, hM, fun x hx => absurd hx (by omega), fun x _ hx => h1 x (by omega) hx, h3⟩
theorem SU.w {s : dz_Sg} {I : dz_MI} {a k : Nat} {v : Int32} (h : SU s I) (ha : ¬ (a = 4 ∧ k = 9)) (hb : ¬ a = 15) (hc : ¬ a = 16) (hd : ¬ a = 17) (he : ¬ a = 52) : SU s (dz_wi I a k v) := by
  obtain ⟨u1, u2, u3, u4⟩ := h
  exact ⟨by rw [dz_wi_n _ _ (by omega)]; exact u1, fun q hq => ⟨by rw [dz_wi_n _ _ (by omega)]; exact (u2 q hq).1, by rw [dz_wi_n _ _ (by omega)]; exact (u2 q hq).2⟩, fun l hl => by rw [dz_wi_n _ _ (by omega)]; exact u3 l hl, fun x hx => by rw [dz_wi_n _ _ (by omega)]; exact u4 x hx⟩
theorem PM.w {P : dz_PS} {I : dz_MI} {J : dz_MJ} {a k : Nat} {v : Int32} (h : PM P I J) (ha : ¬ a = 22) (hb : ¬ (43 ≤ a ∧ a < 52)) : PM P (dz_wi I a k v) J := ⟨fun f hf => by rw [dz_wi_n _ _ (by omega)]; exact h.1 f hf, fun f i hf hi => by rw [dz_wi_n _ _ (by omega)]; exact h.2.1 f i hf hi, h.2.2⟩
theorem rw_put {s : dz_Sg} {k f : Nat} {I I2 : dz_MI} {J2 : dz_MJ} {P P2 : dz_PS} {w : Nat → Nat → Nat} (hO : dz_OK s) (hk : k ≤ 8) (hf : f ≤ sg_p s) (h1 : ∀ x, x < f → x ≤ sg_p s → lvl s P w I (k + 1) x) (h2 : ∀ x, f ≤ x → x ≤ sg_p s → lvl s P w I k x) (h3 : ∀ x, sg_p s < x → x < 9 → P.1 x = 0 ∧ ∀ m, P.2.2 x m = 0) (hS : SU s I2) (hM : PM P2 I2 J2) (hI : ∀ j x, j ≤ 9 → I2 (52 + j) x = I (52 + j) x) (hd : sd_D f P P2 (pa_gk s (k + 1) f)) : rw_I s k (f + 1) (dz_wi I2 (52 + (k + 1)) f (nI (P2.1 f))) J2 := by
  obtain ⟨d1, d2, d3, d4, d5⟩ := hd
  refine ⟨hS.w (by omega) (by omega) (by omega) (by omega) (by omega), P2, fun j x => if j = k + 1 ∧ x = f then P2.1 f else w j x, hM.w (by omega) (by omega), fun x hx hp => ?_, fun x hx hp => ?_, fun x hx h9 => ?_⟩
  · by_cases e : x = f
    · subst e
      obtain ⟨l1, l2, l3, l4⟩ := h2 x (Nat.le_refl _) hp
      refine ⟨d4, by simp, d5, fun j hj => ?_⟩
      by_cases z : j = k + 1
      · subst z
        refine ⟨by rw [dz_wi_s]; simp, Nat.le_refl _, fun m => ?_⟩
        simp only [and_self, if_true]
        rw [← d5 m]
        exact d4.2.2 m
      · obtain ⟨q1, q2, q3⟩ := l4 j (by omega)
        simp only [z, false_and, if_false, and_self, if_true]
        refine ⟨by rw [dz_wi_n _ _ (by omega), hI j x (by omega)]; exact q1, by omega, fun m => ?_⟩
        rw [q3 m]
        constructor
        · rintro ⟨i, hi, e⟩; exact ⟨i, hi, by rw [d3 i (by omega)]; exact e⟩
        · rintro ⟨i, hi, e⟩; exact ⟨i, hi, by rw [d3 i (by omega)] at e; exact e⟩
    · exact (h1 x (by omega) hp).agree (d1 x e) (fun j hj => by rw [dz_wi_n _ _ (by omega), hI j x (by omega)]) (fun j hj => by simp [e])
  · exact (h2 x (by omega) hp).agree (d1 x (by omega)) (fun j hj => by rw [dz_wi_n _ _ (by omega), hI j x (by omega)]) (fun j hj => by simp [show ¬ x = f by omega])
  · obtain ⟨a1, a2, a3⟩ := d1 x (by omega)
    rw [a1, a3]; exact h3 x hx h9
def rw_b (w : Nat → Nat → Nat) (k p : Nat) : Nat := if k = 0 then 0 else w (k - 1) p
theorem rw_w0 {s : dz_Sg} {P : dz_PS} {w : Nat → Nat → Nat} {I : dz_MI} {k p : Nat} (hS : SU s I) (hp : p < 9) (h : lvl s P w I k p) : w 0 p = 0 := by
  have h1 := (h.2.2.2 0 (Nat.zero_le _)).1
  have h2 := hS.2.2.2 p hp
  have h3 := (h.2.2.2 0 (Nat.zero_le _)).2.1
  have h4 := h.1.le
  rw [h.2.1] at h4
  have : I (52 + 0) p = nI 0 := h2
  rw [h1] at this
  exact (nI_eq (by omega) (by decide)).mp this
theorem rw_pre {s : dz_Sg} {P : dz_PS} {w : Nat → Nat → Nat} {I : dz_MI} {k p : Nat} (hO : dz_OK s) (hS : SU s I) (hp : p < sg_p s) (h : lvl s P w I (k + 1) p) : sd_R s P p (w (k + 1) p) ∧ sd_R s P p (w k p) ∧ w k p ≤ w (k + 1) p ∧ rw_b w k p ≤ w k p ∧ (∀ m, pa_gk s k (p + 1) m = pa_S s p (P.2.1 p) (w k p) (rw_b w k p) m) ∧ (∀ m, pa_S s p (P.2.1 p) (w (k + 1) p) (w k p) m = pa_gk s (k + 1) (p + 1) m) := by
  have h8 := hO.2.2.1
  obtain ⟨l1, l2, l3, l4⟩ := id h
  have hle := l1.le
  obtain ⟨a1, a2, a3⟩ := l4 (k + 1) (Nat.le_refl _)
  obtain ⟨b1, b2, b3⟩ := l4 k (by omega)
  have hr : ∀ i, i < w (k + 1) p → 0 < pa_G s p (P.2.1 p i) ∧ P.2.2 p (P.2.1 p i) = pa_G s p (P.2.1 p i) := fun i hi => by
    obtain ⟨c1, c2⟩ := pa_gk_pos.mp ((a3 _).mpr ⟨i, hi, rfl⟩)
    refine ⟨c1, ?_⟩
    rw [l3]; unfold pa_gk; rw [if_pos c2]
  have hi1 : ∀ i j, i < w (k + 1) p → j < w (k + 1) p → P.2.1 p i = P.2.1 p j → i = j := fun i j hi hj => l1.2.1 i j (by omega) (by omega)
  have hb : rw_b w k p ≤ w k p := by
    unfold rw_b
    split
    · exact Nat.zero_le _
    · have hmono : ∀ i, i < w (k - 1) p → i < w k p := fun i hi => by
        obtain ⟨c1, c2⟩ := pa_gk_pos.mp (((l4 (k - 1) (by omega)).2.2 _).mpr ⟨i, hi, rfl⟩)
        obtain ⟨j, hj, e⟩ := (b3 (P.2.1 p i)).mp (pa_gk_pos.mpr ⟨c1, by omega⟩)
        have := l1.2.1 j i (by omega) (by have := (l4 (k - 1) (by omega)).2.1; omega) e
        omega
      rcases Nat.lt_or_ge (w k p) (w (k - 1) p) with z | z
      · exact absurd (hmono _ z) (by omega)
      · exact z
  refine ⟨⟨by omega, by omega, hr⟩, ⟨by omega, by omega, fun i hi => hr i (by omega)⟩, b2, hb, fun m => ?_, fun m => pa_S_full hO hp b2 hi1 a3 b3 m⟩
  unfold rw_b
  by_cases z : k = 0
  · subst z
    rw [if_pos rfl, rw_w0 hS (by omega) h]
    unfold pa_gk pa_S
    rw [if_neg (by omega)]; rfl
  · rw [if_neg z]
    obtain ⟨k2, rfl⟩ : ∃ k2, k = k2 + 1 := ⟨k - 1, by omega⟩
    unfold rw_b at hb
    rw [if_neg z] at hb
    exact (pa_S_full hO hp hb (fun i j hi hj => hi1 i j (by omega) (by omega)) b3 (l4 k2 (by omega)).2.2 m).symm
def fr43 (I I2 : dz_MI) : Prop := ∀ a k, a < 43 → ¬ a = 22 → I2 a k = I a k
theorem pa_gk_0 {s : dz_Sg} {k m : Nat} (hk : 0 < k) : pa_gk s k 0 m = if m = 10 then 1 else 0 := by
  unfold pa_gk
  rw [if_pos (by unfold pa_lev; omega)]; rfl
theorem rw_gk0 {s : dz_Sg} {m : Nat} : pa_gk s 0 0 m = 0 := by unfold pa_gk; rw [if_neg (by omega)]
set_option maxRecDepth 100000 in
set_option maxHeartbeats 4000000 in
theorem c_X2_reachWith (π : dz_Pl) {s : dz_Sg} {k : Nat} (I : dz_MI) (J : dz_MJ) (hO : dz_OK s) (hk : k ≤ sg_p s) (hrw0 : rw_I s k 0 I J) : dz_Cl π dz_Y 62 mX2_reachWith 2 54 [.inr (.inr 4), .inl (nI k)] I J (fun r I2 J2 => r = none ∧ rw_I s k (sg_p s + 1) I2 J2 ∧ fr43 I I2) := by
  refine dz_body (own := 2) dz_mX2_reachWith rfl (Nat.le_of_ble_eq_true rfl) (fun V hV => ?_)
  have h8 := hO.2.2.1
  have loop : ∀ (fu f : Nat) (I2 : dz_MI) (J2 : dz_MJ), sg_p s + 1 < f + fu → f ≤ sg_p s + 1 → rw_I s k f I2 J2 → fr43 I I2 → V 2 I2 J2 [(0, .inr (.inr 4)), (1, .inl (nI k)), (2, .inl (nI (f)))] [] := by
    intro fu
    induction fu with
    | zero => intro f I2 J2 h1 h2; exact absurd h1 (by omega)
    | succ fu ih =>
      intro f I2 J2 hh1 hh2 hrw hfr
      obtain ⟨hS, P, w, hM, h1, h2, h3⟩ := id hrw
      have u1 := hS.1
      have k47 : ∀ (P2 : dz_PS) (I3 : dz_MI) (J3 : dz_MJ), SU s I3 → PM P2 I3 J3 → (∀ j x, j ≤ 9 → I3 (52 + j) x = I2 (52 + j) x) → fr43 I2 I3 → sd_D f P P2 (pa_gk s (k + 1) f) → f ≤ sg_p s → V 47 I3 J3 [(0, .inr (.inr 4)), (1, .inl (nI k)), (2, .inl (nI (f)))] [] := by
        intro P2 I3 J3 hS2 hM2 hI2 hF2 hD2 hfp
        refine dr_aload_n 47 hV dX2_reachWith_47 rfl ?_
        refine dr_geta 48 hV dX2_reachWith_48 (by decide) (by decide) rfl rfl rfl ?_
        refine dr_iload_n 51 hV dX2_reachWith_51 rfl ?_
        refine dr_iconst (v := nI 1) 52 hV dX2_reachWith_52 (by decide) ?_
        refine dr_iadd (z := nI (k + 1)) 53 hV dX2_reachWith_53 (nI_1 k) ?_
        refine dr_aaldi 54 hV dX2_reachWith_54 (by decide) rfl rfl (by omega) (by decide) ?_
        refine dr_iload_n 55 hV dX2_reachWith_55 rfl ?_
        refine dr_aload_n 56 hV dX2_reachWith_56 rfl ?_
        refine dr_geta 57 hV dX2_reachWith_57 (by decide) (by decide) rfl rfl rfl ?_
        refine dr_iload_n 60 hV dX2_reachWith_60 rfl ?_
        refine dr_iald (v := nI (P2.1 f)) 61 hV dX2_reachWith_61 (by decide) rfl rfl (by omega) (by decide) (hM2.1 f (by omega)) ?_
        refine dr_iast 62 hV dX2_reachWith_62 (by omega) (dz_Y_w (by omega)) rfl (by omega) (by decide) ?_
        refine dr_iinc1 63 hV dX2_reachWith_63 (by decide) rfl ?_
        refine dr_goto (tgt := 2) 66 hV dX2_reachWith_66 (by decide) ?_
        refine dr_sub hV (ls2 := [(0, .inr (.inr 4)), (1, .inl (nI k)), (2, .inl (nI (f + 1)))]) rfl ?_
        exact ih (f + 1) _ _ (by omega) (by omega) (rw_put hO (by omega) hfp h1 h2 h3 hS2 hM2 hI2 hD2) (fun a b q1 q2 => by rw [dz_wi_n _ _ (by omega), hF2 a b q1 q2]; exact hfr a b q1 q2)
      refine dr_iload_n 2 hV dX2_reachWith_2 rfl ?_
      refine dr_aload_n 3 hV dX2_reachWith_3 rfl ?_
      refine dr_geti 4 hV dX2_reachWith_4 (by decide) (by decide) rfl rfl rfl u1 ?_
      refine dn_icmp_gt (tgt := 69) 7 hV dX2_reachWith_7 (by decide) (by omega) (by omega) (fun c7 => ?_) (fun c7 => ?_)
      · have hfe : f = sg_p s + 1 := by omega
        subst hfe
        exact dr_vret 69 hV dX2_reachWith_69 rfl ⟨rfl, hrw, hfr⟩
      · refine dr_iload_n 10 hV dX2_reachWith_10 rfl ?_
        refine dr_if_le (tgt := 35) 11 hV dX2_reachWith_11 (by decide) (fun c11 => ?_) (fun c11 => ?_)
        · have hf0 : f = 0 := by have := (nI_leI (by omega) (by decide)).mp (show nI f ≤ nI 0 from c11); omega
          subst hf0
          refine dr_iload_n 35 hV dX2_reachWith_35 rfl ?_
          refine dr_if_ne (tgt := 47) 36 hV dX2_reachWith_36 (by decide) (fun c36 => ?_) (fun c36 => ?_)
          · have hk0 : 0 < k := Nat.pos_of_ne_zero (fun z => c36 (by rw [z]; decide))
            obtain ⟨l1, l2, l3, l4⟩ := h2 0 (Nat.le_refl _) (Nat.zero_le _)
            refine dr_sub hV (ls2 := [(0, .inr (.inr 4)), (1, .inl (nI k)), (2, .inl (nI (0)))]) rfl ?_
            exact k47 P _ _ hS hM (fun _ _ _ => rfl) (fun _ _ _ _ => rfl) (sd_D.rf l1 (fun m => by rw [l3, pa_gk_0 hk0, pa_gk_0 (by omega)])) (Nat.zero_le _)
          · have hk0 : k = 0 := (nI_eq (by omega) (by decide)).mp (show nI k = nI 0 from c36)
            subst hk0
            obtain ⟨l1, l2, l3, l4⟩ := h2 0 (Nat.le_refl _) (Nat.zero_le _)
            refine dr_aload_n 39 hV dX2_reachWith_39 rfl ?_
            refine dr_iconst (v := nI 0) 40 hV dX2_reachWith_40 (by decide) ?_
            refine dr_bipush (v := nI 10) 41 hV dX2_reachWith_41 (by decide) ?_
            refine dr_lconst (v := lN 1) 43 hV dX2_reachWith_43 (by decide) ?_
            refine dr_cv3 44 hV dz_lX2_85 dX2_reachWith_44 (by decide) (by decide) ⟨by decide, _, _, rfl, by decide, rfl⟩ (Nat.le_of_ble_eq_true rfl) (c_X2_reach π (P := P) (f := 0) (m := 10) (n := 1) _ _ hM (by omega) (by decide) (fun z => l1.lt (by decide) (by decide) z) (by rw [l3, rw_gk0]; decide)) (fun r3 I3 J3 hf => ?_)
            obtain ⟨rfl, hM3, hF3, -⟩ := hf
            refine dr_sub hV (ls2 := [(0, .inr (.inr 4)), (1, .inl (nI 0)), (2, .inl (nI (0)))]) rfl ?_
            exact k47 _ _ _ (hS.fr (f := 0) (by omega) hF3) hM3 (fun j x hj => hF3 _ _ (by omega) (by omega)) (fun a b q1 q2 => hF3 a b (by omega) (by omega)) (((sd_D.rf l1 l3).rc (m := 10) (n := 1) (by decide) (by decide) (by decide)).cong (fun m => by rw [rw_gk0, pa_gk_0 (by omega), Nat.zero_add])) (Nat.zero_le _)
        · have hf0 : 0 < f := Nat.pos_of_ne_zero (fun z => c11 (by rw [z]; decide))
          obtain ⟨p, rfl⟩ : ∃ p, f = p + 1 := ⟨f - 1, by omega⟩
          have hl := h1 p (by omega) (by omega)
          obtain ⟨g1, g2, g3, g4, g5, g6⟩ := rw_pre hO hS (by omega) hl
          obtain ⟨l1, l2, l3, l4⟩ := h2 (p + 1) (Nat.le_refl _) c7
          have hbd : ∀ m, pa_S s p (P.2.1 p) (w (k + 1) p) (w k p) m ≤ 11 ^ 8 := fun m => by rw [g6]; exact pa_gk_le hO (by omega) m
          have hbd2 : ∀ m, pa_S s p (P.2.1 p) (w (k + 1) p) (rw_b w k p) m ≤ 11 ^ 8 := fun m => Nat.le_trans (pa_S_mono (Nat.le_refl _) g4) (hbd m)
          have r1 := (hl.2.2.2 (k + 1) (Nat.le_refl _)).1
          have r0 := (hl.2.2.2 k (by omega)).1
          refine dr_aload_n 14 hV dX2_reachWith_14 rfl ?_
          refine dr_iload_n 15 hV dX2_reachWith_15 rfl ?_
          refine dr_iload_n 16 hV dX2_reachWith_16 rfl ?_
          refine dr_iconst (v := nI 1) 17 hV dX2_reachWith_17 (by decide) ?_
          refine dr_isub (z := nI p) 18 hV dX2_reachWith_18 (by rw [pk_sub (by omega)]; rfl) ?_
          refine dr_cv2 19 hV dz_lX2_78 dX2_reachWith_19 (by decide) (by decide) ⟨by decide, _, _, rfl, by decide, rfl⟩ (Nat.le_of_ble_eq_true rfl) (c_X2_spreadDrums π _ _ hO hS hM (show p < sg_p s by omega) (by omega) g1 r1 r0 g3 l1 (fun m => (l3 m).trans (g5 m)) hbd2) (fun r3 I3 J3 hf => ?_)
          obtain ⟨rfl, hF3, P3, hM3, hD3⟩ := hf
          rcases Nat.eq_zero_or_pos k with hk0 | hk0
          · subst hk0
            refine dr_aload_n 22 hV dX2_reachWith_22 rfl ?_
            refine dr_iload_n 23 hV dX2_reachWith_23 rfl ?_
            refine dr_iconst (v := nI 1) 24 hV dX2_reachWith_24 (by decide) ?_
            refine dr_isub (z := (-1)) 25 hV dX2_reachWith_25 (by decide) ?_
            refine dr_iload_n 26 hV dX2_reachWith_26 rfl ?_
            refine dr_iconst (v := nI 1) 27 hV dX2_reachWith_27 (by decide) ?_
            refine dr_isub (z := nI p) 28 hV dX2_reachWith_28 (by rw [pk_sub (by omega)]; rfl) ?_
            refine dr_cv2 29 hV dz_lX2_82 dX2_reachWith_29 (by decide) (by decide) ⟨by decide, _, _, rfl, by decide, rfl⟩ (Nat.le_of_ble_eq_true rfl) (c_spreadNew_no π (-1) (nI p) _ _ (by decide)) (fun r4 I4 J4 hf4 => ?_)
            obtain ⟨rfl, rfl, rfl⟩ := hf4
            refine dr_goto (tgt := 47) 32 hV dX2_reachWith_32 (by decide) ?_
            refine dr_sub hV (ls2 := [(0, .inr (.inr 4)), (1, .inl (nI 0)), (2, .inl (nI (p + 1)))]) rfl ?_
            exact k47 P3 _ _ (hS.fr (by omega) hF3) hM3 (fun j x hj => hF3 _ _ (by omega) (by omega)) (fun a b q1 q2 => hF3 a b (by omega) (by omega)) (hD3.cong (fun m => by rw [← g6, rw_w0 hS (by omega) hl]; rfl)) c7
          · obtain ⟨k2, rfl⟩ : ∃ k2, k = k2 + 1 := ⟨k - 1, by omega⟩
            obtain ⟨q5a, q5, q5b⟩ := hD3.1 p (by omega)
            have q1 : sd_R s P3 p (w (k2 + 1) p) := ⟨g2.1, by rw [q5a]; exact g2.2.1, fun i hi => by rw [q5, q5b]; exact g2.2.2 i hi⟩
            have q2 : I3 (52 + (k2 + 1)) p = nI (w (k2 + 1) p) := by rw [hF3 _ _ (by omega) (by omega)]; exact r0
            have q3 : I3 (52 + k2) p = nI (rw_b w (k2 + 1) p) := by rw [hF3 _ _ (by omega) (by omega)]; exact (hl.2.2.2 k2 (by omega)).1
            refine dr_aload_n 22 hV dX2_reachWith_22 rfl ?_
            refine dr_iload_n 23 hV dX2_reachWith_23 rfl ?_
            refine dr_iconst (v := nI 1) 24 hV dX2_reachWith_24 (by decide) ?_
            refine dr_isub (z := nI k2) 25 hV dX2_reachWith_25 (by rw [pk_sub (by omega)]; rfl) ?_
            refine dr_iload_n 26 hV dX2_reachWith_26 rfl ?_
            refine dr_iconst (v := nI 1) 27 hV dX2_reachWith_27 (by decide) ?_
            refine dr_isub (z := nI p) 28 hV dX2_reachWith_28 (by rw [pk_sub (by omega)]; rfl) ?_
            refine dr_cv2 29 hV dz_lX2_82 dX2_reachWith_29 (by decide) (by decide) ⟨by decide, _, _, rfl, by decide, rfl⟩ (Nat.le_of_ble_eq_true rfl) (c_X2_spreadNew π _ _ hO (hS.fr (by omega) hF3) hM3 (show p < sg_p s by omega) (by omega) q1 q2 q3 g4 hD3.2.2.2.1 (fun m => by rw [hD3.2.2.2.2, q5]) (fun m => by rw [q5]; exact hbd m)) (fun r4 I4 J4 hf4 => ?_)
            obtain ⟨rfl, hF4, P4, hM4, hD4⟩ := hf4
            refine dr_goto (tgt := 47) 32 hV dX2_reachWith_32 (by decide) ?_
            refine dr_sub hV (ls2 := [(0, .inr (.inr 4)), (1, .inl (nI (k2 + 1))), (2, .inl (nI (p + 1)))]) rfl ?_
            exact k47 P4 _ _ ((hS.fr (by omega) hF3).fr (by omega) hF4) hM4 (fun j x hj => (hF4 _ _ (by omega) (by omega)).trans (hF3 _ _ (by omega) (by omega))) (fun a b q1 q2 => (hF4 a b (by omega) (by omega)).trans (hF3 a b (by omega) (by omega))) ((hD3.trans hD4).cong (fun m => by rw [q5, g6])) c7
  refine dr_iconst (v := nI 0) 0 hV dX2_reachWith_0 (by decide) ?_
  refine dr_istore_n 1 hV dX2_reachWith_1 (by decide) ?_
  refine dr_sub hV (ls2 := [(0, .inr (.inr 4)), (1, .inl (nI k)), (2, .inl (nI (0)))]) rfl ?_
  exact loop (sg_p s + 2) 0 I J (by omega) (Nat.zero_le _) hrw0 (fun _ _ _ _ => rfl)
