/-! the model's find, its outer loops, the first best way -/
def fi_A (s : dz_Sg) (I : dz_MI) (J : dz_MJ) (q : Nat) : Prop := ∀ p u l, p ≤ sg_p s → u < 2 ^ sg_n s → l < 11 → q ≤ p → I 18 (sg_ix p u l) = nI (sg_L s p u l) ∧ J 19 (sg_ix p u l) = lN (sg_M s p u l) ∧ J 20 (sg_ix p u l) = 0
theorem fi_A.toT {s : dz_Sg} {I : dz_MI} {J : dz_MJ} {q : Nat} (h : fi_A s I J (q + 1)) : fi_T s I J q (0 * 11) := fun p u l h1 h2 h3 h4 => h p u l h1 h2 h3 (by rcases h4 with z | ⟨z, z2⟩ <;> omega)
theorem fi_T.toA {s : dz_Sg} {I : dz_MI} {J : dz_MJ} {q : Nat} (h : fi_T s I J q (2 ^ sg_n s * 11)) : fi_A s I J q := fun p u l h1 h2 h3 h4 => h p u l h1 h2 h3 (by
  rcases Nat.lt_or_ge q p with z | z
  · exact Or.inl z
  · exact Or.inr ⟨by omega, by omega⟩)
def dz_dn (q : Nat) : Int32 := if q = 0 then -1 else nI (q - 1)
theorem dz_dn_s (q : Nat) : dz_dn (q + 1) = nI q := by unfold dz_dn; rw [if_neg (by omega)]; rfl
theorem dz_dn_dec (q : Nat) : nI q + Int32.ofInt (-1) = dz_dn q := by
  unfold dz_dn
  by_cases h : q = 0
  · subst h; decide
  · rw [if_neg h]
    obtain ⟨k, rfl⟩ : ∃ k, q = k + 1 := ⟨q - 1, by omega⟩
    exact pk_m1 k
theorem dz_fs_ex (P : Nat → Prop) (n : Nat) : ∃ k, (k < n ∧ P k ∧ ∀ j, j < k → ¬ P j) ∨ (k = n ∧ ∀ j, j < n → ¬ P j) := by
  by_cases hx : ∃ i, i < n ∧ dz_B (P i) = true
  · obtain ⟨i, hi, hc, hl⟩ := fb_first (p := fun i => dz_B (P i) = true) hx
    exact ⟨i, Or.inl ⟨hi, dz_Bt.mp hc, fun j hj q => hl j hj (dz_Bt.mpr q)⟩⟩
  · exact ⟨n, Or.inr ⟨rfl, fun j hj q => hx ⟨j, hj, dz_Bt.mpr q⟩⟩⟩
/-- the first k below n of which P holds, or n -/
noncomputable def dz_fs (P : Nat → Prop) (n : Nat) : Nat := Classical.choose (dz_fs_ex P n)
theorem dz_fs_c (P : Nat → Prop) (n : Nat) : (dz_fs P n < n ∧ P (dz_fs P n) ∧ ∀ j, j < dz_fs P n → ¬ P j) ∨ (dz_fs P n = n ∧ ∀ j, j < n → ¬ P j) := Classical.choose_spec (dz_fs_ex P n)
theorem dz_fs_eq {P : Nat → Prop} {n i : Nat} (hi : i < n) (hp : P i) (hl : ∀ j, j < i → ¬ P j) : dz_fs P n = i := by
  rcases dz_fs_c P n with h | h
  · rcases Nat.lt_trichotomy (dz_fs P n) i with q | q | q
    · exact absurd h.2.1 (hl _ q)
    · exact q
    · exact absurd hp (h.2.2 _ q)
  · exact absurd hp (h.2 _ hi)
theorem dz_fs_cong {P Q : Nat → Prop} {n : Nat} (h : ∀ k, k < n → (P k ↔ Q k)) : dz_fs P n = dz_fs Q n := by
  rcases dz_fs_c Q n with q | q
  · exact dz_fs_eq q.1 ((h _ q.1).mpr q.2.1) (fun j hj z => q.2.2 j hj ((h j (by omega)).mp z))
  · rcases dz_fs_c P n with r | r
    · exact absurd ((h _ r.1).mp r.2.1) (q.2 _ r.1)
    · rw [r.1, q.1]
/-- what lies under place p, and the drums used, in FIRST -/
noncomputable def sg_go (s : dz_Sg) : Nat → Nat × Nat
  | 0 => (0, 10)
  | p + 1 => (sg_nx (sg_go s p).1 (dz_fs (fun d => sg_best s p d (sg_go s p).1 (sg_go s p).2) 11), dz_fs (fun d => sg_best s p d (sg_go s p).1 (sg_go s p).2) 11)
noncomputable def sg_fw (s : dz_Sg) (p : Nat) : Nat := dz_fs (fun d => sg_best s p d (sg_go s p).1 (sg_go s p).2) 11
theorem sg_go_s (s : dz_Sg) (p : Nat) : sg_go s (p + 1) = (sg_nx (sg_go s p).1 (sg_fw s p), sg_fw s p) := rfl
theorem sg_best_ex {s : dz_Sg} {p u l : Nat} (h8 : sg_p s ≤ 8) (hp : p < sg_p s) (hv : sg_vl s u l) (h : ¬ sg_L s p u l = 1000) : ∃ d, d < 11 ∧ sg_best s p d u l := by
  obtain ⟨r, hr⟩ : ∃ r, sg_p s = p + (r + 1) := ⟨sg_p s - p - 1, by omega⟩
  have er : sg_p s - p = r + 1 := by omega
  have er2 : sg_p s - (r + 1) = p := by omega
  have hL := sg_L_v (p := p) (Or.inr hv)
  rw [er] at hL
  rcases dz_lo_c (sg_C s (r + 1) u l) with q | q
  · exact absurd (hL.trans q.1) h
  · obtain ⟨q1, q2, q3⟩ := q
    rw [sg_C_succ] at q2
    have hx : ∃ d, d < 11 ∧ sg_E s r u l d (dz_lo (sg_C s (r + 1) u l)) ≠ 0 := Classical.byContradiction fun hn => q2 (by
      have h0 : ∀ d, d < 11 → sg_E s r u l d (dz_lo (sg_C s (r + 1) u l)) = 0 := fun d hd => Classical.byContradiction fun z => hn ⟨d, hd, z⟩
      rw [fb_sm_cong h0, fb_sm_const])
    obtain ⟨d, hd, he⟩ := hx
    refine ⟨d, hd, ?_⟩
    have hok : sg_ok s (sg_p s - (r + 1)) d u l = true := by
      cases hz : sg_ok s (sg_p s - (r + 1)) d u l with
      | true => rfl
      | false => exact absurd (by unfold sg_E; rw [hz]; rfl) he
    obtain ⟨k1, k2⟩ := dz_Bt.mp hok
    rw [er2] at k2
    obtain ⟨f1, f2⟩ := fi_e hr h8 k1 hok
    have hlo : ¬ dz_lo (sg_E s r u l d) = 1000 := fun z => by
      rcases dz_lo_c (sg_E s r u l d) with w | w
      · exact he (w.2 _ q1)
      · omega
    have hne : ¬ sg_L s (p + 1) (sg_nx u d) d = 1000 := fun z => hlo (f1 z)
    refine ⟨k1, k2, hne, ?_⟩
    rw [← (f2 hne).1, hL]
    have a1 : dz_lo (sg_E s r u l d) ≤ dz_lo (sg_C s (r + 1) u l) := by
      rcases dz_lo_c (sg_E s r u l d) with w | w
      · exact absurd w.1 hlo
      · rcases Nat.lt_or_ge (dz_lo (sg_C s (r + 1) u l)) (dz_lo (sg_E s r u l d)) with z | z
        · exact absurd (w.2.2 _ z) he
        · exact z
    have a2 : dz_lo (sg_C s (r + 1) u l) ≤ dz_lo (sg_E s r u l d) := by
      rcases dz_lo_c (sg_E s r u l d) with w | w
      · exact absurd w.1 hlo
      · rcases Nat.lt_or_ge (dz_lo (sg_E s r u l d)) (dz_lo (sg_C s (r + 1) u l)) with z | z
        · have h0 := q3 _ z
          rw [sg_C_succ] at h0
          exact absurd (fb_sm_zero h0 d hd) w.2.1
        · exact z
    omega
/-- along FIRST -/
theorem sg_go_ok {s : dz_Sg} (h8 : sg_p s ≤ 8) (h : ¬ sg_L s 0 0 10 = 1000) : ∀ p, p ≤ sg_p s → (sg_go s p).1 < 2 ^ sg_n s ∧ sg_vl s (sg_go s p).1 (sg_go s p).2 ∧ ¬ sg_L s p (sg_go s p).1 (sg_go s p).2 = 1000
  | 0, _ => ⟨Nat.two_pow_pos _, Or.inl rfl, h⟩
  | p + 1, hp => by
    obtain ⟨h1, h2, h3⟩ := sg_go_ok h8 h p (by omega)
    obtain ⟨d, hd, hb⟩ := sg_best_ex h8 (by omega) h2 h3
    have hf : sg_fw s p < 11 ∧ sg_best s p (sg_fw s p) (sg_go s p).1 (sg_go s p).2 := by
      rcases dz_fs_c (fun d => sg_best s p d (sg_go s p).1 (sg_go s p).2) 11 with q | q
      · exact ⟨q.1, q.2.1⟩
      · exact absurd hb (q.2 d hd)
    rw [sg_go_s]
    exact ⟨sg_nx_lt h1 hf.2.1, sg_vl_nx hf.2.1, hf.2.2.2.1⟩
theorem sg_fw_ok {s : dz_Sg} (h8 : sg_p s ≤ 8) (h : ¬ sg_L s 0 0 10 = 1000) {p : Nat} (hp : p < sg_p s) : sg_fw s p < 11 ∧ sg_best s p (sg_fw s p) (sg_go s p).1 (sg_go s p).2 ∧ ∀ j, j < sg_fw s p → ¬ sg_best s p j (sg_go s p).1 (sg_go s p).2 := by
  obtain ⟨h1, h2, h3⟩ := sg_go_ok h8 h p (by omega)
  obtain ⟨d, hd, hb⟩ := sg_best_ex h8 hp h2 h3
  rcases dz_fs_c (fun d => sg_best s p d (sg_go s p).1 (sg_go s p).2) 11 with q | q
  · exact q
  · exact absurd hb (q.2 d hd)
theorem fi_A.L {s : dz_Sg} {I : dz_MI} {J : dz_MJ} (h : fi_A s I J 0) : fi_L s I := fun p u l h1 h2 h3 => (h p u l h1 h2 h3 (Nat.zero_le _)).1
set_option maxRecDepth 100000 in
set_option maxHeartbeats 4000000 in
theorem fi_u {π : dz_Pl} {post : Option dz_AV → dz_MI → dz_MJ → Prop} {V : dz_Vt} (hV : dz_Clo π dz_M 24 5 mX5_find 4 116 post V) {s : dz_Sg} {p : Nat} (hO : dz_OK s) (hp : p ≤ sg_p s) (K : ∀ I J, dz_RM s I → fi_T s I J p (2 ^ sg_n s * 11) → V 297 I J [(0, .inr (.inr 0)), (1, .inl (nI p))] []) : ∀ (fu u : Nat) (I : dz_MI) (J : dz_MJ), 2 ^ sg_n s < u + fu → u ≤ 2 ^ sg_n s → dz_RM s I → fi_T s I J p (u * 11) → V 16 I J [(0, .inr (.inr 0)), (1, .inl (nI p)), (2, .inl (nI (u)))] [] := by
  have hO2 := hO
  obtain ⟨o1, o2, o3, o4, o5, o6, o7, o8, o9⟩ := hO
  have hu2 := dz_pn o1
  intro fu
  induction fu with
  | zero => intro u I J h1 h2; exact absurd h1 (by omega)
  | succ fu ih =>
      intro u I J h1 h2 hR hT
      have m1 := hR.1
      refine dr_iload_n 16 hV dX5_find_16 rfl ?_
      refine dr_iconst (v := nI 1) 17 hV dX5_find_17 (by decide) ?_
      refine dr_aload_n 18 hV dX5_find_18 rfl ?_
      refine dr_geti 19 hV dX5_find_19 (by decide) (by decide) rfl rfl rfl m1 ?_
      refine dr_ishl (z := nI (2 ^ sg_n s)) 22 hV dX5_find_22 (dz_s1 (by omega)) ?_
      refine dn_icmp_ge (tgt := 297) 23 hV dX5_find_23 (by decide) (by omega) (by omega) (fun c23 => ?_) (fun c23 => ?_)
      · have hue : u = 2 ^ sg_n s := by omega
        subst hue
        refine dr_sub hV (ls2 := [(0, .inr (.inr 0)), (1, .inl (nI p))]) rfl ?_
        exact K I J hR hT
      · refine dr_iconst (v := nI 0) 26 hV dX5_find_26 (by decide) ?_
        refine dr_istore_n 27 hV dX5_find_27 (by decide) ?_
        refine dr_sub hV (ls2 := [(0, .inr (.inr 0)), (1, .inl (nI p)), (2, .inl (nI u)), (3, .inl (nI (0)))]) rfl ?_
        refine fi_l hV hO2 hp c23 (fun I2 J2 hR2 hT2 => ?_) 12 0 I J (by omega) (by omega) hR hT
        refine dr_iinc1 291 hV dX5_find_291 (by decide) rfl ?_
        refine dr_goto (tgt := 16) 294 hV dX5_find_294 (by decide) ?_
        refine dr_sub hV (ls2 := [(0, .inr (.inr 0)), (1, .inl (nI p)), (2, .inl (nI (u + 1)))]) rfl ?_
        exact ih (u + 1) _ _ (by omega) (by omega) hR2 (by rw [show (u + 1) * 11 = u * 11 + 11 by omega]; exact hT2)
set_option maxRecDepth 100000 in
set_option maxHeartbeats 4000000 in
theorem fi_p {π : dz_Pl} {post : Option dz_AV → dz_MI → dz_MJ → Prop} {V : dz_Vt} (hV : dz_Clo π dz_M 24 5 mX5_find 4 116 post V) {s : dz_Sg} (hO : dz_OK s) (K : ∀ I J, dz_RM s I → fi_A s I J 0 → V 303 I J [(0, .inr (.inr 0))] []) : ∀ (q : Nat) (I : dz_MI) (J : dz_MJ), q ≤ sg_p s + 1 → dz_RM s I → fi_A s I J q → V 10 I J [(0, .inr (.inr 0)), (1, .inl (dz_dn q))] [] := by
  have hO2 := hO
  obtain ⟨o1, o2, o3, o4, o5, o6, o7, o8, o9⟩ := hO
  intro q
  induction q with
  | zero =>
      intro I J h1 hR hT
      rw [show dz_dn 0 = (-1) from rfl]
      refine dr_iload_n 10 hV dX5_find_10 rfl ?_
      refine dr_if_lt (tgt := 303) 11 hV dX5_find_11 (by decide) (fun c11 => ?_) (fun c11 => ?_)
      · refine dr_sub hV (ls2 := [(0, .inr (.inr 0))]) rfl ?_
        exact K I J hR hT
      · exact absurd (by decide) c11
  | succ q ih =>
      intro I J h1 hR hT
      rw [dz_dn_s]
      refine dr_iload_n 10 hV dX5_find_10 rfl ?_
      refine dr_if_lt (tgt := 303) 11 hV dX5_find_11 (by decide) (fun c11 => ?_) (fun c11 => ?_)
      · exact absurd c11 (nI_pos (by omega))
      · refine dr_iconst (v := nI 0) 14 hV dX5_find_14 (by decide) ?_
        refine dr_istore_n 15 hV dX5_find_15 (by decide) ?_
        refine dr_sub hV (ls2 := [(0, .inr (.inr 0)), (1, .inl (nI q)), (2, .inl (nI 0))]) rfl ?_
        refine fi_u hV hO2 (by omega) (fun I2 J2 hR2 hT2 => ?_) (2 ^ sg_n s + 1) 0 I J (by omega) (Nat.zero_le _) hR hT.toT
        refine dr_iinc 297 hV dX5_find_297 (by decide) rfl (v2 := dz_dn q) (dz_dn_dec q) ?_
        refine dr_goto (tgt := 10) 300 hV dX5_find_300 (by decide) ?_
        refine dr_sub hV (ls2 := [(0, .inr (.inr 0)), (1, .inl (dz_dn q))]) rfl ?_
        exact ih _ _ (by omega) hR2 hT2.toA
theorem dz_bpt {P : Prop} (h : P) : nI 1 = dz_bp P := by rw [dz_bp, dz_b1 h]; rfl
theorem dz_bpf {P : Prop} (h : ¬ P) : nI 0 = dz_bp P := by rw [dz_bp, dz_bf h]; rfl
def fi_Post (s : dz_Sg) (r : Option dz_AV) (I : dz_MI) (J : dz_MJ) : Prop := r = some (.inl (dz_bp (¬ sg_L s 0 0 10 = 1000))) ∧ dz_RM s I ∧ fi_A s I J 0 ∧ (¬ sg_L s 0 0 10 = 1000 → ∀ p, p < sg_p s → I 22 p = nI (sg_fw s p))
theorem fi_A.w {s : dz_Sg} {I : dz_MI} {J : dz_MJ} {q c k : Nat} {x : Int32} (hc : ¬ c = 18) (h : fi_A s I J q) : fi_A s (dz_wi I c k x) J q := fun p u l h1 h2 h3 h4 => by
  rw [dz_wi_n I x (by omega)]; exact h p u l h1 h2 h3 h4
theorem dz_RM.w {s : dz_Sg} {I : dz_MI} {c k : Nat} {x : Int32} (hO : dz_OK s) (hc : 18 ≤ c ∨ (c = 0 ∧ k = 0)) (h : dz_RM s I) : dz_RM s (dz_wi I c k x) := dz_RM.agree hO h (fun c2 k2 h1 h2 => dz_wi_n I x (by omega))
set_option maxRecDepth 100000 in
set_option maxHeartbeats 4000000 in
theorem fi_w {π : dz_Pl} {post : Option dz_AV → dz_MI → dz_MJ → Prop} {V : dz_Vt} (hV : dz_Clo π dz_M 24 5 mX5_find 4 116 post V) {s : dz_Sg} {p : Nat} {I : dz_MI} {J : dz_MJ} (hO : dz_OK s) (hR : dz_RM s I) (hT : fi_A s I J 0) (hn : ¬ sg_L s 0 0 10 = 1000) (hp : p < sg_p s) (K : V 368 I J [(0, .inr (.inr 0)), (3, .inl (nI (sg_go s p).1)), (4, .inl (nI (sg_go s p).2)), (5, .inl (nI p)), (6, .inl (nI (sg_fw s p)))] []) : ∀ (fu d : Nat), sg_fw s p < d + fu → d ≤ sg_fw s p → V 348 I J [(0, .inr (.inr 0)), (3, .inl (nI (sg_go s p).1)), (4, .inl (nI (sg_go s p).2)), (5, .inl (nI p)), (6, .inl (nI (d)))] [] := by
  have hO2 := hO
  obtain ⟨o1, o2, o3, o4, o5, o6, o7, o8, o9⟩ := hO
  obtain ⟨g1, g2, g3⟩ := sg_go_ok o3 hn p (by omega)
  obtain ⟨w1, w2, w3⟩ := sg_fw_ok o3 hn hp
  have g2b : (sg_go s p).2 = 10 ∨ (sg_go s p).2 < sg_n s := g2.elim Or.inl (fun z => Or.inr z.1)
  intro fu
  induction fu with
  | zero => intro d h1 h2; exact absurd h1 (by omega)
  | succ fu ih =>
      intro d h1 h2
      refine dr_aload_n 348 hV dX5_find_348 rfl ?_
      refine dr_iload 349 hV dX5_find_349 rfl ?_
      refine dr_iload 351 hV dX5_find_351 rfl ?_
      refine dr_iload_n 353 hV dX5_find_353 rfl ?_
      refine dr_iload 354 hV dX5_find_354 rfl ?_
      refine dr_cvp4 356 hV dz_lX5_155 dX5_find_356 (by decide) (by decide) ⟨by decide, _, _, rfl, by decide, rfl⟩ (Nat.le_of_ble_eq_true rfl) (c_X5_isBest π _ _ hO2 hR hT.L hp (by omega) g1 g2b) ?_
      first | refine dr_ifb_ne (tgt := 368) 359 hV dX5_find_359 (by decide) (fun c359 => ?_) (fun c359 => ?_) | refine dr_if_ne (tgt := 368) 359 hV dX5_find_359 (by decide) (fun c359 => ?_) (fun c359 => ?_)
      · have hde : d = sg_fw s p := by
          rcases Nat.lt_or_ge d (sg_fw s p) with z | z
          · exact absurd c359 (w3 d z)
          · omega
        subst hde
        refine dr_sub hV (ls2 := [(0, .inr (.inr 0)), (3, .inl (nI (sg_go s p).1)), (4, .inl (nI (sg_go s p).2)), (5, .inl (nI p)), (6, .inl (nI (sg_fw s p)))]) rfl ?_
        exact K
      · have hdl : d < sg_fw s p := by
          rcases Nat.lt_or_ge d (sg_fw s p) with z | z
          · exact z
          · exact absurd (by rw [show d = sg_fw s p by omega]; exact w2) c359
        refine dr_iinc1 362 hV dX5_find_362 (by decide) rfl ?_
        refine dr_goto (tgt := 348) 365 hV dX5_find_365 (by decide) ?_
        refine dr_sub hV (ls2 := [(0, .inr (.inr 0)), (3, .inl (nI (sg_go s p).1)), (4, .inl (nI (sg_go s p).2)), (5, .inl (nI p)), (6, .inl (nI (d + 1)))]) rfl ?_
        exact ih (d + 1) (by omega) (by omega)
set_option maxRecDepth 100000 in
set_option maxHeartbeats 4000000 in
theorem fi_g {π : dz_Pl} {post : Option dz_AV → dz_MI → dz_MJ → Prop} {V : dz_Vt} (hV : dz_Clo π dz_M 24 5 mX5_find 4 116 post V) {s : dz_Sg} (hO : dz_OK s) (hn : ¬ sg_L s 0 0 10 = 1000) {J : dz_MJ} (hpost : ∀ {r I}, fi_Post s r I J → post r I J) : ∀ (fu p : Nat) (I : dz_MI), sg_p s < p + fu → p ≤ sg_p s → dz_RM s I → fi_A s I J 0 → (∀ q, q < p → I 22 q = nI (sg_fw s q)) → V 336 I J [(0, .inr (.inr 0)), (3, .inl (nI (sg_go s p).1)), (4, .inl (nI (sg_go s p).2)), (5, .inl (nI (p)))] [] := by
  have hO2 := hO
  obtain ⟨o1, o2, o3, o4, o5, o6, o7, o8, o9⟩ := hO
  intro fu
  induction fu with
  | zero => intro p I h1 h2; exact absurd h1 (by omega)
  | succ fu ih =>
      intro p I h1 h2 hR hT hF
      have m3 := hR.2.2.1
      refine dr_iload 336 hV dX5_find_336 rfl ?_
      refine dr_aload_n 338 hV dX5_find_338 rfl ?_
      refine dr_geti 339 hV dX5_find_339 (by decide) (by decide) rfl rfl rfl m3 ?_
      refine dn_icmp_ge (tgt := 401) 342 hV dX5_find_342 (by decide) (by omega) (by omega) (fun c342 => ?_) (fun c342 => ?_)
      · have hpe : p = sg_p s := by omega
        subst hpe
        refine dr_iconst (v := nI 1) 401 hV dX5_find_401 (by decide) ?_
        exact dr_iret 402 hV dX5_find_402 rfl (by first | rfl | exact dz_bn) (hpost ⟨by rw [← dz_bpt hn], hR, hT, fun _ => hF⟩)
      · refine dr_iconst (v := nI 0) 345 hV dX5_find_345 (by decide) ?_
        refine dr_istore 346 hV dX5_find_346 (by decide) ?_
        refine dr_sub hV (ls2 := [(0, .inr (.inr 0)), (3, .inl (nI (sg_go s p).1)), (4, .inl (nI (sg_go s p).2)), (5, .inl (nI p)), (6, .inl (nI (0)))]) rfl ?_
        obtain ⟨w1, w2, w3⟩ := sg_fw_ok o3 hn c342
        refine fi_w hV hO2 hR hT hn c342 ?_ (sg_fw s p + 1) 0 (by omega) (Nat.zero_le _)
        refine dr_aload_n 368 hV dX5_find_368 rfl ?_
        refine dr_geta 369 hV dX5_find_369 (by decide) (by decide) rfl rfl rfl ?_
        refine dr_iload 372 hV dX5_find_372 rfl ?_
        refine dr_iload 374 hV dX5_find_374 rfl ?_
        refine dr_iast 376 hV dX5_find_376 (by decide) rfl rfl (by omega) (by decide) ?_
        refine dr_iload 377 hV dX5_find_377 rfl ?_
        refine dr_bipush (v := nI 10) 379 hV dX5_find_379 (by decide) ?_
        refine dn_icmp_eq (tgt := 391) 381 hV dX5_find_381 (by decide) (by omega) (by omega) (fun c381 => ?_) (fun c381 => ?_)
        · refine dr_iload 391 hV dX5_find_391 rfl ?_
          refine dr_istore 393 hV dX5_find_393 (by decide) ?_
          refine dr_iinc1 395 hV dX5_find_395 (by decide) rfl ?_
          refine dr_goto (tgt := 336) 398 hV dX5_find_398 (by decide) ?_
          refine dr_sub hV (ls2 := [(0, .inr (.inr 0)), (3, .inl (nI (sg_go s (p + 1)).1)), (4, .inl (nI (sg_go s (p + 1)).2)), (5, .inl (nI (p + 1)))]) ?_ ?_
          · rw [sg_go_s]; simp only [sg_nx, c381]; rfl
          refine ih (p + 1) _ (by omega) (by omega) (hR.w hO2 (Or.inl (by decide))) (hT.w (by decide)) (fun q hq => ?_)
          rcases Nat.lt_or_ge q p with z | z
          · rw [dz_wi_n _ _ (by omega)]; exact hF q z
          · rw [show q = p by omega, dz_wi_s]
        · refine dr_iload_n 384 hV dX5_find_384 rfl ?_
          refine dr_iconst (v := nI 1) 385 hV dX5_find_385 (by decide) ?_
          refine dr_iload 386 hV dX5_find_386 rfl ?_
          refine dr_ishl (z := nI (2 ^ sg_fw s p)) 388 hV dX5_find_388 (dz_s1 (by omega)) ?_
          refine dr_ior (z := nI ((sg_go s p).1 ||| 2 ^ sg_fw s p)) 389 hV dX5_find_389 (fa_or _ _) ?_
          refine dr_istore_n 390 hV dX5_find_390 (by decide) ?_
          refine dr_iload 391 hV dX5_find_391 rfl ?_
          refine dr_istore 393 hV dX5_find_393 (by decide) ?_
          refine dr_iinc1 395 hV dX5_find_395 (by decide) rfl ?_
          refine dr_goto (tgt := 336) 398 hV dX5_find_398 (by decide) ?_
          refine dr_sub hV (ls2 := [(0, .inr (.inr 0)), (3, .inl (nI (sg_go s (p + 1)).1)), (4, .inl (nI (sg_go s (p + 1)).2)), (5, .inl (nI (p + 1)))]) ?_ ?_
          · rw [sg_go_s]; simp only [sg_nx, if_neg c381]; rfl
          refine ih (p + 1) _ (by omega) (by omega) (hR.w hO2 (Or.inl (by decide))) (hT.w (by decide)) (fun q hq => ?_)
          rcases Nat.lt_or_ge q p with z | z
          · rw [dz_wi_n _ _ (by omega)]; exact hF q z
          · rw [show q = p by omega, dz_wi_s]
set_option maxRecDepth 100000 in
set_option maxHeartbeats 4000000 in
theorem c_X5_find (π : dz_Pl) {s : dz_Sg} (I : dz_MI) (J : dz_MJ) (hO : dz_OK s) (hR : dz_RM s I) : dz_Cl π dz_M 24 mX5_find 4 116 [.inr (.inr 0)] I J (fi_Post s) := by
  refine dz_body (own := 5) dz_mX5_find rfl (Nat.le_of_ble_eq_true rfl) (fun V hV => ?_)
  have hO2 := hO
  obtain ⟨o1, o2, o3, o4, o5, o6, o7, o8, o9⟩ := hO
  have m3 := hR.2.2.1
  have hle := sg_L_le s 0 0 10
  refine dr_aload_n 0 hV dX5_find_0 rfl ?_
  refine dr_iconst (v := nI 0) 1 hV dX5_find_1 (by decide) ?_
  refine dr_puti 2 hV dX5_find_2 (by decide) (by decide) rfl rfl rfl rfl rfl rfl ?_
  refine dr_aload_n 5 hV dX5_find_5 rfl ?_
  refine dr_geti (v := nI (sg_p s)) 6 hV dX5_find_6 (by decide) (by decide) rfl rfl rfl (by rw [dz_wi_n _ _ (by omega)]; exact m3) ?_
  refine dr_istore_n 9 hV dX5_find_9 (by decide) ?_
  refine dr_sub hV (ls2 := [(0, .inr (.inr 0)), (1, .inl (dz_dn (sg_p s + 1)))]) (by rw [dz_dn_s]; rfl) ?_
  refine fi_p hV hO2 (fun I2 J2 hR2 hT2 => ?_) (sg_p s + 1) _ _ (Nat.le_refl _) (hR.w hO2 (Or.inr ⟨rfl, rfl⟩)) (fun p u l h1 h2 h3 h4 => absurd h1 (by omega))
  refine dr_iconst (v := nI 0) 303 hV dX5_find_303 (by decide) ?_
  refine dr_iconst (v := nI 0) 304 hV dX5_find_304 (by decide) ?_
  refine dr_bipush (v := nI 10) 305 hV dX5_find_305 (by decide) ?_
  refine dr_csp3 307 hV (Or.inl dz_lX5_144) dX5_find_307 (by decide) (by decide) (Nat.le_of_ble_eq_true rfl) (c_index π _ _ 0 0 10 _ _) ?_
  refine dr_istore_n 310 hV dX5_find_310 (by decide) ?_
  refine dr_aload_n 311 hV dX5_find_311 rfl ?_
  refine dr_geta 312 hV dX5_find_312 (by decide) (by decide) rfl rfl rfl ?_
  refine dr_iload_n 315 hV dX5_find_315 rfl ?_
  refine dr_iald 316 hV dX5_find_316 (by decide) rfl rfl (by decide) (by decide) (hT2 0 0 10 (Nat.zero_le _) (Nat.two_pow_pos _) (by decide) (Nat.le_refl _)).1 ?_
  refine dr_sipush (v := nI 1000) 317 hV dX5_find_317 (by decide) ?_
  refine dn_icmp_lt (tgt := 325) 320 hV dX5_find_320 (by decide) (by omega) (by omega) (fun c320 => ?_) (fun c320 => ?_)
  · have hn : ¬ sg_L s 0 0 10 = 1000 := by omega
    refine dr_iload_n 325 hV dX5_find_325 rfl ?_
    refine dr_istore_n 326 hV dX5_find_326 (by decide) ?_
    refine dr_iconst (v := nI 0) 327 hV dX5_find_327 (by decide) ?_
    refine dr_istore_n 328 hV dX5_find_328 (by decide) ?_
    refine dr_bipush (v := nI 10) 329 hV dX5_find_329 (by decide) ?_
    refine dr_istore 331 hV dX5_find_331 (by decide) ?_
    refine dr_iconst (v := nI 0) 333 hV dX5_find_333 (by decide) ?_
    refine dr_istore 334 hV dX5_find_334 (by decide) ?_
    refine dr_sub hV (ls2 := [(0, .inr (.inr 0)), (3, .inl (nI (sg_go s 0).1)), (4, .inl (nI (sg_go s 0).2)), (5, .inl (nI (0)))]) rfl ?_
    exact fi_g hV hO2 hn (fun h => h) (sg_p s + 1) 0 _ (by omega) (Nat.zero_le _) hR2 hT2 (fun q hq => absurd hq (by omega))
  · refine dr_iconst (v := nI 0) 323 hV dX5_find_323 (by decide) ?_
    exact dr_iret 324 hV dX5_find_324 rfl (by first | rfl | exact dz_bn) ⟨by rw [← dz_bpf (show ¬ ¬ sg_L s 0 0 10 = 1000 by omega)], hR2, hT2, fun z => absurd (by omega) z⟩
