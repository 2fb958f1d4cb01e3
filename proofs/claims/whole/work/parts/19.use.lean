/-! the model's use -/
theorem sg_ix_y (p u l : Nat) : sg_ix p u l = 11264 * p + (u * 11 + l) := by unfold sg_ix; omega
noncomputable def us_t (s : dz_Sg) (p i d : Nat) : Nat := if sg_bb s p i d = true then sg_Ld s p i * sg_Mm s (p + 1) (sg_mx i d) else 0
noncomputable def us_e (s : dz_Sg) (p i d m : Nat) : Nat := if (sg_bb s p i d && decide (sg_mx i d = m)) = true then sg_Ld s p i else 0
noncomputable def us_A (s : dz_Sg) (p m d : Nat) : Nat → Nat := fun j => fb_sm (fun i => us_t s p i j) m + (if j < d then us_t s p m j else 0)
noncomputable def us_B (s : dz_Sg) (p m d : Nat) : Nat → Nat := fun j => fb_sm (fun i => fb_sm (fun d => us_e s p i d j) 11) m + fb_sm (fun d => us_e s p m d j) d
theorem us_A_s (s : dz_Sg) (p m d : Nat) : us_A s p m (d + 1) = fun j => if j = d then us_A s p m d j + us_t s p m d else us_A s p m d j := by
  funext j
  unfold us_A
  by_cases h : j = d
  · subst h; simp
  · by_cases h2 : j < d
    · simp [h, h2, Nat.lt_succ_of_lt h2]
    · simp [h, h2, show ¬ j < d + 1 by omega]
theorem us_B_s (s : dz_Sg) (p m d : Nat) : us_B s p m (d + 1) = fun j => if j = sg_mx m d then us_B s p m d j + us_e s p m d (sg_mx m d) else us_B s p m d j := by
  funext j
  show _ + fb_sm (fun d => us_e s p m d j) (d + 1) = _
  rw [fb_sm_succ]
  by_cases h : j = sg_mx m d
  · subst h; rw [if_pos rfl]; unfold us_B; omega
  · rw [if_neg h]
    have : us_e s p m d j = 0 := by unfold us_e; simp [Ne.symm h]
    rw [this]; unfold us_B; omega
theorem us_A_n {s : dz_Sg} {p m d : Nat} (h : us_t s p m d = 0) : us_A s p m (d + 1) = us_A s p m d := by
  rw [us_A_s]; funext j; split <;> omega
theorem us_B_n {s : dz_Sg} {p m d : Nat} (h : us_e s p m d (sg_mx m d) = 0) : us_B s p m (d + 1) = us_B s p m d := by
  rw [us_B_s]; funext j; split <;> omega
theorem us_A_m (s : dz_Sg) (p m : Nat) {j : Nat} (hj : j < 11) : us_A s p m 11 j = us_A s p (m + 1) 0 j := by
  unfold us_A; rw [if_pos hj, if_neg (by omega), fb_sm_succ]; rfl
theorem us_B_m (s : dz_Sg) (p m : Nat) : us_B s p m 11 = us_B s p (m + 1) 0 := by
  funext j; unfold us_B; rw [fb_sm_succ]; rfl
theorem us_0 {s : dz_Sg} {p m : Nat} (h : sg_Ld s p m = 0) : (∀ d, us_t s p m d = 0) ∧ ∀ d j, us_e s p m d j = 0 := by
  refine ⟨fun d => ?_, fun d j => ?_⟩
  · unfold us_t; split
    · rw [h, Nat.zero_mul]
    · rfl
  · unfold us_e; split
    · exact h
    · rfl
theorem us_AB_0 {s : dz_Sg} {p m : Nat} (h : sg_Ld s p m = 0) : us_A s p m 0 = us_A s p (m + 1) 0 ∧ us_B s p m 0 = us_B s p (m + 1) 0 := by
  obtain ⟨h1, h2⟩ := us_0 h
  refine ⟨funext fun j => ?_, funext fun j => ?_⟩
  · unfold us_A; rw [fb_sm_succ, h1]; simp
  · have h0 : fb_sm (fun d => us_e s p m d j) 11 = 0 := by rw [fb_sm_cong (g := fun _ => 0) (fun d _ => h2 d j), fb_sm_const]
    show fb_sm (fun i => fb_sm (fun d => us_e s p i d j) 11) m + 0 = fb_sm (fun i => fb_sm (fun d => us_e s p i d j) 11) (m + 1) + 0
    rw [fb_sm_succ, h0]
def us_I (s : dz_Sg) (J0 J : dz_MJ) (p : Nat) (A B : Nat → Nat) : Prop := (∀ m, m < 2 ^ sg_n s * 11 → J 20 (11264 * p + m) = lN (sg_Ld s p m)) ∧ (∀ m, m < 2 ^ sg_n s * 11 → J 20 (11264 * (p + 1) + m) = lN (B m)) ∧ (∀ q m, p + 1 < q → q ≤ sg_p s → m < 2 ^ sg_n s * 11 → J 20 (11264 * q + m) = 0) ∧ (∀ q d, q < p → d < 11 → J 21 (11 * q + d) = lN (sg_US s q d)) ∧ (∀ d, d < 11 → J 21 (11 * p + d) = lN (A d)) ∧ (∀ q d, p < q → q < 8 → d < 11 → J 21 (11 * q + d) = 0) ∧ ∀ k, J 19 k = J0 19 k
theorem us_I.cong {s : dz_Sg} {J0 J : dz_MJ} {p : Nat} {A A2 B B2 : Nat → Nat} (h : us_I s J0 J p A B) (hA : ∀ d, d < 11 → A d = A2 d) (hB : B = B2) : us_I s J0 J p A2 B2 := by
  obtain ⟨h1, h2, h3, h4, h5, h6, h7⟩ := h
  subst hB
  exact ⟨h1, h2, h3, h4, fun d hd => by rw [← hA d hd]; exact h5 d hd, h6, h7⟩
theorem us_I.put {s : dz_Sg} {J0 J : dz_MJ} {p mt d x y : Nat} {A B : Nat → Nat} (hn : sg_n s ≤ 10) (h : us_I s J0 J p A B) (hm : mt < 2 ^ sg_n s * 11) (hd : d < 11) :
    us_I s J0 (dz_wj (dz_wj J 20 (11264 * (p + 1) + mt) (lN (B mt + x))) 21 (11 * p + d) (lN (A d + y))) p (fun j => if j = d then A j + y else A j) (fun j => if j = mt then B j + x else B j) := by
  have e10 := dz_pn hn
  obtain ⟨h1, h2, h3, h4, h5, h6, h7⟩ := h
  refine ⟨fun m hm2 => ?_, fun m hm2 => ?_, fun q m hq hq2 hm2 => ?_, fun q j hq hj => ?_, fun j hj => ?_, fun q j hq hq2 hj => ?_, fun k => ?_⟩
  · rw [dz_wj_n _ _ (by omega), dz_wj_n _ _ (by omega)]; exact h1 m hm2
  · rw [dz_wj_n _ _ (by omega)]
    by_cases e : m = mt
    · subst e; rw [dz_wj_s]; simp
    · rw [dz_wj_n _ _ (by omega)]; simp only [if_neg e]; exact h2 m hm2
  · rw [dz_wj_n _ _ (by omega), dz_wj_n _ _ (by omega)]; exact h3 q m hq hq2 hm2
  · rw [dz_wj_n _ _ (by omega), dz_wj_n _ _ (by omega)]; exact h4 q j hq hj
  · by_cases e : j = d
    · subst e; rw [dz_wj_s]; simp
    · rw [dz_wj_n _ _ (by omega), dz_wj_n _ _ (by omega)]; simp only [if_neg e]; exact h5 j hj
  · rw [dz_wj_n _ _ (by omega), dz_wj_n _ _ (by omega)]; exact h6 q j hq hq2 hj
  · rw [dz_wj_n _ _ (by omega), dz_wj_n _ _ (by omega)]; exact h7 k
theorem us_I.next {s : dz_Sg} {J0 J : dz_MJ} {p : Nat} (hp : p < sg_p s) (h8 : sg_p s ≤ 8) (h : us_I s J0 J p (us_A s p (2 ^ sg_n s * 11) 0) (us_B s p (2 ^ sg_n s * 11) 0)) : (p + 1 < sg_p s → us_I s J0 J (p + 1) (us_A s (p + 1) 0 0) (us_B s (p + 1) 0 0)) ∧ (∀ q d, q < p + 1 → d < 11 → J 21 (11 * q + d) = lN (sg_US s q d)) ∧ ∀ k, J 19 k = J0 19 k := by
  obtain ⟨h1, h2, h3, h4, h5, h6, h7⟩ := h
  have hu : ∀ q d, q < p + 1 → d < 11 → J 21 (11 * q + d) = lN (sg_US s q d) := fun q d hq hd => by
    rcases Nat.lt_or_ge q p with z | z
    · exact h4 q d z hd
    · rw [show q = p by omega, h5 d hd]
      rfl
  refine ⟨fun hp2 => ⟨fun m hm => ?_, fun m hm => ?_, fun q m hq hq2 hm => h3 q m (by omega) hq2 hm, hu, fun d hd => ?_, fun q d hq hq2 hd => h6 q d (by omega) hq2 hd, h7⟩, hu, h7⟩
  · rw [h2 m hm]; rfl
  · rw [h3 (p + 2) m (by omega) (by omega) hm]; rfl
  · rw [h6 (p + 1) d (by omega) (by omega) hd]; rfl
theorem lg_p {n : Nat} (h : 0 < n) (h2 : n < 2 ^ 62) : lg_cmp (lN n) (lN 0) = 1 := by
  unfold lg_cmp
  rw [if_pos ((pk_lLT (by decide) (by omega)).mpr h)]
theorem lg_z : lg_cmp (lN 0) (lN 0) = 0 := by decide
set_option maxRecDepth 100000 in
set_option maxHeartbeats 4000000 in
theorem us_d {π : dz_Pl} {post : Option dz_AV → dz_MI → dz_MJ → Prop} {V : dz_Vt} (hV : dz_Clo π dz_M 24 5 mX5_use 4 116 post V) {s : dz_Sg} {I : dz_MI} {J0 : dz_MJ} {p u l : Nat} (hO : dz_OK s) (hR : dz_RM s I) (hT : fi_L s I) (hA : fi_A s I J0 0) (hp : p < sg_p s) (hu : u < 2 ^ sg_n s) (hl : l = 10 ∨ l < sg_n s) (hpos : 0 < sg_Ld s p (u * 11 + l)) (hle : sg_Ld s p (u * 11 + l) ≤ 11 ^ 8) (K : ∀ J, us_I s J0 J p (us_A s p (u * 11 + l) 11) (us_B s p (u * 11 + l) 11) → V 164 I J [(0, .inr (.inr 0)), (1, .inl (nI p)), (2, .inl (nI u)), (3, .inl (nI (l)))] []) : ∀ (fu d : Nat) (J : dz_MJ), 11 < d + fu → d ≤ 11 → us_I s J0 J p (us_A s p (u * 11 + l) d) (us_B s p (u * 11 + l) d) → V 80 I J [(0, .inr (.inr 0)), (1, .inl (nI p)), (2, .inl (nI u)), (3, .inl (nI l)), (4, .inr (.inl (lN (sg_Ld s p (u * 11 + l))))), (6, .inl (nI (d)))] [] := by
  have hO2 := hO
  obtain ⟨o1, o2, o3, o4, o5, o6, o7, o8, o9⟩ := hO
  have hu2 := dz_pn o1
  have hm : u * 11 + l < 2 ^ sg_n s * 11 := by omega
  have hdiv : (u * 11 + l) / 11 = u := by omega
  have hmod : (u * 11 + l) % 11 = l := by omega
  intro fu
  induction fu with
  | zero => intro d J h1 h2; exact absurd h1 (by omega)
  | succ fu ih =>
      intro d J h1 h2 hU
      have hbb : sg_bb s p (u * 11 + l) d = true ↔ sg_best s p d u l := by unfold sg_bb; rw [hdiv, hmod]; exact dz_Bt
      refine dr_iload 80 hV dX5_use_80 rfl ?_
      refine dr_bipush (v := nI 10) 82 hV dX5_use_82 (by decide) ?_
      refine dn_icmp_gt (tgt := 164) 84 hV dX5_use_84 (by decide) (by omega) (by omega) (fun c84 => ?_) (fun c84 => ?_)
      · have hd11 : d = 11 := by omega
        subst hd11
        refine dr_sub hV (ls2 := [(0, .inr (.inr 0)), (1, .inl (nI p)), (2, .inl (nI u)), (3, .inl (nI (l)))]) rfl ?_
        exact K J hU
      · refine dr_lload 87 hV dX5_use_87 rfl ?_
        refine dr_lconst (v := lN 0) 89 hV dX5_use_89 (by decide) ?_
        refine dr_lcmp 90 hV dX5_use_90 ?_
        refine dr_if_le (tgt := 164) 91 hV dX5_use_91 (by decide) (fun c91 => ?_) (fun c91 => ?_)
        · rw [lg_p hpos (by omega)] at c91; exact absurd c91 (by decide)
        · refine dr_aload_n 94 hV dX5_use_94 rfl ?_
          refine dr_iload_n 95 hV dX5_use_95 rfl ?_
          refine dr_iload 96 hV dX5_use_96 rfl ?_
          refine dr_iload_n 98 hV dX5_use_98 rfl ?_
          refine dr_iload_n 99 hV dX5_use_99 rfl ?_
          refine dr_cvp4 100 hV dz_lX5_155 dX5_use_100 (by decide) (by decide) ⟨by decide, _, _, rfl, by decide, rfl⟩ (Nat.le_of_ble_eq_true rfl) (c_X5_isBest π _ _ hO2 hR hT hp (by omega) hu hl) ?_
          first | refine dr_ifb_ne (tgt := 109) 103 hV dX5_use_103 (by decide) (fun c103 => ?_) (fun c103 => ?_) | refine dr_if_ne (tgt := 109) 103 hV dX5_use_103 (by decide) (fun c103 => ?_) (fun c103 => ?_)
          · have hb2 : sg_bb s p (u * 11 + l) d = true := hbb.mpr c103
            have hmt := sg_mx_lt hm (show d < 11 by omega) hb2
            have et : us_t s p (u * 11 + l) d = sg_Ld s p (u * 11 + l) * sg_M s (p + 1) (sg_nx u d) d := by unfold us_t sg_Mm; rw [if_pos hb2, (sg_mx_d (by omega)).1, (sg_mx_d (by omega)).2, hdiv]
            have ee : us_e s p (u * 11 + l) d (sg_mx (u * 11 + l) d) = sg_Ld s p (u * 11 + l) := by unfold us_e; simp [hb2]
            have eix : sg_ix (p + 1) (sg_nx u d) d = 11264 * (p + 1) + sg_mx (u * 11 + l) d := by rw [sg_ix_y]; unfold sg_mx; rw [hdiv]
            have hixl := sg_ix_lt (p := p + 1) (u := sg_nx u d) (l := d) (by omega) (Nat.lt_of_lt_of_le (sg_nx_lt hu c103.1) hu2) (by omega)
            refine dr_aload_n 109 hV dX5_use_109 rfl ?_
            refine dr_geta 110 hV dX5_use_110 (by decide) (by decide) rfl rfl rfl ?_
            refine dr_aload_n 113 hV dX5_use_113 rfl ?_
            refine dr_iload_n 114 hV dX5_use_114 rfl ?_
            refine dr_iload 115 hV dX5_use_115 rfl ?_
            refine dr_iload_n 117 hV dX5_use_117 rfl ?_
            refine dr_cvp3 118 hV dz_lX5_152 dX5_use_118 (by decide) (by decide) ⟨by decide, _, _, rfl, by decide, rfl⟩ (Nat.le_of_ble_eq_true rfl) (c_behind π p d u _ _ (by omega)) ?_
            refine dr_dup2 121 hV dX5_use_121 rfl rfl ?_
            refine dr_lald (k := sg_ix (p + 1) (sg_nx u d) d) (v := lN (us_B s p (u * 11 + l) d (sg_mx (u * 11 + l) d))) 122 hV dX5_use_122 (by decide) rfl rfl hixl (by decide) (by rw [eix]; exact hU.2.1 _ hmt) ?_
            refine dr_lload 123 hV dX5_use_123 rfl ?_
            refine dr_ladd (z := lN (us_B s p (u * 11 + l) d (sg_mx (u * 11 + l) d) + sg_Ld s p (u * 11 + l))) 125 hV dX5_use_125 (lN_add _ _) ?_
            refine dr_last (k := 11264 * (p + 1) + sg_mx (u * 11 + l) d) 126 hV dX5_use_126 (by decide) rfl (by rw [eix]) (by rw [← eix]; exact hixl) (by decide) ?_
            refine dr_aload_n 127 hV dX5_use_127 rfl ?_
            refine dr_geta 128 hV dX5_use_128 (by decide) (by decide) rfl rfl rfl ?_
            refine dr_bipush (v := nI 11) 131 hV dX5_use_131 (by decide) ?_
            refine dr_iload_n 133 hV dX5_use_133 rfl ?_
            refine dr_imul (z := nI (11 * p)) 134 hV dX5_use_134 (pk_mul _ _) ?_
            refine dr_iload 135 hV dX5_use_135 rfl ?_
            refine dr_iadd (z := nI (11 * p + d)) 137 hV dX5_use_137 (nI_add _ _) ?_
            refine dr_dup2 138 hV dX5_use_138 rfl rfl ?_
            refine dr_lald (v := lN (us_A s p (u * 11 + l) d d)) 139 hV dX5_use_139 (by decide) rfl rfl (by omega) (by decide) (by rw [dz_wj_n _ _ (by omega)]; exact hU.2.2.2.2.1 d (by omega)) ?_
            refine dr_lload 140 hV dX5_use_140 rfl ?_
            refine dr_aload_n 142 hV dX5_use_142 rfl ?_
            refine dr_geta 143 hV dX5_use_143 (by decide) (by decide) rfl rfl rfl ?_
            refine dr_aload_n 146 hV dX5_use_146 rfl ?_
            refine dr_iload_n 147 hV dX5_use_147 rfl ?_
            refine dr_iload 148 hV dX5_use_148 rfl ?_
            refine dr_iload_n 150 hV dX5_use_150 rfl ?_
            refine dr_cvp3 151 hV dz_lX5_152 dX5_use_151 (by decide) (by decide) ⟨by decide, _, _, rfl, by decide, rfl⟩ (Nat.le_of_ble_eq_true rfl) (c_behind π p d u _ _ (by omega)) ?_
            refine dr_lald (v := lN (sg_M s (p + 1) (sg_nx u d) d)) 154 hV dX5_use_154 (by decide) rfl rfl hixl (by decide) (by rw [dz_wj_n _ _ (by omega), hU.2.2.2.2.2.2]; exact (hA (p + 1) (sg_nx u d) d (by omega) (sg_nx_lt hu c103.1) (by omega) (Nat.zero_le _)).2.1) ?_
            refine dr_lmul (z := lN (sg_Ld s p (u * 11 + l) * sg_M s (p + 1) (sg_nx u d) d)) 155 hV dX5_use_155 (lN_mul _ _) ?_
            refine dr_ladd (z := lN (us_A s p (u * 11 + l) d d + sg_Ld s p (u * 11 + l) * sg_M s (p + 1) (sg_nx u d) d)) 156 hV dX5_use_156 (lN_add _ _) ?_
            refine dr_last 157 hV dX5_use_157 (by decide) rfl rfl (by omega) (by decide) ?_
            refine dr_iinc1 158 hV dX5_use_158 (by decide) rfl ?_
            refine dr_goto (tgt := 80) 161 hV dX5_use_161 (by decide) ?_
            refine dr_sub hV (ls2 := [(0, .inr (.inr 0)), (1, .inl (nI p)), (2, .inl (nI u)), (3, .inl (nI l)), (4, .inr (.inl (lN (sg_Ld s p (u * 11 + l))))), (6, .inl (nI (d + 1)))]) rfl ?_
            exact ih (d + 1) _ (by omega) (by omega) ((hU.put o1 hmt (show d < 11 by omega)).cong (fun j _ => by rw [us_A_s, et]) (by rw [us_B_s, ee]))
          · refine dr_goto (tgt := 158) 106 hV dX5_use_106 (by decide) ?_
            refine dr_iinc1 158 hV dX5_use_158 (by decide) rfl ?_
            refine dr_goto (tgt := 80) 161 hV dX5_use_161 (by decide) ?_
            refine dr_sub hV (ls2 := [(0, .inr (.inr 0)), (1, .inl (nI p)), (2, .inl (nI u)), (3, .inl (nI l)), (4, .inr (.inl (lN (sg_Ld s p (u * 11 + l))))), (6, .inl (nI (d + 1)))]) rfl ?_
            exact ih (d + 1) _ (by omega) (by omega) (hU.cong (fun j _ => by rw [us_A_n (by unfold us_t; rw [if_neg (fun z => c103 (hbb.mp z))])]) (by rw [us_B_n (by unfold us_e; rw [if_neg (fun z => c103 (hbb.mp (by simp only [Bool.and_eq_true] at z; exact z.1)))])]))
set_option maxRecDepth 100000 in
set_option maxHeartbeats 4000000 in
theorem us_l {π : dz_Pl} {post : Option dz_AV → dz_MI → dz_MJ → Prop} {V : dz_Vt} (hV : dz_Clo π dz_M 24 5 mX5_use 4 116 post V) {s : dz_Sg} {I : dz_MI} {J0 : dz_MJ} {p u : Nat} (hO : dz_OK s) (hR : dz_RM s I) (hT : fi_L s I) (hA : fi_A s I J0 0) (hn : ¬ sg_L s 0 0 10 = 1000) (hp : p < sg_p s) (hu : u < 2 ^ sg_n s) (K : ∀ J, us_I s J0 J p (us_A s p (u * 11 + 11) 0) (us_B s p (u * 11 + 11) 0) → V 170 I J [(0, .inr (.inr 0)), (1, .inl (nI p)), (2, .inl (nI (u)))] []) : ∀ (fu l : Nat) (J : dz_MJ), 11 < l + fu → l ≤ 11 → us_I s J0 J p (us_A s p (u * 11 + l) 0) (us_B s p (u * 11 + l) 0) → V 58 I J [(0, .inr (.inr 0)), (1, .inl (nI p)), (2, .inl (nI u)), (3, .inl (nI (l)))] [] := by
  have hO2 := hO
  obtain ⟨o1, o2, o3, o4, o5, o6, o7, o8, o9⟩ := hO
  have hu2 := dz_pn o1
  intro fu
  induction fu with
  | zero => intro l J h1 h2; exact absurd h1 (by omega)
  | succ fu ih =>
      intro l J h1 h2 hU
      refine dr_iload_n 58 hV dX5_use_58 rfl ?_
      refine dr_bipush (v := nI 10) 59 hV dX5_use_59 (by decide) ?_
      refine dn_icmp_gt (tgt := 170) 61 hV dX5_use_61 (by decide) (by omega) (by omega) (fun c61 => ?_) (fun c61 => ?_)
      · have hl11 : l = 11 := by omega
        subst hl11
        refine dr_sub hV (ls2 := [(0, .inr (.inr 0)), (1, .inl (nI p)), (2, .inl (nI (u)))]) rfl ?_
        exact K J hU
      · refine dr_aload_n 64 hV dX5_use_64 rfl ?_
        refine dr_geta 65 hV dX5_use_65 (by decide) (by decide) rfl rfl rfl ?_
        refine dr_iload_n 68 hV dX5_use_68 rfl ?_
        refine dr_iload_n 69 hV dX5_use_69 rfl ?_
        refine dr_iload_n 70 hV dX5_use_70 rfl ?_
        refine dr_csp3 71 hV (Or.inl dz_lX5_144) dX5_use_71 (by decide) (by decide) (Nat.le_of_ble_eq_true rfl) (c_index π _ _ p u l _ _) ?_
        refine dr_lald (v := lN (sg_Ld s p (u * 11 + l))) 74 hV dX5_use_74 (by decide) rfl rfl (sg_ix_lt (by omega) (by omega) (by omega)) (by decide) (by rw [sg_ix_y]; exact hU.1 _ (by omega)) ?_
        refine dr_lstore 75 hV dX5_use_75 (by decide) ?_
        refine dr_iconst (v := nI 0) 77 hV dX5_use_77 (by decide) ?_
        refine dr_istore 78 hV dX5_use_78 (by decide) ?_
        rcases Nat.eq_zero_or_pos (sg_Ld s p (u * 11 + l)) with hz | hpos
        · rw [hz]
          refine dr_iload 80 hV dX5_use_80 rfl ?_
          refine dr_bipush (v := nI 10) 82 hV dX5_use_82 (by decide) ?_
          refine dn_icmp_gt (tgt := 164) 84 hV dX5_use_84 (by decide) (by omega) (by omega) (fun c84 => ?_) (fun c84 => ?_)
          · omega
          · refine dr_lload 87 hV dX5_use_87 rfl ?_
            refine dr_lconst (v := lN 0) 89 hV dX5_use_89 (by decide) ?_
            refine dr_lcmp 90 hV dX5_use_90 ?_
            refine dr_if_le (tgt := 164) 91 hV dX5_use_91 (by decide) (fun c91 => ?_) (fun c91 => ?_)
            · refine dr_iinc1 164 hV dX5_use_164 (by decide) rfl ?_
              refine dr_goto (tgt := 58) 167 hV dX5_use_167 (by decide) ?_
              refine dr_sub hV (ls2 := [(0, .inr (.inr 0)), (1, .inl (nI p)), (2, .inl (nI u)), (3, .inl (nI (l + 1)))]) rfl ?_
              exact ih (l + 1) _ (by omega) (by omega) (by rw [show u * 11 + (l + 1) = u * 11 + l + 1 by omega]; exact hU.cong (fun j _ => by rw [(us_AB_0 hz).1]) (us_AB_0 hz).2)
            · rw [lg_z] at c91; exact absurd (by decide) c91
        · refine dr_sub hV (ls2 := [(0, .inr (.inr 0)), (1, .inl (nI p)), (2, .inl (nI u)), (3, .inl (nI l)), (4, .inr (.inl (lN (sg_Ld s p (u * 11 + l))))), (6, .inl (nI (0)))]) rfl ?_
          refine us_d hV hO2 hR hT hA hp hu ((sg_Ld_ok hn p _ hpos).1.elim (fun z => Or.inl (by omega)) (fun z => Or.inr (by omega))) hpos (sg_Ld_le o3 hn (by omega) (by omega)) (fun J2 hU2 => ?_) 12 0 J (by omega) (by omega) hU
          refine dr_iinc1 164 hV dX5_use_164 (by decide) rfl ?_
          refine dr_goto (tgt := 58) 167 hV dX5_use_167 (by decide) ?_
          refine dr_sub hV (ls2 := [(0, .inr (.inr 0)), (1, .inl (nI p)), (2, .inl (nI u)), (3, .inl (nI (l + 1)))]) rfl ?_
          exact ih (l + 1) _ (by omega) (by omega) (by rw [show u * 11 + (l + 1) = u * 11 + l + 1 by omega]; exact hU2.cong (fun j hj => us_A_m s p _ hj) (us_B_m s p _))
set_option maxRecDepth 100000 in
set_option maxHeartbeats 4000000 in
theorem us_u {π : dz_Pl} {post : Option dz_AV → dz_MI → dz_MJ → Prop} {V : dz_Vt} (hV : dz_Clo π dz_M 24 5 mX5_use 4 116 post V) {s : dz_Sg} {I : dz_MI} {J0 : dz_MJ} {p : Nat} (hO : dz_OK s) (hR : dz_RM s I) (hT : fi_L s I) (hA : fi_A s I J0 0) (hn : ¬ sg_L s 0 0 10 = 1000) (hp : p < sg_p s) (K : ∀ J, us_I s J0 J p (us_A s p (2 ^ sg_n s * 11) 0) (us_B s p (2 ^ sg_n s * 11) 0) → V 176 I J [(0, .inr (.inr 0)), (1, .inl (nI (p)))] []) : ∀ (fu u : Nat) (J : dz_MJ), 2 ^ sg_n s < u + fu → u ≤ 2 ^ sg_n s → us_I s J0 J p (us_A s p (u * 11) 0) (us_B s p (u * 11) 0) → V 46 I J [(0, .inr (.inr 0)), (1, .inl (nI p)), (2, .inl (nI (u)))] [] := by
  have hO2 := hO
  obtain ⟨o1, o2, o3, o4, o5, o6, o7, o8, o9⟩ := hO
  have hu2 := dz_pn o1
  intro fu
  induction fu with
  | zero => intro u J h1 h2; exact absurd h1 (by omega)
  | succ fu ih =>
      intro u J h1 h2 hU
      refine dr_iload_n 46 hV dX5_use_46 rfl ?_
      refine dr_iconst (v := nI 1) 47 hV dX5_use_47 (by decide) ?_
      refine dr_aload_n 48 hV dX5_use_48 rfl ?_
      refine dr_geti 49 hV dX5_use_49 (by decide) (by decide) rfl rfl rfl hR.1 ?_
      refine dr_ishl (z := nI (2 ^ sg_n s)) 52 hV dX5_use_52 (dz_s1 (by omega)) ?_
      refine dn_icmp_ge (tgt := 176) 53 hV dX5_use_53 (by decide) (by omega) (by omega) (fun c53 => ?_) (fun c53 => ?_)
      · have hue : u = 2 ^ sg_n s := by omega
        subst hue
        refine dr_sub hV (ls2 := [(0, .inr (.inr 0)), (1, .inl (nI (p)))]) rfl ?_
        exact K J hU
      · refine dr_iconst (v := nI 0) 56 hV dX5_use_56 (by decide) ?_
        refine dr_istore_n 57 hV dX5_use_57 (by decide) ?_
        refine dr_sub hV (ls2 := [(0, .inr (.inr 0)), (1, .inl (nI p)), (2, .inl (nI u)), (3, .inl (nI (0)))]) rfl ?_
        refine us_l hV hO2 hR hT hA hn hp c53 (fun J2 hU2 => ?_) 12 0 J (by omega) (by omega) hU
        refine dr_iinc1 170 hV dX5_use_170 (by decide) rfl ?_
        refine dr_goto (tgt := 46) 173 hV dX5_use_173 (by decide) ?_
        refine dr_sub hV (ls2 := [(0, .inr (.inr 0)), (1, .inl (nI p)), (2, .inl (nI (u + 1)))]) rfl ?_
        exact ih (u + 1) _ (by omega) (by omega) (by rw [show (u + 1) * 11 = u * 11 + 11 by omega]; exact hU2)
def us_Post (s : dz_Sg) (I : dz_MI) (J0 : dz_MJ) (r : Option dz_AV) (I2 : dz_MI) (J2 : dz_MJ) : Prop := r = none ∧ I2 = I ∧ (∀ q d, q < sg_p s → d < 11 → J2 21 (11 * q + d) = lN (sg_US s q d)) ∧ ∀ k, J2 19 k = J0 19 k
set_option maxRecDepth 100000 in
set_option maxHeartbeats 4000000 in
theorem us_p {π : dz_Pl} {post : Option dz_AV → dz_MI → dz_MJ → Prop} {V : dz_Vt} (hV : dz_Clo π dz_M 24 5 mX5_use 4 116 post V) {s : dz_Sg} {I : dz_MI} {J0 : dz_MJ} (hO : dz_OK s) (hR : dz_RM s I) (hT : fi_L s I) (hA : fi_A s I J0 0) (hn : ¬ sg_L s 0 0 10 = 1000) (hpost : ∀ {r I2 J2}, us_Post s I J0 r I2 J2 → post r I2 J2) : ∀ (fu p : Nat) (J : dz_MJ), sg_p s < p + fu → p ≤ sg_p s → (p < sg_p s → us_I s J0 J p (us_A s p (0) 0) (us_B s p (0) 0)) → (∀ q d, q < p → d < 11 → J 21 (11 * q + d) = lN (sg_US s q d)) → (∀ k, J 19 k = J0 19 k) → V 36 I J [(0, .inr (.inr 0)), (1, .inl (nI (p)))] [] := by
  have hO2 := hO
  obtain ⟨o1, o2, o3, o4, o5, o6, o7, o8, o9⟩ := hO
  intro fu
  induction fu with
  | zero => intro p J h1 h2; exact absurd h1 (by omega)
  | succ fu ih =>
      intro p J h1 h2 hU hu1 h19
      refine dr_iload_n 36 hV dX5_use_36 rfl ?_
      refine dr_aload_n 37 hV dX5_use_37 rfl ?_
      refine dr_geti 38 hV dX5_use_38 (by decide) (by decide) rfl rfl rfl hR.2.2.1 ?_
      refine dn_icmp_ge (tgt := 182) 41 hV dX5_use_41 (by decide) (by omega) (by omega) (fun c41 => ?_) (fun c41 => ?_)
      · have hpe : p = sg_p s := by omega
        subst hpe
        exact dr_vret 182 hV dX5_use_182 rfl (hpost ⟨rfl, rfl, hu1, h19⟩)
      · refine dr_iconst (v := nI 0) 44 hV dX5_use_44 (by decide) ?_
        refine dr_istore_n 45 hV dX5_use_45 (by decide) ?_
        refine dr_sub hV (ls2 := [(0, .inr (.inr 0)), (1, .inl (nI p)), (2, .inl (nI (0)))]) rfl ?_
        refine us_u hV hO2 hR hT hA hn c41 (fun J2 hU2 => ?_) (2 ^ sg_n s + 1) 0 J (by omega) (Nat.zero_le _) (by rw [Nat.zero_mul]; exact hU c41)
        have hnx := hU2.next c41 o3
        refine dr_iinc1 176 hV dX5_use_176 (by decide) rfl ?_
        refine dr_goto (tgt := 36) 179 hV dX5_use_179 (by decide) ?_
        refine dr_sub hV (ls2 := [(0, .inr (.inr 0)), (1, .inl (nI (p + 1)))]) rfl ?_
        exact ih (p + 1) _ (by omega) (by omega) hnx.1 hnx.2.1 hnx.2.2
theorem us_start {s : dz_Sg} {I : dz_MI} {J0 J : dz_MJ} (hO : dz_OK s) (hA : fi_A s I J0 0) (hz : ∀ k, k < 88 → J 21 k = 0) (hx : ∀ c k, ¬ c = 21 → J c k = J0 c k) (hp1 : 0 < sg_p s) : us_I s J0 (dz_wj J 20 10 (lN 1)) 0 (us_A s 0 0 0) (us_B s 0 0 0) := by
  obtain ⟨o1, o2, o3, -⟩ := hO
  have e10 := dz_pn o1
  have h20 : ∀ q m, q ≤ sg_p s → m < 2 ^ sg_n s * 11 → J 20 (11264 * q + m) = 0 := fun q m hq hm => by
    rw [hx 20 _ (by decide)]
    have := (hA q (m / 11) (m % 11) hq (by omega) (by omega) (Nat.zero_le _)).2.2
    rw [sg_ix_y, show m / 11 * 11 + m % 11 = m by omega] at this
    exact this
  refine ⟨fun m hm => ?_, fun m hm => ?_, fun q m hq hq2 hm => ?_, fun q d hq => absurd hq (by omega), fun d hd => ?_, fun q d hq hq2 hd => ?_, fun k => ?_⟩
  · by_cases e : m = 10
    · subst e; rw [show 11264 * 0 + 10 = 10 from rfl, dz_wj_s]; rfl
    · rw [dz_wj_n _ _ (by omega), h20 0 m (Nat.zero_le _) hm]; unfold sg_Ld; rw [if_neg e]; rfl
  · rw [dz_wj_n _ _ (by omega)]
    rw [h20 1 m hp1 hm]; rfl
  · rw [dz_wj_n _ _ (by omega)]; exact h20 q m hq2 hm
  · rw [dz_wj_n _ _ (by omega), hz _ (by omega)]; rfl
  · rw [dz_wj_n _ _ (by omega), hz _ (by omega)]
  · rw [dz_wj_n _ _ (by omega)]; exact hx 19 k (by decide)
set_option maxRecDepth 100000 in
set_option maxHeartbeats 4000000 in
theorem c_X5_use (π : dz_Pl) {s : dz_Sg} (I : dz_MI) (J : dz_MJ) (hO : dz_OK s) (hR : dz_RM s I) (hA : fi_A s I J 0) (hn : ¬ sg_L s 0 0 10 = 1000) : dz_Cl π dz_M 24 mX5_use 4 116 [.inr (.inr 0)] I J (us_Post s I J) := by
  refine dz_body (own := 5) dz_mX5_use rfl (Nat.le_of_ble_eq_true rfl) (fun V hV => ?_)
  have hO2 := hO
  have hT := hA.L
  have loop : ∀ (fu k : Nat) (J2 : dz_MJ), 88 < k + fu → k ≤ 88 → (∀ j, j < k → J2 21 j = 0) → (∀ c j, ¬ c = 21 → J2 c j = J c j) → V 2 I J2 [(0, .inr (.inr 0)), (1, .inl (nI (k)))] [] := by
    intro fu
    induction fu with
    | zero => intro k J2 h1 h2; exact absurd h1 (by omega)
    | succ fu ih =>
      intro k J2 h1 h2 hz hx
      refine dr_iload_n 2 hV dX5_use_2 rfl ?_
      refine dr_bipush (v := nI 88) 3 hV dX5_use_3 (by decide) ?_
      refine dn_icmp_ge (tgt := 21) 5 hV dX5_use_5 (by decide) (by omega) (by omega) (fun c5 => ?_) (fun c5 => ?_)
      · have hk88 : k = 88 := by omega
        subst hk88
        refine dr_aload_n 21 hV dX5_use_21 rfl ?_
        refine dr_geta 22 hV dX5_use_22 (by decide) (by decide) rfl rfl rfl ?_
        refine dr_iconst (v := nI 0) 25 hV dX5_use_25 (by decide) ?_
        refine dr_iconst (v := nI 0) 26 hV dX5_use_26 (by decide) ?_
        refine dr_bipush (v := nI 10) 27 hV dX5_use_27 (by decide) ?_
        refine dr_csp3 29 hV (Or.inl dz_lX5_144) dX5_use_29 (by decide) (by decide) (Nat.le_of_ble_eq_true rfl) (c_index π _ _ 0 0 10 _ _) ?_
        refine dr_lconst (v := lN 1) 32 hV dX5_use_32 (by decide) ?_
        refine dr_last (k := 10) 33 hV dX5_use_33 (by decide) rfl (by decide) (by decide) (by decide) ?_
        refine dr_iconst (v := nI 0) 34 hV dX5_use_34 (by decide) ?_
        refine dr_istore_n 35 hV dX5_use_35 (by decide) ?_
        refine dr_sub hV (ls2 := [(0, .inr (.inr 0)), (1, .inl (nI (0)))]) rfl ?_
        exact us_p hV hO2 hR hT hA hn (fun h => h) (sg_p s + 1) 0 _ (by omega) (Nat.zero_le _) (fun hp0 => us_start hO2 hA hz hx hp0) (fun q d hq => absurd hq (by omega)) (fun k => by rw [dz_wj_n _ _ (by omega)]; exact hx 19 k (by decide))
      · refine dr_aload_n 8 hV dX5_use_8 rfl ?_
        refine dr_geta 9 hV dX5_use_9 (by decide) (by decide) rfl rfl rfl ?_
        refine dr_iload_n 12 hV dX5_use_12 rfl ?_
        refine dr_lconst (v := lN 0) 13 hV dX5_use_13 (by decide) ?_
        refine dr_last 14 hV dX5_use_14 (by decide) rfl rfl (by omega) (by decide) ?_
        refine dr_iinc1 15 hV dX5_use_15 (by decide) rfl ?_
        refine dr_goto (tgt := 2) 18 hV dX5_use_18 (by decide) ?_
        refine dr_sub hV (ls2 := [(0, .inr (.inr 0)), (1, .inl (nI (k + 1)))]) rfl ?_
        exact ih (k + 1) _ (by omega) (by omega) (fun j hj => by
          rcases Nat.lt_or_ge j k with z | z
          · rw [dz_wj_n _ _ (by omega)]; exact hz j z
          · rw [show j = k by omega, dz_wj_s]; rfl) (fun c j hc => by rw [dz_wj_n _ _ (by omega)]; exact hx c j hc)
  refine dr_iconst (v := nI 0) 0 hV dX5_use_0 (by decide) ?_
  refine dr_istore_n 1 hV dX5_use_1 (by decide) ?_
  refine dr_sub hV (ls2 := [(0, .inr (.inr 0)), (1, .inl (nI (0)))]) rfl ?_
  exact loop 89 0 J (by omega) (by omega) (fun j hj => absurd hj (by omega)) (fun _ _ _ => rfl)
