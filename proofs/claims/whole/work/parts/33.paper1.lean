/-! THE PAPER, in numbers: beginnings counted by state; states on best ways -/
theorem dz_cnt_ct (p : Nat → Bool) : ∀ n, fa_cnt p n = fb_ct p n
  | 0 => rfl
  | n + 1 => by
    rw [fb_ct_succ, ← dz_cnt_ct p n]
    cases h : p n with
    | true => rw [fa_cnt_yes h]; rfl
    | false => rw [fa_cnt_no h]; rfl
/-- the drums of a state -/
def pa_nb (m : Nat) : Nat := fb_ct (fun i => (m / 11).testBit i) 10
def pa_lev (p m : Nat) : Nat := p - pa_nb m
noncomputable def pa_ok (s : dz_Sg) (p m d : Nat) : Bool := sg_ok s p d (m / 11) (m % 11)
noncomputable def pa_hd (s : dz_Sg) (p d : Nat) : Nat := if dz_B (sg_head s p) = true then 10 else d
noncomputable def pa_nx (s : dz_Sg) (p m d : Nat) : Nat := sg_nx (m / 11) d * 11 + pa_hd s p d
noncomputable def pa_G (s : dz_Sg) : Nat → Nat → Nat
  | 0, m => if m = 10 then 1 else 0
  | p + 1, m => fb_sm (fun i => fb_sm (fun d => if (pa_ok s p i d && decide (pa_nx s p i d = m)) = true then pa_G s p i else 0) 11) (2 ^ sg_n s * 11)
noncomputable def pa_Cm (s : dz_Sg) (p m k : Nat) : Nat := sg_C s (sg_p s - p) (m / 11) (m % 11) k
theorem pa_hd_lt {s : dz_Sg} {p d : Nat} (hd : d < 11) : pa_hd s p d < 11 := by
  unfold pa_hd; split <;> omega
theorem pa_nx_d {s : dz_Sg} {p m d : Nat} (hd : d < 11) : pa_nx s p m d / 11 = sg_nx (m / 11) d ∧ pa_nx s p m d % 11 = pa_hd s p d := by
  have := pa_hd_lt (s := s) (p := p) hd
  unfold pa_nx; omega
theorem pa_ok_i {s : dz_Sg} {p m d : Nat} (h : pa_ok s p m d = true) : (d = 10 ∨ d < sg_n s) ∧ sg_may s p d (m / 11) (m % 11) := dz_Bt.mp h
theorem pa_nx_lt {s : dz_Sg} {p m d : Nat} (hm : m < 2 ^ sg_n s * 11) (hd : d < 11) (h : pa_ok s p m d = true) : pa_nx s p m d < 2 ^ sg_n s * 11 := by
  have hu : m / 11 < 2 ^ sg_n s := by omega
  have h1 := sg_nx_lt hu (pa_ok_i h).1
  have := pa_hd_lt (s := s) (p := p) hd
  unfold pa_nx; omega
/-- behind a head a foot comes, or the end; and no foot elsewhere -/
theorem pa_head {s : dz_Sg} (hO : dz_OK s) {p : Nat} (hp : p < sg_p s) : sg_head s p ↔ (p + 1 = sg_p s ∨ (p + 1 < sg_p s ∧ sg_foot s (p + 1))) := by
  obtain ⟨o1, o2, o3, o4, o5, o6, o7, o8, o9⟩ := hO
  obtain ⟨g1, g2, g3⟩ := o6 p hp
  obtain ⟨k1, k2, k3⟩ := o4 _ g1
  unfold sg_head sg_foot
  constructor
  · intro h
    rcases Nat.lt_or_ge (p + 1) (sg_p s) with z | z
    · right
      refine ⟨z, ?_⟩
      obtain ⟨q1, q2, q3⟩ := o6 (p + 1) z
      rcases Nat.lt_or_ge (sg_b s (sg_col s (p + 1))) (p + 1) with y | y
      · have e := o5 (sg_col s (p + 1)) p q1 (by omega) (by omega)
        rw [e] at h
        omega
      · omega
    · left; omega
  · intro h
    rcases Nat.lt_or_ge (p + 1) (sg_b s (sg_col s p) + sg_h s (sg_col s p)) with z | z
    · rcases h with h | ⟨h, h2⟩
      · omega
      · have e := o5 (sg_col s p) (p + 1) g1 (by omega) z
        rw [e] at h2
        omega
    · omega
/-- over a foot nothing asks what lies below -/
theorem sg_ok_foot {s : dz_Sg} {p d u l l2 : Nat} (h : sg_foot s p) : sg_ok s p d u l = sg_ok s p d u l2 := by
  unfold sg_ok sg_may
  simp only [h, true_or]
theorem sg_C_foot {s : dz_Sg} {p u l l2 : Nat} (hp : p ≤ sg_p s) (h : p = sg_p s ∨ sg_foot s p) (k : Nat) : sg_C s (sg_p s - p) u l k = sg_C s (sg_p s - p) u l2 k := by
  rcases Nat.lt_or_ge p (sg_p s) with z | z
  · have hf : sg_foot s p := h.elim (fun e => absurd e (by omega)) id
    obtain ⟨r, hr⟩ : ∃ r, sg_p s = p + (r + 1) := ⟨sg_p s - p - 1, by omega⟩
    have er : sg_p s - p = r + 1 := by omega
    have er2 : sg_p s - (r + 1) = p := by omega
    rw [er, sg_C_succ, sg_C_succ]
    refine fb_sm_cong (fun d _ => ?_)
    unfold sg_E
    rw [er2, sg_ok_foot hf]
  · have e : sg_p s - p = 0 := by omega
    rw [e]; rfl
theorem pa_nx_C {s : dz_Sg} (hO : dz_OK s) {p m d : Nat} (hp : p < sg_p s) (hd : d < 11) (k : Nat) : pa_Cm s (p + 1) (pa_nx s p m d) k = sg_C s (sg_p s - (p + 1)) (sg_nx (m / 11) d) d k := by
  unfold pa_Cm
  rw [(pa_nx_d hd).1, (pa_nx_d hd).2]
  unfold pa_hd
  by_cases h : sg_head s p
  · rw [if_pos (dz_Bt.mpr h)]
    exact sg_C_foot (by omega) (((pa_head hO hp).mp h).elim Or.inl (fun z => Or.inr z.2)) k
  · rw [if_neg (fun z => h (dz_Bt.mp z))]
theorem pa_C_rec {s : dz_Sg} (hO : dz_OK s) {p m : Nat} (hp : p < sg_p s) (k : Nat) : pa_Cm s p m k = fb_sm (fun d => if pa_ok s p m d = true then sg_sh d (pa_Cm s (p + 1) (pa_nx s p m d)) k else 0) 11 := by
  obtain ⟨r, hr⟩ : ∃ r, sg_p s = p + (r + 1) := ⟨sg_p s - p - 1, by omega⟩
  have er : sg_p s - p = r + 1 := by omega
  have er2 : sg_p s - (r + 1) = p := by omega
  have er3 : sg_p s - (p + 1) = r := by omega
  unfold pa_Cm
  rw [er, sg_C_succ]
  refine fb_sm_cong (fun d hd => ?_)
  unfold sg_E
  rw [er2]
  show (if pa_ok s p m d = true then _ else 0) = _
  have e : (fun k => pa_Cm s (p + 1) (pa_nx s p m d) k) = sg_C s r (sg_nx (m / 11) d) d := by
    funext k; rw [pa_nx_C hO hp hd, er3]
  have e2 : sg_C s (sg_p s - (p + 1)) (pa_nx s p m d / 11) (pa_nx s p m d % 11) = sg_C s r (sg_nx (m / 11) d) d := e
  rw [e2]
theorem pa_nb_nx {s : dz_Sg} (hn : sg_n s ≤ 10) {p m d : Nat} (hd : d < 11) (h : pa_ok s p m d = true) : pa_nb (pa_nx s p m d) = pa_nb m + (if d = 10 then 0 else 1) := by
  obtain ⟨h1, h2⟩ := pa_ok_i h
  unfold pa_nb
  rw [(pa_nx_d hd).1]
  by_cases e : d = 10
  · subst e; rw [if_pos rfl]; rfl
  · rw [if_neg e]
    have hb : (m / 11).testBit d = false := (h2.2.resolve_left e).1
    have hd10 : d < 10 := by omega
    have hu := fb_ct_upd (fun i => (m / 11).testBit i) true hd10
    simp only [hb] at hu
    have hc : fb_ct (fun i => (sg_nx (m / 11) d).testBit i) 10 = fb_ct (fun k => if k = d then true else (m / 11).testBit k) 10 := fb_ct_cong (fun k _ => by
      unfold sg_nx
      rw [if_neg e, fb_bit_set]
      by_cases z : k = d <;> simp [z])
    rw [hc]
    simpa using hu
theorem pa_G_step {s : dz_Sg} {p m d : Nat} (hm : m < 2 ^ sg_n s * 11) (hd : d < 11) (h : pa_ok s p m d = true) (hg : 0 < pa_G s p m) : 0 < pa_G s (p + 1) (pa_nx s p m d) := by
  unfold pa_G
  refine dz_sm_pos.mpr ⟨m, hm, dz_sm_pos.mpr ⟨d, hd, ?_⟩⟩
  rw [if_pos (by simp [h])]
  exact hg
theorem pa_G_inv {s : dz_Sg} {p m : Nat} (h : 0 < pa_G s (p + 1) m) : ∃ i d, i < 2 ^ sg_n s * 11 ∧ d < 11 ∧ pa_ok s p i d = true ∧ pa_nx s p i d = m ∧ 0 < pa_G s p i := by
  unfold pa_G at h
  obtain ⟨i, hi, h⟩ := dz_sm_pos.mp h
  obtain ⟨d, hd, h⟩ := dz_sm_pos.mp h
  split at h
  · rename_i e
    simp only [Bool.and_eq_true, decide_eq_true_eq] at e
    exact ⟨i, d, hi, hd, e.1, e.2, h⟩
  · omega
/-- a state that the paper can hold -/
def pa_vd (s : dz_Sg) (p m : Nat) : Prop := m < 2 ^ sg_n s * 11 ∧ sg_vl s (m / 11) (m % 11) ∧ (p < sg_p s → sg_foot s p → m % 11 = 10)
theorem pa_G_vd {s : dz_Sg} (hO : dz_OK s) : ∀ (p m : Nat), p ≤ sg_p s → 0 < pa_G s p m → pa_vd s p m ∧ pa_nb m ≤ p
  | 0, m, _, h => by
    unfold pa_G at h
    split at h
    · rename_i e
      subst e
      have := Nat.two_pow_pos (sg_n s)
      exact ⟨⟨by omega, Or.inl rfl, fun _ _ => rfl⟩, Nat.le_of_eq (by decide)⟩
    · omega
  | p + 1, m, hp, h => by
    obtain ⟨i, d, hi, hd, h1, h2, h3⟩ := pa_G_inv h
    obtain ⟨v1, v2⟩ := pa_G_vd hO p i (by omega) h3
    have hlt := pa_nx_lt hi hd h1
    have hnb := pa_nb_nx hO.1 hd h1
    subst h2
    refine ⟨⟨hlt, ?_, fun hp2 hf => ?_⟩, by rw [hnb]; split <;> omega⟩
    · rw [(pa_nx_d hd).1, (pa_nx_d hd).2]
      unfold pa_hd
      split
      · exact Or.inl rfl
      · exact sg_vl_nx (pa_ok_i h1).1
    · rw [(pa_nx_d hd).2]
      unfold pa_hd
      rw [if_pos (dz_Bt.mpr ((pa_head hO (by omega)).mpr (Or.inr ⟨hp2, hf⟩)))]
theorem pa_lev_nx {s : dz_Sg} (hO : dz_OK s) {p m d : Nat} (hp : p < sg_p s) (hd : d < 11) (h : pa_ok s p m d = true) (hg : 0 < pa_G s p m) : pa_lev (p + 1) (pa_nx s p m d) = pa_lev p m + (if d = 10 then 1 else 0) := by
  have h1 := pa_nb_nx hO.1 hd h
  have h2 := (pa_G_vd hO p m (by omega) hg).2
  unfold pa_lev
  rw [h1]
  split <;> omega
/-- completions of a state to k new stones in all -/
noncomputable def pa_w (s : dz_Sg) (p k m : Nat) : Nat := if pa_lev p m ≤ k then pa_Cm s p m (k - pa_lev p m) else 0
theorem pa_w_rec {s : dz_Sg} (hO : dz_OK s) {p m : Nat} (hp : p < sg_p s) (hg : 0 < pa_G s p m) (k : Nat) : pa_w s p k m = fb_sm (fun d => if pa_ok s p m d = true then pa_w s (p + 1) k (pa_nx s p m d) else 0) 11 := by
  by_cases hk : pa_lev p m ≤ k
  · unfold pa_w
    rw [if_pos hk, pa_C_rec hO hp]
    refine fb_sm_cong (fun d hd => ?_)
    by_cases h : pa_ok s p m d = true
    · rw [if_pos h, if_pos h, pa_lev_nx hO hp hd h hg]
      unfold sg_sh
      by_cases e : d = 10
      · simp only [e, if_true]
        by_cases z : k - pa_lev p m = 0
        · rw [if_pos z, if_neg (by omega)]
        · rw [if_neg z, if_pos (by omega)]
          congr 1
      · simp only [e, if_false, Nat.add_zero]
        rw [if_pos hk]
    · rw [if_neg h, if_neg h]
  · have h0 : ∀ d, d < 11 → (if pa_ok s p m d = true then pa_w s (p + 1) k (pa_nx s p m d) else 0) = 0 := fun d hd => by
      by_cases h : pa_ok s p m d = true
      · rw [if_pos h]
        unfold pa_w
        rw [pa_lev_nx hO hp hd h hg, if_neg (by omega)]
      · rw [if_neg h]
    rw [fb_sm_cong h0, fb_sm_const]
    unfold pa_w
    rw [if_neg hk]
theorem pa_dual {s : dz_Sg} (hO : dz_OK s) (k : Nat) : ∀ p, p ≤ sg_p s → fb_sm (fun m => pa_G s p m * pa_w s p k m) (2 ^ sg_n s * 11) = sg_C s (sg_p s) 0 10 k
  | 0, _ => by
    rw [dz_sm_one _ (k := 10) (by have := Nat.two_pow_pos (sg_n s); omega) (fun j _ hj => by unfold pa_G; rw [if_neg hj, Nat.zero_mul])]
    show (if 10 = 10 then 1 else 0) * pa_w s 0 k 10 = _
    rw [if_pos rfl, Nat.one_mul]
    unfold pa_w pa_lev
    rw [Nat.zero_sub, if_pos (Nat.zero_le k)]
    rfl
  | p + 1, hp => by
    rw [← pa_dual hO k p (by omega)]
    have h1 := dz_flow (2 ^ sg_n s * 11) (2 ^ sg_n s * 11) 11 (pa_ok s p) (pa_nx s p) (pa_G s p) (pa_w s (p + 1) k) (fun i j hi hj hc => pa_nx_lt hi hj hc)
    refine Eq.trans h1 (fb_sm_cong (fun m hm => ?_))
    rcases Nat.eq_zero_or_pos (pa_G s p m) with z | z
    · rw [z, Nat.zero_mul]
      have hz : ∀ d, d < 11 → (if pa_ok s p m d = true then 0 * pa_w s (p + 1) k (pa_nx s p m d) else 0) = 0 := fun d _ => by split <;> simp
      rw [fb_sm_cong hz, fb_sm_const]
    · rw [pa_w_rec hO (by omega) z, Nat.mul_comm, dz_sm_mul]
      refine fb_sm_cong (fun d hd => ?_)
      by_cases hb : pa_ok s p m d = true
      · rw [if_pos hb, if_pos hb, Nat.mul_comm]
      · rw [if_neg hb, if_neg hb, Nat.zero_mul]
theorem pa_pos {s : dz_Sg} (hO : dz_OK s) {p m j : Nat} (hp : p ≤ sg_p s) (hg : 0 < pa_G s p m) (hc : 0 < pa_Cm s p m j) : 0 < sg_C s (sg_p s) 0 10 (pa_lev p m + j) := by
  rw [← pa_dual hO (pa_lev p m + j) p hp]
  refine dz_sm_pos.mpr ⟨m, (pa_G_vd hO p m hp hg).1.1, ?_⟩
  unfold pa_w
  rw [if_pos (by omega), show pa_lev p m + j - pa_lev p m = j by omega]
  exact Nat.mul_pos hg hc
theorem pa_G_sum {s : dz_Sg} : ∀ p, fb_sm (fun m => pa_G s p m) (2 ^ sg_n s * 11) ≤ 11 ^ p
  | 0 => by
    rw [dz_sm_one _ (k := 10) (by have := Nat.two_pow_pos (sg_n s); omega) (fun j _ hj => by unfold pa_G; rw [if_neg hj])]
    exact Nat.le_refl 1
  | p + 1 => by
    have h1 := dz_flow (2 ^ sg_n s * 11) (2 ^ sg_n s * 11) 11 (pa_ok s p) (pa_nx s p) (pa_G s p) (fun _ => 1) (fun i j hi hj hc => pa_nx_lt hi hj hc)
    have h2 : fb_sm (fun m => pa_G s (p + 1) m) (2 ^ sg_n s * 11) = fb_sm (fun m => pa_G s (p + 1) m * 1) (2 ^ sg_n s * 11) := fb_sm_cong (fun m _ => (Nat.mul_one _).symm)
    rw [h2]
    refine Nat.le_trans (Nat.le_of_eq h1) ?_
    have h3 : ∀ i, i < 2 ^ sg_n s * 11 → fb_sm (fun j => if pa_ok s p i j = true then pa_G s p i * 1 else 0) 11 ≤ pa_G s p i * 11 := fun i _ => by
      have := fb_sm_bound (f := fun j => if pa_ok s p i j = true then pa_G s p i * 1 else 0) (c := pa_G s p i) (n := 11) (fun j _ => by split <;> omega)
      omega
    refine Nat.le_trans (fb_sm_le h3) ?_
    rw [← dz_sm_mul, Nat.pow_succ]
    exact Nat.mul_le_mul_right 11 (pa_G_sum p)
theorem pa_G_out {s : dz_Sg} (hO : dz_OK s) {p m : Nat} (hp : p ≤ sg_p s) (hm : 2 ^ sg_n s * 11 ≤ m) : pa_G s p m = 0 := by
  rcases Nat.eq_zero_or_pos (pa_G s p m) with z | z
  · exact z
  · have := (pa_G_vd hO p m hp z).1.1
    omega
theorem pa_G_le {s : dz_Sg} (hO : dz_OK s) {p : Nat} (hp : p ≤ sg_p s) (m : Nat) : pa_G s p m ≤ 11 ^ 8 := by
  rcases Nat.lt_or_ge m (2 ^ sg_n s * 11) with z | z
  · have h1 := fb_sm_part (fun m => pa_G s p m) z
    have h2 := pa_G_sum (s := s) p
    have h3 : 11 ^ p ≤ 11 ^ 8 := Nat.pow_le_pow_right (by decide) (by have := hO.2.2.1; omega)
    omega
  · rw [pa_G_out hO hp z]; exact Nat.zero_le _
/-- the new stones of BEST; or, if there is no way, all places -/
noncomputable def pa_K (s : dz_Sg) : Nat := if dz_B (sg_no s) = true then sg_p s else sg_L s 0 0 10
theorem pa_K_c {s : dz_Sg} (h8 : sg_p s ≤ 8) : pa_K s ≤ sg_p s ∧ (∀ j, j < pa_K s → sg_C s (sg_p s) 0 10 j = 0) ∧ (sg_no s → ∀ j, sg_C s (sg_p s) 0 10 j = 0) ∧ (¬ sg_no s → 0 < sg_C s (sg_p s) 0 10 (pa_K s)) := by
  have hL : sg_L s 0 0 10 = dz_lo (sg_C s (sg_p s) 0 10) := sg_L_v (p := 0) (Or.inr (Or.inl rfl))
  have hb : ∀ j, sg_p s < j → sg_C s (sg_p s) 0 10 j = 0 := fun j hj => sg_C_big s _ _ _ _ hj
  unfold pa_K
  by_cases h : sg_no s
  · have hz : ∀ j, sg_C s (sg_p s) 0 10 j = 0 := fun j => by
      rcases dz_lo_c (sg_C s (sg_p s) 0 10) with q | q
      · rcases Nat.lt_or_ge j 9 with z | z
        · exact q.2 j z
        · exact hb j (by omega)
      · unfold sg_no at h; omega
    rw [if_pos (dz_Bt.mpr h)]
    exact ⟨Nat.le_refl _, fun j _ => hz j, fun _ => hz, fun z => absurd h z⟩
  · rw [if_neg (fun z => h (dz_Bt.mp z)), hL]
    unfold sg_no at h
    rcases dz_lo_c (sg_C s (sg_p s) 0 10) with q | q
    · omega
    · refine ⟨?_, q.2.2, fun z => absurd z h, fun _ => Nat.pos_of_ne_zero q.2.1⟩
      rcases Nat.lt_or_ge (sg_p s) (dz_lo (sg_C s (sg_p s) 0 10)) with z | z
      · exact absurd (hb _ z) q.2.1
      · exact z
/-- a state of a BEST way -/
def pa_on (s : dz_Sg) (p m : Nat) : Prop := 0 < pa_G s p m ∧ pa_lev p m ≤ pa_K s ∧ 0 < pa_Cm s p m (pa_K s - pa_lev p m)
theorem pa_on_no {s : dz_Sg} (hO : dz_OK s) (h : sg_no s) {p m : Nat} (hp : p ≤ sg_p s) : ¬ pa_on s p m := fun z => by
  have h1 := pa_pos hO hp z.1 z.2.2
  rw [(pa_K_c hO.2.2.1).2.2.1 h] at h1
  omega
theorem pa_on_end {s : dz_Sg} (hO : dz_OK s) {m : Nat} : pa_on s (sg_p s) m ↔ 0 < pa_G s (sg_p s) m ∧ pa_lev (sg_p s) m ≤ pa_K s := by
  constructor
  · exact fun z => ⟨z.1, z.2.1⟩
  · intro z
    have h0 : ∀ k, pa_Cm s (sg_p s) m k = if k = 0 then 1 else 0 := fun k => by unfold pa_Cm; rw [Nat.sub_self]; rfl
    have h1 := pa_pos hO (Nat.le_refl _) z.1 (j := 0) (by rw [h0]; decide)
    have h2 : pa_lev (sg_p s) m = pa_K s := by
      rcases Nat.lt_or_ge (pa_lev (sg_p s) m) (pa_K s) with y | y
      · rw [Nat.add_zero, (pa_K_c hO.2.2.1).2.1 _ y] at h1; omega
      · omega
    refine ⟨z.1, z.2, ?_⟩
    rw [h0, if_pos (by omega)]
    exact Nat.one_pos
theorem pa_on_step {s : dz_Sg} (hO : dz_OK s) {p m : Nat} (hp : p < sg_p s) (hg : 0 < pa_G s p m) (hl : pa_lev p m ≤ pa_K s) : pa_on s p m ↔ ∃ d, d < 11 ∧ pa_ok s p m d = true ∧ pa_on s (p + 1) (pa_nx s p m d) := by
  have hm := (pa_G_vd hO p m (by omega) hg).1.1
  have hw := pa_w_rec hO hp hg (pa_K s)
  have e1 : pa_on s p m ↔ 0 < pa_w s p (pa_K s) m := by
    unfold pa_on pa_w
    rw [if_pos hl]
    exact ⟨fun z => z.2.2, fun z => ⟨hg, hl, z⟩⟩
  rw [e1, hw, dz_sm_pos]
  constructor
  · rintro ⟨d, hd, h⟩
    split at h
    · rename_i e
      refine ⟨d, hd, e, pa_G_step hm hd e hg, ?_⟩
      unfold pa_w at h
      split at h
      · rename_i y; exact ⟨y, h⟩
      · omega
    · omega
  · rintro ⟨d, hd, h1, h2⟩
    refine ⟨d, hd, ?_⟩
    rw [if_pos h1]
    unfold pa_w
    rw [if_pos h2.2.1]
    exact h2.2.2
theorem pa_on_lev {s : dz_Sg} (hO : dz_OK s) {p m d : Nat} (hp : p < sg_p s) (hd : d < 11) (hg : 0 < pa_G s p m) (h : pa_ok s p m d = true) (ho : pa_on s (p + 1) (pa_nx s p m d)) : pa_on s p m := by
  have h1 := pa_lev_nx hO hp hd h hg
  have h2 := ho.2.1
  exact (pa_on_step hO hp hg (by split at h1 <;> omega)).mpr ⟨d, hd, h, ho⟩
