/-! WAYS: completions counted by their new stones -/
/-- the least k below 9 where c isn't 0, or 1000 -/
theorem dz_lo_ex (c : Nat → Nat) : ∃ k, (k = 1000 ∧ ∀ j, j < 9 → c j = 0) ∨ (k < 9 ∧ c k ≠ 0 ∧ ∀ j, j < k → c j = 0) := by
  by_cases hx : ∃ i, i < 9 ∧ c i ≠ 0
  · obtain ⟨i, hi, hc, hl⟩ := fb_first (p := fun i => c i ≠ 0) hx
    exact ⟨i, Or.inr ⟨hi, hc, fun j hj => by simpa using hl j hj⟩⟩
  · exact ⟨1000, Or.inl ⟨rfl, fun j hj => Classical.byContradiction fun q => hx ⟨j, hj, q⟩⟩⟩
noncomputable def dz_lo (c : Nat → Nat) : Nat := Classical.choose (dz_lo_ex c)
noncomputable def dz_no (c : Nat → Nat) : Nat := if dz_lo c = 1000 then 0 else c (dz_lo c)
theorem dz_lo_c (c : Nat → Nat) : (dz_lo c = 1000 ∧ ∀ j, j < 9 → c j = 0) ∨ (dz_lo c < 9 ∧ c (dz_lo c) ≠ 0 ∧ ∀ j, j < dz_lo c → c j = 0) := Classical.choose_spec (dz_lo_ex c)
theorem dz_lo_s {c : Nat → Nat} {i : Nat} (hi : i < 9) (hc : c i ≠ 0) (hl : ∀ j, j < i → c j = 0) : dz_lo c = i := by
  rcases dz_lo_c c with h | h
  · exact absurd (h.2 i hi) hc
  · rcases Nat.lt_trichotomy (dz_lo c) i with q | q | q
    · exact absurd (hl _ q) h.2.1
    · exact q
    · exact absurd (h.2.2 _ q) hc
theorem dz_lo_n {c : Nat → Nat} (hl : ∀ j, j < 9 → c j = 0) : dz_lo c = 1000 := by
  rcases dz_lo_c c with h | h
  · exact h.1
  · exact absurd (hl _ h.1) h.2.1
theorem dz_lo_le (c : Nat → Nat) : dz_lo c ≤ 1000 := by
  rcases dz_lo_c c with h | h <;> omega
theorem dz_no_0 {c : Nat → Nat} (h : dz_lo c = 1000) : dz_no c = 0 := if_pos h
theorem dz_no_s {c : Nat → Nat} (h : ¬ dz_lo c = 1000) : dz_no c = c (dz_lo c) := if_neg h
theorem dz_no_pos {c : Nat → Nat} (h : ¬ dz_lo c = 1000) : 0 < dz_no c := by
  rw [dz_no_s h]
  rcases dz_lo_c c with q | q
  · exact absurd q.1 h
  · exact Nat.pos_of_ne_zero q.2.1
theorem dz_lo_cong {c e : Nat → Nat} (h : ∀ k, k < 9 → c k = e k) : dz_lo c = dz_lo e := by
  rcases dz_lo_c e with q | q
  · rw [q.1]; exact dz_lo_n (fun j hj => by rw [h j hj]; exact q.2 j hj)
  · exact dz_lo_s q.1 (by rw [h _ q.1]; exact q.2.1) (fun j hj => by rw [h j (by omega)]; exact q.2.2 j hj)
theorem dz_no_cong {c e : Nat → Nat} (h : ∀ k, k < 9 → c k = e k) : dz_no c = dz_no e := by
  unfold dz_no
  rw [dz_lo_cong h]
  rcases dz_lo_c e with q | q
  · rw [if_pos q.1, if_pos q.1]
  · rw [if_neg (by omega), if_neg (by omega), h _ q.1]
theorem dz_lo_zero : dz_lo (fun _ => 0) = 1000 := dz_lo_n (fun _ _ => rfl)
theorem dz_no_zero : dz_no (fun _ => 0) = 0 := dz_no_0 dz_lo_zero
/-- one more item's completions e beside c: none -/
theorem dz_ad_n {c e : Nat → Nat} (h : dz_lo e = 1000) : dz_lo (fun k => c k + e k) = dz_lo c ∧ dz_no (fun k => c k + e k) = dz_no c := by
  have h0 : ∀ k, k < 9 → c k + e k = c k := fun k hk => by
    rcases dz_lo_c e with q | q
    · rw [q.2 k hk]; rfl
    · omega
  exact ⟨dz_lo_cong h0, dz_no_cong h0⟩
theorem dz_ad_gt {c e : Nat → Nat} (h : dz_lo c < dz_lo e) : dz_lo (fun k => c k + e k) = dz_lo c ∧ dz_no (fun k => c k + e k) = dz_no c := by
  have hle := dz_lo_le e
  rcases dz_lo_c c with q | q
  · omega
  · have he : ∀ j, j ≤ dz_lo c → e j = 0 := fun j hj => by
      rcases dz_lo_c e with r | r
      · exact r.2 j (by omega)
      · exact r.2.2 j (by omega)
    have e1 : dz_lo (fun k => c k + e k) = dz_lo c := dz_lo_s q.1 (by rw [he _ (Nat.le_refl _)]; exact q.2.1) (fun j hj => by rw [q.2.2 j hj, he j (by omega)])
    refine ⟨e1, ?_⟩
    rw [dz_no_s (by omega), dz_no_s (by omega), e1, he _ (Nat.le_refl _)]; rfl
theorem dz_ad_lt {c e : Nat → Nat} (h : dz_lo e < dz_lo c) : dz_lo (fun k => c k + e k) = dz_lo e ∧ dz_no (fun k => c k + e k) = dz_no e := by
  have := dz_ad_gt (c := e) (e := c) h
  have hc : (fun k => c k + e k) = (fun k => e k + c k) := funext fun k => Nat.add_comm _ _
  rw [hc]; exact this
theorem dz_ad_eq {c e : Nat → Nat} (h : dz_lo e = dz_lo c) (h2 : ¬ dz_lo e = 1000) : dz_lo (fun k => c k + e k) = dz_lo c ∧ dz_no (fun k => c k + e k) = dz_no c + dz_no e := by
  rcases dz_lo_c c with q | q
  · omega
  · rcases dz_lo_c e with r | r
    · omega
    · have e1 : dz_lo (fun k => c k + e k) = dz_lo c := dz_lo_s q.1 (by omega) (fun j hj => by rw [q.2.2 j hj, r.2.2 j (by omega)])
      refine ⟨e1, ?_⟩
      rw [dz_no_s (c := fun k => c k + e k) (by omega), dz_no_s (by omega), dz_no_s h2, e1, h]
/-- the stones of an item d: one new one, or none -/
def sg_sh (d : Nat) (c : Nat → Nat) (k : Nat) : Nat := if d = 10 then (if k = 0 then 0 else c (k - 1)) else c k
theorem sg_sh_n {d : Nat} (h : ¬ d = 10) (c : Nat → Nat) : sg_sh d c = c := by funext k; simp [sg_sh, h]
theorem sg_sh_lo (c : Nat → Nat) (h8 : c 8 = 0) : dz_lo (sg_sh 10 c) = (if dz_lo c = 1000 then 1000 else dz_lo c + 1) ∧ dz_no (sg_sh 10 c) = dz_no c := by
  rcases dz_lo_c c with q | q
  · have e1 : dz_lo (sg_sh 10 c) = 1000 := dz_lo_n (fun j hj => by
      unfold sg_sh
      by_cases hj0 : j = 0
      · simp [hj0]
      · simp [hj0, q.2 (j - 1) (by omega)])
    rw [if_pos q.1, dz_no_0 e1, dz_no_0 q.1]
    exact ⟨e1, rfl⟩
  · have hlt : dz_lo c < 8 := by
      rcases Nat.lt_or_ge (dz_lo c) 8 with h | h
      · exact h
      · have : dz_lo c = 8 := by omega
        rw [this] at q
        exact absurd h8 q.2.1
    have e1 : dz_lo (sg_sh 10 c) = dz_lo c + 1 := dz_lo_s (by omega) (by simp [sg_sh]; exact q.2.1) (fun j hj => by
      unfold sg_sh
      by_cases hj0 : j = 0
      · simp [hj0]
      · simp [hj0, q.2.2 (j - 1) (by omega)])
    rw [if_neg (by omega)]
    refine ⟨e1, ?_⟩
    rw [dz_no_s (by omega), dz_no_s (by omega), e1]
    simp [sg_sh]
def sg_nx (u d : Nat) : Nat := if d = 10 then u else u ||| 2 ^ d
noncomputable def sg_ok (s : dz_Sg) (p d u l : Nat) : Bool := dz_B ((d = 10 ∨ d < sg_n s) ∧ sg_may s p d u l)
/-- ways to fill the last r places behind u, over l, with k new stones -/
noncomputable def sg_C (s : dz_Sg) : Nat → Nat → Nat → Nat → Nat
  | 0, _, _, k => if k = 0 then 1 else 0
  | r + 1, u, l, k => fb_sm (fun d => if sg_ok s (sg_p s - (r + 1)) d u l then sg_sh d (sg_C s r (sg_nx u d) d) k else 0) 11
noncomputable def sg_E (s : dz_Sg) (r u l : Nat) (d k : Nat) : Nat := if sg_ok s (sg_p s - (r + 1)) d u l then sg_sh d (sg_C s r (sg_nx u d) d) k else 0
theorem sg_C_succ (s : dz_Sg) (r u l k : Nat) : sg_C s (r + 1) u l k = fb_sm (fun d => sg_E s r u l d k) 11 := rfl
theorem sg_C_big (s : dz_Sg) : ∀ (r u l k : Nat), r < k → sg_C s r u l k = 0
  | 0, u, l, k, h => by unfold sg_C; rw [if_neg (by omega)]
  | r + 1, u, l, k, h => by
    rw [sg_C_succ]
    have h0 : ∀ d, d < 11 → sg_E s r u l d k = 0 := fun d _ => by
      unfold sg_E sg_sh
      split
      · split
        · rw [if_neg (by omega)]; exact sg_C_big s r _ _ _ (by omega)
        · exact sg_C_big s r _ _ _ (by omega)
      · rfl
    rw [fb_sm_cong h0, fb_sm_const]
theorem sg_C_le (s : dz_Sg) : ∀ (r u l k : Nat), sg_C s r u l k ≤ 11 ^ r
  | 0, u, l, k => by unfold sg_C; split <;> decide
  | r + 1, u, l, k => by
    rw [sg_C_succ]
    have h0 : ∀ d, d < 11 → sg_E s r u l d k ≤ 11 ^ r := fun d _ => by
      unfold sg_E sg_sh
      split
      · split
        · split
          · exact Nat.zero_le _
          · exact sg_C_le s r _ _ _
        · exact sg_C_le s r _ _ _
      · exact Nat.zero_le _
    have := fb_sm_le h0
    rw [fb_sm_const] at this
    rw [Nat.pow_succ]; omega
/-- l is new stone, or a drum among u -/
def sg_vl (s : dz_Sg) (u l : Nat) : Prop := l = 10 ∨ (l < sg_n s ∧ u.testBit l = true)
noncomputable def sg_L (s : dz_Sg) (p u l : Nat) : Nat := if dz_B (p = sg_p s ∨ sg_vl s u l) then dz_lo (sg_C s (sg_p s - p) u l) else 1000
noncomputable def sg_M (s : dz_Sg) (p u l : Nat) : Nat := if dz_B (p = sg_p s ∨ sg_vl s u l) then dz_no (sg_C s (sg_p s - p) u l) else 0
theorem sg_L_v {s : dz_Sg} {p u l : Nat} (h : p = sg_p s ∨ sg_vl s u l) : sg_L s p u l = dz_lo (sg_C s (sg_p s - p) u l) := by unfold sg_L; rw [if_pos (dz_Bt.mpr h)]
theorem sg_M_v {s : dz_Sg} {p u l : Nat} (h : p = sg_p s ∨ sg_vl s u l) : sg_M s p u l = dz_no (sg_C s (sg_p s - p) u l) := by unfold sg_M; rw [if_pos (dz_Bt.mpr h)]
theorem sg_L_n {s : dz_Sg} {p u l : Nat} (h : ¬ (p = sg_p s ∨ sg_vl s u l)) : sg_L s p u l = 1000 := by unfold sg_L; rw [if_neg (fun q => h (dz_Bt.mp q))]
theorem sg_M_n {s : dz_Sg} {p u l : Nat} (h : ¬ (p = sg_p s ∨ sg_vl s u l)) : sg_M s p u l = 0 := by unfold sg_M; rw [if_neg (fun q => h (dz_Bt.mp q))]
theorem sg_L_P (s : dz_Sg) (u l : Nat) : sg_L s (sg_p s) u l = 0 ∧ sg_M s (sg_p s) u l = 1 := by
  rw [sg_L_v (Or.inl rfl), sg_M_v (Or.inl rfl), Nat.sub_self]
  have e : dz_lo (sg_C s 0 u l) = 0 := dz_lo_s (by decide) (by unfold sg_C; simp) (fun j hj => absurd hj (by omega))
  refine ⟨e, ?_⟩
  rw [dz_no_s (by omega), e]
  rfl
theorem sg_L_le (s : dz_Sg) (p u l : Nat) : sg_L s p u l ≤ 1000 := by
  unfold sg_L; split
  · exact dz_lo_le _
  · exact Nat.le_refl _
theorem sg_M_le (s : dz_Sg) (p u l : Nat) (hp : sg_p s ≤ 8) : sg_M s p u l ≤ 11 ^ 8 := by
  unfold sg_M; split
  · unfold dz_no; split
    · exact Nat.zero_le _
    · exact Nat.le_trans (sg_C_le s _ _ _ _) (Nat.pow_le_pow_right (by decide) (by omega))
  · exact Nat.zero_le _
def sg_ix (p u l : Nat) : Nat := (1024 * p + u) * 11 + l
theorem sg_ix_inj {p u l p2 u2 l2 : Nat} (hu : u < 1024) (hl : l < 11) (hu2 : u2 < 1024) (hl2 : l2 < 11) (h : sg_ix p u l = sg_ix p2 u2 l2) : p = p2 ∧ u = u2 ∧ l = l2 := by
  unfold sg_ix at h; omega
theorem sg_ix_lt {p u l : Nat} (hp : p ≤ 8) (hu : u < 1024) (hl : l < 11) : sg_ix p u l < 101376 := by
  unfold sg_ix; omega
theorem sg_nx_lt {u d n : Nat} (hu : u < 2 ^ n) (hd : d = 10 ∨ d < n) : sg_nx u d < 2 ^ n := by
  unfold sg_nx
  split
  · exact hu
  · exact Nat.or_lt_two_pow hu (Nat.pow_lt_pow_right (by decide) (by omega))
theorem sg_vl_nx {s : dz_Sg} {u d : Nat} (hd : d = 10 ∨ d < sg_n s) : sg_vl s (sg_nx u d) d := by
  unfold sg_vl sg_nx
  rcases hd with h | h
  · exact Or.inl h
  · by_cases h10 : d = 10
    · exact Or.inl h10
    · rw [if_neg h10]
      exact Or.inr ⟨h, by rw [fb_bit_set]; simp⟩
theorem dz_pn {n : Nat} (h : n ≤ 10) : 2 ^ n ≤ 1024 := by
  have : 2 ^ n ≤ 2 ^ 10 := Nat.pow_le_pow_right (by decide) h
  exact this
