/-! USAGE: how many best ways have an item at a place -/
theorem dz_sm_comm (f : Nat → Nat → Nat) : ∀ (a b : Nat), fb_sm (fun i => fb_sm (fun j => f i j) b) a = fb_sm (fun j => fb_sm (fun i => f i j) a) b
  | 0, b => by
    have h : ∀ j, j < b → fb_sm (fun i => f i j) 0 = 0 := fun _ _ => rfl
    rw [fb_sm_cong h, fb_sm_const]; rfl
  | a + 1, b => by
    rw [fb_sm_succ, dz_sm_comm f a b, ← fb_sm_add]
    exact fb_sm_cong (fun j _ => (fb_sm_succ _ _).symm)
theorem dz_sm_mul (f : Nat → Nat) (c : Nat) : ∀ n, fb_sm f n * c = fb_sm (fun k => f k * c) n
  | 0 => Nat.zero_mul c
  | n + 1 => by rw [fb_sm_succ, fb_sm_succ, Nat.add_mul, dz_sm_mul f c n]
theorem dz_sm_one (g : Nat → Nat) {k : Nat} : ∀ {n : Nat}, k < n → (∀ j, j < n → j ≠ k → g j = 0) → fb_sm g n = g k
  | 0, h, _ => absurd h (Nat.not_lt_zero k)
  | n + 1, h, h0 => by
    rw [fb_sm_succ]
    by_cases e : k = n
    · subst e
      rw [fb_sm_cong (fun j hj => h0 j (by omega) (by omega)), fb_sm_const]; omega
    · rw [dz_sm_one g (show k < n by omega) (fun j hj hjk => h0 j (by omega) hjk), h0 n (by omega) (by omega)]; rfl
theorem dz_sm_pos {f : Nat → Nat} {n : Nat} : 0 < fb_sm f n ↔ ∃ k, k < n ∧ 0 < f k := by
  constructor
  · intro h
    exact Classical.byContradiction fun hn => by
      have h0 : ∀ k, k < n → f k = 0 := fun k hk => by
        rcases Nat.eq_zero_or_pos (f k) with z | z
        · exact z
        · exact absurd ⟨k, hk, z⟩ hn
      rw [fb_sm_cong h0, fb_sm_const] at h
      omega
  · rintro ⟨k, hk, h⟩
    have := fb_sm_part f hk
    omega
/-- what flows over edges (i, j) to ix i j, weighed there -/
theorem dz_flow (K a b : Nat) (c : Nat → Nat → Bool) (ix : Nat → Nat → Nat) (v w : Nat → Nat) (hx : ∀ i j, i < a → j < b → c i j = true → ix i j < K) :
    fb_sm (fun m => fb_sm (fun i => fb_sm (fun j => if (c i j && decide (ix i j = m)) = true then v i else 0) b) a * w m) K = fb_sm (fun i => fb_sm (fun j => if c i j = true then v i * w (ix i j) else 0) b) a := by
  have h1 : ∀ m, m < K → fb_sm (fun i => fb_sm (fun j => if (c i j && decide (ix i j = m)) = true then v i else 0) b) a * w m = fb_sm (fun i => fb_sm (fun j => (if (c i j && decide (ix i j = m)) = true then v i else 0) * w m) b) a := fun m _ => by
    rw [dz_sm_mul]
    exact fb_sm_cong (fun i _ => dz_sm_mul _ _ _)
  rw [fb_sm_cong h1, dz_sm_comm (fun m i => fb_sm (fun j => (if (c i j && decide (ix i j = m)) = true then v i else 0) * w m) b)]
  refine fb_sm_cong (fun i hi => ?_)
  rw [dz_sm_comm (fun m j => (if (c i j && decide (ix i j = m)) = true then v i else 0) * w m)]
  refine fb_sm_cong (fun j hj => ?_)
  by_cases hc : c i j = true
  · rw [if_pos hc, dz_sm_one _ (hx i j hi hj hc) (fun m _ hm => by simp [Ne.symm hm])]
    simp [hc]
  · rw [if_neg hc]
    have h0 : ∀ m, m < K → (if (c i j && decide (ix i j = m)) = true then v i else 0) * w m = 0 := fun m _ => by simp [hc]
    rw [fb_sm_cong h0, fb_sm_const]; omega
/-- best steps, in numbers -/
noncomputable def sg_bb (s : dz_Sg) (p m d : Nat) : Bool := dz_B (sg_best s p d (m / 11) (m % 11))
def sg_mx (m d : Nat) : Nat := sg_nx (m / 11) d * 11 + d
noncomputable def sg_Ld (s : dz_Sg) : Nat → Nat → Nat
  | 0, m => if m = 10 then 1 else 0
  | p + 1, m => fb_sm (fun i => fb_sm (fun d => if (sg_bb s p i d && decide (sg_mx i d = m)) = true then sg_Ld s p i else 0) 11) (2 ^ sg_n s * 11)
noncomputable def sg_Mm (s : dz_Sg) (p m : Nat) : Nat := sg_M s p (m / 11) (m % 11)
noncomputable def sg_US (s : dz_Sg) (p d : Nat) : Nat := fb_sm (fun i => if sg_bb s p i d = true then sg_Ld s p i * sg_Mm s (p + 1) (sg_mx i d) else 0) (2 ^ sg_n s * 11)
theorem sg_mx_lt {s : dz_Sg} {p i d : Nat} (hi : i < 2 ^ sg_n s * 11) (hd : d < 11) (h : sg_bb s p i d = true) : sg_mx i d < 2 ^ sg_n s * 11 := by
  have hb := dz_Bt.mp h
  have hu : i / 11 < 2 ^ sg_n s := by omega
  have := sg_nx_lt hu hb.1
  unfold sg_mx; omega
theorem sg_mx_d {i d : Nat} (hd : d < 11) : sg_mx i d / 11 = sg_nx (i / 11) d ∧ sg_mx i d % 11 = d := by
  unfold sg_mx; omega
theorem sg_Ld_ok {s : dz_Sg} (h0 : ¬ sg_L s 0 0 10 = 1000) : ∀ (p m : Nat), 0 < sg_Ld s p m → sg_vl s (m / 11) (m % 11) ∧ ¬ sg_L s p (m / 11) (m % 11) = 1000
  | 0, m, h => by
    unfold sg_Ld at h
    split at h
    · rename_i e; subst e; exact ⟨Or.inl rfl, h0⟩
    · omega
  | p + 1, m, h => by
    unfold sg_Ld at h
    obtain ⟨i, hi, h⟩ := dz_sm_pos.mp h
    obtain ⟨d, hd, h⟩ := dz_sm_pos.mp h
    split at h
    · rename_i e
      simp only [Bool.and_eq_true, decide_eq_true_eq] at e
      obtain ⟨e1, rfl⟩ := e
      have hb := dz_Bt.mp e1
      rw [(sg_mx_d hd).1, (sg_mx_d hd).2]
      exact ⟨sg_vl_nx hb.1, hb.2.2.1⟩
    · omega
/-- the best ways from a state: by the next item -/
theorem sg_M_rec {s : dz_Sg} {p u l : Nat} (h8 : sg_p s ≤ 8) (hp : p < sg_p s) (hv : sg_vl s u l) (h : ¬ sg_L s p u l = 1000) : sg_M s p u l = fb_sm (fun d => if dz_B (sg_best s p d u l) = true then sg_M s (p + 1) (sg_nx u d) d else 0) 11 := by
  obtain ⟨r, hr⟩ : ∃ r, sg_p s = p + (r + 1) := ⟨sg_p s - p - 1, by omega⟩
  have er : sg_p s - p = r + 1 := by omega
  have er2 : sg_p s - (r + 1) = p := by omega
  have hL := sg_L_v (p := p) (Or.inr hv)
  have hM := sg_M_v (p := p) (Or.inr hv)
  rw [er] at hL hM
  rw [hM, dz_no_s (by rw [← hL]; exact h)]
  rcases dz_lo_c (sg_C s (r + 1) u l) with q | q
  · exact absurd (hL.trans q.1) h
  · obtain ⟨q1, q2, q3⟩ := q
    rw [sg_C_succ]
    refine fb_sm_cong (fun d hd => ?_)
    have hge : ∀ k, k < dz_lo (sg_C s (r + 1) u l) → sg_E s r u l d k = 0 := fun k hk => by
      have h0 := q3 k hk
      rw [sg_C_succ] at h0
      exact fb_sm_zero h0 d hd
    by_cases hok : sg_ok s (sg_p s - (r + 1)) d u l = true
    · obtain ⟨k1, k2⟩ := dz_Bt.mp hok
      obtain ⟨f1, f2⟩ := fi_e hr h8 k1 hok
      rw [er2] at k2
      by_cases hb : sg_best s p d u l
      · rw [if_pos (dz_Bt.mpr hb)]
        have hne := hb.2.2.1
        rw [← (f2 hne).2, dz_no_s (by rw [(f2 hne).1, hb.2.2.2]; exact h)]
        rw [(f2 hne).1, hb.2.2.2, hL]
      · rw [if_neg (fun z => hb (dz_Bt.mp z))]
        rcases dz_lo_c (sg_E s r u l d) with w | w
        · exact w.2 _ q1
        · refine w.2.2 _ ?_
          rcases Nat.lt_or_ge (dz_lo (sg_C s (r + 1) u l)) (dz_lo (sg_E s r u l d)) with z | z
          · exact z
          · exfalso
            have hle : dz_lo (sg_C s (r + 1) u l) ≤ dz_lo (sg_E s r u l d) := by
              rcases Nat.lt_or_ge (dz_lo (sg_E s r u l d)) (dz_lo (sg_C s (r + 1) u l)) with y | y
              · exact absurd (hge _ y) w.2.1
              · exact y
            have hne : ¬ sg_L s (p + 1) (sg_nx u d) d = 1000 := fun y => by
              have := f1 y
              omega
            exact hb ⟨k1, k2, hne, by rw [← (f2 hne).1, hL]; omega⟩
    · have hb : ¬ sg_best s p d u l := fun z => hok (dz_Bt.mpr ⟨z.1, by rw [er2]; exact z.2.1⟩)
      rw [if_neg (fun z => hb (dz_Bt.mp z))]
      unfold sg_E
      rw [if_neg hok]
theorem sg_flow {s : dz_Sg} (h8 : sg_p s ≤ 8) (h0 : ¬ sg_L s 0 0 10 = 1000) {p : Nat} (hp : p < sg_p s) :
    fb_sm (fun m => sg_Ld s p m * sg_Mm s p m) (2 ^ sg_n s * 11) = fb_sm (fun i => fb_sm (fun d => if sg_bb s p i d = true then sg_Ld s p i * sg_Mm s (p + 1) (sg_mx i d) else 0) 11) (2 ^ sg_n s * 11) := by
  refine fb_sm_cong (fun m hm => ?_)
  rcases Nat.eq_zero_or_pos (sg_Ld s p m) with z | z
  · rw [z, Nat.zero_mul]
    have hz : ∀ d, d < 11 → (if sg_bb s p m d = true then 0 * sg_Mm s (p + 1) (sg_mx m d) else 0) = 0 := fun d _ => by split <;> simp
    rw [fb_sm_cong hz, fb_sm_const]
  · obtain ⟨v1, v2⟩ := sg_Ld_ok h0 p m z
    have hM : sg_Mm s p m = fb_sm (fun d => if dz_B (sg_best s p d (m / 11) (m % 11)) = true then sg_M s (p + 1) (sg_nx (m / 11) d) d else 0) 11 := sg_M_rec h8 hp v1 v2
    rw [hM, Nat.mul_comm, dz_sm_mul]
    refine fb_sm_cong (fun d hd => ?_)
    show (if sg_bb s p m d = true then _ else 0) * _ = _
    by_cases hb : sg_bb s p m d = true
    · rw [if_pos hb, if_pos hb, Nat.mul_comm]
      unfold sg_Mm
      rw [(sg_mx_d hd).1, (sg_mx_d hd).2]
    · rw [if_neg hb, if_neg hb, Nat.zero_mul]
theorem sg_total {s : dz_Sg} (h8 : sg_p s ≤ 8) (h0 : ¬ sg_L s 0 0 10 = 1000) : ∀ p, p ≤ sg_p s → fb_sm (fun m => sg_Ld s p m * sg_Mm s p m) (2 ^ sg_n s * 11) = sg_M s 0 0 10
  | 0, _ => by
    rw [dz_sm_one _ (k := 10) (by have := Nat.two_pow_pos (sg_n s); omega) (fun j _ hj => by unfold sg_Ld; rw [if_neg hj, Nat.zero_mul])]
    show (if 10 = 10 then 1 else 0) * sg_M s 0 (10 / 11) (10 % 11) = _
    rw [if_pos rfl, Nat.one_mul]
  | p + 1, hp => by
    have ih := sg_total h8 h0 p (by omega)
    rw [sg_flow h8 h0 (by omega)] at ih
    rw [← ih]
    exact dz_flow (2 ^ sg_n s * 11) (2 ^ sg_n s * 11) 11 (sg_bb s p) sg_mx (sg_Ld s p) (sg_Mm s (p + 1)) (fun i j hi hj hc => sg_mx_lt hi hj hc)
theorem sg_US_total {s : dz_Sg} (h8 : sg_p s ≤ 8) (h0 : ¬ sg_L s 0 0 10 = 1000) {p : Nat} (hp : p < sg_p s) : fb_sm (fun d => sg_US s p d) 11 = sg_M s 0 0 10 := by
  rw [← sg_total h8 h0 p (by omega), sg_flow h8 h0 hp]
  exact (dz_sm_comm (fun i d => if sg_bb s p i d = true then sg_Ld s p i * sg_Mm s (p + 1) (sg_mx i d) else 0) (2 ^ sg_n s * 11) 11).symm
theorem sg_Mm_pos {s : dz_Sg} {p m : Nat} (hv : p = sg_p s ∨ sg_vl s (m / 11) (m % 11)) (h : ¬ sg_L s p (m / 11) (m % 11) = 1000) : 0 < sg_Mm s p m := by
  unfold sg_Mm
  rw [sg_M_v hv]
  rw [sg_L_v hv] at h
  exact dz_no_pos h
theorem sg_Ld_le {s : dz_Sg} (h8 : sg_p s ≤ 8) (h0 : ¬ sg_L s 0 0 10 = 1000) {p m : Nat} (hp : p ≤ sg_p s) (hm : m < 2 ^ sg_n s * 11) : sg_Ld s p m ≤ 11 ^ 8 := by
  rcases Nat.eq_zero_or_pos (sg_Ld s p m) with z | z
  · rw [z]; exact Nat.zero_le _
  · obtain ⟨v1, v2⟩ := sg_Ld_ok h0 p m z
    have h1 := sg_Mm_pos (p := p) (Or.inr v1) v2
    have h2 := fb_sm_part (fun m => sg_Ld s p m * sg_Mm s p m) hm
    rw [sg_total h8 h0 p hp] at h2
    have h3 := sg_M_le s 0 0 10 h8
    have h4 : sg_Ld s p m ≤ sg_Ld s p m * sg_Mm s p m := Nat.le_mul_of_pos_right _ h1
    omega
theorem sg_US_le {s : dz_Sg} (h8 : sg_p s ≤ 8) (h0 : ¬ sg_L s 0 0 10 = 1000) {p d : Nat} (hp : p < sg_p s) (hd : d < 11) : sg_US s p d ≤ 11 ^ 8 := by
  have h2 := fb_sm_part (fun d => sg_US s p d) hd
  rw [sg_US_total h8 h0 hp] at h2
  have h3 := sg_M_le s 0 0 10 h8
  omega
/-- an item that some best way has at a place -/
def sg_held (s : dz_Sg) (p d : Nat) : Prop := ∃ i, i < 2 ^ sg_n s * 11 ∧ 0 < sg_Ld s p i ∧ sg_best s p d (i / 11) (i % 11)
theorem sg_US_pos {s : dz_Sg} {p d : Nat} (hd : d < 11) : 0 < sg_US s p d ↔ sg_held s p d := by
  unfold sg_US sg_held
  rw [dz_sm_pos]
  constructor
  · rintro ⟨i, hi, h⟩
    split at h
    · rename_i e
      refine ⟨i, hi, Nat.pos_of_ne_zero (fun z => by rw [z, Nat.zero_mul] at h; omega), dz_Bt.mp e⟩
    · omega
  · rintro ⟨i, hi, h1, h2⟩
    refine ⟨i, hi, ?_⟩
    have hb : sg_bb s p i d = true := dz_Bt.mpr h2
    rw [if_pos hb]
    refine Nat.mul_pos h1 (sg_Mm_pos ?_ ?_)
    · rw [(sg_mx_d hd).1, (sg_mx_d hd).2]; exact Or.inr (sg_vl_nx h2.1)
    · rw [(sg_mx_d hd).1, (sg_mx_d hd).2]; exact h2.2.2.1
/-- all best ways have d there, if some has it and none has another -/
theorem sg_US_all {s : dz_Sg} (h8 : sg_p s ≤ 8) (h0 : ¬ sg_L s 0 0 10 = 1000) {p d : Nat} (hp : p < sg_p s) (hd : d < 11) : sg_US s p d = sg_M s 0 0 10 ↔ ∀ j, j < 11 → (sg_held s p j ↔ j = d) := by
  have ht := sg_US_total h8 h0 hp
  have hpos : 0 < sg_M s 0 0 10 := by
    have := sg_Mm_pos (s := s) (p := 0) (m := 10) (Or.inr (Or.inl rfl)) h0
    exact this
  constructor
  · intro h j hj
    constructor
    · intro hh
      exact Classical.byContradiction fun hne => by
        have h1 := (sg_US_pos hj).mpr hh
        have hu := fb_sm_upd (fun d => sg_US s p d) 0 hj
        have hdd := fb_sm_part (fun k => if k = j then 0 else sg_US s p k) hd
        simp only [Ne.symm hne, if_neg, not_false_eq_true] at hdd
        rw [ht] at hu
        omega
    · rintro rfl
      exact (sg_US_pos hd).mp (by omega)
  · intro h
    rw [← ht]
    exact (dz_sm_one (fun d => sg_US s p d) hd (fun j hj hne => by
      rcases Nat.eq_zero_or_pos (sg_US s p j) with z | z
      · exact z
      · exact absurd ((h j hj).mp ((sg_US_pos hj).mp z)) hne)).symm
