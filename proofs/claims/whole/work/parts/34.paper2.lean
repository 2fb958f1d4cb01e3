/-! THE PAPER, in numbers (2): its states against the model's; lists of states; levels -/
theorem dz_B_cong {P Q : Prop} (h : P ↔ Q) : dz_B P = dz_B Q := by rw [propext h]
theorem pa_head2 {s : dz_Sg} (hO : dz_OK s) {p : Nat} (hp : p < sg_p s) : sg_head s p ↔ (p + 1 = sg_p s ∨ sg_foot s (p + 1)) := by
  rw [pa_head hO hp]
  constructor
  · rintro (h | h)
    · exact Or.inl h
    · exact Or.inr h.2
  · rintro (h | h)
    · exact Or.inl h
    · rcases Nat.lt_or_ge (p + 1) (sg_p s) with z | z
      · exact Or.inr ⟨z, h⟩
      · exact Or.inl (by omega)
/-- the paper's state for the model's (u, l) -/
noncomputable def ph (s : dz_Sg) (p u l : Nat) : Nat := u * 11 + (if dz_B (p = sg_p s ∨ sg_foot s p) = true then 10 else l)
theorem ph_d {s : dz_Sg} {p u l : Nat} (hl : l < 11) : ph s p u l / 11 = u ∧ ph s p u l % 11 = (if dz_B (p = sg_p s ∨ sg_foot s p) = true then 10 else l) := by
  unfold ph; split <;> omega
theorem ph_lt {s : dz_Sg} {p u l n : Nat} (hl : l < 11) (hu : u < n) : ph s p u l < n * 11 := by
  unfold ph; split <;> omega
theorem ph_nx {s : dz_Sg} (hO : dz_OK s) {p u l d : Nat} (hp : p < sg_p s) (hl : l < 11) : pa_nx s p (ph s p u l) d = ph s (p + 1) (sg_nx u d) d := by
  unfold pa_nx
  rw [(ph_d hl).1]
  unfold pa_hd ph
  rw [dz_B_cong (pa_head2 hO hp)]
theorem ph_ok {s : dz_Sg} {p u l d : Nat} (hp : p < sg_p s) (hl : l < 11) : pa_ok s p (ph s p u l) d = sg_ok s p d u l := by
  unfold pa_ok
  rw [(ph_d hl).1, (ph_d hl).2]
  by_cases h : p = sg_p s ∨ sg_foot s p
  · have hf : sg_foot s p := h.elim (fun e => absurd e (by omega)) id
    exact sg_ok_foot hf
  · rw [if_neg (fun z => h (dz_Bt.mp z))]
theorem ph_C {s : dz_Sg} {p u l : Nat} (hp : p ≤ sg_p s) (hl : l < 11) (k : Nat) : pa_Cm s p (ph s p u l) k = sg_C s (sg_p s - p) u l k := by
  unfold pa_Cm
  rw [(ph_d hl).1, (ph_d hl).2]
  by_cases h : p = sg_p s ∨ sg_foot s p
  · exact sg_C_foot hp h k
  · rw [if_neg (fun z => h (dz_Bt.mp z))]
theorem ph_next {s : dz_Sg} (hO : dz_OK s) {p u l d : Nat} (hp : p < sg_p s) (hl : l < 11) (hu : u < 2 ^ sg_n s) (hg : 0 < pa_G s p (ph s p u l)) (hK : pa_lev p (ph s p u l) + sg_L s p u l = pa_K s) (hd : d < 11) (hb : sg_best s p d u l) : pa_ok s p (ph s p u l) d = true ∧ 0 < pa_G s (p + 1) (ph s (p + 1) (sg_nx u d) d) ∧ pa_lev (p + 1) (ph s (p + 1) (sg_nx u d) d) + sg_L s (p + 1) (sg_nx u d) d = pa_K s ∧ pa_on s (p + 1) (ph s (p + 1) (sg_nx u d) d) := by
  obtain ⟨k1, k2, k3, k4⟩ := hb
  have h1 : pa_ok s p (ph s p u l) d = true := by rw [ph_ok hp hl]; exact dz_Bt.mpr ⟨k1, k2⟩
  have hlev := pa_lev_nx hO hp hd h1 hg
  have hst := pa_G_step (ph_lt hl hu) hd h1 hg
  rw [ph_nx hO hp hl] at hlev hst
  have e : pa_lev (p + 1) (ph s (p + 1) (sg_nx u d) d) + sg_L s (p + 1) (sg_nx u d) d = pa_K s := by
    generalize (if d = 10 then 1 else 0) = x at hlev k4
    omega
  refine ⟨h1, hst, e, hst, by omega, ?_⟩
  rw [ph_C (by omega) hd]
  have hL := sg_L_v (s := s) (p := p + 1) (Or.inr (sg_vl_nx (u := u) k1))
  rcases dz_lo_c (sg_C s (sg_p s - (p + 1)) (sg_nx u d) d) with q | q
  · exact absurd (hL.trans q.1) k3
  · have e2 : pa_K s - pa_lev (p + 1) (ph s (p + 1) (sg_nx u d) d) = dz_lo (sg_C s (sg_p s - (p + 1)) (sg_nx u d) d) := by omega
    rw [e2]
    exact Nat.pos_of_ne_zero q.2.1
theorem ph_core {s : dz_Sg} (hO : dz_OK s) {p u l d : Nat} (hp : p < sg_p s) (hl : l < 11) (hu : u < 2 ^ sg_n s) (hg : 0 < pa_G s p (ph s p u l)) (hK : pa_lev p (ph s p u l) + sg_L s p u l = pa_K s) (hd : d < 11) : (pa_ok s p (ph s p u l) d = true ∧ pa_on s (p + 1) (pa_nx s p (ph s p u l) d)) ↔ sg_best s p d u l := by
  constructor
  · rintro ⟨h1, h2⟩
    have hlev := pa_lev_nx hO hp hd h1 hg
    rw [ph_nx hO hp hl] at h2 hlev
    have h1' := h1
    rw [ph_ok hp hl] at h1'
    obtain ⟨k1, k2⟩ := dz_Bt.mp h1'
    have hL := sg_L_v (s := s) (p := p + 1) (Or.inr (sg_vl_nx (u := u) k1))
    obtain ⟨a1, a2, a3⟩ := h2
    rw [ph_C (by omega) hd] at a3
    have hKc := pa_K_c hO.2.2.1
    have h8 := hO.2.2.1
    rcases dz_lo_c (sg_C s (sg_p s - (p + 1)) (sg_nx u d) d) with q | q
    · rw [q.2 _ (by omega)] at a3; omega
    · obtain ⟨q1, q2, q3⟩ := q
      have hle : dz_lo (sg_C s (sg_p s - (p + 1)) (sg_nx u d) d) ≤ pa_K s - pa_lev (p + 1) (ph s (p + 1) (sg_nx u d) d) := by
        rcases Nat.lt_or_ge (pa_K s - pa_lev (p + 1) (ph s (p + 1) (sg_nx u d) d)) (dz_lo (sg_C s (sg_p s - (p + 1)) (sg_nx u d) d)) with z | z
        · rw [q3 _ z] at a3; omega
        · exact z
      have hge : ¬ pa_lev (p + 1) (ph s (p + 1) (sg_nx u d) d) + dz_lo (sg_C s (sg_p s - (p + 1)) (sg_nx u d) d) < pa_K s := fun z => by
        have h := pa_pos hO (p := p + 1) (by omega) a1 (j := dz_lo (sg_C s (sg_p s - (p + 1)) (sg_nx u d) d)) (by rw [ph_C (by omega) hd]; exact Nat.pos_of_ne_zero q2)
        rw [hKc.2.1 _ z] at h
        omega
      refine ⟨k1, k2, by omega, ?_⟩
      generalize (if d = 10 then 1 else 0) = x at hlev ⊢
      omega
  · intro hb
    obtain ⟨a1, a2, a3, a4⟩ := ph_next hO hp hl hu hg hK hd hb
    exact ⟨a1, by rw [ph_nx hO hp hl]; exact a4⟩
theorem ph_0 (s : dz_Sg) : ph s 0 0 10 = 10 := by
  unfold ph; split <;> rfl
theorem pa_K_no {s : dz_Sg} (hno : ¬ sg_no s) : pa_K s = sg_L s 0 0 10 := by
  unfold pa_K; rw [if_neg (fun z => hno (dz_Bt.mp z))]
theorem ph_st {s : dz_Sg} (hno : ¬ sg_no s) : 0 < pa_G s 0 (ph s 0 0 10) ∧ pa_lev 0 (ph s 0 0 10) + sg_L s 0 0 10 = pa_K s := by
  rw [ph_0, pa_K_no hno]
  refine ⟨by unfold pa_G; rw [if_pos rfl]; exact Nat.one_pos, ?_⟩
  unfold pa_lev; omega
theorem ph_A {s : dz_Sg} (hO : dz_OK s) (hno : ¬ sg_no s) : ∀ (p i : Nat), p ≤ sg_p s → 0 < sg_Ld s p i → i / 11 < 2 ^ sg_n s ∧ 0 < pa_G s p (ph s p (i / 11) (i % 11)) ∧ pa_lev p (ph s p (i / 11) (i % 11)) + sg_L s p (i / 11) (i % 11) = pa_K s
  | 0, i, _, h => by
    unfold sg_Ld at h
    split at h
    · rename_i e
      subst e
      exact ⟨Nat.two_pow_pos _, ph_st hno⟩
    · omega
  | p + 1, i, hp, h => by
    unfold sg_Ld at h
    obtain ⟨j, hj, h2⟩ := dz_sm_pos.mp h
    obtain ⟨d, hd, h3⟩ := dz_sm_pos.mp h2
    clear h h2
    split at h3
    · rename_i e
      simp only [Bool.and_eq_true, decide_eq_true_eq] at e
      obtain ⟨e1, rfl⟩ := e
      have hb := dz_Bt.mp e1
      obtain ⟨a1, a2, a3⟩ := ph_A hO hno p j (by omega) h3
      have hn := ph_next hO (by omega) (Nat.mod_lt _ (by decide)) a1 a2 a3 hd hb
      rw [(sg_mx_d hd).1, (sg_mx_d hd).2]
      exact ⟨sg_nx_lt a1 hb.1, hn.2.1, hn.2.2.1⟩
    · omega
theorem ph_B {s : dz_Sg} (hO : dz_OK s) (hno : ¬ sg_no s) : ∀ (p m : Nat), p ≤ sg_p s → pa_on s p m → ∃ i, i < 2 ^ sg_n s * 11 ∧ 0 < sg_Ld s p i ∧ ph s p (i / 11) (i % 11) = m
  | 0, m, _, h => by
    have h1 := h.1
    unfold pa_G at h1
    split at h1
    · rename_i e
      subst e
      refine ⟨10, by have := Nat.two_pow_pos (sg_n s); omega, by unfold sg_Ld; rw [if_pos rfl]; exact Nat.one_pos, ph_0 s⟩
    · omega
  | p + 1, m, hp, h => by
    obtain ⟨m0, d, hm0, hd, h1, h2, h3⟩ := pa_G_inv h.1
    subst h2
    have hon := pa_on_lev hO (by omega) hd h3 h1 h
    obtain ⟨i, hi, hL, he⟩ := ph_B hO hno p m0 (by omega) hon
    obtain ⟨a1, a2, a3⟩ := ph_A hO hno p i (by omega) hL
    subst he
    have hb := (ph_core hO (by omega) (Nat.mod_lt _ (by decide)) a1 a2 a3 hd).mp ⟨h1, h⟩
    have hbb : sg_bb s p i d = true := dz_Bt.mpr hb
    refine ⟨sg_mx i d, sg_mx_lt hi hd hbb, ?_, ?_⟩
    · unfold sg_Ld
      refine dz_sm_pos.mpr ⟨i, hi, dz_sm_pos.mpr ⟨d, hd, ?_⟩⟩
      rw [if_pos (by simp [hbb])]
      exact hL
    · rw [(sg_mx_d hd).1, (sg_mx_d hd).2, ph_nx hO (by omega) (Nat.mod_lt _ (by decide))]
/-- what BEST ways hold at a place, by the paper -/
theorem pa_held {s : dz_Sg} (hO : dz_OK s) (hno : ¬ sg_no s) {p d : Nat} (hp : p < sg_p s) (hd : d < 11) : sg_held s p d ↔ ∃ m, 0 < pa_G s p m ∧ pa_lev p m ≤ pa_K s ∧ pa_ok s p m d = true ∧ pa_on s (p + 1) (pa_nx s p m d) := by
  constructor
  · rintro ⟨i, hi, h1, h2⟩
    obtain ⟨a1, a2, a3⟩ := ph_A hO hno p i (by omega) h1
    have hb := (ph_core hO hp (Nat.mod_lt _ (by decide)) a1 a2 a3 hd).mpr h2
    exact ⟨_, a2, by omega, hb.1, hb.2⟩
  · rintro ⟨m, h1, h2, h3, h4⟩
    obtain ⟨i, hi, hL, he⟩ := ph_B hO hno p m (by omega) (pa_on_lev hO hp hd h1 h3 h4)
    obtain ⟨a1, a2, a3⟩ := ph_A hO hno p i (by omega) hL
    subst he
    exact ⟨i, hi, hL, (ph_core hO hp (Nat.mod_lt _ (by decide)) a1 a2 a3 hd).mp ⟨h3, h4⟩⟩
theorem sg_vl_lt {s : dz_Sg} {u l : Nat} (hn : sg_n s ≤ 10) (h : sg_vl s u l) : l < 11 := by
  rcases h with h | h <;> omega
theorem pa_go {s : dz_Sg} (hO : dz_OK s) (hno : ¬ sg_no s) : ∀ p, p ≤ sg_p s → 0 < pa_G s p (ph s p (sg_go s p).1 (sg_go s p).2) ∧ pa_lev p (ph s p (sg_go s p).1 (sg_go s p).2) + sg_L s p (sg_go s p).1 (sg_go s p).2 = pa_K s
  | 0, _ => ph_st hno
  | p + 1, hp => by
    obtain ⟨a1, a2⟩ := pa_go hO hno p (by omega)
    obtain ⟨g1, g2, g3⟩ := sg_go_ok hO.2.2.1 hno p (by omega)
    obtain ⟨w1, w2, w3⟩ := sg_fw_ok hO.2.2.1 hno (show p < sg_p s by omega)
    have hn := ph_next hO (by omega) (sg_vl_lt hO.1 g2) g1 a1 a2 w1 w2
    rw [sg_go_s]
    exact ⟨hn.2.1, hn.2.2.1⟩
/-! lists -/
theorem dz_enum (F r : Nat → Nat) (M : Nat) : ∀ a, (∀ j, j < a → r j < M) → (∀ i j, i < a → j < a → r i = r j → i = j) → fb_sm (fun j => F (r j)) a = fb_sm (fun i => if dz_B (∃ j, j < a ∧ r j = i) = true then F i else 0) M
  | 0, _, _ => by
    have h0 : ∀ i, i < M → (if dz_B (∃ j, j < 0 ∧ r j = i) = true then F i else 0) = 0 := fun i _ => by
      rw [if_neg (fun z => by obtain ⟨j, hj, _⟩ := dz_Bt.mp z; omega)]
    rw [fb_sm_cong h0, fb_sm_const]; rfl
  | a + 1, hr, hi => by
    have ih := dz_enum F r M a (fun j hj => hr j (by omega)) (fun i j h1 h2 => hi i j (by omega) (by omega))
    rw [fb_sm_succ, ih]
    have hu := fb_sm_upd (fun i => if dz_B (∃ j, j < a ∧ r j = i) = true then F i else 0) (F (r a)) (hr a (by omega))
    have hz : (if dz_B (∃ j, j < a ∧ r j = r a) = true then F (r a) else 0) = 0 := by
      rw [if_neg (fun z => by
        obtain ⟨j, hj, e⟩ := dz_Bt.mp z
        have := hi j a (by omega) (by omega) e
        omega)]
    rw [hz, Nat.add_zero] at hu
    rw [← hu]
    refine fb_sm_cong (fun i _ => ?_)
    by_cases e : i = r a
    · subst e
      rw [if_pos rfl, if_pos (dz_Bt.mpr ⟨a, by omega, rfl⟩)]
    · rw [if_neg e]
      have : dz_B (∃ j, j < a ∧ r j = i) = dz_B (∃ j, j < a + 1 ∧ r j = i) := dz_B_cong ⟨fun ⟨j, h1, h2⟩ => ⟨j, by omega, h2⟩, fun ⟨j, h1, h2⟩ => ⟨j, by
        rcases Nat.lt_or_ge j a with z | z
        · exact z
        · exact absurd (by rw [← h2, show j = a by omega]) e, h2⟩⟩
      rw [this]
theorem dz_holes (r : Nat → Nat) (M : Nat) : ∀ (a : Nat) (q : Nat → Bool), (∀ j, j < a → r j < M ∧ q (r j) = true) → (∀ i j, i < a → j < a → r i = r j → i = j) → a ≤ fb_ct q M
  | 0, _, _, _ => Nat.zero_le _
  | a + 1, q, hr, hi => by
    have ih := dz_holes r M a (fun k => if k = r a then false else q k) (fun j hj => ⟨(hr j (by omega)).1, by
      have hne : ¬ r j = r a := fun e => by have := hi j a (by omega) (by omega) e; omega
      show (if r j = r a then false else q (r j)) = true
      rw [if_neg hne]; exact (hr j (by omega)).2⟩) (fun i j h1 h2 => hi i j (by omega) (by omega))
    have hu := fb_ct_upd q false (hr a (by omega)).1
    rw [(hr a (by omega)).2] at hu
    simp only [if_true, Bool.false_eq_true, if_false] at hu
    omega
theorem fb_ct_blk (q : Nat → Bool) : ∀ a, fb_ct q (a * 11) = fb_sm (fun u => fb_ct (fun l => q (u * 11 + l)) 11) a
  | 0 => rfl
  | a + 1 => by rw [show (a + 1) * 11 = a * 11 + 11 by omega, fb_ct_split, fb_ct_blk q a, fb_sm_succ]
def pv (m : Nat) : Bool := (m % 11 == 10) || (m / 11).testBit (m % 11)
theorem pv_sum : fb_sm (fun u => fb_ct (fun l => pv (u * 11 + l)) 11) 1024 = 6144 := by decide +kernel
theorem pv_ct : fb_ct pv 11264 = 6144 := (fb_ct_blk pv 1024).trans pv_sum
theorem pv_vd {s : dz_Sg} {p m : Nat} (hn : sg_n s ≤ 10) (h : pa_vd s p m) : m < 11264 ∧ pv m = true := by
  have h1 := h.1
  have h2 := dz_pn hn
  refine ⟨by omega, ?_⟩
  unfold pv
  rcases h.2.1 with e | e
  · simp [e]
  · simp [e.2]
/-! levels -/
noncomputable def pa_gk (s : dz_Sg) (k f m : Nat) : Nat := if pa_lev f m < k then pa_G s f m else 0
noncomputable def pa_E (s : dz_Sg) (p i d m : Nat) : Nat := if (pa_ok s p i d && decide (pa_nx s p i d = m)) = true then pa_G s p i else 0
noncomputable def pa_S (s : dz_Sg) (p : Nat) (r : Nat → Nat) (a b m : Nat) : Nat := fb_sm (fun j => fb_sm (fun d => pa_E s p (r j) d m) 10) a + fb_sm (fun j => pa_E s p (r j) 10 m) b
theorem pa_G_succ (s : dz_Sg) (p m : Nat) : pa_G s (p + 1) m = fb_sm (fun i => fb_sm (fun d => pa_E s p i d m) 11) (2 ^ sg_n s * 11) := rfl
theorem pa_E_lev {s : dz_Sg} (hO : dz_OK s) {p i d m : Nat} (hp : p < sg_p s) (hd : d < 11) (h : ¬ pa_E s p i d m = 0) : pa_lev (p + 1) m = pa_lev p i + (if d = 10 then 1 else 0) ∧ 0 < pa_G s p i := by
  unfold pa_E at h
  split at h
  · rename_i e
    simp only [Bool.and_eq_true, decide_eq_true_eq] at e
    obtain ⟨e1, rfl⟩ := e
    exact ⟨pa_lev_nx hO hp hd e1 (Nat.pos_of_ne_zero h), Nat.pos_of_ne_zero h⟩
  · exact absurd rfl h
theorem pa_E_0 {s : dz_Sg} {p i d m : Nat} (h : pa_G s p i = 0) : pa_E s p i d m = 0 := by
  unfold pa_E; split
  · exact h
  · rfl
theorem pa_gk_pos {s : dz_Sg} {k f m : Nat} : 0 < pa_gk s k f m ↔ 0 < pa_G s f m ∧ pa_lev f m < k := by
  unfold pa_gk; split
  · rename_i h; exact ⟨fun z => ⟨z, h⟩, fun z => z.1⟩
  · rename_i h; exact ⟨fun z => by omega, fun z => absurd z.2 h⟩
theorem pa_S_full {s : dz_Sg} (hO : dz_OK s) {p k a b : Nat} {r : Nat → Nat} (hp : p < sg_p s) (hab : b ≤ a) (hi : ∀ i j, i < a → j < a → r i = r j → i = j) (ha : ∀ m, 0 < pa_gk s (k + 1) p m ↔ ∃ i, i < a ∧ r i = m) (hb : ∀ m, 0 < pa_gk s k p m ↔ ∃ i, i < b ∧ r i = m) (m : Nat) : pa_S s p r a b m = pa_gk s (k + 1) (p + 1) m := by
  have hr : ∀ j, j < a → r j < 2 ^ sg_n s * 11 := fun j hj => (pa_G_vd hO p _ (by omega) (pa_gk_pos.mp ((ha _).mpr ⟨j, hj, rfl⟩)).1).1.1
  unfold pa_S
  rw [dz_enum (fun i => fb_sm (fun d => pa_E s p i d m) 10) r (2 ^ sg_n s * 11) a hr hi, dz_enum (fun i => pa_E s p i 10 m) r (2 ^ sg_n s * 11) b (fun j hj => hr j (by omega)) (fun i j h1 h2 => hi i j (by omega) (by omega)), ← fb_sm_add]
  have key : ∀ i, i < 2 ^ sg_n s * 11 → (if dz_B (∃ j, j < a ∧ r j = i) = true then fb_sm (fun d => pa_E s p i d m) 10 else 0) + (if dz_B (∃ j, j < b ∧ r j = i) = true then pa_E s p i 10 m else 0) = (if pa_lev (p + 1) m < k + 1 then fb_sm (fun d => pa_E s p i d m) 11 else 0) := fun i _ => by
    rw [dz_B_cong (ha i).symm, dz_B_cong (hb i).symm, dz_B_cong (pa_gk_pos (s := s)), dz_B_cong (pa_gk_pos (s := s)), show fb_sm (fun d => pa_E s p i d m) 11 = fb_sm (fun d => pa_E s p i d m) 10 + pa_E s p i 10 m from fb_sm_succ _ _]
    have z1 : ¬ (0 < pa_G s p i ∧ pa_lev p i = pa_lev (p + 1) m) → fb_sm (fun d => pa_E s p i d m) 10 = 0 := fun h => by
      have h0 : ∀ d, d < 10 → pa_E s p i d m = 0 := fun d hd => Classical.byContradiction fun z => by
        have := pa_E_lev hO hp (by omega) z
        rw [if_neg (by omega)] at this
        exact h ⟨this.2, by omega⟩
      rw [fb_sm_cong h0, fb_sm_const]
    have z2 : ¬ (0 < pa_G s p i ∧ pa_lev p i + 1 = pa_lev (p + 1) m) → pa_E s p i 10 m = 0 := fun h => Classical.byContradiction fun z => by
      have := pa_E_lev hO hp (by omega) z
      rw [if_pos rfl] at this
      exact h ⟨this.2, by omega⟩
    by_cases c1 : 0 < pa_G s p i ∧ pa_lev p i = pa_lev (p + 1) m
    · have e2 := z2 (by omega)
      rw [e2]
      by_cases c3 : pa_lev (p + 1) m < k + 1
      · rw [if_pos c3, if_pos (dz_Bt.mpr ⟨c1.1, by omega⟩)]; split <;> rfl
      · rw [if_neg c3, if_neg (fun z => by have := (dz_Bt.mp z).2; omega)]; split <;> rfl
    · rw [z1 c1]
      by_cases c2 : 0 < pa_G s p i ∧ pa_lev p i + 1 = pa_lev (p + 1) m
      · by_cases c3 : pa_lev (p + 1) m < k + 1
        · rw [if_pos c3, if_pos (c := dz_B (0 < pa_G s p i ∧ pa_lev p i < k) = true) (dz_Bt.mpr ⟨c2.1, by omega⟩)]; split <;> rfl
        · rw [if_neg c3, if_neg (c := dz_B (0 < pa_G s p i ∧ pa_lev p i < k) = true) (fun z => by have := (dz_Bt.mp z).2; omega)]; split <;> rfl
      · rw [z2 c2]; split <;> split <;> split <;> rfl
  rw [fb_sm_cong key]
  unfold pa_gk
  by_cases c : pa_lev (p + 1) m < k + 1
  · simp only [c, if_true]; rfl
  · simp only [c, if_false]; rw [fb_sm_const]; rfl
theorem pa_S_mono {s : dz_Sg} {p a b a2 b2 m : Nat} {r : Nat → Nat} (ha : a ≤ a2) (hb : b ≤ b2) : pa_S s p r a b m ≤ pa_S s p r a2 b2 m := by
  obtain ⟨x, rfl⟩ := Nat.exists_eq_add_of_le ha
  obtain ⟨y, rfl⟩ := Nat.exists_eq_add_of_le hb
  unfold pa_S
  have h1 := fb_sm_mono (fun j => fb_sm (fun d => pa_E s p (r j) d m) 10) a x
  have h2 := fb_sm_mono (fun j => pa_E s p (r j) 10 m) b y
  omega
theorem pa_gk_le {s : dz_Sg} (hO : dz_OK s) {k p : Nat} (hp : p ≤ sg_p s) (m : Nat) : pa_gk s k p m ≤ 11 ^ 8 := by
  unfold pa_gk; split
  · exact pa_G_le hO hp m
  · exact Nat.zero_le _
/-- all that BEST ways are, at the last place -/
theorem pa_last {s : dz_Sg} (hO : dz_OK s) {m : Nat} : pa_gk s (pa_K s + 1) (sg_p s) m = pa_G s (sg_p s) m * pa_w s (sg_p s) (pa_K s) m := by
  have h0 : ∀ k, pa_Cm s (sg_p s) m k = if k = 0 then 1 else 0 := fun k => by unfold pa_Cm; rw [Nat.sub_self]; rfl
  rcases Nat.eq_zero_or_pos (pa_G s (sg_p s) m) with z | z
  · rw [z, Nat.zero_mul]; unfold pa_gk; rw [z]; split <;> rfl
  · unfold pa_gk pa_w
    by_cases c : pa_lev (sg_p s) m ≤ pa_K s
    · rw [if_pos (by omega), if_pos c, h0]
      have h1 := ((pa_on_end hO).mpr ⟨z, c⟩).2.2
      rw [h0] at h1
      split at h1
      · rename_i e; rw [if_pos e, Nat.mul_one]
      · omega
    · rw [if_neg (by omega), if_neg c, Nat.mul_zero]
theorem pa_ways {s : dz_Sg} (hO : dz_OK s) {a : Nat} {r : Nat → Nat} (hi : ∀ i j, i < a → j < a → r i = r j → i = j) (ha : ∀ m, 0 < pa_gk s (pa_K s + 1) (sg_p s) m ↔ ∃ i, i < a ∧ r i = m) : lN (fb_sm (fun j => pa_gk s (pa_K s + 1) (sg_p s) (r j)) a) = q_ways s := by
  have hr : ∀ j, j < a → r j < 2 ^ sg_n s * 11 := fun j hj => (pa_G_vd hO (sg_p s) _ (Nat.le_refl _) (pa_gk_pos.mp ((ha _).mpr ⟨j, hj, rfl⟩)).1).1.1
  have hKc := pa_K_c hO.2.2.1
  unfold q_ways
  congr 1
  rw [dz_enum (fun m => pa_gk s (pa_K s + 1) (sg_p s) m) r (2 ^ sg_n s * 11) a hr hi]
  have h1 : ∀ i, i < 2 ^ sg_n s * 11 → (if dz_B (∃ j, j < a ∧ r j = i) = true then pa_gk s (pa_K s + 1) (sg_p s) i else 0) = pa_G s (sg_p s) i * pa_w s (sg_p s) (pa_K s) i := fun i _ => by
    rw [dz_B_cong (ha i).symm, ← pa_last hO]
    by_cases c : 0 < pa_gk s (pa_K s + 1) (sg_p s) i
    · rw [if_pos (dz_Bt.mpr c)]
    · rw [if_neg (fun z => c (dz_Bt.mp z))]; omega
  rw [fb_sm_cong h1, pa_dual hO (pa_K s) (sg_p s) (Nat.le_refl _), sg_M_v (p := 0) (Or.inr (Or.inl rfl))]
  have hL := sg_L_v (s := s) (p := 0) (u := 0) (l := 10) (Or.inr (Or.inl rfl))
  by_cases hno : sg_no s
  · rw [hKc.2.2.1 hno, dz_no_0 (by rw [← hL]; exact hno)]
  · rw [dz_no_s (by rw [← hL]; exact hno), pa_K_no hno, hL]; rfl
