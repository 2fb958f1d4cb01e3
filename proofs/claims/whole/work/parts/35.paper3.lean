/-! THE PAPER'S MEMORY: counts, lists, numbers of beginnings -/
abbrev dz_PS : Type := (Nat → Nat) × (Nat → Nat → Nat) × (Nat → Nat → Nat)
def PM (P : dz_PS) (I : dz_MI) (J : dz_MJ) : Prop := (∀ f, f < 9 → I 22 f = nI (P.1 f)) ∧ (∀ f i, f < 9 → i < P.1 f → I (43 + f) i = nI (P.2.1 f i)) ∧ (∀ f m, f < 9 → m < 11264 → J (34 + f) m = lN (P.2.2 f m))
def ps_rc (P : dz_PS) (f m n : Nat) : dz_PS := (fun x => if x = f ∧ P.2.2 f m = 0 then P.1 f + 1 else P.1 x, fun x i => if x = f ∧ i = P.1 f ∧ P.2.2 f m = 0 then m else P.2.1 x i, fun x y => if x = f ∧ y = m then P.2.2 f m + n else P.2.2 x y)
def ps_0 : dz_PS := (fun _ => 0, fun _ _ => 0, fun _ _ => 0)
def ps_wf (P : dz_PS) (f : Nat) : Prop := (∀ i, i < P.1 f → P.2.1 f i < 11264 ∧ pv (P.2.1 f i) = true) ∧ (∀ i j, i < P.1 f → j < P.1 f → P.2.1 f i = P.2.1 f j → i = j) ∧ ∀ m, 0 < P.2.2 f m ↔ ∃ i, i < P.1 f ∧ P.2.1 f i = m
theorem ps_wf.le {P : dz_PS} {f : Nat} (h : ps_wf P f) : P.1 f ≤ 6144 := by
  have := dz_holes (P.2.1 f) 11264 (P.1 f) pv h.1 h.2.1
  rw [pv_ct] at this
  exact this
theorem ps_wf.lt {P : dz_PS} {f m : Nat} (h : ps_wf P f) (hm : m < 11264) (hv : pv m = true) (h0 : P.2.2 f m = 0) : P.1 f < 6144 := by
  have hn : ∀ i, i < P.1 f → ¬ P.2.1 f i = m := fun i hi e => by
    have := (h.2.2 m).mpr ⟨i, hi, e⟩
    omega
  have := dz_holes (fun i => if i < P.1 f then P.2.1 f i else m) 11264 (P.1 f + 1) pv (fun j hj => by
    show (if j < P.1 f then P.2.1 f j else m) < 11264 ∧ pv (if j < P.1 f then P.2.1 f j else m) = true
    by_cases z : j < P.1 f
    · rw [if_pos z]; exact h.1 j z
    · rw [if_neg z]; exact ⟨hm, hv⟩) (fun i j hi hj e => by
    have e2 : (if i < P.1 f then P.2.1 f i else m) = (if j < P.1 f then P.2.1 f j else m) := e
    by_cases z : i < P.1 f
    · rw [if_pos z] at e2
      by_cases y : j < P.1 f
      · rw [if_pos y] at e2; exact h.2.1 i j z y e2
      · rw [if_neg y] at e2; exact absurd e2 (hn i z)
    · rw [if_neg z] at e2
      by_cases y : j < P.1 f
      · rw [if_pos y] at e2; exact absurd e2.symm (hn j y)
      · omega)
  rw [pv_ct] at this
  omega
theorem ps_rc_o {P : dz_PS} {f m n x : Nat} (h : ¬ x = f) : (ps_rc P f m n).1 x = P.1 x ∧ (ps_rc P f m n).2.1 x = P.2.1 x ∧ (ps_rc P f m n).2.2 x = P.2.2 x := by
  refine ⟨?_, funext fun i => ?_, funext fun i => ?_⟩ <;> simp [ps_rc, h]
theorem ps_rc_e {P : dz_PS} {f m n : Nat} : P.1 f ≤ (ps_rc P f m n).1 f ∧ (∀ i, i < P.1 f → (ps_rc P f m n).2.1 f i = P.2.1 f i) ∧ ∀ y, (ps_rc P f m n).2.2 f y = P.2.2 f y + (if y = m then n else 0) := by
  refine ⟨?_, fun i hi => ?_, fun y => ?_⟩
  · simp only [ps_rc]; split <;> omega
  · simp only [ps_rc]; rw [if_neg (by omega)]
  · simp only [ps_rc, true_and]
    by_cases e : y = m
    · simp [e]
    · simp [e]
theorem ps_wf.rc {P : dz_PS} {f m n : Nat} (h : ps_wf P f) (hm : m < 11264) (hv : pv m = true) (hn : 0 < n) : ps_wf (ps_rc P f m n) f := by
  obtain ⟨h1, h2, h3⟩ := h
  by_cases h0 : P.2.2 f m = 0
  · have hno : ∀ i, i < P.1 f → ¬ P.2.1 f i = m := fun i hi e => by
      have := (h3 m).mpr ⟨i, hi, e⟩
      omega
    have c1 : (ps_rc P f m n).1 f = P.1 f + 1 := by simp [ps_rc, h0]
    have c2 : ∀ i, (ps_rc P f m n).2.1 f i = if i = P.1 f then m else P.2.1 f i := fun i => by simp [ps_rc, h0]
    refine ⟨fun i hi => ?_, fun i j hi hj e => ?_, fun y => ?_⟩
    · rw [c1] at hi; rw [c2]
      by_cases z : i = P.1 f
      · rw [if_pos z]; exact ⟨hm, hv⟩
      · rw [if_neg z]; exact h1 i (by omega)
    · rw [c1] at hi hj; rw [c2, c2] at e
      by_cases z : i = P.1 f
      · rw [if_pos z] at e
        by_cases y : j = P.1 f
        · omega
        · rw [if_neg y] at e; exact absurd e.symm (hno j (by omega))
      · rw [if_neg z] at e
        by_cases y : j = P.1 f
        · rw [if_pos y] at e; exact absurd e (hno i (by omega))
        · rw [if_neg y] at e; exact h2 i j (by omega) (by omega) e
    · rw [ps_rc_e.2.2 y, c1]
      by_cases e : y = m
      · subst e
        rw [if_pos rfl]
        exact ⟨fun _ => ⟨P.1 f, by omega, by rw [c2, if_pos rfl]⟩, fun _ => by omega⟩
      · rw [if_neg e, Nat.add_zero, h3 y]
        constructor
        · rintro ⟨i, hi, q⟩; exact ⟨i, by omega, by rw [c2, if_neg (by omega)]; exact q⟩
        · rintro ⟨i, hi, q⟩
          rw [c2] at q
          by_cases z : i = P.1 f
          · rw [if_pos z] at q; exact absurd q.symm e
          · rw [if_neg z] at q; exact ⟨i, by omega, q⟩
  · have c1 : (ps_rc P f m n).1 f = P.1 f := by simp [ps_rc, h0]
    have c2 : ∀ i, (ps_rc P f m n).2.1 f i = P.2.1 f i := fun i => by simp [ps_rc, h0]
    refine ⟨fun i hi => ?_, fun i j hi hj e => ?_, fun y => ?_⟩
    · rw [c1] at hi; rw [c2]; exact h1 i hi
    · rw [c1] at hi hj; rw [c2, c2] at e; exact h2 i j hi hj e
    · rw [ps_rc_e.2.2 y, c1]
      by_cases e : y = m
      · subst e
        rw [if_pos rfl]
        have := (h3 y).mp (by omega)
        exact ⟨fun _ => by obtain ⟨i, hi, q⟩ := this; exact ⟨i, hi, by rw [c2]; exact q⟩, fun _ => by omega⟩
      · rw [if_neg e, Nat.add_zero, h3 y]
        constructor
        · rintro ⟨i, hi, q⟩; exact ⟨i, hi, by rw [c2]; exact q⟩
        · rintro ⟨i, hi, q⟩; rw [c2] at q; exact ⟨i, hi, q⟩
def rc_P (P : dz_PS) (f m n : Nat) (I : dz_MI) (J : dz_MJ) : Option dz_AV → dz_MI → dz_MJ → Prop := fun r I2 J2 => r = none ∧ PM (ps_rc P f m n) I2 J2 ∧ (∀ a k, ¬ a = 22 → ¬ a = 43 + f → I2 a k = I a k) ∧ (∀ a k, ¬ a = 34 + f → J2 a k = J a k)
theorem rc_J {P : dz_PS} {f m n : Nat} {I : dz_MI} {J : dz_MJ} (h : PM P I J) (hf : f < 9) (hm : m < 11264) (x y : Nat) (hx : x < 9) (hy : y < 11264) : dz_wj J (34 + f) m (lN (P.2.2 f m + n)) (34 + x) y = lN ((ps_rc P f m n).2.2 x y) := by
  by_cases e : x = f
  · subst e
    rw [ps_rc_e.2.2 y]
    by_cases z : y = m
    · subst z; rw [dz_wj_s, if_pos rfl]
    · rw [dz_wj_n _ _ (by omega), if_neg z, Nat.add_zero]; exact h.2.2 x y hx hy
  · rw [dz_wj_n _ _ (by omega), (ps_rc_o e).2.2]; exact h.2.2 x y hx hy
theorem rc_1 {P : dz_PS} {f m n : Nat} {I : dz_MI} {J : dz_MJ} (h : PM P I J) (hf : f < 9) (hm : m < 11264) (hz : ¬ P.2.2 f m = 0) : rc_P P f m n I J none I (dz_wj J (34 + f) m (lN (P.2.2 f m + n))) := by
  have c1 : (ps_rc P f m n).1 = P.1 := funext fun x => by simp [ps_rc, hz]
  have c2 : (ps_rc P f m n).2.1 = P.2.1 := funext fun x => funext fun i => by simp [ps_rc, hz]
  refine ⟨rfl, ⟨?_, ?_, fun x y hx hy => rc_J h hf hm x y hx hy⟩, fun a k _ _ => rfl, fun a k ha => dz_wj_n _ _ (by omega)⟩
  · rw [c1]; exact h.1
  · rw [c1, c2]; exact h.2.1
theorem rc_0 {P : dz_PS} {f m n : Nat} {I : dz_MI} {J : dz_MJ} (h : PM P I J) (hf : f < 9) (hm : m < 11264) (hz : P.2.2 f m = 0) : rc_P P f m n I J none (dz_wi (dz_wi I (43 + f) (P.1 f) (nI m)) 22 f (nI (P.1 f + 1))) (dz_wj J (34 + f) m (lN (P.2.2 f m + n))) := by
  refine ⟨rfl, ⟨fun x hx => ?_, fun x i hx hi => ?_, fun x y hx hy => rc_J h hf hm x y hx hy⟩, fun a k h1 h2 => by rw [dz_wi_n _ _ (by omega), dz_wi_n _ _ (by omega)], fun a k ha => dz_wj_n _ _ (by omega)⟩
  · by_cases e : x = f
    · subst e
      have c1 : (ps_rc P x m n).1 x = P.1 x + 1 := by simp [ps_rc, hz]
      rw [dz_wi_s, c1]
    · rw [dz_wi_n _ _ (by omega), dz_wi_n _ _ (by omega), (ps_rc_o e).1]; exact h.1 x hx
  · rw [dz_wi_n _ _ (by omega)]
    by_cases e : x = f
    · subst e
      have c1 : (ps_rc P x m n).1 x = P.1 x + 1 := by simp [ps_rc, hz]
      have c2 : (ps_rc P x m n).2.1 x i = if i = P.1 x then m else P.2.1 x i := by simp [ps_rc, hz]
      rw [c1] at hi
      rw [c2]
      by_cases z : i = P.1 x
      · subst z; rw [dz_wi_s, if_pos rfl]
      · rw [dz_wi_n _ _ (by omega), if_neg z]; exact h.2.1 x i hx (by omega)
    · rw [(ps_rc_o e).1] at hi
      rw [dz_wi_n _ _ (by omega), (ps_rc_o e).2.1]; exact h.2.1 x i hx hi
set_option maxRecDepth 100000 in
set_option maxHeartbeats 4000000 in
theorem c_X2_reach (π : dz_Pl) {P : dz_PS} {f m n : Nat} (I : dz_MI) (J : dz_MJ) (h : PM P I J) (hf : f < 9) (hm : m < 11264) (hc : P.2.2 f m = 0 → P.1 f < 6144) (hg : P.2.2 f m < 2 ^ 62) : dz_Cl π dz_Y 62 mX2_reach 0 0 [.inr (.inr 4), .inl (nI f), .inl (nI m), .inr (.inl (lN n))] I J (rc_P P f m n I J) := by
  refine dz_body (own := 2) dz_mX2_reach rfl (Nat.le_of_ble_eq_true rfl) (fun V hV => ?_)
  refine dr_aload_n 0 hV dX2_reach_0 rfl ?_
  refine dr_geta 1 hV dX2_reach_1 (by decide) (by decide) rfl rfl rfl ?_
  refine dr_iload_n 4 hV dX2_reach_4 rfl ?_
  refine dr_iald (v := nI (P.1 f)) 5 hV dX2_reach_5 (by decide) rfl rfl hf (by decide) (h.1 f hf) ?_
  refine dr_istore 6 hV dX2_reach_6 (by decide) ?_
  refine dr_aload_n 8 hV dX2_reach_8 rfl ?_
  refine dr_geta 9 hV dX2_reach_9 (by decide) (by decide) rfl rfl rfl ?_
  refine dr_iload_n 12 hV dX2_reach_12 rfl ?_
  refine dr_aaldl 13 hV dX2_reach_13 (by decide) rfl rfl hf (by decide) ?_
  refine dr_iload_n 14 hV dX2_reach_14 rfl ?_
  refine dr_lald (v := lN (P.2.2 f m)) 15 hV dX2_reach_15 (by omega) (dz_Y_b hf) rfl hm (by decide) (h.2.2 f m hf hm) ?_
  refine dr_lconst (v := lN 0) 16 hV dX2_reach_16 (by decide) ?_
  refine dr_lcmp 17 hV dX2_reach_17 ?_
  refine dr_if_ne (tgt := 49) 18 hV dX2_reach_18 (by decide) (fun c18 => ?_) (fun c18 => ?_)
  · have hz : ¬ P.2.2 f m = 0 := fun z => c18 (by rw [z]; exact lg_z)
    refine dr_aload_n 49 hV dX2_reach_49 rfl ?_
    refine dr_geta 50 hV dX2_reach_50 (by decide) (by decide) rfl rfl rfl ?_
    refine dr_iload_n 53 hV dX2_reach_53 rfl ?_
    refine dr_aaldl 54 hV dX2_reach_54 (by decide) rfl rfl hf (by decide) ?_
    refine dr_iload_n 55 hV dX2_reach_55 rfl ?_
    refine dr_dup2 56 hV dX2_reach_56 rfl rfl ?_
    refine dr_lald (v := lN (P.2.2 f m)) 57 hV dX2_reach_57 (by omega) (dz_Y_b hf) rfl hm (by decide) (h.2.2 f m hf hm) ?_
    refine dr_lload_n 58 hV dX2_reach_58 rfl ?_
    refine dr_ladd (z := lN (P.2.2 f m + n)) 59 hV dX2_reach_59 (lN_add _ _) ?_
    refine dr_last 60 hV dX2_reach_60 (by omega) (dz_Y_b hf) rfl hm (by decide) ?_
    exact dr_vret 61 hV dX2_reach_61 rfl (by first | exact rc_1 h hf hm hz | exact rc_0 h hf hm hz)
  · have hz : P.2.2 f m = 0 := dz_lgeq hg (by decide) c18
    have hlt := hc hz
    refine dr_iload 21 hV dX2_reach_21 rfl ?_
    refine dr_sipush (v := nI 6144) 23 hV dX2_reach_23 (by decide) ?_
    refine dn_icmp_ge (tgt := 49) 26 hV dX2_reach_26 (by decide) (by omega) (by omega) (fun c26 => ?_) (fun c26 => ?_)
    · exact absurd hlt (by omega)
    · refine dr_aload_n 29 hV dX2_reach_29 rfl ?_
      refine dr_geta 30 hV dX2_reach_30 (by decide) (by decide) rfl rfl rfl ?_
      refine dr_iload_n 33 hV dX2_reach_33 rfl ?_
      refine dr_aaldi 34 hV dX2_reach_34 (by decide) rfl rfl (by omega) (by decide) ?_
      refine dr_iload 35 hV dX2_reach_35 rfl ?_
      refine dr_iload_n 37 hV dX2_reach_37 rfl ?_
      refine dr_iast 38 hV dX2_reach_38 (by omega) (dz_Y_r hf) rfl hlt (by decide) ?_
      refine dr_aload_n 39 hV dX2_reach_39 rfl ?_
      refine dr_geta 40 hV dX2_reach_40 (by decide) (by decide) rfl rfl rfl ?_
      refine dr_iload_n 43 hV dX2_reach_43 rfl ?_
      refine dr_iload 44 hV dX2_reach_44 rfl ?_
      refine dr_iconst (v := nI 1) 46 hV dX2_reach_46 (by decide) ?_
      refine dr_iadd (z := nI (P.1 f + 1)) 47 hV dX2_reach_47 (nI_1 _) ?_
      refine dr_iast 48 hV dX2_reach_48 (by decide) rfl rfl hf (by decide) ?_
      refine dr_aload_n 49 hV dX2_reach_49 rfl ?_
      refine dr_geta 50 hV dX2_reach_50 (by decide) (by decide) rfl rfl rfl ?_
      refine dr_iload_n 53 hV dX2_reach_53 rfl ?_
      refine dr_aaldl 54 hV dX2_reach_54 (by decide) rfl rfl hf (by decide) ?_
      refine dr_iload_n 55 hV dX2_reach_55 rfl ?_
      refine dr_dup2 56 hV dX2_reach_56 rfl rfl ?_
      refine dr_lald (v := lN (P.2.2 f m)) 57 hV dX2_reach_57 (by omega) (dz_Y_b hf) rfl hm (by decide) (h.2.2 f m hf hm) ?_
      refine dr_lload_n 58 hV dX2_reach_58 rfl ?_
      refine dr_ladd (z := lN (P.2.2 f m + n)) 59 hV dX2_reach_59 (lN_add _ _) ?_
      refine dr_last 60 hV dX2_reach_60 (by omega) (dz_Y_b hf) rfl hm (by decide) ?_
      exact dr_vret 61 hV dX2_reach_61 rfl (by first | exact rc_1 h hf hm hz | exact rc_0 h hf hm hz)
/-! what the paper is set up with -/
def pa_ov (s : dz_Sg) (l : Nat) : Nat := if l < sg_n s then dz_bits (fun u => decide (¬ dz_tP (sg_f s) (sg_tol s) u l = -1)) (sg_n s) ||| 1024 else 2047
noncomputable def SU (s : dz_Sg) (I : dz_MI) : Prop := I 4 9 = nI (sg_p s) ∧ (∀ q, q < sg_p s → I 15 q = nI (sg_it s q) ∧ I 16 q = dz_bp (sg_head s q)) ∧ (∀ l, l < 11 → I 17 l = nI (pa_ov s l)) ∧ (∀ f, f < 9 → I 52 f = nI 0)
theorem dz_m1w : (-1 : Int32) = nI (2 ^ 32 - 1) := by decide
theorem pa_ov_lt {s : dz_Sg} (hn : sg_n s ≤ 10) (l : Nat) : pa_ov s l < 2048 := by
  unfold pa_ov
  split
  · have h1 := dz_bits_lt (fun u => decide (¬ dz_tP (sg_f s) (sg_tol s) u l = -1)) (sg_n s)
    have h2 := dz_pn hn
    exact Nat.or_lt_two_pow (n := 11) (by omega) (by decide)
  · decide
theorem pa_ov_10 {s : dz_Sg} (l : Nat) : (pa_ov s l).testBit 10 = true := by
  unfold pa_ov
  split
  · rw [show (1024 : Nat) = 2 ^ 10 from rfl, fb_bit_set]; simp
  · decide
theorem pa_ov_hi {s : dz_Sg} {l d : Nat} (h : ¬ l < sg_n s) (hd : d < 11) : (pa_ov s l).testBit d = true := by
  unfold pa_ov
  rw [if_neg h]
  rcases (show d = 0 ∨ d = 1 ∨ d = 2 ∨ d = 3 ∨ d = 4 ∨ d = 5 ∨ d = 6 ∨ d = 7 ∨ d = 8 ∨ d = 9 ∨ d = 10 by omega) with rfl | rfl | rfl | rfl | rfl | rfl | rfl | rfl | rfl | rfl | rfl <;> decide
theorem pa_ov_lo {s : dz_Sg} {l d : Nat} (h : l < sg_n s) (hd : d < sg_n s) (h10 : ¬ d = 10) : (pa_ov s l).testBit d = decide (¬ dz_tP (sg_f s) (sg_tol s) d l = -1) := by
  unfold pa_ov
  rw [if_pos h, show (1024 : Nat) = 2 ^ 10 from rfl, fb_bit_set, dz_bits_tb]
  simp [hd, h10]
theorem pa_items {s : dz_Sg} (hO : dz_OK s) {p m : Nat} (hp : p < sg_p s) (hv : pa_vd s p m) : sg_it s p &&& pa_ov s (m % 11) &&& (m / 11 ^^^ (2 ^ 32 - 1)) = dz_bits (fun d => pa_ok s p m d) 11 := by
  have hn := hO.1
  have h2 := dz_pn hn
  have hu : m / 11 < 1024 := by have := hv.1; omega
  apply dz_bits_ext (n := 11)
  · exact Nat.lt_of_le_of_lt Nat.and_le_left (Nat.lt_of_le_of_lt Nat.and_le_left (sg_it_lt s p))
  · exact dz_bits_lt _ 11
  · intro d hd
    rw [Nat.testBit_and, Nat.testBit_and, Nat.testBit_xor, Nat.testBit_two_pow_sub_one, dz_bits_tb]
    have h32 : d < 32 := by omega
    have hit : (sg_it s p).testBit d = dz_B ((d = 10 ∨ d < sg_n s) ∧ sg_at s p d) := by unfold sg_it; rw [dz_bits_tb]; simp [hd]
    rw [hit]
    simp only [hd, h32, decide_true, Bool.true_and, Bool.bne_true]
    unfold pa_ok sg_ok
    by_cases hA : (d = 10 ∨ d < sg_n s) ∧ sg_at s p d
    · rw [dz_Bt.mpr hA, Bool.true_and]
      by_cases h10 : d = 10
      · subst h10
        have hb : (m / 11).testBit 10 = false := Nat.testBit_lt_two_pow hu
        rw [pa_ov_10, hb, dz_Bt.mpr ⟨hA.1, hA.2, Or.inl rfl⟩]; rfl
      · have hdn : d < sg_n s := hA.1.resolve_left h10
        by_cases hb : (m / 11).testBit d = true
        · have hB : dz_B ((d = 10 ∨ d < sg_n s) ∧ sg_may s p d (m / 11) (m % 11)) = false := dz_Bf.mpr (fun z => by
            have := (z.2.2.resolve_left h10).1
            rw [hb] at this; cases this)
          rw [hB, hb]; simp
        · have hb2 : (m / 11).testBit d = false := by simpa using hb
          rw [hb2]
          by_cases hl : m % 11 < sg_n s
          · have hvl : (m / 11).testBit (m % 11) = true := by
              rcases hv.2.1 with z | z
              · omega
              · exact z.2
            have hne : ¬ d = m % 11 := fun z => by rw [← z] at hvl; exact hb hvl
            have htp : dz_tP (sg_f s) (sg_tol s) d (m % 11) = dz_tO (sg_f s) (sg_tol s) d (m % 11) := by unfold dz_tP; rw [if_neg hne]
            rw [pa_ov_lo hl hdn h10, htp]
            by_cases ht : dz_tO (sg_f s) (sg_tol s) d (m % 11) = -1
            · have hB : dz_B ((d = 10 ∨ d < sg_n s) ∧ sg_may s p d (m / 11) (m % 11)) = false := dz_Bf.mpr (fun z => by
                rcases (z.2.2.resolve_left h10).2 with y | y | y
                · have := hv.2.2 hp y; omega
                · omega
                · exact y ht)
              rw [hB]; simp [ht]
            · rw [dz_Bt.mpr ⟨hA.1, hA.2, Or.inr ⟨hb2, Or.inr (Or.inr ht)⟩⟩]; simp [ht]
          · have h10l : m % 11 = 10 := by
              rcases hv.2.1 with z | z
              · exact z
              · exact absurd z.1 hl
            rw [pa_ov_hi hl hd, dz_Bt.mpr ⟨hA.1, hA.2, Or.inr ⟨hb2, Or.inr (Or.inl h10l)⟩⟩]; rfl
    · rw [dz_Bf.mpr hA, dz_Bf.mpr (fun z => hA ⟨z.1, z.2.1⟩)]; simp
set_option maxRecDepth 100000 in
set_option maxHeartbeats 4000000 in
theorem c_X2_itemsFor (π : dz_Pl) {s : dz_Sg} {p m : Nat} (I : dz_MI) (J : dz_MJ) (hO : dz_OK s) (hS : SU s I) (hp : p < sg_p s) (hv : pa_vd s p m) : dz_Cl π dz_Y 62 mX2_itemsFor 0 0 [.inr (.inr 4), .inl (nI p), .inl (nI m)] I J (dz_Pu (.inl (nI (dz_bits (fun d => pa_ok s p m d) 11))) I J) := by
  refine dz_body (own := 2) dz_mX2_itemsFor rfl (Nat.le_of_ble_eq_true rfl) (fun V hV => ?_)
  obtain ⟨u1, u2, u3, u4⟩ := id hS
  have hm := (pv_vd hO.1 hv).1
  have h8 := hO.2.2.1
  have hl : m % 11 < 11 := Nat.mod_lt _ (by decide)
  refine dr_aload_n 0 hV dX2_itemsFor_0 rfl ?_
  refine dr_geta 1 hV dX2_itemsFor_1 (by decide) (by decide) rfl rfl rfl ?_
  refine dr_iload_n 4 hV dX2_itemsFor_4 rfl ?_
  refine dr_iald (v := nI (sg_it s p)) 5 hV dX2_itemsFor_5 (by decide) rfl rfl (by omega) (by decide) (u2 p hp).1 ?_
  refine dr_aload_n 6 hV dX2_itemsFor_6 rfl ?_
  refine dr_geta 7 hV dX2_itemsFor_7 (by decide) (by decide) rfl rfl rfl ?_
  refine dr_iload_n 10 hV dX2_itemsFor_10 rfl ?_
  refine dr_bipush (v := nI 11) 11 hV dX2_itemsFor_11 (by decide) ?_
  refine dr_irem (z := nI (m % 11)) 13 hV dX2_itemsFor_13 (by decide) (pk_rem (by omega) (by decide) (by decide)) ?_
  refine dr_iald (v := nI (pa_ov s (m % 11))) 14 hV dX2_itemsFor_14 (by decide) rfl rfl hl (by decide) (u3 _ hl) ?_
  refine dr_iand (z := nI (sg_it s p &&& pa_ov s (m % 11))) 15 hV dX2_itemsFor_15 (fa_and _ _) ?_
  refine dr_iload_n 16 hV dX2_itemsFor_16 rfl ?_
  refine dr_bipush (v := nI 11) 17 hV dX2_itemsFor_17 (by decide) ?_
  refine dr_idiv (z := nI (m / 11)) 19 hV dX2_itemsFor_19 (by decide) (pk_div (by omega) (by decide) (by decide)) ?_
  refine dr_iconst (v := (-1)) 20 hV dX2_itemsFor_20 (by decide) ?_
  refine dr_ixor (z := nI (m / 11 ^^^ (2 ^ 32 - 1))) 21 hV dX2_itemsFor_21 (by rw [dz_m1w]; exact fb_xorI _ _) ?_
  refine dr_iand (z := nI (dz_bits (fun d => pa_ok s p m d) 11)) 22 hV dX2_itemsFor_22 (by rw [fa_and, pa_items hO hp hv]) ?_
  exact dr_iret 23 hV dX2_itemsFor_23 rfl (by first | rfl | exact dz_bn) dz_pu
set_option maxRecDepth 100000 in
set_option maxHeartbeats 4000000 in
theorem c_X2_after (π : dz_Pl) {s : dz_Sg} {p m d : Nat} (I : dz_MI) (J : dz_MJ) (hO : dz_OK s) (hS : SU s I) (hp : p < sg_p s) (hm : m < 11264) (hd : d < 11) : dz_Cl π dz_Y 62 mX2_after 0 0 [.inr (.inr 4), .inl (nI p), .inl (nI m), .inl (nI d)] I J (dz_Pu (.inl (nI (pa_nx s p m d))) I J) := by
  refine dz_body (own := 2) dz_mX2_after rfl (Nat.le_of_ble_eq_true rfl) (fun V hV => ?_)
  obtain ⟨u1, u2, u3, u4⟩ := id hS
  have h8 := hO.2.2.1
  refine dr_iload_n 0 hV dX2_after_0 rfl ?_
  refine dr_bipush (v := nI 11) 1 hV dX2_after_1 (by decide) ?_
  refine dr_idiv (z := nI (m / 11)) 3 hV dX2_after_3 (by decide) (pk_div (by omega) (by decide) (by decide)) ?_
  refine dr_istore 4 hV dX2_after_4 (by decide) ?_
  refine dr_iload_n 6 hV dX2_after_6 rfl ?_
  refine dr_bipush (v := nI 10) 7 hV dX2_after_7 (by decide) ?_
  refine dn_icmp_eq (tgt := 20) 9 hV dX2_after_9 (by decide) (by omega) (by omega) (fun c9 => ?_) (fun c9 => ?_)
  · refine dr_iload 20 hV dX2_after_20 rfl ?_
    refine dr_bipush (v := nI 11) 22 hV dX2_after_22 (by decide) ?_
    refine dr_imul (z := _) 24 hV dX2_after_24 (pk_mul _ _) ?_
    refine dr_aload_n 25 hV dX2_after_25 rfl ?_
    refine dr_geta 26 hV dX2_after_26 (by decide) (by decide) rfl rfl rfl ?_
    refine dr_iload_n 29 hV dX2_after_29 rfl ?_
    refine dr_zald (v := dz_bp (sg_head s p)) 30 hV dX2_after_30 (by decide) rfl rfl (by omega) (by decide) (u2 p hp).2 ?_
    first | refine dr_ifb_eq (tgt := 39) 31 hV dX2_after_31 (by decide) (fun c31 => ?_) (fun c31 => ?_) | refine dr_if_eq (tgt := 39) 31 hV dX2_after_31 (by decide) (fun c31 => ?_) (fun c31 => ?_)
    · refine dr_iload_n 39 hV dX2_after_39 rfl ?_
      refine dr_iadd (z := _) 40 hV dX2_after_40 (nI_add _ _) ?_
      exact dr_iret 41 hV dX2_after_41 rfl (by first | rfl | exact dz_bn) (dz_pue (by clear hV; unfold pa_nx pa_hd sg_nx; first | rw [if_pos c9, if_pos (dz_Bt.mpr c31)] | rw [if_neg c9, if_pos (dz_Bt.mpr c31)] | rw [if_pos c9, if_neg (fun z => c31 (dz_Bt.mp z))] | rw [if_neg c9, if_neg (fun z => c31 (dz_Bt.mp z))]))
    · refine dr_bipush (v := nI 10) 34 hV dX2_after_34 (by decide) ?_
      refine dr_goto (tgt := 40) 36 hV dX2_after_36 (by decide) ?_
      refine dr_iadd (z := _) 40 hV dX2_after_40 (nI_add _ _) ?_
      exact dr_iret 41 hV dX2_after_41 rfl (by first | rfl | exact dz_bn) (dz_pue (by clear hV; unfold pa_nx pa_hd sg_nx; first | rw [if_pos c9, if_pos (dz_Bt.mpr c31)] | rw [if_neg c9, if_pos (dz_Bt.mpr c31)] | rw [if_pos c9, if_neg (fun z => c31 (dz_Bt.mp z))] | rw [if_neg c9, if_neg (fun z => c31 (dz_Bt.mp z))]))
  · refine dr_iload 12 hV dX2_after_12 rfl ?_
    refine dr_iconst (v := nI 1) 14 hV dX2_after_14 (by decide) ?_
    refine dr_iload_n 15 hV dX2_after_15 rfl ?_
    refine dr_ishl (z := nI (2 ^ d)) 16 hV dX2_after_16 (dz_s1 (by omega)) ?_
    refine dr_ior (z := nI (m / 11 ||| 2 ^ d)) 17 hV dX2_after_17 (fa_or _ _) ?_
    refine dr_istore 18 hV dX2_after_18 (by decide) ?_
    refine dr_iload 20 hV dX2_after_20 rfl ?_
    refine dr_bipush (v := nI 11) 22 hV dX2_after_22 (by decide) ?_
    refine dr_imul (z := _) 24 hV dX2_after_24 (pk_mul _ _) ?_
    refine dr_aload_n 25 hV dX2_after_25 rfl ?_
    refine dr_geta 26 hV dX2_after_26 (by decide) (by decide) rfl rfl rfl ?_
    refine dr_iload_n 29 hV dX2_after_29 rfl ?_
    refine dr_zald (v := dz_bp (sg_head s p)) 30 hV dX2_after_30 (by decide) rfl rfl (by omega) (by decide) (u2 p hp).2 ?_
    first | refine dr_ifb_eq (tgt := 39) 31 hV dX2_after_31 (by decide) (fun c31 => ?_) (fun c31 => ?_) | refine dr_if_eq (tgt := 39) 31 hV dX2_after_31 (by decide) (fun c31 => ?_) (fun c31 => ?_)
    · refine dr_iload_n 39 hV dX2_after_39 rfl ?_
      refine dr_iadd (z := _) 40 hV dX2_after_40 (nI_add _ _) ?_
      exact dr_iret 41 hV dX2_after_41 rfl (by first | rfl | exact dz_bn) (dz_pue (by clear hV; unfold pa_nx pa_hd sg_nx; first | rw [if_pos c9, if_pos (dz_Bt.mpr c31)] | rw [if_neg c9, if_pos (dz_Bt.mpr c31)] | rw [if_pos c9, if_neg (fun z => c31 (dz_Bt.mp z))] | rw [if_neg c9, if_neg (fun z => c31 (dz_Bt.mp z))]))
    · refine dr_bipush (v := nI 10) 34 hV dX2_after_34 (by decide) ?_
      refine dr_goto (tgt := 40) 36 hV dX2_after_36 (by decide) ?_
      refine dr_iadd (z := _) 40 hV dX2_after_40 (nI_add _ _) ?_
      exact dr_iret 41 hV dX2_after_41 rfl (by first | rfl | exact dz_bn) (dz_pue (by clear hV; unfold pa_nx pa_hd sg_nx; first | rw [if_pos c9, if_pos (dz_Bt.mpr c31)] | rw [if_neg c9, if_pos (dz_Bt.mpr c31)] | rw [if_pos c9, if_neg (fun z => c31 (dz_Bt.mp z))] | rw [if_neg c9, if_neg (fun z => c31 (dz_Bt.mp z))]))
set_option maxRecDepth 100000 in
set_option maxHeartbeats 4000000 in
theorem c_X2_itemsToBest (π : dz_Pl) {s : dz_Sg} {P : dz_PS} {p m : Nat} (I : dz_MI) (J : dz_MJ) (hO : dz_OK s) (hS : SU s I) (hM : PM P I J) (hp : p < sg_p s) (hv : pa_vd s p m) (hg : ∀ x, P.2.2 (p + 1) x < 2 ^ 62) : dz_Cl π dz_Y 62 mX2_itemsToBest 1 24 [.inr (.inr 4), .inl (nI p), .inl (nI m)] I J (dz_Pu (.inl (nI (dz_bits (fun d => pa_ok s p m d && decide (0 < P.2.2 (p + 1) (pa_nx s p m d))) 11))) I J) := by
  refine dz_body (own := 2) dz_mX2_itemsToBest rfl (Nat.le_of_ble_eq_true rfl) (fun V hV => ?_)
  have hm := (pv_vd hO.1 hv).1
  have h8 := hO.2.2.1
  have h2n := dz_pn hO.1
  have loop : ∀ (fu i : Nat), 11 < i + fu → i ≤ 11 → V 13 I J [(0, .inr (.inr 4)), (1, .inl (nI p)), (2, .inl (nI m)), (3, .inl (nI (dz_bits (fun d => pa_ok s p m d) 11))), (4, .inl (nI (dz_bits (fun d => pa_ok s p m d && decide (0 < P.2.2 (p + 1) (pa_nx s p m d))) (i)))), (5, .inl (nI (i)))] [] := by
    intro fu
    induction fu with
    | zero => intro i h1 h2; exact absurd h1 (by omega)
    | succ fu ih =>
      intro i h1 h2
      refine dr_iload 13 hV dX2_itemsToBest_13 rfl ?_
      refine dr_bipush (v := nI 11) 15 hV dX2_itemsToBest_15 (by decide) ?_
      refine dn_icmp_ge (tgt := 66) 17 hV dX2_itemsToBest_17 (by decide) (by omega) (by omega) (fun c17 => ?_) (fun c17 => ?_)
      · have hi11 : i = 11 := by omega
        subst hi11
        refine dr_iload 66 hV dX2_itemsToBest_66 rfl ?_
        exact dr_iret 68 hV dX2_itemsToBest_68 rfl (by first | rfl | exact dz_bn) dz_pu
      · refine dr_iload_n 20 hV dX2_itemsToBest_20 rfl ?_
        refine dr_iload 21 hV dX2_itemsToBest_21 rfl ?_
        refine dr_csp2 23 hV (Or.inr ⟨dz_mX4_hasBit, dz_w_hasBit, rfl, by decide⟩) dX2_itemsToBest_23 (by decide) (by decide) (Nat.le_of_ble_eq_true rfl) (c_hasBit π _ _ _ _ (Nat.lt_trans (dz_bits_lt _ 11) (by decide)) (by omega)) ?_
        have hbi : (dz_bits (fun d => pa_ok s p m d) 11).testBit i = pa_ok s p m i := by rw [dz_bits_tb]; simp [c17]
        rw [hbi]
        first | refine dr_ifb_eq (tgt := 60) 26 hV dX2_itemsToBest_26 (by decide) (fun c26 => ?_) (fun c26 => ?_) | refine dr_if_eq (tgt := 60) 26 hV dX2_itemsToBest_26 (by decide) (fun c26 => ?_) (fun c26 => ?_)
        · refine dr_iinc1 60 hV dX2_itemsToBest_60 (by decide) rfl ?_
          refine dr_goto (tgt := 13) 63 hV dX2_itemsToBest_63 (by decide) ?_
          rw [← dz_bits_n (p := (fun d => pa_ok s p m d && decide (0 < P.2.2 (p + 1) (pa_nx s p m d)))) (i := i) (by simp only [Bool.and_eq_false_iff]; exact Or.inl (by simpa using c26))]
          refine dr_sub hV (ls2 := [(0, .inr (.inr 4)), (1, .inl (nI p)), (2, .inl (nI m)), (3, .inl (nI (dz_bits (fun d => pa_ok s p m d) 11))), (4, .inl (nI (dz_bits (fun d => pa_ok s p m d && decide (0 < P.2.2 (p + 1) (pa_nx s p m d))) (i + 1)))), (5, .inl (nI (i + 1)))]) rfl ?_
          exact ih (i + 1) (by omega) (by omega)
        · have hnl : pa_nx s p m i < 11264 := Nat.lt_of_lt_of_le (pa_nx_lt hv.1 (by omega) c26) (by omega)
          refine dr_aload_n 29 hV dX2_itemsToBest_29 rfl ?_
          refine dr_geta 30 hV dX2_itemsToBest_30 (by decide) (by decide) rfl rfl rfl ?_
          refine dr_iload_n 33 hV dX2_itemsToBest_33 rfl ?_
          refine dr_iconst (v := nI 1) 34 hV dX2_itemsToBest_34 (by decide) ?_
          refine dr_iadd (z := nI (p + 1)) 35 hV dX2_itemsToBest_35 (nI_1 p) ?_
          refine dr_aaldl 36 hV dX2_itemsToBest_36 (by decide) rfl rfl (by omega) (by decide) ?_
          refine dr_aload_n 37 hV dX2_itemsToBest_37 rfl ?_
          refine dr_iload_n 38 hV dX2_itemsToBest_38 rfl ?_
          refine dr_iload_n 39 hV dX2_itemsToBest_39 rfl ?_
          refine dr_iload 40 hV dX2_itemsToBest_40 rfl ?_
          refine dr_cvp3 42 hV dz_lX2_96 dX2_itemsToBest_42 (by decide) (by decide) ⟨by decide, _, _, rfl, by decide, rfl⟩ (Nat.le_of_ble_eq_true rfl) (c_X2_after π _ _ hO hS hp hm (by omega)) ?_
          refine dr_lald (v := lN (P.2.2 (p + 1) (pa_nx s p m i))) 45 hV dX2_itemsToBest_45 (by omega) (dz_Y_b (by omega)) rfl hnl (by decide) (hM.2.2 (p + 1) _ (by omega) hnl) ?_
          refine dr_lconst (v := lN 0) 46 hV dX2_itemsToBest_46 (by decide) ?_
          refine dr_lcmp 47 hV dX2_itemsToBest_47 ?_
          refine dr_if_eq (tgt := 60) 48 hV dX2_itemsToBest_48 (by decide) (fun c48 => ?_) (fun c48 => ?_)
          · refine dr_iinc1 60 hV dX2_itemsToBest_60 (by decide) rfl ?_
            refine dr_goto (tgt := 13) 63 hV dX2_itemsToBest_63 (by decide) ?_
            rw [← dz_bits_n (p := (fun d => pa_ok s p m d && decide (0 < P.2.2 (p + 1) (pa_nx s p m d)))) (i := i) (by rw [dz_lgeq (hg _) (by decide) c48]; simp)]
            refine dr_sub hV (ls2 := [(0, .inr (.inr 4)), (1, .inl (nI p)), (2, .inl (nI m)), (3, .inl (nI (dz_bits (fun d => pa_ok s p m d) 11))), (4, .inl (nI (dz_bits (fun d => pa_ok s p m d && decide (0 < P.2.2 (p + 1) (pa_nx s p m d))) (i + 1)))), (5, .inl (nI (i + 1)))]) rfl ?_
            exact ih (i + 1) (by omega) (by omega)
          · have hps : 0 < P.2.2 (p + 1) (pa_nx s p m i) := Nat.pos_of_ne_zero (fun z => c48 (by rw [z]; exact lg_z))
            refine dr_iload 51 hV dX2_itemsToBest_51 rfl ?_
            refine dr_iconst (v := nI 1) 53 hV dX2_itemsToBest_53 (by decide) ?_
            refine dr_iload 54 hV dX2_itemsToBest_54 rfl ?_
            refine dr_ishl 56 hV dX2_itemsToBest_56 rfl ?_
            refine dr_ior (z := nI (dz_bits (fun d => pa_ok s p m d && decide (0 < P.2.2 (p + 1) (pa_nx s p m d))) (i + 1))) 57 hV dX2_itemsToBest_57 (dz_bits_s (by omega) (by simp [c26, hps])) ?_
            refine dr_istore 58 hV dX2_itemsToBest_58 (by decide) ?_
            refine dr_iinc1 60 hV dX2_itemsToBest_60 (by decide) rfl ?_
            refine dr_goto (tgt := 13) 63 hV dX2_itemsToBest_63 (by decide) ?_
            refine dr_sub hV (ls2 := [(0, .inr (.inr 4)), (1, .inl (nI p)), (2, .inl (nI m)), (3, .inl (nI (dz_bits (fun d => pa_ok s p m d) 11))), (4, .inl (nI (dz_bits (fun d => pa_ok s p m d && decide (0 < P.2.2 (p + 1) (pa_nx s p m d))) (i + 1)))), (5, .inl (nI (i + 1)))]) rfl ?_
            exact ih (i + 1) (by omega) (by omega)
  refine dr_aload_n 0 hV dX2_itemsToBest_0 rfl ?_
  refine dr_iload_n 1 hV dX2_itemsToBest_1 rfl ?_
  refine dr_iload_n 2 hV dX2_itemsToBest_2 rfl ?_
  refine dr_cvp2 3 hV dz_lX2_89 dX2_itemsToBest_3 (by decide) (by decide) ⟨by decide, _, _, rfl, by decide, rfl⟩ (Nat.le_of_ble_eq_true rfl) (c_X2_itemsFor π _ _ hO hS hp hv) ?_
  refine dr_istore_n 6 hV dX2_itemsToBest_6 (by decide) ?_
  refine dr_iconst (v := nI 0) 7 hV dX2_itemsToBest_7 (by decide) ?_
  refine dr_istore 8 hV dX2_itemsToBest_8 (by decide) ?_
  refine dr_iconst (v := nI 0) 10 hV dX2_itemsToBest_10 (by decide) ?_
  refine dr_istore 11 hV dX2_itemsToBest_11 (by decide) ?_
  refine dr_sub hV (ls2 := [(0, .inr (.inr 4)), (1, .inl (nI p)), (2, .inl (nI m)), (3, .inl (nI (dz_bits (fun d => pa_ok s p m d) 11))), (4, .inl (nI (dz_bits (fun d => pa_ok s p m d && decide (0 < P.2.2 (p + 1) (pa_nx s p m d))) (0)))), (5, .inl (nI (0)))]) rfl ?_
  exact loop 12 0 (by omega) (by omega)
set_option maxRecDepth 100000 in
set_option maxHeartbeats 4000000 in
theorem c_X2_lowest (π : dz_Pl) (Λ : Nat → dz_Ds) (N : Nat) {x : Nat} (I : dz_MI) (J : dz_MJ) (hx : x < 2 ^ 31) : dz_Cl π Λ N mX2_lowest 1 21 [.inl (nI x)] I J (dz_Pu (.inl (dz_find (fun d => x.testBit d) 11)) I J) := by
  refine dz_body (own := 2) dz_mX2_lowest rfl (Nat.le_of_ble_eq_true rfl) (fun V hV => ?_)
  have loop : ∀ (fu i : Nat), 11 < i + fu → i ≤ 11 → (∀ j, j < i → x.testBit j = false) → V 2 I J [(0, .inl (nI x)), (1, .inl (nI (i)))] [] := by
    intro fu
    induction fu with
    | zero => intro i h1 h2; exact absurd h1 (by omega)
    | succ fu ih =>
      intro i h1 h2 hi
      refine dr_iload_n 2 hV dX2_lowest_2 rfl ?_
      refine dr_bipush (v := nI 11) 3 hV dX2_lowest_3 (by decide) ?_
      refine dn_icmp_ge (tgt := 24) 5 hV dX2_lowest_5 (by decide) (by omega) (by omega) (fun c5 => ?_) (fun c5 => ?_)
      · refine dr_iconst (v := (-1)) 24 hV dX2_lowest_24 (by decide) ?_
        exact dr_iret 25 hV dX2_lowest_25 rfl (by first | rfl | exact dz_bn) (dz_pue (dz_find_n (p := fun d => x.testBit d) (fun j hj => hi j (by omega))).symm)
      · refine dr_iload_n 8 hV dX2_lowest_8 rfl ?_
        refine dr_iload_n 9 hV dX2_lowest_9 rfl ?_
        refine dr_csp2 10 hV (Or.inr ⟨dz_mX4_hasBit, dz_w_hasBit, rfl, by decide⟩) dX2_lowest_10 (by decide) (by decide) (Nat.le_of_ble_eq_true rfl) (c_hasBit π _ _ _ _ hx (by omega)) ?_
        first | refine dr_ifb_eq (tgt := 18) 13 hV dX2_lowest_13 (by decide) (fun c13 => ?_) (fun c13 => ?_) | refine dr_if_eq (tgt := 18) 13 hV dX2_lowest_13 (by decide) (fun c13 => ?_) (fun c13 => ?_)
        · refine dr_iinc1 18 hV dX2_lowest_18 (by decide) rfl ?_
          refine dr_goto (tgt := 2) 21 hV dX2_lowest_21 (by decide) ?_
          refine dr_sub hV (ls2 := [(0, .inl (nI x)), (1, .inl (nI (i + 1)))]) rfl ?_
          exact ih (i + 1) (by omega) (by omega) (fun j hj => by rcases Nat.lt_or_ge j i with z | z; exact hi j z; rw [show j = i by omega]; simpa using c13)
        · refine dr_iload_n 16 hV dX2_lowest_16 rfl ?_
          exact dr_iret 17 hV dX2_lowest_17 rfl (by first | rfl | exact dz_bn) (dz_pue (dz_find_s (p := fun d => x.testBit d) c5 c13 hi).symm)
  refine dr_iconst (v := nI 0) 0 hV dX2_lowest_0 (by decide) ?_
  refine dr_istore_n 1 hV dX2_lowest_1 (by decide) ?_
  refine dr_sub hV (ls2 := [(0, .inl (nI x)), (1, .inl (nI (0)))]) rfl ?_
  exact loop 12 0 (by omega) (by omega) (fun j hj => absurd hj (by omega))
