/-! the paper: what no BEST way goes through is dropped; FIRST -/
theorem SU.fr2 {s : dz_Sg} {I I2 : dz_MI} (h : SU s I) (h2 : ∀ a k, ((a = 4 ∧ k = 9) ∨ a = 15 ∨ a = 16 ∨ a = 17 ∨ a = 52) → I2 a k = I a k) : SU s I2 := by
  obtain ⟨u1, u2, u3, u4⟩ := h
  exact ⟨by rw [h2 _ _ (by omega)]; exact u1, fun q hq => ⟨by rw [h2 _ _ (by omega)]; exact (u2 q hq).1, by rw [h2 _ _ (by omega)]; exact (u2 q hq).2⟩, fun l hl => by rw [h2 _ _ (by omega)]; exact u3 l hl, fun x hx => by rw [h2 _ _ (by omega)]; exact u4 x hx⟩
theorem PM.fr2 {P : dz_PS} {I I2 : dz_MI} {J J2 : dz_MJ} (h : PM P I J) (h2 : ∀ a k, (a = 22 ∨ (43 ≤ a ∧ a < 52)) → I2 a k = I a k) (hJ : ∀ a k, 34 ≤ a → a < 43 → J2 a k = J a k) : PM P I2 J2 := ⟨fun f hf => by rw [h2 _ _ (by omega)]; exact h.1 f hf, fun f i hf hi => by rw [h2 _ _ (by omega)]; exact h.2.1 f i hf hi, fun f m hf hm => by rw [hJ _ _ (by omega) (by omega)]; exact h.2.2 f m hf hm⟩
def pa_hs (s : dz_Sg) (q d : Nat) : Prop := ∃ m, 0 < pa_G s q m ∧ pa_lev q m ≤ pa_K s ∧ pa_ok s q m d = true ∧ pa_on s (q + 1) (pa_nx s q m d)
def db_I (s : dz_Sg) (P P2 : dz_PS) (q : Nat) : Prop := P2.1 = P.1 ∧ P2.2.1 = P.2.1 ∧ (∀ x m, q ≤ x → x ≤ sg_p s → (0 < P2.2.2 x m ↔ pa_on s x m)) ∧ (∀ x, x < q → P2.2.2 x = P.2.2 x) ∧ ∀ x m, P2.2.2 x m ≤ P.2.2 x m
def db_N (s : dz_Sg) (P2 P3 : dz_PS) (p i : Nat) : Prop := P3.1 = P2.1 ∧ P3.2.1 = P2.2.1 ∧ (∀ x, ¬ x = p → P3.2.2 x = P2.2.2 x) ∧ ∀ m, P3.2.2 p m = if dz_B (∃ j, j < i ∧ P2.2.1 p j = m ∧ ¬ pa_on s p m) = true then 0 else P2.2.2 p m
def ps_z (P : dz_PS) (p m : Nat) : dz_PS := (P.1, P.2.1, fun x y => if x = p ∧ y = m then 0 else P.2.2 x y)
theorem PM.z {P : dz_PS} {I : dz_MI} {J : dz_MJ} {p m : Nat} (h : PM P I J) (hp : p < 9) : PM (ps_z P p m) I (dz_wj J (34 + p) m (lN 0)) := by
  refine ⟨h.1, h.2.1, fun x y hx hy => ?_⟩
  show _ = lN (if x = p ∧ y = m then 0 else P.2.2 x y)
  by_cases e : x = p ∧ y = m
  · rw [if_pos e, e.1, e.2, dz_wj_s]
  · rw [if_neg e, dz_wj_n _ _ (by omega)]; exact h.2.2 x y hx hy
theorem db_N.s0 {s : dz_Sg} {P2 P3 : dz_PS} {p i : Nat} (h : db_N s P2 P3 p i) (hn : ¬ pa_on s p (P2.2.1 p i)) : db_N s P2 (ps_z P3 p (P2.2.1 p i)) p (i + 1) := by
  obtain ⟨h1, h2, h3, h4⟩ := h
  refine ⟨h1, h2, fun x hx => ?_, fun m => ?_⟩
  · rw [← h3 x hx]; funext y; simp [ps_z, hx]
  · show (if p = p ∧ m = P2.2.1 p i then 0 else P3.2.2 p m) = _
    by_cases e : m = P2.2.1 p i
    · rw [if_pos ⟨rfl, e⟩, if_pos (dz_Bt.mpr ⟨i, by omega, e.symm, by rw [e]; exact hn⟩)]
    · rw [if_neg (fun z => e z.2), h4 m]
      have : dz_B (∃ j, j < i ∧ P2.2.1 p j = m ∧ ¬ pa_on s p m) = dz_B (∃ j, j < i + 1 ∧ P2.2.1 p j = m ∧ ¬ pa_on s p m) := dz_B_cong ⟨fun ⟨j, a, b⟩ => ⟨j, by omega, b⟩, fun ⟨j, a, b⟩ => ⟨j, by
        rcases Nat.lt_or_ge j i with z | z
        · exact z
        · exact absurd (by rw [← b.1, show j = i by omega]) e, b⟩⟩
      rw [this]
theorem db_N.s1 {s : dz_Sg} {P2 P3 : dz_PS} {p i : Nat} (h : db_N s P2 P3 p i) (hy : pa_on s p (P2.2.1 p i)) : db_N s P2 P3 p (i + 1) := by
  obtain ⟨h1, h2, h3, h4⟩ := h
  refine ⟨h1, h2, h3, fun m => ?_⟩
  rw [h4 m]
  have : dz_B (∃ j, j < i ∧ P2.2.1 p j = m ∧ ¬ pa_on s p m) = dz_B (∃ j, j < i + 1 ∧ P2.2.1 p j = m ∧ ¬ pa_on s p m) := dz_B_cong ⟨fun ⟨j, a, b⟩ => ⟨j, by omega, b⟩, fun ⟨j, a, b⟩ => ⟨j, by
    rcases Nat.lt_or_ge j i with z | z
    · exact z
    · exact absurd (by rw [← b.1, show j = i by omega]; exact hy) b.2, b⟩⟩
  rw [this]
theorem db_N.rf (s : dz_Sg) (P2 : dz_PS) (p : Nat) : db_N s P2 P2 p 0 := ⟨rfl, rfl, fun _ _ => rfl, fun m => by rw [if_neg (fun z => by obtain ⟨j, hj, -⟩ := dz_Bt.mp z; omega)]⟩
theorem db_I.s {s : dz_Sg} {P P2 P3 : dz_PS} {p : Nat} (hp : p < sg_p s) (h : db_I s P P2 (p + 1)) (hwf : ps_wf P2 p) (hgk : ∀ m, P2.2.2 p m = pa_gk s (pa_K s + 1) p m) (hn : db_N s P2 P3 p (P2.1 p)) : db_I s P P3 p := by
  obtain ⟨h1, h2, h3, h4, h5⟩ := h
  obtain ⟨n1, n2, n3, n4⟩ := hn
  refine ⟨n1.trans h1, n2.trans h2, fun x m hx hx2 => ?_, fun x hx => by rw [n3 x (by omega)]; exact h4 x (by omega), fun x m => ?_⟩
  · by_cases e : x = p
    · subst e
      rw [n4 m]
      constructor
      · intro z
        split at z
        · omega
        · rename_i y
          obtain ⟨i, hi, e⟩ := (hwf.2.2 m).mp z
          exact Classical.byContradiction fun q => y (dz_Bt.mpr ⟨i, hi, e, q⟩)
      · intro z
        rw [if_neg (fun y => by obtain ⟨j, -, -, q⟩ := dz_Bt.mp y; exact q z), hgk m]
        exact pa_gk_pos.mpr ⟨z.1, by have := z.2.1; omega⟩
    · rw [n3 x e]; exact h3 x m (by omega) hx2
  · by_cases e : x = p
    · subst e
      rw [n4 m]
      split
      · exact Nat.zero_le _
      · exact h5 x m
    · rw [n3 x e]; exact h5 x m
theorem dz_bits_0 {p : Nat → Bool} {n : Nat} : dz_bits p n = 0 ↔ ∀ d, d < n → p d = false := by
  constructor
  · intro h d hd
    have := dz_bits_tb p n d
    rw [h, Nat.zero_testBit] at this
    simpa [hd] using this.symm
  · intro h
    refine dz_bits_ext (n := n) (dz_bits_lt p n) (Nat.two_pow_pos n) (fun i hi => ?_)
    rw [dz_bits_tb, h i hi, Nat.zero_testBit]; simp
theorem db_it {s : dz_Sg} (hO : dz_OK s) {P3 : dz_PS} {p m : Nat} (hp : p < sg_p s) (hg : 0 < pa_G s p m) (hl : pa_lev p m ≤ pa_K s) (hon : ∀ x, 0 < P3.2.2 (p + 1) x ↔ pa_on s (p + 1) x) : nI (dz_bits (fun d => pa_ok s p m d && decide (0 < P3.2.2 (p + 1) (pa_nx s p m d))) 11) = 0 ↔ ¬ pa_on s p m := by
  have hlt := dz_bits_lt (fun d => pa_ok s p m d && decide (0 < P3.2.2 (p + 1) (pa_nx s p m d))) 11
  rw [show (0 : Int32) = nI 0 from rfl, nI_eq (by omega) (by decide), dz_bits_0, pa_on_step hO hp hg hl]
  constructor
  · rintro h ⟨d, hd, h1, h2⟩
    have := h d hd
    simp [h1, (hon _).mpr h2] at this
  · intro h d hd
    cases hb : (pa_ok s p m d && decide (0 < P3.2.2 (p + 1) (pa_nx s p m d))) with
    | false => rfl
    | true =>
      simp only [Bool.and_eq_true, decide_eq_true_eq] at hb
      exact absurd ⟨d, hd, hb.1, (hon _).mp hb.2⟩ h
noncomputable def db_h (s : dz_Sg) (r : Nat → Nat) (p i : Nat) : Nat := dz_bits (fun d => dz_B (∃ j, j < i ∧ pa_ok s p (r j) d = true ∧ pa_on s (p + 1) (pa_nx s p (r j) d))) 11
theorem db_h0 (s : dz_Sg) (r : Nat → Nat) (p : Nat) : db_h s r p 0 = 0 := dz_bits_0.mpr (fun d _ => dz_Bf.mpr (fun ⟨j, hj, _⟩ => absurd hj (by omega)))
theorem db_hs {s : dz_Sg} {P3 : dz_PS} {r : Nat → Nat} {p i : Nat} (hon : ∀ x, 0 < P3.2.2 (p + 1) x ↔ pa_on s (p + 1) x) : db_h s r p i ||| dz_bits (fun d => pa_ok s p (r i) d && decide (0 < P3.2.2 (p + 1) (pa_nx s p (r i) d))) 11 = db_h s r p (i + 1) := by
  unfold db_h
  refine dz_bits_ext (n := 11) (Nat.or_lt_two_pow (dz_bits_lt _ 11) (dz_bits_lt _ 11)) (dz_bits_lt _ 11) (fun d hd => ?_)
  rw [Nat.testBit_or, dz_bits_tb, dz_bits_tb, dz_bits_tb]
  simp only [hd, decide_true, Bool.true_and]
  by_cases h1 : ∃ j, j < i ∧ pa_ok s p (r j) d = true ∧ pa_on s (p + 1) (pa_nx s p (r j) d)
  · rw [dz_Bt.mpr h1, dz_Bt.mpr (by obtain ⟨j, a, b⟩ := h1; exact ⟨j, by omega, b⟩)]; rfl
  · rw [dz_Bf.mpr h1, Bool.false_or]
    by_cases h2 : pa_ok s p (r i) d = true ∧ pa_on s (p + 1) (pa_nx s p (r i) d)
    · rw [dz_Bt.mpr ⟨i, by omega, h2⟩, h2.1]
      simp [(hon _).mpr h2.2]
    · rw [dz_Bf.mpr (fun ⟨j, a, b⟩ => by
        rcases Nat.lt_or_ge j i with z | z
        · exact h1 ⟨j, z, b⟩
        · rw [show j = i by omega] at b; exact h2 b)]
      cases hb : (pa_ok s p (r i) d && decide (0 < P3.2.2 (p + 1) (pa_nx s p (r i) d))) with
      | false => rfl
      | true =>
        simp only [Bool.and_eq_true, decide_eq_true_eq] at hb
        exact absurd ⟨hb.1, (hon _).mp hb.2⟩ h2
theorem db_he {s : dz_Sg} {P2 : dz_PS} {p : Nat} (hwf : ps_wf P2 p) (hgk : ∀ m, P2.2.2 p m = pa_gk s (pa_K s + 1) p m) : db_h s (P2.2.1 p) p (P2.1 p) = dz_bits (fun d => dz_B (pa_hs s p d)) 11 := by
  unfold db_h
  refine dz_bits_cong (fun d hd => dz_B_cong ⟨fun ⟨j, a, b, c⟩ => ?_, fun ⟨m, a, b, c, e⟩ => ?_⟩)
  · have := (hwf.2.2 _).mpr ⟨j, a, rfl⟩
    rw [hgk] at this
    obtain ⟨g1, g2⟩ := pa_gk_pos.mp this
    exact ⟨_, g1, by omega, b, c⟩
  · obtain ⟨i, hi, q⟩ := (hwf.2.2 m).mp (by rw [hgk]; exact pa_gk_pos.mpr ⟨a, by omega⟩)
    exact ⟨i, hi, by rw [q]; exact c, by rw [q]; exact e⟩
set_option maxRecDepth 100000 in
set_option maxHeartbeats 4000000 in
theorem db_i {π : dz_Pl} {post : Option dz_AV → dz_MI → dz_MJ → Prop} {V : dz_Vt} (hV : dz_Clo π dz_Y 62 2 mX2_dropAllButBest 2 49 post V) {s : dz_Sg} {P2 : dz_PS} {I2 : dz_MI} {J0 : dz_MJ} {p : Nat} (hO : dz_OK s) (hS : SU s I2) (hp : p < sg_p s) (hwf : ps_wf P2 p) (hgk : ∀ m, P2.2.2 p m = pa_gk s (pa_K s + 1) p m) (hon : ∀ x, 0 < P2.2.2 (p + 1) x ↔ pa_on s (p + 1) x) (hbd : ∀ x, P2.2.2 (p + 1) x < 2 ^ 62) (K : ∀ P3 J3, PM P3 I2 J3 → db_N s P2 P3 p (P2.1 p) → (∀ k, J3 4 k = J0 4 k) → V 70 I2 J3 [(0, .inr (.inr 4)), (1, .inl (nI p)), (2, .inl (nI (db_h s (P2.2.1 p) p (P2.1 p))))] []) : ∀ (fu i : Nat) (P3 : dz_PS) (J3 : dz_MJ), P2.1 p < i + fu → i ≤ P2.1 p → PM P3 I2 J3 → db_N s P2 P3 p i → (∀ k, J3 4 k = J0 4 k) → V 15 I2 J3 [(0, .inr (.inr 4)), (1, .inl (nI p)), (2, .inl (nI (db_h s (P2.2.1 p) p (i)))), (3, .inl (nI (i)))] [] := by
  have h8 := hO.2.2.1
  have hle := hwf.le
  intro fu
  induction fu with
  | zero => intro i P3 J3 h1 h2; exact absurd h1 (by omega)
  | succ fu ih =>
      intro i P3 J3 h1 h2 hM3 hN hJ
      refine dr_iload_n 15 hV dX2_dropAllButBest_15 rfl ?_
      refine dr_aload_n 16 hV dX2_dropAllButBest_16 rfl ?_
      refine dr_geta 17 hV dX2_dropAllButBest_17 (by decide) (by decide) rfl rfl rfl ?_
      refine dr_iload_n 20 hV dX2_dropAllButBest_20 rfl ?_
      refine dr_iald (v := nI (P2.1 p)) 21 hV dX2_dropAllButBest_21 (by decide) rfl rfl (by omega) (by decide) (by rw [hM3.1 p (by omega), hN.1]) ?_
      refine dn_icmp_ge (tgt := 70) 22 hV dX2_dropAllButBest_22 (by decide) (by omega) (by omega) (fun c22 => ?_) (fun c22 => ?_)
      · have hie : i = P2.1 p := by omega
        subst hie
        refine dr_sub hV (ls2 := [(0, .inr (.inr 4)), (1, .inl (nI p)), (2, .inl (nI (db_h s (P2.2.1 p) p (P2.1 p))))]) rfl ?_
        exact K P3 J3 hM3 hN hJ
      · have hgp := (hwf.2.2 _).mpr ⟨i, c22, rfl⟩
        rw [hgk] at hgp
        obtain ⟨hg, hl⟩ := pa_gk_pos.mp hgp
        have hvd := (pa_G_vd hO p _ (by omega) hg).1
        have hm := (pv_vd hO.1 hvd).1
        have hon3 : ∀ x, 0 < P3.2.2 (p + 1) x ↔ pa_on s (p + 1) x := fun x => by rw [hN.2.2.1 (p + 1) (by omega)]; exact hon x
        have hit := db_it hO hp hg (by omega) hon3
        refine dr_aload_n 25 hV dX2_dropAllButBest_25 rfl ?_
        refine dr_geta 26 hV dX2_dropAllButBest_26 (by decide) (by decide) rfl rfl rfl ?_
        refine dr_iload_n 29 hV dX2_dropAllButBest_29 rfl ?_
        refine dr_aaldi 30 hV dX2_dropAllButBest_30 (by decide) rfl rfl (by omega) (by decide) ?_
        refine dr_iload_n 31 hV dX2_dropAllButBest_31 rfl ?_
        refine dr_iald (v := nI (P2.2.1 p i)) 32 hV dX2_dropAllButBest_32 (by omega) (dz_Y_r (by omega)) rfl (by omega) (by decide) (by rw [hM3.2.1 p i (by omega) (by rw [hN.1]; exact c22), hN.2.1]) ?_
        refine dr_istore 33 hV dX2_dropAllButBest_33 (by decide) ?_
        refine dr_aload_n 35 hV dX2_dropAllButBest_35 rfl ?_
        refine dr_iload_n 36 hV dX2_dropAllButBest_36 rfl ?_
        refine dr_iload 37 hV dX2_dropAllButBest_37 rfl ?_
        refine dr_cvp2 39 hV dz_lX2_100 dX2_dropAllButBest_39 (by decide) (by decide) ⟨by decide, _, _, rfl, by decide, rfl⟩ (Nat.le_of_ble_eq_true rfl) (c_X2_itemsToBest π _ _ hO hS hM3 hp hvd (fun x => by rw [hN.2.2.1 (p + 1) (by omega)]; exact hbd x)) ?_
        refine dr_istore 42 hV dX2_dropAllButBest_42 (by decide) ?_
        refine dr_iload 44 hV dX2_dropAllButBest_44 rfl ?_
        refine dr_if_ne (tgt := 59) 46 hV dX2_dropAllButBest_46 (by decide) (fun c46 => ?_) (fun c46 => ?_)
        · have hyes : pa_on s p (P2.2.1 p i) := Classical.byContradiction fun z => c46 (hit.mpr z)
          refine dr_iload_n 59 hV dX2_dropAllButBest_59 rfl ?_
          refine dr_iload 60 hV dX2_dropAllButBest_60 rfl ?_
          refine dr_ior (z := nI (db_h s (P2.2.1 p) p (i + 1))) 62 hV dX2_dropAllButBest_62 (by rw [fa_or, db_hs hon3]) ?_
          refine dr_istore_n 63 hV dX2_dropAllButBest_63 (by decide) ?_
          refine dr_iinc1 64 hV dX2_dropAllButBest_64 (by decide) rfl ?_
          refine dr_goto (tgt := 15) 67 hV dX2_dropAllButBest_67 (by decide) ?_
          refine dr_sub hV (ls2 := [(0, .inr (.inr 4)), (1, .inl (nI p)), (2, .inl (nI (db_h s (P2.2.1 p) p (i + 1)))), (3, .inl (nI (i + 1)))]) rfl ?_
          exact ih (i + 1) _ _ (by omega) (by omega) hM3 (hN.s1 hyes) hJ
        · have hnot := hit.mp c46
          refine dr_aload_n 49 hV dX2_dropAllButBest_49 rfl ?_
          refine dr_geta 50 hV dX2_dropAllButBest_50 (by decide) (by decide) rfl rfl rfl ?_
          refine dr_iload_n 53 hV dX2_dropAllButBest_53 rfl ?_
          refine dr_aaldl 54 hV dX2_dropAllButBest_54 (by decide) rfl rfl (by omega) (by decide) ?_
          refine dr_iload 55 hV dX2_dropAllButBest_55 rfl ?_
          refine dr_lconst (v := lN 0) 57 hV dX2_dropAllButBest_57 (by decide) ?_
          refine dr_last 58 hV dX2_dropAllButBest_58 (by omega) (dz_Y_b (by omega)) rfl hm (by decide) ?_
          refine dr_iload_n 59 hV dX2_dropAllButBest_59 rfl ?_
          refine dr_iload 60 hV dX2_dropAllButBest_60 rfl ?_
          refine dr_ior (z := nI (db_h s (P2.2.1 p) p (i + 1))) 62 hV dX2_dropAllButBest_62 (by rw [fa_or, db_hs hon3]) ?_
          refine dr_istore_n 63 hV dX2_dropAllButBest_63 (by decide) ?_
          refine dr_iinc1 64 hV dX2_dropAllButBest_64 (by decide) rfl ?_
          refine dr_goto (tgt := 15) 67 hV dX2_dropAllButBest_67 (by decide) ?_
          refine dr_sub hV (ls2 := [(0, .inr (.inr 4)), (1, .inl (nI p)), (2, .inl (nI (db_h s (P2.2.1 p) p (i + 1)))), (3, .inl (nI (i + 1)))]) rfl ?_
          exact ih (i + 1) _ _ (by omega) (by omega) (hM3.z (by omega)) (hN.s0 hnot) (fun k => by rw [dz_wj_n _ _ (by omega)]; exact hJ k)
set_option maxRecDepth 100000 in
set_option maxHeartbeats 4000000 in
theorem c_X2_dropAllButBest (π : dz_Pl) {s : dz_Sg} {P : dz_PS} (I : dz_MI) (J : dz_MJ) (hO : dz_OK s) (hS : SU s I) (hM : PM P I J) (hwf : ∀ x, x ≤ sg_p s → ps_wf P x) (hgk : ∀ x m, x ≤ sg_p s → P.2.2 x m = pa_gk s (pa_K s + 1) x m) : dz_Cl π dz_Y 62 mX2_dropAllButBest 2 49 [.inr (.inr 4)] I J (fun r I2 J2 => r = none ∧ (∀ a k, ¬ a = 18 → I2 a k = I a k) ∧ (∀ k, J2 4 k = J 4 k) ∧ (∀ y, y < sg_p s → I2 18 y = nI (dz_bits (fun d => dz_B (pa_hs s y d)) 11)) ∧ ∃ P2, PM P2 I2 J2 ∧ db_I s P P2 0) := by
  refine dz_body (own := 2) dz_mX2_dropAllButBest rfl (Nat.le_of_ble_eq_true rfl) (fun V hV => ?_)
  have h8 := hO.2.2.1
  have hbd : ∀ x m, x ≤ sg_p s → P.2.2 x m < 2 ^ 62 := fun x m hx => by rw [hgk x m hx]; exact Nat.lt_of_le_of_lt (pa_gk_le hO hx m) (by decide)
  have loop : ∀ (q : Nat) (P2 : dz_PS) (I2 : dz_MI) (J2 : dz_MJ), q ≤ sg_p s → PM P2 I2 J2 → db_I s P P2 q → (∀ y, q ≤ y → y < sg_p s → I2 18 y = nI (dz_bits (fun d => dz_B (pa_hs s y d)) 11)) → (∀ a k, ¬ a = 18 → I2 a k = I a k) → (∀ k, J2 4 k = J 4 k) → V 7 I2 J2 [(0, .inr (.inr 4)), (1, .inl (dz_dn q))] [] := by
    intro q
    induction q with
    | zero =>
        intro P2 I2 J2 hq hM2 hI hH hF hJ
        rw [show dz_dn 0 = (-1) from rfl]
        refine dr_iload_n 7 hV dX2_dropAllButBest_7 rfl ?_
        refine dr_if_lt (tgt := 83) 8 hV dX2_dropAllButBest_8 (by decide) (fun c8 => ?_) (fun c8 => ?_)
        · exact dr_vret 83 hV dX2_dropAllButBest_83 rfl ⟨rfl, hF, hJ, fun y hy => hH y (Nat.zero_le _) hy, P2, hM2, hI⟩
        · exact absurd (by decide) c8
    | succ q ih =>
        intro P2 I2 J2 hq hM2 hI hH hF hJ
        have hwf2 : ps_wf P2 q := by
          have := hwf q (by omega)
          unfold ps_wf at this ⊢
          rw [hI.1, hI.2.1, hI.2.2.2.1 q (by omega)]; exact this
        have hgk2 : ∀ m, P2.2.2 q m = pa_gk s (pa_K s + 1) q m := fun m => by rw [hI.2.2.2.1 q (by omega)]; exact hgk q m (by omega)
        rw [dz_dn_s]
        refine dr_iload_n 7 hV dX2_dropAllButBest_7 rfl ?_
        refine dr_if_lt (tgt := 83) 8 hV dX2_dropAllButBest_8 (by decide) (fun c8 => ?_) (fun c8 => ?_)
        · exact absurd c8 (nI_pos (by omega))
        · refine dr_iconst (v := nI 0) 11 hV dX2_dropAllButBest_11 (by decide) ?_
          refine dr_istore_n 12 hV dX2_dropAllButBest_12 (by decide) ?_
          refine dr_iconst (v := nI 0) 13 hV dX2_dropAllButBest_13 (by decide) ?_
          refine dr_istore_n 14 hV dX2_dropAllButBest_14 (by decide) ?_
          refine dr_sub hV (ls2 := [(0, .inr (.inr 4)), (1, .inl (nI q)), (2, .inl (nI (db_h s (P2.2.1 q) q (0)))), (3, .inl (nI (0)))]) (by rw [db_h0]; rfl) ?_
          refine db_i hV hO (hS.fr2 (fun a k z => hF a k (by omega))) (by omega) hwf2 hgk2 (fun x => hI.2.2.1 (q + 1) x (Nat.le_refl _) hq) (fun x => Nat.lt_of_le_of_lt (hI.2.2.2.2 (q + 1) x) (hbd (q + 1) x hq)) (J0 := J2) (fun P3 J3 hM3 hN3 hJ3 => ?_) (P2.1 q + 1) 0 P2 J2 (by omega) (Nat.zero_le _) hM2 (db_N.rf _ _ _) (fun _ => rfl)
          refine dr_aload_n 70 hV dX2_dropAllButBest_70 rfl ?_
          refine dr_geta 71 hV dX2_dropAllButBest_71 (by decide) (by decide) rfl rfl rfl ?_
          refine dr_iload_n 74 hV dX2_dropAllButBest_74 rfl ?_
          refine dr_iload_n 75 hV dX2_dropAllButBest_75 rfl ?_
          refine dr_iast 76 hV dX2_dropAllButBest_76 (by decide) rfl rfl (by omega) (by decide) ?_
          refine dr_iinc 77 hV dX2_dropAllButBest_77 (by decide) rfl (v2 := dz_dn q) (dz_dn_dec q) ?_
          refine dr_goto (tgt := 7) 80 hV dX2_dropAllButBest_80 (by decide) ?_
          refine dr_sub hV (ls2 := [(0, .inr (.inr 4)), (1, .inl (dz_dn q))]) rfl ?_
          refine ih P3 _ _ (by omega) (hM3.w (by omega) (by omega)) (hI.s (by omega) hwf2 hgk2 hN3) (fun y h1 h2 => ?_) (fun a k ha => by rw [dz_wi_n _ _ (by omega)]; exact hF a k ha) (fun k => (hJ3 k).trans (hJ k))
          by_cases e : y = q
          · subst e; rw [dz_wi_s, db_he hwf2 hgk2]
          · rw [dz_wi_n _ _ (by omega)]; exact hH y (by omega) h2
  refine dr_aload_n 0 hV dX2_dropAllButBest_0 rfl ?_
  refine dr_geti (v := nI (sg_p s)) 1 hV dX2_dropAllButBest_1 (by decide) (by decide) rfl rfl rfl hS.1 ?_
  refine dr_iconst (v := nI 1) 4 hV dX2_dropAllButBest_4 (by decide) ?_
  refine dr_isub (z := dz_dn (sg_p s)) 5 hV dX2_dropAllButBest_5 (dz_dn_sub _) ?_
  refine dr_istore_n 6 hV dX2_dropAllButBest_6 (by decide) ?_
  refine dr_sub hV (ls2 := [(0, .inr (.inr 4)), (1, .inl (dz_dn (sg_p s)))]) rfl ?_
  refine loop (sg_p s) P I J (Nat.le_refl _) hM ⟨rfl, rfl, fun x m h1 h2 => ?_, fun _ _ => rfl, fun _ _ => Nat.le_refl _⟩ (fun y h1 h2 => absurd h2 (by omega)) (fun _ _ _ => rfl) (fun _ => rfl)
  have e : x = sg_p s := by omega
  subst e
  rw [hgk _ m h2, pa_gk_pos, pa_on_end hO]
  exact ⟨fun z => ⟨z.1, by omega⟩, fun z => ⟨z.1, by omega⟩⟩
noncomputable def pa_fst (s : dz_Sg) (q : Nat) : Int32 := if dz_B (sg_no s) then -1 else nI (sg_fw s q)
def wk_X (s : dz_Sg) (I I2 : dz_MI) (p : Nat) : Prop := (∀ q, q < p → I2 19 q = pa_fst s q) ∧ ∀ a k, ¬ a = 19 → I2 a k = I a k
theorem wk_X.s {s : dz_Sg} {I I2 : dz_MI} {p : Nat} {v : Int32} (h : wk_X s I I2 p) (hv : v = pa_fst s p) : wk_X s I (dz_wi I2 19 p v) (p + 1) := by
  refine ⟨fun q hq => ?_, fun a k ha => by rw [dz_wi_n _ _ (by omega)]; exact h.2 a k ha⟩
  by_cases e : q = p
  · subst e; rw [dz_wi_s]; exact hv
  · rw [dz_wi_n _ _ (by omega)]; exact h.1 q (by omega)
theorem wk_f {s : dz_Sg} (hO : dz_OK s) (hno : ¬ sg_no s) {P : dz_PS} {p : Nat} (hp : p < sg_p s) (hon : ∀ x, 0 < P.2.2 (p + 1) x ↔ pa_on s (p + 1) x) : dz_find (fun d => (dz_bits (fun d => pa_ok s p (ph s p (sg_go s p).1 (sg_go s p).2) d && decide (0 < P.2.2 (p + 1) (pa_nx s p (ph s p (sg_go s p).1 (sg_go s p).2) d))) 11).testBit d) 11 = nI (sg_fw s p) := by
  obtain ⟨g1, g2, g3⟩ := sg_go_ok hO.2.2.1 hno p (by omega)
  obtain ⟨w1, w2, w3⟩ := sg_fw_ok hO.2.2.1 hno hp
  obtain ⟨a1, a2⟩ := pa_go hO hno p (by omega)
  have hl := sg_vl_lt hO.1 g2
  refine dz_find_s w1 ?_ (fun j hj => ?_)
  · rw [dz_bits_tb]
    have := (ph_core hO hp hl g1 a1 a2 w1).mpr w2
    simp [w1, this.1, (hon _).mpr this.2]
  · rw [dz_bits_tb]
    have hj11 : j < 11 := by omega
    cases hb : (pa_ok s p (ph s p (sg_go s p).1 (sg_go s p).2) j && decide (0 < P.2.2 (p + 1) (pa_nx s p (ph s p (sg_go s p).1 (sg_go s p).2) j))) with
    | false => simp
    | true =>
      simp only [Bool.and_eq_true, decide_eq_true_eq] at hb
      exact absurd ((ph_core hO hp hl g1 a1 a2 hj11).mp ⟨hb.1, (hon _).mp hb.2⟩) (w3 j hj)
set_option maxRecDepth 100000 in
set_option maxHeartbeats 4000000 in
theorem c_X2_walkFirst (π : dz_Pl) {s : dz_Sg} {P : dz_PS} (I : dz_MI) (J : dz_MJ) (hO : dz_OK s) (hS : SU s I) (hM : PM P I J) (hon : ∀ x m, x ≤ sg_p s → (0 < P.2.2 x m ↔ pa_on s x m)) (hbd : ∀ x m, x ≤ sg_p s → P.2.2 x m < 2 ^ 62) (hl : I 4 10 = q_least s) : dz_Cl π dz_Y 62 mX2_walkFirst 2 49 [.inr (.inr 4)] I J (fun r I2 J2 => r = none ∧ J2 = J ∧ (∀ q, q < sg_p s → I2 19 q = pa_fst s q) ∧ ∀ a k, ¬ a = 19 → I2 a k = I a k) := by
  refine dz_body (own := 2) dz_mX2_walkFirst rfl (Nat.le_of_ble_eq_true rfl) (fun V hV => ?_)
  have h8 := hO.2.2.1
  have no : sg_no s → ∀ (fu p : Nat) (I2 : dz_MI), sg_p s < p + fu → p ≤ sg_p s → wk_X s I I2 p → V 5 I2 J [(0, .inr (.inr 4)), (1, .inl (nI 10)), (2, .inl (nI (p)))] [] := by
    intro hno fu
    induction fu with
    | zero => intro p I2 h1 h2; exact absurd h1 (by omega)
    | succ fu ih =>
      intro p I2 h1 h2 hX
      skip
      refine dr_iload_n 5 hV dX2_walkFirst_5 rfl ?_
      refine dr_aload_n 6 hV dX2_walkFirst_6 rfl ?_
      refine dr_geti (v := nI (sg_p s)) 7 hV dX2_walkFirst_7 (by decide) (by decide) rfl rfl rfl (by rw [hX.2 4 9 (by omega)]; exact hS.1) ?_
      refine dn_icmp_ge (tgt := 60) 10 hV dX2_walkFirst_10 (by decide) (by omega) (by omega) (fun c10 => ?_) (fun c10 => ?_)
      · exact dr_vret 60 hV dX2_walkFirst_60 rfl ⟨rfl, rfl, fun q hq => hX.1 q (by omega), hX.2⟩
      · refine dr_aload_n 13 hV dX2_walkFirst_13 rfl ?_
        refine dr_cvp0 14 hV dz_lX2_103 dX2_walkFirst_14 (by decide) (by decide) ⟨by decide, _, _, rfl, by decide, rfl⟩ (Nat.le_of_ble_eq_true rfl) (c_X2_hasWay π _ _) ?_
        rw [hX.2 4 10 (by omega), hl]
        first | refine dr_ifb_eq (tgt := 32) 17 hV dX2_walkFirst_17 (by decide) (fun c17 => ?_) (fun c17 => ?_) | refine dr_if_eq (tgt := 32) 17 hV dX2_walkFirst_17 (by decide) (fun c17 => ?_) (fun c17 => ?_)
        · refine dr_iconst (v := (-1)) 32 hV dX2_walkFirst_32 (by decide) ?_
          refine dr_istore_n 33 hV dX2_walkFirst_33 (by decide) ?_
          refine dr_aload_n 34 hV dX2_walkFirst_34 rfl ?_
          refine dr_geta 35 hV dX2_walkFirst_35 (by decide) (by decide) rfl rfl rfl ?_
          refine dr_iload_n 38 hV dX2_walkFirst_38 rfl ?_
          refine dr_iload_n 39 hV dX2_walkFirst_39 rfl ?_
          refine dr_iast 40 hV dX2_walkFirst_40 (by decide) rfl rfl (by omega) (by decide) ?_
          refine dr_iload_n 41 hV dX2_walkFirst_41 rfl ?_
          refine dr_iconst (v := (-1)) 42 hV dX2_walkFirst_42 (by decide) ?_
          refine dr_icmp_eq (tgt := 54) 43 hV dX2_walkFirst_43 (by decide) (fun c43 => ?_) (fun c43 => ?_)
          · refine dr_iinc1 54 hV dX2_walkFirst_54 (by decide) rfl ?_
            refine dr_goto (tgt := 5) 57 hV dX2_walkFirst_57 (by decide) ?_
            refine dr_sub hV (ls2 := [(0, .inr (.inr 4)), (1, .inl (nI 10)), (2, .inl (nI (p + 1)))]) rfl ?_
            exact ih (p + 1) _ (by omega) (by omega) (hX.s (by unfold pa_fst; rw [dz_B1 hno]))
          · exact absurd rfl c43
        · exact absurd (by unfold q_least; rw [dz_B1 hno]) c17
  have yes : ¬ sg_no s → ∀ (fu p : Nat) (I2 : dz_MI), sg_p s < p + fu → p ≤ sg_p s → wk_X s I I2 p → V 5 I2 J [(0, .inr (.inr 4)), (1, .inl (nI (ph s (p) (sg_go s (p)).1 (sg_go s (p)).2))), (2, .inl (nI (p)))] [] := by
    intro hno fu
    induction fu with
    | zero => intro p I2 h1 h2; exact absurd h1 (by omega)
    | succ fu ih =>
      intro p I2 h1 h2 hX
      skip
      refine dr_iload_n 5 hV dX2_walkFirst_5 rfl ?_
      refine dr_aload_n 6 hV dX2_walkFirst_6 rfl ?_
      refine dr_geti (v := nI (sg_p s)) 7 hV dX2_walkFirst_7 (by decide) (by decide) rfl rfl rfl (by rw [hX.2 4 9 (by omega)]; exact hS.1) ?_
      refine dn_icmp_ge (tgt := 60) 10 hV dX2_walkFirst_10 (by decide) (by omega) (by omega) (fun c10 => ?_) (fun c10 => ?_)
      · exact dr_vret 60 hV dX2_walkFirst_60 rfl ⟨rfl, rfl, fun q hq => hX.1 q (by omega), hX.2⟩
      · obtain ⟨g1, g2, g3⟩ := sg_go_ok hO.2.2.1 hno p (by omega)
        obtain ⟨w1, w2, w3⟩ := sg_fw_ok hO.2.2.1 hno c10
        obtain ⟨a1, a2⟩ := pa_go hO hno p (by omega)
        have hvd := (pa_G_vd hO p _ (by omega) a1).1
        have hm := (pv_vd hO.1 hvd).1
        have hS2 := hS.fr2 (I2 := I2) (fun a k z => hX.2 a k (by omega))
        have hM2 := hM.fr2 (I2 := I2) (J2 := J) (fun a k z => hX.2 a k (by omega)) (fun _ _ _ _ => rfl)
        refine dr_aload_n 13 hV dX2_walkFirst_13 rfl ?_
        refine dr_cvp0 14 hV dz_lX2_103 dX2_walkFirst_14 (by decide) (by decide) ⟨by decide, _, _, rfl, by decide, rfl⟩ (Nat.le_of_ble_eq_true rfl) (c_X2_hasWay π _ _) ?_
        rw [hX.2 4 10 (by omega), hl]
        first | refine dr_ifb_eq (tgt := 32) 17 hV dX2_walkFirst_17 (by decide) (fun c17 => ?_) (fun c17 => ?_) | refine dr_if_eq (tgt := 32) 17 hV dX2_walkFirst_17 (by decide) (fun c17 => ?_) (fun c17 => ?_)
        · exact absurd (fun z => by unfold q_least at z; rw [dz_B0 hno] at z; exact dz_m1n (Nat.lt_of_le_of_lt (sg_L_le s 0 0 10) (by decide)) z) c17
        · refine dr_aload_n 20 hV dX2_walkFirst_20 rfl ?_
          refine dr_iload_n 21 hV dX2_walkFirst_21 rfl ?_
          refine dr_iload_n 22 hV dX2_walkFirst_22 rfl ?_
          refine dr_cvp2 23 hV dz_lX2_100 dX2_walkFirst_23 (by decide) (by decide) ⟨by decide, _, _, rfl, by decide, rfl⟩ (Nat.le_of_ble_eq_true rfl) (c_X2_itemsToBest π _ _ hO hS2 hM2 c10 hvd (fun x => hbd (p + 1) x (by omega))) ?_
          refine dr_csp1 26 hV (Or.inl dz_lX2_107) dX2_walkFirst_26 (by decide) (by decide) (Nat.le_of_ble_eq_true rfl) (c_X2_lowest π _ _ _ _ (Nat.lt_trans (dz_bits_lt _ 11) (by decide))) ?_
          rw [wk_f hO hno c10 (fun x => hon (p + 1) x (by omega))]
          refine dr_goto (tgt := 33) 29 hV dX2_walkFirst_29 (by decide) ?_
          refine dr_istore_n 33 hV dX2_walkFirst_33 (by decide) ?_
          refine dr_aload_n 34 hV dX2_walkFirst_34 rfl ?_
          refine dr_geta 35 hV dX2_walkFirst_35 (by decide) (by decide) rfl rfl rfl ?_
          refine dr_iload_n 38 hV dX2_walkFirst_38 rfl ?_
          refine dr_iload_n 39 hV dX2_walkFirst_39 rfl ?_
          refine dr_iast 40 hV dX2_walkFirst_40 (by decide) rfl rfl (by omega) (by decide) ?_
          refine dr_iload_n 41 hV dX2_walkFirst_41 rfl ?_
          refine dr_iconst (v := (-1)) 42 hV dX2_walkFirst_42 (by decide) ?_
          refine dr_icmp_eq (tgt := 54) 43 hV dX2_walkFirst_43 (by decide) (fun c43 => ?_) (fun c43 => ?_)
          · exact absurd c43 (dz_m1n (by omega))
          · refine dr_aload_n 46 hV dX2_walkFirst_46 rfl ?_
            refine dr_iload_n 47 hV dX2_walkFirst_47 rfl ?_
            refine dr_iload_n 48 hV dX2_walkFirst_48 rfl ?_
            refine dr_iload_n 49 hV dX2_walkFirst_49 rfl ?_
            refine dr_cvp3 50 hV dz_lX2_96 dX2_walkFirst_50 (by decide) (by decide) ⟨by decide, _, _, rfl, by decide, rfl⟩ (Nat.le_of_ble_eq_true rfl) (c_X2_after π _ _ hO (hS2.w (by omega) (by omega) (by omega) (by omega) (by omega)) c10 hm w1) ?_
            rw [ph_nx hO c10 (sg_vl_lt hO.1 g2)]
            refine dr_istore_n 53 hV dX2_walkFirst_53 (by decide) ?_
            refine dr_iinc1 54 hV dX2_walkFirst_54 (by decide) rfl ?_
            refine dr_goto (tgt := 5) 57 hV dX2_walkFirst_57 (by decide) ?_
            refine dr_sub hV (ls2 := [(0, .inr (.inr 4)), (1, .inl (nI (ph s (p + 1) (sg_go s (p + 1)).1 (sg_go s (p + 1)).2))), (2, .inl (nI (p + 1)))]) (by rw [sg_go_s]; rfl) ?_
            exact ih (p + 1) _ (by omega) (by omega) (hX.s (by unfold pa_fst; rw [dz_B0 hno]))
  refine dr_bipush (v := nI 10) 0 hV dX2_walkFirst_0 (by decide) ?_
  refine dr_istore_n 2 hV dX2_walkFirst_2 (by decide) ?_
  refine dr_iconst (v := nI 0) 3 hV dX2_walkFirst_3 (by decide) ?_
  refine dr_istore_n 4 hV dX2_walkFirst_4 (by decide) ?_
  by_cases hno : sg_no s
  · refine dr_sub hV (ls2 := [(0, .inr (.inr 4)), (1, .inl (nI 10)), (2, .inl (nI (0)))]) rfl ?_
    exact no hno (sg_p s + 1) 0 I (by omega) (Nat.zero_le _) ⟨fun q hq => absurd hq (by omega), fun _ _ _ => rfl⟩
  · refine dr_sub hV (ls2 := [(0, .inr (.inr 4)), (1, .inl (nI (ph s (0) (sg_go s (0)).1 (sg_go s (0)).2))), (2, .inl (nI (0)))]) (by rw [show ph s 0 (sg_go s 0).1 (sg_go s 0).2 = 10 from ph_0 s]; rfl) ?_
    exact yes hno (sg_p s + 1) 0 I (by omega) (Nat.zero_le _) ⟨fun q hq => absurd hq (by omega), fun _ _ _ => rfl⟩
