/-! every yard that is told something stays a good one -/
theorem OK_measure {s : dz_Sg} (hO : dz_OK s) (a b c d : Int32) : dz_OK (sn_measure s a b c d) := by
  unfold sn_measure
  split
  · exact hO
  · exact hO
theorem OK_not {s : dz_Sg} (hO : dz_OK s) (p d : Int32) (b : Bool) : dz_OK (sn_not s p d b) := by
  unfold sn_not
  split
  · exact hO
  · exact hO
theorem OK_set {s : dz_Sg} (hO : dz_OK s) (a b c : Int32) : dz_OK (sn_set s a b c) := by
  unfold sn_set
  split
  · rename_i h
    have hk := dz_Bt.mp h
    obtain ⟨o1, o2, o3, o4, o5, o6, o7, o8, o9, o10, o11⟩ := hO
    obtain ⟨k, k1, k2, k3⟩ := col_m hk.2.2
    exact ⟨o1, o2, o3, o4, o5, o6, o7, o8, ⟨k, k1, k2, k3⟩, o10, o11⟩
  · exact hO
theorem OK_hand {s : dz_Sg} (hO : dz_OK s) (p d : Int32) : dz_OK (sn_hand s p d) := by
  unfold sn_hand
  split
  · rename_i h
    have hk := dz_Bt.mp h
    obtain ⟨o1, o2, o3, o4, o5, o6, o7, o8, o9, o10, o11⟩ := hO
    refine ⟨o1, o2, o3, o4, o5, o6, o7, fun q hq => ?_, o9, o10, o11⟩
    show (if q = p.toNatClampNeg then d else sg_wo s q) = -1 ∨ ∃ x, (x = 10 ∨ x < sg_n s) ∧ (if q = p.toNatClampNeg then d else sg_wo s q) = nI x
    by_cases e : q = p.toNatClampNeg
    · simp only [if_pos e]
      rcases hk.2 with z | z | z
      · exact Or.inl z
      · exact Or.inr ⟨10, Or.inl rfl, z⟩
      · obtain ⟨j, j1, j2⟩ := dz_ofI rfl (by omega) z
        exact Or.inr ⟨j, Or.inr j1, j2⟩
    · simp only [if_neg e]; exact o8 q hq
  · exact hO
theorem OK_drum {s : dz_Sg} (hO : dz_OK s) (a b c d e : Int32) : dz_OK (sn_drum s a b c d e) := by
  unfold sn_drum
  split
  · rename_i h
    obtain ⟨k1, k2, k3, k4, k5, k6, k7⟩ := dz_Bt.mp h
    obtain ⟨o1, o2, o3, o4, o5, o6, o7, o8, o9, o10, o11⟩ := hO
    refine ⟨?_, o2, o3, o4, o5, o6, fun j hj => ?_, fun q hq => ?_, o9, fun j hj => ?_, o11⟩
    · show sg_n s + 1 ≤ 10; omega
    · have hj2 : j < sg_n s + 1 := hj
      show ∃ x, x < 65536 ∧ (if j = sg_n s then sg_row s a b c d e 5 else sg_f s j 5) = nI x
      by_cases z : j = sg_n s
      · simp only [if_pos z]
        rw [fa_le, fa_le, nI_toInt (by decide)] at k4
        have e1 : (65535 : Int32).toInt = 65535 := by decide
        rw [e1] at k4
        refine ⟨b.toInt.toNat, by omega, ?_⟩
        show b = _
        rw [fa_eq, nI_toInt (by omega)]
        omega
      · simp only [if_neg z]; exact o7 j (by omega)
    · rcases o8 q hq with z | ⟨x, z1, z2⟩
      · exact Or.inl z
      · exact Or.inr ⟨x, z1.elim Or.inl (fun y => Or.inr (by show x < sg_n s + 1; omega)), z2⟩
    · have hj2 : j < sg_n s + 1 := hj
      show 0 ≤ (if j = sg_n s then sg_row s a b c d e 8 else sg_f s j 8)
      by_cases z : j = sg_n s
      · simp only [if_pos z]; exact k7.1
      · simp only [if_neg z]; exact o10 j (by omega)
  · exact hO
theorem OK_column {s : dz_Sg} (hO : dz_OK s) (m lo hi : Int32) : dz_OK (sn_column s m lo hi) := by
  unfold sn_column
  split
  · rename_i h
    obtain ⟨k1, k2, k3, k4, k5⟩ := dz_Bt.mp h
    obtain ⟨o1, o2, o3, o4, o5, o6, o7, o8, o9, o10, o11⟩ := hO
    obtain ⟨j, j1, j2, rfl⟩ := col_m k2
    rw [nI_add, nI_leI (by omega) (by decide)] at k3
    rw [nI_clamp (show j < 2 ^ 31 by omega)]
    refine ⟨o1, ?_, ?_, fun k hk => ?_, fun k q hk h1 h2 => ?_, fun q hq => ?_, o7, fun q hq => ?_, o9, o10, ?_⟩
    · show sg_c s + 1 ≤ 4; omega
    · show sg_p s + j ≤ 8; omega
    · have hk2 : k < sg_c s + 1 := hk
      show 1 ≤ (if k = sg_c s then j else sg_h s k) ∧ (if k = sg_c s then j else sg_h s k) ≤ 5 ∧ (if k = sg_c s then sg_p s else sg_b s k) + (if k = sg_c s then j else sg_h s k) ≤ sg_p s + j
      by_cases z : k = sg_c s
      · simp only [if_pos z]; omega
      · simp only [if_neg z]
        have := o4 k (by omega)
        omega
    · have hk2 : k < sg_c s + 1 := hk
      have h12 : (if k = sg_c s then sg_p s else sg_b s k) ≤ q := h1
      have h22 : q < (if k = sg_c s then sg_p s else sg_b s k) + (if k = sg_c s then j else sg_h s k) := h2
      show (if sg_p s ≤ q then sg_c s else sg_col s q) = k
      by_cases z : k = sg_c s
      · simp only [if_pos z] at h12 h22
        rw [if_pos h12, z]
      · simp only [if_neg z] at h12 h22
        have := o4 k (by omega)
        rw [if_neg (by omega)]
        exact o5 k q (by omega) h12 h22
    · have hq2 : q < sg_p s + j := hq
      show (if sg_p s ≤ q then sg_c s else sg_col s q) < sg_c s + 1 ∧ (if (if sg_p s ≤ q then sg_c s else sg_col s q) = sg_c s then sg_p s else sg_b s (if sg_p s ≤ q then sg_c s else sg_col s q)) ≤ q ∧ q < (if (if sg_p s ≤ q then sg_c s else sg_col s q) = sg_c s then sg_p s else sg_b s (if sg_p s ≤ q then sg_c s else sg_col s q)) + (if (if sg_p s ≤ q then sg_c s else sg_col s q) = sg_c s then j else sg_h s (if sg_p s ≤ q then sg_c s else sg_col s q))
      by_cases z : sg_p s ≤ q
      · simp only [if_pos z, if_true]; omega
      · have := o6 q (by omega)
        simp only [if_neg z]
        rw [if_neg (by omega), if_neg (by omega)]
        omega
    · have hq2 : q < sg_p s + j := hq
      show (if sg_p s ≤ q then (-1 : Int32) else sg_wo s q) = -1 ∨ ∃ x, (x = 10 ∨ x < sg_n s) ∧ (if sg_p s ≤ q then (-1 : Int32) else sg_wo s q) = nI x
      by_cases z : sg_p s ≤ q
      · exact Or.inl (if_pos z)
      · simp only [if_neg z]; exact o8 q (by omega)
    · show fb_sm (fun k => if k = sg_c s then j else sg_h s k) (sg_c s + 1) = sg_p s + j
      rw [fb_sm_succ, if_pos rfl, fb_sm_cong (g := sg_h s) (fun k hk => if_neg (by omega)), o11]
  · exact hO
