/-! the model's other questions -/
section DZR4
variable {π : dz_Pl} {Λ : Nat → dz_Ds} {N own : Nat} {μ : dz_Mu} {F Lc : Nat} {post : Option dz_AV → dz_MI → dz_MJ → Prop} {V : dz_Vt} {I : dz_MI} {J : dz_MJ} {ls : dz_LS} {st : List dz_AV}
theorem dr_tin (pc : Nat) (hV : dz_Clo π Λ N own μ F Lc post V) {x : Int32} {dflt lo hi off : Int} {offs : Array Int} {n tgt : Nat} (d : decode μ.2.1 pc = .ok (.tableswitch dflt lo hi offs, n)) (h1 : ¬ x.toInt < lo) (h2 : ¬ hi < x.toInt) (ho : offs[(x.toInt - lo).toNat]? = some off) (ht : (pc : Int) + off = (tgt : Int)) (kk : V tgt I J ls st) : V pc I J ls (.inl x :: st) := hV.1 d ⟨x, st, rfl, fun h => absurd h (fun z => z.elim h1 h2), fun _ _ => ⟨off, tgt, ho, ht, kk⟩⟩
theorem dr_tout (pc : Nat) (hV : dz_Clo π Λ N own μ F Lc post V) {x : Int32} {dflt lo hi : Int} {offs : Array Int} {n tgt : Nat} (d : decode μ.2.1 pc = .ok (.tableswitch dflt lo hi offs, n)) (h1 : x.toInt < lo ∨ hi < x.toInt) (ht : (pc : Int) + dflt = (tgt : Int)) (kk : V tgt I J ls st) : V pc I J ls (.inl x :: st) := hV.1 d ⟨x, st, rfl, fun _ => ⟨tgt, ht, kk⟩, fun a b => absurd h1 (fun z => z.elim a b)⟩
end DZR4
theorem dz_tswo {x : Int32} (n : Nat) (h : ∀ j, j ≤ n → ¬ x = nI j) (hn : n < 100) : x.toInt < 0 ∨ (n : Int) < x.toInt := by
  by_cases h1 : x.toInt < 0
  · exact Or.inl h1
  · refine Or.inr (Classical.byContradiction fun h2 => ?_)
    refine h x.toInt.toNat (by omega) ?_
    rw [fa_eq, nI_toInt (by omega)]
    omega
noncomputable def q_turn (s : dz_Sg) (u l : Int32) : Int32 := if dz_B ((0 ≤ u ∧ u < nI (sg_n s)) ∧ (0 ≤ l ∧ l < nI (sg_n s)) ∧ ¬ u = l) then dz_tO (sg_f s) (sg_tol s) u.toNatClampNeg l.toNatClampNeg else -1
noncomputable def sg_ff (s : dz_Sg) (d c : Nat) : Bool := dz_B (dz_fitp (sg_f s d 0) (sg_fo s c) (sg_f s d 2) (sg_tol s))
noncomputable def sg_fh (s : dz_Sg) (d c : Nat) : Bool := dz_B (dz_fitp (sg_f s d 1) (sg_he s c) (sg_f s d 2) (sg_tol s))
noncomputable def q_fits (s : dz_Sg) (d c : Int32) : Int32 := if dz_B ((0 ≤ d ∧ d < nI (sg_n s)) ∧ (0 ≤ c ∧ c < nI (sg_c s))) then nI ((if sg_ff s d.toNatClampNeg c.toNatClampNeg then 1 else 0) + (if sg_fh s d.toNatClampNeg c.toNatClampNeg then 2 else 0)) else -1
noncomputable def q_place (s : dz_Sg) (p w : Int32) : Int32 := if dz_B (0 ≤ p ∧ p < nI (sg_p s)) then (if w = 0 then nI (sg_col s p.toNatClampNeg) else if w = nI 1 then nI p.toNatClampNeg - nI (sg_b s (sg_col s p.toNatClampNeg)) else if w = nI 2 then sg_wo s p.toNatClampNeg else -1) else -1
noncomputable def q_pairs (s : dz_Sg) : Nat := fb_sm (fun a => fa_cnt (fun b => decide (¬ dz_tP (sg_f s) (sg_tol s) a b = -1)) (sg_n s)) (sg_n s)
noncomputable def q_count (s : dz_Sg) (w : Int32) : Int32 := if w = nI 0 then nI (sg_n s) else if w = nI 1 then nI (sg_c s) else if w = nI 2 then nI (sg_p s) else if w = nI 3 then nI (q_pairs s) else if w = nI 4 then nI (fa_cnt (fun p => decide (¬ sg_wo s p = -1)) (sg_p s)) else -1
set_option maxRecDepth 100000 in
set_option maxHeartbeats 4000000 in
theorem c_X5_turn (π : dz_Pl) {s : dz_Sg} (u l : Int32) (I : dz_MI) (J : dz_MJ) (hO : dz_OK s) (hR : dz_RM s I) : dz_Cl π dz_M 24 mX5_turn 2 64 [.inr (.inr 0), .inl u, .inl l] I J (dz_Qm s (.inl (q_turn s u l))) := by
  refine dz_body (own := 5) dz_mX5_turn rfl (Nat.le_of_ble_eq_true rfl) (fun V hV => ?_)
  have hO2 := hO
  obtain ⟨o1, o2, o3, o4, o5, o6, o7, o8, o9⟩ := hO
  refine dr_aload_n 0 hV dX5_turn_0 rfl ?_
  refine dr_iconst (v := nI 0) 1 hV dX5_turn_1 (by decide) ?_
  refine dr_puti 2 hV dX5_turn_2 (by decide) (by decide) rfl rfl rfl rfl rfl rfl ?_
  have hR1 := hR.w hO2 (c := 0) (k := 0) (x := nI 0) (Or.inr ⟨rfl, rfl⟩)
  generalize dz_wi I 0 0 (nI 0) = I1 at hR1 ⊢
  obtain ⟨m1, m2, m3, m4, m5, m6, m7, m8, m9, m10, m11, m12⟩ := id hR1
  refine dr_aload_n 5 hV dX5_turn_5 rfl ?_
  refine dr_iload_n 6 hV dX5_turn_6 rfl ?_
  refine dr_cvp1 7 hV dz_lX5_124 dX5_turn_7 (by decide) (by decide) ⟨by decide, _, _, rfl, by decide, rfl⟩ (Nat.le_of_ble_eq_true rfl) (c_X5_isDrum π _ _ _) ?_
  first | refine dr_ifb_eq (tgt := 35) 10 hV dX5_turn_10 (by decide) (fun c10 => ?_) (fun c10 => ?_) | refine dr_if_eq (tgt := 35) 10 hV dX5_turn_10 (by decide) (fun c10 => ?_) (fun c10 => ?_)
  · refine dr_iconst (v := (-1)) 35 hV dX5_turn_35 (by decide) ?_
    exact dr_iret 36 hV dX5_turn_36 rfl (by first | rfl | exact dz_bn) (dz_qm (by clear hV; unfold q_turn; first | rw [dz_B1 hok, nI_clamp (by omega), nI_clamp (by omega)] | rw [dz_B0 (by rw [m1] at *; grind)]) hR1)
  · refine dr_aload_n 13 hV dX5_turn_13 rfl ?_
    refine dr_iload_n 14 hV dX5_turn_14 rfl ?_
    refine dr_cvp1 15 hV dz_lX5_124 dX5_turn_15 (by decide) (by decide) ⟨by decide, _, _, rfl, by decide, rfl⟩ (Nat.le_of_ble_eq_true rfl) (c_X5_isDrum π _ _ _) ?_
    first | refine dr_ifb_eq (tgt := 35) 18 hV dX5_turn_18 (by decide) (fun c18 => ?_) (fun c18 => ?_) | refine dr_if_eq (tgt := 35) 18 hV dX5_turn_18 (by decide) (fun c18 => ?_) (fun c18 => ?_)
    · refine dr_iconst (v := (-1)) 35 hV dX5_turn_35 (by decide) ?_
      exact dr_iret 36 hV dX5_turn_36 rfl (by first | rfl | exact dz_bn) (dz_qm (by clear hV; unfold q_turn; first | rw [dz_B1 hok, nI_clamp (by omega), nI_clamp (by omega)] | rw [dz_B0 (by rw [m1] at *; grind)]) hR1)
    · refine dr_iload_n 21 hV dX5_turn_21 rfl ?_
      refine dr_iload_n 22 hV dX5_turn_22 rfl ?_
      refine dr_icmp_eq (tgt := 35) 23 hV dX5_turn_23 (by decide) (fun c23 => ?_) (fun c23 => ?_)
      · refine dr_iconst (v := (-1)) 35 hV dX5_turn_35 (by decide) ?_
        exact dr_iret 36 hV dX5_turn_36 rfl (by first | rfl | exact dz_bn) (dz_qm (by clear hV; unfold q_turn; first | rw [dz_B1 hok, nI_clamp (by omega), nI_clamp (by omega)] | rw [dz_B0 (by rw [m1] at *; grind)]) hR1)
      · have hok : (0 ≤ u ∧ u < nI (sg_n s)) ∧ (0 ≤ l ∧ l < nI (sg_n s)) ∧ ¬ u = l := by rw [m1] at c10 c18; exact ⟨c10, c18, c23⟩
        obtain ⟨k, hk, rfl⟩ := dz_ofI m1 (by omega) c10
        obtain ⟨q, hq, rfl⟩ := dz_ofI m1 (by omega) c18
        refine dr_aload_n 26 hV dX5_turn_26 rfl ?_
        refine dr_iload_n 27 hV dX5_turn_27 rfl ?_
        refine dr_iload_n 28 hV dX5_turn_28 rfl ?_
        refine dr_cvp2 29 hV dz_lX5_127 dX5_turn_29 (by decide) (by decide) ⟨by decide, _, _, rfl, by decide, rfl⟩ (Nat.le_of_ble_eq_true rfl) (c_X5_turnOf π _ _ hO2 hR1 hk hq) ?_
        refine dr_goto (tgt := 36) 32 hV dX5_turn_32 (by decide) ?_
        exact dr_iret 36 hV dX5_turn_36 rfl (by first | rfl | exact dz_bn) (dz_qm (by clear hV; unfold q_turn; first | rw [dz_B1 hok, nI_clamp (by omega), nI_clamp (by omega)] | rw [dz_B0 (by rw [m1] at *; grind)]) hR1)
set_option maxRecDepth 100000 in
set_option maxHeartbeats 4000000 in
theorem c_X5_fits (π : dz_Pl) {s : dz_Sg} (d c : Int32) (I : dz_MI) (J : dz_MJ) (hO : dz_OK s) (hR : dz_RM s I) : dz_Cl π dz_M 24 mX5_fits 2 62 [.inr (.inr 0), .inl d, .inl c] I J (dz_Qm s (.inl (q_fits s d c))) := by
  refine dz_body (own := 5) dz_mX5_fits rfl (Nat.le_of_ble_eq_true rfl) (fun V hV => ?_)
  have hO2 := hO
  obtain ⟨o1, o2, o3, o4, o5, o6, o7, o8, o9⟩ := hO
  refine dr_aload_n 0 hV dX5_fits_0 rfl ?_
  refine dr_iconst (v := nI 0) 1 hV dX5_fits_1 (by decide) ?_
  refine dr_puti 2 hV dX5_fits_2 (by decide) (by decide) rfl rfl rfl rfl rfl rfl ?_
  have hR1 := hR.w hO2 (c := 0) (k := 0) (x := nI 0) (Or.inr ⟨rfl, rfl⟩)
  generalize dz_wi I 0 0 (nI 0) = I1 at hR1 ⊢
  obtain ⟨m1, m2, m3, m4, m5, m6, m7, m8, m9, m10, m11, m12⟩ := id hR1
  refine dr_aload_n 5 hV dX5_fits_5 rfl ?_
  refine dr_iload_n 6 hV dX5_fits_6 rfl ?_
  refine dr_cvp1 7 hV dz_lX5_124 dX5_fits_7 (by decide) (by decide) ⟨by decide, _, _, rfl, by decide, rfl⟩ (Nat.le_of_ble_eq_true rfl) (c_X5_isDrum π _ _ _) ?_
  first | refine dr_ifb_eq (tgt := 21) 10 hV dX5_fits_10 (by decide) (fun c10 => ?_) (fun c10 => ?_) | refine dr_if_eq (tgt := 21) 10 hV dX5_fits_10 (by decide) (fun c10 => ?_) (fun c10 => ?_)
  · refine dr_iconst (v := (-1)) 21 hV dX5_fits_21 (by decide) ?_
    exact dr_iret 22 hV dX5_fits_22 rfl (by first | rfl | exact dz_bn) (dz_qm (by clear hV; unfold q_fits; rw [dz_B0 (by rw [m1, m2] at *; grind)]) hR1)
  · refine dr_aload_n 13 hV dX5_fits_13 rfl ?_
    refine dr_iload_n 14 hV dX5_fits_14 rfl ?_
    refine dr_cvp1 15 hV dz_lX5_131 dX5_fits_15 (by decide) (by decide) ⟨by decide, _, _, rfl, by decide, rfl⟩ (Nat.le_of_ble_eq_true rfl) (c_X5_isColumn π _ _ _) ?_
    first | refine dr_ifb_ne (tgt := 23) 18 hV dX5_fits_18 (by decide) (fun c18 => ?_) (fun c18 => ?_) | refine dr_if_ne (tgt := 23) 18 hV dX5_fits_18 (by decide) (fun c18 => ?_) (fun c18 => ?_)
    · have hok : (0 ≤ d ∧ d < nI (sg_n s)) ∧ (0 ≤ c ∧ c < nI (sg_c s)) := by rw [m1] at c10; rw [m2] at c18; exact ⟨c10, c18⟩
      obtain ⟨k, hk, rfl⟩ := dz_ofI m1 (by omega) c10
      obtain ⟨q, hq, rfl⟩ := dz_ofI m2 (by omega) c18
      refine dr_aload_n 23 hV dX5_fits_23 rfl ?_
      refine dr_iload_n 24 hV dX5_fits_24 rfl ?_
      refine dr_iload_n 25 hV dX5_fits_25 rfl ?_
      refine dr_cvp2 26 hV dz_lX5_134 dX5_fits_26 (by decide) (by decide) ⟨by decide, _, _, rfl, by decide, rfl⟩ (Nat.le_of_ble_eq_true rfl) (c_X5_fitsFoot π _ _ hO2 hR1 hk hq) ?_
      first | refine dr_ifb_eq (tgt := 36) 29 hV dX5_fits_29 (by decide) (fun c29 => ?_) (fun c29 => ?_) | refine dr_if_eq (tgt := 36) 29 hV dX5_fits_29 (by decide) (fun c29 => ?_) (fun c29 => ?_)
      · refine dr_iconst (v := nI 0) 36 hV dX5_fits_36 (by decide) ?_
        refine dr_aload_n 37 hV dX5_fits_37 rfl ?_
        refine dr_iload_n 38 hV dX5_fits_38 rfl ?_
        refine dr_iload_n 39 hV dX5_fits_39 rfl ?_
        refine dr_cvp2 40 hV dz_lX5_138 dX5_fits_40 (by decide) (by decide) ⟨by decide, _, _, rfl, by decide, rfl⟩ (Nat.le_of_ble_eq_true rfl) (c_X5_fitsHead π _ _ hO2 hR1 hk hq) ?_
        first | refine dr_ifb_eq (tgt := 50) 43 hV dX5_fits_43 (by decide) (fun c43 => ?_) (fun c43 => ?_) | refine dr_if_eq (tgt := 50) 43 hV dX5_fits_43 (by decide) (fun c43 => ?_) (fun c43 => ?_)
        · refine dr_iconst (v := nI 0) 50 hV dX5_fits_50 (by decide) ?_
          refine dr_iadd 51 hV dX5_fits_51 rfl ?_
          exact dr_iret 52 hV dX5_fits_52 rfl (by first | rfl | exact dz_bn) (dz_qm (by clear hV; unfold q_fits sg_ff sg_fh; rw [dz_B1 hok, nI_clamp (by omega), nI_clamp (by omega)]; (first | rw [dz_B1 c29, dz_B1 c43] | rw [dz_B1 c29, dz_B0 c43] | rw [dz_B0 c29, dz_B1 c43] | rw [dz_B0 c29, dz_B0 c43]) <;> exact nI_add _ _) hR1)
        · refine dr_iconst (v := nI 2) 46 hV dX5_fits_46 (by decide) ?_
          refine dr_goto (tgt := 51) 47 hV dX5_fits_47 (by decide) ?_
          refine dr_iadd 51 hV dX5_fits_51 rfl ?_
          exact dr_iret 52 hV dX5_fits_52 rfl (by first | rfl | exact dz_bn) (dz_qm (by clear hV; unfold q_fits sg_ff sg_fh; rw [dz_B1 hok, nI_clamp (by omega), nI_clamp (by omega)]; (first | rw [dz_B1 c29, dz_B1 c43] | rw [dz_B1 c29, dz_B0 c43] | rw [dz_B0 c29, dz_B1 c43] | rw [dz_B0 c29, dz_B0 c43]) <;> exact nI_add _ _) hR1)
      · refine dr_iconst (v := nI 1) 32 hV dX5_fits_32 (by decide) ?_
        refine dr_goto (tgt := 37) 33 hV dX5_fits_33 (by decide) ?_
        refine dr_aload_n 37 hV dX5_fits_37 rfl ?_
        refine dr_iload_n 38 hV dX5_fits_38 rfl ?_
        refine dr_iload_n 39 hV dX5_fits_39 rfl ?_
        refine dr_cvp2 40 hV dz_lX5_138 dX5_fits_40 (by decide) (by decide) ⟨by decide, _, _, rfl, by decide, rfl⟩ (Nat.le_of_ble_eq_true rfl) (c_X5_fitsHead π _ _ hO2 hR1 hk hq) ?_
        first | refine dr_ifb_eq (tgt := 50) 43 hV dX5_fits_43 (by decide) (fun c43 => ?_) (fun c43 => ?_) | refine dr_if_eq (tgt := 50) 43 hV dX5_fits_43 (by decide) (fun c43 => ?_) (fun c43 => ?_)
        · refine dr_iconst (v := nI 0) 50 hV dX5_fits_50 (by decide) ?_
          refine dr_iadd 51 hV dX5_fits_51 rfl ?_
          exact dr_iret 52 hV dX5_fits_52 rfl (by first | rfl | exact dz_bn) (dz_qm (by clear hV; unfold q_fits sg_ff sg_fh; rw [dz_B1 hok, nI_clamp (by omega), nI_clamp (by omega)]; (first | rw [dz_B1 c29, dz_B1 c43] | rw [dz_B1 c29, dz_B0 c43] | rw [dz_B0 c29, dz_B1 c43] | rw [dz_B0 c29, dz_B0 c43]) <;> exact nI_add _ _) hR1)
        · refine dr_iconst (v := nI 2) 46 hV dX5_fits_46 (by decide) ?_
          refine dr_goto (tgt := 51) 47 hV dX5_fits_47 (by decide) ?_
          refine dr_iadd 51 hV dX5_fits_51 rfl ?_
          exact dr_iret 52 hV dX5_fits_52 rfl (by first | rfl | exact dz_bn) (dz_qm (by clear hV; unfold q_fits sg_ff sg_fh; rw [dz_B1 hok, nI_clamp (by omega), nI_clamp (by omega)]; (first | rw [dz_B1 c29, dz_B1 c43] | rw [dz_B1 c29, dz_B0 c43] | rw [dz_B0 c29, dz_B1 c43] | rw [dz_B0 c29, dz_B0 c43]) <;> exact nI_add _ _) hR1)
    · refine dr_iconst (v := (-1)) 21 hV dX5_fits_21 (by decide) ?_
      exact dr_iret 22 hV dX5_fits_22 rfl (by first | rfl | exact dz_bn) (dz_qm (by clear hV; unfold q_fits; rw [dz_B0 (by rw [m1, m2] at *; grind)]) hR1)
set_option maxRecDepth 100000 in
set_option maxHeartbeats 4000000 in
theorem c_X5_place (π : dz_Pl) {s : dz_Sg} (p w : Int32) (I : dz_MI) (J : dz_MJ) (hO : dz_OK s) (hR : dz_RM s I) : dz_Cl π dz_M 24 mX5_place 1 21 [.inr (.inr 0), .inl p, .inl w] I J (dz_Qm s (.inl (q_place s p w))) := by
  refine dz_body (own := 5) dz_mX5_place rfl (Nat.le_of_ble_eq_true rfl) (fun V hV => ?_)
  have hO2 := hO
  obtain ⟨o1, o2, o3, o4, o5, o6, o7, o8, o9⟩ := hO
  refine dr_aload_n 0 hV dX5_place_0 rfl ?_
  refine dr_iconst (v := nI 0) 1 hV dX5_place_1 (by decide) ?_
  refine dr_puti 2 hV dX5_place_2 (by decide) (by decide) rfl rfl rfl rfl rfl rfl ?_
  have hR1 := hR.w hO2 (c := 0) (k := 0) (x := nI 0) (Or.inr ⟨rfl, rfl⟩)
  generalize dz_wi I 0 0 (nI 0) = I1 at hR1 ⊢
  obtain ⟨m1, m2, m3, m4, m5, m6, m7, m8, m9, m10, m11, m12⟩ := id hR1
  refine dr_aload_n 5 hV dX5_place_5 rfl ?_
  refine dr_iload_n 6 hV dX5_place_6 rfl ?_
  refine dr_cvp1 7 hV dz_lX5_141 dX5_place_7 (by decide) (by decide) ⟨by decide, _, _, rfl, by decide, rfl⟩ (Nat.le_of_ble_eq_true rfl) (c_X5_isPlace π _ _ _) ?_
  first | refine dr_ifb_ne (tgt := 15) 10 hV dX5_place_10 (by decide) (fun c10 => ?_) (fun c10 => ?_) | refine dr_if_ne (tgt := 15) 10 hV dX5_place_10 (by decide) (fun c10 => ?_) (fun c10 => ?_)
  · have hok : 0 ≤ p ∧ p < nI (sg_p s) := by rw [m3] at c10; exact c10
    obtain ⟨k, hk, rfl⟩ := dz_ofI m3 (by omega) c10
    obtain ⟨w1, w2⟩ := m11 k hk
    obtain ⟨g1, g2, g3⟩ := o6 k hk
    refine dr_iload_n 15 hV dX5_place_15 rfl ?_
    first | refine dr_ifb_ne (tgt := 28) 16 hV dX5_place_16 (by decide) (fun c16 => ?_) (fun c16 => ?_) | refine dr_if_ne (tgt := 28) 16 hV dX5_place_16 (by decide) (fun c16 => ?_) (fun c16 => ?_)
    · refine dr_iload_n 28 hV dX5_place_28 rfl ?_
      refine dr_iconst (v := nI 1) 29 hV dX5_place_29 (by decide) ?_
      refine dr_icmp_ne (tgt := 49) 30 hV dX5_place_30 (by decide) (fun c30 => ?_) (fun c30 => ?_)
      · refine dr_iload_n 49 hV dX5_place_49 rfl ?_
        refine dr_iconst (v := nI 2) 50 hV dX5_place_50 (by decide) ?_
        refine dr_icmp_ne (tgt := 63) 51 hV dX5_place_51 (by decide) (fun c51 => ?_) (fun c51 => ?_)
        · refine dr_iconst (v := (-1)) 63 hV dX5_place_63 (by decide) ?_
          exact dr_iret 64 hV dX5_place_64 rfl (by first | rfl | exact dz_bn) (dz_qm (by clear hV; unfold q_place; rw [dz_B1 hok, nI_clamp (by omega)]; first | rw [if_pos c16] | rw [if_neg c16, if_pos c30] | rw [if_neg c16, if_neg c30, if_pos c51] | rw [if_neg c16, if_neg c30, if_neg c51]) hR1)
        · refine dr_aload_n 54 hV dX5_place_54 rfl ?_
          refine dr_geta 55 hV dX5_place_55 (by decide) (by decide) rfl rfl rfl ?_
          refine dr_iload_n 58 hV dX5_place_58 rfl ?_
          refine dr_iald 59 hV dX5_place_59 (by decide) rfl rfl (by omega) (by decide) w2 ?_
          refine dr_goto (tgt := 64) 60 hV dX5_place_60 (by decide) ?_
          exact dr_iret 64 hV dX5_place_64 rfl (by first | rfl | exact dz_bn) (dz_qm (by clear hV; unfold q_place; rw [dz_B1 hok, nI_clamp (by omega)]; first | rw [if_pos c16] | rw [if_neg c16, if_pos c30] | rw [if_neg c16, if_neg c30, if_pos c51] | rw [if_neg c16, if_neg c30, if_neg c51]) hR1)
      · refine dr_iload_n 33 hV dX5_place_33 rfl ?_
        refine dr_aload_n 34 hV dX5_place_34 rfl ?_
        refine dr_geta 35 hV dX5_place_35 (by decide) (by decide) rfl rfl rfl ?_
        refine dr_aload_n 38 hV dX5_place_38 rfl ?_
        refine dr_geta 39 hV dX5_place_39 (by decide) (by decide) rfl rfl rfl ?_
        refine dr_iload_n 42 hV dX5_place_42 rfl ?_
        refine dr_iald 43 hV dX5_place_43 (by decide) rfl rfl (by omega) (by decide) w1 ?_
        refine dr_iald 44 hV dX5_place_44 (by decide) rfl rfl (by omega) (by decide) (m10 _ g1).2.2.1 ?_
        refine dr_isub 45 hV dX5_place_45 rfl ?_
        refine dr_goto (tgt := 64) 46 hV dX5_place_46 (by decide) ?_
        exact dr_iret 64 hV dX5_place_64 rfl (by first | rfl | exact dz_bn) (dz_qm (by clear hV; unfold q_place; rw [dz_B1 hok, nI_clamp (by omega)]; first | rw [if_pos c16] | rw [if_neg c16, if_pos c30] | rw [if_neg c16, if_neg c30, if_pos c51] | rw [if_neg c16, if_neg c30, if_neg c51]) hR1)
    · refine dr_aload_n 19 hV dX5_place_19 rfl ?_
      refine dr_geta 20 hV dX5_place_20 (by decide) (by decide) rfl rfl rfl ?_
      refine dr_iload_n 23 hV dX5_place_23 rfl ?_
      refine dr_iald 24 hV dX5_place_24 (by decide) rfl rfl (by omega) (by decide) w1 ?_
      refine dr_goto (tgt := 64) 25 hV dX5_place_25 (by decide) ?_
      exact dr_iret 64 hV dX5_place_64 rfl (by first | rfl | exact dz_bn) (dz_qm (by clear hV; unfold q_place; rw [dz_B1 hok, nI_clamp (by omega)]; first | rw [if_pos c16] | rw [if_neg c16, if_pos c30] | rw [if_neg c16, if_neg c30, if_pos c51] | rw [if_neg c16, if_neg c30, if_neg c51]) hR1)
  · refine dr_iconst (v := (-1)) 13 hV dX5_place_13 (by decide) ?_
    exact dr_iret 14 hV dX5_place_14 rfl (by first | rfl | exact dz_bn) (dz_qm (by clear hV; unfold q_place; rw [dz_B0 (by rw [m3] at *; exact c10)]) hR1)
set_option maxRecDepth 100000 in
set_option maxHeartbeats 4000000 in
theorem c_X5_count (π : dz_Pl) {s : dz_Sg} (w : Int32) (I : dz_MI) (J : dz_MJ) (hO : dz_OK s) (hR : dz_RM s I) : dz_Cl π dz_M 24 mX5_count 2 64 [.inr (.inr 0), .inl w] I J (dz_Qm s (.inl (q_count s w))) := by
  refine dz_body (own := 5) dz_mX5_count rfl (Nat.le_of_ble_eq_true rfl) (fun V hV => ?_)
  have hO2 := hO
  obtain ⟨o1, o2, o3, o4, o5, o6, o7, o8, o9⟩ := hO
  refine dr_aload_n 0 hV dX5_count_0 rfl ?_
  refine dr_iconst (v := nI 0) 1 hV dX5_count_1 (by decide) ?_
  refine dr_puti 2 hV dX5_count_2 (by decide) (by decide) rfl rfl rfl rfl rfl rfl ?_
  have hR1 := hR.w hO2 (c := 0) (k := 0) (x := nI 0) (Or.inr ⟨rfl, rfl⟩)
  generalize dz_wi I 0 0 (nI 0) = I1 at hR1 ⊢
  obtain ⟨m1, m2, m3, m4, m5, m6, m7, m8, m9, m10, m11, m12⟩ := id hR1
  refine dr_iconst (v := nI 0) 5 hV dX5_count_5 (by decide) ?_
  refine dr_istore_n 6 hV dX5_count_6 (by decide) ?_
  refine dr_iload_n 7 hV dX5_count_7 rfl ?_
  by_cases w0 : w = nI 0
  · subst w0
    refine dr_tin (tgt := 44) 8 hV dX5_count_8 (by decide) (by decide) (by decide : _ = some (36 : Int)) (by decide) ?_
    refine dr_aload_n 44 hV dX5_count_44 rfl ?_
    refine dr_geti 45 hV dX5_count_45 (by decide) (by decide) rfl rfl rfl m1 ?_
    exact dr_iret 48 hV dX5_count_48 rfl (by first | rfl | exact dz_bn) (dz_qm (by clear hV; unfold q_count; rw [if_pos rfl]) hR1)
  by_cases w1 : w = nI 1
  · subst w1
    refine dr_tin (tgt := 49) 8 hV dX5_count_8 (by decide) (by decide) (by decide : _ = some (41 : Int)) (by decide) ?_
    refine dr_aload_n 49 hV dX5_count_49 rfl ?_
    refine dr_geti 50 hV dX5_count_50 (by decide) (by decide) rfl rfl rfl m2 ?_
    exact dr_iret 53 hV dX5_count_53 rfl (by first | rfl | exact dz_bn) (dz_qm (by clear hV; unfold q_count; rw [if_neg (by decide), if_pos rfl]) hR1)
  by_cases w2 : w = nI 2
  · subst w2
    refine dr_tin (tgt := 54) 8 hV dX5_count_8 (by decide) (by decide) (by decide : _ = some (46 : Int)) (by decide) ?_
    refine dr_aload_n 54 hV dX5_count_54 rfl ?_
    refine dr_geti 55 hV dX5_count_55 (by decide) (by decide) rfl rfl rfl m3 ?_
    exact dr_iret 58 hV dX5_count_58 rfl (by first | rfl | exact dz_bn) (dz_qm (by clear hV; unfold q_count; rw [if_neg (by decide), if_neg (by decide), if_pos rfl]) hR1)
  by_cases w3 : w = nI 3
  · subst w3
    refine dr_tin (tgt := 59) 8 hV dX5_count_8 (by decide) (by decide) (by decide : _ = some (51 : Int)) (by decide) ?_
    have inner : ∀ (a fu i : Nat), sg_n s < i + fu → i ≤ sg_n s → a < sg_n s → V 112 I1 J [(0, .inr (.inr 0)), (2, .inl (nI (fb_sm (fun a => fa_cnt (fun b => decide (¬ dz_tP (sg_f s) (sg_tol s) a b = -1)) (sg_n s)) (a) + fa_cnt (fun b => decide (¬ dz_tP (sg_f s) (sg_tol s) (a) b = -1)) (sg_n s)))), (3, .inl (nI a))] [] → V 72 I1 J [(0, .inr (.inr 0)), (2, .inl (nI (fb_sm (fun a => fa_cnt (fun b => decide (¬ dz_tP (sg_f s) (sg_tol s) a b = -1)) (sg_n s)) (a) + fa_cnt (fun b => decide (¬ dz_tP (sg_f s) (sg_tol s) (a) b = -1)) (i)))), (3, .inl (nI (a))), (4, .inl (nI (i)))] [] := by
      intro a fu
      induction fu with
      | zero => intro i h1 h2; exact absurd h1 (by omega)
      | succ fu ih =>
        intro i h1 h2 ha K
        refine dr_iload 72 hV dX5_count_72 rfl ?_
        refine dr_aload_n 74 hV dX5_count_74 rfl ?_
        refine dr_geti 75 hV dX5_count_75 (by decide) (by decide) rfl rfl rfl m1 ?_
        refine dn_icmp_ge (tgt := 112) 78 hV dX5_count_78 (by decide) (by omega) (by omega) (fun c78 => ?_) (fun c78 => ?_)
        · rw [show i = sg_n s by omega]
          refine dr_sub hV (ls2 := [(0, .inr (.inr 0)), (2, .inl (nI (fb_sm (fun a => fa_cnt (fun b => decide (¬ dz_tP (sg_f s) (sg_tol s) a b = -1)) (sg_n s)) (a) + fa_cnt (fun b => decide (¬ dz_tP (sg_f s) (sg_tol s) (a) b = -1)) (sg_n s)))), (3, .inl (nI a))]) rfl ?_
          exact K
        · refine dr_iload_n 81 hV dX5_count_81 rfl ?_
          refine dr_iload_n 82 hV dX5_count_82 rfl ?_
          refine dr_iload 83 hV dX5_count_83 rfl ?_
          refine dn_icmp_eq (tgt := 103) 85 hV dX5_count_85 (by decide) (by omega) (by omega) (fun c85 => ?_) (fun c85 => ?_)
          · refine dr_iconst (v := nI 0) 103 hV dX5_count_103 (by decide) ?_
            refine dr_iadd (z := nI (fb_sm (fun a => fa_cnt (fun b => decide (¬ dz_tP (sg_f s) (sg_tol s) a b = -1)) (sg_n s)) (a) + fa_cnt (fun b => decide (¬ dz_tP (sg_f s) (sg_tol s) (a) b = -1)) (i + 1))) 104 hV dX5_count_104 (by rw [fa_cnt_no (p := (fun b => decide (¬ dz_tP (sg_f s) (sg_tol s) a b = -1))) (n := i) (by simp [dz_tP, c85])]; exact nI_add _ 0) ?_
            refine dr_istore_n 105 hV dX5_count_105 (by decide) ?_
            refine dr_iinc1 106 hV dX5_count_106 (by decide) rfl ?_
            refine dr_goto (tgt := 72) 109 hV dX5_count_109 (by decide) ?_
            refine dr_sub hV (ls2 := [(0, .inr (.inr 0)), (2, .inl (nI (fb_sm (fun a => fa_cnt (fun b => decide (¬ dz_tP (sg_f s) (sg_tol s) a b = -1)) (sg_n s)) (a) + fa_cnt (fun b => decide (¬ dz_tP (sg_f s) (sg_tol s) (a) b = -1)) (i + 1)))), (3, .inl (nI (a))), (4, .inl (nI (i + 1)))]) rfl ?_
            exact ih (i + 1) (by omega) (by omega) ha K
          · refine dr_aload_n 88 hV dX5_count_88 rfl ?_
            refine dr_iload_n 89 hV dX5_count_89 rfl ?_
            refine dr_iload 90 hV dX5_count_90 rfl ?_
            refine dr_cvp2 92 hV dz_lX5_127 dX5_count_92 (by decide) (by decide) ⟨by decide, _, _, rfl, by decide, rfl⟩ (Nat.le_of_ble_eq_true rfl) (c_X5_turnOf π _ _ hO2 hR1 ha (by omega)) ?_
            refine dr_iconst (v := (-1)) 95 hV dX5_count_95 (by decide) ?_
            refine dr_icmp_eq (tgt := 103) 96 hV dX5_count_96 (by decide) (fun c96 => ?_) (fun c96 => ?_)
            · refine dr_iconst (v := nI 0) 103 hV dX5_count_103 (by decide) ?_
              refine dr_iadd (z := nI (fb_sm (fun a => fa_cnt (fun b => decide (¬ dz_tP (sg_f s) (sg_tol s) a b = -1)) (sg_n s)) (a) + fa_cnt (fun b => decide (¬ dz_tP (sg_f s) (sg_tol s) (a) b = -1)) (i + 1))) 104 hV dX5_count_104 (by rw [fa_cnt_no (p := (fun b => decide (¬ dz_tP (sg_f s) (sg_tol s) a b = -1))) (n := i) (by simp [dz_tP, c85, c96])]; exact nI_add _ 0) ?_
              refine dr_istore_n 105 hV dX5_count_105 (by decide) ?_
              refine dr_iinc1 106 hV dX5_count_106 (by decide) rfl ?_
              refine dr_goto (tgt := 72) 109 hV dX5_count_109 (by decide) ?_
              refine dr_sub hV (ls2 := [(0, .inr (.inr 0)), (2, .inl (nI (fb_sm (fun a => fa_cnt (fun b => decide (¬ dz_tP (sg_f s) (sg_tol s) a b = -1)) (sg_n s)) (a) + fa_cnt (fun b => decide (¬ dz_tP (sg_f s) (sg_tol s) (a) b = -1)) (i + 1)))), (3, .inl (nI (a))), (4, .inl (nI (i + 1)))]) rfl ?_
              exact ih (i + 1) (by omega) (by omega) ha K
            · refine dr_iconst (v := nI 1) 99 hV dX5_count_99 (by decide) ?_
              refine dr_goto (tgt := 104) 100 hV dX5_count_100 (by decide) ?_
              refine dr_iadd (z := nI (fb_sm (fun a => fa_cnt (fun b => decide (¬ dz_tP (sg_f s) (sg_tol s) a b = -1)) (sg_n s)) (a) + fa_cnt (fun b => decide (¬ dz_tP (sg_f s) (sg_tol s) (a) b = -1)) (i + 1))) 104 hV dX5_count_104 (by rw [fa_cnt_yes (p := (fun b => decide (¬ dz_tP (sg_f s) (sg_tol s) a b = -1))) (n := i) (by simp [dz_tP, c85, c96])]; exact nI_add _ 1) ?_
              refine dr_istore_n 105 hV dX5_count_105 (by decide) ?_
              refine dr_iinc1 106 hV dX5_count_106 (by decide) rfl ?_
              refine dr_goto (tgt := 72) 109 hV dX5_count_109 (by decide) ?_
              refine dr_sub hV (ls2 := [(0, .inr (.inr 0)), (2, .inl (nI (fb_sm (fun a => fa_cnt (fun b => decide (¬ dz_tP (sg_f s) (sg_tol s) a b = -1)) (sg_n s)) (a) + fa_cnt (fun b => decide (¬ dz_tP (sg_f s) (sg_tol s) (a) b = -1)) (i + 1)))), (3, .inl (nI (a))), (4, .inl (nI (i + 1)))]) rfl ?_
              exact ih (i + 1) (by omega) (by omega) ha K
    have outer : ∀ (fu i : Nat), sg_n s < i + fu → i ≤ sg_n s → V 61 I1 J [(0, .inr (.inr 0)), (2, .inl (nI (fb_sm (fun a => fa_cnt (fun b => decide (¬ dz_tP (sg_f s) (sg_tol s) a b = -1)) (sg_n s)) (i)))), (3, .inl (nI (i)))] [] := by
      intro fu
      induction fu with
      | zero => intro i h1 h2; exact absurd h1 (by omega)
      | succ fu ih =>
        intro i h1 h2
        refine dr_iload_n 61 hV dX5_count_61 rfl ?_
        refine dr_aload_n 62 hV dX5_count_62 rfl ?_
        refine dr_geti 63 hV dX5_count_63 (by decide) (by decide) rfl rfl rfl m1 ?_
        refine dn_icmp_ge (tgt := 118) 66 hV dX5_count_66 (by decide) (by omega) (by omega) (fun c66 => ?_) (fun c66 => ?_)
        · refine dr_iload_n 118 hV dX5_count_118 rfl ?_
          exact dr_iret 119 hV dX5_count_119 rfl (by first | rfl | exact dz_bn) (dz_qm (by clear hV ih inner; unfold q_count q_pairs; rw [if_neg (by decide), if_neg (by decide), if_neg (by decide), if_pos rfl, show i = sg_n s by omega]) hR1)
        · refine dr_iconst (v := nI 0) 69 hV dX5_count_69 (by decide) ?_
          refine dr_istore 70 hV dX5_count_70 (by decide) ?_
          refine dr_sub hV (ls2 := [(0, .inr (.inr 0)), (2, .inl (nI (fb_sm (fun a => fa_cnt (fun b => decide (¬ dz_tP (sg_f s) (sg_tol s) a b = -1)) (sg_n s)) (i) + fa_cnt (fun b => decide (¬ dz_tP (sg_f s) (sg_tol s) (i) b = -1)) (0)))), (3, .inl (nI (i))), (4, .inl (nI (0)))]) rfl ?_
          refine inner i (sg_n s + 1) 0 (by omega) (Nat.zero_le _) c66 ?_
          refine dr_iinc1 112 hV dX5_count_112 (by decide) rfl ?_
          refine dr_goto (tgt := 61) 115 hV dX5_count_115 (by decide) ?_
          refine dr_sub hV (ls2 := [(0, .inr (.inr 0)), (2, .inl (nI (fb_sm (fun a => fa_cnt (fun b => decide (¬ dz_tP (sg_f s) (sg_tol s) a b = -1)) (sg_n s)) (i + 1)))), (3, .inl (nI (i + 1)))]) rfl ?_
          exact ih (i + 1) (by omega) (by omega)
    refine dr_iconst (v := nI 0) 59 hV dX5_count_59 (by decide) ?_
    refine dr_istore_n 60 hV dX5_count_60 (by decide) ?_
    refine dr_sub hV (ls2 := [(0, .inr (.inr 0)), (2, .inl (nI (fb_sm (fun a => fa_cnt (fun b => decide (¬ dz_tP (sg_f s) (sg_tol s) a b = -1)) (sg_n s)) (0)))), (3, .inl (nI (0)))]) rfl ?_
    exact outer (sg_n s + 1) 0 (by omega) (Nat.zero_le _)
  by_cases w4 : w = nI 4
  · subst w4
    refine dr_tin (tgt := 120) 8 hV dX5_count_8 (by decide) (by decide) (by decide : _ = some (112 : Int)) (by decide) ?_
    have words : ∀ (fu i : Nat), sg_p s < i + fu → i ≤ sg_p s → V 122 I1 J [(0, .inr (.inr 0)), (2, .inl (nI (fa_cnt (fun p => decide (¬ sg_wo s p = -1)) (i)))), (3, .inl (nI (i)))] [] := by
      intro fu
      induction fu with
      | zero => intro i h1 h2; exact absurd h1 (by omega)
      | succ fu ih =>
        intro i h1 h2
        refine dr_iload_n 122 hV dX5_count_122 rfl ?_
        refine dr_aload_n 123 hV dX5_count_123 rfl ?_
        refine dr_geti 124 hV dX5_count_124 (by decide) (by decide) rfl rfl rfl m3 ?_
        refine dn_icmp_ge (tgt := 154) 127 hV dX5_count_127 (by decide) (by omega) (by omega) (fun c127 => ?_) (fun c127 => ?_)
        · refine dr_iload_n 154 hV dX5_count_154 rfl ?_
          exact dr_iret 155 hV dX5_count_155 rfl (by first | rfl | exact dz_bn) (dz_qm (by clear hV ih; unfold q_count; rw [if_neg (by decide), if_neg (by decide), if_neg (by decide), if_neg (by decide), if_pos rfl, show i = sg_p s by omega]) hR1)
        · refine dr_iload_n 130 hV dX5_count_130 rfl ?_
          refine dr_aload_n 131 hV dX5_count_131 rfl ?_
          refine dr_geta 132 hV dX5_count_132 (by decide) (by decide) rfl rfl rfl ?_
          refine dr_iload_n 135 hV dX5_count_135 rfl ?_
          refine dr_iald 136 hV dX5_count_136 (by decide) rfl rfl (by omega) (by decide) (m11 i (by omega)).2 ?_
          refine dr_iconst (v := (-1)) 137 hV dX5_count_137 (by decide) ?_
          refine dr_mat_eq (P := ¬ sg_wo s i = -1) 138 hV dX5_count_138 dX5_count_141 dX5_count_142 dX5_count_145 Iff.rfl ?_
          refine dr_iadd (z := nI (fa_cnt (fun p => decide (¬ sg_wo s p = -1)) (i + 1))) 146 hV dX5_count_146 (by rw [dz_addb]; congr 1; by_cases z : sg_wo s i = -1 <;> simp [fa_cnt, z]) ?_
          refine dr_istore_n 147 hV dX5_count_147 (by decide) ?_
          refine dr_iinc1 148 hV dX5_count_148 (by decide) rfl ?_
          refine dr_goto (tgt := 122) 151 hV dX5_count_151 (by decide) ?_
          refine dr_sub hV (ls2 := [(0, .inr (.inr 0)), (2, .inl (nI (fa_cnt (fun p => decide (¬ sg_wo s p = -1)) (i + 1)))), (3, .inl (nI (i + 1)))]) rfl ?_
          exact ih (i + 1) (by omega) (by omega)
    refine dr_iconst (v := nI 0) 120 hV dX5_count_120 (by decide) ?_
    refine dr_istore_n 121 hV dX5_count_121 (by decide) ?_
    refine dr_sub hV (ls2 := [(0, .inr (.inr 0)), (2, .inl (nI (fa_cnt (fun p => decide (¬ sg_wo s p = -1)) (0)))), (3, .inl (nI (0)))]) rfl ?_
    exact words (sg_p s + 1) 0 (by omega) (Nat.zero_le _)
  refine dr_tout (tgt := 156) 8 hV dX5_count_8 (dz_tswo 4 (fun j hj => by rcases (show j = 0 ∨ j = 1 ∨ j = 2 ∨ j = 3 ∨ j = 4 by omega) with rfl | rfl | rfl | rfl | rfl <;> assumption) (by decide)) (by decide) ?_
  refine dr_iconst (v := (-1)) 156 hV dX5_count_156 (by decide) ?_
  exact dr_iret 157 hV dX5_count_157 rfl (by first | rfl | exact dz_bn) (dz_qm (by clear hV; unfold q_count; rw [if_neg w0, if_neg w1, if_neg w2, if_neg w3, if_neg w4]) hR1)
