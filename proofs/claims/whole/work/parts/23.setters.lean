/-! what is told: the new value, the answer; the model's setters -/
def mk_sg (n c p : Nat) (b h col : Nat → Nat) (f : Nat → Nat → Int32) (fo he wo : Nat → Int32) (nt : Nat → Nat → Bool) (tol st ah : Int32) (me : Bool) (mv : Nat → Int32) : dz_Sg := ((n, c, p), b, h, col, f, fo, he, wo, nt, (tol, st, ah), me, mv)
def ok_measure (a b c d : Int32) : Prop := (nI 100 ≤ a ∧ a ≤ nI 3000) ∧ (nI 100 ≤ b ∧ b ≤ nI 3000) ∧ (nI 0 ≤ c ∧ c ≤ nI 50) ∧ (nI 1 ≤ d ∧ d ≤ nI 2000)
noncomputable def sn_measure (s : dz_Sg) (a b c d : Int32) : dz_Sg := if dz_B (ok_measure a b c d) then mk_sg (sg_n s) (sg_c s) (sg_p s) (sg_b s) (sg_h s) (sg_col s) (sg_f s) (sg_fo s) (sg_he s) (sg_wo s) (sg_nt s) (sg_tol s) (sg_st s) (sg_ah s) true (fun k => if k = 0 then a else if k = 1 then b else if k = 2 then c else d) else s
def ok_set (a b c : Int32) : Prop := (nI 0 ≤ a ∧ a ≤ nI 50) ∧ (nI 1 ≤ b ∧ b ≤ nI 10000) ∧ (nI 1 ≤ c ∧ c ≤ nI 5)
noncomputable def sn_set (s : dz_Sg) (a b c : Int32) : dz_Sg := if dz_B (ok_set a b c) then mk_sg (sg_n s) (sg_c s) (sg_p s) (sg_b s) (sg_h s) (sg_col s) (sg_f s) (sg_fo s) (sg_he s) (sg_wo s) (sg_nt s) a b c (sg_me s) (sg_mv s) else s
def ok_hand (s : dz_Sg) (p d : Int32) : Prop := (0 ≤ p ∧ p < nI (sg_p s)) ∧ (d = -1 ∨ d = nI 10 ∨ (0 ≤ d ∧ d < nI (sg_n s)))
noncomputable def sn_hand (s : dz_Sg) (p d : Int32) : dz_Sg := if dz_B (ok_hand s p d) then mk_sg (sg_n s) (sg_c s) (sg_p s) (sg_b s) (sg_h s) (sg_col s) (sg_f s) (sg_fo s) (sg_he s) (fun q => if q = p.toNatClampNeg then d else sg_wo s q) (sg_nt s) (sg_tol s) (sg_st s) (sg_ah s) (sg_me s) (sg_mv s) else s
def ok_not (s : dz_Sg) (p d : Int32) (b : Bool) : Prop := (0 ≤ p ∧ p < nI (sg_p s)) ∧ (0 ≤ d ∧ d < nI (sg_n s)) ∧ ¬ sg_nt s p.toNatClampNeg d.toNatClampNeg = b
noncomputable def sn_not (s : dz_Sg) (p d : Int32) (b : Bool) : dz_Sg := if dz_B (ok_not s p d b) then mk_sg (sg_n s) (sg_c s) (sg_p s) (sg_b s) (sg_h s) (sg_col s) (sg_f s) (sg_fo s) (sg_he s) (sg_wo s) (fun q e => if q = p.toNatClampNeg ∧ e = d.toNatClampNeg then b else sg_nt s q e) (sg_tol s) (sg_st s) (sg_ah s) (sg_me s) (sg_mv s) else s
def ok_drum (s : dz_Sg) (a b c d e : Int32) : Prop := sg_me s = true ∧ sg_n s < 10 ∧ (nI 0 ≤ a ∧ a ≤ nI 40) ∧ (nI 0 ≤ b ∧ b ≤ 65535) ∧ (nI 0 ≤ c ∧ c ≤ 65535) ∧ (nI 1 ≤ d ∧ d ≤ nI 10000) ∧ (nI 0 ≤ e ∧ e ≤ 100000)
def sg_row (s : dz_Sg) (a b c d e : Int32) (w : Nat) : Int32 := if w < 4 then sg_mv s w else if w = 4 then a else if w = 5 then b else if w = 6 then c else if w = 7 then d else e
noncomputable def sn_drum (s : dz_Sg) (a b c d e : Int32) : dz_Sg := if dz_B (ok_drum s a b c d e) then mk_sg (sg_n s + 1) (sg_c s) (sg_p s) (sg_b s) (sg_h s) (sg_col s) (fun k w => if k = sg_n s then sg_row s a b c d e w else sg_f s k w) (sg_fo s) (sg_he s) (sg_wo s) (sg_nt s) (sg_tol s) (sg_st s) (sg_ah s) false (sg_mv s) else s
noncomputable def a_drum (s : dz_Sg) (a b c d e : Int32) : Int32 := if dz_B (ok_drum s a b c d e) then nI (sg_n s) else -1
def ok_column (s : dz_Sg) (m lo hi : Int32) : Prop := sg_c s < 4 ∧ (nI 1 ≤ m ∧ m ≤ nI 5) ∧ nI (sg_p s) + m ≤ nI 8 ∧ (lo = 0 ∨ (nI 100 ≤ lo ∧ lo ≤ nI 3000)) ∧ (hi = 0 ∨ (nI 100 ≤ hi ∧ hi ≤ nI 3000))
noncomputable def sn_column (s : dz_Sg) (m lo hi : Int32) : dz_Sg := if dz_B (ok_column s m lo hi) then mk_sg (sg_n s) (sg_c s + 1) (sg_p s + m.toNatClampNeg) (fun k => if k = sg_c s then sg_p s else sg_b s k) (fun k => if k = sg_c s then m.toNatClampNeg else sg_h s k) (fun q => if sg_p s ≤ q then sg_c s else sg_col s q) (sg_f s) (fun k => if k = sg_c s then lo else sg_fo s k) (fun k => if k = sg_c s then hi else sg_he s k) (fun q => if sg_p s ≤ q then -1 else sg_wo s q) (sg_nt s) (sg_tol s) (sg_st s) (sg_ah s) (sg_me s) (sg_mv s) else s
noncomputable def a_column (s : dz_Sg) (m lo hi : Int32) : Int32 := if dz_B (ok_column s m lo hi) then nI (sg_c s) else -1
theorem dz_bnar {P : Prop} {hd : Decidable P} : vp_nar .boolean (@dz_b P hd) = @dz_b P hd := by unfold dz_b; split <;> rfl
theorem dz_bB {b c : Bool} : dz_b (b = true) = dz_b (c = true) ↔ b = c := by cases b <;> cases c <;> decide
set_option maxRecDepth 100000 in
set_option maxHeartbeats 4000000 in
theorem c_X5_measure (π : dz_Pl) {s : dz_Sg} (a b c d : Int32) (I : dz_MI) (J : dz_MJ) (hO : dz_OK s) (hR : dz_RM s I) : dz_Cl π dz_M 24 mX5_measure 2 42 [.inr (.inr 0), .inl a, .inl b, .inl c, .inl d] I J (dz_Qm (sn_measure s a b c d) (.inl (dz_bp (ok_measure a b c d)))) := by
  refine dz_body (own := 5) dz_mX5_measure rfl (Nat.le_of_ble_eq_true rfl) (fun V hV => ?_)
  have hO2 := hO
  obtain ⟨o1, o2, o3, o4, o5, o6, o7, o8, o9⟩ := hO
  refine dr_aload_n 0 hV dX5_measure_0 rfl ?_
  refine dr_iconst (v := nI 0) 1 hV dX5_measure_1 (by decide) ?_
  refine dr_puti 2 hV dX5_measure_2 (by decide) (by decide) rfl rfl rfl rfl rfl rfl ?_
  have hR1 := hR.w hO2 (c := 0) (k := 0) (x := nI 0) (Or.inr ⟨rfl, rfl⟩)
  generalize dz_wi I 0 0 (nI 0) = I1 at hR1 ⊢
  obtain ⟨m1, m2, m3, m4, m5, m6, m7, m8, m9, m10, m11, m12⟩ := id hR1
  refine dr_iload_n 5 hV dX5_measure_5 rfl ?_
  refine dr_csp1 6 hV (Or.inl dz_lX5_108) dX5_measure_6 (by decide) (by decide) (Nat.le_of_ble_eq_true rfl) (c_X5_isWidth π _ _ _ _ _) ?_
  first | refine dr_ifb_eq (tgt := 41) 9 hV dX5_measure_9 (by decide) (fun c9 => ?_) (fun c9 => ?_) | refine dr_if_eq (tgt := 41) 9 hV dX5_measure_9 (by decide) (fun c9 => ?_) (fun c9 => ?_)
  · refine dr_iconst (v := nI 0) 41 hV dX5_measure_41 (by decide) ?_
    exact dr_iret 42 hV dX5_measure_42 rfl (by first | rfl | exact dz_bn) ⟨by rw [← dz_bpf (P := ok_measure a b c d) (by unfold ok_measure; grind)], by rw [sn_measure, dz_B0 (by unfold ok_measure; grind)]; exact hR1⟩
  · refine dr_iload_n 12 hV dX5_measure_12 rfl ?_
    refine dr_csp1 13 hV (Or.inl dz_lX5_108) dX5_measure_13 (by decide) (by decide) (Nat.le_of_ble_eq_true rfl) (c_X5_isWidth π _ _ _ _ _) ?_
    first | refine dr_ifb_eq (tgt := 41) 16 hV dX5_measure_16 (by decide) (fun c16 => ?_) (fun c16 => ?_) | refine dr_if_eq (tgt := 41) 16 hV dX5_measure_16 (by decide) (fun c16 => ?_) (fun c16 => ?_)
    · refine dr_iconst (v := nI 0) 41 hV dX5_measure_41 (by decide) ?_
      exact dr_iret 42 hV dX5_measure_42 rfl (by first | rfl | exact dz_bn) ⟨by rw [← dz_bpf (P := ok_measure a b c d) (by unfold ok_measure; grind)], by rw [sn_measure, dz_B0 (by unfold ok_measure; grind)]; exact hR1⟩
    · refine dr_iload_n 19 hV dX5_measure_19 rfl ?_
      refine dr_iconst (v := nI 0) 20 hV dX5_measure_20 (by decide) ?_
      refine dr_bipush (v := nI 50) 21 hV dX5_measure_21 (by decide) ?_
      refine dr_csp3 23 hV (Or.inl dz_lX5_95) dX5_measure_23 (by decide) (by decide) (Nat.le_of_ble_eq_true rfl) (c_X5_isIn π _ _ _ _ _ _ _) ?_
      first | refine dr_ifb_eq (tgt := 41) 26 hV dX5_measure_26 (by decide) (fun c26 => ?_) (fun c26 => ?_) | refine dr_if_eq (tgt := 41) 26 hV dX5_measure_26 (by decide) (fun c26 => ?_) (fun c26 => ?_)
      · refine dr_iconst (v := nI 0) 41 hV dX5_measure_41 (by decide) ?_
        exact dr_iret 42 hV dX5_measure_42 rfl (by first | rfl | exact dz_bn) ⟨by rw [← dz_bpf (P := ok_measure a b c d) (by unfold ok_measure; grind)], by rw [sn_measure, dz_B0 (by unfold ok_measure; grind)]; exact hR1⟩
      · refine dr_iload 29 hV dX5_measure_29 rfl ?_
        refine dr_iconst (v := nI 1) 31 hV dX5_measure_31 (by decide) ?_
        refine dr_sipush (v := nI 2000) 32 hV dX5_measure_32 (by decide) ?_
        refine dr_csp3 35 hV (Or.inl dz_lX5_95) dX5_measure_35 (by decide) (by decide) (Nat.le_of_ble_eq_true rfl) (c_X5_isIn π _ _ _ _ _ _ _) ?_
        first | refine dr_ifb_ne (tgt := 43) 38 hV dX5_measure_38 (by decide) (fun c38 => ?_) (fun c38 => ?_) | refine dr_if_ne (tgt := 43) 38 hV dX5_measure_38 (by decide) (fun c38 => ?_) (fun c38 => ?_)
        · have hok : ok_measure a b c d := ⟨c9, c16, c26, c38⟩
          refine dr_aload_n 43 hV dX5_measure_43 rfl ?_
          refine dr_geta 44 hV dX5_measure_44 (by decide) (by decide) rfl rfl rfl ?_
          refine dr_iconst (v := nI 0) 47 hV dX5_measure_47 (by decide) ?_
          refine dr_iload_n 48 hV dX5_measure_48 rfl ?_
          refine dr_iast 49 hV dX5_measure_49 (by decide) rfl rfl (by omega) (by decide) ?_
          refine dr_aload_n 50 hV dX5_measure_50 rfl ?_
          refine dr_geta 51 hV dX5_measure_51 (by decide) (by decide) rfl rfl rfl ?_
          refine dr_iconst (v := nI 1) 54 hV dX5_measure_54 (by decide) ?_
          refine dr_iload_n 55 hV dX5_measure_55 rfl ?_
          refine dr_iast 56 hV dX5_measure_56 (by decide) rfl rfl (by omega) (by decide) ?_
          refine dr_aload_n 57 hV dX5_measure_57 rfl ?_
          refine dr_geta 58 hV dX5_measure_58 (by decide) (by decide) rfl rfl rfl ?_
          refine dr_iconst (v := nI 2) 61 hV dX5_measure_61 (by decide) ?_
          refine dr_iload_n 62 hV dX5_measure_62 rfl ?_
          refine dr_iast 63 hV dX5_measure_63 (by decide) rfl rfl (by omega) (by decide) ?_
          refine dr_aload_n 64 hV dX5_measure_64 rfl ?_
          refine dr_geta 65 hV dX5_measure_65 (by decide) (by decide) rfl rfl rfl ?_
          refine dr_iconst (v := nI 3) 68 hV dX5_measure_68 (by decide) ?_
          refine dr_iload 69 hV dX5_measure_69 rfl ?_
          refine dr_iast 71 hV dX5_measure_71 (by decide) rfl rfl (by omega) (by decide) ?_
          refine dr_aload_n 72 hV dX5_measure_72 rfl ?_
          refine dr_iconst (v := nI 1) 73 hV dX5_measure_73 (by decide) ?_
          refine dr_puti 74 hV dX5_measure_74 (by decide) (by decide) rfl rfl rfl rfl rfl rfl ?_
          refine dr_iconst (v := nI 1) 77 hV dX5_measure_77 (by decide) ?_
          exact dr_iret 78 hV dX5_measure_78 rfl (by first | rfl | exact dz_bn) ⟨by rw [← dz_bpt (P := ok_measure a b c d) hok], by rw [sn_measure, dz_B1 hok]; exact ⟨(by (repeat rw [dz_wi_n _ _ (by omega)]); exact m1), (by (repeat rw [dz_wi_n _ _ (by omega)]); exact m2), (by (repeat rw [dz_wi_n _ _ (by omega)]); exact m3), (by (repeat rw [dz_wi_n _ _ (by omega)]); exact m4), (by (repeat rw [dz_wi_n _ _ (by omega)]); exact m5), (by (repeat rw [dz_wi_n _ _ (by omega)]); exact m6), (by rw [dz_wi_s]; rfl), (fun k hk => by rw [dz_wi_n _ _ (by omega)]; rcases (show k = 0 ∨ k = 1 ∨ k = 2 ∨ k = 3 by omega) with rfl | rfl | rfl | rfl <;> rfl), (fun d w hd hw => by (repeat rw [dz_wi_n _ _ (by omega)]); exact m9 d w hd hw), (fun k hk => ⟨by (repeat rw [dz_wi_n _ _ (by omega)]); exact (m10 k hk).1, by (repeat rw [dz_wi_n _ _ (by omega)]); exact (m10 k hk).2.1, by (repeat rw [dz_wi_n _ _ (by omega)]); exact (m10 k hk).2.2.1, by (repeat rw [dz_wi_n _ _ (by omega)]); exact (m10 k hk).2.2.2⟩), (fun q hq => ⟨by (repeat rw [dz_wi_n _ _ (by omega)]); exact (m11 q hq).1, by (repeat rw [dz_wi_n _ _ (by omega)]); exact (m11 q hq).2⟩), (fun q d hq hd => by (repeat rw [dz_wi_n _ _ (by omega)]); exact m12 q d hq hd)⟩⟩
        · refine dr_iconst (v := nI 0) 41 hV dX5_measure_41 (by decide) ?_
          exact dr_iret 42 hV dX5_measure_42 rfl (by first | rfl | exact dz_bn) ⟨by rw [← dz_bpf (P := ok_measure a b c d) (by unfold ok_measure; grind)], by rw [sn_measure, dz_B0 (by unfold ok_measure; grind)]; exact hR1⟩
set_option maxRecDepth 100000 in
set_option maxHeartbeats 4000000 in
theorem c_X5_set (π : dz_Pl) {s : dz_Sg} (a b c : Int32) (I : dz_MI) (J : dz_MJ) (hO : dz_OK s) (hR : dz_RM s I) : dz_Cl π dz_M 24 mX5_set 1 22 [.inr (.inr 0), .inl a, .inl b, .inl c] I J (dz_Qm (sn_set s a b c) (.inl (dz_bp (ok_set a b c)))) := by
  refine dz_body (own := 5) dz_mX5_set rfl (Nat.le_of_ble_eq_true rfl) (fun V hV => ?_)
  have hO2 := hO
  obtain ⟨o1, o2, o3, o4, o5, o6, o7, o8, o9⟩ := hO
  refine dr_aload_n 0 hV dX5_set_0 rfl ?_
  refine dr_iconst (v := nI 0) 1 hV dX5_set_1 (by decide) ?_
  refine dr_puti 2 hV dX5_set_2 (by decide) (by decide) rfl rfl rfl rfl rfl rfl ?_
  have hR1 := hR.w hO2 (c := 0) (k := 0) (x := nI 0) (Or.inr ⟨rfl, rfl⟩)
  generalize dz_wi I 0 0 (nI 0) = I1 at hR1 ⊢
  obtain ⟨m1, m2, m3, m4, m5, m6, m7, m8, m9, m10, m11, m12⟩ := id hR1
  refine dr_iload_n 5 hV dX5_set_5 rfl ?_
  refine dr_iconst (v := nI 0) 6 hV dX5_set_6 (by decide) ?_
  refine dr_bipush (v := nI 50) 7 hV dX5_set_7 (by decide) ?_
  refine dr_csp3 9 hV (Or.inl dz_lX5_95) dX5_set_9 (by decide) (by decide) (Nat.le_of_ble_eq_true rfl) (c_X5_isIn π _ _ _ _ _ _ _) ?_
  first | refine dr_ifb_eq (tgt := 35) 12 hV dX5_set_12 (by decide) (fun c12 => ?_) (fun c12 => ?_) | refine dr_if_eq (tgt := 35) 12 hV dX5_set_12 (by decide) (fun c12 => ?_) (fun c12 => ?_)
  · refine dr_iconst (v := nI 0) 35 hV dX5_set_35 (by decide) ?_
    exact dr_iret 36 hV dX5_set_36 rfl (by first | rfl | exact dz_bn) ⟨by rw [← dz_bpf (P := ok_set a b c) (by unfold ok_set; grind)], by rw [sn_set, dz_B0 (by unfold ok_set; grind)]; exact hR1⟩
  · refine dr_iload_n 15 hV dX5_set_15 rfl ?_
    refine dr_iconst (v := nI 1) 16 hV dX5_set_16 (by decide) ?_
    refine dr_sipush (v := nI 10000) 17 hV dX5_set_17 (by decide) ?_
    refine dr_csp3 20 hV (Or.inl dz_lX5_95) dX5_set_20 (by decide) (by decide) (Nat.le_of_ble_eq_true rfl) (c_X5_isIn π _ _ _ _ _ _ _) ?_
    first | refine dr_ifb_eq (tgt := 35) 23 hV dX5_set_23 (by decide) (fun c23 => ?_) (fun c23 => ?_) | refine dr_if_eq (tgt := 35) 23 hV dX5_set_23 (by decide) (fun c23 => ?_) (fun c23 => ?_)
    · refine dr_iconst (v := nI 0) 35 hV dX5_set_35 (by decide) ?_
      exact dr_iret 36 hV dX5_set_36 rfl (by first | rfl | exact dz_bn) ⟨by rw [← dz_bpf (P := ok_set a b c) (by unfold ok_set; grind)], by rw [sn_set, dz_B0 (by unfold ok_set; grind)]; exact hR1⟩
    · refine dr_iload_n 26 hV dX5_set_26 rfl ?_
      refine dr_iconst (v := nI 1) 27 hV dX5_set_27 (by decide) ?_
      refine dr_iconst (v := nI 5) 28 hV dX5_set_28 (by decide) ?_
      refine dr_csp3 29 hV (Or.inl dz_lX5_95) dX5_set_29 (by decide) (by decide) (Nat.le_of_ble_eq_true rfl) (c_X5_isIn π _ _ _ _ _ _ _) ?_
      first | refine dr_ifb_ne (tgt := 37) 32 hV dX5_set_32 (by decide) (fun c32 => ?_) (fun c32 => ?_) | refine dr_if_ne (tgt := 37) 32 hV dX5_set_32 (by decide) (fun c32 => ?_) (fun c32 => ?_)
      · have hok : ok_set a b c := ⟨c12, c23, c32⟩
        refine dr_aload_n 37 hV dX5_set_37 rfl ?_
        refine dr_iload_n 38 hV dX5_set_38 rfl ?_
        refine dr_puti 39 hV dX5_set_39 (by decide) (by decide) rfl rfl rfl rfl rfl rfl ?_
        refine dr_aload_n 42 hV dX5_set_42 rfl ?_
        refine dr_iload_n 43 hV dX5_set_43 rfl ?_
        refine dr_puti 44 hV dX5_set_44 (by decide) (by decide) rfl rfl rfl rfl rfl rfl ?_
        refine dr_aload_n 47 hV dX5_set_47 rfl ?_
        refine dr_iload_n 48 hV dX5_set_48 rfl ?_
        refine dr_puti 49 hV dX5_set_49 (by decide) (by decide) rfl rfl rfl rfl rfl rfl ?_
        refine dr_iconst (v := nI 1) 52 hV dX5_set_52 (by decide) ?_
        exact dr_iret 53 hV dX5_set_53 rfl (by first | rfl | exact dz_bn) ⟨by rw [← dz_bpt (P := ok_set a b c) hok], by rw [sn_set, dz_B1 hok]; exact ⟨(by (repeat rw [dz_wi_n _ _ (by omega)]); exact m1), (by (repeat rw [dz_wi_n _ _ (by omega)]); exact m2), (by (repeat rw [dz_wi_n _ _ (by omega)]); exact m3), (rfl), (rfl), (rfl), (by (repeat rw [dz_wi_n _ _ (by omega)]); exact m7), (fun k hk => by (repeat rw [dz_wi_n _ _ (by omega)]); exact m8 k hk), (fun d w hd hw => by (repeat rw [dz_wi_n _ _ (by omega)]); exact m9 d w hd hw), (fun k hk => ⟨by (repeat rw [dz_wi_n _ _ (by omega)]); exact (m10 k hk).1, by (repeat rw [dz_wi_n _ _ (by omega)]); exact (m10 k hk).2.1, by (repeat rw [dz_wi_n _ _ (by omega)]); exact (m10 k hk).2.2.1, by (repeat rw [dz_wi_n _ _ (by omega)]); exact (m10 k hk).2.2.2⟩), (fun q hq => ⟨by (repeat rw [dz_wi_n _ _ (by omega)]); exact (m11 q hq).1, by (repeat rw [dz_wi_n _ _ (by omega)]); exact (m11 q hq).2⟩), (fun q d hq hd => by (repeat rw [dz_wi_n _ _ (by omega)]); exact m12 q d hq hd)⟩⟩
      · refine dr_iconst (v := nI 0) 35 hV dX5_set_35 (by decide) ?_
        exact dr_iret 36 hV dX5_set_36 rfl (by first | rfl | exact dz_bn) ⟨by rw [← dz_bpf (P := ok_set a b c) (by unfold ok_set; grind)], by rw [sn_set, dz_B0 (by unfold ok_set; grind)]; exact hR1⟩
theorem hand_w {I : dz_MI} {k q : Nat} {d x : Int32} (h : I 16 q = x) : dz_wi I 16 k d 16 q = (if q = k then d else x) := by
  by_cases e : q = k
  · subst e; rw [dz_wi_s, if_pos rfl]
  · rw [dz_wi_n _ _ (by omega), if_neg e]; exact h
theorem not_w {I : dz_MI} {k e q d : Nat} {b : Bool} {s : dz_Sg} (hq : q < 8) (hd : d < 10) (hk : k < 8) (he : e < 10) (h : I 17 (10 * q + d) = dz_b (sg_nt s q d = true)) : dz_wi I 17 (10 * k + e) (dz_b (b = true)) 17 (10 * q + d) = dz_b ((if q = k ∧ d = e then b else sg_nt s q d) = true) := by
  by_cases z : q = k ∧ d = e
  · obtain ⟨rfl, rfl⟩ := z; rw [dz_wi_s]; simp
  · rw [dz_wi_n _ _ (by omega), h]; simp [z]
set_option maxRecDepth 100000 in
set_option maxHeartbeats 4000000 in
theorem c_X5_hand (π : dz_Pl) {s : dz_Sg} (p d : Int32) (I : dz_MI) (J : dz_MJ) (hO : dz_OK s) (hR : dz_RM s I) : dz_Cl π dz_M 24 mX5_hand 1 21 [.inr (.inr 0), .inl p, .inl d] I J (dz_Qm (sn_hand s p d) (.inl (dz_bp (ok_hand s p d)))) := by
  refine dz_body (own := 5) dz_mX5_hand rfl (Nat.le_of_ble_eq_true rfl) (fun V hV => ?_)
  have hO2 := hO
  obtain ⟨o1, o2, o3, o4, o5, o6, o7, o8, o9⟩ := hO
  refine dr_aload_n 0 hV dX5_hand_0 rfl ?_
  refine dr_iconst (v := nI 0) 1 hV dX5_hand_1 (by decide) ?_
  refine dr_puti 2 hV dX5_hand_2 (by decide) (by decide) rfl rfl rfl rfl rfl rfl ?_
  have hR1 := hR.w hO2 (c := 0) (k := 0) (x := nI 0) (Or.inr ⟨rfl, rfl⟩)
  generalize dz_wi I 0 0 (nI 0) = I1 at hR1 ⊢
  obtain ⟨m1, m2, m3, m4, m5, m6, m7, m8, m9, m10, m11, m12⟩ := id hR1
  refine dr_aload_n 5 hV dX5_hand_5 rfl ?_
  refine dr_iload_n 6 hV dX5_hand_6 rfl ?_
  refine dr_cvp1 7 hV dz_lX5_141 dX5_hand_7 (by decide) (by decide) ⟨by decide, _, _, rfl, by decide, rfl⟩ (Nat.le_of_ble_eq_true rfl) (c_X5_isPlace π _ _ _) ?_
  first | refine dr_ifb_eq (tgt := 32) 10 hV dX5_hand_10 (by decide) (fun c10 => ?_) (fun c10 => ?_) | refine dr_if_eq (tgt := 32) 10 hV dX5_hand_10 (by decide) (fun c10 => ?_) (fun c10 => ?_)
  · refine dr_iconst (v := nI 0) 32 hV dX5_hand_32 (by decide) ?_
    exact dr_iret 33 hV dX5_hand_33 rfl (by first | rfl | exact dz_bn) ⟨by rw [← dz_bpf (P := ok_hand s p d) (by unfold ok_hand; rw [m3, m1] at *; grind)], by rw [sn_hand, dz_B0 (by unfold ok_hand; rw [m3, m1] at *; grind)]; exact hR1⟩
  · refine dr_iload_n 13 hV dX5_hand_13 rfl ?_
    refine dr_iconst (v := (-1)) 14 hV dX5_hand_14 (by decide) ?_
    refine dr_icmp_eq (tgt := 34) 15 hV dX5_hand_15 (by decide) (fun c15 => ?_) (fun c15 => ?_)
    · have hok : ok_hand s p d := by unfold ok_hand; rw [m3, m1] at *; grind
      obtain ⟨k, hk, rfl⟩ := dz_ofI m3 (by omega) c10
      refine dr_aload_n 34 hV dX5_hand_34 rfl ?_
      refine dr_geta 35 hV dX5_hand_35 (by decide) (by decide) rfl rfl rfl ?_
      refine dr_iload_n 38 hV dX5_hand_38 rfl ?_
      refine dr_iload_n 39 hV dX5_hand_39 rfl ?_
      refine dr_iast 40 hV dX5_hand_40 (by decide) rfl rfl (by omega) (by decide) ?_
      refine dr_iconst (v := nI 1) 41 hV dX5_hand_41 (by decide) ?_
      exact dr_iret 42 hV dX5_hand_42 rfl (by first | rfl | exact dz_bn) ⟨by rw [← dz_bpt (P := ok_hand s (nI k) d) hok], by rw [sn_hand, dz_B1 hok]; exact ⟨(by (repeat rw [dz_wi_n _ _ (by omega)]); exact m1), (by (repeat rw [dz_wi_n _ _ (by omega)]); exact m2), (by (repeat rw [dz_wi_n _ _ (by omega)]); exact m3), (by (repeat rw [dz_wi_n _ _ (by omega)]); exact m4), (by (repeat rw [dz_wi_n _ _ (by omega)]); exact m5), (by (repeat rw [dz_wi_n _ _ (by omega)]); exact m6), (by (repeat rw [dz_wi_n _ _ (by omega)]); exact m7), (fun k hk => by (repeat rw [dz_wi_n _ _ (by omega)]); exact m8 k hk), (fun d w hd hw => by (repeat rw [dz_wi_n _ _ (by omega)]); exact m9 d w hd hw), (fun k hk => ⟨by (repeat rw [dz_wi_n _ _ (by omega)]); exact (m10 k hk).1, by (repeat rw [dz_wi_n _ _ (by omega)]); exact (m10 k hk).2.1, by (repeat rw [dz_wi_n _ _ (by omega)]); exact (m10 k hk).2.2.1, by (repeat rw [dz_wi_n _ _ (by omega)]); exact (m10 k hk).2.2.2⟩), (fun q hq => ⟨by (repeat rw [dz_wi_n _ _ (by omega)]); exact (m11 q hq).1, by show _ = (if q = (nI k).toNatClampNeg then d else sg_wo s q); rw [nI_clamp (by omega)]; exact hand_w (m11 q hq).2⟩), (fun q d hq hd => by (repeat rw [dz_wi_n _ _ (by omega)]); exact m12 q d hq hd)⟩⟩
    · refine dr_iload_n 18 hV dX5_hand_18 rfl ?_
      refine dr_bipush (v := nI 10) 19 hV dX5_hand_19 (by decide) ?_
      refine dr_icmp_eq (tgt := 34) 21 hV dX5_hand_21 (by decide) (fun c21 => ?_) (fun c21 => ?_)
      · have hok : ok_hand s p d := by unfold ok_hand; rw [m3, m1] at *; grind
        obtain ⟨k, hk, rfl⟩ := dz_ofI m3 (by omega) c10
        refine dr_aload_n 34 hV dX5_hand_34 rfl ?_
        refine dr_geta 35 hV dX5_hand_35 (by decide) (by decide) rfl rfl rfl ?_
        refine dr_iload_n 38 hV dX5_hand_38 rfl ?_
        refine dr_iload_n 39 hV dX5_hand_39 rfl ?_
        refine dr_iast 40 hV dX5_hand_40 (by decide) rfl rfl (by omega) (by decide) ?_
        refine dr_iconst (v := nI 1) 41 hV dX5_hand_41 (by decide) ?_
        exact dr_iret 42 hV dX5_hand_42 rfl (by first | rfl | exact dz_bn) ⟨by rw [← dz_bpt (P := ok_hand s (nI k) d) hok], by rw [sn_hand, dz_B1 hok]; exact ⟨(by (repeat rw [dz_wi_n _ _ (by omega)]); exact m1), (by (repeat rw [dz_wi_n _ _ (by omega)]); exact m2), (by (repeat rw [dz_wi_n _ _ (by omega)]); exact m3), (by (repeat rw [dz_wi_n _ _ (by omega)]); exact m4), (by (repeat rw [dz_wi_n _ _ (by omega)]); exact m5), (by (repeat rw [dz_wi_n _ _ (by omega)]); exact m6), (by (repeat rw [dz_wi_n _ _ (by omega)]); exact m7), (fun k hk => by (repeat rw [dz_wi_n _ _ (by omega)]); exact m8 k hk), (fun d w hd hw => by (repeat rw [dz_wi_n _ _ (by omega)]); exact m9 d w hd hw), (fun k hk => ⟨by (repeat rw [dz_wi_n _ _ (by omega)]); exact (m10 k hk).1, by (repeat rw [dz_wi_n _ _ (by omega)]); exact (m10 k hk).2.1, by (repeat rw [dz_wi_n _ _ (by omega)]); exact (m10 k hk).2.2.1, by (repeat rw [dz_wi_n _ _ (by omega)]); exact (m10 k hk).2.2.2⟩), (fun q hq => ⟨by (repeat rw [dz_wi_n _ _ (by omega)]); exact (m11 q hq).1, by show _ = (if q = (nI k).toNatClampNeg then d else sg_wo s q); rw [nI_clamp (by omega)]; exact hand_w (m11 q hq).2⟩), (fun q d hq hd => by (repeat rw [dz_wi_n _ _ (by omega)]); exact m12 q d hq hd)⟩⟩
      · refine dr_aload_n 24 hV dX5_hand_24 rfl ?_
        refine dr_iload_n 25 hV dX5_hand_25 rfl ?_
        refine dr_cvp1 26 hV dz_lX5_124 dX5_hand_26 (by decide) (by decide) ⟨by decide, _, _, rfl, by decide, rfl⟩ (Nat.le_of_ble_eq_true rfl) (c_X5_isDrum π _ _ _) ?_
        first | refine dr_ifb_ne (tgt := 34) 29 hV dX5_hand_29 (by decide) (fun c29 => ?_) (fun c29 => ?_) | refine dr_if_ne (tgt := 34) 29 hV dX5_hand_29 (by decide) (fun c29 => ?_) (fun c29 => ?_)
        · have hok : ok_hand s p d := by unfold ok_hand; rw [m3, m1] at *; grind
          obtain ⟨k, hk, rfl⟩ := dz_ofI m3 (by omega) c10
          refine dr_aload_n 34 hV dX5_hand_34 rfl ?_
          refine dr_geta 35 hV dX5_hand_35 (by decide) (by decide) rfl rfl rfl ?_
          refine dr_iload_n 38 hV dX5_hand_38 rfl ?_
          refine dr_iload_n 39 hV dX5_hand_39 rfl ?_
          refine dr_iast 40 hV dX5_hand_40 (by decide) rfl rfl (by omega) (by decide) ?_
          refine dr_iconst (v := nI 1) 41 hV dX5_hand_41 (by decide) ?_
          exact dr_iret 42 hV dX5_hand_42 rfl (by first | rfl | exact dz_bn) ⟨by rw [← dz_bpt (P := ok_hand s (nI k) d) hok], by rw [sn_hand, dz_B1 hok]; exact ⟨(by (repeat rw [dz_wi_n _ _ (by omega)]); exact m1), (by (repeat rw [dz_wi_n _ _ (by omega)]); exact m2), (by (repeat rw [dz_wi_n _ _ (by omega)]); exact m3), (by (repeat rw [dz_wi_n _ _ (by omega)]); exact m4), (by (repeat rw [dz_wi_n _ _ (by omega)]); exact m5), (by (repeat rw [dz_wi_n _ _ (by omega)]); exact m6), (by (repeat rw [dz_wi_n _ _ (by omega)]); exact m7), (fun k hk => by (repeat rw [dz_wi_n _ _ (by omega)]); exact m8 k hk), (fun d w hd hw => by (repeat rw [dz_wi_n _ _ (by omega)]); exact m9 d w hd hw), (fun k hk => ⟨by (repeat rw [dz_wi_n _ _ (by omega)]); exact (m10 k hk).1, by (repeat rw [dz_wi_n _ _ (by omega)]); exact (m10 k hk).2.1, by (repeat rw [dz_wi_n _ _ (by omega)]); exact (m10 k hk).2.2.1, by (repeat rw [dz_wi_n _ _ (by omega)]); exact (m10 k hk).2.2.2⟩), (fun q hq => ⟨by (repeat rw [dz_wi_n _ _ (by omega)]); exact (m11 q hq).1, by show _ = (if q = (nI k).toNatClampNeg then d else sg_wo s q); rw [nI_clamp (by omega)]; exact hand_w (m11 q hq).2⟩), (fun q d hq hd => by (repeat rw [dz_wi_n _ _ (by omega)]); exact m12 q d hq hd)⟩⟩
        · refine dr_iconst (v := nI 0) 32 hV dX5_hand_32 (by decide) ?_
          exact dr_iret 33 hV dX5_hand_33 rfl (by first | rfl | exact dz_bn) ⟨by rw [← dz_bpf (P := ok_hand s p d) (by unfold ok_hand; rw [m3, m1] at *; grind)], by rw [sn_hand, dz_B0 (by unfold ok_hand; rw [m3, m1] at *; grind)]; exact hR1⟩
set_option maxRecDepth 100000 in
set_option maxHeartbeats 4000000 in
theorem c_X5_not (π : dz_Pl) {s : dz_Sg} (p d : Int32) (b : Bool) (I : dz_MI) (J : dz_MJ) (hO : dz_OK s) (hR : dz_RM s I) : dz_Cl π dz_M 24 mX5_not 1 21 [.inr (.inr 0), .inl p, .inl d, .inl (dz_b (b = true))] I J (dz_Qm (sn_not s p d b) (.inl (dz_bp (ok_not s p d b)))) := by
  refine dz_body (own := 5) dz_mX5_not rfl (Nat.le_of_ble_eq_true rfl) (fun V hV => ?_)
  have hO2 := hO
  obtain ⟨o1, o2, o3, o4, o5, o6, o7, o8, o9⟩ := hO
  refine dr_aload_n 0 hV dX5_not_0 rfl ?_
  refine dr_iconst (v := nI 0) 1 hV dX5_not_1 (by decide) ?_
  refine dr_puti 2 hV dX5_not_2 (by decide) (by decide) rfl rfl rfl rfl rfl rfl ?_
  have hR1 := hR.w hO2 (c := 0) (k := 0) (x := nI 0) (Or.inr ⟨rfl, rfl⟩)
  generalize dz_wi I 0 0 (nI 0) = I1 at hR1 ⊢
  obtain ⟨m1, m2, m3, m4, m5, m6, m7, m8, m9, m10, m11, m12⟩ := id hR1
  refine dr_aload_n 5 hV dX5_not_5 rfl ?_
  refine dr_iload_n 6 hV dX5_not_6 rfl ?_
  refine dr_cvp1 7 hV dz_lX5_141 dX5_not_7 (by decide) (by decide) ⟨by decide, _, _, rfl, by decide, rfl⟩ (Nat.le_of_ble_eq_true rfl) (c_X5_isPlace π _ _ _) ?_
  first | refine dr_ifb_eq (tgt := 36) 10 hV dX5_not_10 (by decide) (fun c10 => ?_) (fun c10 => ?_) | refine dr_if_eq (tgt := 36) 10 hV dX5_not_10 (by decide) (fun c10 => ?_) (fun c10 => ?_)
  · refine dr_iconst (v := nI 0) 36 hV dX5_not_36 (by decide) ?_
    exact dr_iret 37 hV dX5_not_37 rfl (by first | rfl | exact dz_bn) ⟨by rw [← dz_bpf (P := ok_not s p d b) (by unfold ok_not; rw [m3, m1] at *; grind)], by rw [sn_not, dz_B0 (by unfold ok_not; rw [m3, m1] at *; grind)]; exact hR1⟩
  · refine dr_aload_n 13 hV dX5_not_13 rfl ?_
    refine dr_iload_n 14 hV dX5_not_14 rfl ?_
    refine dr_cvp1 15 hV dz_lX5_124 dX5_not_15 (by decide) (by decide) ⟨by decide, _, _, rfl, by decide, rfl⟩ (Nat.le_of_ble_eq_true rfl) (c_X5_isDrum π _ _ _) ?_
    first | refine dr_ifb_eq (tgt := 36) 18 hV dX5_not_18 (by decide) (fun c18 => ?_) (fun c18 => ?_) | refine dr_if_eq (tgt := 36) 18 hV dX5_not_18 (by decide) (fun c18 => ?_) (fun c18 => ?_)
    · refine dr_iconst (v := nI 0) 36 hV dX5_not_36 (by decide) ?_
      exact dr_iret 37 hV dX5_not_37 rfl (by first | rfl | exact dz_bn) ⟨by rw [← dz_bpf (P := ok_not s p d b) (by unfold ok_not; rw [m3, m1] at *; grind)], by rw [sn_not, dz_B0 (by unfold ok_not; rw [m3, m1] at *; grind)]; exact hR1⟩
    · obtain ⟨k, hk, rfl⟩ := dz_ofI m3 (by omega) c10
      obtain ⟨e, he, rfl⟩ := dz_ofI m1 (by omega) c18
      refine dr_aload_n 21 hV dX5_not_21 rfl ?_
      refine dr_geta 22 hV dX5_not_22 (by decide) (by decide) rfl rfl rfl ?_
      refine dr_bipush (v := nI 10) 25 hV dX5_not_25 (by decide) ?_
      refine dr_iload_n 27 hV dX5_not_27 rfl ?_
      refine dr_imul (z := nI (10 * k)) 28 hV dX5_not_28 (pk_mul _ _) ?_
      refine dr_iload_n 29 hV dX5_not_29 rfl ?_
      refine dr_iadd (z := nI (10 * k + e)) 30 hV dX5_not_30 (nI_add _ _) ?_
      refine dr_zald 31 hV dX5_not_31 (by decide) rfl rfl (by omega) (by decide) (m12 k e (by omega) (by omega)) ?_
      refine dr_iload_n 32 hV dX5_not_32 rfl ?_
      refine dr_icmp_ne (tgt := 38) 33 hV dX5_not_33 (by decide) (fun c33 => ?_) (fun c33 => ?_)
      · have hok : ok_not s (nI k) (nI e) b := by unfold ok_not; rw [m3] at c10; rw [m1] at c18; rw [nI_clamp (by omega), nI_clamp (by omega)]; exact ⟨c10, c18, fun z => c33 (dz_bB.mpr z)⟩
        refine dr_aload_n 38 hV dX5_not_38 rfl ?_
        refine dr_geta 39 hV dX5_not_39 (by decide) (by decide) rfl rfl rfl ?_
        refine dr_bipush (v := nI 10) 42 hV dX5_not_42 (by decide) ?_
        refine dr_iload_n 44 hV dX5_not_44 rfl ?_
        refine dr_imul (z := nI (10 * k)) 45 hV dX5_not_45 (pk_mul _ _) ?_
        refine dr_iload_n 46 hV dX5_not_46 rfl ?_
        refine dr_iadd (z := nI (10 * k + e)) 47 hV dX5_not_47 (nI_add _ _) ?_
        refine dr_iload_n 48 hV dX5_not_48 rfl ?_
        refine dr_zast 49 hV dX5_not_49 (by decide) rfl rfl (by omega) (by decide) dz_bnar ?_
        refine dr_iconst (v := nI 1) 50 hV dX5_not_50 (by decide) ?_
        exact dr_iret 51 hV dX5_not_51 rfl (by first | rfl | exact dz_bn) ⟨by rw [← dz_bpt (P := ok_not s (nI k) (nI e) b) hok], by rw [sn_not, dz_B1 hok]; exact ⟨(by (repeat rw [dz_wi_n _ _ (by omega)]); exact m1), (by (repeat rw [dz_wi_n _ _ (by omega)]); exact m2), (by (repeat rw [dz_wi_n _ _ (by omega)]); exact m3), (by (repeat rw [dz_wi_n _ _ (by omega)]); exact m4), (by (repeat rw [dz_wi_n _ _ (by omega)]); exact m5), (by (repeat rw [dz_wi_n _ _ (by omega)]); exact m6), (by (repeat rw [dz_wi_n _ _ (by omega)]); exact m7), (fun k hk => by (repeat rw [dz_wi_n _ _ (by omega)]); exact m8 k hk), (fun d w hd hw => by (repeat rw [dz_wi_n _ _ (by omega)]); exact m9 d w hd hw), (fun k hk => ⟨by (repeat rw [dz_wi_n _ _ (by omega)]); exact (m10 k hk).1, by (repeat rw [dz_wi_n _ _ (by omega)]); exact (m10 k hk).2.1, by (repeat rw [dz_wi_n _ _ (by omega)]); exact (m10 k hk).2.2.1, by (repeat rw [dz_wi_n _ _ (by omega)]); exact (m10 k hk).2.2.2⟩), (fun q hq => ⟨by (repeat rw [dz_wi_n _ _ (by omega)]); exact (m11 q hq).1, by (repeat rw [dz_wi_n _ _ (by omega)]); exact (m11 q hq).2⟩), (fun q d hq hd => by show _ = dz_b ((if q = (nI k).toNatClampNeg ∧ d = (nI e).toNatClampNeg then b else sg_nt s q d) = true); rw [nI_clamp (by omega), nI_clamp (by omega)]; exact not_w hq hd (by omega) (by omega) (m12 q d hq hd))⟩⟩
      · have hno : ¬ ok_not s (nI k) (nI e) b := by unfold ok_not; rw [nI_clamp (by omega), nI_clamp (by omega)]; exact fun z => z.2.2 (dz_bB.mp c33)
        refine dr_iconst (v := nI 0) 36 hV dX5_not_36 (by decide) ?_
        exact dr_iret 37 hV dX5_not_37 rfl (by first | rfl | exact dz_bn) ⟨by rw [← dz_bpf (P := ok_not s (nI k) (nI e) b) (hno)], by rw [sn_not, dz_B0 (hno)]; exact hR1⟩
