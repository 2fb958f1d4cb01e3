/-! the model's drum and column -/
theorem drum_w {I : dz_MI} {s : dz_Sg} {a b c d e y z : Int32} {k w : Nat} (hw : w < 9) : (dz_wi (dz_wi (dz_wi (dz_wi (dz_wi (dz_wi (dz_wi (dz_wi (dz_wi (dz_wi (dz_wi I 2 (sg_n s) (sg_mv s 0)) 3 (sg_n s) (sg_mv s 1)) 4 (sg_n s) (sg_mv s 2)) 5 (sg_n s) (sg_mv s 3)) 6 (sg_n s) a) 7 (sg_n s) b) 8 (sg_n s) c) 9 (sg_n s) d) 10 (sg_n s) e) 0 1 y) 0 7 z) (2 + w) k = if k = sg_n s then sg_row s a b c d e w else I (2 + w) k := by
  by_cases hk : k = sg_n s
  · subst hk
    rw [if_pos rfl]
    rcases (show w = 0 ∨ w = 1 ∨ w = 2 ∨ w = 3 ∨ w = 4 ∨ w = 5 ∨ w = 6 ∨ w = 7 ∨ w = 8 by omega) with rfl | rfl | rfl | rfl | rfl | rfl | rfl | rfl | rfl <;> simp [dz_wi, sg_row]
  · rw [if_neg hk]
    (repeat rw [dz_wi_n _ _ (by omega)])
theorem drum_if {P : Prop} {hd : Decidable P} {x y z : Int32} (h : ¬ P → y = z) : (if P then x else y) = (if P then x else z) := by
  by_cases q : P
  · rw [if_pos q, if_pos q]
  · rw [if_neg q, if_neg q]; exact h q
set_option maxRecDepth 100000 in
set_option maxHeartbeats 4000000 in
theorem c_X5_drum (π : dz_Pl) {s : dz_Sg} (a b c d e : Int32) (I : dz_MI) (J : dz_MJ) (hO : dz_OK s) (hR : dz_RM s I) : dz_Cl π dz_M 24 mX5_drum 1 22 [.inr (.inr 0), .inl a, .inl b, .inl c, .inl d, .inl e] I J (dz_Qm (sn_drum s a b c d e) (.inl (a_drum s a b c d e))) := by
  refine dz_body (own := 5) dz_mX5_drum rfl (Nat.le_of_ble_eq_true rfl) (fun V hV => ?_)
  have hO2 := hO
  obtain ⟨o1, o2, o3, o4, o5, o6, o7, o8, o9⟩ := hO
  refine dr_aload_n 0 hV dX5_drum_0 rfl ?_
  refine dr_iconst (v := nI 0) 1 hV dX5_drum_1 (by decide) ?_
  refine dr_puti 2 hV dX5_drum_2 (by decide) (by decide) rfl rfl rfl rfl rfl rfl ?_
  have hR1 := hR.w hO2 (c := 0) (k := 0) (x := nI 0) (Or.inr ⟨rfl, rfl⟩)
  generalize dz_wi I 0 0 (nI 0) = I1 at hR1 ⊢
  obtain ⟨m1, m2, m3, m4, m5, m6, m7, m8, m9, m10, m11, m12⟩ := id hR1
  refine dr_aload_n 5 hV dX5_drum_5 rfl ?_
  refine dr_geti 6 hV dX5_drum_6 (by decide) (by decide) rfl rfl rfl m7 ?_
  first | refine dr_ifb_eq (tgt := 74) 9 hV dX5_drum_9 (by decide) (fun c9 => ?_) (fun c9 => ?_) | refine dr_if_eq (tgt := 74) 9 hV dX5_drum_9 (by decide) (fun c9 => ?_) (fun c9 => ?_)
  · refine dr_iconst (v := (-1)) 74 hV dX5_drum_74 (by decide) ?_
    exact dr_iret 75 hV dX5_drum_75 rfl (by first | rfl | exact dz_bn) ⟨by rw [a_drum, dz_B0 (by unfold ok_drum; grind)], by rw [sn_drum, dz_B0 (by unfold ok_drum; grind)]; exact hR1⟩
  · refine dr_aload_n 12 hV dX5_drum_12 rfl ?_
    refine dr_geti 13 hV dX5_drum_13 (by decide) (by decide) rfl rfl rfl m1 ?_
    refine dr_bipush (v := nI 10) 16 hV dX5_drum_16 (by decide) ?_
    refine dn_icmp_eq (tgt := 74) 18 hV dX5_drum_18 (by decide) (by omega) (by omega) (fun c18 => ?_) (fun c18 => ?_)
    · refine dr_iconst (v := (-1)) 74 hV dX5_drum_74 (by decide) ?_
      exact dr_iret 75 hV dX5_drum_75 rfl (by first | rfl | exact dz_bn) ⟨by rw [a_drum, dz_B0 (by unfold ok_drum; grind)], by rw [sn_drum, dz_B0 (by unfold ok_drum; grind)]; exact hR1⟩
    · refine dr_iload_n 21 hV dX5_drum_21 rfl ?_
      refine dr_iconst (v := nI 0) 22 hV dX5_drum_22 (by decide) ?_
      refine dr_bipush (v := nI 40) 23 hV dX5_drum_23 (by decide) ?_
      refine dr_csp3 25 hV (Or.inl dz_lX5_95) dX5_drum_25 (by decide) (by decide) (Nat.le_of_ble_eq_true rfl) (c_X5_isIn π _ _ _ _ _ _ _) ?_
      first | refine dr_ifb_eq (tgt := 74) 28 hV dX5_drum_28 (by decide) (fun c28 => ?_) (fun c28 => ?_) | refine dr_if_eq (tgt := 74) 28 hV dX5_drum_28 (by decide) (fun c28 => ?_) (fun c28 => ?_)
      · refine dr_iconst (v := (-1)) 74 hV dX5_drum_74 (by decide) ?_
        exact dr_iret 75 hV dX5_drum_75 rfl (by first | rfl | exact dz_bn) ⟨by rw [a_drum, dz_B0 (by unfold ok_drum; grind)], by rw [sn_drum, dz_B0 (by unfold ok_drum; grind)]; exact hR1⟩
      · refine dr_iload_n 31 hV dX5_drum_31 rfl ?_
        refine dr_iconst (v := nI 0) 32 hV dX5_drum_32 (by decide) ?_
        refine dr_ldc 33 hV dX5_drum_33 dz_kX5_116 ?_
        refine dr_csp3 35 hV (Or.inl dz_lX5_95) dX5_drum_35 (by decide) (by decide) (Nat.le_of_ble_eq_true rfl) (c_X5_isIn π _ _ _ _ _ _ _) ?_
        first | refine dr_ifb_eq (tgt := 74) 38 hV dX5_drum_38 (by decide) (fun c38 => ?_) (fun c38 => ?_) | refine dr_if_eq (tgt := 74) 38 hV dX5_drum_38 (by decide) (fun c38 => ?_) (fun c38 => ?_)
        · refine dr_iconst (v := (-1)) 74 hV dX5_drum_74 (by decide) ?_
          exact dr_iret 75 hV dX5_drum_75 rfl (by first | rfl | exact dz_bn) ⟨by rw [a_drum, dz_B0 (by unfold ok_drum; grind)], by rw [sn_drum, dz_B0 (by unfold ok_drum; grind)]; exact hR1⟩
        · refine dr_iload_n 41 hV dX5_drum_41 rfl ?_
          refine dr_iconst (v := nI 0) 42 hV dX5_drum_42 (by decide) ?_
          refine dr_ldc 43 hV dX5_drum_43 dz_kX5_116 ?_
          refine dr_csp3 45 hV (Or.inl dz_lX5_95) dX5_drum_45 (by decide) (by decide) (Nat.le_of_ble_eq_true rfl) (c_X5_isIn π _ _ _ _ _ _ _) ?_
          first | refine dr_ifb_eq (tgt := 74) 48 hV dX5_drum_48 (by decide) (fun c48 => ?_) (fun c48 => ?_) | refine dr_if_eq (tgt := 74) 48 hV dX5_drum_48 (by decide) (fun c48 => ?_) (fun c48 => ?_)
          · refine dr_iconst (v := (-1)) 74 hV dX5_drum_74 (by decide) ?_
            exact dr_iret 75 hV dX5_drum_75 rfl (by first | rfl | exact dz_bn) ⟨by rw [a_drum, dz_B0 (by unfold ok_drum; grind)], by rw [sn_drum, dz_B0 (by unfold ok_drum; grind)]; exact hR1⟩
          · refine dr_iload 51 hV dX5_drum_51 rfl ?_
            refine dr_iconst (v := nI 1) 53 hV dX5_drum_53 (by decide) ?_
            refine dr_sipush (v := nI 10000) 54 hV dX5_drum_54 (by decide) ?_
            refine dr_csp3 57 hV (Or.inl dz_lX5_95) dX5_drum_57 (by decide) (by decide) (Nat.le_of_ble_eq_true rfl) (c_X5_isIn π _ _ _ _ _ _ _) ?_
            first | refine dr_ifb_eq (tgt := 74) 60 hV dX5_drum_60 (by decide) (fun c60 => ?_) (fun c60 => ?_) | refine dr_if_eq (tgt := 74) 60 hV dX5_drum_60 (by decide) (fun c60 => ?_) (fun c60 => ?_)
            · refine dr_iconst (v := (-1)) 74 hV dX5_drum_74 (by decide) ?_
              exact dr_iret 75 hV dX5_drum_75 rfl (by first | rfl | exact dz_bn) ⟨by rw [a_drum, dz_B0 (by unfold ok_drum; grind)], by rw [sn_drum, dz_B0 (by unfold ok_drum; grind)]; exact hR1⟩
            · refine dr_iload 63 hV dX5_drum_63 rfl ?_
              refine dr_iconst (v := nI 0) 65 hV dX5_drum_65 (by decide) ?_
              refine dr_ldc 66 hV dX5_drum_66 dz_kX5_117 ?_
              refine dr_csp3 68 hV (Or.inl dz_lX5_95) dX5_drum_68 (by decide) (by decide) (Nat.le_of_ble_eq_true rfl) (c_X5_isIn π _ _ _ _ _ _ _) ?_
              first | refine dr_ifb_ne (tgt := 76) 71 hV dX5_drum_71 (by decide) (fun c71 => ?_) (fun c71 => ?_) | refine dr_if_ne (tgt := 76) 71 hV dX5_drum_71 (by decide) (fun c71 => ?_) (fun c71 => ?_)
              · have hok : ok_drum s a b c d e := ⟨c9, by omega, c28, c38, c48, c60, c71⟩
                have hn10 := hok.2.1
                refine dr_aload_n 76 hV dX5_drum_76 rfl ?_
                refine dr_geta 77 hV dX5_drum_77 (by decide) (by decide) rfl rfl rfl ?_
                refine dr_aload_n 80 hV dX5_drum_80 rfl ?_
                refine dr_geti (v := nI (sg_n s)) 81 hV dX5_drum_81 (by decide) (by decide) rfl rfl rfl (by (repeat rw [dz_wi_n _ _ (by omega)]); exact m1) ?_
                refine dr_aload_n 84 hV dX5_drum_84 rfl ?_
                refine dr_geta 85 hV dX5_drum_85 (by decide) (by decide) rfl rfl rfl ?_
                refine dr_iconst (v := nI 0) 88 hV dX5_drum_88 (by decide) ?_
                refine dr_iald (v := sg_mv s 0) 89 hV dX5_drum_89 (by decide) rfl rfl (by omega) (by decide) (by (repeat rw [dz_wi_n _ _ (by omega)]); exact m8 0 (by decide)) ?_
                refine dr_iast 90 hV dX5_drum_90 (by decide) rfl rfl (by omega) (by decide) ?_
                refine dr_aload_n 91 hV dX5_drum_91 rfl ?_
                refine dr_geta 92 hV dX5_drum_92 (by decide) (by decide) rfl rfl rfl ?_
                refine dr_aload_n 95 hV dX5_drum_95 rfl ?_
                refine dr_geti (v := nI (sg_n s)) 96 hV dX5_drum_96 (by decide) (by decide) rfl rfl rfl (by (repeat rw [dz_wi_n _ _ (by omega)]); exact m1) ?_
                refine dr_aload_n 99 hV dX5_drum_99 rfl ?_
                refine dr_geta 100 hV dX5_drum_100 (by decide) (by decide) rfl rfl rfl ?_
                refine dr_iconst (v := nI 1) 103 hV dX5_drum_103 (by decide) ?_
                refine dr_iald (v := sg_mv s 1) 104 hV dX5_drum_104 (by decide) rfl rfl (by omega) (by decide) (by (repeat rw [dz_wi_n _ _ (by omega)]); exact m8 1 (by decide)) ?_
                refine dr_iast 105 hV dX5_drum_105 (by decide) rfl rfl (by omega) (by decide) ?_
                refine dr_aload_n 106 hV dX5_drum_106 rfl ?_
                refine dr_geta 107 hV dX5_drum_107 (by decide) (by decide) rfl rfl rfl ?_
                refine dr_aload_n 110 hV dX5_drum_110 rfl ?_
                refine dr_geti (v := nI (sg_n s)) 111 hV dX5_drum_111 (by decide) (by decide) rfl rfl rfl (by (repeat rw [dz_wi_n _ _ (by omega)]); exact m1) ?_
                refine dr_aload_n 114 hV dX5_drum_114 rfl ?_
                refine dr_geta 115 hV dX5_drum_115 (by decide) (by decide) rfl rfl rfl ?_
                refine dr_iconst (v := nI 2) 118 hV dX5_drum_118 (by decide) ?_
                refine dr_iald (v := sg_mv s 2) 119 hV dX5_drum_119 (by decide) rfl rfl (by omega) (by decide) (by (repeat rw [dz_wi_n _ _ (by omega)]); exact m8 2 (by decide)) ?_
                refine dr_iast 120 hV dX5_drum_120 (by decide) rfl rfl (by omega) (by decide) ?_
                refine dr_aload_n 121 hV dX5_drum_121 rfl ?_
                refine dr_geta 122 hV dX5_drum_122 (by decide) (by decide) rfl rfl rfl ?_
                refine dr_aload_n 125 hV dX5_drum_125 rfl ?_
                refine dr_geti (v := nI (sg_n s)) 126 hV dX5_drum_126 (by decide) (by decide) rfl rfl rfl (by (repeat rw [dz_wi_n _ _ (by omega)]); exact m1) ?_
                refine dr_aload_n 129 hV dX5_drum_129 rfl ?_
                refine dr_geta 130 hV dX5_drum_130 (by decide) (by decide) rfl rfl rfl ?_
                refine dr_iconst (v := nI 3) 133 hV dX5_drum_133 (by decide) ?_
                refine dr_iald (v := sg_mv s 3) 134 hV dX5_drum_134 (by decide) rfl rfl (by omega) (by decide) (by (repeat rw [dz_wi_n _ _ (by omega)]); exact m8 3 (by decide)) ?_
                refine dr_iast 135 hV dX5_drum_135 (by decide) rfl rfl (by omega) (by decide) ?_
                refine dr_aload_n 136 hV dX5_drum_136 rfl ?_
                refine dr_geta 137 hV dX5_drum_137 (by decide) (by decide) rfl rfl rfl ?_
                refine dr_aload_n 140 hV dX5_drum_140 rfl ?_
                refine dr_geti (v := nI (sg_n s)) 141 hV dX5_drum_141 (by decide) (by decide) rfl rfl rfl (by (repeat rw [dz_wi_n _ _ (by omega)]); exact m1) ?_
                refine dr_iload_n 144 hV dX5_drum_144 rfl ?_
                refine dr_iast 145 hV dX5_drum_145 (by decide) rfl rfl (by omega) (by decide) ?_
                refine dr_aload_n 146 hV dX5_drum_146 rfl ?_
                refine dr_geta 147 hV dX5_drum_147 (by decide) (by decide) rfl rfl rfl ?_
                refine dr_aload_n 150 hV dX5_drum_150 rfl ?_
                refine dr_geti (v := nI (sg_n s)) 151 hV dX5_drum_151 (by decide) (by decide) rfl rfl rfl (by (repeat rw [dz_wi_n _ _ (by omega)]); exact m1) ?_
                refine dr_iload_n 154 hV dX5_drum_154 rfl ?_
                refine dr_iast 155 hV dX5_drum_155 (by decide) rfl rfl (by omega) (by decide) ?_
                refine dr_aload_n 156 hV dX5_drum_156 rfl ?_
                refine dr_geta 157 hV dX5_drum_157 (by decide) (by decide) rfl rfl rfl ?_
                refine dr_aload_n 160 hV dX5_drum_160 rfl ?_
                refine dr_geti (v := nI (sg_n s)) 161 hV dX5_drum_161 (by decide) (by decide) rfl rfl rfl (by (repeat rw [dz_wi_n _ _ (by omega)]); exact m1) ?_
                refine dr_iload_n 164 hV dX5_drum_164 rfl ?_
                refine dr_iast 165 hV dX5_drum_165 (by decide) rfl rfl (by omega) (by decide) ?_
                refine dr_aload_n 166 hV dX5_drum_166 rfl ?_
                refine dr_geta 167 hV dX5_drum_167 (by decide) (by decide) rfl rfl rfl ?_
                refine dr_aload_n 170 hV dX5_drum_170 rfl ?_
                refine dr_geti (v := nI (sg_n s)) 171 hV dX5_drum_171 (by decide) (by decide) rfl rfl rfl (by (repeat rw [dz_wi_n _ _ (by omega)]); exact m1) ?_
                refine dr_iload 174 hV dX5_drum_174 rfl ?_
                refine dr_iast 176 hV dX5_drum_176 (by decide) rfl rfl (by omega) (by decide) ?_
                refine dr_aload_n 177 hV dX5_drum_177 rfl ?_
                refine dr_geta 178 hV dX5_drum_178 (by decide) (by decide) rfl rfl rfl ?_
                refine dr_aload_n 181 hV dX5_drum_181 rfl ?_
                refine dr_geti (v := nI (sg_n s)) 182 hV dX5_drum_182 (by decide) (by decide) rfl rfl rfl (by (repeat rw [dz_wi_n _ _ (by omega)]); exact m1) ?_
                refine dr_iload 185 hV dX5_drum_185 rfl ?_
                refine dr_iast 187 hV dX5_drum_187 (by decide) rfl rfl (by omega) (by decide) ?_
                refine dr_aload_n 188 hV dX5_drum_188 rfl ?_
                refine dr_dup 189 hV dX5_drum_189 rfl ?_
                refine dr_geti (v := nI (sg_n s)) 190 hV dX5_drum_190 (by decide) (by decide) rfl rfl rfl (by (repeat rw [dz_wi_n _ _ (by omega)]); exact m1) ?_
                refine dr_iconst (v := nI 1) 193 hV dX5_drum_193 (by decide) ?_
                refine dr_iadd (z := nI (sg_n s + 1)) 194 hV dX5_drum_194 (nI_1 _) ?_
                refine dr_puti 195 hV dX5_drum_195 (by decide) (by decide) rfl rfl rfl rfl rfl rfl ?_
                refine dr_aload_n 198 hV dX5_drum_198 rfl ?_
                refine dr_iconst (v := nI 0) 199 hV dX5_drum_199 (by decide) ?_
                refine dr_puti 200 hV dX5_drum_200 (by decide) (by decide) rfl rfl rfl rfl rfl rfl ?_
                refine dr_aload_n 203 hV dX5_drum_203 rfl ?_
                refine dr_geti (v := nI (sg_n s + 1)) 204 hV dX5_drum_204 (by decide) (by decide) rfl rfl rfl (by rw [dz_wi_n _ _ (by omega), dz_wi_s]) ?_
                refine dr_iconst (v := nI 1) 207 hV dX5_drum_207 (by decide) ?_
                refine dr_isub (z := nI (sg_n s)) 208 hV dX5_drum_208 (by rw [pk_sub (by omega)]; rfl) ?_
                exact dr_iret 209 hV dX5_drum_209 rfl (by first | rfl | exact dz_bn) ⟨by rw [a_drum, dz_B1 hok], by rw [sn_drum, dz_B1 hok]; exact ⟨(by rw [dz_wi_n _ _ (by omega), dz_wi_s]; rfl), (by (repeat rw [dz_wi_n _ _ (by omega)]); exact m2), (by (repeat rw [dz_wi_n _ _ (by omega)]); exact m3), (by (repeat rw [dz_wi_n _ _ (by omega)]); exact m4), (by (repeat rw [dz_wi_n _ _ (by omega)]); exact m5), (by (repeat rw [dz_wi_n _ _ (by omega)]); exact m6), (by rw [dz_wi_s]; rfl), (fun k hk => by (repeat rw [dz_wi_n _ _ (by omega)]); exact m8 k hk), (fun k w hk hw => by rw [drum_w hw]; show _ = (if k = sg_n s then sg_row s a b c d e w else sg_f s k w); exact drum_if (fun z => m9 k w (by have hk2 : k < sg_n s + 1 := hk; omega) hw)), (fun k hk => ⟨by (repeat rw [dz_wi_n _ _ (by omega)]); exact (m10 k hk).1, by (repeat rw [dz_wi_n _ _ (by omega)]); exact (m10 k hk).2.1, by (repeat rw [dz_wi_n _ _ (by omega)]); exact (m10 k hk).2.2.1, by (repeat rw [dz_wi_n _ _ (by omega)]); exact (m10 k hk).2.2.2⟩), (fun q hq => ⟨by (repeat rw [dz_wi_n _ _ (by omega)]); exact (m11 q hq).1, by (repeat rw [dz_wi_n _ _ (by omega)]); exact (m11 q hq).2⟩), (fun q d hq hd => by (repeat rw [dz_wi_n _ _ (by omega)]); exact m12 q d hq hd)⟩⟩
              · refine dr_iconst (v := (-1)) 74 hV dX5_drum_74 (by decide) ?_
                exact dr_iret 75 hV dX5_drum_75 rfl (by first | rfl | exact dz_bn) ⟨by rw [a_drum, dz_B0 (by unfold ok_drum; grind)], by rw [sn_drum, dz_B0 (by unfold ok_drum; grind)]; exact hR1⟩
theorem col_m {m : Int32} (h : nI 1 ≤ m ∧ m ≤ nI 5) : ∃ k, 1 ≤ k ∧ k ≤ 5 ∧ m = nI k := by
  rw [fa_le, fa_le, nI_toInt (by decide), nI_toInt (by decide)] at h
  refine ⟨m.toInt.toNat, by omega, by omega, ?_⟩
  rw [fa_eq, nI_toInt (by omega)]
  omega
def col_X (Ib I : dz_MI) (p c i : Nat) : Prop := (∀ j, p ≤ j → j < p + i → I 15 j = nI c ∧ I 16 j = -1) ∧ ∀ a j, ¬ ((a = 15 ∨ a = 16) ∧ p ≤ j ∧ j < p + i) → I a j = Ib a j
theorem col_X.s {Ib I : dz_MI} {p c i : Nat} (h : col_X Ib I p c i) : col_X Ib (dz_wi (dz_wi I 15 (p + i) (nI c)) 16 (p + i) (-1)) p c (i + 1) := by
  refine ⟨fun j h1 h2 => ?_, fun a j h1 => ?_⟩
  · by_cases e : j = p + i
    · subst e; rw [dz_wi_s, dz_wi_n _ _ (by omega), dz_wi_s]; exact ⟨rfl, rfl⟩
    · rw [dz_wi_n _ _ (by omega), dz_wi_n _ _ (by omega), dz_wi_n _ _ (by omega), dz_wi_n _ _ (by omega)]; exact h.1 j h1 (by omega)
  · rw [dz_wi_n _ _ (by omega), dz_wi_n _ _ (by omega)]; exact h.2 a j (by omega)
theorem col_R {s : dz_Sg} {I1 I2 : dz_MI} {m : Nat} {lo hi : Int32} (hO : dz_OK s) (hR : dz_RM s I1) (hm : 1 ≤ m ∧ m ≤ 5) (hc : sg_c s < 4) (hp : sg_p s + m ≤ 8) (hx : col_X (dz_wi (dz_wi (dz_wi (dz_wi I1 11 (sg_c s) lo) 12 (sg_c s) hi) 13 (sg_c s) (nI (sg_p s))) 14 (sg_c s) (nI m)) I2 (sg_p s) (sg_c s) m) : dz_RM (mk_sg (sg_n s) (sg_c s + 1) (sg_p s + (nI m).toNatClampNeg) (fun k => if k = sg_c s then sg_p s else sg_b s k) (fun k => if k = sg_c s then (nI m).toNatClampNeg else sg_h s k) (fun q => if sg_p s ≤ q then sg_c s else sg_col s q) (sg_f s) (fun k => if k = sg_c s then lo else sg_fo s k) (fun k => if k = sg_c s then hi else sg_he s k) (fun q => if sg_p s ≤ q then -1 else sg_wo s q) (sg_nt s) (sg_tol s) (sg_st s) (sg_ah s) (sg_me s) (sg_mv s)) (dz_wi (dz_wi I2 0 3 (nI (sg_p s + m))) 0 2 (nI (sg_c s + 1))) := by
  obtain ⟨m1, m2, m3, m4, m5, m6, m7, m8, m9, m10, m11, m12⟩ := hR
  rw [nI_clamp (show m < 2 ^ 31 by omega)]
  have hg : ∀ a j, ¬ (a = 0 ∧ (j = 2 ∨ j = 3)) → ¬ ((a = 15 ∨ a = 16) ∧ sg_p s ≤ j ∧ j < sg_p s + m) → ¬ ((a = 11 ∨ a = 12 ∨ a = 13 ∨ a = 14) ∧ j = sg_c s) → (dz_wi (dz_wi I2 0 3 (nI (sg_p s + m))) 0 2 (nI (sg_c s + 1))) a j = I1 a j := fun a j h1 h2 h3 => by
    rw [dz_wi_n _ _ (by omega), dz_wi_n _ _ (by omega), hx.2 a j h2, dz_wi_n _ _ (by omega), dz_wi_n _ _ (by omega), dz_wi_n _ _ (by omega), dz_wi_n _ _ (by omega)]
  refine ⟨by rw [hg _ _ (by omega) (by omega) (by omega)]; exact m1, by rw [dz_wi_s]; rfl, by rw [dz_wi_n _ _ (by omega), dz_wi_s]; rfl, by rw [hg _ _ (by omega) (by omega) (by omega)]; exact m4, by rw [hg _ _ (by omega) (by omega) (by omega)]; exact m5, by rw [hg _ _ (by omega) (by omega) (by omega)]; exact m6, by rw [hg _ _ (by omega) (by omega) (by omega)]; exact m7, fun k hk => by rw [hg _ _ (by omega) (by omega) (by omega)]; exact m8 k hk, fun d w hd hw => ?_, fun k hk => ?_, fun q hq => ?_, fun q d hq hd => by rw [hg _ _ (by omega) (by omega) (by omega)]; exact m12 q d hq hd⟩
  · have hd2 : d < sg_n s := hd
    rw [hg _ _ (by omega) (by omega) (by omega)]; exact m9 d w hd2 hw
  · have hk2 : k < sg_c s + 1 := hk
    show _ = (if k = sg_c s then lo else sg_fo s k) ∧ _ = (if k = sg_c s then hi else sg_he s k) ∧ _ = nI (if k = sg_c s then sg_p s else sg_b s k) ∧ _ = nI (if k = sg_c s then m else sg_h s k)
    by_cases e : k = sg_c s
    · subst e
      simp only [if_pos]
      refine ⟨?_, ?_, ?_, ?_⟩ <;> rw [dz_wi_n _ _ (by omega), dz_wi_n _ _ (by omega), hx.2 _ _ (by omega)] <;> simp [dz_wi]
    · simp only [if_neg e]
      rw [hg 11 k (by omega) (by omega) (by omega), hg 12 k (by omega) (by omega) (by omega), hg 13 k (by omega) (by omega) (by omega), hg 14 k (by omega) (by omega) (by omega)]
      exact m10 k (by omega)
  · have hq2 : q < sg_p s + m := hq
    show _ = nI (if sg_p s ≤ q then sg_c s else sg_col s q) ∧ _ = (if sg_p s ≤ q then (-1 : Int32) else sg_wo s q)
    by_cases e : sg_p s ≤ q
    · simp only [if_pos e]
      rw [dz_wi_n _ _ (by omega), dz_wi_n _ _ (by omega), dz_wi_n _ _ (by omega), dz_wi_n _ _ (by omega)]
      exact hx.1 q e hq2
    · simp only [if_neg e]
      rw [hg 15 q (by omega) (by omega) (by omega), hg 16 q (by omega) (by omega) (by omega)]
      exact m11 q (by omega)
set_option maxRecDepth 100000 in
set_option maxHeartbeats 4000000 in
theorem c_X5_column (π : dz_Pl) {s : dz_Sg} (mm lo hi : Int32) (I : dz_MI) (J : dz_MJ) (hO : dz_OK s) (hR : dz_RM s I) : dz_Cl π dz_M 24 mX5_column 2 42 [.inr (.inr 0), .inl mm, .inl lo, .inl hi] I J (dz_Qm (sn_column s mm lo hi) (.inl (a_column s mm lo hi))) := by
  refine dz_body (own := 5) dz_mX5_column rfl (Nat.le_of_ble_eq_true rfl) (fun V hV => ?_)
  have hO2 := hO
  obtain ⟨o1, o2, o3, o4, o5, o6, o7, o8, o9⟩ := hO
  refine dr_aload_n 0 hV dX5_column_0 rfl ?_
  refine dr_iconst (v := nI 0) 1 hV dX5_column_1 (by decide) ?_
  refine dr_puti 2 hV dX5_column_2 (by decide) (by decide) rfl rfl rfl rfl rfl rfl ?_
  have hR1 := hR.w hO2 (c := 0) (k := 0) (x := nI 0) (Or.inr ⟨rfl, rfl⟩)
  generalize dz_wi I 0 0 (nI 0) = I1 at hR1 ⊢
  obtain ⟨m1, m2, m3, m4, m5, m6, m7, m8, m9, m10, m11, m12⟩ := id hR1
  refine dr_aload_n 5 hV dX5_column_5 rfl ?_
  refine dr_geti 6 hV dX5_column_6 (by decide) (by decide) rfl rfl rfl m2 ?_
  refine dr_iconst (v := nI 4) 9 hV dX5_column_9 (by decide) ?_
  refine dn_icmp_eq (tgt := 55) 10 hV dX5_column_10 (by decide) (by omega) (by omega) (fun c10 => ?_) (fun c10 => ?_)
  · refine dr_iconst (v := (-1)) 55 hV dX5_column_55 (by decide) ?_
    exact dr_iret 56 hV dX5_column_56 rfl (by first | rfl | exact dz_bn) ⟨by rw [a_column, dz_B0 (by unfold ok_column; first | omega | exact fun z => absurd z.2.2.1 (by rw [nI_add, nI_leI (by omega) (by decide)]; omega) | grind)], by rw [sn_column, dz_B0 (by unfold ok_column; first | omega | exact fun z => absurd z.2.2.1 (by rw [nI_add, nI_leI (by omega) (by decide)]; omega) | grind)]; exact hR1⟩
  · refine dr_iload_n 13 hV dX5_column_13 rfl ?_
    refine dr_iconst (v := nI 1) 14 hV dX5_column_14 (by decide) ?_
    refine dr_iconst (v := nI 5) 15 hV dX5_column_15 (by decide) ?_
    refine dr_csp3 16 hV (Or.inl dz_lX5_95) dX5_column_16 (by decide) (by decide) (Nat.le_of_ble_eq_true rfl) (c_X5_isIn π _ _ _ _ _ _ _) ?_
    first | refine dr_ifb_eq (tgt := 55) 19 hV dX5_column_19 (by decide) (fun c19 => ?_) (fun c19 => ?_) | refine dr_if_eq (tgt := 55) 19 hV dX5_column_19 (by decide) (fun c19 => ?_) (fun c19 => ?_)
    · refine dr_iconst (v := (-1)) 55 hV dX5_column_55 (by decide) ?_
      exact dr_iret 56 hV dX5_column_56 rfl (by first | rfl | exact dz_bn) ⟨by rw [a_column, dz_B0 (by unfold ok_column; first | omega | exact fun z => absurd z.2.2.1 (by rw [nI_add, nI_leI (by omega) (by decide)]; omega) | grind)], by rw [sn_column, dz_B0 (by unfold ok_column; first | omega | exact fun z => absurd z.2.2.1 (by rw [nI_add, nI_leI (by omega) (by decide)]; omega) | grind)]; exact hR1⟩
    · obtain ⟨m, hm1, hm2, rfl⟩ := col_m c19
      have hm : 1 ≤ m ∧ m ≤ 5 := ⟨hm1, hm2⟩
      refine dr_aload_n 22 hV dX5_column_22 rfl ?_
      refine dr_geti 23 hV dX5_column_23 (by decide) (by decide) rfl rfl rfl m3 ?_
      refine dr_iload_n 26 hV dX5_column_26 rfl ?_
      refine dr_iadd (z := nI (sg_p s + m)) 27 hV dX5_column_27 (nI_add _ _) ?_
      refine dr_bipush (v := nI 8) 28 hV dX5_column_28 (by decide) ?_
      refine dn_icmp_gt (tgt := 55) 30 hV dX5_column_30 (by decide) (by omega) (by omega) (fun c30 => ?_) (fun c30 => ?_)
      · refine dr_iconst (v := (-1)) 55 hV dX5_column_55 (by decide) ?_
        exact dr_iret 56 hV dX5_column_56 rfl (by first | rfl | exact dz_bn) ⟨by rw [a_column, dz_B0 (by unfold ok_column; first | omega | exact fun z => absurd z.2.2.1 (by rw [nI_add, nI_leI (by omega) (by decide)]; omega) | grind)], by rw [sn_column, dz_B0 (by unfold ok_column; first | omega | exact fun z => absurd z.2.2.1 (by rw [nI_add, nI_leI (by omega) (by decide)]; omega) | grind)]; exact hR1⟩
      · refine dr_iload_n 33 hV dX5_column_33 rfl ?_
        refine dr_if_eq (tgt := 44) 34 hV dX5_column_34 (by decide) (fun c34 => ?_) (fun c34 => ?_)
        · refine dr_iload_n 44 hV dX5_column_44 rfl ?_
          refine dr_if_eq (tgt := 57) 45 hV dX5_column_45 (by decide) (fun c45 => ?_) (fun c45 => ?_)
          · have hok : ok_column s (nI m) lo hi := ⟨by omega, c19, by rw [nI_add, nI_leI (by omega) (by decide)]; omega, by grind, by grind⟩
            have loop : ∀ (fu i : Nat), m < i + fu → i ≤ m → ∀ I2 : dz_MI, col_X (dz_wi (dz_wi (dz_wi (dz_wi I1 11 (sg_c s) lo) 12 (sg_c s) hi) 13 (sg_c s) (nI (sg_p s))) 14 (sg_c s) (nI m)) I2 (sg_p s) (sg_c s) i → V 103 I2 J [(0, .inr (.inr 0)), (1, .inl (nI m)), (4, .inl (nI (i)))] [] := by
              intro fu
              induction fu with
              | zero => intro i h1 h2; exact absurd h1 (by omega)
              | succ fu ih =>
                intro i h1 h2 I2 hx
                refine dr_iload 103 hV dX5_column_103 rfl ?_
                refine dr_iload_n 105 hV dX5_column_105 rfl ?_
                refine dn_icmp_ge (tgt := 144) 106 hV dX5_column_106 (by decide) (by omega) (by omega) (fun c106 => ?_) (fun c106 => ?_)
                · have him : i = m := by omega
                  subst him
                  refine dr_aload_n 144 hV dX5_column_144 rfl ?_
                  refine dr_dup 145 hV dX5_column_145 rfl ?_
                  refine dr_geti (v := nI (sg_p s)) 146 hV dX5_column_146 (by decide) (by decide) rfl rfl rfl (by rw [hx.2 0 3 (by omega)]; (repeat rw [dz_wi_n _ _ (by omega)]); exact m3) ?_
                  refine dr_iload_n 149 hV dX5_column_149 rfl ?_
                  refine dr_iadd (z := nI (sg_p s + i)) 150 hV dX5_column_150 (nI_add _ _) ?_
                  refine dr_puti 151 hV dX5_column_151 (by decide) (by decide) rfl rfl rfl rfl rfl rfl ?_
                  refine dr_aload_n 154 hV dX5_column_154 rfl ?_
                  refine dr_dup 155 hV dX5_column_155 rfl ?_
                  refine dr_geti (v := nI (sg_c s)) 156 hV dX5_column_156 (by decide) (by decide) rfl rfl rfl (by rw [dz_wi_n _ _ (by omega), hx.2 0 2 (by omega)]; (repeat rw [dz_wi_n _ _ (by omega)]); exact m2) ?_
                  refine dr_iconst (v := nI 1) 159 hV dX5_column_159 (by decide) ?_
                  refine dr_iadd (z := nI (sg_c s + 1)) 160 hV dX5_column_160 (nI_1 _) ?_
                  refine dr_puti 161 hV dX5_column_161 (by decide) (by decide) rfl rfl rfl rfl rfl rfl ?_
                  refine dr_aload_n 164 hV dX5_column_164 rfl ?_
                  refine dr_geti (v := nI (sg_c s + 1)) 165 hV dX5_column_165 (by decide) (by decide) rfl rfl rfl (dz_wi_s _ _ _ _) ?_
                  refine dr_iconst (v := nI 1) 168 hV dX5_column_168 (by decide) ?_
                  refine dr_isub (z := nI (sg_c s)) 169 hV dX5_column_169 (by rw [pk_sub (by omega)]; rfl) ?_
                  exact dr_iret 170 hV dX5_column_170 rfl (by first | rfl | exact dz_bn) ⟨by rw [a_column, dz_B1 hok], by rw [sn_column, dz_B1 hok]; exact col_R hO2 hR1 hm (by omega) (by omega) hx⟩
                · refine dr_aload_n 109 hV dX5_column_109 rfl ?_
                  refine dr_geta 110 hV dX5_column_110 (by decide) (by decide) rfl rfl rfl ?_
                  refine dr_aload_n 113 hV dX5_column_113 rfl ?_
                  refine dr_geti (v := nI (sg_p s)) 114 hV dX5_column_114 (by decide) (by decide) rfl rfl rfl (by rw [hx.2 0 3 (by omega)]; (repeat rw [dz_wi_n _ _ (by omega)]); exact m3) ?_
                  refine dr_iload 117 hV dX5_column_117 rfl ?_
                  refine dr_iadd (z := nI (sg_p s + i)) 119 hV dX5_column_119 (nI_add _ _) ?_
                  refine dr_aload_n 120 hV dX5_column_120 rfl ?_
                  refine dr_geti (v := nI (sg_c s)) 121 hV dX5_column_121 (by decide) (by decide) rfl rfl rfl (by rw [hx.2 0 2 (by omega)]; (repeat rw [dz_wi_n _ _ (by omega)]); exact m2) ?_
                  refine dr_iast 124 hV dX5_column_124 (by decide) rfl rfl (by omega) (by decide) ?_
                  refine dr_aload_n 125 hV dX5_column_125 rfl ?_
                  refine dr_geta 126 hV dX5_column_126 (by decide) (by decide) rfl rfl rfl ?_
                  refine dr_aload_n 129 hV dX5_column_129 rfl ?_
                  refine dr_geti (v := nI (sg_p s)) 130 hV dX5_column_130 (by decide) (by decide) rfl rfl rfl (by rw [dz_wi_n _ _ (by omega), hx.2 0 3 (by omega)]; (repeat rw [dz_wi_n _ _ (by omega)]); exact m3) ?_
                  refine dr_iload 133 hV dX5_column_133 rfl ?_
                  refine dr_iadd (z := nI (sg_p s + i)) 135 hV dX5_column_135 (nI_add _ _) ?_
                  refine dr_iconst (v := (-1)) 136 hV dX5_column_136 (by decide) ?_
                  refine dr_iast 137 hV dX5_column_137 (by decide) rfl rfl (by omega) (by decide) ?_
                  refine dr_iinc1 138 hV dX5_column_138 (by decide) rfl ?_
                  refine dr_goto (tgt := 103) 141 hV dX5_column_141 (by decide) ?_
                  refine dr_sub hV (ls2 := [(0, .inr (.inr 0)), (1, .inl (nI m)), (4, .inl (nI (i + 1)))]) rfl ?_
                  exact ih (i + 1) (by omega) (by omega) _ hx.s
            refine dr_aload_n 57 hV dX5_column_57 rfl ?_
            refine dr_geta 58 hV dX5_column_58 (by decide) (by decide) rfl rfl rfl ?_
            refine dr_aload_n 61 hV dX5_column_61 rfl ?_
            refine dr_geti (v := nI (sg_c s)) 62 hV dX5_column_62 (by decide) (by decide) rfl rfl rfl (by (repeat rw [dz_wi_n _ _ (by omega)]); exact m2) ?_
            refine dr_iload_n 65 hV dX5_column_65 rfl ?_
            refine dr_iast 66 hV dX5_column_66 (by decide) rfl rfl (by omega) (by decide) ?_
            refine dr_aload_n 67 hV dX5_column_67 rfl ?_
            refine dr_geta 68 hV dX5_column_68 (by decide) (by decide) rfl rfl rfl ?_
            refine dr_aload_n 71 hV dX5_column_71 rfl ?_
            refine dr_geti (v := nI (sg_c s)) 72 hV dX5_column_72 (by decide) (by decide) rfl rfl rfl (by (repeat rw [dz_wi_n _ _ (by omega)]); exact m2) ?_
            refine dr_iload_n 75 hV dX5_column_75 rfl ?_
            refine dr_iast 76 hV dX5_column_76 (by decide) rfl rfl (by omega) (by decide) ?_
            refine dr_aload_n 77 hV dX5_column_77 rfl ?_
            refine dr_geta 78 hV dX5_column_78 (by decide) (by decide) rfl rfl rfl ?_
            refine dr_aload_n 81 hV dX5_column_81 rfl ?_
            refine dr_geti (v := nI (sg_c s)) 82 hV dX5_column_82 (by decide) (by decide) rfl rfl rfl (by (repeat rw [dz_wi_n _ _ (by omega)]); exact m2) ?_
            refine dr_aload_n 85 hV dX5_column_85 rfl ?_
            refine dr_geti (v := nI (sg_p s)) 86 hV dX5_column_86 (by decide) (by decide) rfl rfl rfl (by (repeat rw [dz_wi_n _ _ (by omega)]); exact m3) ?_
            refine dr_iast 89 hV dX5_column_89 (by decide) rfl rfl (by omega) (by decide) ?_
            refine dr_aload_n 90 hV dX5_column_90 rfl ?_
            refine dr_geta 91 hV dX5_column_91 (by decide) (by decide) rfl rfl rfl ?_
            refine dr_aload_n 94 hV dX5_column_94 rfl ?_
            refine dr_geti (v := nI (sg_c s)) 95 hV dX5_column_95 (by decide) (by decide) rfl rfl rfl (by (repeat rw [dz_wi_n _ _ (by omega)]); exact m2) ?_
            refine dr_iload_n 98 hV dX5_column_98 rfl ?_
            refine dr_iast 99 hV dX5_column_99 (by decide) rfl rfl (by omega) (by decide) ?_
            refine dr_iconst (v := nI 0) 100 hV dX5_column_100 (by decide) ?_
            refine dr_istore 101 hV dX5_column_101 (by decide) ?_
            refine dr_sub hV (ls2 := [(0, .inr (.inr 0)), (1, .inl (nI m)), (4, .inl (nI (0)))]) rfl ?_
            exact loop (m + 1) 0 (by omega) (Nat.zero_le _) _ ⟨fun j h1 h2 => absurd h2 (by omega), fun a j h => rfl⟩
          · refine dr_iload_n 48 hV dX5_column_48 rfl ?_
            refine dr_csp1 49 hV (Or.inl dz_lX5_108) dX5_column_49 (by decide) (by decide) (Nat.le_of_ble_eq_true rfl) (c_X5_isWidth π _ _ _ _ _) ?_
            first | refine dr_ifb_ne (tgt := 57) 52 hV dX5_column_52 (by decide) (fun c52 => ?_) (fun c52 => ?_) | refine dr_if_ne (tgt := 57) 52 hV dX5_column_52 (by decide) (fun c52 => ?_) (fun c52 => ?_)
            · have hok : ok_column s (nI m) lo hi := ⟨by omega, c19, by rw [nI_add, nI_leI (by omega) (by decide)]; omega, by grind, by grind⟩
              have loop : ∀ (fu i : Nat), m < i + fu → i ≤ m → ∀ I2 : dz_MI, col_X (dz_wi (dz_wi (dz_wi (dz_wi I1 11 (sg_c s) lo) 12 (sg_c s) hi) 13 (sg_c s) (nI (sg_p s))) 14 (sg_c s) (nI m)) I2 (sg_p s) (sg_c s) i → V 103 I2 J [(0, .inr (.inr 0)), (1, .inl (nI m)), (4, .inl (nI (i)))] [] := by
                intro fu
                induction fu with
                | zero => intro i h1 h2; exact absurd h1 (by omega)
                | succ fu ih =>
                  intro i h1 h2 I2 hx
                  refine dr_iload 103 hV dX5_column_103 rfl ?_
                  refine dr_iload_n 105 hV dX5_column_105 rfl ?_
                  refine dn_icmp_ge (tgt := 144) 106 hV dX5_column_106 (by decide) (by omega) (by omega) (fun c106 => ?_) (fun c106 => ?_)
                  · have him : i = m := by omega
                    subst him
                    refine dr_aload_n 144 hV dX5_column_144 rfl ?_
                    refine dr_dup 145 hV dX5_column_145 rfl ?_
                    refine dr_geti (v := nI (sg_p s)) 146 hV dX5_column_146 (by decide) (by decide) rfl rfl rfl (by rw [hx.2 0 3 (by omega)]; (repeat rw [dz_wi_n _ _ (by omega)]); exact m3) ?_
                    refine dr_iload_n 149 hV dX5_column_149 rfl ?_
                    refine dr_iadd (z := nI (sg_p s + i)) 150 hV dX5_column_150 (nI_add _ _) ?_
                    refine dr_puti 151 hV dX5_column_151 (by decide) (by decide) rfl rfl rfl rfl rfl rfl ?_
                    refine dr_aload_n 154 hV dX5_column_154 rfl ?_
                    refine dr_dup 155 hV dX5_column_155 rfl ?_
                    refine dr_geti (v := nI (sg_c s)) 156 hV dX5_column_156 (by decide) (by decide) rfl rfl rfl (by rw [dz_wi_n _ _ (by omega), hx.2 0 2 (by omega)]; (repeat rw [dz_wi_n _ _ (by omega)]); exact m2) ?_
                    refine dr_iconst (v := nI 1) 159 hV dX5_column_159 (by decide) ?_
                    refine dr_iadd (z := nI (sg_c s + 1)) 160 hV dX5_column_160 (nI_1 _) ?_
                    refine dr_puti 161 hV dX5_column_161 (by decide) (by decide) rfl rfl rfl rfl rfl rfl ?_
                    refine dr_aload_n 164 hV dX5_column_164 rfl ?_
                    refine dr_geti (v := nI (sg_c s + 1)) 165 hV dX5_column_165 (by decide) (by decide) rfl rfl rfl (dz_wi_s _ _ _ _) ?_
                    refine dr_iconst (v := nI 1) 168 hV dX5_column_168 (by decide) ?_
                    refine dr_isub (z := nI (sg_c s)) 169 hV dX5_column_169 (by rw [pk_sub (by omega)]; rfl) ?_
                    exact dr_iret 170 hV dX5_column_170 rfl (by first | rfl | exact dz_bn) ⟨by rw [a_column, dz_B1 hok], by rw [sn_column, dz_B1 hok]; exact col_R hO2 hR1 hm (by omega) (by omega) hx⟩
                  · refine dr_aload_n 109 hV dX5_column_109 rfl ?_
                    refine dr_geta 110 hV dX5_column_110 (by decide) (by decide) rfl rfl rfl ?_
                    refine dr_aload_n 113 hV dX5_column_113 rfl ?_
                    refine dr_geti (v := nI (sg_p s)) 114 hV dX5_column_114 (by decide) (by decide) rfl rfl rfl (by rw [hx.2 0 3 (by omega)]; (repeat rw [dz_wi_n _ _ (by omega)]); exact m3) ?_
                    refine dr_iload 117 hV dX5_column_117 rfl ?_
                    refine dr_iadd (z := nI (sg_p s + i)) 119 hV dX5_column_119 (nI_add _ _) ?_
                    refine dr_aload_n 120 hV dX5_column_120 rfl ?_
                    refine dr_geti (v := nI (sg_c s)) 121 hV dX5_column_121 (by decide) (by decide) rfl rfl rfl (by rw [hx.2 0 2 (by omega)]; (repeat rw [dz_wi_n _ _ (by omega)]); exact m2) ?_
                    refine dr_iast 124 hV dX5_column_124 (by decide) rfl rfl (by omega) (by decide) ?_
                    refine dr_aload_n 125 hV dX5_column_125 rfl ?_
                    refine dr_geta 126 hV dX5_column_126 (by decide) (by decide) rfl rfl rfl ?_
                    refine dr_aload_n 129 hV dX5_column_129 rfl ?_
                    refine dr_geti (v := nI (sg_p s)) 130 hV dX5_column_130 (by decide) (by decide) rfl rfl rfl (by rw [dz_wi_n _ _ (by omega), hx.2 0 3 (by omega)]; (repeat rw [dz_wi_n _ _ (by omega)]); exact m3) ?_
                    refine dr_iload 133 hV dX5_column_133 rfl ?_
                    refine dr_iadd (z := nI (sg_p s + i)) 135 hV dX5_column_135 (nI_add _ _) ?_
                    refine dr_iconst (v := (-1)) 136 hV dX5_column_136 (by decide) ?_
                    refine dr_iast 137 hV dX5_column_137 (by decide) rfl rfl (by omega) (by decide) ?_
                    refine dr_iinc1 138 hV dX5_column_138 (by decide) rfl ?_
                    refine dr_goto (tgt := 103) 141 hV dX5_column_141 (by decide) ?_
                    refine dr_sub hV (ls2 := [(0, .inr (.inr 0)), (1, .inl (nI m)), (4, .inl (nI (i + 1)))]) rfl ?_
                    exact ih (i + 1) (by omega) (by omega) _ hx.s
              refine dr_aload_n 57 hV dX5_column_57 rfl ?_
              refine dr_geta 58 hV dX5_column_58 (by decide) (by decide) rfl rfl rfl ?_
              refine dr_aload_n 61 hV dX5_column_61 rfl ?_
              refine dr_geti (v := nI (sg_c s)) 62 hV dX5_column_62 (by decide) (by decide) rfl rfl rfl (by (repeat rw [dz_wi_n _ _ (by omega)]); exact m2) ?_
              refine dr_iload_n 65 hV dX5_column_65 rfl ?_
              refine dr_iast 66 hV dX5_column_66 (by decide) rfl rfl (by omega) (by decide) ?_
              refine dr_aload_n 67 hV dX5_column_67 rfl ?_
              refine dr_geta 68 hV dX5_column_68 (by decide) (by decide) rfl rfl rfl ?_
              refine dr_aload_n 71 hV dX5_column_71 rfl ?_
              refine dr_geti (v := nI (sg_c s)) 72 hV dX5_column_72 (by decide) (by decide) rfl rfl rfl (by (repeat rw [dz_wi_n _ _ (by omega)]); exact m2) ?_
              refine dr_iload_n 75 hV dX5_column_75 rfl ?_
              refine dr_iast 76 hV dX5_column_76 (by decide) rfl rfl (by omega) (by decide) ?_
              refine dr_aload_n 77 hV dX5_column_77 rfl ?_
              refine dr_geta 78 hV dX5_column_78 (by decide) (by decide) rfl rfl rfl ?_
              refine dr_aload_n 81 hV dX5_column_81 rfl ?_
              refine dr_geti (v := nI (sg_c s)) 82 hV dX5_column_82 (by decide) (by decide) rfl rfl rfl (by (repeat rw [dz_wi_n _ _ (by omega)]); exact m2) ?_
              refine dr_aload_n 85 hV dX5_column_85 rfl ?_
              refine dr_geti (v := nI (sg_p s)) 86 hV dX5_column_86 (by decide) (by decide) rfl rfl rfl (by (repeat rw [dz_wi_n _ _ (by omega)]); exact m3) ?_
              refine dr_iast 89 hV dX5_column_89 (by decide) rfl rfl (by omega) (by decide) ?_
              refine dr_aload_n 90 hV dX5_column_90 rfl ?_
              refine dr_geta 91 hV dX5_column_91 (by decide) (by decide) rfl rfl rfl ?_
              refine dr_aload_n 94 hV dX5_column_94 rfl ?_
              refine dr_geti (v := nI (sg_c s)) 95 hV dX5_column_95 (by decide) (by decide) rfl rfl rfl (by (repeat rw [dz_wi_n _ _ (by omega)]); exact m2) ?_
              refine dr_iload_n 98 hV dX5_column_98 rfl ?_
              refine dr_iast 99 hV dX5_column_99 (by decide) rfl rfl (by omega) (by decide) ?_
              refine dr_iconst (v := nI 0) 100 hV dX5_column_100 (by decide) ?_
              refine dr_istore 101 hV dX5_column_101 (by decide) ?_
              refine dr_sub hV (ls2 := [(0, .inr (.inr 0)), (1, .inl (nI m)), (4, .inl (nI (0)))]) rfl ?_
              exact loop (m + 1) 0 (by omega) (Nat.zero_le _) _ ⟨fun j h1 h2 => absurd h2 (by omega), fun a j h => rfl⟩
            · refine dr_iconst (v := (-1)) 55 hV dX5_column_55 (by decide) ?_
              exact dr_iret 56 hV dX5_column_56 rfl (by first | rfl | exact dz_bn) ⟨by rw [a_column, dz_B0 (by unfold ok_column; first | omega | exact fun z => absurd z.2.2.1 (by rw [nI_add, nI_leI (by omega) (by decide)]; omega) | grind)], by rw [sn_column, dz_B0 (by unfold ok_column; first | omega | exact fun z => absurd z.2.2.1 (by rw [nI_add, nI_leI (by omega) (by decide)]; omega) | grind)]; exact hR1⟩
        · refine dr_iload_n 37 hV dX5_column_37 rfl ?_
          refine dr_csp1 38 hV (Or.inl dz_lX5_108) dX5_column_38 (by decide) (by decide) (Nat.le_of_ble_eq_true rfl) (c_X5_isWidth π _ _ _ _ _) ?_
          first | refine dr_ifb_eq (tgt := 55) 41 hV dX5_column_41 (by decide) (fun c41 => ?_) (fun c41 => ?_) | refine dr_if_eq (tgt := 55) 41 hV dX5_column_41 (by decide) (fun c41 => ?_) (fun c41 => ?_)
          · refine dr_iconst (v := (-1)) 55 hV dX5_column_55 (by decide) ?_
            exact dr_iret 56 hV dX5_column_56 rfl (by first | rfl | exact dz_bn) ⟨by rw [a_column, dz_B0 (by unfold ok_column; first | omega | exact fun z => absurd z.2.2.1 (by rw [nI_add, nI_leI (by omega) (by decide)]; omega) | grind)], by rw [sn_column, dz_B0 (by unfold ok_column; first | omega | exact fun z => absurd z.2.2.1 (by rw [nI_add, nI_leI (by omega) (by decide)]; omega) | grind)]; exact hR1⟩
          · refine dr_iload_n 44 hV dX5_column_44 rfl ?_
            refine dr_if_eq (tgt := 57) 45 hV dX5_column_45 (by decide) (fun c45 => ?_) (fun c45 => ?_)
            · have hok : ok_column s (nI m) lo hi := ⟨by omega, c19, by rw [nI_add, nI_leI (by omega) (by decide)]; omega, by grind, by grind⟩
              have loop : ∀ (fu i : Nat), m < i + fu → i ≤ m → ∀ I2 : dz_MI, col_X (dz_wi (dz_wi (dz_wi (dz_wi I1 11 (sg_c s) lo) 12 (sg_c s) hi) 13 (sg_c s) (nI (sg_p s))) 14 (sg_c s) (nI m)) I2 (sg_p s) (sg_c s) i → V 103 I2 J [(0, .inr (.inr 0)), (1, .inl (nI m)), (4, .inl (nI (i)))] [] := by
                intro fu
                induction fu with
                | zero => intro i h1 h2; exact absurd h1 (by omega)
                | succ fu ih =>
                  intro i h1 h2 I2 hx
                  refine dr_iload 103 hV dX5_column_103 rfl ?_
                  refine dr_iload_n 105 hV dX5_column_105 rfl ?_
                  refine dn_icmp_ge (tgt := 144) 106 hV dX5_column_106 (by decide) (by omega) (by omega) (fun c106 => ?_) (fun c106 => ?_)
                  · have him : i = m := by omega
                    subst him
                    refine dr_aload_n 144 hV dX5_column_144 rfl ?_
                    refine dr_dup 145 hV dX5_column_145 rfl ?_
                    refine dr_geti (v := nI (sg_p s)) 146 hV dX5_column_146 (by decide) (by decide) rfl rfl rfl (by rw [hx.2 0 3 (by omega)]; (repeat rw [dz_wi_n _ _ (by omega)]); exact m3) ?_
                    refine dr_iload_n 149 hV dX5_column_149 rfl ?_
                    refine dr_iadd (z := nI (sg_p s + i)) 150 hV dX5_column_150 (nI_add _ _) ?_
                    refine dr_puti 151 hV dX5_column_151 (by decide) (by decide) rfl rfl rfl rfl rfl rfl ?_
                    refine dr_aload_n 154 hV dX5_column_154 rfl ?_
                    refine dr_dup 155 hV dX5_column_155 rfl ?_
                    refine dr_geti (v := nI (sg_c s)) 156 hV dX5_column_156 (by decide) (by decide) rfl rfl rfl (by rw [dz_wi_n _ _ (by omega), hx.2 0 2 (by omega)]; (repeat rw [dz_wi_n _ _ (by omega)]); exact m2) ?_
                    refine dr_iconst (v := nI 1) 159 hV dX5_column_159 (by decide) ?_
                    refine dr_iadd (z := nI (sg_c s + 1)) 160 hV dX5_column_160 (nI_1 _) ?_
                    refine dr_puti 161 hV dX5_column_161 (by decide) (by decide) rfl rfl rfl rfl rfl rfl ?_
                    refine dr_aload_n 164 hV dX5_column_164 rfl ?_
                    refine dr_geti (v := nI (sg_c s + 1)) 165 hV dX5_column_165 (by decide) (by decide) rfl rfl rfl (dz_wi_s _ _ _ _) ?_
                    refine dr_iconst (v := nI 1) 168 hV dX5_column_168 (by decide) ?_
                    refine dr_isub (z := nI (sg_c s)) 169 hV dX5_column_169 (by rw [pk_sub (by omega)]; rfl) ?_
                    exact dr_iret 170 hV dX5_column_170 rfl (by first | rfl | exact dz_bn) ⟨by rw [a_column, dz_B1 hok], by rw [sn_column, dz_B1 hok]; exact col_R hO2 hR1 hm (by omega) (by omega) hx⟩
                  · refine dr_aload_n 109 hV dX5_column_109 rfl ?_
                    refine dr_geta 110 hV dX5_column_110 (by decide) (by decide) rfl rfl rfl ?_
                    refine dr_aload_n 113 hV dX5_column_113 rfl ?_
                    refine dr_geti (v := nI (sg_p s)) 114 hV dX5_column_114 (by decide) (by decide) rfl rfl rfl (by rw [hx.2 0 3 (by omega)]; (repeat rw [dz_wi_n _ _ (by omega)]); exact m3) ?_
                    refine dr_iload 117 hV dX5_column_117 rfl ?_
                    refine dr_iadd (z := nI (sg_p s + i)) 119 hV dX5_column_119 (nI_add _ _) ?_
                    refine dr_aload_n 120 hV dX5_column_120 rfl ?_
                    refine dr_geti (v := nI (sg_c s)) 121 hV dX5_column_121 (by decide) (by decide) rfl rfl rfl (by rw [hx.2 0 2 (by omega)]; (repeat rw [dz_wi_n _ _ (by omega)]); exact m2) ?_
                    refine dr_iast 124 hV dX5_column_124 (by decide) rfl rfl (by omega) (by decide) ?_
                    refine dr_aload_n 125 hV dX5_column_125 rfl ?_
                    refine dr_geta 126 hV dX5_column_126 (by decide) (by decide) rfl rfl rfl ?_
                    refine dr_aload_n 129 hV dX5_column_129 rfl ?_
                    refine dr_geti (v := nI (sg_p s)) 130 hV dX5_column_130 (by decide) (by decide) rfl rfl rfl (by rw [dz_wi_n _ _ (by omega), hx.2 0 3 (by omega)]; (repeat rw [dz_wi_n _ _ (by omega)]); exact m3) ?_
                    refine dr_iload 133 hV dX5_column_133 rfl ?_
                    refine dr_iadd (z := nI (sg_p s + i)) 135 hV dX5_column_135 (nI_add _ _) ?_
                    refine dr_iconst (v := (-1)) 136 hV dX5_column_136 (by decide) ?_
                    refine dr_iast 137 hV dX5_column_137 (by decide) rfl rfl (by omega) (by decide) ?_
                    refine dr_iinc1 138 hV dX5_column_138 (by decide) rfl ?_
                    refine dr_goto (tgt := 103) 141 hV dX5_column_141 (by decide) ?_
                    refine dr_sub hV (ls2 := [(0, .inr (.inr 0)), (1, .inl (nI m)), (4, .inl (nI (i + 1)))]) rfl ?_
                    exact ih (i + 1) (by omega) (by omega) _ hx.s
              refine dr_aload_n 57 hV dX5_column_57 rfl ?_
              refine dr_geta 58 hV dX5_column_58 (by decide) (by decide) rfl rfl rfl ?_
              refine dr_aload_n 61 hV dX5_column_61 rfl ?_
              refine dr_geti (v := nI (sg_c s)) 62 hV dX5_column_62 (by decide) (by decide) rfl rfl rfl (by (repeat rw [dz_wi_n _ _ (by omega)]); exact m2) ?_
              refine dr_iload_n 65 hV dX5_column_65 rfl ?_
              refine dr_iast 66 hV dX5_column_66 (by decide) rfl rfl (by omega) (by decide) ?_
              refine dr_aload_n 67 hV dX5_column_67 rfl ?_
              refine dr_geta 68 hV dX5_column_68 (by decide) (by decide) rfl rfl rfl ?_
              refine dr_aload_n 71 hV dX5_column_71 rfl ?_
              refine dr_geti (v := nI (sg_c s)) 72 hV dX5_column_72 (by decide) (by decide) rfl rfl rfl (by (repeat rw [dz_wi_n _ _ (by omega)]); exact m2) ?_
              refine dr_iload_n 75 hV dX5_column_75 rfl ?_
              refine dr_iast 76 hV dX5_column_76 (by decide) rfl rfl (by omega) (by decide) ?_
              refine dr_aload_n 77 hV dX5_column_77 rfl ?_
              refine dr_geta 78 hV dX5_column_78 (by decide) (by decide) rfl rfl rfl ?_
              refine dr_aload_n 81 hV dX5_column_81 rfl ?_
              refine dr_geti (v := nI (sg_c s)) 82 hV dX5_column_82 (by decide) (by decide) rfl rfl rfl (by (repeat rw [dz_wi_n _ _ (by omega)]); exact m2) ?_
              refine dr_aload_n 85 hV dX5_column_85 rfl ?_
              refine dr_geti (v := nI (sg_p s)) 86 hV dX5_column_86 (by decide) (by decide) rfl rfl rfl (by (repeat rw [dz_wi_n _ _ (by omega)]); exact m3) ?_
              refine dr_iast 89 hV dX5_column_89 (by decide) rfl rfl (by omega) (by decide) ?_
              refine dr_aload_n 90 hV dX5_column_90 rfl ?_
              refine dr_geta 91 hV dX5_column_91 (by decide) (by decide) rfl rfl rfl ?_
              refine dr_aload_n 94 hV dX5_column_94 rfl ?_
              refine dr_geti (v := nI (sg_c s)) 95 hV dX5_column_95 (by decide) (by decide) rfl rfl rfl (by (repeat rw [dz_wi_n _ _ (by omega)]); exact m2) ?_
              refine dr_iload_n 98 hV dX5_column_98 rfl ?_
              refine dr_iast 99 hV dX5_column_99 (by decide) rfl rfl (by omega) (by decide) ?_
              refine dr_iconst (v := nI 0) 100 hV dX5_column_100 (by decide) ?_
              refine dr_istore 101 hV dX5_column_101 (by decide) ?_
              refine dr_sub hV (ls2 := [(0, .inr (.inr 0)), (1, .inl (nI m)), (4, .inl (nI (0)))]) rfl ?_
              exact loop (m + 1) 0 (by omega) (Nat.zero_le _) _ ⟨fun j h1 h2 => absurd h2 (by omega), fun a j h => rfl⟩
            · refine dr_iload_n 48 hV dX5_column_48 rfl ?_
              refine dr_csp1 49 hV (Or.inl dz_lX5_108) dX5_column_49 (by decide) (by decide) (Nat.le_of_ble_eq_true rfl) (c_X5_isWidth π _ _ _ _ _) ?_
              first | refine dr_ifb_ne (tgt := 57) 52 hV dX5_column_52 (by decide) (fun c52 => ?_) (fun c52 => ?_) | refine dr_if_ne (tgt := 57) 52 hV dX5_column_52 (by decide) (fun c52 => ?_) (fun c52 => ?_)
              · have hok : ok_column s (nI m) lo hi := ⟨by omega, c19, by rw [nI_add, nI_leI (by omega) (by decide)]; omega, by grind, by grind⟩
                have loop : ∀ (fu i : Nat), m < i + fu → i ≤ m → ∀ I2 : dz_MI, col_X (dz_wi (dz_wi (dz_wi (dz_wi I1 11 (sg_c s) lo) 12 (sg_c s) hi) 13 (sg_c s) (nI (sg_p s))) 14 (sg_c s) (nI m)) I2 (sg_p s) (sg_c s) i → V 103 I2 J [(0, .inr (.inr 0)), (1, .inl (nI m)), (4, .inl (nI (i)))] [] := by
                  intro fu
                  induction fu with
                  | zero => intro i h1 h2; exact absurd h1 (by omega)
                  | succ fu ih =>
                    intro i h1 h2 I2 hx
                    refine dr_iload 103 hV dX5_column_103 rfl ?_
                    refine dr_iload_n 105 hV dX5_column_105 rfl ?_
                    refine dn_icmp_ge (tgt := 144) 106 hV dX5_column_106 (by decide) (by omega) (by omega) (fun c106 => ?_) (fun c106 => ?_)
                    · have him : i = m := by omega
                      subst him
                      refine dr_aload_n 144 hV dX5_column_144 rfl ?_
                      refine dr_dup 145 hV dX5_column_145 rfl ?_
                      refine dr_geti (v := nI (sg_p s)) 146 hV dX5_column_146 (by decide) (by decide) rfl rfl rfl (by rw [hx.2 0 3 (by omega)]; (repeat rw [dz_wi_n _ _ (by omega)]); exact m3) ?_
                      refine dr_iload_n 149 hV dX5_column_149 rfl ?_
                      refine dr_iadd (z := nI (sg_p s + i)) 150 hV dX5_column_150 (nI_add _ _) ?_
                      refine dr_puti 151 hV dX5_column_151 (by decide) (by decide) rfl rfl rfl rfl rfl rfl ?_
                      refine dr_aload_n 154 hV dX5_column_154 rfl ?_
                      refine dr_dup 155 hV dX5_column_155 rfl ?_
                      refine dr_geti (v := nI (sg_c s)) 156 hV dX5_column_156 (by decide) (by decide) rfl rfl rfl (by rw [dz_wi_n _ _ (by omega), hx.2 0 2 (by omega)]; (repeat rw [dz_wi_n _ _ (by omega)]); exact m2) ?_
                      refine dr_iconst (v := nI 1) 159 hV dX5_column_159 (by decide) ?_
                      refine dr_iadd (z := nI (sg_c s + 1)) 160 hV dX5_column_160 (nI_1 _) ?_
                      refine dr_puti 161 hV dX5_column_161 (by decide) (by decide) rfl rfl rfl rfl rfl rfl ?_
                      refine dr_aload_n 164 hV dX5_column_164 rfl ?_
                      refine dr_geti (v := nI (sg_c s + 1)) 165 hV dX5_column_165 (by decide) (by decide) rfl rfl rfl (dz_wi_s _ _ _ _) ?_
                      refine dr_iconst (v := nI 1) 168 hV dX5_column_168 (by decide) ?_
                      refine dr_isub (z := nI (sg_c s)) 169 hV dX5_column_169 (by rw [pk_sub (by omega)]; rfl) ?_
                      exact dr_iret 170 hV dX5_column_170 rfl (by first | rfl | exact dz_bn) ⟨by rw [a_column, dz_B1 hok], by rw [sn_column, dz_B1 hok]; exact col_R hO2 hR1 hm (by omega) (by omega) hx⟩
                    · refine dr_aload_n 109 hV dX5_column_109 rfl ?_
                      refine dr_geta 110 hV dX5_column_110 (by decide) (by decide) rfl rfl rfl ?_
                      refine dr_aload_n 113 hV dX5_column_113 rfl ?_
                      refine dr_geti (v := nI (sg_p s)) 114 hV dX5_column_114 (by decide) (by decide) rfl rfl rfl (by rw [hx.2 0 3 (by omega)]; (repeat rw [dz_wi_n _ _ (by omega)]); exact m3) ?_
                      refine dr_iload 117 hV dX5_column_117 rfl ?_
                      refine dr_iadd (z := nI (sg_p s + i)) 119 hV dX5_column_119 (nI_add _ _) ?_
                      refine dr_aload_n 120 hV dX5_column_120 rfl ?_
                      refine dr_geti (v := nI (sg_c s)) 121 hV dX5_column_121 (by decide) (by decide) rfl rfl rfl (by rw [hx.2 0 2 (by omega)]; (repeat rw [dz_wi_n _ _ (by omega)]); exact m2) ?_
                      refine dr_iast 124 hV dX5_column_124 (by decide) rfl rfl (by omega) (by decide) ?_
                      refine dr_aload_n 125 hV dX5_column_125 rfl ?_
                      refine dr_geta 126 hV dX5_column_126 (by decide) (by decide) rfl rfl rfl ?_
                      refine dr_aload_n 129 hV dX5_column_129 rfl ?_
                      refine dr_geti (v := nI (sg_p s)) 130 hV dX5_column_130 (by decide) (by decide) rfl rfl rfl (by rw [dz_wi_n _ _ (by omega), hx.2 0 3 (by omega)]; (repeat rw [dz_wi_n _ _ (by omega)]); exact m3) ?_
                      refine dr_iload 133 hV dX5_column_133 rfl ?_
                      refine dr_iadd (z := nI (sg_p s + i)) 135 hV dX5_column_135 (nI_add _ _) ?_
                      refine dr_iconst (v := (-1)) 136 hV dX5_column_136 (by decide) ?_
                      refine dr_iast 137 hV dX5_column_137 (by decide) rfl rfl (by omega) (by decide) ?_
                      refine dr_iinc1 138 hV dX5_column_138 (by decide) rfl ?_
                      refine dr_goto (tgt := 103) 141 hV dX5_column_141 (by decide) ?_
                      refine dr_sub hV (ls2 := [(0, .inr (.inr 0)), (1, .inl (nI m)), (4, .inl (nI (i + 1)))]) rfl ?_
                      exact ih (i + 1) (by omega) (by omega) _ hx.s
                refine dr_aload_n 57 hV dX5_column_57 rfl ?_
                refine dr_geta 58 hV dX5_column_58 (by decide) (by decide) rfl rfl rfl ?_
                refine dr_aload_n 61 hV dX5_column_61 rfl ?_
                refine dr_geti (v := nI (sg_c s)) 62 hV dX5_column_62 (by decide) (by decide) rfl rfl rfl (by (repeat rw [dz_wi_n _ _ (by omega)]); exact m2) ?_
                refine dr_iload_n 65 hV dX5_column_65 rfl ?_
                refine dr_iast 66 hV dX5_column_66 (by decide) rfl rfl (by omega) (by decide) ?_
                refine dr_aload_n 67 hV dX5_column_67 rfl ?_
                refine dr_geta 68 hV dX5_column_68 (by decide) (by decide) rfl rfl rfl ?_
                refine dr_aload_n 71 hV dX5_column_71 rfl ?_
                refine dr_geti (v := nI (sg_c s)) 72 hV dX5_column_72 (by decide) (by decide) rfl rfl rfl (by (repeat rw [dz_wi_n _ _ (by omega)]); exact m2) ?_
                refine dr_iload_n 75 hV dX5_column_75 rfl ?_
                refine dr_iast 76 hV dX5_column_76 (by decide) rfl rfl (by omega) (by decide) ?_
                refine dr_aload_n 77 hV dX5_column_77 rfl ?_
                refine dr_geta 78 hV dX5_column_78 (by decide) (by decide) rfl rfl rfl ?_
                refine dr_aload_n 81 hV dX5_column_81 rfl ?_
                refine dr_geti (v := nI (sg_c s)) 82 hV dX5_column_82 (by decide) (by decide) rfl rfl rfl (by (repeat rw [dz_wi_n _ _ (by omega)]); exact m2) ?_
                refine dr_aload_n 85 hV dX5_column_85 rfl ?_
                refine dr_geti (v := nI (sg_p s)) 86 hV dX5_column_86 (by decide) (by decide) rfl rfl rfl (by (repeat rw [dz_wi_n _ _ (by omega)]); exact m3) ?_
                refine dr_iast 89 hV dX5_column_89 (by decide) rfl rfl (by omega) (by decide) ?_
                refine dr_aload_n 90 hV dX5_column_90 rfl ?_
                refine dr_geta 91 hV dX5_column_91 (by decide) (by decide) rfl rfl rfl ?_
                refine dr_aload_n 94 hV dX5_column_94 rfl ?_
                refine dr_geti (v := nI (sg_c s)) 95 hV dX5_column_95 (by decide) (by decide) rfl rfl rfl (by (repeat rw [dz_wi_n _ _ (by omega)]); exact m2) ?_
                refine dr_iload_n 98 hV dX5_column_98 rfl ?_
                refine dr_iast 99 hV dX5_column_99 (by decide) rfl rfl (by omega) (by decide) ?_
                refine dr_iconst (v := nI 0) 100 hV dX5_column_100 (by decide) ?_
                refine dr_istore 101 hV dX5_column_101 (by decide) ?_
                refine dr_sub hV (ls2 := [(0, .inr (.inr 0)), (1, .inl (nI m)), (4, .inl (nI (0)))]) rfl ?_
                exact loop (m + 1) 0 (by omega) (Nat.zero_le _) _ ⟨fun j h1 h2 => absurd h2 (by omega), fun a j h => rfl⟩
              · refine dr_iconst (v := (-1)) 55 hV dX5_column_55 (by decide) ?_
                exact dr_iret 56 hV dX5_column_56 rfl (by first | rfl | exact dz_bn) ⟨by rw [a_column, dz_B0 (by unfold ok_column; first | omega | exact fun z => absurd z.2.2.1 (by rw [nI_add, nI_leI (by omega) (by decide)]; omega) | grind)], by rw [sn_column, dz_B0 (by unfold ok_column; first | omega | exact fun z => absurd z.2.2.1 (by rw [nI_add, nI_leI (by omega) (by decide)]; omega) | grind)]; exact hR1⟩
