/-! MAKING (5): the words, the yard -/
def fs_X3 : List Value := [.null, .null]
def sh_X3 (cy : Nat → ClassId) (h0 : Nat) (ws : va_W) : Prop := ∃ q1 : Nat, ∃ q2 : Nat, ws = [(h0, .inr (3, [.ref q1, .ref q2])), (q1, .inl (cy 0, (8, .inl (fun k => if k < 8 then -1 else 0)))), ca_I cy q2 8]
set_option maxRecDepth 100000 in
set_option maxHeartbeats 4000000 in
theorem c_X3_init (l : Launch) (D : va_G) (cy : Nat → ClassId) (h0 sz : Nat) : ct_Cl l D cy mX3_init 1 12 2 16 3 fs_X3 h0 sz (sh_X3 cy h0) := by
  refine ct_body dz_mX3_init rfl (by decide) rfl (by decide) rfl (fun p e s m args below meth c Q X hr => ?_)
  refine ct_obj0 X dX3_init_0 dX3_init_1 (dz_t1 (i := 80) rfl rfl) (by decide) (by decide) ?_
  refine ct_arr X (n := nI 8) (N := 8) (t0 := 0) (a0 := (8, .inl (fun _ => 0))) (fun _ _ _ _ k => lv_bipush (v := nI 8) X.1 X.2.1 dX3_init_5 (by decide) k) dX3_init_4 dX3_init_7 dX3_init_9 (dz_t1 (i := 43) rfl rfl) rfl rfl (fun _ h => h) (ct_aI _) (by decide) (nI_clamp (by decide)) (by decide +kernel) (by decide +kernel) (by decide +kernel) (by decide) rfl rfl rfl (fun _ => rfl) (fun _ => rfl) (Nat.le_of_ble_eq_true rfl) (fun q1 => ?_)
  refine ct_fs (pc2 := 12) (fs2 := [.ref q1, .null]) (as2 := (ca_I cy q1 8 :: ([] : va_W))) (k2 := 1) (s2 := 8) (by decide +kernel) rfl rfl (by decide +kernel) (by decide +kernel) ?_
  refine ct_arr X (n := nI 8) (N := 8) (t0 := 0) (a0 := (8, .inl (fun _ => 0))) (fun _ _ _ _ k => lv_bipush (v := nI 8) X.1 X.2.1 dX3_init_13 (by decide) k) dX3_init_12 dX3_init_15 dX3_init_17 (dz_t1 (i := 43) rfl rfl) rfl rfl (fun _ h => h) (ct_aI _) (by decide) (nI_clamp (by decide)) (by decide +kernel) (by decide +kernel) (by decide +kernel) (by decide) rfl rfl rfl (fun _ => rfl) (fun _ => rfl) (Nat.le_of_ble_eq_true rfl) (fun q2 => ?_)
  refine ct_fs (pc2 := 20) (fs2 := [.ref q1, .ref q2]) (as2 := (ca_I cy q1 8 :: (ca_I cy q2 8 :: ([] : va_W)))) (k2 := 2) (s2 := 16) (by decide +kernel) rfl rfl (by decide +kernel) (by decide +kernel) ?_
  intro H locs ls hP hD hS hl
  obtain ⟨hx, hb, hml, hown, hts, hK, hA, hin, -⟩ := id X
  obtain ⟨k1, k2, k3, k4⟩ := dz_cf 3 (by decide)
  have loop : ∀ (fu i : Nat) (H : Heap) (locs : List Loc) (ls : Array Slot), 8 < i + fu → i ≤ 8 → va_P D vwCl [(h0, .inr (3, [.ref q1, .ref q2])), (q1, .inl (cy 0, (8, .inl (fun k => if k < i then -1 else 0)))), ca_I cy q2 8] H → va_D (ct_A h0 s.heap.size) [(h0, .inr (3, [.ref q1, .ref q2])), (q1, .inl (cy 0, (8, .inl (fun k => if k < i then -1 else 0)))), ca_I cy q2 8] → va_S (ct_A h0 s.heap.size) s.heap H locs → lv_has ls 2 [(1, .int (nI i)), (0, .ref h0)] → W p l e { frames := 1, cells := 2, slots := 16, locals := 12 } s m args below meth c H locs 2 16 Q (F0 m 22 ls []) := by
    intro fu
    induction fu with
    | zero => intro i H locs ls h1 h2; exact absurd h1 (by omega)
    | succ fu ih =>
      intro i H locs ls h1 h2 hP hD hS hl
      refine lv_iload_n hx hb dX3_init_22 rfl (lv_at hl 0 rfl) ?_
      refine lv_bipush (v := nI 8) hx hb dX3_init_23 (by decide) ?_
      refine lv_icmp_ge (tgt := 41) hx hb dX3_init_25 (by decide) (fun c1 => ?_) (fun c1 => ?_)
      · have hi8 : i = 8 := by have := (nI_leI (by decide) (by omega)).mp c1; omega
        subst hi8
        exact hr 41 _ _ _ _ H locs ls rfl rfl dX3_init_41 ⟨q1, q2, rfl⟩ hP hD hS
      · have hi8 : i < 8 := by
          rcases Nat.lt_or_ge i 8 with z | z
          · exact z
          · exact absurd ((nI_leI (by decide) (by omega)).mpr z) c1
        refine lv_aload_n hx hb dX3_init_28 rfl (lv_at hl 1 rfl) ?_
        refine va_get (ci := 3) (C := dz_R 3) (T := dz_T 3) (N := dz_N 3) (v := .ref q1) hx hb hts k1 hown hK hP 0 rfl (dz_cl 3 (by decide)) 0 (by decide) (hts _ (dz_t1 (i := 81) rfl rfl)) (fun _ h9 => h9) rfl dX3_init_29 ?_
        refine lv_iload_n hx hb dX3_init_32 rfl (lv_at hl 0 rfl) ?_
        refine lv_iconst (v := -1) hx hb dX3_init_33 (by decide) ?_
        refine va_iast hx hb hK hP hD hS 1 0 rfl rfl (vp_in_nI hi8 (by decide)) dX3_init_34 (fun H1 locs1 hP1 hD1 hS1 => ?_)
        rw [nI_clamp (show i < 2 ^ 31 by omega)] at hP1 hD1
        have eu : upd (fun k => if k < i then (-1 : Int32) else 0) i (-1) = (fun k => if k < i + 1 then (-1 : Int32) else 0) := by
          funext k
          unfold upd
          by_cases e : k = i
          · subst e; simp
          · by_cases z : k < i
            · simp [e, z, Nat.lt_succ_of_lt z]
            · simp [e, z, show ¬ k < i + 1 by omega]
        have hP2 : va_P D vwCl [(h0, .inr (3, [.ref q1, .ref q2])), (q1, .inl (cy 0, (8, .inl (fun k => if k < i + 1 then -1 else 0)))), ca_I cy q2 8] H1 := by rw [← eu]; exact hP1
        have hD2 : va_D (ct_A h0 s.heap.size) [(h0, .inr (3, [.ref q1, .ref q2])), (q1, .inl (cy 0, (8, .inl (fun k => if k < i + 1 then -1 else 0)))), ca_I cy q2 8] := by rw [← eu]; exact hD1
        refine lv_iinc (v := nI (i + 1)) (lv' := [(1, .int (nI (i + 1))), (0, .ref h0)]) hx hb dX3_init_35 hl (k := 0) rfl (nI_1 i) (by decide) rfl (fun ls hl => ?_)
        refine lv_goto (tgt := 22) hx hb dX3_init_38 (by decide) ?_
        exact ih (i + 1) H1 locs1 ls (by omega) (by omega) hP2 hD2 hS1 hl
  refine lv_iconst (v := nI 0) hx hb dX3_init_20 (by decide) ?_
  refine lv_istore_n (lv' := [(1, .int (nI 0)), (0, .ref h0)]) hx hb dX3_init_21 rfl hl (by decide) rfl (fun ls hl => ?_)
  exact loop 9 0 H locs ls (by omega) (by omega) hP hD hS hl
def fs_X4 : List Value := [.null, .null, .null, .null, .int 0, .int 0, .int 0, .int 0]
def sh_X4 (cy : Nat → ClassId) (h0 : Nat) (ws : va_W) : Prop := ∃ (qd qc qw qp : Nat) (wD wC wW wP : va_W), sh_X1 cy qd wD ∧ sh_X0 cy qc wC ∧ sh_X3 cy qw wW ∧ sh_X2 cy qp wP ∧ ws = (h0, .inr (4, [.ref qd, .ref qc, .ref qw, .ref qp, .int (nI 5), .int (nI 500), .int (nI 1), .int (nI 1)])) :: List.append (List.append (List.append wD wC) wW) wP
set_option maxRecDepth 100000 in
set_option maxHeartbeats 4000000 in
theorem c_X4_init (l : Launch) (D : va_G) (cy : Nat → ClassId) (h0 sz : Nat) : ct_Cl l D cy mX4_init 2 33 61 157021 4 fs_X4 h0 sz (sh_X4 cy h0) := by
  refine ct_body dz_mX4_init rfl (by decide) rfl (by decide) rfl (fun p e s m args below meth c Q X hr => ?_)
  refine ct_obj0 X dX4_init_0 dX4_init_1 (dz_t1 (i := 19) rfl rfl) (by decide) (by decide) ?_
  refine ct_new X (fs2 := fs_X1) (shape := sh_X1 cy) (by decide) dX4_init_4 dX4_init_5 dX4_init_8 dX4_init_9 dX4_init_12 (dz_t1 (i := 22) rfl rfl) (dz_t1 (i := 23) rfl rfl) (dz_t1 (i := 2) rfl rfl) dz_mX1_init (dz_t1 (i := 24) rfl rfl) (dz_t1 (i := 25) rfl rfl) rfl (fun j hj => by rcases (show j = 0 ∨ j = 1 ∨ j = 2 ∨ j = 3 by have : j < 4 := hj; omega) with rfl | rfl | rfl | rfl <;> rfl) (fun q sz => c_X1_init l D cy q sz) (by decide) (by decide) (by decide +kernel) (by decide +kernel) (by decide) rfl rfl rfl (fun _ => rfl) (fun _ => rfl) (Nat.le_of_ble_eq_true rfl) (fun qd wD hwD => ?_)
  refine ct_fs (pc2 := 15) (fs2 := [.ref qd, .null, .null, .null, .int 0, .int 0, .int 0, .int 0]) (as2 := wD) (k2 := 13) (s2 := 113) (by decide +kernel) rfl rfl (by decide +kernel) (by decide +kernel) ?_
  refine ct_new X (fs2 := fs_X0) (shape := sh_X0 cy) (by decide) dX4_init_15 dX4_init_16 dX4_init_19 dX4_init_20 dX4_init_23 (dz_t1 (i := 44) rfl rfl) (dz_t1 (i := 45) rfl rfl) (dz_t1 (i := 3) rfl rfl) dz_mX0_init (dz_t1 (i := 46) rfl rfl) (dz_t1 (i := 47) rfl rfl) rfl (fun j hj => by rcases (show j = 0 ∨ j = 1 ∨ j = 2 ∨ j = 3 ∨ j = 4 ∨ j = 5 ∨ j = 6 ∨ j = 7 by have : j < 8 := hj; omega) with rfl | rfl | rfl | rfl | rfl | rfl | rfl | rfl <;> rfl) (fun q sz => c_X0_init l D cy q sz) (by decide) (by decide) (by decide +kernel) (by decide +kernel) (by decide) rfl rfl rfl (fun _ => rfl) (fun _ => rfl) (Nat.le_of_ble_eq_true rfl) (fun qc wC hwC => ?_)
  refine ct_fs (pc2 := 26) (fs2 := [.ref qd, .ref qc, .null, .null, .int 0, .int 0, .int 0, .int 0]) (as2 := (List.append wD wC)) (k2 := 20) (s2 := 149) (by decide +kernel) rfl rfl (by decide +kernel) (by decide +kernel) ?_
  refine ct_new X (fs2 := fs_X3) (shape := sh_X3 cy) (by decide) dX4_init_26 dX4_init_27 dX4_init_30 dX4_init_31 dX4_init_34 (dz_t1 (i := 75) rfl rfl) (dz_t1 (i := 76) rfl rfl) (dz_t1 (i := 4) rfl rfl) dz_mX3_init (dz_t1 (i := 77) rfl rfl) (dz_t1 (i := 78) rfl rfl) rfl (fun j hj => by rcases (show j = 0 ∨ j = 1 by have : j < 2 := hj; omega) with rfl | rfl <;> rfl) (fun q sz => c_X3_init l D cy q sz) (by decide) (by decide) (by decide +kernel) (by decide +kernel) (by decide) rfl rfl rfl (fun _ => rfl) (fun _ => rfl) (Nat.le_of_ble_eq_true rfl) (fun qw wW hwW => ?_)
  refine ct_fs (pc2 := 37) (fs2 := [.ref qd, .ref qc, .ref qw, .null, .int 0, .int 0, .int 0, .int 0]) (as2 := (List.append (List.append wD wC) wW)) (k2 := 23) (s2 := 167) (by decide +kernel) rfl rfl (by decide +kernel) (by decide +kernel) ?_
  refine ct_new X (fs2 := fs_X2) (shape := sh_X2 cy) (by decide) dX4_init_37 dX4_init_38 dX4_init_41 dX4_init_42 dX4_init_45 (dz_t1 (i := 88) rfl rfl) (dz_t1 (i := 89) rfl rfl) (dz_t1 (i := 5) rfl rfl) dz_mX2_init (dz_t1 (i := 90) rfl rfl) (dz_t1 (i := 91) rfl rfl) rfl (fun j hj => by rcases (show j = 0 ∨ j = 1 ∨ j = 2 ∨ j = 3 ∨ j = 4 ∨ j = 5 ∨ j = 6 ∨ j = 7 ∨ j = 8 ∨ j = 9 ∨ j = 10 ∨ j = 11 by have : j < 12 := hj; omega) with rfl | rfl | rfl | rfl | rfl | rfl | rfl | rfl | rfl | rfl | rfl | rfl <;> rfl) (fun q sz => c_X2_init l D cy q sz) (by decide) (by decide) (by decide +kernel) (by decide +kernel) (by decide) rfl rfl rfl (fun _ => rfl) (fun _ => rfl) (Nat.le_of_ble_eq_true rfl) (fun qp wP hwP => ?_)
  refine ct_fs (pc2 := 48) (fs2 := [.ref qd, .ref qc, .ref qw, .ref qp, .int 0, .int 0, .int 0, .int 0]) (as2 := (List.append (List.append (List.append wD wC) wW) wP)) (k2 := 61) (s2 := 157021) (by decide +kernel) rfl rfl (by decide +kernel) (by decide +kernel) ?_
  refine ct_int X (n := nI 5) (fun _ _ _ _ k => lv_iconst (v := nI 5) X.1 X.2.1 dX4_init_49 (by decide) k) dX4_init_48 dX4_init_50 (by decide) rfl rfl rfl rfl (Nat.le_of_ble_eq_true rfl) ?_
  refine ct_fs (pc2 := 53) (fs2 := [.ref qd, .ref qc, .ref qw, .ref qp, .int (nI 5), .int 0, .int 0, .int 0]) (as2 := (List.append (List.append (List.append wD wC) wW) wP)) (k2 := 61) (s2 := 157021) (by decide +kernel) rfl rfl (by decide +kernel) (by decide +kernel) ?_
  refine ct_int X (n := nI 500) (fun _ _ _ _ k => lv_sipush (v := nI 500) X.1 X.2.1 dX4_init_54 (by decide) k) dX4_init_53 dX4_init_57 (by decide) rfl rfl rfl rfl (Nat.le_of_ble_eq_true rfl) ?_
  refine ct_fs (pc2 := 60) (fs2 := [.ref qd, .ref qc, .ref qw, .ref qp, .int (nI 5), .int (nI 500), .int 0, .int 0]) (as2 := (List.append (List.append (List.append wD wC) wW) wP)) (k2 := 61) (s2 := 157021) (by decide +kernel) rfl rfl (by decide +kernel) (by decide +kernel) ?_
  refine ct_int X (n := nI 1) (fun _ _ _ _ k => lv_iconst (v := nI 1) X.1 X.2.1 dX4_init_61 (by decide) k) dX4_init_60 dX4_init_62 (by decide) rfl rfl rfl rfl (Nat.le_of_ble_eq_true rfl) ?_
  refine ct_fs (pc2 := 65) (fs2 := [.ref qd, .ref qc, .ref qw, .ref qp, .int (nI 5), .int (nI 500), .int (nI 1), .int 0]) (as2 := (List.append (List.append (List.append wD wC) wW) wP)) (k2 := 61) (s2 := 157021) (by decide +kernel) rfl rfl (by decide +kernel) (by decide +kernel) ?_
  refine ct_int X (n := nI 1) (fun _ _ _ _ k => lv_iconst (v := nI 1) X.1 X.2.1 dX4_init_66 (by decide) k) dX4_init_65 dX4_init_67 (by decide) rfl rfl rfl rfl (Nat.le_of_ble_eq_true rfl) ?_
  refine ct_fs (pc2 := 70) (fs2 := [.ref qd, .ref qc, .ref qw, .ref qp, .int (nI 5), .int (nI 500), .int (nI 1), .int (nI 1)]) (as2 := (List.append (List.append (List.append wD wC) wW) wP)) (k2 := 61) (s2 := 157021) (by decide +kernel) rfl rfl (by decide +kernel) (by decide +kernel) ?_
  exact fun H locs ls hP hD hS hl => hr 70 _ _ _ _ H locs ls (by decide +kernel) (by decide +kernel) dX4_init_70 ⟨qd, qc, qw, qp, wD, wC, wW, wP, hwD, hwC, hwW, hwP, rfl⟩ hP hD hS
