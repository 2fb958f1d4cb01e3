/-! turns and fits -/
def dz_abs (x : Int32) : Int32 := if 0 ≤ x then x else 0 - x
def dz_lT (h w : Int32) : Int32 := if h = 0 ∨ w = 0 then nI 0 else dz_find (fun r => decide (dz_tu h (nI r) = w)) 16
def dz_tO (f : Nat → Nat → Int32) (tol : Int32) (k q : Nat) : Int32 := if f k 2 + f q 2 + tol < dz_abs (f k 0 - f q 1) ∨ ¬ (f k 4 = 0 ∨ f q 4 = 0 ∨ f k 4 = f q 4) then -1 else dz_lT (f k 5) (f q 6)
theorem dz_nin {x v : Int32} {n : Nat} (hx : x = nI n) (hn : n < 2 ^ 31) (h : ¬ ∃ k, k < n ∧ v = nI k) : ¬ (0 ≤ v ∧ v < x) := fun q => h (dz_ofI hx hn q)
set_option maxRecDepth 100000 in
set_option maxHeartbeats 4000000 in
theorem c_X1_leastTurn (π : dz_Pl) (Λ : Nat → dz_Ds) (N : Nat) (h w : Int32) (I : dz_MI) (J : dz_MJ) : dz_Cl π Λ N mX1_leastTurn 1 22 [.inl h, .inl w] I J (dz_Pu (.inl (dz_lT h w)) I J) := by
  refine dz_body (own := 1) dz_mX1_leastTurn rfl (Nat.le_of_ble_eq_true rfl) (fun V hV => ?_)
  have loop : ∀ (fu i : Nat), 16 < i + fu → i ≤ 16 → (¬ (h = 0 ∨ w = 0)) → (∀ j, j < i → ¬ dz_tu h (nI j) = w) → V 12 I J [(0, .inl h), (1, .inl w), (2, .inl (nI (i)))] [] := by
    intro fu
    induction fu with
    | zero => intro i h1 h2; exact absurd h1 (by omega)
    | succ fu ih =>
      intro i h1 h2 hz hi
      refine dr_iload_n 12 hV dX1_leastTurn_12 rfl ?_
      refine dr_bipush (v := nI 16) 13 hV dX1_leastTurn_13 (by decide) ?_
      refine dn_icmp_ge (tgt := 35) 15 hV dX1_leastTurn_15 (by decide) (by omega) (by omega) (fun c15 => ?_) (fun c15 => ?_)
      · refine dr_iconst (v := (-1)) 35 hV dX1_leastTurn_35 (by decide) ?_
        exact dr_iret 36 hV dX1_leastTurn_36 rfl (by first | rfl | exact dz_bn) (dz_pue (by clear hV ih; unfold dz_lT; rw [if_neg hz, dz_find_n (fun j hj => by simpa using hi j (by omega))]))
      · refine dr_iload_n 18 hV dX1_leastTurn_18 rfl ?_
        refine dr_iload_n 19 hV dX1_leastTurn_19 rfl ?_
        refine dr_csp2 20 hV (Or.inl dz_lX1_68) dX1_leastTurn_20 (by decide) (by decide) (Nat.le_of_ble_eq_true rfl) (c_X1_turned π _ _ _ _ _ _) ?_
        refine dr_iload_n 23 hV dX1_leastTurn_23 rfl ?_
        refine dr_icmp_ne (tgt := 29) 24 hV dX1_leastTurn_24 (by decide) (fun c24 => ?_) (fun c24 => ?_)
        · refine dr_iinc1 29 hV dX1_leastTurn_29 (by decide) rfl ?_
          refine dr_goto (tgt := 12) 32 hV dX1_leastTurn_32 (by decide) ?_
          refine dr_sub hV (ls2 := [(0, .inl h), (1, .inl w), (2, .inl (nI (i + 1)))]) rfl ?_
          exact ih (i + 1) (by omega) (by omega) hz (lt_s hi c24)
        · refine dr_iload_n 27 hV dX1_leastTurn_27 rfl ?_
          exact dr_iret 28 hV dX1_leastTurn_28 rfl (by first | rfl | exact dz_bn) (dz_pue (by clear hV ih; unfold dz_lT; rw [if_neg hz, dz_find_s c15 (by simpa using c24) (fun j hj => by simpa using hi j hj)]))
  refine dr_iload_n 0 hV dX1_leastTurn_0 rfl ?_
  first | refine dr_ifb_eq (tgt := 8) 1 hV dX1_leastTurn_1 (by decide) (fun c1 => ?_) (fun c1 => ?_) | refine dr_if_eq (tgt := 8) 1 hV dX1_leastTurn_1 (by decide) (fun c1 => ?_) (fun c1 => ?_)
  · refine dr_iconst (v := nI 0) 8 hV dX1_leastTurn_8 (by decide) ?_
    exact dr_iret 9 hV dX1_leastTurn_9 rfl (by first | rfl | exact dz_bn) (dz_pue (by clear hV; unfold dz_lT; rw [if_pos (by first | exact Or.inl c1 | exact Or.inr c5)]))
  · refine dr_iload_n 4 hV dX1_leastTurn_4 rfl ?_
    first | refine dr_ifb_ne (tgt := 10) 5 hV dX1_leastTurn_5 (by decide) (fun c5 => ?_) (fun c5 => ?_) | refine dr_if_ne (tgt := 10) 5 hV dX1_leastTurn_5 (by decide) (fun c5 => ?_) (fun c5 => ?_)
    · refine dr_iconst (v := nI 0) 10 hV dX1_leastTurn_10 (by decide) ?_
      refine dr_istore_n 11 hV dX1_leastTurn_11 (by decide) ?_
      refine dr_sub hV (ls2 := [(0, .inl h), (1, .inl w), (2, .inl (nI (0)))]) rfl ?_
      exact loop 17 0 (by omega) (by omega) (fun q => q.elim c1 c5) (fun j hj => absurd hj (by omega))
    · refine dr_iconst (v := nI 0) 8 hV dX1_leastTurn_8 (by decide) ?_
      exact dr_iret 9 hV dX1_leastTurn_9 rfl (by first | rfl | exact dz_bn) (dz_pue (by clear hV; unfold dz_lT; rw [if_pos (by first | exact Or.inl c1 | exact Or.inr c5)]))
set_option maxRecDepth 100000 in
set_option maxHeartbeats 4000000 in
theorem c_X1_turnOn (π : dz_Pl) {k q n : Nat} (tol : Int32) (I : dz_MI) (J : dz_MJ) (hn : I 1 3 = nI n) (h10 : n ≤ 10) (hk : k < n) (hq : q < n) (hkq : ¬ k = q) : dz_Cl π dz_Y 62 mX1_turnOn 2 44 [.inr (.inr 1), .inl (nI k), .inl (nI q), .inl tol] I J (dz_Pu (.inl (dz_tO (fun d w => I (24 + d) w) tol k q)) I J) := by
  refine dz_body (own := 1) dz_mX1_turnOn rfl (Nat.le_of_ble_eq_true rfl) (fun V hV => ?_)
  refine dr_aload_n 0 hV dX1_turnOn_0 rfl ?_
  refine dr_iload_n 1 hV dX1_turnOn_1 rfl ?_
  refine dr_cvp1 2 hV dz_lX1_24 dX1_turnOn_2 (by decide) (by decide) ⟨by decide, _, _, rfl, by decide, rfl⟩ (Nat.le_of_ble_eq_true rfl) (c_X1_has π _ _ _) ?_
  first | refine dr_ifb_eq (tgt := 21) 5 hV dX1_turnOn_5 (by decide) (fun c5 => ?_) (fun c5 => ?_) | refine dr_if_eq (tgt := 21) 5 hV dX1_turnOn_5 (by decide) (fun c5 => ?_) (fun c5 => ?_)
  · exact absurd (dz_inI hn hk (by omega)) c5
  · refine dr_aload_n 8 hV dX1_turnOn_8 rfl ?_
    refine dr_iload_n 9 hV dX1_turnOn_9 rfl ?_
    refine dr_cvp1 10 hV dz_lX1_24 dX1_turnOn_10 (by decide) (by decide) ⟨by decide, _, _, rfl, by decide, rfl⟩ (Nat.le_of_ble_eq_true rfl) (c_X1_has π _ _ _) ?_
    first | refine dr_ifb_eq (tgt := 21) 13 hV dX1_turnOn_13 (by decide) (fun c13 => ?_) (fun c13 => ?_) | refine dr_if_eq (tgt := 21) 13 hV dX1_turnOn_13 (by decide) (fun c13 => ?_) (fun c13 => ?_)
    · exact absurd (dz_inI hn hq (by omega)) c13
    · refine dr_iload_n 16 hV dX1_turnOn_16 rfl ?_
      refine dr_iload_n 17 hV dX1_turnOn_17 rfl ?_
      refine dn_icmp_ne (tgt := 23) 18 hV dX1_turnOn_18 (by decide) (by omega) (by omega) (fun c18 => ?_) (fun c18 => ?_)
      · refine dr_aload_n 23 hV dX1_turnOn_23 rfl ?_
        refine dr_geta 24 hV dX1_turnOn_24 (by decide) (by decide) rfl rfl rfl ?_
        refine dr_iload_n 27 hV dX1_turnOn_27 rfl ?_
        refine dr_aaldi 28 hV dX1_turnOn_28 (by decide) rfl rfl (by omega) (by decide) ?_
        refine dr_astore 29 hV dX1_turnOn_29 (by decide) ?_
        refine dr_aload_n 31 hV dX1_turnOn_31 rfl ?_
        refine dr_geta 32 hV dX1_turnOn_32 (by decide) (by decide) rfl rfl rfl ?_
        refine dr_iload_n 35 hV dX1_turnOn_35 rfl ?_
        refine dr_aaldi 36 hV dX1_turnOn_36 (by decide) rfl rfl (by omega) (by decide) ?_
        refine dr_astore 37 hV dX1_turnOn_37 (by decide) ?_
        refine dr_aload 39 hV dX1_turnOn_39 rfl ?_
        refine dr_iconst (v := nI 2) 41 hV dX1_turnOn_41 (by decide) ?_
        refine dr_iald 42 hV dX1_turnOn_42 (by omega) (dz_Y_f (by omega)) rfl (by omega) (by decide) rfl ?_
        refine dr_aload 43 hV dX1_turnOn_43 rfl ?_
        refine dr_iconst (v := nI 2) 45 hV dX1_turnOn_45 (by decide) ?_
        refine dr_iald 46 hV dX1_turnOn_46 (by omega) (dz_Y_f (by omega)) rfl (by omega) (by decide) rfl ?_
        refine dr_iadd 47 hV dX1_turnOn_47 rfl ?_
        refine dr_iload_n 48 hV dX1_turnOn_48 rfl ?_
        refine dr_iadd 49 hV dX1_turnOn_49 rfl ?_
        refine dr_istore 50 hV dX1_turnOn_50 (by decide) ?_
        refine dr_aload 52 hV dX1_turnOn_52 rfl ?_
        refine dr_iconst (v := nI 0) 54 hV dX1_turnOn_54 (by decide) ?_
        refine dr_iald 55 hV dX1_turnOn_55 (by omega) (dz_Y_f (by omega)) rfl (by omega) (by decide) rfl ?_
        refine dr_aload 56 hV dX1_turnOn_56 rfl ?_
        refine dr_iconst (v := nI 1) 58 hV dX1_turnOn_58 (by decide) ?_
        refine dr_iald 59 hV dX1_turnOn_59 (by omega) (dz_Y_f (by omega)) rfl (by omega) (by decide) rfl ?_
        refine dr_isub 60 hV dX1_turnOn_60 rfl ?_
        refine dr_abs 61 hV dX1_turnOn_61 dz_j1_42 (by decide) (by decide) (Nat.le_of_ble_eq_true rfl) ?_
        refine dr_iload 64 hV dX1_turnOn_64 rfl ?_
        refine dr_icmp_gt (tgt := 83) 66 hV dX1_turnOn_66 (by decide) (fun c66 => ?_) (fun c66 => ?_)
        · refine dr_iconst (v := (-1)) 83 hV dX1_turnOn_83 (by decide) ?_
          exact dr_iret 84 hV dX1_turnOn_84 rfl (by first | rfl | exact dz_bn) (dz_pue (by clear hV; unfold dz_tO; rw [if_pos (by first | exact Or.inl c66 | exact Or.inr c80)]))
        · refine dr_aload 69 hV dX1_turnOn_69 rfl ?_
          refine dr_iconst (v := nI 4) 71 hV dX1_turnOn_71 (by decide) ?_
          refine dr_iald 72 hV dX1_turnOn_72 (by omega) (dz_Y_f (by omega)) rfl (by omega) (by decide) rfl ?_
          refine dr_aload 73 hV dX1_turnOn_73 rfl ?_
          refine dr_iconst (v := nI 4) 75 hV dX1_turnOn_75 (by decide) ?_
          refine dr_iald 76 hV dX1_turnOn_76 (by omega) (dz_Y_f (by omega)) rfl (by omega) (by decide) rfl ?_
          refine dr_csp2 77 hV (Or.inl dz_lX1_48) dX1_turnOn_77 (by decide) (by decide) (Nat.le_of_ble_eq_true rfl) (c_X1_areAlike π _ _ _ _ _ _) ?_
          first | refine dr_ifb_ne (tgt := 85) 80 hV dX1_turnOn_80 (by decide) (fun c80 => ?_) (fun c80 => ?_) | refine dr_if_ne (tgt := 85) 80 hV dX1_turnOn_80 (by decide) (fun c80 => ?_) (fun c80 => ?_)
          · refine dr_aload 85 hV dX1_turnOn_85 rfl ?_
            refine dr_iconst (v := nI 5) 87 hV dX1_turnOn_87 (by decide) ?_
            refine dr_iald 88 hV dX1_turnOn_88 (by omega) (dz_Y_f (by omega)) rfl (by omega) (by decide) rfl ?_
            refine dr_aload 89 hV dX1_turnOn_89 rfl ?_
            refine dr_bipush (v := nI 6) 91 hV dX1_turnOn_91 (by decide) ?_
            refine dr_iald 93 hV dX1_turnOn_93 (by omega) (dz_Y_f (by omega)) rfl (by omega) (by decide) rfl ?_
            refine dr_csp2 94 hV (Or.inl dz_lX1_52) dX1_turnOn_94 (by decide) (by decide) (Nat.le_of_ble_eq_true rfl) (c_X1_leastTurn π _ _ _ _ _ _) ?_
            exact dr_iret 97 hV dX1_turnOn_97 rfl (by first | rfl | exact dz_bn) (dz_pue (by clear hV; unfold dz_tO; rw [if_neg (fun h => h.elim c66 (fun h => h c80))]))
          · refine dr_iconst (v := (-1)) 83 hV dX1_turnOn_83 (by decide) ?_
            exact dr_iret 84 hV dX1_turnOn_84 rfl (by first | rfl | exact dz_bn) (dz_pue (by clear hV; unfold dz_tO; rw [if_pos (by first | exact Or.inl c66 | exact Or.inr c80)]))
      · exact absurd c18 hkq
set_option maxRecDepth 100000 in
set_option maxHeartbeats 4000000 in
theorem c_X1_turnOn_no (π : dz_Pl) {n : Nat} (u l tol : Int32) (I : dz_MI) (J : dz_MJ) (hn : I 1 3 = nI n) (h10 : n ≤ 10) (hno : ¬ ((0 ≤ u ∧ u < I 1 3) ∧ (0 ≤ l ∧ l < I 1 3) ∧ ¬ u = l)) : dz_Cl π dz_Y 62 mX1_turnOn 2 44 [.inr (.inr 1), .inl u, .inl l, .inl tol] I J (dz_Pu (.inl (-1)) I J) := by
  refine dz_body (own := 1) dz_mX1_turnOn rfl (Nat.le_of_ble_eq_true rfl) (fun V hV => ?_)
  refine dr_aload_n 0 hV dX1_turnOn_0 rfl ?_
  refine dr_iload_n 1 hV dX1_turnOn_1 rfl ?_
  refine dr_cvp1 2 hV dz_lX1_24 dX1_turnOn_2 (by decide) (by decide) ⟨by decide, _, _, rfl, by decide, rfl⟩ (Nat.le_of_ble_eq_true rfl) (c_X1_has π _ _ _) ?_
  first | refine dr_ifb_eq (tgt := 21) 5 hV dX1_turnOn_5 (by decide) (fun c5 => ?_) (fun c5 => ?_) | refine dr_if_eq (tgt := 21) 5 hV dX1_turnOn_5 (by decide) (fun c5 => ?_) (fun c5 => ?_)
  · refine dr_iconst (v := (-1)) 21 hV dX1_turnOn_21 (by decide) ?_
    exact dr_iret 22 hV dX1_turnOn_22 rfl (by first | rfl | exact dz_bn) dz_pu
  · refine dr_aload_n 8 hV dX1_turnOn_8 rfl ?_
    refine dr_iload_n 9 hV dX1_turnOn_9 rfl ?_
    refine dr_cvp1 10 hV dz_lX1_24 dX1_turnOn_10 (by decide) (by decide) ⟨by decide, _, _, rfl, by decide, rfl⟩ (Nat.le_of_ble_eq_true rfl) (c_X1_has π _ _ _) ?_
    first | refine dr_ifb_eq (tgt := 21) 13 hV dX1_turnOn_13 (by decide) (fun c13 => ?_) (fun c13 => ?_) | refine dr_if_eq (tgt := 21) 13 hV dX1_turnOn_13 (by decide) (fun c13 => ?_) (fun c13 => ?_)
    · refine dr_iconst (v := (-1)) 21 hV dX1_turnOn_21 (by decide) ?_
      exact dr_iret 22 hV dX1_turnOn_22 rfl (by first | rfl | exact dz_bn) dz_pu
    · refine dr_iload_n 16 hV dX1_turnOn_16 rfl ?_
      refine dr_iload_n 17 hV dX1_turnOn_17 rfl ?_
      refine dr_icmp_ne (tgt := 23) 18 hV dX1_turnOn_18 (by decide) (fun c18 => ?_) (fun c18 => ?_)
      · exact absurd ⟨c5, c13, c18⟩ hno
      · refine dr_iconst (v := (-1)) 21 hV dX1_turnOn_21 (by decide) ?_
        exact dr_iret 22 hV dX1_turnOn_22 rfl (by first | rfl | exact dz_bn) dz_pu
def dz_tP (f : Nat → Nat → Int32) (tol : Int32) (k q : Nat) : Int32 := if k = q then -1 else dz_tO f tol k q
theorem c_turnOn (π : dz_Pl) {k q n : Nat} (tol : Int32) (I : dz_MI) (J : dz_MJ) (hn : I 1 3 = nI n) (h10 : n ≤ 10) (hk : k < n) (hq : q < n) : dz_Cl π dz_Y 62 mX1_turnOn 2 44 [.inr (.inr 1), .inl (nI k), .inl (nI q), .inl tol] I J (dz_Pu (.inl (dz_tP (fun d w => I (24 + d) w) tol k q)) I J) := by
  by_cases e : k = q
  · unfold dz_tP
    rw [if_pos e]
    exact c_X1_turnOn_no π _ _ tol I J hn h10 (fun h => h.2.2 (by rw [e]))
  · unfold dz_tP
    rw [if_neg e]
    exact c_X1_turnOn π tol I J hn h10 hk hq e
theorem dz_bits_s {p : Nat → Bool} {i : Nat} (hi : i < 31) (h : p i = true) : nI (dz_bits p i) ||| nI 1 <<< (nI i &&& 31) = nI (dz_bits p (i + 1)) := by
  rw [dz_s1 hi, fa_or, dz_or_add (dz_bits_lt p i)]
  show _ = nI (dz_bits p i + if p i then 2 ^ i else 0)
  rw [if_pos h]
theorem dz_bits_n {p : Nat → Bool} {i : Nat} (h : p i = false) : dz_bits p (i + 1) = dz_bits p i := by
  show dz_bits p i + (if p i then 2 ^ i else 0) = _
  rw [h]; rfl
set_option maxRecDepth 100000 in
set_option maxHeartbeats 4000000 in
theorem c_X1_lyingOn (π : dz_Pl) {q n : Nat} (tol : Int32) (I : dz_MI) (J : dz_MJ) (hn : I 1 3 = nI n) (h10 : n ≤ 10) (hq : q < n) : dz_Cl π dz_Y 62 mX1_lyingOn 3 70 [.inr (.inr 1), .inl (nI q), .inl tol] I J (dz_Pu (.inl (nI (dz_bits (fun u => decide (¬ dz_tP (fun d w => I (24 + d) w) tol u q = -1)) n))) I J) := by
  refine dz_body (own := 1) dz_mX1_lyingOn rfl (Nat.le_of_ble_eq_true rfl) (fun V hV => ?_)
  have loop : ∀ (fu i : Nat), n < i + fu → i ≤ n → V 5 I J [(0, .inr (.inr 1)), (1, .inl (nI q)), (2, .inl tol), (3, .inl (nI (dz_bits (fun u => decide (¬ dz_tP (fun d w => I (24 + d) w) tol u q = -1)) (i)))), (4, .inl (nI (i)))] [] := by
    intro fu
    induction fu with
    | zero => intro i h1 h2; exact absurd h1 (by omega)
    | succ fu ih =>
      intro i h1 h2
      refine dr_iload 5 hV dX1_lyingOn_5 rfl ?_
      refine dr_aload_n 7 hV dX1_lyingOn_7 rfl ?_
      refine dr_geti 8 hV dX1_lyingOn_8 (by decide) (by decide) rfl rfl rfl hn ?_
      refine dn_icmp_ge (tgt := 39) 11 hV dX1_lyingOn_11 (by decide) (by omega) (by omega) (fun c11 => ?_) (fun c11 => ?_)
      · refine dr_iload_n 39 hV dX1_lyingOn_39 rfl ?_
        exact dr_iret 40 hV dX1_lyingOn_40 rfl (by first | rfl | exact dz_bn) (dz_pue (by rw [show i = n by omega]))
      · refine dr_aload_n 14 hV dX1_lyingOn_14 rfl ?_
        refine dr_iload 15 hV dX1_lyingOn_15 rfl ?_
        refine dr_iload_n 17 hV dX1_lyingOn_17 rfl ?_
        refine dr_iload_n 18 hV dX1_lyingOn_18 rfl ?_
        refine dr_cvp3 19 hV dz_lX1_56 dX1_lyingOn_19 (by decide) (by decide) ⟨by decide, _, _, rfl, by decide, rfl⟩ (Nat.le_of_ble_eq_true rfl) (c_turnOn π tol _ _ hn h10 (by omega) hq) ?_
        refine dr_iconst (v := (-1)) 22 hV dX1_lyingOn_22 (by decide) ?_
        refine dr_icmp_eq (tgt := 33) 23 hV dX1_lyingOn_23 (by decide) (fun c23 => ?_) (fun c23 => ?_)
        · rw [← dz_bits_n (p := (fun u => decide (¬ dz_tP (fun d w => I (24 + d) w) tol u q = -1))) (i := i) (by simp [c23])]
          refine dr_iinc1 33 hV dX1_lyingOn_33 (by decide) rfl ?_
          refine dr_goto (tgt := 5) 36 hV dX1_lyingOn_36 (by decide) ?_
          refine dr_sub hV (ls2 := [(0, .inr (.inr 1)), (1, .inl (nI q)), (2, .inl tol), (3, .inl (nI (dz_bits (fun u => decide (¬ dz_tP (fun d w => I (24 + d) w) tol u q = -1)) (i + 1)))), (4, .inl (nI (i + 1)))]) rfl ?_
          exact ih (i + 1) (by omega) (by omega)
        · refine dr_iload_n 26 hV dX1_lyingOn_26 rfl ?_
          refine dr_iconst (v := nI 1) 27 hV dX1_lyingOn_27 (by decide) ?_
          refine dr_iload 28 hV dX1_lyingOn_28 rfl ?_
          refine dr_ishl 30 hV dX1_lyingOn_30 rfl ?_
          refine dr_ior (z := nI (dz_bits (fun u => decide (¬ dz_tP (fun d w => I (24 + d) w) tol u q = -1)) (i + 1))) 31 hV dX1_lyingOn_31 (dz_bits_s (by omega) (by simp [c23])) ?_
          refine dr_istore_n 32 hV dX1_lyingOn_32 (by decide) ?_
          refine dr_iinc1 33 hV dX1_lyingOn_33 (by decide) rfl ?_
          refine dr_goto (tgt := 5) 36 hV dX1_lyingOn_36 (by decide) ?_
          refine dr_sub hV (ls2 := [(0, .inr (.inr 1)), (1, .inl (nI q)), (2, .inl tol), (3, .inl (nI (dz_bits (fun u => decide (¬ dz_tP (fun d w => I (24 + d) w) tol u q = -1)) (i + 1)))), (4, .inl (nI (i + 1)))]) rfl ?_
          exact ih (i + 1) (by omega) (by omega)
  refine dr_iconst (v := nI 0) 0 hV dX1_lyingOn_0 (by decide) ?_
  refine dr_istore_n 1 hV dX1_lyingOn_1 (by decide) ?_
  refine dr_iconst (v := nI 0) 2 hV dX1_lyingOn_2 (by decide) ?_
  refine dr_istore 3 hV dX1_lyingOn_3 (by decide) ?_
  refine dr_sub hV (ls2 := [(0, .inr (.inr 1)), (1, .inl (nI q)), (2, .inl tol), (3, .inl (nI (dz_bits (fun u => decide (¬ dz_tP (fun d w => I (24 + d) w) tol u q = -1)) (0)))), (4, .inl (nI (0)))]) rfl ?_
  exact loop (n + 1) 0 (by omega) (by omega)
def dz_u (x y : Int32) : Int32 := (x.toUInt32 >>> (y.toUInt32 &&& Int32.toUInt32 31)).toInt32
def dz_bc1 (x : Int32) : Int32 := x - (dz_u x (nI 1) &&& 1431655765)
def dz_bc2 (x : Int32) : Int32 := (x &&& 858993459) + (dz_u x (nI 2) &&& 858993459)
def dz_bc3 (x : Int32) : Int32 := (x + dz_u x (nI 4)) &&& 252645135
def dz_bc4 (x : Int32) : Int32 := x + dz_u x (nI 8)
def dz_bc5 (x : Int32) : Int32 := (x + dz_u x (nI 16)) &&& nI 63
theorem dz_uN {x k : Nat} (hx : x < 2 ^ 31) (hk : k < 32) : dz_u (nI x) (nI k) = nI (x / 2 ^ k) := pk_ushrN (by omega) (nI k) k (s_u k hk)
def dz_e1 (x : Nat) : Nat := x - (x / 2 ^ 1 &&& 1431655765)
def dz_e2 (x : Nat) : Nat := (x &&& 858993459) + (x / 2 ^ 2 &&& 858993459)
def dz_e3 (x : Nat) : Nat := (x + x / 2 ^ 4) &&& 252645135
def dz_e4 (x : Nat) : Nat := x + x / 2 ^ 8
def dz_e5 (x : Nat) : Nat := (x + x / 2 ^ 16) &&& 63
theorem dz_bcN : ∀ x, x < 1024 → dz_e5 (dz_e4 (dz_e3 (dz_e2 (dz_e1 x)))) = fa_cnt (fun i => x.testBit i) 10 := by decide +kernel
theorem dz_bcL : ∀ x, x < 1024 → dz_e1 x < 2 ^ 30 ∧ dz_e2 (dz_e1 x) < 2 ^ 30 ∧ dz_e3 (dz_e2 (dz_e1 x)) < 2 ^ 30 ∧ dz_e4 (dz_e3 (dz_e2 (dz_e1 x))) < 2 ^ 30 := by decide +kernel
theorem dz_bcnt (x : Nat) (hx : x < 1024) : dz_bc5 (dz_bc4 (dz_bc3 (dz_bc2 (dz_bc1 (nI x))))) = nI (fa_cnt (fun i => x.testBit i) 10) := by
  obtain ⟨h1, h2, h3, h4⟩ := dz_bcL x hx
  have e1 : dz_bc1 (nI x) = nI (dz_e1 x) := by
    unfold dz_bc1 dz_e1
    rw [dz_uN (by omega) (by decide), show (1431655765 : Int32) = nI 1431655765 from rfl, fa_and, pk_sub]
    exact Nat.le_trans Nat.and_le_left (Nat.div_le_self _ _)
  have e2 : dz_bc2 (nI (dz_e1 x)) = nI (dz_e2 (dz_e1 x)) := by
    unfold dz_bc2 dz_e2
    rw [dz_uN (by omega) (by decide), show (858993459 : Int32) = nI 858993459 from rfl, fa_and, fa_and, nI_add]
  have e3 : dz_bc3 (nI (dz_e2 (dz_e1 x))) = nI (dz_e3 (dz_e2 (dz_e1 x))) := by
    unfold dz_bc3 dz_e3
    rw [dz_uN (by omega) (by decide), show (252645135 : Int32) = nI 252645135 from rfl, nI_add, fa_and]
  have e4 : dz_bc4 (nI (dz_e3 (dz_e2 (dz_e1 x)))) = nI (dz_e4 (dz_e3 (dz_e2 (dz_e1 x)))) := by
    unfold dz_bc4 dz_e4
    rw [dz_uN (by omega) (by decide), nI_add]
  have e5 : dz_bc5 (nI (dz_e4 (dz_e3 (dz_e2 (dz_e1 x))))) = nI (dz_e5 (dz_e4 (dz_e3 (dz_e2 (dz_e1 x))))) := by
    unfold dz_bc5 dz_e5
    rw [dz_uN (by omega) (by decide), nI_add, fa_and]
  rw [e1, e2, e3, e4, e5, dz_bcN x hx]
set_option maxRecDepth 100000 in
set_option maxHeartbeats 4000000 in
theorem c_J6_bitCount_0f7a4 (π : dz_Pl) (Λ : Nat → dz_Ds) (N : Nat) {x : Nat} (I : dz_MI) (J : dz_MJ) (hx : x < 1024) : dz_Cl π Λ N mJ6_bitCount_0f7a4 0 0 [.inl (nI x)] I J (dz_Pu (.inl (nI (fa_cnt (fun i => x.testBit i) 10))) I J) := by
  refine dz_body (own := 6) dz_mJ6_bitCount_0f7a4 rfl (Nat.le_of_ble_eq_true rfl) (fun V hV => ?_)
  refine dr_iload_n 0 hV dJ6_bitCount_0f7a4_0 rfl ?_
  refine dr_iload_n 1 hV dJ6_bitCount_0f7a4_1 rfl ?_
  refine dr_iconst (v := nI 1) 2 hV dJ6_bitCount_0f7a4_2 (by decide) ?_
  refine dr_iushr 3 hV dJ6_bitCount_0f7a4_3 rfl ?_
  refine dr_ldc_w 4 hV dJ6_bitCount_0f7a4_4 dz_kJ6_265 ?_
  refine dr_iand 7 hV dJ6_bitCount_0f7a4_7 rfl ?_
  refine dr_isub 8 hV dJ6_bitCount_0f7a4_8 rfl ?_
  refine dr_istore_n 9 hV dJ6_bitCount_0f7a4_9 (by decide) ?_
  refine dr_iload_n 10 hV dJ6_bitCount_0f7a4_10 rfl ?_
  refine dr_ldc_w 11 hV dJ6_bitCount_0f7a4_11 dz_kJ6_266 ?_
  refine dr_iand 14 hV dJ6_bitCount_0f7a4_14 rfl ?_
  refine dr_iload_n 15 hV dJ6_bitCount_0f7a4_15 rfl ?_
  refine dr_iconst (v := nI 2) 16 hV dJ6_bitCount_0f7a4_16 (by decide) ?_
  refine dr_iushr 17 hV dJ6_bitCount_0f7a4_17 rfl ?_
  refine dr_ldc_w 18 hV dJ6_bitCount_0f7a4_18 dz_kJ6_266 ?_
  refine dr_iand 21 hV dJ6_bitCount_0f7a4_21 rfl ?_
  refine dr_iadd 22 hV dJ6_bitCount_0f7a4_22 rfl ?_
  refine dr_istore_n 23 hV dJ6_bitCount_0f7a4_23 (by decide) ?_
  refine dr_iload_n 24 hV dJ6_bitCount_0f7a4_24 rfl ?_
  refine dr_iload_n 25 hV dJ6_bitCount_0f7a4_25 rfl ?_
  refine dr_iconst (v := nI 4) 26 hV dJ6_bitCount_0f7a4_26 (by decide) ?_
  refine dr_iushr 27 hV dJ6_bitCount_0f7a4_27 rfl ?_
  refine dr_iadd 28 hV dJ6_bitCount_0f7a4_28 rfl ?_
  refine dr_ldc_w 29 hV dJ6_bitCount_0f7a4_29 dz_kJ6_267 ?_
  refine dr_iand 32 hV dJ6_bitCount_0f7a4_32 rfl ?_
  refine dr_istore_n 33 hV dJ6_bitCount_0f7a4_33 (by decide) ?_
  refine dr_iload_n 34 hV dJ6_bitCount_0f7a4_34 rfl ?_
  refine dr_iload_n 35 hV dJ6_bitCount_0f7a4_35 rfl ?_
  refine dr_bipush (v := nI 8) 36 hV dJ6_bitCount_0f7a4_36 (by decide) ?_
  refine dr_iushr 38 hV dJ6_bitCount_0f7a4_38 rfl ?_
  refine dr_iadd 39 hV dJ6_bitCount_0f7a4_39 rfl ?_
  refine dr_istore_n 40 hV dJ6_bitCount_0f7a4_40 (by decide) ?_
  refine dr_iload_n 41 hV dJ6_bitCount_0f7a4_41 rfl ?_
  refine dr_iload_n 42 hV dJ6_bitCount_0f7a4_42 rfl ?_
  refine dr_bipush (v := nI 16) 43 hV dJ6_bitCount_0f7a4_43 (by decide) ?_
  refine dr_iushr 45 hV dJ6_bitCount_0f7a4_45 rfl ?_
  refine dr_iadd 46 hV dJ6_bitCount_0f7a4_46 rfl ?_
  refine dr_istore_n 47 hV dJ6_bitCount_0f7a4_47 (by decide) ?_
  refine dr_iload_n 48 hV dJ6_bitCount_0f7a4_48 rfl ?_
  refine dr_bipush (v := nI 63) 49 hV dJ6_bitCount_0f7a4_49 (by decide) ?_
  refine dr_iand 51 hV dJ6_bitCount_0f7a4_51 rfl ?_
  exact dr_iret 52 hV dJ6_bitCount_0f7a4_52 rfl (by first | rfl | exact dz_bn) (dz_pue (dz_bcnt x hx))
set_option maxRecDepth 100000 in
set_option maxHeartbeats 4000000 in
theorem c_X1_pairsLying (π : dz_Pl) {n : Nat} (tol : Int32) (I : dz_MI) (J : dz_MJ) (hn : I 1 3 = nI n) (h10 : n ≤ 10) : dz_Cl π dz_Y 62 mX1_pairsLying 4 94 [.inr (.inr 1), .inl tol] I J (dz_Pu (.inl (nI (fb_sm (fun q => fa_cnt (fun i => (dz_bits (fun u => decide (¬ dz_tP (fun d w => I (24 + d) w) tol u q = -1)) n).testBit i) 10) n))) I J) := by
  refine dz_body (own := 1) dz_mX1_pairsLying rfl (Nat.le_of_ble_eq_true rfl) (fun V hV => ?_)
  have loop : ∀ (fu i : Nat), n < i + fu → i ≤ n → V 4 I J [(0, .inr (.inr 1)), (1, .inl tol), (2, .inl (nI (fb_sm (fun q => fa_cnt (fun i => (dz_bits (fun u => decide (¬ dz_tP (fun d w => I (24 + d) w) tol u q = -1)) n).testBit i) 10) (i)))), (3, .inl (nI (i)))] [] := by
    intro fu
    induction fu with
    | zero => intro i h1 h2; exact absurd h1 (by omega)
    | succ fu ih =>
      intro i h1 h2
      refine dr_iload_n 4 hV dX1_pairsLying_4 rfl ?_
      refine dr_aload_n 5 hV dX1_pairsLying_5 rfl ?_
      refine dr_geti 6 hV dX1_pairsLying_6 (by decide) (by decide) rfl rfl rfl hn ?_
      refine dn_icmp_ge (tgt := 30) 9 hV dX1_pairsLying_9 (by decide) (by omega) (by omega) (fun c9 => ?_) (fun c9 => ?_)
      · refine dr_iload_n 30 hV dX1_pairsLying_30 rfl ?_
        exact dr_iret 31 hV dX1_pairsLying_31 rfl (by first | rfl | exact dz_bn) (dz_pue (by rw [show i = n by omega]))
      · refine dr_iload_n 12 hV dX1_pairsLying_12 rfl ?_
        refine dr_aload_n 13 hV dX1_pairsLying_13 rfl ?_
        refine dr_iload_n 14 hV dX1_pairsLying_14 rfl ?_
        refine dr_iload_n 15 hV dX1_pairsLying_15 rfl ?_
        refine dr_cvp2 16 hV dz_lX1_60 dX1_pairsLying_16 (by decide) (by decide) ⟨by decide, _, _, rfl, by decide, rfl⟩ (Nat.le_of_ble_eq_true rfl) (c_X1_lyingOn π tol _ _ hn h10 (by omega)) ?_
        refine dr_csp1 19 hV (Or.inl dz_lX1_63) dX1_pairsLying_19 (by decide) (by decide) (Nat.le_of_ble_eq_true rfl) (c_J6_bitCount_0f7a4 π _ _ _ _ (Nat.lt_of_lt_of_le (dz_bits_lt _ n) (Nat.pow_le_pow_right (by decide) h10))) ?_
        refine dr_iadd (z := nI (fb_sm (fun q => fa_cnt (fun i => (dz_bits (fun u => decide (¬ dz_tP (fun d w => I (24 + d) w) tol u q = -1)) n).testBit i) 10) (i + 1))) 22 hV dX1_pairsLying_22 (nI_add _ _) ?_
        refine dr_istore_n 23 hV dX1_pairsLying_23 (by decide) ?_
        refine dr_iinc1 24 hV dX1_pairsLying_24 (by decide) rfl ?_
        refine dr_goto (tgt := 4) 27 hV dX1_pairsLying_27 (by decide) ?_
        refine dr_sub hV (ls2 := [(0, .inr (.inr 1)), (1, .inl tol), (2, .inl (nI (fb_sm (fun q => fa_cnt (fun i => (dz_bits (fun u => decide (¬ dz_tP (fun d w => I (24 + d) w) tol u q = -1)) n).testBit i) 10) (i + 1)))), (3, .inl (nI (i + 1)))]) rfl ?_
        exact ih (i + 1) (by omega) (by omega)
  refine dr_iconst (v := nI 0) 0 hV dX1_pairsLying_0 (by decide) ?_
  refine dr_istore_n 1 hV dX1_pairsLying_1 (by decide) ?_
  refine dr_iconst (v := nI 0) 2 hV dX1_pairsLying_2 (by decide) ?_
  refine dr_istore_n 3 hV dX1_pairsLying_3 (by decide) ?_
  refine dr_sub hV (ls2 := [(0, .inr (.inr 1)), (1, .inl tol), (2, .inl (nI (fb_sm (fun q => fa_cnt (fun i => (dz_bits (fun u => decide (¬ dz_tP (fun d w => I (24 + d) w) tol u q = -1)) n).testBit i) 10) (0)))), (3, .inl (nI (0)))]) rfl ?_
  exact loop (n + 1) 0 (by omega) (by omega)
def dz_mean (f : Nat → Int32) (n : Nat) : Int32 := if n = 0 then nI 0 else dz_sumI f n / nI n
set_option maxRecDepth 100000 in
set_option maxHeartbeats 4000000 in
theorem c_X1_meanHeight (π : dz_Pl) {n : Nat} (I : dz_MI) (J : dz_MJ) (hn : I 1 3 = nI n) (h10 : n ≤ 10) : dz_Cl π dz_Y 62 mX1_meanHeight 0 0 [.inr (.inr 1)] I J (dz_Pu (.inl (dz_mean (fun d => I (24 + d) 3) n)) I J) := by
  refine dz_body (own := 1) dz_mX1_meanHeight rfl (Nat.le_of_ble_eq_true rfl) (fun V hV => ?_)
  have loop : ∀ (fu i : Nat), n < i + fu → i ≤ n → V 4 I J [(0, .inr (.inr 1)), (1, .inl (dz_sumI (fun d => I (24 + d) 3) (i))), (2, .inl (nI (i)))] [] := by
    intro fu
    induction fu with
    | zero => intro i h1 h2; exact absurd h1 (by omega)
    | succ fu ih =>
      intro i h1 h2
      refine dr_iload_n 4 hV dX1_meanHeight_4 rfl ?_
      refine dr_aload_n 5 hV dX1_meanHeight_5 rfl ?_
      refine dr_geti 6 hV dX1_meanHeight_6 (by decide) (by decide) rfl rfl rfl hn ?_
      refine dn_icmp_ge (tgt := 29) 9 hV dX1_meanHeight_9 (by decide) (by omega) (by omega) (fun c9 => ?_) (fun c9 => ?_)
      · refine dr_aload_n 29 hV dX1_meanHeight_29 rfl ?_
        refine dr_geti 30 hV dX1_meanHeight_30 (by decide) (by decide) rfl rfl rfl hn ?_
        refine dr_if_ne (tgt := 40) 33 hV dX1_meanHeight_33 (by decide) (fun c33 => ?_) (fun c33 => ?_)
        · refine dr_iload_n 40 hV dX1_meanHeight_40 rfl ?_
          refine dr_aload_n 41 hV dX1_meanHeight_41 rfl ?_
          refine dr_geti 42 hV dX1_meanHeight_42 (by decide) (by decide) rfl rfl rfl hn ?_
          refine dr_idiv 45 hV dX1_meanHeight_45 (by rw [← nI_0, nI_eq (by omega) (by decide)] at c33 ⊢; exact c33) rfl ?_
          exact dr_iret 46 hV dX1_meanHeight_46 rfl (by first | rfl | exact dz_bn) (dz_pue (by clear hV ih; have hin : i = n := (by omega); subst hin; unfold dz_mean; rw [← nI_0, nI_eq (by omega) (by decide)] at c33; simp [c33]))
        · refine dr_iconst (v := nI 0) 36 hV dX1_meanHeight_36 (by decide) ?_
          refine dr_goto (tgt := 46) 37 hV dX1_meanHeight_37 (by decide) ?_
          exact dr_iret 46 hV dX1_meanHeight_46 rfl (by first | rfl | exact dz_bn) (dz_pue (by clear hV ih; have hin : i = n := (by omega); subst hin; unfold dz_mean; rw [← nI_0, nI_eq (by omega) (by decide)] at c33; simp [c33]))
      · refine dr_iload_n 12 hV dX1_meanHeight_12 rfl ?_
        refine dr_aload_n 13 hV dX1_meanHeight_13 rfl ?_
        refine dr_geta 14 hV dX1_meanHeight_14 (by decide) (by decide) rfl rfl rfl ?_
        refine dr_iload_n 17 hV dX1_meanHeight_17 rfl ?_
        refine dr_aaldi 18 hV dX1_meanHeight_18 (by decide) rfl rfl (by omega) (by decide) ?_
        refine dr_iconst (v := nI 3) 19 hV dX1_meanHeight_19 (by decide) ?_
        refine dr_iald 20 hV dX1_meanHeight_20 (by omega) (dz_Y_f (by omega)) rfl (by omega) (by decide) rfl ?_
        refine dr_iadd (z := dz_sumI (fun d => I (24 + d) 3) (i + 1)) 21 hV dX1_meanHeight_21 rfl ?_
        refine dr_istore_n 22 hV dX1_meanHeight_22 (by decide) ?_
        refine dr_iinc1 23 hV dX1_meanHeight_23 (by decide) rfl ?_
        refine dr_goto (tgt := 4) 26 hV dX1_meanHeight_26 (by decide) ?_
        refine dr_sub hV (ls2 := [(0, .inr (.inr 1)), (1, .inl (dz_sumI (fun d => I (24 + d) 3) (i + 1))), (2, .inl (nI (i + 1)))]) rfl ?_
        exact ih (i + 1) (by omega) (by omega)
  refine dr_iconst (v := nI 0) 0 hV dX1_meanHeight_0 (by decide) ?_
  refine dr_istore_n 1 hV dX1_meanHeight_1 (by decide) ?_
  refine dr_iconst (v := nI 0) 2 hV dX1_meanHeight_2 (by decide) ?_
  refine dr_istore_n 3 hV dX1_meanHeight_3 (by decide) ?_
  refine dr_sub hV (ls2 := [(0, .inr (.inr 1)), (1, .inl (dz_sumI (fun d => I (24 + d) 3) (0))), (2, .inl (nI (0)))]) rfl ?_
  exact loop (n + 1) 0 (by omega) (by omega)
set_option maxRecDepth 100000 in
set_option maxHeartbeats 4000000 in
theorem c_X3_toldNumber (π : dz_Pl) (I : dz_MI) (J : dz_MJ) : dz_Cl π dz_Y 62 mX3_toldNumber 0 0 [.inr (.inr 3)] I J (dz_Pu (.inl (nI (fa_cnt (fun p => decide (¬ I 13 p = -1)) 8))) I J) := by
  refine dz_body (own := 3) dz_mX3_toldNumber rfl (Nat.le_of_ble_eq_true rfl) (fun V hV => ?_)
  have loop : ∀ (fu i : Nat), 8 < i + fu → i ≤ 8 → V 4 I J [(0, .inr (.inr 3)), (1, .inl (nI (fa_cnt (fun p => decide (¬ I 13 p = -1)) (i)))), (2, .inl (nI (i)))] [] := by
    intro fu
    induction fu with
    | zero => intro i h1 h2; exact absurd h1 (by omega)
    | succ fu ih =>
      intro i h1 h2
      refine dr_iload_n 4 hV dX3_toldNumber_4 rfl ?_
      refine dr_bipush (v := nI 8) 5 hV dX3_toldNumber_5 (by decide) ?_
      refine dn_icmp_ge (tgt := 29) 7 hV dX3_toldNumber_7 (by decide) (by omega) (by omega) (fun c7 => ?_) (fun c7 => ?_)
      · refine dr_iload_n 29 hV dX3_toldNumber_29 rfl ?_
        exact dr_iret 30 hV dX3_toldNumber_30 rfl (by first | rfl | exact dz_bn) (dz_pue (by rw [show i = 8 by omega]))
      · refine dr_aload_n 10 hV dX3_toldNumber_10 rfl ?_
        refine dr_geta 11 hV dX3_toldNumber_11 (by decide) (by decide) rfl rfl rfl ?_
        refine dr_iload_n 14 hV dX3_toldNumber_14 rfl ?_
        refine dr_iald 15 hV dX3_toldNumber_15 (by decide) rfl rfl (by omega) (by decide) rfl ?_
        refine dr_iconst (v := (-1)) 16 hV dX3_toldNumber_16 (by decide) ?_
        refine dr_icmp_eq (tgt := 23) 17 hV dX3_toldNumber_17 (by decide) (fun c17 => ?_) (fun c17 => ?_)
        · rw [← fa_cnt_no (p := (fun p => decide (¬ I 13 p = -1))) (n := i) (by simp [c17])]
          refine dr_iinc1 23 hV dX3_toldNumber_23 (by decide) rfl ?_
          refine dr_goto (tgt := 4) 26 hV dX3_toldNumber_26 (by decide) ?_
          refine dr_sub hV (ls2 := [(0, .inr (.inr 3)), (1, .inl (nI (fa_cnt (fun p => decide (¬ I 13 p = -1)) (i + 1)))), (2, .inl (nI (i + 1)))]) rfl ?_
          exact ih (i + 1) (by omega) (by omega)
        · have ec := fa_cnt_yes (p := (fun p => decide (¬ I 13 p = -1))) (n := i) (by simp [c17])
          refine dr_iinc 20 hV dX3_toldNumber_20 (by decide) rfl (v2 := nI (fa_cnt (fun p => decide (¬ I 13 p = -1)) (i + 1))) (by rw [ec]; exact dr_inc1 _) ?_
          refine dr_iinc1 23 hV dX3_toldNumber_23 (by decide) rfl ?_
          refine dr_goto (tgt := 4) 26 hV dX3_toldNumber_26 (by decide) ?_
          refine dr_sub hV (ls2 := [(0, .inr (.inr 3)), (1, .inl (nI (fa_cnt (fun p => decide (¬ I 13 p = -1)) (i + 1)))), (2, .inl (nI (i + 1)))]) rfl ?_
          exact ih (i + 1) (by omega) (by omega)
  refine dr_iconst (v := nI 0) 0 hV dX3_toldNumber_0 (by decide) ?_
  refine dr_istore_n 1 hV dX3_toldNumber_1 (by decide) ?_
  refine dr_iconst (v := nI 0) 2 hV dX3_toldNumber_2 (by decide) ?_
  refine dr_istore_n 3 hV dX3_toldNumber_3 (by decide) ?_
  refine dr_sub hV (ls2 := [(0, .inr (.inr 3)), (1, .inl (nI (fa_cnt (fun p => decide (¬ I 13 p = -1)) (0)))), (2, .inl (nI (0)))]) rfl ?_
  exact loop 9 0 (by omega) (by omega)
