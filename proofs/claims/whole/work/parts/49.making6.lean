/-! MAKING (6): what was made, over the layer; the first value -/
theorem wl_of {l : Launch} {D : va_G} {cy : Nat → ClassId} {ws : va_W} {H : Heap} {A : Nat → Prop} {σ ad : Nat → Nat} {Λ : Nat → dz_Ds} {N : Nat} {I : dz_MI} {J : dz_MJ} (h : ∀ c, c < N → ws[σ c]? = some (ad c, dz_cel cy ad (Λ c) (I c) (J c))) (hσ : ∀ i j, i < N → j < N → σ i = σ j → i = j) (hP : va_P D vwCl ws H) (hD : va_D A ws) : dz_inj ad N ∧ (∀ c, c < N → A (ad c)) ∧ va_P D vwCl (dz_wl (l, D, cy, ad) Λ N I J) H := by
  refine ⟨fun i j hi hj e => hσ i j hi hj (hD.1 _ _ _ _ (h i hi) (h j hj) e), fun c hc => hD.2 _ _ (h c hc), fun k q hk => ?_⟩
  obtain ⟨h1, rfl⟩ := dz_wl_at hk
  exact hP _ _ (h k h1)
def IM0 : dz_MI := fun c k => if c = 0 then (if k = 4 then nI 5 else if k = 5 then nI 500 else if k = 6 then nI 1 else 0) else 0
def J0 : dz_MJ := fun _ _ => 0
def IY0 : dz_MI := fun c k => if c = 0 then (if k = 4 then nI 5 else if k = 5 then nI 500 else if k = 6 then nI 1 else if k = 7 then nI 1 else 0) else if c = 4 then (if k = 10 then -1 else 0) else if c = 13 then (if k < 8 then -1 else 0) else 0
def ml_ad (L : List Nat) : Nat → Nat := fun c => (L[c]?).getD 0
set_option maxRecDepth 100000 in
set_option maxHeartbeats 4000000 in
theorem ml_lay {l : Launch} {D : va_G} {cy : Nat → ClassId} {h0 : Nat} {ws : va_W} {H : Heap} {A : Nat → Prop} (hs : sh_X5 cy h0 ws) (hP : va_P D vwCl ws H) (hD : va_D A ws) : ∃ ad : Nat → Nat, ad 0 = h0 ∧ dz_inj ad 24 ∧ (∀ c, c < 24 → A (ad c) ∧ ∃ x ∈ ws, x.1 = ad c) ∧ va_P D vwCl (dz_wl (l, D, cy, ad) dz_M 24 IM0 J0) H := by
  obtain ⟨q1, q2, q3, q4, q5, q6, q7, q8, q9, q10, q11, q12, q13, q14, q15, q16, q17, q18, q19, q20, q21, q22, q23, rfl⟩ := hs
  have key : ∀ c, c < 24 → (((h0, .inr (5, [.int 0, .int 0, .int 0, .int 0, .int (nI 5), .int (nI 500), .int (nI 1), .int 0, .ref q1, .ref q2, .ref q3, .ref q4, .ref q5, .ref q6, .ref q7, .ref q8, .ref q9, .ref q10, .ref q11, .ref q12, .ref q13, .ref q14, .ref q15, .ref q16, .ref q17, .ref q18, .ref q19, .ref q20, .ref q21, .ref q22, .ref q23])) :: (ca_I cy q1 4 :: (ca_I cy q2 10 :: (ca_I cy q3 10 :: (ca_I cy q4 10 :: (ca_I cy q5 10 :: (ca_I cy q6 10 :: (ca_I cy q7 10 :: (ca_I cy q8 10 :: (ca_I cy q9 10 :: (ca_I cy q10 10 :: (ca_I cy q11 4 :: (ca_I cy q12 4 :: (ca_I cy q13 4 :: (ca_I cy q14 4 :: (ca_I cy q15 8 :: (ca_I cy q16 8 :: (ca_Z cy q17 80 :: (ca_I cy q18 101376 :: (ca_L cy q19 101376 :: (ca_L cy q20 101376 :: (ca_L cy q21 88 :: (ca_I cy q22 8 :: (ca_I cy q23 4 :: ([] : va_W)))))))))))))))))))))))) : va_W))[c]? = some (ml_ad [h0, q1, q2, q3, q4, q5, q6, q7, q8, q9, q10, q11, q12, q13, q14, q15, q16, q17, q18, q19, q20, q21, q22, q23] c, dz_cel cy (ml_ad [h0, q1, q2, q3, q4, q5, q6, q7, q8, q9, q10, q11, q12, q13, q14, q15, q16, q17, q18, q19, q20, q21, q22, q23]) (dz_M c) (IM0 c) (J0 c)) := fun c hc => by
    by_cases z0 : c = 0
    · subst z0
      show some (h0, (Sum.inr (5, _) : va_E)) = some (h0, Sum.inr (5, List.mapIdx _ _))
      simp only [List.mapIdx_cons, List.mapIdx_nil]
      rfl
    rcases (show c = 1 ∨ c = 2 ∨ c = 3 ∨ c = 4 ∨ c = 5 ∨ c = 6 ∨ c = 7 ∨ c = 8 ∨ c = 9 ∨ c = 10 ∨ c = 11 ∨ c = 12 ∨ c = 13 ∨ c = 14 ∨ c = 15 ∨ c = 16 ∨ c = 17 ∨ c = 18 ∨ c = 19 ∨ c = 20 ∨ c = 21 ∨ c = 22 ∨ c = 23 by omega) with rfl | rfl | rfl | rfl | rfl | rfl | rfl | rfl | rfl | rfl | rfl | rfl | rfl | rfl | rfl | rfl | rfl | rfl | rfl | rfl | rfl | rfl | rfl <;> rfl
  obtain ⟨k1, k2, k3⟩ := wl_of (l := l) (σ := fun c => c) key (fun i j _ _ e => e) hP hD
  exact ⟨_, rfl, k1, fun c hc => ⟨k2 c hc, _, List.mem_of_getElem? (key c hc), rfl⟩, k3⟩
def yd_ad (L : List Nat) (r1 r2 r3 r4 : Nat → Nat) : Nat → Nat := fun c => if c < 24 then (L[c]?).getD 0 else if c < 34 then r1 (c - 24) else if c < 43 then r2 (c - 34) else if c < 52 then r3 (c - 43) else r4 (c - 52)
theorem yd_ad_1 {L : List Nat} {r1 r2 r3 r4 : Nat → Nat} {i : Nat} (h : i < 10) : yd_ad L r1 r2 r3 r4 (24 + i) = r1 i := by
  unfold yd_ad; rw [if_neg (by omega), if_pos (by omega), show 24 + i - 24 = i by omega]
theorem yd_ad_2 {L : List Nat} {r1 r2 r3 r4 : Nat → Nat} {i : Nat} (h : i < 9) : yd_ad L r1 r2 r3 r4 (34 + i) = r2 i := by
  unfold yd_ad; rw [if_neg (by omega), if_neg (by omega), if_pos (by omega), show 34 + i - 34 = i by omega]
theorem yd_ad_3 {L : List Nat} {r1 r2 r3 r4 : Nat → Nat} {i : Nat} (h : i < 9) : yd_ad L r1 r2 r3 r4 (43 + i) = r3 i := by
  unfold yd_ad; rw [if_neg (by omega), if_neg (by omega), if_neg (by omega), if_pos (by omega), show 43 + i - 43 = i by omega]
theorem yd_ad_4 {L : List Nat} {r1 r2 r3 r4 : Nat → Nat} {i : Nat} (h : i < 10) : yd_ad L r1 r2 r3 r4 (52 + i) = r4 i := by
  unfold yd_ad; rw [if_neg (by omega), if_neg (by omega), if_neg (by omega), if_neg (by omega), show 52 + i - 52 = i by omega]
theorem yd_o {n : Nat} {f g : Nat → Nat} (h : ∀ i, i < n → f i = g i) : (fun i => if i < n then some (f i) else none) = (fun i => if i < n then some (g i) else none) := by
  funext i
  by_cases z : i < n
  · rw [if_pos z, if_pos z, h i z]
  · rw [if_neg z, if_neg z]
def yd_sg (c : Nat) : Nat := (([0, 1, 14, 21, 24, 2, 13, 15, 16, 17, 18, 19, 20, 22, 23, 25, 26, 27, 28, 29, 30, 40, 50, 51, 3, 4, 5, 6, 7, 8, 9, 10, 11, 12, 31, 32, 33, 34, 35, 36, 37, 38, 39, 41, 42, 43, 44, 45, 46, 47, 48, 49, 52, 53, 54, 55, 56, 57, 58, 59, 60, 61] : List Nat)[c]?).getD 0
theorem yd_sg_inj : ∀ i, i < 62 → ∀ j, j < 62 → yd_sg i = yd_sg j → i = j := by decide +kernel
set_option maxRecDepth 100000 in
set_option maxHeartbeats 4000000 in
theorem yd_lay {l : Launch} {D : va_G} {cy : Nat → ClassId} {h0 : Nat} {ws : va_W} {H : Heap} {A : Nat → Prop} (hs : sh_X4 cy h0 ws) (hP : va_P D vwCl ws H) (hD : va_D A ws) : ∃ ad : Nat → Nat, ad 0 = h0 ∧ dz_inj ad 62 ∧ (∀ c, c < 62 → A (ad c) ∧ ∃ x ∈ ws, x.1 = ad c) ∧ va_P D vwCl (dz_wl (l, D, cy, ad) dz_Y 62 IY0 J0) H := by
  obtain ⟨qd, qc, qw, qp, wD, wC, wW, wP, ⟨dq1, dr1, dq3, rfl⟩, ⟨cq1, cq2, cq3, cq4, cq5, cq6, rfl⟩, ⟨wq1, wq2, rfl⟩, ⟨pq1, pq2, pq3, pq4, pq5, pq6, pr6, pq8, pr8, pq10, pq11, pr11, rfl⟩, rfl⟩ := hs
  have e1 := yd_o (n := 10) (f := fun i => (yd_ad [h0, qd, qc, qw, qp, dq1, dq3, cq1, cq2, cq3, cq4, cq5, cq6, wq1, wq2, pq1, pq2, pq3, pq4, pq5, pq6, pq8, pq10, pq11] dr1 pr6 pr8 pr11) (24 + i)) (g := dr1) (fun i hi => yd_ad_1 hi)
  have e2 := yd_o (n := 9) (f := fun i => (yd_ad [h0, qd, qc, qw, qp, dq1, dq3, cq1, cq2, cq3, cq4, cq5, cq6, wq1, wq2, pq1, pq2, pq3, pq4, pq5, pq6, pq8, pq10, pq11] dr1 pr6 pr8 pr11) (34 + i)) (g := pr6) (fun i hi => yd_ad_2 hi)
  have e3 := yd_o (n := 9) (f := fun i => (yd_ad [h0, qd, qc, qw, qp, dq1, dq3, cq1, cq2, cq3, cq4, cq5, cq6, wq1, wq2, pq1, pq2, pq3, pq4, pq5, pq6, pq8, pq10, pq11] dr1 pr6 pr8 pr11) (43 + i)) (g := pr8) (fun i hi => yd_ad_3 hi)
  have e4 := yd_o (n := 10) (f := fun i => (yd_ad [h0, qd, qc, qw, qp, dq1, dq3, cq1, cq2, cq3, cq4, cq5, cq6, wq1, wq2, pq1, pq2, pq3, pq4, pq5, pq6, pq8, pq10, pq11] dr1 pr6 pr8 pr11) (52 + i)) (g := pr11) (fun i hi => yd_ad_4 hi)
  have key : ∀ c, c < 62 → (((h0, .inr (4, [.ref qd, .ref qc, .ref qw, .ref qp, .int (nI 5), .int (nI 500), .int (nI 1), .int (nI 1)])) :: List.append (List.append (List.append ((qd, .inr (1, [.ref dq1, .ref dq3, .int 0, .int 0])) :: (co_I cy dq1 10 dr1 :: List.append (cr_I cy dr1 10 9) (ca_I cy dq3 9 :: ([] : va_W)))) ((qc, .inr (0, [.ref cq1, .ref cq2, .ref cq3, .ref cq4, .ref cq5, .ref cq6, .int 0, .int 0])) :: (ca_I cy cq1 4 :: (ca_I cy cq2 4 :: (ca_I cy cq3 4 :: (ca_I cy cq4 4 :: (ca_I cy cq5 8 :: (ca_I cy cq6 4 :: ([] : va_W))))))))) [(qw, .inr (3, [.ref wq1, .ref wq2])), (wq1, .inl (cy 0, (8, .inl (fun k => if k < 8 then -1 else 0)))), ca_I cy wq2 8]) ((qp, .inr (2, [.ref pq1, .ref pq2, .ref pq3, .ref pq4, .ref pq5, .ref pq6, .ref pq8, .ref pq10, .ref pq11, .int 0, .int (-1), .long 0])) :: (ca_I cy pq1 8 :: (ca_Z cy pq2 8 :: (ca_I cy pq3 11 :: (ca_I cy pq4 8 :: (ca_I cy pq5 8 :: (co_L cy pq6 9 pr6 :: List.append (cr_L cy pr6 9 11264) (co_I cy pq8 9 pr8 :: List.append (cr_I cy pr8 9 6144) (ca_I cy pq10 9 :: (co_I cy pq11 10 pr11 :: List.append (cr_I cy pr11 10 9) ([] : va_W))))))))))) : va_W))[yd_sg c]? = some ((yd_ad [h0, qd, qc, qw, qp, dq1, dq3, cq1, cq2, cq3, cq4, cq5, cq6, wq1, wq2, pq1, pq2, pq3, pq4, pq5, pq6, pq8, pq10, pq11] dr1 pr6 pr8 pr11) c, dz_cel cy (yd_ad [h0, qd, qc, qw, qp, dq1, dq3, cq1, cq2, cq3, cq4, cq5, cq6, wq1, wq2, pq1, pq2, pq3, pq4, pq5, pq6, pq8, pq10, pq11] dr1 pr6 pr8 pr11) (dz_Y c) (IY0 c) (J0 c)) := fun c hc => by
    by_cases z5 : c = 5
    · subst z5
      show some (_, (Sum.inl (cy 3, (10, .inr (.inr (.inr (.inr (fun i => if i < 10 then some (dr1 i) else none)))))) : va_E)) = some (_, Sum.inl (cy 3, (10, .inr (.inr (.inr (.inr (fun i => if i < 10 then some ((yd_ad [h0, qd, qc, qw, qp, dq1, dq3, cq1, cq2, cq3, cq4, cq5, cq6, wq1, wq2, pq1, pq2, pq3, pq4, pq5, pq6, pq8, pq10, pq11] dr1 pr6 pr8 pr11) (24 + i)) else none)))))))
      rw [e1]; rfl
    by_cases z20 : c = 20
    · subst z20
      show some (_, (Sum.inl (cy 4, (9, .inr (.inr (.inr (.inr (fun i => if i < 9 then some (pr6 i) else none)))))) : va_E)) = some (_, Sum.inl (cy 4, (9, .inr (.inr (.inr (.inr (fun i => if i < 9 then some ((yd_ad [h0, qd, qc, qw, qp, dq1, dq3, cq1, cq2, cq3, cq4, cq5, cq6, wq1, wq2, pq1, pq2, pq3, pq4, pq5, pq6, pq8, pq10, pq11] dr1 pr6 pr8 pr11) (34 + i)) else none)))))))
      rw [e2]; rfl
    by_cases z21 : c = 21
    · subst z21
      show some (_, (Sum.inl (cy 3, (9, .inr (.inr (.inr (.inr (fun i => if i < 9 then some (pr8 i) else none)))))) : va_E)) = some (_, Sum.inl (cy 3, (9, .inr (.inr (.inr (.inr (fun i => if i < 9 then some ((yd_ad [h0, qd, qc, qw, qp, dq1, dq3, cq1, cq2, cq3, cq4, cq5, cq6, wq1, wq2, pq1, pq2, pq3, pq4, pq5, pq6, pq8, pq10, pq11] dr1 pr6 pr8 pr11) (43 + i)) else none)))))))
      rw [e3]; rfl
    by_cases z23 : c = 23
    · subst z23
      show some (_, (Sum.inl (cy 3, (10, .inr (.inr (.inr (.inr (fun i => if i < 10 then some (pr11 i) else none)))))) : va_E)) = some (_, Sum.inl (cy 3, (10, .inr (.inr (.inr (.inr (fun i => if i < 10 then some ((yd_ad [h0, qd, qc, qw, qp, dq1, dq3, cq1, cq2, cq3, cq4, cq5, cq6, wq1, wq2, pq1, pq2, pq3, pq4, pq5, pq6, pq8, pq10, pq11] dr1 pr6 pr8 pr11) (52 + i)) else none)))))))
      rw [e4]; rfl
    by_cases z0 : c = 0
    · subst z0
      show some (_, (Sum.inr (4, _) : va_E)) = some (_, Sum.inr (4, List.mapIdx _ _))
      simp only [List.mapIdx_cons, List.mapIdx_nil]
      rfl
    by_cases z1 : c = 1
    · subst z1
      show some (_, (Sum.inr (1, _) : va_E)) = some (_, Sum.inr (1, List.mapIdx _ _))
      simp only [List.mapIdx_cons, List.mapIdx_nil]
      rfl
    by_cases z2 : c = 2
    · subst z2
      show some (_, (Sum.inr (0, _) : va_E)) = some (_, Sum.inr (0, List.mapIdx _ _))
      simp only [List.mapIdx_cons, List.mapIdx_nil]
      rfl
    by_cases z3 : c = 3
    · subst z3
      show some (_, (Sum.inr (3, _) : va_E)) = some (_, Sum.inr (3, List.mapIdx _ _))
      simp only [List.mapIdx_cons, List.mapIdx_nil]
      rfl
    by_cases z4 : c = 4
    · subst z4
      show some (_, (Sum.inr (2, _) : va_E)) = some (_, Sum.inr (2, List.mapIdx _ _))
      simp only [List.mapIdx_cons, List.mapIdx_nil]
      rfl
    rcases (show c = 6 ∨ c = 7 ∨ c = 8 ∨ c = 9 ∨ c = 10 ∨ c = 11 ∨ c = 12 ∨ c = 13 ∨ c = 14 ∨ c = 15 ∨ c = 16 ∨ c = 17 ∨ c = 18 ∨ c = 19 ∨ c = 22 ∨ c = 24 ∨ c = 25 ∨ c = 26 ∨ c = 27 ∨ c = 28 ∨ c = 29 ∨ c = 30 ∨ c = 31 ∨ c = 32 ∨ c = 33 ∨ c = 34 ∨ c = 35 ∨ c = 36 ∨ c = 37 ∨ c = 38 ∨ c = 39 ∨ c = 40 ∨ c = 41 ∨ c = 42 ∨ c = 43 ∨ c = 44 ∨ c = 45 ∨ c = 46 ∨ c = 47 ∨ c = 48 ∨ c = 49 ∨ c = 50 ∨ c = 51 ∨ c = 52 ∨ c = 53 ∨ c = 54 ∨ c = 55 ∨ c = 56 ∨ c = 57 ∨ c = 58 ∨ c = 59 ∨ c = 60 ∨ c = 61 by omega) with rfl | rfl | rfl | rfl | rfl | rfl | rfl | rfl | rfl | rfl | rfl | rfl | rfl | rfl | rfl | rfl | rfl | rfl | rfl | rfl | rfl | rfl | rfl | rfl | rfl | rfl | rfl | rfl | rfl | rfl | rfl | rfl | rfl | rfl | rfl | rfl | rfl | rfl | rfl | rfl | rfl | rfl | rfl | rfl | rfl | rfl | rfl | rfl | rfl | rfl | rfl | rfl | rfl <;> rfl
  obtain ⟨k1, k2, k3⟩ := wl_of (l := l) (σ := yd_sg) key (fun i j hi hj e => yd_sg_inj i hi j hj e) hP hD
  exact ⟨_, rfl, k1, fun c hc => ⟨k2 c hc, _, List.mem_of_getElem? (key c hc), rfl⟩, k3⟩
def sg_0 : dz_Sg := ((0, 0, 0), (fun _ => 0), (fun _ => 0), (fun _ => 0), (fun _ _ => 0), (fun _ => 0), (fun _ => 0), (fun _ => 0), (fun _ _ => false), (nI 5, nI 500, nI 1), false, (fun _ => 0))
theorem OK_0 : dz_OK sg_0 := ⟨by decide, by decide, by decide, fun k hk => absurd hk (Nat.not_lt_zero _), fun k q hk => absurd hk (Nat.not_lt_zero _), fun q hq => absurd hq (Nat.not_lt_zero _), fun d hd => absurd hd (Nat.not_lt_zero _), fun q hq => absurd hq (Nat.not_lt_zero _), ⟨1, by decide, by decide, rfl⟩, fun d hd => absurd hd (Nat.not_lt_zero _), rfl⟩
theorem RM_0 : dz_RM sg_0 IM0 := ⟨rfl, rfl, rfl, rfl, rfl, rfl, rfl, fun k _ => rfl, fun d w hd => absurd hd (Nat.not_lt_zero _), fun k hk => absurd hk (Nat.not_lt_zero _), fun q hq => absurd hq (Nat.not_lt_zero _), fun q d _ _ => rfl⟩
theorem YI_0 : YI sg_0 IY0 J0 := by
  refine ⟨⟨rfl, rfl, rfl, rfl, rfl, rfl, rfl, fun k _ => rfl, fun d w hd => absurd hd (Nat.not_lt_zero _), fun k hk => absurd hk (Nat.not_lt_zero _), fun q hq => absurd hq (Nat.not_lt_zero _), fun q hq _ => ?_, fun q _ => ⟨0, by decide, rfl, fun d _ => by rw [Nat.zero_testBit]; rfl⟩⟩, ⟨ps_0, ⟨fun f _ => rfl, fun f i _ hi => absurd hi (Nat.not_lt_zero _), fun f m hf _ => rfl⟩, fun f _ => ⟨Nat.zero_le _, fun i hi => absurd hi (Nat.not_lt_zero _)⟩, fun f m _ h => absurd rfl h, fun f _ => rfl⟩, Or.inl rfl⟩
  show (if q < 8 then (-1 : Int32) else 0) = -1
  rw [if_pos hq]
