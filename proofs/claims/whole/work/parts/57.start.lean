/-! THE LAW: from its entry to its loop -/
theorem lw_t1 {i : Nat} {w : Cond} (h : tables_1_1[i]? = some w) : w ∈ lw_tbl := List.mem_append_right _ (List.mem_append_left _ (List.mem_of_getElem? h))
theorem lw_t2 {i : Nat} {w : Cond} (h : tables_1_2[i]? = some w) : w ∈ lw_tbl := List.mem_append_right _ (List.mem_append_right _ (List.mem_append_left _ (List.mem_of_getElem? h)))
theorem lw_t3 {i : Nat} {w : Cond} (h : tables_1_3[i]? = some w) : w ∈ lw_tbl := List.mem_append_right _ (List.mem_append_right _ (List.mem_append_right _ (List.mem_append_left _ (List.mem_of_getElem? h))))
theorem lw_inst : ∀ c, c < 6 → Cond.instantiable (dz_R c) (dz_N c) ∈ dz_WS
  | 0, _ => (dz_t1 (i := 45) rfl rfl)
  | 1, _ => (dz_t1 (i := 23) rfl rfl)
  | 2, _ => (dz_t1 (i := 89) rfl rfl)
  | 3, _ => (dz_t1 (i := 76) rfl rfl)
  | 4, _ => (dz_t1 (i := 15) rfl rfl)
  | 5, _ => (dz_t3 (i := 124) rfl rfl)
  | k + 6, h => absurd h (by omega)
theorem lw_arr {args : Array Value} {s : State} {ty : FieldType} (h : (Cond.arrayClass ty).before args s = true) : ∃ c : ClassId, ArrOfT s c ty ∧ s.vm.findClass ("[" ++ ty.toString) = some c := by
  obtain ⟨c, k, comp, h1, h2, h3⟩ := Cond.arrayClass_spec (args := args) (s := s) (first := s) (o := none) (idx := []) h
  exact ⟨c, fun n z => ⟨fun k h => (by cases h), k, h2, comp, h3⟩, h1⟩
theorem lw_arr2 {args : Array Value} {s : State} {ty : FieldType} (h : (Cond.arrayOver (.array ty)).before args s = true) : ∃ c : ClassId, ArrOfT s c (.array ty) ∧ s.vm.findClass ("[" ++ (FieldType.array ty).toString) = some c := by
  obtain ⟨c, k, comp, h2, h3, h1⟩ := ao_spec h
  exact ⟨c, fun n z => ⟨fun k h => (by cases h), k, h2, comp, h3⟩, h1⟩
theorem lw_ao {args : Array Value} {s : State} {ty : FieldType} (h : (Cond.arrayOver (.array ty)).before args s = true) : va_AOA ty s := by
  have h : (Cond.arrayOver (.array ty)).holds args s none s [] = true := h
  show (Cond.arrayOver (.array ty)).holds #[] s none s [] = true
  simp only [Cond.holds, Cond.value] at h ⊢
  exact h
theorem lw_cls {args : Array Value} {s : State} (hts : ∀ w ∈ dz_WS, w.before args s = true) (h3 : (Cond.arrayOver (.array .int)).before args s = true) (h4 : (Cond.arrayOver (.array .long)).before args s = true) : ∃ (D : va_G) (cy : Nat → ClassId), va_K D vwCl (dz_tys cy) s := by
  have hk : ∀ c, ∃ (cC : ClassId) (iS : Nat → Nat), c < 6 → u_Kn s (dz_R c) (dz_T c) (dz_N c) cC iS := fun c => by
    by_cases hc : c < 6
    · obtain ⟨cC, iS, h⟩ := u_known (ws := dz_WS) (C := dz_R c) (T := dz_T c) (N := dz_N c) (n := dz_N c) hts (dz_cf c hc).1 (hts _ (lw_inst c hc))
      exact ⟨cC, iS, fun _ => h⟩
    · exact ⟨(0 : Nat), fun _ => 0, fun h => absurd h hc⟩
  obtain ⟨c0, a0, f0⟩ := lw_arr (hts _ (dz_t1 (i := 43) rfl rfl : Cond.arrayClass .int ∈ dz_WS))
  obtain ⟨c1, a1, f1⟩ := lw_arr (hts _ (dz_t1 (i := 135) rfl rfl : Cond.arrayClass .long ∈ dz_WS))
  obtain ⟨c2, a2, f2⟩ := lw_arr (hts _ (dz_t1 (i := 134) rfl rfl : Cond.arrayClass .boolean ∈ dz_WS))
  obtain ⟨c3, a3, f3⟩ := lw_arr2 h3
  obtain ⟨c4, a4, f4⟩ := lw_arr2 h4
  refine ⟨(fun c => Classical.choose (hk c), fun c => Classical.choose (Classical.choose_spec (hk c))), fun k => match k with | 0 => c0 | 1 => c1 | 2 => c2 | 3 => c3 | _ => c4, fun c q hq => ?_, fun k q hq => ?_⟩
  · have hc : c < 6 := (List.getElem?_eq_some_iff.mp hq).1
    rw [dz_cl c hc] at hq
    cases hq
    exact Classical.choose_spec (Classical.choose_spec (hk c)) hc
  · have hc : k < 5 := (List.getElem?_eq_some_iff.mp hq).1
    match k, hc with
    | 0, _ => cases hq; exact ⟨a0, f0⟩
    | 1, _ => cases hq; exact ⟨a1, f1⟩
    | 2, _ => cases hq; exact ⟨a2, f2⟩
    | 3, _ => cases hq; exact ⟨a3, f3⟩
    | 4, _ => cases hq; exact ⟨a4, f4⟩
    | n + 5, h => omega
theorem ct_Dsp {A : Nat → Prop} {w1 w2 : va_W} (h : va_D A (w1 ++ w2)) : va_D A w1 ∧ va_D A w2 ∧ ∀ x ∈ w1, ∀ y ∈ w2, x.1 ≠ y.1 := by
  have hL : ∀ (i : Nat) (x : Nat × va_E), w1[i]? = some x → (w1 ++ w2)[i]? = some x := fun i x hx => by
    rw [List.getElem?_append_left (List.getElem?_eq_some_iff.mp hx).1]; exact hx
  have hR : ∀ (i : Nat) (x : Nat × va_E), w2[i]? = some x → (w1 ++ w2)[w1.length + i]? = some x := fun i x hx => by
    rw [List.getElem?_append_right (by omega), Nat.add_sub_cancel_left]; exact hx
  refine ⟨⟨fun i j x y hx hy e => h.1 i j x y (hL _ _ hx) (hL _ _ hy) e, fun k x hx => h.2 k x (hL _ _ hx)⟩, ⟨fun i j x y hx hy e => ?_, fun k x hx => h.2 _ x (hR _ _ hx)⟩, fun x hx y hy e => ?_⟩
  · have := h.1 _ _ x y (hR _ _ hx) (hR _ _ hy) e
    omega
  · obtain ⟨i, hi⟩ := List.getElem?_of_mem hx
    obtain ⟨j, hj⟩ := List.getElem?_of_mem hy
    have := h.1 _ _ x y (hL _ _ hi) (hR _ _ hj) e
    have := (List.getElem?_eq_some_iff.mp hi).1
    omega
theorem lw_f4 : ∀ j, j < dz_N 4 → defaultValue (dz_ty 4 j) = vp_V fs_X4 j := (fun j hj => by
    match j, hj with
    | 0, _ => rfl
    | 1, _ => rfl
    | 2, _ => rfl
    | 3, _ => rfl
    | 4, _ => rfl
    | 5, _ => rfl
    | 6, _ => rfl
    | 7, _ => rfl
    | k + 8, h => exact absurd (show k + 8 < 8 from h) (by omega))
theorem lw_f5 : ∀ j, j < dz_N 5 → defaultValue (dz_ty 5 j) = vp_V fs_X5 j := (fun j hj => by
    match j, hj with
    | 0, _ => rfl
    | 1, _ => rfl
    | 2, _ => rfl
    | 3, _ => rfl
    | 4, _ => rfl
    | 5, _ => rfl
    | 6, _ => rfl
    | 7, _ => rfl
    | 8, _ => rfl
    | 9, _ => rfl
    | 10, _ => rfl
    | 11, _ => rfl
    | 12, _ => rfl
    | 13, _ => rfl
    | 14, _ => rfl
    | 15, _ => rfl
    | 16, _ => rfl
    | 17, _ => rfl
    | 18, _ => rfl
    | 19, _ => rfl
    | 20, _ => rfl
    | 21, _ => rfl
    | 22, _ => rfl
    | 23, _ => rfl
    | 24, _ => rfl
    | 25, _ => rfl
    | 26, _ => rfl
    | 27, _ => rfl
    | 28, _ => rfl
    | 29, _ => rfl
    | 30, _ => rfl
    | k + 31, h => exact absurd (show k + 31 < 31 from h) (by omega))
set_option maxRecDepth 100000 in
set_option maxHeartbeats 4000000 in
/-- from the entry, for every script of at most 3072 ints, the law comes to its end with true -/
theorem whole_start {p : Program} {e : Env} {s : State} {m : MethodId} {below : List Frame} {meth : Method} {c : Code} (l : Launch) (hlt : l.stackTraces = false) {b L : Nat} {xs : Nat → Int32} (hL : L ≤ 3072) (C0 : lw_At p s m meth c b L xs) : W p l e room_1 s m #[Value.ref b] below meth c s.heap [] 0 0 (lw_Z below #[Value.ref b] s) (entryFrame m ([Value.ref b] : List Value).toArray 7) := by
  obtain ⟨hx, hb, hr, hml, hown, htb, hX, hbl, hlk, hgv⟩ := C0
  have hts : ∀ w ∈ dz_WS, w.before #[Value.ref b] s = true := fun w hw => htb w (dz_WS_tbl w hw).1
  have hown2 : s.vm.findClass RL = some m.cls := hown
  have h3 : (Cond.arrayOver (.array .int)).before #[Value.ref b] s = true := htb _ (lw_t1 (i := 29) rfl)
  have h4 : (Cond.arrayOver (.array .long)).before #[Value.ref b] s = true := htb _ (lw_t1 (i := 95) rfl)
  have ha1 : va_AOA .int s := lw_ao h3
  have ha2 : va_AOA .long s := lw_ao h4
  obtain ⟨D, cy, hK⟩ := lw_cls hts h3 h4
  have hnw : dz_Nw s := ⟨va_Nw.of rfl (htb _ (lw_t2 (i := 63) rfl)), va_Nw.of rfl (htb _ (lw_t2 (i := 155) rfl))⟩
  have hnx : nx_N s := by
    intro w hw
    simp only [nx_L, List.mem_cons, List.not_mem_nil, or_false] at hw
    rcases hw with rfl | rfl | rfl | rfl
    · exact va_Nw.of rfl (htb _ (lw_t3 (i := 65) rfl))
    · exact va_Nw.of rfl (htb _ (lw_t3 (i := 67) rfl))
    · exact va_Nw.of rfl (htb _ (lw_t3 (i := 69) rfl))
    · exact va_Nw.of rfl (htb _ (lw_t3 (i := 64) rfl))
  have hfl := flat_of_before _ hgv
  have hnz : nx_Z (fun q => s.heap.size ≤ q) s s.heap := ⟨vx_Zqof (htb _ (lw_t3 (i := 89) rfl)) (htb _ (lw_t1 (i := 9) rfl)) (hfl _ (by decide +kernel)) (fun a h => Nat.not_le.mpr h), vx_Zqof (htb _ (lw_t3 (i := 91) rfl)) (htb _ (lw_t1 (i := 9) rfl)) (hfl _ (by decide +kernel)) (fun a h => Nat.not_le.mpr h)⟩
  have hl := lv_entry ([.ref b]) (n := 7) (Nat.le_of_ble_eq_true rfl)
  rw [lg_entry_eq]
  generalize (lg_sl ([.ref b]) ++ List.replicate (7 - (lg_sl ([.ref b])).length) Slot.unset).toArray = ls at hl ⊢
  have hl : lv_has ls 7 [(0, .ref b)] := hl
  refine ct_make (A := fun q => s.heap.size ≤ q) (w := []) (st := []) (own2 := 4) (fs2 := fs_X4) (shape := sh_X4 cy) hx hb hml hown2 hts hK (fun q h => h) ha1 ha2 (by decide) dL_law_0 dL_law_3 dL_law_4 (hts _ (dz_t1 (i := 14) rfl rfl)) (dz_t1 (i := 15) rfl rfl) (dz_t1 (i := 1) rfl rfl) dz_mX4_init (hts _ (dz_t1 (i := 16) rfl rfl)) (dz_t1 (i := 17) rfl rfl) rfl lw_f4 (fun q sz => c_X4_init l D cy q sz) (by decide) (by decide) (by decide +kernel) (by decide +kernel) (Nat.le_of_ble_eq_true rfl) (fun k q h => by simp at h) ⟨fun i j x y h => by simp at h, fun k x h => by simp at h⟩ va_S.rf hl.1 (fun hY0 wY H1 locs1 hsY hP1 hD1 hS1 => ?_)
  refine W.widen (k := 62) (n := 157029) (by decide +kernel) (by decide +kernel) ?_
  refine lv_astore_n (lv' := [(1, .ref hY0), (0, .ref b)]) hx hb dL_law_7 rfl hl (by decide) rfl (fun ls1 hl1 => ?_)
  refine ct_make (A := fun q => s.heap.size ≤ q) (st := []) (own2 := 5) (fs2 := fs_X5) (shape := sh_X5 cy) hx hb hml hown2 hts hK (fun q h => h) ha1 ha2 (by decide) dL_law_8 dL_law_11 dL_law_12 (hts _ (dz_t3 (i := 123) rfl rfl)) (dz_t3 (i := 124) rfl rfl) (dz_t1 (i := 6) rfl rfl) dz_mX5_init (hts _ (dz_t3 (i := 125) rfl rfl)) (dz_t3 (i := 126) rfl rfl) rfl lw_f5 (fun q sz => c_X5_init l D cy q sz) (by decide) (by decide) (by decide +kernel) (by decide +kernel) (Nat.le_of_ble_eq_true rfl) hP1 hD1 hS1 hl1.1 (fun hM0 wM H2 locs2 hsM hP2 hD2 hS2 => ?_)
  refine W.widen (k := 86) (n := 461494) (by decide +kernel) (by decide +kernel) ?_
  refine lv_astore_n (lv' := [(2, .ref hM0), (1, .ref hY0), (0, .ref b)]) hx hb dL_law_15 rfl hl1 (by decide) rfl (fun ls2 hl2 => ?_)
  refine lv_iconst (v := nI 1) hx hb dL_law_16 (by decide) ?_
  refine va_newa (ty := .long) (N' := 1) (a0 := (1, .inr (.inl (fun _ => 0)))) hx hb (hts _ (dz_t1 (i := 135) rfl rfl)) rfl hK hP2 hD2 hS2 (fun q h => h) (ct_aL _) (by decide) (nI_clamp (by decide)) (by decide) (by decide +kernel) (by decide +kernel) dL_law_17 (fun qO cA H3 hK3 hP3 hD3 hS3 => ?_)
  have e3 : cA = cy 1 := by
    have e1 : s.vm.findClass ("[" ++ FieldType.long.toString) = some cA := (hK3.2 5 _ rfl).2
    have e2 : s.vm.findClass ("[" ++ FieldType.long.toString) = some (cy 1) := (hK.2 1 _ rfl).2
    exact Option.some.inj (e1.symm.trans e2)
  subst e3
  refine W.widen (k := 87) (n := 461495) (by decide +kernel) (by decide +kernel) ?_
  refine lv_astore_n (lv' := [(3, .ref qO), (2, .ref hM0), (1, .ref hY0), (0, .ref b)]) hx hb dL_law_19 rfl hl2 (by decide) rfl (fun ls3 hl3 => ?_)
  refine lv_iconst (v := nI 0) hx hb dL_law_20 (by decide) ?_
  refine lv_istore (lv' := lq_L b hY0 hM0 qO 0) hx hb dL_law_21 hl3 (by decide) rfl (fun ls4 hl4 => ?_)
  obtain ⟨d1, d2, d3⟩ := ct_Dsp hD3
  obtain ⟨d4, d5, d6⟩ := ct_Dsp d1
  obtain ⟨aY, y1, y2, y3, y4⟩ := yd_lay (l := l) hsY (hP3.mem (fun x hx => List.mem_append_left _ (List.mem_append_left _ hx))) d4
  obtain ⟨aM, m1, m2, m3, m4⟩ := ml_lay (l := l) hsM (hP3.mem (fun x hx => List.mem_append_left _ (List.mem_append_right _ hx))) d5
  subst y1
  subst m1
  have hO1 : va_P D vwCl [(qO, .inl (cy 1, (1, .inr (.inl (fun _ => 0)))))] H3 := hP3.mem (fun x hx => List.mem_append_right _ hx)
  have XX : lq_X p l s m c b L xs D cy aY aM qO := ⟨hx, hb, hml, hown2, hts, hX, hbl, hK, hnw, hnx, hnz, y2, m2, fun i hi => (y3 i hi).1, fun j hj => (m3 j hj).1, d2.2 0 _ rfl, fun i j hi hj ee => by
      obtain ⟨x, h1, h2⟩ := (y3 i hi).2
      obtain ⟨y, h3, h4⟩ := (m3 j hj).2
      exact d6 x h1 y h3 (by rw [h2, h4]; exact ee), fun i hi ee => by
      obtain ⟨x, h1, h2⟩ := (y3 i hi).2
      exact d3 x (List.mem_append_left _ h1) _ (List.mem_singleton.mpr rfl) (by rw [h2]; exact ee), fun j hj ee => by
      obtain ⟨x, h1, h2⟩ := (m3 j hj).2
      exact d3 x (List.mem_append_right _ h1) _ (List.mem_singleton.mpr rfl) (by rw [h2]; exact ee), hlt, hL⟩
  exact lq_loop XX hr hlk 513 0 rfl (Nat.zero_le _) sg_0 IY0 J0 IM0 J0 (fun _ => 0) OK_0 YI_0 RM_0 H3 locs2 ls4 y4 m4 hO1 hS3 hl4
