/-! the law's told: it asks the yard, and catches -/
theorem Met.ofWH {l : Launch} {y : MethodName} {ws ws' : List Cond} {rm : Room} {Pc : Array Value → State → Prop} {Qc : Array Value → State → Outcome → State → Prop} {mc ms : Nat} {free : Addr → Prop} {cc : ByteArray} {maxL : Nat} {ret : Option FieldType} {hh : List (Nat × Nat × Nat × Nat)}
    (hy : plainName y.cls = true) (hw : ws = Cond.codeWith y cc maxL ret hh :: ws')
    (body : ∀ p e s m args below meth c s₁, BodyLoose p l y (headSpec ws rm) cc maxL ret e s m args below meth c s₁ → c.maxLocals = maxL → Pc args s →
      W p l e (headSpec ws rm).room s m args below meth c s.heap [] 0 0 (MQ below Qc args s mc ms free) (entryFrame m args maxL)) : Met l y ws rm Pc Qc mc ms free := by
  refine MetFree.of_bodyS (code := cc) (maxLocals := maxL) (ret := ret) hy ?_ ?_
  · intro args s m h hn
    obtain ⟨m9, meth, c, hn9, h1, h2, h3, h4, -, h5, h6, -⟩ := Cond.codeWith_spec (atoms_spec (ws := ws) h _ (by rw [hw]; exact List.mem_cons_self))
    cases hn.symm.trans hn9
    exact ⟨meth, c, h1, h2, h3, h4, h5, h6⟩
  · intro p e s m args below meth c s₁ B hml hP _
    have hh0 : s₁.heap = s.heap := by rw [B.state]; rfl
    obtain ⟨t, a1, o, b1, b2, b3⟩ := body p e s m args below meth c s₁ B hml hP s₁ hh0 (Stand.of_body B)
    exact ⟨t, o, a1, b1, b2, ⟨b3.1, b3.2⟩⟩
def lt_A (π : dz_Pl) (qO : Nat) : Nat → Prop := fun q => dz_A π 62 q ∨ q = qO
def lt_w (π : dz_Pl) (qO : Nat) (o : Nat → Int64) (I : dz_MI) (J : dz_MJ) : va_W := dz_wl π dz_Y 62 I J ++ [(qO, .inl (π.2.2.1 1, (1, .inr (.inl o))))]
def lt_Pre (π : dz_Pl) (qO : Nat) (d w : Int32) (o : Nat → Int64) (I : dz_MI) (J : dz_MJ) : Array Value → State → Prop := va_Pc [.ref (π.2.2.2 0), .int d, .int w, .ref qO] (fun U => dz_inj π.2.2.2 62 ∧ va_P π.2.1 vwCl (lt_w π qO o I J) U.heap ∧ (∀ c, c < 62 → π.2.2.2 c ≠ qO) ∧ va_K π.2.1 vwCl (dz_tys π.2.2.1) U ∧ dz_Nw U ∧ nx_N U ∧ nx_Z (lt_A π qO) U U.heap)
def lt_Post (π : dz_Pl) (qO : Nat) (s : dz_Sg) (d w : Int32) (I : dz_MI) (J : dz_MJ) : Array Value → State → Outcome → State → Prop := fun _ st oc t => (∃ (k : Int32) (o2 : Nat → Int64), oc = .returned (some (.int k)) ∧ va_P π.2.1 vwCl (lt_w π qO o2 I J) t.heap ∧ ((k = nI 0 ∧ q_tok s d w ∧ o2 0 = (sg_f s d.toNatClampNeg w.toNatClampNeg).toInt64) ∨ (k = nI 1 ∧ ¬ q_tok s d w))) ∧ va_F (lt_A π qO) st t
theorem lt_blind (π : dz_Pl) (qO : Nat) (d w : Int32) (o : Nat → Int64) (I : dz_MI) (J : dz_MJ) : FrameBlind (lt_Pre π qO d w o I J) := by
  intro a U g mk q
  obtain ⟨q0, q1, qP, qd, qK, qN, qx, qz⟩ := q
  exact ⟨q0, q1, qP, qd, va_K.moved (u := U) (U := U.calling g mk a) (Vm.Alike.refl U.vm) qK, dz_Nw.same rfl qN, nx_N.same (s := U) (U := U.calling g mk a) rfl qx, ⟨vx_Zq.moved (u := U) (U := U.calling g mk a) (Vm.Alike.refl U.vm) qz.1, vx_Zq.moved (u := U) (U := U.calling g mk a) (Vm.Alike.refl U.vm) qz.2⟩⟩
theorem lt_in {π : dz_Pl} {qO : Nat} {o : Nat → Int64} {I : dz_MI} {J : dz_MJ} : (lt_w π qO o I J)[62]? = some (qO, .inl (π.2.2.1 1, (1, .inr (.inl o)))) := by
  unfold lt_w
  rw [List.getElem?_append_right (by simp [dz_wl])]
  simp [dz_wl]
theorem lt_D {π : dz_Pl} {qO : Nat} {o : Nat → Int64} {I : dz_MI} {J : dz_MJ} (hi : dz_inj π.2.2.2 62) (hd : ∀ c, c < 62 → π.2.2.2 c ≠ qO) : va_D (lt_A π qO) (lt_w π qO o I J) := by
  refine ct_Dapp (dz_wl_D hi (fun c hc => Or.inl ⟨c, hc, rfl⟩)) ⟨fun i j x y hx hy _ => ?_, fun k x hx => ?_⟩ (fun x hx y hy e => ?_)
  · have h1 := (List.getElem?_eq_some_iff.mp hx).1
    have h2 := (List.getElem?_eq_some_iff.mp hy).1
    simp at h1 h2; omega
  · have h1 : k < 1 := (List.getElem?_eq_some_iff.mp hx).1
    rw [show k = 0 by omega] at hx
    cases hx
    exact Or.inr rfl
  · obtain ⟨i, hi2⟩ := List.getElem?_of_mem hx
    obtain ⟨h1, rfl⟩ := dz_wl_at hi2
    simp only [List.mem_cons, List.not_mem_nil, or_false] at hy
    subst hy
    exact hd i h1 e
theorem lt_set {π : dz_Pl} {qO : Nat} {o : Nat → Int64} {I : dz_MI} {J : dz_MJ} {f : Nat → Int64} {H : Heap} (h : va_P π.2.1 vwCl ((lt_w π qO o I J).set 62 (qO, .inl (π.2.2.1 1, (1, .inr (.inl f))))) H) : va_P π.2.1 vwCl (lt_w π qO f I J) H := by
  have e : (lt_w π qO o I J).set 62 (qO, .inl (π.2.2.1 1, (1, .inr (.inl f)))) = lt_w π qO f I J := by
    unfold lt_w
    rw [List.set_append_right _ _ (by simp [dz_wl])]
    simp [dz_wl]
  rw [e] at h
  exact h
set_option maxRecDepth 100000 in
set_option maxHeartbeats 4000000 in
theorem c_L_told (π : dz_Pl) (hst : π.1.stackTraces = false) {s : dz_Sg} (qO : Nat) (d w : Int32) (o : Nat → Int64) (I : dz_MI) (J : dz_MJ) (hO : dz_OK s) (hR : dz_RY s I) : Met π.1 yL_told (.codeWith yL_told cL_told 5 (some .int) [(0, 10, 13, 13)] :: dz_WS) { frames := 7, cells := 1, slots := 6, locals := 112 } (lt_Pre π qO d w o I J) (lt_Post π qO s d w I J) 1 6 (lt_A π qO) := by
  refine Met.ofWH (cc := cL_told) (maxL := 5) (ret := some .int) (by decide) rfl ?_
  intro p e st m args below meth c s₁ B hml hv
  obtain ⟨rfl, hinj, hP, hap, hK, hnw, hnx, hU0, hN0⟩ := hv
  have hts0 := atoms_spec (ws := .codeWith yL_told cL_told 5 (some .int) [(0, 10, 13, 13)] :: dz_WS) B.pre
  have hts : ∀ z ∈ dz_WS, z.before ([.ref (π.2.2.2 0), .int d, .int w, .ref qO] : List Value).toArray st = true := fun z hz => hts0 z (List.mem_cons_of_mem _ hz)
  have htab : c.exceptionTable.toList = tableOf [(0, 10, 13, 13)] := vx_table (x := yL_told) B (hts0 _ List.mem_cons_self)
  have hown : st.vm.findClass RL = some m.cls := findClass_of_methodNamed B.named
  have hlocks := B.notSynchronized
  have hx := B.exec
  have hb := B.bytes
  have hr := B.returns
  have hD := lt_D (o := o) (I := I) (J := J) hinj hap
  have hS : va_S (lt_A π qO) st.heap st.heap [] := va_S.rf
  have hPY : va_P π.2.1 vwCl (dz_wl π dz_Y 62 I J) st.heap := hP.mem (fun x hx => List.mem_append_left _ hx)
  have hcell : (dz_wl π dz_Y 62 I J)[0]? = some (π.2.2.2 0, .inr (4, [some (some 1), some (some 2), some (some 3), some (some 4), none, none, none, none].mapIdx (fun k f => dz_fv π.2.2.2 (I 0) (J 0) k f))) := by rw [dz_wl_get (by decide)]; rfl
  have hl := lv_entry ([.ref (π.2.2.2 0), .int d, .int w, .ref qO]) (n := 5) (Nat.le_of_ble_eq_true rfl)
  rw [lg_entry_eq]
  generalize (lg_sl ([.ref (π.2.2.2 0), .int d, .int w, .ref qO]) ++ List.replicate (5 - (lg_sl ([.ref (π.2.2.2 0), .int d, .int w, .ref qO])).length) Slot.unset).toArray = ls at hl ⊢
  have hl : lv_has ls 5 [(0, .ref (π.2.2.2 0)), (1, .int d), (2, .int w), (3, .ref qO)] := hl
  refine lv_aload_n hx hb dL_told_0 rfl (lv_at hl 3 rfl) ?_
  refine lv_iconst (v := nI 0) hx hb dL_told_1 (by decide) ?_
  refine lv_aload_n hx hb dL_told_2 rfl (lv_at hl 0 rfl) ?_
  refine lv_iload_n hx hb dL_told_3 rfl (lv_at hl 1 rfl) ?_
  refine lv_iload_n hx hb dL_told_4 rfl (lv_at hl 2 rfl) ?_
  obtain ⟨m1, m2, m3, m4, m5, m6⟩ := dz_mX4_told
  have hrun := vx_runV (R := { frames := 7, cells := 1, slots := 6, locals := 112 }) (s := st) (args := ([.ref (π.2.2.2 0), .int d, .int w, .ref qO] : List Value).toArray) (p := p) (l := π.1) (e := e) (m := m) (below := below) (meth := meth) (c := c) (H := st.heap) (locs := []) (cells := 0) (slots := 0) (C := RX4) (As := [.int d, .int w]) (rest := [.int (nI 0), .ref qO]) (b := π.2.2.2 0) (cc := cL_told) (nL := 5) (Ts := dz_WS) (own := RL) (n := 2) (bytes := cX4_told) (maxL := 3) (ret := some .int) (g := F0 m 5 ls [.int w, .int d, .ref (π.2.2.2 0), .int (nI 0), .ref qO]) ⟨hx, hb, hml, hown, hts⟩ (c_X4_told π hst d w I J hO hR)
    ⟨callB_of (Ts := dz_WS) (ws' := dz_WS) 2 hts (fun z hz => (List.mem_cons.mp hz).elim (fun y => by rw [y]; exact ⟨m2, dz_WS_good _ m2⟩) (fun y => ⟨y, dz_WS_good z y⟩)) rfl rfl rfl (hts _ m1) (hts _ (dz_t3 (i := 58) rfl rfl)) ⟨m3, m4, m5⟩ ⟨by decide, by decide⟩, hts _ (dz_t3 (i := 59) rfl rfl), hts _ (dz_t3 (i := 60) rfl rfl)⟩
    ⟨tl_blind _ _ _ _, va_recv hK hPY (dz_cl 4 (by decide)) hcell, fun U hU hW => ⟨rfl, hinj, by rw [hU]; exact hPY, va_K.moved hW.alike hK, dz_Nw.warm hW hnw, hnx.warm hW, ⟨vx_Zq.moved hW.alike (by rw [hU]; exact hU0.narrow (fun q hq => Or.inl hq)), vx_Zq.moved hW.alike (by rw [hU]; exact hN0.narrow (fun q hq => Or.inl hq))⟩⟩⟩ rfl rfl hl.1 rfl (lv_room (Nat.le_of_ble_eq_true rfl)) dL_told_5 ⟨by decide, by decide⟩
  intro T hT Xs
  have hnq : ¬ dz_A π 62 qO := fun ⟨i, hi, e⟩ => hap i hi e.symm
  rcases hrun T hT Xs with ⟨v, st₀, t, T', L, h0, X', hL, e1, e2, ⟨⟨r, I', J', hv, ⟨hok, rfl, rfl, rfl⟩, hP1⟩, hz, hk⟩, stp⟩ | ⟨q, st₀, t, T', L, E, ce, h0, X', hL, e1, e2, ⟨rfl, hno, hP1, hz, hk⟩, hce, hcv, hcl, stp⟩
  · rw [h0] at hz hk
    have hv2 : v = some (.int (sg_f s d.toNatClampNeg w.toNatClampNeg)) := by injection hv
    subst hv2
    have hO1 : T'.heap[qO]? = st.heap[qO]? := by rw [e1]; exact hk qO (hP 62 _ lt_in).lt hnq
    have hP2 : va_P π.2.1 vwCl (lt_w π qO o I' J') T'.heap := by
      refine va_P.app (by rw [e1]; exact hP1) (fun k x hx => ?_)
      have h1 : k < 1 := (List.getElem?_eq_some_iff.mp hx).1
      rw [show k = 0 by omega] at hx
      cases hx
      exact (hP 62 _ lt_in).kept hO1
    have hS2 : va_S (lt_A π qO) st.heap T'.heap ([] ++ L) := ⟨by rw [e1]; exact hz, fun q h1 h2 => by rw [e1]; exact hk q h1 (fun z => h2 (Or.inl z)), fun q hq => by
      rcases List.mem_append.mp hq with h | h
      · cases h
      · exact Or.inl (hL q h)⟩
    have goal : W p π.1 e { frames := 7, cells := 1, slots := 6, locals := 112 } st m ([.ref (π.2.2.2 0), .int d, .int w, .ref qO] : List Value).toArray below meth c T'.heap ([] ++ L) (0 + 1) (0 + 6) (MQ below (lt_Post π qO s d w I' J') ([.ref (π.2.2.2 0), .int d, .int w, .ref qO] : List Value).toArray st 1 6 (lt_A π qO)) (F0 m 8 ls [.int (sg_f s d.toNatClampNeg w.toNatClampNeg), .int (nI 0), .ref qO]) := by
      refine lv_i2l (v := (sg_f s d.toNatClampNeg w.toNatClampNeg).toInt64) hx hb dL_told_8 rfl ?_
      refine va_last (ws := lt_w π qO o I' J') hx hb hK hP2 hD hS2 62 1 lt_in rfl (vp_in_nI (by decide) (by decide)) dL_told_9 (fun H3 locs3 hP3 hD3 hS3 => ?_)
      refine lv_goto (tgt := 17) hx hb dL_told_10 (by decide) ?_
      refine lv_iconst (v := nI 0) hx hb dL_told_17 (by decide) ?_
      refine W.iret hx hb hr (fun t ht hW => ⟨⟨nI 0, _, rfl, by rw [ht]; exact lt_set hP3, Or.inl ⟨rfl, hok, ?_⟩⟩, hS3.F ht⟩) hS3.2.2 dL_told_18
      rfl
    obtain ⟨t2, a1, b1⟩ := goal T' rfl X'
    exact ⟨t2, stp t2 a1, b1⟩
  · rw [h0] at hz hk
    have hO1 : T'.heap[qO]? = st.heap[qO]? := by rw [e1]; exact hk qO (hP 62 _ lt_in).lt hnq
    have hP2 : va_P π.2.1 vwCl (lt_w π qO o I J) T'.heap := by
      refine va_P.app (by rw [e1]; exact hP1) (fun k x hx => ?_)
      have h1 : k < 1 := (List.getElem?_eq_some_iff.mp hx).1
      rw [show k = 0 by omega] at hx
      cases hx
      exact (hP 62 _ lt_in).kept hO1
    have hS2 : va_S (lt_A π qO) st.heap T'.heap ([] ++ L) := ⟨by rw [e1]; exact hz, fun q h1 h2 => by rw [e1]; exact hk q h1 (fun z => h2 (Or.inl z)), fun q hq => by
      rcases List.mem_append.mp hq with h | h
      · cases h
      · exact Or.inl (hL q h)⟩
    have goal : vx_W p π.1 e { frames := 7, cells := 1, slots := 6, locals := 112 } st m ([.ref (π.2.2.2 0), .int d, .int w, .ref qO] : List Value).toArray below meth c T'.heap ([] ++ L) (0 + 1) (0 + 6) (MQ below (lt_Post π qO s d w I J) ([.ref (π.2.2.2 0), .int d, .int w, .ref qO] : List Value).toArray st 1 6 (lt_A π qO)) (F0 m 5 ls [.int (nI 0), .ref qO]) q := by
      refine vx_catch (own := RL) (name := "java/util/NoSuchElementException") (E := "java/util/NoSuchElementException") hown [] ⟨0, 10, 13, 13⟩ [] htab (fun z hz => by cases hz) (by decide) (by decide) (hts _ (dz_t3 (i := 57) rfl rfl)) (va_Nw.use rfl (hnx _ (by decide))) (by rw [e1]; exact hce) hcv hcl ?_
      refine lv_astore (lv' := [(4, .ref q), (0, .ref (π.2.2.2 0)), (1, .int d), (2, .int w), (3, .ref qO)]) hx hb dL_told_13 hl (by decide) rfl (fun ls hl => ?_)
      refine lv_iconst (v := nI 1) hx hb dL_told_15 (by decide) ?_
      exact W.iret hx hb hr (fun t ht hW => ⟨⟨nI 1, o, rfl, by rw [ht]; exact hP2, Or.inr ⟨rfl, hno⟩⟩, hS2.F ht⟩) hS2.2.2 dL_told_16
    obtain ⟨t2, a1, b1⟩ := goal T' rfl X'
    exact ⟨t2, stp.trans a1, b1⟩
