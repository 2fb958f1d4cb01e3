/-! MAKING (2): a thing made inside; the constructors -/
theorem va_P.mem {D : va_G} {cl : List vw_C} {ws ws' : va_W} {H : Heap} (h : va_P D cl ws H) (hs : ∀ q ∈ ws', q ∈ ws) : va_P D cl ws' H := fun k q hk => by
  obtain ⟨j, hj⟩ := List.getElem?_of_mem (hs q (List.mem_of_getElem? hk))
  exact h j q hj
theorem ct_Dapp {A : Nat → Prop} {w1 w2 : va_W} (h1 : va_D A w1) (h2 : va_D A w2) (h : ∀ x ∈ w1, ∀ y ∈ w2, x.1 ≠ y.1) : va_D A (w1 ++ w2) := by
  refine ⟨fun i j x y hx hy e => ?_, fun k x hx => ?_⟩
  · by_cases hi : i < w1.length
    · rw [List.getElem?_append_left hi] at hx
      by_cases hj : j < w1.length
      · rw [List.getElem?_append_left hj] at hy
        exact h1.1 i j x y hx hy e
      · rw [List.getElem?_append_right (by omega)] at hy
        exact absurd e (h x (List.mem_of_getElem? hx) y (List.mem_of_getElem? hy))
    · rw [List.getElem?_append_right (by omega)] at hx
      by_cases hj : j < w1.length
      · rw [List.getElem?_append_left hj] at hy
        exact absurd e.symm (h y (List.mem_of_getElem? hy) x (List.mem_of_getElem? hx))
      · rw [List.getElem?_append_right (by omega)] at hy
        have := h2.1 _ _ x y hx hy e
        omega
  · by_cases hi : k < w1.length
    · rw [List.getElem?_append_left hi] at hx; exact h1.2 k x hx
    · rw [List.getElem?_append_right (by omega)] at hx; exact h2.2 _ x hx
section CT2
variable {p : Program} {l : Launch} {e : Env} {R : Room} {s : State} {m : MethodId} {args : Array Value} {below : List Frame} {meth : Method} {c : Code} {Q : State → Prop} {D : va_G} {cy : Nat → ClassId} {A : Nat → Prop} {nL : Nat} {cc : ByteArray} {H : Heap} {locs : List Loc} {cells slots : Nat} {ls : Array Slot}
/-- new C(): made, and its constructor gone through: any caller, any world w -/
theorem ct_make {own : String} (hx : p.tables.exec = Jvm.exec) (hb : c.code = cc) (hml : c.maxLocals = nL) (hown : s.vm.findClass own = some m.cls) (hts : ∀ w ∈ dz_WS, w.before args s = true) (hK : va_K D vwCl (dz_tys cy) s) (hA : ∀ q, s.heap.size ≤ q → A q) (ha1 : va_AOA .int s) (ha2 : va_AOA .long s)
    {pc ik ic own2 F2 L2 mc2 ms2 ml2 : Nat} {y2 : MethodName} {b2 : ByteArray} {fs2 : List Value} {shape : Nat → va_W → Prop} {w : va_W} {st : List Value} (h62 : own2 < 6) (d1 : decode cc pc = .ok (.new ik, 3)) (d2 : decode cc (pc + 3) = .ok (.dup, 1)) (d3 : decode cc (pc + 4) = .ok (.invokespecial ic, 3))
    (hcl : (Cond.classLink own ik (dz_R own2)).before args s = true) (hinst : Cond.instantiable (dz_R own2) (dz_N own2) ∈ dz_WS) (hini : Cond.initialized (dz_R own2) ∈ dz_WS) (hmw : dz_MW (y2, b2, ml2, none) 0) (hlk : (Cond.methodLink own ic y2).before args s = true) (him : Cond.instanceMethod y2 ∈ dz_WS) (hname : y2.name = "<init>") (hfs : ∀ j, j < dz_N own2 → defaultValue (dz_ty own2 j) = vp_V fs2 j)
    (hC : ∀ q sz, ct_Cl l D cy (y2, b2, ml2, none) F2 L2 mc2 ms2 own2 fs2 q sz (shape q)) (hF : F2 + 1 ≤ R.frames) (hL : 8 + (ml2 + 11) + L2 ≤ R.locals) (hcells : cells + 1 + mc2 ≤ R.cells) (hslots : slots + dz_N own2 + ms2 ≤ R.slots) (hst : (st.map fun v => v.category).sum ≤ 7)
    (hP : va_P D vwCl w H) (hD : va_D A w) (hS : va_S A s.heap H locs) (hl : ls.size = nL)
    (kk : ∀ (q : Nat) (ws : va_W) (H1 : Heap) (locs1 : List Loc), shape q ws → va_P D vwCl (w ++ ws) H1 → va_D A (w ++ ws) → va_S A s.heap H1 locs1 → W p l e R s m args below meth c H1 locs1 (cells + 1 + mc2) (slots + dz_N own2 + ms2) Q (F0 m (pc + 7) ls (.ref q :: st))) : W p l e R s m args below meth c H locs cells slots Q (F0 m pc ls st) := by
  obtain ⟨c1, c2, c3, c4⟩ := dz_cf own2 h62
  refine va_new (ci := own2) (fs := fs2) (C := dz_R own2) (T := dz_T own2) (N := dz_N own2) hx hb hts c1 (dz_ty own2) c2 hown hcl (hts _ hinst) (hts _ hini) hK hP hD hS hA (dz_cl own2 h62) hfs (by omega) (by omega) d1 (fun q H1 hP1 hD1 hS1 => ?_)
  refine lv_dup hx hb d2 rfl ?_
  have hq : (w ++ [(q, (.inr (own2, fs2) : va_E))])[w.length]? = some (q, .inr (own2, fs2)) := by simp
  have hql : q < H1.size := (hP1 _ _ hq).lt
  have hPc : va_P D vwCl [(q, .inr (own2, fs2))] H1 := hP1.mem (fun x hx => List.mem_append_right _ hx)
  have hold : ∀ (k : Nat) (x : Nat × va_E), w[k]? = some x → x.1 < H1.size ∧ x.1 ≠ q := fun k x hk => by
    have hlt : k < w.length := (List.getElem?_eq_some_iff.mp hk).1
    have hk2 : (w ++ [(q, (.inr (own2, fs2) : va_E))])[k]? = some x := by rw [List.getElem?_append_left hlt]; exact hk
    refine ⟨(hP1 _ _ hk2).lt, fun e => ?_⟩
    have := hD1.1 _ _ _ _ hk2 hq e
    omega
  obtain ⟨m1, m2, m3, m4, m5, m6⟩ := hmw
  have hrun := va_runI (R := R) (s := s) (args := args) (p := p) (l := l) (e := e) (m := m) (below := below) (meth := meth) (c := c) (H := H1) (locs := locs) (cells := cells + 1) (slots := slots + dz_N own2) (As := []) (rest := .ref q :: st) (b := q) (cc := cc) (nL := nL) (Ts := dz_WS) (own := own) (n := 0) (bytes := b2) (maxL := ml2) (g := F0 m (pc + 3 + 1) ls (.ref q :: .ref q :: st)) ⟨hx, hb, hml, hown, hts⟩ (hC q H1.size)
    ⟨callB_of (Ts := dz_WS) (ws' := dz_WS) 0 hts (fun w hw => (List.mem_cons.mp hw).elim (fun z => by rw [z]; exact ⟨m2, dz_WS_good _ m2⟩) (fun z => ⟨z, dz_WS_good w z⟩)) rfl rfl rfl (hts _ m1) hlk ⟨m3, m4, m5⟩ ⟨hF, hL⟩, hname, hts _ him⟩
    ⟨ct_blind _ _ _ _ _ _, fun U hU hW => ⟨rfl, by rw [hU], by rw [hU]; exact hPc, va_K.moved hW.alike hK, ha1.moved hW.alike, ha2.moved hW.alike⟩⟩ rfl rfl hl rfl (lv_room (by simp only [List.map_cons, List.sum_cons]; have : (Value.ref q).category = 1 := rfl; omega)) d3 ⟨by omega, by omega⟩
  intro T hT Xs
  obtain ⟨v, st₀, t, T', L, h0', X', hLL, e1, e2, ⟨⟨hv, ws, hsh, hPw, hDw⟩, hz, hk⟩, stp⟩ := hrun T hT Xs
  rw [h0'] at hz hk
  have hv2 : v = none := by injection hv
  subst hv2
  have hkeep : ∀ (k : Nat) (x : Nat × va_E), w[k]? = some x → T'.heap[x.1]? = H1[x.1]? := fun k x hx => by
    obtain ⟨l1, l2⟩ := hold k x hx
    rw [e1]
    exact hk x.1 l1 (fun z => z.elim l2 (fun y => by omega))
  have hPn : va_P D vwCl (w ++ ws) T'.heap := by
    refine va_P.app (va_P.kept (H := H1) (hP1.mem (fun x hx => List.mem_append_left _ hx)) hkeep) ?_
    rw [e1]; exact hPw
  have hAq : A q := hD1.2 _ _ hq
  have hDn : va_D A (w ++ ws) := by
    refine ct_Dapp ?_ (hDw.weaken (fun k x hx hx2 => hx2.elim (fun z => by rw [z]; exact hAq) (fun z => hA _ (by have := hS1.1; omega)))) (fun x hx y hy e => ?_)
    · exact hD
    · obtain ⟨i, hi⟩ := List.getElem?_of_mem hx
      obtain ⟨j, hj⟩ := List.getElem?_of_mem hy
      obtain ⟨l1, l2⟩ := hold i x hi
      rcases hDw.2 j y hj with z | z
      · exact l2 (e.trans z)
      · omega
  have hSn : va_S A s.heap T'.heap (locs ++ L) := ⟨Nat.le_trans hS1.1 (by rw [e1]; exact hz), fun x h1 h2 => by
      rw [e1, hk x (Nat.lt_of_lt_of_le h1 hS1.1) (fun z => z.elim (fun y => h2 (by rw [y]; exact hAq)) (fun y => by have := hS1.1; omega))]
      exact hS1.2.1 x h1 h2, fun x hx => by
      rcases List.mem_append.mp hx with h | h
      · exact hS1.2.2 x h
      · rcases hLL x h with z | z
        · rw [z]; exact hAq
        · exact hA _ (by have := hS1.1; omega)⟩
  obtain ⟨t2, a1, b1⟩ := kk q ws T'.heap (locs ++ L) hsh hPn hDn hSn T' rfl X'
  exact ⟨t2, stp t2 a1, b1⟩
/-- this.k = new C() -/
theorem ct_new {own h0 : Nat} (X : ct_X p s m args meth c D cy A own nL cc)
    {pc k idx ik ic own2 F2 L2 mc2 ms2 ml2 : Nat} {y2 : MethodName} {b2 : ByteArray} {fs fs2 : List Value} {as : va_W} {shape : Nat → va_W → Prop} (h62 : own2 < 6) (d0 : decode cc pc = .ok (.aload_n 0, 1)) (d1 : decode cc (pc + 1) = .ok (.new ik, 3)) (d2 : decode cc (pc + 1 + 3) = .ok (.dup, 1)) (d3 : decode cc (pc + 1 + 4) = .ok (.invokespecial ic, 3)) (d4 : decode cc (pc + 1 + 7) = .ok (.putfield idx, 3))
    (hcl : Cond.classLink (dz_R own) ik (dz_R own2) ∈ dz_WS) (hinst : Cond.instantiable (dz_R own2) (dz_N own2) ∈ dz_WS) (hini : Cond.initialized (dz_R own2) ∈ dz_WS) (hmw : dz_MW (y2, b2, ml2, none) 0) (hlk : Cond.methodLink (dz_R own) ic y2 ∈ dz_WS) (him : Cond.instanceMethod y2 ∈ dz_WS) (hname : y2.name = "<init>") (hfs : ∀ j, j < dz_N own2 → defaultValue (dz_ty own2 j) = vp_V fs2 j)
    (hC : ∀ q sz, ct_Cl l D cy (y2, b2, ml2, none) F2 L2 mc2 ms2 own2 fs2 q sz (shape q)) (hF : F2 + 1 ≤ R.frames) (hL : 8 + (ml2 + 11) + L2 ≤ R.locals) (hcells : cells + 1 + mc2 ≤ R.cells) (hslots : slots + dz_N own2 + ms2 ≤ R.slots)
    (h6 : own < 6) (hft : (dz_ft own).lookup idx = some k) (hfin : (dz_T own k).2.2.2 = true) (hdecl : (dz_T own k).1 = dz_R own) (hnw : ∀ q, narrow (dz_ty own k) (.ref q) = .ref q) (hfit : ∀ q, fits (dz_ty own k) (.ref q) = true) (hk : k < fs.length)
    (kk : ∀ (q : Nat) (ws : va_W), shape q ws → ct_J p l e R s m args below meth c Q D A own nL h0 (pc + 1 + 10) (fs.set k (.ref q)) (as ++ ws) (cells + 1 + mc2) (slots + dz_N own2 + ms2)) : ct_J p l e R s m args below meth c Q D A own nL h0 pc fs as cells slots := by
  intro H locs ls hP hD hS hl
  obtain ⟨hx, hb, hml, hown, hts, hK, hA, hin, ha1, ha2⟩ := X
  obtain ⟨c1, c2, c3, c4⟩ := dz_cf own h6
  have hq := c4 (idx, k) (dz_lookup_mem2 hft)
  refine lv_aload_n hx hb d0 rfl (lv_at hl 0 rfl) ?_
  refine ct_make (cy := cy) hx hb hml hown hts hK hA ha1 ha2 h62 d1 d2 d3 (hts _ hcl) hinst hini hmw (hts _ hlk) him hname hfs hC hF hL hcells hslots (Nat.le_of_ble_eq_true rfl) hP hD hS hl.1 (fun q ws H1 locs1 hsh hP1 hD1 hS1 => ?_)
  refine va_putF (ci := own) (v := .ref q) (ty := dz_ty own k) hx hb hts c1 (dz_ty own) c2 c3 hown hK hP1 hD1 hS1 0 rfl (dz_cl own h6) k hq.1 (hts _ hq.2) (fun _ h9 => h9) hfin hin hdecl (c2 k hq.1) (hnw q) (hfit q) hk d4 (fun H2 locs2 hP2 hD2 hS2 => ?_)
  exact kk q ws hsh H2 locs2 ls hP2 hD2 hS2 hl
end CT2
def ca_I (cy : Nat → ClassId) (q n : Nat) : Nat × va_E := (q, .inl (cy 0, (n, .inl (fun _ => 0))))
def ca_Z (cy : Nat → ClassId) (q n : Nat) : Nat × va_E := (q, .inl (cy 2, (n, .inl (fun _ => 0))))
def ca_L (cy : Nat → ClassId) (q n : Nat) : Nat × va_E := (q, .inl (cy 1, (n, .inr (.inl (fun _ => 0)))))
def co_I (cy : Nat → ClassId) (q n : Nat) (r : Nat → Nat) : Nat × va_E := (q, .inl (cy 3, (n, .inr (.inr (.inr (.inr (fun i => if i < n then some (r i) else none)))))))
def co_L (cy : Nat → ClassId) (q n : Nat) (r : Nat → Nat) : Nat × va_E := (q, .inl (cy 4, (n, .inr (.inr (.inr (.inr (fun i => if i < n then some (r i) else none)))))))
def cr_I (cy : Nat → ClassId) (r : Nat → Nat) (n m : Nat) : va_W := (List.range n).map (fun i => ca_I cy (r i) m)
def cr_L (cy : Nat → ClassId) (r : Nat → Nat) (n m : Nat) : va_W := (List.range n).map (fun i => ca_L cy (r i) m)
theorem ct_k72 : Cond.constant (dz_R 5) 72 (nI 101376) ∈ dz_WS := by
  rw [← fa_lit 101376]
  exact (dz_t3 (i := 129) rfl rfl)
theorem ct_inI (n : Nat) (c : ClassId) : Jvm.Free.Multi.innerC c n (defaultValue .int) = vp_cell c (n, .inl (fun _ => 0)) := by
  show ({ cls := c, slots := Array.replicate n (defaultValue .int), vm := .none } : Cell) = _
  rw [arrV_new]; rfl
theorem ct_inL (n : Nat) (c : ClassId) : Jvm.Free.Multi.innerC c n (defaultValue .long) = vp_cell c (n, .inr (.inl (fun _ => 0))) := by
  show ({ cls := c, slots := Array.replicate n (defaultValue .long), vm := .none } : Cell) = _
  rw [arrV_new]; rfl
theorem ct_aI (n : Nat) (c : ClassId) : vp_cell c (n, .inl (fun _ => 0)) = arrV c n (fun _ => defaultValue .int) := rfl
theorem ct_aZ (n : Nat) (c : ClassId) : vp_cell c (n, .inl (fun _ => 0)) = arrV c n (fun _ => defaultValue .boolean) := rfl
theorem ct_aL (n : Nat) (c : ClassId) : vp_cell c (n, .inr (.inl (fun _ => 0))) = arrV c n (fun _ => defaultValue .long) := rfl
def fs_X0 : List Value := [.null, .null, .null, .null, .null, .null, .int 0, .int 0]
def sh_X0 (cy : Nat → ClassId) (h0 : Nat) (ws : va_W) : Prop := ∃ q1 : Nat, ∃ q2 : Nat, ∃ q3 : Nat, ∃ q4 : Nat, ∃ q5 : Nat, ∃ q6 : Nat, ws = (h0, .inr (0, [.ref q1, .ref q2, .ref q3, .ref q4, .ref q5, .ref q6, .int 0, .int 0])) :: (ca_I cy q1 4 :: (ca_I cy q2 4 :: (ca_I cy q3 4 :: (ca_I cy q4 4 :: (ca_I cy q5 8 :: (ca_I cy q6 4 :: ([] : va_W)))))))
set_option maxRecDepth 100000 in
set_option maxHeartbeats 4000000 in
theorem c_X0_init (l : Launch) (D : va_G) (cy : Nat → ClassId) (h0 sz : Nat) : ct_Cl l D cy mX0_init 1 12 6 28 0 fs_X0 h0 sz (sh_X0 cy h0) := by
  refine ct_body dz_mX0_init rfl (by decide) rfl (by decide) rfl (fun p e s m args below meth c Q X hr => ?_)
  refine ct_obj0 X dX0_init_0 dX0_init_1 (dz_t1 (i := 49) rfl rfl) (by decide) (by decide) ?_
  refine ct_arr X (n := nI 4) (N := 4) (t0 := 0) (a0 := (4, .inl (fun _ => 0))) (fun _ _ _ _ k => lv_iconst (v := nI 4) X.1 X.2.1 dX0_init_5 (by decide) k) dX0_init_4 dX0_init_6 dX0_init_8 (dz_t1 (i := 43) rfl rfl) rfl rfl (fun _ h => h) (ct_aI _) (by decide) (nI_clamp (by decide)) (by decide +kernel) (by decide +kernel) (by decide +kernel) (by decide) rfl rfl rfl (fun _ => rfl) (fun _ => rfl) (Nat.le_of_ble_eq_true rfl) (fun q1 => ?_)
  refine ct_fs (pc2 := 11) (fs2 := [.ref q1, .null, .null, .null, .null, .null, .int 0, .int 0]) (as2 := (ca_I cy q1 4 :: ([] : va_W))) (k2 := 1) (s2 := 4) (by decide +kernel) rfl rfl (by decide +kernel) (by decide +kernel) ?_
  refine ct_arr X (n := nI 4) (N := 4) (t0 := 0) (a0 := (4, .inl (fun _ => 0))) (fun _ _ _ _ k => lv_iconst (v := nI 4) X.1 X.2.1 dX0_init_12 (by decide) k) dX0_init_11 dX0_init_13 dX0_init_15 (dz_t1 (i := 43) rfl rfl) rfl rfl (fun _ h => h) (ct_aI _) (by decide) (nI_clamp (by decide)) (by decide +kernel) (by decide +kernel) (by decide +kernel) (by decide) rfl rfl rfl (fun _ => rfl) (fun _ => rfl) (Nat.le_of_ble_eq_true rfl) (fun q2 => ?_)
  refine ct_fs (pc2 := 18) (fs2 := [.ref q1, .ref q2, .null, .null, .null, .null, .int 0, .int 0]) (as2 := (ca_I cy q1 4 :: (ca_I cy q2 4 :: ([] : va_W)))) (k2 := 2) (s2 := 8) (by decide +kernel) rfl rfl (by decide +kernel) (by decide +kernel) ?_
  refine ct_arr X (n := nI 4) (N := 4) (t0 := 0) (a0 := (4, .inl (fun _ => 0))) (fun _ _ _ _ k => lv_iconst (v := nI 4) X.1 X.2.1 dX0_init_19 (by decide) k) dX0_init_18 dX0_init_20 dX0_init_22 (dz_t1 (i := 43) rfl rfl) rfl rfl (fun _ h => h) (ct_aI _) (by decide) (nI_clamp (by decide)) (by decide +kernel) (by decide +kernel) (by decide +kernel) (by decide) rfl rfl rfl (fun _ => rfl) (fun _ => rfl) (Nat.le_of_ble_eq_true rfl) (fun q3 => ?_)
  refine ct_fs (pc2 := 25) (fs2 := [.ref q1, .ref q2, .ref q3, .null, .null, .null, .int 0, .int 0]) (as2 := (ca_I cy q1 4 :: (ca_I cy q2 4 :: (ca_I cy q3 4 :: ([] : va_W))))) (k2 := 3) (s2 := 12) (by decide +kernel) rfl rfl (by decide +kernel) (by decide +kernel) ?_
  refine ct_arr X (n := nI 4) (N := 4) (t0 := 0) (a0 := (4, .inl (fun _ => 0))) (fun _ _ _ _ k => lv_iconst (v := nI 4) X.1 X.2.1 dX0_init_26 (by decide) k) dX0_init_25 dX0_init_27 dX0_init_29 (dz_t1 (i := 43) rfl rfl) rfl rfl (fun _ h => h) (ct_aI _) (by decide) (nI_clamp (by decide)) (by decide +kernel) (by decide +kernel) (by decide +kernel) (by decide) rfl rfl rfl (fun _ => rfl) (fun _ => rfl) (Nat.le_of_ble_eq_true rfl) (fun q4 => ?_)
  refine ct_fs (pc2 := 32) (fs2 := [.ref q1, .ref q2, .ref q3, .ref q4, .null, .null, .int 0, .int 0]) (as2 := (ca_I cy q1 4 :: (ca_I cy q2 4 :: (ca_I cy q3 4 :: (ca_I cy q4 4 :: ([] : va_W)))))) (k2 := 4) (s2 := 16) (by decide +kernel) rfl rfl (by decide +kernel) (by decide +kernel) ?_
  refine ct_arr X (n := nI 8) (N := 8) (t0 := 0) (a0 := (8, .inl (fun _ => 0))) (fun _ _ _ _ k => lv_bipush (v := nI 8) X.1 X.2.1 dX0_init_33 (by decide) k) dX0_init_32 dX0_init_35 dX0_init_37 (dz_t1 (i := 43) rfl rfl) rfl rfl (fun _ h => h) (ct_aI _) (by decide) (nI_clamp (by decide)) (by decide +kernel) (by decide +kernel) (by decide +kernel) (by decide) rfl rfl rfl (fun _ => rfl) (fun _ => rfl) (Nat.le_of_ble_eq_true rfl) (fun q5 => ?_)
  refine ct_fs (pc2 := 40) (fs2 := [.ref q1, .ref q2, .ref q3, .ref q4, .ref q5, .null, .int 0, .int 0]) (as2 := (ca_I cy q1 4 :: (ca_I cy q2 4 :: (ca_I cy q3 4 :: (ca_I cy q4 4 :: (ca_I cy q5 8 :: ([] : va_W))))))) (k2 := 5) (s2 := 24) (by decide +kernel) rfl rfl (by decide +kernel) (by decide +kernel) ?_
  refine ct_arr X (n := nI 4) (N := 4) (t0 := 0) (a0 := (4, .inl (fun _ => 0))) (fun _ _ _ _ k => lv_iconst (v := nI 4) X.1 X.2.1 dX0_init_41 (by decide) k) dX0_init_40 dX0_init_42 dX0_init_44 (dz_t1 (i := 43) rfl rfl) rfl rfl (fun _ h => h) (ct_aI _) (by decide) (nI_clamp (by decide)) (by decide +kernel) (by decide +kernel) (by decide +kernel) (by decide) rfl rfl rfl (fun _ => rfl) (fun _ => rfl) (Nat.le_of_ble_eq_true rfl) (fun q6 => ?_)
  refine ct_fs (pc2 := 47) (fs2 := [.ref q1, .ref q2, .ref q3, .ref q4, .ref q5, .ref q6, .int 0, .int 0]) (as2 := (ca_I cy q1 4 :: (ca_I cy q2 4 :: (ca_I cy q3 4 :: (ca_I cy q4 4 :: (ca_I cy q5 8 :: (ca_I cy q6 4 :: ([] : va_W)))))))) (k2 := 6) (s2 := 28) (by decide +kernel) rfl rfl (by decide +kernel) (by decide +kernel) ?_
  exact fun H locs ls hP hD hS hl => hr 47 _ _ _ _ H locs ls (by decide +kernel) (by decide +kernel) dX0_init_47 ⟨q1, q2, q3, q4, q5, q6, rfl⟩ hP hD hS
def fs_X1 : List Value := [.null, .null, .int 0, .int 0]
def sh_X1 (cy : Nat → ClassId) (h0 : Nat) (ws : va_W) : Prop := ∃ q1 : Nat, ∃ r1 : Nat → Nat, ∃ q3 : Nat, ws = (h0, .inr (1, [.ref q1, .ref q3, .int 0, .int 0])) :: (co_I cy q1 10 r1 :: List.append (cr_I cy r1 10 9) (ca_I cy q3 9 :: ([] : va_W)))
set_option maxRecDepth 100000 in
set_option maxHeartbeats 4000000 in
theorem c_X1_init (l : Launch) (D : va_G) (cy : Nat → ClassId) (h0 sz : Nat) : ct_Cl l D cy mX1_init 1 12 12 109 1 fs_X1 h0 sz (sh_X1 cy h0) := by
  refine ct_body dz_mX1_init rfl (by decide) rfl (by decide) rfl (fun p e s m args below meth c Q X hr => ?_)
  refine ct_obj0 X dX1_init_0 dX1_init_1 (dz_t1 (i := 27) rfl rfl) (by decide) (by decide) ?_
  refine ct_mna X (n := nI 10) (mm := nI 9) (N := 10) (M := 9) (ty := .int) (t0 := 0) (t1 := 3) (z := (9, .inl (fun _ => 0))) (fun _ _ _ _ k => lv_bipush (v := nI 10) X.1 X.2.1 dX1_init_5 (by decide) k) (fun _ _ _ _ k => lv_bipush (v := nI 9) X.1 X.2.1 dX1_init_7 (by decide) k) dX1_init_4 dX1_init_9 dX1_init_13 (dz_t1 (i := 28) rfl rfl) X.2.2.2.2.2.2.2.2.1 (dz_t1 (i := 43) rfl rfl) rfl rfl (fun _ h => h) (by decide) (by decide) (nI_clamp (by decide)) (nI_clamp (by decide)) (by decide +kernel) (by decide +kernel) (by decide +kernel) rfl rfl (by decide +kernel) (by decide +kernel) (ct_inI _) (by decide) rfl rfl rfl (fun _ => rfl) (fun _ => rfl) (Nat.le_of_ble_eq_true rfl) (fun q1 r1 => ?_)
  refine ct_fs (pc2 := 16) (fs2 := [.ref q1, .null, .int 0, .int 0]) (as2 := (co_I cy q1 10 r1 :: List.append (cr_I cy r1 10 9) ([] : va_W))) (k2 := 11) (s2 := 100) (by decide +kernel) rfl rfl (by decide +kernel) (by decide +kernel) ?_
  refine ct_arr X (n := nI 9) (N := 9) (t0 := 0) (a0 := (9, .inl (fun _ => 0))) (fun _ _ _ _ k => lv_bipush (v := nI 9) X.1 X.2.1 dX1_init_17 (by decide) k) dX1_init_16 dX1_init_19 dX1_init_21 (dz_t1 (i := 43) rfl rfl) rfl rfl (fun _ h => h) (ct_aI _) (by decide) (nI_clamp (by decide)) (by decide +kernel) (by decide +kernel) (by decide +kernel) (by decide) rfl rfl rfl (fun _ => rfl) (fun _ => rfl) (Nat.le_of_ble_eq_true rfl) (fun q3 => ?_)
  refine ct_fs (pc2 := 24) (fs2 := [.ref q1, .ref q3, .int 0, .int 0]) (as2 := (co_I cy q1 10 r1 :: List.append (cr_I cy r1 10 9) (ca_I cy q3 9 :: ([] : va_W)))) (k2 := 12) (s2 := 109) (by decide +kernel) rfl rfl (by decide +kernel) (by decide +kernel) ?_
  exact fun H locs ls hP hD hS hl => hr 24 _ _ _ _ H locs ls (by decide +kernel) (by decide +kernel) dX1_init_24 ⟨q1, r1, q3, rfl⟩ hP hD hS
