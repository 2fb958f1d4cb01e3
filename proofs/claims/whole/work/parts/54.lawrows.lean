/-! THE CLAIM OUT OF ONE WALK OF THE LAW'S BODY. Your part is whole_start (and what it stands on); all else here is the same for every law, but numbers. -/
def R_law : String := "DrumYardLaw"
def lw_P (b : Addr) (xs : List Int32) (args : Array Value) (s : State) : Prop := args = #[.ref b] ∧ s.IntsAt b xs ∧ xs.length ≤ 3072 ∧ (Jvm.Cond.and given_1 narrow_1).before args s = true
def lw_Q (_ : Array Value) (s : State) (o : Outcome) (t : State) : Prop := o = .returned (some (.int 1)) ∧ Framed s o t [] 601024 7293034
def lw_Z (below : List Frame) (a : Array Value) (s : State) : State → Prop := fun t => ∃ o, t.status = .running ∧ Ended t below o ∧ lw_Q a s o t
/-- the law's own end, with 1 on the stack, nothing written that was there before, its room as the claim has it -/
theorem lw_ret {p : Program} {l : Launch} {e : Env} {s : State} {m : MethodId} {below : List Frame} {meth : Method} {c : Code} {b : Nat} (hx : p.tables.exec = Jvm.exec) (hb : c.code = code) (hr : meth.sig.returnType = ret) (hlocks : meth.locks = false) {pc : Nat} {H : Heap} {ls : Array Slot} (hdg : decode code pc = .ok (.ireturn, 1)) : W p l e room_1 s m #[Value.ref b] below meth c H [] 601024 7293034 (lw_Z below #[Value.ref b] s) (F0 m pc ls [.int 1]) := by
  intro T hT X
  obtain ⟨fs, hret, hrun, hended, hW, hframe⟩ := X.leave (v := some (.int 1)) (hlocks := hlocks) (fun h => by rw [hr] at h; cases h)
  have hmeth' : T.vm.method? m = some meth := X.method'
  refine ⟨T.setFrames fs, ?_, .returned (some (.int 1)), hrun, hended, rfl, ⟨_, rfl⟩, hW, hframe⟩
  jvm_step X.here [X.here.top, hx, hb, hdg, hmeth', hr, ret, narrow_b1]
  (try refine ⟨rfl, ?_⟩); (try refine ⟨rfl, ?_⟩)
  first | (intro acts; rw [hret _ acts rfl rfl rfl]) | rw [hret _ _ rfl rfl rfl]
  exact Steps.refl _
/-- what holds at the law's entry: the machine, the code, the tables' words (any of lw_tbl by 'hts w (by decide +kernel)'), the script of L ints xs at the cell b, what the Statement gives of the start (any of its parts by flat_of_before) -/
def lw_At (p : Program) (s : State) (m : MethodId) (meth : Method) (c : Code) (b L : Nat) (xs : Nat → Int32) : Prop :=
  p.tables.exec = Jvm.exec ∧ c.code = code ∧ meth.sig.returnType = ret ∧ c.maxLocals = 7 ∧ s.vm.findClass R_law = some m.cls ∧ (∀ w ∈ lw_tbl, w.before #[Value.ref b] s = true) ∧ va_X b L xs s s.heap ∧ b < s.heap.size ∧ meth.locks = false ∧ (Jvm.Cond.and given_1 narrow_1).before #[Value.ref b] s = true
theorem lt_gi : ∀ z ∈ va_wsS RL 96 yL_told (.codeWith yL_told cL_told 5 (some .int) [(0, 10, 13, 13)] :: dz_WS), z ∈ dz_WS ∧ ((z.onTables && z.keeps) = true ∨ ∃ ty, z = .arrayClass ty) := by
  have key : ∀ z ∈ va_wsS RL 96 yL_told (.codeWith yL_told cL_told 5 (some .int) [(0, 10, 13, 13)] :: dz_WS), z ∈ dz_WS := by
    unfold va_wsS
    refine List.forall_mem_append.mpr ⟨?_, List.forall_mem_cons.mpr ⟨(dz_t3 (i := 56) rfl rfl), fun z hz => hz⟩⟩
    exact List.forall_mem_cons.mpr ⟨(dz_t3 (i := 54) rfl rfl), List.forall_mem_cons.mpr ⟨(dz_t3 (i := 55) rfl rfl), List.forall_mem_cons.mpr ⟨(dz_t1 (i := 0) rfl rfl), fun _ h => absurd h List.not_mem_nil⟩⟩⟩
  exact fun z hz => ⟨key z hz, dz_WS_good z (key z hz)⟩
/-! THE LAW: its rows over the two worlds -/
def lq_X (p : Program) (l : Launch) (s : State) (m : MethodId) (c : Code) (b L : Nat) (xs : Nat → Int32) (D : va_G) (cy : Nat → ClassId) (aY aM : Nat → Nat) (qO : Nat) : Prop :=
  p.tables.exec = Jvm.exec ∧ c.code = cL_law ∧ c.maxLocals = 7 ∧ s.vm.findClass RL = some m.cls ∧ (∀ w ∈ dz_WS, w.before #[Value.ref b] s = true) ∧ va_X b L xs s s.heap ∧ b < s.heap.size ∧ va_K D vwCl (dz_tys cy) s ∧ dz_Nw s ∧ nx_N s ∧ nx_Z (fun q => s.heap.size ≤ q) s s.heap ∧ dz_inj aY 62 ∧ dz_inj aM 24 ∧ (∀ i, i < 62 → s.heap.size ≤ aY i) ∧ (∀ j, j < 24 → s.heap.size ≤ aM j) ∧ s.heap.size ≤ qO ∧ (∀ i j, i < 62 → j < 24 → aY i ≠ aM j) ∧ (∀ i, i < 62 → aY i ≠ qO) ∧ (∀ j, j < 24 → aM j ≠ qO) ∧ l.stackTraces = false ∧ L ≤ 3072
def lq_W (p : Program) (l : Launch) (e : Env) (s : State) (m : MethodId) (below : List Frame) (meth : Method) (c : Code) (b : Nat) (D : va_G) (cy : Nat → ClassId) (aY aM : Nat → Nat) (qO : Nat) (pc : Nat) (I : dz_MI) (J : dz_MJ) (I2 : dz_MI) (J2 : dz_MJ) (o : Nat → Int64) (lv : List (Nat × Value)) (st : List Value) (cells slots : Nat) : Prop :=
  ∀ (H : Heap) (locs : List Loc) (ls : Array Slot), va_P D vwCl (dz_wl (l, D, cy, aY) dz_Y 62 I J) H → va_P D vwCl (dz_wl (l, D, cy, aM) dz_M 24 I2 J2) H → va_P D vwCl [(qO, .inl (cy 1, (1, .inr (.inl o))))] H → va_S (fun q => s.heap.size ≤ q) s.heap H locs → lv_has ls 7 lv → W p l e room_1 s m #[Value.ref b] below meth c H locs cells slots (lw_Z below #[Value.ref b] s) (F0 m pc ls st)
section LQ
variable {p : Program} {l : Launch} {e : Env} {s : State} {m : MethodId} {below : List Frame} {meth : Method} {c : Code} {b L : Nat} {xs : Nat → Int32} {D : va_G} {cy : Nat → ClassId} {aY aM : Nat → Nat} {qO : Nat} {I I2 : dz_MI} {J J2 : dz_MJ} {o : Nat → Int64} {lv : List (Nat × Value)} {st : List Value} {cells slots : Nat}
theorem lq_kit {pc pc2 : Nat} {st2 : List Value} (h : ∀ (H : Heap) (locs : List Loc) (ls : Array Slot), lv_has ls 7 lv → va_S (fun q => s.heap.size ≤ q) s.heap H locs → W p l e room_1 s m #[Value.ref b] below meth c H locs cells slots (lw_Z below #[Value.ref b] s) (F0 m pc2 ls st2) → W p l e room_1 s m #[Value.ref b] below meth c H locs cells slots (lw_Z below #[Value.ref b] s) (F0 m pc ls st)) (kk : lq_W p l e s m below meth c b D cy aY aM qO pc2 I J I2 J2 o lv st2 cells slots) : lq_W p l e s m below meth c b D cy aY aM qO pc I J I2 J2 o lv st cells slots :=
  fun H locs ls h1 h2 h3 hS hl => h H locs ls hl hS (kk H locs ls h1 h2 h3 hS hl)
/-- script[i + k] -/
theorem lq_arg (X : lq_X p l s m c b L xs D cy aY aM qO) {pc k k0 k4 i : Nat} {kz : Int} (d0 : decode cL_law pc = .ok (.aload_n 0, 1)) (d1 : decode cL_law (pc + 1) = .ok (.iload 4, 2)) (d2 : decode cL_law (pc + 3) = .ok (.iconst kz, 1)) (d3 : decode cL_law (pc + 4) = .ok (.iadd, 1)) (d4 : decode cL_law (pc + 5) = .ok (.iaload, 1)) (hk : Int32.ofInt kz = nI k) (h0 : lv[k0]? = some (0, .ref b)) (h4 : lv[k4]? = some (4, .int (nI i))) (hi : i + k < L)
    (kk : lq_W p l e s m below meth c b D cy aY aM qO (pc + 6) I J I2 J2 o lv (.int (xs (i + k)) :: st) cells slots) : lq_W p l e s m below meth c b D cy aY aM qO pc I J I2 J2 o lv st cells slots := by
  obtain ⟨hx, hb, hml, hown, hts, hX, hbl, hK, hnw, hnx, hnz, iY, iM, fY, fM, fO, ap1, ap2, ap3, hst, hL⟩ := X
  intro H locs ls h1 h2 h3 hS hl
  refine lv_aload_n hx hb d0 rfl (lv_at hl k0 h0) ?_
  refine lv_iload hx hb d1 (lv_at hl k4 h4) ?_
  refine lv_iconst (v := nI k) hx hb d2 hk ?_
  refine lv_iadd hx hb d3 ?_
  rw [nI_add]
  refine va_sld hx hb hX hbl (Nat.not_le.mpr hbl) hS (vp_in_nI hi (by omega)) d4 ?_
  rw [nI_clamp (by omega)]
  exact kk H locs ls h1 h2 h3 hS hl
/-- a call of a made system -/
theorem lq_run (X : lq_X p l s m c b L xs D cy aY aM qO) {ad : Nat → Nat} {Λ : Nat → dz_Ds} {N ci idx k F2 L2 pc : Nat} {μ : dz_Mu} {vs : List dz_AV} {fs : List (Option (Option Nat))} {post : Option dz_AV → dz_MI → dz_MJ → Prop} {Ia : dz_MI} {Ja : dz_MJ} {H : Heap} {locs : List Loc} {ls : Array Slot} (hi : dz_inj ad N) (hf : ∀ i, i < N → s.heap.size ≤ ad i) (hN : 0 < N) (hΛ : Λ 0 = .inl (ci, fs)) (hci : ci < 6) (hcls : dz_R ci = μ.1.cls)
    (lk : dz_Lv RL idx μ k) (d : decode cL_law pc = .ok (.invokevirtual idx, 3)) (hn : vs.length = k) (hF : F2 + 1 ≤ 10) (hL2 : 8 + (μ.2.2.1 + 11) + L2 ≤ 336) (hw : (st.map fun v => v.category).sum ≤ 8) (hcs : cells ≤ 601024 ∧ slots ≤ 7293034)
    (h : dz_Cl (l, D, cy, ad) Λ N μ F2 L2 (.inr (.inr 0) :: vs) Ia Ja post) (hP : va_P D vwCl (dz_wl (l, D, cy, ad) Λ N Ia Ja) H) (hS : va_S (fun q => s.heap.size ≤ q) s.heap H locs) (hl : ls.size = 7)
    (kk : ∀ (r : Option dz_AV) (I' : dz_MI) (J' : dz_MJ) (H1 : Heap) (locs1 : List Loc), post r I' J' → va_P D vwCl (dz_wl (l, D, cy, ad) Λ N I' J') H1 → (∀ q : Nat, q < H.size → ¬ dz_A (l, D, cy, ad) N q → H1[q]? = H[q]?) → va_S (fun q => s.heap.size ≤ q) s.heap H1 locs1 → W p l e room_1 s m #[Value.ref b] below meth c H1 locs1 cells slots (lw_Z below #[Value.ref b] s) (F0 m (pc + 3) ls ((r.map (dz_val ad)).toList ++ st))) :
    W p l e room_1 s m #[Value.ref b] below meth c H locs cells slots (lw_Z below #[Value.ref b] s) (F0 m pc ls ((vs.map (dz_val ad)).reverse ++ .ref (ad 0) :: st)) := by
  obtain ⟨hx, hb, hml, hown, hts, hX, hbl, hK, hnw, hnx, hnz, iY, iM, fY, fM, fO, ap1, ap2, ap3, hst, hL⟩ := X
  obtain ⟨⟨m1, m2, m3, m4, m5, m6⟩, l1, l2, l3⟩ := lk
  have hcell : (dz_wl (l, D, cy, ad) Λ N Ia Ja)[0]? = some (ad 0, .inr (ci, fs.mapIdx (fun k f => dz_fv ad (Ia 0) (Ja 0) k f))) := by rw [dz_wl_get hN, hΛ]; rfl
  have hrun := va_runV (R := room_1) (s := s) (args := #[Value.ref b]) (p := p) (l := l) (e := e) (m := m) (below := below) (meth := meth) (c := c) (H := H) (locs := locs) (cells := cells) (slots := slots) (C := dz_R ci) (As := vs.map (dz_val ad)) (rest := st) (b := ad 0) (cc := cL_law) (nL := 7) (Ts := dz_WS) (own := RL) (n := k) (bytes := μ.2.1) (maxL := μ.2.2.1) (ret := μ.2.2.2) (g := F0 m pc ls ((vs.map (dz_val ad)).reverse ++ .ref (ad 0) :: st)) ⟨hx, hb, hml, hown, hts⟩ h
    ⟨callB_of (Ts := dz_WS) (ws' := dz_WS) k hts (fun z hz => (List.mem_cons.mp hz).elim (fun y => by rw [y]; exact ⟨m2, dz_WS_good _ m2⟩) (fun y => ⟨y, dz_WS_good z y⟩)) rfl rfl rfl (hts _ m1) (hts _ l1) ⟨m3, m4, m5⟩ ⟨hF, hL2⟩, hts _ l2, by rw [hcls]; exact hts _ l3⟩
    ⟨dz_blind _ _ _ _ _ _, va_recv hK hP (dz_cl ci hci) hcell, fun U hU hW => ⟨rfl, hi, by rw [hU]; exact hP, va_K.moved hW.alike hK, dz_Nw.warm hW hnw⟩⟩ rfl (by simpa using hn) hl rfl (lv_room hw) d ⟨hcs.1, hcs.2⟩
  intro T hT Xs
  obtain ⟨v, st₀, t, T', L9, h0, X', hLL, e1, e2, ⟨⟨r, I', J', hv, hp, hP1⟩, hz, hk⟩, stp⟩ := hrun T hT Xs
  rw [h0] at hz hk
  have hv2 : v = r.map (dz_val ad) := by injection hv
  subst hv2
  obtain ⟨t2, a1, b1⟩ := kk r I' J' T'.heap (locs ++ L9) hp (by rw [e1]; exact hP1) (fun q h1 h2 => by rw [e1]; exact hk q h1 h2) ⟨Nat.le_trans hS.1 (by rw [e1]; exact hz), fun q h1 h2 => by
      rw [e1, hk q (Nat.lt_of_lt_of_le h1 hS.1) (fun ⟨i, hi2, ee⟩ => h2 (by rw [ee]; exact hf i hi2))]
      exact hS.2.1 q h1 h2, fun q hq => by
      rcases List.mem_append.mp hq with h | h
      · exact hS.2.2 q h
      · obtain ⟨i, hi2, ee⟩ := hLL q h
        rw [ee]; exact hf i hi2⟩ T' rfl X'
  exact ⟨t2, stp t2 a1, b1⟩
theorem lq_cY (X : lq_X p l s m c b L xs D cy aY aM qO) {idx k F2 L2 pc : Nat} {μ : dz_Mu} {vs : List dz_AV} {post : Option dz_AV → dz_MI → dz_MJ → Prop} (hcls : dz_R 4 = μ.1.cls) (lk : dz_Lv RL idx μ k) (d : decode cL_law pc = .ok (.invokevirtual idx, 3)) (hn : vs.length = k) (hF : F2 + 1 ≤ 10) (hL2 : 8 + (μ.2.2.1 + 11) + L2 ≤ 336) (hw : (st.map fun v => v.category).sum ≤ 8) (hcs : cells ≤ 601024 ∧ slots ≤ 7293034) (h : dz_Cl (l, D, cy, aY) dz_Y 62 μ F2 L2 (.inr (.inr 0) :: vs) I J post)
    (kk : ∀ r I' J', post r I' J' → lq_W p l e s m below meth c b D cy aY aM qO (pc + 3) I' J' I2 J2 o lv ((r.map (dz_val aY)).toList ++ st) cells slots) : lq_W p l e s m below meth c b D cy aY aM qO pc I J I2 J2 o lv ((vs.map (dz_val aY)).reverse ++ .ref (aY 0) :: st) cells slots := by
  intro H locs ls h1 h2 h3 hS hl
  have Xc := X
  obtain ⟨hx, hb, hml, hown, hts, hX, hbl, hK, hnw, hnx, hnz, iY, iM, fY, fM, fO, ap1, ap2, ap3, hst, hL⟩ := Xc
  refine lq_run X iY fY (by decide) rfl (by decide) hcls lk d hn hF hL2 hw hcs h h1 hS hl.1 (fun r I' J' H1 locs1 hp hP1 hk hS1 => ?_)
  refine kk r I' J' hp H1 locs1 ls hP1 (h2.kept (fun k q hq => ?_)) (h3.kept (fun k q hq => ?_)) hS1 hl
  · obtain ⟨g1, rfl⟩ := dz_wl_at hq
    exact hk _ (h2 _ _ hq).lt (fun ⟨i, hi2, ee⟩ => ap1 i k hi2 g1 ee.symm)
  · have g1 : k < 1 := (List.getElem?_eq_some_iff.mp hq).1
    have hlt := (h3 _ _ hq).lt
    rw [show k = 0 by omega] at hq
    cases hq
    exact hk _ hlt (fun ⟨i, hi2, ee⟩ => ap2 i hi2 ee.symm)
theorem lq_cM (X : lq_X p l s m c b L xs D cy aY aM qO) {idx k F2 L2 pc : Nat} {μ : dz_Mu} {vs : List dz_AV} {post : Option dz_AV → dz_MI → dz_MJ → Prop} (hcls : dz_R 5 = μ.1.cls) (lk : dz_Lv RL idx μ k) (d : decode cL_law pc = .ok (.invokevirtual idx, 3)) (hn : vs.length = k) (hF : F2 + 1 ≤ 10) (hL2 : 8 + (μ.2.2.1 + 11) + L2 ≤ 336) (hw : (st.map fun v => v.category).sum ≤ 8) (hcs : cells ≤ 601024 ∧ slots ≤ 7293034) (h : dz_Cl (l, D, cy, aM) dz_M 24 μ F2 L2 (.inr (.inr 0) :: vs) I2 J2 post)
    (kk : ∀ r I' J', post r I' J' → lq_W p l e s m below meth c b D cy aY aM qO (pc + 3) I J I' J' o lv ((r.map (dz_val aM)).toList ++ st) cells slots) : lq_W p l e s m below meth c b D cy aY aM qO pc I J I2 J2 o lv ((vs.map (dz_val aM)).reverse ++ .ref (aM 0) :: st) cells slots := by
  intro H locs ls h1 h2 h3 hS hl
  have Xc := X
  obtain ⟨hx, hb, hml, hown, hts, hX, hbl, hK, hnw, hnx, hnz, iY, iM, fY, fM, fO, ap1, ap2, ap3, hst, hL⟩ := Xc
  refine lq_run X iM fM (by decide) rfl (by decide) hcls lk d hn hF hL2 hw hcs h h2 hS hl.1 (fun r I' J' H1 locs1 hp hP1 hk hS1 => ?_)
  refine kk r I' J' hp H1 locs1 ls (h1.kept (fun k q hq => ?_)) hP1 (h3.kept (fun k q hq => ?_)) hS1 hl
  · obtain ⟨g1, rfl⟩ := dz_wl_at hq
    exact hk _ (h1 _ _ hq).lt (fun ⟨i, hi2, ee⟩ => ap1 k i g1 hi2 ee)
  · have g1 : k < 1 := (List.getElem?_eq_some_iff.mp hq).1
    have hlt := (h3 _ _ hq).lt
    rw [show k = 0 by omega] at hq
    cases hq
    exact hk _ hlt (fun ⟨i, hi2, ee⟩ => ap3 i hi2 ee.symm)
/-- the law's told -/
theorem lq_told (X : lq_X p l s m c b L xs D cy aY aM qO) {sg : dz_Sg} {d w : Int32} (hO : dz_OK sg) (hY : YI sg I J) (hcs : cells + 1 ≤ 601024 ∧ slots + 6 ≤ 7293034)
    (kk : ∀ (k : Int32) (o2 : Nat → Int64), ((k = nI 0 ∧ q_tok sg d w ∧ o2 0 = (sg_f sg d.toNatClampNeg w.toNatClampNeg).toInt64) ∨ (k = nI 1 ∧ ¬ q_tok sg d w)) → lq_W p l e s m below meth c b D cy aY aM qO 751 I J I2 J2 o2 lv [.int k] (cells + 1) (slots + 6)) : lq_W p l e s m below meth c b D cy aY aM qO 748 I J I2 J2 o lv [.ref qO, .int w, .int d, .ref (aY 0)] cells slots := by
  intro H locs ls h1 h2 h3 hS hl
  obtain ⟨hx, hb, hml, hown, hts, hX, hbl, hK, hnw, hnx, hnz, iY, iM, fY, fM, fO, ap1, ap2, ap3, hst, hL⟩ := X
  have hPw : va_P D vwCl (lt_w (l, D, cy, aY) qO o I J) H := va_P.app h1 h3
  have hZ : nx_Z (lt_A (l, D, cy, aY) qO) s H := by
    have hn : ∀ q, lt_A (l, D, cy, aY) qO q → s.heap.size ≤ q := fun q hq => hq.elim (fun ⟨i, hi, ee⟩ => by rw [ee]; exact fY i hi) (fun z => by rw [z]; exact fO)
    exact ⟨(hnz.1.kept hS.2.1).narrow hn, (hnz.2.kept hS.2.1).narrow hn⟩
  have hrun := vx_runSW (R := room_1) (s := s) (args := #[Value.ref b]) (p := p) (l := l) (e := e) (m := m) (below := below) (meth := meth) (c := c) (H := H) (locs := locs) (cells := cells) (slots := slots) (As := [.ref (aY 0), .int d, .int w, .ref qO]) (rest := []) (cc := cL_law) (nL := 7) (Ts := dz_WS) (own := RL) (n := 4) (bytes := cL_told) (maxL := 5) (ret := some .int) (hh := [(0, 10, 13, 13)]) (g := F0 m 748 ls [.ref qO, .int w, .int d, .ref (aY 0)]) ⟨hx, hb, hml, hown, hts⟩ (c_L_told (l, D, cy, aY) hst qO d w o I J hO hY.1)
    (vx_cwSW (Ts := dz_WS) (ws' := dz_WS) 4 hts (fun z hz => lt_gi z hz) rfl rfl rfl ⟨by decide, by decide, by decide +kernel⟩ ⟨by decide, by decide⟩)
    ⟨lt_blind _ _ _ _ _ _ _, fun U hU hW => ⟨rfl, iY, by rw [hU]; exact hPw, ap2, va_K.moved hW.alike hK, dz_Nw.warm hW hnw, hnx.warm hW, ⟨vx_Zq.moved hW.alike (by rw [hU]; exact hZ.1), vx_Zq.moved hW.alike (by rw [hU]; exact hZ.2)⟩⟩⟩ rfl rfl hl.1 rfl (lv_room (Nat.le_of_ble_eq_true rfl)) dL_law_748 ⟨hcs.1, hcs.2⟩
  intro T hT Xs
  obtain ⟨v, st₀, t, T', L9, h0, X', hLL, e1, e2, ⟨⟨k, o2, hv, hP1, hc⟩, hz, hk⟩, stp⟩ := hrun T hT Xs
  rw [h0] at hz hk
  have hv2 : v = some (.int k) := by injection hv
  subst hv2
  have hA : ∀ q, lt_A (l, D, cy, aY) qO q → s.heap.size ≤ q := fun q hq => hq.elim (fun ⟨i, hi, ee⟩ => by rw [ee]; exact fY i hi) (fun z => by rw [z]; exact fO)
  obtain ⟨t2, a1, b1⟩ := kk k o2 hc T'.heap (locs ++ L9) ls (by rw [e1]; exact hP1.mem (fun x hx => List.mem_append_left _ hx)) (h2.kept (fun k q hq => by
      obtain ⟨g1, rfl⟩ := dz_wl_at hq
      rw [e1]
      exact hk _ (h2 _ _ hq).lt (fun z => z.elim (fun ⟨i, hi2, ee⟩ => ap1 i k hi2 g1 ee.symm) (fun ee => ap3 k g1 ee)))) (by rw [e1]; exact hP1.mem (fun x hx => List.mem_append_right _ hx)) ⟨Nat.le_trans hS.1 (by rw [e1]; exact hz), fun q h1 h2 => by
      rw [e1, hk q (Nat.lt_of_lt_of_le h1 hS.1) (fun z => h2 (hA q z))]
      exact hS.2.1 q h1 h2, fun q hq => by
      rcases List.mem_append.mp hq with h | h
      · exact hS.2.2 q h
      · exact hA _ (hLL q h)⟩ hl T' rfl X'
  exact ⟨t2, stp t2 a1, b1⟩
end LQ
