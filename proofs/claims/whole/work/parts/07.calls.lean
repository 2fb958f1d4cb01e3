/-! CONTRACTS over the layer: dz_Cl; calls; ends; the body -/
def dz_A (π : dz_Pl) (N : Nat) : Nat → Prop := fun q => ∃ c, c < N ∧ q = π.2.2.2 c
def dz_Pre (π : dz_Pl) (Λ : Nat → dz_Ds) (N : Nat) (vs : List dz_AV) (I : dz_MI) (J : dz_MJ) : Array Value → State → Prop := va_Pc (vs.map (dz_val π.2.2.2)) (fun U => dz_inj π.2.2.2 N ∧ va_P π.2.1 vwCl (dz_wl π Λ N I J) U.heap ∧ va_K π.2.1 vwCl (dz_tys π.2.2.1) U ∧ dz_Nw U)
def dz_Post (π : dz_Pl) (Λ : Nat → dz_Ds) (N : Nat) (post : Option dz_AV → dz_MI → dz_MJ → Prop) : Array Value → State → Outcome → State → Prop := fun _ st oc t => (∃ (r : Option dz_AV) (I' : dz_MI) (J' : dz_MJ), oc = .returned (r.map (dz_val π.2.2.2)) ∧ post r I' J' ∧ va_P π.2.1 vwCl (dz_wl π Λ N I' J') t.heap) ∧ va_F (dz_A π N) st t
def dz_Cl (π : dz_Pl) (Λ : Nat → dz_Ds) (N : Nat) (μ : dz_Mu) (F Lc : Nat) (vs : List dz_AV) (I : dz_MI) (J : dz_MJ) (post : Option dz_AV → dz_MI → dz_MJ → Prop) : Prop :=
  Met π.1 μ.1 (.code μ.1 μ.2.1 μ.2.2.1 μ.2.2.2 :: dz_WS) { frames := F, cells := 0, slots := 0, locals := Lc } (dz_Pre π Λ N vs I J) (dz_Post π Λ N post) 0 0 (dz_A π N)
theorem dz_Cl.mono {π : dz_Pl} {Λ : Nat → dz_Ds} {N : Nat} {μ : dz_Mu} {F Lc : Nat} {vs : List dz_AV} {I : dz_MI} {J : dz_MJ} {p1 p2 : Option dz_AV → dz_MI → dz_MJ → Prop} (h : dz_Cl π Λ N μ F Lc vs I J p1) (hp : ∀ r I' J', p1 r I' J' → p2 r I' J') : dz_Cl π Λ N μ F Lc vs I J p2 := by
  intro p e ha hc hk s m args below hf happ hP hK
  obtain ⟨n, o, h1, h2, h3, ⟨⟨r, I', J', h4, h5, h6⟩, h7⟩, h8⟩ := h p e ha hc hk s m args below hf happ hP hK
  exact ⟨n, o, h1, h2, h3, ⟨⟨r, I', J', h4, hp r I' J' h5, h6⟩, h7⟩, h8⟩
theorem dz_blind (π : dz_Pl) (Λ : Nat → dz_Ds) (N : Nat) (vs : List dz_AV) (I : dz_MI) (J : dz_MJ) : FrameBlind (dz_Pre π Λ N vs I J) := by
  intro a U g mk q
  obtain ⟨q0, q1, qP, qK, qN⟩ := q
  exact ⟨q0, q1, qP, va_K.moved (u := U) (U := U.calling g mk a) (Vm.Alike.refl U.vm) qK, dz_Nw.same rfl qN⟩
section DZC
variable {π : dz_Pl} {Λ : Nat → dz_Ds} {N nL own F Lc : Nat} {A : Nat → Prop} {p : Program} {e : Env} {R : Room} {s : State} {m : MethodId} {args : Array Value} {below : List Frame} {meth : Method} {c : Code} {cells slots : Nat} {Q : State → Prop} {cc : ByteArray}
theorem dz_back {H : Heap} {locs : List Loc} {lsA : Array Slot} {pc : Nat} {st : List dz_AV} {st0 : List Value} {ls : dz_LS} {a : Array Value} (hA : ∀ a, a < N → A (π.2.2.2 a)) (hS : va_S A s.heap H locs) (hl : lv_has lsA nL (dz_map π.2.2.2 ls))
    (hr : va_Run p π.1 e R s m args below meth c H locs cells slots 0 0 (F0 m pc lsA st0) (st.map (dz_val π.2.2.2)) (dz_Post π Λ N (fun r I' J' => dz_W π Λ N nL A p e R s m args below meth c cells slots Q (pc + 3) I' J' ls (r.toList ++ st)) a) (dz_A π N)) :
    W p π.1 e R s m args below meth c H locs cells slots Q (F0 m pc lsA st0) := by
  intro T hT X
  obtain ⟨v, st₀, t, T', L, h0, X', hL, e1, e2, ⟨⟨r, I', J', hv, hp, hP1⟩, hz, hk⟩, stp⟩ := hr T hT X
  rw [h0] at hz hk
  have hv2 : v = r.map (dz_val π.2.2.2) := by injection hv
  have hS1 : va_S A s.heap T'.heap (locs ++ L) := ⟨Nat.le_trans hS.1 (by rw [e1]; exact hz), fun q h1 h2 => by
      rw [e1, hk q (Nat.lt_of_lt_of_le h1 hS.1) (fun z => by obtain ⟨c9, hc9, rfl⟩ := z; exact h2 (hA c9 hc9))]
      exact hS.2.1 q h1 h2, fun q hq => by
      rcases List.mem_append.mp hq with h | h
      · exact hS.2.2 q h
      · obtain ⟨c9, hc9, e9⟩ := hL q h
        rw [e9]; exact hA c9 hc9⟩
  obtain ⟨t2, a1, b1⟩ := hp T'.heap (locs ++ L) lsA (by rw [e1]; exact hP1) hS1 hl T' rfl X'
  refine ⟨t2, stp t2 ?_, b1⟩
  have e9 : (r.toList ++ st).map (dz_val π.2.2.2) = v.toList ++ st.map (dz_val π.2.2.2) := by
    rw [hv2, List.map_append]
    cases r <;> rfl
  rw [e9] at a1
  exact a1
theorem dz_cb {idx : Nat} {μ : dz_Mu} {k F' L' : Nat} (X : dz_Ctx π N own nL F Lc cc A p R s m args c cells slots) (hm : dz_MW μ k) (hl : Cond.methodLink (dz_R own) idx μ.1 ∈ dz_WS) (hF : F' + 1 ≤ F) (hL : 8 + (μ.2.2.1 + 11) + L' ≤ Lc) :
    CallB R s args (dz_R own) idx μ.1 μ.2.1 μ.2.2.1 μ.2.2.2 (.code μ.1 μ.2.1 μ.2.2.1 μ.2.2.2 :: dz_WS) { frames := F', cells := 0, slots := 0, locals := L' } 0 0 k := by
  obtain ⟨hx, hb, hml, hown, hts, hK, hA, hinj, hF2, hL2, hc, hs, hnw⟩ := X
  obtain ⟨m1, m2, m3, m4, m5, m6⟩ := hm
  refine callB_of (Ts := dz_WS) (ws' := dz_WS) k hts (fun w hw => ?_) rfl rfl rfl (hts _ m1) (hts _ hl) ⟨m3, m4, m5⟩ ⟨by rw [hF2]; exact hF, by rw [hL2]; exact hL⟩
  rcases List.mem_cons.mp hw with rfl | hw
  · exact ⟨m2, dz_WS_good _ m2⟩
  · exact ⟨hw, dz_WS_good w hw⟩
theorem dz_callv {idx : Nat} {μ : dz_Mu} {k F' L' pc a ci : Nat} {vs st : List dz_AV} {I : dz_MI} {J : dz_MJ} {ls : dz_LS} {fs : List (Option (Option Nat))} (X : dz_Ctx π N own nL F Lc cc A p R s m args c cells slots) (lk : dz_Lv (dz_R own) idx μ k) (d : decode cc pc = .ok (.invokevirtual idx, 3)) (hn : vs.length = k) (hF : F' + 1 ≤ F) (hL : 8 + (μ.2.2.1 + 11) + L' ≤ Lc) (ha : a < N) (hLa : Λ a = .inl (ci, fs)) (hci : ci < 6) (hcls : dz_R ci = μ.1.cls) (hst : dz_wd st ≤ 8)
    (h : dz_Cl π Λ N μ F' L' (.inr (.inr a) :: vs) I J (fun r I' J' => dz_W π Λ N nL A p e R s m args below meth c cells slots Q (pc + 3) I' J' ls (r.toList ++ st))) : dz_W π Λ N nL A p e R s m args below meth c cells slots Q pc I J ls (vs.reverse ++ .inr (.inr a) :: st) := by
  intro H locs lsA hP hS hl
  obtain ⟨l0, l1, l2, l3⟩ := lk
  have hcb := dz_cb X l0 l1 hF hL
  obtain ⟨hx, hb, hml, hown, hts, hK, hA, hinj, hF2, hL2, hc, hs, hnw⟩ := X
  have hcell : (dz_wl π Λ N I J)[a]? = some (π.2.2.2 a, .inr (ci, fs.mapIdx (fun k f => dz_fv π.2.2.2 (I a) (J a) k f))) := by rw [dz_wl_get ha, hLa]; rfl
  refine dz_back (a := (Value.ref (π.2.2.2 a) :: vs.map (dz_val π.2.2.2)).toArray) hA hS hl (va_runV (C := dz_R ci) (b := π.2.2.2 a) (As := vs.map (dz_val π.2.2.2)) (nL := nL) (Ts := dz_WS) (own := dz_R own) (n := k) (bytes := μ.2.1) (maxL := μ.2.2.1) (ret := μ.2.2.2) ⟨hx, hb, hml, hown, hts⟩ h ⟨hcb, hts _ l2, by rw [hcls]; exact hts _ l3⟩ ⟨dz_blind _ _ _ _ _ _, va_recv hK hP (dz_cl ci hci) hcell, fun U hU hW => ⟨rfl, hinj, by rw [hU]; exact hP, va_K.moved hW.alike hK, dz_Nw.warm hW hnw⟩⟩ rfl (by simpa using hn) hl.1 (by simp [dz_val]) (lv_room (by rw [dz_wd_eq]; exact hst)) d ⟨hc, hs⟩)
theorem dz_calls {idx : Nat} {μ : dz_Mu} {k F' L' pc : Nat} {vs st : List dz_AV} {I : dz_MI} {J : dz_MJ} {ls : dz_LS} (X : dz_Ctx π N own nL F Lc cc A p R s m args c cells slots) (lk : dz_Ls (dz_R own) idx μ k) (d : decode cc pc = .ok (.invokestatic idx, 3)) (hn : vs.length = k) (hF : F' + 1 ≤ F) (hL : 8 + (μ.2.2.1 + 11) + L' ≤ Lc) (hst : dz_wd st ≤ 8)
    (h : dz_Cl π Λ N μ F' L' vs I J (fun r I' J' => dz_W π Λ N nL A p e R s m args below meth c cells slots Q (pc + 3) I' J' ls (r.toList ++ st))) : dz_W π Λ N nL A p e R s m args below meth c cells slots Q pc I J ls (vs.reverse ++ st) := by
  intro H locs lsA hP hS hl
  obtain ⟨l0, l1, l2⟩ := lk
  have hcb := dz_cb X l0 l1 hF hL
  obtain ⟨hx, hb, hml, hown, hts, hK, hA, hinj, hF2, hL2, hc, hs, hnw⟩ := X
  refine dz_back (a := (vs.map (dz_val π.2.2.2)).toArray) hA hS hl (va_runS (As := vs.map (dz_val π.2.2.2)) (nL := nL) (Ts := dz_WS) (own := dz_R own) (n := k) (bytes := μ.2.1) (maxL := μ.2.2.1) (ret := μ.2.2.2) ⟨hx, hb, hml, hown, hts⟩ h ⟨hcb, hts _ l2⟩ ⟨dz_blind _ _ _ _ _ _, fun U hU hW => ⟨rfl, hinj, by rw [hU]; exact hP, va_K.moved hW.alike hK, dz_Nw.warm hW hnw⟩⟩ rfl (by simpa using hn) hl.1 (by simp) (lv_room (by rw [dz_wd_eq]; exact hst)) d ⟨hc, hs⟩)
def dz_Lsn (own idx : Nat) (μ : dz_Mu) (k : Nat) : Prop := dz_Ls (dz_R own) idx μ k ∨ (dz_MW μ k ∧ Cond.static μ.1 ∈ dz_WS ∧ μ.1 = yX4_hasBit ∧ ((own = 3 ∧ idx = 22) ∨ (own = 2 ∧ idx = 92)))
theorem dz_callsn {idx : Nat} {μ : dz_Mu} {k F' L' pc : Nat} {vs st : List dz_AV} {I : dz_MI} {J : dz_MJ} {ls : dz_LS} (X : dz_Ctx π N own nL F Lc cc A p R s m args c cells slots) (lk : dz_Lsn own idx μ k) (d : decode cc pc = .ok (.invokestatic idx, 3)) (hn : vs.length = k) (hF : F' + 1 ≤ F) (hL : 8 + (μ.2.2.1 + 11) + L' ≤ Lc) (hst : dz_wd st ≤ 8)
    (h : dz_Cl π Λ N μ F' L' vs I J (fun r I' J' => dz_W π Λ N nL A p e R s m args below meth c cells slots Q (pc + 3) I' J' ls (r.toList ++ st))) : dz_W π Λ N nL A p e R s m args below meth c cells slots Q pc I J ls (vs.reverse ++ st) := by
  rcases lk with lk | ⟨l0, l2, hy, hn2⟩
  · exact dz_calls X lk d hn hF hL hst h
  · intro H locs lsA hP hS hl
    obtain ⟨hx, hb, hml, hown, hts, hK, hA, hinj, hF2, hL2, hc, hs, hnw⟩ := X
    obtain ⟨m1, m2, m3, m4, m5, m6⟩ := l0
    have hlink : va_Nw (.methodLinkNest (dz_R own) idx μ.1 RX4) s := by
      rcases hn2 with ⟨rfl, rfl⟩ | ⟨rfl, rfl⟩
      · rw [hy]; exact hnw.1
      · rw [hy]; exact hnw.2
    have hcb : va_CN R s args (dz_R own) idx μ.1 RX4 μ.2.1 μ.2.2.1 μ.2.2.2 (.code μ.1 μ.2.1 μ.2.2.1 μ.2.2.2 :: dz_WS) { frames := F', cells := 0, slots := 0, locals := L' } 0 0 k := by
      refine va_cnB (Ts := dz_WS) (ws' := dz_WS) k hts (fun w hw => ?_) rfl rfl rfl hlink (hts _ m1) ⟨m3, m4, m5⟩ ⟨by rw [hF2]; exact hF, by rw [hL2]; exact hL⟩
      rcases List.mem_cons.mp hw with rfl | hw
      · exact ⟨m2, dz_WS_good _ m2⟩
      · exact ⟨hw, dz_WS_good w hw⟩
    refine dz_back (a := (vs.map (dz_val π.2.2.2)).toArray) hA hS hl (va_runSN (host := RX4) (As := vs.map (dz_val π.2.2.2)) (nL := nL) (Ts := dz_WS) (own := dz_R own) (n := k) (bytes := μ.2.1) (maxL := μ.2.2.1) (ret := μ.2.2.2) ⟨hx, hb, hml, hown, hts⟩ h ⟨hcb, hts _ l2, trivial⟩ ⟨dz_blind _ _ _ _ _ _, fun U hU hW => ⟨rfl, hinj, by rw [hU]; exact hP, va_K.moved hW.alike hK, dz_Nw.warm hW hnw⟩⟩ rfl (by simpa using hn) hl.1 (by simp) (lv_room (by rw [dz_wd_eq]; exact hst)) d ⟨hc, hs⟩)
end DZC
def dz_ent : Nat → List dz_AV → dz_LS
  | _, [] => []
  | k, v :: r => (k, v) :: dz_ent (if dz_isL v then k + 2 else k + 1) r
theorem dz_ent_eq (ad : Nat → Nat) : ∀ (vs : List dz_AV) (k : Nat), dz_map ad (dz_ent k vs) = lv_args k (vs.map (dz_val ad))
  | [], k => rfl
  | v :: r, k => by
    have ih := dz_ent_eq ad r (if dz_isL v then k + 2 else k + 1)
    have hc : (if (dz_val ad v).category = 2 then k + 2 else k + 1) = (if dz_isL v then k + 2 else k + 1) := by
      rcases v with x | x | c <;> rfl
    show (k, dz_val ad v) :: dz_map ad (dz_ent _ r) = (k, dz_val ad v) :: lv_args (if (dz_val ad v).category = 2 then k + 2 else k + 1) (r.map (dz_val ad))
    rw [hc, ih]
theorem dz_sl_len (ad : Nat → Nat) : ∀ (vs : List dz_AV), (lg_sl (vs.map (dz_val ad))).length = dz_wd vs
  | [] => rfl
  | v :: r => by
    have ih := dz_sl_len ad r
    rw [List.map_cons]
    show (lg_sl ([dz_val ad v] ++ r.map (dz_val ad))).length = _
    unfold lg_sl at ih ⊢
    rw [List.flatMap_append, List.length_append, ih]
    rcases v with x | x | c <;> simp [dz_val, dz_wd, dz_isL, Value.category]
def dz_Clo (π : dz_Pl) (Λ : Nat → dz_Ds) (N own : Nat) (μ : dz_Mu) (F Lc : Nat) (post : Option dz_AV → dz_MI → dz_MJ → Prop) (V : dz_Vt) : Prop :=
  (∀ {pc n : Nat} {i : Instr} {I : dz_MI} {J : dz_MJ} {ls : dz_LS} {st : List dz_AV}, decode μ.2.1 pc = .ok (i, n) → dz_wp Λ N own μ.2.2.1 F Lc i n pc I J ls st V → V pc I J ls st) ∧
  (∀ {idx : Nat} {ν : dz_Mu} {k F' L' pc a ci : Nat} {vs st : List dz_AV} {I : dz_MI} {J : dz_MJ} {ls : dz_LS} {fs : List (Option (Option Nat))}, dz_Lv (dz_R own) idx ν k → decode μ.2.1 pc = .ok (.invokevirtual idx, 3) → vs.length = k → F' + 1 ≤ F → 8 + (ν.2.2.1 + 11) + L' ≤ Lc → a < N → Λ a = .inl (ci, fs) → ci < 6 → dz_R ci = ν.1.cls → dz_wd st ≤ 8 → dz_Cl π Λ N ν F' L' (.inr (.inr a) :: vs) I J (fun r I' J' => V (pc + 3) I' J' ls (r.toList ++ st)) → V pc I J ls (vs.reverse ++ .inr (.inr a) :: st)) ∧
  (∀ {idx : Nat} {ν : dz_Mu} {k F' L' pc : Nat} {vs st : List dz_AV} {I : dz_MI} {J : dz_MJ} {ls : dz_LS}, dz_Lsn own idx ν k → decode μ.2.1 pc = .ok (.invokestatic idx, 3) → vs.length = k → F' + 1 ≤ F → 8 + (ν.2.2.1 + 11) + L' ≤ Lc → dz_wd st ≤ 8 → dz_Cl π Λ N ν F' L' vs I J (fun r I' J' => V (pc + 3) I' J' ls (r.toList ++ st)) → V pc I J ls (vs.reverse ++ st)) ∧
  (∀ {pc : Nat} {I : dz_MI} {J : dz_MJ} {ls : dz_LS} {v : Int32} {ty : FieldType}, decode μ.2.1 pc = .ok (.ireturn, 1) → μ.2.2.2 = some ty → narrow ty (.int v) = .int v → post (some (.inl v)) I J → V pc I J ls [.inl v]) ∧
  (∀ {pc : Nat} {I : dz_MI} {J : dz_MJ} {ls : dz_LS} {v : Int64}, decode μ.2.1 pc = .ok (.lreturn, 1) → μ.2.2.2 = some .long → post (some (.inr (.inl v))) I J → V pc I J ls [.inr (.inl v)]) ∧
  (∀ {pc : Nat} {I : dz_MI} {J : dz_MJ} {ls : dz_LS}, decode μ.2.1 pc = .ok (.return_, 1) → μ.2.2.2 = none → post none I J → V pc I J ls []) ∧
  (∀ {pc : Nat} {I : dz_MI} {J : dz_MJ} {ls ls' : dz_LS} {st : List dz_AV}, dz_sub ls ls' → V pc I J ls' st → V pc I J ls st)
theorem dz_body {π : dz_Pl} {Λ : Nat → dz_Ds} {N own : Nat} {μ : dz_Mu} {F Lc : Nat} {vs : List dz_AV} {I : dz_MI} {J : dz_MJ} {post : Option dz_AV → dz_MI → dz_MJ → Prop} {k : Nat} (hm : dz_MW μ k) (ho : μ.1.cls = dz_R own) (hw : dz_wd vs ≤ μ.2.2.1) (h : ∀ V, dz_Clo π Λ N own μ F Lc post V → V 0 I J (dz_ent 0 vs) []) : dz_Cl π Λ N μ F Lc vs I J post := by
  refine Met.ofW (cc := μ.2.1) (maxL := μ.2.2.1) (ret := μ.2.2.2) hm.2.2.2.2.2 rfl ?_
  intro p e s m args below meth c s₁ B hml hv
  obtain ⟨rfl, hinj, hP, hK, hnw⟩ := hv
  have hts0 := atoms_spec (ws := .code μ.1 μ.2.1 μ.2.2.1 μ.2.2.2 :: dz_WS) B.pre
  have hts : ∀ w ∈ dz_WS, w.before (vs.map (dz_val π.2.2.2)).toArray s = true := fun w hw => hts0 w (List.mem_cons_of_mem _ hw)
  have hown : s.vm.findClass (dz_R own) = some m.cls := by rw [← ho]; exact findClass_of_methodNamed B.named
  have hlocks := B.notSynchronized
  have X : dz_Ctx π N own μ.2.2.1 F Lc μ.2.1 (dz_A π N) p { frames := F, cells := 0, slots := 0, locals := Lc } s m (vs.map (dz_val π.2.2.2)).toArray c 0 0 :=
    ⟨B.exec, B.bytes, hml, hown, hts, hK, fun a ha => ⟨a, ha, rfl⟩, hinj, rfl, rfl, Nat.le_refl _, Nat.le_refl _, hnw⟩
  have hl := lv_entry (vs.map (dz_val π.2.2.2)) (n := μ.2.2.1) (by rw [dz_sl_len]; exact hw)
  rw [lg_entry_eq]
  rw [← dz_ent_eq] at hl
  have hV := h (dz_W π Λ N μ.2.2.1 (dz_A π N) p e { frames := F, cells := 0, slots := 0, locals := Lc } s m (vs.map (dz_val π.2.2.2)).toArray below meth c 0 0 (MQ below (dz_Post π Λ N post) (vs.map (dz_val π.2.2.2)).toArray s 0 0 (dz_A π N)))
    ⟨fun d h => dz_clo X d h, fun lk d hn hF hL ha hLa hci hcls hst h => dz_callv X lk d hn hF hL ha hLa hci hcls hst h, fun lk d hn hF hL hst h => dz_callsn X lk d hn hF hL hst h,
     fun {pc I J ls v ty} d hr hn hp H locs lsA hP hS hl => W.zret B.exec B.bytes (by rw [B.returns]; exact hr) hn (fun t ht hW => ⟨⟨some (.inl v), I, J, rfl, hp, by rw [ht]; exact hP⟩, hS.F ht⟩) hS.2.2 d,
     fun {pc I J ls v} d hr hp H locs lsA hP hS hl => W.lret B.exec B.bytes (by rw [B.returns]; exact hr) (fun t ht hW => ⟨⟨some (.inr (.inl v)), I, J, rfl, hp, by rw [ht]; exact hP⟩, hS.F ht⟩) hS.2.2 d,
     fun {pc I J ls} d hr hp H locs lsA hP hS hl => W.vret B.exec B.bytes (by rw [B.returns]; exact hr) (fun t ht hW => ⟨⟨none, I, J, rfl, hp, by rw [ht]; exact hP⟩, hS.F ht⟩) hS.2.2 d,
     fun hs h H locs lsA hP hS hl => h H locs lsA hP hS (dz_sub_has hl hs)⟩
  exact hV s.heap [] _ hP va_S.rf hl
