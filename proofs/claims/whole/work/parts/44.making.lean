/-! MAKING: what constructors lay, a world as a list: the receiver first -/
theorem ao_spec {args : Array Value} {s : State} {ty : FieldType} (h : (Cond.arrayOver (.array ty)).before args s = true) : ∃ (c : ClassId) (k : Class) (comp : ClassId), s.vm.classes[c]? = some k ∧ k.kind = .array comp (.array ty) ∧ s.vm.findClass ("[" ++ (FieldType.array ty).toString) = some c := by
  have h : (Cond.arrayOver (.array ty)).holds args s none s [] = true := h
  simp only [Cond.holds, Cond.value, beq_iff_eq] at h
  cases hc : s.vm.findClass (FieldType.array ty).toString with
  | none => simp [hc] at h
  | some comp =>
    simp only [hc, Option.bind_some, Option.bind_eq_some_iff, Option.map_eq_some_iff] at h
    obtain ⟨c, hi, k, hk, hb⟩ := h
    obtain ⟨hlt, hp, -⟩ := Array.findIdx?_eq_some_iff_getElem.mp hi
    have hkk : s.vm.classes[c] = k := (Array.getElem?_eq_some_iff.mp hk).2
    rw [hkk] at hp
    cases hkind : k.kind with
    | array component ty =>
      rw [hkind] at hb hp
      simp at hb hp
      exact ⟨c, k, comp, hk, by rw [hkind, hp, hb.1], hb.2⟩
    | _ => rw [hkind] at hb; simp at hb
theorem va_AOA.moved {ty : FieldType} {u U : State} (hvm : u.vm.Alike U.vm) (h : va_AOA ty u) : va_AOA ty U := by
  have e := Cond.arrayOver_setVmC (args := #[]) hvm (.array ty)
  have e2 : (Cond.arrayOver (.array ty)).before #[] U = (Cond.arrayOver (.array ty)).before #[] (u.setVm U.vm) := rfl
  unfold va_AOA
  rw [e2, e]
  exact h
def ct_X (p : Program) (s : State) (m : MethodId) (args : Array Value) (meth : Method) (c : Code) (D : va_G) (cy : Nat → ClassId) (A : Nat → Prop) (own nL : Nat) (cc : ByteArray) : Prop := p.tables.exec = Jvm.exec ∧ c.code = cc ∧ c.maxLocals = nL ∧ s.vm.findClass (dz_R own) = some m.cls ∧ (∀ w ∈ dz_WS, w.before args s = true) ∧ va_K D vwCl (dz_tys cy) s ∧ (∀ q, s.heap.size ≤ q → A q) ∧ meth.name = "<init>" ∧ va_AOA .int s ∧ va_AOA .long s
def ct_J (p : Program) (l : Launch) (e : Env) (R : Room) (s : State) (m : MethodId) (args : Array Value) (below : List Frame) (meth : Method) (c : Code) (Q : State → Prop) (D : va_G) (A : Nat → Prop) (own nL h0 : Nat) (pc : Nat) (fs : List Value) (as : va_W) (cells slots : Nat) : Prop := ∀ (H : Heap) (locs : List Loc) (ls : Array Slot), va_P D vwCl ((h0, .inr (own, fs)) :: as) H → va_D A ((h0, .inr (own, fs)) :: as) → va_S A s.heap H locs → lv_has ls nL [(0, .ref h0)] → W p l e R s m args below meth c H locs cells slots Q (F0 m pc ls [])
section CT
variable {p : Program} {l : Launch} {e : Env} {R : Room} {s : State} {m : MethodId} {args : Array Value} {below : List Frame} {meth : Method} {c : Code} {Q : State → Prop} {D : va_G} {cy : Nat → ClassId} {A : Nat → Prop} {own nL h0 : Nat} {cc : ByteArray}
theorem ct_obj0 (X : ct_X p s m args meth c D cy A own nL cc) {pc idx cells slots : Nat} {fs : List Value} {as : va_W} (d0 : decode cc pc = .ok (.aload_n 0, 1)) (d1 : decode cc (pc + 1) = .ok (.invokespecial idx, 3)) (hlk : Cond.methodLink (dz_R own) idx Lib.objectInit ∈ dz_WS) (hF : 1 ≤ R.frames) (hL : 12 ≤ R.locals) (kk : ct_J p l e R s m args below meth c Q D A own nL h0 (pc + 4) fs as cells slots) : ct_J p l e R s m args below meth c Q D A own nL h0 pc fs as cells slots := by
  intro H locs ls hP hD hS hl
  obtain ⟨hx, hb, hml, hown, hts, hK, hA, hin, -⟩ := X
  refine lv_aload_n hx hb d0 rfl (lv_at hl 0 rfl) ?_
  refine W.objInit hx hb hown (hts _ hlk) (hts _ (dz_t1 (i := 20) rfl rfl)) (hts _ (dz_t1 (i := 21) rfl rfl)) rfl (hl.1.trans hml.symm) rfl d1 hF hL ?_
  exact kk H locs ls hP hD hS hl
/-- this.k = new T[n] -/
theorem ct_arr (X : ct_X p s m args meth c D cy A own nL cc) {pc n1 k idx N t0 cells slots : Nat} {fs : List Value} {as : va_W} {n : Int32} {atype : ArrayType} {ty : FieldType} {a0 : vp_A}
    (hpush : ∀ (H : Heap) (locs : List Loc) (ls : Array Slot) (st : List Value), W p l e R s m args below meth c H locs cells slots Q (F0 m (pc + 1 + n1) ls (.int n :: st)) → W p l e R s m args below meth c H locs cells slots Q (F0 m (pc + 1) ls st))
    (d0 : decode cc pc = .ok (.aload_n 0, 1)) (d2 : decode cc (pc + 1 + n1) = .ok (.newarray atype, 2)) (d3 : decode cc (pc + 1 + n1 + 2) = .ok (.putfield idx, 3))
    (harr : Cond.arrayClass (newarray.typeOf atype) ∈ dz_WS) (hty : newarray.typeOf atype = ty) (ht : (dz_tys cy)[t0]? = some (cy t0, ty)) (hra : ∀ cA : ClassId, va_RA s cA ty → s.vm.findClass ("[" ++ ty.toString) = some cA)
    (ha : ∀ cA : ClassId, vp_cell cA a0 = arrV cA N (fun _ => defaultValue ty)) (hn : ¬ n < 0) (hN : n.toNatClampNeg = N) (hbytes : N * componentBytes ty ≤ 536870912) (hcells : cells + 1 ≤ R.cells) (hslots : slots + N ≤ R.slots)
    (h6 : own < 6) (hft : (dz_ft own).lookup idx = some k) (hfin : (dz_T own k).2.2.2 = true) (hdecl : (dz_T own k).1 = dz_R own) (hnw : ∀ q, narrow (dz_ty own k) (.ref q) = .ref q) (hfit : ∀ q, fits (dz_ty own k) (.ref q) = true) (hk : k < fs.length)
    (kk : ∀ q : Nat, ct_J p l e R s m args below meth c Q D A own nL h0 (pc + 1 + n1 + 5) (fs.set k (.ref q)) (as ++ [(q, .inl (cy t0, a0))]) (cells + 1) (slots + N)) : ct_J p l e R s m args below meth c Q D A own nL h0 pc fs as cells slots := by
  intro H locs ls hP hD hS hl
  obtain ⟨hx, hb, hml, hown, hts, hK, hA, hin, -⟩ := X
  obtain ⟨c1, c2, c3, c4⟩ := dz_cf own h6
  have hq := c4 (idx, k) (dz_lookup_mem2 hft)
  refine lv_aload_n hx hb d0 rfl (lv_at hl 0 rfl) ?_
  refine hpush H locs ls _ ?_
  refine va_newa (a0 := a0) (ty := ty) hx hb (hts _ harr) hty hK hP hD hS hA ha hn hN hbytes hcells hslots d2 (fun q cA H1 hK1 hP1 hD1 hS1 => ?_)
  have e1 := hra cA (hK1.2 5 (cA, ty) rfl).2
  have e2 := hra (cy t0) (hK.2 t0 _ ht).2
  have e3 : cA = cy t0 := Option.some.inj (e1.symm.trans e2)
  subst e3
  refine va_putF (ci := own) (v := .ref q) (ty := dz_ty own k) hx hb hts c1 (dz_ty own) c2 c3 hown hK hP1 hD1 hS1 0 rfl (dz_cl own h6) k hq.1 (hts _ hq.2) (fun _ h9 => h9) hfin hin hdecl (c2 k hq.1) (hnw q) (hfit q) hk d3 (fun H2 locs2 hP2 hD2 hS2 => ?_)
  exact kk q H2 locs2 ls hP2 hD2 hS2 hl
/-- this.k = v, an int -/
theorem ct_int (X : ct_X p s m args meth c D cy A own nL cc) {pc n1 k idx cells slots : Nat} {fs : List Value} {as : va_W} {n : Int32}
    (hpush : ∀ (H : Heap) (locs : List Loc) (ls : Array Slot) (st : List Value), W p l e R s m args below meth c H locs cells slots Q (F0 m (pc + 1 + n1) ls (.int n :: st)) → W p l e R s m args below meth c H locs cells slots Q (F0 m (pc + 1) ls st))
    (d0 : decode cc pc = .ok (.aload_n 0, 1)) (d3 : decode cc (pc + 1 + n1) = .ok (.putfield idx, 3))
    (h6 : own < 6) (hft : (dz_ft own).lookup idx = some k) (hfin : (dz_T own k).2.2.2 = false) (hnw : narrow (dz_ty own k) (.int n) = .int n) (hfit : fits (dz_ty own k) (.int n) = true) (hk : k < fs.length)
    (kk : ct_J p l e R s m args below meth c Q D A own nL h0 (pc + 1 + n1 + 3) (fs.set k (.int n)) as cells slots) : ct_J p l e R s m args below meth c Q D A own nL h0 pc fs as cells slots := by
  intro H locs ls hP hD hS hl
  obtain ⟨hx, hb, hml, hown, hts, hK, hA, hin, -⟩ := X
  obtain ⟨c1, c2, c3, c4⟩ := dz_cf own h6
  have hq := c4 (idx, k) (dz_lookup_mem2 hft)
  refine lv_aload_n hx hb d0 rfl (lv_at hl 0 rfl) ?_
  refine hpush H locs ls _ ?_
  refine va_put (ci := own) (v := .int n) (ty := dz_ty own k) hx hb hts c1 (dz_ty own) c2 c3 hown hK hP hD hS 0 rfl (dz_cl own h6) k hq.1 (hts _ hq.2) (fun _ h9 => h9) hfin (c2 k hq.1) hnw hfit hk d3 (fun H2 locs2 hP2 hD2 hS2 => ?_)
  exact kk H2 locs2 ls hP2 hD2 hS2 hl
theorem ct_fs {pc cells slots pc2 k2 s2 : Nat} {fs fs2 : List Value} {as as2 : va_W} (hp : pc = pc2) (hf : fs = fs2) (ha : as = as2) (hc : cells = k2) (hs : slots = s2) (kk : ct_J p l e R s m args below meth c Q D A own nL h0 pc2 fs2 as2 k2 s2) : ct_J p l e R s m args below meth c Q D A own nL h0 pc fs as cells slots := by
  subst hp; subst hf; subst ha; subst hc; subst hs; exact kk
theorem ct_pl {f : Nat → va_E} {l : List Nat} {e : va_E} : va_pl ([] ++ l) (vr_up f l e) = l.map (fun a => (a, e)) := by
  rw [← vr_rows (L := []) (f := f) (fun a _ h => by cases h)]; rfl
/-- this.k = new T[n][m] -/
theorem ct_mna (X : ct_X p s m args meth c D cy A own nL cc) {pc n1 n2 k idx ic N M t0 t1 cells slots : Nat} {fs : List Value} {as : va_W} {n mm : Int32} {ty : FieldType} {z : vp_A}
    (hpush : ∀ (H : Heap) (locs : List Loc) (ls : Array Slot) (st : List Value), W p l e R s m args below meth c H locs cells slots Q (F0 m (pc + 1 + n1) ls (.int n :: st)) → W p l e R s m args below meth c H locs cells slots Q (F0 m (pc + 1) ls st))
    (hpush2 : ∀ (H : Heap) (locs : List Loc) (ls : Array Slot) (st : List Value), W p l e R s m args below meth c H locs cells slots Q (F0 m (pc + 1 + n1 + n2) ls (.int mm :: st)) → W p l e R s m args below meth c H locs cells slots Q (F0 m (pc + 1 + n1) ls st))
    (d0 : decode cc pc = .ok (.aload_n 0, 1)) (d2 : decode cc (pc + 1 + n1 + n2) = .ok (.multianewarray ic 2, 4)) (d3 : decode cc (pc + 1 + n1 + n2 + 4) = .ok (.putfield idx, 3))
    (hcl : Cond.classLink (dz_R own) ic ("[" ++ (FieldType.array ty).toString) ∈ dz_WS) (hao : va_AOA ty s) (harr : Cond.arrayClass ty ∈ dz_WS) (ht : (dz_tys cy)[t0]? = some (cy t0, ty)) (ht1 : (dz_tys cy)[t1]? = some (cy t1, .array ty)) (hra : ∀ cA : ClassId, va_RA s cA ty → s.vm.findClass (FieldType.array ty).toString = some cA)
    (hn : ¬ n < 0) (hm : ¬ mm < 0) (hN : n.toNatClampNeg = N) (hM : mm.toNatClampNeg = M) (hb1 : N * 4 ≤ 536870912) (hb2 : M * componentBytes ty ≤ 536870912) (hb3 : M ≤ 536870912) (hdf : fits ty (defaultValue ty) = true) (hdd : (defaultValue ty).isDefault = true) (hcells : cells + (1 + N) ≤ R.cells) (hslots : slots + (N + N * M) ≤ R.slots) (hz : ∀ c : ClassId, Jvm.Free.Multi.innerC c M (defaultValue ty) = vp_cell c z)
    (h6 : own < 6) (hft : (dz_ft own).lookup idx = some k) (hfin : (dz_T own k).2.2.2 = true) (hdecl : (dz_T own k).1 = dz_R own) (hnw : ∀ q, narrow (dz_ty own k) (.ref q) = .ref q) (hfit : ∀ q, fits (dz_ty own k) (.ref q) = true) (hk : k < fs.length)
    (kk : ∀ (q : Nat) (r : Nat → Nat), ct_J p l e R s m args below meth c Q D A own nL h0 (pc + 1 + n1 + n2 + 7) (fs.set k (.ref q)) (as ++ ([(q, .inl (cy t1, N, .inr (.inr (.inr (.inr (fun i => if i < N then some (r i) else none))))))] ++ (List.range N).map (fun i => (r i, .inl (cy t0, z))))) (cells + 1 + N) (slots + N + N * M)) : ct_J p l e R s m args below meth c Q D A own nL h0 pc fs as cells slots := by
  intro H locs ls hP hD hS hl
  obtain ⟨hx, hb, hml, hown, hts, hK, hA, hin, -⟩ := X
  obtain ⟨c1, c2, c3, c4⟩ := dz_cf own h6
  have hq := c4 (idx, k) (dz_lookup_mem2 hft)
  refine lv_aload_n hx hb d0 rfl (lv_at hl 0 rfl) ?_
  refine hpush H locs ls _ ?_
  refine hpush2 H locs ls _ ?_
  have hP0 : va_P D vwCl (((h0, .inr (own, fs)) :: as) ++ va_pl [] (fun _ => .inl (cy t0, z))) H := by rw [show va_pl [] (fun _ => (Sum.inl (cy t0, z) : va_E)) = [] from rfl, List.append_nil]; exact hP
  have hD0 : va_D A (((h0, .inr (own, fs)) :: as) ++ va_pl [] (fun _ => .inl (cy t0, z))) := by rw [show va_pl [] (fun _ => (Sum.inl (cy t0, z) : va_E)) = [] from rfl, List.append_nil]; exact hD
  refine va_mna (ty := ty) (cy := cy t0) (z := z) hx hb hown (hts _ hcl) hao (hts _ harr) (hra _ (hK.2 t0 _ ht).2) hK hP0 hD0 hS hA hn hm hN hM hb1 hb2 hb3 hdf hdd hcells hslots hz d2 (fun q r cA H1 hr1 hr2 hK1 hP1 hD1 hS1 => ?_)
  have e1 : s.vm.findClass ("[" ++ (FieldType.array ty).toString) = some cA := (hK1.2 5 (cA, .array ty) rfl).2
  have e2 : s.vm.findClass ("[" ++ (FieldType.array ty).toString) = some (cy t1) := (hK.2 t1 _ ht1).2
  have e3 : cA = cy t1 := Option.some.inj (e1.symm.trans e2)
  subst e3
  rw [ct_pl, List.map_map, List.append_assoc] at hP1 hD1
  refine va_putF (ci := own) (v := .ref q) (ty := dz_ty own k) hx hb hts c1 (dz_ty own) c2 c3 hown hK hP1 hD1 hS1 0 rfl (dz_cl own h6) k hq.1 (hts _ hq.2) (fun _ h9 => h9) hfin hin hdecl (c2 k hq.1) (hnw q) (hfit q) hk d3 (fun H2 locs2 hP2 hD2 hS2 => ?_)
  exact kk q r H2 locs2 ls hP2 hD2 hS2 hl
end CT
def ct_A (h0 sz : Nat) : Nat → Prop := fun q => q = h0 ∨ sz ≤ q
def ct_Pre (D : va_G) (cy : Nat → ClassId) (own h0 sz : Nat) (fs0 : List Value) : Array Value → State → Prop := va_Pc [.ref h0] (fun U => U.heap.size = sz ∧ va_P D vwCl [(h0, .inr (own, fs0))] U.heap ∧ va_K D vwCl (dz_tys cy) U ∧ va_AOA .int U ∧ va_AOA .long U)
def ct_Post (D : va_G) (h0 sz : Nat) (shape : va_W → Prop) : Array Value → State → Outcome → State → Prop := fun _ st oc t => (oc = .returned none ∧ ∃ ws, shape ws ∧ va_P D vwCl ws t.heap ∧ va_D (ct_A h0 sz) ws) ∧ va_F (ct_A h0 sz) st t
def ct_Cl (l : Launch) (D : va_G) (cy : Nat → ClassId) (μ : dz_Mu) (F Lc mc ms own : Nat) (fs0 : List Value) (h0 sz : Nat) (shape : va_W → Prop) : Prop :=
  Met l μ.1 (.code μ.1 μ.2.1 μ.2.2.1 μ.2.2.2 :: dz_WS) { frames := F, cells := mc, slots := ms, locals := Lc } (ct_Pre D cy own h0 sz fs0) (ct_Post D h0 sz shape) mc ms (ct_A h0 sz)
theorem ct_blind (D : va_G) (cy : Nat → ClassId) (own h0 sz : Nat) (fs0 : List Value) : FrameBlind (ct_Pre D cy own h0 sz fs0) := by
  intro a U g mk q
  obtain ⟨q0, q1, qP, qK, qa, qb⟩ := q
  exact ⟨q0, q1, qP, va_K.moved (u := U) (U := U.calling g mk a) (Vm.Alike.refl U.vm) qK, qa, qb⟩
theorem ct_body {l : Launch} {D : va_G} {cy : Nat → ClassId} {μ : dz_Mu} {F Lc mc ms own : Nat} {fs0 : List Value} {h0 sz : Nat} {shape : va_W → Prop} (hm : dz_MW μ 0) (ho : μ.1.cls = dz_R own) (h6 : own < 6) (hi : μ.1.name = "<init>") (hw : 1 ≤ μ.2.2.1) (hret : μ.2.2.2 = none)
    (h : ∀ (p : Program) (e : Env) (s : State) (m : MethodId) (args : Array Value) (below : List Frame) (meth : Method) (c : Code) (Q : State → Prop), ct_X p s m args meth c D cy (ct_A h0 s.heap.size) own μ.2.2.1 μ.2.1 →
      (∀ (pc : Nat) (fs : List Value) (as : va_W) (cells slots : Nat) (H : Heap) (locs : List Loc) (ls : Array Slot), cells = mc → slots = ms → decode μ.2.1 pc = .ok (.return_, 1) → shape ((h0, .inr (own, fs)) :: as) → va_P D vwCl ((h0, .inr (own, fs)) :: as) H → va_D (ct_A h0 s.heap.size) ((h0, .inr (own, fs)) :: as) → va_S (ct_A h0 s.heap.size) s.heap H locs → W p l e { frames := F, cells := mc, slots := ms, locals := Lc } s m args below meth c H locs cells slots Q (F0 m pc ls [])) →
      ct_J p l e { frames := F, cells := mc, slots := ms, locals := Lc } s m args below meth c Q D (ct_A h0 s.heap.size) own μ.2.2.1 h0 0 fs0 [] 0 0) : ct_Cl l D cy μ F Lc mc ms own fs0 h0 sz shape := by
  refine Met.ofW (cc := μ.2.1) (maxL := μ.2.2.1) (ret := μ.2.2.2) hm.2.2.2.2.2 rfl ?_
  intro p e s m args below meth c s₁ B hml hv
  obtain ⟨rfl, hsz, hP, hK, ha1, ha2⟩ := hv
  subst hsz
  have hts0 := atoms_spec (ws := .code μ.1 μ.2.1 μ.2.2.1 μ.2.2.2 :: dz_WS) B.pre
  have hts : ∀ w ∈ dz_WS, w.before ([Value.ref h0] : List Value).toArray s = true := fun w hw => hts0 w (List.mem_cons_of_mem _ hw)
  have hown : s.vm.findClass (dz_R own) = some m.cls := by rw [← ho]; exact findClass_of_methodNamed B.named
  have hlocks := B.notSynchronized
  have hin : meth.name = "<init>" := ((name_of_methodNamed B.named B.method).1).trans hi
  have hl := lv_entry ([.ref h0]) (n := μ.2.2.1) hw
  rw [lg_entry_eq]
  refine h p e s m _ below meth c _ ⟨B.exec, B.bytes, hml, hown, hts, hK, fun q hq => Or.inr hq, hin, ha1, ha2⟩ (fun pc fs as cells slots H locs ls hc1 hc2 d hsh hP hD hS => ?_) s.heap [] _ hP ?_ va_S.rf hl
  · subst hc1; subst hc2
    exact W.vret B.exec B.bytes (by rw [B.returns]; exact hret) (fun t ht hW => ⟨⟨rfl, _, hsh, by rw [ht]; exact hP, hD⟩, hS.F ht⟩) hS.2.2 d
  · refine ⟨fun i j p q hp hq _ => ?_, fun k q hk => ?_⟩
    · have hi2 : i < 1 := (List.getElem?_eq_some_iff.mp hp).1
      have hj2 : j < 1 := (List.getElem?_eq_some_iff.mp hq).1
      omega
    · have hk2 : k < 1 := (List.getElem?_eq_some_iff.mp hk).1
      rw [show k = 0 by omega] at hk
      cases hk
      exact Or.inl rfl
