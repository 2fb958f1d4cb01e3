def va_AOA (ty : FieldType) (U : State) : Prop := (Cond.arrayOver (.array ty)).before #[] U = true
theorem va_AOA.use {ty : FieldType} {A : Array Value} {U : State} (h : va_AOA ty U) : (Cond.arrayOver (.array ty)).before A U = true := h
/-! ===== BEGIN new T[n][m]: the outer array a place, the inner ones among the pooled ===== -/
/-- f, but v at every address of l -/
def vr_up {α : Type} (f : Nat → α) (l : List Nat) (v : α) : Nat → α := fun a => if a ∈ l then v else f a
theorem vr_up_in {α : Type} {f : Nat → α} {l : List Nat} {v : α} {a : Nat} (h : a ∈ l) : vr_up f l v a = v := if_pos h
theorem vr_up_ne {α : Type} {f : Nat → α} {l : List Nat} {v : α} {a : Nat} (h : a ∉ l) : vr_up f l v a = f a := if_neg h
theorem vr_rows {L l : List Nat} {f : Nat → va_E} {e : va_E} (h : ∀ a, a ∈ l → a ∉ L) : va_pl L f ++ l.map (fun a => (a, e)) = va_pl (L ++ l) (vr_up f l e) := by
  unfold va_pl
  rw [List.map_append]
  congr 1
  · apply List.map_congr_left
    intro a ha
    rw [vr_up_ne (fun q => h a q ha)]
  · apply List.map_congr_left
    intro a ha
    rw [vr_up_in ha]
theorem vr_lay {X rows : va_W} {x : Nat × va_E} {pl : va_W} {D : va_G} {cl : List vw_C} {H : Heap} (hP : va_P D cl (((X ++ pl) ++ [x]) ++ rows) H) : va_P D cl ((X ++ [x]) ++ (pl ++ rows)) H := by
  rw [List.append_assoc (X ++ pl)] at hP
  have h := va_P.swap hP
  rw [← List.append_assoc X] at h
  have h2 := va_P.swap h
  rw [List.append_assoc (X ++ [x])] at h2
  exact h2
theorem vr_layD {X rows : va_W} {x : Nat × va_E} {pl : va_W} {A : Nat → Prop} (hD : va_D A (((X ++ pl) ++ [x]) ++ rows)) : va_D A ((X ++ [x]) ++ (pl ++ rows)) := by
  rw [List.append_assoc (X ++ pl)] at hD
  have h := va_D.swap hD
  rw [← List.append_assoc X] at h
  have h2 := va_D.swap h
  rw [List.append_assoc (X ++ [x])] at h2
  exact h2
theorem vr_outer (c : ClassId) (N h0 : Nat) : ∀ i : Nat, Jvm.Free.Multi.outerC c N h0 i = arrV c N (fun j => va_rf (if j < i then some (h0 + 1 + j) else none))
  | 0 => by
    show ({ cls := c, slots := Array.replicate N .null, vm := .none } : Cell) = _
    rw [arrV_new]
    refine congrArg (arrV c N) (funext fun j => ?_)
    simp [va_rf]
  | i + 1 => by
    show (Jvm.Free.Multi.outerC c N h0 i).setSlot i (.ref (h0 + 1 + i)) = _
    rw [vr_outer c N h0 i, arrV_store]
    refine congrArg (arrV c N) (funext fun j => ?_)
    by_cases e : j = i
    · subst e
      simp [updV, va_rf]
    · by_cases h : j < i
      · simp [updV, e, h, Nat.lt_succ_of_lt h]
      · simp [updV, e, h, show ¬ j < i + 1 by omega]
section VGM
variable {p : Program} {l : Launch} {e : Env} {R : Room} {s : State} {m : MethodId} {args : Array Value} {below : List Frame} {meth : Method} {c : Code} {H : Heap} {locs : List Loc} {cells slots : Nat} {Q : State → Prop}
variable {cc : ByteArray} {pc : Nat} {ls : Array Slot} {rest : List Value} {D : va_G} {cl : List vw_C} {A : Nat → Prop} {a : Nat} {tys : List (ClassId × FieldType)} {ws : va_W} {H0 : Heap}
theorem va_mna {X : va_W} {L : List Nat} {f : Nat → va_E} {cc : ByteArray} (hexec : p.tables.exec = Jvm.exec) (hb : c.code = cc) {own : String} {index : Nat} {ty : FieldType} {cy : ClassId} (hown : s.vm.findClass own = some m.cls) (hclink : (Cond.classLink own index ("[" ++ (FieldType.array ty).toString)).before args s = true) (hover : va_AOA ty s) (harr : (Cond.arrayClass ty).before args s = true) (hcy : s.vm.findClass (FieldType.array ty).toString = some cy)
    (hK : va_K D cl tys s) (hP : va_P D cl (X ++ va_pl L f) H) (hD : va_D A (X ++ va_pl L f)) (hS : va_S A H0 H locs) (hA : ∀ q, H0.size ≤ q → A q) {n k : Int32} {N' K' : Nat} {z : vp_A} (hn : ¬ n < 0) (hk : ¬ k < 0) (hN : n.toNatClampNeg = N') (hM : k.toNatClampNeg = K')
    (hb1 : N' * 4 ≤ 536870912) (hb2 : K' * componentBytes ty ≤ 536870912) (hb3 : K' ≤ 536870912) (hdf : fits ty (defaultValue ty) = true) (hdd : (defaultValue ty).isDefault = true) (hcells : cells + (1 + N') ≤ R.cells) (hslots : slots + (N' + N' * K') ≤ R.slots) (hz : ∀ c : ClassId, Jvm.Free.Multi.innerC c K' (defaultValue ty) = vp_cell c z) (hdg : decode cc pc = .ok (.multianewarray index 2, 4))
    (kk : ∀ (q : Nat) (r : Nat → Nat) (cA : ClassId) (H1 : Heap), (∀ i j : Nat, i < N' → j < N' → r i = r j → i = j) → (∀ i : Nat, i < N' → r i ∉ L) → va_K D cl (tys ++ [(cA, .array ty)]) s →
      va_P D cl ((X ++ [(q, .inl (cA, N', .inr (.inr (.inr (.inr (fun i => if i < N' then some (r i) else none))))))]) ++ va_pl (L ++ (List.range N').map r) (vr_up f ((List.range N').map r) (.inl (cy, z)))) H1 → va_D A ((X ++ [(q, .inl (cA, N', .inr (.inr (.inr (.inr (fun i => if i < N' then some (r i) else none))))))]) ++ va_pl (L ++ (List.range N').map r) (vr_up f ((List.range N').map r) (.inl (cy, z)))) → va_S A H0 H1 locs →
      W p l e R s m args below meth c H1 locs (cells + 1 + N') (slots + N' + N' * K') Q (F0 m (pc + 4) ls (.ref q :: rest))) : W p l e R s m args below meth c H locs cells slots Q (F0 m pc ls (.int k :: .int n :: rest)) := by
  subst hN
  subst hM
  intro T hT Xs
  obtain ⟨vm₁, cA, comp, -, fA, fC, hO, -, X', step⟩ := Xs.multianewarray2F hexec hown hclink (va_AOA.use hover) harr (g := F0 m pc ls (.int k :: .int n :: rest)) rfl (by rw [hb]; exact hdg) rfl hn hk hb1 hb2 hb3 hdf hdd hcells hslots
  have ec : some cy = some comp := hcy.symm.trans fC
  cases ec
  generalize hF : Jvm.Free.Multi.fill (T.setVm vm₁) cA cy n.toNatClampNeg k.toNatClampNeg (defaultValue ty) n.toNatClampNeg = F at X' step
  have hTh : (T.setVm vm₁).heap = H := hT
  obtain ⟨f1, f2, -, -⟩ := Jvm.Free.Multi.fill_facts (T.setVm vm₁) cA cy n.toNatClampNeg k.toNatClampNeg (defaultValue ty) n.toNatClampNeg
  rw [hF, hTh] at f1 f2
  have hold : ∀ x : Nat, x < H.size → F.heap[x]? = H[x]? := fun x hx => by
    have := Jvm.Free.Multi.fill_old (T.setVm vm₁) cA cy n.toNatClampNeg k.toNatClampNeg (defaultValue ty) (a := x) (by rw [hTh]; exact hx) n.toNatClampNeg
    rw [hF, hTh] at this
    exact this
  have hrow : ∀ j : Nat, j < n.toNatClampNeg → F.heap[H.size + 1 + j]? = some (vp_cell cy z) := fun j hj => by
    have := Jvm.Free.Multi.fill_inner (T.setVm vm₁) cA cy n.toNatClampNeg k.toNatClampNeg (defaultValue ty) n.toNatClampNeg j hj
    rw [hF, hTh, hz] at this
    exact this
  have hout : Jvm.Free.Multi.outerC cA n.toNatClampNeg H.size n.toNatClampNeg = vp_cell cA (n.toNatClampNeg, .inr (.inr (.inr (.inr (fun i => if i < n.toNatClampNeg then some (H.size + 1 + i) else none))))) := by
    rw [vp_cell_q]
    exact vr_outer cA n.toNatClampNeg H.size n.toNatClampNeg
  rw [hout] at f2
  have hlt : ∀ a, a ∈ L → a < H.size := fun a ha => by
    obtain ⟨k9, hk9⟩ := va_pl_get (X := X) (f := f) ha
    exact (hP k9 _ hk9).lt
  have hnl : ∀ i : Nat, i < n.toNatClampNeg → H.size + 1 + i ∉ L := fun i _ h => by
    have := hlt _ h
    omega
  have hnm : ∀ a, a ∈ (List.range n.toNatClampNeg).map (fun i => H.size + 1 + i) → a ∉ L := fun a ha h => by
    obtain ⟨i, -, rfl⟩ := List.mem_map.mp ha
    have := hlt _ h
    omega
  have hP0 : va_P D cl (X ++ va_pl L f) F.heap := hP.kept (fun k9 x hx => hold x.1 ((hP k9 x hx).lt))
  have hP1 : va_P D cl ((X ++ va_pl L f) ++ [(H.size, .inl (cA, n.toNatClampNeg, .inr (.inr (.inr (.inr (fun i => if i < n.toNatClampNeg then some (H.size + 1 + i) else none))))))]) F.heap := hP0.app (fun k9 x hx => by
    have h0 : k9 < 1 := (List.getElem?_eq_some_iff.mp hx).1
    rw [show k9 = 0 by omega] at hx
    cases hx
    exact f2)
  have hP2 : va_P D cl (((X ++ va_pl L f) ++ [(H.size, .inl (cA, n.toNatClampNeg, .inr (.inr (.inr (.inr (fun i => if i < n.toNatClampNeg then some (H.size + 1 + i) else none))))))]) ++ ((List.range n.toNatClampNeg).map (fun i => H.size + 1 + i)).map (fun a => (a, .inl (cy, z)))) F.heap := hP1.app (fun k9 x hx => by
    obtain ⟨a, ha, rfl⟩ := List.mem_map.mp (List.mem_of_getElem? hx)
    obtain ⟨i, hi, rfl⟩ := List.mem_map.mp ha
    exact hrow i (List.mem_range.mp hi))
  have hD2 : va_D A (((X ++ va_pl L f) ++ [(H.size, .inl (cA, n.toNatClampNeg, .inr (.inr (.inr (.inr (fun i => if i < n.toNatClampNeg then some (H.size + 1 + i) else none))))))]) ++ ((List.range n.toNatClampNeg).map (fun i => H.size + 1 + i)).map (fun a => (a, .inl (cy, z)))) := by
    have hD1 := hD.push (e := .inl (cA, n.toNatClampNeg, .inr (.inr (.inr (.inr (fun i => if i < n.toNatClampNeg then some (H.size + 1 + i) else none)))))) hP rfl (hA _ hS.1)
    generalize hW1 : (X ++ va_pl L f) ++ [(H.size, .inl (cA, n.toNatClampNeg, .inr (.inr (.inr (.inr (fun i => if i < n.toNatClampNeg then some (H.size + 1 + i) else none))))))] = W1 at hD1 hP1 ⊢
    have hle : ∀ (k9 : Nat) (x : Nat × va_E), W1[k9]? = some x → x.1 ≤ H.size := fun k9 x hx => by
      rw [← hW1] at hx
      by_cases hl : k9 < (X ++ va_pl L f).length
      · rw [List.getElem?_append_left hl] at hx
        exact Nat.le_of_lt ((hP k9 x hx).lt)
      · rw [List.getElem?_append_right (by omega)] at hx
        have h0 : k9 - (X ++ va_pl L f).length < 1 := (List.getElem?_eq_some_iff.mp hx).1
        rw [show k9 - (X ++ va_pl L f).length = 0 by omega] at hx
        cases hx
        exact Nat.le_refl _
    have hr : ∀ (k9 : Nat) (x : Nat × va_E), (((List.range n.toNatClampNeg).map (fun i => H.size + 1 + i)).map (fun a => ((a, .inl (cy, z)) : Nat × va_E)))[k9]? = some x → x.1 = H.size + 1 + k9 := fun k9 x hx => by
      rw [List.getElem?_map, List.getElem?_map] at hx
      by_cases h9 : k9 < n.toNatClampNeg
      · rw [List.getElem?_range h9] at hx
        cases hx
        rfl
      · have hn0 : (List.range n.toNatClampNeg)[k9]? = none := List.getElem?_eq_none (by rw [List.length_range]; omega)
        rw [hn0] at hx
        cases hx
    refine ⟨fun i j x y hi hj hxy => ?_, fun k9 x hx => ?_⟩
    · by_cases h1 : i < W1.length <;> by_cases h2 : j < W1.length
      · rw [List.getElem?_append_left h1] at hi
        rw [List.getElem?_append_left h2] at hj
        exact hD1.1 i j x y hi hj hxy
      · rw [List.getElem?_append_left h1] at hi
        rw [List.getElem?_append_right (by omega)] at hj
        have := hle _ _ hi
        have := hr _ _ hj
        omega
      · rw [List.getElem?_append_right (by omega)] at hi
        rw [List.getElem?_append_left h2] at hj
        have := hle _ _ hj
        have := hr _ _ hi
        omega
      · rw [List.getElem?_append_right (by omega)] at hi hj
        have := hr _ _ hi
        have := hr _ _ hj
        omega
    · by_cases h1 : k9 < W1.length
      · rw [List.getElem?_append_left h1] at hx
        exact hD1.2 k9 x hx
      · rw [List.getElem?_append_right (by omega)] at hx
        have := hr _ _ hx
        exact hA _ (by have := hS.1; omega)
  have hAr : ArrOfT s cA (.array ty) := fun N9 z9 => by
    obtain ⟨-, k9, hk9, cm9, hkk9⟩ := (hO 0 0 0).1
    exact ⟨(fun q hq => by cases hq), k9, hk9, cm9, hkk9⟩
  have hK2 : va_K D cl (tys ++ [(cA, .array ty)]) s := ⟨hK.1, fun k9 x hx => by
    by_cases hl : k9 < tys.length
    · rw [List.getElem?_append_left hl] at hx
      exact hK.2 k9 x hx
    · rw [List.getElem?_append_right (by omega)] at hx
      have h0 : k9 - tys.length < 1 := (List.getElem?_eq_some_iff.mp hx).1
      rw [show k9 - tys.length = 0 by omega] at hx
      cases hx
      exact ⟨hAr, fA⟩⟩
  obtain ⟨t, a1, b1⟩ := kk H.size (fun i => H.size + 1 + i) cA F.heap (fun i j _ _ h => by have h9 : H.size + 1 + i = H.size + 1 + j := h; omega) hnl hK2 (by rw [← vr_rows hnm]; exact vr_lay hP2) (by rw [← vr_rows hnm]; exact vr_layD hD2) ⟨by rw [f1]; have := hS.1; omega, fun x h1 h2 => (hold x (Nat.lt_of_lt_of_le h1 hS.1)).trans (hS.2.1 x h1 h2), hS.2.2⟩ F rfl X'
  refine ⟨t, step t ?_, b1⟩
  have e : T.heap.size = H.size := by rw [hT]
  rw [e]
  exact a1
end VGM
/-! ===== END ===== -/
def RX0 : String := "DrumYard$Columns"
def TX0 : u_T := fun k => match k with
  | 0 => ("DrumYard$Columns", "start", "[I", true)
  | 1 => ("DrumYard$Columns", "size", "[I", true)
  | 2 => ("DrumYard$Columns", "foot", "[I", true)
  | 3 => ("DrumYard$Columns", "head", "[I", true)
  | 4 => ("DrumYard$Columns", "columnAt", "[I", true)
  | 5 => ("DrumYard$Columns", "stones", "[I", true)
  | 6 => ("DrumYard$Columns", "number", "I", false)
  | _ => ("DrumYard$Columns", "placeNumber", "I", false)
def tyX0 : Nat → FieldType := fun k => match k with
  | 0 => .array .int
  | 1 => .array .int
  | 2 => .array .int
  | 3 => .array .int
  | 4 => .array .int
  | 5 => .array .int
  | 6 => .int
  | _ => .int
abbrev wsX00 : List Cond := u_ws RX0 TX0 8
theorem nmX0 : ∀ a, a < 8 → ∀ b, b < 8 → a ≠ b → (TX0 a).2.1 ≠ (TX0 b).2.1 := by decide +kernel
theorem tyX0_ok : ∀ k, k < 8 → parseFieldDescriptor (TX0 k).2.2.1 = some (tyX0 k) := by decide +kernel
abbrev cX0_init : ByteArray := prog_2_method_1_code
def yX0_init : MethodName := ⟨RX0, "<init>", "()V"⟩
abbrev cX0_number : ByteArray := prog_2_method_2_code
def yX0_number : MethodName := ⟨RX0, "number", "()I"⟩
abbrev cX0_placeNumber : ByteArray := prog_2_method_3_code
def yX0_placeNumber : MethodName := ⟨RX0, "placeNumber", "()I"⟩
abbrev cX0_has : ByteArray := prog_2_method_4_code
def yX0_has : MethodName := ⟨RX0, "has", "(I)Z"⟩
abbrev cX0_hasPlace : ByteArray := prog_2_method_5_code
def yX0_hasPlace : MethodName := ⟨RX0, "hasPlace", "(I)Z"⟩
abbrev cX0_canTakeOne : ByteArray := prog_2_method_6_code
def yX0_canTakeOne : MethodName := ⟨RX0, "canTakeOne", "(I)Z"⟩
abbrev cX0_take : ByteArray := prog_2_method_7_code
def yX0_take : MethodName := ⟨RX0, "take", "(III)I"⟩
abbrev cX0_columnOf : ByteArray := prog_2_method_8_code
def yX0_columnOf : MethodName := ⟨RX0, "columnOf", "(I)I"⟩
abbrev cX0_startOf : ByteArray := prog_2_method_9_code
def yX0_startOf : MethodName := ⟨RX0, "startOf", "(I)I"⟩
abbrev cX0_endOf : ByteArray := prog_2_method_10_code
def yX0_endOf : MethodName := ⟨RX0, "endOf", "(I)I"⟩
abbrev cX0_footOf : ByteArray := prog_2_method_11_code
def yX0_footOf : MethodName := ⟨RX0, "footOf", "(I)I"⟩
abbrev cX0_headOf : ByteArray := prog_2_method_12_code
def yX0_headOf : MethodName := ⟨RX0, "headOf", "(I)I"⟩
abbrev cX0_isFoot : ByteArray := prog_2_method_13_code
def yX0_isFoot : MethodName := ⟨RX0, "isFoot", "(I)Z"⟩
abbrev cX0_isHead : ByteArray := prog_2_method_14_code
def yX0_isHead : MethodName := ⟨RX0, "isHead", "(I)Z"⟩
abbrev cX0_placeOfStone : ByteArray := prog_2_method_15_code
def yX0_placeOfStone : MethodName := ⟨RX0, "placeOfStone", "(II)I"⟩
abbrev cX0_nextColumn : ByteArray := prog_2_method_16_code
def yX0_nextColumn : MethodName := ⟨RX0, "nextColumn", "(I)I"⟩
abbrev cX0_isFull : ByteArray := prog_2_method_17_code
def yX0_isFull : MethodName := ⟨RX0, "isFull", "(I)Z"⟩
abbrev cX0_allowsNext : ByteArray := prog_2_method_18_code
def yX0_allowsNext : MethodName := ⟨RX0, "allowsNext", "(II)Z"⟩
def RX1 : String := "DrumYard$Drums"
def TX1 : u_T := fun k => match k with
  | 0 => ("DrumYard$Drums", "facts", "[[I", true)
  | 1 => ("DrumYard$Drums", "measured", "[I", true)
  | 2 => ("DrumYard$Drums", "isMeasured", "Z", false)
  | _ => ("DrumYard$Drums", "number", "I", false)
def tyX1 : Nat → FieldType := fun k => match k with
  | 0 => .array (.array .int)
  | 1 => .array .int
  | 2 => .boolean
  | _ => .int
abbrev wsX10 : List Cond := u_ws RX1 TX1 4
theorem nmX1 : ∀ a, a < 4 → ∀ b, b < 4 → a ≠ b → (TX1 a).2.1 ≠ (TX1 b).2.1 := by decide +kernel
theorem tyX1_ok : ∀ k, k < 4 → parseFieldDescriptor (TX1 k).2.2.1 = some (tyX1 k) := by decide +kernel
abbrev cX1_init : ByteArray := prog_3_method_1_code
def yX1_init : MethodName := ⟨RX1, "<init>", "()V"⟩
abbrev cX1_number : ByteArray := prog_3_method_2_code
def yX1_number : MethodName := ⟨RX1, "number", "()I"⟩
abbrev cX1_has : ByteArray := prog_3_method_3_code
def yX1_has : MethodName := ⟨RX1, "has", "(I)Z"⟩
abbrev cX1_fact : ByteArray := prog_3_method_4_code
def yX1_fact : MethodName := ⟨RX1, "fact", "(II)I"⟩
abbrev cX1_keepMeasured : ByteArray := prog_3_method_5_code
def yX1_keepMeasured : MethodName := ⟨RX1, "keepMeasured", "(IIII)V"⟩
abbrev cX1_canTakeOne : ByteArray := prog_3_method_6_code
def yX1_canTakeOne : MethodName := ⟨RX1, "canTakeOne", "()Z"⟩
abbrev cX1_take : ByteArray := prog_3_method_7_code
def yX1_take : MethodName := ⟨RX1, "take", "(IIIII)I"⟩
abbrev cX1_turnOn : ByteArray := prog_3_method_8_code
def yX1_turnOn : MethodName := ⟨RX1, "turnOn", "(III)I"⟩
abbrev cX1_lyingOn : ByteArray := prog_3_method_9_code
def yX1_lyingOn : MethodName := ⟨RX1, "lyingOn", "(II)I"⟩
abbrev cX1_pairsLying : ByteArray := prog_3_method_10_code
def yX1_pairsLying : MethodName := ⟨RX1, "pairsLying", "(I)I"⟩
abbrev cX1_meanHeight : ByteArray := prog_3_method_11_code
def yX1_meanHeight : MethodName := ⟨RX1, "meanHeight", "()I"⟩
abbrev cX1_areAlike : ByteArray := prog_3_method_12_code
def yX1_areAlike : MethodName := ⟨RX1, "areAlike", "(II)Z"⟩
abbrev cX1_leastTurn : ByteArray := prog_3_method_13_code
def yX1_leastTurn : MethodName := ⟨RX1, "leastTurn", "(II)I"⟩
abbrev cX1_turned : ByteArray := prog_3_method_14_code
def yX1_turned : MethodName := ⟨RX1, "turned", "(II)I"⟩
def RX2 : String := "DrumYard$Paper"
def TX2 : u_T := fun k => match k with
  | 0 => ("DrumYard$Paper", "allowed", "[I", true)
  | 1 => ("DrumYard$Paper", "isHead", "[Z", true)
  | 2 => ("DrumYard$Paper", "over", "[I", true)
  | 3 => ("DrumYard$Paper", "bestHeld", "[I", true)
  | 4 => ("DrumYard$Paper", "firstWay", "[I", true)
  | 5 => ("DrumYard$Paper", "beginnings", "[[J", true)
  | 6 => ("DrumYard$Paper", "reached", "[[I", true)
  | 7 => ("DrumYard$Paper", "reachedNumber", "[I", true)
  | 8 => ("DrumYard$Paper", "reachedWithFewer", "[[I", true)
  | 9 => ("DrumYard$Paper", "places", "I", false)
  | 10 => ("DrumYard$Paper", "leastNew", "I", false)
  | _ => ("DrumYard$Paper", "bestWays", "J", false)
def tyX2 : Nat → FieldType := fun k => match k with
  | 0 => .array .int
  | 1 => .array .boolean
  | 2 => .array .int
  | 3 => .array .int
  | 4 => .array .int
  | 5 => .array (.array .long)
  | 6 => .array (.array .int)
  | 7 => .array .int
  | 8 => .array (.array .int)
  | 9 => .int
  | 10 => .int
  | _ => .long
abbrev wsX20 : List Cond := u_ws RX2 TX2 12
theorem nmX2 : ∀ a, a < 12 → ∀ b, b < 12 → a ≠ b → (TX2 a).2.1 ≠ (TX2 b).2.1 := by decide +kernel
theorem tyX2_ok : ∀ k, k < 12 → parseFieldDescriptor (TX2 k).2.2.1 = some (tyX2 k) := by decide +kernel
abbrev cX2_init : ByteArray := prog_4_method_1_code
def yX2_init : MethodName := ⟨RX2, "<init>", "()V"⟩
abbrev cX2_leastNew : ByteArray := prog_4_method_2_code
def yX2_leastNew : MethodName := ⟨RX2, "leastNew", "()I"⟩
abbrev cX2_bestWays : ByteArray := prog_4_method_3_code
def yX2_bestWays : MethodName := ⟨RX2, "bestWays", "()J"⟩
abbrev cX2_hasWay : ByteArray := prog_4_method_4_code
def yX2_hasWay : MethodName := ⟨RX2, "hasWay", "()Z"⟩
abbrev cX2_firstAt : ByteArray := prog_4_method_5_code
def yX2_firstAt : MethodName := ⟨RX2, "firstAt", "(I)I"⟩
abbrev cX2_bestHeldAt : ByteArray := prog_4_method_6_code
def yX2_bestHeldAt : MethodName := ⟨RX2, "bestHeldAt", "(I)I"⟩
abbrev cX2_clear : ByteArray := prog_4_method_7_code
def yX2_clear : MethodName := ⟨RX2, "clear", "(I)V"⟩
abbrev cX2_allowOver : ByteArray := prog_4_method_8_code
def yX2_allowOver : MethodName := ⟨RX2, "allowOver", "(II)V"⟩
abbrev cX2_allowAt : ByteArray := prog_4_method_9_code
def yX2_allowAt : MethodName := ⟨RX2, "allowAt", "(IIZ)V"⟩
abbrev cX2_findBest : ByteArray := prog_4_method_10_code
def yX2_findBest : MethodName := ⟨RX2, "findBest", "()V"⟩
abbrev cX2_reachWith : ByteArray := prog_4_method_11_code
def yX2_reachWith : MethodName := ⟨RX2, "reachWith", "(I)V"⟩
abbrev cX2_spreadDrums : ByteArray := prog_4_method_12_code
def yX2_spreadDrums : MethodName := ⟨RX2, "spreadDrums", "(II)V"⟩
abbrev cX2_spreadNew : ByteArray := prog_4_method_13_code
def yX2_spreadNew : MethodName := ⟨RX2, "spreadNew", "(II)V"⟩
abbrev cX2_reach : ByteArray := prog_4_method_14_code
def yX2_reach : MethodName := ⟨RX2, "reach", "(IIJ)V"⟩
abbrev cX2_dropAllButBest : ByteArray := prog_4_method_15_code
def yX2_dropAllButBest : MethodName := ⟨RX2, "dropAllButBest", "()V"⟩
abbrev cX2_walkFirst : ByteArray := prog_4_method_16_code
def yX2_walkFirst : MethodName := ⟨RX2, "walkFirst", "()V"⟩
abbrev cX2_itemsToBest : ByteArray := prog_4_method_17_code
def yX2_itemsToBest : MethodName := ⟨RX2, "itemsToBest", "(II)I"⟩
abbrev cX2_itemsFor : ByteArray := prog_4_method_18_code
def yX2_itemsFor : MethodName := ⟨RX2, "itemsFor", "(II)I"⟩
abbrev cX2_after : ByteArray := prog_4_method_19_code
def yX2_after : MethodName := ⟨RX2, "after", "(III)I"⟩
abbrev cX2_isPlace : ByteArray := prog_4_method_20_code
def yX2_isPlace : MethodName := ⟨RX2, "isPlace", "(I)Z"⟩
abbrev cX2_lowest : ByteArray := prog_4_method_21_code
def yX2_lowest : MethodName := ⟨RX2, "lowest", "(I)I"⟩
def RX3 : String := "DrumYard$Words"
def TX3 : u_T := fun k => match k with
  | 0 => ("DrumYard$Words", "told", "[I", true)
  | _ => ("DrumYard$Words", "barred", "[I", true)
def tyX3 : Nat → FieldType := fun k => match k with
  | 0 => .array .int
  | _ => .array .int
abbrev wsX30 : List Cond := u_ws RX3 TX3 2
theorem nmX3 : ∀ a, a < 2 → ∀ b, b < 2 → a ≠ b → (TX3 a).2.1 ≠ (TX3 b).2.1 := by decide +kernel
theorem tyX3_ok : ∀ k, k < 2 → parseFieldDescriptor (TX3 k).2.2.1 = some (tyX3 k) := by decide +kernel
abbrev cX3_init : ByteArray := prog_5_method_1_code
def yX3_init : MethodName := ⟨RX3, "<init>", "()V"⟩
abbrev cX3_tell : ByteArray := prog_5_method_2_code
def yX3_tell : MethodName := ⟨RX3, "tell", "(II)V"⟩
abbrev cX3_toldOf : ByteArray := prog_5_method_3_code
def yX3_toldOf : MethodName := ⟨RX3, "toldOf", "(I)I"⟩
abbrev cX3_toldNumber : ByteArray := prog_5_method_4_code
def yX3_toldNumber : MethodName := ⟨RX3, "toldNumber", "()I"⟩
abbrev cX3_bar : ByteArray := prog_5_method_5_code
def yX3_bar : MethodName := ⟨RX3, "bar", "(IIZ)V"⟩
abbrev cX3_isBarred : ByteArray := prog_5_method_6_code
def yX3_isBarred : MethodName := ⟨RX3, "isBarred", "(II)Z"⟩
abbrev cX3_isRow : ByteArray := prog_5_method_7_code
def yX3_isRow : MethodName := ⟨RX3, "isRow", "(I)Z"⟩
def RX4 : String := "DrumYard"
def TX4 : u_T := fun k => match k with
  | 0 => ("DrumYard", "drums", "LDrumYard$Drums;", true)
  | 1 => ("DrumYard", "columns", "LDrumYard$Columns;", true)
  | 2 => ("DrumYard", "words", "LDrumYard$Words;", true)
  | 3 => ("DrumYard", "paper", "LDrumYard$Paper;", true)
  | 4 => ("DrumYard", "tol", "I", false)
  | 5 => ("DrumYard", "stone", "I", false)
  | 6 => ("DrumYard", "ahead", "I", false)
  | _ => ("DrumYard", "paperIsStale", "Z", false)
def tyX4 : Nat → FieldType := fun k => match k with
  | 0 => .object "DrumYard$Drums"
  | 1 => .object "DrumYard$Columns"
  | 2 => .object "DrumYard$Words"
  | 3 => .object "DrumYard$Paper"
  | 4 => .int
  | 5 => .int
  | 6 => .int
  | _ => .boolean
abbrev wsX40 : List Cond := u_ws RX4 TX4 8
theorem nmX4 : ∀ a, a < 8 → ∀ b, b < 8 → a ≠ b → (TX4 a).2.1 ≠ (TX4 b).2.1 := by decide +kernel
theorem tyX4_ok : ∀ k, k < 8 → parseFieldDescriptor (TX4 k).2.2.1 = some (tyX4 k) := by decide +kernel
abbrev cX4_init : ByteArray := prog_1_method_1_code
def yX4_init : MethodName := ⟨RX4, "<init>", "()V"⟩
abbrev cX4_measure : ByteArray := prog_1_method_2_code
def yX4_measure : MethodName := ⟨RX4, "measure", "(IIII)Z"⟩
abbrev cX4_drum : ByteArray := prog_1_method_3_code
def yX4_drum : MethodName := ⟨RX4, "drum", "(IIIII)I"⟩
abbrev cX4_set : ByteArray := prog_1_method_4_code
def yX4_set : MethodName := ⟨RX4, "set", "(III)Z"⟩
abbrev cX4_column : ByteArray := prog_1_method_5_code
def yX4_column : MethodName := ⟨RX4, "column", "(III)I"⟩
abbrev cX4_turn : ByteArray := prog_1_method_6_code
def yX4_turn : MethodName := ⟨RX4, "turn", "(II)I"⟩
abbrev cX4_fits : ByteArray := prog_1_method_7_code
def yX4_fits : MethodName := ⟨RX4, "fits", "(II)I"⟩
abbrev cX4_hand : ByteArray := prog_1_method_8_code
def yX4_hand : MethodName := ⟨RX4, "hand", "(II)Z"⟩
abbrev cX4_not : ByteArray := prog_1_method_9_code
def yX4_not : MethodName := ⟨RX4, "not", "(IIZ)Z"⟩
abbrev cX4_least : ByteArray := prog_1_method_10_code
def yX4_least : MethodName := ⟨RX4, "least", "()I"⟩
abbrev cX4_ways : ByteArray := prog_1_method_11_code
def yX4_ways : MethodName := ⟨RX4, "ways", "()J"⟩
abbrev cX4_first : ByteArray := prog_1_method_12_code
def yX4_first : MethodName := ⟨RX4, "first", "(I)I"⟩
abbrev cX4_sure : ByteArray := prog_1_method_13_code
def yX4_sure : MethodName := ⟨RX4, "sure", "(I)I"⟩
abbrev cX4_open : ByteArray := prog_1_method_14_code
def yX4_open : MethodName := ⟨RX4, "open", "(I)I"⟩
abbrev cX4_bears : ByteArray := prog_1_method_15_code
def yX4_bears : MethodName := ⟨RX4, "bears", "(I)I"⟩
abbrev cX4_cracked : ByteArray := prog_1_method_16_code
def yX4_cracked : MethodName := ⟨RX4, "cracked", "()I"⟩
abbrev cX4_setting : ByteArray := prog_1_method_17_code
def yX4_setting : MethodName := ⟨RX4, "setting", "(I)I"⟩
abbrev cX4_tall : ByteArray := prog_1_method_18_code
def yX4_tall : MethodName := ⟨RX4, "tall", "(I)I"⟩
abbrev cX4_told : ByteArray := prog_1_method_19_code
def yX4_told : MethodName := ⟨RX4, "told", "(II)I"⟩
abbrev cX4_place : ByteArray := prog_1_method_20_code
def yX4_place : MethodName := ⟨RX4, "place", "(II)I"⟩
abbrev cX4_count : ByteArray := prog_1_method_21_code
def yX4_count : MethodName := ⟨RX4, "count", "(I)I"⟩
abbrev cX4_isWithin : ByteArray := prog_1_method_22_code
def yX4_isWithin : MethodName := ⟨RX4, "isWithin", "(III)Z"⟩
abbrev cX4_isWidth : ByteArray := prog_1_method_23_code
def yX4_isWidth : MethodName := ⟨RX4, "isWidth", "(I)Z"⟩
abbrev cX4_isWidthOrUntold : ByteArray := prog_1_method_24_code
def yX4_isWidthOrUntold : MethodName := ⟨RX4, "isWidthOrUntold", "(I)Z"⟩
abbrev cX4_isHoles : ByteArray := prog_1_method_25_code
def yX4_isHoles : MethodName := ⟨RX4, "isHoles", "(I)Z"⟩
abbrev cX4_hasBit : ByteArray := prog_1_method_26_code
def yX4_hasBit : MethodName := ⟨RX4, "hasBit", "(II)Z"⟩
abbrev cX4_fitsFoot : ByteArray := prog_1_method_27_code
def yX4_fitsFoot : MethodName := ⟨RX4, "fitsFoot", "(II)Z"⟩
abbrev cX4_fitsHead : ByteArray := prog_1_method_28_code
def yX4_fitsHead : MethodName := ⟨RX4, "fitsHead", "(II)Z"⟩
abbrev cX4_agrees : ByteArray := prog_1_method_29_code
def yX4_agrees : MethodName := ⟨RX4, "agrees", "(III)Z"⟩
abbrev cX4_loadOver : ByteArray := prog_1_method_30_code
def yX4_loadOver : MethodName := ⟨RX4, "loadOver", "(I)I"⟩
abbrev cX4_heightOf : ByteArray := prog_1_method_31_code
def yX4_heightOf : MethodName := ⟨RX4, "heightOf", "(I)I"⟩
abbrev cX4_drawPaper : ByteArray := prog_1_method_32_code
def yX4_drawPaper : MethodName := ⟨RX4, "drawPaper", "()V"⟩
abbrev cX4_itemsAllowedAt : ByteArray := prog_1_method_33_code
def yX4_itemsAllowedAt : MethodName := ⟨RX4, "itemsAllowedAt", "(I)I"⟩
def RX5 : String := "DrumYardModel"
def TX5 : u_T := fun k => match k with
  | 0 => ("DrumYardModel", "thrown", "I", false)
  | 1 => ("DrumYardModel", "drums", "I", false)
  | 2 => ("DrumYardModel", "columns", "I", false)
  | 3 => ("DrumYardModel", "places", "I", false)
  | 4 => ("DrumYardModel", "tol", "I", false)
  | 5 => ("DrumYardModel", "stone", "I", false)
  | 6 => ("DrumYardModel", "ahead", "I", false)
  | 7 => ("DrumYardModel", "isMeasured", "Z", false)
  | 8 => ("DrumYardModel", "measured", "[I", true)
  | 9 => ("DrumYardModel", "below", "[I", true)
  | 10 => ("DrumYardModel", "above", "[I", true)
  | 11 => ("DrumYardModel", "doubt", "[I", true)
  | 12 => ("DrumYardModel", "height", "[I", true)
  | 13 => ("DrumYardModel", "flutes", "[I", true)
  | 14 => ("DrumYardModel", "holesBelow", "[I", true)
  | 15 => ("DrumYardModel", "holesAbove", "[I", true)
  | 16 => ("DrumYardModel", "weight", "[I", true)
  | 17 => ("DrumYardModel", "strength", "[I", true)
  | 18 => ("DrumYardModel", "foot", "[I", true)
  | 19 => ("DrumYardModel", "head", "[I", true)
  | 20 => ("DrumYardModel", "begins", "[I", true)
  | 21 => ("DrumYardModel", "high", "[I", true)
  | 22 => ("DrumYardModel", "columnOf", "[I", true)
  | 23 => ("DrumYardModel", "word", "[I", true)
  | 24 => ("DrumYardModel", "isNot", "[Z", true)
  | 25 => ("DrumYardModel", "least", "[I", true)
  | 26 => ("DrumYardModel", "many", "[J", true)
  | 27 => ("DrumYardModel", "led", "[J", true)
  | 28 => ("DrumYardModel", "usage", "[J", true)
  | 29 => ("DrumYardModel", "first", "[I", true)
  | _ => ("DrumYardModel", "stands", "[I", true)
def tyX5 : Nat → FieldType := fun k => match k with
  | 0 => .int
  | 1 => .int
  | 2 => .int
  | 3 => .int
  | 4 => .int
  | 5 => .int
  | 6 => .int
  | 7 => .boolean
  | 8 => .array .int
  | 9 => .array .int
  | 10 => .array .int
  | 11 => .array .int
  | 12 => .array .int
  | 13 => .array .int
  | 14 => .array .int
  | 15 => .array .int
  | 16 => .array .int
  | 17 => .array .int
  | 18 => .array .int
  | 19 => .array .int
  | 20 => .array .int
  | 21 => .array .int
  | 22 => .array .int
  | 23 => .array .int
  | 24 => .array .boolean
  | 25 => .array .int
  | 26 => .array .long
  | 27 => .array .long
  | 28 => .array .long
  | 29 => .array .int
  | _ => .array .int
abbrev wsX50 : List Cond := u_ws RX5 TX5 31
theorem nmX5 : ∀ a, a < 31 → ∀ b, b < 31 → a ≠ b → (TX5 a).2.1 ≠ (TX5 b).2.1 := by decide +kernel
theorem tyX5_ok : ∀ k, k < 31 → parseFieldDescriptor (TX5 k).2.2.1 = some (tyX5 k) := by decide +kernel
abbrev cX5_init : ByteArray := prog_7_method_1_code
def yX5_init : MethodName := ⟨RX5, "<init>", "()V"⟩
abbrev cX5_thrown : ByteArray := prog_7_method_2_code
def yX5_thrown : MethodName := ⟨RX5, "thrown", "()I"⟩
abbrev cX5_isIn : ByteArray := prog_7_method_3_code
def yX5_isIn : MethodName := ⟨RX5, "isIn", "(III)Z"⟩
abbrev cX5_isWidth : ByteArray := prog_7_method_4_code
def yX5_isWidth : MethodName := ⟨RX5, "isWidth", "(I)Z"⟩
abbrev cX5_isDrum : ByteArray := prog_7_method_5_code
def yX5_isDrum : MethodName := ⟨RX5, "isDrum", "(I)Z"⟩
abbrev cX5_isColumn : ByteArray := prog_7_method_6_code
def yX5_isColumn : MethodName := ⟨RX5, "isColumn", "(I)Z"⟩
abbrev cX5_isPlace : ByteArray := prog_7_method_7_code
def yX5_isPlace : MethodName := ⟨RX5, "isPlace", "(I)Z"⟩
abbrev cX5_measure : ByteArray := prog_7_method_8_code
def yX5_measure : MethodName := ⟨RX5, "measure", "(IIII)Z"⟩
abbrev cX5_drum : ByteArray := prog_7_method_9_code
def yX5_drum : MethodName := ⟨RX5, "drum", "(IIIII)I"⟩
abbrev cX5_set : ByteArray := prog_7_method_10_code
def yX5_set : MethodName := ⟨RX5, "set", "(III)Z"⟩
abbrev cX5_column : ByteArray := prog_7_method_11_code
def yX5_column : MethodName := ⟨RX5, "column", "(III)I"⟩
abbrev cX5_turnOf : ByteArray := prog_7_method_12_code
def yX5_turnOf : MethodName := ⟨RX5, "turnOf", "(II)I"⟩
abbrev cX5_turn : ByteArray := prog_7_method_13_code
def yX5_turn : MethodName := ⟨RX5, "turn", "(II)I"⟩
abbrev cX5_fitsFoot : ByteArray := prog_7_method_14_code
def yX5_fitsFoot : MethodName := ⟨RX5, "fitsFoot", "(II)Z"⟩
abbrev cX5_fitsHead : ByteArray := prog_7_method_15_code
def yX5_fitsHead : MethodName := ⟨RX5, "fitsHead", "(II)Z"⟩
abbrev cX5_fits : ByteArray := prog_7_method_16_code
def yX5_fits : MethodName := ⟨RX5, "fits", "(II)I"⟩
abbrev cX5_hand : ByteArray := prog_7_method_17_code
def yX5_hand : MethodName := ⟨RX5, "hand", "(II)Z"⟩
abbrev cX5_not : ByteArray := prog_7_method_18_code
def yX5_not : MethodName := ⟨RX5, "not", "(IIZ)Z"⟩
abbrev cX5_index : ByteArray := prog_7_method_19_code
def yX5_index : MethodName := ⟨RX5, "index", "(III)I"⟩
abbrev cX5_may : ByteArray := prog_7_method_20_code
def yX5_may : MethodName := ⟨RX5, "may", "(IIII)Z"⟩
abbrev cX5_behind : ByteArray := prog_7_method_21_code
def yX5_behind : MethodName := ⟨RX5, "behind", "(III)I"⟩
abbrev cX5_find : ByteArray := prog_7_method_22_code
def yX5_find : MethodName := ⟨RX5, "find", "()Z"⟩
abbrev cX5_isBest : ByteArray := prog_7_method_23_code
def yX5_isBest : MethodName := ⟨RX5, "isBest", "(IIII)Z"⟩
abbrev cX5_use : ByteArray := prog_7_method_24_code
def yX5_use : MethodName := ⟨RX5, "use", "()V"⟩
abbrev cX5_least : ByteArray := prog_7_method_25_code
def yX5_least : MethodName := ⟨RX5, "least", "()I"⟩
abbrev cX5_ways : ByteArray := prog_7_method_26_code
def yX5_ways : MethodName := ⟨RX5, "ways", "()J"⟩
abbrev cX5_first : ByteArray := prog_7_method_27_code
def yX5_first : MethodName := ⟨RX5, "first", "(I)I"⟩
abbrev cX5_sure : ByteArray := prog_7_method_28_code
def yX5_sure : MethodName := ⟨RX5, "sure", "(I)I"⟩
abbrev cX5_open : ByteArray := prog_7_method_29_code
def yX5_open : MethodName := ⟨RX5, "open", "(I)I"⟩
abbrev cX5_borne : ByteArray := prog_7_method_30_code
def yX5_borne : MethodName := ⟨RX5, "borne", "(I)I"⟩
abbrev cX5_bears : ByteArray := prog_7_method_31_code
def yX5_bears : MethodName := ⟨RX5, "bears", "(I)I"⟩
abbrev cX5_cracked : ByteArray := prog_7_method_32_code
def yX5_cracked : MethodName := ⟨RX5, "cracked", "()I"⟩
abbrev cX5_isFull : ByteArray := prog_7_method_33_code
def yX5_isFull : MethodName := ⟨RX5, "isFull", "(I)Z"⟩
abbrev cX5_isLevel : ByteArray := prog_7_method_34_code
def yX5_isLevel : MethodName := ⟨RX5, "isLevel", "(I)Z"⟩
abbrev cX5_setting : ByteArray := prog_7_method_35_code
def yX5_setting : MethodName := ⟨RX5, "setting", "(I)I"⟩
abbrev cX5_tall : ByteArray := prog_7_method_36_code
def yX5_tall : MethodName := ⟨RX5, "tall", "(I)I"⟩
abbrev cX5_told : ByteArray := prog_7_method_37_code
def yX5_told : MethodName := ⟨RX5, "told", "(II)I"⟩
abbrev cX5_place : ByteArray := prog_7_method_38_code
def yX5_place : MethodName := ⟨RX5, "place", "(II)I"⟩
abbrev cX5_count : ByteArray := prog_7_method_39_code
def yX5_count : MethodName := ⟨RX5, "count", "(I)I"⟩
def RJ6 : String := "java/lang/Integer"
def TJ6 : u_T := fun k => match k with
  | _ => ("", "", "", false)
def tyJ6 : Nat → FieldType := fun k => match k with
  | _ => .int
abbrev wsJ60 : List Cond := u_ws RJ6 TJ6 0
theorem nmJ6 : ∀ a, a < 0 → ∀ b, b < 0 → a ≠ b → (TJ6 a).2.1 ≠ (TJ6 b).2.1 := by decide +kernel
theorem tyJ6_ok : ∀ k, k < 0 → parseFieldDescriptor (TJ6 k).2.2.1 = some (tyJ6 k) := by decide +kernel
abbrev cJ6_bitCount_0f7a4 : ByteArray := prog_9_method_49_code
def yJ6_bitCount_0f7a4 : MethodName := ⟨RJ6, "bitCount", "(I)I"⟩
def RJ9 : String := "java/lang/Math"
def TJ9 : u_T := fun k => match k with
  | _ => ("", "", "", false)
def tyJ9 : Nat → FieldType := fun k => match k with
  | _ => .int
abbrev wsJ90 : List Cond := u_ws RJ9 TJ9 0
theorem nmJ9 : ∀ a, a < 0 → ∀ b, b < 0 → a ≠ b → (TJ9 a).2.1 ≠ (TJ9 b).2.1 := by decide +kernel
theorem tyJ9_ok : ∀ k, k < 0 → parseFieldDescriptor (TJ9 k).2.2.1 = some (tyJ9 k) := by decide +kernel
abbrev cJ9_abs_0f7a4 : ByteArray := prog_10_method_59_code
def yJ9_abs_0f7a4 : MethodName := ⟨RJ9, "abs", "(I)I"⟩
abbrev cJ9_max_7cf53 : ByteArray := prog_10_method_65_code
def yJ9_max_7cf53 : MethodName := ⟨RJ9, "max", "(II)I"⟩
abbrev cJ9_min_7cf53 : ByteArray := prog_10_method_69_code
def yJ9_min_7cf53 : MethodName := ⟨RJ9, "min", "(II)I"⟩
def RJ10 : String := "java/lang/System"
def TJ10 : u_T := fun k => match k with
  | _ => ("", "", "", false)
def tyJ10 : Nat → FieldType := fun k => match k with
  | _ => .int
abbrev wsJ100 : List Cond := u_ws RJ10 TJ10 0
theorem nmJ10 : ∀ a, a < 0 → ∀ b, b < 0 → a ≠ b → (TJ10 a).2.1 ≠ (TJ10 b).2.1 := by decide +kernel
theorem tyJ10_ok : ∀ k, k < 0 → parseFieldDescriptor (TJ10 k).2.2.1 = some (tyJ10 k) := by decide +kernel
def RL : String := "DrumYardLaw"
abbrev cL_told : ByteArray := method_3_code
def yL_told : MethodName := ⟨RL, "told", "(LDrumYard;II[J)I"⟩
abbrev cL_law : ByteArray := code
def yL_law : MethodName := ⟨RL, "law", "([I)Z"⟩
def wsL_law0_r1 : List Cond := [Cond.classLink RL 8 RX4, Cond.instantiable RX4 8, Cond.initialized RX4, Cond.classLink RL 16 RX5, Cond.instantiable RX5 31, Cond.initialized RX5, Cond.arrayClass .long, Cond.methodLink RL 15 yX4_init, Cond.instanceMethod yX4_init, Cond.code yX4_init cX4_init 1 none, Cond.methodLink RX4 1 objectInit, Cond.instanceMethod objectInit, Cond.code objectInit ⟨#[0xb1]⟩ 1 none, Cond.classLink RX4 7 RX1, Cond.instantiable RX1 4, Cond.initialized RX1, Cond.fieldLink RX4 10 "DrumYard" "drums" "LDrumYard$Drums;", Cond.classLink RX4 16 RX0, Cond.instantiable RX0 8, Cond.initialized RX0, Cond.fieldLink RX4 19 "DrumYard" "columns" "LDrumYard$Columns;", Cond.classLink RX4 23 RX3, Cond.instantiable RX3 2, Cond.initialized RX3]
def wsL_law0_r2 : List Cond := [Cond.fieldLink RX4 26 "DrumYard" "words" "LDrumYard$Words;", Cond.classLink RX4 30 RX2, Cond.instantiable RX2 12, Cond.initialized RX2, Cond.fieldLink RX4 33 "DrumYard" "paper" "LDrumYard$Paper;", Cond.fieldLink RX4 37 "DrumYard" "tol" "I", Cond.fieldLink RX4 41 "DrumYard" "stone" "I", Cond.fieldLink RX4 44 "DrumYard" "ahead" "I", Cond.fieldLink RX4 47 "DrumYard" "paperIsStale" "Z", Cond.methodLink RX4 9 yX1_init, Cond.instanceMethod yX1_init, Cond.code yX1_init cX1_init 1 none, Cond.methodLink RX1 3 objectInit, Cond.classLink RX1 11 "[[I", Cond.arrayClass .int, Cond.fieldLink RX1 13 "DrumYard$Drums" "facts" "[[I", Cond.fieldLink RX1 16 "DrumYard$Drums" "measured" "[I", Cond.methodLink RX4 18 yX0_init, Cond.instanceMethod yX0_init, Cond.code yX0_init cX0_init 1 none, Cond.methodLink RX0 3 objectInit, Cond.fieldLink RX0 9 "DrumYard$Columns" "start" "[I", Cond.fieldLink RX0 15 "DrumYard$Columns" "size" "[I", Cond.fieldLink RX0 18 "DrumYard$Columns" "foot" "[I"]
def wsL_law0_r3 : List Cond := [Cond.fieldLink RX0 21 "DrumYard$Columns" "head" "[I", Cond.fieldLink RX0 24 "DrumYard$Columns" "columnAt" "[I", Cond.fieldLink RX0 27 "DrumYard$Columns" "stones" "[I", Cond.methodLink RX4 25 yX3_init, Cond.instanceMethod yX3_init, Cond.code yX3_init cX3_init 2 none, Cond.methodLink RX3 3 objectInit, Cond.fieldLink RX3 9 "DrumYard$Words" "told" "[I", Cond.fieldLink RX3 15 "DrumYard$Words" "barred" "[I", Cond.methodLink RX4 32 yX2_init, Cond.instanceMethod yX2_init, Cond.code yX2_init cX2_init 1 none, Cond.methodLink RX2 5 objectInit, Cond.fieldLink RX2 11 "DrumYard$Paper" "allowed" "[I", Cond.arrayClass .boolean, Cond.fieldLink RX2 15 "DrumYard$Paper" "isHead" "[Z", Cond.fieldLink RX2 19 "DrumYard$Paper" "over" "[I", Cond.fieldLink RX2 22 "DrumYard$Paper" "bestHeld" "[I", Cond.fieldLink RX2 25 "DrumYard$Paper" "firstWay" "[I", Cond.classLink RX2 28 "[[J", Cond.fieldLink RX2 30 "DrumYard$Paper" "beginnings" "[[J", Cond.classLink RX2 33 "[[I", Cond.fieldLink RX2 35 "DrumYard$Paper" "reached" "[[I", Cond.fieldLink RX2 38 "DrumYard$Paper" "reachedNumber" "[I"]
def wsL_law0_r4 : List Cond := [Cond.fieldLink RX2 41 "DrumYard$Paper" "reachedWithFewer" "[[I", Cond.fieldLink RX2 44 "DrumYard$Paper" "leastNew" "I", Cond.methodLink RL 18 yX5_init, Cond.instanceMethod yX5_init, Cond.code yX5_init cX5_init 1 none, Cond.methodLink RX5 3 objectInit, Cond.fieldLink RX5 9 "DrumYardModel" "tol" "I", Cond.fieldLink RX5 13 "DrumYardModel" "stone" "I", Cond.fieldLink RX5 16 "DrumYardModel" "ahead" "I", Cond.fieldLink RX5 19 "DrumYardModel" "measured" "[I", Cond.fieldLink RX5 23 "DrumYardModel" "below" "[I", Cond.fieldLink RX5 26 "DrumYardModel" "above" "[I", Cond.fieldLink RX5 29 "DrumYardModel" "doubt" "[I", Cond.fieldLink RX5 32 "DrumYardModel" "height" "[I", Cond.fieldLink RX5 35 "DrumYardModel" "flutes" "[I", Cond.fieldLink RX5 38 "DrumYardModel" "holesBelow" "[I", Cond.fieldLink RX5 41 "DrumYardModel" "holesAbove" "[I", Cond.fieldLink RX5 44 "DrumYardModel" "weight" "[I", Cond.fieldLink RX5 47 "DrumYardModel" "strength" "[I", Cond.fieldLink RX5 50 "DrumYardModel" "foot" "[I", Cond.fieldLink RX5 53 "DrumYardModel" "head" "[I", Cond.fieldLink RX5 56 "DrumYardModel" "begins" "[I", Cond.fieldLink RX5 59 "DrumYardModel" "high" "[I", Cond.fieldLink RX5 62 "DrumYardModel" "columnOf" "[I"]
def wsL_law0_r5 : List Cond := [Cond.fieldLink RX5 65 "DrumYardModel" "word" "[I", Cond.fieldLink RX5 68 "DrumYardModel" "isNot" "[Z", Cond.constant RX5 72 (101376), Cond.fieldLink RX5 73 "DrumYardModel" "least" "[I", Cond.fieldLink RX5 76 "DrumYardModel" "many" "[J", Cond.fieldLink RX5 80 "DrumYardModel" "led" "[J", Cond.fieldLink RX5 83 "DrumYardModel" "usage" "[J", Cond.fieldLink RX5 86 "DrumYardModel" "first" "[I", Cond.fieldLink RX5 89 "DrumYardModel" "stands" "[I", Cond.methodLink RL 19 yX4_measure, Cond.instanceMethod yX4_measure, Cond.selects RX4 yX4_measure yX4_measure, Cond.code yX4_measure cX4_measure 5 (some .boolean), Cond.methodLink RX4 51 yX4_isWidth, Cond.static yX4_isWidth, Cond.code yX4_isWidth cX4_isWidth 1 (some .boolean), Cond.methodLink RX4 55 yX4_isWithin, Cond.static yX4_isWithin, Cond.code yX4_isWithin cX4_isWithin 3 (some .boolean), Cond.methodLink RX4 59 yX1_keepMeasured, Cond.instanceMethod yX1_keepMeasured, Cond.selects RX1 yX1_keepMeasured yX1_keepMeasured, Cond.code yX1_keepMeasured cX1_keepMeasured 5 none, Cond.fieldLink RX1 28 "DrumYard$Drums" "isMeasured" "Z"]
def wsL_law0_r6 : List Cond := [Cond.methodLink RL 23 yX5_measure, Cond.instanceMethod yX5_measure, Cond.selects RX5 yX5_measure yX5_measure, Cond.code yX5_measure cX5_measure 5 (some .boolean), Cond.fieldLink RX5 92 "DrumYardModel" "thrown" "I", Cond.fieldLink RX5 112 "DrumYardModel" "isMeasured" "Z", Cond.methodLink RX5 108 yX5_isWidth, Cond.static yX5_isWidth, Cond.code yX5_isWidth cX5_isWidth 1 (some .boolean), Cond.methodLink RX5 95 yX5_isIn, Cond.static yX5_isIn, Cond.code yX5_isIn cX5_isIn 3 (some .boolean), Cond.methodLink RL 24 yX4_drum, Cond.instanceMethod yX4_drum, Cond.selects RX4 yX4_drum yX4_drum, Cond.code yX4_drum cX4_drum 6 (some .int), Cond.constant RX4 66 (100000), Cond.methodLink RX4 63 yX4_isHoles, Cond.static yX4_isHoles, Cond.code yX4_isHoles cX4_isHoles 1 (some .boolean), Cond.constant RX4 176 (65535), Cond.methodLink RX4 67 yX1_canTakeOne, Cond.instanceMethod yX1_canTakeOne, Cond.selects RX1 yX1_canTakeOne yX1_canTakeOne]
def wsL_law0_r7 : List Cond := [Cond.code yX1_canTakeOne cX1_canTakeOne 1 (some .boolean), Cond.fieldLink RX1 20 "DrumYard$Drums" "number" "I", Cond.methodLink RX4 71 yX1_take, Cond.instanceMethod yX1_take, Cond.selects RX1 yX1_take yX1_take, Cond.code yX1_take cX1_take 6 (some .int), Cond.methodLink RX1 36 arraycopyName, Cond.native arraycopyName, Cond.static arraycopyName, Cond.initialized "java/lang/System", Cond.methodLink RX1 32 yX1_canTakeOne, Cond.methodLink RL 28 yX5_drum, Cond.instanceMethod yX5_drum, Cond.selects RX5 yX5_drum yX5_drum, Cond.code yX5_drum cX5_drum 6 (some .int), Cond.fieldLink RX5 99 "DrumYardModel" "drums" "I", Cond.constant RX5 116 (65535), Cond.constant RX5 117 (100000), Cond.methodLink RL 29 yX4_set, Cond.instanceMethod yX4_set, Cond.selects RX4 yX4_set yX4_set, Cond.code yX4_set cX4_set 4 (some .boolean), Cond.methodLink RL 33 yX5_set, Cond.instanceMethod yX5_set]
def wsL_law0_r8 : List Cond := [Cond.selects RX5 yX5_set yX5_set, Cond.code yX5_set cX5_set 4 (some .boolean), Cond.methodLink RL 34 yX4_column, Cond.instanceMethod yX4_column, Cond.selects RX4 yX4_column yX4_column, Cond.code yX4_column cX4_column 4 (some .int), Cond.methodLink RX4 75 yX4_isWidthOrUntold, Cond.static yX4_isWidthOrUntold, Cond.code yX4_isWidthOrUntold cX4_isWidthOrUntold 1 (some .boolean), Cond.methodLink RX4 78 yX0_canTakeOne, Cond.instanceMethod yX0_canTakeOne, Cond.selects RX0 yX0_canTakeOne yX0_canTakeOne, Cond.code yX0_canTakeOne cX0_canTakeOne 2 (some .boolean), Cond.fieldLink RX0 30 "DrumYard$Columns" "number" "I", Cond.fieldLink RX0 34 "DrumYard$Columns" "placeNumber" "I", Cond.methodLink RX4 80 yX0_take, Cond.instanceMethod yX0_take, Cond.selects RX0 yX0_take yX0_take, Cond.code yX0_take cX0_take 5 (some .int), Cond.methodLink RX0 37 yX0_canTakeOne, Cond.methodLink RL 38 yX5_column, Cond.instanceMethod yX5_column, Cond.selects RX5 yX5_column yX5_column, Cond.code yX5_column cX5_column 5 (some .int)]
def wsL_law0_r9 : List Cond := [Cond.fieldLink RX5 102 "DrumYardModel" "columns" "I", Cond.fieldLink RX5 105 "DrumYardModel" "places" "I", Cond.methodLink RL 39 yX4_turn, Cond.instanceMethod yX4_turn, Cond.selects RX4 yX4_turn yX4_turn, Cond.code yX4_turn cX4_turn 3 (some .int), Cond.methodLink RX4 83 yX1_turnOn, Cond.instanceMethod yX1_turnOn, Cond.selects RX1 yX1_turnOn yX1_turnOn, Cond.code yX1_turnOn cX1_turnOn 7 (some .int), Cond.methodLink RX1 42 Lib.Math.abs.name, Cond.static Lib.Math.abs.name, Cond.initialized "java/lang/Math", Cond.code Lib.Math.abs.name Lib.Math.abs.code 1 (some .int), Cond.methodLink RX1 24 yX1_has, Cond.instanceMethod yX1_has, Cond.selects RX1 yX1_has yX1_has, Cond.code yX1_has cX1_has 2 (some .boolean), Cond.methodLink RX1 48 yX1_areAlike, Cond.static yX1_areAlike, Cond.code yX1_areAlike cX1_areAlike 2 (some .boolean), Cond.methodLink RX1 52 yX1_leastTurn, Cond.static yX1_leastTurn, Cond.code yX1_leastTurn cX1_leastTurn 3 (some .int)]
def wsL_law0_r10 : List Cond := [Cond.methodLink RX1 68 yX1_turned, Cond.static yX1_turned, Cond.code yX1_turned cX1_turned 3 (some .int), Cond.constant RX1 71 (65535), Cond.methodLink RL 42 yX5_turn, Cond.instanceMethod yX5_turn, Cond.selects RX5 yX5_turn yX5_turn, Cond.code yX5_turn cX5_turn 3 (some .int), Cond.methodLink RX5 124 yX5_isDrum, Cond.instanceMethod yX5_isDrum, Cond.selects RX5 yX5_isDrum yX5_isDrum, Cond.code yX5_isDrum cX5_isDrum 2 (some .boolean), Cond.methodLink RX5 127 yX5_turnOf, Cond.instanceMethod yX5_turnOf, Cond.selects RX5 yX5_turnOf yX5_turnOf, Cond.code yX5_turnOf cX5_turnOf 5 (some .int), Cond.methodLink RX5 118 Lib.Math.abs.name, Cond.methodLink RL 43 yX4_fits, Cond.instanceMethod yX4_fits, Cond.selects RX4 yX4_fits yX4_fits, Cond.code yX4_fits cX4_fits 4 (some .int), Cond.methodLink RX4 86 yX1_has, Cond.methodLink RX4 89 yX0_has, Cond.instanceMethod yX0_has]
def wsL_law0_r11 : List Cond := [Cond.selects RX0 yX0_has yX0_has, Cond.code yX0_has cX0_has 2 (some .boolean), Cond.methodLink RX4 90 yX4_fitsFoot, Cond.instanceMethod yX4_fitsFoot, Cond.selects RX4 yX4_fitsFoot yX4_fitsFoot, Cond.code yX4_fitsFoot cX4_fitsFoot 3 (some .boolean), Cond.methodLink RX4 141 yX1_fact, Cond.instanceMethod yX1_fact, Cond.selects RX1 yX1_fact yX1_fact, Cond.code yX1_fact cX1_fact 3 (some .int), Cond.methodLink RX4 177 yX0_footOf, Cond.instanceMethod yX0_footOf, Cond.selects RX0 yX0_footOf yX0_footOf, Cond.code yX0_footOf cX0_footOf 2 (some .int), Cond.methodLink RX0 44 yX0_has, Cond.methodLink RX4 180 yX4_agrees, Cond.instanceMethod yX4_agrees, Cond.selects RX4 yX4_agrees yX4_agrees, Cond.code yX4_agrees cX4_agrees 4 (some .boolean), Cond.methodLink RX4 186 Lib.Math.abs.name, Cond.methodLink RX4 94 yX4_fitsHead, Cond.instanceMethod yX4_fitsHead, Cond.selects RX4 yX4_fitsHead yX4_fitsHead, Cond.code yX4_fitsHead cX4_fitsHead 3 (some .boolean)]
def wsL_law0_r12 : List Cond := [Cond.methodLink RX4 183 yX0_headOf, Cond.instanceMethod yX0_headOf, Cond.selects RX0 yX0_headOf yX0_headOf, Cond.code yX0_headOf cX0_headOf 2 (some .int), Cond.methodLink RL 46 yX5_fits, Cond.instanceMethod yX5_fits, Cond.selects RX5 yX5_fits yX5_fits, Cond.code yX5_fits cX5_fits 3 (some .int), Cond.methodLink RX5 131 yX5_isColumn, Cond.instanceMethod yX5_isColumn, Cond.selects RX5 yX5_isColumn yX5_isColumn, Cond.code yX5_isColumn cX5_isColumn 2 (some .boolean), Cond.methodLink RX5 134 yX5_fitsFoot, Cond.instanceMethod yX5_fitsFoot, Cond.selects RX5 yX5_fitsFoot yX5_fitsFoot, Cond.code yX5_fitsFoot cX5_fitsFoot 3 (some .boolean), Cond.methodLink RX5 138 yX5_fitsHead, Cond.instanceMethod yX5_fitsHead, Cond.selects RX5 yX5_fitsHead yX5_fitsHead, Cond.code yX5_fitsHead cX5_fitsHead 3 (some .boolean), Cond.methodLink RL 47 yX4_hand, Cond.instanceMethod yX4_hand, Cond.selects RX4 yX4_hand yX4_hand, Cond.code yX4_hand cX4_hand 3 (some .boolean)]
def wsL_law0_r13 : List Cond := [Cond.methodLink RX4 97 yX0_hasPlace, Cond.instanceMethod yX0_hasPlace, Cond.selects RX0 yX0_hasPlace yX0_hasPlace, Cond.code yX0_hasPlace cX0_hasPlace 2 (some .boolean), Cond.methodLink RX4 100 yX3_toldOf, Cond.instanceMethod yX3_toldOf, Cond.selects RX3 yX3_toldOf yX3_toldOf, Cond.code yX3_toldOf cX3_toldOf 2 (some .int), Cond.methodLink RX3 18 yX3_isRow, Cond.static yX3_isRow, Cond.code yX3_isRow cX3_isRow 1 (some .boolean), Cond.methodLink RX4 104 yX3_tell, Cond.instanceMethod yX3_tell, Cond.selects RX3 yX3_tell yX3_tell, Cond.code yX3_tell cX3_tell 3 none, Cond.methodLink RL 51 yX5_hand, Cond.instanceMethod yX5_hand, Cond.selects RX5 yX5_hand yX5_hand, Cond.code yX5_hand cX5_hand 3 (some .boolean), Cond.methodLink RX5 141 yX5_isPlace, Cond.instanceMethod yX5_isPlace, Cond.selects RX5 yX5_isPlace yX5_isPlace, Cond.code yX5_isPlace cX5_isPlace 2 (some .boolean), Cond.methodLink RL 52 yX4_not]
def wsL_law0_r14 : List Cond := [Cond.instanceMethod yX4_not, Cond.selects RX4 yX4_not yX4_not, Cond.code yX4_not cX4_not 4 (some .boolean), Cond.methodLink RX4 108 yX3_isBarred, Cond.instanceMethod yX3_isBarred, Cond.selects RX3 yX3_isBarred yX3_isBarred, Cond.code yX3_isBarred cX3_isBarred 3 (some .boolean), Cond.static yX4_hasBit, Cond.code yX4_hasBit cX4_hasBit 2 (some .boolean), Cond.methodLink RX4 111 yX3_bar, Cond.instanceMethod yX3_bar, Cond.selects RX3 yX3_bar yX3_bar, Cond.code yX3_bar cX3_bar 5 none, Cond.methodLink RL 56 yX5_not, Cond.instanceMethod yX5_not, Cond.selects RX5 yX5_not yX5_not, Cond.code yX5_not cX5_not 4 (some .boolean), Cond.methodLink RL 57 yX4_least, Cond.instanceMethod yX4_least, Cond.selects RX4 yX4_least yX4_least, Cond.code yX4_least cX4_least 1 (some .int), Cond.methodLink RX4 115 yX4_drawPaper, Cond.instanceMethod yX4_drawPaper, Cond.selects RX4 yX4_drawPaper yX4_drawPaper]
def wsL_law0_r15 : List Cond := [Cond.code yX4_drawPaper cX4_drawPaper 2 none, Cond.methodLink RX4 129 yX0_placeNumber, Cond.instanceMethod yX0_placeNumber, Cond.selects RX0 yX0_placeNumber yX0_placeNumber, Cond.code yX0_placeNumber cX0_placeNumber 1 (some .int), Cond.methodLink RX4 194 yX2_clear, Cond.instanceMethod yX2_clear, Cond.selects RX2 yX2_clear yX2_clear, Cond.code yX2_clear cX2_clear 4 none, Cond.methodLink RX2 56 Lib.Math.min.name, Cond.static Lib.Math.min.name, Cond.code Lib.Math.min.name Lib.Math.min.code 2 (some .int), Cond.methodLink RX2 62 Lib.Math.max.name, Cond.static Lib.Math.max.name, Cond.code Lib.Math.max.name Lib.Math.max.code 2 (some .int), Cond.fieldLink RX2 65 "DrumYard$Paper" "places" "I", Cond.methodLink RX4 166 yX1_number, Cond.instanceMethod yX1_number, Cond.selects RX1 yX1_number yX1_number, Cond.code yX1_number cX1_number 1 (some .int), Cond.methodLink RX4 198 yX1_lyingOn, Cond.instanceMethod yX1_lyingOn, Cond.selects RX1 yX1_lyingOn yX1_lyingOn, Cond.code yX1_lyingOn cX1_lyingOn 5 (some .int)]
def wsL_law0_r16 : List Cond := [Cond.methodLink RX1 56 yX1_turnOn, Cond.methodLink RX4 201 yX2_allowOver, Cond.instanceMethod yX2_allowOver, Cond.selects RX2 yX2_allowOver yX2_allowOver, Cond.code yX2_allowOver cX2_allowOver 3 none, Cond.methodLink RX4 204 yX4_itemsAllowedAt, Cond.instanceMethod yX4_itemsAllowedAt, Cond.selects RX4 yX4_itemsAllowedAt yX4_itemsAllowedAt, Cond.code yX4_itemsAllowedAt cX4_itemsAllowedAt 5 (some .int), Cond.methodLink RX4 163 yX0_columnOf, Cond.instanceMethod yX0_columnOf, Cond.selects RX0 yX0_columnOf yX0_columnOf, Cond.code yX0_columnOf cX0_columnOf 2 (some .int), Cond.methodLink RX0 41 yX0_hasPlace, Cond.methodLink RX4 216 yX0_isFoot, Cond.instanceMethod yX0_isFoot, Cond.selects RX0 yX0_isFoot yX0_isFoot, Cond.code yX0_isFoot cX0_isFoot 2 (some .boolean), Cond.methodLink RX0 47 yX0_columnOf, Cond.methodLink RX0 51 yX0_startOf, Cond.instanceMethod yX0_startOf, Cond.selects RX0 yX0_startOf yX0_startOf, Cond.code yX0_startOf cX0_startOf 2 (some .int), Cond.methodLink RX4 207 yX0_isHead]
def wsL_law0_r17 : List Cond := [Cond.instanceMethod yX0_isHead, Cond.selects RX0 yX0_isHead yX0_isHead, Cond.code yX0_isHead cX0_isHead 2 (some .boolean), Cond.methodLink RX0 54 yX0_endOf, Cond.instanceMethod yX0_endOf, Cond.selects RX0 yX0_endOf yX0_endOf, Cond.code yX0_endOf cX0_endOf 2 (some .int), Cond.methodLink RX4 210 yX2_allowAt, Cond.instanceMethod yX2_allowAt, Cond.selects RX2 yX2_allowAt yX2_allowAt, Cond.code yX2_allowAt cX2_allowAt 4 none, Cond.methodLink RX2 52 yX2_isPlace, Cond.instanceMethod yX2_isPlace, Cond.selects RX2 yX2_isPlace yX2_isPlace, Cond.code yX2_isPlace cX2_isPlace 2 (some .boolean), Cond.methodLink RX4 213 yX2_findBest, Cond.instanceMethod yX2_findBest, Cond.selects RX2 yX2_findBest yX2_findBest, Cond.code yX2_findBest cX2_findBest 2 none, Cond.fieldLink RX2 48 "DrumYard$Paper" "bestWays" "J", Cond.methodLink RX2 68 yX2_reachWith, Cond.instanceMethod yX2_reachWith, Cond.selects RX2 yX2_reachWith yX2_reachWith, Cond.code yX2_reachWith cX2_reachWith 3 none]
def wsL_law0_r18 : List Cond := [Cond.methodLink RX2 78 yX2_spreadDrums, Cond.instanceMethod yX2_spreadDrums, Cond.selects RX2 yX2_spreadDrums yX2_spreadDrums, Cond.code yX2_spreadDrums cX2_spreadDrums 10 none, Cond.methodLink RX2 89 yX2_itemsFor, Cond.instanceMethod yX2_itemsFor, Cond.selects RX2 yX2_itemsFor yX2_itemsFor, Cond.code yX2_itemsFor cX2_itemsFor 3 (some .int), Cond.methodLink RX2 96 yX2_after, Cond.instanceMethod yX2_after, Cond.selects RX2 yX2_after yX2_after, Cond.code yX2_after cX2_after 5 (some .int), Cond.methodLink RX2 85 yX2_reach, Cond.instanceMethod yX2_reach, Cond.selects RX2 yX2_reach yX2_reach, Cond.code yX2_reach cX2_reach 6 none, Cond.methodLink RX2 82 yX2_spreadNew, Cond.instanceMethod yX2_spreadNew, Cond.selects RX2 yX2_spreadNew yX2_spreadNew, Cond.code yX2_spreadNew cX2_spreadNew 6 none, Cond.methodLink RX2 72 yX2_dropAllButBest, Cond.instanceMethod yX2_dropAllButBest, Cond.selects RX2 yX2_dropAllButBest yX2_dropAllButBest, Cond.code yX2_dropAllButBest cX2_dropAllButBest 6 none]
def wsL_law0_r19 : List Cond := [Cond.methodLink RX2 100 yX2_itemsToBest, Cond.instanceMethod yX2_itemsToBest, Cond.selects RX2 yX2_itemsToBest yX2_itemsToBest, Cond.code yX2_itemsToBest cX2_itemsToBest 6 (some .int), Cond.methodLink RX2 75 yX2_walkFirst, Cond.instanceMethod yX2_walkFirst, Cond.selects RX2 yX2_walkFirst yX2_walkFirst, Cond.code yX2_walkFirst cX2_walkFirst 4 none, Cond.methodLink RX2 103 yX2_hasWay, Cond.instanceMethod yX2_hasWay, Cond.selects RX2 yX2_hasWay yX2_hasWay, Cond.code yX2_hasWay cX2_hasWay 1 (some .boolean), Cond.methodLink RX2 107 yX2_lowest, Cond.static yX2_lowest, Cond.code yX2_lowest cX2_lowest 2 (some .int), Cond.methodLink RX4 118 yX2_leastNew, Cond.instanceMethod yX2_leastNew, Cond.selects RX2 yX2_leastNew yX2_leastNew, Cond.code yX2_leastNew cX2_leastNew 1 (some .int), Cond.methodLink RL 61 yX5_least, Cond.instanceMethod yX5_least, Cond.selects RX5 yX5_least yX5_least, Cond.code yX5_least cX5_least 1 (some .int), Cond.methodLink RX5 158 yX5_find]
def wsL_law0_r20 : List Cond := [Cond.instanceMethod yX5_find, Cond.selects RX5 yX5_find yX5_find, Cond.code yX5_find cX5_find 8 (some .boolean), Cond.methodLink RX5 144 yX5_index, Cond.static yX5_index, Cond.code yX5_index cX5_index 3 (some .int), Cond.methodLink RX5 148 yX5_may, Cond.instanceMethod yX5_may, Cond.selects RX5 yX5_may yX5_may, Cond.code yX5_may cX5_may 8 (some .boolean), Cond.methodLink RX5 152 yX5_behind, Cond.instanceMethod yX5_behind, Cond.selects RX5 yX5_behind yX5_behind, Cond.code yX5_behind cX5_behind 4 (some .int), Cond.methodLink RX5 155 yX5_isBest, Cond.instanceMethod yX5_isBest, Cond.selects RX5 yX5_isBest yX5_isBest, Cond.code yX5_isBest cX5_isBest 6 (some .boolean), Cond.methodLink RL 62 yX4_ways, Cond.instanceMethod yX4_ways, Cond.selects RX4 yX4_ways yX4_ways, Cond.code yX4_ways cX4_ways 1 (some .long), Cond.methodLink RX4 122 yX2_bestWays, Cond.instanceMethod yX2_bestWays]
def wsL_law0_r21 : List Cond := [Cond.selects RX2 yX2_bestWays yX2_bestWays, Cond.code yX2_bestWays cX2_bestWays 1 (some .long), Cond.methodLink RL 66 yX5_ways, Cond.instanceMethod yX5_ways, Cond.selects RX5 yX5_ways yX5_ways, Cond.code yX5_ways cX5_ways 1 (some .long), Cond.methodLink RL 67 yX4_first, Cond.instanceMethod yX4_first, Cond.selects RX4 yX4_first yX4_first, Cond.code yX4_first cX4_first 2 (some .int), Cond.methodLink RX4 126 yX2_firstAt, Cond.instanceMethod yX2_firstAt, Cond.selects RX2 yX2_firstAt yX2_firstAt, Cond.code yX2_firstAt cX2_firstAt 2 (some .int), Cond.methodLink RL 71 yX5_first, Cond.instanceMethod yX5_first, Cond.selects RX5 yX5_first yX5_first, Cond.code yX5_first cX5_first 2 (some .int), Cond.methodLink RL 72 yX4_sure, Cond.instanceMethod yX4_sure, Cond.selects RX4 yX4_sure yX4_sure, Cond.code yX4_sure cX4_sure 3 (some .int), Cond.methodLink RX4 132 yX2_bestHeldAt, Cond.instanceMethod yX2_bestHeldAt]
def wsL_law0_r22 : List Cond := [Cond.selects RX2 yX2_bestHeldAt yX2_bestHeldAt, Cond.code yX2_bestHeldAt cX2_bestHeldAt 2 (some .int), Cond.methodLink RL 75 yX5_sure, Cond.instanceMethod yX5_sure, Cond.selects RX5 yX5_sure yX5_sure, Cond.code yX5_sure cX5_sure 3 (some .int), Cond.methodLink RX5 162 yX5_use, Cond.instanceMethod yX5_use, Cond.selects RX5 yX5_use yX5_use, Cond.code yX5_use cX5_use 7 none, Cond.methodLink RL 76 yX4_open, Cond.instanceMethod yX4_open, Cond.selects RX4 yX4_open yX4_open, Cond.code yX4_open cX4_open 4 (some .int), Cond.methodLink RX4 135 yX4_hasBit, Cond.methodLink RL 79 yX5_open, Cond.instanceMethod yX5_open, Cond.selects RX5 yX5_open yX5_open, Cond.code yX5_open cX5_open 4 (some .int), Cond.methodLink RL 80 yX4_bears, Cond.instanceMethod yX4_bears, Cond.selects RX4 yX4_bears yX4_bears, Cond.code yX4_bears cX4_bears 3 (some .int), Cond.methodLink RX4 138 yX4_loadOver]
def wsL_law0_r23 : List Cond := [Cond.instanceMethod yX4_loadOver, Cond.selects RX4 yX4_loadOver yX4_loadOver, Cond.code yX4_loadOver cX4_loadOver 6 (some .int), Cond.methodLink RX4 151 yX0_endOf, Cond.methodLink RL 83 yX5_bears, Cond.instanceMethod yX5_bears, Cond.selects RX5 yX5_bears yX5_bears, Cond.code yX5_bears cX5_bears 2 (some .int), Cond.methodLink RX5 165 yX5_borne, Cond.instanceMethod yX5_borne, Cond.selects RX5 yX5_borne yX5_borne, Cond.code yX5_borne cX5_borne 5 (some .int), Cond.methodLink RL 84 yX4_cracked, Cond.instanceMethod yX4_cracked, Cond.selects RX4 yX4_cracked yX4_cracked, Cond.code yX4_cracked cX4_cracked 4 (some .int), Cond.methodLink RL 87 yX5_cracked, Cond.instanceMethod yX5_cracked, Cond.selects RX5 yX5_cracked yX5_cracked, Cond.code yX5_cracked cX5_cracked 3 (some .int), Cond.methodLink RL 88 yX4_setting, Cond.instanceMethod yX4_setting, Cond.selects RX4 yX4_setting yX4_setting, Cond.code yX4_setting cX4_setting 2 (some .int)]
def wsL_law0_r24 : List Cond := [Cond.methodLink RX4 145 yX2_hasWay, Cond.methodLink RX4 148 yX0_placeOfStone, Cond.instanceMethod yX0_placeOfStone, Cond.selects RX0 yX0_placeOfStone yX0_placeOfStone, Cond.code yX0_placeOfStone cX0_placeOfStone 6 (some .int), Cond.methodLink RX0 57 yX0_nextColumn, Cond.instanceMethod yX0_nextColumn, Cond.selects RX0 yX0_nextColumn yX0_nextColumn, Cond.code yX0_nextColumn cX0_nextColumn 4 (some .int), Cond.methodLink RX0 60 yX0_isFull, Cond.instanceMethod yX0_isFull, Cond.selects RX0 yX0_isFull yX0_isFull, Cond.code yX0_isFull cX0_isFull 2 (some .boolean), Cond.methodLink RX0 63 yX0_allowsNext, Cond.instanceMethod yX0_allowsNext, Cond.selects RX0 yX0_allowsNext yX0_allowsNext, Cond.code yX0_allowsNext cX0_allowsNext 3 (some .boolean), Cond.methodLink RL 91 yX5_setting, Cond.instanceMethod yX5_setting, Cond.selects RX5 yX5_setting yX5_setting, Cond.code yX5_setting cX5_setting 8 (some .int), Cond.methodLink RX5 171 yX5_isLevel, Cond.instanceMethod yX5_isLevel, Cond.selects RX5 yX5_isLevel yX5_isLevel]
def wsL_law0_r25 : List Cond := [Cond.code yX5_isLevel cX5_isLevel 3 (some .boolean), Cond.methodLink RX5 168 yX5_isFull, Cond.instanceMethod yX5_isFull, Cond.selects RX5 yX5_isFull yX5_isFull, Cond.code yX5_isFull cX5_isFull 2 (some .boolean), Cond.methodLink RL 92 yX4_tall, Cond.instanceMethod yX4_tall, Cond.selects RX4 yX4_tall yX4_tall, Cond.code yX4_tall cX4_tall 5 (some .int), Cond.methodLink RX4 154 yX0_startOf, Cond.methodLink RX4 157 yX4_heightOf, Cond.instanceMethod yX4_heightOf, Cond.selects RX4 yX4_heightOf yX4_heightOf, Cond.code yX4_heightOf cX4_heightOf 2 (some .int), Cond.methodLink RX4 191 yX1_meanHeight, Cond.instanceMethod yX1_meanHeight, Cond.selects RX1 yX1_meanHeight yX1_meanHeight, Cond.code yX1_meanHeight cX1_meanHeight 3 (some .int), Cond.methodLink RL 95 yX5_tall, Cond.instanceMethod yX5_tall, Cond.selects RX5 yX5_tall yX5_tall, Cond.code yX5_tall cX5_tall 6 (some .int), Cond.methodLink RL 96 yL_told, Cond.static yL_told]
def wsL_law0_r26 : List Cond := [Cond.initialized RL, Cond.codeWith yL_told cL_told 5 (some .int) [(0, 10, 13, 13)], Cond.classLink RL 13 "java/util/NoSuchElementException", Cond.methodLink RL 7 yX4_told, Cond.instanceMethod yX4_told, Cond.selects RX4 yX4_told yX4_told, Cond.code yX4_told cX4_told 3 (some .int), Cond.classLink RX4 160 "java/util/NoSuchElementException", Cond.initialized "java/util/NoSuchElementException", Cond.methodLink RL 101 yX5_told, Cond.instanceMethod yX5_told, Cond.selects RX5 yX5_told yX5_told, Cond.code yX5_told cX5_told 3 (some .int), Cond.methodLink RL 102 yX5_thrown, Cond.instanceMethod yX5_thrown, Cond.selects RX5 yX5_thrown yX5_thrown, Cond.code yX5_thrown cX5_thrown 1 (some .int), Cond.methodLink RL 105 yX4_place, Cond.instanceMethod yX4_place, Cond.selects RX4 yX4_place yX4_place, Cond.code yX4_place cX4_place 3 (some .int), Cond.methodLink RL 108 yX5_place, Cond.instanceMethod yX5_place, Cond.selects RX5 yX5_place yX5_place]
def wsL_law0_r27 : List Cond := [Cond.code yX5_place cX5_place 3 (some .int), Cond.methodLink RL 109 yX4_count, Cond.instanceMethod yX4_count, Cond.selects RX4 yX4_count yX4_count, Cond.code yX4_count cX4_count 2 (some .int), Cond.methodLink RX4 169 yX0_number, Cond.instanceMethod yX0_number, Cond.selects RX0 yX0_number yX0_number, Cond.code yX0_number cX0_number 1 (some .int), Cond.methodLink RX4 170 yX1_pairsLying, Cond.instanceMethod yX1_pairsLying, Cond.selects RX1 yX1_pairsLying yX1_pairsLying, Cond.code yX1_pairsLying cX1_pairsLying 4 (some .int), Cond.methodLink RX1 60 yX1_lyingOn, Cond.methodLink RX1 63 yJ6_bitCount_0f7a4, Cond.static yJ6_bitCount_0f7a4, Cond.initialized RJ6, Cond.code yJ6_bitCount_0f7a4 cJ6_bitCount_0f7a4 1 (some .int), Cond.constant RJ6 265 (1431655765), Cond.constant RJ6 266 (858993459), Cond.constant RJ6 267 (252645135), Cond.methodLink RX4 173 yX3_toldNumber, Cond.instanceMethod yX3_toldNumber, Cond.selects RX3 yX3_toldNumber yX3_toldNumber]
def wsL_law0_r28 : List Cond := [Cond.code yX3_toldNumber cX3_toldNumber 3 (some .int), Cond.methodLink RL 112 yX5_count, Cond.instanceMethod yX5_count, Cond.selects RX5 yX5_count yX5_count, Cond.code yX5_count cX5_count 5 (some .int)]
def wsL_law0 : List Cond := (wsL_law0_r1 ++ (wsL_law0_r2 ++ (wsL_law0_r3 ++ (wsL_law0_r4 ++ (wsL_law0_r5 ++ (wsL_law0_r6 ++ (wsL_law0_r7 ++ (wsL_law0_r8 ++ (wsL_law0_r9 ++ (wsL_law0_r10 ++ (wsL_law0_r11 ++ (wsL_law0_r12 ++ (wsL_law0_r13 ++ (wsL_law0_r14 ++ (wsL_law0_r15 ++ (wsL_law0_r16 ++ (wsL_law0_r17 ++ (wsL_law0_r18 ++ (wsL_law0_r19 ++ (wsL_law0_r20 ++ (wsL_law0_r21 ++ (wsL_law0_r22 ++ (wsL_law0_r23 ++ (wsL_law0_r24 ++ (wsL_law0_r25 ++ (wsL_law0_r26 ++ (wsL_law0_r27 ++ wsL_law0_r28))))))))))))))))))))))))))) ++ wsX40 ++ wsX50 ++ wsX10 ++ wsX00 ++ wsX30 ++ wsX20 ++ ([] : List Cond)
abbrev vwCl : List vw_C := [(RX0, TX0, 8), (RX1, TX1, 4), (RX2, TX2, 12), (RX3, TX3, 2), (RX4, TX4, 8), (RX5, TX5, 31)]
