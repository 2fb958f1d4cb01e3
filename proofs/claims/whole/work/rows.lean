section
-- ===== PART A: goes FIRST, ahead of the names: the tables' words, and 'selects' of the private methods out of them =====
/-- a private method of a class that the tables say can be made, by its rows of tables_1 -/
def lw_okq (q : MethodName × Nat) : Prop := (q.1.cls ≠ "java/lang/invoke/MethodHandle" ∧ q.1.cls ≠ "java/lang/invoke/VarHandle") ∧ Cond.instantiable q.1.cls q.2 ∈ tables_1 ∧ Cond.privateMethod q.1 ∈ tables_1 ∧ Cond.instanceMethod q.1 ∈ tables_1
theorem lw_p0 : lw_okq (⟨"DrumYard", "fitsFoot", "(II)Z"⟩, 8) := ⟨⟨by decide +kernel, by decide +kernel⟩, List.mem_of_getElem? (i := 15) (by decide +kernel), List.mem_of_getElem? (i := 251) (by decide +kernel), List.mem_of_getElem? (i := 252) (by decide +kernel)⟩
theorem lw_p1 : lw_okq (⟨"DrumYard", "agrees", "(III)Z"⟩, 8) := ⟨⟨by decide +kernel, by decide +kernel⟩, List.mem_of_getElem? (i := 15) (by decide +kernel), List.mem_of_getElem? (i := 264) (by decide +kernel), List.mem_of_getElem? (i := 265) (by decide +kernel)⟩
theorem lw_p2 : lw_okq (⟨"DrumYard", "fitsHead", "(II)Z"⟩, 8) := ⟨⟨by decide +kernel, by decide +kernel⟩, List.mem_of_getElem? (i := 15) (by decide +kernel), List.mem_of_getElem? (i := 269) (by decide +kernel), List.mem_of_getElem? (i := 270) (by decide +kernel)⟩
theorem lw_p3 : lw_okq (⟨"DrumYard", "drawPaper", "()V"⟩, 8) := ⟨⟨by decide +kernel, by decide +kernel⟩, List.mem_of_getElem? (i := 15) (by decide +kernel), List.mem_of_getElem? (i := 315) (by decide +kernel), List.mem_of_getElem? (i := 316) (by decide +kernel)⟩
theorem lw_p4 : lw_okq (⟨"DrumYard", "itemsAllowedAt", "(I)I"⟩, 8) := ⟨⟨by decide +kernel, by decide +kernel⟩, List.mem_of_getElem? (i := 15) (by decide +kernel), List.mem_of_getElem? (i := 346) (by decide +kernel), List.mem_of_getElem? (i := 347) (by decide +kernel)⟩
theorem lw_p5 : lw_okq (⟨"DrumYard$Paper", "isPlace", "(I)Z"⟩, 12) := ⟨⟨by decide +kernel, by decide +kernel⟩, List.mem_of_getElem? (i := 89) (by decide +kernel), List.mem_of_getElem? (i := 376) (by decide +kernel), List.mem_of_getElem? (i := 377) (by decide +kernel)⟩
theorem lw_p6 : lw_okq (⟨"DrumYard$Paper", "reachWith", "(I)V"⟩, 12) := ⟨⟨by decide +kernel, by decide +kernel⟩, List.mem_of_getElem? (i := 89) (by decide +kernel), List.mem_of_getElem? (i := 384) (by decide +kernel), List.mem_of_getElem? (i := 385) (by decide +kernel)⟩
theorem lw_p7 : lw_okq (⟨"DrumYard$Paper", "spreadDrums", "(II)V"⟩, 12) := ⟨⟨by decide +kernel, by decide +kernel⟩, List.mem_of_getElem? (i := 89) (by decide +kernel), List.mem_of_getElem? (i := 388) (by decide +kernel), List.mem_of_getElem? (i := 389) (by decide +kernel)⟩
theorem lw_p8 : lw_okq (⟨"DrumYard$Paper", "itemsFor", "(II)I"⟩, 12) := ⟨⟨by decide +kernel, by decide +kernel⟩, List.mem_of_getElem? (i := 89) (by decide +kernel), List.mem_of_getElem? (i := 392) (by decide +kernel), List.mem_of_getElem? (i := 393) (by decide +kernel)⟩
theorem lw_p9 : lw_okq (⟨"DrumYard$Paper", "after", "(III)I"⟩, 12) := ⟨⟨by decide +kernel, by decide +kernel⟩, List.mem_of_getElem? (i := 89) (by decide +kernel), List.mem_of_getElem? (i := 397) (by decide +kernel), List.mem_of_getElem? (i := 398) (by decide +kernel)⟩
theorem lw_p10 : lw_okq (⟨"DrumYard$Paper", "reach", "(IIJ)V"⟩, 12) := ⟨⟨by decide +kernel, by decide +kernel⟩, List.mem_of_getElem? (i := 89) (by decide +kernel), List.mem_of_getElem? (i := 401) (by decide +kernel), List.mem_of_getElem? (i := 402) (by decide +kernel)⟩
theorem lw_p11 : lw_okq (⟨"DrumYard$Paper", "spreadNew", "(II)V"⟩, 12) := ⟨⟨by decide +kernel, by decide +kernel⟩, List.mem_of_getElem? (i := 89) (by decide +kernel), List.mem_of_getElem? (i := 405) (by decide +kernel), List.mem_of_getElem? (i := 406) (by decide +kernel)⟩
theorem lw_p12 : lw_okq (⟨"DrumYard$Paper", "dropAllButBest", "()V"⟩, 12) := ⟨⟨by decide +kernel, by decide +kernel⟩, List.mem_of_getElem? (i := 89) (by decide +kernel), List.mem_of_getElem? (i := 409) (by decide +kernel), List.mem_of_getElem? (i := 410) (by decide +kernel)⟩
theorem lw_p13 : lw_okq (⟨"DrumYard$Paper", "itemsToBest", "(II)I"⟩, 12) := ⟨⟨by decide +kernel, by decide +kernel⟩, List.mem_of_getElem? (i := 89) (by decide +kernel), List.mem_of_getElem? (i := 413) (by decide +kernel), List.mem_of_getElem? (i := 414) (by decide +kernel)⟩
theorem lw_p14 : lw_okq (⟨"DrumYard$Paper", "walkFirst", "()V"⟩, 12) := ⟨⟨by decide +kernel, by decide +kernel⟩, List.mem_of_getElem? (i := 89) (by decide +kernel), List.mem_of_getElem? (i := 417) (by decide +kernel), List.mem_of_getElem? (i := 418) (by decide +kernel)⟩
theorem lw_p15 : lw_okq (⟨"DrumYard", "loadOver", "(I)I"⟩, 8) := ⟨⟨by decide +kernel, by decide +kernel⟩, List.mem_of_getElem? (i := 15) (by decide +kernel), List.mem_of_getElem? (i := 465) (by decide +kernel), List.mem_of_getElem? (i := 466) (by decide +kernel)⟩
def lw_privs_1 : List (MethodName × Nat) := [(⟨"DrumYard", "fitsFoot", "(II)Z"⟩, 8), (⟨"DrumYard", "agrees", "(III)Z"⟩, 8), (⟨"DrumYard", "fitsHead", "(II)Z"⟩, 8), (⟨"DrumYard", "drawPaper", "()V"⟩, 8), (⟨"DrumYard", "itemsAllowedAt", "(I)I"⟩, 8), (⟨"DrumYard$Paper", "isPlace", "(I)Z"⟩, 12), (⟨"DrumYard$Paper", "reachWith", "(I)V"⟩, 12), (⟨"DrumYard$Paper", "spreadDrums", "(II)V"⟩, 12), (⟨"DrumYard$Paper", "itemsFor", "(II)I"⟩, 12), (⟨"DrumYard$Paper", "after", "(III)I"⟩, 12), (⟨"DrumYard$Paper", "reach", "(IIJ)V"⟩, 12), (⟨"DrumYard$Paper", "spreadNew", "(II)V"⟩, 12), (⟨"DrumYard$Paper", "dropAllButBest", "()V"⟩, 12), (⟨"DrumYard$Paper", "itemsToBest", "(II)I"⟩, 12), (⟨"DrumYard$Paper", "walkFirst", "()V"⟩, 12), (⟨"DrumYard", "loadOver", "(I)I"⟩, 8)]
theorem lw_r1 : ∀ q ∈ lw_privs_1, lw_okq q := List.forall_mem_cons.mpr ⟨lw_p0, List.forall_mem_cons.mpr ⟨lw_p1, List.forall_mem_cons.mpr ⟨lw_p2, List.forall_mem_cons.mpr ⟨lw_p3, List.forall_mem_cons.mpr ⟨lw_p4, List.forall_mem_cons.mpr ⟨lw_p5, List.forall_mem_cons.mpr ⟨lw_p6, List.forall_mem_cons.mpr ⟨lw_p7, List.forall_mem_cons.mpr ⟨lw_p8, List.forall_mem_cons.mpr ⟨lw_p9, List.forall_mem_cons.mpr ⟨lw_p10, List.forall_mem_cons.mpr ⟨lw_p11, List.forall_mem_cons.mpr ⟨lw_p12, List.forall_mem_cons.mpr ⟨lw_p13, List.forall_mem_cons.mpr ⟨lw_p14, List.forall_mem_cons.mpr ⟨lw_p15, fun _ h => absurd h List.not_mem_nil⟩⟩⟩⟩⟩⟩⟩⟩⟩⟩⟩⟩⟩⟩⟩⟩
theorem lw_p16 : lw_okq (⟨"DrumYard$Columns", "nextColumn", "(I)I"⟩, 8) := ⟨⟨by decide +kernel, by decide +kernel⟩, List.mem_of_getElem? (i := 45) (by decide +kernel), List.mem_of_getElem? (i := 483) (by decide +kernel), List.mem_of_getElem? (i := 484) (by decide +kernel)⟩
theorem lw_p17 : lw_okq (⟨"DrumYard$Columns", "isFull", "(I)Z"⟩, 8) := ⟨⟨by decide +kernel, by decide +kernel⟩, List.mem_of_getElem? (i := 45) (by decide +kernel), List.mem_of_getElem? (i := 487) (by decide +kernel), List.mem_of_getElem? (i := 488) (by decide +kernel)⟩
theorem lw_p18 : lw_okq (⟨"DrumYard$Columns", "allowsNext", "(II)Z"⟩, 8) := ⟨⟨by decide +kernel, by decide +kernel⟩, List.mem_of_getElem? (i := 45) (by decide +kernel), List.mem_of_getElem? (i := 491) (by decide +kernel), List.mem_of_getElem? (i := 492) (by decide +kernel)⟩
theorem lw_p19 : lw_okq (⟨"DrumYard", "heightOf", "(I)I"⟩, 8) := ⟨⟨by decide +kernel, by decide +kernel⟩, List.mem_of_getElem? (i := 15) (by decide +kernel), List.mem_of_getElem? (i := 500) (by decide +kernel), List.mem_of_getElem? (i := 501) (by decide +kernel)⟩
theorem lw_p20 : lw_okq (⟨"java/lang/Throwable", "fillInStackTrace", "(I)Ljava/lang/Throwable;"⟩, 6) := ⟨⟨by decide +kernel, by decide +kernel⟩, List.mem_of_getElem? (i := 579) (by decide +kernel), List.mem_of_getElem? (i := 577) (by decide +kernel), List.mem_of_getElem? (i := 578) (by decide +kernel)⟩
theorem lw_p21 : lw_okq (⟨"DrumYardModel", "isDrum", "(I)Z"⟩, 31) := ⟨⟨by decide +kernel, by decide +kernel⟩, List.mem_of_getElem? (i := 604) (by decide +kernel), List.mem_of_getElem? (i := 737) (by decide +kernel), List.mem_of_getElem? (i := 738) (by decide +kernel)⟩
theorem lw_p22 : lw_okq (⟨"DrumYardModel", "turnOf", "(II)I"⟩, 31) := ⟨⟨by decide +kernel, by decide +kernel⟩, List.mem_of_getElem? (i := 604) (by decide +kernel), List.mem_of_getElem? (i := 741) (by decide +kernel), List.mem_of_getElem? (i := 742) (by decide +kernel)⟩
theorem lw_p23 : lw_okq (⟨"DrumYardModel", "isColumn", "(I)Z"⟩, 31) := ⟨⟨by decide +kernel, by decide +kernel⟩, List.mem_of_getElem? (i := 604) (by decide +kernel), List.mem_of_getElem? (i := 750) (by decide +kernel), List.mem_of_getElem? (i := 751) (by decide +kernel)⟩
theorem lw_p24 : lw_okq (⟨"DrumYardModel", "fitsFoot", "(II)Z"⟩, 31) := ⟨⟨by decide +kernel, by decide +kernel⟩, List.mem_of_getElem? (i := 604) (by decide +kernel), List.mem_of_getElem? (i := 754) (by decide +kernel), List.mem_of_getElem? (i := 755) (by decide +kernel)⟩
theorem lw_p25 : lw_okq (⟨"DrumYardModel", "fitsHead", "(II)Z"⟩, 31) := ⟨⟨by decide +kernel, by decide +kernel⟩, List.mem_of_getElem? (i := 604) (by decide +kernel), List.mem_of_getElem? (i := 758) (by decide +kernel), List.mem_of_getElem? (i := 759) (by decide +kernel)⟩
theorem lw_p26 : lw_okq (⟨"DrumYardModel", "isPlace", "(I)Z"⟩, 31) := ⟨⟨by decide +kernel, by decide +kernel⟩, List.mem_of_getElem? (i := 604) (by decide +kernel), List.mem_of_getElem? (i := 766) (by decide +kernel), List.mem_of_getElem? (i := 767) (by decide +kernel)⟩
theorem lw_p27 : lw_okq (⟨"DrumYardModel", "find", "()Z"⟩, 31) := ⟨⟨by decide +kernel, by decide +kernel⟩, List.mem_of_getElem? (i := 604) (by decide +kernel), List.mem_of_getElem? (i := 778) (by decide +kernel), List.mem_of_getElem? (i := 779) (by decide +kernel)⟩
theorem lw_p28 : lw_okq (⟨"DrumYardModel", "may", "(IIII)Z"⟩, 31) := ⟨⟨by decide +kernel, by decide +kernel⟩, List.mem_of_getElem? (i := 604) (by decide +kernel), List.mem_of_getElem? (i := 785) (by decide +kernel), List.mem_of_getElem? (i := 786) (by decide +kernel)⟩
theorem lw_p29 : lw_okq (⟨"DrumYardModel", "behind", "(III)I"⟩, 31) := ⟨⟨by decide +kernel, by decide +kernel⟩, List.mem_of_getElem? (i := 604) (by decide +kernel), List.mem_of_getElem? (i := 789) (by decide +kernel), List.mem_of_getElem? (i := 790) (by decide +kernel)⟩
theorem lw_p30 : lw_okq (⟨"DrumYardModel", "isBest", "(IIII)Z"⟩, 31) := ⟨⟨by decide +kernel, by decide +kernel⟩, List.mem_of_getElem? (i := 604) (by decide +kernel), List.mem_of_getElem? (i := 793) (by decide +kernel), List.mem_of_getElem? (i := 794) (by decide +kernel)⟩
theorem lw_p31 : lw_okq (⟨"DrumYardModel", "use", "()V"⟩, 31) := ⟨⟨by decide +kernel, by decide +kernel⟩, List.mem_of_getElem? (i := 604) (by decide +kernel), List.mem_of_getElem? (i := 809) (by decide +kernel), List.mem_of_getElem? (i := 810) (by decide +kernel)⟩
def lw_privs_2 : List (MethodName × Nat) := [(⟨"DrumYard$Columns", "nextColumn", "(I)I"⟩, 8), (⟨"DrumYard$Columns", "isFull", "(I)Z"⟩, 8), (⟨"DrumYard$Columns", "allowsNext", "(II)Z"⟩, 8), (⟨"DrumYard", "heightOf", "(I)I"⟩, 8), (⟨"java/lang/Throwable", "fillInStackTrace", "(I)Ljava/lang/Throwable;"⟩, 6), (⟨"DrumYardModel", "isDrum", "(I)Z"⟩, 31), (⟨"DrumYardModel", "turnOf", "(II)I"⟩, 31), (⟨"DrumYardModel", "isColumn", "(I)Z"⟩, 31), (⟨"DrumYardModel", "fitsFoot", "(II)Z"⟩, 31), (⟨"DrumYardModel", "fitsHead", "(II)Z"⟩, 31), (⟨"DrumYardModel", "isPlace", "(I)Z"⟩, 31), (⟨"DrumYardModel", "find", "()Z"⟩, 31), (⟨"DrumYardModel", "may", "(IIII)Z"⟩, 31), (⟨"DrumYardModel", "behind", "(III)I"⟩, 31), (⟨"DrumYardModel", "isBest", "(IIII)Z"⟩, 31), (⟨"DrumYardModel", "use", "()V"⟩, 31)]
theorem lw_r2 : ∀ q ∈ lw_privs_2, lw_okq q := List.forall_mem_cons.mpr ⟨lw_p16, List.forall_mem_cons.mpr ⟨lw_p17, List.forall_mem_cons.mpr ⟨lw_p18, List.forall_mem_cons.mpr ⟨lw_p19, List.forall_mem_cons.mpr ⟨lw_p20, List.forall_mem_cons.mpr ⟨lw_p21, List.forall_mem_cons.mpr ⟨lw_p22, List.forall_mem_cons.mpr ⟨lw_p23, List.forall_mem_cons.mpr ⟨lw_p24, List.forall_mem_cons.mpr ⟨lw_p25, List.forall_mem_cons.mpr ⟨lw_p26, List.forall_mem_cons.mpr ⟨lw_p27, List.forall_mem_cons.mpr ⟨lw_p28, List.forall_mem_cons.mpr ⟨lw_p29, List.forall_mem_cons.mpr ⟨lw_p30, List.forall_mem_cons.mpr ⟨lw_p31, fun _ h => absurd h List.not_mem_nil⟩⟩⟩⟩⟩⟩⟩⟩⟩⟩⟩⟩⟩⟩⟩⟩
theorem lw_p32 : lw_okq (⟨"DrumYardModel", "borne", "(I)I"⟩, 31) := ⟨⟨by decide +kernel, by decide +kernel⟩, List.mem_of_getElem? (i := 604) (by decide +kernel), List.mem_of_getElem? (i := 821) (by decide +kernel), List.mem_of_getElem? (i := 822) (by decide +kernel)⟩
theorem lw_p33 : lw_okq (⟨"DrumYardModel", "isLevel", "(I)Z"⟩, 31) := ⟨⟨by decide +kernel, by decide +kernel⟩, List.mem_of_getElem? (i := 604) (by decide +kernel), List.mem_of_getElem? (i := 833) (by decide +kernel), List.mem_of_getElem? (i := 834) (by decide +kernel)⟩
theorem lw_p34 : lw_okq (⟨"DrumYardModel", "isFull", "(I)Z"⟩, 31) := ⟨⟨by decide +kernel, by decide +kernel⟩, List.mem_of_getElem? (i := 604) (by decide +kernel), List.mem_of_getElem? (i := 837) (by decide +kernel), List.mem_of_getElem? (i := 838) (by decide +kernel)⟩
def lw_privs_3 : List (MethodName × Nat) := [(⟨"DrumYardModel", "borne", "(I)I"⟩, 31), (⟨"DrumYardModel", "isLevel", "(I)Z"⟩, 31), (⟨"DrumYardModel", "isFull", "(I)Z"⟩, 31)]
theorem lw_r3 : ∀ q ∈ lw_privs_3, lw_okq q := List.forall_mem_cons.mpr ⟨lw_p32, List.forall_mem_cons.mpr ⟨lw_p33, List.forall_mem_cons.mpr ⟨lw_p34, fun _ h => absurd h List.not_mem_nil⟩⟩⟩
def lw_privs : List (MethodName × Nat) := lw_privs_1 ++ (lw_privs_2 ++ (lw_privs_3))
def lw_tbl : List Cond := k2_sels lw_privs ++ tables_1
theorem lw_privs_ok : ∀ q ∈ lw_privs, lw_okq q := by
  show ∀ q ∈ lw_privs_1 ++ (lw_privs_2 ++ (lw_privs_3)), lw_okq q
  exact List.forall_mem_append.mpr ⟨lw_r1, List.forall_mem_append.mpr ⟨lw_r2, lw_r3⟩⟩
end
section
def va_AOA (ty : FieldType) (U : State) : Prop := (Cond.arrayOver (.array ty)).before #[] U = true
theorem va_AOA.use {ty : FieldType} {A : Array Value} {U : State} (h : va_AOA ty U) : (Cond.arrayOver (.array ty)).before A U = true := h
/-! ===== BEGIN new T[n][m]: the outer array a place, the inner ones among the pooled ===== -/
/-- f, but v at every address of l -/
def vr_up {α : Type} (f : Nat → α) (l : List Nat) (v : α) : Nat → α := fun a => if a ∈ l then v else f a
theorem vr_up_in {α : Type} {f : Nat → α} {l : List Nat} {v : α} {a : Nat} (h : a ∈ l) : vr_up f l v a = v := if_pos h
theorem vr_up_ne {α : Type} {f : Nat → α} {l : List Nat} {v : α} {a : Nat} (h : a ∉ l) : vr_up f l v a = f a := if_neg h
theorem vr_rows {L l : List Nat} {f : Nat → va_E} {e : va_E} (h : ∀ a, a ∈ l → a ∉ L) : va_pl L f ++ l.map (fun a => (a, e)) = va_pl (L ++ l) (vr_up f l e) := by
  unfold va_pl
  rw [List.map_append]
  congr 1
  · apply List.map_congr_left
    intro a ha
    rw [vr_up_ne (fun q => h a q ha)]
  · apply List.map_congr_left
    intro a ha
    rw [vr_up_in ha]
theorem vr_lay {X rows : va_W} {x : Nat × va_E} {pl : va_W} {D : va_G} {cl : List vw_C} {H : Heap} (hP : va_P D cl (((X ++ pl) ++ [x]) ++ rows) H) : va_P D cl ((X ++ [x]) ++ (pl ++ rows)) H := by
  rw [List.append_assoc (X ++ pl)] at hP
  have h := va_P.swap hP
  rw [← List.append_assoc X] at h
  have h2 := va_P.swap h
  rw [List.append_assoc (X ++ [x])] at h2
  exact h2
theorem vr_layD {X rows : va_W} {x : Nat × va_E} {pl : va_W} {A : Nat → Prop} (hD : va_D A (((X ++ pl) ++ [x]) ++ rows)) : va_D A ((X ++ [x]) ++ (pl ++ rows)) := by
  rw [List.append_assoc (X ++ pl)] at hD
  have h := va_D.swap hD
  rw [← List.append_assoc X] at h
  have h2 := va_D.swap h
  rw [List.append_assoc (X ++ [x])] at h2
  exact h2
theorem vr_outer (c : ClassId) (N h0 : Nat) : ∀ i : Nat, Jvm.Free.Multi.outerC c N h0 i = arrV c N (fun j => va_rf (if j < i then some (h0 + 1 + j) else none))
  | 0 => by
    show ({ cls := c, slots := Array.replicate N .null, vm := .none } : Cell) = _
    rw [arrV_new]
    refine congrArg (arrV c N) (funext fun j => ?_)
    simp [va_rf]
  | i + 1 => by
    show (Jvm.Free.Multi.outerC c N h0 i).setSlot i (.ref (h0 + 1 + i)) = _
    rw [vr_outer c N h0 i, arrV_store]
    refine congrArg (arrV c N) (funext fun j => ?_)
    by_cases e : j = i
    · subst e
      simp [updV, va_rf]
    · by_cases h : j < i
      · simp [updV, e, h, Nat.lt_succ_of_lt h]
      · simp [updV, e, h, show ¬ j < i + 1 by omega]
section VGM
variable {p : Program} {l : Launch} {e : Env} {R : Room} {s : State} {m : MethodId} {args : Array Value} {below : List Frame} {meth : Method} {c : Code} {H : Heap} {locs : List Loc} {cells slots : Nat} {Q : State → Prop}
variable {cc : ByteArray} {pc : Nat} {ls : Array Slot} {rest : List Value} {D : va_G} {cl : List vw_C} {A : Nat → Prop} {a : Nat} {tys : List (ClassId × FieldType)} {ws : va_W} {H0 : Heap}
theorem va_mna {X : va_W} {L : List Nat} {f : Nat → va_E} {cc : ByteArray} (hexec : p.tables.exec = Jvm.exec) (hb : c.code = cc) {own : String} {index : Nat} {ty : FieldType} {cy : ClassId} (hown : s.vm.findClass own = some m.cls) (hclink : (Cond.classLink own index ("[" ++ (FieldType.array ty).toString)).before args s = true) (hover : va_AOA ty s) (harr : (Cond.arrayClass ty).before args s = true) (hcy : s.vm.findClass (FieldType.array ty).toString = some cy)
    (hK : va_K D cl tys s) (hP : va_P D cl (X ++ va_pl L f) H) (hD : va_D A (X ++ va_pl L f)) (hS : va_S A H0 H locs) (hA : ∀ q, H0.size ≤ q → A q) {n k : Int32} {N' K' : Nat} {z : vp_A} (hn : ¬ n < 0) (hk : ¬ k < 0) (hN : n.toNatClampNeg = N') (hM : k.toNatClampNeg = K')
    (hb1 : N' * 4 ≤ 536870912) (hb2 : K' * componentBytes ty ≤ 536870912) (hb3 : K' ≤ 536870912) (hdf : fits ty (defaultValue ty) = true) (hdd : (defaultValue ty).isDefault = true) (hcells : cells + (1 + N') ≤ R.cells) (hslots : slots + (N' + N' * K') ≤ R.slots) (hz : ∀ c : ClassId, Jvm.Free.Multi.innerC c K' (defaultValue ty) = vp_cell c z) (hdg : decode cc pc = .ok (.multianewarray index 2, 4))
    (kk : ∀ (q : Nat) (r : Nat → Nat) (cA : ClassId) (H1 : Heap), (∀ i j : Nat, i < N' → j < N' → r i = r j → i = j) → (∀ i : Nat, i < N' → r i ∉ L) → va_K D cl (tys ++ [(cA, .array ty)]) s →
      va_P D cl ((X ++ [(q, .inl (cA, N', .inr (.inr (.inr (.inr (fun i => if i < N' then some (r i) else none))))))]) ++ va_pl (L ++ (List.range N').map r) (vr_up f ((List.range N').map r) (.inl (cy, z)))) H1 → va_D A ((X ++ [(q, .inl (cA, N', .inr (.inr (.inr (.inr (fun i => if i < N' then some (r i) else none))))))]) ++ va_pl (L ++ (List.range N').map r) (vr_up f ((List.range N').map r) (.inl (cy, z)))) → va_S A H0 H1 locs →
      W p l e R s m args below meth c H1 locs (cells + 1 + N') (slots + N' + N' * K') Q (F0 m (pc + 4) ls (.ref q :: rest))) : W p l e R s m args below meth c H locs cells slots Q (F0 m pc ls (.int k :: .int n :: rest)) := by
  subst hN
  subst hM
  intro T hT Xs
  obtain ⟨vm₁, cA, comp, -, fA, fC, hO, -, X', step⟩ := Xs.multianewarray2F hexec hown hclink (va_AOA.use hover) harr (g := F0 m pc ls (.int k :: .int n :: rest)) rfl (by rw [hb]; exact hdg) rfl hn hk hb1 hb2 hb3 hdf hdd hcells hslots
  have ec : some cy = some comp := hcy.symm.trans fC
  cases ec
  generalize hF : Jvm.Free.Multi.fill (T.setVm vm₁) cA cy n.toNatClampNeg k.toNatClampNeg (defaultValue ty) n.toNatClampNeg = F at X' step
  have hTh : (T.setVm vm₁).heap = H := hT
  obtain ⟨f1, f2, -, -⟩ := Jvm.Free.Multi.fill_facts (T.setVm vm₁) cA cy n.toNatClampNeg k.toNatClampNeg (defaultValue ty) n.toNatClampNeg
  rw [hF, hTh] at f1 f2
  have hold : ∀ x : Nat, x < H.size → F.heap[x]? = H[x]? := fun x hx => by
    have := Jvm.Free.Multi.fill_old (T.setVm vm₁) cA cy n.toNatClampNeg k.toNatClampNeg (defaultValue ty) (a := x) (by rw [hTh]; exact hx) n.toNatClampNeg
    rw [hF, hTh] at this
    exact this
  have hrow : ∀ j : Nat, j < n.toNatClampNeg → F.heap[H.size + 1 + j]? = some (vp_cell cy z) := fun j hj => by
    have := Jvm.Free.Multi.fill_inner (T.setVm vm₁) cA cy n.toNatClampNeg k.toNatClampNeg (defaultValue ty) n.toNatClampNeg j hj
    rw [hF, hTh, hz] at this
    exact this
  have hout : Jvm.Free.Multi.outerC cA n.toNatClampNeg H.size n.toNatClampNeg = vp_cell cA (n.toNatClampNeg, .inr (.inr (.inr (.inr (fun i => if i < n.toNatClampNeg then some (H.size + 1 + i) else none))))) := by
    rw [vp_cell_q]
    exact vr_outer cA n.toNatClampNeg H.size n.toNatClampNeg
  rw [hout] at f2
  have hlt : ∀ a, a ∈ L → a < H.size := fun a ha => by
    obtain ⟨k9, hk9⟩ := va_pl_get (X := X) (f := f) ha
    exact (hP k9 _ hk9).lt
  have hnl : ∀ i : Nat, i < n.toNatClampNeg → H.size + 1 + i ∉ L := fun i _ h => by
    have := hlt _ h
    omega
  have hnm : ∀ a, a ∈ (List.range n.toNatClampNeg).map (fun i => H.size + 1 + i) → a ∉ L := fun a ha h => by
    obtain ⟨i, -, rfl⟩ := List.mem_map.mp ha
    have := hlt _ h
    omega
  have hP0 : va_P D cl (X ++ va_pl L f) F.heap := hP.kept (fun k9 x hx => hold x.1 ((hP k9 x hx).lt))
  have hP1 : va_P D cl ((X ++ va_pl L f) ++ [(H.size, .inl (cA, n.toNatClampNeg, .inr (.inr (.inr (.inr (fun i => if i < n.toNatClampNeg then some (H.size + 1 + i) else none))))))]) F.heap := hP0.app (fun k9 x hx => by
    have h0 : k9 < 1 := (List.getElem?_eq_some_iff.mp hx).1
    rw [show k9 = 0 by omega] at hx
    cases hx
    exact f2)
  have hP2 : va_P D cl (((X ++ va_pl L f) ++ [(H.size, .inl (cA, n.toNatClampNeg, .inr (.inr (.inr (.inr (fun i => if i < n.toNatClampNeg then some (H.size + 1 + i) else none))))))]) ++ ((List.range n.toNatClampNeg).map (fun i => H.size + 1 + i)).map (fun a => (a, .inl (cy, z)))) F.heap := hP1.app (fun k9 x hx => by
    obtain ⟨a, ha, rfl⟩ := List.mem_map.mp (List.mem_of_getElem? hx)
    obtain ⟨i, hi, rfl⟩ := List.mem_map.mp ha
    exact hrow i (List.mem_range.mp hi))
  have hD2 : va_D A (((X ++ va_pl L f) ++ [(H.size, .inl (cA, n.toNatClampNeg, .inr (.inr (.inr (.inr (fun i => if i < n.toNatClampNeg then some (H.size + 1 + i) else none))))))]) ++ ((List.range n.toNatClampNeg).map (fun i => H.size + 1 + i)).map (fun a => (a, .inl (cy, z)))) := by
    have hD1 := hD.push (e := .inl (cA, n.toNatClampNeg, .inr (.inr (.inr (.inr (fun i => if i < n.toNatClampNeg then some (H.size + 1 + i) else none)))))) hP rfl (hA _ hS.1)
    generalize hW1 : (X ++ va_pl L f) ++ [(H.size, .inl (cA, n.toNatClampNeg, .inr (.inr (.inr (.inr (fun i => if i < n.toNatClampNeg then some (H.size + 1 + i) else none))))))] = W1 at hD1 hP1 ⊢
    have hle : ∀ (k9 : Nat) (x : Nat × va_E), W1[k9]? = some x → x.1 ≤ H.size := fun k9 x hx => by
      rw [← hW1] at hx
      by_cases hl : k9 < (X ++ va_pl L f).length
      · rw [List.getElem?_append_left hl] at hx
        exact Nat.le_of_lt ((hP k9 x hx).lt)
      · rw [List.getElem?_append_right (by omega)] at hx
        have h0 : k9 - (X ++ va_pl L f).length < 1 := (List.getElem?_eq_some_iff.mp hx).1
        rw [show k9 - (X ++ va_pl L f).length = 0 by omega] at hx
        cases hx
        exact Nat.le_refl _
    have hr : ∀ (k9 : Nat) (x : Nat × va_E), (((List.range n.toNatClampNeg).map (fun i => H.size + 1 + i)).map (fun a => ((a, .inl (cy, z)) : Nat × va_E)))[k9]? = some x → x.1 = H.size + 1 + k9 := fun k9 x hx => by
      rw [List.getElem?_map, List.getElem?_map] at hx
      by_cases h9 : k9 < n.toNatClampNeg
      · rw [List.getElem?_range h9] at hx
        cases hx
        rfl
      · have hn0 : (List.range n.toNatClampNeg)[k9]? = none := List.getElem?_eq_none (by rw [List.length_range]; omega)
        rw [hn0] at hx
        cases hx
    refine ⟨fun i j x y hi hj hxy => ?_, fun k9 x hx => ?_⟩
    · by_cases h1 : i < W1.length <;> by_cases h2 : j < W1.length
      · rw [List.getElem?_append_left h1] at hi
        rw [List.getElem?_append_left h2] at hj
        exact hD1.1 i j x y hi hj hxy
      · rw [List.getElem?_append_left h1] at hi
        rw [List.getElem?_append_right (by omega)] at hj
        have := hle _ _ hi
        have := hr _ _ hj
        omega
      · rw [List.getElem?_append_right (by omega)] at hi
        rw [List.getElem?_append_left h2] at hj
        have := hle _ _ hj
        have := hr _ _ hi
        omega
      · rw [List.getElem?_append_right (by omega)] at hi hj
        have := hr _ _ hi
        have := hr _ _ hj
        omega
    · by_cases h1 : k9 < W1.length
      · rw [List.getElem?_append_left h1] at hx
        exact hD1.2 k9 x hx
      · rw [List.getElem?_append_right (by omega)] at hx
        have := hr _ _ hx
        exact hA _ (by have := hS.1; omega)
  have hAr : ArrOfT s cA (.array ty) := fun N9 z9 => by
    obtain ⟨-, k9, hk9, cm9, hkk9⟩ := (hO 0 0 0).1
    exact ⟨(fun q hq => by cases hq), k9, hk9, cm9, hkk9⟩
  have hK2 : va_K D cl (tys ++ [(cA, .array ty)]) s := ⟨hK.1, fun k9 x hx => by
    by_cases hl : k9 < tys.length
    · rw [List.getElem?_append_left hl] at hx
      exact hK.2 k9 x hx
    · rw [List.getElem?_append_right (by omega)] at hx
      have h0 : k9 - tys.length < 1 := (List.getElem?_eq_some_iff.mp hx).1
      rw [show k9 - tys.length = 0 by omega] at hx
      cases hx
      exact ⟨hAr, fA⟩⟩
  obtain ⟨t, a1, b1⟩ := kk H.size (fun i => H.size + 1 + i) cA F.heap (fun i j _ _ h => by have h9 : H.size + 1 + i = H.size + 1 + j := h; omega) hnl hK2 (by rw [← vr_rows hnm]; exact vr_lay hP2) (by rw [← vr_rows hnm]; exact vr_layD hD2) ⟨by rw [f1]; have := hS.1; omega, fun x h1 h2 => (hold x (Nat.lt_of_lt_of_le h1 hS.1)).trans (hS.2.1 x h1 h2), hS.2.2⟩ F rfl X'
  refine ⟨t, step t ?_, b1⟩
  have e : T.heap.size = H.size := by rw [hT]
  rw [e]
  exact a1
end VGM
/-! ===== END ===== -/
def RX0 : String := "DrumYard$Columns"
def TX0 : u_T := fun k => match k with
  | 0 => ("DrumYard$Columns", "start", "[I", true)
  | 1 => ("DrumYard$Columns", "size", "[I", true)
  | 2 => ("DrumYard$Columns", "foot", "[I", true)
  | 3 => ("DrumYard$Columns", "head", "[I", true)
  | 4 => ("DrumYard$Columns", "columnAt", "[I", true)
  | 5 => ("DrumYard$Columns", "stones", "[I", true)
  | 6 => ("DrumYard$Columns", "number", "I", false)
  | _ => ("DrumYard$Columns", "placeNumber", "I", false)
def tyX0 : Nat → FieldType := fun k => match k with
  | 0 => .array .int
  | 1 => .array .int
  | 2 => .array .int
  | 3 => .array .int
  | 4 => .array .int
  | 5 => .array .int
  | 6 => .int
  | _ => .int
abbrev wsX00 : List Cond := u_ws RX0 TX0 8
theorem nmX0 : ∀ a, a < 8 → ∀ b, b < 8 → a ≠ b → (TX0 a).2.1 ≠ (TX0 b).2.1 := by decide +kernel
theorem tyX0_ok : ∀ k, k < 8 → parseFieldDescriptor (TX0 k).2.2.1 = some (tyX0 k) := by decide +kernel
abbrev cX0_init : ByteArray := prog_2_method_1_code
def yX0_init : MethodName := ⟨RX0, "<init>", "()V"⟩
abbrev cX0_number : ByteArray := prog_2_method_2_code
def yX0_number : MethodName := ⟨RX0, "number", "()I"⟩
abbrev cX0_placeNumber : ByteArray := prog_2_method_3_code
def yX0_placeNumber : MethodName := ⟨RX0, "placeNumber", "()I"⟩
abbrev cX0_has : ByteArray := prog_2_method_4_code
def yX0_has : MethodName := ⟨RX0, "has", "(I)Z"⟩
abbrev cX0_hasPlace : ByteArray := prog_2_method_5_code
def yX0_hasPlace : MethodName := ⟨RX0, "hasPlace", "(I)Z"⟩
abbrev cX0_canTakeOne : ByteArray := prog_2_method_6_code
def yX0_canTakeOne : MethodName := ⟨RX0, "canTakeOne", "(I)Z"⟩
abbrev cX0_take : ByteArray := prog_2_method_7_code
def yX0_take : MethodName := ⟨RX0, "take", "(III)I"⟩
abbrev cX0_columnOf : ByteArray := prog_2_method_8_code
def yX0_columnOf : MethodName := ⟨RX0, "columnOf", "(I)I"⟩
abbrev cX0_startOf : ByteArray := prog_2_method_9_code
def yX0_startOf : MethodName := ⟨RX0, "startOf", "(I)I"⟩
abbrev cX0_endOf : ByteArray := prog_2_method_10_code
def yX0_endOf : MethodName := ⟨RX0, "endOf", "(I)I"⟩
abbrev cX0_footOf : ByteArray := prog_2_method_11_code
def yX0_footOf : MethodName := ⟨RX0, "footOf", "(I)I"⟩
abbrev cX0_headOf : ByteArray := prog_2_method_12_code
def yX0_headOf : MethodName := ⟨RX0, "headOf", "(I)I"⟩
abbrev cX0_isFoot : ByteArray := prog_2_method_13_code
def yX0_isFoot : MethodName := ⟨RX0, "isFoot", "(I)Z"⟩
abbrev cX0_isHead : ByteArray := prog_2_method_14_code
def yX0_isHead : MethodName := ⟨RX0, "isHead", "(I)Z"⟩
abbrev cX0_placeOfStone : ByteArray := prog_2_method_15_code
def yX0_placeOfStone : MethodName := ⟨RX0, "placeOfStone", "(II)I"⟩
abbrev cX0_nextColumn : ByteArray := prog_2_method_16_code
def yX0_nextColumn : MethodName := ⟨RX0, "nextColumn", "(I)I"⟩
abbrev cX0_isFull : ByteArray := prog_2_method_17_code
def yX0_isFull : MethodName := ⟨RX0, "isFull", "(I)Z"⟩
abbrev cX0_allowsNext : ByteArray := prog_2_method_18_code
def yX0_allowsNext : MethodName := ⟨RX0, "allowsNext", "(II)Z"⟩
def RX1 : String := "DrumYard$Drums"
def TX1 : u_T := fun k => match k with
  | 0 => ("DrumYard$Drums", "facts", "[[I", true)
  | 1 => ("DrumYard$Drums", "measured", "[I", true)
  | 2 => ("DrumYard$Drums", "isMeasured", "Z", false)
  | _ => ("DrumYard$Drums", "number", "I", false)
def tyX1 : Nat → FieldType := fun k => match k with
  | 0 => .array (.array .int)
  | 1 => .array .int
  | 2 => .boolean
  | _ => .int
abbrev wsX10 : List Cond := u_ws RX1 TX1 4
theorem nmX1 : ∀ a, a < 4 → ∀ b, b < 4 → a ≠ b → (TX1 a).2.1 ≠ (TX1 b).2.1 := by decide +kernel
theorem tyX1_ok : ∀ k, k < 4 → parseFieldDescriptor (TX1 k).2.2.1 = some (tyX1 k) := by decide +kernel
abbrev cX1_init : ByteArray := prog_3_method_1_code
def yX1_init : MethodName := ⟨RX1, "<init>", "()V"⟩
abbrev cX1_number : ByteArray := prog_3_method_2_code
def yX1_number : MethodName := ⟨RX1, "number", "()I"⟩
abbrev cX1_has : ByteArray := prog_3_method_3_code
def yX1_has : MethodName := ⟨RX1, "has", "(I)Z"⟩
abbrev cX1_fact : ByteArray := prog_3_method_4_code
def yX1_fact : MethodName := ⟨RX1, "fact", "(II)I"⟩
abbrev cX1_keepMeasured : ByteArray := prog_3_method_5_code
def yX1_keepMeasured : MethodName := ⟨RX1, "keepMeasured", "(IIII)V"⟩
abbrev cX1_canTakeOne : ByteArray := prog_3_method_6_code
def yX1_canTakeOne : MethodName := ⟨RX1, "canTakeOne", "()Z"⟩
abbrev cX1_take : ByteArray := prog_3_method_7_code
def yX1_take : MethodName := ⟨RX1, "take", "(IIIII)I"⟩
abbrev cX1_turnOn : ByteArray := prog_3_method_8_code
def yX1_turnOn : MethodName := ⟨RX1, "turnOn", "(III)I"⟩
abbrev cX1_lyingOn : ByteArray := prog_3_method_9_code
def yX1_lyingOn : MethodName := ⟨RX1, "lyingOn", "(II)I"⟩
abbrev cX1_pairsLying : ByteArray := prog_3_method_10_code
def yX1_pairsLying : MethodName := ⟨RX1, "pairsLying", "(I)I"⟩
abbrev cX1_meanHeight : ByteArray := prog_3_method_11_code
def yX1_meanHeight : MethodName := ⟨RX1, "meanHeight", "()I"⟩
abbrev cX1_areAlike : ByteArray := prog_3_method_12_code
def yX1_areAlike : MethodName := ⟨RX1, "areAlike", "(II)Z"⟩
abbrev cX1_leastTurn : ByteArray := prog_3_method_13_code
def yX1_leastTurn : MethodName := ⟨RX1, "leastTurn", "(II)I"⟩
abbrev cX1_turned : ByteArray := prog_3_method_14_code
def yX1_turned : MethodName := ⟨RX1, "turned", "(II)I"⟩
def RX2 : String := "DrumYard$Paper"
def TX2 : u_T := fun k => match k with
  | 0 => ("DrumYard$Paper", "allowed", "[I", true)
  | 1 => ("DrumYard$Paper", "isHead", "[Z", true)
  | 2 => ("DrumYard$Paper", "over", "[I", true)
  | 3 => ("DrumYard$Paper", "bestHeld", "[I", true)
  | 4 => ("DrumYard$Paper", "firstWay", "[I", true)
  | 5 => ("DrumYard$Paper", "beginnings", "[[J", true)
  | 6 => ("DrumYard$Paper", "reached", "[[I", true)
  | 7 => ("DrumYard$Paper", "reachedNumber", "[I", true)
  | 8 => ("DrumYard$Paper", "reachedWithFewer", "[[I", true)
  | 9 => ("DrumYard$Paper", "places", "I", false)
  | 10 => ("DrumYard$Paper", "leastNew", "I", false)
  | _ => ("DrumYard$Paper", "bestWays", "J", false)
def tyX2 : Nat → FieldType := fun k => match k with
  | 0 => .array .int
  | 1 => .array .boolean
  | 2 => .array .int
  | 3 => .array .int
  | 4 => .array .int
  | 5 => .array (.array .long)
  | 6 => .array (.array .int)
  | 7 => .array .int
  | 8 => .array (.array .int)
  | 9 => .int
  | 10 => .int
  | _ => .long
abbrev wsX20 : List Cond := u_ws RX2 TX2 12
theorem nmX2 : ∀ a, a < 12 → ∀ b, b < 12 → a ≠ b → (TX2 a).2.1 ≠ (TX2 b).2.1 := by decide +kernel
theorem tyX2_ok : ∀ k, k < 12 → parseFieldDescriptor (TX2 k).2.2.1 = some (tyX2 k) := by decide +kernel
abbrev cX2_init : ByteArray := prog_4_method_1_code
def yX2_init : MethodName := ⟨RX2, "<init>", "()V"⟩
abbrev cX2_leastNew : ByteArray := prog_4_method_2_code
def yX2_leastNew : MethodName := ⟨RX2, "leastNew", "()I"⟩
abbrev cX2_bestWays : ByteArray := prog_4_method_3_code
def yX2_bestWays : MethodName := ⟨RX2, "bestWays", "()J"⟩
abbrev cX2_hasWay : ByteArray := prog_4_method_4_code
def yX2_hasWay : MethodName := ⟨RX2, "hasWay", "()Z"⟩
abbrev cX2_firstAt : ByteArray := prog_4_method_5_code
def yX2_firstAt : MethodName := ⟨RX2, "firstAt", "(I)I"⟩
abbrev cX2_bestHeldAt : ByteArray := prog_4_method_6_code
def yX2_bestHeldAt : MethodName := ⟨RX2, "bestHeldAt", "(I)I"⟩
abbrev cX2_clear : ByteArray := prog_4_method_7_code
def yX2_clear : MethodName := ⟨RX2, "clear", "(I)V"⟩
abbrev cX2_allowOver : ByteArray := prog_4_method_8_code
def yX2_allowOver : MethodName := ⟨RX2, "allowOver", "(II)V"⟩
abbrev cX2_allowAt : ByteArray := prog_4_method_9_code
def yX2_allowAt : MethodName := ⟨RX2, "allowAt", "(IIZ)V"⟩
abbrev cX2_findBest : ByteArray := prog_4_method_10_code
def yX2_findBest : MethodName := ⟨RX2, "findBest", "()V"⟩
abbrev cX2_reachWith : ByteArray := prog_4_method_11_code
def yX2_reachWith : MethodName := ⟨RX2, "reachWith", "(I)V"⟩
abbrev cX2_spreadDrums : ByteArray := prog_4_method_12_code
def yX2_spreadDrums : MethodName := ⟨RX2, "spreadDrums", "(II)V"⟩
abbrev cX2_spreadNew : ByteArray := prog_4_method_13_code
def yX2_spreadNew : MethodName := ⟨RX2, "spreadNew", "(II)V"⟩
abbrev cX2_reach : ByteArray := prog_4_method_14_code
def yX2_reach : MethodName := ⟨RX2, "reach", "(IIJ)V"⟩
abbrev cX2_dropAllButBest : ByteArray := prog_4_method_15_code
def yX2_dropAllButBest : MethodName := ⟨RX2, "dropAllButBest", "()V"⟩
abbrev cX2_walkFirst : ByteArray := prog_4_method_16_code
def yX2_walkFirst : MethodName := ⟨RX2, "walkFirst", "()V"⟩
abbrev cX2_itemsToBest : ByteArray := prog_4_method_17_code
def yX2_itemsToBest : MethodName := ⟨RX2, "itemsToBest", "(II)I"⟩
abbrev cX2_itemsFor : ByteArray := prog_4_method_18_code
def yX2_itemsFor : MethodName := ⟨RX2, "itemsFor", "(II)I"⟩
abbrev cX2_after : ByteArray := prog_4_method_19_code
def yX2_after : MethodName := ⟨RX2, "after", "(III)I"⟩
abbrev cX2_isPlace : ByteArray := prog_4_method_20_code
def yX2_isPlace : MethodName := ⟨RX2, "isPlace", "(I)Z"⟩
abbrev cX2_lowest : ByteArray := prog_4_method_21_code
def yX2_lowest : MethodName := ⟨RX2, "lowest", "(I)I"⟩
def RX3 : String := "DrumYard$Words"
def TX3 : u_T := fun k => match k with
  | 0 => ("DrumYard$Words", "told", "[I", true)
  | _ => ("DrumYard$Words", "barred", "[I", true)
def tyX3 : Nat → FieldType := fun k => match k with
  | 0 => .array .int
  | _ => .array .int
abbrev wsX30 : List Cond := u_ws RX3 TX3 2
theorem nmX3 : ∀ a, a < 2 → ∀ b, b < 2 → a ≠ b → (TX3 a).2.1 ≠ (TX3 b).2.1 := by decide +kernel
theorem tyX3_ok : ∀ k, k < 2 → parseFieldDescriptor (TX3 k).2.2.1 = some (tyX3 k) := by decide +kernel
abbrev cX3_init : ByteArray := prog_5_method_1_code
def yX3_init : MethodName := ⟨RX3, "<init>", "()V"⟩
abbrev cX3_tell : ByteArray := prog_5_method_2_code
def yX3_tell : MethodName := ⟨RX3, "tell", "(II)V"⟩
abbrev cX3_toldOf : ByteArray := prog_5_method_3_code
def yX3_toldOf : MethodName := ⟨RX3, "toldOf", "(I)I"⟩
abbrev cX3_toldNumber : ByteArray := prog_5_method_4_code
def yX3_toldNumber : MethodName := ⟨RX3, "toldNumber", "()I"⟩
abbrev cX3_bar : ByteArray := prog_5_method_5_code
def yX3_bar : MethodName := ⟨RX3, "bar", "(IIZ)V"⟩
abbrev cX3_isBarred : ByteArray := prog_5_method_6_code
def yX3_isBarred : MethodName := ⟨RX3, "isBarred", "(II)Z"⟩
abbrev cX3_isRow : ByteArray := prog_5_method_7_code
def yX3_isRow : MethodName := ⟨RX3, "isRow", "(I)Z"⟩
def RX4 : String := "DrumYard"
def TX4 : u_T := fun k => match k with
  | 0 => ("DrumYard", "drums", "LDrumYard$Drums;", true)
  | 1 => ("DrumYard", "columns", "LDrumYard$Columns;", true)
  | 2 => ("DrumYard", "words", "LDrumYard$Words;", true)
  | 3 => ("DrumYard", "paper", "LDrumYard$Paper;", true)
  | 4 => ("DrumYard", "tol", "I", false)
  | 5 => ("DrumYard", "stone", "I", false)
  | 6 => ("DrumYard", "ahead", "I", false)
  | _ => ("DrumYard", "paperIsStale", "Z", false)
def tyX4 : Nat → FieldType := fun k => match k with
  | 0 => .object "DrumYard$Drums"
  | 1 => .object "DrumYard$Columns"
  | 2 => .object "DrumYard$Words"
  | 3 => .object "DrumYard$Paper"
  | 4 => .int
  | 5 => .int
  | 6 => .int
  | _ => .boolean
abbrev wsX40 : List Cond := u_ws RX4 TX4 8
theorem nmX4 : ∀ a, a < 8 → ∀ b, b < 8 → a ≠ b → (TX4 a).2.1 ≠ (TX4 b).2.1 := by decide +kernel
theorem tyX4_ok : ∀ k, k < 8 → parseFieldDescriptor (TX4 k).2.2.1 = some (tyX4 k) := by decide +kernel
abbrev cX4_init : ByteArray := prog_1_method_1_code
def yX4_init : MethodName := ⟨RX4, "<init>", "()V"⟩
abbrev cX4_measure : ByteArray := prog_1_method_2_code
def yX4_measure : MethodName := ⟨RX4, "measure", "(IIII)Z"⟩
abbrev cX4_drum : ByteArray := prog_1_method_3_code
def yX4_drum : MethodName := ⟨RX4, "drum", "(IIIII)I"⟩
abbrev cX4_set : ByteArray := prog_1_method_4_code
def yX4_set : MethodName := ⟨RX4, "set", "(III)Z"⟩
abbrev cX4_column : ByteArray := prog_1_method_5_code
def yX4_column : MethodName := ⟨RX4, "column", "(III)I"⟩
abbrev cX4_turn : ByteArray := prog_1_method_6_code
def yX4_turn : MethodName := ⟨RX4, "turn", "(II)I"⟩
abbrev cX4_fits : ByteArray := prog_1_method_7_code
def yX4_fits : MethodName := ⟨RX4, "fits", "(II)I"⟩
abbrev cX4_hand : ByteArray := prog_1_method_8_code
def yX4_hand : MethodName := ⟨RX4, "hand", "(II)Z"⟩
abbrev cX4_not : ByteArray := prog_1_method_9_code
def yX4_not : MethodName := ⟨RX4, "not", "(IIZ)Z"⟩
abbrev cX4_least : ByteArray := prog_1_method_10_code
def yX4_least : MethodName := ⟨RX4, "least", "()I"⟩
abbrev cX4_ways : ByteArray := prog_1_method_11_code
def yX4_ways : MethodName := ⟨RX4, "ways", "()J"⟩
abbrev cX4_first : ByteArray := prog_1_method_12_code
def yX4_first : MethodName := ⟨RX4, "first", "(I)I"⟩
abbrev cX4_sure : ByteArray := prog_1_method_13_code
def yX4_sure : MethodName := ⟨RX4, "sure", "(I)I"⟩
abbrev cX4_open : ByteArray := prog_1_method_14_code
def yX4_open : MethodName := ⟨RX4, "open", "(I)I"⟩
abbrev cX4_bears : ByteArray := prog_1_method_15_code
def yX4_bears : MethodName := ⟨RX4, "bears", "(I)I"⟩
abbrev cX4_cracked : ByteArray := prog_1_method_16_code
def yX4_cracked : MethodName := ⟨RX4, "cracked", "()I"⟩
abbrev cX4_setting : ByteArray := prog_1_method_17_code
def yX4_setting : MethodName := ⟨RX4, "setting", "(I)I"⟩
abbrev cX4_tall : ByteArray := prog_1_method_18_code
def yX4_tall : MethodName := ⟨RX4, "tall", "(I)I"⟩
abbrev cX4_told : ByteArray := prog_1_method_19_code
def yX4_told : MethodName := ⟨RX4, "told", "(II)I"⟩
abbrev cX4_place : ByteArray := prog_1_method_20_code
def yX4_place : MethodName := ⟨RX4, "place", "(II)I"⟩
abbrev cX4_count : ByteArray := prog_1_method_21_code
def yX4_count : MethodName := ⟨RX4, "count", "(I)I"⟩
abbrev cX4_isWithin : ByteArray := prog_1_method_22_code
def yX4_isWithin : MethodName := ⟨RX4, "isWithin", "(III)Z"⟩
abbrev cX4_isWidth : ByteArray := prog_1_method_23_code
def yX4_isWidth : MethodName := ⟨RX4, "isWidth", "(I)Z"⟩
abbrev cX4_isWidthOrUntold : ByteArray := prog_1_method_24_code
def yX4_isWidthOrUntold : MethodName := ⟨RX4, "isWidthOrUntold", "(I)Z"⟩
abbrev cX4_isHoles : ByteArray := prog_1_method_25_code
def yX4_isHoles : MethodName := ⟨RX4, "isHoles", "(I)Z"⟩
abbrev cX4_hasBit : ByteArray := prog_1_method_26_code
def yX4_hasBit : MethodName := ⟨RX4, "hasBit", "(II)Z"⟩
abbrev cX4_fitsFoot : ByteArray := prog_1_method_27_code
def yX4_fitsFoot : MethodName := ⟨RX4, "fitsFoot", "(II)Z"⟩
abbrev cX4_fitsHead : ByteArray := prog_1_method_28_code
def yX4_fitsHead : MethodName := ⟨RX4, "fitsHead", "(II)Z"⟩
abbrev cX4_agrees : ByteArray := prog_1_method_29_code
def yX4_agrees : MethodName := ⟨RX4, "agrees", "(III)Z"⟩
abbrev cX4_loadOver : ByteArray := prog_1_method_30_code
def yX4_loadOver : MethodName := ⟨RX4, "loadOver", "(I)I"⟩
abbrev cX4_heightOf : ByteArray := prog_1_method_31_code
def yX4_heightOf : MethodName := ⟨RX4, "heightOf", "(I)I"⟩
abbrev cX4_drawPaper : ByteArray := prog_1_method_32_code
def yX4_drawPaper : MethodName := ⟨RX4, "drawPaper", "()V"⟩
abbrev cX4_itemsAllowedAt : ByteArray := prog_1_method_33_code
def yX4_itemsAllowedAt : MethodName := ⟨RX4, "itemsAllowedAt", "(I)I"⟩
def RX5 : String := "DrumYardModel"
def TX5 : u_T := fun k => match k with
  | 0 => ("DrumYardModel", "thrown", "I", false)
  | 1 => ("DrumYardModel", "drums", "I", false)
  | 2 => ("DrumYardModel", "columns", "I", false)
  | 3 => ("DrumYardModel", "places", "I", false)
  | 4 => ("DrumYardModel", "tol", "I", false)
  | 5 => ("DrumYardModel", "stone", "I", false)
  | 6 => ("DrumYardModel", "ahead", "I", false)
  | 7 => ("DrumYardModel", "isMeasured", "Z", false)
  | 8 => ("DrumYardModel", "measured", "[I", true)
  | 9 => ("DrumYardModel", "below", "[I", true)
  | 10 => ("DrumYardModel", "above", "[I", true)
  | 11 => ("DrumYardModel", "doubt", "[I", true)
  | 12 => ("DrumYardModel", "height", "[I", true)
  | 13 => ("DrumYardModel", "flutes", "[I", true)
  | 14 => ("DrumYardModel", "holesBelow", "[I", true)
  | 15 => ("DrumYardModel", "holesAbove", "[I", true)
  | 16 => ("DrumYardModel", "weight", "[I", true)
  | 17 => ("DrumYardModel", "strength", "[I", true)
  | 18 => ("DrumYardModel", "foot", "[I", true)
  | 19 => ("DrumYardModel", "head", "[I", true)
  | 20 => ("DrumYardModel", "begins", "[I", true)
  | 21 => ("DrumYardModel", "high", "[I", true)
  | 22 => ("DrumYardModel", "columnOf", "[I", true)
  | 23 => ("DrumYardModel", "word", "[I", true)
  | 24 => ("DrumYardModel", "isNot", "[Z", true)
  | 25 => ("DrumYardModel", "least", "[I", true)
  | 26 => ("DrumYardModel", "many", "[J", true)
  | 27 => ("DrumYardModel", "led", "[J", true)
  | 28 => ("DrumYardModel", "usage", "[J", true)
  | 29 => ("DrumYardModel", "first", "[I", true)
  | _ => ("DrumYardModel", "stands", "[I", true)
def tyX5 : Nat → FieldType := fun k => match k with
  | 0 => .int
  | 1 => .int
  | 2 => .int
  | 3 => .int
  | 4 => .int
  | 5 => .int
  | 6 => .int
  | 7 => .boolean
  | 8 => .array .int
  | 9 => .array .int
  | 10 => .array .int
  | 11 => .array .int
  | 12 => .array .int
  | 13 => .array .int
  | 14 => .array .int
  | 15 => .array .int
  | 16 => .array .int
  | 17 => .array .int
  | 18 => .array .int
  | 19 => .array .int
  | 20 => .array .int
  | 21 => .array .int
  | 22 => .array .int
  | 23 => .array .int
  | 24 => .array .boolean
  | 25 => .array .int
  | 26 => .array .long
  | 27 => .array .long
  | 28 => .array .long
  | 29 => .array .int
  | _ => .array .int
abbrev wsX50 : List Cond := u_ws RX5 TX5 31
theorem nmX5 : ∀ a, a < 31 → ∀ b, b < 31 → a ≠ b → (TX5 a).2.1 ≠ (TX5 b).2.1 := by decide +kernel
theorem tyX5_ok : ∀ k, k < 31 → parseFieldDescriptor (TX5 k).2.2.1 = some (tyX5 k) := by decide +kernel
abbrev cX5_init : ByteArray := prog_7_method_1_code
def yX5_init : MethodName := ⟨RX5, "<init>", "()V"⟩
abbrev cX5_thrown : ByteArray := prog_7_method_2_code
def yX5_thrown : MethodName := ⟨RX5, "thrown", "()I"⟩
abbrev cX5_isIn : ByteArray := prog_7_method_3_code
def yX5_isIn : MethodName := ⟨RX5, "isIn", "(III)Z"⟩
abbrev cX5_isWidth : ByteArray := prog_7_method_4_code
def yX5_isWidth : MethodName := ⟨RX5, "isWidth", "(I)Z"⟩
abbrev cX5_isDrum : ByteArray := prog_7_method_5_code
def yX5_isDrum : MethodName := ⟨RX5, "isDrum", "(I)Z"⟩
abbrev cX5_isColumn : ByteArray := prog_7_method_6_code
def yX5_isColumn : MethodName := ⟨RX5, "isColumn", "(I)Z"⟩
abbrev cX5_isPlace : ByteArray := prog_7_method_7_code
def yX5_isPlace : MethodName := ⟨RX5, "isPlace", "(I)Z"⟩
abbrev cX5_measure : ByteArray := prog_7_method_8_code
def yX5_measure : MethodName := ⟨RX5, "measure", "(IIII)Z"⟩
abbrev cX5_drum : ByteArray := prog_7_method_9_code
def yX5_drum : MethodName := ⟨RX5, "drum", "(IIIII)I"⟩
abbrev cX5_set : ByteArray := prog_7_method_10_code
def yX5_set : MethodName := ⟨RX5, "set", "(III)Z"⟩
abbrev cX5_column : ByteArray := prog_7_method_11_code
def yX5_column : MethodName := ⟨RX5, "column", "(III)I"⟩
abbrev cX5_turnOf : ByteArray := prog_7_method_12_code
def yX5_turnOf : MethodName := ⟨RX5, "turnOf", "(II)I"⟩
abbrev cX5_turn : ByteArray := prog_7_method_13_code
def yX5_turn : MethodName := ⟨RX5, "turn", "(II)I"⟩
abbrev cX5_fitsFoot : ByteArray := prog_7_method_14_code
def yX5_fitsFoot : MethodName := ⟨RX5, "fitsFoot", "(II)Z"⟩
abbrev cX5_fitsHead : ByteArray := prog_7_method_15_code
def yX5_fitsHead : MethodName := ⟨RX5, "fitsHead", "(II)Z"⟩
abbrev cX5_fits : ByteArray := prog_7_method_16_code
def yX5_fits : MethodName := ⟨RX5, "fits", "(II)I"⟩
abbrev cX5_hand : ByteArray := prog_7_method_17_code
def yX5_hand : MethodName := ⟨RX5, "hand", "(II)Z"⟩
abbrev cX5_not : ByteArray := prog_7_method_18_code
def yX5_not : MethodName := ⟨RX5, "not", "(IIZ)Z"⟩
abbrev cX5_index : ByteArray := prog_7_method_19_code
def yX5_index : MethodName := ⟨RX5, "index", "(III)I"⟩
abbrev cX5_may : ByteArray := prog_7_method_20_code
def yX5_may : MethodName := ⟨RX5, "may", "(IIII)Z"⟩
abbrev cX5_behind : ByteArray := prog_7_method_21_code
def yX5_behind : MethodName := ⟨RX5, "behind", "(III)I"⟩
abbrev cX5_find : ByteArray := prog_7_method_22_code
def yX5_find : MethodName := ⟨RX5, "find", "()Z"⟩
abbrev cX5_isBest : ByteArray := prog_7_method_23_code
def yX5_isBest : MethodName := ⟨RX5, "isBest", "(IIII)Z"⟩
abbrev cX5_use : ByteArray := prog_7_method_24_code
def yX5_use : MethodName := ⟨RX5, "use", "()V"⟩
abbrev cX5_least : ByteArray := prog_7_method_25_code
def yX5_least : MethodName := ⟨RX5, "least", "()I"⟩
abbrev cX5_ways : ByteArray := prog_7_method_26_code
def yX5_ways : MethodName := ⟨RX5, "ways", "()J"⟩
abbrev cX5_first : ByteArray := prog_7_method_27_code
def yX5_first : MethodName := ⟨RX5, "first", "(I)I"⟩
abbrev cX5_sure : ByteArray := prog_7_method_28_code
def yX5_sure : MethodName := ⟨RX5, "sure", "(I)I"⟩
abbrev cX5_open : ByteArray := prog_7_method_29_code
def yX5_open : MethodName := ⟨RX5, "open", "(I)I"⟩
abbrev cX5_borne : ByteArray := prog_7_method_30_code
def yX5_borne : MethodName := ⟨RX5, "borne", "(I)I"⟩
abbrev cX5_bears : ByteArray := prog_7_method_31_code
def yX5_bears : MethodName := ⟨RX5, "bears", "(I)I"⟩
abbrev cX5_cracked : ByteArray := prog_7_method_32_code
def yX5_cracked : MethodName := ⟨RX5, "cracked", "()I"⟩
abbrev cX5_isFull : ByteArray := prog_7_method_33_code
def yX5_isFull : MethodName := ⟨RX5, "isFull", "(I)Z"⟩
abbrev cX5_isLevel : ByteArray := prog_7_method_34_code
def yX5_isLevel : MethodName := ⟨RX5, "isLevel", "(I)Z"⟩
abbrev cX5_setting : ByteArray := prog_7_method_35_code
def yX5_setting : MethodName := ⟨RX5, "setting", "(I)I"⟩
abbrev cX5_tall : ByteArray := prog_7_method_36_code
def yX5_tall : MethodName := ⟨RX5, "tall", "(I)I"⟩
abbrev cX5_told : ByteArray := prog_7_method_37_code
def yX5_told : MethodName := ⟨RX5, "told", "(II)I"⟩
abbrev cX5_place : ByteArray := prog_7_method_38_code
def yX5_place : MethodName := ⟨RX5, "place", "(II)I"⟩
abbrev cX5_count : ByteArray := prog_7_method_39_code
def yX5_count : MethodName := ⟨RX5, "count", "(I)I"⟩
def RJ6 : String := "java/lang/Integer"
def TJ6 : u_T := fun k => match k with
  | _ => ("", "", "", false)
def tyJ6 : Nat → FieldType := fun k => match k with
  | _ => .int
abbrev wsJ60 : List Cond := u_ws RJ6 TJ6 0
theorem nmJ6 : ∀ a, a < 0 → ∀ b, b < 0 → a ≠ b → (TJ6 a).2.1 ≠ (TJ6 b).2.1 := by decide +kernel
theorem tyJ6_ok : ∀ k, k < 0 → parseFieldDescriptor (TJ6 k).2.2.1 = some (tyJ6 k) := by decide +kernel
abbrev cJ6_bitCount_0f7a4 : ByteArray := prog_9_method_49_code
def yJ6_bitCount_0f7a4 : MethodName := ⟨RJ6, "bitCount", "(I)I"⟩
def RJ9 : String := "java/lang/Math"
def TJ9 : u_T := fun k => match k with
  | _ => ("", "", "", false)
def tyJ9 : Nat → FieldType := fun k => match k with
  | _ => .int
abbrev wsJ90 : List Cond := u_ws RJ9 TJ9 0
theorem nmJ9 : ∀ a, a < 0 → ∀ b, b < 0 → a ≠ b → (TJ9 a).2.1 ≠ (TJ9 b).2.1 := by decide +kernel
theorem tyJ9_ok : ∀ k, k < 0 → parseFieldDescriptor (TJ9 k).2.2.1 = some (tyJ9 k) := by decide +kernel
abbrev cJ9_abs_0f7a4 : ByteArray := prog_10_method_59_code
def yJ9_abs_0f7a4 : MethodName := ⟨RJ9, "abs", "(I)I"⟩
abbrev cJ9_max_7cf53 : ByteArray := prog_10_method_65_code
def yJ9_max_7cf53 : MethodName := ⟨RJ9, "max", "(II)I"⟩
abbrev cJ9_min_7cf53 : ByteArray := prog_10_method_69_code
def yJ9_min_7cf53 : MethodName := ⟨RJ9, "min", "(II)I"⟩
def RJ10 : String := "java/lang/System"
def TJ10 : u_T := fun k => match k with
  | _ => ("", "", "", false)
def tyJ10 : Nat → FieldType := fun k => match k with
  | _ => .int
abbrev wsJ100 : List Cond := u_ws RJ10 TJ10 0
theorem nmJ10 : ∀ a, a < 0 → ∀ b, b < 0 → a ≠ b → (TJ10 a).2.1 ≠ (TJ10 b).2.1 := by decide +kernel
theorem tyJ10_ok : ∀ k, k < 0 → parseFieldDescriptor (TJ10 k).2.2.1 = some (tyJ10 k) := by decide +kernel
def RL : String := "DrumYardLaw"
abbrev cL_told : ByteArray := method_3_code
def yL_told : MethodName := ⟨RL, "told", "(LDrumYard;II[J)I"⟩
abbrev cL_law : ByteArray := code
def yL_law : MethodName := ⟨RL, "law", "([I)Z"⟩
def wsL_law0_r1 : List Cond := [Cond.classLink RL 8 RX4, Cond.instantiable RX4 8, Cond.initialized RX4, Cond.classLink RL 16 RX5, Cond.instantiable RX5 31, Cond.initialized RX5, Cond.arrayClass .long, Cond.methodLink RL 15 yX4_init, Cond.instanceMethod yX4_init, Cond.code yX4_init cX4_init 1 none, Cond.methodLink RX4 1 objectInit, Cond.instanceMethod objectInit, Cond.code objectInit ⟨#[0xb1]⟩ 1 none, Cond.classLink RX4 7 RX1, Cond.instantiable RX1 4, Cond.initialized RX1, Cond.fieldLink RX4 10 "DrumYard" "drums" "LDrumYard$Drums;", Cond.classLink RX4 16 RX0, Cond.instantiable RX0 8, Cond.initialized RX0, Cond.fieldLink RX4 19 "DrumYard" "columns" "LDrumYard$Columns;", Cond.classLink RX4 23 RX3, Cond.instantiable RX3 2, Cond.initialized RX3]
def wsL_law0_r2 : List Cond := [Cond.fieldLink RX4 26 "DrumYard" "words" "LDrumYard$Words;", Cond.classLink RX4 30 RX2, Cond.instantiable RX2 12, Cond.initialized RX2, Cond.fieldLink RX4 33 "DrumYard" "paper" "LDrumYard$Paper;", Cond.fieldLink RX4 37 "DrumYard" "tol" "I", Cond.fieldLink RX4 41 "DrumYard" "stone" "I", Cond.fieldLink RX4 44 "DrumYard" "ahead" "I", Cond.fieldLink RX4 47 "DrumYard" "paperIsStale" "Z", Cond.methodLink RX4 9 yX1_init, Cond.instanceMethod yX1_init, Cond.code yX1_init cX1_init 1 none, Cond.methodLink RX1 3 objectInit, Cond.classLink RX1 11 "[[I", Cond.arrayClass .int, Cond.fieldLink RX1 13 "DrumYard$Drums" "facts" "[[I", Cond.fieldLink RX1 16 "DrumYard$Drums" "measured" "[I", Cond.methodLink RX4 18 yX0_init, Cond.instanceMethod yX0_init, Cond.code yX0_init cX0_init 1 none, Cond.methodLink RX0 3 objectInit, Cond.fieldLink RX0 9 "DrumYard$Columns" "start" "[I", Cond.fieldLink RX0 15 "DrumYard$Columns" "size" "[I", Cond.fieldLink RX0 18 "DrumYard$Columns" "foot" "[I"]
def wsL_law0_r3 : List Cond := [Cond.fieldLink RX0 21 "DrumYard$Columns" "head" "[I", Cond.fieldLink RX0 24 "DrumYard$Columns" "columnAt" "[I", Cond.fieldLink RX0 27 "DrumYard$Columns" "stones" "[I", Cond.methodLink RX4 25 yX3_init, Cond.instanceMethod yX3_init, Cond.code yX3_init cX3_init 2 none, Cond.methodLink RX3 3 objectInit, Cond.fieldLink RX3 9 "DrumYard$Words" "told" "[I", Cond.fieldLink RX3 15 "DrumYard$Words" "barred" "[I", Cond.methodLink RX4 32 yX2_init, Cond.instanceMethod yX2_init, Cond.code yX2_init cX2_init 1 none, Cond.methodLink RX2 5 objectInit, Cond.fieldLink RX2 11 "DrumYard$Paper" "allowed" "[I", Cond.arrayClass .boolean, Cond.fieldLink RX2 15 "DrumYard$Paper" "isHead" "[Z", Cond.fieldLink RX2 19 "DrumYard$Paper" "over" "[I", Cond.fieldLink RX2 22 "DrumYard$Paper" "bestHeld" "[I", Cond.fieldLink RX2 25 "DrumYard$Paper" "firstWay" "[I", Cond.classLink RX2 28 "[[J", Cond.fieldLink RX2 30 "DrumYard$Paper" "beginnings" "[[J", Cond.classLink RX2 33 "[[I", Cond.fieldLink RX2 35 "DrumYard$Paper" "reached" "[[I", Cond.fieldLink RX2 38 "DrumYard$Paper" "reachedNumber" "[I"]
def wsL_law0_r4 : List Cond := [Cond.fieldLink RX2 41 "DrumYard$Paper" "reachedWithFewer" "[[I", Cond.fieldLink RX2 44 "DrumYard$Paper" "leastNew" "I", Cond.methodLink RL 18 yX5_init, Cond.instanceMethod yX5_init, Cond.code yX5_init cX5_init 1 none, Cond.methodLink RX5 3 objectInit, Cond.fieldLink RX5 9 "DrumYardModel" "tol" "I", Cond.fieldLink RX5 13 "DrumYardModel" "stone" "I", Cond.fieldLink RX5 16 "DrumYardModel" "ahead" "I", Cond.fieldLink RX5 19 "DrumYardModel" "measured" "[I", Cond.fieldLink RX5 23 "DrumYardModel" "below" "[I", Cond.fieldLink RX5 26 "DrumYardModel" "above" "[I", Cond.fieldLink RX5 29 "DrumYardModel" "doubt" "[I", Cond.fieldLink RX5 32 "DrumYardModel" "height" "[I", Cond.fieldLink RX5 35 "DrumYardModel" "flutes" "[I", Cond.fieldLink RX5 38 "DrumYardModel" "holesBelow" "[I", Cond.fieldLink RX5 41 "DrumYardModel" "holesAbove" "[I", Cond.fieldLink RX5 44 "DrumYardModel" "weight" "[I", Cond.fieldLink RX5 47 "DrumYardModel" "strength" "[I", Cond.fieldLink RX5 50 "DrumYardModel" "foot" "[I", Cond.fieldLink RX5 53 "DrumYardModel" "head" "[I", Cond.fieldLink RX5 56 "DrumYardModel" "begins" "[I", Cond.fieldLink RX5 59 "DrumYardModel" "high" "[I", Cond.fieldLink RX5 62 "DrumYardModel" "columnOf" "[I"]
def wsL_law0_r5 : List Cond := [Cond.fieldLink RX5 65 "DrumYardModel" "word" "[I", Cond.fieldLink RX5 68 "DrumYardModel" "isNot" "[Z", Cond.constant RX5 72 (101376), Cond.fieldLink RX5 73 "DrumYardModel" "least" "[I", Cond.fieldLink RX5 76 "DrumYardModel" "many" "[J", Cond.fieldLink RX5 80 "DrumYardModel" "led" "[J", Cond.fieldLink RX5 83 "DrumYardModel" "usage" "[J", Cond.fieldLink RX5 86 "DrumYardModel" "first" "[I", Cond.fieldLink RX5 89 "DrumYardModel" "stands" "[I", Cond.methodLink RL 19 yX4_measure, Cond.instanceMethod yX4_measure, Cond.selects RX4 yX4_measure yX4_measure, Cond.code yX4_measure cX4_measure 5 (some .boolean), Cond.methodLink RX4 51 yX4_isWidth, Cond.static yX4_isWidth, Cond.code yX4_isWidth cX4_isWidth 1 (some .boolean), Cond.methodLink RX4 55 yX4_isWithin, Cond.static yX4_isWithin, Cond.code yX4_isWithin cX4_isWithin 3 (some .boolean), Cond.methodLink RX4 59 yX1_keepMeasured, Cond.instanceMethod yX1_keepMeasured, Cond.selects RX1 yX1_keepMeasured yX1_keepMeasured, Cond.code yX1_keepMeasured cX1_keepMeasured 5 none, Cond.fieldLink RX1 28 "DrumYard$Drums" "isMeasured" "Z"]
def wsL_law0_r6 : List Cond := [Cond.methodLink RL 23 yX5_measure, Cond.instanceMethod yX5_measure, Cond.selects RX5 yX5_measure yX5_measure, Cond.code yX5_measure cX5_measure 5 (some .boolean), Cond.fieldLink RX5 92 "DrumYardModel" "thrown" "I", Cond.fieldLink RX5 112 "DrumYardModel" "isMeasured" "Z", Cond.methodLink RX5 108 yX5_isWidth, Cond.static yX5_isWidth, Cond.code yX5_isWidth cX5_isWidth 1 (some .boolean), Cond.methodLink RX5 95 yX5_isIn, Cond.static yX5_isIn, Cond.code yX5_isIn cX5_isIn 3 (some .boolean), Cond.methodLink RL 24 yX4_drum, Cond.instanceMethod yX4_drum, Cond.selects RX4 yX4_drum yX4_drum, Cond.code yX4_drum cX4_drum 6 (some .int), Cond.constant RX4 66 (100000), Cond.methodLink RX4 63 yX4_isHoles, Cond.static yX4_isHoles, Cond.code yX4_isHoles cX4_isHoles 1 (some .boolean), Cond.constant RX4 176 (65535), Cond.methodLink RX4 67 yX1_canTakeOne, Cond.instanceMethod yX1_canTakeOne, Cond.selects RX1 yX1_canTakeOne yX1_canTakeOne]
def wsL_law0_r7 : List Cond := [Cond.code yX1_canTakeOne cX1_canTakeOne 1 (some .boolean), Cond.fieldLink RX1 20 "DrumYard$Drums" "number" "I", Cond.methodLink RX4 71 yX1_take, Cond.instanceMethod yX1_take, Cond.selects RX1 yX1_take yX1_take, Cond.code yX1_take cX1_take 6 (some .int), Cond.methodLink RX1 36 arraycopyName, Cond.native arraycopyName, Cond.static arraycopyName, Cond.initialized "java/lang/System", Cond.methodLink RX1 32 yX1_canTakeOne, Cond.methodLink RL 28 yX5_drum, Cond.instanceMethod yX5_drum, Cond.selects RX5 yX5_drum yX5_drum, Cond.code yX5_drum cX5_drum 6 (some .int), Cond.fieldLink RX5 99 "DrumYardModel" "drums" "I", Cond.constant RX5 116 (65535), Cond.constant RX5 117 (100000), Cond.methodLink RL 29 yX4_set, Cond.instanceMethod yX4_set, Cond.selects RX4 yX4_set yX4_set, Cond.code yX4_set cX4_set 4 (some .boolean), Cond.methodLink RL 33 yX5_set, Cond.instanceMethod yX5_set]
def wsL_law0_r8 : List Cond := [Cond.selects RX5 yX5_set yX5_set, Cond.code yX5_set cX5_set 4 (some .boolean), Cond.methodLink RL 34 yX4_column, Cond.instanceMethod yX4_column, Cond.selects RX4 yX4_column yX4_column, Cond.code yX4_column cX4_column 4 (some .int), Cond.methodLink RX4 75 yX4_isWidthOrUntold, Cond.static yX4_isWidthOrUntold, Cond.code yX4_isWidthOrUntold cX4_isWidthOrUntold 1 (some .boolean), Cond.methodLink RX4 78 yX0_canTakeOne, Cond.instanceMethod yX0_canTakeOne, Cond.selects RX0 yX0_canTakeOne yX0_canTakeOne, Cond.code yX0_canTakeOne cX0_canTakeOne 2 (some .boolean), Cond.fieldLink RX0 30 "DrumYard$Columns" "number" "I", Cond.fieldLink RX0 34 "DrumYard$Columns" "placeNumber" "I", Cond.methodLink RX4 80 yX0_take, Cond.instanceMethod yX0_take, Cond.selects RX0 yX0_take yX0_take, Cond.code yX0_take cX0_take 5 (some .int), Cond.methodLink RX0 37 yX0_canTakeOne, Cond.methodLink RL 38 yX5_column, Cond.instanceMethod yX5_column, Cond.selects RX5 yX5_column yX5_column, Cond.code yX5_column cX5_column 5 (some .int)]
def wsL_law0_r9 : List Cond := [Cond.fieldLink RX5 102 "DrumYardModel" "columns" "I", Cond.fieldLink RX5 105 "DrumYardModel" "places" "I", Cond.methodLink RL 39 yX4_turn, Cond.instanceMethod yX4_turn, Cond.selects RX4 yX4_turn yX4_turn, Cond.code yX4_turn cX4_turn 3 (some .int), Cond.methodLink RX4 83 yX1_turnOn, Cond.instanceMethod yX1_turnOn, Cond.selects RX1 yX1_turnOn yX1_turnOn, Cond.code yX1_turnOn cX1_turnOn 7 (some .int), Cond.methodLink RX1 42 Lib.Math.abs.name, Cond.static Lib.Math.abs.name, Cond.initialized "java/lang/Math", Cond.code Lib.Math.abs.name Lib.Math.abs.code 1 (some .int), Cond.methodLink RX1 24 yX1_has, Cond.instanceMethod yX1_has, Cond.selects RX1 yX1_has yX1_has, Cond.code yX1_has cX1_has 2 (some .boolean), Cond.methodLink RX1 48 yX1_areAlike, Cond.static yX1_areAlike, Cond.code yX1_areAlike cX1_areAlike 2 (some .boolean), Cond.methodLink RX1 52 yX1_leastTurn, Cond.static yX1_leastTurn, Cond.code yX1_leastTurn cX1_leastTurn 3 (some .int)]
def wsL_law0_r10 : List Cond := [Cond.methodLink RX1 68 yX1_turned, Cond.static yX1_turned, Cond.code yX1_turned cX1_turned 3 (some .int), Cond.constant RX1 71 (65535), Cond.methodLink RL 42 yX5_turn, Cond.instanceMethod yX5_turn, Cond.selects RX5 yX5_turn yX5_turn, Cond.code yX5_turn cX5_turn 3 (some .int), Cond.methodLink RX5 124 yX5_isDrum, Cond.instanceMethod yX5_isDrum, Cond.selects RX5 yX5_isDrum yX5_isDrum, Cond.code yX5_isDrum cX5_isDrum 2 (some .boolean), Cond.methodLink RX5 127 yX5_turnOf, Cond.instanceMethod yX5_turnOf, Cond.selects RX5 yX5_turnOf yX5_turnOf, Cond.code yX5_turnOf cX5_turnOf 5 (some .int), Cond.methodLink RX5 118 Lib.Math.abs.name, Cond.methodLink RL 43 yX4_fits, Cond.instanceMethod yX4_fits, Cond.selects RX4 yX4_fits yX4_fits, Cond.code yX4_fits cX4_fits 4 (some .int), Cond.methodLink RX4 86 yX1_has, Cond.methodLink RX4 89 yX0_has, Cond.instanceMethod yX0_has]
def wsL_law0_r11 : List Cond := [Cond.selects RX0 yX0_has yX0_has, Cond.code yX0_has cX0_has 2 (some .boolean), Cond.methodLink RX4 90 yX4_fitsFoot, Cond.instanceMethod yX4_fitsFoot, Cond.selects RX4 yX4_fitsFoot yX4_fitsFoot, Cond.code yX4_fitsFoot cX4_fitsFoot 3 (some .boolean), Cond.methodLink RX4 141 yX1_fact, Cond.instanceMethod yX1_fact, Cond.selects RX1 yX1_fact yX1_fact, Cond.code yX1_fact cX1_fact 3 (some .int), Cond.methodLink RX4 177 yX0_footOf, Cond.instanceMethod yX0_footOf, Cond.selects RX0 yX0_footOf yX0_footOf, Cond.code yX0_footOf cX0_footOf 2 (some .int), Cond.methodLink RX0 44 yX0_has, Cond.methodLink RX4 180 yX4_agrees, Cond.instanceMethod yX4_agrees, Cond.selects RX4 yX4_agrees yX4_agrees, Cond.code yX4_agrees cX4_agrees 4 (some .boolean), Cond.methodLink RX4 186 Lib.Math.abs.name, Cond.methodLink RX4 94 yX4_fitsHead, Cond.instanceMethod yX4_fitsHead, Cond.selects RX4 yX4_fitsHead yX4_fitsHead, Cond.code yX4_fitsHead cX4_fitsHead 3 (some .boolean)]
def wsL_law0_r12 : List Cond := [Cond.methodLink RX4 183 yX0_headOf, Cond.instanceMethod yX0_headOf, Cond.selects RX0 yX0_headOf yX0_headOf, Cond.code yX0_headOf cX0_headOf 2 (some .int), Cond.methodLink RL 46 yX5_fits, Cond.instanceMethod yX5_fits, Cond.selects RX5 yX5_fits yX5_fits, Cond.code yX5_fits cX5_fits 3 (some .int), Cond.methodLink RX5 131 yX5_isColumn, Cond.instanceMethod yX5_isColumn, Cond.selects RX5 yX5_isColumn yX5_isColumn, Cond.code yX5_isColumn cX5_isColumn 2 (some .boolean), Cond.methodLink RX5 134 yX5_fitsFoot, Cond.instanceMethod yX5_fitsFoot, Cond.selects RX5 yX5_fitsFoot yX5_fitsFoot, Cond.code yX5_fitsFoot cX5_fitsFoot 3 (some .boolean), Cond.methodLink RX5 138 yX5_fitsHead, Cond.instanceMethod yX5_fitsHead, Cond.selects RX5 yX5_fitsHead yX5_fitsHead, Cond.code yX5_fitsHead cX5_fitsHead 3 (some .boolean), Cond.methodLink RL 47 yX4_hand, Cond.instanceMethod yX4_hand, Cond.selects RX4 yX4_hand yX4_hand, Cond.code yX4_hand cX4_hand 3 (some .boolean)]
def wsL_law0_r13 : List Cond := [Cond.methodLink RX4 97 yX0_hasPlace, Cond.instanceMethod yX0_hasPlace, Cond.selects RX0 yX0_hasPlace yX0_hasPlace, Cond.code yX0_hasPlace cX0_hasPlace 2 (some .boolean), Cond.methodLink RX4 100 yX3_toldOf, Cond.instanceMethod yX3_toldOf, Cond.selects RX3 yX3_toldOf yX3_toldOf, Cond.code yX3_toldOf cX3_toldOf 2 (some .int), Cond.methodLink RX3 18 yX3_isRow, Cond.static yX3_isRow, Cond.code yX3_isRow cX3_isRow 1 (some .boolean), Cond.methodLink RX4 104 yX3_tell, Cond.instanceMethod yX3_tell, Cond.selects RX3 yX3_tell yX3_tell, Cond.code yX3_tell cX3_tell 3 none, Cond.methodLink RL 51 yX5_hand, Cond.instanceMethod yX5_hand, Cond.selects RX5 yX5_hand yX5_hand, Cond.code yX5_hand cX5_hand 3 (some .boolean), Cond.methodLink RX5 141 yX5_isPlace, Cond.instanceMethod yX5_isPlace, Cond.selects RX5 yX5_isPlace yX5_isPlace, Cond.code yX5_isPlace cX5_isPlace 2 (some .boolean), Cond.methodLink RL 52 yX4_not]
def wsL_law0_r14 : List Cond := [Cond.instanceMethod yX4_not, Cond.selects RX4 yX4_not yX4_not, Cond.code yX4_not cX4_not 4 (some .boolean), Cond.methodLink RX4 108 yX3_isBarred, Cond.instanceMethod yX3_isBarred, Cond.selects RX3 yX3_isBarred yX3_isBarred, Cond.code yX3_isBarred cX3_isBarred 3 (some .boolean), Cond.static yX4_hasBit, Cond.code yX4_hasBit cX4_hasBit 2 (some .boolean), Cond.methodLink RX4 111 yX3_bar, Cond.instanceMethod yX3_bar, Cond.selects RX3 yX3_bar yX3_bar, Cond.code yX3_bar cX3_bar 5 none, Cond.methodLink RL 56 yX5_not, Cond.instanceMethod yX5_not, Cond.selects RX5 yX5_not yX5_not, Cond.code yX5_not cX5_not 4 (some .boolean), Cond.methodLink RL 57 yX4_least, Cond.instanceMethod yX4_least, Cond.selects RX4 yX4_least yX4_least, Cond.code yX4_least cX4_least 1 (some .int), Cond.methodLink RX4 115 yX4_drawPaper, Cond.instanceMethod yX4_drawPaper, Cond.selects RX4 yX4_drawPaper yX4_drawPaper]
def wsL_law0_r15 : List Cond := [Cond.code yX4_drawPaper cX4_drawPaper 2 none, Cond.methodLink RX4 129 yX0_placeNumber, Cond.instanceMethod yX0_placeNumber, Cond.selects RX0 yX0_placeNumber yX0_placeNumber, Cond.code yX0_placeNumber cX0_placeNumber 1 (some .int), Cond.methodLink RX4 194 yX2_clear, Cond.instanceMethod yX2_clear, Cond.selects RX2 yX2_clear yX2_clear, Cond.code yX2_clear cX2_clear 4 none, Cond.methodLink RX2 56 Lib.Math.min.name, Cond.static Lib.Math.min.name, Cond.code Lib.Math.min.name Lib.Math.min.code 2 (some .int), Cond.methodLink RX2 62 Lib.Math.max.name, Cond.static Lib.Math.max.name, Cond.code Lib.Math.max.name Lib.Math.max.code 2 (some .int), Cond.fieldLink RX2 65 "DrumYard$Paper" "places" "I", Cond.methodLink RX4 166 yX1_number, Cond.instanceMethod yX1_number, Cond.selects RX1 yX1_number yX1_number, Cond.code yX1_number cX1_number 1 (some .int), Cond.methodLink RX4 198 yX1_lyingOn, Cond.instanceMethod yX1_lyingOn, Cond.selects RX1 yX1_lyingOn yX1_lyingOn, Cond.code yX1_lyingOn cX1_lyingOn 5 (some .int)]
def wsL_law0_r16 : List Cond := [Cond.methodLink RX1 56 yX1_turnOn, Cond.methodLink RX4 201 yX2_allowOver, Cond.instanceMethod yX2_allowOver, Cond.selects RX2 yX2_allowOver yX2_allowOver, Cond.code yX2_allowOver cX2_allowOver 3 none, Cond.methodLink RX4 204 yX4_itemsAllowedAt, Cond.instanceMethod yX4_itemsAllowedAt, Cond.selects RX4 yX4_itemsAllowedAt yX4_itemsAllowedAt, Cond.code yX4_itemsAllowedAt cX4_itemsAllowedAt 5 (some .int), Cond.methodLink RX4 163 yX0_columnOf, Cond.instanceMethod yX0_columnOf, Cond.selects RX0 yX0_columnOf yX0_columnOf, Cond.code yX0_columnOf cX0_columnOf 2 (some .int), Cond.methodLink RX0 41 yX0_hasPlace, Cond.methodLink RX4 216 yX0_isFoot, Cond.instanceMethod yX0_isFoot, Cond.selects RX0 yX0_isFoot yX0_isFoot, Cond.code yX0_isFoot cX0_isFoot 2 (some .boolean), Cond.methodLink RX0 47 yX0_columnOf, Cond.methodLink RX0 51 yX0_startOf, Cond.instanceMethod yX0_startOf, Cond.selects RX0 yX0_startOf yX0_startOf, Cond.code yX0_startOf cX0_startOf 2 (some .int), Cond.methodLink RX4 207 yX0_isHead]
def wsL_law0_r17 : List Cond := [Cond.instanceMethod yX0_isHead, Cond.selects RX0 yX0_isHead yX0_isHead, Cond.code yX0_isHead cX0_isHead 2 (some .boolean), Cond.methodLink RX0 54 yX0_endOf, Cond.instanceMethod yX0_endOf, Cond.selects RX0 yX0_endOf yX0_endOf, Cond.code yX0_endOf cX0_endOf 2 (some .int), Cond.methodLink RX4 210 yX2_allowAt, Cond.instanceMethod yX2_allowAt, Cond.selects RX2 yX2_allowAt yX2_allowAt, Cond.code yX2_allowAt cX2_allowAt 4 none, Cond.methodLink RX2 52 yX2_isPlace, Cond.instanceMethod yX2_isPlace, Cond.selects RX2 yX2_isPlace yX2_isPlace, Cond.code yX2_isPlace cX2_isPlace 2 (some .boolean), Cond.methodLink RX4 213 yX2_findBest, Cond.instanceMethod yX2_findBest, Cond.selects RX2 yX2_findBest yX2_findBest, Cond.code yX2_findBest cX2_findBest 2 none, Cond.fieldLink RX2 48 "DrumYard$Paper" "bestWays" "J", Cond.methodLink RX2 68 yX2_reachWith, Cond.instanceMethod yX2_reachWith, Cond.selects RX2 yX2_reachWith yX2_reachWith, Cond.code yX2_reachWith cX2_reachWith 3 none]
def wsL_law0_r18 : List Cond := [Cond.methodLink RX2 78 yX2_spreadDrums, Cond.instanceMethod yX2_spreadDrums, Cond.selects RX2 yX2_spreadDrums yX2_spreadDrums, Cond.code yX2_spreadDrums cX2_spreadDrums 10 none, Cond.methodLink RX2 89 yX2_itemsFor, Cond.instanceMethod yX2_itemsFor, Cond.selects RX2 yX2_itemsFor yX2_itemsFor, Cond.code yX2_itemsFor cX2_itemsFor 3 (some .int), Cond.methodLink RX2 96 yX2_after, Cond.instanceMethod yX2_after, Cond.selects RX2 yX2_after yX2_after, Cond.code yX2_after cX2_after 5 (some .int), Cond.methodLink RX2 85 yX2_reach, Cond.instanceMethod yX2_reach, Cond.selects RX2 yX2_reach yX2_reach, Cond.code yX2_reach cX2_reach 6 none, Cond.methodLink RX2 82 yX2_spreadNew, Cond.instanceMethod yX2_spreadNew, Cond.selects RX2 yX2_spreadNew yX2_spreadNew, Cond.code yX2_spreadNew cX2_spreadNew 6 none, Cond.methodLink RX2 72 yX2_dropAllButBest, Cond.instanceMethod yX2_dropAllButBest, Cond.selects RX2 yX2_dropAllButBest yX2_dropAllButBest, Cond.code yX2_dropAllButBest cX2_dropAllButBest 6 none]
def wsL_law0_r19 : List Cond := [Cond.methodLink RX2 100 yX2_itemsToBest, Cond.instanceMethod yX2_itemsToBest, Cond.selects RX2 yX2_itemsToBest yX2_itemsToBest, Cond.code yX2_itemsToBest cX2_itemsToBest 6 (some .int), Cond.methodLink RX2 75 yX2_walkFirst, Cond.instanceMethod yX2_walkFirst, Cond.selects RX2 yX2_walkFirst yX2_walkFirst, Cond.code yX2_walkFirst cX2_walkFirst 4 none, Cond.methodLink RX2 103 yX2_hasWay, Cond.instanceMethod yX2_hasWay, Cond.selects RX2 yX2_hasWay yX2_hasWay, Cond.code yX2_hasWay cX2_hasWay 1 (some .boolean), Cond.methodLink RX2 107 yX2_lowest, Cond.static yX2_lowest, Cond.code yX2_lowest cX2_lowest 2 (some .int), Cond.methodLink RX4 118 yX2_leastNew, Cond.instanceMethod yX2_leastNew, Cond.selects RX2 yX2_leastNew yX2_leastNew, Cond.code yX2_leastNew cX2_leastNew 1 (some .int), Cond.methodLink RL 61 yX5_least, Cond.instanceMethod yX5_least, Cond.selects RX5 yX5_least yX5_least, Cond.code yX5_least cX5_least 1 (some .int), Cond.methodLink RX5 158 yX5_find]
def wsL_law0_r20 : List Cond := [Cond.instanceMethod yX5_find, Cond.selects RX5 yX5_find yX5_find, Cond.code yX5_find cX5_find 8 (some .boolean), Cond.methodLink RX5 144 yX5_index, Cond.static yX5_index, Cond.code yX5_index cX5_index 3 (some .int), Cond.methodLink RX5 148 yX5_may, Cond.instanceMethod yX5_may, Cond.selects RX5 yX5_may yX5_may, Cond.code yX5_may cX5_may 8 (some .boolean), Cond.methodLink RX5 152 yX5_behind, Cond.instanceMethod yX5_behind, Cond.selects RX5 yX5_behind yX5_behind, Cond.code yX5_behind cX5_behind 4 (some .int), Cond.methodLink RX5 155 yX5_isBest, Cond.instanceMethod yX5_isBest, Cond.selects RX5 yX5_isBest yX5_isBest, Cond.code yX5_isBest cX5_isBest 6 (some .boolean), Cond.methodLink RL 62 yX4_ways, Cond.instanceMethod yX4_ways, Cond.selects RX4 yX4_ways yX4_ways, Cond.code yX4_ways cX4_ways 1 (some .long), Cond.methodLink RX4 122 yX2_bestWays, Cond.instanceMethod yX2_bestWays]
def wsL_law0_r21 : List Cond := [Cond.selects RX2 yX2_bestWays yX2_bestWays, Cond.code yX2_bestWays cX2_bestWays 1 (some .long), Cond.methodLink RL 66 yX5_ways, Cond.instanceMethod yX5_ways, Cond.selects RX5 yX5_ways yX5_ways, Cond.code yX5_ways cX5_ways 1 (some .long), Cond.methodLink RL 67 yX4_first, Cond.instanceMethod yX4_first, Cond.selects RX4 yX4_first yX4_first, Cond.code yX4_first cX4_first 2 (some .int), Cond.methodLink RX4 126 yX2_firstAt, Cond.instanceMethod yX2_firstAt, Cond.selects RX2 yX2_firstAt yX2_firstAt, Cond.code yX2_firstAt cX2_firstAt 2 (some .int), Cond.methodLink RL 71 yX5_first, Cond.instanceMethod yX5_first, Cond.selects RX5 yX5_first yX5_first, Cond.code yX5_first cX5_first 2 (some .int), Cond.methodLink RL 72 yX4_sure, Cond.instanceMethod yX4_sure, Cond.selects RX4 yX4_sure yX4_sure, Cond.code yX4_sure cX4_sure 3 (some .int), Cond.methodLink RX4 132 yX2_bestHeldAt, Cond.instanceMethod yX2_bestHeldAt]
def wsL_law0_r22 : List Cond := [Cond.selects RX2 yX2_bestHeldAt yX2_bestHeldAt, Cond.code yX2_bestHeldAt cX2_bestHeldAt 2 (some .int), Cond.methodLink RL 75 yX5_sure, Cond.instanceMethod yX5_sure, Cond.selects RX5 yX5_sure yX5_sure, Cond.code yX5_sure cX5_sure 3 (some .int), Cond.methodLink RX5 162 yX5_use, Cond.instanceMethod yX5_use, Cond.selects RX5 yX5_use yX5_use, Cond.code yX5_use cX5_use 7 none, Cond.methodLink RL 76 yX4_open, Cond.instanceMethod yX4_open, Cond.selects RX4 yX4_open yX4_open, Cond.code yX4_open cX4_open 4 (some .int), Cond.methodLink RX4 135 yX4_hasBit, Cond.methodLink RL 79 yX5_open, Cond.instanceMethod yX5_open, Cond.selects RX5 yX5_open yX5_open, Cond.code yX5_open cX5_open 4 (some .int), Cond.methodLink RL 80 yX4_bears, Cond.instanceMethod yX4_bears, Cond.selects RX4 yX4_bears yX4_bears, Cond.code yX4_bears cX4_bears 3 (some .int), Cond.methodLink RX4 138 yX4_loadOver]
def wsL_law0_r23 : List Cond := [Cond.instanceMethod yX4_loadOver, Cond.selects RX4 yX4_loadOver yX4_loadOver, Cond.code yX4_loadOver cX4_loadOver 6 (some .int), Cond.methodLink RX4 151 yX0_endOf, Cond.methodLink RL 83 yX5_bears, Cond.instanceMethod yX5_bears, Cond.selects RX5 yX5_bears yX5_bears, Cond.code yX5_bears cX5_bears 2 (some .int), Cond.methodLink RX5 165 yX5_borne, Cond.instanceMethod yX5_borne, Cond.selects RX5 yX5_borne yX5_borne, Cond.code yX5_borne cX5_borne 5 (some .int), Cond.methodLink RL 84 yX4_cracked, Cond.instanceMethod yX4_cracked, Cond.selects RX4 yX4_cracked yX4_cracked, Cond.code yX4_cracked cX4_cracked 4 (some .int), Cond.methodLink RL 87 yX5_cracked, Cond.instanceMethod yX5_cracked, Cond.selects RX5 yX5_cracked yX5_cracked, Cond.code yX5_cracked cX5_cracked 3 (some .int), Cond.methodLink RL 88 yX4_setting, Cond.instanceMethod yX4_setting, Cond.selects RX4 yX4_setting yX4_setting, Cond.code yX4_setting cX4_setting 2 (some .int)]
def wsL_law0_r24 : List Cond := [Cond.methodLink RX4 145 yX2_hasWay, Cond.methodLink RX4 148 yX0_placeOfStone, Cond.instanceMethod yX0_placeOfStone, Cond.selects RX0 yX0_placeOfStone yX0_placeOfStone, Cond.code yX0_placeOfStone cX0_placeOfStone 6 (some .int), Cond.methodLink RX0 57 yX0_nextColumn, Cond.instanceMethod yX0_nextColumn, Cond.selects RX0 yX0_nextColumn yX0_nextColumn, Cond.code yX0_nextColumn cX0_nextColumn 4 (some .int), Cond.methodLink RX0 60 yX0_isFull, Cond.instanceMethod yX0_isFull, Cond.selects RX0 yX0_isFull yX0_isFull, Cond.code yX0_isFull cX0_isFull 2 (some .boolean), Cond.methodLink RX0 63 yX0_allowsNext, Cond.instanceMethod yX0_allowsNext, Cond.selects RX0 yX0_allowsNext yX0_allowsNext, Cond.code yX0_allowsNext cX0_allowsNext 3 (some .boolean), Cond.methodLink RL 91 yX5_setting, Cond.instanceMethod yX5_setting, Cond.selects RX5 yX5_setting yX5_setting, Cond.code yX5_setting cX5_setting 8 (some .int), Cond.methodLink RX5 171 yX5_isLevel, Cond.instanceMethod yX5_isLevel, Cond.selects RX5 yX5_isLevel yX5_isLevel]
def wsL_law0_r25 : List Cond := [Cond.code yX5_isLevel cX5_isLevel 3 (some .boolean), Cond.methodLink RX5 168 yX5_isFull, Cond.instanceMethod yX5_isFull, Cond.selects RX5 yX5_isFull yX5_isFull, Cond.code yX5_isFull cX5_isFull 2 (some .boolean), Cond.methodLink RL 92 yX4_tall, Cond.instanceMethod yX4_tall, Cond.selects RX4 yX4_tall yX4_tall, Cond.code yX4_tall cX4_tall 5 (some .int), Cond.methodLink RX4 154 yX0_startOf, Cond.methodLink RX4 157 yX4_heightOf, Cond.instanceMethod yX4_heightOf, Cond.selects RX4 yX4_heightOf yX4_heightOf, Cond.code yX4_heightOf cX4_heightOf 2 (some .int), Cond.methodLink RX4 191 yX1_meanHeight, Cond.instanceMethod yX1_meanHeight, Cond.selects RX1 yX1_meanHeight yX1_meanHeight, Cond.code yX1_meanHeight cX1_meanHeight 3 (some .int), Cond.methodLink RL 95 yX5_tall, Cond.instanceMethod yX5_tall, Cond.selects RX5 yX5_tall yX5_tall, Cond.code yX5_tall cX5_tall 6 (some .int), Cond.methodLink RL 96 yL_told, Cond.static yL_told]
def wsL_law0_r26 : List Cond := [Cond.initialized RL, Cond.codeWith yL_told cL_told 5 (some .int) [(0, 10, 13, 13)], Cond.classLink RL 13 "java/util/NoSuchElementException", Cond.methodLink RL 7 yX4_told, Cond.instanceMethod yX4_told, Cond.selects RX4 yX4_told yX4_told, Cond.code yX4_told cX4_told 3 (some .int), Cond.classLink RX4 160 "java/util/NoSuchElementException", Cond.initialized "java/util/NoSuchElementException", Cond.methodLink RL 101 yX5_told, Cond.instanceMethod yX5_told, Cond.selects RX5 yX5_told yX5_told, Cond.code yX5_told cX5_told 3 (some .int), Cond.methodLink RL 102 yX5_thrown, Cond.instanceMethod yX5_thrown, Cond.selects RX5 yX5_thrown yX5_thrown, Cond.code yX5_thrown cX5_thrown 1 (some .int), Cond.methodLink RL 105 yX4_place, Cond.instanceMethod yX4_place, Cond.selects RX4 yX4_place yX4_place, Cond.code yX4_place cX4_place 3 (some .int), Cond.methodLink RL 108 yX5_place, Cond.instanceMethod yX5_place, Cond.selects RX5 yX5_place yX5_place]
def wsL_law0_r27 : List Cond := [Cond.code yX5_place cX5_place 3 (some .int), Cond.methodLink RL 109 yX4_count, Cond.instanceMethod yX4_count, Cond.selects RX4 yX4_count yX4_count, Cond.code yX4_count cX4_count 2 (some .int), Cond.methodLink RX4 169 yX0_number, Cond.instanceMethod yX0_number, Cond.selects RX0 yX0_number yX0_number, Cond.code yX0_number cX0_number 1 (some .int), Cond.methodLink RX4 170 yX1_pairsLying, Cond.instanceMethod yX1_pairsLying, Cond.selects RX1 yX1_pairsLying yX1_pairsLying, Cond.code yX1_pairsLying cX1_pairsLying 4 (some .int), Cond.methodLink RX1 60 yX1_lyingOn, Cond.methodLink RX1 63 yJ6_bitCount_0f7a4, Cond.static yJ6_bitCount_0f7a4, Cond.initialized RJ6, Cond.code yJ6_bitCount_0f7a4 cJ6_bitCount_0f7a4 1 (some .int), Cond.constant RJ6 265 (1431655765), Cond.constant RJ6 266 (858993459), Cond.constant RJ6 267 (252645135), Cond.methodLink RX4 173 yX3_toldNumber, Cond.instanceMethod yX3_toldNumber, Cond.selects RX3 yX3_toldNumber yX3_toldNumber]
def wsL_law0_r28 : List Cond := [Cond.code yX3_toldNumber cX3_toldNumber 3 (some .int), Cond.methodLink RL 112 yX5_count, Cond.instanceMethod yX5_count, Cond.selects RX5 yX5_count yX5_count, Cond.code yX5_count cX5_count 5 (some .int)]
def wsL_law0 : List Cond := (wsL_law0_r1 ++ (wsL_law0_r2 ++ (wsL_law0_r3 ++ (wsL_law0_r4 ++ (wsL_law0_r5 ++ (wsL_law0_r6 ++ (wsL_law0_r7 ++ (wsL_law0_r8 ++ (wsL_law0_r9 ++ (wsL_law0_r10 ++ (wsL_law0_r11 ++ (wsL_law0_r12 ++ (wsL_law0_r13 ++ (wsL_law0_r14 ++ (wsL_law0_r15 ++ (wsL_law0_r16 ++ (wsL_law0_r17 ++ (wsL_law0_r18 ++ (wsL_law0_r19 ++ (wsL_law0_r20 ++ (wsL_law0_r21 ++ (wsL_law0_r22 ++ (wsL_law0_r23 ++ (wsL_law0_r24 ++ (wsL_law0_r25 ++ (wsL_law0_r26 ++ (wsL_law0_r27 ++ wsL_law0_r28))))))))))))))))))))))))))) ++ wsX40 ++ wsX50 ++ wsX10 ++ wsX00 ++ wsX30 ++ wsX20 ++ ([] : List Cond)
abbrev vwCl : List vw_C := [(RX0, TX0, 8), (RX1, TX1, 4), (RX2, TX2, 12), (RX3, TX3, 2), (RX4, TX4, 8), (RX5, TX5, 31)]
end
section
theorem dX0_init_0 : decode cX0_init 0 = .ok (.aload_n 0, 1) := by decide +kernel
theorem dX0_init_1 : decode cX0_init 1 = .ok (.invokespecial 3, 3) := by decide +kernel
theorem dX0_init_4 : decode cX0_init 4 = .ok (.aload_n 0, 1) := by decide +kernel
theorem dX0_init_5 : decode cX0_init 5 = .ok (.iconst 4, 1) := by decide +kernel
theorem dX0_init_6 : decode cX0_init 6 = .ok (.newarray .int, 2) := by decide +kernel
theorem dX0_init_8 : decode cX0_init 8 = .ok (.putfield 9, 3) := by decide +kernel
theorem dX0_init_11 : decode cX0_init 11 = .ok (.aload_n 0, 1) := by decide +kernel
theorem dX0_init_12 : decode cX0_init 12 = .ok (.iconst 4, 1) := by decide +kernel
theorem dX0_init_13 : decode cX0_init 13 = .ok (.newarray .int, 2) := by decide +kernel
theorem dX0_init_15 : decode cX0_init 15 = .ok (.putfield 15, 3) := by decide +kernel
theorem dX0_init_18 : decode cX0_init 18 = .ok (.aload_n 0, 1) := by decide +kernel
theorem dX0_init_19 : decode cX0_init 19 = .ok (.iconst 4, 1) := by decide +kernel
theorem dX0_init_20 : decode cX0_init 20 = .ok (.newarray .int, 2) := by decide +kernel
theorem dX0_init_22 : decode cX0_init 22 = .ok (.putfield 18, 3) := by decide +kernel
theorem dX0_init_25 : decode cX0_init 25 = .ok (.aload_n 0, 1) := by decide +kernel
theorem dX0_init_26 : decode cX0_init 26 = .ok (.iconst 4, 1) := by decide +kernel
theorem dX0_init_27 : decode cX0_init 27 = .ok (.newarray .int, 2) := by decide +kernel
theorem dX0_init_29 : decode cX0_init 29 = .ok (.putfield 21, 3) := by decide +kernel
theorem dX0_init_32 : decode cX0_init 32 = .ok (.aload_n 0, 1) := by decide +kernel
theorem dX0_init_33 : decode cX0_init 33 = .ok (.bipush 8, 2) := by decide +kernel
theorem dX0_init_35 : decode cX0_init 35 = .ok (.newarray .int, 2) := by decide +kernel
theorem dX0_init_37 : decode cX0_init 37 = .ok (.putfield 24, 3) := by decide +kernel
theorem dX0_init_40 : decode cX0_init 40 = .ok (.aload_n 0, 1) := by decide +kernel
theorem dX0_init_41 : decode cX0_init 41 = .ok (.iconst 4, 1) := by decide +kernel
theorem dX0_init_42 : decode cX0_init 42 = .ok (.newarray .int, 2) := by decide +kernel
theorem dX0_init_44 : decode cX0_init 44 = .ok (.putfield 27, 3) := by decide +kernel
theorem dX0_init_47 : decode cX0_init 47 = .ok (.return_, 1) := by decide +kernel
theorem dX0_number_0 : decode cX0_number 0 = .ok (.aload_n 0, 1) := by decide +kernel
theorem dX0_number_1 : decode cX0_number 1 = .ok (.getfield 30, 3) := by decide +kernel
theorem dX0_number_4 : decode cX0_number 4 = .ok (.ireturn, 1) := by decide +kernel
theorem dX0_placeNumber_0 : decode cX0_placeNumber 0 = .ok (.aload_n 0, 1) := by decide +kernel
theorem dX0_placeNumber_1 : decode cX0_placeNumber 1 = .ok (.getfield 34, 3) := by decide +kernel
theorem dX0_placeNumber_4 : decode cX0_placeNumber 4 = .ok (.ireturn, 1) := by decide +kernel
theorem dX0_has_0 : decode cX0_has 0 = .ok (.iload_n 1, 1) := by decide +kernel
theorem dX0_has_1 : decode cX0_has 1 = .ok (.ifCond .lt 15, 3) := by decide +kernel
theorem dX0_has_4 : decode cX0_has 4 = .ok (.iload_n 1, 1) := by decide +kernel
theorem dX0_has_5 : decode cX0_has 5 = .ok (.aload_n 0, 1) := by decide +kernel
theorem dX0_has_6 : decode cX0_has 6 = .ok (.getfield 30, 3) := by decide +kernel
theorem dX0_has_9 : decode cX0_has 9 = .ok (.if_icmp .ge 7, 3) := by decide +kernel
theorem dX0_has_12 : decode cX0_has 12 = .ok (.iconst 1, 1) := by decide +kernel
theorem dX0_has_13 : decode cX0_has 13 = .ok (.goto 4, 3) := by decide +kernel
theorem dX0_has_16 : decode cX0_has 16 = .ok (.iconst 0, 1) := by decide +kernel
theorem dX0_has_17 : decode cX0_has 17 = .ok (.ireturn, 1) := by decide +kernel
theorem dX0_hasPlace_0 : decode cX0_hasPlace 0 = .ok (.iload_n 1, 1) := by decide +kernel
theorem dX0_hasPlace_1 : decode cX0_hasPlace 1 = .ok (.ifCond .lt 15, 3) := by decide +kernel
theorem dX0_hasPlace_4 : decode cX0_hasPlace 4 = .ok (.iload_n 1, 1) := by decide +kernel
theorem dX0_hasPlace_5 : decode cX0_hasPlace 5 = .ok (.aload_n 0, 1) := by decide +kernel
theorem dX0_hasPlace_6 : decode cX0_hasPlace 6 = .ok (.getfield 34, 3) := by decide +kernel
theorem dX0_hasPlace_9 : decode cX0_hasPlace 9 = .ok (.if_icmp .ge 7, 3) := by decide +kernel
theorem dX0_hasPlace_12 : decode cX0_hasPlace 12 = .ok (.iconst 1, 1) := by decide +kernel
theorem dX0_hasPlace_13 : decode cX0_hasPlace 13 = .ok (.goto 4, 3) := by decide +kernel
theorem dX0_hasPlace_16 : decode cX0_hasPlace 16 = .ok (.iconst 0, 1) := by decide +kernel
theorem dX0_hasPlace_17 : decode cX0_hasPlace 17 = .ok (.ireturn, 1) := by decide +kernel
theorem dX0_canTakeOne_0 : decode cX0_canTakeOne 0 = .ok (.aload_n 0, 1) := by decide +kernel
theorem dX0_canTakeOne_1 : decode cX0_canTakeOne 1 = .ok (.getfield 30, 3) := by decide +kernel
theorem dX0_canTakeOne_4 : decode cX0_canTakeOne 4 = .ok (.iconst 4, 1) := by decide +kernel
theorem dX0_canTakeOne_5 : decode cX0_canTakeOne 5 = .ok (.if_icmp .ge 18, 3) := by decide +kernel
theorem dX0_canTakeOne_8 : decode cX0_canTakeOne 8 = .ok (.aload_n 0, 1) := by decide +kernel
theorem dX0_canTakeOne_9 : decode cX0_canTakeOne 9 = .ok (.getfield 34, 3) := by decide +kernel
theorem dX0_canTakeOne_12 : decode cX0_canTakeOne 12 = .ok (.iload_n 1, 1) := by decide +kernel
theorem dX0_canTakeOne_13 : decode cX0_canTakeOne 13 = .ok (.iadd, 1) := by decide +kernel
theorem dX0_canTakeOne_14 : decode cX0_canTakeOne 14 = .ok (.bipush 8, 2) := by decide +kernel
theorem dX0_canTakeOne_16 : decode cX0_canTakeOne 16 = .ok (.if_icmp .gt 7, 3) := by decide +kernel
theorem dX0_canTakeOne_19 : decode cX0_canTakeOne 19 = .ok (.iconst 1, 1) := by decide +kernel
theorem dX0_canTakeOne_20 : decode cX0_canTakeOne 20 = .ok (.goto 4, 3) := by decide +kernel
theorem dX0_canTakeOne_23 : decode cX0_canTakeOne 23 = .ok (.iconst 0, 1) := by decide +kernel
theorem dX0_canTakeOne_24 : decode cX0_canTakeOne 24 = .ok (.ireturn, 1) := by decide +kernel
theorem dX0_take_0 : decode cX0_take 0 = .ok (.aload_n 0, 1) := by decide +kernel
theorem dX0_take_1 : decode cX0_take 1 = .ok (.iload_n 1, 1) := by decide +kernel
theorem dX0_take_2 : decode cX0_take 2 = .ok (.invokevirtual 37, 3) := by decide +kernel
theorem dX0_take_5 : decode cX0_take 5 = .ok (.ifCond .ne 5, 3) := by decide +kernel
theorem dX0_take_8 : decode cX0_take 8 = .ok (.iconst (-1), 1) := by decide +kernel
theorem dX0_take_9 : decode cX0_take 9 = .ok (.ireturn, 1) := by decide +kernel
theorem dX0_take_10 : decode cX0_take 10 = .ok (.aload_n 0, 1) := by decide +kernel
theorem dX0_take_11 : decode cX0_take 11 = .ok (.getfield 9, 3) := by decide +kernel
theorem dX0_take_14 : decode cX0_take 14 = .ok (.aload_n 0, 1) := by decide +kernel
theorem dX0_take_15 : decode cX0_take 15 = .ok (.getfield 30, 3) := by decide +kernel
theorem dX0_take_18 : decode cX0_take 18 = .ok (.aload_n 0, 1) := by decide +kernel
theorem dX0_take_19 : decode cX0_take 19 = .ok (.getfield 34, 3) := by decide +kernel
theorem dX0_take_22 : decode cX0_take 22 = .ok (.iastore, 1) := by decide +kernel
theorem dX0_take_23 : decode cX0_take 23 = .ok (.aload_n 0, 1) := by decide +kernel
theorem dX0_take_24 : decode cX0_take 24 = .ok (.getfield 15, 3) := by decide +kernel
theorem dX0_take_27 : decode cX0_take 27 = .ok (.aload_n 0, 1) := by decide +kernel
theorem dX0_take_28 : decode cX0_take 28 = .ok (.getfield 30, 3) := by decide +kernel
theorem dX0_take_31 : decode cX0_take 31 = .ok (.iload_n 1, 1) := by decide +kernel
theorem dX0_take_32 : decode cX0_take 32 = .ok (.iastore, 1) := by decide +kernel
theorem dX0_take_33 : decode cX0_take 33 = .ok (.aload_n 0, 1) := by decide +kernel
theorem dX0_take_34 : decode cX0_take 34 = .ok (.getfield 18, 3) := by decide +kernel
theorem dX0_take_37 : decode cX0_take 37 = .ok (.aload_n 0, 1) := by decide +kernel
theorem dX0_take_38 : decode cX0_take 38 = .ok (.getfield 30, 3) := by decide +kernel
theorem dX0_take_41 : decode cX0_take 41 = .ok (.iload_n 2, 1) := by decide +kernel
theorem dX0_take_42 : decode cX0_take 42 = .ok (.iastore, 1) := by decide +kernel
theorem dX0_take_43 : decode cX0_take 43 = .ok (.aload_n 0, 1) := by decide +kernel
theorem dX0_take_44 : decode cX0_take 44 = .ok (.getfield 21, 3) := by decide +kernel
theorem dX0_take_47 : decode cX0_take 47 = .ok (.aload_n 0, 1) := by decide +kernel
theorem dX0_take_48 : decode cX0_take 48 = .ok (.getfield 30, 3) := by decide +kernel
theorem dX0_take_51 : decode cX0_take 51 = .ok (.iload_n 3, 1) := by decide +kernel
theorem dX0_take_52 : decode cX0_take 52 = .ok (.iastore, 1) := by decide +kernel
theorem dX0_take_53 : decode cX0_take 53 = .ok (.iconst 0, 1) := by decide +kernel
theorem dX0_take_54 : decode cX0_take 54 = .ok (.istore 4, 2) := by decide +kernel
theorem dX0_take_56 : decode cX0_take 56 = .ok (.iload 4, 2) := by decide +kernel
theorem dX0_take_58 : decode cX0_take 58 = .ok (.iload_n 1, 1) := by decide +kernel
theorem dX0_take_59 : decode cX0_take 59 = .ok (.if_icmp .ge 25, 3) := by decide +kernel
theorem dX0_take_62 : decode cX0_take 62 = .ok (.aload_n 0, 1) := by decide +kernel
theorem dX0_take_63 : decode cX0_take 63 = .ok (.getfield 24, 3) := by decide +kernel
theorem dX0_take_66 : decode cX0_take 66 = .ok (.aload_n 0, 1) := by decide +kernel
theorem dX0_take_67 : decode cX0_take 67 = .ok (.getfield 34, 3) := by decide +kernel
theorem dX0_take_70 : decode cX0_take 70 = .ok (.iload 4, 2) := by decide +kernel
theorem dX0_take_72 : decode cX0_take 72 = .ok (.iadd, 1) := by decide +kernel
theorem dX0_take_73 : decode cX0_take 73 = .ok (.aload_n 0, 1) := by decide +kernel
theorem dX0_take_74 : decode cX0_take 74 = .ok (.getfield 30, 3) := by decide +kernel
theorem dX0_take_77 : decode cX0_take 77 = .ok (.iastore, 1) := by decide +kernel
theorem dX0_take_78 : decode cX0_take 78 = .ok (.iinc 4 1, 3) := by decide +kernel
theorem dX0_take_81 : decode cX0_take 81 = .ok (.goto (-25), 3) := by decide +kernel
theorem dX0_take_84 : decode cX0_take 84 = .ok (.aload_n 0, 1) := by decide +kernel
theorem dX0_take_85 : decode cX0_take 85 = .ok (.dup, 1) := by decide +kernel
theorem dX0_take_86 : decode cX0_take 86 = .ok (.getfield 34, 3) := by decide +kernel
theorem dX0_take_89 : decode cX0_take 89 = .ok (.iload_n 1, 1) := by decide +kernel
theorem dX0_take_90 : decode cX0_take 90 = .ok (.iadd, 1) := by decide +kernel
theorem dX0_take_91 : decode cX0_take 91 = .ok (.putfield 34, 3) := by decide +kernel
theorem dX0_take_94 : decode cX0_take 94 = .ok (.aload_n 0, 1) := by decide +kernel
theorem dX0_take_95 : decode cX0_take 95 = .ok (.dup, 1) := by decide +kernel
theorem dX0_take_96 : decode cX0_take 96 = .ok (.getfield 30, 3) := by decide +kernel
theorem dX0_take_99 : decode cX0_take 99 = .ok (.iconst 1, 1) := by decide +kernel
theorem dX0_take_100 : decode cX0_take 100 = .ok (.iadd, 1) := by decide +kernel
theorem dX0_take_101 : decode cX0_take 101 = .ok (.putfield 30, 3) := by decide +kernel
theorem dX0_take_104 : decode cX0_take 104 = .ok (.aload_n 0, 1) := by decide +kernel
theorem dX0_take_105 : decode cX0_take 105 = .ok (.getfield 30, 3) := by decide +kernel
theorem dX0_take_108 : decode cX0_take 108 = .ok (.iconst 1, 1) := by decide +kernel
theorem dX0_take_109 : decode cX0_take 109 = .ok (.isub, 1) := by decide +kernel
theorem dX0_take_110 : decode cX0_take 110 = .ok (.ireturn, 1) := by decide +kernel
theorem dX0_columnOf_0 : decode cX0_columnOf 0 = .ok (.aload_n 0, 1) := by decide +kernel
theorem dX0_columnOf_1 : decode cX0_columnOf 1 = .ok (.iload_n 1, 1) := by decide +kernel
theorem dX0_columnOf_2 : decode cX0_columnOf 2 = .ok (.invokevirtual 41, 3) := by decide +kernel
theorem dX0_columnOf_5 : decode cX0_columnOf 5 = .ok (.ifCond .eq 12, 3) := by decide +kernel
theorem dX0_columnOf_8 : decode cX0_columnOf 8 = .ok (.aload_n 0, 1) := by decide +kernel
theorem dX0_columnOf_9 : decode cX0_columnOf 9 = .ok (.getfield 24, 3) := by decide +kernel
theorem dX0_columnOf_12 : decode cX0_columnOf 12 = .ok (.iload_n 1, 1) := by decide +kernel
theorem dX0_columnOf_13 : decode cX0_columnOf 13 = .ok (.iaload, 1) := by decide +kernel
theorem dX0_columnOf_14 : decode cX0_columnOf 14 = .ok (.goto 4, 3) := by decide +kernel
theorem dX0_columnOf_17 : decode cX0_columnOf 17 = .ok (.iconst (-1), 1) := by decide +kernel
theorem dX0_columnOf_18 : decode cX0_columnOf 18 = .ok (.ireturn, 1) := by decide +kernel
theorem dX0_startOf_0 : decode cX0_startOf 0 = .ok (.aload_n 0, 1) := by decide +kernel
theorem dX0_startOf_1 : decode cX0_startOf 1 = .ok (.iload_n 1, 1) := by decide +kernel
theorem dX0_startOf_2 : decode cX0_startOf 2 = .ok (.invokevirtual 44, 3) := by decide +kernel
theorem dX0_startOf_5 : decode cX0_startOf 5 = .ok (.ifCond .eq 12, 3) := by decide +kernel
theorem dX0_startOf_8 : decode cX0_startOf 8 = .ok (.aload_n 0, 1) := by decide +kernel
theorem dX0_startOf_9 : decode cX0_startOf 9 = .ok (.getfield 9, 3) := by decide +kernel
theorem dX0_startOf_12 : decode cX0_startOf 12 = .ok (.iload_n 1, 1) := by decide +kernel
theorem dX0_startOf_13 : decode cX0_startOf 13 = .ok (.iaload, 1) := by decide +kernel
theorem dX0_startOf_14 : decode cX0_startOf 14 = .ok (.goto 4, 3) := by decide +kernel
theorem dX0_startOf_17 : decode cX0_startOf 17 = .ok (.iconst 0, 1) := by decide +kernel
theorem dX0_startOf_18 : decode cX0_startOf 18 = .ok (.ireturn, 1) := by decide +kernel
theorem dX0_endOf_0 : decode cX0_endOf 0 = .ok (.aload_n 0, 1) := by decide +kernel
theorem dX0_endOf_1 : decode cX0_endOf 1 = .ok (.iload_n 1, 1) := by decide +kernel
theorem dX0_endOf_2 : decode cX0_endOf 2 = .ok (.invokevirtual 44, 3) := by decide +kernel
theorem dX0_endOf_5 : decode cX0_endOf 5 = .ok (.ifCond .eq 19, 3) := by decide +kernel
theorem dX0_endOf_8 : decode cX0_endOf 8 = .ok (.aload_n 0, 1) := by decide +kernel
theorem dX0_endOf_9 : decode cX0_endOf 9 = .ok (.getfield 9, 3) := by decide +kernel
theorem dX0_endOf_12 : decode cX0_endOf 12 = .ok (.iload_n 1, 1) := by decide +kernel
theorem dX0_endOf_13 : decode cX0_endOf 13 = .ok (.iaload, 1) := by decide +kernel
theorem dX0_endOf_14 : decode cX0_endOf 14 = .ok (.aload_n 0, 1) := by decide +kernel
theorem dX0_endOf_15 : decode cX0_endOf 15 = .ok (.getfield 15, 3) := by decide +kernel
theorem dX0_endOf_18 : decode cX0_endOf 18 = .ok (.iload_n 1, 1) := by decide +kernel
theorem dX0_endOf_19 : decode cX0_endOf 19 = .ok (.iaload, 1) := by decide +kernel
theorem dX0_endOf_20 : decode cX0_endOf 20 = .ok (.iadd, 1) := by decide +kernel
theorem dX0_endOf_21 : decode cX0_endOf 21 = .ok (.goto 4, 3) := by decide +kernel
theorem dX0_endOf_24 : decode cX0_endOf 24 = .ok (.iconst 0, 1) := by decide +kernel
theorem dX0_endOf_25 : decode cX0_endOf 25 = .ok (.ireturn, 1) := by decide +kernel
theorem dX0_footOf_0 : decode cX0_footOf 0 = .ok (.aload_n 0, 1) := by decide +kernel
theorem dX0_footOf_1 : decode cX0_footOf 1 = .ok (.iload_n 1, 1) := by decide +kernel
theorem dX0_footOf_2 : decode cX0_footOf 2 = .ok (.invokevirtual 44, 3) := by decide +kernel
theorem dX0_footOf_5 : decode cX0_footOf 5 = .ok (.ifCond .eq 12, 3) := by decide +kernel
theorem dX0_footOf_8 : decode cX0_footOf 8 = .ok (.aload_n 0, 1) := by decide +kernel
theorem dX0_footOf_9 : decode cX0_footOf 9 = .ok (.getfield 18, 3) := by decide +kernel
theorem dX0_footOf_12 : decode cX0_footOf 12 = .ok (.iload_n 1, 1) := by decide +kernel
theorem dX0_footOf_13 : decode cX0_footOf 13 = .ok (.iaload, 1) := by decide +kernel
theorem dX0_footOf_14 : decode cX0_footOf 14 = .ok (.goto 4, 3) := by decide +kernel
theorem dX0_footOf_17 : decode cX0_footOf 17 = .ok (.iconst 0, 1) := by decide +kernel
theorem dX0_footOf_18 : decode cX0_footOf 18 = .ok (.ireturn, 1) := by decide +kernel
theorem dX0_headOf_0 : decode cX0_headOf 0 = .ok (.aload_n 0, 1) := by decide +kernel
theorem dX0_headOf_1 : decode cX0_headOf 1 = .ok (.iload_n 1, 1) := by decide +kernel
theorem dX0_headOf_2 : decode cX0_headOf 2 = .ok (.invokevirtual 44, 3) := by decide +kernel
theorem dX0_headOf_5 : decode cX0_headOf 5 = .ok (.ifCond .eq 12, 3) := by decide +kernel
theorem dX0_headOf_8 : decode cX0_headOf 8 = .ok (.aload_n 0, 1) := by decide +kernel
theorem dX0_headOf_9 : decode cX0_headOf 9 = .ok (.getfield 21, 3) := by decide +kernel
theorem dX0_headOf_12 : decode cX0_headOf 12 = .ok (.iload_n 1, 1) := by decide +kernel
theorem dX0_headOf_13 : decode cX0_headOf 13 = .ok (.iaload, 1) := by decide +kernel
theorem dX0_headOf_14 : decode cX0_headOf 14 = .ok (.goto 4, 3) := by decide +kernel
theorem dX0_headOf_17 : decode cX0_headOf 17 = .ok (.iconst 0, 1) := by decide +kernel
theorem dX0_headOf_18 : decode cX0_headOf 18 = .ok (.ireturn, 1) := by decide +kernel
theorem dX0_isFoot_0 : decode cX0_isFoot 0 = .ok (.iload_n 1, 1) := by decide +kernel
theorem dX0_isFoot_1 : decode cX0_isFoot 1 = .ok (.aload_n 0, 1) := by decide +kernel
theorem dX0_isFoot_2 : decode cX0_isFoot 2 = .ok (.aload_n 0, 1) := by decide +kernel
theorem dX0_isFoot_3 : decode cX0_isFoot 3 = .ok (.iload_n 1, 1) := by decide +kernel
theorem dX0_isFoot_4 : decode cX0_isFoot 4 = .ok (.invokevirtual 47, 3) := by decide +kernel
theorem dX0_isFoot_7 : decode cX0_isFoot 7 = .ok (.invokevirtual 51, 3) := by decide +kernel
theorem dX0_isFoot_10 : decode cX0_isFoot 10 = .ok (.if_icmp .ne 7, 3) := by decide +kernel
theorem dX0_isFoot_13 : decode cX0_isFoot 13 = .ok (.iconst 1, 1) := by decide +kernel
theorem dX0_isFoot_14 : decode cX0_isFoot 14 = .ok (.goto 4, 3) := by decide +kernel
theorem dX0_isFoot_17 : decode cX0_isFoot 17 = .ok (.iconst 0, 1) := by decide +kernel
theorem dX0_isFoot_18 : decode cX0_isFoot 18 = .ok (.ireturn, 1) := by decide +kernel
theorem dX0_isHead_0 : decode cX0_isHead 0 = .ok (.iload_n 1, 1) := by decide +kernel
theorem dX0_isHead_1 : decode cX0_isHead 1 = .ok (.iconst 1, 1) := by decide +kernel
theorem dX0_isHead_2 : decode cX0_isHead 2 = .ok (.iadd, 1) := by decide +kernel
theorem dX0_isHead_3 : decode cX0_isHead 3 = .ok (.aload_n 0, 1) := by decide +kernel
theorem dX0_isHead_4 : decode cX0_isHead 4 = .ok (.aload_n 0, 1) := by decide +kernel
theorem dX0_isHead_5 : decode cX0_isHead 5 = .ok (.iload_n 1, 1) := by decide +kernel
theorem dX0_isHead_6 : decode cX0_isHead 6 = .ok (.invokevirtual 47, 3) := by decide +kernel
theorem dX0_isHead_9 : decode cX0_isHead 9 = .ok (.invokevirtual 54, 3) := by decide +kernel
theorem dX0_isHead_12 : decode cX0_isHead 12 = .ok (.if_icmp .ne 7, 3) := by decide +kernel
theorem dX0_isHead_15 : decode cX0_isHead 15 = .ok (.iconst 1, 1) := by decide +kernel
theorem dX0_isHead_16 : decode cX0_isHead 16 = .ok (.goto 4, 3) := by decide +kernel
theorem dX0_isHead_19 : decode cX0_isHead 19 = .ok (.iconst 0, 1) := by decide +kernel
theorem dX0_isHead_20 : decode cX0_isHead 20 = .ok (.ireturn, 1) := by decide +kernel
theorem dX0_placeOfStone_0 : decode cX0_placeOfStone 0 = .ok (.iconst 0, 1) := by decide +kernel
theorem dX0_placeOfStone_1 : decode cX0_placeOfStone 1 = .ok (.istore_n 3, 1) := by decide +kernel
theorem dX0_placeOfStone_2 : decode cX0_placeOfStone 2 = .ok (.iload_n 3, 1) := by decide +kernel
theorem dX0_placeOfStone_3 : decode cX0_placeOfStone 3 = .ok (.aload_n 0, 1) := by decide +kernel
theorem dX0_placeOfStone_4 : decode cX0_placeOfStone 4 = .ok (.getfield 30, 3) := by decide +kernel
theorem dX0_placeOfStone_7 : decode cX0_placeOfStone 7 = .ok (.if_icmp .ge 16, 3) := by decide +kernel
theorem dX0_placeOfStone_10 : decode cX0_placeOfStone 10 = .ok (.aload_n 0, 1) := by decide +kernel
theorem dX0_placeOfStone_11 : decode cX0_placeOfStone 11 = .ok (.getfield 27, 3) := by decide +kernel
theorem dX0_placeOfStone_14 : decode cX0_placeOfStone 14 = .ok (.iload_n 3, 1) := by decide +kernel
theorem dX0_placeOfStone_15 : decode cX0_placeOfStone 15 = .ok (.iconst 0, 1) := by decide +kernel
theorem dX0_placeOfStone_16 : decode cX0_placeOfStone 16 = .ok (.iastore, 1) := by decide +kernel
theorem dX0_placeOfStone_17 : decode cX0_placeOfStone 17 = .ok (.iinc 3 1, 3) := by decide +kernel
theorem dX0_placeOfStone_20 : decode cX0_placeOfStone 20 = .ok (.goto (-18), 3) := by decide +kernel
theorem dX0_placeOfStone_23 : decode cX0_placeOfStone 23 = .ok (.iconst (-1), 1) := by decide +kernel
theorem dX0_placeOfStone_24 : decode cX0_placeOfStone 24 = .ok (.istore_n 3, 1) := by decide +kernel
theorem dX0_placeOfStone_25 : decode cX0_placeOfStone 25 = .ok (.iconst 0, 1) := by decide +kernel
theorem dX0_placeOfStone_26 : decode cX0_placeOfStone 26 = .ok (.istore 4, 2) := by decide +kernel
theorem dX0_placeOfStone_28 : decode cX0_placeOfStone 28 = .ok (.iload 4, 2) := by decide +kernel
theorem dX0_placeOfStone_30 : decode cX0_placeOfStone 30 = .ok (.iload_n 1, 1) := by decide +kernel
theorem dX0_placeOfStone_31 : decode cX0_placeOfStone 31 = .ok (.if_icmp .gt 60, 3) := by decide +kernel
theorem dX0_placeOfStone_34 : decode cX0_placeOfStone 34 = .ok (.iload 4, 2) := by decide +kernel
theorem dX0_placeOfStone_36 : decode cX0_placeOfStone 36 = .ok (.aload_n 0, 1) := by decide +kernel
theorem dX0_placeOfStone_37 : decode cX0_placeOfStone 37 = .ok (.getfield 34, 3) := by decide +kernel
theorem dX0_placeOfStone_40 : decode cX0_placeOfStone 40 = .ok (.if_icmp .ge 51, 3) := by decide +kernel
theorem dX0_placeOfStone_43 : decode cX0_placeOfStone 43 = .ok (.aload_n 0, 1) := by decide +kernel
theorem dX0_placeOfStone_44 : decode cX0_placeOfStone 44 = .ok (.iload_n 2, 1) := by decide +kernel
theorem dX0_placeOfStone_45 : decode cX0_placeOfStone 45 = .ok (.invokevirtual 57, 3) := by decide +kernel
theorem dX0_placeOfStone_48 : decode cX0_placeOfStone 48 = .ok (.istore 5, 2) := by decide +kernel
theorem dX0_placeOfStone_50 : decode cX0_placeOfStone 50 = .ok (.iload 5, 2) := by decide +kernel
theorem dX0_placeOfStone_52 : decode cX0_placeOfStone 52 = .ok (.iconst (-1), 1) := by decide +kernel
theorem dX0_placeOfStone_53 : decode cX0_placeOfStone 53 = .ok (.if_icmp .ne 5, 3) := by decide +kernel
theorem dX0_placeOfStone_56 : decode cX0_placeOfStone 56 = .ok (.iconst (-1), 1) := by decide +kernel
theorem dX0_placeOfStone_57 : decode cX0_placeOfStone 57 = .ok (.ireturn, 1) := by decide +kernel
theorem dX0_placeOfStone_58 : decode cX0_placeOfStone 58 = .ok (.aload_n 0, 1) := by decide +kernel
theorem dX0_placeOfStone_59 : decode cX0_placeOfStone 59 = .ok (.getfield 9, 3) := by decide +kernel
theorem dX0_placeOfStone_62 : decode cX0_placeOfStone 62 = .ok (.iload 5, 2) := by decide +kernel
theorem dX0_placeOfStone_64 : decode cX0_placeOfStone 64 = .ok (.iaload, 1) := by decide +kernel
theorem dX0_placeOfStone_65 : decode cX0_placeOfStone 65 = .ok (.aload_n 0, 1) := by decide +kernel
theorem dX0_placeOfStone_66 : decode cX0_placeOfStone 66 = .ok (.getfield 27, 3) := by decide +kernel
theorem dX0_placeOfStone_69 : decode cX0_placeOfStone 69 = .ok (.iload 5, 2) := by decide +kernel
theorem dX0_placeOfStone_71 : decode cX0_placeOfStone 71 = .ok (.iaload, 1) := by decide +kernel
theorem dX0_placeOfStone_72 : decode cX0_placeOfStone 72 = .ok (.iadd, 1) := by decide +kernel
theorem dX0_placeOfStone_73 : decode cX0_placeOfStone 73 = .ok (.istore_n 3, 1) := by decide +kernel
theorem dX0_placeOfStone_74 : decode cX0_placeOfStone 74 = .ok (.aload_n 0, 1) := by decide +kernel
theorem dX0_placeOfStone_75 : decode cX0_placeOfStone 75 = .ok (.getfield 27, 3) := by decide +kernel
theorem dX0_placeOfStone_78 : decode cX0_placeOfStone 78 = .ok (.iload 5, 2) := by decide +kernel
theorem dX0_placeOfStone_80 : decode cX0_placeOfStone 80 = .ok (.dup2, 1) := by decide +kernel
theorem dX0_placeOfStone_81 : decode cX0_placeOfStone 81 = .ok (.iaload, 1) := by decide +kernel
theorem dX0_placeOfStone_82 : decode cX0_placeOfStone 82 = .ok (.iconst 1, 1) := by decide +kernel
theorem dX0_placeOfStone_83 : decode cX0_placeOfStone 83 = .ok (.iadd, 1) := by decide +kernel
theorem dX0_placeOfStone_84 : decode cX0_placeOfStone 84 = .ok (.iastore, 1) := by decide +kernel
theorem dX0_placeOfStone_85 : decode cX0_placeOfStone 85 = .ok (.iinc 4 1, 3) := by decide +kernel
theorem dX0_placeOfStone_88 : decode cX0_placeOfStone 88 = .ok (.goto (-60), 3) := by decide +kernel
theorem dX0_placeOfStone_91 : decode cX0_placeOfStone 91 = .ok (.iload_n 3, 1) := by decide +kernel
theorem dX0_placeOfStone_92 : decode cX0_placeOfStone 92 = .ok (.ireturn, 1) := by decide +kernel
theorem dX0_nextColumn_0 : decode cX0_nextColumn 0 = .ok (.iconst 0, 1) := by decide +kernel
theorem dX0_nextColumn_1 : decode cX0_nextColumn 1 = .ok (.istore_n 2, 1) := by decide +kernel
theorem dX0_nextColumn_2 : decode cX0_nextColumn 2 = .ok (.iload_n 2, 1) := by decide +kernel
theorem dX0_nextColumn_3 : decode cX0_nextColumn 3 = .ok (.aload_n 0, 1) := by decide +kernel
theorem dX0_nextColumn_4 : decode cX0_nextColumn 4 = .ok (.getfield 30, 3) := by decide +kernel
theorem dX0_nextColumn_7 : decode cX0_nextColumn 7 = .ok (.if_icmp .ge 52, 3) := by decide +kernel
theorem dX0_nextColumn_10 : decode cX0_nextColumn 10 = .ok (.aload_n 0, 1) := by decide +kernel
theorem dX0_nextColumn_11 : decode cX0_nextColumn 11 = .ok (.getfield 27, 3) := by decide +kernel
theorem dX0_nextColumn_14 : decode cX0_nextColumn 14 = .ok (.iload_n 2, 1) := by decide +kernel
theorem dX0_nextColumn_15 : decode cX0_nextColumn 15 = .ok (.iaload, 1) := by decide +kernel
theorem dX0_nextColumn_16 : decode cX0_nextColumn 16 = .ok (.iconst 1, 1) := by decide +kernel
theorem dX0_nextColumn_17 : decode cX0_nextColumn 17 = .ok (.iadd, 1) := by decide +kernel
theorem dX0_nextColumn_18 : decode cX0_nextColumn 18 = .ok (.iload_n 1, 1) := by decide +kernel
theorem dX0_nextColumn_19 : decode cX0_nextColumn 19 = .ok (.isub, 1) := by decide +kernel
theorem dX0_nextColumn_20 : decode cX0_nextColumn 20 = .ok (.istore_n 3, 1) := by decide +kernel
theorem dX0_nextColumn_21 : decode cX0_nextColumn 21 = .ok (.aload_n 0, 1) := by decide +kernel
theorem dX0_nextColumn_22 : decode cX0_nextColumn 22 = .ok (.iload_n 2, 1) := by decide +kernel
theorem dX0_nextColumn_23 : decode cX0_nextColumn 23 = .ok (.invokevirtual 60, 3) := by decide +kernel
theorem dX0_nextColumn_26 : decode cX0_nextColumn 26 = .ok (.ifCond .ne 27, 3) := by decide +kernel
theorem dX0_nextColumn_29 : decode cX0_nextColumn 29 = .ok (.aload_n 0, 1) := by decide +kernel
theorem dX0_nextColumn_30 : decode cX0_nextColumn 30 = .ok (.iload_n 2, 1) := by decide +kernel
theorem dX0_nextColumn_31 : decode cX0_nextColumn 31 = .ok (.iconst 1, 1) := by decide +kernel
theorem dX0_nextColumn_32 : decode cX0_nextColumn 32 = .ok (.isub, 1) := by decide +kernel
theorem dX0_nextColumn_33 : decode cX0_nextColumn 33 = .ok (.iload_n 3, 1) := by decide +kernel
theorem dX0_nextColumn_34 : decode cX0_nextColumn 34 = .ok (.invokevirtual 63, 3) := by decide +kernel
theorem dX0_nextColumn_37 : decode cX0_nextColumn 37 = .ok (.ifCond .eq 16, 3) := by decide +kernel
theorem dX0_nextColumn_40 : decode cX0_nextColumn 40 = .ok (.aload_n 0, 1) := by decide +kernel
theorem dX0_nextColumn_41 : decode cX0_nextColumn 41 = .ok (.iload_n 2, 1) := by decide +kernel
theorem dX0_nextColumn_42 : decode cX0_nextColumn 42 = .ok (.iconst 1, 1) := by decide +kernel
theorem dX0_nextColumn_43 : decode cX0_nextColumn 43 = .ok (.iadd, 1) := by decide +kernel
theorem dX0_nextColumn_44 : decode cX0_nextColumn 44 = .ok (.iload_n 3, 1) := by decide +kernel
theorem dX0_nextColumn_45 : decode cX0_nextColumn 45 = .ok (.invokevirtual 63, 3) := by decide +kernel
theorem dX0_nextColumn_48 : decode cX0_nextColumn 48 = .ok (.ifCond .eq 5, 3) := by decide +kernel
theorem dX0_nextColumn_51 : decode cX0_nextColumn 51 = .ok (.iload_n 2, 1) := by decide +kernel
theorem dX0_nextColumn_52 : decode cX0_nextColumn 52 = .ok (.ireturn, 1) := by decide +kernel
theorem dX0_nextColumn_53 : decode cX0_nextColumn 53 = .ok (.iinc 2 1, 3) := by decide +kernel
theorem dX0_nextColumn_56 : decode cX0_nextColumn 56 = .ok (.goto (-54), 3) := by decide +kernel
theorem dX0_nextColumn_59 : decode cX0_nextColumn 59 = .ok (.iconst (-1), 1) := by decide +kernel
theorem dX0_nextColumn_60 : decode cX0_nextColumn 60 = .ok (.ireturn, 1) := by decide +kernel
theorem dX0_isFull_0 : decode cX0_isFull 0 = .ok (.aload_n 0, 1) := by decide +kernel
theorem dX0_isFull_1 : decode cX0_isFull 1 = .ok (.getfield 27, 3) := by decide +kernel
theorem dX0_isFull_4 : decode cX0_isFull 4 = .ok (.iload_n 1, 1) := by decide +kernel
theorem dX0_isFull_5 : decode cX0_isFull 5 = .ok (.iaload, 1) := by decide +kernel
theorem dX0_isFull_6 : decode cX0_isFull 6 = .ok (.aload_n 0, 1) := by decide +kernel
theorem dX0_isFull_7 : decode cX0_isFull 7 = .ok (.getfield 15, 3) := by decide +kernel
theorem dX0_isFull_10 : decode cX0_isFull 10 = .ok (.iload_n 1, 1) := by decide +kernel
theorem dX0_isFull_11 : decode cX0_isFull 11 = .ok (.iaload, 1) := by decide +kernel
theorem dX0_isFull_12 : decode cX0_isFull 12 = .ok (.if_icmp .lt 7, 3) := by decide +kernel
theorem dX0_isFull_15 : decode cX0_isFull 15 = .ok (.iconst 1, 1) := by decide +kernel
theorem dX0_isFull_16 : decode cX0_isFull 16 = .ok (.goto 4, 3) := by decide +kernel
theorem dX0_isFull_19 : decode cX0_isFull 19 = .ok (.iconst 0, 1) := by decide +kernel
theorem dX0_isFull_20 : decode cX0_isFull 20 = .ok (.ireturn, 1) := by decide +kernel
theorem dX0_allowsNext_0 : decode cX0_allowsNext 0 = .ok (.aload_n 0, 1) := by decide +kernel
theorem dX0_allowsNext_1 : decode cX0_allowsNext 1 = .ok (.iload_n 1, 1) := by decide +kernel
theorem dX0_allowsNext_2 : decode cX0_allowsNext 2 = .ok (.invokevirtual 44, 3) := by decide +kernel
theorem dX0_allowsNext_5 : decode cX0_allowsNext 5 = .ok (.ifCond .eq 21, 3) := by decide +kernel
theorem dX0_allowsNext_8 : decode cX0_allowsNext 8 = .ok (.aload_n 0, 1) := by decide +kernel
theorem dX0_allowsNext_9 : decode cX0_allowsNext 9 = .ok (.iload_n 1, 1) := by decide +kernel
theorem dX0_allowsNext_10 : decode cX0_allowsNext 10 = .ok (.invokevirtual 60, 3) := by decide +kernel
theorem dX0_allowsNext_13 : decode cX0_allowsNext 13 = .ok (.ifCond .ne 13, 3) := by decide +kernel
theorem dX0_allowsNext_16 : decode cX0_allowsNext 16 = .ok (.aload_n 0, 1) := by decide +kernel
theorem dX0_allowsNext_17 : decode cX0_allowsNext 17 = .ok (.getfield 27, 3) := by decide +kernel
theorem dX0_allowsNext_20 : decode cX0_allowsNext 20 = .ok (.iload_n 1, 1) := by decide +kernel
theorem dX0_allowsNext_21 : decode cX0_allowsNext 21 = .ok (.iaload, 1) := by decide +kernel
theorem dX0_allowsNext_22 : decode cX0_allowsNext 22 = .ok (.iload_n 2, 1) := by decide +kernel
theorem dX0_allowsNext_23 : decode cX0_allowsNext 23 = .ok (.if_icmp .lt 7, 3) := by decide +kernel
theorem dX0_allowsNext_26 : decode cX0_allowsNext 26 = .ok (.iconst 1, 1) := by decide +kernel
theorem dX0_allowsNext_27 : decode cX0_allowsNext 27 = .ok (.goto 4, 3) := by decide +kernel
theorem dX0_allowsNext_30 : decode cX0_allowsNext 30 = .ok (.iconst 0, 1) := by decide +kernel
theorem dX0_allowsNext_31 : decode cX0_allowsNext 31 = .ok (.ireturn, 1) := by decide +kernel
theorem dX1_init_0 : decode cX1_init 0 = .ok (.aload_n 0, 1) := by decide +kernel
theorem dX1_init_1 : decode cX1_init 1 = .ok (.invokespecial 3, 3) := by decide +kernel
theorem dX1_init_4 : decode cX1_init 4 = .ok (.aload_n 0, 1) := by decide +kernel
theorem dX1_init_5 : decode cX1_init 5 = .ok (.bipush 10, 2) := by decide +kernel
theorem dX1_init_7 : decode cX1_init 7 = .ok (.bipush 9, 2) := by decide +kernel
theorem dX1_init_9 : decode cX1_init 9 = .ok (.multianewarray 11 2, 4) := by decide +kernel
theorem dX1_init_13 : decode cX1_init 13 = .ok (.putfield 13, 3) := by decide +kernel
theorem dX1_init_16 : decode cX1_init 16 = .ok (.aload_n 0, 1) := by decide +kernel
theorem dX1_init_17 : decode cX1_init 17 = .ok (.bipush 9, 2) := by decide +kernel
theorem dX1_init_19 : decode cX1_init 19 = .ok (.newarray .int, 2) := by decide +kernel
theorem dX1_init_21 : decode cX1_init 21 = .ok (.putfield 16, 3) := by decide +kernel
theorem dX1_init_24 : decode cX1_init 24 = .ok (.return_, 1) := by decide +kernel
theorem dX1_number_0 : decode cX1_number 0 = .ok (.aload_n 0, 1) := by decide +kernel
theorem dX1_number_1 : decode cX1_number 1 = .ok (.getfield 20, 3) := by decide +kernel
theorem dX1_number_4 : decode cX1_number 4 = .ok (.ireturn, 1) := by decide +kernel
theorem dX1_has_0 : decode cX1_has 0 = .ok (.iload_n 1, 1) := by decide +kernel
theorem dX1_has_1 : decode cX1_has 1 = .ok (.ifCond .lt 15, 3) := by decide +kernel
theorem dX1_has_4 : decode cX1_has 4 = .ok (.iload_n 1, 1) := by decide +kernel
theorem dX1_has_5 : decode cX1_has 5 = .ok (.aload_n 0, 1) := by decide +kernel
theorem dX1_has_6 : decode cX1_has 6 = .ok (.getfield 20, 3) := by decide +kernel
theorem dX1_has_9 : decode cX1_has 9 = .ok (.if_icmp .ge 7, 3) := by decide +kernel
theorem dX1_has_12 : decode cX1_has 12 = .ok (.iconst 1, 1) := by decide +kernel
theorem dX1_has_13 : decode cX1_has 13 = .ok (.goto 4, 3) := by decide +kernel
theorem dX1_has_16 : decode cX1_has 16 = .ok (.iconst 0, 1) := by decide +kernel
theorem dX1_has_17 : decode cX1_has 17 = .ok (.ireturn, 1) := by decide +kernel
theorem dX1_fact_0 : decode cX1_fact 0 = .ok (.aload_n 0, 1) := by decide +kernel
theorem dX1_fact_1 : decode cX1_fact 1 = .ok (.iload_n 1, 1) := by decide +kernel
theorem dX1_fact_2 : decode cX1_fact 2 = .ok (.invokevirtual 24, 3) := by decide +kernel
theorem dX1_fact_5 : decode cX1_fact 5 = .ok (.ifCond .eq 13, 3) := by decide +kernel
theorem dX1_fact_8 : decode cX1_fact 8 = .ok (.iload_n 2, 1) := by decide +kernel
theorem dX1_fact_9 : decode cX1_fact 9 = .ok (.ifCond .lt 9, 3) := by decide +kernel
theorem dX1_fact_12 : decode cX1_fact 12 = .ok (.iload_n 2, 1) := by decide +kernel
theorem dX1_fact_13 : decode cX1_fact 13 = .ok (.bipush 9, 2) := by decide +kernel
theorem dX1_fact_15 : decode cX1_fact 15 = .ok (.if_icmp .lt 5, 3) := by decide +kernel
theorem dX1_fact_18 : decode cX1_fact 18 = .ok (.iconst 0, 1) := by decide +kernel
theorem dX1_fact_19 : decode cX1_fact 19 = .ok (.ireturn, 1) := by decide +kernel
theorem dX1_fact_20 : decode cX1_fact 20 = .ok (.aload_n 0, 1) := by decide +kernel
theorem dX1_fact_21 : decode cX1_fact 21 = .ok (.getfield 13, 3) := by decide +kernel
theorem dX1_fact_24 : decode cX1_fact 24 = .ok (.iload_n 1, 1) := by decide +kernel
theorem dX1_fact_25 : decode cX1_fact 25 = .ok (.aaload, 1) := by decide +kernel
theorem dX1_fact_26 : decode cX1_fact 26 = .ok (.iload_n 2, 1) := by decide +kernel
theorem dX1_fact_27 : decode cX1_fact 27 = .ok (.iaload, 1) := by decide +kernel
theorem dX1_fact_28 : decode cX1_fact 28 = .ok (.ireturn, 1) := by decide +kernel
theorem dX1_keepMeasured_0 : decode cX1_keepMeasured 0 = .ok (.aload_n 0, 1) := by decide +kernel
theorem dX1_keepMeasured_1 : decode cX1_keepMeasured 1 = .ok (.getfield 16, 3) := by decide +kernel
theorem dX1_keepMeasured_4 : decode cX1_keepMeasured 4 = .ok (.iconst 0, 1) := by decide +kernel
theorem dX1_keepMeasured_5 : decode cX1_keepMeasured 5 = .ok (.iload_n 1, 1) := by decide +kernel
theorem dX1_keepMeasured_6 : decode cX1_keepMeasured 6 = .ok (.iastore, 1) := by decide +kernel
theorem dX1_keepMeasured_7 : decode cX1_keepMeasured 7 = .ok (.aload_n 0, 1) := by decide +kernel
theorem dX1_keepMeasured_8 : decode cX1_keepMeasured 8 = .ok (.getfield 16, 3) := by decide +kernel
theorem dX1_keepMeasured_11 : decode cX1_keepMeasured 11 = .ok (.iconst 1, 1) := by decide +kernel
theorem dX1_keepMeasured_12 : decode cX1_keepMeasured 12 = .ok (.iload_n 2, 1) := by decide +kernel
theorem dX1_keepMeasured_13 : decode cX1_keepMeasured 13 = .ok (.iastore, 1) := by decide +kernel
theorem dX1_keepMeasured_14 : decode cX1_keepMeasured 14 = .ok (.aload_n 0, 1) := by decide +kernel
theorem dX1_keepMeasured_15 : decode cX1_keepMeasured 15 = .ok (.getfield 16, 3) := by decide +kernel
theorem dX1_keepMeasured_18 : decode cX1_keepMeasured 18 = .ok (.iconst 2, 1) := by decide +kernel
theorem dX1_keepMeasured_19 : decode cX1_keepMeasured 19 = .ok (.iload_n 3, 1) := by decide +kernel
theorem dX1_keepMeasured_20 : decode cX1_keepMeasured 20 = .ok (.iastore, 1) := by decide +kernel
theorem dX1_keepMeasured_21 : decode cX1_keepMeasured 21 = .ok (.aload_n 0, 1) := by decide +kernel
theorem dX1_keepMeasured_22 : decode cX1_keepMeasured 22 = .ok (.getfield 16, 3) := by decide +kernel
theorem dX1_keepMeasured_25 : decode cX1_keepMeasured 25 = .ok (.iconst 3, 1) := by decide +kernel
theorem dX1_keepMeasured_26 : decode cX1_keepMeasured 26 = .ok (.iload 4, 2) := by decide +kernel
theorem dX1_keepMeasured_28 : decode cX1_keepMeasured 28 = .ok (.iastore, 1) := by decide +kernel
theorem dX1_keepMeasured_29 : decode cX1_keepMeasured 29 = .ok (.aload_n 0, 1) := by decide +kernel
theorem dX1_keepMeasured_30 : decode cX1_keepMeasured 30 = .ok (.iconst 1, 1) := by decide +kernel
theorem dX1_keepMeasured_31 : decode cX1_keepMeasured 31 = .ok (.putfield 28, 3) := by decide +kernel
theorem dX1_keepMeasured_34 : decode cX1_keepMeasured 34 = .ok (.return_, 1) := by decide +kernel
theorem dX1_canTakeOne_0 : decode cX1_canTakeOne 0 = .ok (.aload_n 0, 1) := by decide +kernel
theorem dX1_canTakeOne_1 : decode cX1_canTakeOne 1 = .ok (.getfield 28, 3) := by decide +kernel
theorem dX1_canTakeOne_4 : decode cX1_canTakeOne 4 = .ok (.ifCond .eq 16, 3) := by decide +kernel
theorem dX1_canTakeOne_7 : decode cX1_canTakeOne 7 = .ok (.aload_n 0, 1) := by decide +kernel
theorem dX1_canTakeOne_8 : decode cX1_canTakeOne 8 = .ok (.getfield 20, 3) := by decide +kernel
theorem dX1_canTakeOne_11 : decode cX1_canTakeOne 11 = .ok (.bipush 10, 2) := by decide +kernel
theorem dX1_canTakeOne_13 : decode cX1_canTakeOne 13 = .ok (.if_icmp .ge 7, 3) := by decide +kernel
theorem dX1_canTakeOne_16 : decode cX1_canTakeOne 16 = .ok (.iconst 1, 1) := by decide +kernel
theorem dX1_canTakeOne_17 : decode cX1_canTakeOne 17 = .ok (.goto 4, 3) := by decide +kernel
theorem dX1_canTakeOne_20 : decode cX1_canTakeOne 20 = .ok (.iconst 0, 1) := by decide +kernel
theorem dX1_canTakeOne_21 : decode cX1_canTakeOne 21 = .ok (.ireturn, 1) := by decide +kernel
theorem dX1_take_0 : decode cX1_take 0 = .ok (.aload_n 0, 1) := by decide +kernel
theorem dX1_take_1 : decode cX1_take 1 = .ok (.invokevirtual 32, 3) := by decide +kernel
theorem dX1_take_4 : decode cX1_take 4 = .ok (.ifCond .ne 5, 3) := by decide +kernel
theorem dX1_take_7 : decode cX1_take 7 = .ok (.iconst (-1), 1) := by decide +kernel
theorem dX1_take_8 : decode cX1_take 8 = .ok (.ireturn, 1) := by decide +kernel
theorem dX1_take_9 : decode cX1_take 9 = .ok (.aload_n 0, 1) := by decide +kernel
theorem dX1_take_10 : decode cX1_take 10 = .ok (.getfield 16, 3) := by decide +kernel
theorem dX1_take_13 : decode cX1_take 13 = .ok (.iconst 4, 1) := by decide +kernel
theorem dX1_take_14 : decode cX1_take 14 = .ok (.iload_n 1, 1) := by decide +kernel
theorem dX1_take_15 : decode cX1_take 15 = .ok (.iastore, 1) := by decide +kernel
theorem dX1_take_16 : decode cX1_take 16 = .ok (.aload_n 0, 1) := by decide +kernel
theorem dX1_take_17 : decode cX1_take 17 = .ok (.getfield 16, 3) := by decide +kernel
theorem dX1_take_20 : decode cX1_take 20 = .ok (.iconst 5, 1) := by decide +kernel
theorem dX1_take_21 : decode cX1_take 21 = .ok (.iload_n 2, 1) := by decide +kernel
theorem dX1_take_22 : decode cX1_take 22 = .ok (.iastore, 1) := by decide +kernel
theorem dX1_take_23 : decode cX1_take 23 = .ok (.aload_n 0, 1) := by decide +kernel
theorem dX1_take_24 : decode cX1_take 24 = .ok (.getfield 16, 3) := by decide +kernel
theorem dX1_take_27 : decode cX1_take 27 = .ok (.bipush 6, 2) := by decide +kernel
theorem dX1_take_29 : decode cX1_take 29 = .ok (.iload_n 3, 1) := by decide +kernel
theorem dX1_take_30 : decode cX1_take 30 = .ok (.iastore, 1) := by decide +kernel
theorem dX1_take_31 : decode cX1_take 31 = .ok (.aload_n 0, 1) := by decide +kernel
theorem dX1_take_32 : decode cX1_take 32 = .ok (.getfield 16, 3) := by decide +kernel
theorem dX1_take_35 : decode cX1_take 35 = .ok (.bipush 7, 2) := by decide +kernel
theorem dX1_take_37 : decode cX1_take 37 = .ok (.iload 4, 2) := by decide +kernel
theorem dX1_take_39 : decode cX1_take 39 = .ok (.iastore, 1) := by decide +kernel
theorem dX1_take_40 : decode cX1_take 40 = .ok (.aload_n 0, 1) := by decide +kernel
theorem dX1_take_41 : decode cX1_take 41 = .ok (.getfield 16, 3) := by decide +kernel
theorem dX1_take_44 : decode cX1_take 44 = .ok (.bipush 8, 2) := by decide +kernel
theorem dX1_take_46 : decode cX1_take 46 = .ok (.iload 5, 2) := by decide +kernel
theorem dX1_take_48 : decode cX1_take 48 = .ok (.iastore, 1) := by decide +kernel
theorem dX1_take_49 : decode cX1_take 49 = .ok (.aload_n 0, 1) := by decide +kernel
theorem dX1_take_50 : decode cX1_take 50 = .ok (.getfield 16, 3) := by decide +kernel
theorem dX1_take_53 : decode cX1_take 53 = .ok (.iconst 0, 1) := by decide +kernel
theorem dX1_take_54 : decode cX1_take 54 = .ok (.aload_n 0, 1) := by decide +kernel
theorem dX1_take_55 : decode cX1_take 55 = .ok (.getfield 13, 3) := by decide +kernel
theorem dX1_take_58 : decode cX1_take 58 = .ok (.aload_n 0, 1) := by decide +kernel
theorem dX1_take_59 : decode cX1_take 59 = .ok (.getfield 20, 3) := by decide +kernel
theorem dX1_take_62 : decode cX1_take 62 = .ok (.aaload, 1) := by decide +kernel
theorem dX1_take_63 : decode cX1_take 63 = .ok (.iconst 0, 1) := by decide +kernel
theorem dX1_take_64 : decode cX1_take 64 = .ok (.bipush 9, 2) := by decide +kernel
theorem dX1_take_66 : decode cX1_take 66 = .ok (.invokestatic 36, 3) := by decide +kernel
theorem dX1_take_69 : decode cX1_take 69 = .ok (.aload_n 0, 1) := by decide +kernel
theorem dX1_take_70 : decode cX1_take 70 = .ok (.iconst 0, 1) := by decide +kernel
theorem dX1_take_71 : decode cX1_take 71 = .ok (.putfield 28, 3) := by decide +kernel
theorem dX1_take_74 : decode cX1_take 74 = .ok (.aload_n 0, 1) := by decide +kernel
theorem dX1_take_75 : decode cX1_take 75 = .ok (.dup, 1) := by decide +kernel
theorem dX1_take_76 : decode cX1_take 76 = .ok (.getfield 20, 3) := by decide +kernel
theorem dX1_take_79 : decode cX1_take 79 = .ok (.iconst 1, 1) := by decide +kernel
theorem dX1_take_80 : decode cX1_take 80 = .ok (.iadd, 1) := by decide +kernel
theorem dX1_take_81 : decode cX1_take 81 = .ok (.putfield 20, 3) := by decide +kernel
theorem dX1_take_84 : decode cX1_take 84 = .ok (.aload_n 0, 1) := by decide +kernel
theorem dX1_take_85 : decode cX1_take 85 = .ok (.getfield 20, 3) := by decide +kernel
theorem dX1_take_88 : decode cX1_take 88 = .ok (.iconst 1, 1) := by decide +kernel
theorem dX1_take_89 : decode cX1_take 89 = .ok (.isub, 1) := by decide +kernel
theorem dX1_take_90 : decode cX1_take 90 = .ok (.ireturn, 1) := by decide +kernel
theorem dX1_turnOn_0 : decode cX1_turnOn 0 = .ok (.aload_n 0, 1) := by decide +kernel
theorem dX1_turnOn_1 : decode cX1_turnOn 1 = .ok (.iload_n 1, 1) := by decide +kernel
theorem dX1_turnOn_2 : decode cX1_turnOn 2 = .ok (.invokevirtual 24, 3) := by decide +kernel
theorem dX1_turnOn_5 : decode cX1_turnOn 5 = .ok (.ifCond .eq 16, 3) := by decide +kernel
theorem dX1_turnOn_8 : decode cX1_turnOn 8 = .ok (.aload_n 0, 1) := by decide +kernel
theorem dX1_turnOn_9 : decode cX1_turnOn 9 = .ok (.iload_n 2, 1) := by decide +kernel
theorem dX1_turnOn_10 : decode cX1_turnOn 10 = .ok (.invokevirtual 24, 3) := by decide +kernel
theorem dX1_turnOn_13 : decode cX1_turnOn 13 = .ok (.ifCond .eq 8, 3) := by decide +kernel
theorem dX1_turnOn_16 : decode cX1_turnOn 16 = .ok (.iload_n 1, 1) := by decide +kernel
theorem dX1_turnOn_17 : decode cX1_turnOn 17 = .ok (.iload_n 2, 1) := by decide +kernel
theorem dX1_turnOn_18 : decode cX1_turnOn 18 = .ok (.if_icmp .ne 5, 3) := by decide +kernel
theorem dX1_turnOn_21 : decode cX1_turnOn 21 = .ok (.iconst (-1), 1) := by decide +kernel
theorem dX1_turnOn_22 : decode cX1_turnOn 22 = .ok (.ireturn, 1) := by decide +kernel
theorem dX1_turnOn_23 : decode cX1_turnOn 23 = .ok (.aload_n 0, 1) := by decide +kernel
theorem dX1_turnOn_24 : decode cX1_turnOn 24 = .ok (.getfield 13, 3) := by decide +kernel
theorem dX1_turnOn_27 : decode cX1_turnOn 27 = .ok (.iload_n 1, 1) := by decide +kernel
theorem dX1_turnOn_28 : decode cX1_turnOn 28 = .ok (.aaload, 1) := by decide +kernel
theorem dX1_turnOn_29 : decode cX1_turnOn 29 = .ok (.astore 4, 2) := by decide +kernel
theorem dX1_turnOn_31 : decode cX1_turnOn 31 = .ok (.aload_n 0, 1) := by decide +kernel
theorem dX1_turnOn_32 : decode cX1_turnOn 32 = .ok (.getfield 13, 3) := by decide +kernel
theorem dX1_turnOn_35 : decode cX1_turnOn 35 = .ok (.iload_n 2, 1) := by decide +kernel
theorem dX1_turnOn_36 : decode cX1_turnOn 36 = .ok (.aaload, 1) := by decide +kernel
theorem dX1_turnOn_37 : decode cX1_turnOn 37 = .ok (.astore 5, 2) := by decide +kernel
theorem dX1_turnOn_39 : decode cX1_turnOn 39 = .ok (.aload 4, 2) := by decide +kernel
theorem dX1_turnOn_41 : decode cX1_turnOn 41 = .ok (.iconst 2, 1) := by decide +kernel
theorem dX1_turnOn_42 : decode cX1_turnOn 42 = .ok (.iaload, 1) := by decide +kernel
theorem dX1_turnOn_43 : decode cX1_turnOn 43 = .ok (.aload 5, 2) := by decide +kernel
theorem dX1_turnOn_45 : decode cX1_turnOn 45 = .ok (.iconst 2, 1) := by decide +kernel
theorem dX1_turnOn_46 : decode cX1_turnOn 46 = .ok (.iaload, 1) := by decide +kernel
theorem dX1_turnOn_47 : decode cX1_turnOn 47 = .ok (.iadd, 1) := by decide +kernel
theorem dX1_turnOn_48 : decode cX1_turnOn 48 = .ok (.iload_n 3, 1) := by decide +kernel
theorem dX1_turnOn_49 : decode cX1_turnOn 49 = .ok (.iadd, 1) := by decide +kernel
theorem dX1_turnOn_50 : decode cX1_turnOn 50 = .ok (.istore 6, 2) := by decide +kernel
theorem dX1_turnOn_52 : decode cX1_turnOn 52 = .ok (.aload 4, 2) := by decide +kernel
theorem dX1_turnOn_54 : decode cX1_turnOn 54 = .ok (.iconst 0, 1) := by decide +kernel
theorem dX1_turnOn_55 : decode cX1_turnOn 55 = .ok (.iaload, 1) := by decide +kernel
theorem dX1_turnOn_56 : decode cX1_turnOn 56 = .ok (.aload 5, 2) := by decide +kernel
theorem dX1_turnOn_58 : decode cX1_turnOn 58 = .ok (.iconst 1, 1) := by decide +kernel
theorem dX1_turnOn_59 : decode cX1_turnOn 59 = .ok (.iaload, 1) := by decide +kernel
theorem dX1_turnOn_60 : decode cX1_turnOn 60 = .ok (.isub, 1) := by decide +kernel
theorem dX1_turnOn_61 : decode cX1_turnOn 61 = .ok (.invokestatic 42, 3) := by decide +kernel
theorem dX1_turnOn_64 : decode cX1_turnOn 64 = .ok (.iload 6, 2) := by decide +kernel
theorem dX1_turnOn_66 : decode cX1_turnOn 66 = .ok (.if_icmp .gt 17, 3) := by decide +kernel
theorem dX1_turnOn_69 : decode cX1_turnOn 69 = .ok (.aload 4, 2) := by decide +kernel
theorem dX1_turnOn_71 : decode cX1_turnOn 71 = .ok (.iconst 4, 1) := by decide +kernel
theorem dX1_turnOn_72 : decode cX1_turnOn 72 = .ok (.iaload, 1) := by decide +kernel
theorem dX1_turnOn_73 : decode cX1_turnOn 73 = .ok (.aload 5, 2) := by decide +kernel
theorem dX1_turnOn_75 : decode cX1_turnOn 75 = .ok (.iconst 4, 1) := by decide +kernel
theorem dX1_turnOn_76 : decode cX1_turnOn 76 = .ok (.iaload, 1) := by decide +kernel
theorem dX1_turnOn_77 : decode cX1_turnOn 77 = .ok (.invokestatic 48, 3) := by decide +kernel
theorem dX1_turnOn_80 : decode cX1_turnOn 80 = .ok (.ifCond .ne 5, 3) := by decide +kernel
theorem dX1_turnOn_83 : decode cX1_turnOn 83 = .ok (.iconst (-1), 1) := by decide +kernel
theorem dX1_turnOn_84 : decode cX1_turnOn 84 = .ok (.ireturn, 1) := by decide +kernel
theorem dX1_turnOn_85 : decode cX1_turnOn 85 = .ok (.aload 4, 2) := by decide +kernel
theorem dX1_turnOn_87 : decode cX1_turnOn 87 = .ok (.iconst 5, 1) := by decide +kernel
theorem dX1_turnOn_88 : decode cX1_turnOn 88 = .ok (.iaload, 1) := by decide +kernel
theorem dX1_turnOn_89 : decode cX1_turnOn 89 = .ok (.aload 5, 2) := by decide +kernel
theorem dX1_turnOn_91 : decode cX1_turnOn 91 = .ok (.bipush 6, 2) := by decide +kernel
theorem dX1_turnOn_93 : decode cX1_turnOn 93 = .ok (.iaload, 1) := by decide +kernel
theorem dX1_turnOn_94 : decode cX1_turnOn 94 = .ok (.invokestatic 52, 3) := by decide +kernel
theorem dX1_turnOn_97 : decode cX1_turnOn 97 = .ok (.ireturn, 1) := by decide +kernel
theorem dX1_lyingOn_0 : decode cX1_lyingOn 0 = .ok (.iconst 0, 1) := by decide +kernel
theorem dX1_lyingOn_1 : decode cX1_lyingOn 1 = .ok (.istore_n 3, 1) := by decide +kernel
theorem dX1_lyingOn_2 : decode cX1_lyingOn 2 = .ok (.iconst 0, 1) := by decide +kernel
theorem dX1_lyingOn_3 : decode cX1_lyingOn 3 = .ok (.istore 4, 2) := by decide +kernel
theorem dX1_lyingOn_5 : decode cX1_lyingOn 5 = .ok (.iload 4, 2) := by decide +kernel
theorem dX1_lyingOn_7 : decode cX1_lyingOn 7 = .ok (.aload_n 0, 1) := by decide +kernel
theorem dX1_lyingOn_8 : decode cX1_lyingOn 8 = .ok (.getfield 20, 3) := by decide +kernel
theorem dX1_lyingOn_11 : decode cX1_lyingOn 11 = .ok (.if_icmp .ge 28, 3) := by decide +kernel
theorem dX1_lyingOn_14 : decode cX1_lyingOn 14 = .ok (.aload_n 0, 1) := by decide +kernel
theorem dX1_lyingOn_15 : decode cX1_lyingOn 15 = .ok (.iload 4, 2) := by decide +kernel
theorem dX1_lyingOn_17 : decode cX1_lyingOn 17 = .ok (.iload_n 1, 1) := by decide +kernel
theorem dX1_lyingOn_18 : decode cX1_lyingOn 18 = .ok (.iload_n 2, 1) := by decide +kernel
theorem dX1_lyingOn_19 : decode cX1_lyingOn 19 = .ok (.invokevirtual 56, 3) := by decide +kernel
theorem dX1_lyingOn_22 : decode cX1_lyingOn 22 = .ok (.iconst (-1), 1) := by decide +kernel
theorem dX1_lyingOn_23 : decode cX1_lyingOn 23 = .ok (.if_icmp .eq 10, 3) := by decide +kernel
theorem dX1_lyingOn_26 : decode cX1_lyingOn 26 = .ok (.iload_n 3, 1) := by decide +kernel
theorem dX1_lyingOn_27 : decode cX1_lyingOn 27 = .ok (.iconst 1, 1) := by decide +kernel
theorem dX1_lyingOn_28 : decode cX1_lyingOn 28 = .ok (.iload 4, 2) := by decide +kernel
theorem dX1_lyingOn_30 : decode cX1_lyingOn 30 = .ok (.ishl, 1) := by decide +kernel
theorem dX1_lyingOn_31 : decode cX1_lyingOn 31 = .ok (.ior, 1) := by decide +kernel
theorem dX1_lyingOn_32 : decode cX1_lyingOn 32 = .ok (.istore_n 3, 1) := by decide +kernel
theorem dX1_lyingOn_33 : decode cX1_lyingOn 33 = .ok (.iinc 4 1, 3) := by decide +kernel
theorem dX1_lyingOn_36 : decode cX1_lyingOn 36 = .ok (.goto (-31), 3) := by decide +kernel
theorem dX1_lyingOn_39 : decode cX1_lyingOn 39 = .ok (.iload_n 3, 1) := by decide +kernel
theorem dX1_lyingOn_40 : decode cX1_lyingOn 40 = .ok (.ireturn, 1) := by decide +kernel
theorem dX1_pairsLying_0 : decode cX1_pairsLying 0 = .ok (.iconst 0, 1) := by decide +kernel
theorem dX1_pairsLying_1 : decode cX1_pairsLying 1 = .ok (.istore_n 2, 1) := by decide +kernel
theorem dX1_pairsLying_2 : decode cX1_pairsLying 2 = .ok (.iconst 0, 1) := by decide +kernel
theorem dX1_pairsLying_3 : decode cX1_pairsLying 3 = .ok (.istore_n 3, 1) := by decide +kernel
theorem dX1_pairsLying_4 : decode cX1_pairsLying 4 = .ok (.iload_n 3, 1) := by decide +kernel
theorem dX1_pairsLying_5 : decode cX1_pairsLying 5 = .ok (.aload_n 0, 1) := by decide +kernel
theorem dX1_pairsLying_6 : decode cX1_pairsLying 6 = .ok (.getfield 20, 3) := by decide +kernel
theorem dX1_pairsLying_9 : decode cX1_pairsLying 9 = .ok (.if_icmp .ge 21, 3) := by decide +kernel
theorem dX1_pairsLying_12 : decode cX1_pairsLying 12 = .ok (.iload_n 2, 1) := by decide +kernel
theorem dX1_pairsLying_13 : decode cX1_pairsLying 13 = .ok (.aload_n 0, 1) := by decide +kernel
theorem dX1_pairsLying_14 : decode cX1_pairsLying 14 = .ok (.iload_n 3, 1) := by decide +kernel
theorem dX1_pairsLying_15 : decode cX1_pairsLying 15 = .ok (.iload_n 1, 1) := by decide +kernel
theorem dX1_pairsLying_16 : decode cX1_pairsLying 16 = .ok (.invokevirtual 60, 3) := by decide +kernel
theorem dX1_pairsLying_19 : decode cX1_pairsLying 19 = .ok (.invokestatic 63, 3) := by decide +kernel
theorem dX1_pairsLying_22 : decode cX1_pairsLying 22 = .ok (.iadd, 1) := by decide +kernel
theorem dX1_pairsLying_23 : decode cX1_pairsLying 23 = .ok (.istore_n 2, 1) := by decide +kernel
theorem dX1_pairsLying_24 : decode cX1_pairsLying 24 = .ok (.iinc 3 1, 3) := by decide +kernel
theorem dX1_pairsLying_27 : decode cX1_pairsLying 27 = .ok (.goto (-23), 3) := by decide +kernel
theorem dX1_pairsLying_30 : decode cX1_pairsLying 30 = .ok (.iload_n 2, 1) := by decide +kernel
theorem dX1_pairsLying_31 : decode cX1_pairsLying 31 = .ok (.ireturn, 1) := by decide +kernel
theorem dX1_meanHeight_0 : decode cX1_meanHeight 0 = .ok (.iconst 0, 1) := by decide +kernel
theorem dX1_meanHeight_1 : decode cX1_meanHeight 1 = .ok (.istore_n 1, 1) := by decide +kernel
theorem dX1_meanHeight_2 : decode cX1_meanHeight 2 = .ok (.iconst 0, 1) := by decide +kernel
theorem dX1_meanHeight_3 : decode cX1_meanHeight 3 = .ok (.istore_n 2, 1) := by decide +kernel
theorem dX1_meanHeight_4 : decode cX1_meanHeight 4 = .ok (.iload_n 2, 1) := by decide +kernel
theorem dX1_meanHeight_5 : decode cX1_meanHeight 5 = .ok (.aload_n 0, 1) := by decide +kernel
theorem dX1_meanHeight_6 : decode cX1_meanHeight 6 = .ok (.getfield 20, 3) := by decide +kernel
theorem dX1_meanHeight_9 : decode cX1_meanHeight 9 = .ok (.if_icmp .ge 20, 3) := by decide +kernel
theorem dX1_meanHeight_12 : decode cX1_meanHeight 12 = .ok (.iload_n 1, 1) := by decide +kernel
theorem dX1_meanHeight_13 : decode cX1_meanHeight 13 = .ok (.aload_n 0, 1) := by decide +kernel
theorem dX1_meanHeight_14 : decode cX1_meanHeight 14 = .ok (.getfield 13, 3) := by decide +kernel
theorem dX1_meanHeight_17 : decode cX1_meanHeight 17 = .ok (.iload_n 2, 1) := by decide +kernel
theorem dX1_meanHeight_18 : decode cX1_meanHeight 18 = .ok (.aaload, 1) := by decide +kernel
theorem dX1_meanHeight_19 : decode cX1_meanHeight 19 = .ok (.iconst 3, 1) := by decide +kernel
theorem dX1_meanHeight_20 : decode cX1_meanHeight 20 = .ok (.iaload, 1) := by decide +kernel
theorem dX1_meanHeight_21 : decode cX1_meanHeight 21 = .ok (.iadd, 1) := by decide +kernel
theorem dX1_meanHeight_22 : decode cX1_meanHeight 22 = .ok (.istore_n 1, 1) := by decide +kernel
theorem dX1_meanHeight_23 : decode cX1_meanHeight 23 = .ok (.iinc 2 1, 3) := by decide +kernel
theorem dX1_meanHeight_26 : decode cX1_meanHeight 26 = .ok (.goto (-22), 3) := by decide +kernel
theorem dX1_meanHeight_29 : decode cX1_meanHeight 29 = .ok (.aload_n 0, 1) := by decide +kernel
theorem dX1_meanHeight_30 : decode cX1_meanHeight 30 = .ok (.getfield 20, 3) := by decide +kernel
theorem dX1_meanHeight_33 : decode cX1_meanHeight 33 = .ok (.ifCond .ne 7, 3) := by decide +kernel
theorem dX1_meanHeight_36 : decode cX1_meanHeight 36 = .ok (.iconst 0, 1) := by decide +kernel
theorem dX1_meanHeight_37 : decode cX1_meanHeight 37 = .ok (.goto 9, 3) := by decide +kernel
theorem dX1_meanHeight_40 : decode cX1_meanHeight 40 = .ok (.iload_n 1, 1) := by decide +kernel
theorem dX1_meanHeight_41 : decode cX1_meanHeight 41 = .ok (.aload_n 0, 1) := by decide +kernel
theorem dX1_meanHeight_42 : decode cX1_meanHeight 42 = .ok (.getfield 20, 3) := by decide +kernel
theorem dX1_meanHeight_45 : decode cX1_meanHeight 45 = .ok (.idiv, 1) := by decide +kernel
theorem dX1_meanHeight_46 : decode cX1_meanHeight 46 = .ok (.ireturn, 1) := by decide +kernel
theorem dX1_areAlike_0 : decode cX1_areAlike 0 = .ok (.iload_n 0, 1) := by decide +kernel
theorem dX1_areAlike_1 : decode cX1_areAlike 1 = .ok (.ifCond .eq 12, 3) := by decide +kernel
theorem dX1_areAlike_4 : decode cX1_areAlike 4 = .ok (.iload_n 1, 1) := by decide +kernel
theorem dX1_areAlike_5 : decode cX1_areAlike 5 = .ok (.ifCond .eq 8, 3) := by decide +kernel
theorem dX1_areAlike_8 : decode cX1_areAlike 8 = .ok (.iload_n 0, 1) := by decide +kernel
theorem dX1_areAlike_9 : decode cX1_areAlike 9 = .ok (.iload_n 1, 1) := by decide +kernel
theorem dX1_areAlike_10 : decode cX1_areAlike 10 = .ok (.if_icmp .ne 7, 3) := by decide +kernel
theorem dX1_areAlike_13 : decode cX1_areAlike 13 = .ok (.iconst 1, 1) := by decide +kernel
theorem dX1_areAlike_14 : decode cX1_areAlike 14 = .ok (.goto 4, 3) := by decide +kernel
theorem dX1_areAlike_17 : decode cX1_areAlike 17 = .ok (.iconst 0, 1) := by decide +kernel
theorem dX1_areAlike_18 : decode cX1_areAlike 18 = .ok (.ireturn, 1) := by decide +kernel
theorem dX1_leastTurn_0 : decode cX1_leastTurn 0 = .ok (.iload_n 0, 1) := by decide +kernel
theorem dX1_leastTurn_1 : decode cX1_leastTurn 1 = .ok (.ifCond .eq 7, 3) := by decide +kernel
theorem dX1_leastTurn_4 : decode cX1_leastTurn 4 = .ok (.iload_n 1, 1) := by decide +kernel
theorem dX1_leastTurn_5 : decode cX1_leastTurn 5 = .ok (.ifCond .ne 5, 3) := by decide +kernel
theorem dX1_leastTurn_8 : decode cX1_leastTurn 8 = .ok (.iconst 0, 1) := by decide +kernel
theorem dX1_leastTurn_9 : decode cX1_leastTurn 9 = .ok (.ireturn, 1) := by decide +kernel
theorem dX1_leastTurn_10 : decode cX1_leastTurn 10 = .ok (.iconst 0, 1) := by decide +kernel
theorem dX1_leastTurn_11 : decode cX1_leastTurn 11 = .ok (.istore_n 2, 1) := by decide +kernel
theorem dX1_leastTurn_12 : decode cX1_leastTurn 12 = .ok (.iload_n 2, 1) := by decide +kernel
theorem dX1_leastTurn_13 : decode cX1_leastTurn 13 = .ok (.bipush 16, 2) := by decide +kernel
theorem dX1_leastTurn_15 : decode cX1_leastTurn 15 = .ok (.if_icmp .ge 20, 3) := by decide +kernel
theorem dX1_leastTurn_18 : decode cX1_leastTurn 18 = .ok (.iload_n 0, 1) := by decide +kernel
theorem dX1_leastTurn_19 : decode cX1_leastTurn 19 = .ok (.iload_n 2, 1) := by decide +kernel
theorem dX1_leastTurn_20 : decode cX1_leastTurn 20 = .ok (.invokestatic 68, 3) := by decide +kernel
theorem dX1_leastTurn_23 : decode cX1_leastTurn 23 = .ok (.iload_n 1, 1) := by decide +kernel
theorem dX1_leastTurn_24 : decode cX1_leastTurn 24 = .ok (.if_icmp .ne 5, 3) := by decide +kernel
theorem dX1_leastTurn_27 : decode cX1_leastTurn 27 = .ok (.iload_n 2, 1) := by decide +kernel
theorem dX1_leastTurn_28 : decode cX1_leastTurn 28 = .ok (.ireturn, 1) := by decide +kernel
theorem dX1_leastTurn_29 : decode cX1_leastTurn 29 = .ok (.iinc 2 1, 3) := by decide +kernel
theorem dX1_leastTurn_32 : decode cX1_leastTurn 32 = .ok (.goto (-20), 3) := by decide +kernel
theorem dX1_leastTurn_35 : decode cX1_leastTurn 35 = .ok (.iconst (-1), 1) := by decide +kernel
theorem dX1_leastTurn_36 : decode cX1_leastTurn 36 = .ok (.ireturn, 1) := by decide +kernel
theorem dX1_turned_0 : decode cX1_turned 0 = .ok (.iload_n 0, 1) := by decide +kernel
theorem dX1_turned_1 : decode cX1_turned 1 = .ok (.iload_n 1, 1) := by decide +kernel
theorem dX1_turned_2 : decode cX1_turned 2 = .ok (.ishl, 1) := by decide +kernel
theorem dX1_turned_3 : decode cX1_turned 3 = .ok (.istore_n 2, 1) := by decide +kernel
theorem dX1_turned_4 : decode cX1_turned 4 = .ok (.iload_n 2, 1) := by decide +kernel
theorem dX1_turned_5 : decode cX1_turned 5 = .ok (.iload_n 2, 1) := by decide +kernel
theorem dX1_turned_6 : decode cX1_turned 6 = .ok (.bipush 16, 2) := by decide +kernel
theorem dX1_turned_8 : decode cX1_turned 8 = .ok (.ishr, 1) := by decide +kernel
theorem dX1_turned_9 : decode cX1_turned 9 = .ok (.ior, 1) := by decide +kernel
theorem dX1_turned_10 : decode cX1_turned 10 = .ok (.ldc 71, 2) := by decide +kernel
theorem dX1_turned_12 : decode cX1_turned 12 = .ok (.iand, 1) := by decide +kernel
theorem dX1_turned_13 : decode cX1_turned 13 = .ok (.ireturn, 1) := by decide +kernel
theorem dX3_init_0 : decode cX3_init 0 = .ok (.aload_n 0, 1) := by decide +kernel
theorem dX3_init_1 : decode cX3_init 1 = .ok (.invokespecial 3, 3) := by decide +kernel
theorem dX3_init_4 : decode cX3_init 4 = .ok (.aload_n 0, 1) := by decide +kernel
theorem dX3_init_5 : decode cX3_init 5 = .ok (.bipush 8, 2) := by decide +kernel
theorem dX3_init_7 : decode cX3_init 7 = .ok (.newarray .int, 2) := by decide +kernel
theorem dX3_init_9 : decode cX3_init 9 = .ok (.putfield 9, 3) := by decide +kernel
theorem dX3_init_12 : decode cX3_init 12 = .ok (.aload_n 0, 1) := by decide +kernel
theorem dX3_init_13 : decode cX3_init 13 = .ok (.bipush 8, 2) := by decide +kernel
theorem dX3_init_15 : decode cX3_init 15 = .ok (.newarray .int, 2) := by decide +kernel
theorem dX3_init_17 : decode cX3_init 17 = .ok (.putfield 15, 3) := by decide +kernel
theorem dX3_init_20 : decode cX3_init 20 = .ok (.iconst 0, 1) := by decide +kernel
theorem dX3_init_21 : decode cX3_init 21 = .ok (.istore_n 1, 1) := by decide +kernel
theorem dX3_init_22 : decode cX3_init 22 = .ok (.iload_n 1, 1) := by decide +kernel
theorem dX3_init_23 : decode cX3_init 23 = .ok (.bipush 8, 2) := by decide +kernel
theorem dX3_init_25 : decode cX3_init 25 = .ok (.if_icmp .ge 16, 3) := by decide +kernel
theorem dX3_init_28 : decode cX3_init 28 = .ok (.aload_n 0, 1) := by decide +kernel
theorem dX3_init_29 : decode cX3_init 29 = .ok (.getfield 9, 3) := by decide +kernel
theorem dX3_init_32 : decode cX3_init 32 = .ok (.iload_n 1, 1) := by decide +kernel
theorem dX3_init_33 : decode cX3_init 33 = .ok (.iconst (-1), 1) := by decide +kernel
theorem dX3_init_34 : decode cX3_init 34 = .ok (.iastore, 1) := by decide +kernel
theorem dX3_init_35 : decode cX3_init 35 = .ok (.iinc 1 1, 3) := by decide +kernel
theorem dX3_init_38 : decode cX3_init 38 = .ok (.goto (-16), 3) := by decide +kernel
theorem dX3_init_41 : decode cX3_init 41 = .ok (.return_, 1) := by decide +kernel
theorem dX3_tell_0 : decode cX3_tell 0 = .ok (.iload_n 1, 1) := by decide +kernel
theorem dX3_tell_1 : decode cX3_tell 1 = .ok (.invokestatic 18, 3) := by decide +kernel
theorem dX3_tell_4 : decode cX3_tell 4 = .ok (.ifCond .eq 10, 3) := by decide +kernel
theorem dX3_tell_7 : decode cX3_tell 7 = .ok (.aload_n 0, 1) := by decide +kernel
theorem dX3_tell_8 : decode cX3_tell 8 = .ok (.getfield 9, 3) := by decide +kernel
theorem dX3_tell_11 : decode cX3_tell 11 = .ok (.iload_n 1, 1) := by decide +kernel
theorem dX3_tell_12 : decode cX3_tell 12 = .ok (.iload_n 2, 1) := by decide +kernel
theorem dX3_tell_13 : decode cX3_tell 13 = .ok (.iastore, 1) := by decide +kernel
theorem dX3_tell_14 : decode cX3_tell 14 = .ok (.return_, 1) := by decide +kernel
theorem dX3_toldOf_0 : decode cX3_toldOf 0 = .ok (.iload_n 1, 1) := by decide +kernel
theorem dX3_toldOf_1 : decode cX3_toldOf 1 = .ok (.invokestatic 18, 3) := by decide +kernel
theorem dX3_toldOf_4 : decode cX3_toldOf 4 = .ok (.ifCond .eq 12, 3) := by decide +kernel
theorem dX3_toldOf_7 : decode cX3_toldOf 7 = .ok (.aload_n 0, 1) := by decide +kernel
theorem dX3_toldOf_8 : decode cX3_toldOf 8 = .ok (.getfield 9, 3) := by decide +kernel
theorem dX3_toldOf_11 : decode cX3_toldOf 11 = .ok (.iload_n 1, 1) := by decide +kernel
theorem dX3_toldOf_12 : decode cX3_toldOf 12 = .ok (.iaload, 1) := by decide +kernel
theorem dX3_toldOf_13 : decode cX3_toldOf 13 = .ok (.goto 4, 3) := by decide +kernel
theorem dX3_toldOf_16 : decode cX3_toldOf 16 = .ok (.iconst (-1), 1) := by decide +kernel
theorem dX3_toldOf_17 : decode cX3_toldOf 17 = .ok (.ireturn, 1) := by decide +kernel
theorem dX3_toldNumber_0 : decode cX3_toldNumber 0 = .ok (.iconst 0, 1) := by decide +kernel
theorem dX3_toldNumber_1 : decode cX3_toldNumber 1 = .ok (.istore_n 1, 1) := by decide +kernel
theorem dX3_toldNumber_2 : decode cX3_toldNumber 2 = .ok (.iconst 0, 1) := by decide +kernel
theorem dX3_toldNumber_3 : decode cX3_toldNumber 3 = .ok (.istore_n 2, 1) := by decide +kernel
theorem dX3_toldNumber_4 : decode cX3_toldNumber 4 = .ok (.iload_n 2, 1) := by decide +kernel
theorem dX3_toldNumber_5 : decode cX3_toldNumber 5 = .ok (.bipush 8, 2) := by decide +kernel
theorem dX3_toldNumber_7 : decode cX3_toldNumber 7 = .ok (.if_icmp .ge 22, 3) := by decide +kernel
theorem dX3_toldNumber_10 : decode cX3_toldNumber 10 = .ok (.aload_n 0, 1) := by decide +kernel
theorem dX3_toldNumber_11 : decode cX3_toldNumber 11 = .ok (.getfield 9, 3) := by decide +kernel
theorem dX3_toldNumber_14 : decode cX3_toldNumber 14 = .ok (.iload_n 2, 1) := by decide +kernel
theorem dX3_toldNumber_15 : decode cX3_toldNumber 15 = .ok (.iaload, 1) := by decide +kernel
theorem dX3_toldNumber_16 : decode cX3_toldNumber 16 = .ok (.iconst (-1), 1) := by decide +kernel
theorem dX3_toldNumber_17 : decode cX3_toldNumber 17 = .ok (.if_icmp .eq 6, 3) := by decide +kernel
theorem dX3_toldNumber_20 : decode cX3_toldNumber 20 = .ok (.iinc 1 1, 3) := by decide +kernel
theorem dX3_toldNumber_23 : decode cX3_toldNumber 23 = .ok (.iinc 2 1, 3) := by decide +kernel
theorem dX3_toldNumber_26 : decode cX3_toldNumber 26 = .ok (.goto (-22), 3) := by decide +kernel
theorem dX3_toldNumber_29 : decode cX3_toldNumber 29 = .ok (.iload_n 1, 1) := by decide +kernel
theorem dX3_toldNumber_30 : decode cX3_toldNumber 30 = .ok (.ireturn, 1) := by decide +kernel
theorem dX3_bar_0 : decode cX3_bar 0 = .ok (.iload_n 1, 1) := by decide +kernel
theorem dX3_bar_1 : decode cX3_bar 1 = .ok (.invokestatic 18, 3) := by decide +kernel
theorem dX3_bar_4 : decode cX3_bar 4 = .ok (.ifCond .eq 38, 3) := by decide +kernel
theorem dX3_bar_7 : decode cX3_bar 7 = .ok (.aload_n 0, 1) := by decide +kernel
theorem dX3_bar_8 : decode cX3_bar 8 = .ok (.getfield 15, 3) := by decide +kernel
theorem dX3_bar_11 : decode cX3_bar 11 = .ok (.iload_n 1, 1) := by decide +kernel
theorem dX3_bar_12 : decode cX3_bar 12 = .ok (.iaload, 1) := by decide +kernel
theorem dX3_bar_13 : decode cX3_bar 13 = .ok (.iconst 1, 1) := by decide +kernel
theorem dX3_bar_14 : decode cX3_bar 14 = .ok (.iload_n 2, 1) := by decide +kernel
theorem dX3_bar_15 : decode cX3_bar 15 = .ok (.ishl, 1) := by decide +kernel
theorem dX3_bar_16 : decode cX3_bar 16 = .ok (.iconst (-1), 1) := by decide +kernel
theorem dX3_bar_17 : decode cX3_bar 17 = .ok (.ixor, 1) := by decide +kernel
theorem dX3_bar_18 : decode cX3_bar 18 = .ok (.iand, 1) := by decide +kernel
theorem dX3_bar_19 : decode cX3_bar 19 = .ok (.istore 4, 2) := by decide +kernel
theorem dX3_bar_21 : decode cX3_bar 21 = .ok (.aload_n 0, 1) := by decide +kernel
theorem dX3_bar_22 : decode cX3_bar 22 = .ok (.getfield 15, 3) := by decide +kernel
theorem dX3_bar_25 : decode cX3_bar 25 = .ok (.iload_n 1, 1) := by decide +kernel
theorem dX3_bar_26 : decode cX3_bar 26 = .ok (.iload_n 3, 1) := by decide +kernel
theorem dX3_bar_27 : decode cX3_bar 27 = .ok (.ifCond .eq 12, 3) := by decide +kernel
theorem dX3_bar_30 : decode cX3_bar 30 = .ok (.iload 4, 2) := by decide +kernel
theorem dX3_bar_32 : decode cX3_bar 32 = .ok (.iconst 1, 1) := by decide +kernel
theorem dX3_bar_33 : decode cX3_bar 33 = .ok (.iload_n 2, 1) := by decide +kernel
theorem dX3_bar_34 : decode cX3_bar 34 = .ok (.ishl, 1) := by decide +kernel
theorem dX3_bar_35 : decode cX3_bar 35 = .ok (.ior, 1) := by decide +kernel
theorem dX3_bar_36 : decode cX3_bar 36 = .ok (.goto 5, 3) := by decide +kernel
theorem dX3_bar_39 : decode cX3_bar 39 = .ok (.iload 4, 2) := by decide +kernel
theorem dX3_bar_41 : decode cX3_bar 41 = .ok (.iastore, 1) := by decide +kernel
theorem dX3_bar_42 : decode cX3_bar 42 = .ok (.return_, 1) := by decide +kernel
theorem dX3_isBarred_0 : decode cX3_isBarred 0 = .ok (.iload_n 1, 1) := by decide +kernel
theorem dX3_isBarred_1 : decode cX3_isBarred 1 = .ok (.invokestatic 18, 3) := by decide +kernel
theorem dX3_isBarred_4 : decode cX3_isBarred 4 = .ok (.ifCond .eq 20, 3) := by decide +kernel
theorem dX3_isBarred_7 : decode cX3_isBarred 7 = .ok (.aload_n 0, 1) := by decide +kernel
theorem dX3_isBarred_8 : decode cX3_isBarred 8 = .ok (.getfield 15, 3) := by decide +kernel
theorem dX3_isBarred_11 : decode cX3_isBarred 11 = .ok (.iload_n 1, 1) := by decide +kernel
theorem dX3_isBarred_12 : decode cX3_isBarred 12 = .ok (.iaload, 1) := by decide +kernel
theorem dX3_isBarred_13 : decode cX3_isBarred 13 = .ok (.iload_n 2, 1) := by decide +kernel
theorem dX3_isBarred_14 : decode cX3_isBarred 14 = .ok (.invokestatic 22, 3) := by decide +kernel
theorem dX3_isBarred_17 : decode cX3_isBarred 17 = .ok (.ifCond .eq 7, 3) := by decide +kernel
theorem dX3_isBarred_20 : decode cX3_isBarred 20 = .ok (.iconst 1, 1) := by decide +kernel
theorem dX3_isBarred_21 : decode cX3_isBarred 21 = .ok (.goto 4, 3) := by decide +kernel
theorem dX3_isBarred_24 : decode cX3_isBarred 24 = .ok (.iconst 0, 1) := by decide +kernel
theorem dX3_isBarred_25 : decode cX3_isBarred 25 = .ok (.ireturn, 1) := by decide +kernel
theorem dX3_isRow_0 : decode cX3_isRow 0 = .ok (.iload_n 0, 1) := by decide +kernel
theorem dX3_isRow_1 : decode cX3_isRow 1 = .ok (.ifCond .lt 13, 3) := by decide +kernel
theorem dX3_isRow_4 : decode cX3_isRow 4 = .ok (.iload_n 0, 1) := by decide +kernel
theorem dX3_isRow_5 : decode cX3_isRow 5 = .ok (.bipush 8, 2) := by decide +kernel
theorem dX3_isRow_7 : decode cX3_isRow 7 = .ok (.if_icmp .ge 7, 3) := by decide +kernel
theorem dX3_isRow_10 : decode cX3_isRow 10 = .ok (.iconst 1, 1) := by decide +kernel
theorem dX3_isRow_11 : decode cX3_isRow 11 = .ok (.goto 4, 3) := by decide +kernel
theorem dX3_isRow_14 : decode cX3_isRow 14 = .ok (.iconst 0, 1) := by decide +kernel
theorem dX3_isRow_15 : decode cX3_isRow 15 = .ok (.ireturn, 1) := by decide +kernel
theorem dJ6_bitCount_0f7a4_0 : decode cJ6_bitCount_0f7a4 0 = .ok (.iload_n 0, 1) := by decide +kernel
theorem dJ6_bitCount_0f7a4_1 : decode cJ6_bitCount_0f7a4 1 = .ok (.iload_n 0, 1) := by decide +kernel
theorem dJ6_bitCount_0f7a4_2 : decode cJ6_bitCount_0f7a4 2 = .ok (.iconst 1, 1) := by decide +kernel
theorem dJ6_bitCount_0f7a4_3 : decode cJ6_bitCount_0f7a4 3 = .ok (.iushr, 1) := by decide +kernel
theorem dJ6_bitCount_0f7a4_4 : decode cJ6_bitCount_0f7a4 4 = .ok (.ldc_w 265, 3) := by decide +kernel
theorem dJ6_bitCount_0f7a4_7 : decode cJ6_bitCount_0f7a4 7 = .ok (.iand, 1) := by decide +kernel
theorem dJ6_bitCount_0f7a4_8 : decode cJ6_bitCount_0f7a4 8 = .ok (.isub, 1) := by decide +kernel
theorem dJ6_bitCount_0f7a4_9 : decode cJ6_bitCount_0f7a4 9 = .ok (.istore_n 0, 1) := by decide +kernel
theorem dJ6_bitCount_0f7a4_10 : decode cJ6_bitCount_0f7a4 10 = .ok (.iload_n 0, 1) := by decide +kernel
theorem dJ6_bitCount_0f7a4_11 : decode cJ6_bitCount_0f7a4 11 = .ok (.ldc_w 266, 3) := by decide +kernel
theorem dJ6_bitCount_0f7a4_14 : decode cJ6_bitCount_0f7a4 14 = .ok (.iand, 1) := by decide +kernel
theorem dJ6_bitCount_0f7a4_15 : decode cJ6_bitCount_0f7a4 15 = .ok (.iload_n 0, 1) := by decide +kernel
theorem dJ6_bitCount_0f7a4_16 : decode cJ6_bitCount_0f7a4 16 = .ok (.iconst 2, 1) := by decide +kernel
theorem dJ6_bitCount_0f7a4_17 : decode cJ6_bitCount_0f7a4 17 = .ok (.iushr, 1) := by decide +kernel
theorem dJ6_bitCount_0f7a4_18 : decode cJ6_bitCount_0f7a4 18 = .ok (.ldc_w 266, 3) := by decide +kernel
theorem dJ6_bitCount_0f7a4_21 : decode cJ6_bitCount_0f7a4 21 = .ok (.iand, 1) := by decide +kernel
theorem dJ6_bitCount_0f7a4_22 : decode cJ6_bitCount_0f7a4 22 = .ok (.iadd, 1) := by decide +kernel
theorem dJ6_bitCount_0f7a4_23 : decode cJ6_bitCount_0f7a4 23 = .ok (.istore_n 0, 1) := by decide +kernel
theorem dJ6_bitCount_0f7a4_24 : decode cJ6_bitCount_0f7a4 24 = .ok (.iload_n 0, 1) := by decide +kernel
theorem dJ6_bitCount_0f7a4_25 : decode cJ6_bitCount_0f7a4 25 = .ok (.iload_n 0, 1) := by decide +kernel
theorem dJ6_bitCount_0f7a4_26 : decode cJ6_bitCount_0f7a4 26 = .ok (.iconst 4, 1) := by decide +kernel
theorem dJ6_bitCount_0f7a4_27 : decode cJ6_bitCount_0f7a4 27 = .ok (.iushr, 1) := by decide +kernel
theorem dJ6_bitCount_0f7a4_28 : decode cJ6_bitCount_0f7a4 28 = .ok (.iadd, 1) := by decide +kernel
theorem dJ6_bitCount_0f7a4_29 : decode cJ6_bitCount_0f7a4 29 = .ok (.ldc_w 267, 3) := by decide +kernel
theorem dJ6_bitCount_0f7a4_32 : decode cJ6_bitCount_0f7a4 32 = .ok (.iand, 1) := by decide +kernel
theorem dJ6_bitCount_0f7a4_33 : decode cJ6_bitCount_0f7a4 33 = .ok (.istore_n 0, 1) := by decide +kernel
theorem dJ6_bitCount_0f7a4_34 : decode cJ6_bitCount_0f7a4 34 = .ok (.iload_n 0, 1) := by decide +kernel
theorem dJ6_bitCount_0f7a4_35 : decode cJ6_bitCount_0f7a4 35 = .ok (.iload_n 0, 1) := by decide +kernel
theorem dJ6_bitCount_0f7a4_36 : decode cJ6_bitCount_0f7a4 36 = .ok (.bipush 8, 2) := by decide +kernel
theorem dJ6_bitCount_0f7a4_38 : decode cJ6_bitCount_0f7a4 38 = .ok (.iushr, 1) := by decide +kernel
theorem dJ6_bitCount_0f7a4_39 : decode cJ6_bitCount_0f7a4 39 = .ok (.iadd, 1) := by decide +kernel
theorem dJ6_bitCount_0f7a4_40 : decode cJ6_bitCount_0f7a4 40 = .ok (.istore_n 0, 1) := by decide +kernel
theorem dJ6_bitCount_0f7a4_41 : decode cJ6_bitCount_0f7a4 41 = .ok (.iload_n 0, 1) := by decide +kernel
theorem dJ6_bitCount_0f7a4_42 : decode cJ6_bitCount_0f7a4 42 = .ok (.iload_n 0, 1) := by decide +kernel
theorem dJ6_bitCount_0f7a4_43 : decode cJ6_bitCount_0f7a4 43 = .ok (.bipush 16, 2) := by decide +kernel
theorem dJ6_bitCount_0f7a4_45 : decode cJ6_bitCount_0f7a4 45 = .ok (.iushr, 1) := by decide +kernel
theorem dJ6_bitCount_0f7a4_46 : decode cJ6_bitCount_0f7a4 46 = .ok (.iadd, 1) := by decide +kernel
theorem dJ6_bitCount_0f7a4_47 : decode cJ6_bitCount_0f7a4 47 = .ok (.istore_n 0, 1) := by decide +kernel
theorem dJ6_bitCount_0f7a4_48 : decode cJ6_bitCount_0f7a4 48 = .ok (.iload_n 0, 1) := by decide +kernel
theorem dJ6_bitCount_0f7a4_49 : decode cJ6_bitCount_0f7a4 49 = .ok (.bipush 63, 2) := by decide +kernel
theorem dJ6_bitCount_0f7a4_51 : decode cJ6_bitCount_0f7a4 51 = .ok (.iand, 1) := by decide +kernel
theorem dJ6_bitCount_0f7a4_52 : decode cJ6_bitCount_0f7a4 52 = .ok (.ireturn, 1) := by decide +kernel
theorem dJ9_abs_0f7a4_0 : decode cJ9_abs_0f7a4 0 = .ok (.iload_n 0, 1) := by decide +kernel
theorem dJ9_abs_0f7a4_1 : decode cJ9_abs_0f7a4 1 = .ok (.ifCond .ge 8, 3) := by decide +kernel
theorem dJ9_abs_0f7a4_4 : decode cJ9_abs_0f7a4 4 = .ok (.iload_n 0, 1) := by decide +kernel
theorem dJ9_abs_0f7a4_5 : decode cJ9_abs_0f7a4 5 = .ok (.ineg, 1) := by decide +kernel
theorem dJ9_abs_0f7a4_6 : decode cJ9_abs_0f7a4 6 = .ok (.goto 4, 3) := by decide +kernel
theorem dJ9_abs_0f7a4_9 : decode cJ9_abs_0f7a4 9 = .ok (.iload_n 0, 1) := by decide +kernel
theorem dJ9_abs_0f7a4_10 : decode cJ9_abs_0f7a4 10 = .ok (.ireturn, 1) := by decide +kernel
theorem dJ9_max_7cf53_0 : decode cJ9_max_7cf53 0 = .ok (.iload_n 0, 1) := by decide +kernel
theorem dJ9_max_7cf53_1 : decode cJ9_max_7cf53 1 = .ok (.iload_n 1, 1) := by decide +kernel
theorem dJ9_max_7cf53_2 : decode cJ9_max_7cf53 2 = .ok (.if_icmp .lt 7, 3) := by decide +kernel
theorem dJ9_max_7cf53_5 : decode cJ9_max_7cf53 5 = .ok (.iload_n 0, 1) := by decide +kernel
theorem dJ9_max_7cf53_6 : decode cJ9_max_7cf53 6 = .ok (.goto 4, 3) := by decide +kernel
theorem dJ9_max_7cf53_9 : decode cJ9_max_7cf53 9 = .ok (.iload_n 1, 1) := by decide +kernel
theorem dJ9_max_7cf53_10 : decode cJ9_max_7cf53 10 = .ok (.ireturn, 1) := by decide +kernel
theorem dJ9_min_7cf53_0 : decode cJ9_min_7cf53 0 = .ok (.iload_n 0, 1) := by decide +kernel
theorem dJ9_min_7cf53_1 : decode cJ9_min_7cf53 1 = .ok (.iload_n 1, 1) := by decide +kernel
theorem dJ9_min_7cf53_2 : decode cJ9_min_7cf53 2 = .ok (.if_icmp .gt 7, 3) := by decide +kernel
theorem dJ9_min_7cf53_5 : decode cJ9_min_7cf53 5 = .ok (.iload_n 0, 1) := by decide +kernel
theorem dJ9_min_7cf53_6 : decode cJ9_min_7cf53 6 = .ok (.goto 4, 3) := by decide +kernel
theorem dJ9_min_7cf53_9 : decode cJ9_min_7cf53 9 = .ok (.iload_n 1, 1) := by decide +kernel
theorem dJ9_min_7cf53_10 : decode cJ9_min_7cf53 10 = .ok (.ireturn, 1) := by decide +kernel
end
section
theorem dX2_init_0 : decode cX2_init 0 = .ok (.aload_n 0, 1) := by decide +kernel
theorem dX2_init_1 : decode cX2_init 1 = .ok (.invokespecial 5, 3) := by decide +kernel
theorem dX2_init_4 : decode cX2_init 4 = .ok (.aload_n 0, 1) := by decide +kernel
theorem dX2_init_5 : decode cX2_init 5 = .ok (.bipush 8, 2) := by decide +kernel
theorem dX2_init_7 : decode cX2_init 7 = .ok (.newarray .int, 2) := by decide +kernel
theorem dX2_init_9 : decode cX2_init 9 = .ok (.putfield 11, 3) := by decide +kernel
theorem dX2_init_12 : decode cX2_init 12 = .ok (.aload_n 0, 1) := by decide +kernel
theorem dX2_init_13 : decode cX2_init 13 = .ok (.bipush 8, 2) := by decide +kernel
theorem dX2_init_15 : decode cX2_init 15 = .ok (.newarray .boolean, 2) := by decide +kernel
theorem dX2_init_17 : decode cX2_init 17 = .ok (.putfield 15, 3) := by decide +kernel
theorem dX2_init_20 : decode cX2_init 20 = .ok (.aload_n 0, 1) := by decide +kernel
theorem dX2_init_21 : decode cX2_init 21 = .ok (.bipush 11, 2) := by decide +kernel
theorem dX2_init_23 : decode cX2_init 23 = .ok (.newarray .int, 2) := by decide +kernel
theorem dX2_init_25 : decode cX2_init 25 = .ok (.putfield 19, 3) := by decide +kernel
theorem dX2_init_28 : decode cX2_init 28 = .ok (.aload_n 0, 1) := by decide +kernel
theorem dX2_init_29 : decode cX2_init 29 = .ok (.bipush 8, 2) := by decide +kernel
theorem dX2_init_31 : decode cX2_init 31 = .ok (.newarray .int, 2) := by decide +kernel
theorem dX2_init_33 : decode cX2_init 33 = .ok (.putfield 22, 3) := by decide +kernel
theorem dX2_init_36 : decode cX2_init 36 = .ok (.aload_n 0, 1) := by decide +kernel
theorem dX2_init_37 : decode cX2_init 37 = .ok (.bipush 8, 2) := by decide +kernel
theorem dX2_init_39 : decode cX2_init 39 = .ok (.newarray .int, 2) := by decide +kernel
theorem dX2_init_41 : decode cX2_init 41 = .ok (.putfield 25, 3) := by decide +kernel
theorem dX2_init_44 : decode cX2_init 44 = .ok (.aload_n 0, 1) := by decide +kernel
theorem dX2_init_45 : decode cX2_init 45 = .ok (.bipush 9, 2) := by decide +kernel
theorem dX2_init_47 : decode cX2_init 47 = .ok (.sipush 11264, 3) := by decide +kernel
theorem dX2_init_50 : decode cX2_init 50 = .ok (.multianewarray 28 2, 4) := by decide +kernel
theorem dX2_init_54 : decode cX2_init 54 = .ok (.putfield 30, 3) := by decide +kernel
theorem dX2_init_57 : decode cX2_init 57 = .ok (.aload_n 0, 1) := by decide +kernel
theorem dX2_init_58 : decode cX2_init 58 = .ok (.bipush 9, 2) := by decide +kernel
theorem dX2_init_60 : decode cX2_init 60 = .ok (.sipush 6144, 3) := by decide +kernel
theorem dX2_init_63 : decode cX2_init 63 = .ok (.multianewarray 33 2, 4) := by decide +kernel
theorem dX2_init_67 : decode cX2_init 67 = .ok (.putfield 35, 3) := by decide +kernel
theorem dX2_init_70 : decode cX2_init 70 = .ok (.aload_n 0, 1) := by decide +kernel
theorem dX2_init_71 : decode cX2_init 71 = .ok (.bipush 9, 2) := by decide +kernel
theorem dX2_init_73 : decode cX2_init 73 = .ok (.newarray .int, 2) := by decide +kernel
theorem dX2_init_75 : decode cX2_init 75 = .ok (.putfield 38, 3) := by decide +kernel
theorem dX2_init_78 : decode cX2_init 78 = .ok (.aload_n 0, 1) := by decide +kernel
theorem dX2_init_79 : decode cX2_init 79 = .ok (.bipush 10, 2) := by decide +kernel
theorem dX2_init_81 : decode cX2_init 81 = .ok (.bipush 9, 2) := by decide +kernel
theorem dX2_init_83 : decode cX2_init 83 = .ok (.multianewarray 33 2, 4) := by decide +kernel
theorem dX2_init_87 : decode cX2_init 87 = .ok (.putfield 41, 3) := by decide +kernel
theorem dX2_init_90 : decode cX2_init 90 = .ok (.aload_n 0, 1) := by decide +kernel
theorem dX2_init_91 : decode cX2_init 91 = .ok (.iconst (-1), 1) := by decide +kernel
theorem dX2_init_92 : decode cX2_init 92 = .ok (.putfield 44, 3) := by decide +kernel
theorem dX2_init_95 : decode cX2_init 95 = .ok (.return_, 1) := by decide +kernel
theorem dX2_leastNew_0 : decode cX2_leastNew 0 = .ok (.aload_n 0, 1) := by decide +kernel
theorem dX2_leastNew_1 : decode cX2_leastNew 1 = .ok (.getfield 44, 3) := by decide +kernel
theorem dX2_leastNew_4 : decode cX2_leastNew 4 = .ok (.ireturn, 1) := by decide +kernel
theorem dX2_bestWays_0 : decode cX2_bestWays 0 = .ok (.aload_n 0, 1) := by decide +kernel
theorem dX2_bestWays_1 : decode cX2_bestWays 1 = .ok (.getfield 48, 3) := by decide +kernel
theorem dX2_bestWays_4 : decode cX2_bestWays 4 = .ok (.lreturn, 1) := by decide +kernel
theorem dX2_hasWay_0 : decode cX2_hasWay 0 = .ok (.aload_n 0, 1) := by decide +kernel
theorem dX2_hasWay_1 : decode cX2_hasWay 1 = .ok (.getfield 44, 3) := by decide +kernel
theorem dX2_hasWay_4 : decode cX2_hasWay 4 = .ok (.iconst (-1), 1) := by decide +kernel
theorem dX2_hasWay_5 : decode cX2_hasWay 5 = .ok (.if_icmp .eq 7, 3) := by decide +kernel
theorem dX2_hasWay_8 : decode cX2_hasWay 8 = .ok (.iconst 1, 1) := by decide +kernel
theorem dX2_hasWay_9 : decode cX2_hasWay 9 = .ok (.goto 4, 3) := by decide +kernel
theorem dX2_hasWay_12 : decode cX2_hasWay 12 = .ok (.iconst 0, 1) := by decide +kernel
theorem dX2_hasWay_13 : decode cX2_hasWay 13 = .ok (.ireturn, 1) := by decide +kernel
theorem dX2_firstAt_0 : decode cX2_firstAt 0 = .ok (.aload_n 0, 1) := by decide +kernel
theorem dX2_firstAt_1 : decode cX2_firstAt 1 = .ok (.iload_n 1, 1) := by decide +kernel
theorem dX2_firstAt_2 : decode cX2_firstAt 2 = .ok (.invokevirtual 52, 3) := by decide +kernel
theorem dX2_firstAt_5 : decode cX2_firstAt 5 = .ok (.ifCond .eq 12, 3) := by decide +kernel
theorem dX2_firstAt_8 : decode cX2_firstAt 8 = .ok (.aload_n 0, 1) := by decide +kernel
theorem dX2_firstAt_9 : decode cX2_firstAt 9 = .ok (.getfield 25, 3) := by decide +kernel
theorem dX2_firstAt_12 : decode cX2_firstAt 12 = .ok (.iload_n 1, 1) := by decide +kernel
theorem dX2_firstAt_13 : decode cX2_firstAt 13 = .ok (.iaload, 1) := by decide +kernel
theorem dX2_firstAt_14 : decode cX2_firstAt 14 = .ok (.goto 4, 3) := by decide +kernel
theorem dX2_firstAt_17 : decode cX2_firstAt 17 = .ok (.iconst (-1), 1) := by decide +kernel
theorem dX2_firstAt_18 : decode cX2_firstAt 18 = .ok (.ireturn, 1) := by decide +kernel
theorem dX2_bestHeldAt_0 : decode cX2_bestHeldAt 0 = .ok (.aload_n 0, 1) := by decide +kernel
theorem dX2_bestHeldAt_1 : decode cX2_bestHeldAt 1 = .ok (.iload_n 1, 1) := by decide +kernel
theorem dX2_bestHeldAt_2 : decode cX2_bestHeldAt 2 = .ok (.invokevirtual 52, 3) := by decide +kernel
theorem dX2_bestHeldAt_5 : decode cX2_bestHeldAt 5 = .ok (.ifCond .eq 12, 3) := by decide +kernel
theorem dX2_bestHeldAt_8 : decode cX2_bestHeldAt 8 = .ok (.aload_n 0, 1) := by decide +kernel
theorem dX2_bestHeldAt_9 : decode cX2_bestHeldAt 9 = .ok (.getfield 22, 3) := by decide +kernel
theorem dX2_bestHeldAt_12 : decode cX2_bestHeldAt 12 = .ok (.iload_n 1, 1) := by decide +kernel
theorem dX2_bestHeldAt_13 : decode cX2_bestHeldAt 13 = .ok (.iaload, 1) := by decide +kernel
theorem dX2_bestHeldAt_14 : decode cX2_bestHeldAt 14 = .ok (.goto 4, 3) := by decide +kernel
theorem dX2_bestHeldAt_17 : decode cX2_bestHeldAt 17 = .ok (.iconst 0, 1) := by decide +kernel
theorem dX2_bestHeldAt_18 : decode cX2_bestHeldAt 18 = .ok (.ireturn, 1) := by decide +kernel
theorem dX2_clear_0 : decode cX2_clear 0 = .ok (.iconst 0, 1) := by decide +kernel
theorem dX2_clear_1 : decode cX2_clear 1 = .ok (.istore_n 2, 1) := by decide +kernel
theorem dX2_clear_2 : decode cX2_clear 2 = .ok (.iload_n 2, 1) := by decide +kernel
theorem dX2_clear_3 : decode cX2_clear 3 = .ok (.bipush 8, 2) := by decide +kernel
theorem dX2_clear_5 : decode cX2_clear 5 = .ok (.if_icmp .gt 50, 3) := by decide +kernel
theorem dX2_clear_8 : decode cX2_clear 8 = .ok (.iconst 0, 1) := by decide +kernel
theorem dX2_clear_9 : decode cX2_clear 9 = .ok (.istore_n 3, 1) := by decide +kernel
theorem dX2_clear_10 : decode cX2_clear 10 = .ok (.iload_n 3, 1) := by decide +kernel
theorem dX2_clear_11 : decode cX2_clear 11 = .ok (.aload_n 0, 1) := by decide +kernel
theorem dX2_clear_12 : decode cX2_clear 12 = .ok (.getfield 38, 3) := by decide +kernel
theorem dX2_clear_15 : decode cX2_clear 15 = .ok (.iload_n 2, 1) := by decide +kernel
theorem dX2_clear_16 : decode cX2_clear 16 = .ok (.iaload, 1) := by decide +kernel
theorem dX2_clear_17 : decode cX2_clear 17 = .ok (.if_icmp .ge 25, 3) := by decide +kernel
theorem dX2_clear_20 : decode cX2_clear 20 = .ok (.aload_n 0, 1) := by decide +kernel
theorem dX2_clear_21 : decode cX2_clear 21 = .ok (.getfield 30, 3) := by decide +kernel
theorem dX2_clear_24 : decode cX2_clear 24 = .ok (.iload_n 2, 1) := by decide +kernel
theorem dX2_clear_25 : decode cX2_clear 25 = .ok (.aaload, 1) := by decide +kernel
theorem dX2_clear_26 : decode cX2_clear 26 = .ok (.aload_n 0, 1) := by decide +kernel
theorem dX2_clear_27 : decode cX2_clear 27 = .ok (.getfield 35, 3) := by decide +kernel
theorem dX2_clear_30 : decode cX2_clear 30 = .ok (.iload_n 2, 1) := by decide +kernel
theorem dX2_clear_31 : decode cX2_clear 31 = .ok (.aaload, 1) := by decide +kernel
theorem dX2_clear_32 : decode cX2_clear 32 = .ok (.iload_n 3, 1) := by decide +kernel
theorem dX2_clear_33 : decode cX2_clear 33 = .ok (.iaload, 1) := by decide +kernel
theorem dX2_clear_34 : decode cX2_clear 34 = .ok (.lconst 0, 1) := by decide +kernel
theorem dX2_clear_35 : decode cX2_clear 35 = .ok (.lastore, 1) := by decide +kernel
theorem dX2_clear_36 : decode cX2_clear 36 = .ok (.iinc 3 1, 3) := by decide +kernel
theorem dX2_clear_39 : decode cX2_clear 39 = .ok (.goto (-29), 3) := by decide +kernel
theorem dX2_clear_42 : decode cX2_clear 42 = .ok (.aload_n 0, 1) := by decide +kernel
theorem dX2_clear_43 : decode cX2_clear 43 = .ok (.getfield 38, 3) := by decide +kernel
theorem dX2_clear_46 : decode cX2_clear 46 = .ok (.iload_n 2, 1) := by decide +kernel
theorem dX2_clear_47 : decode cX2_clear 47 = .ok (.iconst 0, 1) := by decide +kernel
theorem dX2_clear_48 : decode cX2_clear 48 = .ok (.iastore, 1) := by decide +kernel
theorem dX2_clear_49 : decode cX2_clear 49 = .ok (.iinc 2 1, 3) := by decide +kernel
theorem dX2_clear_52 : decode cX2_clear 52 = .ok (.goto (-50), 3) := by decide +kernel
theorem dX2_clear_55 : decode cX2_clear 55 = .ok (.iconst 0, 1) := by decide +kernel
theorem dX2_clear_56 : decode cX2_clear 56 = .ok (.istore_n 2, 1) := by decide +kernel
theorem dX2_clear_57 : decode cX2_clear 57 = .ok (.iload_n 2, 1) := by decide +kernel
theorem dX2_clear_58 : decode cX2_clear 58 = .ok (.bipush 11, 2) := by decide +kernel
theorem dX2_clear_60 : decode cX2_clear 60 = .ok (.if_icmp .ge 18, 3) := by decide +kernel
theorem dX2_clear_63 : decode cX2_clear 63 = .ok (.aload_n 0, 1) := by decide +kernel
theorem dX2_clear_64 : decode cX2_clear 64 = .ok (.getfield 19, 3) := by decide +kernel
theorem dX2_clear_67 : decode cX2_clear 67 = .ok (.iload_n 2, 1) := by decide +kernel
theorem dX2_clear_68 : decode cX2_clear 68 = .ok (.sipush 2047, 3) := by decide +kernel
theorem dX2_clear_71 : decode cX2_clear 71 = .ok (.iastore, 1) := by decide +kernel
theorem dX2_clear_72 : decode cX2_clear 72 = .ok (.iinc 2 1, 3) := by decide +kernel
theorem dX2_clear_75 : decode cX2_clear 75 = .ok (.goto (-18), 3) := by decide +kernel
theorem dX2_clear_78 : decode cX2_clear 78 = .ok (.aload_n 0, 1) := by decide +kernel
theorem dX2_clear_79 : decode cX2_clear 79 = .ok (.iconst 0, 1) := by decide +kernel
theorem dX2_clear_80 : decode cX2_clear 80 = .ok (.iload_n 1, 1) := by decide +kernel
theorem dX2_clear_81 : decode cX2_clear 81 = .ok (.bipush 8, 2) := by decide +kernel
theorem dX2_clear_83 : decode cX2_clear 83 = .ok (.invokestatic 56, 3) := by decide +kernel
theorem dX2_clear_86 : decode cX2_clear 86 = .ok (.invokestatic 62, 3) := by decide +kernel
theorem dX2_clear_89 : decode cX2_clear 89 = .ok (.putfield 65, 3) := by decide +kernel
theorem dX2_clear_92 : decode cX2_clear 92 = .ok (.return_, 1) := by decide +kernel
theorem dX2_allowOver_0 : decode cX2_allowOver 0 = .ok (.iload_n 1, 1) := by decide +kernel
theorem dX2_allowOver_1 : decode cX2_allowOver 1 = .ok (.ifCond .lt 20, 3) := by decide +kernel
theorem dX2_allowOver_4 : decode cX2_allowOver 4 = .ok (.iload_n 1, 1) := by decide +kernel
theorem dX2_allowOver_5 : decode cX2_allowOver 5 = .ok (.bipush 10, 2) := by decide +kernel
theorem dX2_allowOver_7 : decode cX2_allowOver 7 = .ok (.if_icmp .ge 14, 3) := by decide +kernel
theorem dX2_allowOver_10 : decode cX2_allowOver 10 = .ok (.aload_n 0, 1) := by decide +kernel
theorem dX2_allowOver_11 : decode cX2_allowOver 11 = .ok (.getfield 19, 3) := by decide +kernel
theorem dX2_allowOver_14 : decode cX2_allowOver 14 = .ok (.iload_n 1, 1) := by decide +kernel
theorem dX2_allowOver_15 : decode cX2_allowOver 15 = .ok (.iload_n 2, 1) := by decide +kernel
theorem dX2_allowOver_16 : decode cX2_allowOver 16 = .ok (.sipush 1024, 3) := by decide +kernel
theorem dX2_allowOver_19 : decode cX2_allowOver 19 = .ok (.ior, 1) := by decide +kernel
theorem dX2_allowOver_20 : decode cX2_allowOver 20 = .ok (.iastore, 1) := by decide +kernel
theorem dX2_allowOver_21 : decode cX2_allowOver 21 = .ok (.return_, 1) := by decide +kernel
theorem dX2_allowAt_0 : decode cX2_allowAt 0 = .ok (.aload_n 0, 1) := by decide +kernel
theorem dX2_allowAt_1 : decode cX2_allowAt 1 = .ok (.iload_n 1, 1) := by decide +kernel
theorem dX2_allowAt_2 : decode cX2_allowAt 2 = .ok (.invokevirtual 52, 3) := by decide +kernel
theorem dX2_allowAt_5 : decode cX2_allowAt 5 = .ok (.ifCond .eq 17, 3) := by decide +kernel
theorem dX2_allowAt_8 : decode cX2_allowAt 8 = .ok (.aload_n 0, 1) := by decide +kernel
theorem dX2_allowAt_9 : decode cX2_allowAt 9 = .ok (.getfield 11, 3) := by decide +kernel
theorem dX2_allowAt_12 : decode cX2_allowAt 12 = .ok (.iload_n 1, 1) := by decide +kernel
theorem dX2_allowAt_13 : decode cX2_allowAt 13 = .ok (.iload_n 2, 1) := by decide +kernel
theorem dX2_allowAt_14 : decode cX2_allowAt 14 = .ok (.iastore, 1) := by decide +kernel
theorem dX2_allowAt_15 : decode cX2_allowAt 15 = .ok (.aload_n 0, 1) := by decide +kernel
theorem dX2_allowAt_16 : decode cX2_allowAt 16 = .ok (.getfield 15, 3) := by decide +kernel
theorem dX2_allowAt_19 : decode cX2_allowAt 19 = .ok (.iload_n 1, 1) := by decide +kernel
theorem dX2_allowAt_20 : decode cX2_allowAt 20 = .ok (.iload_n 3, 1) := by decide +kernel
theorem dX2_allowAt_21 : decode cX2_allowAt 21 = .ok (.bastore, 1) := by decide +kernel
theorem dX2_allowAt_22 : decode cX2_allowAt 22 = .ok (.return_, 1) := by decide +kernel
theorem dX2_findBest_0 : decode cX2_findBest 0 = .ok (.aload_n 0, 1) := by decide +kernel
theorem dX2_findBest_1 : decode cX2_findBest 1 = .ok (.iconst (-1), 1) := by decide +kernel
theorem dX2_findBest_2 : decode cX2_findBest 2 = .ok (.putfield 44, 3) := by decide +kernel
theorem dX2_findBest_5 : decode cX2_findBest 5 = .ok (.iconst 0, 1) := by decide +kernel
theorem dX2_findBest_6 : decode cX2_findBest 6 = .ok (.istore_n 1, 1) := by decide +kernel
theorem dX2_findBest_7 : decode cX2_findBest 7 = .ok (.iload_n 1, 1) := by decide +kernel
theorem dX2_findBest_8 : decode cX2_findBest 8 = .ok (.aload_n 0, 1) := by decide +kernel
theorem dX2_findBest_9 : decode cX2_findBest 9 = .ok (.getfield 65, 3) := by decide +kernel
theorem dX2_findBest_12 : decode cX2_findBest 12 = .ok (.if_icmp .gt 39, 3) := by decide +kernel
theorem dX2_findBest_15 : decode cX2_findBest 15 = .ok (.aload_n 0, 1) := by decide +kernel
theorem dX2_findBest_16 : decode cX2_findBest 16 = .ok (.getfield 44, 3) := by decide +kernel
theorem dX2_findBest_19 : decode cX2_findBest 19 = .ok (.iconst (-1), 1) := by decide +kernel
theorem dX2_findBest_20 : decode cX2_findBest 20 = .ok (.if_icmp .ne 31, 3) := by decide +kernel
theorem dX2_findBest_23 : decode cX2_findBest 23 = .ok (.aload_n 0, 1) := by decide +kernel
theorem dX2_findBest_24 : decode cX2_findBest 24 = .ok (.iload_n 1, 1) := by decide +kernel
theorem dX2_findBest_25 : decode cX2_findBest 25 = .ok (.invokevirtual 68, 3) := by decide +kernel
theorem dX2_findBest_28 : decode cX2_findBest 28 = .ok (.aload_n 0, 1) := by decide +kernel
theorem dX2_findBest_29 : decode cX2_findBest 29 = .ok (.getfield 38, 3) := by decide +kernel
theorem dX2_findBest_32 : decode cX2_findBest 32 = .ok (.aload_n 0, 1) := by decide +kernel
theorem dX2_findBest_33 : decode cX2_findBest 33 = .ok (.getfield 65, 3) := by decide +kernel
theorem dX2_findBest_36 : decode cX2_findBest 36 = .ok (.iaload, 1) := by decide +kernel
theorem dX2_findBest_37 : decode cX2_findBest 37 = .ok (.ifCond .le 8, 3) := by decide +kernel
theorem dX2_findBest_40 : decode cX2_findBest 40 = .ok (.aload_n 0, 1) := by decide +kernel
theorem dX2_findBest_41 : decode cX2_findBest 41 = .ok (.iload_n 1, 1) := by decide +kernel
theorem dX2_findBest_42 : decode cX2_findBest 42 = .ok (.putfield 44, 3) := by decide +kernel
theorem dX2_findBest_45 : decode cX2_findBest 45 = .ok (.iinc 1 1, 3) := by decide +kernel
theorem dX2_findBest_48 : decode cX2_findBest 48 = .ok (.goto (-41), 3) := by decide +kernel
theorem dX2_findBest_51 : decode cX2_findBest 51 = .ok (.aload_n 0, 1) := by decide +kernel
theorem dX2_findBest_52 : decode cX2_findBest 52 = .ok (.lconst 0, 1) := by decide +kernel
theorem dX2_findBest_53 : decode cX2_findBest 53 = .ok (.putfield 48, 3) := by decide +kernel
theorem dX2_findBest_56 : decode cX2_findBest 56 = .ok (.iconst 0, 1) := by decide +kernel
theorem dX2_findBest_57 : decode cX2_findBest 57 = .ok (.istore_n 1, 1) := by decide +kernel
theorem dX2_findBest_58 : decode cX2_findBest 58 = .ok (.iload_n 1, 1) := by decide +kernel
theorem dX2_findBest_59 : decode cX2_findBest 59 = .ok (.aload_n 0, 1) := by decide +kernel
theorem dX2_findBest_60 : decode cX2_findBest 60 = .ok (.getfield 38, 3) := by decide +kernel
theorem dX2_findBest_63 : decode cX2_findBest 63 = .ok (.aload_n 0, 1) := by decide +kernel
theorem dX2_findBest_64 : decode cX2_findBest 64 = .ok (.getfield 65, 3) := by decide +kernel
theorem dX2_findBest_67 : decode cX2_findBest 67 = .ok (.iaload, 1) := by decide +kernel
theorem dX2_findBest_68 : decode cX2_findBest 68 = .ok (.if_icmp .ge 39, 3) := by decide +kernel
theorem dX2_findBest_71 : decode cX2_findBest 71 = .ok (.aload_n 0, 1) := by decide +kernel
theorem dX2_findBest_72 : decode cX2_findBest 72 = .ok (.dup, 1) := by decide +kernel
theorem dX2_findBest_73 : decode cX2_findBest 73 = .ok (.getfield 48, 3) := by decide +kernel
theorem dX2_findBest_76 : decode cX2_findBest 76 = .ok (.aload_n 0, 1) := by decide +kernel
theorem dX2_findBest_77 : decode cX2_findBest 77 = .ok (.getfield 30, 3) := by decide +kernel
theorem dX2_findBest_80 : decode cX2_findBest 80 = .ok (.aload_n 0, 1) := by decide +kernel
theorem dX2_findBest_81 : decode cX2_findBest 81 = .ok (.getfield 65, 3) := by decide +kernel
theorem dX2_findBest_84 : decode cX2_findBest 84 = .ok (.aaload, 1) := by decide +kernel
theorem dX2_findBest_85 : decode cX2_findBest 85 = .ok (.aload_n 0, 1) := by decide +kernel
theorem dX2_findBest_86 : decode cX2_findBest 86 = .ok (.getfield 35, 3) := by decide +kernel
theorem dX2_findBest_89 : decode cX2_findBest 89 = .ok (.aload_n 0, 1) := by decide +kernel
theorem dX2_findBest_90 : decode cX2_findBest 90 = .ok (.getfield 65, 3) := by decide +kernel
theorem dX2_findBest_93 : decode cX2_findBest 93 = .ok (.aaload, 1) := by decide +kernel
theorem dX2_findBest_94 : decode cX2_findBest 94 = .ok (.iload_n 1, 1) := by decide +kernel
theorem dX2_findBest_95 : decode cX2_findBest 95 = .ok (.iaload, 1) := by decide +kernel
theorem dX2_findBest_96 : decode cX2_findBest 96 = .ok (.laload, 1) := by decide +kernel
theorem dX2_findBest_97 : decode cX2_findBest 97 = .ok (.ladd, 1) := by decide +kernel
theorem dX2_findBest_98 : decode cX2_findBest 98 = .ok (.putfield 48, 3) := by decide +kernel
theorem dX2_findBest_101 : decode cX2_findBest 101 = .ok (.iinc 1 1, 3) := by decide +kernel
theorem dX2_findBest_104 : decode cX2_findBest 104 = .ok (.goto (-46), 3) := by decide +kernel
theorem dX2_findBest_107 : decode cX2_findBest 107 = .ok (.aload_n 0, 1) := by decide +kernel
theorem dX2_findBest_108 : decode cX2_findBest 108 = .ok (.invokevirtual 72, 3) := by decide +kernel
theorem dX2_findBest_111 : decode cX2_findBest 111 = .ok (.aload_n 0, 1) := by decide +kernel
theorem dX2_findBest_112 : decode cX2_findBest 112 = .ok (.invokevirtual 75, 3) := by decide +kernel
theorem dX2_findBest_115 : decode cX2_findBest 115 = .ok (.return_, 1) := by decide +kernel
theorem dX2_reachWith_0 : decode cX2_reachWith 0 = .ok (.iconst 0, 1) := by decide +kernel
theorem dX2_reachWith_1 : decode cX2_reachWith 1 = .ok (.istore_n 2, 1) := by decide +kernel
theorem dX2_reachWith_2 : decode cX2_reachWith 2 = .ok (.iload_n 2, 1) := by decide +kernel
theorem dX2_reachWith_3 : decode cX2_reachWith 3 = .ok (.aload_n 0, 1) := by decide +kernel
theorem dX2_reachWith_4 : decode cX2_reachWith 4 = .ok (.getfield 65, 3) := by decide +kernel
theorem dX2_reachWith_7 : decode cX2_reachWith 7 = .ok (.if_icmp .gt 62, 3) := by decide +kernel
theorem dX2_reachWith_10 : decode cX2_reachWith 10 = .ok (.iload_n 2, 1) := by decide +kernel
theorem dX2_reachWith_11 : decode cX2_reachWith 11 = .ok (.ifCond .le 24, 3) := by decide +kernel
theorem dX2_reachWith_14 : decode cX2_reachWith 14 = .ok (.aload_n 0, 1) := by decide +kernel
theorem dX2_reachWith_15 : decode cX2_reachWith 15 = .ok (.iload_n 1, 1) := by decide +kernel
theorem dX2_reachWith_16 : decode cX2_reachWith 16 = .ok (.iload_n 2, 1) := by decide +kernel
theorem dX2_reachWith_17 : decode cX2_reachWith 17 = .ok (.iconst 1, 1) := by decide +kernel
theorem dX2_reachWith_18 : decode cX2_reachWith 18 = .ok (.isub, 1) := by decide +kernel
theorem dX2_reachWith_19 : decode cX2_reachWith 19 = .ok (.invokevirtual 78, 3) := by decide +kernel
theorem dX2_reachWith_22 : decode cX2_reachWith 22 = .ok (.aload_n 0, 1) := by decide +kernel
theorem dX2_reachWith_23 : decode cX2_reachWith 23 = .ok (.iload_n 1, 1) := by decide +kernel
theorem dX2_reachWith_24 : decode cX2_reachWith 24 = .ok (.iconst 1, 1) := by decide +kernel
theorem dX2_reachWith_25 : decode cX2_reachWith 25 = .ok (.isub, 1) := by decide +kernel
theorem dX2_reachWith_26 : decode cX2_reachWith 26 = .ok (.iload_n 2, 1) := by decide +kernel
theorem dX2_reachWith_27 : decode cX2_reachWith 27 = .ok (.iconst 1, 1) := by decide +kernel
theorem dX2_reachWith_28 : decode cX2_reachWith 28 = .ok (.isub, 1) := by decide +kernel
theorem dX2_reachWith_29 : decode cX2_reachWith 29 = .ok (.invokevirtual 82, 3) := by decide +kernel
theorem dX2_reachWith_32 : decode cX2_reachWith 32 = .ok (.goto 15, 3) := by decide +kernel
theorem dX2_reachWith_35 : decode cX2_reachWith 35 = .ok (.iload_n 1, 1) := by decide +kernel
theorem dX2_reachWith_36 : decode cX2_reachWith 36 = .ok (.ifCond .ne 11, 3) := by decide +kernel
theorem dX2_reachWith_39 : decode cX2_reachWith 39 = .ok (.aload_n 0, 1) := by decide +kernel
theorem dX2_reachWith_40 : decode cX2_reachWith 40 = .ok (.iconst 0, 1) := by decide +kernel
theorem dX2_reachWith_41 : decode cX2_reachWith 41 = .ok (.bipush 10, 2) := by decide +kernel
theorem dX2_reachWith_43 : decode cX2_reachWith 43 = .ok (.lconst 1, 1) := by decide +kernel
theorem dX2_reachWith_44 : decode cX2_reachWith 44 = .ok (.invokevirtual 85, 3) := by decide +kernel
theorem dX2_reachWith_47 : decode cX2_reachWith 47 = .ok (.aload_n 0, 1) := by decide +kernel
theorem dX2_reachWith_48 : decode cX2_reachWith 48 = .ok (.getfield 41, 3) := by decide +kernel
theorem dX2_reachWith_51 : decode cX2_reachWith 51 = .ok (.iload_n 1, 1) := by decide +kernel
theorem dX2_reachWith_52 : decode cX2_reachWith 52 = .ok (.iconst 1, 1) := by decide +kernel
theorem dX2_reachWith_53 : decode cX2_reachWith 53 = .ok (.iadd, 1) := by decide +kernel
theorem dX2_reachWith_54 : decode cX2_reachWith 54 = .ok (.aaload, 1) := by decide +kernel
theorem dX2_reachWith_55 : decode cX2_reachWith 55 = .ok (.iload_n 2, 1) := by decide +kernel
theorem dX2_reachWith_56 : decode cX2_reachWith 56 = .ok (.aload_n 0, 1) := by decide +kernel
theorem dX2_reachWith_57 : decode cX2_reachWith 57 = .ok (.getfield 38, 3) := by decide +kernel
theorem dX2_reachWith_60 : decode cX2_reachWith 60 = .ok (.iload_n 2, 1) := by decide +kernel
theorem dX2_reachWith_61 : decode cX2_reachWith 61 = .ok (.iaload, 1) := by decide +kernel
theorem dX2_reachWith_62 : decode cX2_reachWith 62 = .ok (.iastore, 1) := by decide +kernel
theorem dX2_reachWith_63 : decode cX2_reachWith 63 = .ok (.iinc 2 1, 3) := by decide +kernel
theorem dX2_reachWith_66 : decode cX2_reachWith 66 = .ok (.goto (-64), 3) := by decide +kernel
theorem dX2_reachWith_69 : decode cX2_reachWith 69 = .ok (.return_, 1) := by decide +kernel
theorem dX2_spreadDrums_0 : decode cX2_spreadDrums 0 = .ok (.aload_n 0, 1) := by decide +kernel
theorem dX2_spreadDrums_1 : decode cX2_spreadDrums 1 = .ok (.getfield 41, 3) := by decide +kernel
theorem dX2_spreadDrums_4 : decode cX2_spreadDrums 4 = .ok (.iload_n 1, 1) := by decide +kernel
theorem dX2_spreadDrums_5 : decode cX2_spreadDrums 5 = .ok (.iconst 1, 1) := by decide +kernel
theorem dX2_spreadDrums_6 : decode cX2_spreadDrums 6 = .ok (.iadd, 1) := by decide +kernel
theorem dX2_spreadDrums_7 : decode cX2_spreadDrums 7 = .ok (.aaload, 1) := by decide +kernel
theorem dX2_spreadDrums_8 : decode cX2_spreadDrums 8 = .ok (.iload_n 2, 1) := by decide +kernel
theorem dX2_spreadDrums_9 : decode cX2_spreadDrums 9 = .ok (.iaload, 1) := by decide +kernel
theorem dX2_spreadDrums_10 : decode cX2_spreadDrums 10 = .ok (.istore_n 3, 1) := by decide +kernel
theorem dX2_spreadDrums_11 : decode cX2_spreadDrums 11 = .ok (.aload_n 0, 1) := by decide +kernel
theorem dX2_spreadDrums_12 : decode cX2_spreadDrums 12 = .ok (.getfield 41, 3) := by decide +kernel
theorem dX2_spreadDrums_15 : decode cX2_spreadDrums 15 = .ok (.iload_n 1, 1) := by decide +kernel
theorem dX2_spreadDrums_16 : decode cX2_spreadDrums 16 = .ok (.aaload, 1) := by decide +kernel
theorem dX2_spreadDrums_17 : decode cX2_spreadDrums 17 = .ok (.iload_n 2, 1) := by decide +kernel
theorem dX2_spreadDrums_18 : decode cX2_spreadDrums 18 = .ok (.iaload, 1) := by decide +kernel
theorem dX2_spreadDrums_19 : decode cX2_spreadDrums 19 = .ok (.istore 4, 2) := by decide +kernel
theorem dX2_spreadDrums_21 : decode cX2_spreadDrums 21 = .ok (.iload 4, 2) := by decide +kernel
theorem dX2_spreadDrums_23 : decode cX2_spreadDrums 23 = .ok (.iload_n 3, 1) := by decide +kernel
theorem dX2_spreadDrums_24 : decode cX2_spreadDrums 24 = .ok (.if_icmp .ge 84, 3) := by decide +kernel
theorem dX2_spreadDrums_27 : decode cX2_spreadDrums 27 = .ok (.aload_n 0, 1) := by decide +kernel
theorem dX2_spreadDrums_28 : decode cX2_spreadDrums 28 = .ok (.getfield 35, 3) := by decide +kernel
theorem dX2_spreadDrums_31 : decode cX2_spreadDrums 31 = .ok (.iload_n 2, 1) := by decide +kernel
theorem dX2_spreadDrums_32 : decode cX2_spreadDrums 32 = .ok (.aaload, 1) := by decide +kernel
theorem dX2_spreadDrums_33 : decode cX2_spreadDrums 33 = .ok (.iload 4, 2) := by decide +kernel
theorem dX2_spreadDrums_35 : decode cX2_spreadDrums 35 = .ok (.iaload, 1) := by decide +kernel
theorem dX2_spreadDrums_36 : decode cX2_spreadDrums 36 = .ok (.istore 5, 2) := by decide +kernel
theorem dX2_spreadDrums_38 : decode cX2_spreadDrums 38 = .ok (.aload_n 0, 1) := by decide +kernel
theorem dX2_spreadDrums_39 : decode cX2_spreadDrums 39 = .ok (.iload_n 2, 1) := by decide +kernel
theorem dX2_spreadDrums_40 : decode cX2_spreadDrums 40 = .ok (.iload 5, 2) := by decide +kernel
theorem dX2_spreadDrums_42 : decode cX2_spreadDrums 42 = .ok (.invokevirtual 89, 3) := by decide +kernel
theorem dX2_spreadDrums_45 : decode cX2_spreadDrums 45 = .ok (.istore 6, 2) := by decide +kernel
theorem dX2_spreadDrums_47 : decode cX2_spreadDrums 47 = .ok (.aload_n 0, 1) := by decide +kernel
theorem dX2_spreadDrums_48 : decode cX2_spreadDrums 48 = .ok (.getfield 30, 3) := by decide +kernel
theorem dX2_spreadDrums_51 : decode cX2_spreadDrums 51 = .ok (.iload_n 2, 1) := by decide +kernel
theorem dX2_spreadDrums_52 : decode cX2_spreadDrums 52 = .ok (.aaload, 1) := by decide +kernel
theorem dX2_spreadDrums_53 : decode cX2_spreadDrums 53 = .ok (.iload 5, 2) := by decide +kernel
theorem dX2_spreadDrums_55 : decode cX2_spreadDrums 55 = .ok (.laload, 1) := by decide +kernel
theorem dX2_spreadDrums_56 : decode cX2_spreadDrums 56 = .ok (.lstore 7, 2) := by decide +kernel
theorem dX2_spreadDrums_58 : decode cX2_spreadDrums 58 = .ok (.iconst 0, 1) := by decide +kernel
theorem dX2_spreadDrums_59 : decode cX2_spreadDrums 59 = .ok (.istore 9, 2) := by decide +kernel
theorem dX2_spreadDrums_61 : decode cX2_spreadDrums 61 = .ok (.iload 9, 2) := by decide +kernel
theorem dX2_spreadDrums_63 : decode cX2_spreadDrums 63 = .ok (.bipush 10, 2) := by decide +kernel
theorem dX2_spreadDrums_65 : decode cX2_spreadDrums 65 = .ok (.if_icmp .ge 37, 3) := by decide +kernel
theorem dX2_spreadDrums_68 : decode cX2_spreadDrums 68 = .ok (.iload 6, 2) := by decide +kernel
theorem dX2_spreadDrums_70 : decode cX2_spreadDrums 70 = .ok (.iload 9, 2) := by decide +kernel
theorem dX2_spreadDrums_72 : decode cX2_spreadDrums 72 = .ok (.invokestatic 92, 3) := by decide +kernel
theorem dX2_spreadDrums_75 : decode cX2_spreadDrums 75 = .ok (.ifCond .eq 21, 3) := by decide +kernel
theorem dX2_spreadDrums_78 : decode cX2_spreadDrums 78 = .ok (.aload_n 0, 1) := by decide +kernel
theorem dX2_spreadDrums_79 : decode cX2_spreadDrums 79 = .ok (.iload_n 2, 1) := by decide +kernel
theorem dX2_spreadDrums_80 : decode cX2_spreadDrums 80 = .ok (.iconst 1, 1) := by decide +kernel
theorem dX2_spreadDrums_81 : decode cX2_spreadDrums 81 = .ok (.iadd, 1) := by decide +kernel
theorem dX2_spreadDrums_82 : decode cX2_spreadDrums 82 = .ok (.aload_n 0, 1) := by decide +kernel
theorem dX2_spreadDrums_83 : decode cX2_spreadDrums 83 = .ok (.iload_n 2, 1) := by decide +kernel
theorem dX2_spreadDrums_84 : decode cX2_spreadDrums 84 = .ok (.iload 5, 2) := by decide +kernel
theorem dX2_spreadDrums_86 : decode cX2_spreadDrums 86 = .ok (.iload 9, 2) := by decide +kernel
theorem dX2_spreadDrums_88 : decode cX2_spreadDrums 88 = .ok (.invokevirtual 96, 3) := by decide +kernel
theorem dX2_spreadDrums_91 : decode cX2_spreadDrums 91 = .ok (.lload 7, 2) := by decide +kernel
theorem dX2_spreadDrums_93 : decode cX2_spreadDrums 93 = .ok (.invokevirtual 85, 3) := by decide +kernel
theorem dX2_spreadDrums_96 : decode cX2_spreadDrums 96 = .ok (.iinc 9 1, 3) := by decide +kernel
theorem dX2_spreadDrums_99 : decode cX2_spreadDrums 99 = .ok (.goto (-38), 3) := by decide +kernel
theorem dX2_spreadDrums_102 : decode cX2_spreadDrums 102 = .ok (.iinc 4 1, 3) := by decide +kernel
theorem dX2_spreadDrums_105 : decode cX2_spreadDrums 105 = .ok (.goto (-84), 3) := by decide +kernel
theorem dX2_spreadDrums_108 : decode cX2_spreadDrums 108 = .ok (.return_, 1) := by decide +kernel
theorem dX2_spreadNew_0 : decode cX2_spreadNew 0 = .ok (.iload_n 1, 1) := by decide +kernel
theorem dX2_spreadNew_1 : decode cX2_spreadNew 1 = .ok (.ifCond .lt 17, 3) := by decide +kernel
theorem dX2_spreadNew_4 : decode cX2_spreadNew 4 = .ok (.aload_n 0, 1) := by decide +kernel
theorem dX2_spreadNew_5 : decode cX2_spreadNew 5 = .ok (.getfield 11, 3) := by decide +kernel
theorem dX2_spreadNew_8 : decode cX2_spreadNew 8 = .ok (.iload_n 2, 1) := by decide +kernel
theorem dX2_spreadNew_9 : decode cX2_spreadNew 9 = .ok (.iaload, 1) := by decide +kernel
theorem dX2_spreadNew_10 : decode cX2_spreadNew 10 = .ok (.bipush 10, 2) := by decide +kernel
theorem dX2_spreadNew_12 : decode cX2_spreadNew 12 = .ok (.invokestatic 92, 3) := by decide +kernel
theorem dX2_spreadNew_15 : decode cX2_spreadNew 15 = .ok (.ifCond .ne 4, 3) := by decide +kernel
theorem dX2_spreadNew_18 : decode cX2_spreadNew 18 = .ok (.return_, 1) := by decide +kernel
theorem dX2_spreadNew_19 : decode cX2_spreadNew 19 = .ok (.aload_n 0, 1) := by decide +kernel
theorem dX2_spreadNew_20 : decode cX2_spreadNew 20 = .ok (.getfield 41, 3) := by decide +kernel
theorem dX2_spreadNew_23 : decode cX2_spreadNew 23 = .ok (.iload_n 1, 1) := by decide +kernel
theorem dX2_spreadNew_24 : decode cX2_spreadNew 24 = .ok (.iconst 1, 1) := by decide +kernel
theorem dX2_spreadNew_25 : decode cX2_spreadNew 25 = .ok (.iadd, 1) := by decide +kernel
theorem dX2_spreadNew_26 : decode cX2_spreadNew 26 = .ok (.aaload, 1) := by decide +kernel
theorem dX2_spreadNew_27 : decode cX2_spreadNew 27 = .ok (.iload_n 2, 1) := by decide +kernel
theorem dX2_spreadNew_28 : decode cX2_spreadNew 28 = .ok (.iaload, 1) := by decide +kernel
theorem dX2_spreadNew_29 : decode cX2_spreadNew 29 = .ok (.istore_n 3, 1) := by decide +kernel
theorem dX2_spreadNew_30 : decode cX2_spreadNew 30 = .ok (.aload_n 0, 1) := by decide +kernel
theorem dX2_spreadNew_31 : decode cX2_spreadNew 31 = .ok (.getfield 41, 3) := by decide +kernel
theorem dX2_spreadNew_34 : decode cX2_spreadNew 34 = .ok (.iload_n 1, 1) := by decide +kernel
theorem dX2_spreadNew_35 : decode cX2_spreadNew 35 = .ok (.aaload, 1) := by decide +kernel
theorem dX2_spreadNew_36 : decode cX2_spreadNew 36 = .ok (.iload_n 2, 1) := by decide +kernel
theorem dX2_spreadNew_37 : decode cX2_spreadNew 37 = .ok (.iaload, 1) := by decide +kernel
theorem dX2_spreadNew_38 : decode cX2_spreadNew 38 = .ok (.istore 4, 2) := by decide +kernel
theorem dX2_spreadNew_40 : decode cX2_spreadNew 40 = .ok (.iload 4, 2) := by decide +kernel
theorem dX2_spreadNew_42 : decode cX2_spreadNew 42 = .ok (.iload_n 3, 1) := by decide +kernel
theorem dX2_spreadNew_43 : decode cX2_spreadNew 43 = .ok (.if_icmp .ge 45, 3) := by decide +kernel
theorem dX2_spreadNew_46 : decode cX2_spreadNew 46 = .ok (.aload_n 0, 1) := by decide +kernel
theorem dX2_spreadNew_47 : decode cX2_spreadNew 47 = .ok (.getfield 35, 3) := by decide +kernel
theorem dX2_spreadNew_50 : decode cX2_spreadNew 50 = .ok (.iload_n 2, 1) := by decide +kernel
theorem dX2_spreadNew_51 : decode cX2_spreadNew 51 = .ok (.aaload, 1) := by decide +kernel
theorem dX2_spreadNew_52 : decode cX2_spreadNew 52 = .ok (.iload 4, 2) := by decide +kernel
theorem dX2_spreadNew_54 : decode cX2_spreadNew 54 = .ok (.iaload, 1) := by decide +kernel
theorem dX2_spreadNew_55 : decode cX2_spreadNew 55 = .ok (.istore 5, 2) := by decide +kernel
theorem dX2_spreadNew_57 : decode cX2_spreadNew 57 = .ok (.aload_n 0, 1) := by decide +kernel
theorem dX2_spreadNew_58 : decode cX2_spreadNew 58 = .ok (.iload_n 2, 1) := by decide +kernel
theorem dX2_spreadNew_59 : decode cX2_spreadNew 59 = .ok (.iconst 1, 1) := by decide +kernel
theorem dX2_spreadNew_60 : decode cX2_spreadNew 60 = .ok (.iadd, 1) := by decide +kernel
theorem dX2_spreadNew_61 : decode cX2_spreadNew 61 = .ok (.aload_n 0, 1) := by decide +kernel
theorem dX2_spreadNew_62 : decode cX2_spreadNew 62 = .ok (.iload_n 2, 1) := by decide +kernel
theorem dX2_spreadNew_63 : decode cX2_spreadNew 63 = .ok (.iload 5, 2) := by decide +kernel
theorem dX2_spreadNew_65 : decode cX2_spreadNew 65 = .ok (.bipush 10, 2) := by decide +kernel
theorem dX2_spreadNew_67 : decode cX2_spreadNew 67 = .ok (.invokevirtual 96, 3) := by decide +kernel
theorem dX2_spreadNew_70 : decode cX2_spreadNew 70 = .ok (.aload_n 0, 1) := by decide +kernel
theorem dX2_spreadNew_71 : decode cX2_spreadNew 71 = .ok (.getfield 30, 3) := by decide +kernel
theorem dX2_spreadNew_74 : decode cX2_spreadNew 74 = .ok (.iload_n 2, 1) := by decide +kernel
theorem dX2_spreadNew_75 : decode cX2_spreadNew 75 = .ok (.aaload, 1) := by decide +kernel
theorem dX2_spreadNew_76 : decode cX2_spreadNew 76 = .ok (.iload 5, 2) := by decide +kernel
theorem dX2_spreadNew_78 : decode cX2_spreadNew 78 = .ok (.laload, 1) := by decide +kernel
theorem dX2_spreadNew_79 : decode cX2_spreadNew 79 = .ok (.invokevirtual 85, 3) := by decide +kernel
theorem dX2_spreadNew_82 : decode cX2_spreadNew 82 = .ok (.iinc 4 1, 3) := by decide +kernel
theorem dX2_spreadNew_85 : decode cX2_spreadNew 85 = .ok (.goto (-45), 3) := by decide +kernel
theorem dX2_spreadNew_88 : decode cX2_spreadNew 88 = .ok (.return_, 1) := by decide +kernel
theorem dX2_reach_0 : decode cX2_reach 0 = .ok (.aload_n 0, 1) := by decide +kernel
theorem dX2_reach_1 : decode cX2_reach 1 = .ok (.getfield 38, 3) := by decide +kernel
theorem dX2_reach_4 : decode cX2_reach 4 = .ok (.iload_n 1, 1) := by decide +kernel
theorem dX2_reach_5 : decode cX2_reach 5 = .ok (.iaload, 1) := by decide +kernel
theorem dX2_reach_6 : decode cX2_reach 6 = .ok (.istore 5, 2) := by decide +kernel
theorem dX2_reach_8 : decode cX2_reach 8 = .ok (.aload_n 0, 1) := by decide +kernel
theorem dX2_reach_9 : decode cX2_reach 9 = .ok (.getfield 30, 3) := by decide +kernel
theorem dX2_reach_12 : decode cX2_reach 12 = .ok (.iload_n 1, 1) := by decide +kernel
theorem dX2_reach_13 : decode cX2_reach 13 = .ok (.aaload, 1) := by decide +kernel
theorem dX2_reach_14 : decode cX2_reach 14 = .ok (.iload_n 2, 1) := by decide +kernel
theorem dX2_reach_15 : decode cX2_reach 15 = .ok (.laload, 1) := by decide +kernel
theorem dX2_reach_16 : decode cX2_reach 16 = .ok (.lconst 0, 1) := by decide +kernel
theorem dX2_reach_17 : decode cX2_reach 17 = .ok (.lcmp, 1) := by decide +kernel
theorem dX2_reach_18 : decode cX2_reach 18 = .ok (.ifCond .ne 31, 3) := by decide +kernel
theorem dX2_reach_21 : decode cX2_reach 21 = .ok (.iload 5, 2) := by decide +kernel
theorem dX2_reach_23 : decode cX2_reach 23 = .ok (.sipush 6144, 3) := by decide +kernel
theorem dX2_reach_26 : decode cX2_reach 26 = .ok (.if_icmp .ge 23, 3) := by decide +kernel
theorem dX2_reach_29 : decode cX2_reach 29 = .ok (.aload_n 0, 1) := by decide +kernel
theorem dX2_reach_30 : decode cX2_reach 30 = .ok (.getfield 35, 3) := by decide +kernel
theorem dX2_reach_33 : decode cX2_reach 33 = .ok (.iload_n 1, 1) := by decide +kernel
theorem dX2_reach_34 : decode cX2_reach 34 = .ok (.aaload, 1) := by decide +kernel
theorem dX2_reach_35 : decode cX2_reach 35 = .ok (.iload 5, 2) := by decide +kernel
theorem dX2_reach_37 : decode cX2_reach 37 = .ok (.iload_n 2, 1) := by decide +kernel
theorem dX2_reach_38 : decode cX2_reach 38 = .ok (.iastore, 1) := by decide +kernel
theorem dX2_reach_39 : decode cX2_reach 39 = .ok (.aload_n 0, 1) := by decide +kernel
theorem dX2_reach_40 : decode cX2_reach 40 = .ok (.getfield 38, 3) := by decide +kernel
theorem dX2_reach_43 : decode cX2_reach 43 = .ok (.iload_n 1, 1) := by decide +kernel
theorem dX2_reach_44 : decode cX2_reach 44 = .ok (.iload 5, 2) := by decide +kernel
theorem dX2_reach_46 : decode cX2_reach 46 = .ok (.iconst 1, 1) := by decide +kernel
theorem dX2_reach_47 : decode cX2_reach 47 = .ok (.iadd, 1) := by decide +kernel
theorem dX2_reach_48 : decode cX2_reach 48 = .ok (.iastore, 1) := by decide +kernel
theorem dX2_reach_49 : decode cX2_reach 49 = .ok (.aload_n 0, 1) := by decide +kernel
theorem dX2_reach_50 : decode cX2_reach 50 = .ok (.getfield 30, 3) := by decide +kernel
theorem dX2_reach_53 : decode cX2_reach 53 = .ok (.iload_n 1, 1) := by decide +kernel
theorem dX2_reach_54 : decode cX2_reach 54 = .ok (.aaload, 1) := by decide +kernel
theorem dX2_reach_55 : decode cX2_reach 55 = .ok (.iload_n 2, 1) := by decide +kernel
theorem dX2_reach_56 : decode cX2_reach 56 = .ok (.dup2, 1) := by decide +kernel
theorem dX2_reach_57 : decode cX2_reach 57 = .ok (.laload, 1) := by decide +kernel
theorem dX2_reach_58 : decode cX2_reach 58 = .ok (.lload_n 3, 1) := by decide +kernel
theorem dX2_reach_59 : decode cX2_reach 59 = .ok (.ladd, 1) := by decide +kernel
theorem dX2_reach_60 : decode cX2_reach 60 = .ok (.lastore, 1) := by decide +kernel
theorem dX2_reach_61 : decode cX2_reach 61 = .ok (.return_, 1) := by decide +kernel
theorem dX2_dropAllButBest_0 : decode cX2_dropAllButBest 0 = .ok (.aload_n 0, 1) := by decide +kernel
theorem dX2_dropAllButBest_1 : decode cX2_dropAllButBest 1 = .ok (.getfield 65, 3) := by decide +kernel
theorem dX2_dropAllButBest_4 : decode cX2_dropAllButBest 4 = .ok (.iconst 1, 1) := by decide +kernel
theorem dX2_dropAllButBest_5 : decode cX2_dropAllButBest 5 = .ok (.isub, 1) := by decide +kernel
theorem dX2_dropAllButBest_6 : decode cX2_dropAllButBest 6 = .ok (.istore_n 1, 1) := by decide +kernel
theorem dX2_dropAllButBest_7 : decode cX2_dropAllButBest 7 = .ok (.iload_n 1, 1) := by decide +kernel
theorem dX2_dropAllButBest_8 : decode cX2_dropAllButBest 8 = .ok (.ifCond .lt 75, 3) := by decide +kernel
theorem dX2_dropAllButBest_11 : decode cX2_dropAllButBest 11 = .ok (.iconst 0, 1) := by decide +kernel
theorem dX2_dropAllButBest_12 : decode cX2_dropAllButBest 12 = .ok (.istore_n 2, 1) := by decide +kernel
theorem dX2_dropAllButBest_13 : decode cX2_dropAllButBest 13 = .ok (.iconst 0, 1) := by decide +kernel
theorem dX2_dropAllButBest_14 : decode cX2_dropAllButBest 14 = .ok (.istore_n 3, 1) := by decide +kernel
theorem dX2_dropAllButBest_15 : decode cX2_dropAllButBest 15 = .ok (.iload_n 3, 1) := by decide +kernel
theorem dX2_dropAllButBest_16 : decode cX2_dropAllButBest 16 = .ok (.aload_n 0, 1) := by decide +kernel
theorem dX2_dropAllButBest_17 : decode cX2_dropAllButBest 17 = .ok (.getfield 38, 3) := by decide +kernel
theorem dX2_dropAllButBest_20 : decode cX2_dropAllButBest 20 = .ok (.iload_n 1, 1) := by decide +kernel
theorem dX2_dropAllButBest_21 : decode cX2_dropAllButBest 21 = .ok (.iaload, 1) := by decide +kernel
theorem dX2_dropAllButBest_22 : decode cX2_dropAllButBest 22 = .ok (.if_icmp .ge 48, 3) := by decide +kernel
theorem dX2_dropAllButBest_25 : decode cX2_dropAllButBest 25 = .ok (.aload_n 0, 1) := by decide +kernel
theorem dX2_dropAllButBest_26 : decode cX2_dropAllButBest 26 = .ok (.getfield 35, 3) := by decide +kernel
theorem dX2_dropAllButBest_29 : decode cX2_dropAllButBest 29 = .ok (.iload_n 1, 1) := by decide +kernel
theorem dX2_dropAllButBest_30 : decode cX2_dropAllButBest 30 = .ok (.aaload, 1) := by decide +kernel
theorem dX2_dropAllButBest_31 : decode cX2_dropAllButBest 31 = .ok (.iload_n 3, 1) := by decide +kernel
theorem dX2_dropAllButBest_32 : decode cX2_dropAllButBest 32 = .ok (.iaload, 1) := by decide +kernel
theorem dX2_dropAllButBest_33 : decode cX2_dropAllButBest 33 = .ok (.istore 4, 2) := by decide +kernel
theorem dX2_dropAllButBest_35 : decode cX2_dropAllButBest 35 = .ok (.aload_n 0, 1) := by decide +kernel
theorem dX2_dropAllButBest_36 : decode cX2_dropAllButBest 36 = .ok (.iload_n 1, 1) := by decide +kernel
theorem dX2_dropAllButBest_37 : decode cX2_dropAllButBest 37 = .ok (.iload 4, 2) := by decide +kernel
theorem dX2_dropAllButBest_39 : decode cX2_dropAllButBest 39 = .ok (.invokevirtual 100, 3) := by decide +kernel
theorem dX2_dropAllButBest_42 : decode cX2_dropAllButBest 42 = .ok (.istore 5, 2) := by decide +kernel
theorem dX2_dropAllButBest_44 : decode cX2_dropAllButBest 44 = .ok (.iload 5, 2) := by decide +kernel
theorem dX2_dropAllButBest_46 : decode cX2_dropAllButBest 46 = .ok (.ifCond .ne 13, 3) := by decide +kernel
theorem dX2_dropAllButBest_49 : decode cX2_dropAllButBest 49 = .ok (.aload_n 0, 1) := by decide +kernel
theorem dX2_dropAllButBest_50 : decode cX2_dropAllButBest 50 = .ok (.getfield 30, 3) := by decide +kernel
theorem dX2_dropAllButBest_53 : decode cX2_dropAllButBest 53 = .ok (.iload_n 1, 1) := by decide +kernel
theorem dX2_dropAllButBest_54 : decode cX2_dropAllButBest 54 = .ok (.aaload, 1) := by decide +kernel
theorem dX2_dropAllButBest_55 : decode cX2_dropAllButBest 55 = .ok (.iload 4, 2) := by decide +kernel
theorem dX2_dropAllButBest_57 : decode cX2_dropAllButBest 57 = .ok (.lconst 0, 1) := by decide +kernel
theorem dX2_dropAllButBest_58 : decode cX2_dropAllButBest 58 = .ok (.lastore, 1) := by decide +kernel
theorem dX2_dropAllButBest_59 : decode cX2_dropAllButBest 59 = .ok (.iload_n 2, 1) := by decide +kernel
theorem dX2_dropAllButBest_60 : decode cX2_dropAllButBest 60 = .ok (.iload 5, 2) := by decide +kernel
theorem dX2_dropAllButBest_62 : decode cX2_dropAllButBest 62 = .ok (.ior, 1) := by decide +kernel
theorem dX2_dropAllButBest_63 : decode cX2_dropAllButBest 63 = .ok (.istore_n 2, 1) := by decide +kernel
theorem dX2_dropAllButBest_64 : decode cX2_dropAllButBest 64 = .ok (.iinc 3 1, 3) := by decide +kernel
theorem dX2_dropAllButBest_67 : decode cX2_dropAllButBest 67 = .ok (.goto (-52), 3) := by decide +kernel
theorem dX2_dropAllButBest_70 : decode cX2_dropAllButBest 70 = .ok (.aload_n 0, 1) := by decide +kernel
theorem dX2_dropAllButBest_71 : decode cX2_dropAllButBest 71 = .ok (.getfield 22, 3) := by decide +kernel
theorem dX2_dropAllButBest_74 : decode cX2_dropAllButBest 74 = .ok (.iload_n 1, 1) := by decide +kernel
theorem dX2_dropAllButBest_75 : decode cX2_dropAllButBest 75 = .ok (.iload_n 2, 1) := by decide +kernel
theorem dX2_dropAllButBest_76 : decode cX2_dropAllButBest 76 = .ok (.iastore, 1) := by decide +kernel
theorem dX2_dropAllButBest_77 : decode cX2_dropAllButBest 77 = .ok (.iinc 1 (-1), 3) := by decide +kernel
theorem dX2_dropAllButBest_80 : decode cX2_dropAllButBest 80 = .ok (.goto (-73), 3) := by decide +kernel
theorem dX2_dropAllButBest_83 : decode cX2_dropAllButBest 83 = .ok (.return_, 1) := by decide +kernel
theorem dX2_walkFirst_0 : decode cX2_walkFirst 0 = .ok (.bipush 10, 2) := by decide +kernel
theorem dX2_walkFirst_2 : decode cX2_walkFirst 2 = .ok (.istore_n 1, 1) := by decide +kernel
theorem dX2_walkFirst_3 : decode cX2_walkFirst 3 = .ok (.iconst 0, 1) := by decide +kernel
theorem dX2_walkFirst_4 : decode cX2_walkFirst 4 = .ok (.istore_n 2, 1) := by decide +kernel
theorem dX2_walkFirst_5 : decode cX2_walkFirst 5 = .ok (.iload_n 2, 1) := by decide +kernel
theorem dX2_walkFirst_6 : decode cX2_walkFirst 6 = .ok (.aload_n 0, 1) := by decide +kernel
theorem dX2_walkFirst_7 : decode cX2_walkFirst 7 = .ok (.getfield 65, 3) := by decide +kernel
theorem dX2_walkFirst_10 : decode cX2_walkFirst 10 = .ok (.if_icmp .ge 50, 3) := by decide +kernel
theorem dX2_walkFirst_13 : decode cX2_walkFirst 13 = .ok (.aload_n 0, 1) := by decide +kernel
theorem dX2_walkFirst_14 : decode cX2_walkFirst 14 = .ok (.invokevirtual 103, 3) := by decide +kernel
theorem dX2_walkFirst_17 : decode cX2_walkFirst 17 = .ok (.ifCond .eq 15, 3) := by decide +kernel
theorem dX2_walkFirst_20 : decode cX2_walkFirst 20 = .ok (.aload_n 0, 1) := by decide +kernel
theorem dX2_walkFirst_21 : decode cX2_walkFirst 21 = .ok (.iload_n 2, 1) := by decide +kernel
theorem dX2_walkFirst_22 : decode cX2_walkFirst 22 = .ok (.iload_n 1, 1) := by decide +kernel
theorem dX2_walkFirst_23 : decode cX2_walkFirst 23 = .ok (.invokevirtual 100, 3) := by decide +kernel
theorem dX2_walkFirst_26 : decode cX2_walkFirst 26 = .ok (.invokestatic 107, 3) := by decide +kernel
theorem dX2_walkFirst_29 : decode cX2_walkFirst 29 = .ok (.goto 4, 3) := by decide +kernel
theorem dX2_walkFirst_32 : decode cX2_walkFirst 32 = .ok (.iconst (-1), 1) := by decide +kernel
theorem dX2_walkFirst_33 : decode cX2_walkFirst 33 = .ok (.istore_n 3, 1) := by decide +kernel
theorem dX2_walkFirst_34 : decode cX2_walkFirst 34 = .ok (.aload_n 0, 1) := by decide +kernel
theorem dX2_walkFirst_35 : decode cX2_walkFirst 35 = .ok (.getfield 25, 3) := by decide +kernel
theorem dX2_walkFirst_38 : decode cX2_walkFirst 38 = .ok (.iload_n 2, 1) := by decide +kernel
theorem dX2_walkFirst_39 : decode cX2_walkFirst 39 = .ok (.iload_n 3, 1) := by decide +kernel
theorem dX2_walkFirst_40 : decode cX2_walkFirst 40 = .ok (.iastore, 1) := by decide +kernel
theorem dX2_walkFirst_41 : decode cX2_walkFirst 41 = .ok (.iload_n 3, 1) := by decide +kernel
theorem dX2_walkFirst_42 : decode cX2_walkFirst 42 = .ok (.iconst (-1), 1) := by decide +kernel
theorem dX2_walkFirst_43 : decode cX2_walkFirst 43 = .ok (.if_icmp .eq 11, 3) := by decide +kernel
theorem dX2_walkFirst_46 : decode cX2_walkFirst 46 = .ok (.aload_n 0, 1) := by decide +kernel
theorem dX2_walkFirst_47 : decode cX2_walkFirst 47 = .ok (.iload_n 2, 1) := by decide +kernel
theorem dX2_walkFirst_48 : decode cX2_walkFirst 48 = .ok (.iload_n 1, 1) := by decide +kernel
theorem dX2_walkFirst_49 : decode cX2_walkFirst 49 = .ok (.iload_n 3, 1) := by decide +kernel
theorem dX2_walkFirst_50 : decode cX2_walkFirst 50 = .ok (.invokevirtual 96, 3) := by decide +kernel
theorem dX2_walkFirst_53 : decode cX2_walkFirst 53 = .ok (.istore_n 1, 1) := by decide +kernel
theorem dX2_walkFirst_54 : decode cX2_walkFirst 54 = .ok (.iinc 2 1, 3) := by decide +kernel
theorem dX2_walkFirst_57 : decode cX2_walkFirst 57 = .ok (.goto (-52), 3) := by decide +kernel
theorem dX2_walkFirst_60 : decode cX2_walkFirst 60 = .ok (.return_, 1) := by decide +kernel
theorem dX2_itemsToBest_0 : decode cX2_itemsToBest 0 = .ok (.aload_n 0, 1) := by decide +kernel
theorem dX2_itemsToBest_1 : decode cX2_itemsToBest 1 = .ok (.iload_n 1, 1) := by decide +kernel
theorem dX2_itemsToBest_2 : decode cX2_itemsToBest 2 = .ok (.iload_n 2, 1) := by decide +kernel
theorem dX2_itemsToBest_3 : decode cX2_itemsToBest 3 = .ok (.invokevirtual 89, 3) := by decide +kernel
theorem dX2_itemsToBest_6 : decode cX2_itemsToBest 6 = .ok (.istore_n 3, 1) := by decide +kernel
theorem dX2_itemsToBest_7 : decode cX2_itemsToBest 7 = .ok (.iconst 0, 1) := by decide +kernel
theorem dX2_itemsToBest_8 : decode cX2_itemsToBest 8 = .ok (.istore 4, 2) := by decide +kernel
theorem dX2_itemsToBest_10 : decode cX2_itemsToBest 10 = .ok (.iconst 0, 1) := by decide +kernel
theorem dX2_itemsToBest_11 : decode cX2_itemsToBest 11 = .ok (.istore 5, 2) := by decide +kernel
theorem dX2_itemsToBest_13 : decode cX2_itemsToBest 13 = .ok (.iload 5, 2) := by decide +kernel
theorem dX2_itemsToBest_15 : decode cX2_itemsToBest 15 = .ok (.bipush 11, 2) := by decide +kernel
theorem dX2_itemsToBest_17 : decode cX2_itemsToBest 17 = .ok (.if_icmp .ge 49, 3) := by decide +kernel
theorem dX2_itemsToBest_20 : decode cX2_itemsToBest 20 = .ok (.iload_n 3, 1) := by decide +kernel
theorem dX2_itemsToBest_21 : decode cX2_itemsToBest 21 = .ok (.iload 5, 2) := by decide +kernel
theorem dX2_itemsToBest_23 : decode cX2_itemsToBest 23 = .ok (.invokestatic 92, 3) := by decide +kernel
theorem dX2_itemsToBest_26 : decode cX2_itemsToBest 26 = .ok (.ifCond .eq 34, 3) := by decide +kernel
theorem dX2_itemsToBest_29 : decode cX2_itemsToBest 29 = .ok (.aload_n 0, 1) := by decide +kernel
theorem dX2_itemsToBest_30 : decode cX2_itemsToBest 30 = .ok (.getfield 30, 3) := by decide +kernel
theorem dX2_itemsToBest_33 : decode cX2_itemsToBest 33 = .ok (.iload_n 1, 1) := by decide +kernel
theorem dX2_itemsToBest_34 : decode cX2_itemsToBest 34 = .ok (.iconst 1, 1) := by decide +kernel
theorem dX2_itemsToBest_35 : decode cX2_itemsToBest 35 = .ok (.iadd, 1) := by decide +kernel
theorem dX2_itemsToBest_36 : decode cX2_itemsToBest 36 = .ok (.aaload, 1) := by decide +kernel
theorem dX2_itemsToBest_37 : decode cX2_itemsToBest 37 = .ok (.aload_n 0, 1) := by decide +kernel
theorem dX2_itemsToBest_38 : decode cX2_itemsToBest 38 = .ok (.iload_n 1, 1) := by decide +kernel
theorem dX2_itemsToBest_39 : decode cX2_itemsToBest 39 = .ok (.iload_n 2, 1) := by decide +kernel
theorem dX2_itemsToBest_40 : decode cX2_itemsToBest 40 = .ok (.iload 5, 2) := by decide +kernel
theorem dX2_itemsToBest_42 : decode cX2_itemsToBest 42 = .ok (.invokevirtual 96, 3) := by decide +kernel
theorem dX2_itemsToBest_45 : decode cX2_itemsToBest 45 = .ok (.laload, 1) := by decide +kernel
theorem dX2_itemsToBest_46 : decode cX2_itemsToBest 46 = .ok (.lconst 0, 1) := by decide +kernel
theorem dX2_itemsToBest_47 : decode cX2_itemsToBest 47 = .ok (.lcmp, 1) := by decide +kernel
theorem dX2_itemsToBest_48 : decode cX2_itemsToBest 48 = .ok (.ifCond .eq 12, 3) := by decide +kernel
theorem dX2_itemsToBest_51 : decode cX2_itemsToBest 51 = .ok (.iload 4, 2) := by decide +kernel
theorem dX2_itemsToBest_53 : decode cX2_itemsToBest 53 = .ok (.iconst 1, 1) := by decide +kernel
theorem dX2_itemsToBest_54 : decode cX2_itemsToBest 54 = .ok (.iload 5, 2) := by decide +kernel
theorem dX2_itemsToBest_56 : decode cX2_itemsToBest 56 = .ok (.ishl, 1) := by decide +kernel
theorem dX2_itemsToBest_57 : decode cX2_itemsToBest 57 = .ok (.ior, 1) := by decide +kernel
theorem dX2_itemsToBest_58 : decode cX2_itemsToBest 58 = .ok (.istore 4, 2) := by decide +kernel
theorem dX2_itemsToBest_60 : decode cX2_itemsToBest 60 = .ok (.iinc 5 1, 3) := by decide +kernel
theorem dX2_itemsToBest_63 : decode cX2_itemsToBest 63 = .ok (.goto (-50), 3) := by decide +kernel
theorem dX2_itemsToBest_66 : decode cX2_itemsToBest 66 = .ok (.iload 4, 2) := by decide +kernel
theorem dX2_itemsToBest_68 : decode cX2_itemsToBest 68 = .ok (.ireturn, 1) := by decide +kernel
theorem dX2_itemsFor_0 : decode cX2_itemsFor 0 = .ok (.aload_n 0, 1) := by decide +kernel
theorem dX2_itemsFor_1 : decode cX2_itemsFor 1 = .ok (.getfield 11, 3) := by decide +kernel
theorem dX2_itemsFor_4 : decode cX2_itemsFor 4 = .ok (.iload_n 1, 1) := by decide +kernel
theorem dX2_itemsFor_5 : decode cX2_itemsFor 5 = .ok (.iaload, 1) := by decide +kernel
theorem dX2_itemsFor_6 : decode cX2_itemsFor 6 = .ok (.aload_n 0, 1) := by decide +kernel
theorem dX2_itemsFor_7 : decode cX2_itemsFor 7 = .ok (.getfield 19, 3) := by decide +kernel
theorem dX2_itemsFor_10 : decode cX2_itemsFor 10 = .ok (.iload_n 2, 1) := by decide +kernel
theorem dX2_itemsFor_11 : decode cX2_itemsFor 11 = .ok (.bipush 11, 2) := by decide +kernel
theorem dX2_itemsFor_13 : decode cX2_itemsFor 13 = .ok (.irem, 1) := by decide +kernel
theorem dX2_itemsFor_14 : decode cX2_itemsFor 14 = .ok (.iaload, 1) := by decide +kernel
theorem dX2_itemsFor_15 : decode cX2_itemsFor 15 = .ok (.iand, 1) := by decide +kernel
theorem dX2_itemsFor_16 : decode cX2_itemsFor 16 = .ok (.iload_n 2, 1) := by decide +kernel
theorem dX2_itemsFor_17 : decode cX2_itemsFor 17 = .ok (.bipush 11, 2) := by decide +kernel
theorem dX2_itemsFor_19 : decode cX2_itemsFor 19 = .ok (.idiv, 1) := by decide +kernel
theorem dX2_itemsFor_20 : decode cX2_itemsFor 20 = .ok (.iconst (-1), 1) := by decide +kernel
theorem dX2_itemsFor_21 : decode cX2_itemsFor 21 = .ok (.ixor, 1) := by decide +kernel
theorem dX2_itemsFor_22 : decode cX2_itemsFor 22 = .ok (.iand, 1) := by decide +kernel
theorem dX2_itemsFor_23 : decode cX2_itemsFor 23 = .ok (.ireturn, 1) := by decide +kernel
theorem dX2_after_0 : decode cX2_after 0 = .ok (.iload_n 2, 1) := by decide +kernel
theorem dX2_after_1 : decode cX2_after 1 = .ok (.bipush 11, 2) := by decide +kernel
theorem dX2_after_3 : decode cX2_after 3 = .ok (.idiv, 1) := by decide +kernel
theorem dX2_after_4 : decode cX2_after 4 = .ok (.istore 4, 2) := by decide +kernel
theorem dX2_after_6 : decode cX2_after 6 = .ok (.iload_n 3, 1) := by decide +kernel
theorem dX2_after_7 : decode cX2_after 7 = .ok (.bipush 10, 2) := by decide +kernel
theorem dX2_after_9 : decode cX2_after 9 = .ok (.if_icmp .eq 11, 3) := by decide +kernel
theorem dX2_after_12 : decode cX2_after 12 = .ok (.iload 4, 2) := by decide +kernel
theorem dX2_after_14 : decode cX2_after 14 = .ok (.iconst 1, 1) := by decide +kernel
theorem dX2_after_15 : decode cX2_after 15 = .ok (.iload_n 3, 1) := by decide +kernel
theorem dX2_after_16 : decode cX2_after 16 = .ok (.ishl, 1) := by decide +kernel
theorem dX2_after_17 : decode cX2_after 17 = .ok (.ior, 1) := by decide +kernel
theorem dX2_after_18 : decode cX2_after 18 = .ok (.istore 4, 2) := by decide +kernel
theorem dX2_after_20 : decode cX2_after 20 = .ok (.iload 4, 2) := by decide +kernel
theorem dX2_after_22 : decode cX2_after 22 = .ok (.bipush 11, 2) := by decide +kernel
theorem dX2_after_24 : decode cX2_after 24 = .ok (.imul, 1) := by decide +kernel
theorem dX2_after_25 : decode cX2_after 25 = .ok (.aload_n 0, 1) := by decide +kernel
theorem dX2_after_26 : decode cX2_after 26 = .ok (.getfield 15, 3) := by decide +kernel
theorem dX2_after_29 : decode cX2_after 29 = .ok (.iload_n 1, 1) := by decide +kernel
theorem dX2_after_30 : decode cX2_after 30 = .ok (.baload, 1) := by decide +kernel
theorem dX2_after_31 : decode cX2_after 31 = .ok (.ifCond .eq 8, 3) := by decide +kernel
theorem dX2_after_34 : decode cX2_after 34 = .ok (.bipush 10, 2) := by decide +kernel
theorem dX2_after_36 : decode cX2_after 36 = .ok (.goto 4, 3) := by decide +kernel
theorem dX2_after_39 : decode cX2_after 39 = .ok (.iload_n 3, 1) := by decide +kernel
theorem dX2_after_40 : decode cX2_after 40 = .ok (.iadd, 1) := by decide +kernel
theorem dX2_after_41 : decode cX2_after 41 = .ok (.ireturn, 1) := by decide +kernel
theorem dX2_isPlace_0 : decode cX2_isPlace 0 = .ok (.iload_n 1, 1) := by decide +kernel
theorem dX2_isPlace_1 : decode cX2_isPlace 1 = .ok (.ifCond .lt 15, 3) := by decide +kernel
theorem dX2_isPlace_4 : decode cX2_isPlace 4 = .ok (.iload_n 1, 1) := by decide +kernel
theorem dX2_isPlace_5 : decode cX2_isPlace 5 = .ok (.aload_n 0, 1) := by decide +kernel
theorem dX2_isPlace_6 : decode cX2_isPlace 6 = .ok (.getfield 65, 3) := by decide +kernel
theorem dX2_isPlace_9 : decode cX2_isPlace 9 = .ok (.if_icmp .ge 7, 3) := by decide +kernel
theorem dX2_isPlace_12 : decode cX2_isPlace 12 = .ok (.iconst 1, 1) := by decide +kernel
theorem dX2_isPlace_13 : decode cX2_isPlace 13 = .ok (.goto 4, 3) := by decide +kernel
theorem dX2_isPlace_16 : decode cX2_isPlace 16 = .ok (.iconst 0, 1) := by decide +kernel
theorem dX2_isPlace_17 : decode cX2_isPlace 17 = .ok (.ireturn, 1) := by decide +kernel
theorem dX2_lowest_0 : decode cX2_lowest 0 = .ok (.iconst 0, 1) := by decide +kernel
theorem dX2_lowest_1 : decode cX2_lowest 1 = .ok (.istore_n 1, 1) := by decide +kernel
theorem dX2_lowest_2 : decode cX2_lowest 2 = .ok (.iload_n 1, 1) := by decide +kernel
theorem dX2_lowest_3 : decode cX2_lowest 3 = .ok (.bipush 11, 2) := by decide +kernel
theorem dX2_lowest_5 : decode cX2_lowest 5 = .ok (.if_icmp .ge 19, 3) := by decide +kernel
theorem dX2_lowest_8 : decode cX2_lowest 8 = .ok (.iload_n 0, 1) := by decide +kernel
theorem dX2_lowest_9 : decode cX2_lowest 9 = .ok (.iload_n 1, 1) := by decide +kernel
theorem dX2_lowest_10 : decode cX2_lowest 10 = .ok (.invokestatic 92, 3) := by decide +kernel
theorem dX2_lowest_13 : decode cX2_lowest 13 = .ok (.ifCond .eq 5, 3) := by decide +kernel
theorem dX2_lowest_16 : decode cX2_lowest 16 = .ok (.iload_n 1, 1) := by decide +kernel
theorem dX2_lowest_17 : decode cX2_lowest 17 = .ok (.ireturn, 1) := by decide +kernel
theorem dX2_lowest_18 : decode cX2_lowest 18 = .ok (.iinc 1 1, 3) := by decide +kernel
theorem dX2_lowest_21 : decode cX2_lowest 21 = .ok (.goto (-19), 3) := by decide +kernel
theorem dX2_lowest_24 : decode cX2_lowest 24 = .ok (.iconst (-1), 1) := by decide +kernel
theorem dX2_lowest_25 : decode cX2_lowest 25 = .ok (.ireturn, 1) := by decide +kernel
end
section
theorem dX4_init_0 : decode cX4_init 0 = .ok (.aload_n 0, 1) := by decide +kernel
theorem dX4_init_1 : decode cX4_init 1 = .ok (.invokespecial 1, 3) := by decide +kernel
theorem dX4_init_4 : decode cX4_init 4 = .ok (.aload_n 0, 1) := by decide +kernel
theorem dX4_init_5 : decode cX4_init 5 = .ok (.new 7, 3) := by decide +kernel
theorem dX4_init_8 : decode cX4_init 8 = .ok (.dup, 1) := by decide +kernel
theorem dX4_init_9 : decode cX4_init 9 = .ok (.invokespecial 9, 3) := by decide +kernel
theorem dX4_init_12 : decode cX4_init 12 = .ok (.putfield 10, 3) := by decide +kernel
theorem dX4_init_15 : decode cX4_init 15 = .ok (.aload_n 0, 1) := by decide +kernel
theorem dX4_init_16 : decode cX4_init 16 = .ok (.new 16, 3) := by decide +kernel
theorem dX4_init_19 : decode cX4_init 19 = .ok (.dup, 1) := by decide +kernel
theorem dX4_init_20 : decode cX4_init 20 = .ok (.invokespecial 18, 3) := by decide +kernel
theorem dX4_init_23 : decode cX4_init 23 = .ok (.putfield 19, 3) := by decide +kernel
theorem dX4_init_26 : decode cX4_init 26 = .ok (.aload_n 0, 1) := by decide +kernel
theorem dX4_init_27 : decode cX4_init 27 = .ok (.new 23, 3) := by decide +kernel
theorem dX4_init_30 : decode cX4_init 30 = .ok (.dup, 1) := by decide +kernel
theorem dX4_init_31 : decode cX4_init 31 = .ok (.invokespecial 25, 3) := by decide +kernel
theorem dX4_init_34 : decode cX4_init 34 = .ok (.putfield 26, 3) := by decide +kernel
theorem dX4_init_37 : decode cX4_init 37 = .ok (.aload_n 0, 1) := by decide +kernel
theorem dX4_init_38 : decode cX4_init 38 = .ok (.new 30, 3) := by decide +kernel
theorem dX4_init_41 : decode cX4_init 41 = .ok (.dup, 1) := by decide +kernel
theorem dX4_init_42 : decode cX4_init 42 = .ok (.invokespecial 32, 3) := by decide +kernel
theorem dX4_init_45 : decode cX4_init 45 = .ok (.putfield 33, 3) := by decide +kernel
theorem dX4_init_48 : decode cX4_init 48 = .ok (.aload_n 0, 1) := by decide +kernel
theorem dX4_init_49 : decode cX4_init 49 = .ok (.iconst 5, 1) := by decide +kernel
theorem dX4_init_50 : decode cX4_init 50 = .ok (.putfield 37, 3) := by decide +kernel
theorem dX4_init_53 : decode cX4_init 53 = .ok (.aload_n 0, 1) := by decide +kernel
theorem dX4_init_54 : decode cX4_init 54 = .ok (.sipush 500, 3) := by decide +kernel
theorem dX4_init_57 : decode cX4_init 57 = .ok (.putfield 41, 3) := by decide +kernel
theorem dX4_init_60 : decode cX4_init 60 = .ok (.aload_n 0, 1) := by decide +kernel
theorem dX4_init_61 : decode cX4_init 61 = .ok (.iconst 1, 1) := by decide +kernel
theorem dX4_init_62 : decode cX4_init 62 = .ok (.putfield 44, 3) := by decide +kernel
theorem dX4_init_65 : decode cX4_init 65 = .ok (.aload_n 0, 1) := by decide +kernel
theorem dX4_init_66 : decode cX4_init 66 = .ok (.iconst 1, 1) := by decide +kernel
theorem dX4_init_67 : decode cX4_init 67 = .ok (.putfield 47, 3) := by decide +kernel
theorem dX4_init_70 : decode cX4_init 70 = .ok (.return_, 1) := by decide +kernel
theorem dX4_measure_0 : decode cX4_measure 0 = .ok (.iload_n 1, 1) := by decide +kernel
theorem dX4_measure_1 : decode cX4_measure 1 = .ok (.invokestatic 51, 3) := by decide +kernel
theorem dX4_measure_4 : decode cX4_measure 4 = .ok (.ifCond .eq 32, 3) := by decide +kernel
theorem dX4_measure_7 : decode cX4_measure 7 = .ok (.iload_n 2, 1) := by decide +kernel
theorem dX4_measure_8 : decode cX4_measure 8 = .ok (.invokestatic 51, 3) := by decide +kernel
theorem dX4_measure_11 : decode cX4_measure 11 = .ok (.ifCond .eq 25, 3) := by decide +kernel
theorem dX4_measure_14 : decode cX4_measure 14 = .ok (.iload_n 3, 1) := by decide +kernel
theorem dX4_measure_15 : decode cX4_measure 15 = .ok (.iconst 0, 1) := by decide +kernel
theorem dX4_measure_16 : decode cX4_measure 16 = .ok (.bipush 50, 2) := by decide +kernel
theorem dX4_measure_18 : decode cX4_measure 18 = .ok (.invokestatic 55, 3) := by decide +kernel
theorem dX4_measure_21 : decode cX4_measure 21 = .ok (.ifCond .eq 15, 3) := by decide +kernel
theorem dX4_measure_24 : decode cX4_measure 24 = .ok (.iload 4, 2) := by decide +kernel
theorem dX4_measure_26 : decode cX4_measure 26 = .ok (.iconst 1, 1) := by decide +kernel
theorem dX4_measure_27 : decode cX4_measure 27 = .ok (.sipush 2000, 3) := by decide +kernel
theorem dX4_measure_30 : decode cX4_measure 30 = .ok (.invokestatic 55, 3) := by decide +kernel
theorem dX4_measure_33 : decode cX4_measure 33 = .ok (.ifCond .ne 5, 3) := by decide +kernel
theorem dX4_measure_36 : decode cX4_measure 36 = .ok (.iconst 0, 1) := by decide +kernel
theorem dX4_measure_37 : decode cX4_measure 37 = .ok (.ireturn, 1) := by decide +kernel
theorem dX4_measure_38 : decode cX4_measure 38 = .ok (.aload_n 0, 1) := by decide +kernel
theorem dX4_measure_39 : decode cX4_measure 39 = .ok (.getfield 10, 3) := by decide +kernel
theorem dX4_measure_42 : decode cX4_measure 42 = .ok (.iload_n 1, 1) := by decide +kernel
theorem dX4_measure_43 : decode cX4_measure 43 = .ok (.iload_n 2, 1) := by decide +kernel
theorem dX4_measure_44 : decode cX4_measure 44 = .ok (.iload_n 3, 1) := by decide +kernel
theorem dX4_measure_45 : decode cX4_measure 45 = .ok (.iload 4, 2) := by decide +kernel
theorem dX4_measure_47 : decode cX4_measure 47 = .ok (.invokevirtual 59, 3) := by decide +kernel
theorem dX4_measure_50 : decode cX4_measure 50 = .ok (.iconst 1, 1) := by decide +kernel
theorem dX4_measure_51 : decode cX4_measure 51 = .ok (.ireturn, 1) := by decide +kernel
theorem dX4_drum_0 : decode cX4_drum 0 = .ok (.iload_n 1, 1) := by decide +kernel
theorem dX4_drum_1 : decode cX4_drum 1 = .ok (.iconst 0, 1) := by decide +kernel
theorem dX4_drum_2 : decode cX4_drum 2 = .ok (.bipush 40, 2) := by decide +kernel
theorem dX4_drum_4 : decode cX4_drum 4 = .ok (.invokestatic 55, 3) := by decide +kernel
theorem dX4_drum_7 : decode cX4_drum 7 = .ok (.ifCond .eq 50, 3) := by decide +kernel
theorem dX4_drum_10 : decode cX4_drum 10 = .ok (.iload_n 2, 1) := by decide +kernel
theorem dX4_drum_11 : decode cX4_drum 11 = .ok (.invokestatic 63, 3) := by decide +kernel
theorem dX4_drum_14 : decode cX4_drum 14 = .ok (.ifCond .eq 43, 3) := by decide +kernel
theorem dX4_drum_17 : decode cX4_drum 17 = .ok (.iload_n 3, 1) := by decide +kernel
theorem dX4_drum_18 : decode cX4_drum 18 = .ok (.invokestatic 63, 3) := by decide +kernel
theorem dX4_drum_21 : decode cX4_drum 21 = .ok (.ifCond .eq 36, 3) := by decide +kernel
theorem dX4_drum_24 : decode cX4_drum 24 = .ok (.iload 4, 2) := by decide +kernel
theorem dX4_drum_26 : decode cX4_drum 26 = .ok (.iconst 1, 1) := by decide +kernel
theorem dX4_drum_27 : decode cX4_drum 27 = .ok (.sipush 10000, 3) := by decide +kernel
theorem dX4_drum_30 : decode cX4_drum 30 = .ok (.invokestatic 55, 3) := by decide +kernel
theorem dX4_drum_33 : decode cX4_drum 33 = .ok (.ifCond .eq 24, 3) := by decide +kernel
theorem dX4_drum_36 : decode cX4_drum 36 = .ok (.iload 5, 2) := by decide +kernel
theorem dX4_drum_38 : decode cX4_drum 38 = .ok (.iconst 0, 1) := by decide +kernel
theorem dX4_drum_39 : decode cX4_drum 39 = .ok (.ldc 66, 2) := by decide +kernel
theorem dX4_drum_41 : decode cX4_drum 41 = .ok (.invokestatic 55, 3) := by decide +kernel
theorem dX4_drum_44 : decode cX4_drum 44 = .ok (.ifCond .eq 13, 3) := by decide +kernel
theorem dX4_drum_47 : decode cX4_drum 47 = .ok (.aload_n 0, 1) := by decide +kernel
theorem dX4_drum_48 : decode cX4_drum 48 = .ok (.getfield 10, 3) := by decide +kernel
theorem dX4_drum_51 : decode cX4_drum 51 = .ok (.invokevirtual 67, 3) := by decide +kernel
theorem dX4_drum_54 : decode cX4_drum 54 = .ok (.ifCond .ne 5, 3) := by decide +kernel
theorem dX4_drum_57 : decode cX4_drum 57 = .ok (.iconst (-1), 1) := by decide +kernel
theorem dX4_drum_58 : decode cX4_drum 58 = .ok (.ireturn, 1) := by decide +kernel
theorem dX4_drum_59 : decode cX4_drum 59 = .ok (.aload_n 0, 1) := by decide +kernel
theorem dX4_drum_60 : decode cX4_drum 60 = .ok (.iconst 1, 1) := by decide +kernel
theorem dX4_drum_61 : decode cX4_drum 61 = .ok (.putfield 47, 3) := by decide +kernel
theorem dX4_drum_64 : decode cX4_drum 64 = .ok (.aload_n 0, 1) := by decide +kernel
theorem dX4_drum_65 : decode cX4_drum 65 = .ok (.getfield 10, 3) := by decide +kernel
theorem dX4_drum_68 : decode cX4_drum 68 = .ok (.iload_n 1, 1) := by decide +kernel
theorem dX4_drum_69 : decode cX4_drum 69 = .ok (.iload_n 2, 1) := by decide +kernel
theorem dX4_drum_70 : decode cX4_drum 70 = .ok (.iload_n 3, 1) := by decide +kernel
theorem dX4_drum_71 : decode cX4_drum 71 = .ok (.iload 4, 2) := by decide +kernel
theorem dX4_drum_73 : decode cX4_drum 73 = .ok (.iload 5, 2) := by decide +kernel
theorem dX4_drum_75 : decode cX4_drum 75 = .ok (.invokevirtual 71, 3) := by decide +kernel
theorem dX4_drum_78 : decode cX4_drum 78 = .ok (.ireturn, 1) := by decide +kernel
theorem dX4_set_0 : decode cX4_set 0 = .ok (.iload_n 1, 1) := by decide +kernel
theorem dX4_set_1 : decode cX4_set 1 = .ok (.iconst 0, 1) := by decide +kernel
theorem dX4_set_2 : decode cX4_set 2 = .ok (.bipush 50, 2) := by decide +kernel
theorem dX4_set_4 : decode cX4_set 4 = .ok (.invokestatic 55, 3) := by decide +kernel
theorem dX4_set_7 : decode cX4_set 7 = .ok (.ifCond .eq 23, 3) := by decide +kernel
theorem dX4_set_10 : decode cX4_set 10 = .ok (.iload_n 2, 1) := by decide +kernel
theorem dX4_set_11 : decode cX4_set 11 = .ok (.iconst 1, 1) := by decide +kernel
theorem dX4_set_12 : decode cX4_set 12 = .ok (.sipush 10000, 3) := by decide +kernel
theorem dX4_set_15 : decode cX4_set 15 = .ok (.invokestatic 55, 3) := by decide +kernel
theorem dX4_set_18 : decode cX4_set 18 = .ok (.ifCond .eq 12, 3) := by decide +kernel
theorem dX4_set_21 : decode cX4_set 21 = .ok (.iload_n 3, 1) := by decide +kernel
theorem dX4_set_22 : decode cX4_set 22 = .ok (.iconst 1, 1) := by decide +kernel
theorem dX4_set_23 : decode cX4_set 23 = .ok (.iconst 5, 1) := by decide +kernel
theorem dX4_set_24 : decode cX4_set 24 = .ok (.invokestatic 55, 3) := by decide +kernel
theorem dX4_set_27 : decode cX4_set 27 = .ok (.ifCond .ne 5, 3) := by decide +kernel
theorem dX4_set_30 : decode cX4_set 30 = .ok (.iconst 0, 1) := by decide +kernel
theorem dX4_set_31 : decode cX4_set 31 = .ok (.ireturn, 1) := by decide +kernel
theorem dX4_set_32 : decode cX4_set 32 = .ok (.iload_n 1, 1) := by decide +kernel
theorem dX4_set_33 : decode cX4_set 33 = .ok (.aload_n 0, 1) := by decide +kernel
theorem dX4_set_34 : decode cX4_set 34 = .ok (.getfield 37, 3) := by decide +kernel
theorem dX4_set_37 : decode cX4_set 37 = .ok (.if_icmp .eq 8, 3) := by decide +kernel
theorem dX4_set_40 : decode cX4_set 40 = .ok (.aload_n 0, 1) := by decide +kernel
theorem dX4_set_41 : decode cX4_set 41 = .ok (.iconst 1, 1) := by decide +kernel
theorem dX4_set_42 : decode cX4_set 42 = .ok (.putfield 47, 3) := by decide +kernel
theorem dX4_set_45 : decode cX4_set 45 = .ok (.aload_n 0, 1) := by decide +kernel
theorem dX4_set_46 : decode cX4_set 46 = .ok (.iload_n 1, 1) := by decide +kernel
theorem dX4_set_47 : decode cX4_set 47 = .ok (.putfield 37, 3) := by decide +kernel
theorem dX4_set_50 : decode cX4_set 50 = .ok (.aload_n 0, 1) := by decide +kernel
theorem dX4_set_51 : decode cX4_set 51 = .ok (.iload_n 2, 1) := by decide +kernel
theorem dX4_set_52 : decode cX4_set 52 = .ok (.putfield 41, 3) := by decide +kernel
theorem dX4_set_55 : decode cX4_set 55 = .ok (.aload_n 0, 1) := by decide +kernel
theorem dX4_set_56 : decode cX4_set 56 = .ok (.iload_n 3, 1) := by decide +kernel
theorem dX4_set_57 : decode cX4_set 57 = .ok (.putfield 44, 3) := by decide +kernel
theorem dX4_set_60 : decode cX4_set 60 = .ok (.iconst 1, 1) := by decide +kernel
theorem dX4_set_61 : decode cX4_set 61 = .ok (.ireturn, 1) := by decide +kernel
theorem dX4_column_0 : decode cX4_column 0 = .ok (.iload_n 1, 1) := by decide +kernel
theorem dX4_column_1 : decode cX4_column 1 = .ok (.iconst 1, 1) := by decide +kernel
theorem dX4_column_2 : decode cX4_column 2 = .ok (.iconst 5, 1) := by decide +kernel
theorem dX4_column_3 : decode cX4_column 3 = .ok (.invokestatic 55, 3) := by decide +kernel
theorem dX4_column_6 : decode cX4_column 6 = .ok (.ifCond .eq 28, 3) := by decide +kernel
theorem dX4_column_9 : decode cX4_column 9 = .ok (.iload_n 2, 1) := by decide +kernel
theorem dX4_column_10 : decode cX4_column 10 = .ok (.invokestatic 75, 3) := by decide +kernel
theorem dX4_column_13 : decode cX4_column 13 = .ok (.ifCond .eq 21, 3) := by decide +kernel
theorem dX4_column_16 : decode cX4_column 16 = .ok (.iload_n 3, 1) := by decide +kernel
theorem dX4_column_17 : decode cX4_column 17 = .ok (.invokestatic 75, 3) := by decide +kernel
theorem dX4_column_20 : decode cX4_column 20 = .ok (.ifCond .eq 14, 3) := by decide +kernel
theorem dX4_column_23 : decode cX4_column 23 = .ok (.aload_n 0, 1) := by decide +kernel
theorem dX4_column_24 : decode cX4_column 24 = .ok (.getfield 19, 3) := by decide +kernel
theorem dX4_column_27 : decode cX4_column 27 = .ok (.iload_n 1, 1) := by decide +kernel
theorem dX4_column_28 : decode cX4_column 28 = .ok (.invokevirtual 78, 3) := by decide +kernel
theorem dX4_column_31 : decode cX4_column 31 = .ok (.ifCond .ne 5, 3) := by decide +kernel
theorem dX4_column_34 : decode cX4_column 34 = .ok (.iconst (-1), 1) := by decide +kernel
theorem dX4_column_35 : decode cX4_column 35 = .ok (.ireturn, 1) := by decide +kernel
theorem dX4_column_36 : decode cX4_column 36 = .ok (.aload_n 0, 1) := by decide +kernel
theorem dX4_column_37 : decode cX4_column 37 = .ok (.iconst 1, 1) := by decide +kernel
theorem dX4_column_38 : decode cX4_column 38 = .ok (.putfield 47, 3) := by decide +kernel
theorem dX4_column_41 : decode cX4_column 41 = .ok (.aload_n 0, 1) := by decide +kernel
theorem dX4_column_42 : decode cX4_column 42 = .ok (.getfield 19, 3) := by decide +kernel
theorem dX4_column_45 : decode cX4_column 45 = .ok (.iload_n 1, 1) := by decide +kernel
theorem dX4_column_46 : decode cX4_column 46 = .ok (.iload_n 2, 1) := by decide +kernel
theorem dX4_column_47 : decode cX4_column 47 = .ok (.iload_n 3, 1) := by decide +kernel
theorem dX4_column_48 : decode cX4_column 48 = .ok (.invokevirtual 80, 3) := by decide +kernel
theorem dX4_column_51 : decode cX4_column 51 = .ok (.ireturn, 1) := by decide +kernel
theorem dX4_turn_0 : decode cX4_turn 0 = .ok (.aload_n 0, 1) := by decide +kernel
theorem dX4_turn_1 : decode cX4_turn 1 = .ok (.getfield 10, 3) := by decide +kernel
theorem dX4_turn_4 : decode cX4_turn 4 = .ok (.iload_n 1, 1) := by decide +kernel
theorem dX4_turn_5 : decode cX4_turn 5 = .ok (.iload_n 2, 1) := by decide +kernel
theorem dX4_turn_6 : decode cX4_turn 6 = .ok (.aload_n 0, 1) := by decide +kernel
theorem dX4_turn_7 : decode cX4_turn 7 = .ok (.getfield 37, 3) := by decide +kernel
theorem dX4_turn_10 : decode cX4_turn 10 = .ok (.invokevirtual 83, 3) := by decide +kernel
theorem dX4_turn_13 : decode cX4_turn 13 = .ok (.ireturn, 1) := by decide +kernel
theorem dX4_fits_0 : decode cX4_fits 0 = .ok (.aload_n 0, 1) := by decide +kernel
theorem dX4_fits_1 : decode cX4_fits 1 = .ok (.getfield 10, 3) := by decide +kernel
theorem dX4_fits_4 : decode cX4_fits 4 = .ok (.iload_n 1, 1) := by decide +kernel
theorem dX4_fits_5 : decode cX4_fits 5 = .ok (.invokevirtual 86, 3) := by decide +kernel
theorem dX4_fits_8 : decode cX4_fits 8 = .ok (.ifCond .eq 14, 3) := by decide +kernel
theorem dX4_fits_11 : decode cX4_fits 11 = .ok (.aload_n 0, 1) := by decide +kernel
theorem dX4_fits_12 : decode cX4_fits 12 = .ok (.getfield 19, 3) := by decide +kernel
theorem dX4_fits_15 : decode cX4_fits 15 = .ok (.iload_n 2, 1) := by decide +kernel
theorem dX4_fits_16 : decode cX4_fits 16 = .ok (.invokevirtual 89, 3) := by decide +kernel
theorem dX4_fits_19 : decode cX4_fits 19 = .ok (.ifCond .ne 5, 3) := by decide +kernel
theorem dX4_fits_22 : decode cX4_fits 22 = .ok (.iconst (-1), 1) := by decide +kernel
theorem dX4_fits_23 : decode cX4_fits 23 = .ok (.ireturn, 1) := by decide +kernel
theorem dX4_fits_24 : decode cX4_fits 24 = .ok (.iconst 0, 1) := by decide +kernel
theorem dX4_fits_25 : decode cX4_fits 25 = .ok (.istore_n 3, 1) := by decide +kernel
theorem dX4_fits_26 : decode cX4_fits 26 = .ok (.aload_n 0, 1) := by decide +kernel
theorem dX4_fits_27 : decode cX4_fits 27 = .ok (.iload_n 1, 1) := by decide +kernel
theorem dX4_fits_28 : decode cX4_fits 28 = .ok (.iload_n 2, 1) := by decide +kernel
theorem dX4_fits_29 : decode cX4_fits 29 = .ok (.invokevirtual 90, 3) := by decide +kernel
theorem dX4_fits_32 : decode cX4_fits 32 = .ok (.ifCond .eq 7, 3) := by decide +kernel
theorem dX4_fits_35 : decode cX4_fits 35 = .ok (.iload_n 3, 1) := by decide +kernel
theorem dX4_fits_36 : decode cX4_fits 36 = .ok (.iconst 1, 1) := by decide +kernel
theorem dX4_fits_37 : decode cX4_fits 37 = .ok (.ior, 1) := by decide +kernel
theorem dX4_fits_38 : decode cX4_fits 38 = .ok (.istore_n 3, 1) := by decide +kernel
theorem dX4_fits_39 : decode cX4_fits 39 = .ok (.aload_n 0, 1) := by decide +kernel
theorem dX4_fits_40 : decode cX4_fits 40 = .ok (.iload_n 1, 1) := by decide +kernel
theorem dX4_fits_41 : decode cX4_fits 41 = .ok (.iload_n 2, 1) := by decide +kernel
theorem dX4_fits_42 : decode cX4_fits 42 = .ok (.invokevirtual 94, 3) := by decide +kernel
theorem dX4_fits_45 : decode cX4_fits 45 = .ok (.ifCond .eq 7, 3) := by decide +kernel
theorem dX4_fits_48 : decode cX4_fits 48 = .ok (.iload_n 3, 1) := by decide +kernel
theorem dX4_fits_49 : decode cX4_fits 49 = .ok (.iconst 2, 1) := by decide +kernel
theorem dX4_fits_50 : decode cX4_fits 50 = .ok (.ior, 1) := by decide +kernel
theorem dX4_fits_51 : decode cX4_fits 51 = .ok (.istore_n 3, 1) := by decide +kernel
theorem dX4_fits_52 : decode cX4_fits 52 = .ok (.iload_n 3, 1) := by decide +kernel
theorem dX4_fits_53 : decode cX4_fits 53 = .ok (.ireturn, 1) := by decide +kernel
theorem dX4_hand_0 : decode cX4_hand 0 = .ok (.aload_n 0, 1) := by decide +kernel
theorem dX4_hand_1 : decode cX4_hand 1 = .ok (.getfield 19, 3) := by decide +kernel
theorem dX4_hand_4 : decode cX4_hand 4 = .ok (.iload_n 1, 1) := by decide +kernel
theorem dX4_hand_5 : decode cX4_hand 5 = .ok (.invokevirtual 97, 3) := by decide +kernel
theorem dX4_hand_8 : decode cX4_hand 8 = .ok (.ifCond .eq 25, 3) := by decide +kernel
theorem dX4_hand_11 : decode cX4_hand 11 = .ok (.iload_n 2, 1) := by decide +kernel
theorem dX4_hand_12 : decode cX4_hand 12 = .ok (.iconst (-1), 1) := by decide +kernel
theorem dX4_hand_13 : decode cX4_hand 13 = .ok (.if_icmp .eq 22, 3) := by decide +kernel
theorem dX4_hand_16 : decode cX4_hand 16 = .ok (.iload_n 2, 1) := by decide +kernel
theorem dX4_hand_17 : decode cX4_hand 17 = .ok (.bipush 10, 2) := by decide +kernel
theorem dX4_hand_19 : decode cX4_hand 19 = .ok (.if_icmp .eq 16, 3) := by decide +kernel
theorem dX4_hand_22 : decode cX4_hand 22 = .ok (.aload_n 0, 1) := by decide +kernel
theorem dX4_hand_23 : decode cX4_hand 23 = .ok (.getfield 10, 3) := by decide +kernel
theorem dX4_hand_26 : decode cX4_hand 26 = .ok (.iload_n 2, 1) := by decide +kernel
theorem dX4_hand_27 : decode cX4_hand 27 = .ok (.invokevirtual 86, 3) := by decide +kernel
theorem dX4_hand_30 : decode cX4_hand 30 = .ok (.ifCond .ne 5, 3) := by decide +kernel
theorem dX4_hand_33 : decode cX4_hand 33 = .ok (.iconst 0, 1) := by decide +kernel
theorem dX4_hand_34 : decode cX4_hand 34 = .ok (.ireturn, 1) := by decide +kernel
theorem dX4_hand_35 : decode cX4_hand 35 = .ok (.iload_n 2, 1) := by decide +kernel
theorem dX4_hand_36 : decode cX4_hand 36 = .ok (.aload_n 0, 1) := by decide +kernel
theorem dX4_hand_37 : decode cX4_hand 37 = .ok (.getfield 26, 3) := by decide +kernel
theorem dX4_hand_40 : decode cX4_hand 40 = .ok (.iload_n 1, 1) := by decide +kernel
theorem dX4_hand_41 : decode cX4_hand 41 = .ok (.invokevirtual 100, 3) := by decide +kernel
theorem dX4_hand_44 : decode cX4_hand 44 = .ok (.if_icmp .eq 8, 3) := by decide +kernel
theorem dX4_hand_47 : decode cX4_hand 47 = .ok (.aload_n 0, 1) := by decide +kernel
theorem dX4_hand_48 : decode cX4_hand 48 = .ok (.iconst 1, 1) := by decide +kernel
theorem dX4_hand_49 : decode cX4_hand 49 = .ok (.putfield 47, 3) := by decide +kernel
theorem dX4_hand_52 : decode cX4_hand 52 = .ok (.aload_n 0, 1) := by decide +kernel
theorem dX4_hand_53 : decode cX4_hand 53 = .ok (.getfield 26, 3) := by decide +kernel
theorem dX4_hand_56 : decode cX4_hand 56 = .ok (.iload_n 1, 1) := by decide +kernel
theorem dX4_hand_57 : decode cX4_hand 57 = .ok (.iload_n 2, 1) := by decide +kernel
theorem dX4_hand_58 : decode cX4_hand 58 = .ok (.invokevirtual 104, 3) := by decide +kernel
theorem dX4_hand_61 : decode cX4_hand 61 = .ok (.iconst 1, 1) := by decide +kernel
theorem dX4_hand_62 : decode cX4_hand 62 = .ok (.ireturn, 1) := by decide +kernel
theorem dX4_not_0 : decode cX4_not 0 = .ok (.aload_n 0, 1) := by decide +kernel
theorem dX4_not_1 : decode cX4_not 1 = .ok (.getfield 19, 3) := by decide +kernel
theorem dX4_not_4 : decode cX4_not 4 = .ok (.iload_n 1, 1) := by decide +kernel
theorem dX4_not_5 : decode cX4_not 5 = .ok (.invokevirtual 97, 3) := by decide +kernel
theorem dX4_not_8 : decode cX4_not 8 = .ok (.ifCond .eq 27, 3) := by decide +kernel
theorem dX4_not_11 : decode cX4_not 11 = .ok (.aload_n 0, 1) := by decide +kernel
theorem dX4_not_12 : decode cX4_not 12 = .ok (.getfield 10, 3) := by decide +kernel
theorem dX4_not_15 : decode cX4_not 15 = .ok (.iload_n 2, 1) := by decide +kernel
theorem dX4_not_16 : decode cX4_not 16 = .ok (.invokevirtual 86, 3) := by decide +kernel
theorem dX4_not_19 : decode cX4_not 19 = .ok (.ifCond .eq 16, 3) := by decide +kernel
theorem dX4_not_22 : decode cX4_not 22 = .ok (.aload_n 0, 1) := by decide +kernel
theorem dX4_not_23 : decode cX4_not 23 = .ok (.getfield 26, 3) := by decide +kernel
theorem dX4_not_26 : decode cX4_not 26 = .ok (.iload_n 1, 1) := by decide +kernel
theorem dX4_not_27 : decode cX4_not 27 = .ok (.iload_n 2, 1) := by decide +kernel
theorem dX4_not_28 : decode cX4_not 28 = .ok (.invokevirtual 108, 3) := by decide +kernel
theorem dX4_not_31 : decode cX4_not 31 = .ok (.iload_n 3, 1) := by decide +kernel
theorem dX4_not_32 : decode cX4_not 32 = .ok (.if_icmp .ne 5, 3) := by decide +kernel
theorem dX4_not_35 : decode cX4_not 35 = .ok (.iconst 0, 1) := by decide +kernel
theorem dX4_not_36 : decode cX4_not 36 = .ok (.ireturn, 1) := by decide +kernel
theorem dX4_not_37 : decode cX4_not 37 = .ok (.aload_n 0, 1) := by decide +kernel
theorem dX4_not_38 : decode cX4_not 38 = .ok (.getfield 26, 3) := by decide +kernel
theorem dX4_not_41 : decode cX4_not 41 = .ok (.iload_n 1, 1) := by decide +kernel
theorem dX4_not_42 : decode cX4_not 42 = .ok (.iload_n 2, 1) := by decide +kernel
theorem dX4_not_43 : decode cX4_not 43 = .ok (.iload_n 3, 1) := by decide +kernel
theorem dX4_not_44 : decode cX4_not 44 = .ok (.invokevirtual 111, 3) := by decide +kernel
theorem dX4_not_47 : decode cX4_not 47 = .ok (.aload_n 0, 1) := by decide +kernel
theorem dX4_not_48 : decode cX4_not 48 = .ok (.iconst 1, 1) := by decide +kernel
theorem dX4_not_49 : decode cX4_not 49 = .ok (.putfield 47, 3) := by decide +kernel
theorem dX4_not_52 : decode cX4_not 52 = .ok (.iconst 1, 1) := by decide +kernel
theorem dX4_not_53 : decode cX4_not 53 = .ok (.ireturn, 1) := by decide +kernel
theorem dX4_least_0 : decode cX4_least 0 = .ok (.aload_n 0, 1) := by decide +kernel
theorem dX4_least_1 : decode cX4_least 1 = .ok (.invokevirtual 115, 3) := by decide +kernel
theorem dX4_least_4 : decode cX4_least 4 = .ok (.aload_n 0, 1) := by decide +kernel
theorem dX4_least_5 : decode cX4_least 5 = .ok (.getfield 33, 3) := by decide +kernel
theorem dX4_least_8 : decode cX4_least 8 = .ok (.invokevirtual 118, 3) := by decide +kernel
theorem dX4_least_11 : decode cX4_least 11 = .ok (.ireturn, 1) := by decide +kernel
theorem dX4_ways_0 : decode cX4_ways 0 = .ok (.aload_n 0, 1) := by decide +kernel
theorem dX4_ways_1 : decode cX4_ways 1 = .ok (.invokevirtual 115, 3) := by decide +kernel
theorem dX4_ways_4 : decode cX4_ways 4 = .ok (.aload_n 0, 1) := by decide +kernel
theorem dX4_ways_5 : decode cX4_ways 5 = .ok (.getfield 33, 3) := by decide +kernel
theorem dX4_ways_8 : decode cX4_ways 8 = .ok (.invokevirtual 122, 3) := by decide +kernel
theorem dX4_ways_11 : decode cX4_ways 11 = .ok (.lreturn, 1) := by decide +kernel
theorem dX4_first_0 : decode cX4_first 0 = .ok (.aload_n 0, 1) := by decide +kernel
theorem dX4_first_1 : decode cX4_first 1 = .ok (.getfield 19, 3) := by decide +kernel
theorem dX4_first_4 : decode cX4_first 4 = .ok (.iload_n 1, 1) := by decide +kernel
theorem dX4_first_5 : decode cX4_first 5 = .ok (.invokevirtual 97, 3) := by decide +kernel
theorem dX4_first_8 : decode cX4_first 8 = .ok (.ifCond .ne 5, 3) := by decide +kernel
theorem dX4_first_11 : decode cX4_first 11 = .ok (.iconst (-1), 1) := by decide +kernel
theorem dX4_first_12 : decode cX4_first 12 = .ok (.ireturn, 1) := by decide +kernel
theorem dX4_first_13 : decode cX4_first 13 = .ok (.aload_n 0, 1) := by decide +kernel
theorem dX4_first_14 : decode cX4_first 14 = .ok (.invokevirtual 115, 3) := by decide +kernel
theorem dX4_first_17 : decode cX4_first 17 = .ok (.aload_n 0, 1) := by decide +kernel
theorem dX4_first_18 : decode cX4_first 18 = .ok (.getfield 33, 3) := by decide +kernel
theorem dX4_first_21 : decode cX4_first 21 = .ok (.iload_n 1, 1) := by decide +kernel
theorem dX4_first_22 : decode cX4_first 22 = .ok (.invokevirtual 126, 3) := by decide +kernel
theorem dX4_first_25 : decode cX4_first 25 = .ok (.ireturn, 1) := by decide +kernel
theorem dX4_sure_0 : decode cX4_sure 0 = .ok (.aload_n 0, 1) := by decide +kernel
theorem dX4_sure_1 : decode cX4_sure 1 = .ok (.getfield 10, 3) := by decide +kernel
theorem dX4_sure_4 : decode cX4_sure 4 = .ok (.iload_n 1, 1) := by decide +kernel
theorem dX4_sure_5 : decode cX4_sure 5 = .ok (.invokevirtual 86, 3) := by decide +kernel
theorem dX4_sure_8 : decode cX4_sure 8 = .ok (.ifCond .ne 5, 3) := by decide +kernel
theorem dX4_sure_11 : decode cX4_sure 11 = .ok (.iconst (-1), 1) := by decide +kernel
theorem dX4_sure_12 : decode cX4_sure 12 = .ok (.ireturn, 1) := by decide +kernel
theorem dX4_sure_13 : decode cX4_sure 13 = .ok (.aload_n 0, 1) := by decide +kernel
theorem dX4_sure_14 : decode cX4_sure 14 = .ok (.invokevirtual 115, 3) := by decide +kernel
theorem dX4_sure_17 : decode cX4_sure 17 = .ok (.iconst 0, 1) := by decide +kernel
theorem dX4_sure_18 : decode cX4_sure 18 = .ok (.istore_n 2, 1) := by decide +kernel
theorem dX4_sure_19 : decode cX4_sure 19 = .ok (.iload_n 2, 1) := by decide +kernel
theorem dX4_sure_20 : decode cX4_sure 20 = .ok (.aload_n 0, 1) := by decide +kernel
theorem dX4_sure_21 : decode cX4_sure 21 = .ok (.getfield 19, 3) := by decide +kernel
theorem dX4_sure_24 : decode cX4_sure 24 = .ok (.invokevirtual 129, 3) := by decide +kernel
theorem dX4_sure_27 : decode cX4_sure 27 = .ok (.if_icmp .ge 25, 3) := by decide +kernel
theorem dX4_sure_30 : decode cX4_sure 30 = .ok (.aload_n 0, 1) := by decide +kernel
theorem dX4_sure_31 : decode cX4_sure 31 = .ok (.getfield 33, 3) := by decide +kernel
theorem dX4_sure_34 : decode cX4_sure 34 = .ok (.iload_n 2, 1) := by decide +kernel
theorem dX4_sure_35 : decode cX4_sure 35 = .ok (.invokevirtual 132, 3) := by decide +kernel
theorem dX4_sure_38 : decode cX4_sure 38 = .ok (.iconst 1, 1) := by decide +kernel
theorem dX4_sure_39 : decode cX4_sure 39 = .ok (.iload_n 1, 1) := by decide +kernel
theorem dX4_sure_40 : decode cX4_sure 40 = .ok (.ishl, 1) := by decide +kernel
theorem dX4_sure_41 : decode cX4_sure 41 = .ok (.if_icmp .ne 5, 3) := by decide +kernel
theorem dX4_sure_44 : decode cX4_sure 44 = .ok (.iload_n 2, 1) := by decide +kernel
theorem dX4_sure_45 : decode cX4_sure 45 = .ok (.ireturn, 1) := by decide +kernel
theorem dX4_sure_46 : decode cX4_sure 46 = .ok (.iinc 2 1, 3) := by decide +kernel
theorem dX4_sure_49 : decode cX4_sure 49 = .ok (.goto (-30), 3) := by decide +kernel
theorem dX4_sure_52 : decode cX4_sure 52 = .ok (.iconst (-1), 1) := by decide +kernel
theorem dX4_sure_53 : decode cX4_sure 53 = .ok (.ireturn, 1) := by decide +kernel
theorem dX4_open_0 : decode cX4_open 0 = .ok (.aload_n 0, 1) := by decide +kernel
theorem dX4_open_1 : decode cX4_open 1 = .ok (.getfield 10, 3) := by decide +kernel
theorem dX4_open_4 : decode cX4_open 4 = .ok (.iload_n 1, 1) := by decide +kernel
theorem dX4_open_5 : decode cX4_open 5 = .ok (.invokevirtual 86, 3) := by decide +kernel
theorem dX4_open_8 : decode cX4_open 8 = .ok (.ifCond .ne 5, 3) := by decide +kernel
theorem dX4_open_11 : decode cX4_open 11 = .ok (.iconst 0, 1) := by decide +kernel
theorem dX4_open_12 : decode cX4_open 12 = .ok (.ireturn, 1) := by decide +kernel
theorem dX4_open_13 : decode cX4_open 13 = .ok (.aload_n 0, 1) := by decide +kernel
theorem dX4_open_14 : decode cX4_open 14 = .ok (.invokevirtual 115, 3) := by decide +kernel
theorem dX4_open_17 : decode cX4_open 17 = .ok (.iconst 0, 1) := by decide +kernel
theorem dX4_open_18 : decode cX4_open 18 = .ok (.istore_n 2, 1) := by decide +kernel
theorem dX4_open_19 : decode cX4_open 19 = .ok (.iconst 0, 1) := by decide +kernel
theorem dX4_open_20 : decode cX4_open 20 = .ok (.istore_n 3, 1) := by decide +kernel
theorem dX4_open_21 : decode cX4_open 21 = .ok (.iload_n 3, 1) := by decide +kernel
theorem dX4_open_22 : decode cX4_open 22 = .ok (.aload_n 0, 1) := by decide +kernel
theorem dX4_open_23 : decode cX4_open 23 = .ok (.getfield 19, 3) := by decide +kernel
theorem dX4_open_26 : decode cX4_open 26 = .ok (.invokevirtual 129, 3) := by decide +kernel
theorem dX4_open_29 : decode cX4_open 29 = .ok (.if_icmp .ge 30, 3) := by decide +kernel
theorem dX4_open_32 : decode cX4_open 32 = .ok (.aload_n 0, 1) := by decide +kernel
theorem dX4_open_33 : decode cX4_open 33 = .ok (.getfield 33, 3) := by decide +kernel
theorem dX4_open_36 : decode cX4_open 36 = .ok (.iload_n 3, 1) := by decide +kernel
theorem dX4_open_37 : decode cX4_open 37 = .ok (.invokevirtual 132, 3) := by decide +kernel
theorem dX4_open_40 : decode cX4_open 40 = .ok (.iload_n 1, 1) := by decide +kernel
theorem dX4_open_41 : decode cX4_open 41 = .ok (.invokestatic 135, 3) := by decide +kernel
theorem dX4_open_44 : decode cX4_open 44 = .ok (.ifCond .eq 9, 3) := by decide +kernel
theorem dX4_open_47 : decode cX4_open 47 = .ok (.iload_n 2, 1) := by decide +kernel
theorem dX4_open_48 : decode cX4_open 48 = .ok (.iconst 1, 1) := by decide +kernel
theorem dX4_open_49 : decode cX4_open 49 = .ok (.iload_n 3, 1) := by decide +kernel
theorem dX4_open_50 : decode cX4_open 50 = .ok (.ishl, 1) := by decide +kernel
theorem dX4_open_51 : decode cX4_open 51 = .ok (.ior, 1) := by decide +kernel
theorem dX4_open_52 : decode cX4_open 52 = .ok (.istore_n 2, 1) := by decide +kernel
theorem dX4_open_53 : decode cX4_open 53 = .ok (.iinc 3 1, 3) := by decide +kernel
theorem dX4_open_56 : decode cX4_open 56 = .ok (.goto (-35), 3) := by decide +kernel
theorem dX4_open_59 : decode cX4_open 59 = .ok (.iload_n 2, 1) := by decide +kernel
theorem dX4_open_60 : decode cX4_open 60 = .ok (.ireturn, 1) := by decide +kernel
theorem dX4_bears_0 : decode cX4_bears 0 = .ok (.aload_n 0, 1) := by decide +kernel
theorem dX4_bears_1 : decode cX4_bears 1 = .ok (.getfield 10, 3) := by decide +kernel
theorem dX4_bears_4 : decode cX4_bears 4 = .ok (.iload_n 1, 1) := by decide +kernel
theorem dX4_bears_5 : decode cX4_bears 5 = .ok (.invokevirtual 86, 3) := by decide +kernel
theorem dX4_bears_8 : decode cX4_bears 8 = .ok (.ifCond .ne 5, 3) := by decide +kernel
theorem dX4_bears_11 : decode cX4_bears 11 = .ok (.iconst (-1), 1) := by decide +kernel
theorem dX4_bears_12 : decode cX4_bears 12 = .ok (.ireturn, 1) := by decide +kernel
theorem dX4_bears_13 : decode cX4_bears 13 = .ok (.aload_n 0, 1) := by decide +kernel
theorem dX4_bears_14 : decode cX4_bears 14 = .ok (.invokevirtual 115, 3) := by decide +kernel
theorem dX4_bears_17 : decode cX4_bears 17 = .ok (.iconst 0, 1) := by decide +kernel
theorem dX4_bears_18 : decode cX4_bears 18 = .ok (.istore_n 2, 1) := by decide +kernel
theorem dX4_bears_19 : decode cX4_bears 19 = .ok (.iload_n 2, 1) := by decide +kernel
theorem dX4_bears_20 : decode cX4_bears 20 = .ok (.aload_n 0, 1) := by decide +kernel
theorem dX4_bears_21 : decode cX4_bears 21 = .ok (.getfield 19, 3) := by decide +kernel
theorem dX4_bears_24 : decode cX4_bears 24 = .ok (.invokevirtual 129, 3) := by decide +kernel
theorem dX4_bears_27 : decode cX4_bears 27 = .ok (.if_icmp .ge 27, 3) := by decide +kernel
theorem dX4_bears_30 : decode cX4_bears 30 = .ok (.aload_n 0, 1) := by decide +kernel
theorem dX4_bears_31 : decode cX4_bears 31 = .ok (.getfield 33, 3) := by decide +kernel
theorem dX4_bears_34 : decode cX4_bears 34 = .ok (.iload_n 2, 1) := by decide +kernel
theorem dX4_bears_35 : decode cX4_bears 35 = .ok (.invokevirtual 126, 3) := by decide +kernel
theorem dX4_bears_38 : decode cX4_bears 38 = .ok (.iload_n 1, 1) := by decide +kernel
theorem dX4_bears_39 : decode cX4_bears 39 = .ok (.if_icmp .ne 9, 3) := by decide +kernel
theorem dX4_bears_42 : decode cX4_bears 42 = .ok (.aload_n 0, 1) := by decide +kernel
theorem dX4_bears_43 : decode cX4_bears 43 = .ok (.iload_n 2, 1) := by decide +kernel
theorem dX4_bears_44 : decode cX4_bears 44 = .ok (.invokevirtual 138, 3) := by decide +kernel
theorem dX4_bears_47 : decode cX4_bears 47 = .ok (.ireturn, 1) := by decide +kernel
theorem dX4_bears_48 : decode cX4_bears 48 = .ok (.iinc 2 1, 3) := by decide +kernel
theorem dX4_bears_51 : decode cX4_bears 51 = .ok (.goto (-32), 3) := by decide +kernel
theorem dX4_bears_54 : decode cX4_bears 54 = .ok (.iconst (-1), 1) := by decide +kernel
theorem dX4_bears_55 : decode cX4_bears 55 = .ok (.ireturn, 1) := by decide +kernel
theorem dX4_cracked_0 : decode cX4_cracked 0 = .ok (.aload_n 0, 1) := by decide +kernel
theorem dX4_cracked_1 : decode cX4_cracked 1 = .ok (.invokevirtual 115, 3) := by decide +kernel
theorem dX4_cracked_4 : decode cX4_cracked 4 = .ok (.iconst 0, 1) := by decide +kernel
theorem dX4_cracked_5 : decode cX4_cracked 5 = .ok (.istore_n 1, 1) := by decide +kernel
theorem dX4_cracked_6 : decode cX4_cracked 6 = .ok (.iconst 0, 1) := by decide +kernel
theorem dX4_cracked_7 : decode cX4_cracked 7 = .ok (.istore_n 2, 1) := by decide +kernel
theorem dX4_cracked_8 : decode cX4_cracked 8 = .ok (.iload_n 2, 1) := by decide +kernel
theorem dX4_cracked_9 : decode cX4_cracked 9 = .ok (.aload_n 0, 1) := by decide +kernel
theorem dX4_cracked_10 : decode cX4_cracked 10 = .ok (.getfield 19, 3) := by decide +kernel
theorem dX4_cracked_13 : decode cX4_cracked 13 = .ok (.invokevirtual 129, 3) := by decide +kernel
theorem dX4_cracked_16 : decode cX4_cracked 16 = .ok (.if_icmp .ge 53, 3) := by decide +kernel
theorem dX4_cracked_19 : decode cX4_cracked 19 = .ok (.aload_n 0, 1) := by decide +kernel
theorem dX4_cracked_20 : decode cX4_cracked 20 = .ok (.getfield 33, 3) := by decide +kernel
theorem dX4_cracked_23 : decode cX4_cracked 23 = .ok (.iload_n 2, 1) := by decide +kernel
theorem dX4_cracked_24 : decode cX4_cracked 24 = .ok (.invokevirtual 126, 3) := by decide +kernel
theorem dX4_cracked_27 : decode cX4_cracked 27 = .ok (.istore_n 3, 1) := by decide +kernel
theorem dX4_cracked_28 : decode cX4_cracked 28 = .ok (.aload_n 0, 1) := by decide +kernel
theorem dX4_cracked_29 : decode cX4_cracked 29 = .ok (.getfield 10, 3) := by decide +kernel
theorem dX4_cracked_32 : decode cX4_cracked 32 = .ok (.iload_n 3, 1) := by decide +kernel
theorem dX4_cracked_33 : decode cX4_cracked 33 = .ok (.invokevirtual 86, 3) := by decide +kernel
theorem dX4_cracked_36 : decode cX4_cracked 36 = .ok (.ifCond .eq 27, 3) := by decide +kernel
theorem dX4_cracked_39 : decode cX4_cracked 39 = .ok (.aload_n 0, 1) := by decide +kernel
theorem dX4_cracked_40 : decode cX4_cracked 40 = .ok (.iload_n 2, 1) := by decide +kernel
theorem dX4_cracked_41 : decode cX4_cracked 41 = .ok (.invokevirtual 138, 3) := by decide +kernel
theorem dX4_cracked_44 : decode cX4_cracked 44 = .ok (.aload_n 0, 1) := by decide +kernel
theorem dX4_cracked_45 : decode cX4_cracked 45 = .ok (.getfield 10, 3) := by decide +kernel
theorem dX4_cracked_48 : decode cX4_cracked 48 = .ok (.iload_n 3, 1) := by decide +kernel
theorem dX4_cracked_49 : decode cX4_cracked 49 = .ok (.bipush 8, 2) := by decide +kernel
theorem dX4_cracked_51 : decode cX4_cracked 51 = .ok (.invokevirtual 141, 3) := by decide +kernel
theorem dX4_cracked_54 : decode cX4_cracked 54 = .ok (.if_icmp .le 9, 3) := by decide +kernel
theorem dX4_cracked_57 : decode cX4_cracked 57 = .ok (.iload_n 1, 1) := by decide +kernel
theorem dX4_cracked_58 : decode cX4_cracked 58 = .ok (.iconst 1, 1) := by decide +kernel
theorem dX4_cracked_59 : decode cX4_cracked 59 = .ok (.iload_n 3, 1) := by decide +kernel
theorem dX4_cracked_60 : decode cX4_cracked 60 = .ok (.ishl, 1) := by decide +kernel
theorem dX4_cracked_61 : decode cX4_cracked 61 = .ok (.ior, 1) := by decide +kernel
theorem dX4_cracked_62 : decode cX4_cracked 62 = .ok (.istore_n 1, 1) := by decide +kernel
theorem dX4_cracked_63 : decode cX4_cracked 63 = .ok (.iinc 2 1, 3) := by decide +kernel
theorem dX4_cracked_66 : decode cX4_cracked 66 = .ok (.goto (-58), 3) := by decide +kernel
theorem dX4_cracked_69 : decode cX4_cracked 69 = .ok (.iload_n 1, 1) := by decide +kernel
theorem dX4_cracked_70 : decode cX4_cracked 70 = .ok (.ireturn, 1) := by decide +kernel
theorem dX4_setting_0 : decode cX4_setting 0 = .ok (.aload_n 0, 1) := by decide +kernel
theorem dX4_setting_1 : decode cX4_setting 1 = .ok (.invokevirtual 115, 3) := by decide +kernel
theorem dX4_setting_4 : decode cX4_setting 4 = .ok (.iload_n 1, 1) := by decide +kernel
theorem dX4_setting_5 : decode cX4_setting 5 = .ok (.ifCond .lt 24, 3) := by decide +kernel
theorem dX4_setting_8 : decode cX4_setting 8 = .ok (.iload_n 1, 1) := by decide +kernel
theorem dX4_setting_9 : decode cX4_setting 9 = .ok (.aload_n 0, 1) := by decide +kernel
theorem dX4_setting_10 : decode cX4_setting 10 = .ok (.getfield 19, 3) := by decide +kernel
theorem dX4_setting_13 : decode cX4_setting 13 = .ok (.invokevirtual 129, 3) := by decide +kernel
theorem dX4_setting_16 : decode cX4_setting 16 = .ok (.if_icmp .ge 13, 3) := by decide +kernel
theorem dX4_setting_19 : decode cX4_setting 19 = .ok (.aload_n 0, 1) := by decide +kernel
theorem dX4_setting_20 : decode cX4_setting 20 = .ok (.getfield 33, 3) := by decide +kernel
theorem dX4_setting_23 : decode cX4_setting 23 = .ok (.invokevirtual 145, 3) := by decide +kernel
theorem dX4_setting_26 : decode cX4_setting 26 = .ok (.ifCond .ne 5, 3) := by decide +kernel
theorem dX4_setting_29 : decode cX4_setting 29 = .ok (.iconst (-1), 1) := by decide +kernel
theorem dX4_setting_30 : decode cX4_setting 30 = .ok (.ireturn, 1) := by decide +kernel
theorem dX4_setting_31 : decode cX4_setting 31 = .ok (.aload_n 0, 1) := by decide +kernel
theorem dX4_setting_32 : decode cX4_setting 32 = .ok (.getfield 19, 3) := by decide +kernel
theorem dX4_setting_35 : decode cX4_setting 35 = .ok (.iload_n 1, 1) := by decide +kernel
theorem dX4_setting_36 : decode cX4_setting 36 = .ok (.aload_n 0, 1) := by decide +kernel
theorem dX4_setting_37 : decode cX4_setting 37 = .ok (.getfield 44, 3) := by decide +kernel
theorem dX4_setting_40 : decode cX4_setting 40 = .ok (.invokevirtual 148, 3) := by decide +kernel
theorem dX4_setting_43 : decode cX4_setting 43 = .ok (.ireturn, 1) := by decide +kernel
theorem dX4_tall_0 : decode cX4_tall 0 = .ok (.aload_n 0, 1) := by decide +kernel
theorem dX4_tall_1 : decode cX4_tall 1 = .ok (.invokevirtual 115, 3) := by decide +kernel
theorem dX4_tall_4 : decode cX4_tall 4 = .ok (.aload_n 0, 1) := by decide +kernel
theorem dX4_tall_5 : decode cX4_tall 5 = .ok (.getfield 19, 3) := by decide +kernel
theorem dX4_tall_8 : decode cX4_tall 8 = .ok (.iload_n 1, 1) := by decide +kernel
theorem dX4_tall_9 : decode cX4_tall 9 = .ok (.invokevirtual 89, 3) := by decide +kernel
theorem dX4_tall_12 : decode cX4_tall 12 = .ok (.ifCond .eq 13, 3) := by decide +kernel
theorem dX4_tall_15 : decode cX4_tall 15 = .ok (.aload_n 0, 1) := by decide +kernel
theorem dX4_tall_16 : decode cX4_tall 16 = .ok (.getfield 33, 3) := by decide +kernel
theorem dX4_tall_19 : decode cX4_tall 19 = .ok (.invokevirtual 145, 3) := by decide +kernel
theorem dX4_tall_22 : decode cX4_tall 22 = .ok (.ifCond .ne 5, 3) := by decide +kernel
theorem dX4_tall_25 : decode cX4_tall 25 = .ok (.iconst (-1), 1) := by decide +kernel
theorem dX4_tall_26 : decode cX4_tall 26 = .ok (.ireturn, 1) := by decide +kernel
theorem dX4_tall_27 : decode cX4_tall 27 = .ok (.iconst 0, 1) := by decide +kernel
theorem dX4_tall_28 : decode cX4_tall 28 = .ok (.istore_n 2, 1) := by decide +kernel
theorem dX4_tall_29 : decode cX4_tall 29 = .ok (.aload_n 0, 1) := by decide +kernel
theorem dX4_tall_30 : decode cX4_tall 30 = .ok (.getfield 19, 3) := by decide +kernel
theorem dX4_tall_33 : decode cX4_tall 33 = .ok (.iload_n 1, 1) := by decide +kernel
theorem dX4_tall_34 : decode cX4_tall 34 = .ok (.invokevirtual 151, 3) := by decide +kernel
theorem dX4_tall_37 : decode cX4_tall 37 = .ok (.istore_n 3, 1) := by decide +kernel
theorem dX4_tall_38 : decode cX4_tall 38 = .ok (.aload_n 0, 1) := by decide +kernel
theorem dX4_tall_39 : decode cX4_tall 39 = .ok (.getfield 19, 3) := by decide +kernel
theorem dX4_tall_42 : decode cX4_tall 42 = .ok (.iload_n 1, 1) := by decide +kernel
theorem dX4_tall_43 : decode cX4_tall 43 = .ok (.invokevirtual 154, 3) := by decide +kernel
theorem dX4_tall_46 : decode cX4_tall 46 = .ok (.istore 4, 2) := by decide +kernel
theorem dX4_tall_48 : decode cX4_tall 48 = .ok (.iload 4, 2) := by decide +kernel
theorem dX4_tall_50 : decode cX4_tall 50 = .ok (.iload_n 3, 1) := by decide +kernel
theorem dX4_tall_51 : decode cX4_tall 51 = .ok (.if_icmp .ge 25, 3) := by decide +kernel
theorem dX4_tall_54 : decode cX4_tall 54 = .ok (.iload_n 2, 1) := by decide +kernel
theorem dX4_tall_55 : decode cX4_tall 55 = .ok (.aload_n 0, 1) := by decide +kernel
theorem dX4_tall_56 : decode cX4_tall 56 = .ok (.aload_n 0, 1) := by decide +kernel
theorem dX4_tall_57 : decode cX4_tall 57 = .ok (.getfield 33, 3) := by decide +kernel
theorem dX4_tall_60 : decode cX4_tall 60 = .ok (.iload 4, 2) := by decide +kernel
theorem dX4_tall_62 : decode cX4_tall 62 = .ok (.invokevirtual 126, 3) := by decide +kernel
theorem dX4_tall_65 : decode cX4_tall 65 = .ok (.invokevirtual 157, 3) := by decide +kernel
theorem dX4_tall_68 : decode cX4_tall 68 = .ok (.iadd, 1) := by decide +kernel
theorem dX4_tall_69 : decode cX4_tall 69 = .ok (.istore_n 2, 1) := by decide +kernel
theorem dX4_tall_70 : decode cX4_tall 70 = .ok (.iinc 4 1, 3) := by decide +kernel
theorem dX4_tall_73 : decode cX4_tall 73 = .ok (.goto (-25), 3) := by decide +kernel
theorem dX4_tall_76 : decode cX4_tall 76 = .ok (.iload_n 2, 1) := by decide +kernel
theorem dX4_tall_77 : decode cX4_tall 77 = .ok (.ireturn, 1) := by decide +kernel
theorem dX4_told_0 : decode cX4_told 0 = .ok (.aload_n 0, 1) := by decide +kernel
theorem dX4_told_1 : decode cX4_told 1 = .ok (.getfield 10, 3) := by decide +kernel
theorem dX4_told_4 : decode cX4_told 4 = .ok (.iload_n 1, 1) := by decide +kernel
theorem dX4_told_5 : decode cX4_told 5 = .ok (.invokevirtual 86, 3) := by decide +kernel
theorem dX4_told_8 : decode cX4_told 8 = .ok (.ifCond .eq 13, 3) := by decide +kernel
theorem dX4_told_11 : decode cX4_told 11 = .ok (.iload_n 2, 1) := by decide +kernel
theorem dX4_told_12 : decode cX4_told 12 = .ok (.iconst 0, 1) := by decide +kernel
theorem dX4_told_13 : decode cX4_told 13 = .ok (.bipush 8, 2) := by decide +kernel
theorem dX4_told_15 : decode cX4_told 15 = .ok (.invokestatic 55, 3) := by decide +kernel
theorem dX4_told_18 : decode cX4_told 18 = .ok (.ifCond .ne 11, 3) := by decide +kernel
theorem dX4_told_21 : decode cX4_told 21 = .ok (.new 160, 3) := by decide +kernel
theorem dX4_told_24 : decode cX4_told 24 = .ok (.dup, 1) := by decide +kernel
theorem dX4_told_25 : decode cX4_told 25 = .ok (.invokespecial 162, 3) := by decide +kernel
theorem dX4_told_28 : decode cX4_told 28 = .ok (.athrow, 1) := by decide +kernel
theorem dX4_told_29 : decode cX4_told 29 = .ok (.aload_n 0, 1) := by decide +kernel
theorem dX4_told_30 : decode cX4_told 30 = .ok (.getfield 10, 3) := by decide +kernel
theorem dX4_told_33 : decode cX4_told 33 = .ok (.iload_n 1, 1) := by decide +kernel
theorem dX4_told_34 : decode cX4_told 34 = .ok (.iload_n 2, 1) := by decide +kernel
theorem dX4_told_35 : decode cX4_told 35 = .ok (.invokevirtual 141, 3) := by decide +kernel
theorem dX4_told_38 : decode cX4_told 38 = .ok (.ireturn, 1) := by decide +kernel
theorem dX4_place_0 : decode cX4_place 0 = .ok (.aload_n 0, 1) := by decide +kernel
theorem dX4_place_1 : decode cX4_place 1 = .ok (.getfield 19, 3) := by decide +kernel
theorem dX4_place_4 : decode cX4_place 4 = .ok (.iload_n 1, 1) := by decide +kernel
theorem dX4_place_5 : decode cX4_place 5 = .ok (.invokevirtual 97, 3) := by decide +kernel
theorem dX4_place_8 : decode cX4_place 8 = .ok (.ifCond .ne 5, 3) := by decide +kernel
theorem dX4_place_11 : decode cX4_place 11 = .ok (.iconst (-1), 1) := by decide +kernel
theorem dX4_place_12 : decode cX4_place 12 = .ok (.ireturn, 1) := by decide +kernel
theorem dX4_place_13 : decode cX4_place 13 = .ok (.iload_n 2, 1) := by decide +kernel
theorem dX4_place_14 : decode cX4_place 14 = .ok (.tableswitch 62 0 2 #[26, 35, 53], 26) := by decide +kernel
theorem dX4_place_40 : decode cX4_place 40 = .ok (.aload_n 0, 1) := by decide +kernel
theorem dX4_place_41 : decode cX4_place 41 = .ok (.getfield 19, 3) := by decide +kernel
theorem dX4_place_44 : decode cX4_place 44 = .ok (.iload_n 1, 1) := by decide +kernel
theorem dX4_place_45 : decode cX4_place 45 = .ok (.invokevirtual 163, 3) := by decide +kernel
theorem dX4_place_48 : decode cX4_place 48 = .ok (.ireturn, 1) := by decide +kernel
theorem dX4_place_49 : decode cX4_place 49 = .ok (.iload_n 1, 1) := by decide +kernel
theorem dX4_place_50 : decode cX4_place 50 = .ok (.aload_n 0, 1) := by decide +kernel
theorem dX4_place_51 : decode cX4_place 51 = .ok (.getfield 19, 3) := by decide +kernel
theorem dX4_place_54 : decode cX4_place 54 = .ok (.aload_n 0, 1) := by decide +kernel
theorem dX4_place_55 : decode cX4_place 55 = .ok (.getfield 19, 3) := by decide +kernel
theorem dX4_place_58 : decode cX4_place 58 = .ok (.iload_n 1, 1) := by decide +kernel
theorem dX4_place_59 : decode cX4_place 59 = .ok (.invokevirtual 163, 3) := by decide +kernel
theorem dX4_place_62 : decode cX4_place 62 = .ok (.invokevirtual 154, 3) := by decide +kernel
theorem dX4_place_65 : decode cX4_place 65 = .ok (.isub, 1) := by decide +kernel
theorem dX4_place_66 : decode cX4_place 66 = .ok (.ireturn, 1) := by decide +kernel
theorem dX4_place_67 : decode cX4_place 67 = .ok (.aload_n 0, 1) := by decide +kernel
theorem dX4_place_68 : decode cX4_place 68 = .ok (.getfield 26, 3) := by decide +kernel
theorem dX4_place_71 : decode cX4_place 71 = .ok (.iload_n 1, 1) := by decide +kernel
theorem dX4_place_72 : decode cX4_place 72 = .ok (.invokevirtual 100, 3) := by decide +kernel
theorem dX4_place_75 : decode cX4_place 75 = .ok (.ireturn, 1) := by decide +kernel
theorem dX4_place_76 : decode cX4_place 76 = .ok (.iconst (-1), 1) := by decide +kernel
theorem dX4_place_77 : decode cX4_place 77 = .ok (.ireturn, 1) := by decide +kernel
theorem dX4_count_0 : decode cX4_count 0 = .ok (.iload_n 1, 1) := by decide +kernel
theorem dX4_count_1 : decode cX4_count 1 = .ok (.tableswitch 79 0 4 #[35, 43, 51, 59, 71], 35) := by decide +kernel
theorem dX4_count_36 : decode cX4_count 36 = .ok (.aload_n 0, 1) := by decide +kernel
theorem dX4_count_37 : decode cX4_count 37 = .ok (.getfield 10, 3) := by decide +kernel
theorem dX4_count_40 : decode cX4_count 40 = .ok (.invokevirtual 166, 3) := by decide +kernel
theorem dX4_count_43 : decode cX4_count 43 = .ok (.ireturn, 1) := by decide +kernel
theorem dX4_count_44 : decode cX4_count 44 = .ok (.aload_n 0, 1) := by decide +kernel
theorem dX4_count_45 : decode cX4_count 45 = .ok (.getfield 19, 3) := by decide +kernel
theorem dX4_count_48 : decode cX4_count 48 = .ok (.invokevirtual 169, 3) := by decide +kernel
theorem dX4_count_51 : decode cX4_count 51 = .ok (.ireturn, 1) := by decide +kernel
theorem dX4_count_52 : decode cX4_count 52 = .ok (.aload_n 0, 1) := by decide +kernel
theorem dX4_count_53 : decode cX4_count 53 = .ok (.getfield 19, 3) := by decide +kernel
theorem dX4_count_56 : decode cX4_count 56 = .ok (.invokevirtual 129, 3) := by decide +kernel
theorem dX4_count_59 : decode cX4_count 59 = .ok (.ireturn, 1) := by decide +kernel
theorem dX4_count_60 : decode cX4_count 60 = .ok (.aload_n 0, 1) := by decide +kernel
theorem dX4_count_61 : decode cX4_count 61 = .ok (.getfield 10, 3) := by decide +kernel
theorem dX4_count_64 : decode cX4_count 64 = .ok (.aload_n 0, 1) := by decide +kernel
theorem dX4_count_65 : decode cX4_count 65 = .ok (.getfield 37, 3) := by decide +kernel
theorem dX4_count_68 : decode cX4_count 68 = .ok (.invokevirtual 170, 3) := by decide +kernel
theorem dX4_count_71 : decode cX4_count 71 = .ok (.ireturn, 1) := by decide +kernel
theorem dX4_count_72 : decode cX4_count 72 = .ok (.aload_n 0, 1) := by decide +kernel
theorem dX4_count_73 : decode cX4_count 73 = .ok (.getfield 26, 3) := by decide +kernel
theorem dX4_count_76 : decode cX4_count 76 = .ok (.invokevirtual 173, 3) := by decide +kernel
theorem dX4_count_79 : decode cX4_count 79 = .ok (.ireturn, 1) := by decide +kernel
theorem dX4_count_80 : decode cX4_count 80 = .ok (.iconst (-1), 1) := by decide +kernel
theorem dX4_count_81 : decode cX4_count 81 = .ok (.ireturn, 1) := by decide +kernel
theorem dX4_isWithin_0 : decode cX4_isWithin 0 = .ok (.iload_n 0, 1) := by decide +kernel
theorem dX4_isWithin_1 : decode cX4_isWithin 1 = .ok (.iload_n 1, 1) := by decide +kernel
theorem dX4_isWithin_2 : decode cX4_isWithin 2 = .ok (.if_icmp .lt 12, 3) := by decide +kernel
theorem dX4_isWithin_5 : decode cX4_isWithin 5 = .ok (.iload_n 0, 1) := by decide +kernel
theorem dX4_isWithin_6 : decode cX4_isWithin 6 = .ok (.iload_n 2, 1) := by decide +kernel
theorem dX4_isWithin_7 : decode cX4_isWithin 7 = .ok (.if_icmp .gt 7, 3) := by decide +kernel
theorem dX4_isWithin_10 : decode cX4_isWithin 10 = .ok (.iconst 1, 1) := by decide +kernel
theorem dX4_isWithin_11 : decode cX4_isWithin 11 = .ok (.goto 4, 3) := by decide +kernel
theorem dX4_isWithin_14 : decode cX4_isWithin 14 = .ok (.iconst 0, 1) := by decide +kernel
theorem dX4_isWithin_15 : decode cX4_isWithin 15 = .ok (.ireturn, 1) := by decide +kernel
theorem dX4_isWidth_0 : decode cX4_isWidth 0 = .ok (.iload_n 0, 1) := by decide +kernel
theorem dX4_isWidth_1 : decode cX4_isWidth 1 = .ok (.bipush 100, 2) := by decide +kernel
theorem dX4_isWidth_3 : decode cX4_isWidth 3 = .ok (.sipush 3000, 3) := by decide +kernel
theorem dX4_isWidth_6 : decode cX4_isWidth 6 = .ok (.invokestatic 55, 3) := by decide +kernel
theorem dX4_isWidth_9 : decode cX4_isWidth 9 = .ok (.ireturn, 1) := by decide +kernel
theorem dX4_isWidthOrUntold_0 : decode cX4_isWidthOrUntold 0 = .ok (.iload_n 0, 1) := by decide +kernel
theorem dX4_isWidthOrUntold_1 : decode cX4_isWidthOrUntold 1 = .ok (.ifCond .eq 10, 3) := by decide +kernel
theorem dX4_isWidthOrUntold_4 : decode cX4_isWidthOrUntold 4 = .ok (.iload_n 0, 1) := by decide +kernel
theorem dX4_isWidthOrUntold_5 : decode cX4_isWidthOrUntold 5 = .ok (.invokestatic 51, 3) := by decide +kernel
theorem dX4_isWidthOrUntold_8 : decode cX4_isWidthOrUntold 8 = .ok (.ifCond .eq 7, 3) := by decide +kernel
theorem dX4_isWidthOrUntold_11 : decode cX4_isWidthOrUntold 11 = .ok (.iconst 1, 1) := by decide +kernel
theorem dX4_isWidthOrUntold_12 : decode cX4_isWidthOrUntold 12 = .ok (.goto 4, 3) := by decide +kernel
theorem dX4_isWidthOrUntold_15 : decode cX4_isWidthOrUntold 15 = .ok (.iconst 0, 1) := by decide +kernel
theorem dX4_isWidthOrUntold_16 : decode cX4_isWidthOrUntold 16 = .ok (.ireturn, 1) := by decide +kernel
theorem dX4_isHoles_0 : decode cX4_isHoles 0 = .ok (.iload_n 0, 1) := by decide +kernel
theorem dX4_isHoles_1 : decode cX4_isHoles 1 = .ok (.iconst 0, 1) := by decide +kernel
theorem dX4_isHoles_2 : decode cX4_isHoles 2 = .ok (.ldc 176, 2) := by decide +kernel
theorem dX4_isHoles_4 : decode cX4_isHoles 4 = .ok (.invokestatic 55, 3) := by decide +kernel
theorem dX4_isHoles_7 : decode cX4_isHoles 7 = .ok (.ireturn, 1) := by decide +kernel
theorem dX4_hasBit_0 : decode cX4_hasBit 0 = .ok (.iload_n 0, 1) := by decide +kernel
theorem dX4_hasBit_1 : decode cX4_hasBit 1 = .ok (.iload_n 1, 1) := by decide +kernel
theorem dX4_hasBit_2 : decode cX4_hasBit 2 = .ok (.ishr, 1) := by decide +kernel
theorem dX4_hasBit_3 : decode cX4_hasBit 3 = .ok (.iconst 1, 1) := by decide +kernel
theorem dX4_hasBit_4 : decode cX4_hasBit 4 = .ok (.iand, 1) := by decide +kernel
theorem dX4_hasBit_5 : decode cX4_hasBit 5 = .ok (.ifCond .eq 7, 3) := by decide +kernel
theorem dX4_hasBit_8 : decode cX4_hasBit 8 = .ok (.iconst 1, 1) := by decide +kernel
theorem dX4_hasBit_9 : decode cX4_hasBit 9 = .ok (.goto 4, 3) := by decide +kernel
theorem dX4_hasBit_12 : decode cX4_hasBit 12 = .ok (.iconst 0, 1) := by decide +kernel
theorem dX4_hasBit_13 : decode cX4_hasBit 13 = .ok (.ireturn, 1) := by decide +kernel
theorem dX4_fitsFoot_0 : decode cX4_fitsFoot 0 = .ok (.aload_n 0, 1) := by decide +kernel
theorem dX4_fitsFoot_1 : decode cX4_fitsFoot 1 = .ok (.iload_n 1, 1) := by decide +kernel
theorem dX4_fitsFoot_2 : decode cX4_fitsFoot 2 = .ok (.aload_n 0, 1) := by decide +kernel
theorem dX4_fitsFoot_3 : decode cX4_fitsFoot 3 = .ok (.getfield 10, 3) := by decide +kernel
theorem dX4_fitsFoot_6 : decode cX4_fitsFoot 6 = .ok (.iload_n 1, 1) := by decide +kernel
theorem dX4_fitsFoot_7 : decode cX4_fitsFoot 7 = .ok (.iconst 0, 1) := by decide +kernel
theorem dX4_fitsFoot_8 : decode cX4_fitsFoot 8 = .ok (.invokevirtual 141, 3) := by decide +kernel
theorem dX4_fitsFoot_11 : decode cX4_fitsFoot 11 = .ok (.aload_n 0, 1) := by decide +kernel
theorem dX4_fitsFoot_12 : decode cX4_fitsFoot 12 = .ok (.getfield 19, 3) := by decide +kernel
theorem dX4_fitsFoot_15 : decode cX4_fitsFoot 15 = .ok (.iload_n 2, 1) := by decide +kernel
theorem dX4_fitsFoot_16 : decode cX4_fitsFoot 16 = .ok (.invokevirtual 177, 3) := by decide +kernel
theorem dX4_fitsFoot_19 : decode cX4_fitsFoot 19 = .ok (.invokevirtual 180, 3) := by decide +kernel
theorem dX4_fitsFoot_22 : decode cX4_fitsFoot 22 = .ok (.ireturn, 1) := by decide +kernel
theorem dX4_fitsHead_0 : decode cX4_fitsHead 0 = .ok (.aload_n 0, 1) := by decide +kernel
theorem dX4_fitsHead_1 : decode cX4_fitsHead 1 = .ok (.iload_n 1, 1) := by decide +kernel
theorem dX4_fitsHead_2 : decode cX4_fitsHead 2 = .ok (.aload_n 0, 1) := by decide +kernel
theorem dX4_fitsHead_3 : decode cX4_fitsHead 3 = .ok (.getfield 10, 3) := by decide +kernel
theorem dX4_fitsHead_6 : decode cX4_fitsHead 6 = .ok (.iload_n 1, 1) := by decide +kernel
theorem dX4_fitsHead_7 : decode cX4_fitsHead 7 = .ok (.iconst 1, 1) := by decide +kernel
theorem dX4_fitsHead_8 : decode cX4_fitsHead 8 = .ok (.invokevirtual 141, 3) := by decide +kernel
theorem dX4_fitsHead_11 : decode cX4_fitsHead 11 = .ok (.aload_n 0, 1) := by decide +kernel
theorem dX4_fitsHead_12 : decode cX4_fitsHead 12 = .ok (.getfield 19, 3) := by decide +kernel
theorem dX4_fitsHead_15 : decode cX4_fitsHead 15 = .ok (.iload_n 2, 1) := by decide +kernel
theorem dX4_fitsHead_16 : decode cX4_fitsHead 16 = .ok (.invokevirtual 183, 3) := by decide +kernel
theorem dX4_fitsHead_19 : decode cX4_fitsHead 19 = .ok (.invokevirtual 180, 3) := by decide +kernel
theorem dX4_fitsHead_22 : decode cX4_fitsHead 22 = .ok (.ireturn, 1) := by decide +kernel
theorem dX4_agrees_0 : decode cX4_agrees 0 = .ok (.iload_n 3, 1) := by decide +kernel
theorem dX4_agrees_1 : decode cX4_agrees 1 = .ok (.ifCond .eq 26, 3) := by decide +kernel
theorem dX4_agrees_4 : decode cX4_agrees 4 = .ok (.iload_n 2, 1) := by decide +kernel
theorem dX4_agrees_5 : decode cX4_agrees 5 = .ok (.iload_n 3, 1) := by decide +kernel
theorem dX4_agrees_6 : decode cX4_agrees 6 = .ok (.isub, 1) := by decide +kernel
theorem dX4_agrees_7 : decode cX4_agrees 7 = .ok (.invokestatic 186, 3) := by decide +kernel
theorem dX4_agrees_10 : decode cX4_agrees 10 = .ok (.aload_n 0, 1) := by decide +kernel
theorem dX4_agrees_11 : decode cX4_agrees 11 = .ok (.getfield 10, 3) := by decide +kernel
theorem dX4_agrees_14 : decode cX4_agrees 14 = .ok (.iload_n 1, 1) := by decide +kernel
theorem dX4_agrees_15 : decode cX4_agrees 15 = .ok (.iconst 2, 1) := by decide +kernel
theorem dX4_agrees_16 : decode cX4_agrees 16 = .ok (.invokevirtual 141, 3) := by decide +kernel
theorem dX4_agrees_19 : decode cX4_agrees 19 = .ok (.aload_n 0, 1) := by decide +kernel
theorem dX4_agrees_20 : decode cX4_agrees 20 = .ok (.getfield 37, 3) := by decide +kernel
theorem dX4_agrees_23 : decode cX4_agrees 23 = .ok (.iadd, 1) := by decide +kernel
theorem dX4_agrees_24 : decode cX4_agrees 24 = .ok (.if_icmp .gt 7, 3) := by decide +kernel
theorem dX4_agrees_27 : decode cX4_agrees 27 = .ok (.iconst 1, 1) := by decide +kernel
theorem dX4_agrees_28 : decode cX4_agrees 28 = .ok (.goto 4, 3) := by decide +kernel
theorem dX4_agrees_31 : decode cX4_agrees 31 = .ok (.iconst 0, 1) := by decide +kernel
theorem dX4_agrees_32 : decode cX4_agrees 32 = .ok (.ireturn, 1) := by decide +kernel
theorem dX4_loadOver_0 : decode cX4_loadOver 0 = .ok (.iconst 0, 1) := by decide +kernel
theorem dX4_loadOver_1 : decode cX4_loadOver 1 = .ok (.istore_n 2, 1) := by decide +kernel
theorem dX4_loadOver_2 : decode cX4_loadOver 2 = .ok (.aload_n 0, 1) := by decide +kernel
theorem dX4_loadOver_3 : decode cX4_loadOver 3 = .ok (.getfield 19, 3) := by decide +kernel
theorem dX4_loadOver_6 : decode cX4_loadOver 6 = .ok (.aload_n 0, 1) := by decide +kernel
theorem dX4_loadOver_7 : decode cX4_loadOver 7 = .ok (.getfield 19, 3) := by decide +kernel
theorem dX4_loadOver_10 : decode cX4_loadOver 10 = .ok (.iload_n 1, 1) := by decide +kernel
theorem dX4_loadOver_11 : decode cX4_loadOver 11 = .ok (.invokevirtual 163, 3) := by decide +kernel
theorem dX4_loadOver_14 : decode cX4_loadOver 14 = .ok (.invokevirtual 151, 3) := by decide +kernel
theorem dX4_loadOver_17 : decode cX4_loadOver 17 = .ok (.istore_n 3, 1) := by decide +kernel
theorem dX4_loadOver_18 : decode cX4_loadOver 18 = .ok (.iload_n 1, 1) := by decide +kernel
theorem dX4_loadOver_19 : decode cX4_loadOver 19 = .ok (.iconst 1, 1) := by decide +kernel
theorem dX4_loadOver_20 : decode cX4_loadOver 20 = .ok (.iadd, 1) := by decide +kernel
theorem dX4_loadOver_21 : decode cX4_loadOver 21 = .ok (.istore 4, 2) := by decide +kernel
theorem dX4_loadOver_23 : decode cX4_loadOver 23 = .ok (.iload 4, 2) := by decide +kernel
theorem dX4_loadOver_25 : decode cX4_loadOver 25 = .ok (.iload_n 3, 1) := by decide +kernel
theorem dX4_loadOver_26 : decode cX4_loadOver 26 = .ok (.if_icmp .ge 48, 3) := by decide +kernel
theorem dX4_loadOver_29 : decode cX4_loadOver 29 = .ok (.aload_n 0, 1) := by decide +kernel
theorem dX4_loadOver_30 : decode cX4_loadOver 30 = .ok (.getfield 33, 3) := by decide +kernel
theorem dX4_loadOver_33 : decode cX4_loadOver 33 = .ok (.iload 4, 2) := by decide +kernel
theorem dX4_loadOver_35 : decode cX4_loadOver 35 = .ok (.invokevirtual 126, 3) := by decide +kernel
theorem dX4_loadOver_38 : decode cX4_loadOver 38 = .ok (.istore 5, 2) := by decide +kernel
theorem dX4_loadOver_40 : decode cX4_loadOver 40 = .ok (.iload_n 2, 1) := by decide +kernel
theorem dX4_loadOver_41 : decode cX4_loadOver 41 = .ok (.iload 5, 2) := by decide +kernel
theorem dX4_loadOver_43 : decode cX4_loadOver 43 = .ok (.bipush 10, 2) := by decide +kernel
theorem dX4_loadOver_45 : decode cX4_loadOver 45 = .ok (.if_icmp .ne 10, 3) := by decide +kernel
theorem dX4_loadOver_48 : decode cX4_loadOver 48 = .ok (.aload_n 0, 1) := by decide +kernel
theorem dX4_loadOver_49 : decode cX4_loadOver 49 = .ok (.getfield 41, 3) := by decide +kernel
theorem dX4_loadOver_52 : decode cX4_loadOver 52 = .ok (.goto 14, 3) := by decide +kernel
theorem dX4_loadOver_55 : decode cX4_loadOver 55 = .ok (.aload_n 0, 1) := by decide +kernel
theorem dX4_loadOver_56 : decode cX4_loadOver 56 = .ok (.getfield 10, 3) := by decide +kernel
theorem dX4_loadOver_59 : decode cX4_loadOver 59 = .ok (.iload 5, 2) := by decide +kernel
theorem dX4_loadOver_61 : decode cX4_loadOver 61 = .ok (.bipush 7, 2) := by decide +kernel
theorem dX4_loadOver_63 : decode cX4_loadOver 63 = .ok (.invokevirtual 141, 3) := by decide +kernel
theorem dX4_loadOver_66 : decode cX4_loadOver 66 = .ok (.iadd, 1) := by decide +kernel
theorem dX4_loadOver_67 : decode cX4_loadOver 67 = .ok (.istore_n 2, 1) := by decide +kernel
theorem dX4_loadOver_68 : decode cX4_loadOver 68 = .ok (.iinc 4 1, 3) := by decide +kernel
theorem dX4_loadOver_71 : decode cX4_loadOver 71 = .ok (.goto (-48), 3) := by decide +kernel
theorem dX4_loadOver_74 : decode cX4_loadOver 74 = .ok (.iload_n 2, 1) := by decide +kernel
theorem dX4_loadOver_75 : decode cX4_loadOver 75 = .ok (.ireturn, 1) := by decide +kernel
theorem dX4_heightOf_0 : decode cX4_heightOf 0 = .ok (.iload_n 1, 1) := by decide +kernel
theorem dX4_heightOf_1 : decode cX4_heightOf 1 = .ok (.bipush 10, 2) := by decide +kernel
theorem dX4_heightOf_3 : decode cX4_heightOf 3 = .ok (.if_icmp .ne 13, 3) := by decide +kernel
theorem dX4_heightOf_6 : decode cX4_heightOf 6 = .ok (.aload_n 0, 1) := by decide +kernel
theorem dX4_heightOf_7 : decode cX4_heightOf 7 = .ok (.getfield 10, 3) := by decide +kernel
theorem dX4_heightOf_10 : decode cX4_heightOf 10 = .ok (.invokevirtual 191, 3) := by decide +kernel
theorem dX4_heightOf_13 : decode cX4_heightOf 13 = .ok (.goto 12, 3) := by decide +kernel
theorem dX4_heightOf_16 : decode cX4_heightOf 16 = .ok (.aload_n 0, 1) := by decide +kernel
theorem dX4_heightOf_17 : decode cX4_heightOf 17 = .ok (.getfield 10, 3) := by decide +kernel
theorem dX4_heightOf_20 : decode cX4_heightOf 20 = .ok (.iload_n 1, 1) := by decide +kernel
theorem dX4_heightOf_21 : decode cX4_heightOf 21 = .ok (.iconst 3, 1) := by decide +kernel
theorem dX4_heightOf_22 : decode cX4_heightOf 22 = .ok (.invokevirtual 141, 3) := by decide +kernel
theorem dX4_heightOf_25 : decode cX4_heightOf 25 = .ok (.ireturn, 1) := by decide +kernel
theorem dX4_drawPaper_0 : decode cX4_drawPaper 0 = .ok (.aload_n 0, 1) := by decide +kernel
theorem dX4_drawPaper_1 : decode cX4_drawPaper 1 = .ok (.getfield 47, 3) := by decide +kernel
theorem dX4_drawPaper_4 : decode cX4_drawPaper 4 = .ok (.ifCond .ne 4, 3) := by decide +kernel
theorem dX4_drawPaper_7 : decode cX4_drawPaper 7 = .ok (.return_, 1) := by decide +kernel
theorem dX4_drawPaper_8 : decode cX4_drawPaper 8 = .ok (.aload_n 0, 1) := by decide +kernel
theorem dX4_drawPaper_9 : decode cX4_drawPaper 9 = .ok (.getfield 33, 3) := by decide +kernel
theorem dX4_drawPaper_12 : decode cX4_drawPaper 12 = .ok (.aload_n 0, 1) := by decide +kernel
theorem dX4_drawPaper_13 : decode cX4_drawPaper 13 = .ok (.getfield 19, 3) := by decide +kernel
theorem dX4_drawPaper_16 : decode cX4_drawPaper 16 = .ok (.invokevirtual 129, 3) := by decide +kernel
theorem dX4_drawPaper_19 : decode cX4_drawPaper 19 = .ok (.invokevirtual 194, 3) := by decide +kernel
theorem dX4_drawPaper_22 : decode cX4_drawPaper 22 = .ok (.iconst 0, 1) := by decide +kernel
theorem dX4_drawPaper_23 : decode cX4_drawPaper 23 = .ok (.istore_n 1, 1) := by decide +kernel
theorem dX4_drawPaper_24 : decode cX4_drawPaper 24 = .ok (.iload_n 1, 1) := by decide +kernel
theorem dX4_drawPaper_25 : decode cX4_drawPaper 25 = .ok (.aload_n 0, 1) := by decide +kernel
theorem dX4_drawPaper_26 : decode cX4_drawPaper 26 = .ok (.getfield 10, 3) := by decide +kernel
theorem dX4_drawPaper_29 : decode cX4_drawPaper 29 = .ok (.invokevirtual 166, 3) := by decide +kernel
theorem dX4_drawPaper_32 : decode cX4_drawPaper 32 = .ok (.if_icmp .ge 29, 3) := by decide +kernel
theorem dX4_drawPaper_35 : decode cX4_drawPaper 35 = .ok (.aload_n 0, 1) := by decide +kernel
theorem dX4_drawPaper_36 : decode cX4_drawPaper 36 = .ok (.getfield 33, 3) := by decide +kernel
theorem dX4_drawPaper_39 : decode cX4_drawPaper 39 = .ok (.iload_n 1, 1) := by decide +kernel
theorem dX4_drawPaper_40 : decode cX4_drawPaper 40 = .ok (.aload_n 0, 1) := by decide +kernel
theorem dX4_drawPaper_41 : decode cX4_drawPaper 41 = .ok (.getfield 10, 3) := by decide +kernel
theorem dX4_drawPaper_44 : decode cX4_drawPaper 44 = .ok (.iload_n 1, 1) := by decide +kernel
theorem dX4_drawPaper_45 : decode cX4_drawPaper 45 = .ok (.aload_n 0, 1) := by decide +kernel
theorem dX4_drawPaper_46 : decode cX4_drawPaper 46 = .ok (.getfield 37, 3) := by decide +kernel
theorem dX4_drawPaper_49 : decode cX4_drawPaper 49 = .ok (.invokevirtual 198, 3) := by decide +kernel
theorem dX4_drawPaper_52 : decode cX4_drawPaper 52 = .ok (.invokevirtual 201, 3) := by decide +kernel
theorem dX4_drawPaper_55 : decode cX4_drawPaper 55 = .ok (.iinc 1 1, 3) := by decide +kernel
theorem dX4_drawPaper_58 : decode cX4_drawPaper 58 = .ok (.goto (-34), 3) := by decide +kernel
theorem dX4_drawPaper_61 : decode cX4_drawPaper 61 = .ok (.iconst 0, 1) := by decide +kernel
theorem dX4_drawPaper_62 : decode cX4_drawPaper 62 = .ok (.istore_n 1, 1) := by decide +kernel
theorem dX4_drawPaper_63 : decode cX4_drawPaper 63 = .ok (.iload_n 1, 1) := by decide +kernel
theorem dX4_drawPaper_64 : decode cX4_drawPaper 64 = .ok (.aload_n 0, 1) := by decide +kernel
theorem dX4_drawPaper_65 : decode cX4_drawPaper 65 = .ok (.getfield 19, 3) := by decide +kernel
theorem dX4_drawPaper_68 : decode cX4_drawPaper 68 = .ok (.invokevirtual 129, 3) := by decide +kernel
theorem dX4_drawPaper_71 : decode cX4_drawPaper 71 = .ok (.if_icmp .ge 30, 3) := by decide +kernel
theorem dX4_drawPaper_74 : decode cX4_drawPaper 74 = .ok (.aload_n 0, 1) := by decide +kernel
theorem dX4_drawPaper_75 : decode cX4_drawPaper 75 = .ok (.getfield 33, 3) := by decide +kernel
theorem dX4_drawPaper_78 : decode cX4_drawPaper 78 = .ok (.iload_n 1, 1) := by decide +kernel
theorem dX4_drawPaper_79 : decode cX4_drawPaper 79 = .ok (.aload_n 0, 1) := by decide +kernel
theorem dX4_drawPaper_80 : decode cX4_drawPaper 80 = .ok (.iload_n 1, 1) := by decide +kernel
theorem dX4_drawPaper_81 : decode cX4_drawPaper 81 = .ok (.invokevirtual 204, 3) := by decide +kernel
theorem dX4_drawPaper_84 : decode cX4_drawPaper 84 = .ok (.aload_n 0, 1) := by decide +kernel
theorem dX4_drawPaper_85 : decode cX4_drawPaper 85 = .ok (.getfield 19, 3) := by decide +kernel
theorem dX4_drawPaper_88 : decode cX4_drawPaper 88 = .ok (.iload_n 1, 1) := by decide +kernel
theorem dX4_drawPaper_89 : decode cX4_drawPaper 89 = .ok (.invokevirtual 207, 3) := by decide +kernel
theorem dX4_drawPaper_92 : decode cX4_drawPaper 92 = .ok (.invokevirtual 210, 3) := by decide +kernel
theorem dX4_drawPaper_95 : decode cX4_drawPaper 95 = .ok (.iinc 1 1, 3) := by decide +kernel
theorem dX4_drawPaper_98 : decode cX4_drawPaper 98 = .ok (.goto (-35), 3) := by decide +kernel
theorem dX4_drawPaper_101 : decode cX4_drawPaper 101 = .ok (.aload_n 0, 1) := by decide +kernel
theorem dX4_drawPaper_102 : decode cX4_drawPaper 102 = .ok (.getfield 33, 3) := by decide +kernel
theorem dX4_drawPaper_105 : decode cX4_drawPaper 105 = .ok (.invokevirtual 213, 3) := by decide +kernel
theorem dX4_drawPaper_108 : decode cX4_drawPaper 108 = .ok (.aload_n 0, 1) := by decide +kernel
theorem dX4_drawPaper_109 : decode cX4_drawPaper 109 = .ok (.iconst 0, 1) := by decide +kernel
theorem dX4_drawPaper_110 : decode cX4_drawPaper 110 = .ok (.putfield 47, 3) := by decide +kernel
theorem dX4_drawPaper_113 : decode cX4_drawPaper 113 = .ok (.return_, 1) := by decide +kernel
theorem dX4_itemsAllowedAt_0 : decode cX4_itemsAllowedAt 0 = .ok (.aload_n 0, 1) := by decide +kernel
theorem dX4_itemsAllowedAt_1 : decode cX4_itemsAllowedAt 1 = .ok (.getfield 19, 3) := by decide +kernel
theorem dX4_itemsAllowedAt_4 : decode cX4_itemsAllowedAt 4 = .ok (.iload_n 1, 1) := by decide +kernel
theorem dX4_itemsAllowedAt_5 : decode cX4_itemsAllowedAt 5 = .ok (.invokevirtual 163, 3) := by decide +kernel
theorem dX4_itemsAllowedAt_8 : decode cX4_itemsAllowedAt 8 = .ok (.istore_n 2, 1) := by decide +kernel
theorem dX4_itemsAllowedAt_9 : decode cX4_itemsAllowedAt 9 = .ok (.sipush 1024, 3) := by decide +kernel
theorem dX4_itemsAllowedAt_12 : decode cX4_itemsAllowedAt 12 = .ok (.istore_n 3, 1) := by decide +kernel
theorem dX4_itemsAllowedAt_13 : decode cX4_itemsAllowedAt 13 = .ok (.iconst 0, 1) := by decide +kernel
theorem dX4_itemsAllowedAt_14 : decode cX4_itemsAllowedAt 14 = .ok (.istore 4, 2) := by decide +kernel
theorem dX4_itemsAllowedAt_16 : decode cX4_itemsAllowedAt 16 = .ok (.iload 4, 2) := by decide +kernel
theorem dX4_itemsAllowedAt_18 : decode cX4_itemsAllowedAt 18 = .ok (.aload_n 0, 1) := by decide +kernel
theorem dX4_itemsAllowedAt_19 : decode cX4_itemsAllowedAt 19 = .ok (.getfield 10, 3) := by decide +kernel
theorem dX4_itemsAllowedAt_22 : decode cX4_itemsAllowedAt 22 = .ok (.invokevirtual 166, 3) := by decide +kernel
theorem dX4_itemsAllowedAt_25 : decode cX4_itemsAllowedAt 25 = .ok (.if_icmp .ge 71, 3) := by decide +kernel
theorem dX4_itemsAllowedAt_28 : decode cX4_itemsAllowedAt 28 = .ok (.aload_n 0, 1) := by decide +kernel
theorem dX4_itemsAllowedAt_29 : decode cX4_itemsAllowedAt 29 = .ok (.getfield 26, 3) := by decide +kernel
theorem dX4_itemsAllowedAt_32 : decode cX4_itemsAllowedAt 32 = .ok (.iload_n 1, 1) := by decide +kernel
theorem dX4_itemsAllowedAt_33 : decode cX4_itemsAllowedAt 33 = .ok (.iload 4, 2) := by decide +kernel
theorem dX4_itemsAllowedAt_35 : decode cX4_itemsAllowedAt 35 = .ok (.invokevirtual 108, 3) := by decide +kernel
theorem dX4_itemsAllowedAt_38 : decode cX4_itemsAllowedAt 38 = .ok (.ifCond .ne 52, 3) := by decide +kernel
theorem dX4_itemsAllowedAt_41 : decode cX4_itemsAllowedAt 41 = .ok (.aload_n 0, 1) := by decide +kernel
theorem dX4_itemsAllowedAt_42 : decode cX4_itemsAllowedAt 42 = .ok (.getfield 19, 3) := by decide +kernel
theorem dX4_itemsAllowedAt_45 : decode cX4_itemsAllowedAt 45 = .ok (.iload_n 1, 1) := by decide +kernel
theorem dX4_itemsAllowedAt_46 : decode cX4_itemsAllowedAt 46 = .ok (.invokevirtual 216, 3) := by decide +kernel
theorem dX4_itemsAllowedAt_49 : decode cX4_itemsAllowedAt 49 = .ok (.ifCond .eq 13, 3) := by decide +kernel
theorem dX4_itemsAllowedAt_52 : decode cX4_itemsAllowedAt 52 = .ok (.aload_n 0, 1) := by decide +kernel
theorem dX4_itemsAllowedAt_53 : decode cX4_itemsAllowedAt 53 = .ok (.iload 4, 2) := by decide +kernel
theorem dX4_itemsAllowedAt_55 : decode cX4_itemsAllowedAt 55 = .ok (.iload_n 2, 1) := by decide +kernel
theorem dX4_itemsAllowedAt_56 : decode cX4_itemsAllowedAt 56 = .ok (.invokevirtual 90, 3) := by decide +kernel
theorem dX4_itemsAllowedAt_59 : decode cX4_itemsAllowedAt 59 = .ok (.ifCond .eq 31, 3) := by decide +kernel
theorem dX4_itemsAllowedAt_62 : decode cX4_itemsAllowedAt 62 = .ok (.aload_n 0, 1) := by decide +kernel
theorem dX4_itemsAllowedAt_63 : decode cX4_itemsAllowedAt 63 = .ok (.getfield 19, 3) := by decide +kernel
theorem dX4_itemsAllowedAt_66 : decode cX4_itemsAllowedAt 66 = .ok (.iload_n 1, 1) := by decide +kernel
theorem dX4_itemsAllowedAt_67 : decode cX4_itemsAllowedAt 67 = .ok (.invokevirtual 207, 3) := by decide +kernel
theorem dX4_itemsAllowedAt_70 : decode cX4_itemsAllowedAt 70 = .ok (.ifCond .eq 13, 3) := by decide +kernel
theorem dX4_itemsAllowedAt_73 : decode cX4_itemsAllowedAt 73 = .ok (.aload_n 0, 1) := by decide +kernel
theorem dX4_itemsAllowedAt_74 : decode cX4_itemsAllowedAt 74 = .ok (.iload 4, 2) := by decide +kernel
theorem dX4_itemsAllowedAt_76 : decode cX4_itemsAllowedAt 76 = .ok (.iload_n 2, 1) := by decide +kernel
theorem dX4_itemsAllowedAt_77 : decode cX4_itemsAllowedAt 77 = .ok (.invokevirtual 94, 3) := by decide +kernel
theorem dX4_itemsAllowedAt_80 : decode cX4_itemsAllowedAt 80 = .ok (.ifCond .eq 10, 3) := by decide +kernel
theorem dX4_itemsAllowedAt_83 : decode cX4_itemsAllowedAt 83 = .ok (.iload_n 3, 1) := by decide +kernel
theorem dX4_itemsAllowedAt_84 : decode cX4_itemsAllowedAt 84 = .ok (.iconst 1, 1) := by decide +kernel
theorem dX4_itemsAllowedAt_85 : decode cX4_itemsAllowedAt 85 = .ok (.iload 4, 2) := by decide +kernel
theorem dX4_itemsAllowedAt_87 : decode cX4_itemsAllowedAt 87 = .ok (.ishl, 1) := by decide +kernel
theorem dX4_itemsAllowedAt_88 : decode cX4_itemsAllowedAt 88 = .ok (.ior, 1) := by decide +kernel
theorem dX4_itemsAllowedAt_89 : decode cX4_itemsAllowedAt 89 = .ok (.istore_n 3, 1) := by decide +kernel
theorem dX4_itemsAllowedAt_90 : decode cX4_itemsAllowedAt 90 = .ok (.iinc 4 1, 3) := by decide +kernel
theorem dX4_itemsAllowedAt_93 : decode cX4_itemsAllowedAt 93 = .ok (.goto (-77), 3) := by decide +kernel
theorem dX4_itemsAllowedAt_96 : decode cX4_itemsAllowedAt 96 = .ok (.aload_n 0, 1) := by decide +kernel
theorem dX4_itemsAllowedAt_97 : decode cX4_itemsAllowedAt 97 = .ok (.getfield 26, 3) := by decide +kernel
theorem dX4_itemsAllowedAt_100 : decode cX4_itemsAllowedAt 100 = .ok (.iload_n 1, 1) := by decide +kernel
theorem dX4_itemsAllowedAt_101 : decode cX4_itemsAllowedAt 101 = .ok (.invokevirtual 100, 3) := by decide +kernel
theorem dX4_itemsAllowedAt_104 : decode cX4_itemsAllowedAt 104 = .ok (.istore 4, 2) := by decide +kernel
theorem dX4_itemsAllowedAt_106 : decode cX4_itemsAllowedAt 106 = .ok (.iload 4, 2) := by decide +kernel
theorem dX4_itemsAllowedAt_108 : decode cX4_itemsAllowedAt 108 = .ok (.iconst (-1), 1) := by decide +kernel
theorem dX4_itemsAllowedAt_109 : decode cX4_itemsAllowedAt 109 = .ok (.if_icmp .ne 7, 3) := by decide +kernel
theorem dX4_itemsAllowedAt_112 : decode cX4_itemsAllowedAt 112 = .ok (.iload_n 3, 1) := by decide +kernel
theorem dX4_itemsAllowedAt_113 : decode cX4_itemsAllowedAt 113 = .ok (.goto 9, 3) := by decide +kernel
theorem dX4_itemsAllowedAt_116 : decode cX4_itemsAllowedAt 116 = .ok (.iload_n 3, 1) := by decide +kernel
theorem dX4_itemsAllowedAt_117 : decode cX4_itemsAllowedAt 117 = .ok (.iconst 1, 1) := by decide +kernel
theorem dX4_itemsAllowedAt_118 : decode cX4_itemsAllowedAt 118 = .ok (.iload 4, 2) := by decide +kernel
theorem dX4_itemsAllowedAt_120 : decode cX4_itemsAllowedAt 120 = .ok (.ishl, 1) := by decide +kernel
theorem dX4_itemsAllowedAt_121 : decode cX4_itemsAllowedAt 121 = .ok (.iand, 1) := by decide +kernel
theorem dX4_itemsAllowedAt_122 : decode cX4_itemsAllowedAt 122 = .ok (.ireturn, 1) := by decide +kernel
end
section
theorem dX5_init_0 : decode cX5_init 0 = .ok (.aload_n 0, 1) := by decide +kernel
theorem dX5_init_1 : decode cX5_init 1 = .ok (.invokespecial 3, 3) := by decide +kernel
theorem dX5_init_4 : decode cX5_init 4 = .ok (.aload_n 0, 1) := by decide +kernel
theorem dX5_init_5 : decode cX5_init 5 = .ok (.iconst 5, 1) := by decide +kernel
theorem dX5_init_6 : decode cX5_init 6 = .ok (.putfield 9, 3) := by decide +kernel
theorem dX5_init_9 : decode cX5_init 9 = .ok (.aload_n 0, 1) := by decide +kernel
theorem dX5_init_10 : decode cX5_init 10 = .ok (.sipush 500, 3) := by decide +kernel
theorem dX5_init_13 : decode cX5_init 13 = .ok (.putfield 13, 3) := by decide +kernel
theorem dX5_init_16 : decode cX5_init 16 = .ok (.aload_n 0, 1) := by decide +kernel
theorem dX5_init_17 : decode cX5_init 17 = .ok (.iconst 1, 1) := by decide +kernel
theorem dX5_init_18 : decode cX5_init 18 = .ok (.putfield 16, 3) := by decide +kernel
theorem dX5_init_21 : decode cX5_init 21 = .ok (.aload_n 0, 1) := by decide +kernel
theorem dX5_init_22 : decode cX5_init 22 = .ok (.iconst 4, 1) := by decide +kernel
theorem dX5_init_23 : decode cX5_init 23 = .ok (.newarray .int, 2) := by decide +kernel
theorem dX5_init_25 : decode cX5_init 25 = .ok (.putfield 19, 3) := by decide +kernel
theorem dX5_init_28 : decode cX5_init 28 = .ok (.aload_n 0, 1) := by decide +kernel
theorem dX5_init_29 : decode cX5_init 29 = .ok (.bipush 10, 2) := by decide +kernel
theorem dX5_init_31 : decode cX5_init 31 = .ok (.newarray .int, 2) := by decide +kernel
theorem dX5_init_33 : decode cX5_init 33 = .ok (.putfield 23, 3) := by decide +kernel
theorem dX5_init_36 : decode cX5_init 36 = .ok (.aload_n 0, 1) := by decide +kernel
theorem dX5_init_37 : decode cX5_init 37 = .ok (.bipush 10, 2) := by decide +kernel
theorem dX5_init_39 : decode cX5_init 39 = .ok (.newarray .int, 2) := by decide +kernel
theorem dX5_init_41 : decode cX5_init 41 = .ok (.putfield 26, 3) := by decide +kernel
theorem dX5_init_44 : decode cX5_init 44 = .ok (.aload_n 0, 1) := by decide +kernel
theorem dX5_init_45 : decode cX5_init 45 = .ok (.bipush 10, 2) := by decide +kernel
theorem dX5_init_47 : decode cX5_init 47 = .ok (.newarray .int, 2) := by decide +kernel
theorem dX5_init_49 : decode cX5_init 49 = .ok (.putfield 29, 3) := by decide +kernel
theorem dX5_init_52 : decode cX5_init 52 = .ok (.aload_n 0, 1) := by decide +kernel
theorem dX5_init_53 : decode cX5_init 53 = .ok (.bipush 10, 2) := by decide +kernel
theorem dX5_init_55 : decode cX5_init 55 = .ok (.newarray .int, 2) := by decide +kernel
theorem dX5_init_57 : decode cX5_init 57 = .ok (.putfield 32, 3) := by decide +kernel
theorem dX5_init_60 : decode cX5_init 60 = .ok (.aload_n 0, 1) := by decide +kernel
theorem dX5_init_61 : decode cX5_init 61 = .ok (.bipush 10, 2) := by decide +kernel
theorem dX5_init_63 : decode cX5_init 63 = .ok (.newarray .int, 2) := by decide +kernel
theorem dX5_init_65 : decode cX5_init 65 = .ok (.putfield 35, 3) := by decide +kernel
theorem dX5_init_68 : decode cX5_init 68 = .ok (.aload_n 0, 1) := by decide +kernel
theorem dX5_init_69 : decode cX5_init 69 = .ok (.bipush 10, 2) := by decide +kernel
theorem dX5_init_71 : decode cX5_init 71 = .ok (.newarray .int, 2) := by decide +kernel
theorem dX5_init_73 : decode cX5_init 73 = .ok (.putfield 38, 3) := by decide +kernel
theorem dX5_init_76 : decode cX5_init 76 = .ok (.aload_n 0, 1) := by decide +kernel
theorem dX5_init_77 : decode cX5_init 77 = .ok (.bipush 10, 2) := by decide +kernel
theorem dX5_init_79 : decode cX5_init 79 = .ok (.newarray .int, 2) := by decide +kernel
theorem dX5_init_81 : decode cX5_init 81 = .ok (.putfield 41, 3) := by decide +kernel
theorem dX5_init_84 : decode cX5_init 84 = .ok (.aload_n 0, 1) := by decide +kernel
theorem dX5_init_85 : decode cX5_init 85 = .ok (.bipush 10, 2) := by decide +kernel
theorem dX5_init_87 : decode cX5_init 87 = .ok (.newarray .int, 2) := by decide +kernel
theorem dX5_init_89 : decode cX5_init 89 = .ok (.putfield 44, 3) := by decide +kernel
theorem dX5_init_92 : decode cX5_init 92 = .ok (.aload_n 0, 1) := by decide +kernel
theorem dX5_init_93 : decode cX5_init 93 = .ok (.bipush 10, 2) := by decide +kernel
theorem dX5_init_95 : decode cX5_init 95 = .ok (.newarray .int, 2) := by decide +kernel
theorem dX5_init_97 : decode cX5_init 97 = .ok (.putfield 47, 3) := by decide +kernel
theorem dX5_init_100 : decode cX5_init 100 = .ok (.aload_n 0, 1) := by decide +kernel
theorem dX5_init_101 : decode cX5_init 101 = .ok (.iconst 4, 1) := by decide +kernel
theorem dX5_init_102 : decode cX5_init 102 = .ok (.newarray .int, 2) := by decide +kernel
theorem dX5_init_104 : decode cX5_init 104 = .ok (.putfield 50, 3) := by decide +kernel
theorem dX5_init_107 : decode cX5_init 107 = .ok (.aload_n 0, 1) := by decide +kernel
theorem dX5_init_108 : decode cX5_init 108 = .ok (.iconst 4, 1) := by decide +kernel
theorem dX5_init_109 : decode cX5_init 109 = .ok (.newarray .int, 2) := by decide +kernel
theorem dX5_init_111 : decode cX5_init 111 = .ok (.putfield 53, 3) := by decide +kernel
theorem dX5_init_114 : decode cX5_init 114 = .ok (.aload_n 0, 1) := by decide +kernel
theorem dX5_init_115 : decode cX5_init 115 = .ok (.iconst 4, 1) := by decide +kernel
theorem dX5_init_116 : decode cX5_init 116 = .ok (.newarray .int, 2) := by decide +kernel
theorem dX5_init_118 : decode cX5_init 118 = .ok (.putfield 56, 3) := by decide +kernel
theorem dX5_init_121 : decode cX5_init 121 = .ok (.aload_n 0, 1) := by decide +kernel
theorem dX5_init_122 : decode cX5_init 122 = .ok (.iconst 4, 1) := by decide +kernel
theorem dX5_init_123 : decode cX5_init 123 = .ok (.newarray .int, 2) := by decide +kernel
theorem dX5_init_125 : decode cX5_init 125 = .ok (.putfield 59, 3) := by decide +kernel
theorem dX5_init_128 : decode cX5_init 128 = .ok (.aload_n 0, 1) := by decide +kernel
theorem dX5_init_129 : decode cX5_init 129 = .ok (.bipush 8, 2) := by decide +kernel
theorem dX5_init_131 : decode cX5_init 131 = .ok (.newarray .int, 2) := by decide +kernel
theorem dX5_init_133 : decode cX5_init 133 = .ok (.putfield 62, 3) := by decide +kernel
theorem dX5_init_136 : decode cX5_init 136 = .ok (.aload_n 0, 1) := by decide +kernel
theorem dX5_init_137 : decode cX5_init 137 = .ok (.bipush 8, 2) := by decide +kernel
theorem dX5_init_139 : decode cX5_init 139 = .ok (.newarray .int, 2) := by decide +kernel
theorem dX5_init_141 : decode cX5_init 141 = .ok (.putfield 65, 3) := by decide +kernel
theorem dX5_init_144 : decode cX5_init 144 = .ok (.aload_n 0, 1) := by decide +kernel
theorem dX5_init_145 : decode cX5_init 145 = .ok (.bipush 80, 2) := by decide +kernel
theorem dX5_init_147 : decode cX5_init 147 = .ok (.newarray .boolean, 2) := by decide +kernel
theorem dX5_init_149 : decode cX5_init 149 = .ok (.putfield 68, 3) := by decide +kernel
theorem dX5_init_152 : decode cX5_init 152 = .ok (.aload_n 0, 1) := by decide +kernel
theorem dX5_init_153 : decode cX5_init 153 = .ok (.ldc 72, 2) := by decide +kernel
theorem dX5_init_155 : decode cX5_init 155 = .ok (.newarray .int, 2) := by decide +kernel
theorem dX5_init_157 : decode cX5_init 157 = .ok (.putfield 73, 3) := by decide +kernel
theorem dX5_init_160 : decode cX5_init 160 = .ok (.aload_n 0, 1) := by decide +kernel
theorem dX5_init_161 : decode cX5_init 161 = .ok (.ldc 72, 2) := by decide +kernel
theorem dX5_init_163 : decode cX5_init 163 = .ok (.newarray .long, 2) := by decide +kernel
theorem dX5_init_165 : decode cX5_init 165 = .ok (.putfield 76, 3) := by decide +kernel
theorem dX5_init_168 : decode cX5_init 168 = .ok (.aload_n 0, 1) := by decide +kernel
theorem dX5_init_169 : decode cX5_init 169 = .ok (.ldc 72, 2) := by decide +kernel
theorem dX5_init_171 : decode cX5_init 171 = .ok (.newarray .long, 2) := by decide +kernel
theorem dX5_init_173 : decode cX5_init 173 = .ok (.putfield 80, 3) := by decide +kernel
theorem dX5_init_176 : decode cX5_init 176 = .ok (.aload_n 0, 1) := by decide +kernel
theorem dX5_init_177 : decode cX5_init 177 = .ok (.bipush 88, 2) := by decide +kernel
theorem dX5_init_179 : decode cX5_init 179 = .ok (.newarray .long, 2) := by decide +kernel
theorem dX5_init_181 : decode cX5_init 181 = .ok (.putfield 83, 3) := by decide +kernel
theorem dX5_init_184 : decode cX5_init 184 = .ok (.aload_n 0, 1) := by decide +kernel
theorem dX5_init_185 : decode cX5_init 185 = .ok (.bipush 8, 2) := by decide +kernel
theorem dX5_init_187 : decode cX5_init 187 = .ok (.newarray .int, 2) := by decide +kernel
theorem dX5_init_189 : decode cX5_init 189 = .ok (.putfield 86, 3) := by decide +kernel
theorem dX5_init_192 : decode cX5_init 192 = .ok (.aload_n 0, 1) := by decide +kernel
theorem dX5_init_193 : decode cX5_init 193 = .ok (.iconst 4, 1) := by decide +kernel
theorem dX5_init_194 : decode cX5_init 194 = .ok (.newarray .int, 2) := by decide +kernel
theorem dX5_init_196 : decode cX5_init 196 = .ok (.putfield 89, 3) := by decide +kernel
theorem dX5_init_199 : decode cX5_init 199 = .ok (.return_, 1) := by decide +kernel
theorem dX5_thrown_0 : decode cX5_thrown 0 = .ok (.aload_n 0, 1) := by decide +kernel
theorem dX5_thrown_1 : decode cX5_thrown 1 = .ok (.getfield 92, 3) := by decide +kernel
theorem dX5_thrown_4 : decode cX5_thrown 4 = .ok (.ireturn, 1) := by decide +kernel
theorem dX5_isIn_0 : decode cX5_isIn 0 = .ok (.iload_n 0, 1) := by decide +kernel
theorem dX5_isIn_1 : decode cX5_isIn 1 = .ok (.iload_n 1, 1) := by decide +kernel
theorem dX5_isIn_2 : decode cX5_isIn 2 = .ok (.if_icmp .lt 12, 3) := by decide +kernel
theorem dX5_isIn_5 : decode cX5_isIn 5 = .ok (.iload_n 0, 1) := by decide +kernel
theorem dX5_isIn_6 : decode cX5_isIn 6 = .ok (.iload_n 2, 1) := by decide +kernel
theorem dX5_isIn_7 : decode cX5_isIn 7 = .ok (.if_icmp .gt 7, 3) := by decide +kernel
theorem dX5_isIn_10 : decode cX5_isIn 10 = .ok (.iconst 1, 1) := by decide +kernel
theorem dX5_isIn_11 : decode cX5_isIn 11 = .ok (.goto 4, 3) := by decide +kernel
theorem dX5_isIn_14 : decode cX5_isIn 14 = .ok (.iconst 0, 1) := by decide +kernel
theorem dX5_isIn_15 : decode cX5_isIn 15 = .ok (.ireturn, 1) := by decide +kernel
theorem dX5_isWidth_0 : decode cX5_isWidth 0 = .ok (.iload_n 0, 1) := by decide +kernel
theorem dX5_isWidth_1 : decode cX5_isWidth 1 = .ok (.bipush 100, 2) := by decide +kernel
theorem dX5_isWidth_3 : decode cX5_isWidth 3 = .ok (.sipush 3000, 3) := by decide +kernel
theorem dX5_isWidth_6 : decode cX5_isWidth 6 = .ok (.invokestatic 95, 3) := by decide +kernel
theorem dX5_isWidth_9 : decode cX5_isWidth 9 = .ok (.ireturn, 1) := by decide +kernel
theorem dX5_isDrum_0 : decode cX5_isDrum 0 = .ok (.iload_n 1, 1) := by decide +kernel
theorem dX5_isDrum_1 : decode cX5_isDrum 1 = .ok (.ifCond .lt 15, 3) := by decide +kernel
theorem dX5_isDrum_4 : decode cX5_isDrum 4 = .ok (.iload_n 1, 1) := by decide +kernel
theorem dX5_isDrum_5 : decode cX5_isDrum 5 = .ok (.aload_n 0, 1) := by decide +kernel
theorem dX5_isDrum_6 : decode cX5_isDrum 6 = .ok (.getfield 99, 3) := by decide +kernel
theorem dX5_isDrum_9 : decode cX5_isDrum 9 = .ok (.if_icmp .ge 7, 3) := by decide +kernel
theorem dX5_isDrum_12 : decode cX5_isDrum 12 = .ok (.iconst 1, 1) := by decide +kernel
theorem dX5_isDrum_13 : decode cX5_isDrum 13 = .ok (.goto 4, 3) := by decide +kernel
theorem dX5_isDrum_16 : decode cX5_isDrum 16 = .ok (.iconst 0, 1) := by decide +kernel
theorem dX5_isDrum_17 : decode cX5_isDrum 17 = .ok (.ireturn, 1) := by decide +kernel
theorem dX5_isColumn_0 : decode cX5_isColumn 0 = .ok (.iload_n 1, 1) := by decide +kernel
theorem dX5_isColumn_1 : decode cX5_isColumn 1 = .ok (.ifCond .lt 15, 3) := by decide +kernel
theorem dX5_isColumn_4 : decode cX5_isColumn 4 = .ok (.iload_n 1, 1) := by decide +kernel
theorem dX5_isColumn_5 : decode cX5_isColumn 5 = .ok (.aload_n 0, 1) := by decide +kernel
theorem dX5_isColumn_6 : decode cX5_isColumn 6 = .ok (.getfield 102, 3) := by decide +kernel
theorem dX5_isColumn_9 : decode cX5_isColumn 9 = .ok (.if_icmp .ge 7, 3) := by decide +kernel
theorem dX5_isColumn_12 : decode cX5_isColumn 12 = .ok (.iconst 1, 1) := by decide +kernel
theorem dX5_isColumn_13 : decode cX5_isColumn 13 = .ok (.goto 4, 3) := by decide +kernel
theorem dX5_isColumn_16 : decode cX5_isColumn 16 = .ok (.iconst 0, 1) := by decide +kernel
theorem dX5_isColumn_17 : decode cX5_isColumn 17 = .ok (.ireturn, 1) := by decide +kernel
theorem dX5_isPlace_0 : decode cX5_isPlace 0 = .ok (.iload_n 1, 1) := by decide +kernel
theorem dX5_isPlace_1 : decode cX5_isPlace 1 = .ok (.ifCond .lt 15, 3) := by decide +kernel
theorem dX5_isPlace_4 : decode cX5_isPlace 4 = .ok (.iload_n 1, 1) := by decide +kernel
theorem dX5_isPlace_5 : decode cX5_isPlace 5 = .ok (.aload_n 0, 1) := by decide +kernel
theorem dX5_isPlace_6 : decode cX5_isPlace 6 = .ok (.getfield 105, 3) := by decide +kernel
theorem dX5_isPlace_9 : decode cX5_isPlace 9 = .ok (.if_icmp .ge 7, 3) := by decide +kernel
theorem dX5_isPlace_12 : decode cX5_isPlace 12 = .ok (.iconst 1, 1) := by decide +kernel
theorem dX5_isPlace_13 : decode cX5_isPlace 13 = .ok (.goto 4, 3) := by decide +kernel
theorem dX5_isPlace_16 : decode cX5_isPlace 16 = .ok (.iconst 0, 1) := by decide +kernel
theorem dX5_isPlace_17 : decode cX5_isPlace 17 = .ok (.ireturn, 1) := by decide +kernel
theorem dX5_measure_0 : decode cX5_measure 0 = .ok (.aload_n 0, 1) := by decide +kernel
theorem dX5_measure_1 : decode cX5_measure 1 = .ok (.iconst 0, 1) := by decide +kernel
theorem dX5_measure_2 : decode cX5_measure 2 = .ok (.putfield 92, 3) := by decide +kernel
theorem dX5_measure_5 : decode cX5_measure 5 = .ok (.iload_n 1, 1) := by decide +kernel
theorem dX5_measure_6 : decode cX5_measure 6 = .ok (.invokestatic 108, 3) := by decide +kernel
theorem dX5_measure_9 : decode cX5_measure 9 = .ok (.ifCond .eq 32, 3) := by decide +kernel
theorem dX5_measure_12 : decode cX5_measure 12 = .ok (.iload_n 2, 1) := by decide +kernel
theorem dX5_measure_13 : decode cX5_measure 13 = .ok (.invokestatic 108, 3) := by decide +kernel
theorem dX5_measure_16 : decode cX5_measure 16 = .ok (.ifCond .eq 25, 3) := by decide +kernel
theorem dX5_measure_19 : decode cX5_measure 19 = .ok (.iload_n 3, 1) := by decide +kernel
theorem dX5_measure_20 : decode cX5_measure 20 = .ok (.iconst 0, 1) := by decide +kernel
theorem dX5_measure_21 : decode cX5_measure 21 = .ok (.bipush 50, 2) := by decide +kernel
theorem dX5_measure_23 : decode cX5_measure 23 = .ok (.invokestatic 95, 3) := by decide +kernel
theorem dX5_measure_26 : decode cX5_measure 26 = .ok (.ifCond .eq 15, 3) := by decide +kernel
theorem dX5_measure_29 : decode cX5_measure 29 = .ok (.iload 4, 2) := by decide +kernel
theorem dX5_measure_31 : decode cX5_measure 31 = .ok (.iconst 1, 1) := by decide +kernel
theorem dX5_measure_32 : decode cX5_measure 32 = .ok (.sipush 2000, 3) := by decide +kernel
theorem dX5_measure_35 : decode cX5_measure 35 = .ok (.invokestatic 95, 3) := by decide +kernel
theorem dX5_measure_38 : decode cX5_measure 38 = .ok (.ifCond .ne 5, 3) := by decide +kernel
theorem dX5_measure_41 : decode cX5_measure 41 = .ok (.iconst 0, 1) := by decide +kernel
theorem dX5_measure_42 : decode cX5_measure 42 = .ok (.ireturn, 1) := by decide +kernel
theorem dX5_measure_43 : decode cX5_measure 43 = .ok (.aload_n 0, 1) := by decide +kernel
theorem dX5_measure_44 : decode cX5_measure 44 = .ok (.getfield 19, 3) := by decide +kernel
theorem dX5_measure_47 : decode cX5_measure 47 = .ok (.iconst 0, 1) := by decide +kernel
theorem dX5_measure_48 : decode cX5_measure 48 = .ok (.iload_n 1, 1) := by decide +kernel
theorem dX5_measure_49 : decode cX5_measure 49 = .ok (.iastore, 1) := by decide +kernel
theorem dX5_measure_50 : decode cX5_measure 50 = .ok (.aload_n 0, 1) := by decide +kernel
theorem dX5_measure_51 : decode cX5_measure 51 = .ok (.getfield 19, 3) := by decide +kernel
theorem dX5_measure_54 : decode cX5_measure 54 = .ok (.iconst 1, 1) := by decide +kernel
theorem dX5_measure_55 : decode cX5_measure 55 = .ok (.iload_n 2, 1) := by decide +kernel
theorem dX5_measure_56 : decode cX5_measure 56 = .ok (.iastore, 1) := by decide +kernel
theorem dX5_measure_57 : decode cX5_measure 57 = .ok (.aload_n 0, 1) := by decide +kernel
theorem dX5_measure_58 : decode cX5_measure 58 = .ok (.getfield 19, 3) := by decide +kernel
theorem dX5_measure_61 : decode cX5_measure 61 = .ok (.iconst 2, 1) := by decide +kernel
theorem dX5_measure_62 : decode cX5_measure 62 = .ok (.iload_n 3, 1) := by decide +kernel
theorem dX5_measure_63 : decode cX5_measure 63 = .ok (.iastore, 1) := by decide +kernel
theorem dX5_measure_64 : decode cX5_measure 64 = .ok (.aload_n 0, 1) := by decide +kernel
theorem dX5_measure_65 : decode cX5_measure 65 = .ok (.getfield 19, 3) := by decide +kernel
theorem dX5_measure_68 : decode cX5_measure 68 = .ok (.iconst 3, 1) := by decide +kernel
theorem dX5_measure_69 : decode cX5_measure 69 = .ok (.iload 4, 2) := by decide +kernel
theorem dX5_measure_71 : decode cX5_measure 71 = .ok (.iastore, 1) := by decide +kernel
theorem dX5_measure_72 : decode cX5_measure 72 = .ok (.aload_n 0, 1) := by decide +kernel
theorem dX5_measure_73 : decode cX5_measure 73 = .ok (.iconst 1, 1) := by decide +kernel
theorem dX5_measure_74 : decode cX5_measure 74 = .ok (.putfield 112, 3) := by decide +kernel
theorem dX5_measure_77 : decode cX5_measure 77 = .ok (.iconst 1, 1) := by decide +kernel
theorem dX5_measure_78 : decode cX5_measure 78 = .ok (.ireturn, 1) := by decide +kernel
theorem dX5_drum_0 : decode cX5_drum 0 = .ok (.aload_n 0, 1) := by decide +kernel
theorem dX5_drum_1 : decode cX5_drum 1 = .ok (.iconst 0, 1) := by decide +kernel
theorem dX5_drum_2 : decode cX5_drum 2 = .ok (.putfield 92, 3) := by decide +kernel
theorem dX5_drum_5 : decode cX5_drum 5 = .ok (.aload_n 0, 1) := by decide +kernel
theorem dX5_drum_6 : decode cX5_drum 6 = .ok (.getfield 112, 3) := by decide +kernel
theorem dX5_drum_9 : decode cX5_drum 9 = .ok (.ifCond .eq 65, 3) := by decide +kernel
theorem dX5_drum_12 : decode cX5_drum 12 = .ok (.aload_n 0, 1) := by decide +kernel
theorem dX5_drum_13 : decode cX5_drum 13 = .ok (.getfield 99, 3) := by decide +kernel
theorem dX5_drum_16 : decode cX5_drum 16 = .ok (.bipush 10, 2) := by decide +kernel
theorem dX5_drum_18 : decode cX5_drum 18 = .ok (.if_icmp .eq 56, 3) := by decide +kernel
theorem dX5_drum_21 : decode cX5_drum 21 = .ok (.iload_n 1, 1) := by decide +kernel
theorem dX5_drum_22 : decode cX5_drum 22 = .ok (.iconst 0, 1) := by decide +kernel
theorem dX5_drum_23 : decode cX5_drum 23 = .ok (.bipush 40, 2) := by decide +kernel
theorem dX5_drum_25 : decode cX5_drum 25 = .ok (.invokestatic 95, 3) := by decide +kernel
theorem dX5_drum_28 : decode cX5_drum 28 = .ok (.ifCond .eq 46, 3) := by decide +kernel
theorem dX5_drum_31 : decode cX5_drum 31 = .ok (.iload_n 2, 1) := by decide +kernel
theorem dX5_drum_32 : decode cX5_drum 32 = .ok (.iconst 0, 1) := by decide +kernel
theorem dX5_drum_33 : decode cX5_drum 33 = .ok (.ldc 116, 2) := by decide +kernel
theorem dX5_drum_35 : decode cX5_drum 35 = .ok (.invokestatic 95, 3) := by decide +kernel
theorem dX5_drum_38 : decode cX5_drum 38 = .ok (.ifCond .eq 36, 3) := by decide +kernel
theorem dX5_drum_41 : decode cX5_drum 41 = .ok (.iload_n 3, 1) := by decide +kernel
theorem dX5_drum_42 : decode cX5_drum 42 = .ok (.iconst 0, 1) := by decide +kernel
theorem dX5_drum_43 : decode cX5_drum 43 = .ok (.ldc 116, 2) := by decide +kernel
theorem dX5_drum_45 : decode cX5_drum 45 = .ok (.invokestatic 95, 3) := by decide +kernel
theorem dX5_drum_48 : decode cX5_drum 48 = .ok (.ifCond .eq 26, 3) := by decide +kernel
theorem dX5_drum_51 : decode cX5_drum 51 = .ok (.iload 4, 2) := by decide +kernel
theorem dX5_drum_53 : decode cX5_drum 53 = .ok (.iconst 1, 1) := by decide +kernel
theorem dX5_drum_54 : decode cX5_drum 54 = .ok (.sipush 10000, 3) := by decide +kernel
theorem dX5_drum_57 : decode cX5_drum 57 = .ok (.invokestatic 95, 3) := by decide +kernel
theorem dX5_drum_60 : decode cX5_drum 60 = .ok (.ifCond .eq 14, 3) := by decide +kernel
theorem dX5_drum_63 : decode cX5_drum 63 = .ok (.iload 5, 2) := by decide +kernel
theorem dX5_drum_65 : decode cX5_drum 65 = .ok (.iconst 0, 1) := by decide +kernel
theorem dX5_drum_66 : decode cX5_drum 66 = .ok (.ldc 117, 2) := by decide +kernel
theorem dX5_drum_68 : decode cX5_drum 68 = .ok (.invokestatic 95, 3) := by decide +kernel
theorem dX5_drum_71 : decode cX5_drum 71 = .ok (.ifCond .ne 5, 3) := by decide +kernel
theorem dX5_drum_74 : decode cX5_drum 74 = .ok (.iconst (-1), 1) := by decide +kernel
theorem dX5_drum_75 : decode cX5_drum 75 = .ok (.ireturn, 1) := by decide +kernel
theorem dX5_drum_76 : decode cX5_drum 76 = .ok (.aload_n 0, 1) := by decide +kernel
theorem dX5_drum_77 : decode cX5_drum 77 = .ok (.getfield 23, 3) := by decide +kernel
theorem dX5_drum_80 : decode cX5_drum 80 = .ok (.aload_n 0, 1) := by decide +kernel
theorem dX5_drum_81 : decode cX5_drum 81 = .ok (.getfield 99, 3) := by decide +kernel
theorem dX5_drum_84 : decode cX5_drum 84 = .ok (.aload_n 0, 1) := by decide +kernel
theorem dX5_drum_85 : decode cX5_drum 85 = .ok (.getfield 19, 3) := by decide +kernel
theorem dX5_drum_88 : decode cX5_drum 88 = .ok (.iconst 0, 1) := by decide +kernel
theorem dX5_drum_89 : decode cX5_drum 89 = .ok (.iaload, 1) := by decide +kernel
theorem dX5_drum_90 : decode cX5_drum 90 = .ok (.iastore, 1) := by decide +kernel
theorem dX5_drum_91 : decode cX5_drum 91 = .ok (.aload_n 0, 1) := by decide +kernel
theorem dX5_drum_92 : decode cX5_drum 92 = .ok (.getfield 26, 3) := by decide +kernel
theorem dX5_drum_95 : decode cX5_drum 95 = .ok (.aload_n 0, 1) := by decide +kernel
theorem dX5_drum_96 : decode cX5_drum 96 = .ok (.getfield 99, 3) := by decide +kernel
theorem dX5_drum_99 : decode cX5_drum 99 = .ok (.aload_n 0, 1) := by decide +kernel
theorem dX5_drum_100 : decode cX5_drum 100 = .ok (.getfield 19, 3) := by decide +kernel
theorem dX5_drum_103 : decode cX5_drum 103 = .ok (.iconst 1, 1) := by decide +kernel
theorem dX5_drum_104 : decode cX5_drum 104 = .ok (.iaload, 1) := by decide +kernel
theorem dX5_drum_105 : decode cX5_drum 105 = .ok (.iastore, 1) := by decide +kernel
theorem dX5_drum_106 : decode cX5_drum 106 = .ok (.aload_n 0, 1) := by decide +kernel
theorem dX5_drum_107 : decode cX5_drum 107 = .ok (.getfield 29, 3) := by decide +kernel
theorem dX5_drum_110 : decode cX5_drum 110 = .ok (.aload_n 0, 1) := by decide +kernel
theorem dX5_drum_111 : decode cX5_drum 111 = .ok (.getfield 99, 3) := by decide +kernel
theorem dX5_drum_114 : decode cX5_drum 114 = .ok (.aload_n 0, 1) := by decide +kernel
theorem dX5_drum_115 : decode cX5_drum 115 = .ok (.getfield 19, 3) := by decide +kernel
theorem dX5_drum_118 : decode cX5_drum 118 = .ok (.iconst 2, 1) := by decide +kernel
theorem dX5_drum_119 : decode cX5_drum 119 = .ok (.iaload, 1) := by decide +kernel
theorem dX5_drum_120 : decode cX5_drum 120 = .ok (.iastore, 1) := by decide +kernel
theorem dX5_drum_121 : decode cX5_drum 121 = .ok (.aload_n 0, 1) := by decide +kernel
theorem dX5_drum_122 : decode cX5_drum 122 = .ok (.getfield 32, 3) := by decide +kernel
theorem dX5_drum_125 : decode cX5_drum 125 = .ok (.aload_n 0, 1) := by decide +kernel
theorem dX5_drum_126 : decode cX5_drum 126 = .ok (.getfield 99, 3) := by decide +kernel
theorem dX5_drum_129 : decode cX5_drum 129 = .ok (.aload_n 0, 1) := by decide +kernel
theorem dX5_drum_130 : decode cX5_drum 130 = .ok (.getfield 19, 3) := by decide +kernel
theorem dX5_drum_133 : decode cX5_drum 133 = .ok (.iconst 3, 1) := by decide +kernel
theorem dX5_drum_134 : decode cX5_drum 134 = .ok (.iaload, 1) := by decide +kernel
theorem dX5_drum_135 : decode cX5_drum 135 = .ok (.iastore, 1) := by decide +kernel
theorem dX5_drum_136 : decode cX5_drum 136 = .ok (.aload_n 0, 1) := by decide +kernel
theorem dX5_drum_137 : decode cX5_drum 137 = .ok (.getfield 35, 3) := by decide +kernel
theorem dX5_drum_140 : decode cX5_drum 140 = .ok (.aload_n 0, 1) := by decide +kernel
theorem dX5_drum_141 : decode cX5_drum 141 = .ok (.getfield 99, 3) := by decide +kernel
theorem dX5_drum_144 : decode cX5_drum 144 = .ok (.iload_n 1, 1) := by decide +kernel
theorem dX5_drum_145 : decode cX5_drum 145 = .ok (.iastore, 1) := by decide +kernel
theorem dX5_drum_146 : decode cX5_drum 146 = .ok (.aload_n 0, 1) := by decide +kernel
theorem dX5_drum_147 : decode cX5_drum 147 = .ok (.getfield 38, 3) := by decide +kernel
theorem dX5_drum_150 : decode cX5_drum 150 = .ok (.aload_n 0, 1) := by decide +kernel
theorem dX5_drum_151 : decode cX5_drum 151 = .ok (.getfield 99, 3) := by decide +kernel
theorem dX5_drum_154 : decode cX5_drum 154 = .ok (.iload_n 2, 1) := by decide +kernel
theorem dX5_drum_155 : decode cX5_drum 155 = .ok (.iastore, 1) := by decide +kernel
theorem dX5_drum_156 : decode cX5_drum 156 = .ok (.aload_n 0, 1) := by decide +kernel
theorem dX5_drum_157 : decode cX5_drum 157 = .ok (.getfield 41, 3) := by decide +kernel
theorem dX5_drum_160 : decode cX5_drum 160 = .ok (.aload_n 0, 1) := by decide +kernel
theorem dX5_drum_161 : decode cX5_drum 161 = .ok (.getfield 99, 3) := by decide +kernel
theorem dX5_drum_164 : decode cX5_drum 164 = .ok (.iload_n 3, 1) := by decide +kernel
theorem dX5_drum_165 : decode cX5_drum 165 = .ok (.iastore, 1) := by decide +kernel
theorem dX5_drum_166 : decode cX5_drum 166 = .ok (.aload_n 0, 1) := by decide +kernel
theorem dX5_drum_167 : decode cX5_drum 167 = .ok (.getfield 44, 3) := by decide +kernel
theorem dX5_drum_170 : decode cX5_drum 170 = .ok (.aload_n 0, 1) := by decide +kernel
theorem dX5_drum_171 : decode cX5_drum 171 = .ok (.getfield 99, 3) := by decide +kernel
theorem dX5_drum_174 : decode cX5_drum 174 = .ok (.iload 4, 2) := by decide +kernel
theorem dX5_drum_176 : decode cX5_drum 176 = .ok (.iastore, 1) := by decide +kernel
theorem dX5_drum_177 : decode cX5_drum 177 = .ok (.aload_n 0, 1) := by decide +kernel
theorem dX5_drum_178 : decode cX5_drum 178 = .ok (.getfield 47, 3) := by decide +kernel
theorem dX5_drum_181 : decode cX5_drum 181 = .ok (.aload_n 0, 1) := by decide +kernel
theorem dX5_drum_182 : decode cX5_drum 182 = .ok (.getfield 99, 3) := by decide +kernel
theorem dX5_drum_185 : decode cX5_drum 185 = .ok (.iload 5, 2) := by decide +kernel
theorem dX5_drum_187 : decode cX5_drum 187 = .ok (.iastore, 1) := by decide +kernel
theorem dX5_drum_188 : decode cX5_drum 188 = .ok (.aload_n 0, 1) := by decide +kernel
theorem dX5_drum_189 : decode cX5_drum 189 = .ok (.dup, 1) := by decide +kernel
theorem dX5_drum_190 : decode cX5_drum 190 = .ok (.getfield 99, 3) := by decide +kernel
theorem dX5_drum_193 : decode cX5_drum 193 = .ok (.iconst 1, 1) := by decide +kernel
theorem dX5_drum_194 : decode cX5_drum 194 = .ok (.iadd, 1) := by decide +kernel
theorem dX5_drum_195 : decode cX5_drum 195 = .ok (.putfield 99, 3) := by decide +kernel
theorem dX5_drum_198 : decode cX5_drum 198 = .ok (.aload_n 0, 1) := by decide +kernel
theorem dX5_drum_199 : decode cX5_drum 199 = .ok (.iconst 0, 1) := by decide +kernel
theorem dX5_drum_200 : decode cX5_drum 200 = .ok (.putfield 112, 3) := by decide +kernel
theorem dX5_drum_203 : decode cX5_drum 203 = .ok (.aload_n 0, 1) := by decide +kernel
theorem dX5_drum_204 : decode cX5_drum 204 = .ok (.getfield 99, 3) := by decide +kernel
theorem dX5_drum_207 : decode cX5_drum 207 = .ok (.iconst 1, 1) := by decide +kernel
theorem dX5_drum_208 : decode cX5_drum 208 = .ok (.isub, 1) := by decide +kernel
theorem dX5_drum_209 : decode cX5_drum 209 = .ok (.ireturn, 1) := by decide +kernel
theorem dX5_set_0 : decode cX5_set 0 = .ok (.aload_n 0, 1) := by decide +kernel
theorem dX5_set_1 : decode cX5_set 1 = .ok (.iconst 0, 1) := by decide +kernel
theorem dX5_set_2 : decode cX5_set 2 = .ok (.putfield 92, 3) := by decide +kernel
theorem dX5_set_5 : decode cX5_set 5 = .ok (.iload_n 1, 1) := by decide +kernel
theorem dX5_set_6 : decode cX5_set 6 = .ok (.iconst 0, 1) := by decide +kernel
theorem dX5_set_7 : decode cX5_set 7 = .ok (.bipush 50, 2) := by decide +kernel
theorem dX5_set_9 : decode cX5_set 9 = .ok (.invokestatic 95, 3) := by decide +kernel
theorem dX5_set_12 : decode cX5_set 12 = .ok (.ifCond .eq 23, 3) := by decide +kernel
theorem dX5_set_15 : decode cX5_set 15 = .ok (.iload_n 2, 1) := by decide +kernel
theorem dX5_set_16 : decode cX5_set 16 = .ok (.iconst 1, 1) := by decide +kernel
theorem dX5_set_17 : decode cX5_set 17 = .ok (.sipush 10000, 3) := by decide +kernel
theorem dX5_set_20 : decode cX5_set 20 = .ok (.invokestatic 95, 3) := by decide +kernel
theorem dX5_set_23 : decode cX5_set 23 = .ok (.ifCond .eq 12, 3) := by decide +kernel
theorem dX5_set_26 : decode cX5_set 26 = .ok (.iload_n 3, 1) := by decide +kernel
theorem dX5_set_27 : decode cX5_set 27 = .ok (.iconst 1, 1) := by decide +kernel
theorem dX5_set_28 : decode cX5_set 28 = .ok (.iconst 5, 1) := by decide +kernel
theorem dX5_set_29 : decode cX5_set 29 = .ok (.invokestatic 95, 3) := by decide +kernel
theorem dX5_set_32 : decode cX5_set 32 = .ok (.ifCond .ne 5, 3) := by decide +kernel
theorem dX5_set_35 : decode cX5_set 35 = .ok (.iconst 0, 1) := by decide +kernel
theorem dX5_set_36 : decode cX5_set 36 = .ok (.ireturn, 1) := by decide +kernel
theorem dX5_set_37 : decode cX5_set 37 = .ok (.aload_n 0, 1) := by decide +kernel
theorem dX5_set_38 : decode cX5_set 38 = .ok (.iload_n 1, 1) := by decide +kernel
theorem dX5_set_39 : decode cX5_set 39 = .ok (.putfield 9, 3) := by decide +kernel
theorem dX5_set_42 : decode cX5_set 42 = .ok (.aload_n 0, 1) := by decide +kernel
theorem dX5_set_43 : decode cX5_set 43 = .ok (.iload_n 2, 1) := by decide +kernel
theorem dX5_set_44 : decode cX5_set 44 = .ok (.putfield 13, 3) := by decide +kernel
theorem dX5_set_47 : decode cX5_set 47 = .ok (.aload_n 0, 1) := by decide +kernel
theorem dX5_set_48 : decode cX5_set 48 = .ok (.iload_n 3, 1) := by decide +kernel
theorem dX5_set_49 : decode cX5_set 49 = .ok (.putfield 16, 3) := by decide +kernel
theorem dX5_set_52 : decode cX5_set 52 = .ok (.iconst 1, 1) := by decide +kernel
theorem dX5_set_53 : decode cX5_set 53 = .ok (.ireturn, 1) := by decide +kernel
theorem dX5_column_0 : decode cX5_column 0 = .ok (.aload_n 0, 1) := by decide +kernel
theorem dX5_column_1 : decode cX5_column 1 = .ok (.iconst 0, 1) := by decide +kernel
theorem dX5_column_2 : decode cX5_column 2 = .ok (.putfield 92, 3) := by decide +kernel
theorem dX5_column_5 : decode cX5_column 5 = .ok (.aload_n 0, 1) := by decide +kernel
theorem dX5_column_6 : decode cX5_column 6 = .ok (.getfield 102, 3) := by decide +kernel
theorem dX5_column_9 : decode cX5_column 9 = .ok (.iconst 4, 1) := by decide +kernel
theorem dX5_column_10 : decode cX5_column 10 = .ok (.if_icmp .eq 45, 3) := by decide +kernel
theorem dX5_column_13 : decode cX5_column 13 = .ok (.iload_n 1, 1) := by decide +kernel
theorem dX5_column_14 : decode cX5_column 14 = .ok (.iconst 1, 1) := by decide +kernel
theorem dX5_column_15 : decode cX5_column 15 = .ok (.iconst 5, 1) := by decide +kernel
theorem dX5_column_16 : decode cX5_column 16 = .ok (.invokestatic 95, 3) := by decide +kernel
theorem dX5_column_19 : decode cX5_column 19 = .ok (.ifCond .eq 36, 3) := by decide +kernel
theorem dX5_column_22 : decode cX5_column 22 = .ok (.aload_n 0, 1) := by decide +kernel
theorem dX5_column_23 : decode cX5_column 23 = .ok (.getfield 105, 3) := by decide +kernel
theorem dX5_column_26 : decode cX5_column 26 = .ok (.iload_n 1, 1) := by decide +kernel
theorem dX5_column_27 : decode cX5_column 27 = .ok (.iadd, 1) := by decide +kernel
theorem dX5_column_28 : decode cX5_column 28 = .ok (.bipush 8, 2) := by decide +kernel
theorem dX5_column_30 : decode cX5_column 30 = .ok (.if_icmp .gt 25, 3) := by decide +kernel
theorem dX5_column_33 : decode cX5_column 33 = .ok (.iload_n 2, 1) := by decide +kernel
theorem dX5_column_34 : decode cX5_column 34 = .ok (.ifCond .eq 10, 3) := by decide +kernel
theorem dX5_column_37 : decode cX5_column 37 = .ok (.iload_n 2, 1) := by decide +kernel
theorem dX5_column_38 : decode cX5_column 38 = .ok (.invokestatic 108, 3) := by decide +kernel
theorem dX5_column_41 : decode cX5_column 41 = .ok (.ifCond .eq 14, 3) := by decide +kernel
theorem dX5_column_44 : decode cX5_column 44 = .ok (.iload_n 3, 1) := by decide +kernel
theorem dX5_column_45 : decode cX5_column 45 = .ok (.ifCond .eq 12, 3) := by decide +kernel
theorem dX5_column_48 : decode cX5_column 48 = .ok (.iload_n 3, 1) := by decide +kernel
theorem dX5_column_49 : decode cX5_column 49 = .ok (.invokestatic 108, 3) := by decide +kernel
theorem dX5_column_52 : decode cX5_column 52 = .ok (.ifCond .ne 5, 3) := by decide +kernel
theorem dX5_column_55 : decode cX5_column 55 = .ok (.iconst (-1), 1) := by decide +kernel
theorem dX5_column_56 : decode cX5_column 56 = .ok (.ireturn, 1) := by decide +kernel
theorem dX5_column_57 : decode cX5_column 57 = .ok (.aload_n 0, 1) := by decide +kernel
theorem dX5_column_58 : decode cX5_column 58 = .ok (.getfield 50, 3) := by decide +kernel
theorem dX5_column_61 : decode cX5_column 61 = .ok (.aload_n 0, 1) := by decide +kernel
theorem dX5_column_62 : decode cX5_column 62 = .ok (.getfield 102, 3) := by decide +kernel
theorem dX5_column_65 : decode cX5_column 65 = .ok (.iload_n 2, 1) := by decide +kernel
theorem dX5_column_66 : decode cX5_column 66 = .ok (.iastore, 1) := by decide +kernel
theorem dX5_column_67 : decode cX5_column 67 = .ok (.aload_n 0, 1) := by decide +kernel
theorem dX5_column_68 : decode cX5_column 68 = .ok (.getfield 53, 3) := by decide +kernel
theorem dX5_column_71 : decode cX5_column 71 = .ok (.aload_n 0, 1) := by decide +kernel
theorem dX5_column_72 : decode cX5_column 72 = .ok (.getfield 102, 3) := by decide +kernel
theorem dX5_column_75 : decode cX5_column 75 = .ok (.iload_n 3, 1) := by decide +kernel
theorem dX5_column_76 : decode cX5_column 76 = .ok (.iastore, 1) := by decide +kernel
theorem dX5_column_77 : decode cX5_column 77 = .ok (.aload_n 0, 1) := by decide +kernel
theorem dX5_column_78 : decode cX5_column 78 = .ok (.getfield 56, 3) := by decide +kernel
theorem dX5_column_81 : decode cX5_column 81 = .ok (.aload_n 0, 1) := by decide +kernel
theorem dX5_column_82 : decode cX5_column 82 = .ok (.getfield 102, 3) := by decide +kernel
theorem dX5_column_85 : decode cX5_column 85 = .ok (.aload_n 0, 1) := by decide +kernel
theorem dX5_column_86 : decode cX5_column 86 = .ok (.getfield 105, 3) := by decide +kernel
theorem dX5_column_89 : decode cX5_column 89 = .ok (.iastore, 1) := by decide +kernel
theorem dX5_column_90 : decode cX5_column 90 = .ok (.aload_n 0, 1) := by decide +kernel
theorem dX5_column_91 : decode cX5_column 91 = .ok (.getfield 59, 3) := by decide +kernel
theorem dX5_column_94 : decode cX5_column 94 = .ok (.aload_n 0, 1) := by decide +kernel
theorem dX5_column_95 : decode cX5_column 95 = .ok (.getfield 102, 3) := by decide +kernel
theorem dX5_column_98 : decode cX5_column 98 = .ok (.iload_n 1, 1) := by decide +kernel
theorem dX5_column_99 : decode cX5_column 99 = .ok (.iastore, 1) := by decide +kernel
theorem dX5_column_100 : decode cX5_column 100 = .ok (.iconst 0, 1) := by decide +kernel
theorem dX5_column_101 : decode cX5_column 101 = .ok (.istore 4, 2) := by decide +kernel
theorem dX5_column_103 : decode cX5_column 103 = .ok (.iload 4, 2) := by decide +kernel
theorem dX5_column_105 : decode cX5_column 105 = .ok (.iload_n 1, 1) := by decide +kernel
theorem dX5_column_106 : decode cX5_column 106 = .ok (.if_icmp .ge 38, 3) := by decide +kernel
theorem dX5_column_109 : decode cX5_column 109 = .ok (.aload_n 0, 1) := by decide +kernel
theorem dX5_column_110 : decode cX5_column 110 = .ok (.getfield 62, 3) := by decide +kernel
theorem dX5_column_113 : decode cX5_column 113 = .ok (.aload_n 0, 1) := by decide +kernel
theorem dX5_column_114 : decode cX5_column 114 = .ok (.getfield 105, 3) := by decide +kernel
theorem dX5_column_117 : decode cX5_column 117 = .ok (.iload 4, 2) := by decide +kernel
theorem dX5_column_119 : decode cX5_column 119 = .ok (.iadd, 1) := by decide +kernel
theorem dX5_column_120 : decode cX5_column 120 = .ok (.aload_n 0, 1) := by decide +kernel
theorem dX5_column_121 : decode cX5_column 121 = .ok (.getfield 102, 3) := by decide +kernel
theorem dX5_column_124 : decode cX5_column 124 = .ok (.iastore, 1) := by decide +kernel
theorem dX5_column_125 : decode cX5_column 125 = .ok (.aload_n 0, 1) := by decide +kernel
theorem dX5_column_126 : decode cX5_column 126 = .ok (.getfield 65, 3) := by decide +kernel
theorem dX5_column_129 : decode cX5_column 129 = .ok (.aload_n 0, 1) := by decide +kernel
theorem dX5_column_130 : decode cX5_column 130 = .ok (.getfield 105, 3) := by decide +kernel
theorem dX5_column_133 : decode cX5_column 133 = .ok (.iload 4, 2) := by decide +kernel
theorem dX5_column_135 : decode cX5_column 135 = .ok (.iadd, 1) := by decide +kernel
theorem dX5_column_136 : decode cX5_column 136 = .ok (.iconst (-1), 1) := by decide +kernel
theorem dX5_column_137 : decode cX5_column 137 = .ok (.iastore, 1) := by decide +kernel
theorem dX5_column_138 : decode cX5_column 138 = .ok (.iinc 4 1, 3) := by decide +kernel
theorem dX5_column_141 : decode cX5_column 141 = .ok (.goto (-38), 3) := by decide +kernel
theorem dX5_column_144 : decode cX5_column 144 = .ok (.aload_n 0, 1) := by decide +kernel
theorem dX5_column_145 : decode cX5_column 145 = .ok (.dup, 1) := by decide +kernel
theorem dX5_column_146 : decode cX5_column 146 = .ok (.getfield 105, 3) := by decide +kernel
theorem dX5_column_149 : decode cX5_column 149 = .ok (.iload_n 1, 1) := by decide +kernel
theorem dX5_column_150 : decode cX5_column 150 = .ok (.iadd, 1) := by decide +kernel
theorem dX5_column_151 : decode cX5_column 151 = .ok (.putfield 105, 3) := by decide +kernel
theorem dX5_column_154 : decode cX5_column 154 = .ok (.aload_n 0, 1) := by decide +kernel
theorem dX5_column_155 : decode cX5_column 155 = .ok (.dup, 1) := by decide +kernel
theorem dX5_column_156 : decode cX5_column 156 = .ok (.getfield 102, 3) := by decide +kernel
theorem dX5_column_159 : decode cX5_column 159 = .ok (.iconst 1, 1) := by decide +kernel
theorem dX5_column_160 : decode cX5_column 160 = .ok (.iadd, 1) := by decide +kernel
theorem dX5_column_161 : decode cX5_column 161 = .ok (.putfield 102, 3) := by decide +kernel
theorem dX5_column_164 : decode cX5_column 164 = .ok (.aload_n 0, 1) := by decide +kernel
theorem dX5_column_165 : decode cX5_column 165 = .ok (.getfield 102, 3) := by decide +kernel
theorem dX5_column_168 : decode cX5_column 168 = .ok (.iconst 1, 1) := by decide +kernel
theorem dX5_column_169 : decode cX5_column 169 = .ok (.isub, 1) := by decide +kernel
theorem dX5_column_170 : decode cX5_column 170 = .ok (.ireturn, 1) := by decide +kernel
theorem dX5_turnOf_0 : decode cX5_turnOf 0 = .ok (.aload_n 0, 1) := by decide +kernel
theorem dX5_turnOf_1 : decode cX5_turnOf 1 = .ok (.getfield 23, 3) := by decide +kernel
theorem dX5_turnOf_4 : decode cX5_turnOf 4 = .ok (.iload_n 1, 1) := by decide +kernel
theorem dX5_turnOf_5 : decode cX5_turnOf 5 = .ok (.iaload, 1) := by decide +kernel
theorem dX5_turnOf_6 : decode cX5_turnOf 6 = .ok (.aload_n 0, 1) := by decide +kernel
theorem dX5_turnOf_7 : decode cX5_turnOf 7 = .ok (.getfield 26, 3) := by decide +kernel
theorem dX5_turnOf_10 : decode cX5_turnOf 10 = .ok (.iload_n 2, 1) := by decide +kernel
theorem dX5_turnOf_11 : decode cX5_turnOf 11 = .ok (.iaload, 1) := by decide +kernel
theorem dX5_turnOf_12 : decode cX5_turnOf 12 = .ok (.isub, 1) := by decide +kernel
theorem dX5_turnOf_13 : decode cX5_turnOf 13 = .ok (.invokestatic 118, 3) := by decide +kernel
theorem dX5_turnOf_16 : decode cX5_turnOf 16 = .ok (.aload_n 0, 1) := by decide +kernel
theorem dX5_turnOf_17 : decode cX5_turnOf 17 = .ok (.getfield 29, 3) := by decide +kernel
theorem dX5_turnOf_20 : decode cX5_turnOf 20 = .ok (.iload_n 1, 1) := by decide +kernel
theorem dX5_turnOf_21 : decode cX5_turnOf 21 = .ok (.iaload, 1) := by decide +kernel
theorem dX5_turnOf_22 : decode cX5_turnOf 22 = .ok (.aload_n 0, 1) := by decide +kernel
theorem dX5_turnOf_23 : decode cX5_turnOf 23 = .ok (.getfield 29, 3) := by decide +kernel
theorem dX5_turnOf_26 : decode cX5_turnOf 26 = .ok (.iload_n 2, 1) := by decide +kernel
theorem dX5_turnOf_27 : decode cX5_turnOf 27 = .ok (.iaload, 1) := by decide +kernel
theorem dX5_turnOf_28 : decode cX5_turnOf 28 = .ok (.iadd, 1) := by decide +kernel
theorem dX5_turnOf_29 : decode cX5_turnOf 29 = .ok (.aload_n 0, 1) := by decide +kernel
theorem dX5_turnOf_30 : decode cX5_turnOf 30 = .ok (.getfield 9, 3) := by decide +kernel
theorem dX5_turnOf_33 : decode cX5_turnOf 33 = .ok (.iadd, 1) := by decide +kernel
theorem dX5_turnOf_34 : decode cX5_turnOf 34 = .ok (.if_icmp .le 5, 3) := by decide +kernel
theorem dX5_turnOf_37 : decode cX5_turnOf 37 = .ok (.iconst (-1), 1) := by decide +kernel
theorem dX5_turnOf_38 : decode cX5_turnOf 38 = .ok (.ireturn, 1) := by decide +kernel
theorem dX5_turnOf_39 : decode cX5_turnOf 39 = .ok (.aload_n 0, 1) := by decide +kernel
theorem dX5_turnOf_40 : decode cX5_turnOf 40 = .ok (.getfield 35, 3) := by decide +kernel
theorem dX5_turnOf_43 : decode cX5_turnOf 43 = .ok (.iload_n 1, 1) := by decide +kernel
theorem dX5_turnOf_44 : decode cX5_turnOf 44 = .ok (.iaload, 1) := by decide +kernel
theorem dX5_turnOf_45 : decode cX5_turnOf 45 = .ok (.ifCond .eq 29, 3) := by decide +kernel
theorem dX5_turnOf_48 : decode cX5_turnOf 48 = .ok (.aload_n 0, 1) := by decide +kernel
theorem dX5_turnOf_49 : decode cX5_turnOf 49 = .ok (.getfield 35, 3) := by decide +kernel
theorem dX5_turnOf_52 : decode cX5_turnOf 52 = .ok (.iload_n 2, 1) := by decide +kernel
theorem dX5_turnOf_53 : decode cX5_turnOf 53 = .ok (.iaload, 1) := by decide +kernel
theorem dX5_turnOf_54 : decode cX5_turnOf 54 = .ok (.ifCond .eq 20, 3) := by decide +kernel
theorem dX5_turnOf_57 : decode cX5_turnOf 57 = .ok (.aload_n 0, 1) := by decide +kernel
theorem dX5_turnOf_58 : decode cX5_turnOf 58 = .ok (.getfield 35, 3) := by decide +kernel
theorem dX5_turnOf_61 : decode cX5_turnOf 61 = .ok (.iload_n 1, 1) := by decide +kernel
theorem dX5_turnOf_62 : decode cX5_turnOf 62 = .ok (.iaload, 1) := by decide +kernel
theorem dX5_turnOf_63 : decode cX5_turnOf 63 = .ok (.aload_n 0, 1) := by decide +kernel
theorem dX5_turnOf_64 : decode cX5_turnOf 64 = .ok (.getfield 35, 3) := by decide +kernel
theorem dX5_turnOf_67 : decode cX5_turnOf 67 = .ok (.iload_n 2, 1) := by decide +kernel
theorem dX5_turnOf_68 : decode cX5_turnOf 68 = .ok (.iaload, 1) := by decide +kernel
theorem dX5_turnOf_69 : decode cX5_turnOf 69 = .ok (.if_icmp .eq 5, 3) := by decide +kernel
theorem dX5_turnOf_72 : decode cX5_turnOf 72 = .ok (.iconst (-1), 1) := by decide +kernel
theorem dX5_turnOf_73 : decode cX5_turnOf 73 = .ok (.ireturn, 1) := by decide +kernel
theorem dX5_turnOf_74 : decode cX5_turnOf 74 = .ok (.aload_n 0, 1) := by decide +kernel
theorem dX5_turnOf_75 : decode cX5_turnOf 75 = .ok (.getfield 38, 3) := by decide +kernel
theorem dX5_turnOf_78 : decode cX5_turnOf 78 = .ok (.iload_n 1, 1) := by decide +kernel
theorem dX5_turnOf_79 : decode cX5_turnOf 79 = .ok (.iaload, 1) := by decide +kernel
theorem dX5_turnOf_80 : decode cX5_turnOf 80 = .ok (.ifCond .eq 12, 3) := by decide +kernel
theorem dX5_turnOf_83 : decode cX5_turnOf 83 = .ok (.aload_n 0, 1) := by decide +kernel
theorem dX5_turnOf_84 : decode cX5_turnOf 84 = .ok (.getfield 41, 3) := by decide +kernel
theorem dX5_turnOf_87 : decode cX5_turnOf 87 = .ok (.iload_n 2, 1) := by decide +kernel
theorem dX5_turnOf_88 : decode cX5_turnOf 88 = .ok (.iaload, 1) := by decide +kernel
theorem dX5_turnOf_89 : decode cX5_turnOf 89 = .ok (.ifCond .ne 5, 3) := by decide +kernel
theorem dX5_turnOf_92 : decode cX5_turnOf 92 = .ok (.iconst 0, 1) := by decide +kernel
theorem dX5_turnOf_93 : decode cX5_turnOf 93 = .ok (.ireturn, 1) := by decide +kernel
theorem dX5_turnOf_94 : decode cX5_turnOf 94 = .ok (.iconst 0, 1) := by decide +kernel
theorem dX5_turnOf_95 : decode cX5_turnOf 95 = .ok (.istore_n 3, 1) := by decide +kernel
theorem dX5_turnOf_96 : decode cX5_turnOf 96 = .ok (.iload_n 3, 1) := by decide +kernel
theorem dX5_turnOf_97 : decode cX5_turnOf 97 = .ok (.bipush 16, 2) := by decide +kernel
theorem dX5_turnOf_99 : decode cX5_turnOf 99 = .ok (.if_icmp .ge 47, 3) := by decide +kernel
theorem dX5_turnOf_102 : decode cX5_turnOf 102 = .ok (.aload_n 0, 1) := by decide +kernel
theorem dX5_turnOf_103 : decode cX5_turnOf 103 = .ok (.getfield 38, 3) := by decide +kernel
theorem dX5_turnOf_106 : decode cX5_turnOf 106 = .ok (.iload_n 1, 1) := by decide +kernel
theorem dX5_turnOf_107 : decode cX5_turnOf 107 = .ok (.iaload, 1) := by decide +kernel
theorem dX5_turnOf_108 : decode cX5_turnOf 108 = .ok (.iload_n 3, 1) := by decide +kernel
theorem dX5_turnOf_109 : decode cX5_turnOf 109 = .ok (.ishl, 1) := by decide +kernel
theorem dX5_turnOf_110 : decode cX5_turnOf 110 = .ok (.aload_n 0, 1) := by decide +kernel
theorem dX5_turnOf_111 : decode cX5_turnOf 111 = .ok (.getfield 38, 3) := by decide +kernel
theorem dX5_turnOf_114 : decode cX5_turnOf 114 = .ok (.iload_n 1, 1) := by decide +kernel
theorem dX5_turnOf_115 : decode cX5_turnOf 115 = .ok (.iaload, 1) := by decide +kernel
theorem dX5_turnOf_116 : decode cX5_turnOf 116 = .ok (.bipush 16, 2) := by decide +kernel
theorem dX5_turnOf_118 : decode cX5_turnOf 118 = .ok (.iload_n 3, 1) := by decide +kernel
theorem dX5_turnOf_119 : decode cX5_turnOf 119 = .ok (.isub, 1) := by decide +kernel
theorem dX5_turnOf_120 : decode cX5_turnOf 120 = .ok (.ishr, 1) := by decide +kernel
theorem dX5_turnOf_121 : decode cX5_turnOf 121 = .ok (.ior, 1) := by decide +kernel
theorem dX5_turnOf_122 : decode cX5_turnOf 122 = .ok (.ldc 116, 2) := by decide +kernel
theorem dX5_turnOf_124 : decode cX5_turnOf 124 = .ok (.iand, 1) := by decide +kernel
theorem dX5_turnOf_125 : decode cX5_turnOf 125 = .ok (.istore 4, 2) := by decide +kernel
theorem dX5_turnOf_127 : decode cX5_turnOf 127 = .ok (.iload 4, 2) := by decide +kernel
theorem dX5_turnOf_129 : decode cX5_turnOf 129 = .ok (.aload_n 0, 1) := by decide +kernel
theorem dX5_turnOf_130 : decode cX5_turnOf 130 = .ok (.getfield 41, 3) := by decide +kernel
theorem dX5_turnOf_133 : decode cX5_turnOf 133 = .ok (.iload_n 2, 1) := by decide +kernel
theorem dX5_turnOf_134 : decode cX5_turnOf 134 = .ok (.iaload, 1) := by decide +kernel
theorem dX5_turnOf_135 : decode cX5_turnOf 135 = .ok (.if_icmp .ne 5, 3) := by decide +kernel
theorem dX5_turnOf_138 : decode cX5_turnOf 138 = .ok (.iload_n 3, 1) := by decide +kernel
theorem dX5_turnOf_139 : decode cX5_turnOf 139 = .ok (.ireturn, 1) := by decide +kernel
theorem dX5_turnOf_140 : decode cX5_turnOf 140 = .ok (.iinc 3 1, 3) := by decide +kernel
theorem dX5_turnOf_143 : decode cX5_turnOf 143 = .ok (.goto (-47), 3) := by decide +kernel
theorem dX5_turnOf_146 : decode cX5_turnOf 146 = .ok (.iconst (-1), 1) := by decide +kernel
theorem dX5_turnOf_147 : decode cX5_turnOf 147 = .ok (.ireturn, 1) := by decide +kernel
theorem dX5_turn_0 : decode cX5_turn 0 = .ok (.aload_n 0, 1) := by decide +kernel
theorem dX5_turn_1 : decode cX5_turn 1 = .ok (.iconst 0, 1) := by decide +kernel
theorem dX5_turn_2 : decode cX5_turn 2 = .ok (.putfield 92, 3) := by decide +kernel
theorem dX5_turn_5 : decode cX5_turn 5 = .ok (.aload_n 0, 1) := by decide +kernel
theorem dX5_turn_6 : decode cX5_turn 6 = .ok (.iload_n 1, 1) := by decide +kernel
theorem dX5_turn_7 : decode cX5_turn 7 = .ok (.invokevirtual 124, 3) := by decide +kernel
theorem dX5_turn_10 : decode cX5_turn 10 = .ok (.ifCond .eq 25, 3) := by decide +kernel
theorem dX5_turn_13 : decode cX5_turn 13 = .ok (.aload_n 0, 1) := by decide +kernel
theorem dX5_turn_14 : decode cX5_turn 14 = .ok (.iload_n 2, 1) := by decide +kernel
theorem dX5_turn_15 : decode cX5_turn 15 = .ok (.invokevirtual 124, 3) := by decide +kernel
theorem dX5_turn_18 : decode cX5_turn 18 = .ok (.ifCond .eq 17, 3) := by decide +kernel
theorem dX5_turn_21 : decode cX5_turn 21 = .ok (.iload_n 1, 1) := by decide +kernel
theorem dX5_turn_22 : decode cX5_turn 22 = .ok (.iload_n 2, 1) := by decide +kernel
theorem dX5_turn_23 : decode cX5_turn 23 = .ok (.if_icmp .eq 12, 3) := by decide +kernel
theorem dX5_turn_26 : decode cX5_turn 26 = .ok (.aload_n 0, 1) := by decide +kernel
theorem dX5_turn_27 : decode cX5_turn 27 = .ok (.iload_n 1, 1) := by decide +kernel
theorem dX5_turn_28 : decode cX5_turn 28 = .ok (.iload_n 2, 1) := by decide +kernel
theorem dX5_turn_29 : decode cX5_turn 29 = .ok (.invokevirtual 127, 3) := by decide +kernel
theorem dX5_turn_32 : decode cX5_turn 32 = .ok (.goto 4, 3) := by decide +kernel
theorem dX5_turn_35 : decode cX5_turn 35 = .ok (.iconst (-1), 1) := by decide +kernel
theorem dX5_turn_36 : decode cX5_turn 36 = .ok (.ireturn, 1) := by decide +kernel
theorem dX5_fitsFoot_0 : decode cX5_fitsFoot 0 = .ok (.aload_n 0, 1) := by decide +kernel
theorem dX5_fitsFoot_1 : decode cX5_fitsFoot 1 = .ok (.getfield 50, 3) := by decide +kernel
theorem dX5_fitsFoot_4 : decode cX5_fitsFoot 4 = .ok (.iload_n 2, 1) := by decide +kernel
theorem dX5_fitsFoot_5 : decode cX5_fitsFoot 5 = .ok (.iaload, 1) := by decide +kernel
theorem dX5_fitsFoot_6 : decode cX5_fitsFoot 6 = .ok (.ifCond .eq 33, 3) := by decide +kernel
theorem dX5_fitsFoot_9 : decode cX5_fitsFoot 9 = .ok (.aload_n 0, 1) := by decide +kernel
theorem dX5_fitsFoot_10 : decode cX5_fitsFoot 10 = .ok (.getfield 23, 3) := by decide +kernel
theorem dX5_fitsFoot_13 : decode cX5_fitsFoot 13 = .ok (.iload_n 1, 1) := by decide +kernel
theorem dX5_fitsFoot_14 : decode cX5_fitsFoot 14 = .ok (.iaload, 1) := by decide +kernel
theorem dX5_fitsFoot_15 : decode cX5_fitsFoot 15 = .ok (.aload_n 0, 1) := by decide +kernel
theorem dX5_fitsFoot_16 : decode cX5_fitsFoot 16 = .ok (.getfield 50, 3) := by decide +kernel
theorem dX5_fitsFoot_19 : decode cX5_fitsFoot 19 = .ok (.iload_n 2, 1) := by decide +kernel
theorem dX5_fitsFoot_20 : decode cX5_fitsFoot 20 = .ok (.iaload, 1) := by decide +kernel
theorem dX5_fitsFoot_21 : decode cX5_fitsFoot 21 = .ok (.isub, 1) := by decide +kernel
theorem dX5_fitsFoot_22 : decode cX5_fitsFoot 22 = .ok (.invokestatic 118, 3) := by decide +kernel
theorem dX5_fitsFoot_25 : decode cX5_fitsFoot 25 = .ok (.aload_n 0, 1) := by decide +kernel
theorem dX5_fitsFoot_26 : decode cX5_fitsFoot 26 = .ok (.getfield 29, 3) := by decide +kernel
theorem dX5_fitsFoot_29 : decode cX5_fitsFoot 29 = .ok (.iload_n 1, 1) := by decide +kernel
theorem dX5_fitsFoot_30 : decode cX5_fitsFoot 30 = .ok (.iaload, 1) := by decide +kernel
theorem dX5_fitsFoot_31 : decode cX5_fitsFoot 31 = .ok (.aload_n 0, 1) := by decide +kernel
theorem dX5_fitsFoot_32 : decode cX5_fitsFoot 32 = .ok (.getfield 9, 3) := by decide +kernel
theorem dX5_fitsFoot_35 : decode cX5_fitsFoot 35 = .ok (.iadd, 1) := by decide +kernel
theorem dX5_fitsFoot_36 : decode cX5_fitsFoot 36 = .ok (.if_icmp .gt 7, 3) := by decide +kernel
theorem dX5_fitsFoot_39 : decode cX5_fitsFoot 39 = .ok (.iconst 1, 1) := by decide +kernel
theorem dX5_fitsFoot_40 : decode cX5_fitsFoot 40 = .ok (.goto 4, 3) := by decide +kernel
theorem dX5_fitsFoot_43 : decode cX5_fitsFoot 43 = .ok (.iconst 0, 1) := by decide +kernel
theorem dX5_fitsFoot_44 : decode cX5_fitsFoot 44 = .ok (.ireturn, 1) := by decide +kernel
theorem dX5_fitsHead_0 : decode cX5_fitsHead 0 = .ok (.aload_n 0, 1) := by decide +kernel
theorem dX5_fitsHead_1 : decode cX5_fitsHead 1 = .ok (.getfield 53, 3) := by decide +kernel
theorem dX5_fitsHead_4 : decode cX5_fitsHead 4 = .ok (.iload_n 2, 1) := by decide +kernel
theorem dX5_fitsHead_5 : decode cX5_fitsHead 5 = .ok (.iaload, 1) := by decide +kernel
theorem dX5_fitsHead_6 : decode cX5_fitsHead 6 = .ok (.ifCond .eq 33, 3) := by decide +kernel
theorem dX5_fitsHead_9 : decode cX5_fitsHead 9 = .ok (.aload_n 0, 1) := by decide +kernel
theorem dX5_fitsHead_10 : decode cX5_fitsHead 10 = .ok (.getfield 26, 3) := by decide +kernel
theorem dX5_fitsHead_13 : decode cX5_fitsHead 13 = .ok (.iload_n 1, 1) := by decide +kernel
theorem dX5_fitsHead_14 : decode cX5_fitsHead 14 = .ok (.iaload, 1) := by decide +kernel
theorem dX5_fitsHead_15 : decode cX5_fitsHead 15 = .ok (.aload_n 0, 1) := by decide +kernel
theorem dX5_fitsHead_16 : decode cX5_fitsHead 16 = .ok (.getfield 53, 3) := by decide +kernel
theorem dX5_fitsHead_19 : decode cX5_fitsHead 19 = .ok (.iload_n 2, 1) := by decide +kernel
theorem dX5_fitsHead_20 : decode cX5_fitsHead 20 = .ok (.iaload, 1) := by decide +kernel
theorem dX5_fitsHead_21 : decode cX5_fitsHead 21 = .ok (.isub, 1) := by decide +kernel
theorem dX5_fitsHead_22 : decode cX5_fitsHead 22 = .ok (.invokestatic 118, 3) := by decide +kernel
theorem dX5_fitsHead_25 : decode cX5_fitsHead 25 = .ok (.aload_n 0, 1) := by decide +kernel
theorem dX5_fitsHead_26 : decode cX5_fitsHead 26 = .ok (.getfield 29, 3) := by decide +kernel
theorem dX5_fitsHead_29 : decode cX5_fitsHead 29 = .ok (.iload_n 1, 1) := by decide +kernel
theorem dX5_fitsHead_30 : decode cX5_fitsHead 30 = .ok (.iaload, 1) := by decide +kernel
theorem dX5_fitsHead_31 : decode cX5_fitsHead 31 = .ok (.aload_n 0, 1) := by decide +kernel
theorem dX5_fitsHead_32 : decode cX5_fitsHead 32 = .ok (.getfield 9, 3) := by decide +kernel
theorem dX5_fitsHead_35 : decode cX5_fitsHead 35 = .ok (.iadd, 1) := by decide +kernel
theorem dX5_fitsHead_36 : decode cX5_fitsHead 36 = .ok (.if_icmp .gt 7, 3) := by decide +kernel
theorem dX5_fitsHead_39 : decode cX5_fitsHead 39 = .ok (.iconst 1, 1) := by decide +kernel
theorem dX5_fitsHead_40 : decode cX5_fitsHead 40 = .ok (.goto 4, 3) := by decide +kernel
theorem dX5_fitsHead_43 : decode cX5_fitsHead 43 = .ok (.iconst 0, 1) := by decide +kernel
theorem dX5_fitsHead_44 : decode cX5_fitsHead 44 = .ok (.ireturn, 1) := by decide +kernel
theorem dX5_fits_0 : decode cX5_fits 0 = .ok (.aload_n 0, 1) := by decide +kernel
theorem dX5_fits_1 : decode cX5_fits 1 = .ok (.iconst 0, 1) := by decide +kernel
theorem dX5_fits_2 : decode cX5_fits 2 = .ok (.putfield 92, 3) := by decide +kernel
theorem dX5_fits_5 : decode cX5_fits 5 = .ok (.aload_n 0, 1) := by decide +kernel
theorem dX5_fits_6 : decode cX5_fits 6 = .ok (.iload_n 1, 1) := by decide +kernel
theorem dX5_fits_7 : decode cX5_fits 7 = .ok (.invokevirtual 124, 3) := by decide +kernel
theorem dX5_fits_10 : decode cX5_fits 10 = .ok (.ifCond .eq 11, 3) := by decide +kernel
theorem dX5_fits_13 : decode cX5_fits 13 = .ok (.aload_n 0, 1) := by decide +kernel
theorem dX5_fits_14 : decode cX5_fits 14 = .ok (.iload_n 2, 1) := by decide +kernel
theorem dX5_fits_15 : decode cX5_fits 15 = .ok (.invokevirtual 131, 3) := by decide +kernel
theorem dX5_fits_18 : decode cX5_fits 18 = .ok (.ifCond .ne 5, 3) := by decide +kernel
theorem dX5_fits_21 : decode cX5_fits 21 = .ok (.iconst (-1), 1) := by decide +kernel
theorem dX5_fits_22 : decode cX5_fits 22 = .ok (.ireturn, 1) := by decide +kernel
theorem dX5_fits_23 : decode cX5_fits 23 = .ok (.aload_n 0, 1) := by decide +kernel
theorem dX5_fits_24 : decode cX5_fits 24 = .ok (.iload_n 1, 1) := by decide +kernel
theorem dX5_fits_25 : decode cX5_fits 25 = .ok (.iload_n 2, 1) := by decide +kernel
theorem dX5_fits_26 : decode cX5_fits 26 = .ok (.invokevirtual 134, 3) := by decide +kernel
theorem dX5_fits_29 : decode cX5_fits 29 = .ok (.ifCond .eq 7, 3) := by decide +kernel
theorem dX5_fits_32 : decode cX5_fits 32 = .ok (.iconst 1, 1) := by decide +kernel
theorem dX5_fits_33 : decode cX5_fits 33 = .ok (.goto 4, 3) := by decide +kernel
theorem dX5_fits_36 : decode cX5_fits 36 = .ok (.iconst 0, 1) := by decide +kernel
theorem dX5_fits_37 : decode cX5_fits 37 = .ok (.aload_n 0, 1) := by decide +kernel
theorem dX5_fits_38 : decode cX5_fits 38 = .ok (.iload_n 1, 1) := by decide +kernel
theorem dX5_fits_39 : decode cX5_fits 39 = .ok (.iload_n 2, 1) := by decide +kernel
theorem dX5_fits_40 : decode cX5_fits 40 = .ok (.invokevirtual 138, 3) := by decide +kernel
theorem dX5_fits_43 : decode cX5_fits 43 = .ok (.ifCond .eq 7, 3) := by decide +kernel
theorem dX5_fits_46 : decode cX5_fits 46 = .ok (.iconst 2, 1) := by decide +kernel
theorem dX5_fits_47 : decode cX5_fits 47 = .ok (.goto 4, 3) := by decide +kernel
theorem dX5_fits_50 : decode cX5_fits 50 = .ok (.iconst 0, 1) := by decide +kernel
theorem dX5_fits_51 : decode cX5_fits 51 = .ok (.iadd, 1) := by decide +kernel
theorem dX5_fits_52 : decode cX5_fits 52 = .ok (.ireturn, 1) := by decide +kernel
theorem dX5_hand_0 : decode cX5_hand 0 = .ok (.aload_n 0, 1) := by decide +kernel
theorem dX5_hand_1 : decode cX5_hand 1 = .ok (.iconst 0, 1) := by decide +kernel
theorem dX5_hand_2 : decode cX5_hand 2 = .ok (.putfield 92, 3) := by decide +kernel
theorem dX5_hand_5 : decode cX5_hand 5 = .ok (.aload_n 0, 1) := by decide +kernel
theorem dX5_hand_6 : decode cX5_hand 6 = .ok (.iload_n 1, 1) := by decide +kernel
theorem dX5_hand_7 : decode cX5_hand 7 = .ok (.invokevirtual 141, 3) := by decide +kernel
theorem dX5_hand_10 : decode cX5_hand 10 = .ok (.ifCond .eq 22, 3) := by decide +kernel
theorem dX5_hand_13 : decode cX5_hand 13 = .ok (.iload_n 2, 1) := by decide +kernel
theorem dX5_hand_14 : decode cX5_hand 14 = .ok (.iconst (-1), 1) := by decide +kernel
theorem dX5_hand_15 : decode cX5_hand 15 = .ok (.if_icmp .eq 19, 3) := by decide +kernel
theorem dX5_hand_18 : decode cX5_hand 18 = .ok (.iload_n 2, 1) := by decide +kernel
theorem dX5_hand_19 : decode cX5_hand 19 = .ok (.bipush 10, 2) := by decide +kernel
theorem dX5_hand_21 : decode cX5_hand 21 = .ok (.if_icmp .eq 13, 3) := by decide +kernel
theorem dX5_hand_24 : decode cX5_hand 24 = .ok (.aload_n 0, 1) := by decide +kernel
theorem dX5_hand_25 : decode cX5_hand 25 = .ok (.iload_n 2, 1) := by decide +kernel
theorem dX5_hand_26 : decode cX5_hand 26 = .ok (.invokevirtual 124, 3) := by decide +kernel
theorem dX5_hand_29 : decode cX5_hand 29 = .ok (.ifCond .ne 5, 3) := by decide +kernel
theorem dX5_hand_32 : decode cX5_hand 32 = .ok (.iconst 0, 1) := by decide +kernel
theorem dX5_hand_33 : decode cX5_hand 33 = .ok (.ireturn, 1) := by decide +kernel
theorem dX5_hand_34 : decode cX5_hand 34 = .ok (.aload_n 0, 1) := by decide +kernel
theorem dX5_hand_35 : decode cX5_hand 35 = .ok (.getfield 65, 3) := by decide +kernel
theorem dX5_hand_38 : decode cX5_hand 38 = .ok (.iload_n 1, 1) := by decide +kernel
theorem dX5_hand_39 : decode cX5_hand 39 = .ok (.iload_n 2, 1) := by decide +kernel
theorem dX5_hand_40 : decode cX5_hand 40 = .ok (.iastore, 1) := by decide +kernel
theorem dX5_hand_41 : decode cX5_hand 41 = .ok (.iconst 1, 1) := by decide +kernel
theorem dX5_hand_42 : decode cX5_hand 42 = .ok (.ireturn, 1) := by decide +kernel
theorem dX5_not_0 : decode cX5_not 0 = .ok (.aload_n 0, 1) := by decide +kernel
theorem dX5_not_1 : decode cX5_not 1 = .ok (.iconst 0, 1) := by decide +kernel
theorem dX5_not_2 : decode cX5_not 2 = .ok (.putfield 92, 3) := by decide +kernel
theorem dX5_not_5 : decode cX5_not 5 = .ok (.aload_n 0, 1) := by decide +kernel
theorem dX5_not_6 : decode cX5_not 6 = .ok (.iload_n 1, 1) := by decide +kernel
theorem dX5_not_7 : decode cX5_not 7 = .ok (.invokevirtual 141, 3) := by decide +kernel
theorem dX5_not_10 : decode cX5_not 10 = .ok (.ifCond .eq 26, 3) := by decide +kernel
theorem dX5_not_13 : decode cX5_not 13 = .ok (.aload_n 0, 1) := by decide +kernel
theorem dX5_not_14 : decode cX5_not 14 = .ok (.iload_n 2, 1) := by decide +kernel
theorem dX5_not_15 : decode cX5_not 15 = .ok (.invokevirtual 124, 3) := by decide +kernel
theorem dX5_not_18 : decode cX5_not 18 = .ok (.ifCond .eq 18, 3) := by decide +kernel
theorem dX5_not_21 : decode cX5_not 21 = .ok (.aload_n 0, 1) := by decide +kernel
theorem dX5_not_22 : decode cX5_not 22 = .ok (.getfield 68, 3) := by decide +kernel
theorem dX5_not_25 : decode cX5_not 25 = .ok (.bipush 10, 2) := by decide +kernel
theorem dX5_not_27 : decode cX5_not 27 = .ok (.iload_n 1, 1) := by decide +kernel
theorem dX5_not_28 : decode cX5_not 28 = .ok (.imul, 1) := by decide +kernel
theorem dX5_not_29 : decode cX5_not 29 = .ok (.iload_n 2, 1) := by decide +kernel
theorem dX5_not_30 : decode cX5_not 30 = .ok (.iadd, 1) := by decide +kernel
theorem dX5_not_31 : decode cX5_not 31 = .ok (.baload, 1) := by decide +kernel
theorem dX5_not_32 : decode cX5_not 32 = .ok (.iload_n 3, 1) := by decide +kernel
theorem dX5_not_33 : decode cX5_not 33 = .ok (.if_icmp .ne 5, 3) := by decide +kernel
theorem dX5_not_36 : decode cX5_not 36 = .ok (.iconst 0, 1) := by decide +kernel
theorem dX5_not_37 : decode cX5_not 37 = .ok (.ireturn, 1) := by decide +kernel
theorem dX5_not_38 : decode cX5_not 38 = .ok (.aload_n 0, 1) := by decide +kernel
theorem dX5_not_39 : decode cX5_not 39 = .ok (.getfield 68, 3) := by decide +kernel
theorem dX5_not_42 : decode cX5_not 42 = .ok (.bipush 10, 2) := by decide +kernel
theorem dX5_not_44 : decode cX5_not 44 = .ok (.iload_n 1, 1) := by decide +kernel
theorem dX5_not_45 : decode cX5_not 45 = .ok (.imul, 1) := by decide +kernel
theorem dX5_not_46 : decode cX5_not 46 = .ok (.iload_n 2, 1) := by decide +kernel
theorem dX5_not_47 : decode cX5_not 47 = .ok (.iadd, 1) := by decide +kernel
theorem dX5_not_48 : decode cX5_not 48 = .ok (.iload_n 3, 1) := by decide +kernel
theorem dX5_not_49 : decode cX5_not 49 = .ok (.bastore, 1) := by decide +kernel
theorem dX5_not_50 : decode cX5_not 50 = .ok (.iconst 1, 1) := by decide +kernel
theorem dX5_not_51 : decode cX5_not 51 = .ok (.ireturn, 1) := by decide +kernel
theorem dX5_index_0 : decode cX5_index 0 = .ok (.sipush 1024, 3) := by decide +kernel
theorem dX5_index_3 : decode cX5_index 3 = .ok (.iload_n 0, 1) := by decide +kernel
theorem dX5_index_4 : decode cX5_index 4 = .ok (.imul, 1) := by decide +kernel
theorem dX5_index_5 : decode cX5_index 5 = .ok (.iload_n 1, 1) := by decide +kernel
theorem dX5_index_6 : decode cX5_index 6 = .ok (.iadd, 1) := by decide +kernel
theorem dX5_index_7 : decode cX5_index 7 = .ok (.bipush 11, 2) := by decide +kernel
theorem dX5_index_9 : decode cX5_index 9 = .ok (.imul, 1) := by decide +kernel
theorem dX5_index_10 : decode cX5_index 10 = .ok (.iload_n 2, 1) := by decide +kernel
theorem dX5_index_11 : decode cX5_index 11 = .ok (.iadd, 1) := by decide +kernel
theorem dX5_index_12 : decode cX5_index 12 = .ok (.ireturn, 1) := by decide +kernel
theorem dX5_may_0 : decode cX5_may 0 = .ok (.aload_n 0, 1) := by decide +kernel
theorem dX5_may_1 : decode cX5_may 1 = .ok (.getfield 65, 3) := by decide +kernel
theorem dX5_may_4 : decode cX5_may 4 = .ok (.iload_n 1, 1) := by decide +kernel
theorem dX5_may_5 : decode cX5_may 5 = .ok (.iaload, 1) := by decide +kernel
theorem dX5_may_6 : decode cX5_may 6 = .ok (.iconst (-1), 1) := by decide +kernel
theorem dX5_may_7 : decode cX5_may 7 = .ok (.if_icmp .eq 15, 3) := by decide +kernel
theorem dX5_may_10 : decode cX5_may 10 = .ok (.aload_n 0, 1) := by decide +kernel
theorem dX5_may_11 : decode cX5_may 11 = .ok (.getfield 65, 3) := by decide +kernel
theorem dX5_may_14 : decode cX5_may 14 = .ok (.iload_n 1, 1) := by decide +kernel
theorem dX5_may_15 : decode cX5_may 15 = .ok (.iaload, 1) := by decide +kernel
theorem dX5_may_16 : decode cX5_may 16 = .ok (.iload_n 2, 1) := by decide +kernel
theorem dX5_may_17 : decode cX5_may 17 = .ok (.if_icmp .eq 5, 3) := by decide +kernel
theorem dX5_may_20 : decode cX5_may 20 = .ok (.iconst 0, 1) := by decide +kernel
theorem dX5_may_21 : decode cX5_may 21 = .ok (.ireturn, 1) := by decide +kernel
theorem dX5_may_22 : decode cX5_may 22 = .ok (.iload_n 2, 1) := by decide +kernel
theorem dX5_may_23 : decode cX5_may 23 = .ok (.bipush 10, 2) := by decide +kernel
theorem dX5_may_25 : decode cX5_may 25 = .ok (.if_icmp .ne 5, 3) := by decide +kernel
theorem dX5_may_28 : decode cX5_may 28 = .ok (.iconst 1, 1) := by decide +kernel
theorem dX5_may_29 : decode cX5_may 29 = .ok (.ireturn, 1) := by decide +kernel
theorem dX5_may_30 : decode cX5_may 30 = .ok (.aload_n 0, 1) := by decide +kernel
theorem dX5_may_31 : decode cX5_may 31 = .ok (.getfield 62, 3) := by decide +kernel
theorem dX5_may_34 : decode cX5_may 34 = .ok (.iload_n 1, 1) := by decide +kernel
theorem dX5_may_35 : decode cX5_may 35 = .ok (.iaload, 1) := by decide +kernel
theorem dX5_may_36 : decode cX5_may 36 = .ok (.istore 5, 2) := by decide +kernel
theorem dX5_may_38 : decode cX5_may 38 = .ok (.iload_n 1, 1) := by decide +kernel
theorem dX5_may_39 : decode cX5_may 39 = .ok (.aload_n 0, 1) := by decide +kernel
theorem dX5_may_40 : decode cX5_may 40 = .ok (.getfield 56, 3) := by decide +kernel
theorem dX5_may_43 : decode cX5_may 43 = .ok (.iload 5, 2) := by decide +kernel
theorem dX5_may_45 : decode cX5_may 45 = .ok (.iaload, 1) := by decide +kernel
theorem dX5_may_46 : decode cX5_may 46 = .ok (.if_icmp .ne 7, 3) := by decide +kernel
theorem dX5_may_49 : decode cX5_may 49 = .ok (.iconst 1, 1) := by decide +kernel
theorem dX5_may_50 : decode cX5_may 50 = .ok (.goto 4, 3) := by decide +kernel
theorem dX5_may_53 : decode cX5_may 53 = .ok (.iconst 0, 1) := by decide +kernel
theorem dX5_may_54 : decode cX5_may 54 = .ok (.istore 6, 2) := by decide +kernel
theorem dX5_may_56 : decode cX5_may 56 = .ok (.iload_n 1, 1) := by decide +kernel
theorem dX5_may_57 : decode cX5_may 57 = .ok (.aload_n 0, 1) := by decide +kernel
theorem dX5_may_58 : decode cX5_may 58 = .ok (.getfield 56, 3) := by decide +kernel
theorem dX5_may_61 : decode cX5_may 61 = .ok (.iload 5, 2) := by decide +kernel
theorem dX5_may_63 : decode cX5_may 63 = .ok (.iaload, 1) := by decide +kernel
theorem dX5_may_64 : decode cX5_may 64 = .ok (.aload_n 0, 1) := by decide +kernel
theorem dX5_may_65 : decode cX5_may 65 = .ok (.getfield 59, 3) := by decide +kernel
theorem dX5_may_68 : decode cX5_may 68 = .ok (.iload 5, 2) := by decide +kernel
theorem dX5_may_70 : decode cX5_may 70 = .ok (.iaload, 1) := by decide +kernel
theorem dX5_may_71 : decode cX5_may 71 = .ok (.iadd, 1) := by decide +kernel
theorem dX5_may_72 : decode cX5_may 72 = .ok (.iconst 1, 1) := by decide +kernel
theorem dX5_may_73 : decode cX5_may 73 = .ok (.isub, 1) := by decide +kernel
theorem dX5_may_74 : decode cX5_may 74 = .ok (.if_icmp .ne 7, 3) := by decide +kernel
theorem dX5_may_77 : decode cX5_may 77 = .ok (.iconst 1, 1) := by decide +kernel
theorem dX5_may_78 : decode cX5_may 78 = .ok (.goto 4, 3) := by decide +kernel
theorem dX5_may_81 : decode cX5_may 81 = .ok (.iconst 0, 1) := by decide +kernel
theorem dX5_may_82 : decode cX5_may 82 = .ok (.istore 7, 2) := by decide +kernel
theorem dX5_may_84 : decode cX5_may 84 = .ok (.iload_n 3, 1) := by decide +kernel
theorem dX5_may_85 : decode cX5_may 85 = .ok (.iload_n 2, 1) := by decide +kernel
theorem dX5_may_86 : decode cX5_may 86 = .ok (.ishr, 1) := by decide +kernel
theorem dX5_may_87 : decode cX5_may 87 = .ok (.iconst 1, 1) := by decide +kernel
theorem dX5_may_88 : decode cX5_may 88 = .ok (.iand, 1) := by decide +kernel
theorem dX5_may_89 : decode cX5_may 89 = .ok (.iconst 1, 1) := by decide +kernel
theorem dX5_may_90 : decode cX5_may 90 = .ok (.if_icmp .eq 47, 3) := by decide +kernel
theorem dX5_may_93 : decode cX5_may 93 = .ok (.aload_n 0, 1) := by decide +kernel
theorem dX5_may_94 : decode cX5_may 94 = .ok (.getfield 68, 3) := by decide +kernel
theorem dX5_may_97 : decode cX5_may 97 = .ok (.bipush 10, 2) := by decide +kernel
theorem dX5_may_99 : decode cX5_may 99 = .ok (.iload_n 1, 1) := by decide +kernel
theorem dX5_may_100 : decode cX5_may 100 = .ok (.imul, 1) := by decide +kernel
theorem dX5_may_101 : decode cX5_may 101 = .ok (.iload_n 2, 1) := by decide +kernel
theorem dX5_may_102 : decode cX5_may 102 = .ok (.iadd, 1) := by decide +kernel
theorem dX5_may_103 : decode cX5_may 103 = .ok (.baload, 1) := by decide +kernel
theorem dX5_may_104 : decode cX5_may 104 = .ok (.ifCond .ne 33, 3) := by decide +kernel
theorem dX5_may_107 : decode cX5_may 107 = .ok (.iload 6, 2) := by decide +kernel
theorem dX5_may_109 : decode cX5_may 109 = .ok (.ifCond .eq 13, 3) := by decide +kernel
theorem dX5_may_112 : decode cX5_may 112 = .ok (.aload_n 0, 1) := by decide +kernel
theorem dX5_may_113 : decode cX5_may 113 = .ok (.iload_n 2, 1) := by decide +kernel
theorem dX5_may_114 : decode cX5_may 114 = .ok (.iload 5, 2) := by decide +kernel
theorem dX5_may_116 : decode cX5_may 116 = .ok (.invokevirtual 134, 3) := by decide +kernel
theorem dX5_may_119 : decode cX5_may 119 = .ok (.ifCond .eq 18, 3) := by decide +kernel
theorem dX5_may_122 : decode cX5_may 122 = .ok (.iload 7, 2) := by decide +kernel
theorem dX5_may_124 : decode cX5_may 124 = .ok (.ifCond .eq 15, 3) := by decide +kernel
theorem dX5_may_127 : decode cX5_may 127 = .ok (.aload_n 0, 1) := by decide +kernel
theorem dX5_may_128 : decode cX5_may 128 = .ok (.iload_n 2, 1) := by decide +kernel
theorem dX5_may_129 : decode cX5_may 129 = .ok (.iload 5, 2) := by decide +kernel
theorem dX5_may_131 : decode cX5_may 131 = .ok (.invokevirtual 138, 3) := by decide +kernel
theorem dX5_may_134 : decode cX5_may 134 = .ok (.ifCond .ne 5, 3) := by decide +kernel
theorem dX5_may_137 : decode cX5_may 137 = .ok (.iconst 0, 1) := by decide +kernel
theorem dX5_may_138 : decode cX5_may 138 = .ok (.ireturn, 1) := by decide +kernel
theorem dX5_may_139 : decode cX5_may 139 = .ok (.iload 6, 2) := by decide +kernel
theorem dX5_may_141 : decode cX5_may 141 = .ok (.ifCond .ne 21, 3) := by decide +kernel
theorem dX5_may_144 : decode cX5_may 144 = .ok (.iload 4, 2) := by decide +kernel
theorem dX5_may_146 : decode cX5_may 146 = .ok (.bipush 10, 2) := by decide +kernel
theorem dX5_may_148 : decode cX5_may 148 = .ok (.if_icmp .eq 14, 3) := by decide +kernel
theorem dX5_may_151 : decode cX5_may 151 = .ok (.aload_n 0, 1) := by decide +kernel
theorem dX5_may_152 : decode cX5_may 152 = .ok (.iload_n 2, 1) := by decide +kernel
theorem dX5_may_153 : decode cX5_may 153 = .ok (.iload 4, 2) := by decide +kernel
theorem dX5_may_155 : decode cX5_may 155 = .ok (.invokevirtual 127, 3) := by decide +kernel
theorem dX5_may_158 : decode cX5_may 158 = .ok (.iconst (-1), 1) := by decide +kernel
theorem dX5_may_159 : decode cX5_may 159 = .ok (.if_icmp .eq 7, 3) := by decide +kernel
theorem dX5_may_162 : decode cX5_may 162 = .ok (.iconst 1, 1) := by decide +kernel
theorem dX5_may_163 : decode cX5_may 163 = .ok (.goto 4, 3) := by decide +kernel
theorem dX5_may_166 : decode cX5_may 166 = .ok (.iconst 0, 1) := by decide +kernel
theorem dX5_may_167 : decode cX5_may 167 = .ok (.ireturn, 1) := by decide +kernel
theorem dX5_behind_0 : decode cX5_behind 0 = .ok (.iload_n 1, 1) := by decide +kernel
theorem dX5_behind_1 : decode cX5_behind 1 = .ok (.iconst 1, 1) := by decide +kernel
theorem dX5_behind_2 : decode cX5_behind 2 = .ok (.iadd, 1) := by decide +kernel
theorem dX5_behind_3 : decode cX5_behind 3 = .ok (.iload_n 2, 1) := by decide +kernel
theorem dX5_behind_4 : decode cX5_behind 4 = .ok (.bipush 10, 2) := by decide +kernel
theorem dX5_behind_6 : decode cX5_behind 6 = .ok (.if_icmp .ne 7, 3) := by decide +kernel
theorem dX5_behind_9 : decode cX5_behind 9 = .ok (.iload_n 3, 1) := by decide +kernel
theorem dX5_behind_10 : decode cX5_behind 10 = .ok (.goto 8, 3) := by decide +kernel
theorem dX5_behind_13 : decode cX5_behind 13 = .ok (.iload_n 3, 1) := by decide +kernel
theorem dX5_behind_14 : decode cX5_behind 14 = .ok (.iconst 1, 1) := by decide +kernel
theorem dX5_behind_15 : decode cX5_behind 15 = .ok (.iload_n 2, 1) := by decide +kernel
theorem dX5_behind_16 : decode cX5_behind 16 = .ok (.ishl, 1) := by decide +kernel
theorem dX5_behind_17 : decode cX5_behind 17 = .ok (.ior, 1) := by decide +kernel
theorem dX5_behind_18 : decode cX5_behind 18 = .ok (.iload_n 2, 1) := by decide +kernel
theorem dX5_behind_19 : decode cX5_behind 19 = .ok (.invokestatic 144, 3) := by decide +kernel
theorem dX5_behind_22 : decode cX5_behind 22 = .ok (.ireturn, 1) := by decide +kernel
theorem dX5_find_0 : decode cX5_find 0 = .ok (.aload_n 0, 1) := by decide +kernel
theorem dX5_find_1 : decode cX5_find 1 = .ok (.iconst 0, 1) := by decide +kernel
theorem dX5_find_2 : decode cX5_find 2 = .ok (.putfield 92, 3) := by decide +kernel
theorem dX5_find_5 : decode cX5_find 5 = .ok (.aload_n 0, 1) := by decide +kernel
theorem dX5_find_6 : decode cX5_find 6 = .ok (.getfield 105, 3) := by decide +kernel
theorem dX5_find_9 : decode cX5_find 9 = .ok (.istore_n 1, 1) := by decide +kernel
theorem dX5_find_10 : decode cX5_find 10 = .ok (.iload_n 1, 1) := by decide +kernel
theorem dX5_find_11 : decode cX5_find 11 = .ok (.ifCond .lt 292, 3) := by decide +kernel
theorem dX5_find_14 : decode cX5_find 14 = .ok (.iconst 0, 1) := by decide +kernel
theorem dX5_find_15 : decode cX5_find 15 = .ok (.istore_n 2, 1) := by decide +kernel
theorem dX5_find_16 : decode cX5_find 16 = .ok (.iload_n 2, 1) := by decide +kernel
theorem dX5_find_17 : decode cX5_find 17 = .ok (.iconst 1, 1) := by decide +kernel
theorem dX5_find_18 : decode cX5_find 18 = .ok (.aload_n 0, 1) := by decide +kernel
theorem dX5_find_19 : decode cX5_find 19 = .ok (.getfield 99, 3) := by decide +kernel
theorem dX5_find_22 : decode cX5_find 22 = .ok (.ishl, 1) := by decide +kernel
theorem dX5_find_23 : decode cX5_find 23 = .ok (.if_icmp .ge 274, 3) := by decide +kernel
theorem dX5_find_26 : decode cX5_find 26 = .ok (.iconst 0, 1) := by decide +kernel
theorem dX5_find_27 : decode cX5_find 27 = .ok (.istore_n 3, 1) := by decide +kernel
theorem dX5_find_28 : decode cX5_find 28 = .ok (.iload_n 3, 1) := by decide +kernel
theorem dX5_find_29 : decode cX5_find 29 = .ok (.bipush 10, 2) := by decide +kernel
theorem dX5_find_31 : decode cX5_find 31 = .ok (.if_icmp .gt 260, 3) := by decide +kernel
theorem dX5_find_34 : decode cX5_find 34 = .ok (.iload_n 1, 1) := by decide +kernel
theorem dX5_find_35 : decode cX5_find 35 = .ok (.iload_n 2, 1) := by decide +kernel
theorem dX5_find_36 : decode cX5_find 36 = .ok (.iload_n 3, 1) := by decide +kernel
theorem dX5_find_37 : decode cX5_find 37 = .ok (.invokestatic 144, 3) := by decide +kernel
theorem dX5_find_40 : decode cX5_find 40 = .ok (.istore 4, 2) := by decide +kernel
theorem dX5_find_42 : decode cX5_find 42 = .ok (.aload_n 0, 1) := by decide +kernel
theorem dX5_find_43 : decode cX5_find 43 = .ok (.getfield 80, 3) := by decide +kernel
theorem dX5_find_46 : decode cX5_find 46 = .ok (.iload 4, 2) := by decide +kernel
theorem dX5_find_48 : decode cX5_find 48 = .ok (.lconst 0, 1) := by decide +kernel
theorem dX5_find_49 : decode cX5_find 49 = .ok (.lastore, 1) := by decide +kernel
theorem dX5_find_50 : decode cX5_find 50 = .ok (.aload_n 0, 1) := by decide +kernel
theorem dX5_find_51 : decode cX5_find 51 = .ok (.getfield 73, 3) := by decide +kernel
theorem dX5_find_54 : decode cX5_find 54 = .ok (.iload 4, 2) := by decide +kernel
theorem dX5_find_56 : decode cX5_find 56 = .ok (.iload_n 1, 1) := by decide +kernel
theorem dX5_find_57 : decode cX5_find 57 = .ok (.aload_n 0, 1) := by decide +kernel
theorem dX5_find_58 : decode cX5_find 58 = .ok (.getfield 105, 3) := by decide +kernel
theorem dX5_find_61 : decode cX5_find 61 = .ok (.if_icmp .ne 7, 3) := by decide +kernel
theorem dX5_find_64 : decode cX5_find 64 = .ok (.iconst 0, 1) := by decide +kernel
theorem dX5_find_65 : decode cX5_find 65 = .ok (.goto 6, 3) := by decide +kernel
theorem dX5_find_68 : decode cX5_find 68 = .ok (.sipush 1000, 3) := by decide +kernel
theorem dX5_find_71 : decode cX5_find 71 = .ok (.iastore, 1) := by decide +kernel
theorem dX5_find_72 : decode cX5_find 72 = .ok (.aload_n 0, 1) := by decide +kernel
theorem dX5_find_73 : decode cX5_find 73 = .ok (.getfield 76, 3) := by decide +kernel
theorem dX5_find_76 : decode cX5_find 76 = .ok (.iload 4, 2) := by decide +kernel
theorem dX5_find_78 : decode cX5_find 78 = .ok (.iload_n 1, 1) := by decide +kernel
theorem dX5_find_79 : decode cX5_find 79 = .ok (.aload_n 0, 1) := by decide +kernel
theorem dX5_find_80 : decode cX5_find 80 = .ok (.getfield 105, 3) := by decide +kernel
theorem dX5_find_83 : decode cX5_find 83 = .ok (.if_icmp .ne 7, 3) := by decide +kernel
theorem dX5_find_86 : decode cX5_find 86 = .ok (.lconst 1, 1) := by decide +kernel
theorem dX5_find_87 : decode cX5_find 87 = .ok (.goto 4, 3) := by decide +kernel
theorem dX5_find_90 : decode cX5_find 90 = .ok (.lconst 0, 1) := by decide +kernel
theorem dX5_find_91 : decode cX5_find 91 = .ok (.lastore, 1) := by decide +kernel
theorem dX5_find_92 : decode cX5_find 92 = .ok (.iload_n 1, 1) := by decide +kernel
theorem dX5_find_93 : decode cX5_find 93 = .ok (.aload_n 0, 1) := by decide +kernel
theorem dX5_find_94 : decode cX5_find 94 = .ok (.getfield 105, 3) := by decide +kernel
theorem dX5_find_97 : decode cX5_find 97 = .ok (.if_icmp .eq 188, 3) := by decide +kernel
theorem dX5_find_100 : decode cX5_find 100 = .ok (.iload_n 3, 1) := by decide +kernel
theorem dX5_find_101 : decode cX5_find 101 = .ok (.bipush 10, 2) := by decide +kernel
theorem dX5_find_103 : decode cX5_find 103 = .ok (.if_icmp .eq 22, 3) := by decide +kernel
theorem dX5_find_106 : decode cX5_find 106 = .ok (.iload_n 3, 1) := by decide +kernel
theorem dX5_find_107 : decode cX5_find 107 = .ok (.aload_n 0, 1) := by decide +kernel
theorem dX5_find_108 : decode cX5_find 108 = .ok (.getfield 99, 3) := by decide +kernel
theorem dX5_find_111 : decode cX5_find 111 = .ok (.if_icmp .ge 174, 3) := by decide +kernel
theorem dX5_find_114 : decode cX5_find 114 = .ok (.iload_n 2, 1) := by decide +kernel
theorem dX5_find_115 : decode cX5_find 115 = .ok (.iload_n 3, 1) := by decide +kernel
theorem dX5_find_116 : decode cX5_find 116 = .ok (.ishr, 1) := by decide +kernel
theorem dX5_find_117 : decode cX5_find 117 = .ok (.iconst 1, 1) := by decide +kernel
theorem dX5_find_118 : decode cX5_find 118 = .ok (.iand, 1) := by decide +kernel
theorem dX5_find_119 : decode cX5_find 119 = .ok (.ifCond .ne 6, 3) := by decide +kernel
theorem dX5_find_122 : decode cX5_find 122 = .ok (.goto 163, 3) := by decide +kernel
theorem dX5_find_125 : decode cX5_find 125 = .ok (.iconst 0, 1) := by decide +kernel
theorem dX5_find_126 : decode cX5_find 126 = .ok (.istore 5, 2) := by decide +kernel
theorem dX5_find_128 : decode cX5_find 128 = .ok (.iload 5, 2) := by decide +kernel
theorem dX5_find_130 : decode cX5_find 130 = .ok (.bipush 10, 2) := by decide +kernel
theorem dX5_find_132 : decode cX5_find 132 = .ok (.if_icmp .gt 153, 3) := by decide +kernel
theorem dX5_find_135 : decode cX5_find 135 = .ok (.iload 5, 2) := by decide +kernel
theorem dX5_find_137 : decode cX5_find 137 = .ok (.bipush 10, 2) := by decide +kernel
theorem dX5_find_139 : decode cX5_find 139 = .ok (.if_icmp .eq 12, 3) := by decide +kernel
theorem dX5_find_142 : decode cX5_find 142 = .ok (.iload 5, 2) := by decide +kernel
theorem dX5_find_144 : decode cX5_find 144 = .ok (.aload_n 0, 1) := by decide +kernel
theorem dX5_find_145 : decode cX5_find 145 = .ok (.getfield 99, 3) := by decide +kernel
theorem dX5_find_148 : decode cX5_find 148 = .ok (.if_icmp .ge 131, 3) := by decide +kernel
theorem dX5_find_151 : decode cX5_find 151 = .ok (.aload_n 0, 1) := by decide +kernel
theorem dX5_find_152 : decode cX5_find 152 = .ok (.iload_n 1, 1) := by decide +kernel
theorem dX5_find_153 : decode cX5_find 153 = .ok (.iload 5, 2) := by decide +kernel
theorem dX5_find_155 : decode cX5_find 155 = .ok (.iload_n 2, 1) := by decide +kernel
theorem dX5_find_156 : decode cX5_find 156 = .ok (.iload_n 3, 1) := by decide +kernel
theorem dX5_find_157 : decode cX5_find 157 = .ok (.invokevirtual 148, 3) := by decide +kernel
theorem dX5_find_160 : decode cX5_find 160 = .ok (.ifCond .ne 6, 3) := by decide +kernel
theorem dX5_find_163 : decode cX5_find 163 = .ok (.goto 116, 3) := by decide +kernel
theorem dX5_find_166 : decode cX5_find 166 = .ok (.aload_n 0, 1) := by decide +kernel
theorem dX5_find_167 : decode cX5_find 167 = .ok (.iload_n 1, 1) := by decide +kernel
theorem dX5_find_168 : decode cX5_find 168 = .ok (.iload 5, 2) := by decide +kernel
theorem dX5_find_170 : decode cX5_find 170 = .ok (.iload_n 2, 1) := by decide +kernel
theorem dX5_find_171 : decode cX5_find 171 = .ok (.invokevirtual 152, 3) := by decide +kernel
theorem dX5_find_174 : decode cX5_find 174 = .ok (.istore 6, 2) := by decide +kernel
theorem dX5_find_176 : decode cX5_find 176 = .ok (.aload_n 0, 1) := by decide +kernel
theorem dX5_find_177 : decode cX5_find 177 = .ok (.getfield 73, 3) := by decide +kernel
theorem dX5_find_180 : decode cX5_find 180 = .ok (.iload 6, 2) := by decide +kernel
theorem dX5_find_182 : decode cX5_find 182 = .ok (.iaload, 1) := by decide +kernel
theorem dX5_find_183 : decode cX5_find 183 = .ok (.iload 5, 2) := by decide +kernel
theorem dX5_find_185 : decode cX5_find 185 = .ok (.bipush 10, 2) := by decide +kernel
theorem dX5_find_187 : decode cX5_find 187 = .ok (.if_icmp .ne 7, 3) := by decide +kernel
theorem dX5_find_190 : decode cX5_find 190 = .ok (.iconst 1, 1) := by decide +kernel
theorem dX5_find_191 : decode cX5_find 191 = .ok (.goto 4, 3) := by decide +kernel
theorem dX5_find_194 : decode cX5_find 194 = .ok (.iconst 0, 1) := by decide +kernel
theorem dX5_find_195 : decode cX5_find 195 = .ok (.iadd, 1) := by decide +kernel
theorem dX5_find_196 : decode cX5_find 196 = .ok (.istore 7, 2) := by decide +kernel
theorem dX5_find_198 : decode cX5_find 198 = .ok (.iload 7, 2) := by decide +kernel
theorem dX5_find_200 : decode cX5_find 200 = .ok (.aload_n 0, 1) := by decide +kernel
theorem dX5_find_201 : decode cX5_find 201 = .ok (.getfield 73, 3) := by decide +kernel
theorem dX5_find_204 : decode cX5_find 204 = .ok (.iload 4, 2) := by decide +kernel
theorem dX5_find_206 : decode cX5_find 206 = .ok (.iaload, 1) := by decide +kernel
theorem dX5_find_207 : decode cX5_find 207 = .ok (.if_icmp .gt 72, 3) := by decide +kernel
theorem dX5_find_210 : decode cX5_find 210 = .ok (.aload_n 0, 1) := by decide +kernel
theorem dX5_find_211 : decode cX5_find 211 = .ok (.getfield 73, 3) := by decide +kernel
theorem dX5_find_214 : decode cX5_find 214 = .ok (.iload 6, 2) := by decide +kernel
theorem dX5_find_216 : decode cX5_find 216 = .ok (.iaload, 1) := by decide +kernel
theorem dX5_find_217 : decode cX5_find 217 = .ok (.sipush 1000, 3) := by decide +kernel
theorem dX5_find_220 : decode cX5_find 220 = .ok (.if_icmp .ne 6, 3) := by decide +kernel
theorem dX5_find_223 : decode cX5_find 223 = .ok (.goto 56, 3) := by decide +kernel
theorem dX5_find_226 : decode cX5_find 226 = .ok (.aload_n 0, 1) := by decide +kernel
theorem dX5_find_227 : decode cX5_find 227 = .ok (.getfield 76, 3) := by decide +kernel
theorem dX5_find_230 : decode cX5_find 230 = .ok (.iload 4, 2) := by decide +kernel
theorem dX5_find_232 : decode cX5_find 232 = .ok (.iload 7, 2) := by decide +kernel
theorem dX5_find_234 : decode cX5_find 234 = .ok (.aload_n 0, 1) := by decide +kernel
theorem dX5_find_235 : decode cX5_find 235 = .ok (.getfield 73, 3) := by decide +kernel
theorem dX5_find_238 : decode cX5_find 238 = .ok (.iload 4, 2) := by decide +kernel
theorem dX5_find_240 : decode cX5_find 240 = .ok (.iaload, 1) := by decide +kernel
theorem dX5_find_241 : decode cX5_find 241 = .ok (.if_icmp .ge 13, 3) := by decide +kernel
theorem dX5_find_244 : decode cX5_find 244 = .ok (.aload_n 0, 1) := by decide +kernel
theorem dX5_find_245 : decode cX5_find 245 = .ok (.getfield 76, 3) := by decide +kernel
theorem dX5_find_248 : decode cX5_find 248 = .ok (.iload 6, 2) := by decide +kernel
theorem dX5_find_250 : decode cX5_find 250 = .ok (.laload, 1) := by decide +kernel
theorem dX5_find_251 : decode cX5_find 251 = .ok (.goto 18, 3) := by decide +kernel
theorem dX5_find_254 : decode cX5_find 254 = .ok (.aload_n 0, 1) := by decide +kernel
theorem dX5_find_255 : decode cX5_find 255 = .ok (.getfield 76, 3) := by decide +kernel
theorem dX5_find_258 : decode cX5_find 258 = .ok (.iload 4, 2) := by decide +kernel
theorem dX5_find_260 : decode cX5_find 260 = .ok (.laload, 1) := by decide +kernel
theorem dX5_find_261 : decode cX5_find 261 = .ok (.aload_n 0, 1) := by decide +kernel
theorem dX5_find_262 : decode cX5_find 262 = .ok (.getfield 76, 3) := by decide +kernel
theorem dX5_find_265 : decode cX5_find 265 = .ok (.iload 6, 2) := by decide +kernel
theorem dX5_find_267 : decode cX5_find 267 = .ok (.laload, 1) := by decide +kernel
theorem dX5_find_268 : decode cX5_find 268 = .ok (.ladd, 1) := by decide +kernel
theorem dX5_find_269 : decode cX5_find 269 = .ok (.lastore, 1) := by decide +kernel
theorem dX5_find_270 : decode cX5_find 270 = .ok (.aload_n 0, 1) := by decide +kernel
theorem dX5_find_271 : decode cX5_find 271 = .ok (.getfield 73, 3) := by decide +kernel
theorem dX5_find_274 : decode cX5_find 274 = .ok (.iload 4, 2) := by decide +kernel
theorem dX5_find_276 : decode cX5_find 276 = .ok (.iload 7, 2) := by decide +kernel
theorem dX5_find_278 : decode cX5_find 278 = .ok (.iastore, 1) := by decide +kernel
theorem dX5_find_279 : decode cX5_find 279 = .ok (.iinc 5 1, 3) := by decide +kernel
theorem dX5_find_282 : decode cX5_find 282 = .ok (.goto (-154), 3) := by decide +kernel
theorem dX5_find_285 : decode cX5_find 285 = .ok (.iinc 3 1, 3) := by decide +kernel
theorem dX5_find_288 : decode cX5_find 288 = .ok (.goto (-260), 3) := by decide +kernel
theorem dX5_find_291 : decode cX5_find 291 = .ok (.iinc 2 1, 3) := by decide +kernel
theorem dX5_find_294 : decode cX5_find 294 = .ok (.goto (-278), 3) := by decide +kernel
theorem dX5_find_297 : decode cX5_find 297 = .ok (.iinc 1 (-1), 3) := by decide +kernel
theorem dX5_find_300 : decode cX5_find 300 = .ok (.goto (-290), 3) := by decide +kernel
theorem dX5_find_303 : decode cX5_find 303 = .ok (.iconst 0, 1) := by decide +kernel
theorem dX5_find_304 : decode cX5_find 304 = .ok (.iconst 0, 1) := by decide +kernel
theorem dX5_find_305 : decode cX5_find 305 = .ok (.bipush 10, 2) := by decide +kernel
theorem dX5_find_307 : decode cX5_find 307 = .ok (.invokestatic 144, 3) := by decide +kernel
theorem dX5_find_310 : decode cX5_find 310 = .ok (.istore_n 1, 1) := by decide +kernel
theorem dX5_find_311 : decode cX5_find 311 = .ok (.aload_n 0, 1) := by decide +kernel
theorem dX5_find_312 : decode cX5_find 312 = .ok (.getfield 73, 3) := by decide +kernel
theorem dX5_find_315 : decode cX5_find 315 = .ok (.iload_n 1, 1) := by decide +kernel
theorem dX5_find_316 : decode cX5_find 316 = .ok (.iaload, 1) := by decide +kernel
theorem dX5_find_317 : decode cX5_find 317 = .ok (.sipush 1000, 3) := by decide +kernel
theorem dX5_find_320 : decode cX5_find 320 = .ok (.if_icmp .lt 5, 3) := by decide +kernel
theorem dX5_find_323 : decode cX5_find 323 = .ok (.iconst 0, 1) := by decide +kernel
theorem dX5_find_324 : decode cX5_find 324 = .ok (.ireturn, 1) := by decide +kernel
theorem dX5_find_325 : decode cX5_find 325 = .ok (.iload_n 1, 1) := by decide +kernel
theorem dX5_find_326 : decode cX5_find 326 = .ok (.istore_n 2, 1) := by decide +kernel
theorem dX5_find_327 : decode cX5_find 327 = .ok (.iconst 0, 1) := by decide +kernel
theorem dX5_find_328 : decode cX5_find 328 = .ok (.istore_n 3, 1) := by decide +kernel
theorem dX5_find_329 : decode cX5_find 329 = .ok (.bipush 10, 2) := by decide +kernel
theorem dX5_find_331 : decode cX5_find 331 = .ok (.istore 4, 2) := by decide +kernel
theorem dX5_find_333 : decode cX5_find 333 = .ok (.iconst 0, 1) := by decide +kernel
theorem dX5_find_334 : decode cX5_find 334 = .ok (.istore 5, 2) := by decide +kernel
theorem dX5_find_336 : decode cX5_find 336 = .ok (.iload 5, 2) := by decide +kernel
theorem dX5_find_338 : decode cX5_find 338 = .ok (.aload_n 0, 1) := by decide +kernel
theorem dX5_find_339 : decode cX5_find 339 = .ok (.getfield 105, 3) := by decide +kernel
theorem dX5_find_342 : decode cX5_find 342 = .ok (.if_icmp .ge 59, 3) := by decide +kernel
theorem dX5_find_345 : decode cX5_find 345 = .ok (.iconst 0, 1) := by decide +kernel
theorem dX5_find_346 : decode cX5_find 346 = .ok (.istore 6, 2) := by decide +kernel
theorem dX5_find_348 : decode cX5_find 348 = .ok (.aload_n 0, 1) := by decide +kernel
theorem dX5_find_349 : decode cX5_find 349 = .ok (.iload 5, 2) := by decide +kernel
theorem dX5_find_351 : decode cX5_find 351 = .ok (.iload 6, 2) := by decide +kernel
theorem dX5_find_353 : decode cX5_find 353 = .ok (.iload_n 3, 1) := by decide +kernel
theorem dX5_find_354 : decode cX5_find 354 = .ok (.iload 4, 2) := by decide +kernel
theorem dX5_find_356 : decode cX5_find 356 = .ok (.invokevirtual 155, 3) := by decide +kernel
theorem dX5_find_359 : decode cX5_find 359 = .ok (.ifCond .ne 9, 3) := by decide +kernel
theorem dX5_find_362 : decode cX5_find 362 = .ok (.iinc 6 1, 3) := by decide +kernel
theorem dX5_find_365 : decode cX5_find 365 = .ok (.goto (-17), 3) := by decide +kernel
theorem dX5_find_368 : decode cX5_find 368 = .ok (.aload_n 0, 1) := by decide +kernel
theorem dX5_find_369 : decode cX5_find 369 = .ok (.getfield 86, 3) := by decide +kernel
theorem dX5_find_372 : decode cX5_find 372 = .ok (.iload 5, 2) := by decide +kernel
theorem dX5_find_374 : decode cX5_find 374 = .ok (.iload 6, 2) := by decide +kernel
theorem dX5_find_376 : decode cX5_find 376 = .ok (.iastore, 1) := by decide +kernel
theorem dX5_find_377 : decode cX5_find 377 = .ok (.iload 6, 2) := by decide +kernel
theorem dX5_find_379 : decode cX5_find 379 = .ok (.bipush 10, 2) := by decide +kernel
theorem dX5_find_381 : decode cX5_find 381 = .ok (.if_icmp .eq 10, 3) := by decide +kernel
theorem dX5_find_384 : decode cX5_find 384 = .ok (.iload_n 3, 1) := by decide +kernel
theorem dX5_find_385 : decode cX5_find 385 = .ok (.iconst 1, 1) := by decide +kernel
theorem dX5_find_386 : decode cX5_find 386 = .ok (.iload 6, 2) := by decide +kernel
theorem dX5_find_388 : decode cX5_find 388 = .ok (.ishl, 1) := by decide +kernel
theorem dX5_find_389 : decode cX5_find 389 = .ok (.ior, 1) := by decide +kernel
theorem dX5_find_390 : decode cX5_find 390 = .ok (.istore_n 3, 1) := by decide +kernel
theorem dX5_find_391 : decode cX5_find 391 = .ok (.iload 6, 2) := by decide +kernel
theorem dX5_find_393 : decode cX5_find 393 = .ok (.istore 4, 2) := by decide +kernel
theorem dX5_find_395 : decode cX5_find 395 = .ok (.iinc 5 1, 3) := by decide +kernel
theorem dX5_find_398 : decode cX5_find 398 = .ok (.goto (-62), 3) := by decide +kernel
theorem dX5_find_401 : decode cX5_find 401 = .ok (.iconst 1, 1) := by decide +kernel
theorem dX5_find_402 : decode cX5_find 402 = .ok (.ireturn, 1) := by decide +kernel
theorem dX5_isBest_0 : decode cX5_isBest 0 = .ok (.iload_n 2, 1) := by decide +kernel
theorem dX5_isBest_1 : decode cX5_isBest 1 = .ok (.bipush 10, 2) := by decide +kernel
theorem dX5_isBest_3 : decode cX5_isBest 3 = .ok (.if_icmp .eq 11, 3) := by decide +kernel
theorem dX5_isBest_6 : decode cX5_isBest 6 = .ok (.iload_n 2, 1) := by decide +kernel
theorem dX5_isBest_7 : decode cX5_isBest 7 = .ok (.aload_n 0, 1) := by decide +kernel
theorem dX5_isBest_8 : decode cX5_isBest 8 = .ok (.getfield 99, 3) := by decide +kernel
theorem dX5_isBest_11 : decode cX5_isBest 11 = .ok (.if_icmp .ge 15, 3) := by decide +kernel
theorem dX5_isBest_14 : decode cX5_isBest 14 = .ok (.aload_n 0, 1) := by decide +kernel
theorem dX5_isBest_15 : decode cX5_isBest 15 = .ok (.iload_n 1, 1) := by decide +kernel
theorem dX5_isBest_16 : decode cX5_isBest 16 = .ok (.iload_n 2, 1) := by decide +kernel
theorem dX5_isBest_17 : decode cX5_isBest 17 = .ok (.iload_n 3, 1) := by decide +kernel
theorem dX5_isBest_18 : decode cX5_isBest 18 = .ok (.iload 4, 2) := by decide +kernel
theorem dX5_isBest_20 : decode cX5_isBest 20 = .ok (.invokevirtual 148, 3) := by decide +kernel
theorem dX5_isBest_23 : decode cX5_isBest 23 = .ok (.ifCond .ne 5, 3) := by decide +kernel
theorem dX5_isBest_26 : decode cX5_isBest 26 = .ok (.iconst 0, 1) := by decide +kernel
theorem dX5_isBest_27 : decode cX5_isBest 27 = .ok (.ireturn, 1) := by decide +kernel
theorem dX5_isBest_28 : decode cX5_isBest 28 = .ok (.aload_n 0, 1) := by decide +kernel
theorem dX5_isBest_29 : decode cX5_isBest 29 = .ok (.getfield 73, 3) := by decide +kernel
theorem dX5_isBest_32 : decode cX5_isBest 32 = .ok (.aload_n 0, 1) := by decide +kernel
theorem dX5_isBest_33 : decode cX5_isBest 33 = .ok (.iload_n 1, 1) := by decide +kernel
theorem dX5_isBest_34 : decode cX5_isBest 34 = .ok (.iload_n 2, 1) := by decide +kernel
theorem dX5_isBest_35 : decode cX5_isBest 35 = .ok (.iload_n 3, 1) := by decide +kernel
theorem dX5_isBest_36 : decode cX5_isBest 36 = .ok (.invokevirtual 152, 3) := by decide +kernel
theorem dX5_isBest_39 : decode cX5_isBest 39 = .ok (.iaload, 1) := by decide +kernel
theorem dX5_isBest_40 : decode cX5_isBest 40 = .ok (.istore 5, 2) := by decide +kernel
theorem dX5_isBest_42 : decode cX5_isBest 42 = .ok (.iload 5, 2) := by decide +kernel
theorem dX5_isBest_44 : decode cX5_isBest 44 = .ok (.sipush 1000, 3) := by decide +kernel
theorem dX5_isBest_47 : decode cX5_isBest 47 = .ok (.if_icmp .eq 36, 3) := by decide +kernel
theorem dX5_isBest_50 : decode cX5_isBest 50 = .ok (.iload 5, 2) := by decide +kernel
theorem dX5_isBest_52 : decode cX5_isBest 52 = .ok (.iload_n 2, 1) := by decide +kernel
theorem dX5_isBest_53 : decode cX5_isBest 53 = .ok (.bipush 10, 2) := by decide +kernel
theorem dX5_isBest_55 : decode cX5_isBest 55 = .ok (.if_icmp .ne 7, 3) := by decide +kernel
theorem dX5_isBest_58 : decode cX5_isBest 58 = .ok (.iconst 1, 1) := by decide +kernel
theorem dX5_isBest_59 : decode cX5_isBest 59 = .ok (.goto 4, 3) := by decide +kernel
theorem dX5_isBest_62 : decode cX5_isBest 62 = .ok (.iconst 0, 1) := by decide +kernel
theorem dX5_isBest_63 : decode cX5_isBest 63 = .ok (.iadd, 1) := by decide +kernel
theorem dX5_isBest_64 : decode cX5_isBest 64 = .ok (.aload_n 0, 1) := by decide +kernel
theorem dX5_isBest_65 : decode cX5_isBest 65 = .ok (.getfield 73, 3) := by decide +kernel
theorem dX5_isBest_68 : decode cX5_isBest 68 = .ok (.iload_n 1, 1) := by decide +kernel
theorem dX5_isBest_69 : decode cX5_isBest 69 = .ok (.iload_n 3, 1) := by decide +kernel
theorem dX5_isBest_70 : decode cX5_isBest 70 = .ok (.iload 4, 2) := by decide +kernel
theorem dX5_isBest_72 : decode cX5_isBest 72 = .ok (.invokestatic 144, 3) := by decide +kernel
theorem dX5_isBest_75 : decode cX5_isBest 75 = .ok (.iaload, 1) := by decide +kernel
theorem dX5_isBest_76 : decode cX5_isBest 76 = .ok (.if_icmp .ne 7, 3) := by decide +kernel
theorem dX5_isBest_79 : decode cX5_isBest 79 = .ok (.iconst 1, 1) := by decide +kernel
theorem dX5_isBest_80 : decode cX5_isBest 80 = .ok (.goto 4, 3) := by decide +kernel
theorem dX5_isBest_83 : decode cX5_isBest 83 = .ok (.iconst 0, 1) := by decide +kernel
theorem dX5_isBest_84 : decode cX5_isBest 84 = .ok (.ireturn, 1) := by decide +kernel
theorem dX5_use_0 : decode cX5_use 0 = .ok (.iconst 0, 1) := by decide +kernel
theorem dX5_use_1 : decode cX5_use 1 = .ok (.istore_n 1, 1) := by decide +kernel
theorem dX5_use_2 : decode cX5_use 2 = .ok (.iload_n 1, 1) := by decide +kernel
theorem dX5_use_3 : decode cX5_use 3 = .ok (.bipush 88, 2) := by decide +kernel
theorem dX5_use_5 : decode cX5_use 5 = .ok (.if_icmp .ge 16, 3) := by decide +kernel
theorem dX5_use_8 : decode cX5_use 8 = .ok (.aload_n 0, 1) := by decide +kernel
theorem dX5_use_9 : decode cX5_use 9 = .ok (.getfield 83, 3) := by decide +kernel
theorem dX5_use_12 : decode cX5_use 12 = .ok (.iload_n 1, 1) := by decide +kernel
theorem dX5_use_13 : decode cX5_use 13 = .ok (.lconst 0, 1) := by decide +kernel
theorem dX5_use_14 : decode cX5_use 14 = .ok (.lastore, 1) := by decide +kernel
theorem dX5_use_15 : decode cX5_use 15 = .ok (.iinc 1 1, 3) := by decide +kernel
theorem dX5_use_18 : decode cX5_use 18 = .ok (.goto (-16), 3) := by decide +kernel
theorem dX5_use_21 : decode cX5_use 21 = .ok (.aload_n 0, 1) := by decide +kernel
theorem dX5_use_22 : decode cX5_use 22 = .ok (.getfield 80, 3) := by decide +kernel
theorem dX5_use_25 : decode cX5_use 25 = .ok (.iconst 0, 1) := by decide +kernel
theorem dX5_use_26 : decode cX5_use 26 = .ok (.iconst 0, 1) := by decide +kernel
theorem dX5_use_27 : decode cX5_use 27 = .ok (.bipush 10, 2) := by decide +kernel
theorem dX5_use_29 : decode cX5_use 29 = .ok (.invokestatic 144, 3) := by decide +kernel
theorem dX5_use_32 : decode cX5_use 32 = .ok (.lconst 1, 1) := by decide +kernel
theorem dX5_use_33 : decode cX5_use 33 = .ok (.lastore, 1) := by decide +kernel
theorem dX5_use_34 : decode cX5_use 34 = .ok (.iconst 0, 1) := by decide +kernel
theorem dX5_use_35 : decode cX5_use 35 = .ok (.istore_n 1, 1) := by decide +kernel
theorem dX5_use_36 : decode cX5_use 36 = .ok (.iload_n 1, 1) := by decide +kernel
theorem dX5_use_37 : decode cX5_use 37 = .ok (.aload_n 0, 1) := by decide +kernel
theorem dX5_use_38 : decode cX5_use 38 = .ok (.getfield 105, 3) := by decide +kernel
theorem dX5_use_41 : decode cX5_use 41 = .ok (.if_icmp .ge 141, 3) := by decide +kernel
theorem dX5_use_44 : decode cX5_use 44 = .ok (.iconst 0, 1) := by decide +kernel
theorem dX5_use_45 : decode cX5_use 45 = .ok (.istore_n 2, 1) := by decide +kernel
theorem dX5_use_46 : decode cX5_use 46 = .ok (.iload_n 2, 1) := by decide +kernel
theorem dX5_use_47 : decode cX5_use 47 = .ok (.iconst 1, 1) := by decide +kernel
theorem dX5_use_48 : decode cX5_use 48 = .ok (.aload_n 0, 1) := by decide +kernel
theorem dX5_use_49 : decode cX5_use 49 = .ok (.getfield 99, 3) := by decide +kernel
theorem dX5_use_52 : decode cX5_use 52 = .ok (.ishl, 1) := by decide +kernel
theorem dX5_use_53 : decode cX5_use 53 = .ok (.if_icmp .ge 123, 3) := by decide +kernel
theorem dX5_use_56 : decode cX5_use 56 = .ok (.iconst 0, 1) := by decide +kernel
theorem dX5_use_57 : decode cX5_use 57 = .ok (.istore_n 3, 1) := by decide +kernel
theorem dX5_use_58 : decode cX5_use 58 = .ok (.iload_n 3, 1) := by decide +kernel
theorem dX5_use_59 : decode cX5_use 59 = .ok (.bipush 10, 2) := by decide +kernel
theorem dX5_use_61 : decode cX5_use 61 = .ok (.if_icmp .gt 109, 3) := by decide +kernel
theorem dX5_use_64 : decode cX5_use 64 = .ok (.aload_n 0, 1) := by decide +kernel
theorem dX5_use_65 : decode cX5_use 65 = .ok (.getfield 80, 3) := by decide +kernel
theorem dX5_use_68 : decode cX5_use 68 = .ok (.iload_n 1, 1) := by decide +kernel
theorem dX5_use_69 : decode cX5_use 69 = .ok (.iload_n 2, 1) := by decide +kernel
theorem dX5_use_70 : decode cX5_use 70 = .ok (.iload_n 3, 1) := by decide +kernel
theorem dX5_use_71 : decode cX5_use 71 = .ok (.invokestatic 144, 3) := by decide +kernel
theorem dX5_use_74 : decode cX5_use 74 = .ok (.laload, 1) := by decide +kernel
theorem dX5_use_75 : decode cX5_use 75 = .ok (.lstore 4, 2) := by decide +kernel
theorem dX5_use_77 : decode cX5_use 77 = .ok (.iconst 0, 1) := by decide +kernel
theorem dX5_use_78 : decode cX5_use 78 = .ok (.istore 6, 2) := by decide +kernel
theorem dX5_use_80 : decode cX5_use 80 = .ok (.iload 6, 2) := by decide +kernel
theorem dX5_use_82 : decode cX5_use 82 = .ok (.bipush 10, 2) := by decide +kernel
theorem dX5_use_84 : decode cX5_use 84 = .ok (.if_icmp .gt 80, 3) := by decide +kernel
theorem dX5_use_87 : decode cX5_use 87 = .ok (.lload 4, 2) := by decide +kernel
theorem dX5_use_89 : decode cX5_use 89 = .ok (.lconst 0, 1) := by decide +kernel
theorem dX5_use_90 : decode cX5_use 90 = .ok (.lcmp, 1) := by decide +kernel
theorem dX5_use_91 : decode cX5_use 91 = .ok (.ifCond .le 73, 3) := by decide +kernel
theorem dX5_use_94 : decode cX5_use 94 = .ok (.aload_n 0, 1) := by decide +kernel
theorem dX5_use_95 : decode cX5_use 95 = .ok (.iload_n 1, 1) := by decide +kernel
theorem dX5_use_96 : decode cX5_use 96 = .ok (.iload 6, 2) := by decide +kernel
theorem dX5_use_98 : decode cX5_use 98 = .ok (.iload_n 2, 1) := by decide +kernel
theorem dX5_use_99 : decode cX5_use 99 = .ok (.iload_n 3, 1) := by decide +kernel
theorem dX5_use_100 : decode cX5_use 100 = .ok (.invokevirtual 155, 3) := by decide +kernel
theorem dX5_use_103 : decode cX5_use 103 = .ok (.ifCond .ne 6, 3) := by decide +kernel
theorem dX5_use_106 : decode cX5_use 106 = .ok (.goto 52, 3) := by decide +kernel
theorem dX5_use_109 : decode cX5_use 109 = .ok (.aload_n 0, 1) := by decide +kernel
theorem dX5_use_110 : decode cX5_use 110 = .ok (.getfield 80, 3) := by decide +kernel
theorem dX5_use_113 : decode cX5_use 113 = .ok (.aload_n 0, 1) := by decide +kernel
theorem dX5_use_114 : decode cX5_use 114 = .ok (.iload_n 1, 1) := by decide +kernel
theorem dX5_use_115 : decode cX5_use 115 = .ok (.iload 6, 2) := by decide +kernel
theorem dX5_use_117 : decode cX5_use 117 = .ok (.iload_n 2, 1) := by decide +kernel
theorem dX5_use_118 : decode cX5_use 118 = .ok (.invokevirtual 152, 3) := by decide +kernel
theorem dX5_use_121 : decode cX5_use 121 = .ok (.dup2, 1) := by decide +kernel
theorem dX5_use_122 : decode cX5_use 122 = .ok (.laload, 1) := by decide +kernel
theorem dX5_use_123 : decode cX5_use 123 = .ok (.lload 4, 2) := by decide +kernel
theorem dX5_use_125 : decode cX5_use 125 = .ok (.ladd, 1) := by decide +kernel
theorem dX5_use_126 : decode cX5_use 126 = .ok (.lastore, 1) := by decide +kernel
theorem dX5_use_127 : decode cX5_use 127 = .ok (.aload_n 0, 1) := by decide +kernel
theorem dX5_use_128 : decode cX5_use 128 = .ok (.getfield 83, 3) := by decide +kernel
theorem dX5_use_131 : decode cX5_use 131 = .ok (.bipush 11, 2) := by decide +kernel
theorem dX5_use_133 : decode cX5_use 133 = .ok (.iload_n 1, 1) := by decide +kernel
theorem dX5_use_134 : decode cX5_use 134 = .ok (.imul, 1) := by decide +kernel
theorem dX5_use_135 : decode cX5_use 135 = .ok (.iload 6, 2) := by decide +kernel
theorem dX5_use_137 : decode cX5_use 137 = .ok (.iadd, 1) := by decide +kernel
theorem dX5_use_138 : decode cX5_use 138 = .ok (.dup2, 1) := by decide +kernel
theorem dX5_use_139 : decode cX5_use 139 = .ok (.laload, 1) := by decide +kernel
theorem dX5_use_140 : decode cX5_use 140 = .ok (.lload 4, 2) := by decide +kernel
theorem dX5_use_142 : decode cX5_use 142 = .ok (.aload_n 0, 1) := by decide +kernel
theorem dX5_use_143 : decode cX5_use 143 = .ok (.getfield 76, 3) := by decide +kernel
theorem dX5_use_146 : decode cX5_use 146 = .ok (.aload_n 0, 1) := by decide +kernel
theorem dX5_use_147 : decode cX5_use 147 = .ok (.iload_n 1, 1) := by decide +kernel
theorem dX5_use_148 : decode cX5_use 148 = .ok (.iload 6, 2) := by decide +kernel
theorem dX5_use_150 : decode cX5_use 150 = .ok (.iload_n 2, 1) := by decide +kernel
theorem dX5_use_151 : decode cX5_use 151 = .ok (.invokevirtual 152, 3) := by decide +kernel
theorem dX5_use_154 : decode cX5_use 154 = .ok (.laload, 1) := by decide +kernel
theorem dX5_use_155 : decode cX5_use 155 = .ok (.lmul, 1) := by decide +kernel
theorem dX5_use_156 : decode cX5_use 156 = .ok (.ladd, 1) := by decide +kernel
theorem dX5_use_157 : decode cX5_use 157 = .ok (.lastore, 1) := by decide +kernel
theorem dX5_use_158 : decode cX5_use 158 = .ok (.iinc 6 1, 3) := by decide +kernel
theorem dX5_use_161 : decode cX5_use 161 = .ok (.goto (-81), 3) := by decide +kernel
theorem dX5_use_164 : decode cX5_use 164 = .ok (.iinc 3 1, 3) := by decide +kernel
theorem dX5_use_167 : decode cX5_use 167 = .ok (.goto (-109), 3) := by decide +kernel
theorem dX5_use_170 : decode cX5_use 170 = .ok (.iinc 2 1, 3) := by decide +kernel
theorem dX5_use_173 : decode cX5_use 173 = .ok (.goto (-127), 3) := by decide +kernel
theorem dX5_use_176 : decode cX5_use 176 = .ok (.iinc 1 1, 3) := by decide +kernel
theorem dX5_use_179 : decode cX5_use 179 = .ok (.goto (-143), 3) := by decide +kernel
theorem dX5_use_182 : decode cX5_use 182 = .ok (.return_, 1) := by decide +kernel
theorem dX5_least_0 : decode cX5_least 0 = .ok (.aload_n 0, 1) := by decide +kernel
theorem dX5_least_1 : decode cX5_least 1 = .ok (.invokevirtual 158, 3) := by decide +kernel
theorem dX5_least_4 : decode cX5_least 4 = .ok (.ifCond .eq 18, 3) := by decide +kernel
theorem dX5_least_7 : decode cX5_least 7 = .ok (.aload_n 0, 1) := by decide +kernel
theorem dX5_least_8 : decode cX5_least 8 = .ok (.getfield 73, 3) := by decide +kernel
theorem dX5_least_11 : decode cX5_least 11 = .ok (.iconst 0, 1) := by decide +kernel
theorem dX5_least_12 : decode cX5_least 12 = .ok (.iconst 0, 1) := by decide +kernel
theorem dX5_least_13 : decode cX5_least 13 = .ok (.bipush 10, 2) := by decide +kernel
theorem dX5_least_15 : decode cX5_least 15 = .ok (.invokestatic 144, 3) := by decide +kernel
theorem dX5_least_18 : decode cX5_least 18 = .ok (.iaload, 1) := by decide +kernel
theorem dX5_least_19 : decode cX5_least 19 = .ok (.goto 4, 3) := by decide +kernel
theorem dX5_least_22 : decode cX5_least 22 = .ok (.iconst (-1), 1) := by decide +kernel
theorem dX5_least_23 : decode cX5_least 23 = .ok (.ireturn, 1) := by decide +kernel
theorem dX5_ways_0 : decode cX5_ways 0 = .ok (.aload_n 0, 1) := by decide +kernel
theorem dX5_ways_1 : decode cX5_ways 1 = .ok (.invokevirtual 158, 3) := by decide +kernel
theorem dX5_ways_4 : decode cX5_ways 4 = .ok (.ifCond .eq 18, 3) := by decide +kernel
theorem dX5_ways_7 : decode cX5_ways 7 = .ok (.aload_n 0, 1) := by decide +kernel
theorem dX5_ways_8 : decode cX5_ways 8 = .ok (.getfield 76, 3) := by decide +kernel
theorem dX5_ways_11 : decode cX5_ways 11 = .ok (.iconst 0, 1) := by decide +kernel
theorem dX5_ways_12 : decode cX5_ways 12 = .ok (.iconst 0, 1) := by decide +kernel
theorem dX5_ways_13 : decode cX5_ways 13 = .ok (.bipush 10, 2) := by decide +kernel
theorem dX5_ways_15 : decode cX5_ways 15 = .ok (.invokestatic 144, 3) := by decide +kernel
theorem dX5_ways_18 : decode cX5_ways 18 = .ok (.laload, 1) := by decide +kernel
theorem dX5_ways_19 : decode cX5_ways 19 = .ok (.goto 4, 3) := by decide +kernel
theorem dX5_ways_22 : decode cX5_ways 22 = .ok (.lconst 0, 1) := by decide +kernel
theorem dX5_ways_23 : decode cX5_ways 23 = .ok (.lreturn, 1) := by decide +kernel
theorem dX5_first_0 : decode cX5_first 0 = .ok (.aload_n 0, 1) := by decide +kernel
theorem dX5_first_1 : decode cX5_first 1 = .ok (.invokevirtual 158, 3) := by decide +kernel
theorem dX5_first_4 : decode cX5_first 4 = .ok (.ifCond .eq 20, 3) := by decide +kernel
theorem dX5_first_7 : decode cX5_first 7 = .ok (.aload_n 0, 1) := by decide +kernel
theorem dX5_first_8 : decode cX5_first 8 = .ok (.iload_n 1, 1) := by decide +kernel
theorem dX5_first_9 : decode cX5_first 9 = .ok (.invokevirtual 141, 3) := by decide +kernel
theorem dX5_first_12 : decode cX5_first 12 = .ok (.ifCond .eq 12, 3) := by decide +kernel
theorem dX5_first_15 : decode cX5_first 15 = .ok (.aload_n 0, 1) := by decide +kernel
theorem dX5_first_16 : decode cX5_first 16 = .ok (.getfield 86, 3) := by decide +kernel
theorem dX5_first_19 : decode cX5_first 19 = .ok (.iload_n 1, 1) := by decide +kernel
theorem dX5_first_20 : decode cX5_first 20 = .ok (.iaload, 1) := by decide +kernel
theorem dX5_first_21 : decode cX5_first 21 = .ok (.goto 4, 3) := by decide +kernel
theorem dX5_first_24 : decode cX5_first 24 = .ok (.iconst (-1), 1) := by decide +kernel
theorem dX5_first_25 : decode cX5_first 25 = .ok (.ireturn, 1) := by decide +kernel
theorem dX5_sure_0 : decode cX5_sure 0 = .ok (.aload_n 0, 1) := by decide +kernel
theorem dX5_sure_1 : decode cX5_sure 1 = .ok (.invokevirtual 158, 3) := by decide +kernel
theorem dX5_sure_4 : decode cX5_sure 4 = .ok (.ifCond .eq 11, 3) := by decide +kernel
theorem dX5_sure_7 : decode cX5_sure 7 = .ok (.aload_n 0, 1) := by decide +kernel
theorem dX5_sure_8 : decode cX5_sure 8 = .ok (.iload_n 1, 1) := by decide +kernel
theorem dX5_sure_9 : decode cX5_sure 9 = .ok (.invokevirtual 124, 3) := by decide +kernel
theorem dX5_sure_12 : decode cX5_sure 12 = .ok (.ifCond .ne 5, 3) := by decide +kernel
theorem dX5_sure_15 : decode cX5_sure 15 = .ok (.iconst (-1), 1) := by decide +kernel
theorem dX5_sure_16 : decode cX5_sure 16 = .ok (.ireturn, 1) := by decide +kernel
theorem dX5_sure_17 : decode cX5_sure 17 = .ok (.aload_n 0, 1) := by decide +kernel
theorem dX5_sure_18 : decode cX5_sure 18 = .ok (.invokevirtual 162, 3) := by decide +kernel
theorem dX5_sure_21 : decode cX5_sure 21 = .ok (.iconst 0, 1) := by decide +kernel
theorem dX5_sure_22 : decode cX5_sure 22 = .ok (.istore_n 2, 1) := by decide +kernel
theorem dX5_sure_23 : decode cX5_sure 23 = .ok (.iload_n 2, 1) := by decide +kernel
theorem dX5_sure_24 : decode cX5_sure 24 = .ok (.aload_n 0, 1) := by decide +kernel
theorem dX5_sure_25 : decode cX5_sure 25 = .ok (.getfield 105, 3) := by decide +kernel
theorem dX5_sure_28 : decode cX5_sure 28 = .ok (.if_icmp .ge 38, 3) := by decide +kernel
theorem dX5_sure_31 : decode cX5_sure 31 = .ok (.aload_n 0, 1) := by decide +kernel
theorem dX5_sure_32 : decode cX5_sure 32 = .ok (.getfield 83, 3) := by decide +kernel
theorem dX5_sure_35 : decode cX5_sure 35 = .ok (.bipush 11, 2) := by decide +kernel
theorem dX5_sure_37 : decode cX5_sure 37 = .ok (.iload_n 2, 1) := by decide +kernel
theorem dX5_sure_38 : decode cX5_sure 38 = .ok (.imul, 1) := by decide +kernel
theorem dX5_sure_39 : decode cX5_sure 39 = .ok (.iload_n 1, 1) := by decide +kernel
theorem dX5_sure_40 : decode cX5_sure 40 = .ok (.iadd, 1) := by decide +kernel
theorem dX5_sure_41 : decode cX5_sure 41 = .ok (.laload, 1) := by decide +kernel
theorem dX5_sure_42 : decode cX5_sure 42 = .ok (.aload_n 0, 1) := by decide +kernel
theorem dX5_sure_43 : decode cX5_sure 43 = .ok (.getfield 76, 3) := by decide +kernel
theorem dX5_sure_46 : decode cX5_sure 46 = .ok (.iconst 0, 1) := by decide +kernel
theorem dX5_sure_47 : decode cX5_sure 47 = .ok (.iconst 0, 1) := by decide +kernel
theorem dX5_sure_48 : decode cX5_sure 48 = .ok (.bipush 10, 2) := by decide +kernel
theorem dX5_sure_50 : decode cX5_sure 50 = .ok (.invokestatic 144, 3) := by decide +kernel
theorem dX5_sure_53 : decode cX5_sure 53 = .ok (.laload, 1) := by decide +kernel
theorem dX5_sure_54 : decode cX5_sure 54 = .ok (.lcmp, 1) := by decide +kernel
theorem dX5_sure_55 : decode cX5_sure 55 = .ok (.ifCond .ne 5, 3) := by decide +kernel
theorem dX5_sure_58 : decode cX5_sure 58 = .ok (.iload_n 2, 1) := by decide +kernel
theorem dX5_sure_59 : decode cX5_sure 59 = .ok (.ireturn, 1) := by decide +kernel
theorem dX5_sure_60 : decode cX5_sure 60 = .ok (.iinc 2 1, 3) := by decide +kernel
theorem dX5_sure_63 : decode cX5_sure 63 = .ok (.goto (-40), 3) := by decide +kernel
theorem dX5_sure_66 : decode cX5_sure 66 = .ok (.iconst (-1), 1) := by decide +kernel
theorem dX5_sure_67 : decode cX5_sure 67 = .ok (.ireturn, 1) := by decide +kernel
theorem dX5_open_0 : decode cX5_open 0 = .ok (.aload_n 0, 1) := by decide +kernel
theorem dX5_open_1 : decode cX5_open 1 = .ok (.invokevirtual 158, 3) := by decide +kernel
theorem dX5_open_4 : decode cX5_open 4 = .ok (.ifCond .eq 11, 3) := by decide +kernel
theorem dX5_open_7 : decode cX5_open 7 = .ok (.aload_n 0, 1) := by decide +kernel
theorem dX5_open_8 : decode cX5_open 8 = .ok (.iload_n 1, 1) := by decide +kernel
theorem dX5_open_9 : decode cX5_open 9 = .ok (.invokevirtual 124, 3) := by decide +kernel
theorem dX5_open_12 : decode cX5_open 12 = .ok (.ifCond .ne 5, 3) := by decide +kernel
theorem dX5_open_15 : decode cX5_open 15 = .ok (.iconst 0, 1) := by decide +kernel
theorem dX5_open_16 : decode cX5_open 16 = .ok (.ireturn, 1) := by decide +kernel
theorem dX5_open_17 : decode cX5_open 17 = .ok (.aload_n 0, 1) := by decide +kernel
theorem dX5_open_18 : decode cX5_open 18 = .ok (.invokevirtual 162, 3) := by decide +kernel
theorem dX5_open_21 : decode cX5_open 21 = .ok (.iconst 0, 1) := by decide +kernel
theorem dX5_open_22 : decode cX5_open 22 = .ok (.istore_n 2, 1) := by decide +kernel
theorem dX5_open_23 : decode cX5_open 23 = .ok (.iconst 0, 1) := by decide +kernel
theorem dX5_open_24 : decode cX5_open 24 = .ok (.istore_n 3, 1) := by decide +kernel
theorem dX5_open_25 : decode cX5_open 25 = .ok (.iload_n 3, 1) := by decide +kernel
theorem dX5_open_26 : decode cX5_open 26 = .ok (.aload_n 0, 1) := by decide +kernel
theorem dX5_open_27 : decode cX5_open 27 = .ok (.getfield 105, 3) := by decide +kernel
theorem dX5_open_30 : decode cX5_open 30 = .ok (.if_icmp .ge 35, 3) := by decide +kernel
theorem dX5_open_33 : decode cX5_open 33 = .ok (.iload_n 2, 1) := by decide +kernel
theorem dX5_open_34 : decode cX5_open 34 = .ok (.aload_n 0, 1) := by decide +kernel
theorem dX5_open_35 : decode cX5_open 35 = .ok (.getfield 83, 3) := by decide +kernel
theorem dX5_open_38 : decode cX5_open 38 = .ok (.bipush 11, 2) := by decide +kernel
theorem dX5_open_40 : decode cX5_open 40 = .ok (.iload_n 3, 1) := by decide +kernel
theorem dX5_open_41 : decode cX5_open 41 = .ok (.imul, 1) := by decide +kernel
theorem dX5_open_42 : decode cX5_open 42 = .ok (.iload_n 1, 1) := by decide +kernel
theorem dX5_open_43 : decode cX5_open 43 = .ok (.iadd, 1) := by decide +kernel
theorem dX5_open_44 : decode cX5_open 44 = .ok (.laload, 1) := by decide +kernel
theorem dX5_open_45 : decode cX5_open 45 = .ok (.lconst 0, 1) := by decide +kernel
theorem dX5_open_46 : decode cX5_open 46 = .ok (.lcmp, 1) := by decide +kernel
theorem dX5_open_47 : decode cX5_open 47 = .ok (.ifCond .le 9, 3) := by decide +kernel
theorem dX5_open_50 : decode cX5_open 50 = .ok (.iconst 1, 1) := by decide +kernel
theorem dX5_open_51 : decode cX5_open 51 = .ok (.iload_n 3, 1) := by decide +kernel
theorem dX5_open_52 : decode cX5_open 52 = .ok (.ishl, 1) := by decide +kernel
theorem dX5_open_53 : decode cX5_open 53 = .ok (.goto 4, 3) := by decide +kernel
theorem dX5_open_56 : decode cX5_open 56 = .ok (.iconst 0, 1) := by decide +kernel
theorem dX5_open_57 : decode cX5_open 57 = .ok (.ior, 1) := by decide +kernel
theorem dX5_open_58 : decode cX5_open 58 = .ok (.istore_n 2, 1) := by decide +kernel
theorem dX5_open_59 : decode cX5_open 59 = .ok (.iinc 3 1, 3) := by decide +kernel
theorem dX5_open_62 : decode cX5_open 62 = .ok (.goto (-37), 3) := by decide +kernel
theorem dX5_open_65 : decode cX5_open 65 = .ok (.iload_n 2, 1) := by decide +kernel
theorem dX5_open_66 : decode cX5_open 66 = .ok (.ireturn, 1) := by decide +kernel
theorem dX5_borne_0 : decode cX5_borne 0 = .ok (.iconst 0, 1) := by decide +kernel
theorem dX5_borne_1 : decode cX5_borne 1 = .ok (.istore_n 2, 1) := by decide +kernel
theorem dX5_borne_2 : decode cX5_borne 2 = .ok (.iload_n 2, 1) := by decide +kernel
theorem dX5_borne_3 : decode cX5_borne 3 = .ok (.aload_n 0, 1) := by decide +kernel
theorem dX5_borne_4 : decode cX5_borne 4 = .ok (.getfield 105, 3) := by decide +kernel
theorem dX5_borne_7 : decode cX5_borne 7 = .ok (.if_icmp .ge 96, 3) := by decide +kernel
theorem dX5_borne_10 : decode cX5_borne 10 = .ok (.aload_n 0, 1) := by decide +kernel
theorem dX5_borne_11 : decode cX5_borne 11 = .ok (.getfield 86, 3) := by decide +kernel
theorem dX5_borne_14 : decode cX5_borne 14 = .ok (.iload_n 2, 1) := by decide +kernel
theorem dX5_borne_15 : decode cX5_borne 15 = .ok (.iaload, 1) := by decide +kernel
theorem dX5_borne_16 : decode cX5_borne 16 = .ok (.iload_n 1, 1) := by decide +kernel
theorem dX5_borne_17 : decode cX5_borne 17 = .ok (.if_icmp .eq 6, 3) := by decide +kernel
theorem dX5_borne_20 : decode cX5_borne 20 = .ok (.goto 77, 3) := by decide +kernel
theorem dX5_borne_23 : decode cX5_borne 23 = .ok (.iconst 0, 1) := by decide +kernel
theorem dX5_borne_24 : decode cX5_borne 24 = .ok (.istore_n 3, 1) := by decide +kernel
theorem dX5_borne_25 : decode cX5_borne 25 = .ok (.iload_n 2, 1) := by decide +kernel
theorem dX5_borne_26 : decode cX5_borne 26 = .ok (.iconst 1, 1) := by decide +kernel
theorem dX5_borne_27 : decode cX5_borne 27 = .ok (.iadd, 1) := by decide +kernel
theorem dX5_borne_28 : decode cX5_borne 28 = .ok (.istore 4, 2) := by decide +kernel
theorem dX5_borne_30 : decode cX5_borne 30 = .ok (.iload 4, 2) := by decide +kernel
theorem dX5_borne_32 : decode cX5_borne 32 = .ok (.aload_n 0, 1) := by decide +kernel
theorem dX5_borne_33 : decode cX5_borne 33 = .ok (.getfield 105, 3) := by decide +kernel
theorem dX5_borne_36 : decode cX5_borne 36 = .ok (.if_icmp .ge 59, 3) := by decide +kernel
theorem dX5_borne_39 : decode cX5_borne 39 = .ok (.aload_n 0, 1) := by decide +kernel
theorem dX5_borne_40 : decode cX5_borne 40 = .ok (.getfield 62, 3) := by decide +kernel
theorem dX5_borne_43 : decode cX5_borne 43 = .ok (.iload 4, 2) := by decide +kernel
theorem dX5_borne_45 : decode cX5_borne 45 = .ok (.iaload, 1) := by decide +kernel
theorem dX5_borne_46 : decode cX5_borne 46 = .ok (.aload_n 0, 1) := by decide +kernel
theorem dX5_borne_47 : decode cX5_borne 47 = .ok (.getfield 62, 3) := by decide +kernel
theorem dX5_borne_50 : decode cX5_borne 50 = .ok (.iload_n 2, 1) := by decide +kernel
theorem dX5_borne_51 : decode cX5_borne 51 = .ok (.iaload, 1) := by decide +kernel
theorem dX5_borne_52 : decode cX5_borne 52 = .ok (.if_icmp .ne 37, 3) := by decide +kernel
theorem dX5_borne_55 : decode cX5_borne 55 = .ok (.iload_n 3, 1) := by decide +kernel
theorem dX5_borne_56 : decode cX5_borne 56 = .ok (.aload_n 0, 1) := by decide +kernel
theorem dX5_borne_57 : decode cX5_borne 57 = .ok (.getfield 86, 3) := by decide +kernel
theorem dX5_borne_60 : decode cX5_borne 60 = .ok (.iload 4, 2) := by decide +kernel
theorem dX5_borne_62 : decode cX5_borne 62 = .ok (.iaload, 1) := by decide +kernel
theorem dX5_borne_63 : decode cX5_borne 63 = .ok (.bipush 10, 2) := by decide +kernel
theorem dX5_borne_65 : decode cX5_borne 65 = .ok (.if_icmp .ne 10, 3) := by decide +kernel
theorem dX5_borne_68 : decode cX5_borne 68 = .ok (.aload_n 0, 1) := by decide +kernel
theorem dX5_borne_69 : decode cX5_borne 69 = .ok (.getfield 13, 3) := by decide +kernel
theorem dX5_borne_72 : decode cX5_borne 72 = .ok (.goto 15, 3) := by decide +kernel
theorem dX5_borne_75 : decode cX5_borne 75 = .ok (.aload_n 0, 1) := by decide +kernel
theorem dX5_borne_76 : decode cX5_borne 76 = .ok (.getfield 44, 3) := by decide +kernel
theorem dX5_borne_79 : decode cX5_borne 79 = .ok (.aload_n 0, 1) := by decide +kernel
theorem dX5_borne_80 : decode cX5_borne 80 = .ok (.getfield 86, 3) := by decide +kernel
theorem dX5_borne_83 : decode cX5_borne 83 = .ok (.iload 4, 2) := by decide +kernel
theorem dX5_borne_85 : decode cX5_borne 85 = .ok (.iaload, 1) := by decide +kernel
theorem dX5_borne_86 : decode cX5_borne 86 = .ok (.iaload, 1) := by decide +kernel
theorem dX5_borne_87 : decode cX5_borne 87 = .ok (.iadd, 1) := by decide +kernel
theorem dX5_borne_88 : decode cX5_borne 88 = .ok (.istore_n 3, 1) := by decide +kernel
theorem dX5_borne_89 : decode cX5_borne 89 = .ok (.iinc 4 1, 3) := by decide +kernel
theorem dX5_borne_92 : decode cX5_borne 92 = .ok (.goto (-62), 3) := by decide +kernel
theorem dX5_borne_95 : decode cX5_borne 95 = .ok (.iload_n 3, 1) := by decide +kernel
theorem dX5_borne_96 : decode cX5_borne 96 = .ok (.ireturn, 1) := by decide +kernel
theorem dX5_borne_97 : decode cX5_borne 97 = .ok (.iinc 2 1, 3) := by decide +kernel
theorem dX5_borne_100 : decode cX5_borne 100 = .ok (.goto (-98), 3) := by decide +kernel
theorem dX5_borne_103 : decode cX5_borne 103 = .ok (.iconst (-1), 1) := by decide +kernel
theorem dX5_borne_104 : decode cX5_borne 104 = .ok (.ireturn, 1) := by decide +kernel
theorem dX5_bears_0 : decode cX5_bears 0 = .ok (.aload_n 0, 1) := by decide +kernel
theorem dX5_bears_1 : decode cX5_bears 1 = .ok (.invokevirtual 158, 3) := by decide +kernel
theorem dX5_bears_4 : decode cX5_bears 4 = .ok (.ifCond .eq 19, 3) := by decide +kernel
theorem dX5_bears_7 : decode cX5_bears 7 = .ok (.aload_n 0, 1) := by decide +kernel
theorem dX5_bears_8 : decode cX5_bears 8 = .ok (.iload_n 1, 1) := by decide +kernel
theorem dX5_bears_9 : decode cX5_bears 9 = .ok (.invokevirtual 124, 3) := by decide +kernel
theorem dX5_bears_12 : decode cX5_bears 12 = .ok (.ifCond .eq 11, 3) := by decide +kernel
theorem dX5_bears_15 : decode cX5_bears 15 = .ok (.aload_n 0, 1) := by decide +kernel
theorem dX5_bears_16 : decode cX5_bears 16 = .ok (.iload_n 1, 1) := by decide +kernel
theorem dX5_bears_17 : decode cX5_bears 17 = .ok (.invokevirtual 165, 3) := by decide +kernel
theorem dX5_bears_20 : decode cX5_bears 20 = .ok (.goto 4, 3) := by decide +kernel
theorem dX5_bears_23 : decode cX5_bears 23 = .ok (.iconst (-1), 1) := by decide +kernel
theorem dX5_bears_24 : decode cX5_bears 24 = .ok (.ireturn, 1) := by decide +kernel
theorem dX5_cracked_0 : decode cX5_cracked 0 = .ok (.aload_n 0, 1) := by decide +kernel
theorem dX5_cracked_1 : decode cX5_cracked 1 = .ok (.invokevirtual 158, 3) := by decide +kernel
theorem dX5_cracked_4 : decode cX5_cracked 4 = .ok (.ifCond .ne 5, 3) := by decide +kernel
theorem dX5_cracked_7 : decode cX5_cracked 7 = .ok (.iconst 0, 1) := by decide +kernel
theorem dX5_cracked_8 : decode cX5_cracked 8 = .ok (.ireturn, 1) := by decide +kernel
theorem dX5_cracked_9 : decode cX5_cracked 9 = .ok (.iconst 0, 1) := by decide +kernel
theorem dX5_cracked_10 : decode cX5_cracked 10 = .ok (.istore_n 1, 1) := by decide +kernel
theorem dX5_cracked_11 : decode cX5_cracked 11 = .ok (.iconst 0, 1) := by decide +kernel
theorem dX5_cracked_12 : decode cX5_cracked 12 = .ok (.istore_n 2, 1) := by decide +kernel
theorem dX5_cracked_13 : decode cX5_cracked 13 = .ok (.iload_n 2, 1) := by decide +kernel
theorem dX5_cracked_14 : decode cX5_cracked 14 = .ok (.aload_n 0, 1) := by decide +kernel
theorem dX5_cracked_15 : decode cX5_cracked 15 = .ok (.getfield 99, 3) := by decide +kernel
theorem dX5_cracked_18 : decode cX5_cracked 18 = .ok (.if_icmp .ge 33, 3) := by decide +kernel
theorem dX5_cracked_21 : decode cX5_cracked 21 = .ok (.iload_n 1, 1) := by decide +kernel
theorem dX5_cracked_22 : decode cX5_cracked 22 = .ok (.aload_n 0, 1) := by decide +kernel
theorem dX5_cracked_23 : decode cX5_cracked 23 = .ok (.iload_n 2, 1) := by decide +kernel
theorem dX5_cracked_24 : decode cX5_cracked 24 = .ok (.invokevirtual 165, 3) := by decide +kernel
theorem dX5_cracked_27 : decode cX5_cracked 27 = .ok (.aload_n 0, 1) := by decide +kernel
theorem dX5_cracked_28 : decode cX5_cracked 28 = .ok (.getfield 47, 3) := by decide +kernel
theorem dX5_cracked_31 : decode cX5_cracked 31 = .ok (.iload_n 2, 1) := by decide +kernel
theorem dX5_cracked_32 : decode cX5_cracked 32 = .ok (.iaload, 1) := by decide +kernel
theorem dX5_cracked_33 : decode cX5_cracked 33 = .ok (.if_icmp .le 9, 3) := by decide +kernel
theorem dX5_cracked_36 : decode cX5_cracked 36 = .ok (.iconst 1, 1) := by decide +kernel
theorem dX5_cracked_37 : decode cX5_cracked 37 = .ok (.iload_n 2, 1) := by decide +kernel
theorem dX5_cracked_38 : decode cX5_cracked 38 = .ok (.ishl, 1) := by decide +kernel
theorem dX5_cracked_39 : decode cX5_cracked 39 = .ok (.goto 4, 3) := by decide +kernel
theorem dX5_cracked_42 : decode cX5_cracked 42 = .ok (.iconst 0, 1) := by decide +kernel
theorem dX5_cracked_43 : decode cX5_cracked 43 = .ok (.ior, 1) := by decide +kernel
theorem dX5_cracked_44 : decode cX5_cracked 44 = .ok (.istore_n 1, 1) := by decide +kernel
theorem dX5_cracked_45 : decode cX5_cracked 45 = .ok (.iinc 2 1, 3) := by decide +kernel
theorem dX5_cracked_48 : decode cX5_cracked 48 = .ok (.goto (-35), 3) := by decide +kernel
theorem dX5_cracked_51 : decode cX5_cracked 51 = .ok (.iload_n 1, 1) := by decide +kernel
theorem dX5_cracked_52 : decode cX5_cracked 52 = .ok (.ireturn, 1) := by decide +kernel
theorem dX5_isFull_0 : decode cX5_isFull 0 = .ok (.aload_n 0, 1) := by decide +kernel
theorem dX5_isFull_1 : decode cX5_isFull 1 = .ok (.getfield 89, 3) := by decide +kernel
theorem dX5_isFull_4 : decode cX5_isFull 4 = .ok (.iload_n 1, 1) := by decide +kernel
theorem dX5_isFull_5 : decode cX5_isFull 5 = .ok (.iaload, 1) := by decide +kernel
theorem dX5_isFull_6 : decode cX5_isFull 6 = .ok (.aload_n 0, 1) := by decide +kernel
theorem dX5_isFull_7 : decode cX5_isFull 7 = .ok (.getfield 59, 3) := by decide +kernel
theorem dX5_isFull_10 : decode cX5_isFull 10 = .ok (.iload_n 1, 1) := by decide +kernel
theorem dX5_isFull_11 : decode cX5_isFull 11 = .ok (.iaload, 1) := by decide +kernel
theorem dX5_isFull_12 : decode cX5_isFull 12 = .ok (.if_icmp .ne 7, 3) := by decide +kernel
theorem dX5_isFull_15 : decode cX5_isFull 15 = .ok (.iconst 1, 1) := by decide +kernel
theorem dX5_isFull_16 : decode cX5_isFull 16 = .ok (.goto 4, 3) := by decide +kernel
theorem dX5_isFull_19 : decode cX5_isFull 19 = .ok (.iconst 0, 1) := by decide +kernel
theorem dX5_isFull_20 : decode cX5_isFull 20 = .ok (.ireturn, 1) := by decide +kernel
theorem dX5_isLevel_0 : decode cX5_isLevel 0 = .ok (.aload_n 0, 1) := by decide +kernel
theorem dX5_isLevel_1 : decode cX5_isLevel 1 = .ok (.iload_n 1, 1) := by decide +kernel
theorem dX5_isLevel_2 : decode cX5_isLevel 2 = .ok (.invokevirtual 168, 3) := by decide +kernel
theorem dX5_isLevel_5 : decode cX5_isLevel 5 = .ok (.ifCond .eq 5, 3) := by decide +kernel
theorem dX5_isLevel_8 : decode cX5_isLevel 8 = .ok (.iconst 0, 1) := by decide +kernel
theorem dX5_isLevel_9 : decode cX5_isLevel 9 = .ok (.ireturn, 1) := by decide +kernel
theorem dX5_isLevel_10 : decode cX5_isLevel 10 = .ok (.iload_n 1, 1) := by decide +kernel
theorem dX5_isLevel_11 : decode cX5_isLevel 11 = .ok (.iconst 1, 1) := by decide +kernel
theorem dX5_isLevel_12 : decode cX5_isLevel 12 = .ok (.isub, 1) := by decide +kernel
theorem dX5_isLevel_13 : decode cX5_isLevel 13 = .ok (.istore_n 2, 1) := by decide +kernel
theorem dX5_isLevel_14 : decode cX5_isLevel 14 = .ok (.iload_n 2, 1) := by decide +kernel
theorem dX5_isLevel_15 : decode cX5_isLevel 15 = .ok (.iload_n 1, 1) := by decide +kernel
theorem dX5_isLevel_16 : decode cX5_isLevel 16 = .ok (.iconst 1, 1) := by decide +kernel
theorem dX5_isLevel_17 : decode cX5_isLevel 17 = .ok (.iadd, 1) := by decide +kernel
theorem dX5_isLevel_18 : decode cX5_isLevel 18 = .ok (.if_icmp .gt 49, 3) := by decide +kernel
theorem dX5_isLevel_21 : decode cX5_isLevel 21 = .ok (.aload_n 0, 1) := by decide +kernel
theorem dX5_isLevel_22 : decode cX5_isLevel 22 = .ok (.iload_n 2, 1) := by decide +kernel
theorem dX5_isLevel_23 : decode cX5_isLevel 23 = .ok (.invokevirtual 131, 3) := by decide +kernel
theorem dX5_isLevel_26 : decode cX5_isLevel 26 = .ok (.ifCond .eq 35, 3) := by decide +kernel
theorem dX5_isLevel_29 : decode cX5_isLevel 29 = .ok (.aload_n 0, 1) := by decide +kernel
theorem dX5_isLevel_30 : decode cX5_isLevel 30 = .ok (.iload_n 2, 1) := by decide +kernel
theorem dX5_isLevel_31 : decode cX5_isLevel 31 = .ok (.invokevirtual 168, 3) := by decide +kernel
theorem dX5_isLevel_34 : decode cX5_isLevel 34 = .ok (.ifCond .ne 27, 3) := by decide +kernel
theorem dX5_isLevel_37 : decode cX5_isLevel 37 = .ok (.aload_n 0, 1) := by decide +kernel
theorem dX5_isLevel_38 : decode cX5_isLevel 38 = .ok (.getfield 89, 3) := by decide +kernel
theorem dX5_isLevel_41 : decode cX5_isLevel 41 = .ok (.iload_n 1, 1) := by decide +kernel
theorem dX5_isLevel_42 : decode cX5_isLevel 42 = .ok (.iaload, 1) := by decide +kernel
theorem dX5_isLevel_43 : decode cX5_isLevel 43 = .ok (.iconst 1, 1) := by decide +kernel
theorem dX5_isLevel_44 : decode cX5_isLevel 44 = .ok (.iadd, 1) := by decide +kernel
theorem dX5_isLevel_45 : decode cX5_isLevel 45 = .ok (.aload_n 0, 1) := by decide +kernel
theorem dX5_isLevel_46 : decode cX5_isLevel 46 = .ok (.getfield 89, 3) := by decide +kernel
theorem dX5_isLevel_49 : decode cX5_isLevel 49 = .ok (.iload_n 2, 1) := by decide +kernel
theorem dX5_isLevel_50 : decode cX5_isLevel 50 = .ok (.iaload, 1) := by decide +kernel
theorem dX5_isLevel_51 : decode cX5_isLevel 51 = .ok (.isub, 1) := by decide +kernel
theorem dX5_isLevel_52 : decode cX5_isLevel 52 = .ok (.aload_n 0, 1) := by decide +kernel
theorem dX5_isLevel_53 : decode cX5_isLevel 53 = .ok (.getfield 16, 3) := by decide +kernel
theorem dX5_isLevel_56 : decode cX5_isLevel 56 = .ok (.if_icmp .le 5, 3) := by decide +kernel
theorem dX5_isLevel_59 : decode cX5_isLevel 59 = .ok (.iconst 0, 1) := by decide +kernel
theorem dX5_isLevel_60 : decode cX5_isLevel 60 = .ok (.ireturn, 1) := by decide +kernel
theorem dX5_isLevel_61 : decode cX5_isLevel 61 = .ok (.iinc 2 2, 3) := by decide +kernel
theorem dX5_isLevel_64 : decode cX5_isLevel 64 = .ok (.goto (-50), 3) := by decide +kernel
theorem dX5_isLevel_67 : decode cX5_isLevel 67 = .ok (.iconst 1, 1) := by decide +kernel
theorem dX5_isLevel_68 : decode cX5_isLevel 68 = .ok (.ireturn, 1) := by decide +kernel
theorem dX5_setting_0 : decode cX5_setting 0 = .ok (.aload_n 0, 1) := by decide +kernel
theorem dX5_setting_1 : decode cX5_setting 1 = .ok (.invokevirtual 158, 3) := by decide +kernel
theorem dX5_setting_4 : decode cX5_setting 4 = .ok (.ifCond .eq 15, 3) := by decide +kernel
theorem dX5_setting_7 : decode cX5_setting 7 = .ok (.iload_n 1, 1) := by decide +kernel
theorem dX5_setting_8 : decode cX5_setting 8 = .ok (.ifCond .lt 11, 3) := by decide +kernel
theorem dX5_setting_11 : decode cX5_setting 11 = .ok (.iload_n 1, 1) := by decide +kernel
theorem dX5_setting_12 : decode cX5_setting 12 = .ok (.aload_n 0, 1) := by decide +kernel
theorem dX5_setting_13 : decode cX5_setting 13 = .ok (.getfield 105, 3) := by decide +kernel
theorem dX5_setting_16 : decode cX5_setting 16 = .ok (.if_icmp .lt 5, 3) := by decide +kernel
theorem dX5_setting_19 : decode cX5_setting 19 = .ok (.iconst (-1), 1) := by decide +kernel
theorem dX5_setting_20 : decode cX5_setting 20 = .ok (.ireturn, 1) := by decide +kernel
theorem dX5_setting_21 : decode cX5_setting 21 = .ok (.iconst 0, 1) := by decide +kernel
theorem dX5_setting_22 : decode cX5_setting 22 = .ok (.istore_n 2, 1) := by decide +kernel
theorem dX5_setting_23 : decode cX5_setting 23 = .ok (.iload_n 2, 1) := by decide +kernel
theorem dX5_setting_24 : decode cX5_setting 24 = .ok (.aload_n 0, 1) := by decide +kernel
theorem dX5_setting_25 : decode cX5_setting 25 = .ok (.getfield 102, 3) := by decide +kernel
theorem dX5_setting_28 : decode cX5_setting 28 = .ok (.if_icmp .ge 16, 3) := by decide +kernel
theorem dX5_setting_31 : decode cX5_setting 31 = .ok (.aload_n 0, 1) := by decide +kernel
theorem dX5_setting_32 : decode cX5_setting 32 = .ok (.getfield 89, 3) := by decide +kernel
theorem dX5_setting_35 : decode cX5_setting 35 = .ok (.iload_n 2, 1) := by decide +kernel
theorem dX5_setting_36 : decode cX5_setting 36 = .ok (.iconst 0, 1) := by decide +kernel
theorem dX5_setting_37 : decode cX5_setting 37 = .ok (.iastore, 1) := by decide +kernel
theorem dX5_setting_38 : decode cX5_setting 38 = .ok (.iinc 2 1, 3) := by decide +kernel
theorem dX5_setting_41 : decode cX5_setting 41 = .ok (.goto (-18), 3) := by decide +kernel
theorem dX5_setting_44 : decode cX5_setting 44 = .ok (.iconst (-1), 1) := by decide +kernel
theorem dX5_setting_45 : decode cX5_setting 45 = .ok (.istore_n 2, 1) := by decide +kernel
theorem dX5_setting_46 : decode cX5_setting 46 = .ok (.iconst 0, 1) := by decide +kernel
theorem dX5_setting_47 : decode cX5_setting 47 = .ok (.istore_n 3, 1) := by decide +kernel
theorem dX5_setting_48 : decode cX5_setting 48 = .ok (.iload_n 3, 1) := by decide +kernel
theorem dX5_setting_49 : decode cX5_setting 49 = .ok (.iload_n 1, 1) := by decide +kernel
theorem dX5_setting_50 : decode cX5_setting 50 = .ok (.if_icmp .gt 176, 3) := by decide +kernel
theorem dX5_setting_53 : decode cX5_setting 53 = .ok (.iconst (-1), 1) := by decide +kernel
theorem dX5_setting_54 : decode cX5_setting 54 = .ok (.istore 4, 2) := by decide +kernel
theorem dX5_setting_56 : decode cX5_setting 56 = .ok (.aload_n 0, 1) := by decide +kernel
theorem dX5_setting_57 : decode cX5_setting 57 = .ok (.getfield 102, 3) := by decide +kernel
theorem dX5_setting_60 : decode cX5_setting 60 = .ok (.iconst 1, 1) := by decide +kernel
theorem dX5_setting_61 : decode cX5_setting 61 = .ok (.isub, 1) := by decide +kernel
theorem dX5_setting_62 : decode cX5_setting 62 = .ok (.istore 5, 2) := by decide +kernel
theorem dX5_setting_64 : decode cX5_setting 64 = .ok (.iload 5, 2) := by decide +kernel
theorem dX5_setting_66 : decode cX5_setting 66 = .ok (.ifCond .lt 22, 3) := by decide +kernel
theorem dX5_setting_69 : decode cX5_setting 69 = .ok (.aload_n 0, 1) := by decide +kernel
theorem dX5_setting_70 : decode cX5_setting 70 = .ok (.iload 5, 2) := by decide +kernel
theorem dX5_setting_72 : decode cX5_setting 72 = .ok (.invokevirtual 171, 3) := by decide +kernel
theorem dX5_setting_75 : decode cX5_setting 75 = .ok (.ifCond .eq 7, 3) := by decide +kernel
theorem dX5_setting_78 : decode cX5_setting 78 = .ok (.iload 5, 2) := by decide +kernel
theorem dX5_setting_80 : decode cX5_setting 80 = .ok (.istore 4, 2) := by decide +kernel
theorem dX5_setting_82 : decode cX5_setting 82 = .ok (.iinc 5 (-1), 3) := by decide +kernel
theorem dX5_setting_85 : decode cX5_setting 85 = .ok (.goto (-21), 3) := by decide +kernel
theorem dX5_setting_88 : decode cX5_setting 88 = .ok (.iconst 0, 1) := by decide +kernel
theorem dX5_setting_89 : decode cX5_setting 89 = .ok (.istore 5, 2) := by decide +kernel
theorem dX5_setting_91 : decode cX5_setting 91 = .ok (.iload 5, 2) := by decide +kernel
theorem dX5_setting_93 : decode cX5_setting 93 = .ok (.aload_n 0, 1) := by decide +kernel
theorem dX5_setting_94 : decode cX5_setting 94 = .ok (.getfield 102, 3) := by decide +kernel
theorem dX5_setting_97 : decode cX5_setting 97 = .ok (.if_icmp .ge 96, 3) := by decide +kernel
theorem dX5_setting_100 : decode cX5_setting 100 = .ok (.iload 4, 2) := by decide +kernel
theorem dX5_setting_102 : decode cX5_setting 102 = .ok (.iconst (-1), 1) := by decide +kernel
theorem dX5_setting_103 : decode cX5_setting 103 = .ok (.if_icmp .ne 90, 3) := by decide +kernel
theorem dX5_setting_106 : decode cX5_setting 106 = .ok (.aload_n 0, 1) := by decide +kernel
theorem dX5_setting_107 : decode cX5_setting 107 = .ok (.iload 5, 2) := by decide +kernel
theorem dX5_setting_109 : decode cX5_setting 109 = .ok (.invokevirtual 168, 3) := by decide +kernel
theorem dX5_setting_112 : decode cX5_setting 112 = .ok (.ifCond .ne 7, 3) := by decide +kernel
theorem dX5_setting_115 : decode cX5_setting 115 = .ok (.iconst 1, 1) := by decide +kernel
theorem dX5_setting_116 : decode cX5_setting 116 = .ok (.goto 4, 3) := by decide +kernel
theorem dX5_setting_119 : decode cX5_setting 119 = .ok (.iconst 0, 1) := by decide +kernel
theorem dX5_setting_120 : decode cX5_setting 120 = .ok (.istore 6, 2) := by decide +kernel
theorem dX5_setting_122 : decode cX5_setting 122 = .ok (.iconst 0, 1) := by decide +kernel
theorem dX5_setting_123 : decode cX5_setting 123 = .ok (.istore 7, 2) := by decide +kernel
theorem dX5_setting_125 : decode cX5_setting 125 = .ok (.iload 7, 2) := by decide +kernel
theorem dX5_setting_127 : decode cX5_setting 127 = .ok (.aload_n 0, 1) := by decide +kernel
theorem dX5_setting_128 : decode cX5_setting 128 = .ok (.getfield 102, 3) := by decide +kernel
theorem dX5_setting_131 : decode cX5_setting 131 = .ok (.if_icmp .ge 47, 3) := by decide +kernel
theorem dX5_setting_134 : decode cX5_setting 134 = .ok (.iload 6, 2) := by decide +kernel
theorem dX5_setting_136 : decode cX5_setting 136 = .ok (.ifCond .eq 33, 3) := by decide +kernel
theorem dX5_setting_139 : decode cX5_setting 139 = .ok (.aload_n 0, 1) := by decide +kernel
theorem dX5_setting_140 : decode cX5_setting 140 = .ok (.iload 7, 2) := by decide +kernel
theorem dX5_setting_142 : decode cX5_setting 142 = .ok (.invokevirtual 168, 3) := by decide +kernel
theorem dX5_setting_145 : decode cX5_setting 145 = .ok (.ifCond .ne 20, 3) := by decide +kernel
theorem dX5_setting_148 : decode cX5_setting 148 = .ok (.aload_n 0, 1) := by decide +kernel
theorem dX5_setting_149 : decode cX5_setting 149 = .ok (.getfield 89, 3) := by decide +kernel
theorem dX5_setting_152 : decode cX5_setting 152 = .ok (.iload 5, 2) := by decide +kernel
theorem dX5_setting_154 : decode cX5_setting 154 = .ok (.iaload, 1) := by decide +kernel
theorem dX5_setting_155 : decode cX5_setting 155 = .ok (.aload_n 0, 1) := by decide +kernel
theorem dX5_setting_156 : decode cX5_setting 156 = .ok (.getfield 89, 3) := by decide +kernel
theorem dX5_setting_159 : decode cX5_setting 159 = .ok (.iload 7, 2) := by decide +kernel
theorem dX5_setting_161 : decode cX5_setting 161 = .ok (.iaload, 1) := by decide +kernel
theorem dX5_setting_162 : decode cX5_setting 162 = .ok (.if_icmp .gt 7, 3) := by decide +kernel
theorem dX5_setting_165 : decode cX5_setting 165 = .ok (.iconst 1, 1) := by decide +kernel
theorem dX5_setting_166 : decode cX5_setting 166 = .ok (.goto 4, 3) := by decide +kernel
theorem dX5_setting_169 : decode cX5_setting 169 = .ok (.iconst 0, 1) := by decide +kernel
theorem dX5_setting_170 : decode cX5_setting 170 = .ok (.istore 6, 2) := by decide +kernel
theorem dX5_setting_172 : decode cX5_setting 172 = .ok (.iinc 7 1, 3) := by decide +kernel
theorem dX5_setting_175 : decode cX5_setting 175 = .ok (.goto (-50), 3) := by decide +kernel
theorem dX5_setting_178 : decode cX5_setting 178 = .ok (.iload 6, 2) := by decide +kernel
theorem dX5_setting_180 : decode cX5_setting 180 = .ok (.ifCond .eq 7, 3) := by decide +kernel
theorem dX5_setting_183 : decode cX5_setting 183 = .ok (.iload 5, 2) := by decide +kernel
theorem dX5_setting_185 : decode cX5_setting 185 = .ok (.istore 4, 2) := by decide +kernel
theorem dX5_setting_187 : decode cX5_setting 187 = .ok (.iinc 5 1, 3) := by decide +kernel
theorem dX5_setting_190 : decode cX5_setting 190 = .ok (.goto (-99), 3) := by decide +kernel
theorem dX5_setting_193 : decode cX5_setting 193 = .ok (.aload_n 0, 1) := by decide +kernel
theorem dX5_setting_194 : decode cX5_setting 194 = .ok (.getfield 56, 3) := by decide +kernel
theorem dX5_setting_197 : decode cX5_setting 197 = .ok (.iload 4, 2) := by decide +kernel
theorem dX5_setting_199 : decode cX5_setting 199 = .ok (.iaload, 1) := by decide +kernel
theorem dX5_setting_200 : decode cX5_setting 200 = .ok (.aload_n 0, 1) := by decide +kernel
theorem dX5_setting_201 : decode cX5_setting 201 = .ok (.getfield 89, 3) := by decide +kernel
theorem dX5_setting_204 : decode cX5_setting 204 = .ok (.iload 4, 2) := by decide +kernel
theorem dX5_setting_206 : decode cX5_setting 206 = .ok (.iaload, 1) := by decide +kernel
theorem dX5_setting_207 : decode cX5_setting 207 = .ok (.iadd, 1) := by decide +kernel
theorem dX5_setting_208 : decode cX5_setting 208 = .ok (.istore_n 2, 1) := by decide +kernel
theorem dX5_setting_209 : decode cX5_setting 209 = .ok (.aload_n 0, 1) := by decide +kernel
theorem dX5_setting_210 : decode cX5_setting 210 = .ok (.getfield 89, 3) := by decide +kernel
theorem dX5_setting_213 : decode cX5_setting 213 = .ok (.iload 4, 2) := by decide +kernel
theorem dX5_setting_215 : decode cX5_setting 215 = .ok (.dup2, 1) := by decide +kernel
theorem dX5_setting_216 : decode cX5_setting 216 = .ok (.iaload, 1) := by decide +kernel
theorem dX5_setting_217 : decode cX5_setting 217 = .ok (.iconst 1, 1) := by decide +kernel
theorem dX5_setting_218 : decode cX5_setting 218 = .ok (.iadd, 1) := by decide +kernel
theorem dX5_setting_219 : decode cX5_setting 219 = .ok (.iastore, 1) := by decide +kernel
theorem dX5_setting_220 : decode cX5_setting 220 = .ok (.iinc 3 1, 3) := by decide +kernel
theorem dX5_setting_223 : decode cX5_setting 223 = .ok (.goto (-175), 3) := by decide +kernel
theorem dX5_setting_226 : decode cX5_setting 226 = .ok (.iload_n 2, 1) := by decide +kernel
theorem dX5_setting_227 : decode cX5_setting 227 = .ok (.ireturn, 1) := by decide +kernel
theorem dX5_tall_0 : decode cX5_tall 0 = .ok (.aload_n 0, 1) := by decide +kernel
theorem dX5_tall_1 : decode cX5_tall 1 = .ok (.invokevirtual 158, 3) := by decide +kernel
theorem dX5_tall_4 : decode cX5_tall 4 = .ok (.ifCond .eq 11, 3) := by decide +kernel
theorem dX5_tall_7 : decode cX5_tall 7 = .ok (.aload_n 0, 1) := by decide +kernel
theorem dX5_tall_8 : decode cX5_tall 8 = .ok (.iload_n 1, 1) := by decide +kernel
theorem dX5_tall_9 : decode cX5_tall 9 = .ok (.invokevirtual 131, 3) := by decide +kernel
theorem dX5_tall_12 : decode cX5_tall 12 = .ok (.ifCond .ne 5, 3) := by decide +kernel
theorem dX5_tall_15 : decode cX5_tall 15 = .ok (.iconst (-1), 1) := by decide +kernel
theorem dX5_tall_16 : decode cX5_tall 16 = .ok (.ireturn, 1) := by decide +kernel
theorem dX5_tall_17 : decode cX5_tall 17 = .ok (.iconst 0, 1) := by decide +kernel
theorem dX5_tall_18 : decode cX5_tall 18 = .ok (.istore_n 2, 1) := by decide +kernel
theorem dX5_tall_19 : decode cX5_tall 19 = .ok (.iconst 0, 1) := by decide +kernel
theorem dX5_tall_20 : decode cX5_tall 20 = .ok (.istore_n 3, 1) := by decide +kernel
theorem dX5_tall_21 : decode cX5_tall 21 = .ok (.iload_n 3, 1) := by decide +kernel
theorem dX5_tall_22 : decode cX5_tall 22 = .ok (.aload_n 0, 1) := by decide +kernel
theorem dX5_tall_23 : decode cX5_tall 23 = .ok (.getfield 99, 3) := by decide +kernel
theorem dX5_tall_26 : decode cX5_tall 26 = .ok (.if_icmp .ge 18, 3) := by decide +kernel
theorem dX5_tall_29 : decode cX5_tall 29 = .ok (.iload_n 2, 1) := by decide +kernel
theorem dX5_tall_30 : decode cX5_tall 30 = .ok (.aload_n 0, 1) := by decide +kernel
theorem dX5_tall_31 : decode cX5_tall 31 = .ok (.getfield 32, 3) := by decide +kernel
theorem dX5_tall_34 : decode cX5_tall 34 = .ok (.iload_n 3, 1) := by decide +kernel
theorem dX5_tall_35 : decode cX5_tall 35 = .ok (.iaload, 1) := by decide +kernel
theorem dX5_tall_36 : decode cX5_tall 36 = .ok (.iadd, 1) := by decide +kernel
theorem dX5_tall_37 : decode cX5_tall 37 = .ok (.istore_n 2, 1) := by decide +kernel
theorem dX5_tall_38 : decode cX5_tall 38 = .ok (.iinc 3 1, 3) := by decide +kernel
theorem dX5_tall_41 : decode cX5_tall 41 = .ok (.goto (-20), 3) := by decide +kernel
theorem dX5_tall_44 : decode cX5_tall 44 = .ok (.aload_n 0, 1) := by decide +kernel
theorem dX5_tall_45 : decode cX5_tall 45 = .ok (.getfield 99, 3) := by decide +kernel
theorem dX5_tall_48 : decode cX5_tall 48 = .ok (.ifCond .ne 7, 3) := by decide +kernel
theorem dX5_tall_51 : decode cX5_tall 51 = .ok (.iconst 0, 1) := by decide +kernel
theorem dX5_tall_52 : decode cX5_tall 52 = .ok (.goto 9, 3) := by decide +kernel
theorem dX5_tall_55 : decode cX5_tall 55 = .ok (.iload_n 2, 1) := by decide +kernel
theorem dX5_tall_56 : decode cX5_tall 56 = .ok (.aload_n 0, 1) := by decide +kernel
theorem dX5_tall_57 : decode cX5_tall 57 = .ok (.getfield 99, 3) := by decide +kernel
theorem dX5_tall_60 : decode cX5_tall 60 = .ok (.idiv, 1) := by decide +kernel
theorem dX5_tall_61 : decode cX5_tall 61 = .ok (.istore_n 3, 1) := by decide +kernel
theorem dX5_tall_62 : decode cX5_tall 62 = .ok (.iconst 0, 1) := by decide +kernel
theorem dX5_tall_63 : decode cX5_tall 63 = .ok (.istore 4, 2) := by decide +kernel
theorem dX5_tall_65 : decode cX5_tall 65 = .ok (.iconst 0, 1) := by decide +kernel
theorem dX5_tall_66 : decode cX5_tall 66 = .ok (.istore 5, 2) := by decide +kernel
theorem dX5_tall_68 : decode cX5_tall 68 = .ok (.iload 5, 2) := by decide +kernel
theorem dX5_tall_70 : decode cX5_tall 70 = .ok (.aload_n 0, 1) := by decide +kernel
theorem dX5_tall_71 : decode cX5_tall 71 = .ok (.getfield 105, 3) := by decide +kernel
theorem dX5_tall_74 : decode cX5_tall 74 = .ok (.if_icmp .ge 53, 3) := by decide +kernel
theorem dX5_tall_77 : decode cX5_tall 77 = .ok (.aload_n 0, 1) := by decide +kernel
theorem dX5_tall_78 : decode cX5_tall 78 = .ok (.getfield 62, 3) := by decide +kernel
theorem dX5_tall_81 : decode cX5_tall 81 = .ok (.iload 5, 2) := by decide +kernel
theorem dX5_tall_83 : decode cX5_tall 83 = .ok (.iaload, 1) := by decide +kernel
theorem dX5_tall_84 : decode cX5_tall 84 = .ok (.iload_n 1, 1) := by decide +kernel
theorem dX5_tall_85 : decode cX5_tall 85 = .ok (.if_icmp .ne 36, 3) := by decide +kernel
theorem dX5_tall_88 : decode cX5_tall 88 = .ok (.iload 4, 2) := by decide +kernel
theorem dX5_tall_90 : decode cX5_tall 90 = .ok (.aload_n 0, 1) := by decide +kernel
theorem dX5_tall_91 : decode cX5_tall 91 = .ok (.getfield 86, 3) := by decide +kernel
theorem dX5_tall_94 : decode cX5_tall 94 = .ok (.iload 5, 2) := by decide +kernel
theorem dX5_tall_96 : decode cX5_tall 96 = .ok (.iaload, 1) := by decide +kernel
theorem dX5_tall_97 : decode cX5_tall 97 = .ok (.bipush 10, 2) := by decide +kernel
theorem dX5_tall_99 : decode cX5_tall 99 = .ok (.if_icmp .ne 7, 3) := by decide +kernel
theorem dX5_tall_102 : decode cX5_tall 102 = .ok (.iload_n 3, 1) := by decide +kernel
theorem dX5_tall_103 : decode cX5_tall 103 = .ok (.goto 15, 3) := by decide +kernel
theorem dX5_tall_106 : decode cX5_tall 106 = .ok (.aload_n 0, 1) := by decide +kernel
theorem dX5_tall_107 : decode cX5_tall 107 = .ok (.getfield 32, 3) := by decide +kernel
theorem dX5_tall_110 : decode cX5_tall 110 = .ok (.aload_n 0, 1) := by decide +kernel
theorem dX5_tall_111 : decode cX5_tall 111 = .ok (.getfield 86, 3) := by decide +kernel
theorem dX5_tall_114 : decode cX5_tall 114 = .ok (.iload 5, 2) := by decide +kernel
theorem dX5_tall_116 : decode cX5_tall 116 = .ok (.iaload, 1) := by decide +kernel
theorem dX5_tall_117 : decode cX5_tall 117 = .ok (.iaload, 1) := by decide +kernel
theorem dX5_tall_118 : decode cX5_tall 118 = .ok (.iadd, 1) := by decide +kernel
theorem dX5_tall_119 : decode cX5_tall 119 = .ok (.istore 4, 2) := by decide +kernel
theorem dX5_tall_121 : decode cX5_tall 121 = .ok (.iinc 5 1, 3) := by decide +kernel
theorem dX5_tall_124 : decode cX5_tall 124 = .ok (.goto (-56), 3) := by decide +kernel
theorem dX5_tall_127 : decode cX5_tall 127 = .ok (.iload 4, 2) := by decide +kernel
theorem dX5_tall_129 : decode cX5_tall 129 = .ok (.ireturn, 1) := by decide +kernel
theorem dX5_told_0 : decode cX5_told 0 = .ok (.aload_n 0, 1) := by decide +kernel
theorem dX5_told_1 : decode cX5_told 1 = .ok (.aload_n 0, 1) := by decide +kernel
theorem dX5_told_2 : decode cX5_told 2 = .ok (.iload_n 1, 1) := by decide +kernel
theorem dX5_told_3 : decode cX5_told 3 = .ok (.invokevirtual 124, 3) := by decide +kernel
theorem dX5_told_6 : decode cX5_told 6 = .ok (.ifCond .eq 17, 3) := by decide +kernel
theorem dX5_told_9 : decode cX5_told 9 = .ok (.iload_n 2, 1) := by decide +kernel
theorem dX5_told_10 : decode cX5_told 10 = .ok (.iconst 0, 1) := by decide +kernel
theorem dX5_told_11 : decode cX5_told 11 = .ok (.bipush 8, 2) := by decide +kernel
theorem dX5_told_13 : decode cX5_told 13 = .ok (.invokestatic 95, 3) := by decide +kernel
theorem dX5_told_16 : decode cX5_told 16 = .ok (.ifCond .eq 7, 3) := by decide +kernel
theorem dX5_told_19 : decode cX5_told 19 = .ok (.iconst 0, 1) := by decide +kernel
theorem dX5_told_20 : decode cX5_told 20 = .ok (.goto 4, 3) := by decide +kernel
theorem dX5_told_23 : decode cX5_told 23 = .ok (.iconst 1, 1) := by decide +kernel
theorem dX5_told_24 : decode cX5_told 24 = .ok (.putfield 92, 3) := by decide +kernel
theorem dX5_told_27 : decode cX5_told 27 = .ok (.aload_n 0, 1) := by decide +kernel
theorem dX5_told_28 : decode cX5_told 28 = .ok (.getfield 92, 3) := by decide +kernel
theorem dX5_told_31 : decode cX5_told 31 = .ok (.ifCond .le 5, 3) := by decide +kernel
theorem dX5_told_34 : decode cX5_told 34 = .ok (.iconst 0, 1) := by decide +kernel
theorem dX5_told_35 : decode cX5_told 35 = .ok (.ireturn, 1) := by decide +kernel
theorem dX5_told_36 : decode cX5_told 36 = .ok (.iload_n 2, 1) := by decide +kernel
theorem dX5_told_37 : decode cX5_told 37 = .ok (.tableswitch 103 0 7 #[47, 54, 61, 68, 75, 82, 89, 96], 47) := by decide +kernel
theorem dX5_told_84 : decode cX5_told 84 = .ok (.aload_n 0, 1) := by decide +kernel
theorem dX5_told_85 : decode cX5_told 85 = .ok (.getfield 23, 3) := by decide +kernel
theorem dX5_told_88 : decode cX5_told 88 = .ok (.iload_n 1, 1) := by decide +kernel
theorem dX5_told_89 : decode cX5_told 89 = .ok (.iaload, 1) := by decide +kernel
theorem dX5_told_90 : decode cX5_told 90 = .ok (.ireturn, 1) := by decide +kernel
theorem dX5_told_91 : decode cX5_told 91 = .ok (.aload_n 0, 1) := by decide +kernel
theorem dX5_told_92 : decode cX5_told 92 = .ok (.getfield 26, 3) := by decide +kernel
theorem dX5_told_95 : decode cX5_told 95 = .ok (.iload_n 1, 1) := by decide +kernel
theorem dX5_told_96 : decode cX5_told 96 = .ok (.iaload, 1) := by decide +kernel
theorem dX5_told_97 : decode cX5_told 97 = .ok (.ireturn, 1) := by decide +kernel
theorem dX5_told_98 : decode cX5_told 98 = .ok (.aload_n 0, 1) := by decide +kernel
theorem dX5_told_99 : decode cX5_told 99 = .ok (.getfield 29, 3) := by decide +kernel
theorem dX5_told_102 : decode cX5_told 102 = .ok (.iload_n 1, 1) := by decide +kernel
theorem dX5_told_103 : decode cX5_told 103 = .ok (.iaload, 1) := by decide +kernel
theorem dX5_told_104 : decode cX5_told 104 = .ok (.ireturn, 1) := by decide +kernel
theorem dX5_told_105 : decode cX5_told 105 = .ok (.aload_n 0, 1) := by decide +kernel
theorem dX5_told_106 : decode cX5_told 106 = .ok (.getfield 32, 3) := by decide +kernel
theorem dX5_told_109 : decode cX5_told 109 = .ok (.iload_n 1, 1) := by decide +kernel
theorem dX5_told_110 : decode cX5_told 110 = .ok (.iaload, 1) := by decide +kernel
theorem dX5_told_111 : decode cX5_told 111 = .ok (.ireturn, 1) := by decide +kernel
theorem dX5_told_112 : decode cX5_told 112 = .ok (.aload_n 0, 1) := by decide +kernel
theorem dX5_told_113 : decode cX5_told 113 = .ok (.getfield 35, 3) := by decide +kernel
theorem dX5_told_116 : decode cX5_told 116 = .ok (.iload_n 1, 1) := by decide +kernel
theorem dX5_told_117 : decode cX5_told 117 = .ok (.iaload, 1) := by decide +kernel
theorem dX5_told_118 : decode cX5_told 118 = .ok (.ireturn, 1) := by decide +kernel
theorem dX5_told_119 : decode cX5_told 119 = .ok (.aload_n 0, 1) := by decide +kernel
theorem dX5_told_120 : decode cX5_told 120 = .ok (.getfield 38, 3) := by decide +kernel
theorem dX5_told_123 : decode cX5_told 123 = .ok (.iload_n 1, 1) := by decide +kernel
theorem dX5_told_124 : decode cX5_told 124 = .ok (.iaload, 1) := by decide +kernel
theorem dX5_told_125 : decode cX5_told 125 = .ok (.ireturn, 1) := by decide +kernel
theorem dX5_told_126 : decode cX5_told 126 = .ok (.aload_n 0, 1) := by decide +kernel
theorem dX5_told_127 : decode cX5_told 127 = .ok (.getfield 41, 3) := by decide +kernel
theorem dX5_told_130 : decode cX5_told 130 = .ok (.iload_n 1, 1) := by decide +kernel
theorem dX5_told_131 : decode cX5_told 131 = .ok (.iaload, 1) := by decide +kernel
theorem dX5_told_132 : decode cX5_told 132 = .ok (.ireturn, 1) := by decide +kernel
theorem dX5_told_133 : decode cX5_told 133 = .ok (.aload_n 0, 1) := by decide +kernel
theorem dX5_told_134 : decode cX5_told 134 = .ok (.getfield 44, 3) := by decide +kernel
theorem dX5_told_137 : decode cX5_told 137 = .ok (.iload_n 1, 1) := by decide +kernel
theorem dX5_told_138 : decode cX5_told 138 = .ok (.iaload, 1) := by decide +kernel
theorem dX5_told_139 : decode cX5_told 139 = .ok (.ireturn, 1) := by decide +kernel
theorem dX5_told_140 : decode cX5_told 140 = .ok (.aload_n 0, 1) := by decide +kernel
theorem dX5_told_141 : decode cX5_told 141 = .ok (.getfield 47, 3) := by decide +kernel
theorem dX5_told_144 : decode cX5_told 144 = .ok (.iload_n 1, 1) := by decide +kernel
theorem dX5_told_145 : decode cX5_told 145 = .ok (.iaload, 1) := by decide +kernel
theorem dX5_told_146 : decode cX5_told 146 = .ok (.ireturn, 1) := by decide +kernel
theorem dX5_place_0 : decode cX5_place 0 = .ok (.aload_n 0, 1) := by decide +kernel
theorem dX5_place_1 : decode cX5_place 1 = .ok (.iconst 0, 1) := by decide +kernel
theorem dX5_place_2 : decode cX5_place 2 = .ok (.putfield 92, 3) := by decide +kernel
theorem dX5_place_5 : decode cX5_place 5 = .ok (.aload_n 0, 1) := by decide +kernel
theorem dX5_place_6 : decode cX5_place 6 = .ok (.iload_n 1, 1) := by decide +kernel
theorem dX5_place_7 : decode cX5_place 7 = .ok (.invokevirtual 141, 3) := by decide +kernel
theorem dX5_place_10 : decode cX5_place 10 = .ok (.ifCond .ne 5, 3) := by decide +kernel
theorem dX5_place_13 : decode cX5_place 13 = .ok (.iconst (-1), 1) := by decide +kernel
theorem dX5_place_14 : decode cX5_place 14 = .ok (.ireturn, 1) := by decide +kernel
theorem dX5_place_15 : decode cX5_place 15 = .ok (.iload_n 2, 1) := by decide +kernel
theorem dX5_place_16 : decode cX5_place 16 = .ok (.ifCond .ne 12, 3) := by decide +kernel
theorem dX5_place_19 : decode cX5_place 19 = .ok (.aload_n 0, 1) := by decide +kernel
theorem dX5_place_20 : decode cX5_place 20 = .ok (.getfield 62, 3) := by decide +kernel
theorem dX5_place_23 : decode cX5_place 23 = .ok (.iload_n 1, 1) := by decide +kernel
theorem dX5_place_24 : decode cX5_place 24 = .ok (.iaload, 1) := by decide +kernel
theorem dX5_place_25 : decode cX5_place 25 = .ok (.goto 39, 3) := by decide +kernel
theorem dX5_place_28 : decode cX5_place 28 = .ok (.iload_n 2, 1) := by decide +kernel
theorem dX5_place_29 : decode cX5_place 29 = .ok (.iconst 1, 1) := by decide +kernel
theorem dX5_place_30 : decode cX5_place 30 = .ok (.if_icmp .ne 19, 3) := by decide +kernel
theorem dX5_place_33 : decode cX5_place 33 = .ok (.iload_n 1, 1) := by decide +kernel
theorem dX5_place_34 : decode cX5_place 34 = .ok (.aload_n 0, 1) := by decide +kernel
theorem dX5_place_35 : decode cX5_place 35 = .ok (.getfield 56, 3) := by decide +kernel
theorem dX5_place_38 : decode cX5_place 38 = .ok (.aload_n 0, 1) := by decide +kernel
theorem dX5_place_39 : decode cX5_place 39 = .ok (.getfield 62, 3) := by decide +kernel
theorem dX5_place_42 : decode cX5_place 42 = .ok (.iload_n 1, 1) := by decide +kernel
theorem dX5_place_43 : decode cX5_place 43 = .ok (.iaload, 1) := by decide +kernel
theorem dX5_place_44 : decode cX5_place 44 = .ok (.iaload, 1) := by decide +kernel
theorem dX5_place_45 : decode cX5_place 45 = .ok (.isub, 1) := by decide +kernel
theorem dX5_place_46 : decode cX5_place 46 = .ok (.goto 18, 3) := by decide +kernel
theorem dX5_place_49 : decode cX5_place 49 = .ok (.iload_n 2, 1) := by decide +kernel
theorem dX5_place_50 : decode cX5_place 50 = .ok (.iconst 2, 1) := by decide +kernel
theorem dX5_place_51 : decode cX5_place 51 = .ok (.if_icmp .ne 12, 3) := by decide +kernel
theorem dX5_place_54 : decode cX5_place 54 = .ok (.aload_n 0, 1) := by decide +kernel
theorem dX5_place_55 : decode cX5_place 55 = .ok (.getfield 65, 3) := by decide +kernel
theorem dX5_place_58 : decode cX5_place 58 = .ok (.iload_n 1, 1) := by decide +kernel
theorem dX5_place_59 : decode cX5_place 59 = .ok (.iaload, 1) := by decide +kernel
theorem dX5_place_60 : decode cX5_place 60 = .ok (.goto 4, 3) := by decide +kernel
theorem dX5_place_63 : decode cX5_place 63 = .ok (.iconst (-1), 1) := by decide +kernel
theorem dX5_place_64 : decode cX5_place 64 = .ok (.ireturn, 1) := by decide +kernel
theorem dX5_count_0 : decode cX5_count 0 = .ok (.aload_n 0, 1) := by decide +kernel
theorem dX5_count_1 : decode cX5_count 1 = .ok (.iconst 0, 1) := by decide +kernel
theorem dX5_count_2 : decode cX5_count 2 = .ok (.putfield 92, 3) := by decide +kernel
theorem dX5_count_5 : decode cX5_count 5 = .ok (.iconst 0, 1) := by decide +kernel
theorem dX5_count_6 : decode cX5_count 6 = .ok (.istore_n 2, 1) := by decide +kernel
theorem dX5_count_7 : decode cX5_count 7 = .ok (.iload_n 1, 1) := by decide +kernel
theorem dX5_count_8 : decode cX5_count 8 = .ok (.tableswitch 148 0 4 #[36, 41, 46, 51, 112], 36) := by decide +kernel
theorem dX5_count_44 : decode cX5_count 44 = .ok (.aload_n 0, 1) := by decide +kernel
theorem dX5_count_45 : decode cX5_count 45 = .ok (.getfield 99, 3) := by decide +kernel
theorem dX5_count_48 : decode cX5_count 48 = .ok (.ireturn, 1) := by decide +kernel
theorem dX5_count_49 : decode cX5_count 49 = .ok (.aload_n 0, 1) := by decide +kernel
theorem dX5_count_50 : decode cX5_count 50 = .ok (.getfield 102, 3) := by decide +kernel
theorem dX5_count_53 : decode cX5_count 53 = .ok (.ireturn, 1) := by decide +kernel
theorem dX5_count_54 : decode cX5_count 54 = .ok (.aload_n 0, 1) := by decide +kernel
theorem dX5_count_55 : decode cX5_count 55 = .ok (.getfield 105, 3) := by decide +kernel
theorem dX5_count_58 : decode cX5_count 58 = .ok (.ireturn, 1) := by decide +kernel
theorem dX5_count_59 : decode cX5_count 59 = .ok (.iconst 0, 1) := by decide +kernel
theorem dX5_count_60 : decode cX5_count 60 = .ok (.istore_n 3, 1) := by decide +kernel
theorem dX5_count_61 : decode cX5_count 61 = .ok (.iload_n 3, 1) := by decide +kernel
theorem dX5_count_62 : decode cX5_count 62 = .ok (.aload_n 0, 1) := by decide +kernel
theorem dX5_count_63 : decode cX5_count 63 = .ok (.getfield 99, 3) := by decide +kernel
theorem dX5_count_66 : decode cX5_count 66 = .ok (.if_icmp .ge 52, 3) := by decide +kernel
theorem dX5_count_69 : decode cX5_count 69 = .ok (.iconst 0, 1) := by decide +kernel
theorem dX5_count_70 : decode cX5_count 70 = .ok (.istore 4, 2) := by decide +kernel
theorem dX5_count_72 : decode cX5_count 72 = .ok (.iload 4, 2) := by decide +kernel
theorem dX5_count_74 : decode cX5_count 74 = .ok (.aload_n 0, 1) := by decide +kernel
theorem dX5_count_75 : decode cX5_count 75 = .ok (.getfield 99, 3) := by decide +kernel
theorem dX5_count_78 : decode cX5_count 78 = .ok (.if_icmp .ge 34, 3) := by decide +kernel
theorem dX5_count_81 : decode cX5_count 81 = .ok (.iload_n 2, 1) := by decide +kernel
theorem dX5_count_82 : decode cX5_count 82 = .ok (.iload_n 3, 1) := by decide +kernel
theorem dX5_count_83 : decode cX5_count 83 = .ok (.iload 4, 2) := by decide +kernel
theorem dX5_count_85 : decode cX5_count 85 = .ok (.if_icmp .eq 18, 3) := by decide +kernel
theorem dX5_count_88 : decode cX5_count 88 = .ok (.aload_n 0, 1) := by decide +kernel
theorem dX5_count_89 : decode cX5_count 89 = .ok (.iload_n 3, 1) := by decide +kernel
theorem dX5_count_90 : decode cX5_count 90 = .ok (.iload 4, 2) := by decide +kernel
theorem dX5_count_92 : decode cX5_count 92 = .ok (.invokevirtual 127, 3) := by decide +kernel
theorem dX5_count_95 : decode cX5_count 95 = .ok (.iconst (-1), 1) := by decide +kernel
theorem dX5_count_96 : decode cX5_count 96 = .ok (.if_icmp .eq 7, 3) := by decide +kernel
theorem dX5_count_99 : decode cX5_count 99 = .ok (.iconst 1, 1) := by decide +kernel
theorem dX5_count_100 : decode cX5_count 100 = .ok (.goto 4, 3) := by decide +kernel
theorem dX5_count_103 : decode cX5_count 103 = .ok (.iconst 0, 1) := by decide +kernel
theorem dX5_count_104 : decode cX5_count 104 = .ok (.iadd, 1) := by decide +kernel
theorem dX5_count_105 : decode cX5_count 105 = .ok (.istore_n 2, 1) := by decide +kernel
theorem dX5_count_106 : decode cX5_count 106 = .ok (.iinc 4 1, 3) := by decide +kernel
theorem dX5_count_109 : decode cX5_count 109 = .ok (.goto (-37), 3) := by decide +kernel
theorem dX5_count_112 : decode cX5_count 112 = .ok (.iinc 3 1, 3) := by decide +kernel
theorem dX5_count_115 : decode cX5_count 115 = .ok (.goto (-54), 3) := by decide +kernel
theorem dX5_count_118 : decode cX5_count 118 = .ok (.iload_n 2, 1) := by decide +kernel
theorem dX5_count_119 : decode cX5_count 119 = .ok (.ireturn, 1) := by decide +kernel
theorem dX5_count_120 : decode cX5_count 120 = .ok (.iconst 0, 1) := by decide +kernel
theorem dX5_count_121 : decode cX5_count 121 = .ok (.istore_n 3, 1) := by decide +kernel
theorem dX5_count_122 : decode cX5_count 122 = .ok (.iload_n 3, 1) := by decide +kernel
theorem dX5_count_123 : decode cX5_count 123 = .ok (.aload_n 0, 1) := by decide +kernel
theorem dX5_count_124 : decode cX5_count 124 = .ok (.getfield 105, 3) := by decide +kernel
theorem dX5_count_127 : decode cX5_count 127 = .ok (.if_icmp .ge 27, 3) := by decide +kernel
theorem dX5_count_130 : decode cX5_count 130 = .ok (.iload_n 2, 1) := by decide +kernel
theorem dX5_count_131 : decode cX5_count 131 = .ok (.aload_n 0, 1) := by decide +kernel
theorem dX5_count_132 : decode cX5_count 132 = .ok (.getfield 65, 3) := by decide +kernel
theorem dX5_count_135 : decode cX5_count 135 = .ok (.iload_n 3, 1) := by decide +kernel
theorem dX5_count_136 : decode cX5_count 136 = .ok (.iaload, 1) := by decide +kernel
theorem dX5_count_137 : decode cX5_count 137 = .ok (.iconst (-1), 1) := by decide +kernel
theorem dX5_count_138 : decode cX5_count 138 = .ok (.if_icmp .eq 7, 3) := by decide +kernel
theorem dX5_count_141 : decode cX5_count 141 = .ok (.iconst 1, 1) := by decide +kernel
theorem dX5_count_142 : decode cX5_count 142 = .ok (.goto 4, 3) := by decide +kernel
theorem dX5_count_145 : decode cX5_count 145 = .ok (.iconst 0, 1) := by decide +kernel
theorem dX5_count_146 : decode cX5_count 146 = .ok (.iadd, 1) := by decide +kernel
theorem dX5_count_147 : decode cX5_count 147 = .ok (.istore_n 2, 1) := by decide +kernel
theorem dX5_count_148 : decode cX5_count 148 = .ok (.iinc 3 1, 3) := by decide +kernel
theorem dX5_count_151 : decode cX5_count 151 = .ok (.goto (-29), 3) := by decide +kernel
theorem dX5_count_154 : decode cX5_count 154 = .ok (.iload_n 2, 1) := by decide +kernel
theorem dX5_count_155 : decode cX5_count 155 = .ok (.ireturn, 1) := by decide +kernel
theorem dX5_count_156 : decode cX5_count 156 = .ok (.iconst (-1), 1) := by decide +kernel
theorem dX5_count_157 : decode cX5_count 157 = .ok (.ireturn, 1) := by decide +kernel
end
section
theorem dL_told_0 : decode cL_told 0 = .ok (.aload_n 3, 1) := by decide +kernel
theorem dL_told_1 : decode cL_told 1 = .ok (.iconst 0, 1) := by decide +kernel
theorem dL_told_2 : decode cL_told 2 = .ok (.aload_n 0, 1) := by decide +kernel
theorem dL_told_3 : decode cL_told 3 = .ok (.iload_n 1, 1) := by decide +kernel
theorem dL_told_4 : decode cL_told 4 = .ok (.iload_n 2, 1) := by decide +kernel
theorem dL_told_5 : decode cL_told 5 = .ok (.invokevirtual 7, 3) := by decide +kernel
theorem dL_told_8 : decode cL_told 8 = .ok (.i2l, 1) := by decide +kernel
theorem dL_told_9 : decode cL_told 9 = .ok (.lastore, 1) := by decide +kernel
theorem dL_told_10 : decode cL_told 10 = .ok (.goto 7, 3) := by decide +kernel
theorem dL_told_13 : decode cL_told 13 = .ok (.astore 4, 2) := by decide +kernel
theorem dL_told_15 : decode cL_told 15 = .ok (.iconst 1, 1) := by decide +kernel
theorem dL_told_16 : decode cL_told 16 = .ok (.ireturn, 1) := by decide +kernel
theorem dL_told_17 : decode cL_told 17 = .ok (.iconst 0, 1) := by decide +kernel
theorem dL_told_18 : decode cL_told 18 = .ok (.ireturn, 1) := by decide +kernel
theorem dL_law_0 : decode cL_law 0 = .ok (.new 8, 3) := by decide +kernel
theorem dL_law_3 : decode cL_law 3 = .ok (.dup, 1) := by decide +kernel
theorem dL_law_4 : decode cL_law 4 = .ok (.invokespecial 15, 3) := by decide +kernel
theorem dL_law_7 : decode cL_law 7 = .ok (.astore_n 1, 1) := by decide +kernel
theorem dL_law_8 : decode cL_law 8 = .ok (.new 16, 3) := by decide +kernel
theorem dL_law_11 : decode cL_law 11 = .ok (.dup, 1) := by decide +kernel
theorem dL_law_12 : decode cL_law 12 = .ok (.invokespecial 18, 3) := by decide +kernel
theorem dL_law_15 : decode cL_law 15 = .ok (.astore_n 2, 1) := by decide +kernel
theorem dL_law_16 : decode cL_law 16 = .ok (.iconst 1, 1) := by decide +kernel
theorem dL_law_17 : decode cL_law 17 = .ok (.newarray .long, 2) := by decide +kernel
theorem dL_law_19 : decode cL_law 19 = .ok (.astore_n 3, 1) := by decide +kernel
theorem dL_law_20 : decode cL_law 20 = .ok (.iconst 0, 1) := by decide +kernel
theorem dL_law_21 : decode cL_law 21 = .ok (.istore 4, 2) := by decide +kernel
theorem dL_law_23 : decode cL_law 23 = .ok (.iload 4, 2) := by decide +kernel
theorem dL_law_25 : decode cL_law 25 = .ok (.aload_n 0, 1) := by decide +kernel
theorem dL_law_26 : decode cL_law 26 = .ok (.arraylength, 1) := by decide +kernel
theorem dL_law_27 : decode cL_law 27 = .ok (.bipush 6, 2) := by decide +kernel
theorem dL_law_29 : decode cL_law 29 = .ok (.isub, 1) := by decide +kernel
theorem dL_law_30 : decode cL_law 30 = .ok (.if_icmp .gt 840, 3) := by decide +kernel
theorem dL_law_33 : decode cL_law 33 = .ok (.aload_n 0, 1) := by decide +kernel
theorem dL_law_34 : decode cL_law 34 = .ok (.iload 4, 2) := by decide +kernel
theorem dL_law_36 : decode cL_law 36 = .ok (.iaload, 1) := by decide +kernel
theorem dL_law_37 : decode cL_law 37 = .ok (.bipush 31, 2) := by decide +kernel
theorem dL_law_39 : decode cL_law 39 = .ok (.iand, 1) := by decide +kernel
theorem dL_law_40 : decode cL_law 40 = .ok (.tableswitch 824 0 19 #[96, 157, 230, 279, 328, 365, 402, 439, 504, 517, 531, 556, 581, 606, 631, 644, 669, 694, 762, 799], 96) := by decide +kernel
theorem dL_law_136 : decode cL_law 136 = .ok (.aload_n 1, 1) := by decide +kernel
theorem dL_law_137 : decode cL_law 137 = .ok (.aload_n 0, 1) := by decide +kernel
theorem dL_law_138 : decode cL_law 138 = .ok (.iload 4, 2) := by decide +kernel
theorem dL_law_140 : decode cL_law 140 = .ok (.iconst 1, 1) := by decide +kernel
theorem dL_law_141 : decode cL_law 141 = .ok (.iadd, 1) := by decide +kernel
theorem dL_law_142 : decode cL_law 142 = .ok (.iaload, 1) := by decide +kernel
theorem dL_law_143 : decode cL_law 143 = .ok (.aload_n 0, 1) := by decide +kernel
theorem dL_law_144 : decode cL_law 144 = .ok (.iload 4, 2) := by decide +kernel
theorem dL_law_146 : decode cL_law 146 = .ok (.iconst 2, 1) := by decide +kernel
theorem dL_law_147 : decode cL_law 147 = .ok (.iadd, 1) := by decide +kernel
theorem dL_law_148 : decode cL_law 148 = .ok (.iaload, 1) := by decide +kernel
theorem dL_law_149 : decode cL_law 149 = .ok (.aload_n 0, 1) := by decide +kernel
theorem dL_law_150 : decode cL_law 150 = .ok (.iload 4, 2) := by decide +kernel
theorem dL_law_152 : decode cL_law 152 = .ok (.iconst 3, 1) := by decide +kernel
theorem dL_law_153 : decode cL_law 153 = .ok (.iadd, 1) := by decide +kernel
theorem dL_law_154 : decode cL_law 154 = .ok (.iaload, 1) := by decide +kernel
theorem dL_law_155 : decode cL_law 155 = .ok (.aload_n 0, 1) := by decide +kernel
theorem dL_law_156 : decode cL_law 156 = .ok (.iload 4, 2) := by decide +kernel
theorem dL_law_158 : decode cL_law 158 = .ok (.iconst 4, 1) := by decide +kernel
theorem dL_law_159 : decode cL_law 159 = .ok (.iadd, 1) := by decide +kernel
theorem dL_law_160 : decode cL_law 160 = .ok (.iaload, 1) := by decide +kernel
theorem dL_law_161 : decode cL_law 161 = .ok (.invokevirtual 19, 3) := by decide +kernel
theorem dL_law_164 : decode cL_law 164 = .ok (.aload_n 2, 1) := by decide +kernel
theorem dL_law_165 : decode cL_law 165 = .ok (.aload_n 0, 1) := by decide +kernel
theorem dL_law_166 : decode cL_law 166 = .ok (.iload 4, 2) := by decide +kernel
theorem dL_law_168 : decode cL_law 168 = .ok (.iconst 1, 1) := by decide +kernel
theorem dL_law_169 : decode cL_law 169 = .ok (.iadd, 1) := by decide +kernel
theorem dL_law_170 : decode cL_law 170 = .ok (.iaload, 1) := by decide +kernel
theorem dL_law_171 : decode cL_law 171 = .ok (.aload_n 0, 1) := by decide +kernel
theorem dL_law_172 : decode cL_law 172 = .ok (.iload 4, 2) := by decide +kernel
theorem dL_law_174 : decode cL_law 174 = .ok (.iconst 2, 1) := by decide +kernel
theorem dL_law_175 : decode cL_law 175 = .ok (.iadd, 1) := by decide +kernel
theorem dL_law_176 : decode cL_law 176 = .ok (.iaload, 1) := by decide +kernel
theorem dL_law_177 : decode cL_law 177 = .ok (.aload_n 0, 1) := by decide +kernel
theorem dL_law_178 : decode cL_law 178 = .ok (.iload 4, 2) := by decide +kernel
theorem dL_law_180 : decode cL_law 180 = .ok (.iconst 3, 1) := by decide +kernel
theorem dL_law_181 : decode cL_law 181 = .ok (.iadd, 1) := by decide +kernel
theorem dL_law_182 : decode cL_law 182 = .ok (.iaload, 1) := by decide +kernel
theorem dL_law_183 : decode cL_law 183 = .ok (.aload_n 0, 1) := by decide +kernel
theorem dL_law_184 : decode cL_law 184 = .ok (.iload 4, 2) := by decide +kernel
theorem dL_law_186 : decode cL_law 186 = .ok (.iconst 4, 1) := by decide +kernel
theorem dL_law_187 : decode cL_law 187 = .ok (.iadd, 1) := by decide +kernel
theorem dL_law_188 : decode cL_law 188 = .ok (.iaload, 1) := by decide +kernel
theorem dL_law_189 : decode cL_law 189 = .ok (.invokevirtual 23, 3) := by decide +kernel
theorem dL_law_192 : decode cL_law 192 = .ok (.if_icmp .eq 672, 3) := by decide +kernel
theorem dL_law_195 : decode cL_law 195 = .ok (.iconst 0, 1) := by decide +kernel
theorem dL_law_196 : decode cL_law 196 = .ok (.ireturn, 1) := by decide +kernel
theorem dL_law_197 : decode cL_law 197 = .ok (.aload_n 1, 1) := by decide +kernel
theorem dL_law_198 : decode cL_law 198 = .ok (.aload_n 0, 1) := by decide +kernel
theorem dL_law_199 : decode cL_law 199 = .ok (.iload 4, 2) := by decide +kernel
theorem dL_law_201 : decode cL_law 201 = .ok (.iconst 1, 1) := by decide +kernel
theorem dL_law_202 : decode cL_law 202 = .ok (.iadd, 1) := by decide +kernel
theorem dL_law_203 : decode cL_law 203 = .ok (.iaload, 1) := by decide +kernel
theorem dL_law_204 : decode cL_law 204 = .ok (.aload_n 0, 1) := by decide +kernel
theorem dL_law_205 : decode cL_law 205 = .ok (.iload 4, 2) := by decide +kernel
theorem dL_law_207 : decode cL_law 207 = .ok (.iconst 2, 1) := by decide +kernel
theorem dL_law_208 : decode cL_law 208 = .ok (.iadd, 1) := by decide +kernel
theorem dL_law_209 : decode cL_law 209 = .ok (.iaload, 1) := by decide +kernel
theorem dL_law_210 : decode cL_law 210 = .ok (.aload_n 0, 1) := by decide +kernel
theorem dL_law_211 : decode cL_law 211 = .ok (.iload 4, 2) := by decide +kernel
theorem dL_law_213 : decode cL_law 213 = .ok (.iconst 3, 1) := by decide +kernel
theorem dL_law_214 : decode cL_law 214 = .ok (.iadd, 1) := by decide +kernel
theorem dL_law_215 : decode cL_law 215 = .ok (.iaload, 1) := by decide +kernel
theorem dL_law_216 : decode cL_law 216 = .ok (.aload_n 0, 1) := by decide +kernel
theorem dL_law_217 : decode cL_law 217 = .ok (.iload 4, 2) := by decide +kernel
theorem dL_law_219 : decode cL_law 219 = .ok (.iconst 4, 1) := by decide +kernel
theorem dL_law_220 : decode cL_law 220 = .ok (.iadd, 1) := by decide +kernel
theorem dL_law_221 : decode cL_law 221 = .ok (.iaload, 1) := by decide +kernel
theorem dL_law_222 : decode cL_law 222 = .ok (.aload_n 0, 1) := by decide +kernel
theorem dL_law_223 : decode cL_law 223 = .ok (.iload 4, 2) := by decide +kernel
theorem dL_law_225 : decode cL_law 225 = .ok (.iconst 5, 1) := by decide +kernel
theorem dL_law_226 : decode cL_law 226 = .ok (.iadd, 1) := by decide +kernel
theorem dL_law_227 : decode cL_law 227 = .ok (.iaload, 1) := by decide +kernel
theorem dL_law_228 : decode cL_law 228 = .ok (.invokevirtual 24, 3) := by decide +kernel
theorem dL_law_231 : decode cL_law 231 = .ok (.aload_n 2, 1) := by decide +kernel
theorem dL_law_232 : decode cL_law 232 = .ok (.aload_n 0, 1) := by decide +kernel
theorem dL_law_233 : decode cL_law 233 = .ok (.iload 4, 2) := by decide +kernel
theorem dL_law_235 : decode cL_law 235 = .ok (.iconst 1, 1) := by decide +kernel
theorem dL_law_236 : decode cL_law 236 = .ok (.iadd, 1) := by decide +kernel
theorem dL_law_237 : decode cL_law 237 = .ok (.iaload, 1) := by decide +kernel
theorem dL_law_238 : decode cL_law 238 = .ok (.aload_n 0, 1) := by decide +kernel
theorem dL_law_239 : decode cL_law 239 = .ok (.iload 4, 2) := by decide +kernel
theorem dL_law_241 : decode cL_law 241 = .ok (.iconst 2, 1) := by decide +kernel
theorem dL_law_242 : decode cL_law 242 = .ok (.iadd, 1) := by decide +kernel
theorem dL_law_243 : decode cL_law 243 = .ok (.iaload, 1) := by decide +kernel
theorem dL_law_244 : decode cL_law 244 = .ok (.aload_n 0, 1) := by decide +kernel
theorem dL_law_245 : decode cL_law 245 = .ok (.iload 4, 2) := by decide +kernel
theorem dL_law_247 : decode cL_law 247 = .ok (.iconst 3, 1) := by decide +kernel
theorem dL_law_248 : decode cL_law 248 = .ok (.iadd, 1) := by decide +kernel
theorem dL_law_249 : decode cL_law 249 = .ok (.iaload, 1) := by decide +kernel
theorem dL_law_250 : decode cL_law 250 = .ok (.aload_n 0, 1) := by decide +kernel
theorem dL_law_251 : decode cL_law 251 = .ok (.iload 4, 2) := by decide +kernel
theorem dL_law_253 : decode cL_law 253 = .ok (.iconst 4, 1) := by decide +kernel
theorem dL_law_254 : decode cL_law 254 = .ok (.iadd, 1) := by decide +kernel
theorem dL_law_255 : decode cL_law 255 = .ok (.iaload, 1) := by decide +kernel
theorem dL_law_256 : decode cL_law 256 = .ok (.aload_n 0, 1) := by decide +kernel
theorem dL_law_257 : decode cL_law 257 = .ok (.iload 4, 2) := by decide +kernel
theorem dL_law_259 : decode cL_law 259 = .ok (.iconst 5, 1) := by decide +kernel
theorem dL_law_260 : decode cL_law 260 = .ok (.iadd, 1) := by decide +kernel
theorem dL_law_261 : decode cL_law 261 = .ok (.iaload, 1) := by decide +kernel
theorem dL_law_262 : decode cL_law 262 = .ok (.invokevirtual 28, 3) := by decide +kernel
theorem dL_law_265 : decode cL_law 265 = .ok (.if_icmp .eq 599, 3) := by decide +kernel
theorem dL_law_268 : decode cL_law 268 = .ok (.iconst 0, 1) := by decide +kernel
theorem dL_law_269 : decode cL_law 269 = .ok (.ireturn, 1) := by decide +kernel
theorem dL_law_270 : decode cL_law 270 = .ok (.aload_n 1, 1) := by decide +kernel
theorem dL_law_271 : decode cL_law 271 = .ok (.aload_n 0, 1) := by decide +kernel
theorem dL_law_272 : decode cL_law 272 = .ok (.iload 4, 2) := by decide +kernel
theorem dL_law_274 : decode cL_law 274 = .ok (.iconst 1, 1) := by decide +kernel
theorem dL_law_275 : decode cL_law 275 = .ok (.iadd, 1) := by decide +kernel
theorem dL_law_276 : decode cL_law 276 = .ok (.iaload, 1) := by decide +kernel
theorem dL_law_277 : decode cL_law 277 = .ok (.aload_n 0, 1) := by decide +kernel
theorem dL_law_278 : decode cL_law 278 = .ok (.iload 4, 2) := by decide +kernel
theorem dL_law_280 : decode cL_law 280 = .ok (.iconst 2, 1) := by decide +kernel
theorem dL_law_281 : decode cL_law 281 = .ok (.iadd, 1) := by decide +kernel
theorem dL_law_282 : decode cL_law 282 = .ok (.iaload, 1) := by decide +kernel
theorem dL_law_283 : decode cL_law 283 = .ok (.aload_n 0, 1) := by decide +kernel
theorem dL_law_284 : decode cL_law 284 = .ok (.iload 4, 2) := by decide +kernel
theorem dL_law_286 : decode cL_law 286 = .ok (.iconst 3, 1) := by decide +kernel
theorem dL_law_287 : decode cL_law 287 = .ok (.iadd, 1) := by decide +kernel
theorem dL_law_288 : decode cL_law 288 = .ok (.iaload, 1) := by decide +kernel
theorem dL_law_289 : decode cL_law 289 = .ok (.invokevirtual 29, 3) := by decide +kernel
theorem dL_law_292 : decode cL_law 292 = .ok (.aload_n 2, 1) := by decide +kernel
theorem dL_law_293 : decode cL_law 293 = .ok (.aload_n 0, 1) := by decide +kernel
theorem dL_law_294 : decode cL_law 294 = .ok (.iload 4, 2) := by decide +kernel
theorem dL_law_296 : decode cL_law 296 = .ok (.iconst 1, 1) := by decide +kernel
theorem dL_law_297 : decode cL_law 297 = .ok (.iadd, 1) := by decide +kernel
theorem dL_law_298 : decode cL_law 298 = .ok (.iaload, 1) := by decide +kernel
theorem dL_law_299 : decode cL_law 299 = .ok (.aload_n 0, 1) := by decide +kernel
theorem dL_law_300 : decode cL_law 300 = .ok (.iload 4, 2) := by decide +kernel
theorem dL_law_302 : decode cL_law 302 = .ok (.iconst 2, 1) := by decide +kernel
theorem dL_law_303 : decode cL_law 303 = .ok (.iadd, 1) := by decide +kernel
theorem dL_law_304 : decode cL_law 304 = .ok (.iaload, 1) := by decide +kernel
theorem dL_law_305 : decode cL_law 305 = .ok (.aload_n 0, 1) := by decide +kernel
theorem dL_law_306 : decode cL_law 306 = .ok (.iload 4, 2) := by decide +kernel
theorem dL_law_308 : decode cL_law 308 = .ok (.iconst 3, 1) := by decide +kernel
theorem dL_law_309 : decode cL_law 309 = .ok (.iadd, 1) := by decide +kernel
theorem dL_law_310 : decode cL_law 310 = .ok (.iaload, 1) := by decide +kernel
theorem dL_law_311 : decode cL_law 311 = .ok (.invokevirtual 33, 3) := by decide +kernel
theorem dL_law_314 : decode cL_law 314 = .ok (.if_icmp .eq 550, 3) := by decide +kernel
theorem dL_law_317 : decode cL_law 317 = .ok (.iconst 0, 1) := by decide +kernel
theorem dL_law_318 : decode cL_law 318 = .ok (.ireturn, 1) := by decide +kernel
theorem dL_law_319 : decode cL_law 319 = .ok (.aload_n 1, 1) := by decide +kernel
theorem dL_law_320 : decode cL_law 320 = .ok (.aload_n 0, 1) := by decide +kernel
theorem dL_law_321 : decode cL_law 321 = .ok (.iload 4, 2) := by decide +kernel
theorem dL_law_323 : decode cL_law 323 = .ok (.iconst 1, 1) := by decide +kernel
theorem dL_law_324 : decode cL_law 324 = .ok (.iadd, 1) := by decide +kernel
theorem dL_law_325 : decode cL_law 325 = .ok (.iaload, 1) := by decide +kernel
theorem dL_law_326 : decode cL_law 326 = .ok (.aload_n 0, 1) := by decide +kernel
theorem dL_law_327 : decode cL_law 327 = .ok (.iload 4, 2) := by decide +kernel
theorem dL_law_329 : decode cL_law 329 = .ok (.iconst 2, 1) := by decide +kernel
theorem dL_law_330 : decode cL_law 330 = .ok (.iadd, 1) := by decide +kernel
theorem dL_law_331 : decode cL_law 331 = .ok (.iaload, 1) := by decide +kernel
theorem dL_law_332 : decode cL_law 332 = .ok (.aload_n 0, 1) := by decide +kernel
theorem dL_law_333 : decode cL_law 333 = .ok (.iload 4, 2) := by decide +kernel
theorem dL_law_335 : decode cL_law 335 = .ok (.iconst 3, 1) := by decide +kernel
theorem dL_law_336 : decode cL_law 336 = .ok (.iadd, 1) := by decide +kernel
theorem dL_law_337 : decode cL_law 337 = .ok (.iaload, 1) := by decide +kernel
theorem dL_law_338 : decode cL_law 338 = .ok (.invokevirtual 34, 3) := by decide +kernel
theorem dL_law_341 : decode cL_law 341 = .ok (.aload_n 2, 1) := by decide +kernel
theorem dL_law_342 : decode cL_law 342 = .ok (.aload_n 0, 1) := by decide +kernel
theorem dL_law_343 : decode cL_law 343 = .ok (.iload 4, 2) := by decide +kernel
theorem dL_law_345 : decode cL_law 345 = .ok (.iconst 1, 1) := by decide +kernel
theorem dL_law_346 : decode cL_law 346 = .ok (.iadd, 1) := by decide +kernel
theorem dL_law_347 : decode cL_law 347 = .ok (.iaload, 1) := by decide +kernel
theorem dL_law_348 : decode cL_law 348 = .ok (.aload_n 0, 1) := by decide +kernel
theorem dL_law_349 : decode cL_law 349 = .ok (.iload 4, 2) := by decide +kernel
theorem dL_law_351 : decode cL_law 351 = .ok (.iconst 2, 1) := by decide +kernel
theorem dL_law_352 : decode cL_law 352 = .ok (.iadd, 1) := by decide +kernel
theorem dL_law_353 : decode cL_law 353 = .ok (.iaload, 1) := by decide +kernel
theorem dL_law_354 : decode cL_law 354 = .ok (.aload_n 0, 1) := by decide +kernel
theorem dL_law_355 : decode cL_law 355 = .ok (.iload 4, 2) := by decide +kernel
theorem dL_law_357 : decode cL_law 357 = .ok (.iconst 3, 1) := by decide +kernel
theorem dL_law_358 : decode cL_law 358 = .ok (.iadd, 1) := by decide +kernel
theorem dL_law_359 : decode cL_law 359 = .ok (.iaload, 1) := by decide +kernel
theorem dL_law_360 : decode cL_law 360 = .ok (.invokevirtual 38, 3) := by decide +kernel
theorem dL_law_363 : decode cL_law 363 = .ok (.if_icmp .eq 501, 3) := by decide +kernel
theorem dL_law_366 : decode cL_law 366 = .ok (.iconst 0, 1) := by decide +kernel
theorem dL_law_367 : decode cL_law 367 = .ok (.ireturn, 1) := by decide +kernel
theorem dL_law_368 : decode cL_law 368 = .ok (.aload_n 1, 1) := by decide +kernel
theorem dL_law_369 : decode cL_law 369 = .ok (.aload_n 0, 1) := by decide +kernel
theorem dL_law_370 : decode cL_law 370 = .ok (.iload 4, 2) := by decide +kernel
theorem dL_law_372 : decode cL_law 372 = .ok (.iconst 1, 1) := by decide +kernel
theorem dL_law_373 : decode cL_law 373 = .ok (.iadd, 1) := by decide +kernel
theorem dL_law_374 : decode cL_law 374 = .ok (.iaload, 1) := by decide +kernel
theorem dL_law_375 : decode cL_law 375 = .ok (.aload_n 0, 1) := by decide +kernel
theorem dL_law_376 : decode cL_law 376 = .ok (.iload 4, 2) := by decide +kernel
theorem dL_law_378 : decode cL_law 378 = .ok (.iconst 2, 1) := by decide +kernel
theorem dL_law_379 : decode cL_law 379 = .ok (.iadd, 1) := by decide +kernel
theorem dL_law_380 : decode cL_law 380 = .ok (.iaload, 1) := by decide +kernel
theorem dL_law_381 : decode cL_law 381 = .ok (.invokevirtual 39, 3) := by decide +kernel
theorem dL_law_384 : decode cL_law 384 = .ok (.aload_n 2, 1) := by decide +kernel
theorem dL_law_385 : decode cL_law 385 = .ok (.aload_n 0, 1) := by decide +kernel
theorem dL_law_386 : decode cL_law 386 = .ok (.iload 4, 2) := by decide +kernel
theorem dL_law_388 : decode cL_law 388 = .ok (.iconst 1, 1) := by decide +kernel
theorem dL_law_389 : decode cL_law 389 = .ok (.iadd, 1) := by decide +kernel
theorem dL_law_390 : decode cL_law 390 = .ok (.iaload, 1) := by decide +kernel
theorem dL_law_391 : decode cL_law 391 = .ok (.aload_n 0, 1) := by decide +kernel
theorem dL_law_392 : decode cL_law 392 = .ok (.iload 4, 2) := by decide +kernel
theorem dL_law_394 : decode cL_law 394 = .ok (.iconst 2, 1) := by decide +kernel
theorem dL_law_395 : decode cL_law 395 = .ok (.iadd, 1) := by decide +kernel
theorem dL_law_396 : decode cL_law 396 = .ok (.iaload, 1) := by decide +kernel
theorem dL_law_397 : decode cL_law 397 = .ok (.invokevirtual 42, 3) := by decide +kernel
theorem dL_law_400 : decode cL_law 400 = .ok (.if_icmp .eq 464, 3) := by decide +kernel
theorem dL_law_403 : decode cL_law 403 = .ok (.iconst 0, 1) := by decide +kernel
theorem dL_law_404 : decode cL_law 404 = .ok (.ireturn, 1) := by decide +kernel
theorem dL_law_405 : decode cL_law 405 = .ok (.aload_n 1, 1) := by decide +kernel
theorem dL_law_406 : decode cL_law 406 = .ok (.aload_n 0, 1) := by decide +kernel
theorem dL_law_407 : decode cL_law 407 = .ok (.iload 4, 2) := by decide +kernel
theorem dL_law_409 : decode cL_law 409 = .ok (.iconst 1, 1) := by decide +kernel
theorem dL_law_410 : decode cL_law 410 = .ok (.iadd, 1) := by decide +kernel
theorem dL_law_411 : decode cL_law 411 = .ok (.iaload, 1) := by decide +kernel
theorem dL_law_412 : decode cL_law 412 = .ok (.aload_n 0, 1) := by decide +kernel
theorem dL_law_413 : decode cL_law 413 = .ok (.iload 4, 2) := by decide +kernel
theorem dL_law_415 : decode cL_law 415 = .ok (.iconst 2, 1) := by decide +kernel
theorem dL_law_416 : decode cL_law 416 = .ok (.iadd, 1) := by decide +kernel
theorem dL_law_417 : decode cL_law 417 = .ok (.iaload, 1) := by decide +kernel
theorem dL_law_418 : decode cL_law 418 = .ok (.invokevirtual 43, 3) := by decide +kernel
theorem dL_law_421 : decode cL_law 421 = .ok (.aload_n 2, 1) := by decide +kernel
theorem dL_law_422 : decode cL_law 422 = .ok (.aload_n 0, 1) := by decide +kernel
theorem dL_law_423 : decode cL_law 423 = .ok (.iload 4, 2) := by decide +kernel
theorem dL_law_425 : decode cL_law 425 = .ok (.iconst 1, 1) := by decide +kernel
theorem dL_law_426 : decode cL_law 426 = .ok (.iadd, 1) := by decide +kernel
theorem dL_law_427 : decode cL_law 427 = .ok (.iaload, 1) := by decide +kernel
theorem dL_law_428 : decode cL_law 428 = .ok (.aload_n 0, 1) := by decide +kernel
theorem dL_law_429 : decode cL_law 429 = .ok (.iload 4, 2) := by decide +kernel
theorem dL_law_431 : decode cL_law 431 = .ok (.iconst 2, 1) := by decide +kernel
theorem dL_law_432 : decode cL_law 432 = .ok (.iadd, 1) := by decide +kernel
theorem dL_law_433 : decode cL_law 433 = .ok (.iaload, 1) := by decide +kernel
theorem dL_law_434 : decode cL_law 434 = .ok (.invokevirtual 46, 3) := by decide +kernel
theorem dL_law_437 : decode cL_law 437 = .ok (.if_icmp .eq 427, 3) := by decide +kernel
theorem dL_law_440 : decode cL_law 440 = .ok (.iconst 0, 1) := by decide +kernel
theorem dL_law_441 : decode cL_law 441 = .ok (.ireturn, 1) := by decide +kernel
theorem dL_law_442 : decode cL_law 442 = .ok (.aload_n 1, 1) := by decide +kernel
theorem dL_law_443 : decode cL_law 443 = .ok (.aload_n 0, 1) := by decide +kernel
theorem dL_law_444 : decode cL_law 444 = .ok (.iload 4, 2) := by decide +kernel
theorem dL_law_446 : decode cL_law 446 = .ok (.iconst 1, 1) := by decide +kernel
theorem dL_law_447 : decode cL_law 447 = .ok (.iadd, 1) := by decide +kernel
theorem dL_law_448 : decode cL_law 448 = .ok (.iaload, 1) := by decide +kernel
theorem dL_law_449 : decode cL_law 449 = .ok (.aload_n 0, 1) := by decide +kernel
theorem dL_law_450 : decode cL_law 450 = .ok (.iload 4, 2) := by decide +kernel
theorem dL_law_452 : decode cL_law 452 = .ok (.iconst 2, 1) := by decide +kernel
theorem dL_law_453 : decode cL_law 453 = .ok (.iadd, 1) := by decide +kernel
theorem dL_law_454 : decode cL_law 454 = .ok (.iaload, 1) := by decide +kernel
theorem dL_law_455 : decode cL_law 455 = .ok (.invokevirtual 47, 3) := by decide +kernel
theorem dL_law_458 : decode cL_law 458 = .ok (.aload_n 2, 1) := by decide +kernel
theorem dL_law_459 : decode cL_law 459 = .ok (.aload_n 0, 1) := by decide +kernel
theorem dL_law_460 : decode cL_law 460 = .ok (.iload 4, 2) := by decide +kernel
theorem dL_law_462 : decode cL_law 462 = .ok (.iconst 1, 1) := by decide +kernel
theorem dL_law_463 : decode cL_law 463 = .ok (.iadd, 1) := by decide +kernel
theorem dL_law_464 : decode cL_law 464 = .ok (.iaload, 1) := by decide +kernel
theorem dL_law_465 : decode cL_law 465 = .ok (.aload_n 0, 1) := by decide +kernel
theorem dL_law_466 : decode cL_law 466 = .ok (.iload 4, 2) := by decide +kernel
theorem dL_law_468 : decode cL_law 468 = .ok (.iconst 2, 1) := by decide +kernel
theorem dL_law_469 : decode cL_law 469 = .ok (.iadd, 1) := by decide +kernel
theorem dL_law_470 : decode cL_law 470 = .ok (.iaload, 1) := by decide +kernel
theorem dL_law_471 : decode cL_law 471 = .ok (.invokevirtual 51, 3) := by decide +kernel
theorem dL_law_474 : decode cL_law 474 = .ok (.if_icmp .eq 390, 3) := by decide +kernel
theorem dL_law_477 : decode cL_law 477 = .ok (.iconst 0, 1) := by decide +kernel
theorem dL_law_478 : decode cL_law 478 = .ok (.ireturn, 1) := by decide +kernel
theorem dL_law_479 : decode cL_law 479 = .ok (.aload_n 1, 1) := by decide +kernel
theorem dL_law_480 : decode cL_law 480 = .ok (.aload_n 0, 1) := by decide +kernel
theorem dL_law_481 : decode cL_law 481 = .ok (.iload 4, 2) := by decide +kernel
theorem dL_law_483 : decode cL_law 483 = .ok (.iconst 1, 1) := by decide +kernel
theorem dL_law_484 : decode cL_law 484 = .ok (.iadd, 1) := by decide +kernel
theorem dL_law_485 : decode cL_law 485 = .ok (.iaload, 1) := by decide +kernel
theorem dL_law_486 : decode cL_law 486 = .ok (.aload_n 0, 1) := by decide +kernel
theorem dL_law_487 : decode cL_law 487 = .ok (.iload 4, 2) := by decide +kernel
theorem dL_law_489 : decode cL_law 489 = .ok (.iconst 2, 1) := by decide +kernel
theorem dL_law_490 : decode cL_law 490 = .ok (.iadd, 1) := by decide +kernel
theorem dL_law_491 : decode cL_law 491 = .ok (.iaload, 1) := by decide +kernel
theorem dL_law_492 : decode cL_law 492 = .ok (.aload_n 0, 1) := by decide +kernel
theorem dL_law_493 : decode cL_law 493 = .ok (.iload 4, 2) := by decide +kernel
theorem dL_law_495 : decode cL_law 495 = .ok (.iconst 3, 1) := by decide +kernel
theorem dL_law_496 : decode cL_law 496 = .ok (.iadd, 1) := by decide +kernel
theorem dL_law_497 : decode cL_law 497 = .ok (.iaload, 1) := by decide +kernel
theorem dL_law_498 : decode cL_law 498 = .ok (.ifCond .eq 7, 3) := by decide +kernel
theorem dL_law_501 : decode cL_law 501 = .ok (.iconst 1, 1) := by decide +kernel
theorem dL_law_502 : decode cL_law 502 = .ok (.goto 4, 3) := by decide +kernel
theorem dL_law_505 : decode cL_law 505 = .ok (.iconst 0, 1) := by decide +kernel
theorem dL_law_506 : decode cL_law 506 = .ok (.invokevirtual 52, 3) := by decide +kernel
theorem dL_law_509 : decode cL_law 509 = .ok (.aload_n 2, 1) := by decide +kernel
theorem dL_law_510 : decode cL_law 510 = .ok (.aload_n 0, 1) := by decide +kernel
theorem dL_law_511 : decode cL_law 511 = .ok (.iload 4, 2) := by decide +kernel
theorem dL_law_513 : decode cL_law 513 = .ok (.iconst 1, 1) := by decide +kernel
theorem dL_law_514 : decode cL_law 514 = .ok (.iadd, 1) := by decide +kernel
theorem dL_law_515 : decode cL_law 515 = .ok (.iaload, 1) := by decide +kernel
theorem dL_law_516 : decode cL_law 516 = .ok (.aload_n 0, 1) := by decide +kernel
theorem dL_law_517 : decode cL_law 517 = .ok (.iload 4, 2) := by decide +kernel
theorem dL_law_519 : decode cL_law 519 = .ok (.iconst 2, 1) := by decide +kernel
theorem dL_law_520 : decode cL_law 520 = .ok (.iadd, 1) := by decide +kernel
theorem dL_law_521 : decode cL_law 521 = .ok (.iaload, 1) := by decide +kernel
theorem dL_law_522 : decode cL_law 522 = .ok (.aload_n 0, 1) := by decide +kernel
theorem dL_law_523 : decode cL_law 523 = .ok (.iload 4, 2) := by decide +kernel
theorem dL_law_525 : decode cL_law 525 = .ok (.iconst 3, 1) := by decide +kernel
theorem dL_law_526 : decode cL_law 526 = .ok (.iadd, 1) := by decide +kernel
theorem dL_law_527 : decode cL_law 527 = .ok (.iaload, 1) := by decide +kernel
theorem dL_law_528 : decode cL_law 528 = .ok (.ifCond .eq 7, 3) := by decide +kernel
theorem dL_law_531 : decode cL_law 531 = .ok (.iconst 1, 1) := by decide +kernel
theorem dL_law_532 : decode cL_law 532 = .ok (.goto 4, 3) := by decide +kernel
theorem dL_law_535 : decode cL_law 535 = .ok (.iconst 0, 1) := by decide +kernel
theorem dL_law_536 : decode cL_law 536 = .ok (.invokevirtual 56, 3) := by decide +kernel
theorem dL_law_539 : decode cL_law 539 = .ok (.if_icmp .eq 325, 3) := by decide +kernel
theorem dL_law_542 : decode cL_law 542 = .ok (.iconst 0, 1) := by decide +kernel
theorem dL_law_543 : decode cL_law 543 = .ok (.ireturn, 1) := by decide +kernel
theorem dL_law_544 : decode cL_law 544 = .ok (.aload_n 1, 1) := by decide +kernel
theorem dL_law_545 : decode cL_law 545 = .ok (.invokevirtual 57, 3) := by decide +kernel
theorem dL_law_548 : decode cL_law 548 = .ok (.aload_n 2, 1) := by decide +kernel
theorem dL_law_549 : decode cL_law 549 = .ok (.invokevirtual 61, 3) := by decide +kernel
theorem dL_law_552 : decode cL_law 552 = .ok (.if_icmp .eq 312, 3) := by decide +kernel
theorem dL_law_555 : decode cL_law 555 = .ok (.iconst 0, 1) := by decide +kernel
theorem dL_law_556 : decode cL_law 556 = .ok (.ireturn, 1) := by decide +kernel
theorem dL_law_557 : decode cL_law 557 = .ok (.aload_n 1, 1) := by decide +kernel
theorem dL_law_558 : decode cL_law 558 = .ok (.invokevirtual 62, 3) := by decide +kernel
theorem dL_law_561 : decode cL_law 561 = .ok (.aload_n 2, 1) := by decide +kernel
theorem dL_law_562 : decode cL_law 562 = .ok (.invokevirtual 66, 3) := by decide +kernel
theorem dL_law_565 : decode cL_law 565 = .ok (.lcmp, 1) := by decide +kernel
theorem dL_law_566 : decode cL_law 566 = .ok (.ifCond .eq 298, 3) := by decide +kernel
theorem dL_law_569 : decode cL_law 569 = .ok (.iconst 0, 1) := by decide +kernel
theorem dL_law_570 : decode cL_law 570 = .ok (.ireturn, 1) := by decide +kernel
theorem dL_law_571 : decode cL_law 571 = .ok (.aload_n 1, 1) := by decide +kernel
theorem dL_law_572 : decode cL_law 572 = .ok (.aload_n 0, 1) := by decide +kernel
theorem dL_law_573 : decode cL_law 573 = .ok (.iload 4, 2) := by decide +kernel
theorem dL_law_575 : decode cL_law 575 = .ok (.iconst 1, 1) := by decide +kernel
theorem dL_law_576 : decode cL_law 576 = .ok (.iadd, 1) := by decide +kernel
theorem dL_law_577 : decode cL_law 577 = .ok (.iaload, 1) := by decide +kernel
theorem dL_law_578 : decode cL_law 578 = .ok (.invokevirtual 67, 3) := by decide +kernel
theorem dL_law_581 : decode cL_law 581 = .ok (.aload_n 2, 1) := by decide +kernel
theorem dL_law_582 : decode cL_law 582 = .ok (.aload_n 0, 1) := by decide +kernel
theorem dL_law_583 : decode cL_law 583 = .ok (.iload 4, 2) := by decide +kernel
theorem dL_law_585 : decode cL_law 585 = .ok (.iconst 1, 1) := by decide +kernel
theorem dL_law_586 : decode cL_law 586 = .ok (.iadd, 1) := by decide +kernel
theorem dL_law_587 : decode cL_law 587 = .ok (.iaload, 1) := by decide +kernel
theorem dL_law_588 : decode cL_law 588 = .ok (.invokevirtual 71, 3) := by decide +kernel
theorem dL_law_591 : decode cL_law 591 = .ok (.if_icmp .eq 273, 3) := by decide +kernel
theorem dL_law_594 : decode cL_law 594 = .ok (.iconst 0, 1) := by decide +kernel
theorem dL_law_595 : decode cL_law 595 = .ok (.ireturn, 1) := by decide +kernel
theorem dL_law_596 : decode cL_law 596 = .ok (.aload_n 1, 1) := by decide +kernel
theorem dL_law_597 : decode cL_law 597 = .ok (.aload_n 0, 1) := by decide +kernel
theorem dL_law_598 : decode cL_law 598 = .ok (.iload 4, 2) := by decide +kernel
theorem dL_law_600 : decode cL_law 600 = .ok (.iconst 1, 1) := by decide +kernel
theorem dL_law_601 : decode cL_law 601 = .ok (.iadd, 1) := by decide +kernel
theorem dL_law_602 : decode cL_law 602 = .ok (.iaload, 1) := by decide +kernel
theorem dL_law_603 : decode cL_law 603 = .ok (.invokevirtual 72, 3) := by decide +kernel
theorem dL_law_606 : decode cL_law 606 = .ok (.aload_n 2, 1) := by decide +kernel
theorem dL_law_607 : decode cL_law 607 = .ok (.aload_n 0, 1) := by decide +kernel
theorem dL_law_608 : decode cL_law 608 = .ok (.iload 4, 2) := by decide +kernel
theorem dL_law_610 : decode cL_law 610 = .ok (.iconst 1, 1) := by decide +kernel
theorem dL_law_611 : decode cL_law 611 = .ok (.iadd, 1) := by decide +kernel
theorem dL_law_612 : decode cL_law 612 = .ok (.iaload, 1) := by decide +kernel
theorem dL_law_613 : decode cL_law 613 = .ok (.invokevirtual 75, 3) := by decide +kernel
theorem dL_law_616 : decode cL_law 616 = .ok (.if_icmp .eq 248, 3) := by decide +kernel
theorem dL_law_619 : decode cL_law 619 = .ok (.iconst 0, 1) := by decide +kernel
theorem dL_law_620 : decode cL_law 620 = .ok (.ireturn, 1) := by decide +kernel
theorem dL_law_621 : decode cL_law 621 = .ok (.aload_n 1, 1) := by decide +kernel
theorem dL_law_622 : decode cL_law 622 = .ok (.aload_n 0, 1) := by decide +kernel
theorem dL_law_623 : decode cL_law 623 = .ok (.iload 4, 2) := by decide +kernel
theorem dL_law_625 : decode cL_law 625 = .ok (.iconst 1, 1) := by decide +kernel
theorem dL_law_626 : decode cL_law 626 = .ok (.iadd, 1) := by decide +kernel
theorem dL_law_627 : decode cL_law 627 = .ok (.iaload, 1) := by decide +kernel
theorem dL_law_628 : decode cL_law 628 = .ok (.invokevirtual 76, 3) := by decide +kernel
theorem dL_law_631 : decode cL_law 631 = .ok (.aload_n 2, 1) := by decide +kernel
theorem dL_law_632 : decode cL_law 632 = .ok (.aload_n 0, 1) := by decide +kernel
theorem dL_law_633 : decode cL_law 633 = .ok (.iload 4, 2) := by decide +kernel
theorem dL_law_635 : decode cL_law 635 = .ok (.iconst 1, 1) := by decide +kernel
theorem dL_law_636 : decode cL_law 636 = .ok (.iadd, 1) := by decide +kernel
theorem dL_law_637 : decode cL_law 637 = .ok (.iaload, 1) := by decide +kernel
theorem dL_law_638 : decode cL_law 638 = .ok (.invokevirtual 79, 3) := by decide +kernel
theorem dL_law_641 : decode cL_law 641 = .ok (.if_icmp .eq 223, 3) := by decide +kernel
theorem dL_law_644 : decode cL_law 644 = .ok (.iconst 0, 1) := by decide +kernel
theorem dL_law_645 : decode cL_law 645 = .ok (.ireturn, 1) := by decide +kernel
theorem dL_law_646 : decode cL_law 646 = .ok (.aload_n 1, 1) := by decide +kernel
theorem dL_law_647 : decode cL_law 647 = .ok (.aload_n 0, 1) := by decide +kernel
theorem dL_law_648 : decode cL_law 648 = .ok (.iload 4, 2) := by decide +kernel
theorem dL_law_650 : decode cL_law 650 = .ok (.iconst 1, 1) := by decide +kernel
theorem dL_law_651 : decode cL_law 651 = .ok (.iadd, 1) := by decide +kernel
theorem dL_law_652 : decode cL_law 652 = .ok (.iaload, 1) := by decide +kernel
theorem dL_law_653 : decode cL_law 653 = .ok (.invokevirtual 80, 3) := by decide +kernel
theorem dL_law_656 : decode cL_law 656 = .ok (.aload_n 2, 1) := by decide +kernel
theorem dL_law_657 : decode cL_law 657 = .ok (.aload_n 0, 1) := by decide +kernel
theorem dL_law_658 : decode cL_law 658 = .ok (.iload 4, 2) := by decide +kernel
theorem dL_law_660 : decode cL_law 660 = .ok (.iconst 1, 1) := by decide +kernel
theorem dL_law_661 : decode cL_law 661 = .ok (.iadd, 1) := by decide +kernel
theorem dL_law_662 : decode cL_law 662 = .ok (.iaload, 1) := by decide +kernel
theorem dL_law_663 : decode cL_law 663 = .ok (.invokevirtual 83, 3) := by decide +kernel
theorem dL_law_666 : decode cL_law 666 = .ok (.if_icmp .eq 198, 3) := by decide +kernel
theorem dL_law_669 : decode cL_law 669 = .ok (.iconst 0, 1) := by decide +kernel
theorem dL_law_670 : decode cL_law 670 = .ok (.ireturn, 1) := by decide +kernel
theorem dL_law_671 : decode cL_law 671 = .ok (.aload_n 1, 1) := by decide +kernel
theorem dL_law_672 : decode cL_law 672 = .ok (.invokevirtual 84, 3) := by decide +kernel
theorem dL_law_675 : decode cL_law 675 = .ok (.aload_n 2, 1) := by decide +kernel
theorem dL_law_676 : decode cL_law 676 = .ok (.invokevirtual 87, 3) := by decide +kernel
theorem dL_law_679 : decode cL_law 679 = .ok (.if_icmp .eq 185, 3) := by decide +kernel
theorem dL_law_682 : decode cL_law 682 = .ok (.iconst 0, 1) := by decide +kernel
theorem dL_law_683 : decode cL_law 683 = .ok (.ireturn, 1) := by decide +kernel
theorem dL_law_684 : decode cL_law 684 = .ok (.aload_n 1, 1) := by decide +kernel
theorem dL_law_685 : decode cL_law 685 = .ok (.aload_n 0, 1) := by decide +kernel
theorem dL_law_686 : decode cL_law 686 = .ok (.iload 4, 2) := by decide +kernel
theorem dL_law_688 : decode cL_law 688 = .ok (.iconst 1, 1) := by decide +kernel
theorem dL_law_689 : decode cL_law 689 = .ok (.iadd, 1) := by decide +kernel
theorem dL_law_690 : decode cL_law 690 = .ok (.iaload, 1) := by decide +kernel
theorem dL_law_691 : decode cL_law 691 = .ok (.invokevirtual 88, 3) := by decide +kernel
theorem dL_law_694 : decode cL_law 694 = .ok (.aload_n 2, 1) := by decide +kernel
theorem dL_law_695 : decode cL_law 695 = .ok (.aload_n 0, 1) := by decide +kernel
theorem dL_law_696 : decode cL_law 696 = .ok (.iload 4, 2) := by decide +kernel
theorem dL_law_698 : decode cL_law 698 = .ok (.iconst 1, 1) := by decide +kernel
theorem dL_law_699 : decode cL_law 699 = .ok (.iadd, 1) := by decide +kernel
theorem dL_law_700 : decode cL_law 700 = .ok (.iaload, 1) := by decide +kernel
theorem dL_law_701 : decode cL_law 701 = .ok (.invokevirtual 91, 3) := by decide +kernel
theorem dL_law_704 : decode cL_law 704 = .ok (.if_icmp .eq 160, 3) := by decide +kernel
theorem dL_law_707 : decode cL_law 707 = .ok (.iconst 0, 1) := by decide +kernel
theorem dL_law_708 : decode cL_law 708 = .ok (.ireturn, 1) := by decide +kernel
theorem dL_law_709 : decode cL_law 709 = .ok (.aload_n 1, 1) := by decide +kernel
theorem dL_law_710 : decode cL_law 710 = .ok (.aload_n 0, 1) := by decide +kernel
theorem dL_law_711 : decode cL_law 711 = .ok (.iload 4, 2) := by decide +kernel
theorem dL_law_713 : decode cL_law 713 = .ok (.iconst 1, 1) := by decide +kernel
theorem dL_law_714 : decode cL_law 714 = .ok (.iadd, 1) := by decide +kernel
theorem dL_law_715 : decode cL_law 715 = .ok (.iaload, 1) := by decide +kernel
theorem dL_law_716 : decode cL_law 716 = .ok (.invokevirtual 92, 3) := by decide +kernel
theorem dL_law_719 : decode cL_law 719 = .ok (.aload_n 2, 1) := by decide +kernel
theorem dL_law_720 : decode cL_law 720 = .ok (.aload_n 0, 1) := by decide +kernel
theorem dL_law_721 : decode cL_law 721 = .ok (.iload 4, 2) := by decide +kernel
theorem dL_law_723 : decode cL_law 723 = .ok (.iconst 1, 1) := by decide +kernel
theorem dL_law_724 : decode cL_law 724 = .ok (.iadd, 1) := by decide +kernel
theorem dL_law_725 : decode cL_law 725 = .ok (.iaload, 1) := by decide +kernel
theorem dL_law_726 : decode cL_law 726 = .ok (.invokevirtual 95, 3) := by decide +kernel
theorem dL_law_729 : decode cL_law 729 = .ok (.if_icmp .eq 135, 3) := by decide +kernel
theorem dL_law_732 : decode cL_law 732 = .ok (.iconst 0, 1) := by decide +kernel
theorem dL_law_733 : decode cL_law 733 = .ok (.ireturn, 1) := by decide +kernel
theorem dL_law_734 : decode cL_law 734 = .ok (.aload_n 1, 1) := by decide +kernel
theorem dL_law_735 : decode cL_law 735 = .ok (.aload_n 0, 1) := by decide +kernel
theorem dL_law_736 : decode cL_law 736 = .ok (.iload 4, 2) := by decide +kernel
theorem dL_law_738 : decode cL_law 738 = .ok (.iconst 1, 1) := by decide +kernel
theorem dL_law_739 : decode cL_law 739 = .ok (.iadd, 1) := by decide +kernel
theorem dL_law_740 : decode cL_law 740 = .ok (.iaload, 1) := by decide +kernel
theorem dL_law_741 : decode cL_law 741 = .ok (.aload_n 0, 1) := by decide +kernel
theorem dL_law_742 : decode cL_law 742 = .ok (.iload 4, 2) := by decide +kernel
theorem dL_law_744 : decode cL_law 744 = .ok (.iconst 2, 1) := by decide +kernel
theorem dL_law_745 : decode cL_law 745 = .ok (.iadd, 1) := by decide +kernel
theorem dL_law_746 : decode cL_law 746 = .ok (.iaload, 1) := by decide +kernel
theorem dL_law_747 : decode cL_law 747 = .ok (.aload_n 3, 1) := by decide +kernel
theorem dL_law_748 : decode cL_law 748 = .ok (.invokestatic 96, 3) := by decide +kernel
theorem dL_law_751 : decode cL_law 751 = .ok (.istore 5, 2) := by decide +kernel
theorem dL_law_753 : decode cL_law 753 = .ok (.aload_n 2, 1) := by decide +kernel
theorem dL_law_754 : decode cL_law 754 = .ok (.aload_n 0, 1) := by decide +kernel
theorem dL_law_755 : decode cL_law 755 = .ok (.iload 4, 2) := by decide +kernel
theorem dL_law_757 : decode cL_law 757 = .ok (.iconst 1, 1) := by decide +kernel
theorem dL_law_758 : decode cL_law 758 = .ok (.iadd, 1) := by decide +kernel
theorem dL_law_759 : decode cL_law 759 = .ok (.iaload, 1) := by decide +kernel
theorem dL_law_760 : decode cL_law 760 = .ok (.aload_n 0, 1) := by decide +kernel
theorem dL_law_761 : decode cL_law 761 = .ok (.iload 4, 2) := by decide +kernel
theorem dL_law_763 : decode cL_law 763 = .ok (.iconst 2, 1) := by decide +kernel
theorem dL_law_764 : decode cL_law 764 = .ok (.iadd, 1) := by decide +kernel
theorem dL_law_765 : decode cL_law 765 = .ok (.iaload, 1) := by decide +kernel
theorem dL_law_766 : decode cL_law 766 = .ok (.invokevirtual 101, 3) := by decide +kernel
theorem dL_law_769 : decode cL_law 769 = .ok (.istore 6, 2) := by decide +kernel
theorem dL_law_771 : decode cL_law 771 = .ok (.aload_n 2, 1) := by decide +kernel
theorem dL_law_772 : decode cL_law 772 = .ok (.invokevirtual 102, 3) := by decide +kernel
theorem dL_law_775 : decode cL_law 775 = .ok (.iload 5, 2) := by decide +kernel
theorem dL_law_777 : decode cL_law 777 = .ok (.if_icmp .eq 5, 3) := by decide +kernel
theorem dL_law_780 : decode cL_law 780 = .ok (.iconst 0, 1) := by decide +kernel
theorem dL_law_781 : decode cL_law 781 = .ok (.ireturn, 1) := by decide +kernel
theorem dL_law_782 : decode cL_law 782 = .ok (.iload 5, 2) := by decide +kernel
theorem dL_law_784 : decode cL_law 784 = .ok (.ifCond .ne 15, 3) := by decide +kernel
theorem dL_law_787 : decode cL_law 787 = .ok (.aload_n 3, 1) := by decide +kernel
theorem dL_law_788 : decode cL_law 788 = .ok (.iconst 0, 1) := by decide +kernel
theorem dL_law_789 : decode cL_law 789 = .ok (.laload, 1) := by decide +kernel
theorem dL_law_790 : decode cL_law 790 = .ok (.iload 6, 2) := by decide +kernel
theorem dL_law_792 : decode cL_law 792 = .ok (.i2l, 1) := by decide +kernel
theorem dL_law_793 : decode cL_law 793 = .ok (.lcmp, 1) := by decide +kernel
theorem dL_law_794 : decode cL_law 794 = .ok (.ifCond .eq 5, 3) := by decide +kernel
theorem dL_law_797 : decode cL_law 797 = .ok (.iconst 0, 1) := by decide +kernel
theorem dL_law_798 : decode cL_law 798 = .ok (.ireturn, 1) := by decide +kernel
theorem dL_law_799 : decode cL_law 799 = .ok (.goto 65, 3) := by decide +kernel
theorem dL_law_802 : decode cL_law 802 = .ok (.aload_n 1, 1) := by decide +kernel
theorem dL_law_803 : decode cL_law 803 = .ok (.aload_n 0, 1) := by decide +kernel
theorem dL_law_804 : decode cL_law 804 = .ok (.iload 4, 2) := by decide +kernel
theorem dL_law_806 : decode cL_law 806 = .ok (.iconst 1, 1) := by decide +kernel
theorem dL_law_807 : decode cL_law 807 = .ok (.iadd, 1) := by decide +kernel
theorem dL_law_808 : decode cL_law 808 = .ok (.iaload, 1) := by decide +kernel
theorem dL_law_809 : decode cL_law 809 = .ok (.aload_n 0, 1) := by decide +kernel
theorem dL_law_810 : decode cL_law 810 = .ok (.iload 4, 2) := by decide +kernel
theorem dL_law_812 : decode cL_law 812 = .ok (.iconst 2, 1) := by decide +kernel
theorem dL_law_813 : decode cL_law 813 = .ok (.iadd, 1) := by decide +kernel
theorem dL_law_814 : decode cL_law 814 = .ok (.iaload, 1) := by decide +kernel
theorem dL_law_815 : decode cL_law 815 = .ok (.invokevirtual 105, 3) := by decide +kernel
theorem dL_law_818 : decode cL_law 818 = .ok (.aload_n 2, 1) := by decide +kernel
theorem dL_law_819 : decode cL_law 819 = .ok (.aload_n 0, 1) := by decide +kernel
theorem dL_law_820 : decode cL_law 820 = .ok (.iload 4, 2) := by decide +kernel
theorem dL_law_822 : decode cL_law 822 = .ok (.iconst 1, 1) := by decide +kernel
theorem dL_law_823 : decode cL_law 823 = .ok (.iadd, 1) := by decide +kernel
theorem dL_law_824 : decode cL_law 824 = .ok (.iaload, 1) := by decide +kernel
theorem dL_law_825 : decode cL_law 825 = .ok (.aload_n 0, 1) := by decide +kernel
theorem dL_law_826 : decode cL_law 826 = .ok (.iload 4, 2) := by decide +kernel
theorem dL_law_828 : decode cL_law 828 = .ok (.iconst 2, 1) := by decide +kernel
theorem dL_law_829 : decode cL_law 829 = .ok (.iadd, 1) := by decide +kernel
theorem dL_law_830 : decode cL_law 830 = .ok (.iaload, 1) := by decide +kernel
theorem dL_law_831 : decode cL_law 831 = .ok (.invokevirtual 108, 3) := by decide +kernel
theorem dL_law_834 : decode cL_law 834 = .ok (.if_icmp .eq 30, 3) := by decide +kernel
theorem dL_law_837 : decode cL_law 837 = .ok (.iconst 0, 1) := by decide +kernel
theorem dL_law_838 : decode cL_law 838 = .ok (.ireturn, 1) := by decide +kernel
theorem dL_law_839 : decode cL_law 839 = .ok (.aload_n 1, 1) := by decide +kernel
theorem dL_law_840 : decode cL_law 840 = .ok (.aload_n 0, 1) := by decide +kernel
theorem dL_law_841 : decode cL_law 841 = .ok (.iload 4, 2) := by decide +kernel
theorem dL_law_843 : decode cL_law 843 = .ok (.iconst 1, 1) := by decide +kernel
theorem dL_law_844 : decode cL_law 844 = .ok (.iadd, 1) := by decide +kernel
theorem dL_law_845 : decode cL_law 845 = .ok (.iaload, 1) := by decide +kernel
theorem dL_law_846 : decode cL_law 846 = .ok (.invokevirtual 109, 3) := by decide +kernel
theorem dL_law_849 : decode cL_law 849 = .ok (.aload_n 2, 1) := by decide +kernel
theorem dL_law_850 : decode cL_law 850 = .ok (.aload_n 0, 1) := by decide +kernel
theorem dL_law_851 : decode cL_law 851 = .ok (.iload 4, 2) := by decide +kernel
theorem dL_law_853 : decode cL_law 853 = .ok (.iconst 1, 1) := by decide +kernel
theorem dL_law_854 : decode cL_law 854 = .ok (.iadd, 1) := by decide +kernel
theorem dL_law_855 : decode cL_law 855 = .ok (.iaload, 1) := by decide +kernel
theorem dL_law_856 : decode cL_law 856 = .ok (.invokevirtual 112, 3) := by decide +kernel
theorem dL_law_859 : decode cL_law 859 = .ok (.if_icmp .eq 5, 3) := by decide +kernel
theorem dL_law_862 : decode cL_law 862 = .ok (.iconst 0, 1) := by decide +kernel
theorem dL_law_863 : decode cL_law 863 = .ok (.ireturn, 1) := by decide +kernel
theorem dL_law_864 : decode cL_law 864 = .ok (.iinc 4 6, 3) := by decide +kernel
theorem dL_law_867 : decode cL_law 867 = .ok (.goto (-844), 3) := by decide +kernel
theorem dL_law_870 : decode cL_law 870 = .ok (.iconst 1, 1) := by decide +kernel
theorem dL_law_871 : decode cL_law 871 = .ok (.ireturn, 1) := by decide +kernel
end
section
/-! THE LAYER: the cells of a made system by their numbers; their ints and longs as two functions; a step's meaning over them -/
abbrev dz_AV : Type := Int32 ⊕ (Int64 ⊕ Nat)
abbrev dz_MI : Type := Nat → Nat → Int32
abbrev dz_MJ : Type := Nat → Nat → Int64
abbrev dz_LS : Type := List (Nat × dz_AV)
abbrev dz_Ds : Type := (Nat × List (Option (Option Nat))) ⊕ (Nat × Nat × Nat)
abbrev dz_Pl : Type := Launch × va_G × (Nat → ClassId) × (Nat → Nat)
abbrev dz_Vt : Type := Nat → dz_MI → dz_MJ → dz_LS → List dz_AV → Prop
def dz_val (ad : Nat → Nat) (v : dz_AV) : Value := match v with
  | .inl x => .int x
  | .inr (.inl x) => .long x
  | .inr (.inr c) => .ref (ad c)
def dz_isL (v : dz_AV) : Bool := match v with
  | .inr (.inl _) => true
  | _ => false
theorem dz_cat (ad : Nat → Nat) (v : dz_AV) : ((dz_val ad v).category == 2) = dz_isL v := by
  rcases v with x | x | c <;> rfl
def dz_fv (ad : Nat → Nat) (r : Nat → Int32) (q : Nat → Int64) (k : Nat) (f : Option (Option Nat)) : Value := match f with
  | none => .int (r k)
  | some none => .long (q k)
  | some (some c) => .ref (ad c)
def dz_cel (cy : Nat → ClassId) (ad : Nat → Nat) (d : dz_Ds) (r : Nat → Int32) (q : Nat → Int64) : va_E := match d with
  | .inl (ci, fs) => .inr (ci, fs.mapIdx (fun k f => dz_fv ad r q k f))
  | .inr (0, n, _) => .inl (cy 0, n, .inl r)
  | .inr (1, n, _) => .inl (cy 1, n, .inr (.inl q))
  | .inr (2, n, _) => .inl (cy 2, n, .inl r)
  | .inr (k + 3, n, b) => .inl (cy (k + 3), n, .inr (.inr (.inr (.inr (fun i => if i < n then some (ad (b + i)) else none)))))
def dz_wl (π : dz_Pl) (Λ : Nat → dz_Ds) (N : Nat) (I : dz_MI) (J : dz_MJ) : va_W := (List.range N).map (fun c => (π.2.2.2 c, dz_cel π.2.2.1 π.2.2.2 (Λ c) (I c) (J c)))
def dz_tys (cy : Nat → ClassId) : List (ClassId × FieldType) := [(cy 0, .int), (cy 1, .long), (cy 2, .boolean), (cy 3, .array .int), (cy 4, .array .long)]
theorem dz_wl_get {π : dz_Pl} {Λ : Nat → dz_Ds} {N : Nat} {I : dz_MI} {J : dz_MJ} {c : Nat} (h : c < N) : (dz_wl π Λ N I J)[c]? = some (π.2.2.2 c, dz_cel π.2.2.1 π.2.2.2 (Λ c) (I c) (J c)) := by
  simp [dz_wl, List.getElem?_range h]
theorem dz_wl_at {π : dz_Pl} {Λ : Nat → dz_Ds} {N : Nat} {I : dz_MI} {J : dz_MJ} {k : Nat} {q : Nat × va_E} (h : (dz_wl π Λ N I J)[k]? = some q) : k < N ∧ q = (π.2.2.2 k, dz_cel π.2.2.1 π.2.2.2 (Λ k) (I k) (J k)) := by
  by_cases hk : k < N
  · rw [dz_wl_get hk] at h
    exact ⟨hk, (Option.some.inj h).symm⟩
  · rw [List.getElem?_eq_none (by simp [dz_wl]; omega)] at h
    cases h
theorem dz_wl_set {π : dz_Pl} {Λ : Nat → dz_Ds} {N : Nat} {I I' : dz_MI} {J J' : dz_MJ} {c : Nat} {e : va_E} (he : e = dz_cel π.2.2.1 π.2.2.2 (Λ c) (I' c) (J' c)) (ho : ∀ a, a ≠ c → I' a = I a ∧ J' a = J a) : (dz_wl π Λ N I J).set c (π.2.2.2 c, e) = dz_wl π Λ N I' J' := by
  apply List.ext_getElem?
  intro k
  by_cases hk : k < N
  · by_cases hc : k = c
    · subst hc
      rw [List.getElem?_set_self (by simp [dz_wl]; exact hk), dz_wl_get hk, he]
    · rw [List.getElem?_set_ne (Ne.symm hc), dz_wl_get hk, dz_wl_get hk, (ho k hc).1, (ho k hc).2]
  · rw [List.getElem?_eq_none (by simp [dz_wl]; omega), List.getElem?_eq_none (by simp [dz_wl]; omega)]
def dz_inj (ad : Nat → Nat) (N : Nat) : Prop := ∀ i j, i < N → j < N → ad i = ad j → i = j
theorem dz_wl_D {π : dz_Pl} {Λ : Nat → dz_Ds} {N : Nat} {I : dz_MI} {J : dz_MJ} {A : Nat → Prop} (hi : dz_inj π.2.2.2 N) (hA : ∀ c, c < N → A (π.2.2.2 c)) : va_D A (dz_wl π Λ N I J) := by
  refine ⟨fun i j p q hp hq h => ?_, fun k q hq => ?_⟩
  · obtain ⟨h1, rfl⟩ := dz_wl_at hp
    obtain ⟨h2, rfl⟩ := dz_wl_at hq
    exact hi i j h1 h2 h
  · obtain ⟨h1, rfl⟩ := dz_wl_at hq
    exact hA k h1
def dz_wi (I : dz_MI) (c k : Nat) (v : Int32) : dz_MI := fun a b => if a = c ∧ b = k then v else I a b
def dz_wj (J : dz_MJ) (c k : Nat) (v : Int64) : dz_MJ := fun a b => if a = c ∧ b = k then v else J a b
theorem dz_wi_s (I : dz_MI) (c k : Nat) (v : Int32) : dz_wi I c k v c k = v := by simp [dz_wi]
theorem dz_wi_n (I : dz_MI) {c k a b : Nat} (v : Int32) (h : ¬ (a = c ∧ b = k)) : dz_wi I c k v a b = I a b := if_neg h
theorem dz_wj_s (J : dz_MJ) (c k : Nat) (v : Int64) : dz_wj J c k v c k = v := by simp [dz_wj]
theorem dz_wj_n (J : dz_MJ) {c k a b : Nat} (v : Int64) (h : ¬ (a = c ∧ b = k)) : dz_wj J c k v a b = J a b := if_neg h
theorem dz_wi_row (I : dz_MI) (c k : Nat) (v : Int32) : dz_wi I c k v c = upd (I c) k v := by
  funext b; simp [dz_wi, upd]
theorem dz_wi_off (I : dz_MI) {c a : Nat} (k : Nat) (v : Int32) (h : a ≠ c) : dz_wi I c k v a = I a := by
  funext b; simp [dz_wi, h]
theorem dz_wj_row (J : dz_MJ) (c k : Nat) (v : Int64) : dz_wj J c k v c = vp_updL (J c) k v := by
  funext b; simp [dz_wj, vp_updL]
theorem dz_wj_off (J : dz_MJ) {c a : Nat} (k : Nat) (v : Int64) (h : a ≠ c) : dz_wj J c k v a = J a := by
  funext b; simp [dz_wj, h]
-- locals
def dz_st (ls : dz_LS) (k : Nat) (v : dz_AV) : dz_LS := (k, v) :: ls.filter (fun q => !(q.1 == k) && (!(dz_isL v && q.1 == k + 1) && !(q.1 + 1 == k && dz_isL q.2)))
def dz_map (ad : Nat → Nat) (ls : dz_LS) : List (Nat × Value) := ls.map (fun q => (q.1, dz_val ad q.2))
theorem dz_lookup_mem {ls : dz_LS} {k : Nat} {v : dz_AV} (h : ls.lookup k = some v) : (k, v) ∈ ls := by
  induction ls with
  | nil => cases h
  | cons q l ih =>
    obtain ⟨a, w⟩ := q
    rw [List.lookup_cons] at h
    by_cases hk : k == a
    · rw [hk] at h
      have : k = a := by simpa using hk
      subst this
      cases h
      exact List.mem_cons_self
    · have hk' : (k == a) = false := by simpa using hk
      rw [hk'] at h
      exact List.mem_cons_of_mem _ (ih h)
theorem dz_lk {ad : Nat → Nat} {lsA : Array Slot} {nL : Nat} {ls : dz_LS} {k : Nat} {v : dz_AV} (h : lv_has lsA nL (dz_map ad ls)) (hk : ls.lookup k = some v) : lsA[k]? = some (.val (dz_val ad v)) :=
  h.2.2 (k, dz_val ad v) (List.mem_map.mpr ⟨(k, v), dz_lookup_mem hk, rfl⟩)
theorem dz_lki {ad : Nat → Nat} {ls : dz_LS} {k : Nat} {v : dz_AV} (hk : ls.lookup k = some v) : ∃ j : Nat, (dz_map ad ls)[j]? = some (k, dz_val ad v) := by
  obtain ⟨j, hj⟩ := List.getElem?_of_mem (dz_lookup_mem hk)
  exact ⟨j, by rw [dz_map, List.getElem?_map, hj]; rfl⟩
theorem dz_st1 (ad : Nat → Nat) (ls : dz_LS) (k : Nat) (v : dz_AV) (hv : dz_isL v = false) : (k, dz_val ad v) :: (dz_map ad ls).filter (fun q => !(q.1 == k) && !(q.1 + 1 == k && q.2.category == 2)) = dz_map ad (dz_st ls k v) := by
  unfold dz_map dz_st
  rw [List.map_cons, List.filter_map]
  congr 2
  apply List.filter_congr
  intro q _
  simp only [Function.comp, dz_cat, hv, Bool.false_and, Bool.not_false, Bool.true_and]
theorem dz_st2 (ad : Nat → Nat) (ls : dz_LS) (k : Nat) (v : dz_AV) (hv : dz_isL v = true) : (k, dz_val ad v) :: (dz_map ad ls).filter (fun q => !(q.1 == k) && (!(q.1 == k + 1) && !(q.1 + 1 == k && q.2.category == 2))) = dz_map ad (dz_st ls k v) := by
  unfold dz_map dz_st
  rw [List.map_cons, List.filter_map]
  congr 2
  apply List.filter_congr
  intro q _
  simp only [Function.comp, dz_cat, hv, Bool.true_and]
def dz_sub (ls ls' : dz_LS) : Prop := ls'.map (fun q => ls.lookup q.1) = ls'.map (fun q => some q.2)
theorem dz_sub_has {ad : Nat → Nat} {lsA : Array Slot} {nL : Nat} {ls ls' : dz_LS} (h : lv_has lsA nL (dz_map ad ls)) (hs : dz_sub ls ls') : lv_has lsA nL (dz_map ad ls') := by
  refine ⟨h.1, h.2.1, fun q hq => ?_⟩
  obtain ⟨⟨k, v⟩, hm, rfl⟩ := List.mem_map.mp hq
  obtain ⟨j, hj⟩ := List.getElem?_of_mem hm
  have h1 : (ls'.map (fun q => ls.lookup q.1))[j]? = some (ls.lookup k) := by rw [List.getElem?_map, hj]; rfl
  have h2 : (ls'.map (fun q => some q.2))[j]? = some (some v) := by rw [List.getElem?_map, hj]; rfl
  have e : ls.lookup k = some v := by
    have := h1.symm.trans ((congrArg (fun l => l[j]?) hs).trans h2)
    exact Option.some.inj this
  exact dz_lk h e
end
section
/-! WORDS: one list for all methods; field tables of the classes; calls that are linked -/
def dz_WS : List Cond := lw_tbl.filter goodWord
theorem dz_WS_tbl : GoodIn lw_tbl dz_WS := fun w h => ⟨(List.mem_filter.mp h).1, good_of_word (List.mem_filter.mp h).2⟩
theorem dz_WS_good : ∀ w ∈ dz_WS, (w.onTables && w.keeps) = true ∨ ∃ ty, w = .arrayClass ty := fun w h => (dz_WS_tbl w h).2
theorem dz_GI {w0 : Cond} {ws : List Cond} (h : ∀ w ∈ ws, w ∈ dz_WS) : GoodIn (w0 :: dz_WS) ws := fun w hw => ⟨List.mem_cons_of_mem _ (h w hw), dz_WS_good w (h w hw)⟩
theorem dz_t0 {i : Nat} {w : Cond} (h : (k2_sels lw_privs)[i]? = some w) (g : goodWord w = true) : w ∈ dz_WS := List.mem_filter.mpr ⟨List.mem_append_left _ (List.mem_of_getElem? h), g⟩
theorem dz_t1 {i : Nat} {w : Cond} (h : tables_1_1[i]? = some w) (g : goodWord w = true) : w ∈ dz_WS := List.mem_filter.mpr ⟨List.mem_append_right _ (List.mem_append_left _ (List.mem_of_getElem? h)), g⟩
theorem dz_t2 {i : Nat} {w : Cond} (h : tables_1_2[i]? = some w) (g : goodWord w = true) : w ∈ dz_WS := List.mem_filter.mpr ⟨List.mem_append_right _ (List.mem_append_right _ (List.mem_append_left _ (List.mem_of_getElem? h))), g⟩
theorem dz_t3 {i : Nat} {w : Cond} (h : tables_1_3[i]? = some w) (g : goodWord w = true) : w ∈ dz_WS := List.mem_filter.mpr ⟨List.mem_append_right _ (List.mem_append_right _ (List.mem_append_right _ (List.mem_append_left _ (List.mem_of_getElem? h)))), g⟩
theorem dz_t4 {i : Nat} {w : Cond} (h : tables_1_4[i]? = some w) (g : goodWord w = true) : w ∈ dz_WS := List.mem_filter.mpr ⟨List.mem_append_right _ (List.mem_append_right _ (List.mem_append_right _ (List.mem_append_right _ (List.mem_of_getElem? h)))), g⟩
def dz_R (own : Nat) : String := match own with
  | 0 => RX0
  | 1 => RX1
  | 2 => RX2
  | 3 => RX3
  | 4 => RX4
  | 5 => RX5
  | _ => RJ6
def dz_T (own : Nat) : u_T := match own with
  | 0 => TX0
  | 1 => TX1
  | 2 => TX2
  | 3 => TX3
  | 4 => TX4
  | 5 => TX5
  | _ => TJ6
def dz_ty (own : Nat) : Nat → FieldType := match own with
  | 0 => tyX0
  | 1 => tyX1
  | 2 => tyX2
  | 3 => tyX3
  | 4 => tyX4
  | 5 => tyX5
  | _ => tyJ6
def dz_N (own : Nat) : Nat := match own with
  | 0 => 8
  | 1 => 4
  | 2 => 12
  | 3 => 2
  | 4 => 8
  | 5 => 31
  | _ => 0
def dz_ft (own : Nat) : List (Nat × Nat) := match own with
  | 0 => [(9, 0), (15, 1), (18, 2), (21, 3), (24, 4), (27, 5), (30, 6), (34, 7)]
  | 1 => [(13, 0), (16, 1), (20, 3), (28, 2)]
  | 2 => [(11, 0), (15, 1), (19, 2), (22, 3), (25, 4), (30, 5), (35, 6), (38, 7), (41, 8), (44, 10), (48, 11), (65, 9)]
  | 3 => [(9, 0), (15, 1)]
  | 4 => [(10, 0), (19, 1), (26, 2), (33, 3), (37, 4), (41, 5), (44, 6), (47, 7)]
  | 5 => [(9, 4), (13, 5), (16, 6), (19, 8), (23, 9), (26, 10), (29, 11), (32, 12), (35, 13), (38, 14), (41, 15), (44, 16), (47, 17), (50, 18), (53, 19), (56, 20), (59, 21), (62, 22), (65, 23), (68, 24), (73, 25), (76, 26), (80, 27), (83, 28), (86, 29), (89, 30), (92, 0), (99, 1), (102, 2), (105, 3), (112, 7)]
  | _ => []
/-- what the words say of a class own: its fields are laid, linked by the numbers of dz_ft -/
def dz_CF (own : Nat) : Prop := (∀ w ∈ u_ws (dz_R own) (dz_T own) (dz_N own), w ∈ dz_WS) ∧ (∀ k, k < dz_N own → parseFieldDescriptor (dz_T own k).2.2.1 = some (dz_ty own k)) ∧ (∀ a, a < dz_N own → ∀ b, b < dz_N own → a ≠ b → (dz_T own a).2.1 ≠ (dz_T own b).2.1) ∧ ∀ q ∈ dz_ft own, q.2 < dz_N own ∧ Cond.fieldLink (dz_R own) q.1 (dz_T own q.2).1 (dz_T own q.2).2.1 (dz_T own q.2).2.2.1 ∈ dz_WS
set_option maxRecDepth 100000 in
set_option maxHeartbeats 4000000 in
theorem dz_cf0 : dz_CF 0 := ⟨(List.forall_mem_cons.mpr ⟨(dz_t1 (i := 58) rfl rfl), (List.forall_mem_cons.mpr ⟨(dz_t1 (i := 60) rfl rfl), (List.forall_mem_cons.mpr ⟨(dz_t1 (i := 62) rfl rfl), (List.forall_mem_cons.mpr ⟨(dz_t1 (i := 64) rfl rfl), (List.forall_mem_cons.mpr ⟨(dz_t1 (i := 66) rfl rfl), (List.forall_mem_cons.mpr ⟨(dz_t1 (i := 68) rfl rfl), (List.forall_mem_cons.mpr ⟨(dz_t1 (i := 70) rfl rfl), (List.forall_mem_cons.mpr ⟨(dz_t1 (i := 72) rfl rfl), (fun _ h => absurd h List.not_mem_nil)⟩)⟩)⟩)⟩)⟩)⟩)⟩)⟩), tyX0_ok, nmX0, (List.forall_mem_cons.mpr ⟨⟨by decide, (dz_t1 (i := 50) rfl rfl)⟩, (List.forall_mem_cons.mpr ⟨⟨by decide, (dz_t1 (i := 51) rfl rfl)⟩, (List.forall_mem_cons.mpr ⟨⟨by decide, (dz_t1 (i := 52) rfl rfl)⟩, (List.forall_mem_cons.mpr ⟨⟨by decide, (dz_t1 (i := 53) rfl rfl)⟩, (List.forall_mem_cons.mpr ⟨⟨by decide, (dz_t1 (i := 54) rfl rfl)⟩, (List.forall_mem_cons.mpr ⟨⟨by decide, (dz_t1 (i := 55) rfl rfl)⟩, (List.forall_mem_cons.mpr ⟨⟨by decide, (dz_t1 (i := 56) rfl rfl)⟩, (List.forall_mem_cons.mpr ⟨⟨by decide, (dz_t1 (i := 57) rfl rfl)⟩, (fun _ h => absurd h List.not_mem_nil)⟩)⟩)⟩)⟩)⟩)⟩)⟩)⟩)⟩
set_option maxRecDepth 100000 in
set_option maxHeartbeats 4000000 in
theorem dz_cf1 : dz_CF 1 := ⟨(List.forall_mem_cons.mpr ⟨(dz_t1 (i := 34) rfl rfl), (List.forall_mem_cons.mpr ⟨(dz_t1 (i := 36) rfl rfl), (List.forall_mem_cons.mpr ⟨(dz_t1 (i := 38) rfl rfl), (List.forall_mem_cons.mpr ⟨(dz_t1 (i := 40) rfl rfl), (fun _ h => absurd h List.not_mem_nil)⟩)⟩)⟩)⟩), tyX1_ok, nmX1, (List.forall_mem_cons.mpr ⟨⟨by decide, (dz_t1 (i := 30) rfl rfl)⟩, (List.forall_mem_cons.mpr ⟨⟨by decide, (dz_t1 (i := 31) rfl rfl)⟩, (List.forall_mem_cons.mpr ⟨⟨by decide, (dz_t1 (i := 33) rfl rfl)⟩, (List.forall_mem_cons.mpr ⟨⟨by decide, (dz_t1 (i := 32) rfl rfl)⟩, (fun _ h => absurd h List.not_mem_nil)⟩)⟩)⟩)⟩)⟩
set_option maxRecDepth 100000 in
set_option maxHeartbeats 4000000 in
theorem dz_cf2 : dz_CF 2 := ⟨(List.forall_mem_cons.mpr ⟨(dz_t1 (i := 109) rfl rfl), (List.forall_mem_cons.mpr ⟨(dz_t1 (i := 111) rfl rfl), (List.forall_mem_cons.mpr ⟨(dz_t1 (i := 113) rfl rfl), (List.forall_mem_cons.mpr ⟨(dz_t1 (i := 115) rfl rfl), (List.forall_mem_cons.mpr ⟨(dz_t1 (i := 117) rfl rfl), (List.forall_mem_cons.mpr ⟨(dz_t1 (i := 119) rfl rfl), (List.forall_mem_cons.mpr ⟨(dz_t1 (i := 121) rfl rfl), (List.forall_mem_cons.mpr ⟨(dz_t1 (i := 123) rfl rfl), (List.forall_mem_cons.mpr ⟨(dz_t1 (i := 125) rfl rfl), (List.forall_mem_cons.mpr ⟨(dz_t1 (i := 127) rfl rfl), (List.forall_mem_cons.mpr ⟨(dz_t1 (i := 129) rfl rfl), (List.forall_mem_cons.mpr ⟨(dz_t1 (i := 131) rfl rfl), (fun _ h => absurd h List.not_mem_nil)⟩)⟩)⟩)⟩)⟩)⟩)⟩)⟩)⟩)⟩)⟩)⟩), tyX2_ok, nmX2, (List.forall_mem_cons.mpr ⟨⟨by decide, (dz_t1 (i := 97) rfl rfl)⟩, (List.forall_mem_cons.mpr ⟨⟨by decide, (dz_t1 (i := 98) rfl rfl)⟩, (List.forall_mem_cons.mpr ⟨⟨by decide, (dz_t1 (i := 99) rfl rfl)⟩, (List.forall_mem_cons.mpr ⟨⟨by decide, (dz_t1 (i := 100) rfl rfl)⟩, (List.forall_mem_cons.mpr ⟨⟨by decide, (dz_t1 (i := 101) rfl rfl)⟩, (List.forall_mem_cons.mpr ⟨⟨by decide, (dz_t1 (i := 102) rfl rfl)⟩, (List.forall_mem_cons.mpr ⟨⟨by decide, (dz_t1 (i := 103) rfl rfl)⟩, (List.forall_mem_cons.mpr ⟨⟨by decide, (dz_t1 (i := 104) rfl rfl)⟩, (List.forall_mem_cons.mpr ⟨⟨by decide, (dz_t1 (i := 105) rfl rfl)⟩, (List.forall_mem_cons.mpr ⟨⟨by decide, (dz_t1 (i := 107) rfl rfl)⟩, (List.forall_mem_cons.mpr ⟨⟨by decide, (dz_t1 (i := 108) rfl rfl)⟩, (List.forall_mem_cons.mpr ⟨⟨by decide, (dz_t1 (i := 106) rfl rfl)⟩, (fun _ h => absurd h List.not_mem_nil)⟩)⟩)⟩)⟩)⟩)⟩)⟩)⟩)⟩)⟩)⟩)⟩)⟩
set_option maxRecDepth 100000 in
set_option maxHeartbeats 4000000 in
theorem dz_cf3 : dz_CF 3 := ⟨(List.forall_mem_cons.mpr ⟨(dz_t1 (i := 83) rfl rfl), (List.forall_mem_cons.mpr ⟨(dz_t1 (i := 85) rfl rfl), (fun _ h => absurd h List.not_mem_nil)⟩)⟩), tyX3_ok, nmX3, (List.forall_mem_cons.mpr ⟨⟨by decide, (dz_t1 (i := 81) rfl rfl)⟩, (List.forall_mem_cons.mpr ⟨⟨by decide, (dz_t1 (i := 82) rfl rfl)⟩, (fun _ h => absurd h List.not_mem_nil)⟩)⟩)⟩
set_option maxRecDepth 100000 in
set_option maxHeartbeats 4000000 in
theorem dz_cf4 : dz_CF 4 := ⟨(List.forall_mem_cons.mpr ⟨(dz_t1 (i := 144) rfl rfl), (List.forall_mem_cons.mpr ⟨(dz_t1 (i := 146) rfl rfl), (List.forall_mem_cons.mpr ⟨(dz_t1 (i := 148) rfl rfl), (List.forall_mem_cons.mpr ⟨(dz_t1 (i := 150) rfl rfl), (List.forall_mem_cons.mpr ⟨(dz_t1 (i := 152) rfl rfl), (List.forall_mem_cons.mpr ⟨(dz_t1 (i := 154) rfl rfl), (List.forall_mem_cons.mpr ⟨(dz_t1 (i := 156) rfl rfl), (List.forall_mem_cons.mpr ⟨(dz_t1 (i := 158) rfl rfl), (fun _ h => absurd h List.not_mem_nil)⟩)⟩)⟩)⟩)⟩)⟩)⟩)⟩), tyX4_ok, nmX4, (List.forall_mem_cons.mpr ⟨⟨by decide, (dz_t1 (i := 136) rfl rfl)⟩, (List.forall_mem_cons.mpr ⟨⟨by decide, (dz_t1 (i := 137) rfl rfl)⟩, (List.forall_mem_cons.mpr ⟨⟨by decide, (dz_t1 (i := 138) rfl rfl)⟩, (List.forall_mem_cons.mpr ⟨⟨by decide, (dz_t1 (i := 139) rfl rfl)⟩, (List.forall_mem_cons.mpr ⟨⟨by decide, (dz_t1 (i := 140) rfl rfl)⟩, (List.forall_mem_cons.mpr ⟨⟨by decide, (dz_t1 (i := 141) rfl rfl)⟩, (List.forall_mem_cons.mpr ⟨⟨by decide, (dz_t1 (i := 142) rfl rfl)⟩, (List.forall_mem_cons.mpr ⟨⟨by decide, (dz_t1 (i := 143) rfl rfl)⟩, (fun _ h => absurd h List.not_mem_nil)⟩)⟩)⟩)⟩)⟩)⟩)⟩)⟩)⟩
set_option maxRecDepth 100000 in
set_option maxHeartbeats 4000000 in
theorem dz_cf5 : dz_CF 5 := ⟨(List.forall_mem_cons.mpr ⟨(dz_t3 (i := 161) rfl rfl), (List.forall_mem_cons.mpr ⟨(dz_t3 (i := 163) rfl rfl), (List.forall_mem_cons.mpr ⟨(dz_t3 (i := 165) rfl rfl), (List.forall_mem_cons.mpr ⟨(dz_t3 (i := 167) rfl rfl), (List.forall_mem_cons.mpr ⟨(dz_t3 (i := 169) rfl rfl), (List.forall_mem_cons.mpr ⟨(dz_t3 (i := 171) rfl rfl), (List.forall_mem_cons.mpr ⟨(dz_t3 (i := 173) rfl rfl), (List.forall_mem_cons.mpr ⟨(dz_t3 (i := 175) rfl rfl), (List.forall_mem_cons.mpr ⟨(dz_t3 (i := 177) rfl rfl), (List.forall_mem_cons.mpr ⟨(dz_t3 (i := 179) rfl rfl), (List.forall_mem_cons.mpr ⟨(dz_t3 (i := 181) rfl rfl), (List.forall_mem_cons.mpr ⟨(dz_t3 (i := 183) rfl rfl), (List.forall_mem_cons.mpr ⟨(dz_t3 (i := 185) rfl rfl), (List.forall_mem_cons.mpr ⟨(dz_t3 (i := 187) rfl rfl), (List.forall_mem_cons.mpr ⟨(dz_t3 (i := 189) rfl rfl), (List.forall_mem_cons.mpr ⟨(dz_t3 (i := 191) rfl rfl), (List.forall_mem_cons.mpr ⟨(dz_t3 (i := 193) rfl rfl), (List.forall_mem_cons.mpr ⟨(dz_t3 (i := 195) rfl rfl), (List.forall_mem_cons.mpr ⟨(dz_t3 (i := 197) rfl rfl), (List.forall_mem_cons.mpr ⟨(dz_t3 (i := 199) rfl rfl), (List.forall_mem_cons.mpr ⟨(dz_t3 (i := 201) rfl rfl), (List.forall_mem_cons.mpr ⟨(dz_t3 (i := 203) rfl rfl), (List.forall_mem_cons.mpr ⟨(dz_t3 (i := 205) rfl rfl), (List.forall_mem_cons.mpr ⟨(dz_t3 (i := 207) rfl rfl), (List.forall_mem_cons.mpr ⟨(dz_t3 (i := 209) rfl rfl), (List.forall_mem_cons.mpr ⟨(dz_t3 (i := 211) rfl rfl), (List.forall_mem_cons.mpr ⟨(dz_t3 (i := 213) rfl rfl), (List.forall_mem_cons.mpr ⟨(dz_t3 (i := 215) rfl rfl), (List.forall_mem_cons.mpr ⟨(dz_t3 (i := 217) rfl rfl), (List.forall_mem_cons.mpr ⟨(dz_t3 (i := 219) rfl rfl), (List.forall_mem_cons.mpr ⟨(dz_t3 (i := 221) rfl rfl), (fun _ h => absurd h List.not_mem_nil)⟩)⟩)⟩)⟩)⟩)⟩)⟩)⟩)⟩)⟩)⟩)⟩)⟩)⟩)⟩)⟩)⟩)⟩)⟩)⟩)⟩)⟩)⟩)⟩)⟩)⟩)⟩)⟩)⟩)⟩)⟩), tyX5_ok, nmX5, (List.forall_mem_cons.mpr ⟨⟨by decide, (dz_t3 (i := 134) rfl rfl)⟩, (List.forall_mem_cons.mpr ⟨⟨by decide, (dz_t3 (i := 135) rfl rfl)⟩, (List.forall_mem_cons.mpr ⟨⟨by decide, (dz_t3 (i := 136) rfl rfl)⟩, (List.forall_mem_cons.mpr ⟨⟨by decide, (dz_t3 (i := 138) rfl rfl)⟩, (List.forall_mem_cons.mpr ⟨⟨by decide, (dz_t3 (i := 139) rfl rfl)⟩, (List.forall_mem_cons.mpr ⟨⟨by decide, (dz_t3 (i := 140) rfl rfl)⟩, (List.forall_mem_cons.mpr ⟨⟨by decide, (dz_t3 (i := 141) rfl rfl)⟩, (List.forall_mem_cons.mpr ⟨⟨by decide, (dz_t3 (i := 142) rfl rfl)⟩, (List.forall_mem_cons.mpr ⟨⟨by decide, (dz_t3 (i := 143) rfl rfl)⟩, (List.forall_mem_cons.mpr ⟨⟨by decide, (dz_t3 (i := 144) rfl rfl)⟩, (List.forall_mem_cons.mpr ⟨⟨by decide, (dz_t3 (i := 145) rfl rfl)⟩, (List.forall_mem_cons.mpr ⟨⟨by decide, (dz_t3 (i := 146) rfl rfl)⟩, (List.forall_mem_cons.mpr ⟨⟨by decide, (dz_t3 (i := 147) rfl rfl)⟩, (List.forall_mem_cons.mpr ⟨⟨by decide, (dz_t3 (i := 148) rfl rfl)⟩, (List.forall_mem_cons.mpr ⟨⟨by decide, (dz_t3 (i := 149) rfl rfl)⟩, (List.forall_mem_cons.mpr ⟨⟨by decide, (dz_t3 (i := 150) rfl rfl)⟩, (List.forall_mem_cons.mpr ⟨⟨by decide, (dz_t3 (i := 151) rfl rfl)⟩, (List.forall_mem_cons.mpr ⟨⟨by decide, (dz_t3 (i := 152) rfl rfl)⟩, (List.forall_mem_cons.mpr ⟨⟨by decide, (dz_t3 (i := 153) rfl rfl)⟩, (List.forall_mem_cons.mpr ⟨⟨by decide, (dz_t3 (i := 154) rfl rfl)⟩, (List.forall_mem_cons.mpr ⟨⟨by decide, (dz_t3 (i := 155) rfl rfl)⟩, (List.forall_mem_cons.mpr ⟨⟨by decide, (dz_t3 (i := 156) rfl rfl)⟩, (List.forall_mem_cons.mpr ⟨⟨by decide, (dz_t3 (i := 157) rfl rfl)⟩, (List.forall_mem_cons.mpr ⟨⟨by decide, (dz_t3 (i := 158) rfl rfl)⟩, (List.forall_mem_cons.mpr ⟨⟨by decide, (dz_t3 (i := 159) rfl rfl)⟩, (List.forall_mem_cons.mpr ⟨⟨by decide, (dz_t3 (i := 160) rfl rfl)⟩, (List.forall_mem_cons.mpr ⟨⟨by decide, (dz_t3 (i := 130) rfl rfl)⟩, (List.forall_mem_cons.mpr ⟨⟨by decide, (dz_t3 (i := 131) rfl rfl)⟩, (List.forall_mem_cons.mpr ⟨⟨by decide, (dz_t3 (i := 132) rfl rfl)⟩, (List.forall_mem_cons.mpr ⟨⟨by decide, (dz_t3 (i := 133) rfl rfl)⟩, (List.forall_mem_cons.mpr ⟨⟨by decide, (dz_t3 (i := 137) rfl rfl)⟩, (fun _ h => absurd h List.not_mem_nil)⟩)⟩)⟩)⟩)⟩)⟩)⟩)⟩)⟩)⟩)⟩)⟩)⟩)⟩)⟩)⟩)⟩)⟩)⟩)⟩)⟩)⟩)⟩)⟩)⟩)⟩)⟩)⟩)⟩)⟩)⟩)⟩
theorem dz_cl : ∀ own, own < 6 → vwCl[own]? = some (dz_R own, dz_T own, dz_N own)
  | 0, _ => rfl
  | 1, _ => rfl
  | 2, _ => rfl
  | 3, _ => rfl
  | 4, _ => rfl
  | 5, _ => rfl
  | k + 6, h => absurd h (by omega)
theorem dz_cf : ∀ own, own < 6 → dz_CF own
  | 0, _ => dz_cf0
  | 1, _ => dz_cf1
  | 2, _ => dz_cf2
  | 3, _ => dz_cf3
  | 4, _ => dz_cf4
  | 5, _ => dz_cf5
  | k + 6, h => absurd h (by omega)
abbrev dz_Mu : Type := MethodName × ByteArray × Nat × Option FieldType
abbrev mX0_init : dz_Mu := (yX0_init, cX0_init, 1, none)
abbrev mX0_number : dz_Mu := (yX0_number, cX0_number, 1, (some .int))
abbrev mX0_placeNumber : dz_Mu := (yX0_placeNumber, cX0_placeNumber, 1, (some .int))
abbrev mX0_has : dz_Mu := (yX0_has, cX0_has, 2, (some .boolean))
abbrev mX0_hasPlace : dz_Mu := (yX0_hasPlace, cX0_hasPlace, 2, (some .boolean))
abbrev mX0_canTakeOne : dz_Mu := (yX0_canTakeOne, cX0_canTakeOne, 2, (some .boolean))
abbrev mX0_take : dz_Mu := (yX0_take, cX0_take, 5, (some .int))
abbrev mX0_columnOf : dz_Mu := (yX0_columnOf, cX0_columnOf, 2, (some .int))
abbrev mX0_startOf : dz_Mu := (yX0_startOf, cX0_startOf, 2, (some .int))
abbrev mX0_endOf : dz_Mu := (yX0_endOf, cX0_endOf, 2, (some .int))
abbrev mX0_footOf : dz_Mu := (yX0_footOf, cX0_footOf, 2, (some .int))
abbrev mX0_headOf : dz_Mu := (yX0_headOf, cX0_headOf, 2, (some .int))
abbrev mX0_isFoot : dz_Mu := (yX0_isFoot, cX0_isFoot, 2, (some .boolean))
abbrev mX0_isHead : dz_Mu := (yX0_isHead, cX0_isHead, 2, (some .boolean))
abbrev mX0_isFull : dz_Mu := (yX0_isFull, cX0_isFull, 2, (some .boolean))
abbrev mX0_allowsNext : dz_Mu := (yX0_allowsNext, cX0_allowsNext, 3, (some .boolean))
abbrev mX0_nextColumn : dz_Mu := (yX0_nextColumn, cX0_nextColumn, 4, (some .int))
abbrev mX0_placeOfStone : dz_Mu := (yX0_placeOfStone, cX0_placeOfStone, 6, (some .int))
abbrev mX1_init : dz_Mu := (yX1_init, cX1_init, 1, none)
abbrev mX1_number : dz_Mu := (yX1_number, cX1_number, 1, (some .int))
abbrev mX1_has : dz_Mu := (yX1_has, cX1_has, 2, (some .boolean))
abbrev mX1_fact : dz_Mu := (yX1_fact, cX1_fact, 3, (some .int))
abbrev mX1_keepMeasured : dz_Mu := (yX1_keepMeasured, cX1_keepMeasured, 5, none)
abbrev mX1_canTakeOne : dz_Mu := (yX1_canTakeOne, cX1_canTakeOne, 1, (some .boolean))
abbrev mX1_take : dz_Mu := (yX1_take, cX1_take, 6, (some .int))
abbrev mX1_areAlike : dz_Mu := (yX1_areAlike, cX1_areAlike, 2, (some .boolean))
abbrev mX1_turned : dz_Mu := (yX1_turned, cX1_turned, 3, (some .int))
abbrev mX1_leastTurn : dz_Mu := (yX1_leastTurn, cX1_leastTurn, 3, (some .int))
abbrev mX1_turnOn : dz_Mu := (yX1_turnOn, cX1_turnOn, 7, (some .int))
abbrev mX1_lyingOn : dz_Mu := (yX1_lyingOn, cX1_lyingOn, 5, (some .int))
abbrev mJ6_bitCount_0f7a4 : dz_Mu := (yJ6_bitCount_0f7a4, cJ6_bitCount_0f7a4, 1, (some .int))
abbrev mX1_pairsLying : dz_Mu := (yX1_pairsLying, cX1_pairsLying, 4, (some .int))
abbrev mX1_meanHeight : dz_Mu := (yX1_meanHeight, cX1_meanHeight, 3, (some .int))
abbrev mX2_init : dz_Mu := (yX2_init, cX2_init, 1, none)
abbrev mX2_leastNew : dz_Mu := (yX2_leastNew, cX2_leastNew, 1, (some .int))
abbrev mX2_bestWays : dz_Mu := (yX2_bestWays, cX2_bestWays, 1, (some .long))
abbrev mX2_hasWay : dz_Mu := (yX2_hasWay, cX2_hasWay, 1, (some .boolean))
abbrev mX2_isPlace : dz_Mu := (yX2_isPlace, cX2_isPlace, 2, (some .boolean))
abbrev mX2_firstAt : dz_Mu := (yX2_firstAt, cX2_firstAt, 2, (some .int))
abbrev mX2_bestHeldAt : dz_Mu := (yX2_bestHeldAt, cX2_bestHeldAt, 2, (some .int))
abbrev mX2_clear : dz_Mu := (yX2_clear, cX2_clear, 4, none)
abbrev mX2_allowOver : dz_Mu := (yX2_allowOver, cX2_allowOver, 3, none)
abbrev mX2_allowAt : dz_Mu := (yX2_allowAt, cX2_allowAt, 4, none)
abbrev mX2_itemsFor : dz_Mu := (yX2_itemsFor, cX2_itemsFor, 3, (some .int))
abbrev mX4_hasBit : dz_Mu := (yX4_hasBit, cX4_hasBit, 2, (some .boolean))
abbrev mX2_after : dz_Mu := (yX2_after, cX2_after, 5, (some .int))
abbrev mX2_reach : dz_Mu := (yX2_reach, cX2_reach, 6, none)
abbrev mX2_spreadDrums : dz_Mu := (yX2_spreadDrums, cX2_spreadDrums, 10, none)
abbrev mX2_spreadNew : dz_Mu := (yX2_spreadNew, cX2_spreadNew, 6, none)
abbrev mX2_reachWith : dz_Mu := (yX2_reachWith, cX2_reachWith, 3, none)
abbrev mX2_itemsToBest : dz_Mu := (yX2_itemsToBest, cX2_itemsToBest, 6, (some .int))
abbrev mX2_dropAllButBest : dz_Mu := (yX2_dropAllButBest, cX2_dropAllButBest, 6, none)
abbrev mX2_lowest : dz_Mu := (yX2_lowest, cX2_lowest, 2, (some .int))
abbrev mX2_walkFirst : dz_Mu := (yX2_walkFirst, cX2_walkFirst, 4, none)
abbrev mX2_findBest : dz_Mu := (yX2_findBest, cX2_findBest, 2, none)
abbrev mX3_init : dz_Mu := (yX3_init, cX3_init, 2, none)
abbrev mX3_isRow : dz_Mu := (yX3_isRow, cX3_isRow, 1, (some .boolean))
abbrev mX3_tell : dz_Mu := (yX3_tell, cX3_tell, 3, none)
abbrev mX3_toldOf : dz_Mu := (yX3_toldOf, cX3_toldOf, 2, (some .int))
abbrev mX3_toldNumber : dz_Mu := (yX3_toldNumber, cX3_toldNumber, 3, (some .int))
abbrev mX3_bar : dz_Mu := (yX3_bar, cX3_bar, 5, none)
abbrev mX3_isBarred : dz_Mu := (yX3_isBarred, cX3_isBarred, 3, (some .boolean))
abbrev mX4_init : dz_Mu := (yX4_init, cX4_init, 1, none)
abbrev mX4_isWithin : dz_Mu := (yX4_isWithin, cX4_isWithin, 3, (some .boolean))
abbrev mX4_isWidth : dz_Mu := (yX4_isWidth, cX4_isWidth, 1, (some .boolean))
abbrev mX4_measure : dz_Mu := (yX4_measure, cX4_measure, 5, (some .boolean))
abbrev mX4_isHoles : dz_Mu := (yX4_isHoles, cX4_isHoles, 1, (some .boolean))
abbrev mX4_drum : dz_Mu := (yX4_drum, cX4_drum, 6, (some .int))
abbrev mX4_set : dz_Mu := (yX4_set, cX4_set, 4, (some .boolean))
abbrev mX4_isWidthOrUntold : dz_Mu := (yX4_isWidthOrUntold, cX4_isWidthOrUntold, 1, (some .boolean))
abbrev mX4_column : dz_Mu := (yX4_column, cX4_column, 4, (some .int))
abbrev mX4_turn : dz_Mu := (yX4_turn, cX4_turn, 3, (some .int))
abbrev mX4_agrees : dz_Mu := (yX4_agrees, cX4_agrees, 4, (some .boolean))
abbrev mX4_fitsFoot : dz_Mu := (yX4_fitsFoot, cX4_fitsFoot, 3, (some .boolean))
abbrev mX4_fitsHead : dz_Mu := (yX4_fitsHead, cX4_fitsHead, 3, (some .boolean))
abbrev mX4_fits : dz_Mu := (yX4_fits, cX4_fits, 4, (some .int))
abbrev mX4_hand : dz_Mu := (yX4_hand, cX4_hand, 3, (some .boolean))
abbrev mX4_not : dz_Mu := (yX4_not, cX4_not, 4, (some .boolean))
abbrev mX4_itemsAllowedAt : dz_Mu := (yX4_itemsAllowedAt, cX4_itemsAllowedAt, 5, (some .int))
abbrev mX4_drawPaper : dz_Mu := (yX4_drawPaper, cX4_drawPaper, 2, none)
abbrev mX4_least : dz_Mu := (yX4_least, cX4_least, 1, (some .int))
abbrev mX4_ways : dz_Mu := (yX4_ways, cX4_ways, 1, (some .long))
abbrev mX4_first : dz_Mu := (yX4_first, cX4_first, 2, (some .int))
abbrev mX4_sure : dz_Mu := (yX4_sure, cX4_sure, 3, (some .int))
abbrev mX4_open : dz_Mu := (yX4_open, cX4_open, 4, (some .int))
abbrev mX4_loadOver : dz_Mu := (yX4_loadOver, cX4_loadOver, 6, (some .int))
abbrev mX4_bears : dz_Mu := (yX4_bears, cX4_bears, 3, (some .int))
abbrev mX4_cracked : dz_Mu := (yX4_cracked, cX4_cracked, 4, (some .int))
abbrev mX4_setting : dz_Mu := (yX4_setting, cX4_setting, 2, (some .int))
abbrev mX4_heightOf : dz_Mu := (yX4_heightOf, cX4_heightOf, 2, (some .int))
abbrev mX4_tall : dz_Mu := (yX4_tall, cX4_tall, 5, (some .int))
abbrev mX4_told : dz_Mu := (yX4_told, cX4_told, 3, (some .int))
abbrev mX4_place : dz_Mu := (yX4_place, cX4_place, 3, (some .int))
abbrev mX4_count : dz_Mu := (yX4_count, cX4_count, 2, (some .int))
abbrev mX5_init : dz_Mu := (yX5_init, cX5_init, 1, none)
abbrev mX5_thrown : dz_Mu := (yX5_thrown, cX5_thrown, 1, (some .int))
abbrev mX5_isIn : dz_Mu := (yX5_isIn, cX5_isIn, 3, (some .boolean))
abbrev mX5_isWidth : dz_Mu := (yX5_isWidth, cX5_isWidth, 1, (some .boolean))
abbrev mX5_isDrum : dz_Mu := (yX5_isDrum, cX5_isDrum, 2, (some .boolean))
abbrev mX5_isColumn : dz_Mu := (yX5_isColumn, cX5_isColumn, 2, (some .boolean))
abbrev mX5_isPlace : dz_Mu := (yX5_isPlace, cX5_isPlace, 2, (some .boolean))
abbrev mX5_measure : dz_Mu := (yX5_measure, cX5_measure, 5, (some .boolean))
abbrev mX5_drum : dz_Mu := (yX5_drum, cX5_drum, 6, (some .int))
abbrev mX5_set : dz_Mu := (yX5_set, cX5_set, 4, (some .boolean))
abbrev mX5_column : dz_Mu := (yX5_column, cX5_column, 5, (some .int))
abbrev mX5_turnOf : dz_Mu := (yX5_turnOf, cX5_turnOf, 5, (some .int))
abbrev mX5_turn : dz_Mu := (yX5_turn, cX5_turn, 3, (some .int))
abbrev mX5_fitsFoot : dz_Mu := (yX5_fitsFoot, cX5_fitsFoot, 3, (some .boolean))
abbrev mX5_fitsHead : dz_Mu := (yX5_fitsHead, cX5_fitsHead, 3, (some .boolean))
abbrev mX5_fits : dz_Mu := (yX5_fits, cX5_fits, 3, (some .int))
abbrev mX5_hand : dz_Mu := (yX5_hand, cX5_hand, 3, (some .boolean))
abbrev mX5_not : dz_Mu := (yX5_not, cX5_not, 4, (some .boolean))
abbrev mX5_index : dz_Mu := (yX5_index, cX5_index, 3, (some .int))
abbrev mX5_may : dz_Mu := (yX5_may, cX5_may, 8, (some .boolean))
abbrev mX5_behind : dz_Mu := (yX5_behind, cX5_behind, 4, (some .int))
abbrev mX5_isBest : dz_Mu := (yX5_isBest, cX5_isBest, 6, (some .boolean))
abbrev mX5_find : dz_Mu := (yX5_find, cX5_find, 8, (some .boolean))
abbrev mX5_use : dz_Mu := (yX5_use, cX5_use, 7, none)
abbrev mX5_least : dz_Mu := (yX5_least, cX5_least, 1, (some .int))
abbrev mX5_ways : dz_Mu := (yX5_ways, cX5_ways, 1, (some .long))
abbrev mX5_first : dz_Mu := (yX5_first, cX5_first, 2, (some .int))
abbrev mX5_sure : dz_Mu := (yX5_sure, cX5_sure, 3, (some .int))
abbrev mX5_open : dz_Mu := (yX5_open, cX5_open, 4, (some .int))
abbrev mX5_borne : dz_Mu := (yX5_borne, cX5_borne, 5, (some .int))
abbrev mX5_bears : dz_Mu := (yX5_bears, cX5_bears, 2, (some .int))
abbrev mX5_cracked : dz_Mu := (yX5_cracked, cX5_cracked, 3, (some .int))
abbrev mX5_isFull : dz_Mu := (yX5_isFull, cX5_isFull, 2, (some .boolean))
abbrev mX5_isLevel : dz_Mu := (yX5_isLevel, cX5_isLevel, 3, (some .boolean))
abbrev mX5_setting : dz_Mu := (yX5_setting, cX5_setting, 8, (some .int))
abbrev mX5_tall : dz_Mu := (yX5_tall, cX5_tall, 6, (some .int))
abbrev mX5_told : dz_Mu := (yX5_told, cX5_told, 3, (some .int))
abbrev mX5_place : dz_Mu := (yX5_place, cX5_place, 3, (some .int))
abbrev mX5_count : dz_Mu := (yX5_count, cX5_count, 5, (some .int))
abbrev mJ9_abs_0f7a4 : dz_Mu := (yJ9_abs_0f7a4, cJ9_abs_0f7a4, 1, (some .int))
abbrev mJ9_max_7cf53 : dz_Mu := (yJ9_max_7cf53, cJ9_max_7cf53, 2, (some .int))
abbrev mJ9_min_7cf53 : dz_Mu := (yJ9_min_7cf53, cJ9_min_7cf53, 2, (some .int))
abbrev mL_told : dz_Mu := (yL_told, cL_told, 5, (some .int))
def dz_MW (μ : dz_Mu) (n : Nat) : Prop := Cond.initialized μ.1.cls ∈ dz_WS ∧ Cond.code μ.1 μ.2.1 μ.2.2.1 μ.2.2.2 ∈ dz_WS ∧ μ.1.cls ≠ "java/lang/invoke/MethodHandle" ∧ μ.1.cls ≠ "java/lang/invoke/VarHandle" ∧ (parseMethodDescriptor μ.1.desc).map (fun d => d.parameters.length) = some n ∧ plainName μ.1.cls = true
def dz_Lv (own : String) (idx : Nat) (μ : dz_Mu) (n : Nat) : Prop := dz_MW μ n ∧ Cond.methodLink own idx μ.1 ∈ dz_WS ∧ Cond.instanceMethod μ.1 ∈ dz_WS ∧ Cond.selects μ.1.cls μ.1 μ.1 ∈ dz_WS
def dz_Ls (own : String) (idx : Nat) (μ : dz_Mu) (n : Nat) : Prop := dz_MW μ n ∧ Cond.methodLink own idx μ.1 ∈ dz_WS ∧ Cond.static μ.1 ∈ dz_WS
theorem dz_mX0_init : dz_MW mX0_init 0 := ⟨(dz_t1 (i := 3) rfl rfl), (dz_t1 (i := 48) rfl rfl), by decide, by decide, by decide +kernel, by decide⟩
theorem dz_mX0_number : dz_MW mX0_number 0 := ⟨(dz_t1 (i := 3) rfl rfl), (dz_t3 (i := 38) rfl rfl), by decide, by decide, by decide +kernel, by decide⟩
theorem dz_mX0_placeNumber : dz_MW mX0_placeNumber 0 := ⟨(dz_t1 (i := 3) rfl rfl), (dz_t2 (i := 81) rfl rfl), by decide, by decide, by decide +kernel, by decide⟩
theorem dz_mX0_has : dz_MW mX0_has 1 := ⟨(dz_t1 (i := 3) rfl rfl), (dz_t2 (i := 9) rfl rfl), by decide, by decide, by decide +kernel, by decide⟩
theorem dz_mX0_hasPlace : dz_MW mX0_hasPlace 1 := ⟨(dz_t1 (i := 3) rfl rfl), (dz_t2 (i := 43) rfl rfl), by decide, by decide, by decide +kernel, by decide⟩
theorem dz_mX0_canTakeOne : dz_MW mX0_canTakeOne 1 := ⟨(dz_t1 (i := 3) rfl rfl), (dz_t1 (i := 210) rfl rfl), by decide, by decide, by decide +kernel, by decide⟩
theorem dz_mX0_take : dz_MW mX0_take 3 := ⟨(dz_t1 (i := 3) rfl rfl), (dz_t1 (i := 214) rfl rfl), by decide, by decide, by decide +kernel, by decide⟩
theorem dz_mX0_columnOf : dz_MW mX0_columnOf 1 := ⟨(dz_t1 (i := 3) rfl rfl), (dz_t2 (i := 112) rfl rfl), by decide, by decide, by decide +kernel, by decide⟩
theorem dz_mX0_startOf : dz_MW mX0_startOf 1 := ⟨(dz_t1 (i := 3) rfl rfl), (dz_t2 (i := 122) rfl rfl), by decide, by decide, by decide +kernel, by decide⟩
theorem dz_mX0_endOf : dz_MW mX0_endOf 1 := ⟨(dz_t1 (i := 3) rfl rfl), (dz_t2 (i := 130) rfl rfl), by decide, by decide, by decide +kernel, by decide⟩
theorem dz_mX0_footOf : dz_MW mX0_footOf 1 := ⟨(dz_t1 (i := 3) rfl rfl), (dz_t2 (i := 21) rfl rfl), by decide, by decide, by decide +kernel, by decide⟩
theorem dz_mX0_headOf : dz_MW mX0_headOf 1 := ⟨(dz_t1 (i := 3) rfl rfl), (dz_t2 (i := 35) rfl rfl), by decide, by decide, by decide +kernel, by decide⟩
theorem dz_mX0_isFoot : dz_MW mX0_isFoot 1 := ⟨(dz_t1 (i := 3) rfl rfl), (dz_t2 (i := 117) rfl rfl), by decide, by decide, by decide +kernel, by decide⟩
theorem dz_mX0_isHead : dz_MW mX0_isHead 1 := ⟨(dz_t1 (i := 3) rfl rfl), (dz_t2 (i := 126) rfl rfl), by decide, by decide, by decide +kernel, by decide⟩
theorem dz_mX0_isFull : dz_MW mX0_isFull 1 := ⟨(dz_t1 (i := 3) rfl rfl), (dz_t3 (i := 9) rfl rfl), by decide, by decide, by decide +kernel, by decide⟩
theorem dz_mX0_allowsNext : dz_MW mX0_allowsNext 2 := ⟨(dz_t1 (i := 3) rfl rfl), (dz_t3 (i := 13) rfl rfl), by decide, by decide, by decide +kernel, by decide⟩
theorem dz_mX0_nextColumn : dz_MW mX0_nextColumn 1 := ⟨(dz_t1 (i := 3) rfl rfl), (dz_t3 (i := 5) rfl rfl), by decide, by decide, by decide +kernel, by decide⟩
theorem dz_mX0_placeOfStone : dz_MW mX0_placeOfStone 2 := ⟨(dz_t1 (i := 3) rfl rfl), (dz_t3 (i := 1) rfl rfl), by decide, by decide, by decide +kernel, by decide⟩
theorem dz_mX1_init : dz_MW mX1_init 0 := ⟨(dz_t1 (i := 2) rfl rfl), (dz_t1 (i := 26) rfl rfl), by decide, by decide, by decide +kernel, by decide⟩
theorem dz_mX1_number : dz_MW mX1_number 0 := ⟨(dz_t1 (i := 2) rfl rfl), (dz_t2 (i := 95) rfl rfl), by decide, by decide, by decide +kernel, by decide⟩
theorem dz_mX1_has : dz_MW mX1_has 1 := ⟨(dz_t1 (i := 2) rfl rfl), (dz_t1 (i := 227) rfl rfl), by decide, by decide, by decide +kernel, by decide⟩
theorem dz_mX1_fact : dz_MW mX1_fact 2 := ⟨(dz_t1 (i := 2) rfl rfl), (dz_t2 (i := 17) rfl rfl), by decide, by decide, by decide +kernel, by decide⟩
theorem dz_mX1_keepMeasured : dz_MW mX1_keepMeasured 4 := ⟨(dz_t1 (i := 2) rfl rfl), (dz_t1 (i := 174) rfl rfl), by decide, by decide, by decide +kernel, by decide⟩
theorem dz_mX1_canTakeOne : dz_MW mX1_canTakeOne 0 := ⟨(dz_t1 (i := 2) rfl rfl), (dz_t1 (i := 187) rfl rfl), by decide, by decide, by decide +kernel, by decide⟩
theorem dz_mX1_take : dz_MW mX1_take 5 := ⟨(dz_t1 (i := 2) rfl rfl), (dz_t1 (i := 191) rfl rfl), by decide, by decide, by decide +kernel, by decide⟩
theorem dz_mX1_areAlike : dz_MW mX1_areAlike 2 := ⟨(dz_t1 (i := 2) rfl rfl), (dz_t1 (i := 233) rfl rfl), by decide, by decide, by decide +kernel, by decide⟩
theorem dz_mX1_turned : dz_MW mX1_turned 2 := ⟨(dz_t1 (i := 2) rfl rfl), (dz_t1 (i := 239) rfl rfl), by decide, by decide, by decide +kernel, by decide⟩
theorem dz_mX1_leastTurn : dz_MW mX1_leastTurn 2 := ⟨(dz_t1 (i := 2) rfl rfl), (dz_t1 (i := 236) rfl rfl), by decide, by decide, by decide +kernel, by decide⟩
theorem dz_mX1_turnOn : dz_MW mX1_turnOn 3 := ⟨(dz_t1 (i := 2) rfl rfl), (dz_t1 (i := 223) rfl rfl), by decide, by decide, by decide +kernel, by decide⟩
theorem dz_mX1_lyingOn : dz_MW mX1_lyingOn 2 := ⟨(dz_t1 (i := 2) rfl rfl), (dz_t2 (i := 99) rfl rfl), by decide, by decide, by decide +kernel, by decide⟩
theorem dz_mJ6_bitCount_0f7a4 : dz_MW mJ6_bitCount_0f7a4 1 := ⟨(dz_t1 (i := 13) rfl rfl), (dz_t3 (i := 46) rfl rfl), by decide, by decide, by decide +kernel, by decide⟩
theorem dz_mX1_pairsLying : dz_MW mX1_pairsLying 1 := ⟨(dz_t1 (i := 2) rfl rfl), (dz_t3 (i := 42) rfl rfl), by decide, by decide, by decide +kernel, by decide⟩
theorem dz_mX1_meanHeight : dz_MW mX1_meanHeight 0 := ⟨(dz_t1 (i := 2) rfl rfl), (dz_t3 (i := 26) rfl rfl), by decide, by decide, by decide +kernel, by decide⟩
theorem dz_mX2_init : dz_MW mX2_init 0 := ⟨(dz_t1 (i := 5) rfl rfl), (dz_t1 (i := 92) rfl rfl), by decide, by decide, by decide +kernel, by decide⟩
theorem dz_mX2_leastNew : dz_MW mX2_leastNew 0 := ⟨(dz_t1 (i := 5) rfl rfl), (dz_t2 (i := 190) rfl rfl), by decide, by decide, by decide +kernel, by decide⟩
theorem dz_mX2_bestWays : dz_MW mX2_bestWays 0 := ⟨(dz_t1 (i := 5) rfl rfl), (dz_t2 (i := 198) rfl rfl), by decide, by decide, by decide +kernel, by decide⟩
theorem dz_mX2_hasWay : dz_MW mX2_hasWay 0 := ⟨(dz_t1 (i := 5) rfl rfl), (dz_t2 (i := 183) rfl rfl), by decide, by decide, by decide +kernel, by decide⟩
theorem dz_mX2_isPlace : dz_MW mX2_isPlace 1 := ⟨(dz_t1 (i := 5) rfl rfl), (dz_t2 (i := 138) rfl rfl), by decide, by decide, by decide +kernel, by decide⟩
theorem dz_mX2_firstAt : dz_MW mX2_firstAt 1 := ⟨(dz_t1 (i := 5) rfl rfl), (dz_t2 (i := 206) rfl rfl), by decide, by decide, by decide +kernel, by decide⟩
theorem dz_mX2_bestHeldAt : dz_MW mX2_bestHeldAt 1 := ⟨(dz_t1 (i := 5) rfl rfl), (dz_t2 (i := 214) rfl rfl), by decide, by decide, by decide +kernel, by decide⟩
theorem dz_mX2_clear : dz_MW mX2_clear 1 := ⟨(dz_t1 (i := 5) rfl rfl), (dz_t2 (i := 85) rfl rfl), by decide, by decide, by decide +kernel, by decide⟩
theorem dz_mX2_allowOver : dz_MW mX2_allowOver 2 := ⟨(dz_t1 (i := 5) rfl rfl), (dz_t2 (i := 104) rfl rfl), by decide, by decide, by decide +kernel, by decide⟩
theorem dz_mX2_allowAt : dz_MW mX2_allowAt 3 := ⟨(dz_t1 (i := 5) rfl rfl), (dz_t2 (i := 134) rfl rfl), by decide, by decide, by decide +kernel, by decide⟩
theorem dz_mX2_itemsFor : dz_MW mX2_itemsFor 2 := ⟨(dz_t1 (i := 5) rfl rfl), (dz_t2 (i := 154) rfl rfl), by decide, by decide, by decide +kernel, by decide⟩
theorem dz_mX4_hasBit : dz_MW mX4_hasBit 2 := ⟨(dz_t1 (i := 1) rfl rfl), (dz_t2 (i := 65) rfl rfl), by decide, by decide, by decide +kernel, by decide⟩
theorem dz_mX2_after : dz_MW mX2_after 3 := ⟨(dz_t1 (i := 5) rfl rfl), (dz_t2 (i := 159) rfl rfl), by decide, by decide, by decide +kernel, by decide⟩
theorem dz_mX2_reach : dz_MW mX2_reach 3 := ⟨(dz_t1 (i := 5) rfl rfl), (dz_t2 (i := 163) rfl rfl), by decide, by decide, by decide +kernel, by decide⟩
theorem dz_mX2_spreadDrums : dz_MW mX2_spreadDrums 2 := ⟨(dz_t1 (i := 5) rfl rfl), (dz_t2 (i := 150) rfl rfl), by decide, by decide, by decide +kernel, by decide⟩
theorem dz_mX2_spreadNew : dz_MW mX2_spreadNew 2 := ⟨(dz_t1 (i := 5) rfl rfl), (dz_t2 (i := 167) rfl rfl), by decide, by decide, by decide +kernel, by decide⟩
theorem dz_mX2_reachWith : dz_MW mX2_reachWith 1 := ⟨(dz_t1 (i := 5) rfl rfl), (dz_t2 (i := 146) rfl rfl), by decide, by decide, by decide +kernel, by decide⟩
theorem dz_mX2_itemsToBest : dz_MW mX2_itemsToBest 2 := ⟨(dz_t1 (i := 5) rfl rfl), (dz_t2 (i := 175) rfl rfl), by decide, by decide, by decide +kernel, by decide⟩
theorem dz_mX2_dropAllButBest : dz_MW mX2_dropAllButBest 0 := ⟨(dz_t1 (i := 5) rfl rfl), (dz_t2 (i := 171) rfl rfl), by decide, by decide, by decide +kernel, by decide⟩
theorem dz_mX2_lowest : dz_MW mX2_lowest 1 := ⟨(dz_t1 (i := 5) rfl rfl), (dz_t2 (i := 186) rfl rfl), by decide, by decide, by decide +kernel, by decide⟩
theorem dz_mX2_walkFirst : dz_MW mX2_walkFirst 0 := ⟨(dz_t1 (i := 5) rfl rfl), (dz_t2 (i := 179) rfl rfl), by decide, by decide, by decide +kernel, by decide⟩
theorem dz_mX2_findBest : dz_MW mX2_findBest 0 := ⟨(dz_t1 (i := 5) rfl rfl), (dz_t2 (i := 142) rfl rfl), by decide, by decide, by decide +kernel, by decide⟩
theorem dz_mX3_init : dz_MW mX3_init 0 := ⟨(dz_t1 (i := 4) rfl rfl), (dz_t1 (i := 79) rfl rfl), by decide, by decide, by decide +kernel, by decide⟩
theorem dz_mX3_isRow : dz_MW mX3_isRow 1 := ⟨(dz_t1 (i := 4) rfl rfl), (dz_t2 (i := 50) rfl rfl), by decide, by decide, by decide +kernel, by decide⟩
theorem dz_mX3_tell : dz_MW mX3_tell 2 := ⟨(dz_t1 (i := 4) rfl rfl), (dz_t2 (i := 54) rfl rfl), by decide, by decide, by decide +kernel, by decide⟩
theorem dz_mX3_toldOf : dz_MW mX3_toldOf 1 := ⟨(dz_t1 (i := 4) rfl rfl), (dz_t2 (i := 47) rfl rfl), by decide, by decide, by decide +kernel, by decide⟩
theorem dz_mX3_toldNumber : dz_MW mX3_toldNumber 0 := ⟨(dz_t1 (i := 4) rfl rfl), (dz_t3 (i := 53) rfl rfl), by decide, by decide, by decide +kernel, by decide⟩
theorem dz_mX3_bar : dz_MW mX3_bar 3 := ⟨(dz_t1 (i := 4) rfl rfl), (dz_t2 (i := 69) rfl rfl), by decide, by decide, by decide +kernel, by decide⟩
theorem dz_mX3_isBarred : dz_MW mX3_isBarred 2 := ⟨(dz_t1 (i := 4) rfl rfl), (dz_t2 (i := 62) rfl rfl), by decide, by decide, by decide +kernel, by decide⟩
theorem dz_mX4_init : dz_MW mX4_init 0 := ⟨(dz_t1 (i := 1) rfl rfl), (dz_t1 (i := 18) rfl rfl), by decide, by decide, by decide +kernel, by decide⟩
theorem dz_mX4_isWithin : dz_MW mX4_isWithin 3 := ⟨(dz_t1 (i := 1) rfl rfl), (dz_t1 (i := 170) rfl rfl), by decide, by decide, by decide +kernel, by decide⟩
theorem dz_mX4_isWidth : dz_MW mX4_isWidth 1 := ⟨(dz_t1 (i := 1) rfl rfl), (dz_t1 (i := 167) rfl rfl), by decide, by decide, by decide +kernel, by decide⟩
theorem dz_mX4_measure : dz_MW mX4_measure 4 := ⟨(dz_t1 (i := 1) rfl rfl), (dz_t1 (i := 164) rfl rfl), by decide, by decide, by decide +kernel, by decide⟩
theorem dz_mX4_isHoles : dz_MW mX4_isHoles 1 := ⟨(dz_t1 (i := 1) rfl rfl), (dz_t1 (i := 181) rfl rfl), by decide, by decide, by decide +kernel, by decide⟩
theorem dz_mX4_drum : dz_MW mX4_drum 5 := ⟨(dz_t1 (i := 1) rfl rfl), (dz_t1 (i := 178) rfl rfl), by decide, by decide, by decide +kernel, by decide⟩
theorem dz_mX4_set : dz_MW mX4_set 3 := ⟨(dz_t1 (i := 1) rfl rfl), (dz_t1 (i := 199) rfl rfl), by decide, by decide, by decide +kernel, by decide⟩
theorem dz_mX4_isWidthOrUntold : dz_MW mX4_isWidthOrUntold 1 := ⟨(dz_t1 (i := 1) rfl rfl), (dz_t1 (i := 206) rfl rfl), by decide, by decide, by decide +kernel, by decide⟩
theorem dz_mX4_column : dz_MW mX4_column 3 := ⟨(dz_t1 (i := 1) rfl rfl), (dz_t1 (i := 203) rfl rfl), by decide, by decide, by decide +kernel, by decide⟩
theorem dz_mX4_turn : dz_MW mX4_turn 2 := ⟨(dz_t1 (i := 1) rfl rfl), (dz_t1 (i := 219) rfl rfl), by decide, by decide, by decide +kernel, by decide⟩
theorem dz_mX4_agrees : dz_MW mX4_agrees 3 := ⟨(dz_t1 (i := 1) rfl rfl), (dz_t2 (i := 26) rfl rfl), by decide, by decide, by decide +kernel, by decide⟩
theorem dz_mX4_fitsFoot : dz_MW mX4_fitsFoot 2 := ⟨(dz_t1 (i := 1) rfl rfl), (dz_t2 (i := 13) rfl rfl), by decide, by decide, by decide +kernel, by decide⟩
theorem dz_mX4_fitsHead : dz_MW mX4_fitsHead 2 := ⟨(dz_t1 (i := 1) rfl rfl), (dz_t2 (i := 31) rfl rfl), by decide, by decide, by decide +kernel, by decide⟩
theorem dz_mX4_fits : dz_MW mX4_fits 2 := ⟨(dz_t1 (i := 1) rfl rfl), (dz_t2 (i := 4) rfl rfl), by decide, by decide, by decide +kernel, by decide⟩
theorem dz_mX4_hand : dz_MW mX4_hand 2 := ⟨(dz_t1 (i := 1) rfl rfl), (dz_t2 (i := 39) rfl rfl), by decide, by decide, by decide +kernel, by decide⟩
theorem dz_mX4_not : dz_MW mX4_not 3 := ⟨(dz_t1 (i := 1) rfl rfl), (dz_t2 (i := 58) rfl rfl), by decide, by decide, by decide +kernel, by decide⟩
theorem dz_mX4_itemsAllowedAt : dz_MW mX4_itemsAllowedAt 1 := ⟨(dz_t1 (i := 1) rfl rfl), (dz_t2 (i := 108) rfl rfl), by decide, by decide, by decide +kernel, by decide⟩
theorem dz_mX4_drawPaper : dz_MW mX4_drawPaper 0 := ⟨(dz_t1 (i := 1) rfl rfl), (dz_t2 (i := 77) rfl rfl), by decide, by decide, by decide +kernel, by decide⟩
theorem dz_mX4_least : dz_MW mX4_least 0 := ⟨(dz_t1 (i := 1) rfl rfl), (dz_t2 (i := 73) rfl rfl), by decide, by decide, by decide +kernel, by decide⟩
theorem dz_mX4_ways : dz_MW mX4_ways 0 := ⟨(dz_t1 (i := 1) rfl rfl), (dz_t2 (i := 194) rfl rfl), by decide, by decide, by decide +kernel, by decide⟩
theorem dz_mX4_first : dz_MW mX4_first 1 := ⟨(dz_t1 (i := 1) rfl rfl), (dz_t2 (i := 202) rfl rfl), by decide, by decide, by decide +kernel, by decide⟩
theorem dz_mX4_sure : dz_MW mX4_sure 1 := ⟨(dz_t1 (i := 1) rfl rfl), (dz_t2 (i := 210) rfl rfl), by decide, by decide, by decide +kernel, by decide⟩
theorem dz_mX4_open : dz_MW mX4_open 1 := ⟨(dz_t1 (i := 1) rfl rfl), (dz_t2 (i := 218) rfl rfl), by decide, by decide, by decide +kernel, by decide⟩
theorem dz_mX4_loadOver : dz_MW mX4_loadOver 1 := ⟨(dz_t1 (i := 1) rfl rfl), (dz_t2 (i := 227) rfl rfl), by decide, by decide, by decide +kernel, by decide⟩
theorem dz_mX4_bears : dz_MW mX4_bears 1 := ⟨(dz_t1 (i := 1) rfl rfl), (dz_t2 (i := 223) rfl rfl), by decide, by decide, by decide +kernel, by decide⟩
theorem dz_mX4_cracked : dz_MW mX4_cracked 0 := ⟨(dz_t1 (i := 1) rfl rfl), (dz_t2 (i := 232) rfl rfl), by decide, by decide, by decide +kernel, by decide⟩
theorem dz_mX4_setting : dz_MW mX4_setting 1 := ⟨(dz_t1 (i := 1) rfl rfl), (dz_t2 (i := 236) rfl rfl), by decide, by decide, by decide +kernel, by decide⟩
theorem dz_mX4_heightOf : dz_MW mX4_heightOf 1 := ⟨(dz_t1 (i := 1) rfl rfl), (dz_t3 (i := 22) rfl rfl), by decide, by decide, by decide +kernel, by decide⟩
theorem dz_mX4_tall : dz_MW mX4_tall 1 := ⟨(dz_t1 (i := 1) rfl rfl), (dz_t3 (i := 17) rfl rfl), by decide, by decide, by decide +kernel, by decide⟩
theorem dz_mX4_told : dz_MW mX4_told 2 := ⟨(dz_t1 (i := 1) rfl rfl), (dz_t3 (i := 61) rfl rfl), by decide, by decide, by decide +kernel, by decide⟩
theorem dz_mX4_place : dz_MW mX4_place 2 := ⟨(dz_t1 (i := 1) rfl rfl), (dz_t3 (i := 30) rfl rfl), by decide, by decide, by decide +kernel, by decide⟩
theorem dz_mX4_count : dz_MW mX4_count 1 := ⟨(dz_t1 (i := 1) rfl rfl), (dz_t3 (i := 34) rfl rfl), by decide, by decide, by decide +kernel, by decide⟩
theorem dz_mX5_init : dz_MW mX5_init 0 := ⟨(dz_t1 (i := 6) rfl rfl), (dz_t3 (i := 127) rfl rfl), by decide, by decide, by decide +kernel, by decide⟩
theorem dz_mX5_thrown : dz_MW mX5_thrown 0 := ⟨(dz_t1 (i := 6) rfl rfl), (dz_t3 (i := 227) rfl rfl), by decide, by decide, by decide +kernel, by decide⟩
theorem dz_mX5_isIn : dz_MW mX5_isIn 3 := ⟨(dz_t1 (i := 6) rfl rfl), (dz_t3 (i := 237) rfl rfl), by decide, by decide, by decide +kernel, by decide⟩
theorem dz_mX5_isWidth : dz_MW mX5_isWidth 1 := ⟨(dz_t1 (i := 6) rfl rfl), (dz_t3 (i := 234) rfl rfl), by decide, by decide, by decide +kernel, by decide⟩
theorem dz_mX5_isDrum : dz_MW mX5_isDrum 1 := ⟨(dz_t1 (i := 6) rfl rfl), (dz_t4 (i := 19) rfl rfl), by decide, by decide, by decide +kernel, by decide⟩
theorem dz_mX5_isColumn : dz_MW mX5_isColumn 1 := ⟨(dz_t1 (i := 6) rfl rfl), (dz_t4 (i := 32) rfl rfl), by decide, by decide, by decide +kernel, by decide⟩
theorem dz_mX5_isPlace : dz_MW mX5_isPlace 1 := ⟨(dz_t1 (i := 6) rfl rfl), (dz_t4 (i := 48) rfl rfl), by decide, by decide, by decide +kernel, by decide⟩
theorem dz_mX5_measure : dz_MW mX5_measure 4 := ⟨(dz_t1 (i := 6) rfl rfl), (dz_t3 (i := 231) rfl rfl), by decide, by decide, by decide +kernel, by decide⟩
theorem dz_mX5_drum : dz_MW mX5_drum 5 := ⟨(dz_t1 (i := 6) rfl rfl), (dz_t4 (i := 1) rfl rfl), by decide, by decide, by decide +kernel, by decide⟩
theorem dz_mX5_set : dz_MW mX5_set 3 := ⟨(dz_t1 (i := 6) rfl rfl), (dz_t4 (i := 7) rfl rfl), by decide, by decide, by decide +kernel, by decide⟩
theorem dz_mX5_column : dz_MW mX5_column 3 := ⟨(dz_t1 (i := 6) rfl rfl), (dz_t4 (i := 11) rfl rfl), by decide, by decide, by decide +kernel, by decide⟩
theorem dz_mX5_turnOf : dz_MW mX5_turnOf 2 := ⟨(dz_t1 (i := 6) rfl rfl), (dz_t4 (i := 23) rfl rfl), by decide, by decide, by decide +kernel, by decide⟩
theorem dz_mX5_turn : dz_MW mX5_turn 2 := ⟨(dz_t1 (i := 6) rfl rfl), (dz_t4 (i := 15) rfl rfl), by decide, by decide, by decide +kernel, by decide⟩
theorem dz_mX5_fitsFoot : dz_MW mX5_fitsFoot 2 := ⟨(dz_t1 (i := 6) rfl rfl), (dz_t4 (i := 36) rfl rfl), by decide, by decide, by decide +kernel, by decide⟩
theorem dz_mX5_fitsHead : dz_MW mX5_fitsHead 2 := ⟨(dz_t1 (i := 6) rfl rfl), (dz_t4 (i := 40) rfl rfl), by decide, by decide, by decide +kernel, by decide⟩
theorem dz_mX5_fits : dz_MW mX5_fits 2 := ⟨(dz_t1 (i := 6) rfl rfl), (dz_t4 (i := 28) rfl rfl), by decide, by decide, by decide +kernel, by decide⟩
theorem dz_mX5_hand : dz_MW mX5_hand 2 := ⟨(dz_t1 (i := 6) rfl rfl), (dz_t4 (i := 44) rfl rfl), by decide, by decide, by decide +kernel, by decide⟩
theorem dz_mX5_not : dz_MW mX5_not 3 := ⟨(dz_t1 (i := 6) rfl rfl), (dz_t4 (i := 52) rfl rfl), by decide, by decide, by decide +kernel, by decide⟩
theorem dz_mX5_index : dz_MW mX5_index 3 := ⟨(dz_t1 (i := 6) rfl rfl), (dz_t4 (i := 63) rfl rfl), by decide, by decide, by decide +kernel, by decide⟩
theorem dz_mX5_may : dz_MW mX5_may 4 := ⟨(dz_t1 (i := 6) rfl rfl), (dz_t4 (i := 67) rfl rfl), by decide, by decide, by decide +kernel, by decide⟩
theorem dz_mX5_behind : dz_MW mX5_behind 3 := ⟨(dz_t1 (i := 6) rfl rfl), (dz_t4 (i := 71) rfl rfl), by decide, by decide, by decide +kernel, by decide⟩
theorem dz_mX5_isBest : dz_MW mX5_isBest 4 := ⟨(dz_t1 (i := 6) rfl rfl), (dz_t4 (i := 75) rfl rfl), by decide, by decide, by decide +kernel, by decide⟩
theorem dz_mX5_find : dz_MW mX5_find 0 := ⟨(dz_t1 (i := 6) rfl rfl), (dz_t4 (i := 60) rfl rfl), by decide, by decide, by decide +kernel, by decide⟩
theorem dz_mX5_use : dz_MW mX5_use 0 := ⟨(dz_t1 (i := 6) rfl rfl), (dz_t4 (i := 91) rfl rfl), by decide, by decide, by decide +kernel, by decide⟩
theorem dz_mX5_least : dz_MW mX5_least 0 := ⟨(dz_t1 (i := 6) rfl rfl), (dz_t4 (i := 56) rfl rfl), by decide, by decide, by decide +kernel, by decide⟩
theorem dz_mX5_ways : dz_MW mX5_ways 0 := ⟨(dz_t1 (i := 6) rfl rfl), (dz_t4 (i := 79) rfl rfl), by decide, by decide, by decide +kernel, by decide⟩
theorem dz_mX5_first : dz_MW mX5_first 1 := ⟨(dz_t1 (i := 6) rfl rfl), (dz_t4 (i := 83) rfl rfl), by decide, by decide, by decide +kernel, by decide⟩
theorem dz_mX5_sure : dz_MW mX5_sure 1 := ⟨(dz_t1 (i := 6) rfl rfl), (dz_t4 (i := 87) rfl rfl), by decide, by decide, by decide +kernel, by decide⟩
theorem dz_mX5_open : dz_MW mX5_open 1 := ⟨(dz_t1 (i := 6) rfl rfl), (dz_t4 (i := 95) rfl rfl), by decide, by decide, by decide +kernel, by decide⟩
theorem dz_mX5_borne : dz_MW mX5_borne 1 := ⟨(dz_t1 (i := 6) rfl rfl), (dz_t4 (i := 103) rfl rfl), by decide, by decide, by decide +kernel, by decide⟩
theorem dz_mX5_bears : dz_MW mX5_bears 1 := ⟨(dz_t1 (i := 6) rfl rfl), (dz_t4 (i := 99) rfl rfl), by decide, by decide, by decide +kernel, by decide⟩
theorem dz_mX5_cracked : dz_MW mX5_cracked 0 := ⟨(dz_t1 (i := 6) rfl rfl), (dz_t4 (i := 107) rfl rfl), by decide, by decide, by decide +kernel, by decide⟩
theorem dz_mX5_isFull : dz_MW mX5_isFull 1 := ⟨(dz_t1 (i := 6) rfl rfl), (dz_t4 (i := 119) rfl rfl), by decide, by decide, by decide +kernel, by decide⟩
theorem dz_mX5_isLevel : dz_MW mX5_isLevel 1 := ⟨(dz_t1 (i := 6) rfl rfl), (dz_t4 (i := 115) rfl rfl), by decide, by decide, by decide +kernel, by decide⟩
theorem dz_mX5_setting : dz_MW mX5_setting 1 := ⟨(dz_t1 (i := 6) rfl rfl), (dz_t4 (i := 111) rfl rfl), by decide, by decide, by decide +kernel, by decide⟩
theorem dz_mX5_tall : dz_MW mX5_tall 1 := ⟨(dz_t1 (i := 6) rfl rfl), (dz_t4 (i := 123) rfl rfl), by decide, by decide, by decide +kernel, by decide⟩
theorem dz_mX5_told : dz_MW mX5_told 2 := ⟨(dz_t1 (i := 6) rfl rfl), (dz_t4 (i := 127) rfl rfl), by decide, by decide, by decide +kernel, by decide⟩
theorem dz_mX5_place : dz_MW mX5_place 2 := ⟨(dz_t1 (i := 6) rfl rfl), (dz_t4 (i := 131) rfl rfl), by decide, by decide, by decide +kernel, by decide⟩
theorem dz_mX5_count : dz_MW mX5_count 1 := ⟨(dz_t1 (i := 6) rfl rfl), (dz_t4 (i := 135) rfl rfl), by decide, by decide, by decide +kernel, by decide⟩
theorem dz_lL_101 : dz_Lv RL 101 mX5_told 2 := ⟨dz_mX5_told, (dz_t4 (i := 124) rfl rfl), (dz_t4 (i := 125) rfl rfl), (dz_t4 (i := 126) rfl rfl)⟩
theorem dz_lL_102 : dz_Lv RL 102 mX5_thrown 0 := ⟨dz_mX5_thrown, (dz_t3 (i := 224) rfl rfl), (dz_t3 (i := 225) rfl rfl), (dz_t3 (i := 226) rfl rfl)⟩
theorem dz_lL_105 : dz_Lv RL 105 mX4_place 2 := ⟨dz_mX4_place, (dz_t3 (i := 27) rfl rfl), (dz_t3 (i := 28) rfl rfl), (dz_t3 (i := 29) rfl rfl)⟩
theorem dz_lL_108 : dz_Lv RL 108 mX5_place 2 := ⟨dz_mX5_place, (dz_t4 (i := 128) rfl rfl), (dz_t4 (i := 129) rfl rfl), (dz_t4 (i := 130) rfl rfl)⟩
theorem dz_lL_109 : dz_Lv RL 109 mX4_count 1 := ⟨dz_mX4_count, (dz_t3 (i := 31) rfl rfl), (dz_t3 (i := 32) rfl rfl), (dz_t3 (i := 33) rfl rfl)⟩
theorem dz_lL_112 : dz_Lv RL 112 mX5_count 1 := ⟨dz_mX5_count, (dz_t4 (i := 132) rfl rfl), (dz_t4 (i := 133) rfl rfl), (dz_t4 (i := 134) rfl rfl)⟩
theorem dz_lL_19 : dz_Lv RL 19 mX4_measure 4 := ⟨dz_mX4_measure, (dz_t1 (i := 161) rfl rfl), (dz_t1 (i := 162) rfl rfl), (dz_t1 (i := 163) rfl rfl)⟩
theorem dz_lL_23 : dz_Lv RL 23 mX5_measure 4 := ⟨dz_mX5_measure, (dz_t3 (i := 228) rfl rfl), (dz_t3 (i := 229) rfl rfl), (dz_t3 (i := 230) rfl rfl)⟩
theorem dz_lL_24 : dz_Lv RL 24 mX4_drum 5 := ⟨dz_mX4_drum, (dz_t1 (i := 175) rfl rfl), (dz_t1 (i := 176) rfl rfl), (dz_t1 (i := 177) rfl rfl)⟩
theorem dz_lL_28 : dz_Lv RL 28 mX5_drum 5 := ⟨dz_mX5_drum, (dz_t3 (i := 238) rfl rfl), (dz_t3 (i := 239) rfl rfl), (dz_t4 (i := 0) rfl rfl)⟩
theorem dz_lL_29 : dz_Lv RL 29 mX4_set 3 := ⟨dz_mX4_set, (dz_t1 (i := 196) rfl rfl), (dz_t1 (i := 197) rfl rfl), (dz_t1 (i := 198) rfl rfl)⟩
theorem dz_lL_33 : dz_Lv RL 33 mX5_set 3 := ⟨dz_mX5_set, (dz_t4 (i := 4) rfl rfl), (dz_t4 (i := 5) rfl rfl), (dz_t4 (i := 6) rfl rfl)⟩
theorem dz_lL_34 : dz_Lv RL 34 mX4_column 3 := ⟨dz_mX4_column, (dz_t1 (i := 200) rfl rfl), (dz_t1 (i := 201) rfl rfl), (dz_t1 (i := 202) rfl rfl)⟩
theorem dz_lL_38 : dz_Lv RL 38 mX5_column 3 := ⟨dz_mX5_column, (dz_t4 (i := 8) rfl rfl), (dz_t4 (i := 9) rfl rfl), (dz_t4 (i := 10) rfl rfl)⟩
theorem dz_lL_39 : dz_Lv RL 39 mX4_turn 2 := ⟨dz_mX4_turn, (dz_t1 (i := 216) rfl rfl), (dz_t1 (i := 217) rfl rfl), (dz_t1 (i := 218) rfl rfl)⟩
theorem dz_lL_42 : dz_Lv RL 42 mX5_turn 2 := ⟨dz_mX5_turn, (dz_t4 (i := 12) rfl rfl), (dz_t4 (i := 13) rfl rfl), (dz_t4 (i := 14) rfl rfl)⟩
theorem dz_lL_43 : dz_Lv RL 43 mX4_fits 2 := ⟨dz_mX4_fits, (dz_t2 (i := 1) rfl rfl), (dz_t2 (i := 2) rfl rfl), (dz_t2 (i := 3) rfl rfl)⟩
theorem dz_lL_46 : dz_Lv RL 46 mX5_fits 2 := ⟨dz_mX5_fits, (dz_t4 (i := 25) rfl rfl), (dz_t4 (i := 26) rfl rfl), (dz_t4 (i := 27) rfl rfl)⟩
theorem dz_lL_47 : dz_Lv RL 47 mX4_hand 2 := ⟨dz_mX4_hand, (dz_t2 (i := 36) rfl rfl), (dz_t2 (i := 37) rfl rfl), (dz_t2 (i := 38) rfl rfl)⟩
theorem dz_lL_51 : dz_Lv RL 51 mX5_hand 2 := ⟨dz_mX5_hand, (dz_t4 (i := 41) rfl rfl), (dz_t4 (i := 42) rfl rfl), (dz_t4 (i := 43) rfl rfl)⟩
theorem dz_lL_52 : dz_Lv RL 52 mX4_not 3 := ⟨dz_mX4_not, (dz_t2 (i := 55) rfl rfl), (dz_t2 (i := 56) rfl rfl), (dz_t2 (i := 57) rfl rfl)⟩
theorem dz_lL_56 : dz_Lv RL 56 mX5_not 3 := ⟨dz_mX5_not, (dz_t4 (i := 49) rfl rfl), (dz_t4 (i := 50) rfl rfl), (dz_t4 (i := 51) rfl rfl)⟩
theorem dz_lL_57 : dz_Lv RL 57 mX4_least 0 := ⟨dz_mX4_least, (dz_t2 (i := 70) rfl rfl), (dz_t2 (i := 71) rfl rfl), (dz_t2 (i := 72) rfl rfl)⟩
theorem dz_lL_61 : dz_Lv RL 61 mX5_least 0 := ⟨dz_mX5_least, (dz_t4 (i := 53) rfl rfl), (dz_t4 (i := 54) rfl rfl), (dz_t4 (i := 55) rfl rfl)⟩
theorem dz_lL_62 : dz_Lv RL 62 mX4_ways 0 := ⟨dz_mX4_ways, (dz_t2 (i := 191) rfl rfl), (dz_t2 (i := 192) rfl rfl), (dz_t2 (i := 193) rfl rfl)⟩
theorem dz_lL_66 : dz_Lv RL 66 mX5_ways 0 := ⟨dz_mX5_ways, (dz_t4 (i := 76) rfl rfl), (dz_t4 (i := 77) rfl rfl), (dz_t4 (i := 78) rfl rfl)⟩
theorem dz_lL_67 : dz_Lv RL 67 mX4_first 1 := ⟨dz_mX4_first, (dz_t2 (i := 199) rfl rfl), (dz_t2 (i := 200) rfl rfl), (dz_t2 (i := 201) rfl rfl)⟩
theorem dz_lL_7 : dz_Lv RL 7 mX4_told 2 := ⟨dz_mX4_told, (dz_t3 (i := 58) rfl rfl), (dz_t3 (i := 59) rfl rfl), (dz_t3 (i := 60) rfl rfl)⟩
theorem dz_lL_71 : dz_Lv RL 71 mX5_first 1 := ⟨dz_mX5_first, (dz_t4 (i := 80) rfl rfl), (dz_t4 (i := 81) rfl rfl), (dz_t4 (i := 82) rfl rfl)⟩
theorem dz_lL_72 : dz_Lv RL 72 mX4_sure 1 := ⟨dz_mX4_sure, (dz_t2 (i := 207) rfl rfl), (dz_t2 (i := 208) rfl rfl), (dz_t2 (i := 209) rfl rfl)⟩
theorem dz_lL_75 : dz_Lv RL 75 mX5_sure 1 := ⟨dz_mX5_sure, (dz_t4 (i := 84) rfl rfl), (dz_t4 (i := 85) rfl rfl), (dz_t4 (i := 86) rfl rfl)⟩
theorem dz_lL_76 : dz_Lv RL 76 mX4_open 1 := ⟨dz_mX4_open, (dz_t2 (i := 215) rfl rfl), (dz_t2 (i := 216) rfl rfl), (dz_t2 (i := 217) rfl rfl)⟩
theorem dz_lL_79 : dz_Lv RL 79 mX5_open 1 := ⟨dz_mX5_open, (dz_t4 (i := 92) rfl rfl), (dz_t4 (i := 93) rfl rfl), (dz_t4 (i := 94) rfl rfl)⟩
theorem dz_lL_80 : dz_Lv RL 80 mX4_bears 1 := ⟨dz_mX4_bears, (dz_t2 (i := 220) rfl rfl), (dz_t2 (i := 221) rfl rfl), (dz_t2 (i := 222) rfl rfl)⟩
theorem dz_lL_83 : dz_Lv RL 83 mX5_bears 1 := ⟨dz_mX5_bears, (dz_t4 (i := 96) rfl rfl), (dz_t4 (i := 97) rfl rfl), (dz_t4 (i := 98) rfl rfl)⟩
theorem dz_lL_84 : dz_Lv RL 84 mX4_cracked 0 := ⟨dz_mX4_cracked, (dz_t2 (i := 229) rfl rfl), (dz_t2 (i := 230) rfl rfl), (dz_t2 (i := 231) rfl rfl)⟩
theorem dz_lL_87 : dz_Lv RL 87 mX5_cracked 0 := ⟨dz_mX5_cracked, (dz_t4 (i := 104) rfl rfl), (dz_t4 (i := 105) rfl rfl), (dz_t4 (i := 106) rfl rfl)⟩
theorem dz_lL_88 : dz_Lv RL 88 mX4_setting 1 := ⟨dz_mX4_setting, (dz_t2 (i := 233) rfl rfl), (dz_t2 (i := 234) rfl rfl), (dz_t2 (i := 235) rfl rfl)⟩
theorem dz_lL_91 : dz_Lv RL 91 mX5_setting 1 := ⟨dz_mX5_setting, (dz_t4 (i := 108) rfl rfl), (dz_t4 (i := 109) rfl rfl), (dz_t4 (i := 110) rfl rfl)⟩
theorem dz_lL_92 : dz_Lv RL 92 mX4_tall 1 := ⟨dz_mX4_tall, (dz_t3 (i := 14) rfl rfl), (dz_t3 (i := 15) rfl rfl), (dz_t3 (i := 16) rfl rfl)⟩
theorem dz_lL_95 : dz_Lv RL 95 mX5_tall 1 := ⟨dz_mX5_tall, (dz_t4 (i := 120) rfl rfl), (dz_t4 (i := 121) rfl rfl), (dz_t4 (i := 122) rfl rfl)⟩
theorem dz_lX0_37 : dz_Lv RX0 37 mX0_canTakeOne 1 := ⟨dz_mX0_canTakeOne, (dz_t1 (i := 215) rfl rfl), (dz_t1 (i := 208) rfl rfl), (dz_t1 (i := 209) rfl rfl)⟩
theorem dz_lX0_41 : dz_Lv RX0 41 mX0_hasPlace 1 := ⟨dz_mX0_hasPlace, (dz_t2 (i := 113) rfl rfl), (dz_t2 (i := 41) rfl rfl), (dz_t2 (i := 42) rfl rfl)⟩
theorem dz_lX0_44 : dz_Lv RX0 44 mX0_has 1 := ⟨dz_mX0_has, (dz_t2 (i := 22) rfl rfl), (dz_t2 (i := 7) rfl rfl), (dz_t2 (i := 8) rfl rfl)⟩
theorem dz_lX0_47 : dz_Lv RX0 47 mX0_columnOf 1 := ⟨dz_mX0_columnOf, (dz_t2 (i := 118) rfl rfl), (dz_t2 (i := 110) rfl rfl), (dz_t2 (i := 111) rfl rfl)⟩
theorem dz_lX0_51 : dz_Lv RX0 51 mX0_startOf 1 := ⟨dz_mX0_startOf, (dz_t2 (i := 119) rfl rfl), (dz_t2 (i := 120) rfl rfl), (dz_t2 (i := 121) rfl rfl)⟩
theorem dz_lX0_54 : dz_Lv RX0 54 mX0_endOf 1 := ⟨dz_mX0_endOf, (dz_t2 (i := 127) rfl rfl), (dz_t2 (i := 128) rfl rfl), (dz_t2 (i := 129) rfl rfl)⟩
theorem dz_lX0_57 : dz_Lv RX0 57 mX0_nextColumn 1 := ⟨dz_mX0_nextColumn, (dz_t3 (i := 2) rfl rfl), (dz_t3 (i := 4) rfl rfl), (dz_t0 (i := 16) rfl rfl)⟩
theorem dz_lX0_60 : dz_Lv RX0 60 mX0_isFull 1 := ⟨dz_mX0_isFull, (dz_t3 (i := 6) rfl rfl), (dz_t3 (i := 8) rfl rfl), (dz_t0 (i := 17) rfl rfl)⟩
theorem dz_lX0_63 : dz_Lv RX0 63 mX0_allowsNext 2 := ⟨dz_mX0_allowsNext, (dz_t3 (i := 10) rfl rfl), (dz_t3 (i := 12) rfl rfl), (dz_t0 (i := 18) rfl rfl)⟩
theorem dz_lX1_24 : dz_Lv RX1 24 mX1_has 1 := ⟨dz_mX1_has, (dz_t1 (i := 224) rfl rfl), (dz_t1 (i := 225) rfl rfl), (dz_t1 (i := 226) rfl rfl)⟩
theorem dz_lX1_32 : dz_Lv RX1 32 mX1_canTakeOne 0 := ⟨dz_mX1_canTakeOne, (dz_t1 (i := 192) rfl rfl), (dz_t1 (i := 185) rfl rfl), (dz_t1 (i := 186) rfl rfl)⟩
theorem dz_lX1_48 : dz_Ls RX1 48 mX1_areAlike 2 := ⟨dz_mX1_areAlike, (dz_t1 (i := 231) rfl rfl), (dz_t1 (i := 232) rfl rfl)⟩
theorem dz_lX1_52 : dz_Ls RX1 52 mX1_leastTurn 2 := ⟨dz_mX1_leastTurn, (dz_t1 (i := 234) rfl rfl), (dz_t1 (i := 235) rfl rfl)⟩
theorem dz_lX1_56 : dz_Lv RX1 56 mX1_turnOn 3 := ⟨dz_mX1_turnOn, (dz_t2 (i := 100) rfl rfl), (dz_t1 (i := 221) rfl rfl), (dz_t1 (i := 222) rfl rfl)⟩
theorem dz_lX1_60 : dz_Lv RX1 60 mX1_lyingOn 2 := ⟨dz_mX1_lyingOn, (dz_t3 (i := 43) rfl rfl), (dz_t2 (i := 97) rfl rfl), (dz_t2 (i := 98) rfl rfl)⟩
theorem dz_lX1_63 : dz_Ls RX1 63 mJ6_bitCount_0f7a4 1 := ⟨dz_mJ6_bitCount_0f7a4, (dz_t3 (i := 44) rfl rfl), (dz_t3 (i := 45) rfl rfl)⟩
theorem dz_lX1_68 : dz_Ls RX1 68 mX1_turned 2 := ⟨dz_mX1_turned, (dz_t1 (i := 237) rfl rfl), (dz_t1 (i := 238) rfl rfl)⟩
theorem dz_lX2_100 : dz_Lv RX2 100 mX2_itemsToBest 2 := ⟨dz_mX2_itemsToBest, (dz_t2 (i := 172) rfl rfl), (dz_t2 (i := 174) rfl rfl), (dz_t0 (i := 13) rfl rfl)⟩
theorem dz_lX2_103 : dz_Lv RX2 103 mX2_hasWay 0 := ⟨dz_mX2_hasWay, (dz_t2 (i := 180) rfl rfl), (dz_t2 (i := 181) rfl rfl), (dz_t2 (i := 182) rfl rfl)⟩
theorem dz_lX2_107 : dz_Ls RX2 107 mX2_lowest 1 := ⟨dz_mX2_lowest, (dz_t2 (i := 184) rfl rfl), (dz_t2 (i := 185) rfl rfl)⟩
theorem dz_lX2_52 : dz_Lv RX2 52 mX2_isPlace 1 := ⟨dz_mX2_isPlace, (dz_t2 (i := 135) rfl rfl), (dz_t2 (i := 137) rfl rfl), (dz_t0 (i := 5) rfl rfl)⟩
theorem dz_lX2_68 : dz_Lv RX2 68 mX2_reachWith 1 := ⟨dz_mX2_reachWith, (dz_t2 (i := 143) rfl rfl), (dz_t2 (i := 145) rfl rfl), (dz_t0 (i := 6) rfl rfl)⟩
theorem dz_lX2_72 : dz_Lv RX2 72 mX2_dropAllButBest 0 := ⟨dz_mX2_dropAllButBest, (dz_t2 (i := 168) rfl rfl), (dz_t2 (i := 170) rfl rfl), (dz_t0 (i := 12) rfl rfl)⟩
theorem dz_lX2_75 : dz_Lv RX2 75 mX2_walkFirst 0 := ⟨dz_mX2_walkFirst, (dz_t2 (i := 176) rfl rfl), (dz_t2 (i := 178) rfl rfl), (dz_t0 (i := 14) rfl rfl)⟩
theorem dz_lX2_78 : dz_Lv RX2 78 mX2_spreadDrums 2 := ⟨dz_mX2_spreadDrums, (dz_t2 (i := 147) rfl rfl), (dz_t2 (i := 149) rfl rfl), (dz_t0 (i := 7) rfl rfl)⟩
theorem dz_lX2_82 : dz_Lv RX2 82 mX2_spreadNew 2 := ⟨dz_mX2_spreadNew, (dz_t2 (i := 164) rfl rfl), (dz_t2 (i := 166) rfl rfl), (dz_t0 (i := 11) rfl rfl)⟩
theorem dz_lX2_85 : dz_Lv RX2 85 mX2_reach 3 := ⟨dz_mX2_reach, (dz_t2 (i := 160) rfl rfl), (dz_t2 (i := 162) rfl rfl), (dz_t0 (i := 10) rfl rfl)⟩
theorem dz_lX2_89 : dz_Lv RX2 89 mX2_itemsFor 2 := ⟨dz_mX2_itemsFor, (dz_t2 (i := 151) rfl rfl), (dz_t2 (i := 153) rfl rfl), (dz_t0 (i := 8) rfl rfl)⟩
theorem dz_lX2_96 : dz_Lv RX2 96 mX2_after 3 := ⟨dz_mX2_after, (dz_t2 (i := 156) rfl rfl), (dz_t2 (i := 158) rfl rfl), (dz_t0 (i := 9) rfl rfl)⟩
theorem dz_lX3_18 : dz_Ls RX3 18 mX3_isRow 1 := ⟨dz_mX3_isRow, (dz_t2 (i := 48) rfl rfl), (dz_t2 (i := 49) rfl rfl)⟩
theorem dz_lX4_100 : dz_Lv RX4 100 mX3_toldOf 1 := ⟨dz_mX3_toldOf, (dz_t2 (i := 44) rfl rfl), (dz_t2 (i := 45) rfl rfl), (dz_t2 (i := 46) rfl rfl)⟩
theorem dz_lX4_104 : dz_Lv RX4 104 mX3_tell 2 := ⟨dz_mX3_tell, (dz_t2 (i := 51) rfl rfl), (dz_t2 (i := 52) rfl rfl), (dz_t2 (i := 53) rfl rfl)⟩
theorem dz_lX4_108 : dz_Lv RX4 108 mX3_isBarred 2 := ⟨dz_mX3_isBarred, (dz_t2 (i := 59) rfl rfl), (dz_t2 (i := 60) rfl rfl), (dz_t2 (i := 61) rfl rfl)⟩
theorem dz_lX4_111 : dz_Lv RX4 111 mX3_bar 3 := ⟨dz_mX3_bar, (dz_t2 (i := 66) rfl rfl), (dz_t2 (i := 67) rfl rfl), (dz_t2 (i := 68) rfl rfl)⟩
theorem dz_lX4_115 : dz_Lv RX4 115 mX4_drawPaper 0 := ⟨dz_mX4_drawPaper, (dz_t2 (i := 74) rfl rfl), (dz_t2 (i := 76) rfl rfl), (dz_t0 (i := 3) rfl rfl)⟩
theorem dz_lX4_118 : dz_Lv RX4 118 mX2_leastNew 0 := ⟨dz_mX2_leastNew, (dz_t2 (i := 187) rfl rfl), (dz_t2 (i := 188) rfl rfl), (dz_t2 (i := 189) rfl rfl)⟩
theorem dz_lX4_122 : dz_Lv RX4 122 mX2_bestWays 0 := ⟨dz_mX2_bestWays, (dz_t2 (i := 195) rfl rfl), (dz_t2 (i := 196) rfl rfl), (dz_t2 (i := 197) rfl rfl)⟩
theorem dz_lX4_126 : dz_Lv RX4 126 mX2_firstAt 1 := ⟨dz_mX2_firstAt, (dz_t2 (i := 203) rfl rfl), (dz_t2 (i := 204) rfl rfl), (dz_t2 (i := 205) rfl rfl)⟩
theorem dz_lX4_129 : dz_Lv RX4 129 mX0_placeNumber 0 := ⟨dz_mX0_placeNumber, (dz_t2 (i := 78) rfl rfl), (dz_t2 (i := 79) rfl rfl), (dz_t2 (i := 80) rfl rfl)⟩
theorem dz_lX4_132 : dz_Lv RX4 132 mX2_bestHeldAt 1 := ⟨dz_mX2_bestHeldAt, (dz_t2 (i := 211) rfl rfl), (dz_t2 (i := 212) rfl rfl), (dz_t2 (i := 213) rfl rfl)⟩
theorem dz_lX4_135 : dz_Ls RX4 135 mX4_hasBit 2 := ⟨dz_mX4_hasBit, (dz_t2 (i := 219) rfl rfl), (dz_t2 (i := 64) rfl rfl)⟩
theorem dz_lX4_138 : dz_Lv RX4 138 mX4_loadOver 1 := ⟨dz_mX4_loadOver, (dz_t2 (i := 224) rfl rfl), (dz_t2 (i := 226) rfl rfl), (dz_t0 (i := 15) rfl rfl)⟩
theorem dz_lX4_141 : dz_Lv RX4 141 mX1_fact 2 := ⟨dz_mX1_fact, (dz_t2 (i := 14) rfl rfl), (dz_t2 (i := 15) rfl rfl), (dz_t2 (i := 16) rfl rfl)⟩
theorem dz_lX4_145 : dz_Lv RX4 145 mX2_hasWay 0 := ⟨dz_mX2_hasWay, (dz_t2 (i := 237) rfl rfl), (dz_t2 (i := 181) rfl rfl), (dz_t2 (i := 182) rfl rfl)⟩
theorem dz_lX4_148 : dz_Lv RX4 148 mX0_placeOfStone 2 := ⟨dz_mX0_placeOfStone, (dz_t2 (i := 238) rfl rfl), (dz_t2 (i := 239) rfl rfl), (dz_t3 (i := 0) rfl rfl)⟩
theorem dz_lX4_151 : dz_Lv RX4 151 mX0_endOf 1 := ⟨dz_mX0_endOf, (dz_t2 (i := 228) rfl rfl), (dz_t2 (i := 128) rfl rfl), (dz_t2 (i := 129) rfl rfl)⟩
theorem dz_lX4_154 : dz_Lv RX4 154 mX0_startOf 1 := ⟨dz_mX0_startOf, (dz_t3 (i := 18) rfl rfl), (dz_t2 (i := 120) rfl rfl), (dz_t2 (i := 121) rfl rfl)⟩
theorem dz_lX4_157 : dz_Lv RX4 157 mX4_heightOf 1 := ⟨dz_mX4_heightOf, (dz_t3 (i := 19) rfl rfl), (dz_t3 (i := 21) rfl rfl), (dz_t0 (i := 19) rfl rfl)⟩
theorem dz_lX4_163 : dz_Lv RX4 163 mX0_columnOf 1 := ⟨dz_mX0_columnOf, (dz_t2 (i := 109) rfl rfl), (dz_t2 (i := 110) rfl rfl), (dz_t2 (i := 111) rfl rfl)⟩
theorem dz_lX4_166 : dz_Lv RX4 166 mX1_number 0 := ⟨dz_mX1_number, (dz_t2 (i := 92) rfl rfl), (dz_t2 (i := 93) rfl rfl), (dz_t2 (i := 94) rfl rfl)⟩
theorem dz_lX4_169 : dz_Lv RX4 169 mX0_number 0 := ⟨dz_mX0_number, (dz_t3 (i := 35) rfl rfl), (dz_t3 (i := 36) rfl rfl), (dz_t3 (i := 37) rfl rfl)⟩
theorem dz_lX4_170 : dz_Lv RX4 170 mX1_pairsLying 1 := ⟨dz_mX1_pairsLying, (dz_t3 (i := 39) rfl rfl), (dz_t3 (i := 40) rfl rfl), (dz_t3 (i := 41) rfl rfl)⟩
theorem dz_lX4_173 : dz_Lv RX4 173 mX3_toldNumber 0 := ⟨dz_mX3_toldNumber, (dz_t3 (i := 50) rfl rfl), (dz_t3 (i := 51) rfl rfl), (dz_t3 (i := 52) rfl rfl)⟩
theorem dz_lX4_177 : dz_Lv RX4 177 mX0_footOf 1 := ⟨dz_mX0_footOf, (dz_t2 (i := 18) rfl rfl), (dz_t2 (i := 19) rfl rfl), (dz_t2 (i := 20) rfl rfl)⟩
theorem dz_lX4_180 : dz_Lv RX4 180 mX4_agrees 3 := ⟨dz_mX4_agrees, (dz_t2 (i := 23) rfl rfl), (dz_t2 (i := 25) rfl rfl), (dz_t0 (i := 1) rfl rfl)⟩
theorem dz_lX4_183 : dz_Lv RX4 183 mX0_headOf 1 := ⟨dz_mX0_headOf, (dz_t2 (i := 32) rfl rfl), (dz_t2 (i := 33) rfl rfl), (dz_t2 (i := 34) rfl rfl)⟩
theorem dz_lX4_191 : dz_Lv RX4 191 mX1_meanHeight 0 := ⟨dz_mX1_meanHeight, (dz_t3 (i := 23) rfl rfl), (dz_t3 (i := 24) rfl rfl), (dz_t3 (i := 25) rfl rfl)⟩
theorem dz_lX4_194 : dz_Lv RX4 194 mX2_clear 1 := ⟨dz_mX2_clear, (dz_t2 (i := 82) rfl rfl), (dz_t2 (i := 83) rfl rfl), (dz_t2 (i := 84) rfl rfl)⟩
theorem dz_lX4_198 : dz_Lv RX4 198 mX1_lyingOn 2 := ⟨dz_mX1_lyingOn, (dz_t2 (i := 96) rfl rfl), (dz_t2 (i := 97) rfl rfl), (dz_t2 (i := 98) rfl rfl)⟩
theorem dz_lX4_201 : dz_Lv RX4 201 mX2_allowOver 2 := ⟨dz_mX2_allowOver, (dz_t2 (i := 101) rfl rfl), (dz_t2 (i := 102) rfl rfl), (dz_t2 (i := 103) rfl rfl)⟩
theorem dz_lX4_204 : dz_Lv RX4 204 mX4_itemsAllowedAt 1 := ⟨dz_mX4_itemsAllowedAt, (dz_t2 (i := 105) rfl rfl), (dz_t2 (i := 107) rfl rfl), (dz_t0 (i := 4) rfl rfl)⟩
theorem dz_lX4_207 : dz_Lv RX4 207 mX0_isHead 1 := ⟨dz_mX0_isHead, (dz_t2 (i := 123) rfl rfl), (dz_t2 (i := 124) rfl rfl), (dz_t2 (i := 125) rfl rfl)⟩
theorem dz_lX4_210 : dz_Lv RX4 210 mX2_allowAt 3 := ⟨dz_mX2_allowAt, (dz_t2 (i := 131) rfl rfl), (dz_t2 (i := 132) rfl rfl), (dz_t2 (i := 133) rfl rfl)⟩
theorem dz_lX4_213 : dz_Lv RX4 213 mX2_findBest 0 := ⟨dz_mX2_findBest, (dz_t2 (i := 139) rfl rfl), (dz_t2 (i := 140) rfl rfl), (dz_t2 (i := 141) rfl rfl)⟩
theorem dz_lX4_216 : dz_Lv RX4 216 mX0_isFoot 1 := ⟨dz_mX0_isFoot, (dz_t2 (i := 114) rfl rfl), (dz_t2 (i := 115) rfl rfl), (dz_t2 (i := 116) rfl rfl)⟩
theorem dz_lX4_51 : dz_Ls RX4 51 mX4_isWidth 1 := ⟨dz_mX4_isWidth, (dz_t1 (i := 165) rfl rfl), (dz_t1 (i := 166) rfl rfl)⟩
theorem dz_lX4_55 : dz_Ls RX4 55 mX4_isWithin 3 := ⟨dz_mX4_isWithin, (dz_t1 (i := 168) rfl rfl), (dz_t1 (i := 169) rfl rfl)⟩
theorem dz_lX4_59 : dz_Lv RX4 59 mX1_keepMeasured 4 := ⟨dz_mX1_keepMeasured, (dz_t1 (i := 171) rfl rfl), (dz_t1 (i := 172) rfl rfl), (dz_t1 (i := 173) rfl rfl)⟩
theorem dz_lX4_63 : dz_Ls RX4 63 mX4_isHoles 1 := ⟨dz_mX4_isHoles, (dz_t1 (i := 179) rfl rfl), (dz_t1 (i := 180) rfl rfl)⟩
theorem dz_lX4_67 : dz_Lv RX4 67 mX1_canTakeOne 0 := ⟨dz_mX1_canTakeOne, (dz_t1 (i := 184) rfl rfl), (dz_t1 (i := 185) rfl rfl), (dz_t1 (i := 186) rfl rfl)⟩
theorem dz_lX4_71 : dz_Lv RX4 71 mX1_take 5 := ⟨dz_mX1_take, (dz_t1 (i := 188) rfl rfl), (dz_t1 (i := 189) rfl rfl), (dz_t1 (i := 190) rfl rfl)⟩
theorem dz_lX4_75 : dz_Ls RX4 75 mX4_isWidthOrUntold 1 := ⟨dz_mX4_isWidthOrUntold, (dz_t1 (i := 204) rfl rfl), (dz_t1 (i := 205) rfl rfl)⟩
theorem dz_lX4_78 : dz_Lv RX4 78 mX0_canTakeOne 1 := ⟨dz_mX0_canTakeOne, (dz_t1 (i := 207) rfl rfl), (dz_t1 (i := 208) rfl rfl), (dz_t1 (i := 209) rfl rfl)⟩
theorem dz_lX4_80 : dz_Lv RX4 80 mX0_take 3 := ⟨dz_mX0_take, (dz_t1 (i := 211) rfl rfl), (dz_t1 (i := 212) rfl rfl), (dz_t1 (i := 213) rfl rfl)⟩
theorem dz_lX4_83 : dz_Lv RX4 83 mX1_turnOn 3 := ⟨dz_mX1_turnOn, (dz_t1 (i := 220) rfl rfl), (dz_t1 (i := 221) rfl rfl), (dz_t1 (i := 222) rfl rfl)⟩
theorem dz_lX4_86 : dz_Lv RX4 86 mX1_has 1 := ⟨dz_mX1_has, (dz_t2 (i := 5) rfl rfl), (dz_t1 (i := 225) rfl rfl), (dz_t1 (i := 226) rfl rfl)⟩
theorem dz_lX4_89 : dz_Lv RX4 89 mX0_has 1 := ⟨dz_mX0_has, (dz_t2 (i := 6) rfl rfl), (dz_t2 (i := 7) rfl rfl), (dz_t2 (i := 8) rfl rfl)⟩
theorem dz_lX4_90 : dz_Lv RX4 90 mX4_fitsFoot 2 := ⟨dz_mX4_fitsFoot, (dz_t2 (i := 10) rfl rfl), (dz_t2 (i := 12) rfl rfl), (dz_t0 (i := 0) rfl rfl)⟩
theorem dz_lX4_94 : dz_Lv RX4 94 mX4_fitsHead 2 := ⟨dz_mX4_fitsHead, (dz_t2 (i := 28) rfl rfl), (dz_t2 (i := 30) rfl rfl), (dz_t0 (i := 2) rfl rfl)⟩
theorem dz_lX4_97 : dz_Lv RX4 97 mX0_hasPlace 1 := ⟨dz_mX0_hasPlace, (dz_t2 (i := 40) rfl rfl), (dz_t2 (i := 41) rfl rfl), (dz_t2 (i := 42) rfl rfl)⟩
theorem dz_lX5_108 : dz_Ls RX5 108 mX5_isWidth 1 := ⟨dz_mX5_isWidth, (dz_t3 (i := 232) rfl rfl), (dz_t3 (i := 233) rfl rfl)⟩
theorem dz_lX5_124 : dz_Lv RX5 124 mX5_isDrum 1 := ⟨dz_mX5_isDrum, (dz_t4 (i := 16) rfl rfl), (dz_t4 (i := 18) rfl rfl), (dz_t0 (i := 21) rfl rfl)⟩
theorem dz_lX5_127 : dz_Lv RX5 127 mX5_turnOf 2 := ⟨dz_mX5_turnOf, (dz_t4 (i := 20) rfl rfl), (dz_t4 (i := 22) rfl rfl), (dz_t0 (i := 22) rfl rfl)⟩
theorem dz_lX5_131 : dz_Lv RX5 131 mX5_isColumn 1 := ⟨dz_mX5_isColumn, (dz_t4 (i := 29) rfl rfl), (dz_t4 (i := 31) rfl rfl), (dz_t0 (i := 23) rfl rfl)⟩
theorem dz_lX5_134 : dz_Lv RX5 134 mX5_fitsFoot 2 := ⟨dz_mX5_fitsFoot, (dz_t4 (i := 33) rfl rfl), (dz_t4 (i := 35) rfl rfl), (dz_t0 (i := 24) rfl rfl)⟩
theorem dz_lX5_138 : dz_Lv RX5 138 mX5_fitsHead 2 := ⟨dz_mX5_fitsHead, (dz_t4 (i := 37) rfl rfl), (dz_t4 (i := 39) rfl rfl), (dz_t0 (i := 25) rfl rfl)⟩
theorem dz_lX5_141 : dz_Lv RX5 141 mX5_isPlace 1 := ⟨dz_mX5_isPlace, (dz_t4 (i := 45) rfl rfl), (dz_t4 (i := 47) rfl rfl), (dz_t0 (i := 26) rfl rfl)⟩
theorem dz_lX5_144 : dz_Ls RX5 144 mX5_index 3 := ⟨dz_mX5_index, (dz_t4 (i := 61) rfl rfl), (dz_t4 (i := 62) rfl rfl)⟩
theorem dz_lX5_148 : dz_Lv RX5 148 mX5_may 4 := ⟨dz_mX5_may, (dz_t4 (i := 64) rfl rfl), (dz_t4 (i := 66) rfl rfl), (dz_t0 (i := 28) rfl rfl)⟩
theorem dz_lX5_152 : dz_Lv RX5 152 mX5_behind 3 := ⟨dz_mX5_behind, (dz_t4 (i := 68) rfl rfl), (dz_t4 (i := 70) rfl rfl), (dz_t0 (i := 29) rfl rfl)⟩
theorem dz_lX5_155 : dz_Lv RX5 155 mX5_isBest 4 := ⟨dz_mX5_isBest, (dz_t4 (i := 72) rfl rfl), (dz_t4 (i := 74) rfl rfl), (dz_t0 (i := 30) rfl rfl)⟩
theorem dz_lX5_158 : dz_Lv RX5 158 mX5_find 0 := ⟨dz_mX5_find, (dz_t4 (i := 57) rfl rfl), (dz_t4 (i := 59) rfl rfl), (dz_t0 (i := 27) rfl rfl)⟩
theorem dz_lX5_162 : dz_Lv RX5 162 mX5_use 0 := ⟨dz_mX5_use, (dz_t4 (i := 88) rfl rfl), (dz_t4 (i := 90) rfl rfl), (dz_t0 (i := 31) rfl rfl)⟩
theorem dz_lX5_165 : dz_Lv RX5 165 mX5_borne 1 := ⟨dz_mX5_borne, (dz_t4 (i := 100) rfl rfl), (dz_t4 (i := 102) rfl rfl), (dz_t0 (i := 32) rfl rfl)⟩
theorem dz_lX5_168 : dz_Lv RX5 168 mX5_isFull 1 := ⟨dz_mX5_isFull, (dz_t4 (i := 116) rfl rfl), (dz_t4 (i := 118) rfl rfl), (dz_t0 (i := 34) rfl rfl)⟩
theorem dz_lX5_171 : dz_Lv RX5 171 mX5_isLevel 1 := ⟨dz_mX5_isLevel, (dz_t4 (i := 112) rfl rfl), (dz_t4 (i := 114) rfl rfl), (dz_t0 (i := 33) rfl rfl)⟩
theorem dz_lX5_95 : dz_Ls RX5 95 mX5_isIn 3 := ⟨dz_mX5_isIn, (dz_t3 (i := 235) rfl rfl), (dz_t3 (i := 236) rfl rfl)⟩
end
section
/-! ONE STEP over the layer: what an instruction asks and gives; soundness over the machine -/
def dz_cm (k : Jvm.ClassFile.Cond) (x y : Int32) : Prop := match k with
  | .eq => x = y
  | .ne => ¬ x = y
  | .lt => x < y
  | .ge => y ≤ x
  | .gt => y < x
  | .le => x ≤ y
def dz_rd (I : dz_MI) (J : dz_MJ) (c k : Nat) (kd : Option (Option Nat)) : dz_AV := match kd with
  | none => .inl (I c k)
  | some none => .inr (.inl (J c k))
  | some (some a) => .inr (.inr a)
def dz_wd (st : List dz_AV) : Nat := (st.map (fun v => if dz_isL v then 2 else 1)).sum
theorem dz_wd_eq (ad : Nat → Nat) (st : List dz_AV) : ((st.map (dz_val ad)).map fun v => v.category).sum = dz_wd st := by
  unfold dz_wd
  rw [List.map_map]
  congr 1
  apply List.map_congr_left
  intro v _
  rcases v with x | x | c <;> rfl
def dz_cp (I : dz_MI) (a b sp dp n : Nat) : dz_MI := fun c => if c = b then va_cpy (I a) (I b) sp dp n else I c
def dz_wp (Λ : Nat → dz_Ds) (N own nL F Lc : Nat) (i : Instr) (n pc : Nat) (I : dz_MI) (J : dz_MJ) (ls : dz_LS) (st : List dz_AV) (V : dz_Vt) : Prop := match i with
  | .iconst z => n = 1 ∧ V (pc + 1) I J ls (.inl (Int32.ofInt z) :: st)
  | .bipush z => n = 2 ∧ V (pc + 2) I J ls (.inl (Int8.ofInt z).toInt32 :: st)
  | .sipush z => n = 3 ∧ V (pc + 3) I J ls (.inl (Int16.ofInt z).toInt32 :: st)
  | .ldc k => n = 2 ∧ ∃ v, Cond.constant (dz_R own) k v ∈ dz_WS ∧ V (pc + 2) I J ls (.inl v :: st)
  | .lconst z => n = 1 ∧ V (pc + 1) I J ls (.inr (.inl (Int64.ofNat z)) :: st)
  | .iload k => n = 2 ∧ ∃ v, ls.lookup k = some (.inl v) ∧ V (pc + 2) I J ls (.inl v :: st)
  | .iload_n k => n = 1 ∧ ∃ v, ls.lookup k.val = some (.inl v) ∧ V (pc + 1) I J ls (.inl v :: st)
  | .lload k => n = 2 ∧ ∃ v, ls.lookup k = some (.inr (.inl v)) ∧ V (pc + 2) I J ls (.inr (.inl v) :: st)
  | .lload_n k => n = 1 ∧ ∃ v, ls.lookup k.val = some (.inr (.inl v)) ∧ V (pc + 1) I J ls (.inr (.inl v) :: st)
  | .aload k => n = 2 ∧ ∃ v, ls.lookup k = some (.inr (.inr v)) ∧ V (pc + 2) I J ls (.inr (.inr v) :: st)
  | .aload_n k => n = 1 ∧ ∃ v, ls.lookup k.val = some (.inr (.inr v)) ∧ V (pc + 1) I J ls (.inr (.inr v) :: st)
  | .istore k => n = 2 ∧ k < nL ∧ ∃ v s', st = .inl v :: s' ∧ V (pc + 2) I J (dz_st ls k (.inl v)) s'
  | .istore_n k => n = 1 ∧ k.val < nL ∧ ∃ v s', st = .inl v :: s' ∧ V (pc + 1) I J (dz_st ls k.val (.inl v)) s'
  | .lstore k => n = 2 ∧ k + 1 < nL ∧ ∃ v s', st = .inr (.inl v) :: s' ∧ V (pc + 2) I J (dz_st ls k (.inr (.inl v))) s'
  | .astore k => n = 2 ∧ k < nL ∧ ∃ v s', st = .inr (.inr v) :: s' ∧ V (pc + 2) I J (dz_st ls k (.inr (.inr v))) s'
  | .astore_n k => n = 1 ∧ k.val < nL ∧ ∃ v s', st = .inr (.inr v) :: s' ∧ V (pc + 1) I J (dz_st ls k.val (.inr (.inr v))) s'
  | .iinc k z => n = 3 ∧ k < nL ∧ ∃ v, ls.lookup k = some (.inl v) ∧ V (pc + 3) I J (dz_st ls k (.inl (v + Int32.ofInt z))) st
  | .iadd => n = 1 ∧ ∃ x y s', st = .inl y :: .inl x :: s' ∧ V (pc + 1) I J ls (.inl (x + y) :: s')
  | .isub => n = 1 ∧ ∃ x y s', st = .inl y :: .inl x :: s' ∧ V (pc + 1) I J ls (.inl (x - y) :: s')
  | .imul => n = 1 ∧ ∃ x y s', st = .inl y :: .inl x :: s' ∧ V (pc + 1) I J ls (.inl (x * y) :: s')
  | .iand => n = 1 ∧ ∃ x y s', st = .inl y :: .inl x :: s' ∧ V (pc + 1) I J ls (.inl (x &&& y) :: s')
  | .ior => n = 1 ∧ ∃ x y s', st = .inl y :: .inl x :: s' ∧ V (pc + 1) I J ls (.inl (x ||| y) :: s')
  | .ixor => n = 1 ∧ ∃ x y s', st = .inl y :: .inl x :: s' ∧ V (pc + 1) I J ls (.inl (x ^^^ y) :: s')
  | .ishl => n = 1 ∧ ∃ x y s', st = .inl y :: .inl x :: s' ∧ V (pc + 1) I J ls (.inl (x <<< (y &&& 31)) :: s')
  | .ishr => n = 1 ∧ ∃ x y s', st = .inl y :: .inl x :: s' ∧ V (pc + 1) I J ls (.inl (x >>> (y &&& 31)) :: s')
  | .iushr => n = 1 ∧ ∃ x y s', st = .inl y :: .inl x :: s' ∧ V (pc + 1) I J ls (.inl (x.toUInt32 >>> (y.toUInt32 &&& Int32.toUInt32 31)).toInt32 :: s')
  | .ldc_w k => n = 3 ∧ ∃ v, Cond.constant (dz_R own) k v ∈ dz_WS ∧ V (pc + 3) I J ls (.inl v :: st)
  | .idiv => n = 1 ∧ ∃ x y s', st = .inl y :: .inl x :: s' ∧ ¬ y = 0 ∧ V (pc + 1) I J ls (.inl (x / y) :: s')
  | .irem => n = 1 ∧ ∃ x y s', st = .inl y :: .inl x :: s' ∧ ¬ y = 0 ∧ V (pc + 1) I J ls (.inl (x - x / y * y) :: s')
  | .ladd => n = 1 ∧ ∃ x y s', st = .inr (.inl y) :: .inr (.inl x) :: s' ∧ V (pc + 1) I J ls (.inr (.inl (x + y)) :: s')
  | .lmul => n = 1 ∧ ∃ x y s', st = .inr (.inl y) :: .inr (.inl x) :: s' ∧ V (pc + 1) I J ls (.inr (.inl (x * y)) :: s')
  | .lcmp => n = 1 ∧ ∃ x y s', st = .inr (.inl y) :: .inr (.inl x) :: s' ∧ V (pc + 1) I J ls (.inl (lg_cmp x y) :: s')
  | .i2l => n = 1 ∧ ∃ x s', st = .inl x :: s' ∧ V (pc + 1) I J ls (.inr (.inl x.toInt64) :: s')
  | .dup => n = 1 ∧ ∃ x s', st = x :: s' ∧ dz_isL x = false ∧ V (pc + 1) I J ls (x :: x :: s')
  | .dup2 => n = 1 ∧ ∃ x y s', st = x :: y :: s' ∧ dz_isL x = false ∧ dz_isL y = false ∧ V (pc + 1) I J ls (x :: y :: x :: y :: s')
  | .ifCond k off => n = 3 ∧ ∃ (x : Int32) (s' : List dz_AV) (tgt : Nat), st = .inl x :: s' ∧ (pc : Int) + off = (tgt : Int) ∧ (dz_cm k x 0 → V tgt I J ls s') ∧ (¬ dz_cm k x 0 → V (pc + 3) I J ls s')
  | .if_icmp k off => n = 3 ∧ ∃ (x y : Int32) (s' : List dz_AV) (tgt : Nat), st = .inl y :: .inl x :: s' ∧ (pc : Int) + off = (tgt : Int) ∧ (dz_cm k x y → V tgt I J ls s') ∧ (¬ dz_cm k x y → V (pc + 3) I J ls s')
  | .goto off => n = 3 ∧ ∃ tgt : Nat, (pc : Int) + off = (tgt : Int) ∧ V tgt I J ls st
  | .tableswitch dflt lo hi offs => ∃ (x : Int32) (s' : List dz_AV), st = .inl x :: s' ∧ ((x.toInt < lo ∨ hi < x.toInt) → ∃ tgt : Nat, (pc : Int) + dflt = (tgt : Int) ∧ V tgt I J ls s') ∧ (¬ x.toInt < lo → ¬ hi < x.toInt → ∃ (off : Int) (tgt : Nat), offs[(x.toInt - lo).toNat]? = some off ∧ (pc : Int) + off = (tgt : Int) ∧ V tgt I J ls s')
  | .getfield k => n = 3 ∧ ∃ (c : Nat) (s' : List dz_AV) (fs : List (Option (Option Nat))) (sl : Nat) (kd : Option (Option Nat)), st = .inr (.inr c) :: s' ∧ own < 6 ∧ c < N ∧ Λ c = .inl (own, fs) ∧ (dz_ft own).lookup k = some sl ∧ fs[sl]? = some kd ∧ V (pc + 3) I J ls (dz_rd I J c sl kd :: s')
  | .putfield k => n = 3 ∧ ∃ (c : Nat) (s' : List dz_AV) (fs : List (Option (Option Nat))) (sl : Nat), own < 6 ∧ c < N ∧ Λ c = .inl (own, fs) ∧ (dz_ft own).lookup k = some sl ∧ (dz_T own sl).2.2.2 = false ∧ ((∃ x : Int32, st = .inl x :: .inr (.inr c) :: s' ∧ fs[sl]? = some none ∧ narrow (dz_ty own sl) (.int x) = .int x ∧ fits (dz_ty own sl) (.int x) = true ∧ V (pc + 3) (dz_wi I c sl x) J ls s') ∨ (∃ x : Int64, st = .inr (.inl x) :: .inr (.inr c) :: s' ∧ fs[sl]? = some (some none) ∧ dz_ty own sl = .long ∧ V (pc + 3) I (dz_wj J c sl x) ls s'))
  | .iaload => n = 1 ∧ ∃ (c : Nat) (j : Int32) (s' : List dz_AV) (L b : Nat), st = .inl j :: .inr (.inr c) :: s' ∧ c < N ∧ Λ c = .inr (0, L, b) ∧ vp_in j L ∧ V (pc + 1) I J ls (.inl (I c j.toNatClampNeg) :: s')
  | .baload => n = 1 ∧ ∃ (c : Nat) (j : Int32) (s' : List dz_AV) (L b : Nat), st = .inl j :: .inr (.inr c) :: s' ∧ c < N ∧ Λ c = .inr (2, L, b) ∧ vp_in j L ∧ V (pc + 1) I J ls (.inl (I c j.toNatClampNeg) :: s')
  | .laload => n = 1 ∧ ∃ (c : Nat) (j : Int32) (s' : List dz_AV) (L b : Nat), st = .inl j :: .inr (.inr c) :: s' ∧ c < N ∧ Λ c = .inr (1, L, b) ∧ vp_in j L ∧ V (pc + 1) I J ls (.inr (.inl (J c j.toNatClampNeg)) :: s')
  | .aaload => n = 1 ∧ ∃ (c : Nat) (j : Int32) (s' : List dz_AV) (k L b : Nat), st = .inl j :: .inr (.inr c) :: s' ∧ c < N ∧ k < 2 ∧ Λ c = .inr (k + 3, L, b) ∧ vp_in j L ∧ V (pc + 1) I J ls (.inr (.inr (b + j.toNatClampNeg)) :: s')
  | .iastore => n = 1 ∧ ∃ (c : Nat) (j x : Int32) (s' : List dz_AV) (L b : Nat), st = .inl x :: .inl j :: .inr (.inr c) :: s' ∧ c < N ∧ Λ c = .inr (0, L, b) ∧ vp_in j L ∧ V (pc + 1) (dz_wi I c j.toNatClampNeg x) J ls s'
  | .bastore => n = 1 ∧ ∃ (c : Nat) (j x : Int32) (s' : List dz_AV) (L b : Nat), st = .inl x :: .inl j :: .inr (.inr c) :: s' ∧ c < N ∧ Λ c = .inr (2, L, b) ∧ vp_in j L ∧ vp_nar .boolean x = x ∧ V (pc + 1) (dz_wi I c j.toNatClampNeg x) J ls s'
  | .lastore => n = 1 ∧ ∃ (c : Nat) (j : Int32) (x : Int64) (s' : List dz_AV) (L b : Nat), st = .inr (.inl x) :: .inl j :: .inr (.inr c) :: s' ∧ c < N ∧ Λ c = .inr (1, L, b) ∧ vp_in j L ∧ V (pc + 1) I (dz_wj J c j.toNatClampNeg x) ls s'
  | .invokestatic k => n = 3 ∧ 1 ≤ F ∧ 40 ≤ Lc ∧ ((Cond.methodLink (dz_R own) k Lib.Math.abs.name ∈ dz_WS ∧ ∃ x s', st = .inl x :: s' ∧ dz_wd s' ≤ 8 ∧ V (pc + 3) I J ls (.inl (if 0 ≤ x then x else 0 - x) :: s')) ∨ (Cond.methodLink (dz_R own) k Lib.Math.max.name ∈ dz_WS ∧ ∃ x y s', st = .inl y :: .inl x :: s' ∧ dz_wd s' ≤ 8 ∧ V (pc + 3) I J ls (.inl (if x < y then y else x) :: s')) ∨ (Cond.methodLink (dz_R own) k Lib.Math.min.name ∈ dz_WS ∧ ∃ x y s', st = .inl y :: .inl x :: s' ∧ dz_wd s' ≤ 8 ∧ V (pc + 3) I J ls (.inl (if y < x then y else x) :: s')) ∨ (Cond.methodLink (dz_R own) k arraycopyName ∈ dz_WS ∧ ∃ (a b : Nat) (sp dp z : Int32) (s' : List dz_AV) (L0 b0 L1 b1 : Nat), st = .inl z :: .inl dp :: .inr (.inr b) :: .inl sp :: .inr (.inr a) :: s' ∧ dz_wd s' ≤ 8 ∧ a < N ∧ b < N ∧ Λ a = .inr (0, L0, b0) ∧ Λ b = .inr (0, L1, b1) ∧ ¬ sp < 0 ∧ ¬ dp < 0 ∧ ¬ z < 0 ∧ sp.toNatClampNeg + z.toNatClampNeg ≤ L0 ∧ dp.toNatClampNeg + z.toNatClampNeg ≤ L1 ∧ V (pc + 3) (dz_cp I a b sp.toNatClampNeg dp.toNatClampNeg z.toNatClampNeg) J ls s'))
  | _ => False
def dz_W (π : dz_Pl) (Λ : Nat → dz_Ds) (N nL : Nat) (A : Nat → Prop) (p : Program) (e : Env) (R : Room) (s : State) (m : MethodId) (args : Array Value) (below : List Frame) (meth : Method) (c : Code) (cells slots : Nat) (Q : State → Prop) : dz_Vt := fun pc I J ls st => ∀ (H : Heap) (locs : List Loc) (lsA : Array Slot), va_P π.2.1 vwCl (dz_wl π Λ N I J) H → va_S A s.heap H locs → lv_has lsA nL (dz_map π.2.2.2 ls) → W p π.1 e R s m args below meth c H locs cells slots Q (F0 m pc lsA (st.map (dz_val π.2.2.2)))
def dz_Nw (U : State) : Prop := va_Nw (.methodLinkNest RX3 22 yX4_hasBit RX4) U ∧ va_Nw (.methodLinkNest RX2 92 yX4_hasBit RX4) U
theorem dz_Nw.warm {s U : State} (hW : s.WarmedH U.vm) (h : dz_Nw s) : dz_Nw U := ⟨va_Nw.warmM hW h.1, va_Nw.warmM hW h.2⟩
theorem dz_Nw.same {s U : State} (hv : s.vm = U.vm) (h : dz_Nw s) : dz_Nw U := ⟨va_Nw.same rfl hv h.1, va_Nw.same rfl hv h.2⟩
def dz_Ctx (π : dz_Pl) (N own nL F Lc : Nat) (cc : ByteArray) (A : Nat → Prop) (p : Program) (R : Room) (s : State) (m : MethodId) (args : Array Value) (c : Code) (cells slots : Nat) : Prop :=
  p.tables.exec = Jvm.exec ∧ c.code = cc ∧ c.maxLocals = nL ∧ s.vm.findClass (dz_R own) = some m.cls ∧ (∀ w ∈ dz_WS, w.before args s = true) ∧ va_K π.2.1 vwCl (dz_tys π.2.2.1) s ∧ (∀ a, a < N → A (π.2.2.2 a)) ∧ dz_inj π.2.2.2 N ∧ R.frames = F ∧ R.locals = Lc ∧ cells ≤ R.cells ∧ slots ≤ R.slots ∧ dz_Nw s
end
section
theorem dz_lookup_mem2 {l : List (Nat × Nat)} {k v : Nat} (h : l.lookup k = some v) : (k, v) ∈ l := by
  induction l with
  | nil => cases h
  | cons q l ih =>
    obtain ⟨a, w⟩ := q
    rw [List.lookup_cons] at h
    by_cases hk : k == a
    · rw [hk] at h
      have : k = a := by simpa using hk
      subst this
      cases h
      exact List.mem_cons_self
    · have hk' : (k == a) = false := by simpa using hk
      rw [hk'] at h
      exact List.mem_cons_of_mem _ (ih h)
theorem dz_w_math : Cond.initialized "java/lang/Math" ∈ dz_WS := (dz_t1 (i := 8) rfl rfl)
theorem dz_w_sys : Cond.initialized "java/lang/System" ∈ dz_WS := (dz_t1 (i := 7) rfl rfl)
theorem dz_w_cpy_n : Cond.native arraycopyName ∈ dz_WS := (dz_t1 (i := 195) rfl rfl)
theorem dz_w_cpy_s : Cond.static arraycopyName ∈ dz_WS := (dz_t1 (i := 194) rfl rfl)
theorem dz_w_abs_s : Cond.static Lib.Math.abs.name ∈ dz_WS := (dz_t1 (i := 229) rfl rfl)
theorem dz_w_abs_c : Cond.code Lib.Math.abs.name Lib.Math.abs.code 1 (some .int) ∈ dz_WS := (dz_t1 (i := 230) rfl rfl)
theorem dz_w_max_s : Cond.static Lib.Math.max.name ∈ dz_WS := (dz_t2 (i := 90) rfl rfl)
theorem dz_w_max_c : Cond.code Lib.Math.max.name Lib.Math.max.code 2 (some .int) ∈ dz_WS := (dz_t2 (i := 91) rfl rfl)
theorem dz_w_min_s : Cond.static Lib.Math.min.name ∈ dz_WS := (dz_t2 (i := 87) rfl rfl)
theorem dz_w_min_c : Cond.code Lib.Math.min.name Lib.Math.min.code 2 (some .int) ∈ dz_WS := (dz_t2 (i := 88) rfl rfl)
theorem dz_nat_w : 8 + (nativeFrameWords "java/lang/System" "arraycopy" 5 + 11) ≤ 40 := by decide
theorem dz_j1_42 : Cond.methodLink (dz_R 1) 42 Lib.Math.abs.name ∈ dz_WS := (dz_t1 (i := 228) rfl rfl)
theorem dz_j4_186 : Cond.methodLink (dz_R 4) 186 Lib.Math.abs.name ∈ dz_WS := (dz_t2 (i := 27) rfl rfl)
theorem dz_j5_118 : Cond.methodLink (dz_R 5) 118 Lib.Math.abs.name ∈ dz_WS := (dz_t4 (i := 24) rfl rfl)
theorem dz_j2_56 : Cond.methodLink (dz_R 2) 56 Lib.Math.min.name ∈ dz_WS := (dz_t2 (i := 86) rfl rfl)
theorem dz_j2_62 : Cond.methodLink (dz_R 2) 62 Lib.Math.max.name ∈ dz_WS := (dz_t2 (i := 89) rfl rfl)
theorem dz_j1_36 : Cond.methodLink (dz_R 1) 36 arraycopyName ∈ dz_WS := (dz_t1 (i := 193) rfl rfl)
theorem dz_kX1_71 : Cond.constant RX1 71 65535 ∈ dz_WS := (dz_t2 (i := 0) rfl rfl)
theorem dz_kX4_176 : Cond.constant RX4 176 65535 ∈ dz_WS := (dz_t1 (i := 182) rfl rfl)
theorem dz_kX4_66 : Cond.constant RX4 66 100000 ∈ dz_WS := (dz_t1 (i := 183) rfl rfl)
theorem dz_kX5_116 : Cond.constant RX5 116 65535 ∈ dz_WS := (dz_t4 (i := 2) rfl rfl)
theorem dz_kX5_117 : Cond.constant RX5 117 100000 ∈ dz_WS := (dz_t4 (i := 3) rfl rfl)
theorem dz_kX5_72 : Cond.constant RX5 72 101376 ∈ dz_WS := (dz_t3 (i := 129) rfl rfl)
theorem dz_kJ6_265 : Cond.constant RJ6 265 1431655765 ∈ dz_WS := (dz_t3 (i := 47) rfl rfl)
theorem dz_kJ6_266 : Cond.constant RJ6 266 858993459 ∈ dz_WS := (dz_t3 (i := 48) rfl rfl)
theorem dz_kJ6_267 : Cond.constant RJ6 267 252645135 ∈ dz_WS := (dz_t3 (i := 49) rfl rfl)
/-! SOUNDNESS of a step -/
section DZS
variable {π : dz_Pl} {Λ : Nat → dz_Ds} {N nL own F Lc : Nat} {A : Nat → Prop} {p : Program} {e : Env} {R : Room} {s : State} {m : MethodId} {args : Array Value} {below : List Frame} {meth : Method} {c : Code} {cells slots : Nat} {Q : State → Prop} {cc : ByteArray}
theorem dz_aald {H : Heap} {locs : List Loc} {lsA : Array Slot} {rest : List Value} {pc a : Nat} {D : va_G} {cl : List vw_C} {tys : List (ClassId × FieldType)} {ws : va_W} (hexec : p.tables.exec = Jvm.exec) (hb : c.code = cc) (hK : va_K D cl tys s) (hP : va_P D cl ws H) (q0 t0 : Nat) {cA : ClassId} {ty : FieldType} {n : Nat} {f : Nat → Option Nat} (ha : ws[q0]? = some (a, .inl (cA, n, .inr (.inr (.inr (.inr f)))))) (ht : tys[t0]? = some (cA, .array ty)) {i : Int32} (hin : vp_in i n) (hdg : decode cc pc = .ok (.aaload, 1))
    (kk : W p π.1 e R s m args below meth c H locs cells slots Q (F0 m (pc + 1) lsA (va_rf (f i.toNatClampNeg) :: rest))) : W p π.1 e R s m args below meth c H locs cells slots Q (F0 m pc lsA (.int i :: .ref a :: rest)) := by
  have hlt : i.toNatClampNeg < n := Nat.not_le.mp fun q => hin (Or.inr q)
  exact W.aald (v := va_rf (f i.toNatClampNeg)) (ty := .array ty) hexec hb (hP q0 _ ha) ((hK.2 t0 _ ht).1 n (fun j => va_rf (f j))) rfl (fun q => by cases q) (by show ¬ (i < 0 ∨ (arrV _ _ _).slots.size ≤ _); rw [arrV_size]; exact hin) (by show (arrV _ _ _).slots[_]? = _; rw [arrV_read _ _ hlt]) rfl rfl hdg kk
theorem dz_mapIdx_set (ad : Nat → Nat) (fs : List (Option (Option Nat))) (r r' : Nat → Int32) (q q' : Nat → Int64) (k : Nat) (v : Value) (kd : Option (Option Nat)) (hk : fs[k]? = some kd) (hv : v = dz_fv ad r' q' k kd) (ho : ∀ j, j ≠ k → r' j = r j ∧ q' j = q j) : (fs.mapIdx (fun k f => dz_fv ad r q k f)).set k v = fs.mapIdx (fun k f => dz_fv ad r' q' k f) := by
  apply List.ext_getElem?
  intro j
  by_cases hj : j = k
  · subst hj
    have hl := (List.getElem?_eq_some_iff.mp hk).1
    rw [List.getElem?_set_self (by simpa using hl), List.getElem?_mapIdx, hk, hv]
    rfl
  · rw [List.getElem?_set_ne (Ne.symm hj), List.getElem?_mapIdx, List.getElem?_mapIdx]
    cases fs[j]? with
    | none => rfl
    | some f =>
      obtain ⟨h1, h2⟩ := ho j hj
      rcases f with _ | _ | a <;> simp [dz_fv, h1, h2]
set_option maxHeartbeats 4000000 in
theorem dz_clo (X : dz_Ctx π N own nL F Lc cc A p R s m args c cells slots) {pc n : Nat} {i : Instr} {I : dz_MI} {J : dz_MJ} {ls : dz_LS} {st : List dz_AV} (d : decode cc pc = .ok (i, n)) (h : dz_wp Λ N own nL F Lc i n pc I J ls st (dz_W π Λ N nL A p e R s m args below meth c cells slots Q)) : dz_W π Λ N nL A p e R s m args below meth c cells slots Q pc I J ls st := by
  obtain ⟨hx, hb, hml, hown, hts, hK, hA, hinj, hF, hL, hc, hs, hnw⟩ := X
  intro H locs lsA hP hS hl
  have hD : va_D A (dz_wl π Λ N I J) := dz_wl_D hinj hA
  have hsz : c.maxLocals = lsA.size := by rw [hml]; exact hl.1.symm
  cases i
  case iconst z => 
    obtain ⟨rfl, h⟩ := h
    exact lv_iconst hx hb d rfl (h H locs lsA hP hS hl)
  case bipush z => 
    obtain ⟨rfl, h⟩ := h
    exact lv_bipush hx hb d rfl (h H locs lsA hP hS hl)
  case sipush z => 
    obtain ⟨rfl, h⟩ := h
    exact lv_sipush hx hb d rfl (h H locs lsA hP hS hl)
  case ldc k => 
    obtain ⟨rfl, v, hw, h⟩ := h
    exact lv_ldc hx hb hown (hts _ hw) d (h H locs lsA hP hS hl)
  case lconst z => 
    obtain ⟨rfl, h⟩ := h
    exact lv_lconst hx hb d rfl (h H locs lsA hP hS hl)
  case iload k => 
    obtain ⟨rfl, v, hk, h⟩ := h
    exact lv_iload hx hb d (dz_lk hl hk) (h H locs lsA hP hS hl)
  case iload_n k => 
    obtain ⟨rfl, v, hk, h⟩ := h
    exact lv_iload_n hx hb d rfl (dz_lk hl hk) (h H locs lsA hP hS hl)
  case lload k => 
    obtain ⟨rfl, v, hk, h⟩ := h
    exact lv_lload hx hb d (dz_lk hl hk) (h H locs lsA hP hS hl)
  case lload_n k => 
    obtain ⟨rfl, v, hk, h⟩ := h
    exact lv_lload_n hx hb d rfl (dz_lk hl hk) (h H locs lsA hP hS hl)
  case aload k => 
    obtain ⟨rfl, v, hk, h⟩ := h
    exact lv_aload hx hb d (dz_lk hl hk) (h H locs lsA hP hS hl)
  case aload_n k => 
    obtain ⟨rfl, v, hk, h⟩ := h
    exact lv_aload_n hx hb d rfl (dz_lk hl hk) (h H locs lsA hP hS hl)
  case istore k => 
    obtain ⟨rfl, hn, v, s2, rfl, h⟩ := h
    exact lv_istore hx hb d hl hn (dz_st1 π.2.2.2 ls k (.inl v) rfl) (fun ls2 hl2 => h H locs ls2 hP hS hl2)
  case istore_n k => 
    obtain ⟨rfl, hn, v, s2, rfl, h⟩ := h
    exact lv_istore_n hx hb d rfl hl hn (dz_st1 π.2.2.2 ls k.val (.inl v) rfl) (fun ls2 hl2 => h H locs ls2 hP hS hl2)
  case astore k => 
    obtain ⟨rfl, hn, v, s2, rfl, h⟩ := h
    exact lv_astore hx hb d hl hn (dz_st1 π.2.2.2 ls k (.inr (.inr v)) rfl) (fun ls2 hl2 => h H locs ls2 hP hS hl2)
  case astore_n k => 
    obtain ⟨rfl, hn, v, s2, rfl, h⟩ := h
    exact lv_astore_n hx hb d rfl hl hn (dz_st1 π.2.2.2 ls k.val (.inr (.inr v)) rfl) (fun ls2 hl2 => h H locs ls2 hP hS hl2)
  case lstore k => 
    obtain ⟨rfl, hn, v, s2, rfl, h⟩ := h
    exact lv_lstore hx hb d hl hn (dz_st2 π.2.2.2 ls k (.inr (.inl v)) rfl) (fun ls2 hl2 => h H locs ls2 hP hS hl2)
  case iinc k z => 
    obtain ⟨rfl, hn, v, hk, h⟩ := h
    obtain ⟨j, hj⟩ := dz_lki (ad := π.2.2.2) hk
    exact lv_iinc hx hb d hl hj rfl hn (dz_st1 π.2.2.2 ls k (.inl (v + Int32.ofInt z)) rfl) (fun ls2 hl2 => h H locs ls2 hP hS hl2)
  case iadd => 
    obtain ⟨rfl, x, y, s2, rfl, h⟩ := h
    exact lv_iadd hx hb d (h H locs lsA hP hS hl)
  case isub => 
    obtain ⟨rfl, x, y, s2, rfl, h⟩ := h
    exact lv_isub hx hb d (h H locs lsA hP hS hl)
  case imul => 
    obtain ⟨rfl, x, y, s2, rfl, h⟩ := h
    exact lv_imul hx hb d (h H locs lsA hP hS hl)
  case iand => 
    obtain ⟨rfl, x, y, s2, rfl, h⟩ := h
    exact lv_iand hx hb d (h H locs lsA hP hS hl)
  case ior => 
    obtain ⟨rfl, x, y, s2, rfl, h⟩ := h
    exact lv_ior hx hb d (h H locs lsA hP hS hl)
  case ixor => 
    obtain ⟨rfl, x, y, s2, rfl, h⟩ := h
    exact lv_ixor hx hb d (h H locs lsA hP hS hl)
  case ishl => 
    obtain ⟨rfl, x, y, s2, rfl, h⟩ := h
    exact lv_ishl hx hb d (h H locs lsA hP hS hl)
  case ishr => 
    obtain ⟨rfl, x, y, s2, rfl, h⟩ := h
    exact lv_ishr hx hb d (h H locs lsA hP hS hl)
  case ladd => 
    obtain ⟨rfl, x, y, s2, rfl, h⟩ := h
    exact lv_ladd hx hb d (h H locs lsA hP hS hl)
  case lmul => 
    obtain ⟨rfl, x, y, s2, rfl, h⟩ := h
    exact lv_lmul hx hb d (h H locs lsA hP hS hl)
  case lcmp => 
    obtain ⟨rfl, x, y, s2, rfl, h⟩ := h
    exact W.lcmp hx hb d (h H locs lsA hP hS hl)
  case iushr => 
    obtain ⟨rfl, x, y, s2, rfl, h⟩ := h
    exact lv_iushr hx hb d rfl (h H locs lsA hP hS hl)
  case ldc_w k => 
    obtain ⟨rfl, v, hw, h⟩ := h
    exact lv_ldcw hx hb hown (hts _ hw) d (h H locs lsA hP hS hl)
  case idiv => 
    obtain ⟨rfl, x, y, s2, rfl, hy, h⟩ := h
    exact lv_idiv hx hb d hy (h H locs lsA hP hS hl)
  case irem => 
    obtain ⟨rfl, x, y, s2, rfl, hy, h⟩ := h
    exact lv_irem hx hb d hy (h H locs lsA hP hS hl)
  case i2l => 
    obtain ⟨rfl, x, s2, rfl, h⟩ := h
    exact lv_i2l hx hb d rfl (h H locs lsA hP hS hl)
  case dup => 
    obtain ⟨rfl, x, s2, rfl, hx1, h⟩ := h
    exact lv_dup hx hb d (by rcases x with x | x | a <;> first | rfl | cases hx1) (h H locs lsA hP hS hl)
  case dup2 => 
    obtain ⟨rfl, x, y, s2, rfl, hx1, hy1, h⟩ := h
    exact lv_dup2_11 hx hb d (by rcases x with x | x | a <;> first | rfl | cases hx1) (by rcases y with x | x | a <;> first | rfl | cases hy1) (h H locs lsA hP hS hl)
  case ifCond k off => 
    obtain ⟨rfl, x, s2, tgt, rfl, ht, h1, h2⟩ := h
    cases k
    case eq => exact lv_if_eq hx hb d ht (fun q => h1 q H locs lsA hP hS hl) (fun q => h2 q H locs lsA hP hS hl)
    case ne => exact lv_if_ne hx hb d ht (fun q => h1 q H locs lsA hP hS hl) (fun q => h2 (fun z => z q) H locs lsA hP hS hl)
    case lt => exact lv_if_lt hx hb d ht (fun q => h1 q H locs lsA hP hS hl) (fun q => h2 q H locs lsA hP hS hl)
    case ge => exact lv_if_ge hx hb d ht (fun q => h1 q H locs lsA hP hS hl) (fun q => h2 q H locs lsA hP hS hl)
    case gt => exact lv_if_gt hx hb d ht (fun q => h1 q H locs lsA hP hS hl) (fun q => h2 q H locs lsA hP hS hl)
    case le => exact lv_if_le hx hb d ht (fun q => h1 q H locs lsA hP hS hl) (fun q => h2 q H locs lsA hP hS hl)
  case if_icmp k off => 
    obtain ⟨rfl, x, y, s2, tgt, rfl, ht, h1, h2⟩ := h
    cases k
    case eq => exact lv_icmp_eq hx hb d ht (fun q => h1 q H locs lsA hP hS hl) (fun q => h2 q H locs lsA hP hS hl)
    case ne => exact lv_icmp_ne hx hb d ht (fun q => h1 q H locs lsA hP hS hl) (fun q => h2 (fun z => z q) H locs lsA hP hS hl)
    case lt => exact lv_icmp_lt hx hb d ht (fun q => h1 q H locs lsA hP hS hl) (fun q => h2 q H locs lsA hP hS hl)
    case ge => exact lv_icmp_ge hx hb d ht (fun q => h1 q H locs lsA hP hS hl) (fun q => h2 q H locs lsA hP hS hl)
    case gt => exact lv_icmp_gt hx hb d ht (fun q => h1 q H locs lsA hP hS hl) (fun q => h2 q H locs lsA hP hS hl)
    case le => exact lv_icmp_le hx hb d ht (fun q => h1 q H locs lsA hP hS hl) (fun q => h2 q H locs lsA hP hS hl)
  case goto off => 
    obtain ⟨rfl, tgt, ht, h⟩ := h
    exact lv_goto hx hb d ht (h H locs lsA hP hS hl)
  case tableswitch dflt lo hi offs => 
    obtain ⟨x, s2, rfl, h1, h2⟩ := h
    by_cases q1 : x.toInt < lo
    · obtain ⟨tgt, ht, h⟩ := h1 (Or.inl q1)
      exact lv_tableOut hx hb d (Or.inl q1) ht (h H locs lsA hP hS hl)
    · by_cases q2 : hi < x.toInt
      · obtain ⟨tgt, ht, h⟩ := h1 (Or.inr q2)
        exact lv_tableOut hx hb d (Or.inr q2) ht (h H locs lsA hP hS hl)
      · obtain ⟨off, tgt, ho, ht, h⟩ := h2 q1 q2
        exact lv_tableIn hx hb d q1 q2 ho ht (h H locs lsA hP hS hl)
  case getfield k => 
    obtain ⟨rfl, a, s2, fs, sl, kd, rfl, ho, ha, hLa, hk, hkd, h⟩ := h
    obtain ⟨c1, c2, c3, c4⟩ := dz_cf own ho
    have hq := c4 (k, sl) (dz_lookup_mem2 hk)
    have hcell : (dz_wl π Λ N I J)[a]? = some (π.2.2.2 a, .inr (own, fs.mapIdx (fun k f => dz_fv π.2.2.2 (I a) (J a) k f))) := by rw [dz_wl_get ha, hLa]; rfl
    refine va_get (ws := dz_wl π Λ N I J) (v := dz_val π.2.2.2 (dz_rd I J a sl kd)) hx hb hts c1 hown hK hP a hcell (dz_cl own ho) sl hq.1 (hts _ hq.2) (fun _ h9 => h9) ?_ d (h H locs lsA hP hS hl)
    rw [List.getElem?_mapIdx, hkd]
    rcases kd with _ | _ | b <;> rfl
  case putfield k => 
    obtain ⟨rfl, a, s2, fs, sl, ho, ha, hLa, hk, hfin, h⟩ := h
    obtain ⟨c1, c2, c3, c4⟩ := dz_cf own ho
    have hq := c4 (k, sl) (dz_lookup_mem2 hk)
    have hcell : (dz_wl π Λ N I J)[a]? = some (π.2.2.2 a, .inr (own, fs.mapIdx (fun k f => dz_fv π.2.2.2 (I a) (J a) k f))) := by rw [dz_wl_get ha, hLa]; rfl
    rcases h with ⟨x, rfl, hkd, hn, hft, h⟩ | ⟨x, rfl, hkd, hty, h⟩
    · have hlen : sl < (fs.mapIdx (fun k f => dz_fv π.2.2.2 (I a) (J a) k f)).length := by rw [List.length_mapIdx]; exact (List.getElem?_eq_some_iff.mp hkd).1
      refine va_put (ws := dz_wl π Λ N I J) (v := .int x) (ty := dz_ty own sl) hx hb hts c1 (dz_ty own) c2 c3 hown hK hP hD hS a hcell (dz_cl own ho) sl hq.1 (hts _ hq.2) (fun _ h9 => h9) hfin (c2 sl hq.1) hn hft hlen d (fun H1 locs1 hP1 hD1 hS1 => ?_)
      rw [dz_wl_set (I' := dz_wi I a sl x) (J' := J) (by rw [hLa, dz_wi_row]; exact congrArg (fun z => (Sum.inr (own, z) : va_E)) (dz_mapIdx_set _ _ _ _ _ _ _ _ _ hkd (by simp [dz_fv, upd]) (fun j hj => ⟨by simp [upd, hj], rfl⟩))) (fun b hb2 => ⟨dz_wi_off I sl x hb2, rfl⟩)] at hP1
      exact h H1 locs1 lsA hP1 hS1 hl
    · have hlen : sl < (fs.mapIdx (fun k f => dz_fv π.2.2.2 (I a) (J a) k f)).length := by rw [List.length_mapIdx]; exact (List.getElem?_eq_some_iff.mp hkd).1
      refine va_put (ws := dz_wl π Λ N I J) (v := .long x) (ty := dz_ty own sl) hx hb hts c1 (dz_ty own) c2 c3 hown hK hP hD hS a hcell (dz_cl own ho) sl hq.1 (hts _ hq.2) (fun _ h9 => h9) hfin (c2 sl hq.1) (by rw [hty]; rfl) (by rw [hty]; rfl) hlen d (fun H1 locs1 hP1 hD1 hS1 => ?_)
      rw [dz_wl_set (I' := I) (J' := dz_wj J a sl x) (by rw [hLa, dz_wj_row]; exact congrArg (fun z => (Sum.inr (own, z) : va_E)) (dz_mapIdx_set _ _ _ _ _ _ _ _ _ hkd (by simp [dz_fv, vp_updL]) (fun j hj => ⟨rfl, by simp [vp_updL, hj]⟩))) (fun b hb2 => ⟨rfl, dz_wj_off J sl x hb2⟩)] at hP1
      exact h H1 locs1 lsA hP1 hS1 hl
  case iaload => 
    obtain ⟨rfl, a, j, s2, L, b, rfl, ha, hLa, hin, h⟩ := h
    have hcell : (dz_wl π Λ N I J)[a]? = some (π.2.2.2 a, .inl (π.2.2.1 0, L, .inl (I a))) := by rw [dz_wl_get ha, hLa]; rfl
    exact va_iald hx hb hK hP a 0 hcell rfl hin d (h H locs lsA hP hS hl)
  case baload => 
    obtain ⟨rfl, a, j, s2, L, b, rfl, ha, hLa, hin, h⟩ := h
    have hcell : (dz_wl π Λ N I J)[a]? = some (π.2.2.2 a, .inl (π.2.2.1 2, L, .inl (I a))) := by rw [dz_wl_get ha, hLa]; rfl
    exact va_zald hx hb hK hP a 2 hcell rfl hin d (h H locs lsA hP hS hl)
  case laload => 
    obtain ⟨rfl, a, j, s2, L, b, rfl, ha, hLa, hin, h⟩ := h
    have hcell : (dz_wl π Λ N I J)[a]? = some (π.2.2.2 a, .inl (π.2.2.1 1, L, .inr (.inl (J a)))) := by rw [dz_wl_get ha, hLa]; rfl
    exact va_lald hx hb hK hP a 1 hcell rfl hin d (h H locs lsA hP hS hl)
  case aaload => 
    obtain ⟨rfl, a, j, s2, k, L, b, rfl, ha, hk2, hLa, hin, h⟩ := h
    have hcell : (dz_wl π Λ N I J)[a]? = some (π.2.2.2 a, .inl (π.2.2.1 (k + 3), L, .inr (.inr (.inr (.inr (fun i => if i < L then some (π.2.2.2 (b + i)) else none)))))) := by rw [dz_wl_get ha, hLa]; rfl
    have hlt : j.toNatClampNeg < L := Nat.not_le.mp fun q => hin (Or.inr q)
    have h3 := h H locs lsA hP hS hl
    have e3 : va_rf (if j.toNatClampNeg < L then some (π.2.2.2 (b + j.toNatClampNeg)) else none) = Value.ref (π.2.2.2 (b + j.toNatClampNeg)) := by rw [if_pos hlt]; rfl
    rcases (show k = 0 ∨ k = 1 by omega) with rfl | rfl
    · refine dz_aald (ty := .int) hx hb hK hP a 3 hcell rfl hin d ?_
      rw [e3]; exact h3
    · refine dz_aald (ty := .long) hx hb hK hP a 4 hcell rfl hin d ?_
      rw [e3]; exact h3
  case iastore => 
    obtain ⟨rfl, a, j, x, s2, L, b, rfl, ha, hLa, hin, h⟩ := h
    have hcell : (dz_wl π Λ N I J)[a]? = some (π.2.2.2 a, .inl (π.2.2.1 0, L, .inl (I a))) := by rw [dz_wl_get ha, hLa]; rfl
    refine va_iast hx hb hK hP hD hS a 0 hcell rfl hin d (fun H1 locs1 hP1 hD1 hS1 => ?_)
    rw [dz_wl_set (I' := dz_wi I a j.toNatClampNeg x) (J' := J) (by rw [hLa, dz_wi_row]; rfl) (fun b hb2 => ⟨dz_wi_off I _ x hb2, rfl⟩)] at hP1
    exact h H1 locs1 lsA hP1 hS1 hl
  case bastore => 
    obtain ⟨rfl, a, j, x, s2, L, b, rfl, ha, hLa, hin, hnr, h⟩ := h
    have hcell : (dz_wl π Λ N I J)[a]? = some (π.2.2.2 a, .inl (π.2.2.1 2, L, .inl (I a))) := by rw [dz_wl_get ha, hLa]; rfl
    refine va_zast hx hb hK hP hD hS a 2 hcell rfl hin d (fun H1 locs1 hP1 hD1 hS1 => ?_)
    rw [hnr] at hP1
    rw [dz_wl_set (I' := dz_wi I a j.toNatClampNeg x) (J' := J) (by rw [hLa, dz_wi_row]; rfl) (fun b hb2 => ⟨dz_wi_off I _ x hb2, rfl⟩)] at hP1
    exact h H1 locs1 lsA hP1 hS1 hl
  case lastore => 
    obtain ⟨rfl, a, j, x, s2, L, b, rfl, ha, hLa, hin, h⟩ := h
    have hcell : (dz_wl π Λ N I J)[a]? = some (π.2.2.2 a, .inl (π.2.2.1 1, L, .inr (.inl (J a)))) := by rw [dz_wl_get ha, hLa]; rfl
    refine va_last hx hb hK hP hD hS a 1 hcell rfl hin d (fun H1 locs1 hP1 hD1 hS1 => ?_)
    rw [dz_wl_set (I' := I) (J' := dz_wj J a j.toNatClampNeg x) (by rw [hLa, dz_wj_row]; rfl) (fun b hb2 => ⟨rfl, dz_wj_off J _ x hb2⟩)] at hP1
    exact h H1 locs1 lsA hP1 hS1 hl
  case invokestatic k => 
    obtain ⟨rfl, hF1, hL1, h⟩ := h
    have hf : 1 ≤ R.frames := by omega
    rcases h with ⟨hw, x, s2, rfl, hwd, h⟩ | ⟨hw, x, y, s2, rfl, hwd, h⟩ | ⟨hw, x, y, s2, rfl, hwd, h⟩ | ⟨hw, a, b, sp, dp, z, s2, L0, b0, L1, b1, rfl, hwd, ha, hb9, hLa, hLb, h1, h2, h3, h4, h5, h⟩
    · exact va_mabs hx hb hsz hown (hts _ hw) (hts _ dz_w_abs_s) (hts _ dz_w_math) (hts _ dz_w_abs_c) hf (by rw [dz_wd_eq]; omega) hc hs d (h H locs lsA hP hS hl)
    · exact va_mmax hx hb hsz hown (hts _ hw) (hts _ dz_w_max_s) (hts _ dz_w_math) (hts _ dz_w_max_c) hf (by rw [dz_wd_eq]; omega) hc hs d (h H locs lsA hP hS hl)
    · exact va_mmin hx hb hsz hown (hts _ hw) (hts _ dz_w_min_s) (hts _ dz_w_math) (hts _ dz_w_min_c) hf (by rw [dz_wd_eq]; omega) hc hs d (h H locs lsA hP hS hl)
    · have hca : (dz_wl π Λ N I J)[a]? = some (π.2.2.2 a, .inl (π.2.2.1 0, L0, .inl (I a))) := by rw [dz_wl_get ha, hLa]; rfl
      have hcb : (dz_wl π Λ N I J)[b]? = some (π.2.2.2 b, .inl (π.2.2.1 0, L1, .inl (I b))) := by rw [dz_wl_get hb9, hLb]; rfl
      refine va_copyi hx hb hsz hown (hts _ hw) (hts _ dz_w_cpy_n) (hts _ dz_w_cpy_s) (hts _ dz_w_sys) hK hP hD hS a b 0 0 (ty := .int) hca hcb rfl rfl rfl h1 h2 h3 h4 h5 (fun _ _ => rfl) hf (by rw [dz_wd_eq]; exact Nat.le_trans (Nat.add_le_add_right hwd _) (Nat.le_trans dz_nat_w (by omega))) d (fun H1 locs1 hP1 hD1 hS1 => ?_)
      rw [dz_wl_set (I' := dz_cp I a b sp.toNatClampNeg dp.toNatClampNeg z.toNatClampNeg) (J' := J) (by rw [hLb]; simp [dz_cel, dz_cp]) (fun c2 hc2 => ⟨by simp [dz_cp, hc2], rfl⟩)] at hP1
      exact h H1 locs1 lsA hP1 hS1 hl
  all_goals exact False.elim h
end DZS
end
section
/-! CONTRACTS over the layer: dz_Cl; calls; ends; the body -/
def dz_A (π : dz_Pl) (N : Nat) : Nat → Prop := fun q => ∃ c, c < N ∧ q = π.2.2.2 c
def dz_Pre (π : dz_Pl) (Λ : Nat → dz_Ds) (N : Nat) (vs : List dz_AV) (I : dz_MI) (J : dz_MJ) : Array Value → State → Prop := va_Pc (vs.map (dz_val π.2.2.2)) (fun U => dz_inj π.2.2.2 N ∧ va_P π.2.1 vwCl (dz_wl π Λ N I J) U.heap ∧ va_K π.2.1 vwCl (dz_tys π.2.2.1) U ∧ dz_Nw U)
def dz_Post (π : dz_Pl) (Λ : Nat → dz_Ds) (N : Nat) (post : Option dz_AV → dz_MI → dz_MJ → Prop) : Array Value → State → Outcome → State → Prop := fun _ st oc t => (∃ (r : Option dz_AV) (I' : dz_MI) (J' : dz_MJ), oc = .returned (r.map (dz_val π.2.2.2)) ∧ post r I' J' ∧ va_P π.2.1 vwCl (dz_wl π Λ N I' J') t.heap) ∧ va_F (dz_A π N) st t
def dz_Cl (π : dz_Pl) (Λ : Nat → dz_Ds) (N : Nat) (μ : dz_Mu) (F Lc : Nat) (vs : List dz_AV) (I : dz_MI) (J : dz_MJ) (post : Option dz_AV → dz_MI → dz_MJ → Prop) : Prop :=
  Met π.1 μ.1 (.code μ.1 μ.2.1 μ.2.2.1 μ.2.2.2 :: dz_WS) { frames := F, cells := 0, slots := 0, locals := Lc } (dz_Pre π Λ N vs I J) (dz_Post π Λ N post) 0 0 (dz_A π N)
theorem dz_Cl.mono {π : dz_Pl} {Λ : Nat → dz_Ds} {N : Nat} {μ : dz_Mu} {F Lc : Nat} {vs : List dz_AV} {I : dz_MI} {J : dz_MJ} {p1 p2 : Option dz_AV → dz_MI → dz_MJ → Prop} (h : dz_Cl π Λ N μ F Lc vs I J p1) (hp : ∀ r I' J', p1 r I' J' → p2 r I' J') : dz_Cl π Λ N μ F Lc vs I J p2 := by
  intro p e ha hc hk s m args below hf happ hP hK
  obtain ⟨n, o, h1, h2, h3, ⟨⟨r, I', J', h4, h5, h6⟩, h7⟩, h8⟩ := h p e ha hc hk s m args below hf happ hP hK
  exact ⟨n, o, h1, h2, h3, ⟨⟨r, I', J', h4, hp r I' J' h5, h6⟩, h7⟩, h8⟩
theorem dz_blind (π : dz_Pl) (Λ : Nat → dz_Ds) (N : Nat) (vs : List dz_AV) (I : dz_MI) (J : dz_MJ) : FrameBlind (dz_Pre π Λ N vs I J) := by
  intro a U g mk q
  obtain ⟨q0, q1, qP, qK, qN⟩ := q
  exact ⟨q0, q1, qP, va_K.moved (u := U) (U := U.calling g mk a) (Vm.Alike.refl U.vm) qK, dz_Nw.same rfl qN⟩
section DZC
variable {π : dz_Pl} {Λ : Nat → dz_Ds} {N nL own F Lc : Nat} {A : Nat → Prop} {p : Program} {e : Env} {R : Room} {s : State} {m : MethodId} {args : Array Value} {below : List Frame} {meth : Method} {c : Code} {cells slots : Nat} {Q : State → Prop} {cc : ByteArray}
theorem dz_back {H : Heap} {locs : List Loc} {lsA : Array Slot} {pc : Nat} {st : List dz_AV} {st0 : List Value} {ls : dz_LS} {a : Array Value} (hA : ∀ a, a < N → A (π.2.2.2 a)) (hS : va_S A s.heap H locs) (hl : lv_has lsA nL (dz_map π.2.2.2 ls))
    (hr : va_Run p π.1 e R s m args below meth c H locs cells slots 0 0 (F0 m pc lsA st0) (st.map (dz_val π.2.2.2)) (dz_Post π Λ N (fun r I' J' => dz_W π Λ N nL A p e R s m args below meth c cells slots Q (pc + 3) I' J' ls (r.toList ++ st)) a) (dz_A π N)) :
    W p π.1 e R s m args below meth c H locs cells slots Q (F0 m pc lsA st0) := by
  intro T hT X
  obtain ⟨v, st₀, t, T', L, h0, X', hL, e1, e2, ⟨⟨r, I', J', hv, hp, hP1⟩, hz, hk⟩, stp⟩ := hr T hT X
  rw [h0] at hz hk
  have hv2 : v = r.map (dz_val π.2.2.2) := by injection hv
  have hS1 : va_S A s.heap T'.heap (locs ++ L) := ⟨Nat.le_trans hS.1 (by rw [e1]; exact hz), fun q h1 h2 => by
      rw [e1, hk q (Nat.lt_of_lt_of_le h1 hS.1) (fun z => by obtain ⟨c9, hc9, rfl⟩ := z; exact h2 (hA c9 hc9))]
      exact hS.2.1 q h1 h2, fun q hq => by
      rcases List.mem_append.mp hq with h | h
      · exact hS.2.2 q h
      · obtain ⟨c9, hc9, e9⟩ := hL q h
        rw [e9]; exact hA c9 hc9⟩
  obtain ⟨t2, a1, b1⟩ := hp T'.heap (locs ++ L) lsA (by rw [e1]; exact hP1) hS1 hl T' rfl X'
  refine ⟨t2, stp t2 ?_, b1⟩
  have e9 : (r.toList ++ st).map (dz_val π.2.2.2) = v.toList ++ st.map (dz_val π.2.2.2) := by
    rw [hv2, List.map_append]
    cases r <;> rfl
  rw [e9] at a1
  exact a1
theorem dz_cb {idx : Nat} {μ : dz_Mu} {k F' L' : Nat} (X : dz_Ctx π N own nL F Lc cc A p R s m args c cells slots) (hm : dz_MW μ k) (hl : Cond.methodLink (dz_R own) idx μ.1 ∈ dz_WS) (hF : F' + 1 ≤ F) (hL : 8 + (μ.2.2.1 + 11) + L' ≤ Lc) :
    CallB R s args (dz_R own) idx μ.1 μ.2.1 μ.2.2.1 μ.2.2.2 (.code μ.1 μ.2.1 μ.2.2.1 μ.2.2.2 :: dz_WS) { frames := F', cells := 0, slots := 0, locals := L' } 0 0 k := by
  obtain ⟨hx, hb, hml, hown, hts, hK, hA, hinj, hF2, hL2, hc, hs, hnw⟩ := X
  obtain ⟨m1, m2, m3, m4, m5, m6⟩ := hm
  refine callB_of (Ts := dz_WS) (ws' := dz_WS) k hts (fun w hw => ?_) rfl rfl rfl (hts _ m1) (hts _ hl) ⟨m3, m4, m5⟩ ⟨by rw [hF2]; exact hF, by rw [hL2]; exact hL⟩
  rcases List.mem_cons.mp hw with rfl | hw
  · exact ⟨m2, dz_WS_good _ m2⟩
  · exact ⟨hw, dz_WS_good w hw⟩
theorem dz_callv {idx : Nat} {μ : dz_Mu} {k F' L' pc a ci : Nat} {vs st : List dz_AV} {I : dz_MI} {J : dz_MJ} {ls : dz_LS} {fs : List (Option (Option Nat))} (X : dz_Ctx π N own nL F Lc cc A p R s m args c cells slots) (lk : dz_Lv (dz_R own) idx μ k) (d : decode cc pc = .ok (.invokevirtual idx, 3)) (hn : vs.length = k) (hF : F' + 1 ≤ F) (hL : 8 + (μ.2.2.1 + 11) + L' ≤ Lc) (ha : a < N) (hLa : Λ a = .inl (ci, fs)) (hci : ci < 6) (hcls : dz_R ci = μ.1.cls) (hst : dz_wd st ≤ 8)
    (h : dz_Cl π Λ N μ F' L' (.inr (.inr a) :: vs) I J (fun r I' J' => dz_W π Λ N nL A p e R s m args below meth c cells slots Q (pc + 3) I' J' ls (r.toList ++ st))) : dz_W π Λ N nL A p e R s m args below meth c cells slots Q pc I J ls (vs.reverse ++ .inr (.inr a) :: st) := by
  intro H locs lsA hP hS hl
  obtain ⟨l0, l1, l2, l3⟩ := lk
  have hcb := dz_cb X l0 l1 hF hL
  obtain ⟨hx, hb, hml, hown, hts, hK, hA, hinj, hF2, hL2, hc, hs, hnw⟩ := X
  have hcell : (dz_wl π Λ N I J)[a]? = some (π.2.2.2 a, .inr (ci, fs.mapIdx (fun k f => dz_fv π.2.2.2 (I a) (J a) k f))) := by rw [dz_wl_get ha, hLa]; rfl
  refine dz_back (a := (Value.ref (π.2.2.2 a) :: vs.map (dz_val π.2.2.2)).toArray) hA hS hl (va_runV (C := dz_R ci) (b := π.2.2.2 a) (As := vs.map (dz_val π.2.2.2)) (nL := nL) (Ts := dz_WS) (own := dz_R own) (n := k) (bytes := μ.2.1) (maxL := μ.2.2.1) (ret := μ.2.2.2) ⟨hx, hb, hml, hown, hts⟩ h ⟨hcb, hts _ l2, by rw [hcls]; exact hts _ l3⟩ ⟨dz_blind _ _ _ _ _ _, va_recv hK hP (dz_cl ci hci) hcell, fun U hU hW => ⟨rfl, hinj, by rw [hU]; exact hP, va_K.moved hW.alike hK, dz_Nw.warm hW hnw⟩⟩ rfl (by simpa using hn) hl.1 (by simp [dz_val]) (lv_room (by rw [dz_wd_eq]; exact hst)) d ⟨hc, hs⟩)
theorem dz_calls {idx : Nat} {μ : dz_Mu} {k F' L' pc : Nat} {vs st : List dz_AV} {I : dz_MI} {J : dz_MJ} {ls : dz_LS} (X : dz_Ctx π N own nL F Lc cc A p R s m args c cells slots) (lk : dz_Ls (dz_R own) idx μ k) (d : decode cc pc = .ok (.invokestatic idx, 3)) (hn : vs.length = k) (hF : F' + 1 ≤ F) (hL : 8 + (μ.2.2.1 + 11) + L' ≤ Lc) (hst : dz_wd st ≤ 8)
    (h : dz_Cl π Λ N μ F' L' vs I J (fun r I' J' => dz_W π Λ N nL A p e R s m args below meth c cells slots Q (pc + 3) I' J' ls (r.toList ++ st))) : dz_W π Λ N nL A p e R s m args below meth c cells slots Q pc I J ls (vs.reverse ++ st) := by
  intro H locs lsA hP hS hl
  obtain ⟨l0, l1, l2⟩ := lk
  have hcb := dz_cb X l0 l1 hF hL
  obtain ⟨hx, hb, hml, hown, hts, hK, hA, hinj, hF2, hL2, hc, hs, hnw⟩ := X
  refine dz_back (a := (vs.map (dz_val π.2.2.2)).toArray) hA hS hl (va_runS (As := vs.map (dz_val π.2.2.2)) (nL := nL) (Ts := dz_WS) (own := dz_R own) (n := k) (bytes := μ.2.1) (maxL := μ.2.2.1) (ret := μ.2.2.2) ⟨hx, hb, hml, hown, hts⟩ h ⟨hcb, hts _ l2⟩ ⟨dz_blind _ _ _ _ _ _, fun U hU hW => ⟨rfl, hinj, by rw [hU]; exact hP, va_K.moved hW.alike hK, dz_Nw.warm hW hnw⟩⟩ rfl (by simpa using hn) hl.1 (by simp) (lv_room (by rw [dz_wd_eq]; exact hst)) d ⟨hc, hs⟩)
def dz_Lsn (own idx : Nat) (μ : dz_Mu) (k : Nat) : Prop := dz_Ls (dz_R own) idx μ k ∨ (dz_MW μ k ∧ Cond.static μ.1 ∈ dz_WS ∧ μ.1 = yX4_hasBit ∧ ((own = 3 ∧ idx = 22) ∨ (own = 2 ∧ idx = 92)))
theorem dz_callsn {idx : Nat} {μ : dz_Mu} {k F' L' pc : Nat} {vs st : List dz_AV} {I : dz_MI} {J : dz_MJ} {ls : dz_LS} (X : dz_Ctx π N own nL F Lc cc A p R s m args c cells slots) (lk : dz_Lsn own idx μ k) (d : decode cc pc = .ok (.invokestatic idx, 3)) (hn : vs.length = k) (hF : F' + 1 ≤ F) (hL : 8 + (μ.2.2.1 + 11) + L' ≤ Lc) (hst : dz_wd st ≤ 8)
    (h : dz_Cl π Λ N μ F' L' vs I J (fun r I' J' => dz_W π Λ N nL A p e R s m args below meth c cells slots Q (pc + 3) I' J' ls (r.toList ++ st))) : dz_W π Λ N nL A p e R s m args below meth c cells slots Q pc I J ls (vs.reverse ++ st) := by
  rcases lk with lk | ⟨l0, l2, hy, hn2⟩
  · exact dz_calls X lk d hn hF hL hst h
  · intro H locs lsA hP hS hl
    obtain ⟨hx, hb, hml, hown, hts, hK, hA, hinj, hF2, hL2, hc, hs, hnw⟩ := X
    obtain ⟨m1, m2, m3, m4, m5, m6⟩ := l0
    have hlink : va_Nw (.methodLinkNest (dz_R own) idx μ.1 RX4) s := by
      rcases hn2 with ⟨rfl, rfl⟩ | ⟨rfl, rfl⟩
      · rw [hy]; exact hnw.1
      · rw [hy]; exact hnw.2
    have hcb : va_CN R s args (dz_R own) idx μ.1 RX4 μ.2.1 μ.2.2.1 μ.2.2.2 (.code μ.1 μ.2.1 μ.2.2.1 μ.2.2.2 :: dz_WS) { frames := F', cells := 0, slots := 0, locals := L' } 0 0 k := by
      refine va_cnB (Ts := dz_WS) (ws' := dz_WS) k hts (fun w hw => ?_) rfl rfl rfl hlink (hts _ m1) ⟨m3, m4, m5⟩ ⟨by rw [hF2]; exact hF, by rw [hL2]; exact hL⟩
      rcases List.mem_cons.mp hw with rfl | hw
      · exact ⟨m2, dz_WS_good _ m2⟩
      · exact ⟨hw, dz_WS_good w hw⟩
    refine dz_back (a := (vs.map (dz_val π.2.2.2)).toArray) hA hS hl (va_runSN (host := RX4) (As := vs.map (dz_val π.2.2.2)) (nL := nL) (Ts := dz_WS) (own := dz_R own) (n := k) (bytes := μ.2.1) (maxL := μ.2.2.1) (ret := μ.2.2.2) ⟨hx, hb, hml, hown, hts⟩ h ⟨hcb, hts _ l2, trivial⟩ ⟨dz_blind _ _ _ _ _ _, fun U hU hW => ⟨rfl, hinj, by rw [hU]; exact hP, va_K.moved hW.alike hK, dz_Nw.warm hW hnw⟩⟩ rfl (by simpa using hn) hl.1 (by simp) (lv_room (by rw [dz_wd_eq]; exact hst)) d ⟨hc, hs⟩)
end DZC
def dz_ent : Nat → List dz_AV → dz_LS
  | _, [] => []
  | k, v :: r => (k, v) :: dz_ent (if dz_isL v then k + 2 else k + 1) r
theorem dz_ent_eq (ad : Nat → Nat) : ∀ (vs : List dz_AV) (k : Nat), dz_map ad (dz_ent k vs) = lv_args k (vs.map (dz_val ad))
  | [], k => rfl
  | v :: r, k => by
    have ih := dz_ent_eq ad r (if dz_isL v then k + 2 else k + 1)
    have hc : (if (dz_val ad v).category = 2 then k + 2 else k + 1) = (if dz_isL v then k + 2 else k + 1) := by
      rcases v with x | x | c <;> rfl
    show (k, dz_val ad v) :: dz_map ad (dz_ent _ r) = (k, dz_val ad v) :: lv_args (if (dz_val ad v).category = 2 then k + 2 else k + 1) (r.map (dz_val ad))
    rw [hc, ih]
theorem dz_sl_len (ad : Nat → Nat) : ∀ (vs : List dz_AV), (lg_sl (vs.map (dz_val ad))).length = dz_wd vs
  | [] => rfl
  | v :: r => by
    have ih := dz_sl_len ad r
    rw [List.map_cons]
    show (lg_sl ([dz_val ad v] ++ r.map (dz_val ad))).length = _
    unfold lg_sl at ih ⊢
    rw [List.flatMap_append, List.length_append, ih]
    rcases v with x | x | c <;> simp [dz_val, dz_wd, dz_isL, Value.category]
def dz_Clo (π : dz_Pl) (Λ : Nat → dz_Ds) (N own : Nat) (μ : dz_Mu) (F Lc : Nat) (post : Option dz_AV → dz_MI → dz_MJ → Prop) (V : dz_Vt) : Prop :=
  (∀ {pc n : Nat} {i : Instr} {I : dz_MI} {J : dz_MJ} {ls : dz_LS} {st : List dz_AV}, decode μ.2.1 pc = .ok (i, n) → dz_wp Λ N own μ.2.2.1 F Lc i n pc I J ls st V → V pc I J ls st) ∧
  (∀ {idx : Nat} {ν : dz_Mu} {k F' L' pc a ci : Nat} {vs st : List dz_AV} {I : dz_MI} {J : dz_MJ} {ls : dz_LS} {fs : List (Option (Option Nat))}, dz_Lv (dz_R own) idx ν k → decode μ.2.1 pc = .ok (.invokevirtual idx, 3) → vs.length = k → F' + 1 ≤ F → 8 + (ν.2.2.1 + 11) + L' ≤ Lc → a < N → Λ a = .inl (ci, fs) → ci < 6 → dz_R ci = ν.1.cls → dz_wd st ≤ 8 → dz_Cl π Λ N ν F' L' (.inr (.inr a) :: vs) I J (fun r I' J' => V (pc + 3) I' J' ls (r.toList ++ st)) → V pc I J ls (vs.reverse ++ .inr (.inr a) :: st)) ∧
  (∀ {idx : Nat} {ν : dz_Mu} {k F' L' pc : Nat} {vs st : List dz_AV} {I : dz_MI} {J : dz_MJ} {ls : dz_LS}, dz_Lsn own idx ν k → decode μ.2.1 pc = .ok (.invokestatic idx, 3) → vs.length = k → F' + 1 ≤ F → 8 + (ν.2.2.1 + 11) + L' ≤ Lc → dz_wd st ≤ 8 → dz_Cl π Λ N ν F' L' vs I J (fun r I' J' => V (pc + 3) I' J' ls (r.toList ++ st)) → V pc I J ls (vs.reverse ++ st)) ∧
  (∀ {pc : Nat} {I : dz_MI} {J : dz_MJ} {ls : dz_LS} {v : Int32} {ty : FieldType}, decode μ.2.1 pc = .ok (.ireturn, 1) → μ.2.2.2 = some ty → narrow ty (.int v) = .int v → post (some (.inl v)) I J → V pc I J ls [.inl v]) ∧
  (∀ {pc : Nat} {I : dz_MI} {J : dz_MJ} {ls : dz_LS} {v : Int64}, decode μ.2.1 pc = .ok (.lreturn, 1) → μ.2.2.2 = some .long → post (some (.inr (.inl v))) I J → V pc I J ls [.inr (.inl v)]) ∧
  (∀ {pc : Nat} {I : dz_MI} {J : dz_MJ} {ls : dz_LS}, decode μ.2.1 pc = .ok (.return_, 1) → μ.2.2.2 = none → post none I J → V pc I J ls []) ∧
  (∀ {pc : Nat} {I : dz_MI} {J : dz_MJ} {ls ls' : dz_LS} {st : List dz_AV}, dz_sub ls ls' → V pc I J ls' st → V pc I J ls st)
theorem dz_body {π : dz_Pl} {Λ : Nat → dz_Ds} {N own : Nat} {μ : dz_Mu} {F Lc : Nat} {vs : List dz_AV} {I : dz_MI} {J : dz_MJ} {post : Option dz_AV → dz_MI → dz_MJ → Prop} {k : Nat} (hm : dz_MW μ k) (ho : μ.1.cls = dz_R own) (hw : dz_wd vs ≤ μ.2.2.1) (h : ∀ V, dz_Clo π Λ N own μ F Lc post V → V 0 I J (dz_ent 0 vs) []) : dz_Cl π Λ N μ F Lc vs I J post := by
  refine Met.ofW (cc := μ.2.1) (maxL := μ.2.2.1) (ret := μ.2.2.2) hm.2.2.2.2.2 rfl ?_
  intro p e s m args below meth c s₁ B hml hv
  obtain ⟨rfl, hinj, hP, hK, hnw⟩ := hv
  have hts0 := atoms_spec (ws := .code μ.1 μ.2.1 μ.2.2.1 μ.2.2.2 :: dz_WS) B.pre
  have hts : ∀ w ∈ dz_WS, w.before (vs.map (dz_val π.2.2.2)).toArray s = true := fun w hw => hts0 w (List.mem_cons_of_mem _ hw)
  have hown : s.vm.findClass (dz_R own) = some m.cls := by rw [← ho]; exact findClass_of_methodNamed B.named
  have hlocks := B.notSynchronized
  have X : dz_Ctx π N own μ.2.2.1 F Lc μ.2.1 (dz_A π N) p { frames := F, cells := 0, slots := 0, locals := Lc } s m (vs.map (dz_val π.2.2.2)).toArray c 0 0 :=
    ⟨B.exec, B.bytes, hml, hown, hts, hK, fun a ha => ⟨a, ha, rfl⟩, hinj, rfl, rfl, Nat.le_refl _, Nat.le_refl _, hnw⟩
  have hl := lv_entry (vs.map (dz_val π.2.2.2)) (n := μ.2.2.1) (by rw [dz_sl_len]; exact hw)
  rw [lg_entry_eq]
  rw [← dz_ent_eq] at hl
  have hV := h (dz_W π Λ N μ.2.2.1 (dz_A π N) p e { frames := F, cells := 0, slots := 0, locals := Lc } s m (vs.map (dz_val π.2.2.2)).toArray below meth c 0 0 (MQ below (dz_Post π Λ N post) (vs.map (dz_val π.2.2.2)).toArray s 0 0 (dz_A π N)))
    ⟨fun d h => dz_clo X d h, fun lk d hn hF hL ha hLa hci hcls hst h => dz_callv X lk d hn hF hL ha hLa hci hcls hst h, fun lk d hn hF hL hst h => dz_callsn X lk d hn hF hL hst h,
     fun {pc I J ls v ty} d hr hn hp H locs lsA hP hS hl => W.zret B.exec B.bytes (by rw [B.returns]; exact hr) hn (fun t ht hW => ⟨⟨some (.inl v), I, J, rfl, hp, by rw [ht]; exact hP⟩, hS.F ht⟩) hS.2.2 d,
     fun {pc I J ls v} d hr hp H locs lsA hP hS hl => W.lret B.exec B.bytes (by rw [B.returns]; exact hr) (fun t ht hW => ⟨⟨some (.inr (.inl v)), I, J, rfl, hp, by rw [ht]; exact hP⟩, hS.F ht⟩) hS.2.2 d,
     fun {pc I J ls} d hr hp H locs lsA hP hS hl => W.vret B.exec B.bytes (by rw [B.returns]; exact hr) (fun t ht hW => ⟨⟨none, I, J, rfl, hp, by rw [ht]; exact hP⟩, hS.F ht⟩) hS.2.2 d,
     fun hs h H locs lsA hP hS hl => h H locs lsA hP hS (dz_sub_has hl hs)⟩
  exact hV s.heap [] _ hP va_S.rf hl
end
section
/-! ROWS: one an instruction, over any V that is closed -/
def dz_b (P : Prop) [Decidable P] : Int32 := if P then 1 else 0
theorem dz_b0 {P : Prop} {hd : Decidable P} : dz_b P = 0 ↔ ¬ P := by unfold dz_b; by_cases h : P <;> simp [h]
theorem dz_b1 {P : Prop} {hd : Decidable P} (h : P) : dz_b P = 1 := if_pos h
theorem dz_bf {P : Prop} {hd : Decidable P} (h : ¬ P) : dz_b P = 0 := if_neg h
theorem dz_bn {P : Prop} {hd : Decidable P} : narrow .boolean (.int (dz_b P)) = .int (dz_b P) := by unfold dz_b; by_cases h : P <;> simp [h] <;> rfl
theorem dz_bc {P Q : Prop} {hp : Decidable P} {hq : Decidable Q} (h : P ↔ Q) : dz_b P = dz_b Q := by unfold dz_b; by_cases h2 : Q <;> simp [h, h2]
def dz_Pu (v : dz_AV) (I : dz_MI) (J : dz_MJ) : Option dz_AV → dz_MI → dz_MJ → Prop := fun r I2 J2 => r = some v ∧ I2 = I ∧ J2 = J
def dz_rc (Λ : Nat → dz_Ds) (N a : Nat) (ν : dz_Mu) : Prop := a < N ∧ ∃ ci fs, Λ a = .inl (ci, fs) ∧ ci < 6 ∧ dz_R ci = ν.1.cls
theorem dz_w_hasBit : Cond.static yX4_hasBit ∈ dz_WS := (dz_t2 (i := 64) rfl rfl)
section DZR
variable {π : dz_Pl} {Λ : Nat → dz_Ds} {N own : Nat} {μ : dz_Mu} {F Lc : Nat} {post : Option dz_AV → dz_MI → dz_MJ → Prop} {V : dz_Vt} {I : dz_MI} {J : dz_MJ} {ls : dz_LS} {st : List dz_AV}
theorem dr_iconst (pc : Nat) (hV : dz_Clo π Λ N own μ F Lc post V) {z : Int} {v : Int32} (d : decode μ.2.1 pc = .ok (.iconst z, 1)) (hv : Int32.ofInt z = v) (kk : V (pc + 1) I J ls (.inl v :: st)) : V pc I J ls (st) := hV.1 d ⟨rfl, by rw [hv]; exact kk⟩
theorem dr_bipush (pc : Nat) (hV : dz_Clo π Λ N own μ F Lc post V) {z : Int} {v : Int32} (d : decode μ.2.1 pc = .ok (.bipush z, 2)) (hv : (Int8.ofInt z).toInt32 = v) (kk : V (pc + 2) I J ls (.inl v :: st)) : V pc I J ls (st) := hV.1 d ⟨rfl, by rw [hv]; exact kk⟩
theorem dr_sipush (pc : Nat) (hV : dz_Clo π Λ N own μ F Lc post V) {z : Int} {v : Int32} (d : decode μ.2.1 pc = .ok (.sipush z, 3)) (hv : (Int16.ofInt z).toInt32 = v) (kk : V (pc + 3) I J ls (.inl v :: st)) : V pc I J ls (st) := hV.1 d ⟨rfl, by rw [hv]; exact kk⟩
theorem dr_ldc (pc : Nat) (hV : dz_Clo π Λ N own μ F Lc post V) {k : Nat} {v : Int32} (d : decode μ.2.1 pc = .ok (.ldc k, 2)) (hw : Cond.constant (dz_R own) k v ∈ dz_WS) (kk : V (pc + 2) I J ls (.inl v :: st)) : V pc I J ls (st) := hV.1 d ⟨rfl, v, hw, kk⟩
theorem dr_ldc_w (pc : Nat) (hV : dz_Clo π Λ N own μ F Lc post V) {k : Nat} {v : Int32} (d : decode μ.2.1 pc = .ok (.ldc_w k, 3)) (hw : Cond.constant (dz_R own) k v ∈ dz_WS) (kk : V (pc + 3) I J ls (.inl v :: st)) : V pc I J ls (st) := hV.1 d ⟨rfl, v, hw, kk⟩
theorem dr_iushr (pc : Nat) (hV : dz_Clo π Λ N own μ F Lc post V) {x y z : Int32} (d : decode μ.2.1 pc = .ok (.iushr, 1)) (hv : (x.toUInt32 >>> (y.toUInt32 &&& Int32.toUInt32 31)).toInt32 = z) (kk : V (pc + 1) I J ls (.inl z :: st)) : V pc I J ls (.inl y :: .inl x :: st) := hV.1 d ⟨rfl, x, y, st, rfl, by rw [hv]; exact kk⟩
theorem dr_lconst (pc : Nat) (hV : dz_Clo π Λ N own μ F Lc post V) {z : Fin 2} {v : Int64} (d : decode μ.2.1 pc = .ok (.lconst z, 1)) (hv : Int64.ofNat z = v) (kk : V (pc + 1) I J ls (.inr (.inl v) :: st)) : V pc I J ls (st) := hV.1 d ⟨rfl, by rw [hv]; exact kk⟩
theorem dr_iload (pc : Nat) (hV : dz_Clo π Λ N own μ F Lc post V) {k : Nat} {v : Int32} (d : decode μ.2.1 pc = .ok (.iload k, 2)) (hk : ls.lookup k = some (.inl v)) (kk : V (pc + 2) I J ls (.inl v :: st)) : V pc I J ls (st) := hV.1 d ⟨rfl, v, hk, kk⟩
theorem dr_iload_n (pc : Nat) (hV : dz_Clo π Λ N own μ F Lc post V) {k : Fin 4} {v : Int32} (d : decode μ.2.1 pc = .ok (.iload_n k, 1)) (hk : ls.lookup k.val = some (.inl v)) (kk : V (pc + 1) I J ls (.inl v :: st)) : V pc I J ls (st) := hV.1 d ⟨rfl, v, hk, kk⟩
theorem dr_lload (pc : Nat) (hV : dz_Clo π Λ N own μ F Lc post V) {k : Nat} {v : Int64} (d : decode μ.2.1 pc = .ok (.lload k, 2)) (hk : ls.lookup k = some (.inr (.inl v))) (kk : V (pc + 2) I J ls (.inr (.inl v) :: st)) : V pc I J ls (st) := hV.1 d ⟨rfl, v, hk, kk⟩
theorem dr_lload_n (pc : Nat) (hV : dz_Clo π Λ N own μ F Lc post V) {k : Fin 4} {v : Int64} (d : decode μ.2.1 pc = .ok (.lload_n k, 1)) (hk : ls.lookup k.val = some (.inr (.inl v))) (kk : V (pc + 1) I J ls (.inr (.inl v) :: st)) : V pc I J ls (st) := hV.1 d ⟨rfl, v, hk, kk⟩
theorem dr_aload (pc : Nat) (hV : dz_Clo π Λ N own μ F Lc post V) {k : Nat} {v : Nat} (d : decode μ.2.1 pc = .ok (.aload k, 2)) (hk : ls.lookup k = some (.inr (.inr v))) (kk : V (pc + 2) I J ls (.inr (.inr v) :: st)) : V pc I J ls (st) := hV.1 d ⟨rfl, v, hk, kk⟩
theorem dr_aload_n (pc : Nat) (hV : dz_Clo π Λ N own μ F Lc post V) {k : Fin 4} {v : Nat} (d : decode μ.2.1 pc = .ok (.aload_n k, 1)) (hk : ls.lookup k.val = some (.inr (.inr v))) (kk : V (pc + 1) I J ls (.inr (.inr v) :: st)) : V pc I J ls (st) := hV.1 d ⟨rfl, v, hk, kk⟩
theorem dr_istore (pc : Nat) (hV : dz_Clo π Λ N own μ F Lc post V) {k : Nat} {v : Int32} (d : decode μ.2.1 pc = .ok (.istore k, 2)) (hk : k < μ.2.2.1) (kk : V (pc + 2) I J (dz_st ls k (.inl v)) (st)) : V pc I J ls (.inl v :: st) := hV.1 d ⟨rfl, hk, v, st, rfl, kk⟩
theorem dr_istore_n (pc : Nat) (hV : dz_Clo π Λ N own μ F Lc post V) {k : Fin 4} {v : Int32} (d : decode μ.2.1 pc = .ok (.istore_n k, 1)) (hk : k.val < μ.2.2.1) (kk : V (pc + 1) I J (dz_st ls k.val (.inl v)) (st)) : V pc I J ls (.inl v :: st) := hV.1 d ⟨rfl, hk, v, st, rfl, kk⟩
theorem dr_astore (pc : Nat) (hV : dz_Clo π Λ N own μ F Lc post V) {k : Nat} {v : Nat} (d : decode μ.2.1 pc = .ok (.astore k, 2)) (hk : k < μ.2.2.1) (kk : V (pc + 2) I J (dz_st ls k (.inr (.inr v))) (st)) : V pc I J ls (.inr (.inr v) :: st) := hV.1 d ⟨rfl, hk, v, st, rfl, kk⟩
theorem dr_astore_n (pc : Nat) (hV : dz_Clo π Λ N own μ F Lc post V) {k : Fin 4} {v : Nat} (d : decode μ.2.1 pc = .ok (.astore_n k, 1)) (hk : k.val < μ.2.2.1) (kk : V (pc + 1) I J (dz_st ls k.val (.inr (.inr v))) (st)) : V pc I J ls (.inr (.inr v) :: st) := hV.1 d ⟨rfl, hk, v, st, rfl, kk⟩
theorem dr_lstore (pc : Nat) (hV : dz_Clo π Λ N own μ F Lc post V) {k : Nat} {v : Int64} (d : decode μ.2.1 pc = .ok (.lstore k, 2)) (hk : k + 1 < μ.2.2.1) (kk : V (pc + 2) I J (dz_st ls k (.inr (.inl v))) (st)) : V pc I J ls (.inr (.inl v) :: st) := hV.1 d ⟨rfl, hk, v, st, rfl, kk⟩
theorem dr_iinc (pc : Nat) (hV : dz_Clo π Λ N own μ F Lc post V) {k : Nat} {z : Int} {v v2 : Int32} (d : decode μ.2.1 pc = .ok (.iinc k z, 3)) (hn : k < μ.2.2.1) (hk : ls.lookup k = some (.inl v)) (hv : v + Int32.ofInt z = v2) (kk : V (pc + 3) I J (dz_st ls k (.inl v2)) (st)) : V pc I J ls (st) := hV.1 d ⟨rfl, hn, v, hk, by rw [hv]; exact kk⟩
theorem dr_inc1 (n : Nat) : nI n + Int32.ofInt 1 = nI (n + 1) := nI_1 n
theorem dr_iinc1 (pc : Nat) (hV : dz_Clo π Λ N own μ F Lc post V) {k v : Nat} (d : decode μ.2.1 pc = .ok (.iinc k 1, 3)) (hn : k < μ.2.2.1) (hk : ls.lookup k = some (.inl (nI v))) (kk : V (pc + 3) I J (dz_st ls k (.inl (nI (v + 1)))) (st)) : V pc I J ls (st) := dr_iinc pc hV d hn hk (dr_inc1 v) kk
theorem dr_iadd (pc : Nat) (hV : dz_Clo π Λ N own μ F Lc post V) {x y z : Int32} (d : decode μ.2.1 pc = .ok (.iadd, 1)) (hv : x + y = z) (kk : V (pc + 1) I J ls (.inl z :: st)) : V pc I J ls (.inl y :: .inl x :: st) := hV.1 d ⟨rfl, x, y, st, rfl, by rw [hv]; exact kk⟩
theorem dr_isub (pc : Nat) (hV : dz_Clo π Λ N own μ F Lc post V) {x y z : Int32} (d : decode μ.2.1 pc = .ok (.isub, 1)) (hv : x - y = z) (kk : V (pc + 1) I J ls (.inl z :: st)) : V pc I J ls (.inl y :: .inl x :: st) := hV.1 d ⟨rfl, x, y, st, rfl, by rw [hv]; exact kk⟩
theorem dr_imul (pc : Nat) (hV : dz_Clo π Λ N own μ F Lc post V) {x y z : Int32} (d : decode μ.2.1 pc = .ok (.imul, 1)) (hv : x * y = z) (kk : V (pc + 1) I J ls (.inl z :: st)) : V pc I J ls (.inl y :: .inl x :: st) := hV.1 d ⟨rfl, x, y, st, rfl, by rw [hv]; exact kk⟩
theorem dr_iand (pc : Nat) (hV : dz_Clo π Λ N own μ F Lc post V) {x y z : Int32} (d : decode μ.2.1 pc = .ok (.iand, 1)) (hv : x &&& y = z) (kk : V (pc + 1) I J ls (.inl z :: st)) : V pc I J ls (.inl y :: .inl x :: st) := hV.1 d ⟨rfl, x, y, st, rfl, by rw [hv]; exact kk⟩
theorem dr_ior (pc : Nat) (hV : dz_Clo π Λ N own μ F Lc post V) {x y z : Int32} (d : decode μ.2.1 pc = .ok (.ior, 1)) (hv : x ||| y = z) (kk : V (pc + 1) I J ls (.inl z :: st)) : V pc I J ls (.inl y :: .inl x :: st) := hV.1 d ⟨rfl, x, y, st, rfl, by rw [hv]; exact kk⟩
theorem dr_ixor (pc : Nat) (hV : dz_Clo π Λ N own μ F Lc post V) {x y z : Int32} (d : decode μ.2.1 pc = .ok (.ixor, 1)) (hv : x ^^^ y = z) (kk : V (pc + 1) I J ls (.inl z :: st)) : V pc I J ls (.inl y :: .inl x :: st) := hV.1 d ⟨rfl, x, y, st, rfl, by rw [hv]; exact kk⟩
theorem dr_ishl (pc : Nat) (hV : dz_Clo π Λ N own μ F Lc post V) {x y z : Int32} (d : decode μ.2.1 pc = .ok (.ishl, 1)) (hv : x <<< (y &&& 31) = z) (kk : V (pc + 1) I J ls (.inl z :: st)) : V pc I J ls (.inl y :: .inl x :: st) := hV.1 d ⟨rfl, x, y, st, rfl, by rw [hv]; exact kk⟩
theorem dr_ishr (pc : Nat) (hV : dz_Clo π Λ N own μ F Lc post V) {x y z : Int32} (d : decode μ.2.1 pc = .ok (.ishr, 1)) (hv : x >>> (y &&& 31) = z) (kk : V (pc + 1) I J ls (.inl z :: st)) : V pc I J ls (.inl y :: .inl x :: st) := hV.1 d ⟨rfl, x, y, st, rfl, by rw [hv]; exact kk⟩
theorem dr_idiv (pc : Nat) (hV : dz_Clo π Λ N own μ F Lc post V) {x y z : Int32} (d : decode μ.2.1 pc = .ok (.idiv, 1)) (hy : ¬ y = 0) (hv : x / y = z) (kk : V (pc + 1) I J ls (.inl z :: st)) : V pc I J ls (.inl y :: .inl x :: st) := hV.1 d ⟨rfl, x, y, st, rfl, hy, by rw [hv]; exact kk⟩
theorem dr_irem (pc : Nat) (hV : dz_Clo π Λ N own μ F Lc post V) {x y z : Int32} (d : decode μ.2.1 pc = .ok (.irem, 1)) (hy : ¬ y = 0) (hv : x - x / y * y = z) (kk : V (pc + 1) I J ls (.inl z :: st)) : V pc I J ls (.inl y :: .inl x :: st) := hV.1 d ⟨rfl, x, y, st, rfl, hy, by rw [hv]; exact kk⟩
theorem dr_ladd (pc : Nat) (hV : dz_Clo π Λ N own μ F Lc post V) {x y z : Int64} (d : decode μ.2.1 pc = .ok (.ladd, 1)) (hv : x + y = z) (kk : V (pc + 1) I J ls (.inr (.inl z) :: st)) : V pc I J ls (.inr (.inl y) :: .inr (.inl x) :: st) := hV.1 d ⟨rfl, x, y, st, rfl, by rw [hv]; exact kk⟩
theorem dr_lmul (pc : Nat) (hV : dz_Clo π Λ N own μ F Lc post V) {x y z : Int64} (d : decode μ.2.1 pc = .ok (.lmul, 1)) (hv : x * y = z) (kk : V (pc + 1) I J ls (.inr (.inl z) :: st)) : V pc I J ls (.inr (.inl y) :: .inr (.inl x) :: st) := hV.1 d ⟨rfl, x, y, st, rfl, by rw [hv]; exact kk⟩
theorem dr_lcmp (pc : Nat) (hV : dz_Clo π Λ N own μ F Lc post V) {x y : Int64} (d : decode μ.2.1 pc = .ok (.lcmp, 1)) (kk : V (pc + 1) I J ls (.inl (lg_cmp x y) :: st)) : V pc I J ls (.inr (.inl y) :: .inr (.inl x) :: st) := hV.1 d ⟨rfl, x, y, st, rfl, kk⟩
theorem dr_i2l (pc : Nat) (hV : dz_Clo π Λ N own μ F Lc post V) {x : Int32} {z : Int64} (d : decode μ.2.1 pc = .ok (.i2l, 1)) (hv : x.toInt64 = z) (kk : V (pc + 1) I J ls (.inr (.inl z) :: st)) : V pc I J ls (.inl x :: st) := hV.1 d ⟨rfl, x, st, rfl, by rw [hv]; exact kk⟩
theorem dr_dup (pc : Nat) (hV : dz_Clo π Λ N own μ F Lc post V) {x : dz_AV} (d : decode μ.2.1 pc = .ok (.dup, 1)) (hx : dz_isL x = false) (kk : V (pc + 1) I J ls (x :: x :: st)) : V pc I J ls (x :: st) := hV.1 d ⟨rfl, x, st, rfl, hx, kk⟩
theorem dr_dup2 (pc : Nat) (hV : dz_Clo π Λ N own μ F Lc post V) {x y : dz_AV} (d : decode μ.2.1 pc = .ok (.dup2, 1)) (hx : dz_isL x = false) (hy : dz_isL y = false) (kk : V (pc + 1) I J ls (x :: y :: x :: y :: st)) : V pc I J ls (x :: y :: st) := hV.1 d ⟨rfl, x, y, st, rfl, hx, hy, kk⟩
theorem dr_if_eq (pc : Nat) (hV : dz_Clo π Λ N own μ F Lc post V) {x : Int32} {off : Int} {tgt : Nat} (d : decode μ.2.1 pc = .ok (.ifCond .eq off, 3)) (ht : (pc : Int) + off = (tgt : Int)) (kt : x = 0 → V tgt I J ls st) (kf : ¬ x = 0 → V (pc + 3) I J ls st) : V pc I J ls (.inl x :: st) := hV.1 d ⟨rfl, x, st, tgt, rfl, ht, kt, (fun q => kf q)⟩
theorem dr_icmp_eq (pc : Nat) (hV : dz_Clo π Λ N own μ F Lc post V) {x y : Int32} {off : Int} {tgt : Nat} (d : decode μ.2.1 pc = .ok (.if_icmp .eq off, 3)) (ht : (pc : Int) + off = (tgt : Int)) (kt : x = y → V tgt I J ls st) (kf : ¬ x = y → V (pc + 3) I J ls st) : V pc I J ls (.inl y :: .inl x :: st) := hV.1 d ⟨rfl, x, y, st, tgt, rfl, ht, kt, (fun q => kf q)⟩
theorem dr_if_ne (pc : Nat) (hV : dz_Clo π Λ N own μ F Lc post V) {x : Int32} {off : Int} {tgt : Nat} (d : decode μ.2.1 pc = .ok (.ifCond .ne off, 3)) (ht : (pc : Int) + off = (tgt : Int)) (kt : ¬ x = 0 → V tgt I J ls st) (kf : x = 0 → V (pc + 3) I J ls st) : V pc I J ls (.inl x :: st) := hV.1 d ⟨rfl, x, st, tgt, rfl, ht, kt, (fun q => kf (Classical.byContradiction q))⟩
theorem dr_icmp_ne (pc : Nat) (hV : dz_Clo π Λ N own μ F Lc post V) {x y : Int32} {off : Int} {tgt : Nat} (d : decode μ.2.1 pc = .ok (.if_icmp .ne off, 3)) (ht : (pc : Int) + off = (tgt : Int)) (kt : ¬ x = y → V tgt I J ls st) (kf : x = y → V (pc + 3) I J ls st) : V pc I J ls (.inl y :: .inl x :: st) := hV.1 d ⟨rfl, x, y, st, tgt, rfl, ht, kt, (fun q => kf (Classical.byContradiction q))⟩
theorem dr_if_lt (pc : Nat) (hV : dz_Clo π Λ N own μ F Lc post V) {x : Int32} {off : Int} {tgt : Nat} (d : decode μ.2.1 pc = .ok (.ifCond .lt off, 3)) (ht : (pc : Int) + off = (tgt : Int)) (kt : x < 0 → V tgt I J ls st) (kf : ¬ x < 0 → V (pc + 3) I J ls st) : V pc I J ls (.inl x :: st) := hV.1 d ⟨rfl, x, st, tgt, rfl, ht, kt, (fun q => kf q)⟩
theorem dr_icmp_lt (pc : Nat) (hV : dz_Clo π Λ N own μ F Lc post V) {x y : Int32} {off : Int} {tgt : Nat} (d : decode μ.2.1 pc = .ok (.if_icmp .lt off, 3)) (ht : (pc : Int) + off = (tgt : Int)) (kt : x < y → V tgt I J ls st) (kf : ¬ x < y → V (pc + 3) I J ls st) : V pc I J ls (.inl y :: .inl x :: st) := hV.1 d ⟨rfl, x, y, st, tgt, rfl, ht, kt, (fun q => kf q)⟩
theorem dr_if_ge (pc : Nat) (hV : dz_Clo π Λ N own μ F Lc post V) {x : Int32} {off : Int} {tgt : Nat} (d : decode μ.2.1 pc = .ok (.ifCond .ge off, 3)) (ht : (pc : Int) + off = (tgt : Int)) (kt : 0 ≤ x → V tgt I J ls st) (kf : ¬ 0 ≤ x → V (pc + 3) I J ls st) : V pc I J ls (.inl x :: st) := hV.1 d ⟨rfl, x, st, tgt, rfl, ht, kt, (fun q => kf q)⟩
theorem dr_icmp_ge (pc : Nat) (hV : dz_Clo π Λ N own μ F Lc post V) {x y : Int32} {off : Int} {tgt : Nat} (d : decode μ.2.1 pc = .ok (.if_icmp .ge off, 3)) (ht : (pc : Int) + off = (tgt : Int)) (kt : y ≤ x → V tgt I J ls st) (kf : ¬ y ≤ x → V (pc + 3) I J ls st) : V pc I J ls (.inl y :: .inl x :: st) := hV.1 d ⟨rfl, x, y, st, tgt, rfl, ht, kt, (fun q => kf q)⟩
theorem dr_if_gt (pc : Nat) (hV : dz_Clo π Λ N own μ F Lc post V) {x : Int32} {off : Int} {tgt : Nat} (d : decode μ.2.1 pc = .ok (.ifCond .gt off, 3)) (ht : (pc : Int) + off = (tgt : Int)) (kt : 0 < x → V tgt I J ls st) (kf : ¬ 0 < x → V (pc + 3) I J ls st) : V pc I J ls (.inl x :: st) := hV.1 d ⟨rfl, x, st, tgt, rfl, ht, kt, (fun q => kf q)⟩
theorem dr_icmp_gt (pc : Nat) (hV : dz_Clo π Λ N own μ F Lc post V) {x y : Int32} {off : Int} {tgt : Nat} (d : decode μ.2.1 pc = .ok (.if_icmp .gt off, 3)) (ht : (pc : Int) + off = (tgt : Int)) (kt : y < x → V tgt I J ls st) (kf : ¬ y < x → V (pc + 3) I J ls st) : V pc I J ls (.inl y :: .inl x :: st) := hV.1 d ⟨rfl, x, y, st, tgt, rfl, ht, kt, (fun q => kf q)⟩
theorem dr_if_le (pc : Nat) (hV : dz_Clo π Λ N own μ F Lc post V) {x : Int32} {off : Int} {tgt : Nat} (d : decode μ.2.1 pc = .ok (.ifCond .le off, 3)) (ht : (pc : Int) + off = (tgt : Int)) (kt : x ≤ 0 → V tgt I J ls st) (kf : ¬ x ≤ 0 → V (pc + 3) I J ls st) : V pc I J ls (.inl x :: st) := hV.1 d ⟨rfl, x, st, tgt, rfl, ht, kt, (fun q => kf q)⟩
theorem dr_icmp_le (pc : Nat) (hV : dz_Clo π Λ N own μ F Lc post V) {x y : Int32} {off : Int} {tgt : Nat} (d : decode μ.2.1 pc = .ok (.if_icmp .le off, 3)) (ht : (pc : Int) + off = (tgt : Int)) (kt : x ≤ y → V tgt I J ls st) (kf : ¬ x ≤ y → V (pc + 3) I J ls st) : V pc I J ls (.inl y :: .inl x :: st) := hV.1 d ⟨rfl, x, y, st, tgt, rfl, ht, kt, (fun q => kf q)⟩
theorem dr_ifb_eq (pc : Nat) (hV : dz_Clo π Λ N own μ F Lc post V) {P : Prop} {hd : Decidable P} {off : Int} {tgt : Nat} (d : decode μ.2.1 pc = .ok (.ifCond .eq off, 3)) (ht : (pc : Int) + off = (tgt : Int)) (kt : ¬ P → V tgt I J ls st) (kf : P → V (pc + 3) I J ls st) : V pc I J ls (.inl (dz_b P) :: st) := dr_if_eq pc hV d ht (fun h => kt (dz_b0.mp h)) (fun h => kf (Classical.byContradiction (fun q => h (dz_b0.mpr q))))
theorem dr_ifb_ne (pc : Nat) (hV : dz_Clo π Λ N own μ F Lc post V) {P : Prop} {hd : Decidable P} {off : Int} {tgt : Nat} (d : decode μ.2.1 pc = .ok (.ifCond .ne off, 3)) (ht : (pc : Int) + off = (tgt : Int)) (kt : P → V tgt I J ls st) (kf : ¬ P → V (pc + 3) I J ls st) : V pc I J ls (.inl (dz_b P) :: st) := dr_if_ne pc hV d ht (fun h => kt (Classical.byContradiction (fun q => h (dz_b0.mpr q)))) (fun h => kf (dz_b0.mp h))
theorem dr_goto (pc : Nat) (hV : dz_Clo π Λ N own μ F Lc post V) {off : Int} {tgt : Nat} (d : decode μ.2.1 pc = .ok (.goto off, 3)) (ht : (pc : Int) + off = (tgt : Int)) (kk : V tgt I J ls st) : V pc I J ls (st) := hV.1 d ⟨rfl, tgt, ht, kk⟩
theorem dr_geti (pc : Nat) (hV : dz_Clo π Λ N own μ F Lc post V) {k c sl : Nat} {fs : List (Option (Option Nat))} {v : Int32} (d : decode μ.2.1 pc = .ok (.getfield k, 3)) (h6 : own < 6) (hc : c < N) (hL : Λ c = .inl (own, fs)) (hk : (dz_ft own).lookup k = some sl) (hf : fs[sl]? = some none) (hv : I c sl = v) (kk : V (pc + 3) I J ls (.inl v :: st)) : V pc I J ls (.inr (.inr c) :: st) := hV.1 d ⟨rfl, c, st, fs, sl, none, rfl, h6, hc, hL, hk, hf, by rw [← hv] at kk; exact kk⟩
theorem dr_getl (pc : Nat) (hV : dz_Clo π Λ N own μ F Lc post V) {k c sl : Nat} {fs : List (Option (Option Nat))} {v : Int64} (d : decode μ.2.1 pc = .ok (.getfield k, 3)) (h6 : own < 6) (hc : c < N) (hL : Λ c = .inl (own, fs)) (hk : (dz_ft own).lookup k = some sl) (hf : fs[sl]? = some (some none)) (hv : J c sl = v) (kk : V (pc + 3) I J ls (.inr (.inl v) :: st)) : V pc I J ls (.inr (.inr c) :: st) := hV.1 d ⟨rfl, c, st, fs, sl, some none, rfl, h6, hc, hL, hk, hf, by rw [← hv] at kk; exact kk⟩
theorem dr_geta (pc : Nat) (hV : dz_Clo π Λ N own μ F Lc post V) {k c sl a : Nat} {fs : List (Option (Option Nat))} (d : decode μ.2.1 pc = .ok (.getfield k, 3)) (h6 : own < 6) (hc : c < N) (hL : Λ c = .inl (own, fs)) (hk : (dz_ft own).lookup k = some sl) (hf : fs[sl]? = some (some (some a))) (kk : V (pc + 3) I J ls (.inr (.inr a) :: st)) : V pc I J ls (.inr (.inr c) :: st) := hV.1 d ⟨rfl, c, st, fs, sl, some (some a), rfl, h6, hc, hL, hk, hf, kk⟩
theorem dr_puti (pc : Nat) (hV : dz_Clo π Λ N own μ F Lc post V) {k c sl : Nat} {fs : List (Option (Option Nat))} {x : Int32} (d : decode μ.2.1 pc = .ok (.putfield k, 3)) (h6 : own < 6) (hc : c < N) (hL : Λ c = .inl (own, fs)) (hk : (dz_ft own).lookup k = some sl) (hf : fs[sl]? = some none) (hn : (dz_T own sl).2.2.2 = false) (h1 : narrow (dz_ty own sl) (.int x) = .int x) (h2 : fits (dz_ty own sl) (.int x) = true) (kk : V (pc + 3) (dz_wi I c sl x) J ls (st)) : V pc I J ls (.inl x :: .inr (.inr c) :: st) := hV.1 d ⟨rfl, c, st, fs, sl, h6, hc, hL, hk, hn, Or.inl ⟨x, rfl, hf, h1, h2, kk⟩⟩
theorem dr_putl (pc : Nat) (hV : dz_Clo π Λ N own μ F Lc post V) {k c sl : Nat} {fs : List (Option (Option Nat))} {x : Int64} (d : decode μ.2.1 pc = .ok (.putfield k, 3)) (h6 : own < 6) (hc : c < N) (hL : Λ c = .inl (own, fs)) (hk : (dz_ft own).lookup k = some sl) (hf : fs[sl]? = some (some none)) (hn : (dz_T own sl).2.2.2 = false) (h1 : dz_ty own sl = .long) (kk : V (pc + 3) I (dz_wj J c sl x) ls (st)) : V pc I J ls (.inr (.inl x) :: .inr (.inr c) :: st) := hV.1 d ⟨rfl, c, st, fs, sl, h6, hc, hL, hk, hn, Or.inr ⟨x, rfl, hf, h1, kk⟩⟩
theorem dr_iald (pc : Nat) (hV : dz_Clo π Λ N own μ F Lc post V) {c k L b : Nat} {j : Int32} {v : Int32} (d : decode μ.2.1 pc = .ok (.iaload, 1)) (hc : c < N) (hL : Λ c = .inr (0, L, b)) (hj : j = nI k) (hk : k < L) (hL2 : L < 2 ^ 31) (hv : I c k = v) (kk : V (pc + 1) I J ls (.inl v :: st)) : V pc I J ls (.inl j :: .inr (.inr c) :: st) := by
  have e : j.toNatClampNeg = k := by rw [hj]; exact nI_clamp (Nat.lt_trans hk hL2)
  exact hV.1 d ⟨rfl, c, j, st, L, b, rfl, hc, hL, (by rw [hj]; exact vp_in_nI hk hL2), by rw [e, hv]; exact kk⟩
theorem dr_zald (pc : Nat) (hV : dz_Clo π Λ N own μ F Lc post V) {c k L b : Nat} {j : Int32} {v : Int32} (d : decode μ.2.1 pc = .ok (.baload, 1)) (hc : c < N) (hL : Λ c = .inr (2, L, b)) (hj : j = nI k) (hk : k < L) (hL2 : L < 2 ^ 31) (hv : I c k = v) (kk : V (pc + 1) I J ls (.inl v :: st)) : V pc I J ls (.inl j :: .inr (.inr c) :: st) := by
  have e : j.toNatClampNeg = k := by rw [hj]; exact nI_clamp (Nat.lt_trans hk hL2)
  exact hV.1 d ⟨rfl, c, j, st, L, b, rfl, hc, hL, (by rw [hj]; exact vp_in_nI hk hL2), by rw [e, hv]; exact kk⟩
theorem dr_lald (pc : Nat) (hV : dz_Clo π Λ N own μ F Lc post V) {c k L b : Nat} {j : Int32} {v : Int64} (d : decode μ.2.1 pc = .ok (.laload, 1)) (hc : c < N) (hL : Λ c = .inr (1, L, b)) (hj : j = nI k) (hk : k < L) (hL2 : L < 2 ^ 31) (hv : J c k = v) (kk : V (pc + 1) I J ls (.inr (.inl v) :: st)) : V pc I J ls (.inl j :: .inr (.inr c) :: st) := by
  have e : j.toNatClampNeg = k := by rw [hj]; exact nI_clamp (Nat.lt_trans hk hL2)
  exact hV.1 d ⟨rfl, c, j, st, L, b, rfl, hc, hL, (by rw [hj]; exact vp_in_nI hk hL2), by rw [e, hv]; exact kk⟩
theorem dr_aaldi (pc : Nat) (hV : dz_Clo π Λ N own μ F Lc post V) {c k L b : Nat} {j : Int32} (d : decode μ.2.1 pc = .ok (.aaload, 1)) (hc : c < N) (hL : Λ c = .inr (3, L, b)) (hj : j = nI k) (hk : k < L) (hL2 : L < 2 ^ 31) (kk : V (pc + 1) I J ls (.inr (.inr (b + k)) :: st)) : V pc I J ls (.inl j :: .inr (.inr c) :: st) := by
  have e : j.toNatClampNeg = k := by rw [hj]; exact nI_clamp (Nat.lt_trans hk hL2)
  exact hV.1 d ⟨rfl, c, j, st, 0, L, b, rfl, hc, by decide, hL, (by rw [hj]; exact vp_in_nI hk hL2), by rw [e]; exact kk⟩
theorem dr_aaldl (pc : Nat) (hV : dz_Clo π Λ N own μ F Lc post V) {c k L b : Nat} {j : Int32} (d : decode μ.2.1 pc = .ok (.aaload, 1)) (hc : c < N) (hL : Λ c = .inr (4, L, b)) (hj : j = nI k) (hk : k < L) (hL2 : L < 2 ^ 31) (kk : V (pc + 1) I J ls (.inr (.inr (b + k)) :: st)) : V pc I J ls (.inl j :: .inr (.inr c) :: st) := by
  have e : j.toNatClampNeg = k := by rw [hj]; exact nI_clamp (Nat.lt_trans hk hL2)
  exact hV.1 d ⟨rfl, c, j, st, 1, L, b, rfl, hc, by decide, hL, (by rw [hj]; exact vp_in_nI hk hL2), by rw [e]; exact kk⟩
theorem dr_iast (pc : Nat) (hV : dz_Clo π Λ N own μ F Lc post V) {c k L b : Nat} {j x : Int32} (d : decode μ.2.1 pc = .ok (.iastore, 1)) (hc : c < N) (hL : Λ c = .inr (0, L, b)) (hj : j = nI k) (hk : k < L) (hL2 : L < 2 ^ 31) (kk : V (pc + 1) (dz_wi I c k x) J ls (st)) : V pc I J ls (.inl x :: .inl j :: .inr (.inr c) :: st) := by
  have e : j.toNatClampNeg = k := by rw [hj]; exact nI_clamp (Nat.lt_trans hk hL2)
  exact hV.1 d ⟨rfl, c, j, x, st, L, b, rfl, hc, hL, (by rw [hj]; exact vp_in_nI hk hL2), by rw [e]; exact kk⟩
theorem dr_zast (pc : Nat) (hV : dz_Clo π Λ N own μ F Lc post V) {c k L b : Nat} {j x : Int32} (d : decode μ.2.1 pc = .ok (.bastore, 1)) (hc : c < N) (hL : Λ c = .inr (2, L, b)) (hj : j = nI k) (hk : k < L) (hL2 : L < 2 ^ 31) (hn : vp_nar .boolean x = x) (kk : V (pc + 1) (dz_wi I c k x) J ls (st)) : V pc I J ls (.inl x :: .inl j :: .inr (.inr c) :: st) := by
  have e : j.toNatClampNeg = k := by rw [hj]; exact nI_clamp (Nat.lt_trans hk hL2)
  exact hV.1 d ⟨rfl, c, j, x, st, L, b, rfl, hc, hL, (by rw [hj]; exact vp_in_nI hk hL2), hn, by rw [e]; exact kk⟩
theorem dr_last (pc : Nat) (hV : dz_Clo π Λ N own μ F Lc post V) {c k L b : Nat} {j : Int32} {x : Int64} (d : decode μ.2.1 pc = .ok (.lastore, 1)) (hc : c < N) (hL : Λ c = .inr (1, L, b)) (hj : j = nI k) (hk : k < L) (hL2 : L < 2 ^ 31) (kk : V (pc + 1) I (dz_wj J c k x) ls (st)) : V pc I J ls (.inr (.inl x) :: .inl j :: .inr (.inr c) :: st) := by
  have e : j.toNatClampNeg = k := by rw [hj]; exact nI_clamp (Nat.lt_trans hk hL2)
  exact hV.1 d ⟨rfl, c, j, x, st, L, b, rfl, hc, hL, (by rw [hj]; exact vp_in_nI hk hL2), by rw [e]; exact kk⟩
theorem dr_abs (pc : Nat) (hV : dz_Clo π Λ N own μ F Lc post V) {k : Nat} {x : Int32} (d : decode μ.2.1 pc = .ok (.invokestatic k, 3)) (hw : Cond.methodLink (dz_R own) k Lib.Math.abs.name ∈ dz_WS) (hF : 1 ≤ F) (hL : 40 ≤ Lc) (hs : dz_wd st ≤ 8) (kk : V (pc + 3) I J ls (.inl (if 0 ≤ x then x else 0 - x) :: st)) : V pc I J ls (.inl x :: st) := hV.1 d ⟨rfl, hF, hL, Or.inl ⟨hw, x, st, rfl, hs, kk⟩⟩
theorem dr_max (pc : Nat) (hV : dz_Clo π Λ N own μ F Lc post V) {k : Nat} {x y : Int32} (d : decode μ.2.1 pc = .ok (.invokestatic k, 3)) (hw : Cond.methodLink (dz_R own) k Lib.Math.max.name ∈ dz_WS) (hF : 1 ≤ F) (hL : 40 ≤ Lc) (hs : dz_wd st ≤ 8) (kk : V (pc + 3) I J ls (.inl (if x < y then y else x) :: st)) : V pc I J ls (.inl y :: .inl x :: st) := hV.1 d ⟨rfl, hF, hL, Or.inr (Or.inl ⟨hw, x, y, st, rfl, hs, kk⟩)⟩
theorem dr_min (pc : Nat) (hV : dz_Clo π Λ N own μ F Lc post V) {k : Nat} {x y : Int32} (d : decode μ.2.1 pc = .ok (.invokestatic k, 3)) (hw : Cond.methodLink (dz_R own) k Lib.Math.min.name ∈ dz_WS) (hF : 1 ≤ F) (hL : 40 ≤ Lc) (hs : dz_wd st ≤ 8) (kk : V (pc + 3) I J ls (.inl (if y < x then y else x) :: st)) : V pc I J ls (.inl y :: .inl x :: st) := hV.1 d ⟨rfl, hF, hL, Or.inr (Or.inr (Or.inl ⟨hw, x, y, st, rfl, hs, kk⟩))⟩
theorem dr_iret (pc : Nat) (hV : dz_Clo π Λ N own μ F Lc post V) {v : Int32} {ty : FieldType} (d : decode μ.2.1 pc = .ok (.ireturn, 1)) (hr : μ.2.2.2 = some ty) (hn : narrow ty (.int v) = .int v) (hp : post (some (.inl v)) I J) : V pc I J ls [.inl v] := hV.2.2.2.1 d hr hn hp
theorem dr_lret (pc : Nat) (hV : dz_Clo π Λ N own μ F Lc post V) {v : Int64} (d : decode μ.2.1 pc = .ok (.lreturn, 1)) (hr : μ.2.2.2 = some .long) (hp : post (some (.inr (.inl v))) I J) : V pc I J ls [.inr (.inl v)] := hV.2.2.2.2.1 d hr hp
theorem dr_vret (pc : Nat) (hV : dz_Clo π Λ N own μ F Lc post V) (d : decode μ.2.1 pc = .ok (.return_, 1)) (hr : μ.2.2.2 = none) (hp : post none I J) : V pc I J ls [] := hV.2.2.2.2.2.1 d hr hp
theorem dr_sub {pc : Nat} (hV : dz_Clo π Λ N own μ F Lc post V) {ls2 : dz_LS} (hs : dz_sub ls ls2) (kk : V pc I J ls2 st) : V pc I J ls st := hV.2.2.2.2.2.2 hs kk
theorem dr_cv0 (pc : Nat) (hV : dz_Clo π Λ N own μ F Lc post V) {idx : Nat} {ν : dz_Mu} {F2 L2 a : Nat} (lk : dz_Lv (dz_R own) idx ν 0) (d : decode μ.2.1 pc = .ok (.invokevirtual idx, 3)) (hF : F2 + 1 ≤ F) (hL : 8 + (ν.2.2.1 + 11) + L2 ≤ Lc) (hr : dz_rc Λ N a ν) (hst : dz_wd st ≤ 8) {p2 : Option dz_AV → dz_MI → dz_MJ → Prop} (h : dz_Cl π Λ N ν F2 L2 [.inr (.inr a)] I J p2) (kk : ∀ r I2 J2, p2 r I2 J2 → V (pc + 3) I2 J2 ls (r.toList ++ st)) : V pc I J ls (.inr (.inr a) :: st) := by
  obtain ⟨ha, ci, fs, h1, h2, h3⟩ := hr
  exact hV.2.1 (vs := []) lk d rfl hF hL ha h1 h2 h3 hst (h.mono kk)
theorem dr_cvp0 (pc : Nat) (hV : dz_Clo π Λ N own μ F Lc post V) {idx : Nat} {ν : dz_Mu} {F2 L2 a : Nat} (lk : dz_Lv (dz_R own) idx ν 0) (d : decode μ.2.1 pc = .ok (.invokevirtual idx, 3)) (hF : F2 + 1 ≤ F) (hL : 8 + (ν.2.2.1 + 11) + L2 ≤ Lc) (hr : dz_rc Λ N a ν) (hst : dz_wd st ≤ 8) {v : dz_AV} (h : dz_Cl π Λ N ν F2 L2 [.inr (.inr a)] I J (dz_Pu v I J)) (kk : V (pc + 3) I J ls (v :: st)) : V pc I J ls (.inr (.inr a) :: st) := dr_cv0 pc hV lk d hF hL hr hst h (fun r I2 J2 q => by obtain ⟨rfl, rfl, rfl⟩ := q; exact kk)
theorem dr_csp0 (pc : Nat) (hV : dz_Clo π Λ N own μ F Lc post V) {idx : Nat} {ν : dz_Mu} {F2 L2 : Nat} (lk : dz_Lsn own idx ν 0) (d : decode μ.2.1 pc = .ok (.invokestatic idx, 3)) (hF : F2 + 1 ≤ F) (hL : 8 + (ν.2.2.1 + 11) + L2 ≤ Lc) (hst : dz_wd st ≤ 8) {v : dz_AV} (h : dz_Cl π Λ N ν F2 L2 [] I J (dz_Pu v I J)) (kk : V (pc + 3) I J ls (v :: st)) : V pc I J ls (st) := hV.2.2.1 (vs := []) lk d rfl hF hL hst (h.mono (fun r I2 J2 q => by obtain ⟨rfl, rfl, rfl⟩ := q; exact kk))
theorem dr_cv1 (pc : Nat) (hV : dz_Clo π Λ N own μ F Lc post V) {idx : Nat} {ν : dz_Mu} {F2 L2 a : Nat} {v1 : dz_AV} (lk : dz_Lv (dz_R own) idx ν 1) (d : decode μ.2.1 pc = .ok (.invokevirtual idx, 3)) (hF : F2 + 1 ≤ F) (hL : 8 + (ν.2.2.1 + 11) + L2 ≤ Lc) (hr : dz_rc Λ N a ν) (hst : dz_wd st ≤ 8) {p2 : Option dz_AV → dz_MI → dz_MJ → Prop} (h : dz_Cl π Λ N ν F2 L2 [.inr (.inr a), v1] I J p2) (kk : ∀ r I2 J2, p2 r I2 J2 → V (pc + 3) I2 J2 ls (r.toList ++ st)) : V pc I J ls (v1 :: .inr (.inr a) :: st) := by
  obtain ⟨ha, ci, fs, h1, h2, h3⟩ := hr
  exact hV.2.1 (vs := [v1]) lk d rfl hF hL ha h1 h2 h3 hst (h.mono kk)
theorem dr_cvp1 (pc : Nat) (hV : dz_Clo π Λ N own μ F Lc post V) {idx : Nat} {ν : dz_Mu} {F2 L2 a : Nat} {v1 : dz_AV} (lk : dz_Lv (dz_R own) idx ν 1) (d : decode μ.2.1 pc = .ok (.invokevirtual idx, 3)) (hF : F2 + 1 ≤ F) (hL : 8 + (ν.2.2.1 + 11) + L2 ≤ Lc) (hr : dz_rc Λ N a ν) (hst : dz_wd st ≤ 8) {v : dz_AV} (h : dz_Cl π Λ N ν F2 L2 [.inr (.inr a), v1] I J (dz_Pu v I J)) (kk : V (pc + 3) I J ls (v :: st)) : V pc I J ls (v1 :: .inr (.inr a) :: st) := dr_cv1 pc hV lk d hF hL hr hst h (fun r I2 J2 q => by obtain ⟨rfl, rfl, rfl⟩ := q; exact kk)
theorem dr_csp1 (pc : Nat) (hV : dz_Clo π Λ N own μ F Lc post V) {idx : Nat} {ν : dz_Mu} {F2 L2 : Nat} {v1 : dz_AV} (lk : dz_Lsn own idx ν 1) (d : decode μ.2.1 pc = .ok (.invokestatic idx, 3)) (hF : F2 + 1 ≤ F) (hL : 8 + (ν.2.2.1 + 11) + L2 ≤ Lc) (hst : dz_wd st ≤ 8) {v : dz_AV} (h : dz_Cl π Λ N ν F2 L2 [v1] I J (dz_Pu v I J)) (kk : V (pc + 3) I J ls (v :: st)) : V pc I J ls (v1 :: st) := hV.2.2.1 (vs := [v1]) lk d rfl hF hL hst (h.mono (fun r I2 J2 q => by obtain ⟨rfl, rfl, rfl⟩ := q; exact kk))
theorem dr_cv2 (pc : Nat) (hV : dz_Clo π Λ N own μ F Lc post V) {idx : Nat} {ν : dz_Mu} {F2 L2 a : Nat} {v1 v2 : dz_AV} (lk : dz_Lv (dz_R own) idx ν 2) (d : decode μ.2.1 pc = .ok (.invokevirtual idx, 3)) (hF : F2 + 1 ≤ F) (hL : 8 + (ν.2.2.1 + 11) + L2 ≤ Lc) (hr : dz_rc Λ N a ν) (hst : dz_wd st ≤ 8) {p2 : Option dz_AV → dz_MI → dz_MJ → Prop} (h : dz_Cl π Λ N ν F2 L2 [.inr (.inr a), v1, v2] I J p2) (kk : ∀ r I2 J2, p2 r I2 J2 → V (pc + 3) I2 J2 ls (r.toList ++ st)) : V pc I J ls (v2 :: v1 :: .inr (.inr a) :: st) := by
  obtain ⟨ha, ci, fs, h1, h2, h3⟩ := hr
  exact hV.2.1 (vs := [v1, v2]) lk d rfl hF hL ha h1 h2 h3 hst (h.mono kk)
theorem dr_cvp2 (pc : Nat) (hV : dz_Clo π Λ N own μ F Lc post V) {idx : Nat} {ν : dz_Mu} {F2 L2 a : Nat} {v1 v2 : dz_AV} (lk : dz_Lv (dz_R own) idx ν 2) (d : decode μ.2.1 pc = .ok (.invokevirtual idx, 3)) (hF : F2 + 1 ≤ F) (hL : 8 + (ν.2.2.1 + 11) + L2 ≤ Lc) (hr : dz_rc Λ N a ν) (hst : dz_wd st ≤ 8) {v : dz_AV} (h : dz_Cl π Λ N ν F2 L2 [.inr (.inr a), v1, v2] I J (dz_Pu v I J)) (kk : V (pc + 3) I J ls (v :: st)) : V pc I J ls (v2 :: v1 :: .inr (.inr a) :: st) := dr_cv2 pc hV lk d hF hL hr hst h (fun r I2 J2 q => by obtain ⟨rfl, rfl, rfl⟩ := q; exact kk)
theorem dr_csp2 (pc : Nat) (hV : dz_Clo π Λ N own μ F Lc post V) {idx : Nat} {ν : dz_Mu} {F2 L2 : Nat} {v1 v2 : dz_AV} (lk : dz_Lsn own idx ν 2) (d : decode μ.2.1 pc = .ok (.invokestatic idx, 3)) (hF : F2 + 1 ≤ F) (hL : 8 + (ν.2.2.1 + 11) + L2 ≤ Lc) (hst : dz_wd st ≤ 8) {v : dz_AV} (h : dz_Cl π Λ N ν F2 L2 [v1, v2] I J (dz_Pu v I J)) (kk : V (pc + 3) I J ls (v :: st)) : V pc I J ls (v2 :: v1 :: st) := hV.2.2.1 (vs := [v1, v2]) lk d rfl hF hL hst (h.mono (fun r I2 J2 q => by obtain ⟨rfl, rfl, rfl⟩ := q; exact kk))
theorem dr_cv3 (pc : Nat) (hV : dz_Clo π Λ N own μ F Lc post V) {idx : Nat} {ν : dz_Mu} {F2 L2 a : Nat} {v1 v2 v3 : dz_AV} (lk : dz_Lv (dz_R own) idx ν 3) (d : decode μ.2.1 pc = .ok (.invokevirtual idx, 3)) (hF : F2 + 1 ≤ F) (hL : 8 + (ν.2.2.1 + 11) + L2 ≤ Lc) (hr : dz_rc Λ N a ν) (hst : dz_wd st ≤ 8) {p2 : Option dz_AV → dz_MI → dz_MJ → Prop} (h : dz_Cl π Λ N ν F2 L2 [.inr (.inr a), v1, v2, v3] I J p2) (kk : ∀ r I2 J2, p2 r I2 J2 → V (pc + 3) I2 J2 ls (r.toList ++ st)) : V pc I J ls (v3 :: v2 :: v1 :: .inr (.inr a) :: st) := by
  obtain ⟨ha, ci, fs, h1, h2, h3⟩ := hr
  exact hV.2.1 (vs := [v1, v2, v3]) lk d rfl hF hL ha h1 h2 h3 hst (h.mono kk)
theorem dr_cvp3 (pc : Nat) (hV : dz_Clo π Λ N own μ F Lc post V) {idx : Nat} {ν : dz_Mu} {F2 L2 a : Nat} {v1 v2 v3 : dz_AV} (lk : dz_Lv (dz_R own) idx ν 3) (d : decode μ.2.1 pc = .ok (.invokevirtual idx, 3)) (hF : F2 + 1 ≤ F) (hL : 8 + (ν.2.2.1 + 11) + L2 ≤ Lc) (hr : dz_rc Λ N a ν) (hst : dz_wd st ≤ 8) {v : dz_AV} (h : dz_Cl π Λ N ν F2 L2 [.inr (.inr a), v1, v2, v3] I J (dz_Pu v I J)) (kk : V (pc + 3) I J ls (v :: st)) : V pc I J ls (v3 :: v2 :: v1 :: .inr (.inr a) :: st) := dr_cv3 pc hV lk d hF hL hr hst h (fun r I2 J2 q => by obtain ⟨rfl, rfl, rfl⟩ := q; exact kk)
theorem dr_csp3 (pc : Nat) (hV : dz_Clo π Λ N own μ F Lc post V) {idx : Nat} {ν : dz_Mu} {F2 L2 : Nat} {v1 v2 v3 : dz_AV} (lk : dz_Lsn own idx ν 3) (d : decode μ.2.1 pc = .ok (.invokestatic idx, 3)) (hF : F2 + 1 ≤ F) (hL : 8 + (ν.2.2.1 + 11) + L2 ≤ Lc) (hst : dz_wd st ≤ 8) {v : dz_AV} (h : dz_Cl π Λ N ν F2 L2 [v1, v2, v3] I J (dz_Pu v I J)) (kk : V (pc + 3) I J ls (v :: st)) : V pc I J ls (v3 :: v2 :: v1 :: st) := hV.2.2.1 (vs := [v1, v2, v3]) lk d rfl hF hL hst (h.mono (fun r I2 J2 q => by obtain ⟨rfl, rfl, rfl⟩ := q; exact kk))
theorem dr_cv4 (pc : Nat) (hV : dz_Clo π Λ N own μ F Lc post V) {idx : Nat} {ν : dz_Mu} {F2 L2 a : Nat} {v1 v2 v3 v4 : dz_AV} (lk : dz_Lv (dz_R own) idx ν 4) (d : decode μ.2.1 pc = .ok (.invokevirtual idx, 3)) (hF : F2 + 1 ≤ F) (hL : 8 + (ν.2.2.1 + 11) + L2 ≤ Lc) (hr : dz_rc Λ N a ν) (hst : dz_wd st ≤ 8) {p2 : Option dz_AV → dz_MI → dz_MJ → Prop} (h : dz_Cl π Λ N ν F2 L2 [.inr (.inr a), v1, v2, v3, v4] I J p2) (kk : ∀ r I2 J2, p2 r I2 J2 → V (pc + 3) I2 J2 ls (r.toList ++ st)) : V pc I J ls (v4 :: v3 :: v2 :: v1 :: .inr (.inr a) :: st) := by
  obtain ⟨ha, ci, fs, h1, h2, h3⟩ := hr
  exact hV.2.1 (vs := [v1, v2, v3, v4]) lk d rfl hF hL ha h1 h2 h3 hst (h.mono kk)
theorem dr_cvp4 (pc : Nat) (hV : dz_Clo π Λ N own μ F Lc post V) {idx : Nat} {ν : dz_Mu} {F2 L2 a : Nat} {v1 v2 v3 v4 : dz_AV} (lk : dz_Lv (dz_R own) idx ν 4) (d : decode μ.2.1 pc = .ok (.invokevirtual idx, 3)) (hF : F2 + 1 ≤ F) (hL : 8 + (ν.2.2.1 + 11) + L2 ≤ Lc) (hr : dz_rc Λ N a ν) (hst : dz_wd st ≤ 8) {v : dz_AV} (h : dz_Cl π Λ N ν F2 L2 [.inr (.inr a), v1, v2, v3, v4] I J (dz_Pu v I J)) (kk : V (pc + 3) I J ls (v :: st)) : V pc I J ls (v4 :: v3 :: v2 :: v1 :: .inr (.inr a) :: st) := dr_cv4 pc hV lk d hF hL hr hst h (fun r I2 J2 q => by obtain ⟨rfl, rfl, rfl⟩ := q; exact kk)
theorem dr_csp4 (pc : Nat) (hV : dz_Clo π Λ N own μ F Lc post V) {idx : Nat} {ν : dz_Mu} {F2 L2 : Nat} {v1 v2 v3 v4 : dz_AV} (lk : dz_Lsn own idx ν 4) (d : decode μ.2.1 pc = .ok (.invokestatic idx, 3)) (hF : F2 + 1 ≤ F) (hL : 8 + (ν.2.2.1 + 11) + L2 ≤ Lc) (hst : dz_wd st ≤ 8) {v : dz_AV} (h : dz_Cl π Λ N ν F2 L2 [v1, v2, v3, v4] I J (dz_Pu v I J)) (kk : V (pc + 3) I J ls (v :: st)) : V pc I J ls (v4 :: v3 :: v2 :: v1 :: st) := hV.2.2.1 (vs := [v1, v2, v3, v4]) lk d rfl hF hL hst (h.mono (fun r I2 J2 q => by obtain ⟨rfl, rfl, rfl⟩ := q; exact kk))
theorem dr_cv5 (pc : Nat) (hV : dz_Clo π Λ N own μ F Lc post V) {idx : Nat} {ν : dz_Mu} {F2 L2 a : Nat} {v1 v2 v3 v4 v5 : dz_AV} (lk : dz_Lv (dz_R own) idx ν 5) (d : decode μ.2.1 pc = .ok (.invokevirtual idx, 3)) (hF : F2 + 1 ≤ F) (hL : 8 + (ν.2.2.1 + 11) + L2 ≤ Lc) (hr : dz_rc Λ N a ν) (hst : dz_wd st ≤ 8) {p2 : Option dz_AV → dz_MI → dz_MJ → Prop} (h : dz_Cl π Λ N ν F2 L2 [.inr (.inr a), v1, v2, v3, v4, v5] I J p2) (kk : ∀ r I2 J2, p2 r I2 J2 → V (pc + 3) I2 J2 ls (r.toList ++ st)) : V pc I J ls (v5 :: v4 :: v3 :: v2 :: v1 :: .inr (.inr a) :: st) := by
  obtain ⟨ha, ci, fs, h1, h2, h3⟩ := hr
  exact hV.2.1 (vs := [v1, v2, v3, v4, v5]) lk d rfl hF hL ha h1 h2 h3 hst (h.mono kk)
theorem dr_cvp5 (pc : Nat) (hV : dz_Clo π Λ N own μ F Lc post V) {idx : Nat} {ν : dz_Mu} {F2 L2 a : Nat} {v1 v2 v3 v4 v5 : dz_AV} (lk : dz_Lv (dz_R own) idx ν 5) (d : decode μ.2.1 pc = .ok (.invokevirtual idx, 3)) (hF : F2 + 1 ≤ F) (hL : 8 + (ν.2.2.1 + 11) + L2 ≤ Lc) (hr : dz_rc Λ N a ν) (hst : dz_wd st ≤ 8) {v : dz_AV} (h : dz_Cl π Λ N ν F2 L2 [.inr (.inr a), v1, v2, v3, v4, v5] I J (dz_Pu v I J)) (kk : V (pc + 3) I J ls (v :: st)) : V pc I J ls (v5 :: v4 :: v3 :: v2 :: v1 :: .inr (.inr a) :: st) := dr_cv5 pc hV lk d hF hL hr hst h (fun r I2 J2 q => by obtain ⟨rfl, rfl, rfl⟩ := q; exact kk)
theorem dr_csp5 (pc : Nat) (hV : dz_Clo π Λ N own μ F Lc post V) {idx : Nat} {ν : dz_Mu} {F2 L2 : Nat} {v1 v2 v3 v4 v5 : dz_AV} (lk : dz_Lsn own idx ν 5) (d : decode μ.2.1 pc = .ok (.invokestatic idx, 3)) (hF : F2 + 1 ≤ F) (hL : 8 + (ν.2.2.1 + 11) + L2 ≤ Lc) (hst : dz_wd st ≤ 8) {v : dz_AV} (h : dz_Cl π Λ N ν F2 L2 [v1, v2, v3, v4, v5] I J (dz_Pu v I J)) (kk : V (pc + 3) I J ls (v :: st)) : V pc I J ls (v5 :: v4 :: v3 :: v2 :: v1 :: st) := hV.2.2.1 (vs := [v1, v2, v3, v4, v5]) lk d rfl hF hL hst (h.mono (fun r I2 J2 q => by obtain ⟨rfl, rfl, rfl⟩ := q; exact kk))
theorem dr_cv6 (pc : Nat) (hV : dz_Clo π Λ N own μ F Lc post V) {idx : Nat} {ν : dz_Mu} {F2 L2 a : Nat} {v1 v2 v3 v4 v5 v6 : dz_AV} (lk : dz_Lv (dz_R own) idx ν 6) (d : decode μ.2.1 pc = .ok (.invokevirtual idx, 3)) (hF : F2 + 1 ≤ F) (hL : 8 + (ν.2.2.1 + 11) + L2 ≤ Lc) (hr : dz_rc Λ N a ν) (hst : dz_wd st ≤ 8) {p2 : Option dz_AV → dz_MI → dz_MJ → Prop} (h : dz_Cl π Λ N ν F2 L2 [.inr (.inr a), v1, v2, v3, v4, v5, v6] I J p2) (kk : ∀ r I2 J2, p2 r I2 J2 → V (pc + 3) I2 J2 ls (r.toList ++ st)) : V pc I J ls (v6 :: v5 :: v4 :: v3 :: v2 :: v1 :: .inr (.inr a) :: st) := by
  obtain ⟨ha, ci, fs, h1, h2, h3⟩ := hr
  exact hV.2.1 (vs := [v1, v2, v3, v4, v5, v6]) lk d rfl hF hL ha h1 h2 h3 hst (h.mono kk)
theorem dr_cvp6 (pc : Nat) (hV : dz_Clo π Λ N own μ F Lc post V) {idx : Nat} {ν : dz_Mu} {F2 L2 a : Nat} {v1 v2 v3 v4 v5 v6 : dz_AV} (lk : dz_Lv (dz_R own) idx ν 6) (d : decode μ.2.1 pc = .ok (.invokevirtual idx, 3)) (hF : F2 + 1 ≤ F) (hL : 8 + (ν.2.2.1 + 11) + L2 ≤ Lc) (hr : dz_rc Λ N a ν) (hst : dz_wd st ≤ 8) {v : dz_AV} (h : dz_Cl π Λ N ν F2 L2 [.inr (.inr a), v1, v2, v3, v4, v5, v6] I J (dz_Pu v I J)) (kk : V (pc + 3) I J ls (v :: st)) : V pc I J ls (v6 :: v5 :: v4 :: v3 :: v2 :: v1 :: .inr (.inr a) :: st) := dr_cv6 pc hV lk d hF hL hr hst h (fun r I2 J2 q => by obtain ⟨rfl, rfl, rfl⟩ := q; exact kk)
end DZR
end
section
/-! plain facts on numbers and arrays, to paste: each family by itself; over the kit's rows on nI and upd -/
/-! ===== order of ints, in all its forms, and through longs ===== -/
theorem fa_lt (a b : Int32) : a < b ↔ a.toInt < b.toInt := Int32.lt_iff_toInt_lt
theorem fa_le (a b : Int32) : a ≤ b ↔ a.toInt ≤ b.toInt := Int32.le_iff_toInt_le
theorem fa_eq (a b : Int32) : a = b ↔ a.toInt = b.toInt := Int32.toInt_inj.symm
theorem fa_lt64 (a b : Int64) : a < b ↔ a.toInt < b.toInt := Int64.lt_iff_toInt_lt
theorem fa_le64 (a b : Int64) : a ≤ b ↔ a.toInt ≤ b.toInt := Int64.le_iff_toInt_le
theorem fa_eq64 (a b : Int64) : a = b ↔ a.toInt = b.toInt := Int64.toInt_inj.symm
/-- a comparison of two ints taken as longs -/
theorem fa_wide_lt (a b : Int32) : a.toInt64 < b.toInt64 ↔ a < b := by rw [fa_lt64, fa_lt, Int32.toInt_toInt64, Int32.toInt_toInt64]
theorem fa_wide_le (a b : Int32) : a.toInt64 ≤ b.toInt64 ↔ a ≤ b := by rw [fa_le64, fa_le, Int32.toInt_toInt64, Int32.toInt_toInt64]
theorem fa_wide_eq (a b : Int32) : a.toInt64 = b.toInt64 ↔ a = b := by rw [fa_eq64, fa_eq, Int32.toInt_toInt64, Int32.toInt_toInt64]
/-- one strict comparison gives all the others -/
theorem fa_of_lt {a b : Int32} (h : a < b) : a ≤ b ∧ ¬ b ≤ a ∧ ¬ b < a ∧ a ≠ b ∧ b ≠ a := by
  rw [fa_lt] at h
  refine ⟨?_, ?_, ?_, ?_, ?_⟩
  · rw [fa_le]; omega
  · rw [fa_le]; omega
  · rw [fa_lt]; omega
  · intro e; rw [fa_eq] at e; omega
  · intro e; rw [fa_eq] at e; omega
theorem fa_of_nlt {a b : Int32} (h : ¬ a < b) : b ≤ a := by
  rw [fa_lt] at h
  rw [fa_le]
  omega
theorem fa_of_nle {a b : Int32} (h : ¬ a ≤ b) : b < a := by
  rw [fa_le] at h
  rw [fa_lt]
  omega
theorem fa_le_ne {a b : Int32} (h : a ≤ b) (h2 : a ≠ b) : a < b := by
  rw [fa_le] at h
  rw [fa_lt]
  have h3 : a.toInt ≠ b.toInt := fun e => h2 ((fa_eq a b).mpr e)
  omega
theorem fa_three (a b : Int32) : a < b ∨ a = b ∨ b < a := by
  rw [fa_lt, fa_lt, fa_eq]
  omega
theorem fa_trans {a b c : Int32} (h : a < b) (h2 : b ≤ c) : a < c := by
  rw [fa_lt] at *
  rw [fa_le] at h2
  omega
/-! ===== small literals as numbers ===== -/
theorem fa_lit (n : Nat) : (OfNat.ofNat n : Int32) = nI n := rfl
theorem fa_litL (n : Nat) : (OfNat.ofNat n : Int64) = lN n := rfl
/-! ===== bits of a number: 'or', masks, one bit ===== -/
theorem fa_and (a b : Nat) : nI a &&& nI b = nI (a &&& b) := by
  apply Int32.toBitVec_inj.1
  show BitVec.ofNat 32 a &&& BitVec.ofNat 32 b = BitVec.ofNat 32 (a &&& b)
  apply BitVec.eq_of_getLsbD_eq
  intro i hi
  simp [hi]
theorem fa_or (a b : Nat) : nI a ||| nI b = nI (a ||| b) := by
  apply Int32.toBitVec_inj.1
  show BitVec.ofNat 32 a ||| BitVec.ofNat 32 b = BitVec.ofNat 32 (a ||| b)
  apply BitVec.eq_of_getLsbD_eq
  intro i hi
  simp [hi]
/-- a remainder by a power of two, as a mask -/
theorem fa_mask (n k : Nat) : nI n &&& nI (2 ^ k - 1) = nI (n % 2 ^ k) := by rw [fa_and, Nat.and_two_pow_sub_one_eq_mod]
/-- 'or' of a high part and a low one that don't meet is their sum -/
theorem fa_or_sum {a k : Nat} (b : Nat) (h : a < 2 ^ k) : nI (2 ^ k * b) ||| nI a = nI (2 ^ k * b + a) := by rw [fa_or, Nat.two_pow_add_eq_or_of_lt h]
/-- one bit, by 'and' with a power of two -/
theorem fa_bit {n j : Nat} (hj : j < 31) : nI n &&& nI (2 ^ j) = 0 ↔ n.testBit j = false := by
  have h2 : (2 : Nat) ^ j < 2 ^ 31 := Nat.pow_lt_pow_right (by decide) hj
  have hle : n &&& 2 ^ j ≤ 2 ^ j := Nat.and_le_right
  have e : n &&& 2 ^ j = 0 ↔ n.testBit j = false := by
    constructor
    · intro h
      have h1 : (n &&& 2 ^ j).testBit j = false := by rw [h]; simp
      rw [Nat.testBit_and] at h1
      first | simpa using h1 | simpa [Nat.testBit_two_pow_self] using h1 | simpa [Nat.testBit_two_pow] using h1
    · intro h
      apply Nat.eq_of_testBit_eq
      intro i
      rw [Nat.testBit_and]
      by_cases hi : j = i
      · subst hi; simp [h]
      · first | (simp [Nat.testBit_two_pow, hi]; done) | (simp [Nat.testBit_two_pow_of_ne hi]; done)
  rw [fa_and]
  constructor
  · intro h
    apply e.mp
    rcases Nat.eq_zero_or_pos (n &&& 2 ^ j) with z | z
    · exact z
    · exact absurd h (nI_ne0 z (Nat.lt_of_le_of_lt hle h2))
  · intro h
    rw [e.mpr h]; exact nI_0
/-- a remainder by a power of two of a number that isn't negative, as Java divides -/
theorem fa_rem {a k : Nat} (ha : a < 2 ^ 31) (hk : k < 31) : nI a - nI a / nI (2 ^ k) * nI (2 ^ k) = nI (a % 2 ^ k) := pk_rem ha (Nat.two_pow_pos k) (Nat.pow_lt_pow_right (by decide) hk)
/-! ===== cuts to a byte, a short ===== -/
theorem fa_byte_xor (x y : Int32) : (x ^^^ y).toInt8 = x.toInt8 ^^^ y.toInt8 := by
  apply Int8.toBitVec_inj.1
  apply BitVec.eq_of_getLsbD_eq
  intro i hi
  first | (simp [hi]; done) | (simp [hi, BitVec.getLsbD_setWidth, BitVec.getLsbD_signExtend]; done)
theorem fa_short_xor (x y : Int32) : (x ^^^ y).toInt16 = x.toInt16 ^^^ y.toInt16 := by
  apply Int16.toBitVec_inj.1
  apply BitVec.eq_of_getLsbD_eq
  intro i hi
  first | (simp [hi]; done) | (simp [hi, BitVec.getLsbD_setWidth, BitVec.getLsbD_signExtend]; done)
/-- the cut to a byte sees the low byte alone -/
theorem fa_byte_low (x : Int32) : (x &&& 255).toInt8 = x.toInt8 := by
  apply Int8.toBitVec_inj.1
  apply BitVec.eq_of_getLsbD_eq
  intro i hi
  have h2 : (255 : Int32).toBitVec.getLsbD i = true := by
    have : ∀ j : Fin 8, (255 : Int32).toBitVec.getLsbD j.val = true := by decide +kernel
    exact this ⟨i, hi⟩
  have h4 : (x &&& 255).toBitVec.getLsbD i = x.toBitVec.getLsbD i := by
    show (x.toBitVec &&& (255 : Int32).toBitVec).getLsbD i = _
    rw [BitVec.getLsbD_and, h2, Bool.and_true]
  have h3 : i < 32 := by omega
  first
    | (show (((x &&& 255).toBitVec).signExtend 8).getLsbD i = (x.toBitVec.signExtend 8).getLsbD i; rw [BitVec.getLsbD_signExtend, BitVec.getLsbD_signExtend, if_pos h3, if_pos h3, h4])
    | (show (((x &&& 255).toBitVec).setWidth 8).getLsbD i = (x.toBitVec.setWidth 8).getLsbD i; rw [BitVec.getLsbD_setWidth, BitVec.getLsbD_setWidth, h4])
    | (simp [hi, h3, h4]; done)
theorem fa_short_low (x : Int32) : (x &&& 65535).toInt16 = x.toInt16 := by
  apply Int16.toBitVec_inj.1
  apply BitVec.eq_of_getLsbD_eq
  intro i hi
  have h2 : (65535 : Int32).toBitVec.getLsbD i = true := by
    have : ∀ j : Fin 16, (65535 : Int32).toBitVec.getLsbD j.val = true := by decide +kernel
    exact this ⟨i, hi⟩
  have h4 : (x &&& 65535).toBitVec.getLsbD i = x.toBitVec.getLsbD i := by
    show (x.toBitVec &&& (65535 : Int32).toBitVec).getLsbD i = _
    rw [BitVec.getLsbD_and, h2, Bool.and_true]
  have h3 : i < 32 := by omega
  first
    | (show (((x &&& 65535).toBitVec).signExtend 16).getLsbD i = (x.toBitVec.signExtend 16).getLsbD i; rw [BitVec.getLsbD_signExtend, BitVec.getLsbD_signExtend, if_pos h3, if_pos h3, h4])
    | (show (((x &&& 65535).toBitVec).setWidth 16).getLsbD i = (x.toBitVec.setWidth 16).getLsbD i; rw [BitVec.getLsbD_setWidth, BitVec.getLsbD_setWidth, h4])
    | (simp [hi, h3, h4]; done)
/-- a small number is its own byte, its own short -/
theorem fa_byte_small {n : Nat} (h : n < 128) : (nI n).toInt8.toInt32 = nI n := by
  have : ∀ j : Fin 128, (nI j.val).toInt8.toInt32 = nI j.val := by decide +kernel
  exact this ⟨n, h⟩
/-! ===== absolute difference ===== -/
theorem fa_absdiff {a b : Nat} (ha : a < 2 ^ 31) (hb : b < 2 ^ 31) : (if nI a < nI b then nI b - nI a else nI a - nI b) = nI (if a < b then b - a else a - b) := by
  by_cases h : a < b
  · rw [if_pos (nI_lt h hb), if_pos h]
    exact pk_sub (Nat.le_of_lt h)
  · rw [if_neg (nI_nlt (Nat.le_of_not_lt h) ha), if_neg h]
    exact pk_sub (Nat.le_of_not_lt h)
/-! ===== an array behind i stores, a conditional store, a row copied ===== -/
/-- f where k < i, what stood there else -/
def fa_fill {α : Type} (f g : Nat → α) (i : Nat) : Nat → α := fun k => if k < i then f k else g k
theorem fa_fill_0 {α : Type} (f g : Nat → α) : fa_fill f g 0 = g := funext fun k => if_neg (Nat.not_lt_zero k)
theorem fa_fill_in {α : Type} {f g : Nat → α} {i k : Nat} (h : k < i) : fa_fill f g i k = f k := if_pos h
theorem fa_fill_out {α : Type} {f g : Nat → α} {i k : Nat} (h : i ≤ k) : fa_fill f g i k = g k := if_neg (Nat.not_lt.mpr h)
theorem fa_fill_succ (f g : Nat → Int32) (i : Nat) : upd (fa_fill f g i) i (f i) = fa_fill f g (i + 1) := by
  funext k
  by_cases e : k = i
  · subst e
    rw [pk_us]
    exact (if_pos (Nat.lt_succ_self k)).symm
  · rw [pk_un e]
    by_cases h : k < i
    · rw [fa_fill_in h, fa_fill_in (Nat.lt_succ_of_lt h)]
    · rw [fa_fill_out (Nat.le_of_not_lt h), fa_fill_out (by omega)]
/-- a store that changes nothing -/
theorem fa_upd_same {f : Nat → Int32} {i : Nat} {x : Int32} (h : f i = x) : upd f i x = f := by
  funext k
  by_cases e : k = i
  · subst e
    rw [pk_us, h]
  · rw [pk_un e]
/-- a store under a condition, told as one -/
theorem fa_upd_if (c : Prop) [Decidable c] (f : Nat → Int32) (i : Nat) (x : Int32) : (if c then upd f i x else f) = upd f i (if c then x else f i) := by
  by_cases h : c
  · rw [if_pos h, if_pos h]
  · rw [if_neg h, if_neg h, fa_upd_same rfl]
/-- two stores at one place, at two -/
theorem fa_upd_twice (f : Nat → Int32) (i : Nat) (x y : Int32) : upd (upd f i x) i y = upd f i y := by
  funext k
  by_cases e : k = i
  · subst e
    rw [pk_us, pk_us]
  · rw [pk_un e, pk_un e, pk_un e]
theorem fa_upd_swap (f : Nat → Int32) {i j : Nat} (h : i ≠ j) (x y : Int32) : upd (upd f i x) j y = upd (upd f j y) i x := by
  funext k
  by_cases e : k = i
  · subst e
    rw [pk_un h, pk_us, pk_us]
  · by_cases e2 : k = j
    · subst e2
      rw [pk_us, pk_un e, pk_us]
    · rw [pk_un e2, pk_un e, pk_un e, pk_un e2]
/-! ===== the first index with a property; a count ===== -/
/-- the first k < n with p k, n if there is none -/
def fa_first (p : Nat → Bool) : Nat → Nat
  | 0 => 0
  | n + 1 => if fa_first p n < n then fa_first p n else if p n then n else n + 1
theorem fa_first_le (p : Nat → Bool) : ∀ n, fa_first p n ≤ n
  | 0 => Nat.le_refl 0
  | n + 1 => by
    have ih := fa_first_le p n
    unfold fa_first
    split
    · omega
    · split
      · omega
      · omega
theorem fa_first_no (p : Nat → Bool) : ∀ n k, k < fa_first p n → p k = false
  | 0, k, h => absurd h (Nat.not_lt_zero k)
  | n + 1, k, h => by
    have ih := fa_first_no p n
    have hl := fa_first_le p n
    unfold fa_first at h
    split at h
    · exact ih k h
    · rename_i h1
      split at h
      · exact ih k (by omega)
      · rename_i h2
        by_cases e : k = n
        · subst e
          exact Bool.eq_false_iff.mpr h2
        · exact ih k (by omega)
theorem fa_first_yes (p : Nat → Bool) : ∀ n, fa_first p n < n → p (fa_first p n) = true
  | 0, h => absurd h (Nat.not_lt_zero _)
  | n + 1, h => by
    have ih := fa_first_yes p n
    have hl := fa_first_le p n
    unfold fa_first at h ⊢
    split at h
    · rename_i h1
      rw [if_pos h1]
      exact ih h1
    · rename_i h1
      rw [if_neg h1]
      split at h
      · rename_i h2
        rw [if_pos h2]
        exact h2
      · omega
/-- how many k < n have p k -/
def fa_cnt (p : Nat → Bool) : Nat → Nat
  | 0 => 0
  | n + 1 => fa_cnt p n + if p n then 1 else 0
theorem fa_cnt_le (p : Nat → Bool) : ∀ n, fa_cnt p n ≤ n
  | 0 => Nat.le_refl 0
  | n + 1 => by
    have ih := fa_cnt_le p n
    unfold fa_cnt
    split
    · omega
    · omega
theorem fa_cnt_yes {p : Nat → Bool} {n : Nat} (h : p n = true) : fa_cnt p (n + 1) = fa_cnt p n + 1 := by rw [fa_cnt, if_pos h]
theorem fa_cnt_no {p : Nat → Bool} {n : Nat} (h : p n = false) : fa_cnt p (n + 1) = fa_cnt p n := by rw [fa_cnt, if_neg (by rw [h]; decide)]; rfl
theorem fa_cnt_cong {p q : Nat → Bool} : ∀ {n : Nat}, (∀ k, k < n → p k = q k) → fa_cnt p n = fa_cnt q n
  | 0, _ => rfl
  | n + 1, h => by rw [fa_cnt, fa_cnt, fa_cnt_cong (fun k hk => h k (Nat.lt_succ_of_lt hk)), h n (Nat.lt_succ_self n)]
/-! ===== an answer carried into a post; a branch on a boolean answer ===== -/
theorem fa_post {α : Type} {P : α → Prop} {x y : α} (h : x = y) (hp : P y) : P x := h ▸ hp
theorem fa_post2 {α β : Type} {P : α → β → Prop} {x y : α} {u v : β} (h : x = y) (h2 : u = v) (hp : P y v) : P x u := h ▸ h2 ▸ hp
theorem fa_bool {r : Int32} {b : Bool} (h : r = if b then 1 else 0) : (r = 0 ↔ b = false) ∧ (¬ r = 0 ↔ b = true) := by
  subst h
  cases b
  · exact ⟨⟨fun _ => rfl, fun _ => rfl⟩, ⟨fun h => absurd rfl h, fun h => absurd h (by decide)⟩⟩
  · exact ⟨⟨fun h => absurd h (by decide), fun h => absurd h (by decide)⟩, ⟨fun _ => rfl, fun _ => by decide⟩⟩
/-- a boolean's narrowing changes nothing -/
theorem fa_bool_and {r : Int32} (h : r = 0 ∨ r = 1) : r &&& 1 = r := by
  rcases h with rfl | rfl
  · decide
  · decide
theorem fa_bool_prop {c : Prop} [Decidable c] {r : Int32} (h : r = if c then 1 else 0) : (r = 0 ↔ ¬ c) ∧ (¬ r = 0 ↔ c) := by
  subst h
  by_cases hc : c
  · rw [if_pos hc]
    exact ⟨⟨fun h => absurd h (by decide), fun h => absurd hc h⟩, ⟨fun _ => hc, fun _ => by decide⟩⟩
  · rw [if_neg hc]
    exact ⟨⟨fun _ => hc, fun _ => rfl⟩, ⟨fun h => absurd rfl h, fun h => absurd h hc⟩⟩
/-! plain facts to paste, each family by itself; over the kit's nI, lN and upd -/
/-! ===== drawers: more things than places ===== -/
theorem fb_holes : ∀ (m n : Nat) (f : Nat → Nat), (∀ i, i < n → f i < m) → (∀ i j, i < j → j < n → f i ≠ f j) → n ≤ m := by
  intro m
  induction m with
  | zero =>
    intro n f h1 _
    rcases Nat.eq_zero_or_pos n with h | h
    · omega
    · exact absurd (h1 0 h) (Nat.not_lt_zero _)
  | succ m ih =>
    intro n f h1 h2
    by_cases hx : ∃ i, i < n ∧ f i = m
    · obtain ⟨a, ha, hfa⟩ := hx
      have hg := ih (n - 1) (fun i => if i < a then f i else f (i + 1)) (by
        intro i hi
        by_cases q : i < a
        · simp only [if_pos q]
          have b1 := h1 i (by omega)
          have b2 := h2 i a q ha
          omega
        · simp only [if_neg q]
          have b1 := h1 (i + 1) (by omega)
          have b2 := h2 a (i + 1) (by omega) (by omega)
          omega) (by
        intro i j hij hj
        by_cases q : i < a
        · by_cases r : j < a
          · simp only [if_pos q, if_pos r]
            exact h2 i j hij (by omega)
          · simp only [if_pos q, if_neg r]
            exact h2 i (j + 1) (by omega) (by omega)
        · have r : ¬ j < a := by omega
          simp only [if_neg q, if_neg r]
          exact h2 (i + 1) (j + 1) (by omega) (by omega))
      omega
    · have hg := ih n f (fun i hi => by
        have b1 := h1 i hi
        have b2 : f i ≠ m := fun e => hx ⟨i, hi, e⟩
        omega) h2
      omega
/-- two of them in one place -/
theorem fb_twice {m n : Nat} {f : Nat → Nat} (h : ∀ i, i < n → f i < m) (hm : m < n) : ∃ i j, i < j ∧ j < n ∧ f i = f j := by
  refine Classical.byContradiction fun hx => ?_
  have := fb_holes m n f h (fun i j hij hj e => hx ⟨i, j, hij, hj, e⟩)
  omega
/-- as many as places, none twice: each place is taken -/
theorem fb_onto {n : Nat} {f : Nat → Nat} (h : ∀ i, i < n → f i < n) (h2 : ∀ i j, i < j → j < n → f i ≠ f j) {y : Nat} (hy : y < n) : ∃ i, i < n ∧ f i = y := by
  refine Classical.byContradiction fun hx => ?_
  have hne : ∀ i, i < n → f i ≠ y := fun i hi e => hx ⟨i, hi, e⟩
  have := fb_holes (n - 1) n (fun i => if f i < y then f i else f i - 1) (by
    intro i hi
    have b1 := h i hi
    have b2 := hne i hi
    by_cases q : f i < y
    · simp only [if_pos q]; omega
    · simp only [if_neg q]; omega) (by
    intro i j hij hj
    have b1 := hne i (by omega)
    have b2 := hne j hj
    have b3 := h2 i j hij hj
    by_cases q : f i < y
    · by_cases r : f j < y
      · simp only [if_pos q, if_pos r]; exact b3
      · simp only [if_pos q, if_neg r]; omega
    · by_cases r : f j < y
      · simp only [if_neg q, if_pos r]; omega
      · simp only [if_neg q, if_neg r]; omega)
  omega
/-! ===== how many places have a property ===== -/
def fb_ct (p : Nat → Bool) : Nat → Nat
  | 0 => 0
  | n + 1 => fb_ct p n + (if p n then 1 else 0)
theorem fb_ct_succ (p : Nat → Bool) (n : Nat) : fb_ct p (n + 1) = fb_ct p n + (if p n then 1 else 0) := rfl
theorem fb_ct_le (p : Nat → Bool) : ∀ n, fb_ct p n ≤ n
  | 0 => Nat.le_refl _
  | n + 1 => by
    have h := fb_ct_le p n
    rw [fb_ct_succ]
    split <;> omega
theorem fb_ct_step (p : Nat → Bool) (m : Nat) : ∀ n, fb_ct p m ≤ fb_ct p (m + n)
  | 0 => Nat.le_refl _
  | n + 1 => by
    have h := fb_ct_step p m n
    show fb_ct p m ≤ fb_ct p (m + n + 1)
    rw [fb_ct_succ]
    omega
theorem fb_ct_mono (p : Nat → Bool) {m n : Nat} (h : m ≤ n) : fb_ct p m ≤ fb_ct p n := by
  have := fb_ct_step p m (n - m)
  rwa [Nat.add_sub_cancel' h] at this
theorem fb_ct_cong {p q : Nat → Bool} : ∀ {n : Nat}, (∀ k, k < n → p k = q k) → fb_ct p n = fb_ct q n
  | 0, _ => rfl
  | n + 1, h => by
    rw [fb_ct_succ, fb_ct_succ, fb_ct_cong (fun k hk => h k (by omega)), h n (by omega)]
/-- one place changed -/
theorem fb_ct_out (p : Nat → Bool) (b : Bool) {i n : Nat} (h : n ≤ i) : fb_ct (fun k => if k = i then b else p k) n = fb_ct p n :=
  fb_ct_cong fun k hk => if_neg (by omega)
theorem fb_ct_upd (p : Nat → Bool) (b : Bool) {i : Nat} : ∀ {n : Nat}, i < n → fb_ct (fun k => if k = i then b else p k) n + (if p i then 1 else 0) = fb_ct p n + (if b then 1 else 0)
  | 0, h => absurd h (Nat.not_lt_zero i)
  | n + 1, h => by
    rw [fb_ct_succ, fb_ct_succ]
    rcases Nat.lt_or_ge i n with q | q
    · have := fb_ct_upd p b q
      have e : (if n = i then b else p n) = p n := if_neg (by omega)
      rw [e]
      omega
    · have e : i = n := by omega
      subst e
      rw [fb_ct_out p b (Nat.le_refl _)]
      simp only [if_true]
      omega
theorem fb_ct_sub {p q : Nat → Bool} : ∀ {n : Nat}, (∀ k, k < n → p k = true → q k = true) → fb_ct p n ≤ fb_ct q n
  | 0, _ => Nat.le_refl _
  | n + 1, h => by
    have h1 := fb_ct_sub (n := n) (p := p) (q := q) (fun k hk => h k (by omega))
    have h2 := h n (by omega)
    rw [fb_ct_succ, fb_ct_succ]
    cases hp : p n <;> cases hq : q n <;> simp_all <;> omega
theorem fb_ct_or {p q : Nat → Bool} : ∀ {n : Nat}, (∀ k, k < n → ¬ (p k = true ∧ q k = true)) → fb_ct (fun k => p k || q k) n = fb_ct p n + fb_ct q n
  | 0, _ => rfl
  | n + 1, h => by
    have h1 := fb_ct_or (n := n) (p := p) (q := q) (fun k hk => h k (by omega))
    have h2 := h n (by omega)
    rw [fb_ct_succ, fb_ct_succ, fb_ct_succ, h1]
    cases hp : p n <;> cases hq : q n <;> simp_all <;> omega
theorem fb_ct_not (p : Nat → Bool) : ∀ n, fb_ct p n + fb_ct (fun k => !p k) n = n
  | 0 => rfl
  | n + 1 => by
    have h := fb_ct_not p n
    rw [fb_ct_succ, fb_ct_succ]
    cases p n <;> simp <;> omega
theorem fb_ct_split (p : Nat → Bool) (m : Nat) : ∀ n, fb_ct p (m + n) = fb_ct p m + fb_ct (fun k => p (m + k)) n
  | 0 => rfl
  | n + 1 => by
    have h := fb_ct_split p m n
    show fb_ct p (m + n + 1) = _
    rw [fb_ct_succ, fb_ct_succ, h, Nat.add_assoc]
theorem fb_ct_zero {p : Nat → Bool} : ∀ {n : Nat}, fb_ct p n = 0 ↔ ∀ k, k < n → p k = false
  | 0 => ⟨fun _ k hk => absurd hk (Nat.not_lt_zero k), fun _ => rfl⟩
  | n + 1 => by
    have h := fb_ct_zero (p := p) (n := n)
    rw [fb_ct_succ]
    constructor
    · intro e k hk
      have e1 : fb_ct p n = 0 := by omega
      rcases Nat.lt_or_ge k n with q | q
      · exact h.mp e1 k q
      · have ek : k = n := by omega
        subst ek
        cases hp : p k
        · rfl
        · simp [hp] at e
    · intro a
      rw [h.mpr (fun k hk => a k (by omega)), a n (by omega)]
      rfl
theorem fb_ct_pos {p : Nat → Bool} {n : Nat} : 0 < fb_ct p n ↔ ∃ k, k < n ∧ p k = true := by
  constructor
  · intro h
    refine Classical.byContradiction fun hx => ?_
    have := fb_ct_zero.mpr (fun k hk => by
      cases hp : p k
      · rfl
      · exact absurd ⟨k, hk, hp⟩ hx : ∀ k, k < n → p k = false)
    omega
  · rintro ⟨k, hk, hp⟩
    rcases Nat.eq_zero_or_pos (fb_ct p n) with e | e
    · have := fb_ct_zero.mp e k hk
      rw [this] at hp
      cases hp
    · exact e
theorem fb_ct_all {p : Nat → Bool} {n : Nat} : fb_ct p n = n ↔ ∀ k, k < n → p k = true := by
  have h := fb_ct_not p n
  constructor
  · intro e k hk
    have z : fb_ct (fun k => !p k) n = 0 := by omega
    have := fb_ct_zero.mp z k hk
    cases hp : p k
    · simp [hp] at this
    · rfl
  · intro a
    have z : fb_ct (fun k => !p k) n = 0 := fb_ct_zero.mpr (fun k hk => by simp [a k hk])
    omega
/-- the k-th place with the property -/
theorem fb_ct_kth {p : Nat → Bool} {k : Nat} : ∀ {n : Nat}, k < fb_ct p n → ∃ i, i < n ∧ p i = true ∧ fb_ct p i = k
  | 0, h => absurd h (Nat.not_lt_zero k)
  | n + 1, h => by
    rcases Nat.lt_or_ge k (fb_ct p n) with q | q
    · obtain ⟨i, h1, h2⟩ := fb_ct_kth q
      exact ⟨i, by omega, h2⟩
    · rw [fb_ct_succ] at h
      cases hp : p n
      · simp [hp] at h; omega
      · simp [hp] at h
        exact ⟨n, by omega, hp, by omega⟩
theorem fb_ct_kth_one {p : Nat → Bool} {i j : Nat} (hi : p i = true) (hj : p j = true) (e : fb_ct p i = fb_ct p j) : i = j := by
  have key : ∀ a b : Nat, a < b → p a = true → fb_ct p a < fb_ct p b := by
    intro a b hab ha
    have h := fb_ct_mono p (show a + 1 ≤ b from hab)
    rw [fb_ct_succ, ha] at h
    simp at h
    omega
  rcases Nat.lt_trichotomy i j with q | q | q
  · have := key i j q hi; omega
  · exact q
  · have := key j i q hj; omega
/-! ===== sums over a range: one place changed, parts, bounds ===== -/
def fb_sm (f : Nat → Nat) : Nat → Nat
  | 0 => 0
  | n + 1 => fb_sm f n + f n
theorem fb_sm_succ (f : Nat → Nat) (n : Nat) : fb_sm f (n + 1) = fb_sm f n + f n := rfl
theorem fb_sm_cong {f g : Nat → Nat} : ∀ {n : Nat}, (∀ k, k < n → f k = g k) → fb_sm f n = fb_sm g n
  | 0, _ => rfl
  | n + 1, h => by rw [fb_sm_succ, fb_sm_succ, fb_sm_cong (fun k hk => h k (by omega)), h n (by omega)]
theorem fb_sm_out (f : Nat → Nat) (v : Nat) {i n : Nat} (h : n ≤ i) : fb_sm (fun k => if k = i then v else f k) n = fb_sm f n :=
  fb_sm_cong fun k hk => if_neg (by omega)
theorem fb_sm_upd (f : Nat → Nat) (v : Nat) {i : Nat} : ∀ {n : Nat}, i < n → fb_sm (fun k => if k = i then v else f k) n + f i = fb_sm f n + v
  | 0, h => absurd h (Nat.not_lt_zero i)
  | n + 1, h => by
    rw [fb_sm_succ, fb_sm_succ]
    rcases Nat.lt_or_ge i n with q | q
    · have := fb_sm_upd f v q
      have e : (if n = i then v else f n) = f n := if_neg (by omega)
      rw [e]
      omega
    · have e : i = n := by omega
      subst e
      rw [fb_sm_out f v (Nat.le_refl _)]
      simp only [if_true]
      omega
theorem fb_sm_add (f g : Nat → Nat) : ∀ n, fb_sm (fun k => f k + g k) n = fb_sm f n + fb_sm g n
  | 0 => rfl
  | n + 1 => by
    have h := fb_sm_add f g n
    rw [fb_sm_succ, fb_sm_succ, fb_sm_succ, h]
    omega
theorem fb_sm_le {f g : Nat → Nat} : ∀ {n : Nat}, (∀ k, k < n → f k ≤ g k) → fb_sm f n ≤ fb_sm g n
  | 0, _ => Nat.le_refl _
  | n + 1, h => by
    have h1 := fb_sm_le (n := n) (f := f) (g := g) (fun k hk => h k (by omega))
    have h2 := h n (by omega)
    rw [fb_sm_succ, fb_sm_succ]
    omega
theorem fb_sm_const (c : Nat) : ∀ n, fb_sm (fun _ => c) n = n * c
  | 0 => by rw [Nat.zero_mul]; rfl
  | n + 1 => by rw [fb_sm_succ, fb_sm_const c n, Nat.succ_mul]
theorem fb_sm_bound {f : Nat → Nat} {c n : Nat} (h : ∀ k, k < n → f k ≤ c) : fb_sm f n ≤ n * c := by
  rw [← fb_sm_const c n]
  exact fb_sm_le h
theorem fb_sm_mono (f : Nat → Nat) (m : Nat) : ∀ n, fb_sm f m ≤ fb_sm f (m + n)
  | 0 => Nat.le_refl _
  | n + 1 => by
    have h := fb_sm_mono f m n
    show fb_sm f m ≤ fb_sm f (m + n + 1)
    rw [fb_sm_succ]
    omega
theorem fb_sm_part (f : Nat → Nat) {i n : Nat} (h : i < n) : fb_sm f i + f i ≤ fb_sm f n := by
  have := fb_sm_mono f (i + 1) (n - (i + 1))
  rw [fb_sm_succ, show i + 1 + (n - (i + 1)) = n by omega] at this
  exact this
theorem fb_sm_split (f : Nat → Nat) (m : Nat) : ∀ n, fb_sm f (m + n) = fb_sm f m + fb_sm (fun k => f (m + k)) n
  | 0 => rfl
  | n + 1 => by
    have h := fb_sm_split f m n
    show fb_sm f (m + n + 1) = _
    rw [fb_sm_succ, fb_sm_succ, h, Nat.add_assoc]
theorem fb_sm_zero {f : Nat → Nat} {n : Nat} (h : fb_sm f n = 0) : ∀ k, k < n → f k = 0 := fun k hk => by
  have := fb_sm_part f hk
  omega
/-- the same over whole numbers -/
def fb_si (f : Nat → Int) : Nat → Int
  | 0 => 0
  | n + 1 => fb_si f n + f n
theorem fb_si_succ (f : Nat → Int) (n : Nat) : fb_si f (n + 1) = fb_si f n + f n := rfl
theorem fb_si_cong {f g : Nat → Int} : ∀ {n : Nat}, (∀ k, k < n → f k = g k) → fb_si f n = fb_si g n
  | 0, _ => rfl
  | n + 1, h => by rw [fb_si_succ, fb_si_succ, fb_si_cong (fun k hk => h k (by omega)), h n (by omega)]
theorem fb_si_out (f : Nat → Int) (v : Int) {i n : Nat} (h : n ≤ i) : fb_si (fun k => if k = i then v else f k) n = fb_si f n :=
  fb_si_cong fun k hk => if_neg (by omega)
theorem fb_si_upd (f : Nat → Int) (v : Int) {i : Nat} : ∀ {n : Nat}, i < n → fb_si (fun k => if k = i then v else f k) n = fb_si f n - f i + v
  | 0, h => absurd h (Nat.not_lt_zero i)
  | n + 1, h => by
    rw [fb_si_succ, fb_si_succ]
    rcases Nat.lt_or_ge i n with q | q
    · have := fb_si_upd f v q
      have e : (if n = i then v else f n) = f n := if_neg (by omega)
      rw [e]
      omega
    · have e : i = n := by omega
      subst e
      rw [fb_si_out f v (Nat.le_refl _)]
      simp only [if_true]
      omega
theorem fb_si_add (f g : Nat → Int) : ∀ n, fb_si (fun k => f k + g k) n = fb_si f n + fb_si g n
  | 0 => rfl
  | n + 1 => by
    have h := fb_si_add f g n
    rw [fb_si_succ, fb_si_succ, fb_si_succ, h]
    omega
theorem fb_si_sub (f g : Nat → Int) : ∀ n, fb_si (fun k => f k - g k) n = fb_si f n - fb_si g n
  | 0 => rfl
  | n + 1 => by
    have h := fb_si_sub f g n
    rw [fb_si_succ, fb_si_succ, fb_si_succ, h]
    omega
theorem fb_si_mul (c : Int) (f : Nat → Int) : ∀ n, fb_si (fun k => c * f k) n = c * fb_si f n
  | 0 => (Int.mul_zero c).symm
  | n + 1 => by
    have h := fb_si_mul c f n
    rw [fb_si_succ, fb_si_succ, h, Int.mul_add]
theorem fb_si_split (f : Nat → Int) (m : Nat) : ∀ n, fb_si f (m + n) = fb_si f m + fb_si (fun k => f (m + k)) n
  | 0 => (Int.add_zero _).symm
  | n + 1 => by
    have h := fb_si_split f m n
    show fb_si f (m + n + 1) = _
    rw [fb_si_succ, fb_si_succ, h, Int.add_assoc]
theorem fb_si_nat (f : Nat → Nat) : ∀ n, fb_si (fun k => (f k : Int)) n = (fb_sm f n : Int)
  | 0 => rfl
  | n + 1 => by
    have h := fb_si_nat f n
    rw [fb_si_succ, fb_sm_succ, h]
    omega
theorem fb_si_bound {f : Nat → Int} {c : Int} (hc : 0 ≤ c) : ∀ {n : Nat}, (∀ k, k < n → -c ≤ f k ∧ f k ≤ c) → -(n * c) ≤ fb_si f n ∧ fb_si f n ≤ n * c
  | 0, _ => by simp [fb_si]
  | n + 1, h => by
    have h1 := fb_si_bound (n := n) (f := f) hc (fun k hk => h k (by omega))
    have h2 := h n (by omega)
    have e : ((n + 1 : Nat) : Int) * c = n * c + c := by rw [Int.natCast_add, Int.add_mul]; simp
    rw [fb_si_succ, e]
    omega
/-! ===== bits of a long that isn't negative ===== -/
theorem fb_andL (a b : Nat) : lN a &&& lN b = lN (a &&& b) := by
  apply Int64.toBitVec_inj.1
  show BitVec.ofNat 64 a &&& BitVec.ofNat 64 b = BitVec.ofNat 64 (a &&& b)
  apply BitVec.eq_of_getLsbD_eq
  intro i hi
  simp [hi]
theorem fb_orL (a b : Nat) : lN a ||| lN b = lN (a ||| b) := by
  apply Int64.toBitVec_inj.1
  show BitVec.ofNat 64 a ||| BitVec.ofNat 64 b = BitVec.ofNat 64 (a ||| b)
  apply BitVec.eq_of_getLsbD_eq
  intro i hi
  simp [hi]
theorem fb_xorL (a b : Nat) : lN a ^^^ lN b = lN (a ^^^ b) := by
  apply Int64.toBitVec_inj.1
  show BitVec.ofNat 64 a ^^^ BitVec.ofNat 64 b = BitVec.ofNat 64 (a ^^^ b)
  apply BitVec.eq_of_getLsbD_eq
  intro i hi
  simp [hi]
theorem fb_xorI (a b : Nat) : nI a ^^^ nI b = nI (a ^^^ b) := by
  apply Int32.toBitVec_inj.1
  show BitVec.ofNat 32 a ^^^ BitVec.ofNat 32 b = BitVec.ofNat 32 (a ^^^ b)
  apply BitVec.eq_of_getLsbD_eq
  intro i hi
  simp [hi]
theorem fb_maskL (n k : Nat) : lN n &&& lN (2 ^ k - 1) = lN (n % 2 ^ k) := by rw [fb_andL, Nat.and_two_pow_sub_one_eq_mod]
theorem fb_or_sumL {a k : Nat} (b : Nat) (h : a < 2 ^ k) : lN (2 ^ k * b) ||| lN a = lN (2 ^ k * b + a) := by rw [fb_orL, Nat.two_pow_add_eq_or_of_lt h]
theorem fb_lN_inj {a b : Nat} (ha : a < 2 ^ 63) (hb : b < 2 ^ 63) : lN a = lN b ↔ a = b := by
  constructor
  · intro h
    have h1 : (BitVec.ofNat 64 a).toNat = (BitVec.ofNat 64 b).toNat := congrArg (fun x : Int64 => x.toBitVec.toNat) h
    rw [BitVec.toNat_ofNat, BitVec.toNat_ofNat, Nat.mod_eq_of_lt (by omega), Nat.mod_eq_of_lt (by omega)] at h1
    exact h1
  · rintro rfl; rfl
theorem fb_bit_nat (n j : Nat) : n &&& 2 ^ j = 0 ↔ n.testBit j = false := by
  constructor
  · intro h
    have h1 : (n &&& 2 ^ j).testBit j = false := by rw [h]; simp
    rw [Nat.testBit_and] at h1
    simpa using h1
  · intro h
    apply Nat.eq_of_testBit_eq
    intro i
    rw [Nat.testBit_and]
    by_cases hi : j = i
    · subst hi; simp [h]
    · first | (simp [Nat.testBit_two_pow, hi]; done) | (simp [Nat.testBit_two_pow_of_ne hi]; done)
/-- one bit of a long -/
theorem fb_bitL {n j : Nat} (hj : j < 63) : lN n &&& lN (2 ^ j) = 0 ↔ n.testBit j = false := by
  have h2 : (2 : Nat) ^ j < 2 ^ 63 := Nat.pow_lt_pow_right (by decide) hj
  have hle : n &&& 2 ^ j ≤ 2 ^ j := Nat.and_le_right
  rw [fb_andL, ← fb_bit_nat, show (0 : Int64) = lN 0 from rfl]
  exact fb_lN_inj (by omega) (by decide)
/-- a bit set, a bit taken off -/
theorem fb_bit_set (n j i : Nat) : (n ||| 2 ^ j).testBit i = (n.testBit i || decide (i = j)) := by
  rw [Nat.testBit_or]
  by_cases h : j = i
  · subst h; simp
  · have h2 : ¬ i = j := fun e => h e.symm
    first | (simp [Nat.testBit_two_pow, h, h2]; done) | (simp [Nat.testBit_two_pow_of_ne h, h2]; done)
theorem fb_bit_flip (n j i : Nat) : (n ^^^ 2 ^ j).testBit i = (n.testBit i ^^ decide (i = j)) := by
  rw [Nat.testBit_xor]
  by_cases h : j = i
  · subst h; simp
  · have h2 : ¬ i = j := fun e => h e.symm
    first | (simp [Nat.testBit_two_pow, h, h2]; done) | (simp [Nat.testBit_two_pow_of_ne h, h2]; done)
/-! ===== a stretch of an array written over by a function ===== -/
def fb_put {α : Type} (f g : Nat → α) (a n : Nat) : Nat → α := fun k => if a ≤ k ∧ k < a + n then g (k - a) else f k
theorem fb_put_0 {α : Type} (f g : Nat → α) (a : Nat) : fb_put f g a 0 = f := funext fun k => if_neg (by omega)
theorem fb_put_in {α : Type} {f g : Nat → α} {a n k : Nat} (h1 : a ≤ k) (h2 : k < a + n) : fb_put f g a n k = g (k - a) := if_pos ⟨h1, h2⟩
theorem fb_put_out {α : Type} {f g : Nat → α} {a n k : Nat} (h : k < a ∨ a + n ≤ k) : fb_put f g a n k = f k := if_neg (by omega)
theorem fb_put_succ (f g : Nat → Int32) (a n : Nat) : upd (fb_put f g a n) (a + n) (g n) = fb_put f g a (n + 1) := by
  funext k
  by_cases h : k = a + n
  · subst h
    simp [upd, fb_put]
  · by_cases h1 : a ≤ k ∧ k < a + n
    · have h2 : a ≤ k ∧ k < a + (n + 1) := by omega
      simp only [upd, fb_put, if_neg h, if_pos h1, if_pos h2]
    · have h2 : ¬ (a ≤ k ∧ k < a + (n + 1)) := by omega
      simp only [upd, fb_put, if_neg h, if_neg h1, if_neg h2]
/-- .. from the far end down -/
theorem fb_put_down (f g : Nat → Int32) {a n m : Nat} (h : m < n) : upd (fb_put f (fun k => g (k + (m + 1))) (a + (m + 1)) (n - (m + 1))) (a + m) (g m) = fb_put f (fun k => g (k + m)) (a + m) (n - m) := by
  funext k
  by_cases h0 : k = a + m
  · subst h0
    simp only [upd, if_true]
    rw [fb_put_in (by omega) (by omega)]
    exact congrArg g (by omega)
  · simp only [upd, if_neg h0]
    by_cases h1 : a + (m + 1) ≤ k ∧ k < a + (m + 1) + (n - (m + 1))
    · rw [fb_put_in h1.1 h1.2, fb_put_in (by omega) (by omega)]
      exact congrArg g (by omega)
    · rw [fb_put_out (by omega), fb_put_out (by omega)]
theorem fb_put_cong {α : Type} {f f2 g g2 : Nat → α} {a n : Nat} (hf : ∀ k, (k < a ∨ a + n ≤ k) → f k = f2 k) (hg : ∀ k, k < n → g k = g2 k) : fb_put f g a n = fb_put f2 g2 a n := by
  funext k
  by_cases h : a ≤ k ∧ k < a + n
  · rw [fb_put_in h.1 h.2, fb_put_in h.1 h.2, hg _ (by omega)]
  · rw [fb_put_out (by omega), fb_put_out (by omega), hf _ (by omega)]
/-! ===== the least, the first, the best so far; that there is one alone ===== -/
theorem fb_first {p : Nat → Prop} [DecidablePred p] : ∀ {n : Nat}, (∃ i, i < n ∧ p i) → ∃ i, i < n ∧ p i ∧ ∀ j, j < i → ¬ p j
  | 0, h => by obtain ⟨i, hi, -⟩ := h; exact absurd hi (Nat.not_lt_zero i)
  | n + 1, h => by
    by_cases q : ∃ i, i < n ∧ p i
    · obtain ⟨i, h1, h2⟩ := fb_first q
      exact ⟨i, by omega, h2⟩
    · obtain ⟨i, h1, h2⟩ := h
      have e : i = n := by
        rcases Nat.lt_or_ge i n with r | r
        · exact absurd ⟨i, r, h2⟩ q
        · omega
      subst e
      exact ⟨i, by omega, h2, fun j hj hp => q ⟨j, hj, hp⟩⟩
theorem fb_first_one {p : Nat → Prop} {i j : Nat} (hi : p i) (hi2 : ∀ k, k < i → ¬ p k) (hj : p j) (hj2 : ∀ k, k < j → ¬ p k) : i = j := by
  rcases Nat.lt_trichotomy i j with q | q | q
  · exact absurd hi (hj2 i q)
  · exact q
  · exact absurd hj (hi2 j q)
theorem fb_last {p : Nat → Prop} [DecidablePred p] : ∀ {n : Nat}, (∃ i, i < n ∧ p i) → ∃ i, i < n ∧ p i ∧ ∀ j, i < j → j < n → ¬ p j
  | 0, h => by obtain ⟨i, hi, -⟩ := h; exact absurd hi (Nat.not_lt_zero i)
  | n + 1, h => by
    by_cases q : p n
    · exact ⟨n, by omega, q, fun j h1 h2 => by omega⟩
    · obtain ⟨i, h1, h2⟩ := h
      have hi : i < n := by
        rcases Nat.lt_or_ge i n with r | r
        · exact r
        · have e : i = n := by omega
          subst e
          exact absurd h2 q
      obtain ⟨i2, a1, a2, a3⟩ := fb_last (n := n) ⟨i, hi, h2⟩
      refine ⟨i2, by omega, a2, fun j b1 b2 => ?_⟩
      rcases Nat.lt_or_ge j n with r | r
      · exact a3 j b1 r
      · have e : j = n := by omega
        subst e
        exact q
/-- the first greatest -/
theorem fb_best (f : Nat → Int) : ∀ {n : Nat}, 0 < n → ∃ i, i < n ∧ (∀ j, j < n → f j ≤ f i) ∧ ∀ j, j < i → f j < f i
  | 0, h => absurd h (Nat.lt_irrefl 0)
  | 1, _ => ⟨0, by omega, fun j hj => by have e : j = 0 := by omega
                                         subst e; exact Int.le_refl _, fun j hj => absurd hj (Nat.not_lt_zero j)⟩
  | n + 2, _ => by
    obtain ⟨i, h1, h2, h3⟩ := fb_best f (n := n + 1) (by omega)
    by_cases q : f i < f (n + 1)
    · refine ⟨n + 1, by omega, fun j hj => ?_, fun j hj => ?_⟩
      · rcases Nat.lt_or_ge j (n + 1) with r | r
        · have := h2 j r; omega
        · have e : j = n + 1 := by omega
          subst e; exact Int.le_refl _
      · have := h2 j hj; omega
    · refine ⟨i, by omega, fun j hj => ?_, h3⟩
      rcases Nat.lt_or_ge j (n + 1) with r | r
      · exact h2 j r
      · have e : j = n + 1 := by omega
        subst e; omega
theorem fb_best_one {f : Nat → Int} {n i j : Nat} (hi : i < n) (hi2 : ∀ k, k < n → f k ≤ f i) (hi3 : ∀ k, k < i → f k < f i) (hj : j < n) (hj2 : ∀ k, k < n → f k ≤ f j) (hj3 : ∀ k, k < j → f k < f j) : i = j := by
  rcases Nat.lt_trichotomy i j with q | q | q
  · have a := hj3 i q
    have b := hi2 j hj
    omega
  · exact q
  · have a := hi3 j q
    have b := hj2 i hi
    omega
/-- the first least -/
theorem fb_low (f : Nat → Int) {n : Nat} (h : 0 < n) : ∃ i, i < n ∧ (∀ j, j < n → f i ≤ f j) ∧ ∀ j, j < i → f i < f j := by
  obtain ⟨i, h1, h2, h3⟩ := fb_best (fun k => -f k) h
  exact ⟨i, h1, fun j hj => by have := h2 j hj; omega, fun j hj => by have := h3 j hj; omega⟩
/-! ===== signed ints as whole numbers, within bounds ===== -/
theorem fb_rng (x : Int32) : -2147483648 ≤ x.toInt ∧ x.toInt < 2147483648 := by
  have h1 := Int32.le_toInt x
  have h2 := Int32.toInt_lt x
  omega
theorem fb_bmod {z : Int} (h1 : -2147483648 ≤ z) (h2 : z < 2147483648) : z.bmod (2 ^ 32) = z := by
  rw [Int.bmod_eq_of_le (by omega) (by omega)]
theorem fb_addI {x y : Int32} (h1 : -2147483648 ≤ x.toInt + y.toInt) (h2 : x.toInt + y.toInt < 2147483648) : (x + y).toInt = x.toInt + y.toInt := by
  rw [Int32.toInt_add, fb_bmod h1 h2]
theorem fb_subI {x y : Int32} (h1 : -2147483648 ≤ x.toInt - y.toInt) (h2 : x.toInt - y.toInt < 2147483648) : (x - y).toInt = x.toInt - y.toInt := by
  rw [Int32.toInt_sub, fb_bmod h1 h2]
theorem fb_mulI {x y : Int32} (h1 : -2147483648 ≤ x.toInt * y.toInt) (h2 : x.toInt * y.toInt < 2147483648) : (x * y).toInt = x.toInt * y.toInt := by
  rw [Int32.toInt_mul, fb_bmod h1 h2]
theorem fb_negI {x : Int32} (h : x.toInt ≠ -2147483648) : (-x).toInt = -x.toInt := by
  have := fb_rng x
  rw [Int32.toInt_neg, fb_bmod (by omega) (by omega)]
theorem fb_ofI {z : Int} (h1 : -2147483648 ≤ z) (h2 : z < 2147483648) : (Int32.ofInt z).toInt = z := by
  rw [Int32.toInt_ofInt, fb_bmod h1 h2]
theorem fb_asI (x : Int32) : Int32.ofInt x.toInt = x := Int32.ofInt_toInt x
theorem fb_rngL (x : Int64) : -9223372036854775808 ≤ x.toInt ∧ x.toInt < 9223372036854775808 := by
  have h1 := Int64.le_toInt x
  have h2 := Int64.toInt_lt x
  omega
theorem fb_bmodL {z : Int} (h1 : -9223372036854775808 ≤ z) (h2 : z < 9223372036854775808) : z.bmod (2 ^ 64) = z := by
  rw [Int.bmod_eq_of_le (by omega) (by omega)]
theorem fb_addL {x y : Int64} (h1 : -9223372036854775808 ≤ x.toInt + y.toInt) (h2 : x.toInt + y.toInt < 9223372036854775808) : (x + y).toInt = x.toInt + y.toInt := by
  rw [Int64.toInt_add, fb_bmodL h1 h2]
theorem fb_subL {x y : Int64} (h1 : -9223372036854775808 ≤ x.toInt - y.toInt) (h2 : x.toInt - y.toInt < 9223372036854775808) : (x - y).toInt = x.toInt - y.toInt := by
  rw [Int64.toInt_sub, fb_bmodL h1 h2]
theorem fb_mulL {x y : Int64} (h1 : -9223372036854775808 ≤ x.toInt * y.toInt) (h2 : x.toInt * y.toInt < 9223372036854775808) : (x * y).toInt = x.toInt * y.toInt := by
  rw [Int64.toInt_mul, fb_bmodL h1 h2]
/-! ===== cuts of what is narrow already ===== -/
theorem fb_byte {x : Int32} (h1 : -128 ≤ x.toInt) (h2 : x.toInt < 128) : x.toInt8.toInt32 = x := by
  apply Int32.toInt_inj.1
  rw [Int8.toInt_toInt32, Int32.toInt_toInt8, Int.bmod_eq_of_le (by omega) (by omega)]
theorem fb_short {x : Int32} (h1 : -32768 ≤ x.toInt) (h2 : x.toInt < 32768) : x.toInt16.toInt32 = x := by
  apply Int32.toInt_inj.1
  rw [Int16.toInt_toInt32, Int32.toInt_toInt16, Int.bmod_eq_of_le (by omega) (by omega)]
theorem fb_byte_rng (x : Int32) : -128 ≤ x.toInt8.toInt32.toInt ∧ x.toInt8.toInt32.toInt < 128 := by
  rw [Int8.toInt_toInt32]
  have h1 := Int8.le_toInt x.toInt8
  have h2 := Int8.toInt_lt x.toInt8
  omega
theorem fb_short_rng (x : Int32) : -32768 ≤ x.toInt16.toInt32.toInt ∧ x.toInt16.toInt32.toInt < 32768 := by
  rw [Int16.toInt_toInt32]
  have h1 := Int16.le_toInt x.toInt16
  have h2 := Int16.toInt_lt x.toInt16
  omega
theorem fb_byte_twice (x : Int32) : x.toInt8.toInt32.toInt8.toInt32 = x.toInt8.toInt32 := fb_byte (fb_byte_rng x).1 (fb_byte_rng x).2
theorem fb_short_twice (x : Int32) : x.toInt16.toInt32.toInt16.toInt32 = x.toInt16.toInt32 := fb_short (fb_short_rng x).1 (fb_short_rng x).2
theorem fb_char {n : Nat} (h : n < 65536) : (nI n).toUInt32.toUInt16.toUInt32.toInt32 = nI n := by
  apply Int32.toBitVec_inj.1
  apply BitVec.eq_of_toNat_eq
  have e1 : (nI n).toBitVec.toNat = n := by
    show (BitVec.ofNat 32 n).toNat = n
    rw [BitVec.toNat_ofNat, Nat.mod_eq_of_lt (by omega)]
  have e2 : ((nI n).toUInt32.toUInt16.toUInt32).toNat = n := by
    rw [UInt16.toNat_toUInt32, UInt32.toNat_toUInt16]
    show (nI n).toBitVec.toNat % 2 ^ 16 = n
    rw [e1, Nat.mod_eq_of_lt (by omega)]
  rw [e1]
  exact e2
/-! ===== Int32 by its bits: bt x i ===== -/
def bt (x : Int32) (i : Nat) : Bool := x.toBitVec.getLsbD i
theorem b_ext {x y : Int32} (h : ∀ i, i < 32 → bt x i = bt y i) : x = y := Int32.toBitVec_inj.mp (BitVec.eq_of_getLsbD_eq (fun i hi => h i hi))
theorem b_or (x y : Int32) (i : Nat) : bt (x ||| y) i = (bt x i || bt y i) := by unfold bt; rw [Int32.toBitVec_or, BitVec.getLsbD_or]
theorem b_and (x y : Int32) (i : Nat) : bt (x &&& y) i = (bt x i && bt y i) := by unfold bt; rw [Int32.toBitVec_and, BitVec.getLsbD_and]
theorem b_xor (x y : Int32) (i : Nat) : bt (x ^^^ y) i = (bt x i ^^ bt y i) := by unfold bt; rw [Int32.toBitVec_xor, BitVec.getLsbD_xor]
theorem b_big {x : Int32} {i : Nat} (h : 32 ≤ i) : bt x i = false := BitVec.getLsbD_of_ge _ _ h
theorem b_255 (i : Nat) : bt 255 i = decide (i < 8) := by
  rcases Nat.lt_or_ge i 32 with h | h
  · exact (by decide +kernel : ∀ i, i < 32 → bt 255 i = decide (i < 8)) i h
  · rw [b_big h, decide_eq_false (by omega)]
theorem b_65535 (i : Nat) : bt 65535 i = decide (i < 16) := by
  rcases Nat.lt_or_ge i 32 with h | h
  · exact (by decide +kernel : ∀ i, i < 32 → bt 65535 i = decide (i < 16)) i h
  · rw [b_big h, decide_eq_false (by omega)]
theorem b_m1 : ∀ i, i < 32 → bt (-1) i = true := by decide +kernel
theorem b_0 (i : Nat) : bt 0 i = false := BitVec.getLsbD_zero
theorem s_l : ∀ n, n < 32 → ((nI n &&& 31).toBitVec.smod 32).toNat = n := by decide +kernel
theorem s_u : ∀ n, n < 32 → (((nI n).toUInt32 &&& Int32.toUInt32 31).toBitVec % 32).toNat = n := by decide +kernel
theorem b_shl (n : Nat) (hn : n < 32) (x : Int32) {i : Nat} (hi : i < 32) : bt (x <<< (nI n &&& 31)) i = (decide (n ≤ i) && bt x (i - n)) := by
  unfold bt
  rw [Int32.toBitVec_shiftLeft]
  show (x.toBitVec <<< ((nI n &&& 31).toBitVec.smod 32).toNat).getLsbD i = _
  rw [s_l n hn, BitVec.getLsbD_shiftLeft]
  rcases Nat.lt_or_ge i n with h | h
  · simp [h, Nat.not_le.mpr h]
  · simp [hi, h, Nat.not_lt.mpr h]
theorem b_ushr (n : Nat) (hn : n < 32) (x : Int32) (i : Nat) : bt ((x.toUInt32 >>> ((nI n).toUInt32 &&& Int32.toUInt32 31)).toInt32) i = bt x (n + i) := by
  show (x.toUInt32 >>> ((nI n).toUInt32 &&& Int32.toUInt32 31)).toBitVec.getLsbD i = x.toUInt32.toBitVec.getLsbD (n + i)
  rw [UInt32.toBitVec_shiftRight]
  show (x.toUInt32.toBitVec >>> (((nI n).toUInt32 &&& Int32.toUInt32 31).toBitVec % 32).toNat).getLsbD i = _
  rw [s_u n hn, BitVec.getLsbD_ushiftRight]
theorem b_sshr (n : Nat) (hn : n < 32) (x : Int32) {i : Nat} (hi : i < 32) : bt (x >>> (nI n &&& 31)) i = if n + i < 32 then bt x (n + i) else bt x 31 := by
  unfold bt
  rw [Int32.toBitVec_shiftRight]
  show (x.toBitVec.sshiftRight ((nI n &&& 31).toBitVec.smod 32).toNat).getLsbD i = _
  rw [s_l n hn, BitVec.getLsbD_sshiftRight, BitVec.msb_eq_getLsbD_last]
  simp [hi]
theorem b_shl8 (x : Int32) {i : Nat} (hi : i < 32) : bt (x <<< ((8 : Int32) &&& 31)) i = (decide (8 ≤ i) && bt x (i - 8)) := b_shl 8 (by omega) x hi
theorem b_shl16 (x : Int32) {i : Nat} (hi : i < 32) : bt (x <<< ((16 : Int32) &&& 31)) i = (decide (16 ≤ i) && bt x (i - 16)) := b_shl 16 (by omega) x hi
theorem b_shl24 (x : Int32) {i : Nat} (hi : i < 32) : bt (x <<< ((24 : Int32) &&& 31)) i = (decide (24 ≤ i) && bt x (i - 24)) := b_shl 24 (by omega) x hi
theorem b_sshr8 (x : Int32) {i : Nat} (hi : i < 32) : bt (x >>> ((8 : Int32) &&& 31)) i = if 8 + i < 32 then bt x (8 + i) else bt x 31 := b_sshr 8 (by omega) x hi
/-! ===== nI under and, xor, >>>, one bit, 65535 ===== -/
theorem nx_and (a b : Nat) : nI a &&& nI b = nI (a &&& b) := by
  apply Int32.toBitVec_inj.1
  show BitVec.ofNat 32 a &&& BitVec.ofNat 32 b = BitVec.ofNat 32 (a &&& b)
  apply BitVec.eq_of_getLsbD_eq
  intro i hi
  simp [hi]
theorem nx_xor (a b : Nat) : nI a ^^^ nI b = nI (a ^^^ b) := by
  apply Int32.toBitVec_inj.1
  show BitVec.ofNat 32 a ^^^ BitVec.ofNat 32 b = BitVec.ofNat 32 (a ^^^ b)
  apply BitVec.eq_of_getLsbD_eq
  intro i hi
  simp [hi]
theorem nx_cnt : ∀ j : Fin 32, (UInt32.ofNat j.val &&& Int32.toUInt32 31).toNat % 32 = j.val := by decide +kernel
theorem nx_ush {k j : Nat} (hk : k < 65536) (hj : j < 32) : ((nI k).toUInt32 >>> ((nI j).toUInt32 &&& Int32.toUInt32 31)).toInt32 = nI (k >>> j) := by
  have hs : k >>> j ≤ k := by
    rw [Nat.shiftRight_eq_div_pow]
    exact Nat.div_le_self _ _
  have e2 : UInt32.ofNat k >>> (UInt32.ofNat j &&& Int32.toUInt32 31) = UInt32.ofNat (k >>> j) := by
    apply UInt32.toNat_inj.1
    have h1 : (UInt32.ofNat k).toNat = k := Nat.mod_eq_of_lt (by omega)
    have h2 : (UInt32.ofNat (k >>> j)).toNat = k >>> j := Nat.mod_eq_of_lt (by omega)
    rw [UInt32.toNat_shiftRight, nx_cnt ⟨j, hj⟩, h1, h2]
  show (UInt32.ofNat k >>> (UInt32.ofNat j &&& Int32.toUInt32 31)).toInt32 = _
  rw [e2]
  rfl
theorem nx_bit {k j : Nat} (hk : k < 65536) (hj : j < 16) : (((nI k).toUInt32 >>> ((nI j).toUInt32 &&& Int32.toUInt32 31)).toInt32 &&& 1) = 0 ↔ k.testBit j = false := by
  rw [nx_ush hk (by omega)]
  show nI (k >>> j) &&& nI 1 = 0 ↔ _
  rw [nx_and, Nat.and_one_is_mod, ← nI_0, nI_eq (by omega) (by omega), Nat.testBit_eq_decide_div_mod_eq, Nat.shiftRight_eq_div_pow, decide_eq_false_iff_not]
  generalize k / 2 ^ j = z
  omega
theorem nx_mod (k : Nat) : nI k &&& 65535 = nI (k % 65536) := by
  show nI k &&& nI 65535 = _
  rw [nx_and, show (65535 : Nat) = 2 ^ 16 - 1 from rfl, Nat.and_two_pow_sub_one_eq_mod]
theorem nx_m16 {k : Nat} (h : k < 65536) : nI k &&& 65535 = nI k := by rw [nx_mod, Nat.mod_eq_of_lt h]
theorem nx_mask (x : Int32) : ∃ k, k < 65536 ∧ x &&& 65535 = nI k := by
  have e : x = nI x.toBitVec.toNat := by
    apply Int32.toBitVec_inj.1
    show x.toBitVec = BitVec.ofNat 32 x.toBitVec.toNat
    simp
  refine ⟨x.toBitVec.toNat % 65536, Nat.mod_lt _ (by omega), ?_⟩
  rw [← nx_mod, ← e]
end
section
/-! numbers: nI, bits, first places -/
theorem dz_inI {x : Int32} {k n : Nat} (hx : x = nI n) (hk : k < n) (hn : n < 2 ^ 31) : 0 ≤ nI k ∧ nI k < x := by
  subst hx
  exact ⟨nI_pos' (Nat.lt_trans hk hn), nI_lt hk hn⟩
theorem dz_ofI {v x : Int32} {n : Nat} (hx : x = nI n) (hn : n < 2 ^ 31) (h : 0 ≤ v ∧ v < x) : ∃ k, k < n ∧ v = nI k := by
  subst hx
  rcases pk_ix v hn with h1 | h1 | h1
  · exact absurd h1 (Int32.not_lt.mpr h.1)
  · exact absurd h.2 (Int32.not_lt.mpr h1)
  · exact h1
theorem dz_tb (x d : Nat) : x.testBit d = decide (x / 2 ^ d % 2 = 1) := Nat.testBit_eq_decide_div_mod_eq
theorem dz_sh {x d : Nat} (hx : x < 2 ^ 31) (hd : d < 31) : nI x >>> (nI d &&& 31) = nI (x / 2 ^ d) := pk_shrN hx _ d (s_l d (by omega))
theorem dz_hb {x d : Nat} (hx : x < 2 ^ 31) (hd : d < 31) : (nI x >>> (nI d &&& 31)) &&& nI 1 = nI (x / 2 ^ d % 2) := by
  rw [dz_sh hx hd]
  exact fa_mask (x / 2 ^ d) 1
theorem dz_hb0 {x d : Nat} (hx : x < 2 ^ 31) (hd : d < 31) : ((nI x >>> (nI d &&& 31)) &&& nI 1) = 0 ↔ x.testBit d = false := by
  rw [dz_hb hx hd, dz_tb, decide_eq_false_iff_not]
  have h2 : x / 2 ^ d % 2 < 2 := Nat.mod_lt _ (by decide)
  rw [← nI_0, nI_eq (by omega) (by decide)]
  omega
theorem dz_s1 {d : Nat} (hd : d < 31) : nI 1 <<< (nI d &&& 31) = nI (2 ^ d) := by
  have h : (1 : Nat) * 2 ^ d < 2 ^ 32 := by
    rw [Nat.one_mul]; exact Nat.pow_lt_pow_right (by decide) (by omega)
  rw [pk_shlN _ d (s_l d (by omega)) h, Nat.one_mul]
theorem dz_p31 {d : Nat} (hd : d < 31) : 2 ^ d < 2 ^ 31 := Nat.pow_lt_pow_right (by decide) hd
theorem dz_or_add {a d : Nat} (h : a < 2 ^ d) : a ||| 2 ^ d = a + 2 ^ d := by
  rw [Nat.or_comm, Nat.add_comm]
  have := Nat.two_pow_add_eq_or_of_lt h 1
  simpa using this.symm
/-- the sum of the powers of two of the places where p holds -/
def dz_bits (p : Nat → Bool) : Nat → Nat
  | 0 => 0
  | n + 1 => dz_bits p n + if p n then 2 ^ n else 0
theorem dz_bits_lt (p : Nat → Bool) : ∀ n, dz_bits p n < 2 ^ n
  | 0 => Nat.zero_lt_one
  | n + 1 => by
    have ih := dz_bits_lt p n
    unfold dz_bits
    rw [Nat.pow_succ]
    split <;> omega
theorem dz_bits_cong {p q : Nat → Bool} : ∀ {n : Nat}, (∀ k, k < n → p k = q k) → dz_bits p n = dz_bits q n
  | 0, _ => rfl
  | n + 1, h => by unfold dz_bits; rw [dz_bits_cong (fun k hk => h k (by omega)), h n (by omega)]
theorem dz_bits_tb (p : Nat → Bool) : ∀ (n i : Nat), (dz_bits p n).testBit i = (decide (i < n) && p i)
  | 0, i => by simp [dz_bits]
  | n + 1, i => by
    have ih := dz_bits_tb p n i
    have hl := dz_bits_lt p n
    unfold dz_bits
    by_cases hp : p n = true
    · rw [if_pos hp, ← dz_or_add hl, fb_bit_set, ih]
      by_cases h1 : i = n
      · subst h1; simp [hp]
      · by_cases h2 : i < n
        · simp [h1, h2, Nat.lt_succ_of_lt h2]
        · simp [h1, h2, show ¬ i < n + 1 by omega]
    · rw [if_neg hp, Nat.add_zero, ih]
      by_cases h1 : i = n
      · subst h1; simp [hp]
      · by_cases h2 : i < n
        · simp [h2, Nat.lt_succ_of_lt h2]
        · simp [h2, show ¬ i < n + 1 by omega]
theorem dz_bits_of {x n : Nat} (h : x < 2 ^ n) : dz_bits (fun i => x.testBit i) n = x := by
  apply Nat.eq_of_testBit_eq
  intro i
  rw [dz_bits_tb]
  by_cases hi : i < n
  · simp [hi]
  · rw [Nat.testBit_lt_two_pow (Nat.lt_of_lt_of_le h (Nat.pow_le_pow_right (by decide) (by omega)))]; simp [hi]
theorem dz_bits_ext {x y n : Nat} (hx : x < 2 ^ n) (hy : y < 2 ^ n) (h : ∀ i, i < n → x.testBit i = y.testBit i) : x = y := by
  rw [← dz_bits_of hx, ← dz_bits_of hy]
  exact dz_bits_cong h
/-- the first of n places where p holds, or -1 -/
def dz_find (p : Nat → Bool) (n : Nat) : Int32 := if fa_first p n < n then nI (fa_first p n) else -1
theorem dz_first_eq {p : Nat → Bool} {n i : Nat} (hi : i < n) (hp : p i = true) (hl : ∀ j, j < i → p j = false) : fa_first p n = i := by
  have h1 := fa_first_no p n
  have h2 := fa_first_yes p n
  have h3 := fa_first_le p n
  rcases Nat.lt_trichotomy (fa_first p n) i with h | h | h
  · have := h2 (by omega)
    rw [hl _ h] at this
    cases this
  · exact h
  · have := h1 i h
    rw [hp] at this
    cases this
theorem dz_find_s {p : Nat → Bool} {n i : Nat} (hi : i < n) (hp : p i = true) (hl : ∀ j, j < i → p j = false) : dz_find p n = nI i := by
  unfold dz_find
  rw [dz_first_eq hi hp hl, if_pos hi]
theorem dz_find_n {p : Nat → Bool} {n : Nat} (hl : ∀ j, j < n → p j = false) : dz_find p n = -1 := by
  unfold dz_find
  rw [if_neg]
  intro h
  have := fa_first_yes p n h
  rw [hl _ h] at this
  cases this
theorem dz_find_cong {p q : Nat → Bool} {n : Nat} (h : ∀ k, k < n → p k = q k) : dz_find p n = dz_find q n := by
  by_cases hx : ∃ i, i < n ∧ p i = true
  · obtain ⟨i, hi, hp, hl⟩ := fb_first (p := fun i => p i = true) hx
    rw [dz_find_s hi hp (fun j hj => by simpa using hl j hj), dz_find_s hi (by rw [← h i hi]; exact hp) (fun j hj => by rw [← h j (by omega)]; simpa using hl j hj)]
  · have h1 : ∀ j, j < n → p j = false := fun j hj => by
      cases hq : p j with
      | false => rfl
      | true => exact absurd ⟨j, hj, hq⟩ hx
    rw [dz_find_n h1, dz_find_n (fun j hj => by rw [← h j hj]; exact h1 j hj)]
/-- the sum of n int32s -/
def dz_sumI (f : Nat → Int32) : Nat → Int32
  | 0 => 0
  | n + 1 => dz_sumI f n + f n
theorem dz_sumI_cong {f g : Nat → Int32} : ∀ {n : Nat}, (∀ k, k < n → f k = g k) → dz_sumI f n = dz_sumI g n
  | 0, _ => rfl
  | n + 1, h => by unfold dz_sumI; rw [dz_sumI_cong (fun k hk => h k (by omega)), h n (by omega)]
theorem dz_m1n {n : Nat} (h : n < 2 ^ 31) : ¬ (nI n = -1) := by
  intro e
  have := congrArg Int32.toInt e
  rw [nI_toInt h] at this
  have h2 : (-1 : Int32).toInt = -1 := by decide
  rw [h2] at this
  omega
section DZR2
variable {π : dz_Pl} {Λ : Nat → dz_Ds} {N own : Nat} {μ : dz_Mu} {F Lc : Nat} {post : Option dz_AV → dz_MI → dz_MJ → Prop} {V : dz_Vt} {I : dz_MI} {J : dz_MJ} {ls : dz_LS} {st : List dz_AV}
theorem dn_icmp_ge (pc : Nat) (hV : dz_Clo π Λ N own μ F Lc post V) {a b : Nat} {off : Int} {tgt : Nat} (d : decode μ.2.1 pc = .ok (.if_icmp .ge off, 3)) (ht : (pc : Int) + off = (tgt : Int)) (ha : a < 2 ^ 31) (hb : b < 2 ^ 31) (kt : b ≤ a → V tgt I J ls st) (kf : a < b → V (pc + 3) I J ls st) : V pc I J ls (.inl (nI b) :: .inl (nI a) :: st) := dr_icmp_ge pc hV d ht (fun h => kt ((nI_leI hb ha).mp h)) (fun h => kf (Nat.not_le.mp (fun q => h ((nI_leI hb ha).mpr q))))
theorem dn_icmp_gt (pc : Nat) (hV : dz_Clo π Λ N own μ F Lc post V) {a b : Nat} {off : Int} {tgt : Nat} (d : decode μ.2.1 pc = .ok (.if_icmp .gt off, 3)) (ht : (pc : Int) + off = (tgt : Int)) (ha : a < 2 ^ 31) (hb : b < 2 ^ 31) (kt : b < a → V tgt I J ls st) (kf : a ≤ b → V (pc + 3) I J ls st) : V pc I J ls (.inl (nI b) :: .inl (nI a) :: st) := dr_icmp_gt pc hV d ht (fun h => kt ((nI_ltI hb ha).mp h)) (fun h => kf (Nat.not_lt.mp (fun q => h ((nI_ltI hb ha).mpr q))))
theorem dn_icmp_lt (pc : Nat) (hV : dz_Clo π Λ N own μ F Lc post V) {a b : Nat} {off : Int} {tgt : Nat} (d : decode μ.2.1 pc = .ok (.if_icmp .lt off, 3)) (ht : (pc : Int) + off = (tgt : Int)) (ha : a < 2 ^ 31) (hb : b < 2 ^ 31) (kt : a < b → V tgt I J ls st) (kf : b ≤ a → V (pc + 3) I J ls st) : V pc I J ls (.inl (nI b) :: .inl (nI a) :: st) := dr_icmp_lt pc hV d ht (fun h => kt ((nI_ltI ha hb).mp h)) (fun h => kf (Nat.not_lt.mp (fun q => h ((nI_ltI ha hb).mpr q))))
theorem dn_icmp_le (pc : Nat) (hV : dz_Clo π Λ N own μ F Lc post V) {a b : Nat} {off : Int} {tgt : Nat} (d : decode μ.2.1 pc = .ok (.if_icmp .le off, 3)) (ht : (pc : Int) + off = (tgt : Int)) (ha : a < 2 ^ 31) (hb : b < 2 ^ 31) (kt : a ≤ b → V tgt I J ls st) (kf : b < a → V (pc + 3) I J ls st) : V pc I J ls (.inl (nI b) :: .inl (nI a) :: st) := dr_icmp_le pc hV d ht (fun h => kt ((nI_leI ha hb).mp h)) (fun h => kf (Nat.not_le.mp (fun q => h ((nI_leI ha hb).mpr q))))
theorem dn_icmp_eq (pc : Nat) (hV : dz_Clo π Λ N own μ F Lc post V) {a b : Nat} {off : Int} {tgt : Nat} (d : decode μ.2.1 pc = .ok (.if_icmp .eq off, 3)) (ht : (pc : Int) + off = (tgt : Int)) (ha : a < 2 ^ 31) (hb : b < 2 ^ 31) (kt : a = b → V tgt I J ls st) (kf : ¬ a = b → V (pc + 3) I J ls st) : V pc I J ls (.inl (nI b) :: .inl (nI a) :: st) := dr_icmp_eq pc hV d ht (fun h => kt ((nI_eq ha hb).mp h)) (fun h => kf (fun q => h ((nI_eq ha hb).mpr q)))
theorem dn_icmp_ne (pc : Nat) (hV : dz_Clo π Λ N own μ F Lc post V) {a b : Nat} {off : Int} {tgt : Nat} (d : decode μ.2.1 pc = .ok (.if_icmp .ne off, 3)) (ht : (pc : Int) + off = (tgt : Int)) (ha : a < 2 ^ 31) (hb : b < 2 ^ 31) (kt : ¬ a = b → V tgt I J ls st) (kf : a = b → V (pc + 3) I J ls st) : V pc I J ls (.inl (nI b) :: .inl (nI a) :: st) := dr_icmp_ne pc hV d ht (fun h => kt (fun q => h ((nI_eq ha hb).mpr q))) (fun h => kf ((nI_eq ha hb).mp h))
end DZR2
end
section
/-! LAYOUTS: the yard (cells 0 .. 61), the model (cells 0 .. 23) -/
def dz_Y : Nat → dz_Ds := fun c => match c with
  | 0 => .inl (4, [some (some 1), some (some 2), some (some 3), some (some 4), none, none, none, none])
  | 1 => .inl (1, [some (some 5), some (some 6), none, none])
  | 2 => .inl (0, [some (some 7), some (some 8), some (some 9), some (some 10), some (some 11), some (some 12), none, none])
  | 3 => .inl (3, [some (some 13), some (some 14)])
  | 4 => .inl (2, [some (some 15), some (some 16), some (some 17), some (some 18), some (some 19), some (some 20), some (some 21), some (some 22), some (some 23), none, none, some none])
  | 5 => .inr (3, 10, 24)
  | 6 => .inr (0, 9, 0)
  | 7 => .inr (0, 4, 0)
  | 8 => .inr (0, 4, 0)
  | 9 => .inr (0, 4, 0)
  | 10 => .inr (0, 4, 0)
  | 11 => .inr (0, 8, 0)
  | 12 => .inr (0, 4, 0)
  | 13 => .inr (0, 8, 0)
  | 14 => .inr (0, 8, 0)
  | 15 => .inr (0, 8, 0)
  | 16 => .inr (2, 8, 0)
  | 17 => .inr (0, 11, 0)
  | 18 => .inr (0, 8, 0)
  | 19 => .inr (0, 8, 0)
  | 20 => .inr (4, 9, 34)
  | 21 => .inr (3, 9, 43)
  | 22 => .inr (0, 9, 0)
  | 23 => .inr (3, 10, 52)
  | c => if c < 34 then .inr (0, 9, 0) else if c < 43 then .inr (1, 11264, 0) else if c < 52 then .inr (0, 6144, 0) else .inr (0, 9, 0)
def dz_M : Nat → dz_Ds := fun c => match c with
  | 0 => .inl (5, [none, none, none, none, none, none, none, none, some (some 1), some (some 2), some (some 3), some (some 4), some (some 5), some (some 6), some (some 7), some (some 8), some (some 9), some (some 10), some (some 11), some (some 12), some (some 13), some (some 14), some (some 15), some (some 16), some (some 17), some (some 18), some (some 19), some (some 20), some (some 21), some (some 22), some (some 23)])
  | 1 => .inr (0, 4, 0)
  | 2 => .inr (0, 10, 0)
  | 3 => .inr (0, 10, 0)
  | 4 => .inr (0, 10, 0)
  | 5 => .inr (0, 10, 0)
  | 6 => .inr (0, 10, 0)
  | 7 => .inr (0, 10, 0)
  | 8 => .inr (0, 10, 0)
  | 9 => .inr (0, 10, 0)
  | 10 => .inr (0, 10, 0)
  | 11 => .inr (0, 4, 0)
  | 12 => .inr (0, 4, 0)
  | 13 => .inr (0, 4, 0)
  | 14 => .inr (0, 4, 0)
  | 15 => .inr (0, 8, 0)
  | 16 => .inr (0, 8, 0)
  | 17 => .inr (2, 80, 0)
  | 18 => .inr (0, 101376, 0)
  | 19 => .inr (1, 101376, 0)
  | 20 => .inr (1, 101376, 0)
  | 21 => .inr (1, 88, 0)
  | 22 => .inr (0, 8, 0)
  | _ => .inr (0, 4, 0)
theorem dz_Y_f {i : Nat} (h : i < 10) : dz_Y (24 + i) = .inr (0, 9, 0) := by
  rcases (show i = 0 ∨ i = 1 ∨ i = 2 ∨ i = 3 ∨ i = 4 ∨ i = 5 ∨ i = 6 ∨ i = 7 ∨ i = 8 ∨ i = 9 by omega) with rfl | rfl | rfl | rfl | rfl | rfl | rfl | rfl | rfl | rfl <;> rfl
theorem dz_Y_b {i : Nat} (h : i < 9) : dz_Y (34 + i) = .inr (1, 11264, 0) := by
  rcases (show i = 0 ∨ i = 1 ∨ i = 2 ∨ i = 3 ∨ i = 4 ∨ i = 5 ∨ i = 6 ∨ i = 7 ∨ i = 8 by omega) with rfl | rfl | rfl | rfl | rfl | rfl | rfl | rfl | rfl <;> rfl
theorem dz_Y_r {i : Nat} (h : i < 9) : dz_Y (43 + i) = .inr (0, 6144, 0) := by
  rcases (show i = 0 ∨ i = 1 ∨ i = 2 ∨ i = 3 ∨ i = 4 ∨ i = 5 ∨ i = 6 ∨ i = 7 ∨ i = 8 by omega) with rfl | rfl | rfl | rfl | rfl | rfl | rfl | rfl | rfl <;> rfl
theorem dz_Y_w {i : Nat} (h : i < 10) : dz_Y (52 + i) = .inr (0, 9, 0) := by
  rcases (show i = 0 ∨ i = 1 ∨ i = 2 ∨ i = 3 ∨ i = 4 ∨ i = 5 ∨ i = 6 ∨ i = 7 ∨ i = 8 ∨ i = 9 by omega) with rfl | rfl | rfl | rfl | rfl | rfl | rfl | rfl | rfl | rfl <;> rfl
theorem dz_pu1 {P : Prop} {hd : Decidable P} {I : dz_MI} {J : dz_MJ} (h : P) : dz_Pu (.inl (dz_b P)) I J (some (.inl (nI 1))) I J := ⟨by rw [dz_b1 h]; rfl, rfl, rfl⟩
theorem dz_pu0 {P : Prop} {hd : Decidable P} {I : dz_MI} {J : dz_MJ} (h : ¬ P) : dz_Pu (.inl (dz_b P)) I J (some (.inl (nI 0))) I J := ⟨by rw [dz_bf h]; rfl, rfl, rfl⟩
theorem dz_pub {P Q : Prop} {hp : Decidable P} {hq : Decidable Q} {I : dz_MI} {J : dz_MJ} (h : P ↔ Q) : dz_Pu (.inl (dz_b Q)) I J (some (.inl (dz_b P))) I J := ⟨by rw [dz_bc h], rfl, rfl⟩
theorem dz_pu {v : dz_AV} {I : dz_MI} {J : dz_MJ} : dz_Pu v I J (some v) I J := ⟨rfl, rfl, rfl⟩
theorem dz_pue {x y : Int32} {I : dz_MI} {J : dz_MJ} (h : x = y) : dz_Pu (.inl y) I J (some (.inl x)) I J := ⟨by rw [h], rfl, rfl⟩
end
section
set_option maxRecDepth 100000 in
set_option maxHeartbeats 4000000 in
theorem c_X4_isWithin (π : dz_Pl) (Λ : Nat → dz_Ds) (N : Nat) (v a b : Int32) (I : dz_MI) (J : dz_MJ) : dz_Cl π Λ N mX4_isWithin 0 0 [.inl v, .inl a, .inl b] I J (dz_Pu (.inl (dz_b (a ≤ v ∧ v ≤ b))) I J) := by
  refine dz_body (own := 4) dz_mX4_isWithin rfl (Nat.le_of_ble_eq_true rfl) (fun V hV => ?_)
  refine dr_iload_n 0 hV dX4_isWithin_0 rfl ?_
  refine dr_iload_n 1 hV dX4_isWithin_1 rfl ?_
  refine dr_icmp_lt (tgt := 14) 2 hV dX4_isWithin_2 (by decide) (fun c2 => ?_) (fun c2 => ?_)
  · refine dr_iconst (v := nI 0) 14 hV dX4_isWithin_14 (by decide) ?_
    exact dr_iret 15 hV dX4_isWithin_15 rfl (by first | rfl | exact dz_bn) (by clear hV; first | exact dz_pu1 (by simp only [fa_lt, fa_le, fa_eq] at *; omega) | exact dz_pu0 (by simp only [fa_lt, fa_le, fa_eq] at *; omega))
  · refine dr_iload_n 5 hV dX4_isWithin_5 rfl ?_
    refine dr_iload_n 6 hV dX4_isWithin_6 rfl ?_
    refine dr_icmp_gt (tgt := 14) 7 hV dX4_isWithin_7 (by decide) (fun c7 => ?_) (fun c7 => ?_)
    · refine dr_iconst (v := nI 0) 14 hV dX4_isWithin_14 (by decide) ?_
      exact dr_iret 15 hV dX4_isWithin_15 rfl (by first | rfl | exact dz_bn) (by clear hV; first | exact dz_pu1 (by simp only [fa_lt, fa_le, fa_eq] at *; omega) | exact dz_pu0 (by simp only [fa_lt, fa_le, fa_eq] at *; omega))
    · refine dr_iconst (v := nI 1) 10 hV dX4_isWithin_10 (by decide) ?_
      refine dr_goto (tgt := 15) 11 hV dX4_isWithin_11 (by decide) ?_
      exact dr_iret 15 hV dX4_isWithin_15 rfl (by first | rfl | exact dz_bn) (by clear hV; first | exact dz_pu1 (by simp only [fa_lt, fa_le, fa_eq] at *; omega) | exact dz_pu0 (by simp only [fa_lt, fa_le, fa_eq] at *; omega))
set_option maxRecDepth 100000 in
set_option maxHeartbeats 4000000 in
theorem c_X5_isIn (π : dz_Pl) (Λ : Nat → dz_Ds) (N : Nat) (v a b : Int32) (I : dz_MI) (J : dz_MJ) : dz_Cl π Λ N mX5_isIn 0 0 [.inl v, .inl a, .inl b] I J (dz_Pu (.inl (dz_b (a ≤ v ∧ v ≤ b))) I J) := by
  refine dz_body (own := 5) dz_mX5_isIn rfl (Nat.le_of_ble_eq_true rfl) (fun V hV => ?_)
  refine dr_iload_n 0 hV dX5_isIn_0 rfl ?_
  refine dr_iload_n 1 hV dX5_isIn_1 rfl ?_
  refine dr_icmp_lt (tgt := 14) 2 hV dX5_isIn_2 (by decide) (fun c2 => ?_) (fun c2 => ?_)
  · refine dr_iconst (v := nI 0) 14 hV dX5_isIn_14 (by decide) ?_
    exact dr_iret 15 hV dX5_isIn_15 rfl (by first | rfl | exact dz_bn) (by clear hV; first | exact dz_pu1 (by simp only [fa_lt, fa_le, fa_eq] at *; omega) | exact dz_pu0 (by simp only [fa_lt, fa_le, fa_eq] at *; omega))
  · refine dr_iload_n 5 hV dX5_isIn_5 rfl ?_
    refine dr_iload_n 6 hV dX5_isIn_6 rfl ?_
    refine dr_icmp_gt (tgt := 14) 7 hV dX5_isIn_7 (by decide) (fun c7 => ?_) (fun c7 => ?_)
    · refine dr_iconst (v := nI 0) 14 hV dX5_isIn_14 (by decide) ?_
      exact dr_iret 15 hV dX5_isIn_15 rfl (by first | rfl | exact dz_bn) (by clear hV; first | exact dz_pu1 (by simp only [fa_lt, fa_le, fa_eq] at *; omega) | exact dz_pu0 (by simp only [fa_lt, fa_le, fa_eq] at *; omega))
    · refine dr_iconst (v := nI 1) 10 hV dX5_isIn_10 (by decide) ?_
      refine dr_goto (tgt := 15) 11 hV dX5_isIn_11 (by decide) ?_
      exact dr_iret 15 hV dX5_isIn_15 rfl (by first | rfl | exact dz_bn) (by clear hV; first | exact dz_pu1 (by simp only [fa_lt, fa_le, fa_eq] at *; omega) | exact dz_pu0 (by simp only [fa_lt, fa_le, fa_eq] at *; omega))
set_option maxRecDepth 100000 in
set_option maxHeartbeats 4000000 in
theorem c_X4_isWidth (π : dz_Pl) (Λ : Nat → dz_Ds) (N : Nat) (v : Int32) (I : dz_MI) (J : dz_MJ) : dz_Cl π Λ N mX4_isWidth 1 22 [.inl v] I J (dz_Pu (.inl (dz_b (nI 100 ≤ v ∧ v ≤ nI 3000))) I J) := by
  refine dz_body (own := 4) dz_mX4_isWidth rfl (Nat.le_of_ble_eq_true rfl) (fun V hV => ?_)
  refine dr_iload_n 0 hV dX4_isWidth_0 rfl ?_
  refine dr_bipush (v := nI 100) 1 hV dX4_isWidth_1 (by decide) ?_
  refine dr_sipush (v := nI 3000) 3 hV dX4_isWidth_3 (by decide) ?_
  refine dr_csp3 6 hV (Or.inl dz_lX4_55) dX4_isWidth_6 (by decide) (by decide) (Nat.le_of_ble_eq_true rfl) (c_X4_isWithin π _ _ _ _ _ _ _) ?_
  exact dr_iret 9 hV dX4_isWidth_9 rfl (by first | rfl | exact dz_bn) dz_pu
set_option maxRecDepth 100000 in
set_option maxHeartbeats 4000000 in
theorem c_X5_isWidth (π : dz_Pl) (Λ : Nat → dz_Ds) (N : Nat) (v : Int32) (I : dz_MI) (J : dz_MJ) : dz_Cl π Λ N mX5_isWidth 1 22 [.inl v] I J (dz_Pu (.inl (dz_b (nI 100 ≤ v ∧ v ≤ nI 3000))) I J) := by
  refine dz_body (own := 5) dz_mX5_isWidth rfl (Nat.le_of_ble_eq_true rfl) (fun V hV => ?_)
  refine dr_iload_n 0 hV dX5_isWidth_0 rfl ?_
  refine dr_bipush (v := nI 100) 1 hV dX5_isWidth_1 (by decide) ?_
  refine dr_sipush (v := nI 3000) 3 hV dX5_isWidth_3 (by decide) ?_
  refine dr_csp3 6 hV (Or.inl dz_lX5_95) dX5_isWidth_6 (by decide) (by decide) (Nat.le_of_ble_eq_true rfl) (c_X5_isIn π _ _ _ _ _ _ _) ?_
  exact dr_iret 9 hV dX5_isWidth_9 rfl (by first | rfl | exact dz_bn) dz_pu
set_option maxRecDepth 100000 in
set_option maxHeartbeats 4000000 in
theorem c_X0_has (π : dz_Pl) (v : Int32) (I : dz_MI) (J : dz_MJ) : dz_Cl π dz_Y 62 mX0_has 0 0 [.inr (.inr 2), .inl v] I J (dz_Pu (.inl (dz_b (0 ≤ v ∧ v < I 2 6))) I J) := by
  refine dz_body (own := 0) dz_mX0_has rfl (Nat.le_of_ble_eq_true rfl) (fun V hV => ?_)
  refine dr_iload_n 0 hV dX0_has_0 rfl ?_
  refine dr_if_lt (tgt := 16) 1 hV dX0_has_1 (by decide) (fun c1 => ?_) (fun c1 => ?_)
  · refine dr_iconst (v := nI 0) 16 hV dX0_has_16 (by decide) ?_
    exact dr_iret 17 hV dX0_has_17 rfl (by first | rfl | exact dz_bn) (by clear hV; first | exact dz_pu1 (by simp only [fa_lt, fa_le, fa_eq] at *; omega) | exact dz_pu0 (by simp only [fa_lt, fa_le, fa_eq] at *; omega))
  · refine dr_iload_n 4 hV dX0_has_4 rfl ?_
    refine dr_aload_n 5 hV dX0_has_5 rfl ?_
    refine dr_geti 6 hV dX0_has_6 (by decide) (by decide) rfl rfl rfl rfl ?_
    refine dr_icmp_ge (tgt := 16) 9 hV dX0_has_9 (by decide) (fun c9 => ?_) (fun c9 => ?_)
    · refine dr_iconst (v := nI 0) 16 hV dX0_has_16 (by decide) ?_
      exact dr_iret 17 hV dX0_has_17 rfl (by first | rfl | exact dz_bn) (by clear hV; first | exact dz_pu1 (by simp only [fa_lt, fa_le, fa_eq] at *; omega) | exact dz_pu0 (by simp only [fa_lt, fa_le, fa_eq] at *; omega))
    · refine dr_iconst (v := nI 1) 12 hV dX0_has_12 (by decide) ?_
      refine dr_goto (tgt := 17) 13 hV dX0_has_13 (by decide) ?_
      exact dr_iret 17 hV dX0_has_17 rfl (by first | rfl | exact dz_bn) (by clear hV; first | exact dz_pu1 (by simp only [fa_lt, fa_le, fa_eq] at *; omega) | exact dz_pu0 (by simp only [fa_lt, fa_le, fa_eq] at *; omega))
set_option maxRecDepth 100000 in
set_option maxHeartbeats 4000000 in
theorem c_X0_hasPlace (π : dz_Pl) (v : Int32) (I : dz_MI) (J : dz_MJ) : dz_Cl π dz_Y 62 mX0_hasPlace 0 0 [.inr (.inr 2), .inl v] I J (dz_Pu (.inl (dz_b (0 ≤ v ∧ v < I 2 7))) I J) := by
  refine dz_body (own := 0) dz_mX0_hasPlace rfl (Nat.le_of_ble_eq_true rfl) (fun V hV => ?_)
  refine dr_iload_n 0 hV dX0_hasPlace_0 rfl ?_
  refine dr_if_lt (tgt := 16) 1 hV dX0_hasPlace_1 (by decide) (fun c1 => ?_) (fun c1 => ?_)
  · refine dr_iconst (v := nI 0) 16 hV dX0_hasPlace_16 (by decide) ?_
    exact dr_iret 17 hV dX0_hasPlace_17 rfl (by first | rfl | exact dz_bn) (by clear hV; first | exact dz_pu1 (by simp only [fa_lt, fa_le, fa_eq] at *; omega) | exact dz_pu0 (by simp only [fa_lt, fa_le, fa_eq] at *; omega))
  · refine dr_iload_n 4 hV dX0_hasPlace_4 rfl ?_
    refine dr_aload_n 5 hV dX0_hasPlace_5 rfl ?_
    refine dr_geti 6 hV dX0_hasPlace_6 (by decide) (by decide) rfl rfl rfl rfl ?_
    refine dr_icmp_ge (tgt := 16) 9 hV dX0_hasPlace_9 (by decide) (fun c9 => ?_) (fun c9 => ?_)
    · refine dr_iconst (v := nI 0) 16 hV dX0_hasPlace_16 (by decide) ?_
      exact dr_iret 17 hV dX0_hasPlace_17 rfl (by first | rfl | exact dz_bn) (by clear hV; first | exact dz_pu1 (by simp only [fa_lt, fa_le, fa_eq] at *; omega) | exact dz_pu0 (by simp only [fa_lt, fa_le, fa_eq] at *; omega))
    · refine dr_iconst (v := nI 1) 12 hV dX0_hasPlace_12 (by decide) ?_
      refine dr_goto (tgt := 17) 13 hV dX0_hasPlace_13 (by decide) ?_
      exact dr_iret 17 hV dX0_hasPlace_17 rfl (by first | rfl | exact dz_bn) (by clear hV; first | exact dz_pu1 (by simp only [fa_lt, fa_le, fa_eq] at *; omega) | exact dz_pu0 (by simp only [fa_lt, fa_le, fa_eq] at *; omega))
set_option maxRecDepth 100000 in
set_option maxHeartbeats 4000000 in
theorem c_X1_has (π : dz_Pl) (v : Int32) (I : dz_MI) (J : dz_MJ) : dz_Cl π dz_Y 62 mX1_has 0 0 [.inr (.inr 1), .inl v] I J (dz_Pu (.inl (dz_b (0 ≤ v ∧ v < I 1 3))) I J) := by
  refine dz_body (own := 1) dz_mX1_has rfl (Nat.le_of_ble_eq_true rfl) (fun V hV => ?_)
  refine dr_iload_n 0 hV dX1_has_0 rfl ?_
  refine dr_if_lt (tgt := 16) 1 hV dX1_has_1 (by decide) (fun c1 => ?_) (fun c1 => ?_)
  · refine dr_iconst (v := nI 0) 16 hV dX1_has_16 (by decide) ?_
    exact dr_iret 17 hV dX1_has_17 rfl (by first | rfl | exact dz_bn) (by clear hV; first | exact dz_pu1 (by simp only [fa_lt, fa_le, fa_eq] at *; omega) | exact dz_pu0 (by simp only [fa_lt, fa_le, fa_eq] at *; omega))
  · refine dr_iload_n 4 hV dX1_has_4 rfl ?_
    refine dr_aload_n 5 hV dX1_has_5 rfl ?_
    refine dr_geti 6 hV dX1_has_6 (by decide) (by decide) rfl rfl rfl rfl ?_
    refine dr_icmp_ge (tgt := 16) 9 hV dX1_has_9 (by decide) (fun c9 => ?_) (fun c9 => ?_)
    · refine dr_iconst (v := nI 0) 16 hV dX1_has_16 (by decide) ?_
      exact dr_iret 17 hV dX1_has_17 rfl (by first | rfl | exact dz_bn) (by clear hV; first | exact dz_pu1 (by simp only [fa_lt, fa_le, fa_eq] at *; omega) | exact dz_pu0 (by simp only [fa_lt, fa_le, fa_eq] at *; omega))
    · refine dr_iconst (v := nI 1) 12 hV dX1_has_12 (by decide) ?_
      refine dr_goto (tgt := 17) 13 hV dX1_has_13 (by decide) ?_
      exact dr_iret 17 hV dX1_has_17 rfl (by first | rfl | exact dz_bn) (by clear hV; first | exact dz_pu1 (by simp only [fa_lt, fa_le, fa_eq] at *; omega) | exact dz_pu0 (by simp only [fa_lt, fa_le, fa_eq] at *; omega))
set_option maxRecDepth 100000 in
set_option maxHeartbeats 4000000 in
theorem c_X0_number (π : dz_Pl) (I : dz_MI) (J : dz_MJ) : dz_Cl π dz_Y 62 mX0_number 0 0 [.inr (.inr 2)] I J (dz_Pu (.inl (I 2 6)) I J) := by
  refine dz_body (own := 0) dz_mX0_number rfl (Nat.le_of_ble_eq_true rfl) (fun V hV => ?_)
  refine dr_aload_n 0 hV dX0_number_0 rfl ?_
  refine dr_geti 1 hV dX0_number_1 (by decide) (by decide) rfl rfl rfl rfl ?_
  exact dr_iret 4 hV dX0_number_4 rfl (by first | rfl | exact dz_bn) dz_pu
set_option maxRecDepth 100000 in
set_option maxHeartbeats 4000000 in
theorem c_X0_placeNumber (π : dz_Pl) (I : dz_MI) (J : dz_MJ) : dz_Cl π dz_Y 62 mX0_placeNumber 0 0 [.inr (.inr 2)] I J (dz_Pu (.inl (I 2 7)) I J) := by
  refine dz_body (own := 0) dz_mX0_placeNumber rfl (Nat.le_of_ble_eq_true rfl) (fun V hV => ?_)
  refine dr_aload_n 0 hV dX0_placeNumber_0 rfl ?_
  refine dr_geti 1 hV dX0_placeNumber_1 (by decide) (by decide) rfl rfl rfl rfl ?_
  exact dr_iret 4 hV dX0_placeNumber_4 rfl (by first | rfl | exact dz_bn) dz_pu
set_option maxRecDepth 100000 in
set_option maxHeartbeats 4000000 in
theorem c_X1_number (π : dz_Pl) (I : dz_MI) (J : dz_MJ) : dz_Cl π dz_Y 62 mX1_number 0 0 [.inr (.inr 1)] I J (dz_Pu (.inl (I 1 3)) I J) := by
  refine dz_body (own := 1) dz_mX1_number rfl (Nat.le_of_ble_eq_true rfl) (fun V hV => ?_)
  refine dr_aload_n 0 hV dX1_number_0 rfl ?_
  refine dr_geti 1 hV dX1_number_1 (by decide) (by decide) rfl rfl rfl rfl ?_
  exact dr_iret 4 hV dX1_number_4 rfl (by first | rfl | exact dz_bn) dz_pu
end
section
set_option maxRecDepth 100000 in
set_option maxHeartbeats 4000000 in
theorem c_X4_isWidthOrUntold (π : dz_Pl) (Λ : Nat → dz_Ds) (N : Nat) (v : Int32) (I : dz_MI) (J : dz_MJ) : dz_Cl π Λ N mX4_isWidthOrUntold 2 42 [.inl v] I J (dz_Pu (.inl (dz_b (v = 0 ∨ (nI 100 ≤ v ∧ v ≤ nI 3000)))) I J) := by
  refine dz_body (own := 4) dz_mX4_isWidthOrUntold rfl (Nat.le_of_ble_eq_true rfl) (fun V hV => ?_)
  refine dr_iload_n 0 hV dX4_isWidthOrUntold_0 rfl ?_
  first | refine dr_ifb_eq (tgt := 11) 1 hV dX4_isWidthOrUntold_1 (by decide) (fun c1 => ?_) (fun c1 => ?_) | refine dr_if_eq (tgt := 11) 1 hV dX4_isWidthOrUntold_1 (by decide) (fun c1 => ?_) (fun c1 => ?_)
  · refine dr_iconst (v := nI 1) 11 hV dX4_isWidthOrUntold_11 (by decide) ?_
    refine dr_goto (tgt := 16) 12 hV dX4_isWidthOrUntold_12 (by decide) ?_
    exact dr_iret 16 hV dX4_isWidthOrUntold_16 rfl (by first | rfl | exact dz_bn) (by clear hV; first | exact dz_pu1 (by simp only [fa_lt, fa_le, fa_eq] at *; omega) | exact dz_pu0 (by simp only [fa_lt, fa_le, fa_eq] at *; omega))
  · refine dr_iload_n 4 hV dX4_isWidthOrUntold_4 rfl ?_
    refine dr_csp1 5 hV (Or.inl dz_lX4_51) dX4_isWidthOrUntold_5 (by decide) (by decide) (Nat.le_of_ble_eq_true rfl) (c_X4_isWidth π _ _ _ _ _) ?_
    first | refine dr_ifb_eq (tgt := 15) 8 hV dX4_isWidthOrUntold_8 (by decide) (fun c8 => ?_) (fun c8 => ?_) | refine dr_if_eq (tgt := 15) 8 hV dX4_isWidthOrUntold_8 (by decide) (fun c8 => ?_) (fun c8 => ?_)
    · refine dr_iconst (v := nI 0) 15 hV dX4_isWidthOrUntold_15 (by decide) ?_
      exact dr_iret 16 hV dX4_isWidthOrUntold_16 rfl (by first | rfl | exact dz_bn) (by clear hV; first | exact dz_pu1 (by simp only [fa_lt, fa_le, fa_eq] at *; omega) | exact dz_pu0 (by simp only [fa_lt, fa_le, fa_eq] at *; omega))
    · refine dr_iconst (v := nI 1) 11 hV dX4_isWidthOrUntold_11 (by decide) ?_
      refine dr_goto (tgt := 16) 12 hV dX4_isWidthOrUntold_12 (by decide) ?_
      exact dr_iret 16 hV dX4_isWidthOrUntold_16 rfl (by first | rfl | exact dz_bn) (by clear hV; first | exact dz_pu1 (by simp only [fa_lt, fa_le, fa_eq] at *; omega) | exact dz_pu0 (by simp only [fa_lt, fa_le, fa_eq] at *; omega))
set_option maxRecDepth 100000 in
set_option maxHeartbeats 4000000 in
theorem c_X4_isHoles (π : dz_Pl) (Λ : Nat → dz_Ds) (N : Nat) (v : Int32) (I : dz_MI) (J : dz_MJ) : dz_Cl π Λ N mX4_isHoles 1 22 [.inl v] I J (dz_Pu (.inl (dz_b (nI 0 ≤ v ∧ v ≤ 65535))) I J) := by
  refine dz_body (own := 4) dz_mX4_isHoles rfl (Nat.le_of_ble_eq_true rfl) (fun V hV => ?_)
  refine dr_iload_n 0 hV dX4_isHoles_0 rfl ?_
  refine dr_iconst (v := nI 0) 1 hV dX4_isHoles_1 (by decide) ?_
  refine dr_ldc 2 hV dX4_isHoles_2 dz_kX4_176 ?_
  refine dr_csp3 4 hV (Or.inl dz_lX4_55) dX4_isHoles_4 (by decide) (by decide) (Nat.le_of_ble_eq_true rfl) (c_X4_isWithin π _ _ _ _ _ _ _) ?_
  exact dr_iret 7 hV dX4_isHoles_7 rfl (by first | rfl | exact dz_bn) dz_pu
set_option maxRecDepth 100000 in
set_option maxHeartbeats 4000000 in
theorem c_X4_hasBit (π : dz_Pl) (Λ : Nat → dz_Ds) (N : Nat) (x d : Int32) (I : dz_MI) (J : dz_MJ) : dz_Cl π Λ N mX4_hasBit 0 0 [.inl x, .inl d] I J (dz_Pu (.inl (dz_b (¬ ((x >>> (d &&& 31)) &&& nI 1 = 0)))) I J) := by
  refine dz_body (own := 4) dz_mX4_hasBit rfl (Nat.le_of_ble_eq_true rfl) (fun V hV => ?_)
  refine dr_iload_n 0 hV dX4_hasBit_0 rfl ?_
  refine dr_iload_n 1 hV dX4_hasBit_1 rfl ?_
  refine dr_ishr 2 hV dX4_hasBit_2 rfl ?_
  refine dr_iconst (v := nI 1) 3 hV dX4_hasBit_3 (by decide) ?_
  refine dr_iand 4 hV dX4_hasBit_4 rfl ?_
  first | refine dr_ifb_eq (tgt := 12) 5 hV dX4_hasBit_5 (by decide) (fun c5 => ?_) (fun c5 => ?_) | refine dr_if_eq (tgt := 12) 5 hV dX4_hasBit_5 (by decide) (fun c5 => ?_) (fun c5 => ?_)
  · refine dr_iconst (v := nI 0) 12 hV dX4_hasBit_12 (by decide) ?_
    exact dr_iret 13 hV dX4_hasBit_13 rfl (by first | rfl | exact dz_bn) (by clear hV; first | exact dz_pu1 c5 | exact dz_pu0 (fun h => h c5))
  · refine dr_iconst (v := nI 1) 8 hV dX4_hasBit_8 (by decide) ?_
    refine dr_goto (tgt := 13) 9 hV dX4_hasBit_9 (by decide) ?_
    exact dr_iret 13 hV dX4_hasBit_13 rfl (by first | rfl | exact dz_bn) (by clear hV; first | exact dz_pu1 c5 | exact dz_pu0 (fun h => h c5))
theorem c_hasBit (π : dz_Pl) (Λ : Nat → dz_Ds) (N : Nat) {x d : Nat} (I : dz_MI) (J : dz_MJ) (hx : x < 2 ^ 31) (hd : d < 31) : dz_Cl π Λ N mX4_hasBit 0 0 [.inl (nI x), .inl (nI d)] I J (dz_Pu (.inl (dz_b (x.testBit d = true))) I J) := (c_X4_hasBit π Λ N (nI x) (nI d) I J).mono (fun r I2 J2 h => by obtain ⟨rfl, rfl, rfl⟩ := h; exact dz_pub (by rw [dz_hb0 hx hd]; simp))
set_option maxRecDepth 100000 in
set_option maxHeartbeats 4000000 in
theorem c_X5_isDrum (π : dz_Pl) (v : Int32) (I : dz_MI) (J : dz_MJ) : dz_Cl π dz_M 24 mX5_isDrum 0 0 [.inr (.inr 0), .inl v] I J (dz_Pu (.inl (dz_b (0 ≤ v ∧ v < I 0 1))) I J) := by
  refine dz_body (own := 5) dz_mX5_isDrum rfl (Nat.le_of_ble_eq_true rfl) (fun V hV => ?_)
  refine dr_iload_n 0 hV dX5_isDrum_0 rfl ?_
  refine dr_if_lt (tgt := 16) 1 hV dX5_isDrum_1 (by decide) (fun c1 => ?_) (fun c1 => ?_)
  · refine dr_iconst (v := nI 0) 16 hV dX5_isDrum_16 (by decide) ?_
    exact dr_iret 17 hV dX5_isDrum_17 rfl (by first | rfl | exact dz_bn) (by clear hV; first | exact dz_pu1 (by simp only [fa_lt, fa_le, fa_eq] at *; omega) | exact dz_pu0 (by simp only [fa_lt, fa_le, fa_eq] at *; omega))
  · refine dr_iload_n 4 hV dX5_isDrum_4 rfl ?_
    refine dr_aload_n 5 hV dX5_isDrum_5 rfl ?_
    refine dr_geti 6 hV dX5_isDrum_6 (by decide) (by decide) rfl rfl rfl rfl ?_
    refine dr_icmp_ge (tgt := 16) 9 hV dX5_isDrum_9 (by decide) (fun c9 => ?_) (fun c9 => ?_)
    · refine dr_iconst (v := nI 0) 16 hV dX5_isDrum_16 (by decide) ?_
      exact dr_iret 17 hV dX5_isDrum_17 rfl (by first | rfl | exact dz_bn) (by clear hV; first | exact dz_pu1 (by simp only [fa_lt, fa_le, fa_eq] at *; omega) | exact dz_pu0 (by simp only [fa_lt, fa_le, fa_eq] at *; omega))
    · refine dr_iconst (v := nI 1) 12 hV dX5_isDrum_12 (by decide) ?_
      refine dr_goto (tgt := 17) 13 hV dX5_isDrum_13 (by decide) ?_
      exact dr_iret 17 hV dX5_isDrum_17 rfl (by first | rfl | exact dz_bn) (by clear hV; first | exact dz_pu1 (by simp only [fa_lt, fa_le, fa_eq] at *; omega) | exact dz_pu0 (by simp only [fa_lt, fa_le, fa_eq] at *; omega))
set_option maxRecDepth 100000 in
set_option maxHeartbeats 4000000 in
theorem c_X5_isColumn (π : dz_Pl) (v : Int32) (I : dz_MI) (J : dz_MJ) : dz_Cl π dz_M 24 mX5_isColumn 0 0 [.inr (.inr 0), .inl v] I J (dz_Pu (.inl (dz_b (0 ≤ v ∧ v < I 0 2))) I J) := by
  refine dz_body (own := 5) dz_mX5_isColumn rfl (Nat.le_of_ble_eq_true rfl) (fun V hV => ?_)
  refine dr_iload_n 0 hV dX5_isColumn_0 rfl ?_
  refine dr_if_lt (tgt := 16) 1 hV dX5_isColumn_1 (by decide) (fun c1 => ?_) (fun c1 => ?_)
  · refine dr_iconst (v := nI 0) 16 hV dX5_isColumn_16 (by decide) ?_
    exact dr_iret 17 hV dX5_isColumn_17 rfl (by first | rfl | exact dz_bn) (by clear hV; first | exact dz_pu1 (by simp only [fa_lt, fa_le, fa_eq] at *; omega) | exact dz_pu0 (by simp only [fa_lt, fa_le, fa_eq] at *; omega))
  · refine dr_iload_n 4 hV dX5_isColumn_4 rfl ?_
    refine dr_aload_n 5 hV dX5_isColumn_5 rfl ?_
    refine dr_geti 6 hV dX5_isColumn_6 (by decide) (by decide) rfl rfl rfl rfl ?_
    refine dr_icmp_ge (tgt := 16) 9 hV dX5_isColumn_9 (by decide) (fun c9 => ?_) (fun c9 => ?_)
    · refine dr_iconst (v := nI 0) 16 hV dX5_isColumn_16 (by decide) ?_
      exact dr_iret 17 hV dX5_isColumn_17 rfl (by first | rfl | exact dz_bn) (by clear hV; first | exact dz_pu1 (by simp only [fa_lt, fa_le, fa_eq] at *; omega) | exact dz_pu0 (by simp only [fa_lt, fa_le, fa_eq] at *; omega))
    · refine dr_iconst (v := nI 1) 12 hV dX5_isColumn_12 (by decide) ?_
      refine dr_goto (tgt := 17) 13 hV dX5_isColumn_13 (by decide) ?_
      exact dr_iret 17 hV dX5_isColumn_17 rfl (by first | rfl | exact dz_bn) (by clear hV; first | exact dz_pu1 (by simp only [fa_lt, fa_le, fa_eq] at *; omega) | exact dz_pu0 (by simp only [fa_lt, fa_le, fa_eq] at *; omega))
set_option maxRecDepth 100000 in
set_option maxHeartbeats 4000000 in
theorem c_X5_isPlace (π : dz_Pl) (v : Int32) (I : dz_MI) (J : dz_MJ) : dz_Cl π dz_M 24 mX5_isPlace 0 0 [.inr (.inr 0), .inl v] I J (dz_Pu (.inl (dz_b (0 ≤ v ∧ v < I 0 3))) I J) := by
  refine dz_body (own := 5) dz_mX5_isPlace rfl (Nat.le_of_ble_eq_true rfl) (fun V hV => ?_)
  refine dr_iload_n 0 hV dX5_isPlace_0 rfl ?_
  refine dr_if_lt (tgt := 16) 1 hV dX5_isPlace_1 (by decide) (fun c1 => ?_) (fun c1 => ?_)
  · refine dr_iconst (v := nI 0) 16 hV dX5_isPlace_16 (by decide) ?_
    exact dr_iret 17 hV dX5_isPlace_17 rfl (by first | rfl | exact dz_bn) (by clear hV; first | exact dz_pu1 (by simp only [fa_lt, fa_le, fa_eq] at *; omega) | exact dz_pu0 (by simp only [fa_lt, fa_le, fa_eq] at *; omega))
  · refine dr_iload_n 4 hV dX5_isPlace_4 rfl ?_
    refine dr_aload_n 5 hV dX5_isPlace_5 rfl ?_
    refine dr_geti 6 hV dX5_isPlace_6 (by decide) (by decide) rfl rfl rfl rfl ?_
    refine dr_icmp_ge (tgt := 16) 9 hV dX5_isPlace_9 (by decide) (fun c9 => ?_) (fun c9 => ?_)
    · refine dr_iconst (v := nI 0) 16 hV dX5_isPlace_16 (by decide) ?_
      exact dr_iret 17 hV dX5_isPlace_17 rfl (by first | rfl | exact dz_bn) (by clear hV; first | exact dz_pu1 (by simp only [fa_lt, fa_le, fa_eq] at *; omega) | exact dz_pu0 (by simp only [fa_lt, fa_le, fa_eq] at *; omega))
    · refine dr_iconst (v := nI 1) 12 hV dX5_isPlace_12 (by decide) ?_
      refine dr_goto (tgt := 17) 13 hV dX5_isPlace_13 (by decide) ?_
      exact dr_iret 17 hV dX5_isPlace_17 rfl (by first | rfl | exact dz_bn) (by clear hV; first | exact dz_pu1 (by simp only [fa_lt, fa_le, fa_eq] at *; omega) | exact dz_pu0 (by simp only [fa_lt, fa_le, fa_eq] at *; omega))
set_option maxRecDepth 100000 in
set_option maxHeartbeats 4000000 in
theorem c_X5_thrown (π : dz_Pl) (I : dz_MI) (J : dz_MJ) : dz_Cl π dz_M 24 mX5_thrown 0 0 [.inr (.inr 0)] I J (dz_Pu (.inl (I 0 0)) I J) := by
  refine dz_body (own := 5) dz_mX5_thrown rfl (Nat.le_of_ble_eq_true rfl) (fun V hV => ?_)
  refine dr_aload_n 0 hV dX5_thrown_0 rfl ?_
  refine dr_geti 1 hV dX5_thrown_1 (by decide) (by decide) rfl rfl rfl rfl ?_
  exact dr_iret 4 hV dX5_thrown_4 rfl (by first | rfl | exact dz_bn) dz_pu
set_option maxRecDepth 100000 in
set_option maxHeartbeats 4000000 in
theorem c_X5_index (π : dz_Pl) (Λ : Nat → dz_Ds) (N : Nat) (p u l : Nat) (I : dz_MI) (J : dz_MJ) : dz_Cl π Λ N mX5_index 0 0 [.inl (nI p), .inl (nI u), .inl (nI l)] I J (dz_Pu (.inl (nI ((1024 * p + u) * 11 + l))) I J) := by
  refine dz_body (own := 5) dz_mX5_index rfl (Nat.le_of_ble_eq_true rfl) (fun V hV => ?_)
  refine dr_sipush (v := nI 1024) 0 hV dX5_index_0 (by decide) ?_
  refine dr_iload_n 3 hV dX5_index_3 rfl ?_
  refine dr_imul 4 hV dX5_index_4 rfl ?_
  refine dr_iload_n 5 hV dX5_index_5 rfl ?_
  refine dr_iadd 6 hV dX5_index_6 rfl ?_
  refine dr_bipush (v := nI 11) 7 hV dX5_index_7 (by decide) ?_
  refine dr_imul 9 hV dX5_index_9 rfl ?_
  refine dr_iload_n 10 hV dX5_index_10 rfl ?_
  refine dr_iadd 11 hV dX5_index_11 rfl ?_
  exact dr_iret 12 hV dX5_index_12 rfl (by first | rfl | exact dz_bn) (dz_pue (by rw [pk_mul, nI_add, pk_mul, nI_add]))
set_option maxRecDepth 100000 in
set_option maxHeartbeats 4000000 in
theorem c_X5_behind (π : dz_Pl) (p d u : Nat) (I : dz_MI) (J : dz_MJ) (hd : d ≤ 10) : dz_Cl π dz_M 24 mX5_behind 1 22 [.inr (.inr 0), .inl (nI p), .inl (nI d), .inl (nI u)] I J (dz_Pu (.inl (nI ((1024 * (p + 1) + (if d = 10 then u else u ||| 2 ^ d)) * 11 + d))) I J) := by
  refine dz_body (own := 5) dz_mX5_behind rfl (Nat.le_of_ble_eq_true rfl) (fun V hV => ?_)
  refine dr_iload_n 0 hV dX5_behind_0 rfl ?_
  refine dr_iconst (v := nI 1) 1 hV dX5_behind_1 (by decide) ?_
  refine dr_iadd (z := nI (p + 1)) 2 hV dX5_behind_2 (nI_1 p) ?_
  refine dr_iload_n 3 hV dX5_behind_3 rfl ?_
  refine dr_bipush (v := nI 10) 4 hV dX5_behind_4 (by decide) ?_
  refine dn_icmp_ne (tgt := 13) 6 hV dX5_behind_6 (by decide) (by omega) (by omega) (fun c6 => ?_) (fun c6 => ?_)
  · refine dr_iload_n 13 hV dX5_behind_13 rfl ?_
    refine dr_iconst (v := nI 1) 14 hV dX5_behind_14 (by decide) ?_
    refine dr_iload_n 15 hV dX5_behind_15 rfl ?_
    refine dr_ishl (z := nI (2 ^ d)) 16 hV dX5_behind_16 (dz_s1 (by omega)) ?_
    refine dr_ior (z := nI (u ||| 2 ^ d)) 17 hV dX5_behind_17 (fa_or _ _) ?_
    refine dr_iload_n 18 hV dX5_behind_18 rfl ?_
    refine dr_csp3 19 hV (Or.inl dz_lX5_144) dX5_behind_19 (by decide) (by decide) (Nat.le_of_ble_eq_true rfl) (c_X5_index π _ _ _ _ _ _ _) ?_
    exact dr_iret 22 hV dX5_behind_22 rfl (by first | rfl | exact dz_bn) (dz_pue (by clear hV; simp [c6]))
  · refine dr_iload_n 9 hV dX5_behind_9 rfl ?_
    refine dr_goto (tgt := 18) 10 hV dX5_behind_10 (by decide) ?_
    refine dr_iload_n 18 hV dX5_behind_18 rfl ?_
    refine dr_csp3 19 hV (Or.inl dz_lX5_144) dX5_behind_19 (by decide) (by decide) (Nat.le_of_ble_eq_true rfl) (c_X5_index π _ _ _ _ _ _ _) ?_
    exact dr_iret 22 hV dX5_behind_22 rfl (by first | rfl | exact dz_bn) (dz_pue (by clear hV; simp [c6]))
set_option maxRecDepth 100000 in
set_option maxHeartbeats 4000000 in
theorem c_X1_areAlike (π : dz_Pl) (Λ : Nat → dz_Ds) (N : Nat) (a b : Int32) (I : dz_MI) (J : dz_MJ) : dz_Cl π Λ N mX1_areAlike 0 0 [.inl a, .inl b] I J (dz_Pu (.inl (dz_b (a = 0 ∨ b = 0 ∨ a = b))) I J) := by
  refine dz_body (own := 1) dz_mX1_areAlike rfl (Nat.le_of_ble_eq_true rfl) (fun V hV => ?_)
  refine dr_iload_n 0 hV dX1_areAlike_0 rfl ?_
  first | refine dr_ifb_eq (tgt := 13) 1 hV dX1_areAlike_1 (by decide) (fun c1 => ?_) (fun c1 => ?_) | refine dr_if_eq (tgt := 13) 1 hV dX1_areAlike_1 (by decide) (fun c1 => ?_) (fun c1 => ?_)
  · refine dr_iconst (v := nI 1) 13 hV dX1_areAlike_13 (by decide) ?_
    refine dr_goto (tgt := 18) 14 hV dX1_areAlike_14 (by decide) ?_
    exact dr_iret 18 hV dX1_areAlike_18 rfl (by first | rfl | exact dz_bn) (by clear hV; first | exact dz_pu1 (by simp only [fa_lt, fa_le, fa_eq] at *; omega) | exact dz_pu0 (by simp only [fa_lt, fa_le, fa_eq] at *; omega))
  · refine dr_iload_n 4 hV dX1_areAlike_4 rfl ?_
    first | refine dr_ifb_eq (tgt := 13) 5 hV dX1_areAlike_5 (by decide) (fun c5 => ?_) (fun c5 => ?_) | refine dr_if_eq (tgt := 13) 5 hV dX1_areAlike_5 (by decide) (fun c5 => ?_) (fun c5 => ?_)
    · refine dr_iconst (v := nI 1) 13 hV dX1_areAlike_13 (by decide) ?_
      refine dr_goto (tgt := 18) 14 hV dX1_areAlike_14 (by decide) ?_
      exact dr_iret 18 hV dX1_areAlike_18 rfl (by first | rfl | exact dz_bn) (by clear hV; first | exact dz_pu1 (by simp only [fa_lt, fa_le, fa_eq] at *; omega) | exact dz_pu0 (by simp only [fa_lt, fa_le, fa_eq] at *; omega))
    · refine dr_iload_n 8 hV dX1_areAlike_8 rfl ?_
      refine dr_iload_n 9 hV dX1_areAlike_9 rfl ?_
      refine dr_icmp_ne (tgt := 17) 10 hV dX1_areAlike_10 (by decide) (fun c10 => ?_) (fun c10 => ?_)
      · refine dr_iconst (v := nI 0) 17 hV dX1_areAlike_17 (by decide) ?_
        exact dr_iret 18 hV dX1_areAlike_18 rfl (by first | rfl | exact dz_bn) (by clear hV; first | exact dz_pu1 (by simp only [fa_lt, fa_le, fa_eq] at *; omega) | exact dz_pu0 (by simp only [fa_lt, fa_le, fa_eq] at *; omega))
      · refine dr_iconst (v := nI 1) 13 hV dX1_areAlike_13 (by decide) ?_
        refine dr_goto (tgt := 18) 14 hV dX1_areAlike_14 (by decide) ?_
        exact dr_iret 18 hV dX1_areAlike_18 rfl (by first | rfl | exact dz_bn) (by clear hV; first | exact dz_pu1 (by simp only [fa_lt, fa_le, fa_eq] at *; omega) | exact dz_pu0 (by simp only [fa_lt, fa_le, fa_eq] at *; omega))
def dz_tu (h r : Int32) : Int32 := ((h <<< (r &&& 31)) ||| ((h <<< (r &&& 31)) >>> (nI 16 &&& 31))) &&& 65535
set_option maxRecDepth 100000 in
set_option maxHeartbeats 4000000 in
theorem c_X1_turned (π : dz_Pl) (Λ : Nat → dz_Ds) (N : Nat) (h r : Int32) (I : dz_MI) (J : dz_MJ) : dz_Cl π Λ N mX1_turned 0 0 [.inl h, .inl r] I J (dz_Pu (.inl (dz_tu h r)) I J) := by
  refine dz_body (own := 1) dz_mX1_turned rfl (Nat.le_of_ble_eq_true rfl) (fun V hV => ?_)
  refine dr_iload_n 0 hV dX1_turned_0 rfl ?_
  refine dr_iload_n 1 hV dX1_turned_1 rfl ?_
  refine dr_ishl 2 hV dX1_turned_2 rfl ?_
  refine dr_istore_n 3 hV dX1_turned_3 (by decide) ?_
  refine dr_iload_n 4 hV dX1_turned_4 rfl ?_
  refine dr_iload_n 5 hV dX1_turned_5 rfl ?_
  refine dr_bipush (v := nI 16) 6 hV dX1_turned_6 (by decide) ?_
  refine dr_ishr 8 hV dX1_turned_8 rfl ?_
  refine dr_ior 9 hV dX1_turned_9 rfl ?_
  refine dr_ldc 10 hV dX1_turned_10 dz_kX1_71 ?_
  refine dr_iand 12 hV dX1_turned_12 rfl ?_
  exact dr_iret 13 hV dX1_turned_13 rfl (by first | rfl | exact dz_bn) dz_pu
set_option maxRecDepth 100000 in
set_option maxHeartbeats 4000000 in
theorem c_X1_canTakeOne (π : dz_Pl) (I : dz_MI) (J : dz_MJ) : dz_Cl π dz_Y 62 mX1_canTakeOne 0 0 [.inr (.inr 1)] I J (dz_Pu (.inl (dz_b (¬ I 1 2 = 0 ∧ I 1 3 < nI 10))) I J) := by
  refine dz_body (own := 1) dz_mX1_canTakeOne rfl (Nat.le_of_ble_eq_true rfl) (fun V hV => ?_)
  refine dr_aload_n 0 hV dX1_canTakeOne_0 rfl ?_
  refine dr_geti 1 hV dX1_canTakeOne_1 (by decide) (by decide) rfl rfl rfl rfl ?_
  first | refine dr_ifb_eq (tgt := 20) 4 hV dX1_canTakeOne_4 (by decide) (fun c4 => ?_) (fun c4 => ?_) | refine dr_if_eq (tgt := 20) 4 hV dX1_canTakeOne_4 (by decide) (fun c4 => ?_) (fun c4 => ?_)
  · refine dr_iconst (v := nI 0) 20 hV dX1_canTakeOne_20 (by decide) ?_
    exact dr_iret 21 hV dX1_canTakeOne_21 rfl (by first | rfl | exact dz_bn) (by clear hV; first | exact dz_pu1 (by simp only [fa_lt, fa_le, fa_eq] at *; omega) | exact dz_pu0 (by simp only [fa_lt, fa_le, fa_eq] at *; omega))
  · refine dr_aload_n 7 hV dX1_canTakeOne_7 rfl ?_
    refine dr_geti 8 hV dX1_canTakeOne_8 (by decide) (by decide) rfl rfl rfl rfl ?_
    refine dr_bipush (v := nI 10) 11 hV dX1_canTakeOne_11 (by decide) ?_
    refine dr_icmp_ge (tgt := 20) 13 hV dX1_canTakeOne_13 (by decide) (fun c13 => ?_) (fun c13 => ?_)
    · refine dr_iconst (v := nI 0) 20 hV dX1_canTakeOne_20 (by decide) ?_
      exact dr_iret 21 hV dX1_canTakeOne_21 rfl (by first | rfl | exact dz_bn) (by clear hV; first | exact dz_pu1 (by simp only [fa_lt, fa_le, fa_eq] at *; omega) | exact dz_pu0 (by simp only [fa_lt, fa_le, fa_eq] at *; omega))
    · refine dr_iconst (v := nI 1) 16 hV dX1_canTakeOne_16 (by decide) ?_
      refine dr_goto (tgt := 21) 17 hV dX1_canTakeOne_17 (by decide) ?_
      exact dr_iret 21 hV dX1_canTakeOne_21 rfl (by first | rfl | exact dz_bn) (by clear hV; first | exact dz_pu1 (by simp only [fa_lt, fa_le, fa_eq] at *; omega) | exact dz_pu0 (by simp only [fa_lt, fa_le, fa_eq] at *; omega))
set_option maxRecDepth 100000 in
set_option maxHeartbeats 4000000 in
theorem c_X0_canTakeOne (π : dz_Pl) (n : Int32) (I : dz_MI) (J : dz_MJ) : dz_Cl π dz_Y 62 mX0_canTakeOne 0 0 [.inr (.inr 2), .inl n] I J (dz_Pu (.inl (dz_b (I 2 6 < nI 4 ∧ I 2 7 + n ≤ nI 8))) I J) := by
  refine dz_body (own := 0) dz_mX0_canTakeOne rfl (Nat.le_of_ble_eq_true rfl) (fun V hV => ?_)
  refine dr_aload_n 0 hV dX0_canTakeOne_0 rfl ?_
  refine dr_geti 1 hV dX0_canTakeOne_1 (by decide) (by decide) rfl rfl rfl rfl ?_
  refine dr_iconst (v := nI 4) 4 hV dX0_canTakeOne_4 (by decide) ?_
  refine dr_icmp_ge (tgt := 23) 5 hV dX0_canTakeOne_5 (by decide) (fun c5 => ?_) (fun c5 => ?_)
  · refine dr_iconst (v := nI 0) 23 hV dX0_canTakeOne_23 (by decide) ?_
    exact dr_iret 24 hV dX0_canTakeOne_24 rfl (by first | rfl | exact dz_bn) (by clear hV; first | exact dz_pu1 (by simp only [fa_lt, fa_le, fa_eq] at *; omega) | exact dz_pu0 (by simp only [fa_lt, fa_le, fa_eq] at *; omega))
  · refine dr_aload_n 8 hV dX0_canTakeOne_8 rfl ?_
    refine dr_geti 9 hV dX0_canTakeOne_9 (by decide) (by decide) rfl rfl rfl rfl ?_
    refine dr_iload_n 12 hV dX0_canTakeOne_12 rfl ?_
    refine dr_iadd 13 hV dX0_canTakeOne_13 rfl ?_
    refine dr_bipush (v := nI 8) 14 hV dX0_canTakeOne_14 (by decide) ?_
    refine dr_icmp_gt (tgt := 23) 16 hV dX0_canTakeOne_16 (by decide) (fun c16 => ?_) (fun c16 => ?_)
    · refine dr_iconst (v := nI 0) 23 hV dX0_canTakeOne_23 (by decide) ?_
      exact dr_iret 24 hV dX0_canTakeOne_24 rfl (by first | rfl | exact dz_bn) (by clear hV; first | exact dz_pu1 (by simp only [fa_lt, fa_le, fa_eq] at *; omega) | exact dz_pu0 (by simp only [fa_lt, fa_le, fa_eq] at *; omega))
    · refine dr_iconst (v := nI 1) 19 hV dX0_canTakeOne_19 (by decide) ?_
      refine dr_goto (tgt := 24) 20 hV dX0_canTakeOne_20 (by decide) ?_
      exact dr_iret 24 hV dX0_canTakeOne_24 rfl (by first | rfl | exact dz_bn) (by clear hV; first | exact dz_pu1 (by simp only [fa_lt, fa_le, fa_eq] at *; omega) | exact dz_pu0 (by simp only [fa_lt, fa_le, fa_eq] at *; omega))
set_option maxRecDepth 100000 in
set_option maxHeartbeats 4000000 in
theorem c_X2_leastNew (π : dz_Pl) (I : dz_MI) (J : dz_MJ) : dz_Cl π dz_Y 62 mX2_leastNew 0 0 [.inr (.inr 4)] I J (dz_Pu (.inl (I 4 10)) I J) := by
  refine dz_body (own := 2) dz_mX2_leastNew rfl (Nat.le_of_ble_eq_true rfl) (fun V hV => ?_)
  refine dr_aload_n 0 hV dX2_leastNew_0 rfl ?_
  refine dr_geti 1 hV dX2_leastNew_1 (by decide) (by decide) rfl rfl rfl rfl ?_
  exact dr_iret 4 hV dX2_leastNew_4 rfl (by first | rfl | exact dz_bn) dz_pu
set_option maxRecDepth 100000 in
set_option maxHeartbeats 4000000 in
theorem c_X2_bestWays (π : dz_Pl) (I : dz_MI) (J : dz_MJ) : dz_Cl π dz_Y 62 mX2_bestWays 0 0 [.inr (.inr 4)] I J (dz_Pu (.inr (.inl (J 4 11))) I J) := by
  refine dz_body (own := 2) dz_mX2_bestWays rfl (Nat.le_of_ble_eq_true rfl) (fun V hV => ?_)
  refine dr_aload_n 0 hV dX2_bestWays_0 rfl ?_
  refine dr_getl 1 hV dX2_bestWays_1 (by decide) (by decide) rfl rfl rfl rfl ?_
  exact dr_lret 4 hV dX2_bestWays_4 rfl dz_pu
set_option maxRecDepth 100000 in
set_option maxHeartbeats 4000000 in
theorem c_X2_hasWay (π : dz_Pl) (I : dz_MI) (J : dz_MJ) : dz_Cl π dz_Y 62 mX2_hasWay 0 0 [.inr (.inr 4)] I J (dz_Pu (.inl (dz_b (¬ I 4 10 = -1))) I J) := by
  refine dz_body (own := 2) dz_mX2_hasWay rfl (Nat.le_of_ble_eq_true rfl) (fun V hV => ?_)
  refine dr_aload_n 0 hV dX2_hasWay_0 rfl ?_
  refine dr_geti 1 hV dX2_hasWay_1 (by decide) (by decide) rfl rfl rfl rfl ?_
  refine dr_iconst (v := (-1)) 4 hV dX2_hasWay_4 (by decide) ?_
  refine dr_icmp_eq (tgt := 12) 5 hV dX2_hasWay_5 (by decide) (fun c5 => ?_) (fun c5 => ?_)
  · refine dr_iconst (v := nI 0) 12 hV dX2_hasWay_12 (by decide) ?_
    exact dr_iret 13 hV dX2_hasWay_13 rfl (by first | rfl | exact dz_bn) (by clear hV; first | exact dz_pu1 (by simp only [fa_lt, fa_le, fa_eq] at *; omega) | exact dz_pu0 (by simp only [fa_lt, fa_le, fa_eq] at *; omega))
  · refine dr_iconst (v := nI 1) 8 hV dX2_hasWay_8 (by decide) ?_
    refine dr_goto (tgt := 13) 9 hV dX2_hasWay_9 (by decide) ?_
    exact dr_iret 13 hV dX2_hasWay_13 rfl (by first | rfl | exact dz_bn) (by clear hV; first | exact dz_pu1 (by simp only [fa_lt, fa_le, fa_eq] at *; omega) | exact dz_pu0 (by simp only [fa_lt, fa_le, fa_eq] at *; omega))
set_option maxRecDepth 100000 in
set_option maxHeartbeats 4000000 in
theorem c_X2_isPlace (π : dz_Pl) (v : Int32) (I : dz_MI) (J : dz_MJ) : dz_Cl π dz_Y 62 mX2_isPlace 0 0 [.inr (.inr 4), .inl v] I J (dz_Pu (.inl (dz_b (0 ≤ v ∧ v < I 4 9))) I J) := by
  refine dz_body (own := 2) dz_mX2_isPlace rfl (Nat.le_of_ble_eq_true rfl) (fun V hV => ?_)
  refine dr_iload_n 0 hV dX2_isPlace_0 rfl ?_
  refine dr_if_lt (tgt := 16) 1 hV dX2_isPlace_1 (by decide) (fun c1 => ?_) (fun c1 => ?_)
  · refine dr_iconst (v := nI 0) 16 hV dX2_isPlace_16 (by decide) ?_
    exact dr_iret 17 hV dX2_isPlace_17 rfl (by first | rfl | exact dz_bn) (by clear hV; first | exact dz_pu1 (by simp only [fa_lt, fa_le, fa_eq] at *; omega) | exact dz_pu0 (by simp only [fa_lt, fa_le, fa_eq] at *; omega))
  · refine dr_iload_n 4 hV dX2_isPlace_4 rfl ?_
    refine dr_aload_n 5 hV dX2_isPlace_5 rfl ?_
    refine dr_geti 6 hV dX2_isPlace_6 (by decide) (by decide) rfl rfl rfl rfl ?_
    refine dr_icmp_ge (tgt := 16) 9 hV dX2_isPlace_9 (by decide) (fun c9 => ?_) (fun c9 => ?_)
    · refine dr_iconst (v := nI 0) 16 hV dX2_isPlace_16 (by decide) ?_
      exact dr_iret 17 hV dX2_isPlace_17 rfl (by first | rfl | exact dz_bn) (by clear hV; first | exact dz_pu1 (by simp only [fa_lt, fa_le, fa_eq] at *; omega) | exact dz_pu0 (by simp only [fa_lt, fa_le, fa_eq] at *; omega))
    · refine dr_iconst (v := nI 1) 12 hV dX2_isPlace_12 (by decide) ?_
      refine dr_goto (tgt := 17) 13 hV dX2_isPlace_13 (by decide) ?_
      exact dr_iret 17 hV dX2_isPlace_17 rfl (by first | rfl | exact dz_bn) (by clear hV; first | exact dz_pu1 (by simp only [fa_lt, fa_le, fa_eq] at *; omega) | exact dz_pu0 (by simp only [fa_lt, fa_le, fa_eq] at *; omega))
set_option maxRecDepth 100000 in
set_option maxHeartbeats 4000000 in
theorem c_X3_isRow (π : dz_Pl) (Λ : Nat → dz_Ds) (N : Nat) (v : Int32) (I : dz_MI) (J : dz_MJ) : dz_Cl π Λ N mX3_isRow 0 0 [.inl v] I J (dz_Pu (.inl (dz_b (0 ≤ v ∧ v < nI 8))) I J) := by
  refine dz_body (own := 3) dz_mX3_isRow rfl (Nat.le_of_ble_eq_true rfl) (fun V hV => ?_)
  refine dr_iload_n 0 hV dX3_isRow_0 rfl ?_
  refine dr_if_lt (tgt := 14) 1 hV dX3_isRow_1 (by decide) (fun c1 => ?_) (fun c1 => ?_)
  · refine dr_iconst (v := nI 0) 14 hV dX3_isRow_14 (by decide) ?_
    exact dr_iret 15 hV dX3_isRow_15 rfl (by first | rfl | exact dz_bn) (by clear hV; first | exact dz_pu1 (by simp only [fa_lt, fa_le, fa_eq] at *; omega) | exact dz_pu0 (by simp only [fa_lt, fa_le, fa_eq] at *; omega))
  · refine dr_iload_n 4 hV dX3_isRow_4 rfl ?_
    refine dr_bipush (v := nI 8) 5 hV dX3_isRow_5 (by decide) ?_
    refine dr_icmp_ge (tgt := 14) 7 hV dX3_isRow_7 (by decide) (fun c7 => ?_) (fun c7 => ?_)
    · refine dr_iconst (v := nI 0) 14 hV dX3_isRow_14 (by decide) ?_
      exact dr_iret 15 hV dX3_isRow_15 rfl (by first | rfl | exact dz_bn) (by clear hV; first | exact dz_pu1 (by simp only [fa_lt, fa_le, fa_eq] at *; omega) | exact dz_pu0 (by simp only [fa_lt, fa_le, fa_eq] at *; omega))
    · refine dr_iconst (v := nI 1) 10 hV dX3_isRow_10 (by decide) ?_
      refine dr_goto (tgt := 15) 11 hV dX3_isRow_11 (by decide) ?_
      exact dr_iret 15 hV dX3_isRow_15 rfl (by first | rfl | exact dz_bn) (by clear hV; first | exact dz_pu1 (by simp only [fa_lt, fa_le, fa_eq] at *; omega) | exact dz_pu0 (by simp only [fa_lt, fa_le, fa_eq] at *; omega))
set_option maxRecDepth 100000 in
set_option maxHeartbeats 4000000 in
theorem c_X0_columnOf (π : dz_Pl) {k n : Nat} (I : dz_MI) (J : dz_MJ) (hn : I 2 7 = nI n) (h8 : n ≤ 8) (hk : k < n) : dz_Cl π dz_Y 62 mX0_columnOf 1 21 [.inr (.inr 2), .inl (nI k)] I J (dz_Pu (.inl (I 11 k)) I J) := by
  refine dz_body (own := 0) dz_mX0_columnOf rfl (Nat.le_of_ble_eq_true rfl) (fun V hV => ?_)
  refine dr_aload_n 0 hV dX0_columnOf_0 rfl ?_
  refine dr_iload_n 1 hV dX0_columnOf_1 rfl ?_
  refine dr_cvp1 2 hV dz_lX0_41 dX0_columnOf_2 (by decide) (by decide) ⟨by decide, _, _, rfl, by decide, rfl⟩ (Nat.le_of_ble_eq_true rfl) (c_X0_hasPlace π _ _ _) ?_
  first | refine dr_ifb_eq (tgt := 17) 5 hV dX0_columnOf_5 (by decide) (fun c5 => ?_) (fun c5 => ?_) | refine dr_if_eq (tgt := 17) 5 hV dX0_columnOf_5 (by decide) (fun c5 => ?_) (fun c5 => ?_)
  · exact absurd (dz_inI hn hk (by omega)) c5
  · refine dr_aload_n 8 hV dX0_columnOf_8 rfl ?_
    refine dr_geta 9 hV dX0_columnOf_9 (by decide) (by decide) rfl rfl rfl ?_
    refine dr_iload_n 12 hV dX0_columnOf_12 rfl ?_
    refine dr_iald 13 hV dX0_columnOf_13 (by decide) rfl rfl (by omega) (by decide) rfl ?_
    refine dr_goto (tgt := 18) 14 hV dX0_columnOf_14 (by decide) ?_
    exact dr_iret 18 hV dX0_columnOf_18 rfl (by first | rfl | exact dz_bn) dz_pu
set_option maxRecDepth 100000 in
set_option maxHeartbeats 4000000 in
theorem c_X0_startOf (π : dz_Pl) {k n : Nat} (I : dz_MI) (J : dz_MJ) (hn : I 2 6 = nI n) (h4 : n ≤ 4) (hk : k < n) : dz_Cl π dz_Y 62 mX0_startOf 1 21 [.inr (.inr 2), .inl (nI k)] I J (dz_Pu (.inl (I 7 k)) I J) := by
  refine dz_body (own := 0) dz_mX0_startOf rfl (Nat.le_of_ble_eq_true rfl) (fun V hV => ?_)
  refine dr_aload_n 0 hV dX0_startOf_0 rfl ?_
  refine dr_iload_n 1 hV dX0_startOf_1 rfl ?_
  refine dr_cvp1 2 hV dz_lX0_44 dX0_startOf_2 (by decide) (by decide) ⟨by decide, _, _, rfl, by decide, rfl⟩ (Nat.le_of_ble_eq_true rfl) (c_X0_has π _ _ _) ?_
  first | refine dr_ifb_eq (tgt := 17) 5 hV dX0_startOf_5 (by decide) (fun c5 => ?_) (fun c5 => ?_) | refine dr_if_eq (tgt := 17) 5 hV dX0_startOf_5 (by decide) (fun c5 => ?_) (fun c5 => ?_)
  · exact absurd (dz_inI hn hk (by omega)) c5
  · refine dr_aload_n 8 hV dX0_startOf_8 rfl ?_
    refine dr_geta 9 hV dX0_startOf_9 (by decide) (by decide) rfl rfl rfl ?_
    refine dr_iload_n 12 hV dX0_startOf_12 rfl ?_
    refine dr_iald 13 hV dX0_startOf_13 (by decide) rfl rfl (by omega) (by decide) rfl ?_
    refine dr_goto (tgt := 18) 14 hV dX0_startOf_14 (by decide) ?_
    exact dr_iret 18 hV dX0_startOf_18 rfl (by first | rfl | exact dz_bn) dz_pu
set_option maxRecDepth 100000 in
set_option maxHeartbeats 4000000 in
theorem c_X0_footOf (π : dz_Pl) {k n : Nat} (I : dz_MI) (J : dz_MJ) (hn : I 2 6 = nI n) (h4 : n ≤ 4) (hk : k < n) : dz_Cl π dz_Y 62 mX0_footOf 1 21 [.inr (.inr 2), .inl (nI k)] I J (dz_Pu (.inl (I 9 k)) I J) := by
  refine dz_body (own := 0) dz_mX0_footOf rfl (Nat.le_of_ble_eq_true rfl) (fun V hV => ?_)
  refine dr_aload_n 0 hV dX0_footOf_0 rfl ?_
  refine dr_iload_n 1 hV dX0_footOf_1 rfl ?_
  refine dr_cvp1 2 hV dz_lX0_44 dX0_footOf_2 (by decide) (by decide) ⟨by decide, _, _, rfl, by decide, rfl⟩ (Nat.le_of_ble_eq_true rfl) (c_X0_has π _ _ _) ?_
  first | refine dr_ifb_eq (tgt := 17) 5 hV dX0_footOf_5 (by decide) (fun c5 => ?_) (fun c5 => ?_) | refine dr_if_eq (tgt := 17) 5 hV dX0_footOf_5 (by decide) (fun c5 => ?_) (fun c5 => ?_)
  · exact absurd (dz_inI hn hk (by omega)) c5
  · refine dr_aload_n 8 hV dX0_footOf_8 rfl ?_
    refine dr_geta 9 hV dX0_footOf_9 (by decide) (by decide) rfl rfl rfl ?_
    refine dr_iload_n 12 hV dX0_footOf_12 rfl ?_
    refine dr_iald 13 hV dX0_footOf_13 (by decide) rfl rfl (by omega) (by decide) rfl ?_
    refine dr_goto (tgt := 18) 14 hV dX0_footOf_14 (by decide) ?_
    exact dr_iret 18 hV dX0_footOf_18 rfl (by first | rfl | exact dz_bn) dz_pu
set_option maxRecDepth 100000 in
set_option maxHeartbeats 4000000 in
theorem c_X0_headOf (π : dz_Pl) {k n : Nat} (I : dz_MI) (J : dz_MJ) (hn : I 2 6 = nI n) (h4 : n ≤ 4) (hk : k < n) : dz_Cl π dz_Y 62 mX0_headOf 1 21 [.inr (.inr 2), .inl (nI k)] I J (dz_Pu (.inl (I 10 k)) I J) := by
  refine dz_body (own := 0) dz_mX0_headOf rfl (Nat.le_of_ble_eq_true rfl) (fun V hV => ?_)
  refine dr_aload_n 0 hV dX0_headOf_0 rfl ?_
  refine dr_iload_n 1 hV dX0_headOf_1 rfl ?_
  refine dr_cvp1 2 hV dz_lX0_44 dX0_headOf_2 (by decide) (by decide) ⟨by decide, _, _, rfl, by decide, rfl⟩ (Nat.le_of_ble_eq_true rfl) (c_X0_has π _ _ _) ?_
  first | refine dr_ifb_eq (tgt := 17) 5 hV dX0_headOf_5 (by decide) (fun c5 => ?_) (fun c5 => ?_) | refine dr_if_eq (tgt := 17) 5 hV dX0_headOf_5 (by decide) (fun c5 => ?_) (fun c5 => ?_)
  · exact absurd (dz_inI hn hk (by omega)) c5
  · refine dr_aload_n 8 hV dX0_headOf_8 rfl ?_
    refine dr_geta 9 hV dX0_headOf_9 (by decide) (by decide) rfl rfl rfl ?_
    refine dr_iload_n 12 hV dX0_headOf_12 rfl ?_
    refine dr_iald 13 hV dX0_headOf_13 (by decide) rfl rfl (by omega) (by decide) rfl ?_
    refine dr_goto (tgt := 18) 14 hV dX0_headOf_14 (by decide) ?_
    exact dr_iret 18 hV dX0_headOf_18 rfl (by first | rfl | exact dz_bn) dz_pu
set_option maxRecDepth 100000 in
set_option maxHeartbeats 4000000 in
theorem c_X0_endOf (π : dz_Pl) {k n : Nat} (I : dz_MI) (J : dz_MJ) (hn : I 2 6 = nI n) (h4 : n ≤ 4) (hk : k < n) : dz_Cl π dz_Y 62 mX0_endOf 1 21 [.inr (.inr 2), .inl (nI k)] I J (dz_Pu (.inl (I 7 k + I 8 k)) I J) := by
  refine dz_body (own := 0) dz_mX0_endOf rfl (Nat.le_of_ble_eq_true rfl) (fun V hV => ?_)
  refine dr_aload_n 0 hV dX0_endOf_0 rfl ?_
  refine dr_iload_n 1 hV dX0_endOf_1 rfl ?_
  refine dr_cvp1 2 hV dz_lX0_44 dX0_endOf_2 (by decide) (by decide) ⟨by decide, _, _, rfl, by decide, rfl⟩ (Nat.le_of_ble_eq_true rfl) (c_X0_has π _ _ _) ?_
  first | refine dr_ifb_eq (tgt := 24) 5 hV dX0_endOf_5 (by decide) (fun c5 => ?_) (fun c5 => ?_) | refine dr_if_eq (tgt := 24) 5 hV dX0_endOf_5 (by decide) (fun c5 => ?_) (fun c5 => ?_)
  · exact absurd (dz_inI hn hk (by omega)) c5
  · refine dr_aload_n 8 hV dX0_endOf_8 rfl ?_
    refine dr_geta 9 hV dX0_endOf_9 (by decide) (by decide) rfl rfl rfl ?_
    refine dr_iload_n 12 hV dX0_endOf_12 rfl ?_
    refine dr_iald 13 hV dX0_endOf_13 (by decide) rfl rfl (by omega) (by decide) rfl ?_
    refine dr_aload_n 14 hV dX0_endOf_14 rfl ?_
    refine dr_geta 15 hV dX0_endOf_15 (by decide) (by decide) rfl rfl rfl ?_
    refine dr_iload_n 18 hV dX0_endOf_18 rfl ?_
    refine dr_iald 19 hV dX0_endOf_19 (by decide) rfl rfl (by omega) (by decide) rfl ?_
    refine dr_iadd 20 hV dX0_endOf_20 rfl ?_
    refine dr_goto (tgt := 25) 21 hV dX0_endOf_21 (by decide) ?_
    exact dr_iret 25 hV dX0_endOf_25 rfl (by first | rfl | exact dz_bn) dz_pu
set_option maxRecDepth 100000 in
set_option maxHeartbeats 4000000 in
theorem c_X1_fact (π : dz_Pl) {k n w : Nat} (I : dz_MI) (J : dz_MJ) (hn : I 1 3 = nI n) (h10 : n ≤ 10) (hk : k < n) (hw : w < 9) : dz_Cl π dz_Y 62 mX1_fact 1 21 [.inr (.inr 1), .inl (nI k), .inl (nI w)] I J (dz_Pu (.inl (I (24 + k) w)) I J) := by
  refine dz_body (own := 1) dz_mX1_fact rfl (Nat.le_of_ble_eq_true rfl) (fun V hV => ?_)
  refine dr_aload_n 0 hV dX1_fact_0 rfl ?_
  refine dr_iload_n 1 hV dX1_fact_1 rfl ?_
  refine dr_cvp1 2 hV dz_lX1_24 dX1_fact_2 (by decide) (by decide) ⟨by decide, _, _, rfl, by decide, rfl⟩ (Nat.le_of_ble_eq_true rfl) (c_X1_has π _ _ _) ?_
  first | refine dr_ifb_eq (tgt := 18) 5 hV dX1_fact_5 (by decide) (fun c5 => ?_) (fun c5 => ?_) | refine dr_if_eq (tgt := 18) 5 hV dX1_fact_5 (by decide) (fun c5 => ?_) (fun c5 => ?_)
  · exact absurd (dz_inI hn hk (by omega)) c5
  · refine dr_iload_n 8 hV dX1_fact_8 rfl ?_
    refine dr_if_lt (tgt := 18) 9 hV dX1_fact_9 (by decide) (fun c9 => ?_) (fun c9 => ?_)
    · exact absurd c9 (nI_pos (by omega))
    · refine dr_iload_n 12 hV dX1_fact_12 rfl ?_
      refine dr_bipush (v := nI 9) 13 hV dX1_fact_13 (by decide) ?_
      refine dn_icmp_lt (tgt := 20) 15 hV dX1_fact_15 (by decide) (by omega) (by omega) (fun c15 => ?_) (fun c15 => ?_)
      · refine dr_aload_n 20 hV dX1_fact_20 rfl ?_
        refine dr_geta 21 hV dX1_fact_21 (by decide) (by decide) rfl rfl rfl ?_
        refine dr_iload_n 24 hV dX1_fact_24 rfl ?_
        refine dr_aaldi 25 hV dX1_fact_25 (by decide) rfl rfl (by omega) (by decide) ?_
        refine dr_iload_n 26 hV dX1_fact_26 rfl ?_
        refine dr_iald 27 hV dX1_fact_27 (by omega) (dz_Y_f (by omega)) rfl (by omega) (by decide) rfl ?_
        exact dr_iret 28 hV dX1_fact_28 rfl (by first | rfl | exact dz_bn) dz_pu
      · omega
set_option maxRecDepth 100000 in
set_option maxHeartbeats 4000000 in
theorem c_X3_toldOf (π : dz_Pl) {k : Nat} (I : dz_MI) (J : dz_MJ) (hk : k < 8) : dz_Cl π dz_Y 62 mX3_toldOf 1 20 [.inr (.inr 3), .inl (nI k)] I J (dz_Pu (.inl (I 13 k)) I J) := by
  refine dz_body (own := 3) dz_mX3_toldOf rfl (Nat.le_of_ble_eq_true rfl) (fun V hV => ?_)
  refine dr_iload_n 0 hV dX3_toldOf_0 rfl ?_
  refine dr_csp1 1 hV (Or.inl dz_lX3_18) dX3_toldOf_1 (by decide) (by decide) (Nat.le_of_ble_eq_true rfl) (c_X3_isRow π _ _ _ _ _) ?_
  first | refine dr_ifb_eq (tgt := 16) 4 hV dX3_toldOf_4 (by decide) (fun c4 => ?_) (fun c4 => ?_) | refine dr_if_eq (tgt := 16) 4 hV dX3_toldOf_4 (by decide) (fun c4 => ?_) (fun c4 => ?_)
  · exact absurd (dz_inI rfl hk (by decide)) c4
  · refine dr_aload_n 7 hV dX3_toldOf_7 rfl ?_
    refine dr_geta 8 hV dX3_toldOf_8 (by decide) (by decide) rfl rfl rfl ?_
    refine dr_iload_n 11 hV dX3_toldOf_11 rfl ?_
    refine dr_iald 12 hV dX3_toldOf_12 (by decide) rfl rfl (by omega) (by decide) rfl ?_
    refine dr_goto (tgt := 17) 13 hV dX3_toldOf_13 (by decide) ?_
    exact dr_iret 17 hV dX3_toldOf_17 rfl (by first | rfl | exact dz_bn) dz_pu
set_option maxRecDepth 100000 in
set_option maxHeartbeats 4000000 in
theorem c_X3_isBarred (π : dz_Pl) {k x d : Nat} (I : dz_MI) (J : dz_MJ) (hk : k < 8) (hx : I 14 k = nI x) (hx2 : x < 2 ^ 31) (hd : d < 31) : dz_Cl π dz_Y 62 mX3_isBarred 1 21 [.inr (.inr 3), .inl (nI k), .inl (nI d)] I J (dz_Pu (.inl (dz_b (x.testBit d = true))) I J) := by
  refine dz_body (own := 3) dz_mX3_isBarred rfl (Nat.le_of_ble_eq_true rfl) (fun V hV => ?_)
  refine dr_iload_n 0 hV dX3_isBarred_0 rfl ?_
  refine dr_csp1 1 hV (Or.inl dz_lX3_18) dX3_isBarred_1 (by decide) (by decide) (Nat.le_of_ble_eq_true rfl) (c_X3_isRow π _ _ _ _ _) ?_
  first | refine dr_ifb_eq (tgt := 24) 4 hV dX3_isBarred_4 (by decide) (fun c4 => ?_) (fun c4 => ?_) | refine dr_if_eq (tgt := 24) 4 hV dX3_isBarred_4 (by decide) (fun c4 => ?_) (fun c4 => ?_)
  · exact absurd (dz_inI rfl hk (by decide)) c4
  · refine dr_aload_n 7 hV dX3_isBarred_7 rfl ?_
    refine dr_geta 8 hV dX3_isBarred_8 (by decide) (by decide) rfl rfl rfl ?_
    refine dr_iload_n 11 hV dX3_isBarred_11 rfl ?_
    refine dr_iald 12 hV dX3_isBarred_12 (by decide) rfl rfl (by omega) (by decide) hx ?_
    refine dr_iload_n 13 hV dX3_isBarred_13 rfl ?_
    refine dr_csp2 14 hV (Or.inr ⟨dz_mX4_hasBit, dz_w_hasBit, rfl, by decide⟩) dX3_isBarred_14 (by decide) (by decide) (Nat.le_of_ble_eq_true rfl) (c_hasBit π _ _ _ _ hx2 hd) ?_
    first | refine dr_ifb_eq (tgt := 24) 17 hV dX3_isBarred_17 (by decide) (fun c17 => ?_) (fun c17 => ?_) | refine dr_if_eq (tgt := 24) 17 hV dX3_isBarred_17 (by decide) (fun c17 => ?_) (fun c17 => ?_)
    · refine dr_iconst (v := nI 0) 24 hV dX3_isBarred_24 (by decide) ?_
      exact dr_iret 25 hV dX3_isBarred_25 rfl (by first | rfl | exact dz_bn) (by clear hV; first | exact dz_pu1 c17 | exact dz_pu0 c17)
    · refine dr_iconst (v := nI 1) 20 hV dX3_isBarred_20 (by decide) ?_
      refine dr_goto (tgt := 25) 21 hV dX3_isBarred_21 (by decide) ?_
      exact dr_iret 25 hV dX3_isBarred_25 rfl (by first | rfl | exact dz_bn) (by clear hV; first | exact dz_pu1 c17 | exact dz_pu0 c17)
set_option maxRecDepth 100000 in
set_option maxHeartbeats 4000000 in
theorem c_X2_firstAt (π : dz_Pl) {k n : Nat} (I : dz_MI) (J : dz_MJ) (hn : I 4 9 = nI n) (h8 : n ≤ 8) (hk : k < n) : dz_Cl π dz_Y 62 mX2_firstAt 1 21 [.inr (.inr 4), .inl (nI k)] I J (dz_Pu (.inl (I 19 k)) I J) := by
  refine dz_body (own := 2) dz_mX2_firstAt rfl (Nat.le_of_ble_eq_true rfl) (fun V hV => ?_)
  refine dr_aload_n 0 hV dX2_firstAt_0 rfl ?_
  refine dr_iload_n 1 hV dX2_firstAt_1 rfl ?_
  refine dr_cvp1 2 hV dz_lX2_52 dX2_firstAt_2 (by decide) (by decide) ⟨by decide, _, _, rfl, by decide, rfl⟩ (Nat.le_of_ble_eq_true rfl) (c_X2_isPlace π _ _ _) ?_
  first | refine dr_ifb_eq (tgt := 17) 5 hV dX2_firstAt_5 (by decide) (fun c5 => ?_) (fun c5 => ?_) | refine dr_if_eq (tgt := 17) 5 hV dX2_firstAt_5 (by decide) (fun c5 => ?_) (fun c5 => ?_)
  · exact absurd (dz_inI hn hk (by omega)) c5
  · refine dr_aload_n 8 hV dX2_firstAt_8 rfl ?_
    refine dr_geta 9 hV dX2_firstAt_9 (by decide) (by decide) rfl rfl rfl ?_
    refine dr_iload_n 12 hV dX2_firstAt_12 rfl ?_
    refine dr_iald 13 hV dX2_firstAt_13 (by decide) rfl rfl (by omega) (by decide) rfl ?_
    refine dr_goto (tgt := 18) 14 hV dX2_firstAt_14 (by decide) ?_
    exact dr_iret 18 hV dX2_firstAt_18 rfl (by first | rfl | exact dz_bn) dz_pu
set_option maxRecDepth 100000 in
set_option maxHeartbeats 4000000 in
theorem c_X2_bestHeldAt (π : dz_Pl) {k n : Nat} (I : dz_MI) (J : dz_MJ) (hn : I 4 9 = nI n) (h8 : n ≤ 8) (hk : k < n) : dz_Cl π dz_Y 62 mX2_bestHeldAt 1 21 [.inr (.inr 4), .inl (nI k)] I J (dz_Pu (.inl (I 18 k)) I J) := by
  refine dz_body (own := 2) dz_mX2_bestHeldAt rfl (Nat.le_of_ble_eq_true rfl) (fun V hV => ?_)
  refine dr_aload_n 0 hV dX2_bestHeldAt_0 rfl ?_
  refine dr_iload_n 1 hV dX2_bestHeldAt_1 rfl ?_
  refine dr_cvp1 2 hV dz_lX2_52 dX2_bestHeldAt_2 (by decide) (by decide) ⟨by decide, _, _, rfl, by decide, rfl⟩ (Nat.le_of_ble_eq_true rfl) (c_X2_isPlace π _ _ _) ?_
  first | refine dr_ifb_eq (tgt := 17) 5 hV dX2_bestHeldAt_5 (by decide) (fun c5 => ?_) (fun c5 => ?_) | refine dr_if_eq (tgt := 17) 5 hV dX2_bestHeldAt_5 (by decide) (fun c5 => ?_) (fun c5 => ?_)
  · exact absurd (dz_inI hn hk (by omega)) c5
  · refine dr_aload_n 8 hV dX2_bestHeldAt_8 rfl ?_
    refine dr_geta 9 hV dX2_bestHeldAt_9 (by decide) (by decide) rfl rfl rfl ?_
    refine dr_iload_n 12 hV dX2_bestHeldAt_12 rfl ?_
    refine dr_iald 13 hV dX2_bestHeldAt_13 (by decide) rfl rfl (by omega) (by decide) rfl ?_
    refine dr_goto (tgt := 18) 14 hV dX2_bestHeldAt_14 (by decide) ?_
    exact dr_iret 18 hV dX2_bestHeldAt_18 rfl (by first | rfl | exact dz_bn) dz_pu
set_option maxRecDepth 100000 in
set_option maxHeartbeats 4000000 in
theorem c_X5_isFull (π : dz_Pl) {k : Nat} (I : dz_MI) (J : dz_MJ) (hk : k < 4) : dz_Cl π dz_M 24 mX5_isFull 0 0 [.inr (.inr 0), .inl (nI k)] I J (dz_Pu (.inl (dz_b (I 23 k = I 14 k))) I J) := by
  refine dz_body (own := 5) dz_mX5_isFull rfl (Nat.le_of_ble_eq_true rfl) (fun V hV => ?_)
  refine dr_aload_n 0 hV dX5_isFull_0 rfl ?_
  refine dr_geta 1 hV dX5_isFull_1 (by decide) (by decide) rfl rfl rfl ?_
  refine dr_iload_n 4 hV dX5_isFull_4 rfl ?_
  refine dr_iald 5 hV dX5_isFull_5 (by decide) rfl rfl (by omega) (by decide) rfl ?_
  refine dr_aload_n 6 hV dX5_isFull_6 rfl ?_
  refine dr_geta 7 hV dX5_isFull_7 (by decide) (by decide) rfl rfl rfl ?_
  refine dr_iload_n 10 hV dX5_isFull_10 rfl ?_
  refine dr_iald 11 hV dX5_isFull_11 (by decide) rfl rfl (by omega) (by decide) rfl ?_
  refine dr_icmp_ne (tgt := 19) 12 hV dX5_isFull_12 (by decide) (fun c12 => ?_) (fun c12 => ?_)
  · refine dr_iconst (v := nI 0) 19 hV dX5_isFull_19 (by decide) ?_
    exact dr_iret 20 hV dX5_isFull_20 rfl (by first | rfl | exact dz_bn) (by clear hV; first | exact dz_pu1 (by simp only [fa_lt, fa_le, fa_eq] at *; omega) | exact dz_pu0 (by simp only [fa_lt, fa_le, fa_eq] at *; omega))
  · refine dr_iconst (v := nI 1) 15 hV dX5_isFull_15 (by decide) ?_
    refine dr_goto (tgt := 20) 16 hV dX5_isFull_16 (by decide) ?_
    exact dr_iret 20 hV dX5_isFull_20 rfl (by first | rfl | exact dz_bn) (by clear hV; first | exact dz_pu1 (by simp only [fa_lt, fa_le, fa_eq] at *; omega) | exact dz_pu0 (by simp only [fa_lt, fa_le, fa_eq] at *; omega))
set_option maxRecDepth 100000 in
set_option maxHeartbeats 4000000 in
theorem c_X0_isFull (π : dz_Pl) {k : Nat} (I : dz_MI) (J : dz_MJ) (hk : k < 4) : dz_Cl π dz_Y 62 mX0_isFull 0 0 [.inr (.inr 2), .inl (nI k)] I J (dz_Pu (.inl (dz_b (I 8 k ≤ I 12 k))) I J) := by
  refine dz_body (own := 0) dz_mX0_isFull rfl (Nat.le_of_ble_eq_true rfl) (fun V hV => ?_)
  refine dr_aload_n 0 hV dX0_isFull_0 rfl ?_
  refine dr_geta 1 hV dX0_isFull_1 (by decide) (by decide) rfl rfl rfl ?_
  refine dr_iload_n 4 hV dX0_isFull_4 rfl ?_
  refine dr_iald 5 hV dX0_isFull_5 (by decide) rfl rfl (by omega) (by decide) rfl ?_
  refine dr_aload_n 6 hV dX0_isFull_6 rfl ?_
  refine dr_geta 7 hV dX0_isFull_7 (by decide) (by decide) rfl rfl rfl ?_
  refine dr_iload_n 10 hV dX0_isFull_10 rfl ?_
  refine dr_iald 11 hV dX0_isFull_11 (by decide) rfl rfl (by omega) (by decide) rfl ?_
  refine dr_icmp_lt (tgt := 19) 12 hV dX0_isFull_12 (by decide) (fun c12 => ?_) (fun c12 => ?_)
  · refine dr_iconst (v := nI 0) 19 hV dX0_isFull_19 (by decide) ?_
    exact dr_iret 20 hV dX0_isFull_20 rfl (by first | rfl | exact dz_bn) (by clear hV; first | exact dz_pu1 (by simp only [fa_lt, fa_le, fa_eq] at *; omega) | exact dz_pu0 (by simp only [fa_lt, fa_le, fa_eq] at *; omega))
  · refine dr_iconst (v := nI 1) 15 hV dX0_isFull_15 (by decide) ?_
    refine dr_goto (tgt := 20) 16 hV dX0_isFull_16 (by decide) ?_
    exact dr_iret 20 hV dX0_isFull_20 rfl (by first | rfl | exact dz_bn) (by clear hV; first | exact dz_pu1 (by simp only [fa_lt, fa_le, fa_eq] at *; omega) | exact dz_pu0 (by simp only [fa_lt, fa_le, fa_eq] at *; omega))
end
section
/-! turns and fits -/
def dz_abs (x : Int32) : Int32 := if 0 ≤ x then x else 0 - x
def dz_lT (h w : Int32) : Int32 := if h = 0 ∨ w = 0 then nI 0 else dz_find (fun r => decide (dz_tu h (nI r) = w)) 16
def dz_tO (f : Nat → Nat → Int32) (tol : Int32) (k q : Nat) : Int32 := if f k 2 + f q 2 + tol < dz_abs (f k 0 - f q 1) ∨ ¬ (f k 4 = 0 ∨ f q 4 = 0 ∨ f k 4 = f q 4) then -1 else dz_lT (f k 5) (f q 6)
theorem dz_nin {x v : Int32} {n : Nat} (hx : x = nI n) (hn : n < 2 ^ 31) (h : ¬ ∃ k, k < n ∧ v = nI k) : ¬ (0 ≤ v ∧ v < x) := fun q => h (dz_ofI hx hn q)
set_option maxRecDepth 100000 in
set_option maxHeartbeats 4000000 in
theorem c_X1_leastTurn (π : dz_Pl) (Λ : Nat → dz_Ds) (N : Nat) (h w : Int32) (I : dz_MI) (J : dz_MJ) : dz_Cl π Λ N mX1_leastTurn 1 22 [.inl h, .inl w] I J (dz_Pu (.inl (dz_lT h w)) I J) := by
  refine dz_body (own := 1) dz_mX1_leastTurn rfl (Nat.le_of_ble_eq_true rfl) (fun V hV => ?_)
  have loop : ∀ (fu i : Nat), 16 < i + fu → i ≤ 16 → (¬ (h = 0 ∨ w = 0)) → (∀ j, j < i → ¬ dz_tu h (nI j) = w) → V 12 I J [(0, .inl h), (1, .inl w), (2, .inl (nI (i)))] [] := by
    intro fu
    induction fu with
    | zero => intro i h1 h2; exact absurd h1 (by omega)
    | succ fu ih =>
      intro i h1 h2 hz hi
      refine dr_iload_n 12 hV dX1_leastTurn_12 rfl ?_
      refine dr_bipush (v := nI 16) 13 hV dX1_leastTurn_13 (by decide) ?_
      refine dn_icmp_ge (tgt := 35) 15 hV dX1_leastTurn_15 (by decide) (by omega) (by omega) (fun c15 => ?_) (fun c15 => ?_)
      · refine dr_iconst (v := (-1)) 35 hV dX1_leastTurn_35 (by decide) ?_
        exact dr_iret 36 hV dX1_leastTurn_36 rfl (by first | rfl | exact dz_bn) (dz_pue (by clear hV ih; unfold dz_lT; rw [if_neg hz, dz_find_n (fun j hj => by simpa using hi j (by omega))]))
      · refine dr_iload_n 18 hV dX1_leastTurn_18 rfl ?_
        refine dr_iload_n 19 hV dX1_leastTurn_19 rfl ?_
        refine dr_csp2 20 hV (Or.inl dz_lX1_68) dX1_leastTurn_20 (by decide) (by decide) (Nat.le_of_ble_eq_true rfl) (c_X1_turned π _ _ _ _ _ _) ?_
        refine dr_iload_n 23 hV dX1_leastTurn_23 rfl ?_
        refine dr_icmp_ne (tgt := 29) 24 hV dX1_leastTurn_24 (by decide) (fun c24 => ?_) (fun c24 => ?_)
        · refine dr_iinc1 29 hV dX1_leastTurn_29 (by decide) rfl ?_
          refine dr_goto (tgt := 12) 32 hV dX1_leastTurn_32 (by decide) ?_
          refine dr_sub hV (ls2 := [(0, .inl h), (1, .inl w), (2, .inl (nI (i + 1)))]) rfl ?_
          exact ih (i + 1) (by omega) (by omega) hz (lt_s hi c24)
        · refine dr_iload_n 27 hV dX1_leastTurn_27 rfl ?_
          exact dr_iret 28 hV dX1_leastTurn_28 rfl (by first | rfl | exact dz_bn) (dz_pue (by clear hV ih; unfold dz_lT; rw [if_neg hz, dz_find_s c15 (by simpa using c24) (fun j hj => by simpa using hi j hj)]))
  refine dr_iload_n 0 hV dX1_leastTurn_0 rfl ?_
  first | refine dr_ifb_eq (tgt := 8) 1 hV dX1_leastTurn_1 (by decide) (fun c1 => ?_) (fun c1 => ?_) | refine dr_if_eq (tgt := 8) 1 hV dX1_leastTurn_1 (by decide) (fun c1 => ?_) (fun c1 => ?_)
  · refine dr_iconst (v := nI 0) 8 hV dX1_leastTurn_8 (by decide) ?_
    exact dr_iret 9 hV dX1_leastTurn_9 rfl (by first | rfl | exact dz_bn) (dz_pue (by clear hV; unfold dz_lT; rw [if_pos (by first | exact Or.inl c1 | exact Or.inr c5)]))
  · refine dr_iload_n 4 hV dX1_leastTurn_4 rfl ?_
    first | refine dr_ifb_ne (tgt := 10) 5 hV dX1_leastTurn_5 (by decide) (fun c5 => ?_) (fun c5 => ?_) | refine dr_if_ne (tgt := 10) 5 hV dX1_leastTurn_5 (by decide) (fun c5 => ?_) (fun c5 => ?_)
    · refine dr_iconst (v := nI 0) 10 hV dX1_leastTurn_10 (by decide) ?_
      refine dr_istore_n 11 hV dX1_leastTurn_11 (by decide) ?_
      refine dr_sub hV (ls2 := [(0, .inl h), (1, .inl w), (2, .inl (nI (0)))]) rfl ?_
      exact loop 17 0 (by omega) (by omega) (fun q => q.elim c1 c5) (fun j hj => absurd hj (by omega))
    · refine dr_iconst (v := nI 0) 8 hV dX1_leastTurn_8 (by decide) ?_
      exact dr_iret 9 hV dX1_leastTurn_9 rfl (by first | rfl | exact dz_bn) (dz_pue (by clear hV; unfold dz_lT; rw [if_pos (by first | exact Or.inl c1 | exact Or.inr c5)]))
set_option maxRecDepth 100000 in
set_option maxHeartbeats 4000000 in
theorem c_X1_turnOn (π : dz_Pl) {k q n : Nat} (tol : Int32) (I : dz_MI) (J : dz_MJ) (hn : I 1 3 = nI n) (h10 : n ≤ 10) (hk : k < n) (hq : q < n) (hkq : ¬ k = q) : dz_Cl π dz_Y 62 mX1_turnOn 2 44 [.inr (.inr 1), .inl (nI k), .inl (nI q), .inl tol] I J (dz_Pu (.inl (dz_tO (fun d w => I (24 + d) w) tol k q)) I J) := by
  refine dz_body (own := 1) dz_mX1_turnOn rfl (Nat.le_of_ble_eq_true rfl) (fun V hV => ?_)
  refine dr_aload_n 0 hV dX1_turnOn_0 rfl ?_
  refine dr_iload_n 1 hV dX1_turnOn_1 rfl ?_
  refine dr_cvp1 2 hV dz_lX1_24 dX1_turnOn_2 (by decide) (by decide) ⟨by decide, _, _, rfl, by decide, rfl⟩ (Nat.le_of_ble_eq_true rfl) (c_X1_has π _ _ _) ?_
  first | refine dr_ifb_eq (tgt := 21) 5 hV dX1_turnOn_5 (by decide) (fun c5 => ?_) (fun c5 => ?_) | refine dr_if_eq (tgt := 21) 5 hV dX1_turnOn_5 (by decide) (fun c5 => ?_) (fun c5 => ?_)
  · exact absurd (dz_inI hn hk (by omega)) c5
  · refine dr_aload_n 8 hV dX1_turnOn_8 rfl ?_
    refine dr_iload_n 9 hV dX1_turnOn_9 rfl ?_
    refine dr_cvp1 10 hV dz_lX1_24 dX1_turnOn_10 (by decide) (by decide) ⟨by decide, _, _, rfl, by decide, rfl⟩ (Nat.le_of_ble_eq_true rfl) (c_X1_has π _ _ _) ?_
    first | refine dr_ifb_eq (tgt := 21) 13 hV dX1_turnOn_13 (by decide) (fun c13 => ?_) (fun c13 => ?_) | refine dr_if_eq (tgt := 21) 13 hV dX1_turnOn_13 (by decide) (fun c13 => ?_) (fun c13 => ?_)
    · exact absurd (dz_inI hn hq (by omega)) c13
    · refine dr_iload_n 16 hV dX1_turnOn_16 rfl ?_
      refine dr_iload_n 17 hV dX1_turnOn_17 rfl ?_
      refine dn_icmp_ne (tgt := 23) 18 hV dX1_turnOn_18 (by decide) (by omega) (by omega) (fun c18 => ?_) (fun c18 => ?_)
      · refine dr_aload_n 23 hV dX1_turnOn_23 rfl ?_
        refine dr_geta 24 hV dX1_turnOn_24 (by decide) (by decide) rfl rfl rfl ?_
        refine dr_iload_n 27 hV dX1_turnOn_27 rfl ?_
        refine dr_aaldi 28 hV dX1_turnOn_28 (by decide) rfl rfl (by omega) (by decide) ?_
        refine dr_astore 29 hV dX1_turnOn_29 (by decide) ?_
        refine dr_aload_n 31 hV dX1_turnOn_31 rfl ?_
        refine dr_geta 32 hV dX1_turnOn_32 (by decide) (by decide) rfl rfl rfl ?_
        refine dr_iload_n 35 hV dX1_turnOn_35 rfl ?_
        refine dr_aaldi 36 hV dX1_turnOn_36 (by decide) rfl rfl (by omega) (by decide) ?_
        refine dr_astore 37 hV dX1_turnOn_37 (by decide) ?_
        refine dr_aload 39 hV dX1_turnOn_39 rfl ?_
        refine dr_iconst (v := nI 2) 41 hV dX1_turnOn_41 (by decide) ?_
        refine dr_iald 42 hV dX1_turnOn_42 (by omega) (dz_Y_f (by omega)) rfl (by omega) (by decide) rfl ?_
        refine dr_aload 43 hV dX1_turnOn_43 rfl ?_
        refine dr_iconst (v := nI 2) 45 hV dX1_turnOn_45 (by decide) ?_
        refine dr_iald 46 hV dX1_turnOn_46 (by omega) (dz_Y_f (by omega)) rfl (by omega) (by decide) rfl ?_
        refine dr_iadd 47 hV dX1_turnOn_47 rfl ?_
        refine dr_iload_n 48 hV dX1_turnOn_48 rfl ?_
        refine dr_iadd 49 hV dX1_turnOn_49 rfl ?_
        refine dr_istore 50 hV dX1_turnOn_50 (by decide) ?_
        refine dr_aload 52 hV dX1_turnOn_52 rfl ?_
        refine dr_iconst (v := nI 0) 54 hV dX1_turnOn_54 (by decide) ?_
        refine dr_iald 55 hV dX1_turnOn_55 (by omega) (dz_Y_f (by omega)) rfl (by omega) (by decide) rfl ?_
        refine dr_aload 56 hV dX1_turnOn_56 rfl ?_
        refine dr_iconst (v := nI 1) 58 hV dX1_turnOn_58 (by decide) ?_
        refine dr_iald 59 hV dX1_turnOn_59 (by omega) (dz_Y_f (by omega)) rfl (by omega) (by decide) rfl ?_
        refine dr_isub 60 hV dX1_turnOn_60 rfl ?_
        refine dr_abs 61 hV dX1_turnOn_61 dz_j1_42 (by decide) (by decide) (Nat.le_of_ble_eq_true rfl) ?_
        refine dr_iload 64 hV dX1_turnOn_64 rfl ?_
        refine dr_icmp_gt (tgt := 83) 66 hV dX1_turnOn_66 (by decide) (fun c66 => ?_) (fun c66 => ?_)
        · refine dr_iconst (v := (-1)) 83 hV dX1_turnOn_83 (by decide) ?_
          exact dr_iret 84 hV dX1_turnOn_84 rfl (by first | rfl | exact dz_bn) (dz_pue (by clear hV; unfold dz_tO; rw [if_pos (by first | exact Or.inl c66 | exact Or.inr c80)]))
        · refine dr_aload 69 hV dX1_turnOn_69 rfl ?_
          refine dr_iconst (v := nI 4) 71 hV dX1_turnOn_71 (by decide) ?_
          refine dr_iald 72 hV dX1_turnOn_72 (by omega) (dz_Y_f (by omega)) rfl (by omega) (by decide) rfl ?_
          refine dr_aload 73 hV dX1_turnOn_73 rfl ?_
          refine dr_iconst (v := nI 4) 75 hV dX1_turnOn_75 (by decide) ?_
          refine dr_iald 76 hV dX1_turnOn_76 (by omega) (dz_Y_f (by omega)) rfl (by omega) (by decide) rfl ?_
          refine dr_csp2 77 hV (Or.inl dz_lX1_48) dX1_turnOn_77 (by decide) (by decide) (Nat.le_of_ble_eq_true rfl) (c_X1_areAlike π _ _ _ _ _ _) ?_
          first | refine dr_ifb_ne (tgt := 85) 80 hV dX1_turnOn_80 (by decide) (fun c80 => ?_) (fun c80 => ?_) | refine dr_if_ne (tgt := 85) 80 hV dX1_turnOn_80 (by decide) (fun c80 => ?_) (fun c80 => ?_)
          · refine dr_aload 85 hV dX1_turnOn_85 rfl ?_
            refine dr_iconst (v := nI 5) 87 hV dX1_turnOn_87 (by decide) ?_
            refine dr_iald 88 hV dX1_turnOn_88 (by omega) (dz_Y_f (by omega)) rfl (by omega) (by decide) rfl ?_
            refine dr_aload 89 hV dX1_turnOn_89 rfl ?_
            refine dr_bipush (v := nI 6) 91 hV dX1_turnOn_91 (by decide) ?_
            refine dr_iald 93 hV dX1_turnOn_93 (by omega) (dz_Y_f (by omega)) rfl (by omega) (by decide) rfl ?_
            refine dr_csp2 94 hV (Or.inl dz_lX1_52) dX1_turnOn_94 (by decide) (by decide) (Nat.le_of_ble_eq_true rfl) (c_X1_leastTurn π _ _ _ _ _ _) ?_
            exact dr_iret 97 hV dX1_turnOn_97 rfl (by first | rfl | exact dz_bn) (dz_pue (by clear hV; unfold dz_tO; rw [if_neg (fun h => h.elim c66 (fun h => h c80))]))
          · refine dr_iconst (v := (-1)) 83 hV dX1_turnOn_83 (by decide) ?_
            exact dr_iret 84 hV dX1_turnOn_84 rfl (by first | rfl | exact dz_bn) (dz_pue (by clear hV; unfold dz_tO; rw [if_pos (by first | exact Or.inl c66 | exact Or.inr c80)]))
      · exact absurd c18 hkq
set_option maxRecDepth 100000 in
set_option maxHeartbeats 4000000 in
theorem c_X1_turnOn_no (π : dz_Pl) {n : Nat} (u l tol : Int32) (I : dz_MI) (J : dz_MJ) (hn : I 1 3 = nI n) (h10 : n ≤ 10) (hno : ¬ ((0 ≤ u ∧ u < I 1 3) ∧ (0 ≤ l ∧ l < I 1 3) ∧ ¬ u = l)) : dz_Cl π dz_Y 62 mX1_turnOn 2 44 [.inr (.inr 1), .inl u, .inl l, .inl tol] I J (dz_Pu (.inl (-1)) I J) := by
  refine dz_body (own := 1) dz_mX1_turnOn rfl (Nat.le_of_ble_eq_true rfl) (fun V hV => ?_)
  refine dr_aload_n 0 hV dX1_turnOn_0 rfl ?_
  refine dr_iload_n 1 hV dX1_turnOn_1 rfl ?_
  refine dr_cvp1 2 hV dz_lX1_24 dX1_turnOn_2 (by decide) (by decide) ⟨by decide, _, _, rfl, by decide, rfl⟩ (Nat.le_of_ble_eq_true rfl) (c_X1_has π _ _ _) ?_
  first | refine dr_ifb_eq (tgt := 21) 5 hV dX1_turnOn_5 (by decide) (fun c5 => ?_) (fun c5 => ?_) | refine dr_if_eq (tgt := 21) 5 hV dX1_turnOn_5 (by decide) (fun c5 => ?_) (fun c5 => ?_)
  · refine dr_iconst (v := (-1)) 21 hV dX1_turnOn_21 (by decide) ?_
    exact dr_iret 22 hV dX1_turnOn_22 rfl (by first | rfl | exact dz_bn) dz_pu
  · refine dr_aload_n 8 hV dX1_turnOn_8 rfl ?_
    refine dr_iload_n 9 hV dX1_turnOn_9 rfl ?_
    refine dr_cvp1 10 hV dz_lX1_24 dX1_turnOn_10 (by decide) (by decide) ⟨by decide, _, _, rfl, by decide, rfl⟩ (Nat.le_of_ble_eq_true rfl) (c_X1_has π _ _ _) ?_
    first | refine dr_ifb_eq (tgt := 21) 13 hV dX1_turnOn_13 (by decide) (fun c13 => ?_) (fun c13 => ?_) | refine dr_if_eq (tgt := 21) 13 hV dX1_turnOn_13 (by decide) (fun c13 => ?_) (fun c13 => ?_)
    · refine dr_iconst (v := (-1)) 21 hV dX1_turnOn_21 (by decide) ?_
      exact dr_iret 22 hV dX1_turnOn_22 rfl (by first | rfl | exact dz_bn) dz_pu
    · refine dr_iload_n 16 hV dX1_turnOn_16 rfl ?_
      refine dr_iload_n 17 hV dX1_turnOn_17 rfl ?_
      refine dr_icmp_ne (tgt := 23) 18 hV dX1_turnOn_18 (by decide) (fun c18 => ?_) (fun c18 => ?_)
      · exact absurd ⟨c5, c13, c18⟩ hno
      · refine dr_iconst (v := (-1)) 21 hV dX1_turnOn_21 (by decide) ?_
        exact dr_iret 22 hV dX1_turnOn_22 rfl (by first | rfl | exact dz_bn) dz_pu
def dz_tP (f : Nat → Nat → Int32) (tol : Int32) (k q : Nat) : Int32 := if k = q then -1 else dz_tO f tol k q
theorem c_turnOn (π : dz_Pl) {k q n : Nat} (tol : Int32) (I : dz_MI) (J : dz_MJ) (hn : I 1 3 = nI n) (h10 : n ≤ 10) (hk : k < n) (hq : q < n) : dz_Cl π dz_Y 62 mX1_turnOn 2 44 [.inr (.inr 1), .inl (nI k), .inl (nI q), .inl tol] I J (dz_Pu (.inl (dz_tP (fun d w => I (24 + d) w) tol k q)) I J) := by
  by_cases e : k = q
  · unfold dz_tP
    rw [if_pos e]
    exact c_X1_turnOn_no π _ _ tol I J hn h10 (fun h => h.2.2 (by rw [e]))
  · unfold dz_tP
    rw [if_neg e]
    exact c_X1_turnOn π tol I J hn h10 hk hq e
theorem dz_bits_s {p : Nat → Bool} {i : Nat} (hi : i < 31) (h : p i = true) : nI (dz_bits p i) ||| nI 1 <<< (nI i &&& 31) = nI (dz_bits p (i + 1)) := by
  rw [dz_s1 hi, fa_or, dz_or_add (dz_bits_lt p i)]
  show _ = nI (dz_bits p i + if p i then 2 ^ i else 0)
  rw [if_pos h]
theorem dz_bits_n {p : Nat → Bool} {i : Nat} (h : p i = false) : dz_bits p (i + 1) = dz_bits p i := by
  show dz_bits p i + (if p i then 2 ^ i else 0) = _
  rw [h]; rfl
set_option maxRecDepth 100000 in
set_option maxHeartbeats 4000000 in
theorem c_X1_lyingOn (π : dz_Pl) {q n : Nat} (tol : Int32) (I : dz_MI) (J : dz_MJ) (hn : I 1 3 = nI n) (h10 : n ≤ 10) (hq : q < n) : dz_Cl π dz_Y 62 mX1_lyingOn 3 70 [.inr (.inr 1), .inl (nI q), .inl tol] I J (dz_Pu (.inl (nI (dz_bits (fun u => decide (¬ dz_tP (fun d w => I (24 + d) w) tol u q = -1)) n))) I J) := by
  refine dz_body (own := 1) dz_mX1_lyingOn rfl (Nat.le_of_ble_eq_true rfl) (fun V hV => ?_)
  have loop : ∀ (fu i : Nat), n < i + fu → i ≤ n → V 5 I J [(0, .inr (.inr 1)), (1, .inl (nI q)), (2, .inl tol), (3, .inl (nI (dz_bits (fun u => decide (¬ dz_tP (fun d w => I (24 + d) w) tol u q = -1)) (i)))), (4, .inl (nI (i)))] [] := by
    intro fu
    induction fu with
    | zero => intro i h1 h2; exact absurd h1 (by omega)
    | succ fu ih =>
      intro i h1 h2
      refine dr_iload 5 hV dX1_lyingOn_5 rfl ?_
      refine dr_aload_n 7 hV dX1_lyingOn_7 rfl ?_
      refine dr_geti 8 hV dX1_lyingOn_8 (by decide) (by decide) rfl rfl rfl hn ?_
      refine dn_icmp_ge (tgt := 39) 11 hV dX1_lyingOn_11 (by decide) (by omega) (by omega) (fun c11 => ?_) (fun c11 => ?_)
      · refine dr_iload_n 39 hV dX1_lyingOn_39 rfl ?_
        exact dr_iret 40 hV dX1_lyingOn_40 rfl (by first | rfl | exact dz_bn) (dz_pue (by rw [show i = n by omega]))
      · refine dr_aload_n 14 hV dX1_lyingOn_14 rfl ?_
        refine dr_iload 15 hV dX1_lyingOn_15 rfl ?_
        refine dr_iload_n 17 hV dX1_lyingOn_17 rfl ?_
        refine dr_iload_n 18 hV dX1_lyingOn_18 rfl ?_
        refine dr_cvp3 19 hV dz_lX1_56 dX1_lyingOn_19 (by decide) (by decide) ⟨by decide, _, _, rfl, by decide, rfl⟩ (Nat.le_of_ble_eq_true rfl) (c_turnOn π tol _ _ hn h10 (by omega) hq) ?_
        refine dr_iconst (v := (-1)) 22 hV dX1_lyingOn_22 (by decide) ?_
        refine dr_icmp_eq (tgt := 33) 23 hV dX1_lyingOn_23 (by decide) (fun c23 => ?_) (fun c23 => ?_)
        · rw [← dz_bits_n (p := (fun u => decide (¬ dz_tP (fun d w => I (24 + d) w) tol u q = -1))) (i := i) (by simp [c23])]
          refine dr_iinc1 33 hV dX1_lyingOn_33 (by decide) rfl ?_
          refine dr_goto (tgt := 5) 36 hV dX1_lyingOn_36 (by decide) ?_
          refine dr_sub hV (ls2 := [(0, .inr (.inr 1)), (1, .inl (nI q)), (2, .inl tol), (3, .inl (nI (dz_bits (fun u => decide (¬ dz_tP (fun d w => I (24 + d) w) tol u q = -1)) (i + 1)))), (4, .inl (nI (i + 1)))]) rfl ?_
          exact ih (i + 1) (by omega) (by omega)
        · refine dr_iload_n 26 hV dX1_lyingOn_26 rfl ?_
          refine dr_iconst (v := nI 1) 27 hV dX1_lyingOn_27 (by decide) ?_
          refine dr_iload 28 hV dX1_lyingOn_28 rfl ?_
          refine dr_ishl 30 hV dX1_lyingOn_30 rfl ?_
          refine dr_ior (z := nI (dz_bits (fun u => decide (¬ dz_tP (fun d w => I (24 + d) w) tol u q = -1)) (i + 1))) 31 hV dX1_lyingOn_31 (dz_bits_s (by omega) (by simp [c23])) ?_
          refine dr_istore_n 32 hV dX1_lyingOn_32 (by decide) ?_
          refine dr_iinc1 33 hV dX1_lyingOn_33 (by decide) rfl ?_
          refine dr_goto (tgt := 5) 36 hV dX1_lyingOn_36 (by decide) ?_
          refine dr_sub hV (ls2 := [(0, .inr (.inr 1)), (1, .inl (nI q)), (2, .inl tol), (3, .inl (nI (dz_bits (fun u => decide (¬ dz_tP (fun d w => I (24 + d) w) tol u q = -1)) (i + 1)))), (4, .inl (nI (i + 1)))]) rfl ?_
          exact ih (i + 1) (by omega) (by omega)
  refine dr_iconst (v := nI 0) 0 hV dX1_lyingOn_0 (by decide) ?_
  refine dr_istore_n 1 hV dX1_lyingOn_1 (by decide) ?_
  refine dr_iconst (v := nI 0) 2 hV dX1_lyingOn_2 (by decide) ?_
  refine dr_istore 3 hV dX1_lyingOn_3 (by decide) ?_
  refine dr_sub hV (ls2 := [(0, .inr (.inr 1)), (1, .inl (nI q)), (2, .inl tol), (3, .inl (nI (dz_bits (fun u => decide (¬ dz_tP (fun d w => I (24 + d) w) tol u q = -1)) (0)))), (4, .inl (nI (0)))]) rfl ?_
  exact loop (n + 1) 0 (by omega) (by omega)
def dz_u (x y : Int32) : Int32 := (x.toUInt32 >>> (y.toUInt32 &&& Int32.toUInt32 31)).toInt32
def dz_bc1 (x : Int32) : Int32 := x - (dz_u x (nI 1) &&& 1431655765)
def dz_bc2 (x : Int32) : Int32 := (x &&& 858993459) + (dz_u x (nI 2) &&& 858993459)
def dz_bc3 (x : Int32) : Int32 := (x + dz_u x (nI 4)) &&& 252645135
def dz_bc4 (x : Int32) : Int32 := x + dz_u x (nI 8)
def dz_bc5 (x : Int32) : Int32 := (x + dz_u x (nI 16)) &&& nI 63
theorem dz_uN {x k : Nat} (hx : x < 2 ^ 31) (hk : k < 32) : dz_u (nI x) (nI k) = nI (x / 2 ^ k) := pk_ushrN (by omega) (nI k) k (s_u k hk)
def dz_e1 (x : Nat) : Nat := x - (x / 2 ^ 1 &&& 1431655765)
def dz_e2 (x : Nat) : Nat := (x &&& 858993459) + (x / 2 ^ 2 &&& 858993459)
def dz_e3 (x : Nat) : Nat := (x + x / 2 ^ 4) &&& 252645135
def dz_e4 (x : Nat) : Nat := x + x / 2 ^ 8
def dz_e5 (x : Nat) : Nat := (x + x / 2 ^ 16) &&& 63
theorem dz_bcN : ∀ x, x < 1024 → dz_e5 (dz_e4 (dz_e3 (dz_e2 (dz_e1 x)))) = fa_cnt (fun i => x.testBit i) 10 := by decide +kernel
theorem dz_bcL : ∀ x, x < 1024 → dz_e1 x < 2 ^ 30 ∧ dz_e2 (dz_e1 x) < 2 ^ 30 ∧ dz_e3 (dz_e2 (dz_e1 x)) < 2 ^ 30 ∧ dz_e4 (dz_e3 (dz_e2 (dz_e1 x))) < 2 ^ 30 := by decide +kernel
theorem dz_bcnt (x : Nat) (hx : x < 1024) : dz_bc5 (dz_bc4 (dz_bc3 (dz_bc2 (dz_bc1 (nI x))))) = nI (fa_cnt (fun i => x.testBit i) 10) := by
  obtain ⟨h1, h2, h3, h4⟩ := dz_bcL x hx
  have e1 : dz_bc1 (nI x) = nI (dz_e1 x) := by
    unfold dz_bc1 dz_e1
    rw [dz_uN (by omega) (by decide), show (1431655765 : Int32) = nI 1431655765 from rfl, fa_and, pk_sub]
    exact Nat.le_trans Nat.and_le_left (Nat.div_le_self _ _)
  have e2 : dz_bc2 (nI (dz_e1 x)) = nI (dz_e2 (dz_e1 x)) := by
    unfold dz_bc2 dz_e2
    rw [dz_uN (by omega) (by decide), show (858993459 : Int32) = nI 858993459 from rfl, fa_and, fa_and, nI_add]
  have e3 : dz_bc3 (nI (dz_e2 (dz_e1 x))) = nI (dz_e3 (dz_e2 (dz_e1 x))) := by
    unfold dz_bc3 dz_e3
    rw [dz_uN (by omega) (by decide), show (252645135 : Int32) = nI 252645135 from rfl, nI_add, fa_and]
  have e4 : dz_bc4 (nI (dz_e3 (dz_e2 (dz_e1 x)))) = nI (dz_e4 (dz_e3 (dz_e2 (dz_e1 x)))) := by
    unfold dz_bc4 dz_e4
    rw [dz_uN (by omega) (by decide), nI_add]
  have e5 : dz_bc5 (nI (dz_e4 (dz_e3 (dz_e2 (dz_e1 x))))) = nI (dz_e5 (dz_e4 (dz_e3 (dz_e2 (dz_e1 x))))) := by
    unfold dz_bc5 dz_e5
    rw [dz_uN (by omega) (by decide), nI_add, fa_and]
  rw [e1, e2, e3, e4, e5, dz_bcN x hx]
set_option maxRecDepth 100000 in
set_option maxHeartbeats 4000000 in
theorem c_J6_bitCount_0f7a4 (π : dz_Pl) (Λ : Nat → dz_Ds) (N : Nat) {x : Nat} (I : dz_MI) (J : dz_MJ) (hx : x < 1024) : dz_Cl π Λ N mJ6_bitCount_0f7a4 0 0 [.inl (nI x)] I J (dz_Pu (.inl (nI (fa_cnt (fun i => x.testBit i) 10))) I J) := by
  refine dz_body (own := 6) dz_mJ6_bitCount_0f7a4 rfl (Nat.le_of_ble_eq_true rfl) (fun V hV => ?_)
  refine dr_iload_n 0 hV dJ6_bitCount_0f7a4_0 rfl ?_
  refine dr_iload_n 1 hV dJ6_bitCount_0f7a4_1 rfl ?_
  refine dr_iconst (v := nI 1) 2 hV dJ6_bitCount_0f7a4_2 (by decide) ?_
  refine dr_iushr 3 hV dJ6_bitCount_0f7a4_3 rfl ?_
  refine dr_ldc_w 4 hV dJ6_bitCount_0f7a4_4 dz_kJ6_265 ?_
  refine dr_iand 7 hV dJ6_bitCount_0f7a4_7 rfl ?_
  refine dr_isub 8 hV dJ6_bitCount_0f7a4_8 rfl ?_
  refine dr_istore_n 9 hV dJ6_bitCount_0f7a4_9 (by decide) ?_
  refine dr_iload_n 10 hV dJ6_bitCount_0f7a4_10 rfl ?_
  refine dr_ldc_w 11 hV dJ6_bitCount_0f7a4_11 dz_kJ6_266 ?_
  refine dr_iand 14 hV dJ6_bitCount_0f7a4_14 rfl ?_
  refine dr_iload_n 15 hV dJ6_bitCount_0f7a4_15 rfl ?_
  refine dr_iconst (v := nI 2) 16 hV dJ6_bitCount_0f7a4_16 (by decide) ?_
  refine dr_iushr 17 hV dJ6_bitCount_0f7a4_17 rfl ?_
  refine dr_ldc_w 18 hV dJ6_bitCount_0f7a4_18 dz_kJ6_266 ?_
  refine dr_iand 21 hV dJ6_bitCount_0f7a4_21 rfl ?_
  refine dr_iadd 22 hV dJ6_bitCount_0f7a4_22 rfl ?_
  refine dr_istore_n 23 hV dJ6_bitCount_0f7a4_23 (by decide) ?_
  refine dr_iload_n 24 hV dJ6_bitCount_0f7a4_24 rfl ?_
  refine dr_iload_n 25 hV dJ6_bitCount_0f7a4_25 rfl ?_
  refine dr_iconst (v := nI 4) 26 hV dJ6_bitCount_0f7a4_26 (by decide) ?_
  refine dr_iushr 27 hV dJ6_bitCount_0f7a4_27 rfl ?_
  refine dr_iadd 28 hV dJ6_bitCount_0f7a4_28 rfl ?_
  refine dr_ldc_w 29 hV dJ6_bitCount_0f7a4_29 dz_kJ6_267 ?_
  refine dr_iand 32 hV dJ6_bitCount_0f7a4_32 rfl ?_
  refine dr_istore_n 33 hV dJ6_bitCount_0f7a4_33 (by decide) ?_
  refine dr_iload_n 34 hV dJ6_bitCount_0f7a4_34 rfl ?_
  refine dr_iload_n 35 hV dJ6_bitCount_0f7a4_35 rfl ?_
  refine dr_bipush (v := nI 8) 36 hV dJ6_bitCount_0f7a4_36 (by decide) ?_
  refine dr_iushr 38 hV dJ6_bitCount_0f7a4_38 rfl ?_
  refine dr_iadd 39 hV dJ6_bitCount_0f7a4_39 rfl ?_
  refine dr_istore_n 40 hV dJ6_bitCount_0f7a4_40 (by decide) ?_
  refine dr_iload_n 41 hV dJ6_bitCount_0f7a4_41 rfl ?_
  refine dr_iload_n 42 hV dJ6_bitCount_0f7a4_42 rfl ?_
  refine dr_bipush (v := nI 16) 43 hV dJ6_bitCount_0f7a4_43 (by decide) ?_
  refine dr_iushr 45 hV dJ6_bitCount_0f7a4_45 rfl ?_
  refine dr_iadd 46 hV dJ6_bitCount_0f7a4_46 rfl ?_
  refine dr_istore_n 47 hV dJ6_bitCount_0f7a4_47 (by decide) ?_
  refine dr_iload_n 48 hV dJ6_bitCount_0f7a4_48 rfl ?_
  refine dr_bipush (v := nI 63) 49 hV dJ6_bitCount_0f7a4_49 (by decide) ?_
  refine dr_iand 51 hV dJ6_bitCount_0f7a4_51 rfl ?_
  exact dr_iret 52 hV dJ6_bitCount_0f7a4_52 rfl (by first | rfl | exact dz_bn) (dz_pue (dz_bcnt x hx))
set_option maxRecDepth 100000 in
set_option maxHeartbeats 4000000 in
theorem c_X1_pairsLying (π : dz_Pl) {n : Nat} (tol : Int32) (I : dz_MI) (J : dz_MJ) (hn : I 1 3 = nI n) (h10 : n ≤ 10) : dz_Cl π dz_Y 62 mX1_pairsLying 4 94 [.inr (.inr 1), .inl tol] I J (dz_Pu (.inl (nI (fb_sm (fun q => fa_cnt (fun i => (dz_bits (fun u => decide (¬ dz_tP (fun d w => I (24 + d) w) tol u q = -1)) n).testBit i) 10) n))) I J) := by
  refine dz_body (own := 1) dz_mX1_pairsLying rfl (Nat.le_of_ble_eq_true rfl) (fun V hV => ?_)
  have loop : ∀ (fu i : Nat), n < i + fu → i ≤ n → V 4 I J [(0, .inr (.inr 1)), (1, .inl tol), (2, .inl (nI (fb_sm (fun q => fa_cnt (fun i => (dz_bits (fun u => decide (¬ dz_tP (fun d w => I (24 + d) w) tol u q = -1)) n).testBit i) 10) (i)))), (3, .inl (nI (i)))] [] := by
    intro fu
    induction fu with
    | zero => intro i h1 h2; exact absurd h1 (by omega)
    | succ fu ih =>
      intro i h1 h2
      refine dr_iload_n 4 hV dX1_pairsLying_4 rfl ?_
      refine dr_aload_n 5 hV dX1_pairsLying_5 rfl ?_
      refine dr_geti 6 hV dX1_pairsLying_6 (by decide) (by decide) rfl rfl rfl hn ?_
      refine dn_icmp_ge (tgt := 30) 9 hV dX1_pairsLying_9 (by decide) (by omega) (by omega) (fun c9 => ?_) (fun c9 => ?_)
      · refine dr_iload_n 30 hV dX1_pairsLying_30 rfl ?_
        exact dr_iret 31 hV dX1_pairsLying_31 rfl (by first | rfl | exact dz_bn) (dz_pue (by rw [show i = n by omega]))
      · refine dr_iload_n 12 hV dX1_pairsLying_12 rfl ?_
        refine dr_aload_n 13 hV dX1_pairsLying_13 rfl ?_
        refine dr_iload_n 14 hV dX1_pairsLying_14 rfl ?_
        refine dr_iload_n 15 hV dX1_pairsLying_15 rfl ?_
        refine dr_cvp2 16 hV dz_lX1_60 dX1_pairsLying_16 (by decide) (by decide) ⟨by decide, _, _, rfl, by decide, rfl⟩ (Nat.le_of_ble_eq_true rfl) (c_X1_lyingOn π tol _ _ hn h10 (by omega)) ?_
        refine dr_csp1 19 hV (Or.inl dz_lX1_63) dX1_pairsLying_19 (by decide) (by decide) (Nat.le_of_ble_eq_true rfl) (c_J6_bitCount_0f7a4 π _ _ _ _ (Nat.lt_of_lt_of_le (dz_bits_lt _ n) (Nat.pow_le_pow_right (by decide) h10))) ?_
        refine dr_iadd (z := nI (fb_sm (fun q => fa_cnt (fun i => (dz_bits (fun u => decide (¬ dz_tP (fun d w => I (24 + d) w) tol u q = -1)) n).testBit i) 10) (i + 1))) 22 hV dX1_pairsLying_22 (nI_add _ _) ?_
        refine dr_istore_n 23 hV dX1_pairsLying_23 (by decide) ?_
        refine dr_iinc1 24 hV dX1_pairsLying_24 (by decide) rfl ?_
        refine dr_goto (tgt := 4) 27 hV dX1_pairsLying_27 (by decide) ?_
        refine dr_sub hV (ls2 := [(0, .inr (.inr 1)), (1, .inl tol), (2, .inl (nI (fb_sm (fun q => fa_cnt (fun i => (dz_bits (fun u => decide (¬ dz_tP (fun d w => I (24 + d) w) tol u q = -1)) n).testBit i) 10) (i + 1)))), (3, .inl (nI (i + 1)))]) rfl ?_
        exact ih (i + 1) (by omega) (by omega)
  refine dr_iconst (v := nI 0) 0 hV dX1_pairsLying_0 (by decide) ?_
  refine dr_istore_n 1 hV dX1_pairsLying_1 (by decide) ?_
  refine dr_iconst (v := nI 0) 2 hV dX1_pairsLying_2 (by decide) ?_
  refine dr_istore_n 3 hV dX1_pairsLying_3 (by decide) ?_
  refine dr_sub hV (ls2 := [(0, .inr (.inr 1)), (1, .inl tol), (2, .inl (nI (fb_sm (fun q => fa_cnt (fun i => (dz_bits (fun u => decide (¬ dz_tP (fun d w => I (24 + d) w) tol u q = -1)) n).testBit i) 10) (0)))), (3, .inl (nI (0)))]) rfl ?_
  exact loop (n + 1) 0 (by omega) (by omega)
def dz_mean (f : Nat → Int32) (n : Nat) : Int32 := if n = 0 then nI 0 else dz_sumI f n / nI n
set_option maxRecDepth 100000 in
set_option maxHeartbeats 4000000 in
theorem c_X1_meanHeight (π : dz_Pl) {n : Nat} (I : dz_MI) (J : dz_MJ) (hn : I 1 3 = nI n) (h10 : n ≤ 10) : dz_Cl π dz_Y 62 mX1_meanHeight 0 0 [.inr (.inr 1)] I J (dz_Pu (.inl (dz_mean (fun d => I (24 + d) 3) n)) I J) := by
  refine dz_body (own := 1) dz_mX1_meanHeight rfl (Nat.le_of_ble_eq_true rfl) (fun V hV => ?_)
  have loop : ∀ (fu i : Nat), n < i + fu → i ≤ n → V 4 I J [(0, .inr (.inr 1)), (1, .inl (dz_sumI (fun d => I (24 + d) 3) (i))), (2, .inl (nI (i)))] [] := by
    intro fu
    induction fu with
    | zero => intro i h1 h2; exact absurd h1 (by omega)
    | succ fu ih =>
      intro i h1 h2
      refine dr_iload_n 4 hV dX1_meanHeight_4 rfl ?_
      refine dr_aload_n 5 hV dX1_meanHeight_5 rfl ?_
      refine dr_geti 6 hV dX1_meanHeight_6 (by decide) (by decide) rfl rfl rfl hn ?_
      refine dn_icmp_ge (tgt := 29) 9 hV dX1_meanHeight_9 (by decide) (by omega) (by omega) (fun c9 => ?_) (fun c9 => ?_)
      · refine dr_aload_n 29 hV dX1_meanHeight_29 rfl ?_
        refine dr_geti 30 hV dX1_meanHeight_30 (by decide) (by decide) rfl rfl rfl hn ?_
        refine dr_if_ne (tgt := 40) 33 hV dX1_meanHeight_33 (by decide) (fun c33 => ?_) (fun c33 => ?_)
        · refine dr_iload_n 40 hV dX1_meanHeight_40 rfl ?_
          refine dr_aload_n 41 hV dX1_meanHeight_41 rfl ?_
          refine dr_geti 42 hV dX1_meanHeight_42 (by decide) (by decide) rfl rfl rfl hn ?_
          refine dr_idiv 45 hV dX1_meanHeight_45 (by rw [← nI_0, nI_eq (by omega) (by decide)] at c33 ⊢; exact c33) rfl ?_
          exact dr_iret 46 hV dX1_meanHeight_46 rfl (by first | rfl | exact dz_bn) (dz_pue (by clear hV ih; have hin : i = n := (by omega); subst hin; unfold dz_mean; rw [← nI_0, nI_eq (by omega) (by decide)] at c33; simp [c33]))
        · refine dr_iconst (v := nI 0) 36 hV dX1_meanHeight_36 (by decide) ?_
          refine dr_goto (tgt := 46) 37 hV dX1_meanHeight_37 (by decide) ?_
          exact dr_iret 46 hV dX1_meanHeight_46 rfl (by first | rfl | exact dz_bn) (dz_pue (by clear hV ih; have hin : i = n := (by omega); subst hin; unfold dz_mean; rw [← nI_0, nI_eq (by omega) (by decide)] at c33; simp [c33]))
      · refine dr_iload_n 12 hV dX1_meanHeight_12 rfl ?_
        refine dr_aload_n 13 hV dX1_meanHeight_13 rfl ?_
        refine dr_geta 14 hV dX1_meanHeight_14 (by decide) (by decide) rfl rfl rfl ?_
        refine dr_iload_n 17 hV dX1_meanHeight_17 rfl ?_
        refine dr_aaldi 18 hV dX1_meanHeight_18 (by decide) rfl rfl (by omega) (by decide) ?_
        refine dr_iconst (v := nI 3) 19 hV dX1_meanHeight_19 (by decide) ?_
        refine dr_iald 20 hV dX1_meanHeight_20 (by omega) (dz_Y_f (by omega)) rfl (by omega) (by decide) rfl ?_
        refine dr_iadd (z := dz_sumI (fun d => I (24 + d) 3) (i + 1)) 21 hV dX1_meanHeight_21 rfl ?_
        refine dr_istore_n 22 hV dX1_meanHeight_22 (by decide) ?_
        refine dr_iinc1 23 hV dX1_meanHeight_23 (by decide) rfl ?_
        refine dr_goto (tgt := 4) 26 hV dX1_meanHeight_26 (by decide) ?_
        refine dr_sub hV (ls2 := [(0, .inr (.inr 1)), (1, .inl (dz_sumI (fun d => I (24 + d) 3) (i + 1))), (2, .inl (nI (i + 1)))]) rfl ?_
        exact ih (i + 1) (by omega) (by omega)
  refine dr_iconst (v := nI 0) 0 hV dX1_meanHeight_0 (by decide) ?_
  refine dr_istore_n 1 hV dX1_meanHeight_1 (by decide) ?_
  refine dr_iconst (v := nI 0) 2 hV dX1_meanHeight_2 (by decide) ?_
  refine dr_istore_n 3 hV dX1_meanHeight_3 (by decide) ?_
  refine dr_sub hV (ls2 := [(0, .inr (.inr 1)), (1, .inl (dz_sumI (fun d => I (24 + d) 3) (0))), (2, .inl (nI (0)))]) rfl ?_
  exact loop (n + 1) 0 (by omega) (by omega)
set_option maxRecDepth 100000 in
set_option maxHeartbeats 4000000 in
theorem c_X3_toldNumber (π : dz_Pl) (I : dz_MI) (J : dz_MJ) : dz_Cl π dz_Y 62 mX3_toldNumber 0 0 [.inr (.inr 3)] I J (dz_Pu (.inl (nI (fa_cnt (fun p => decide (¬ I 13 p = -1)) 8))) I J) := by
  refine dz_body (own := 3) dz_mX3_toldNumber rfl (Nat.le_of_ble_eq_true rfl) (fun V hV => ?_)
  have loop : ∀ (fu i : Nat), 8 < i + fu → i ≤ 8 → V 4 I J [(0, .inr (.inr 3)), (1, .inl (nI (fa_cnt (fun p => decide (¬ I 13 p = -1)) (i)))), (2, .inl (nI (i)))] [] := by
    intro fu
    induction fu with
    | zero => intro i h1 h2; exact absurd h1 (by omega)
    | succ fu ih =>
      intro i h1 h2
      refine dr_iload_n 4 hV dX3_toldNumber_4 rfl ?_
      refine dr_bipush (v := nI 8) 5 hV dX3_toldNumber_5 (by decide) ?_
      refine dn_icmp_ge (tgt := 29) 7 hV dX3_toldNumber_7 (by decide) (by omega) (by omega) (fun c7 => ?_) (fun c7 => ?_)
      · refine dr_iload_n 29 hV dX3_toldNumber_29 rfl ?_
        exact dr_iret 30 hV dX3_toldNumber_30 rfl (by first | rfl | exact dz_bn) (dz_pue (by rw [show i = 8 by omega]))
      · refine dr_aload_n 10 hV dX3_toldNumber_10 rfl ?_
        refine dr_geta 11 hV dX3_toldNumber_11 (by decide) (by decide) rfl rfl rfl ?_
        refine dr_iload_n 14 hV dX3_toldNumber_14 rfl ?_
        refine dr_iald 15 hV dX3_toldNumber_15 (by decide) rfl rfl (by omega) (by decide) rfl ?_
        refine dr_iconst (v := (-1)) 16 hV dX3_toldNumber_16 (by decide) ?_
        refine dr_icmp_eq (tgt := 23) 17 hV dX3_toldNumber_17 (by decide) (fun c17 => ?_) (fun c17 => ?_)
        · rw [← fa_cnt_no (p := (fun p => decide (¬ I 13 p = -1))) (n := i) (by simp [c17])]
          refine dr_iinc1 23 hV dX3_toldNumber_23 (by decide) rfl ?_
          refine dr_goto (tgt := 4) 26 hV dX3_toldNumber_26 (by decide) ?_
          refine dr_sub hV (ls2 := [(0, .inr (.inr 3)), (1, .inl (nI (fa_cnt (fun p => decide (¬ I 13 p = -1)) (i + 1)))), (2, .inl (nI (i + 1)))]) rfl ?_
          exact ih (i + 1) (by omega) (by omega)
        · have ec := fa_cnt_yes (p := (fun p => decide (¬ I 13 p = -1))) (n := i) (by simp [c17])
          refine dr_iinc 20 hV dX3_toldNumber_20 (by decide) rfl (v2 := nI (fa_cnt (fun p => decide (¬ I 13 p = -1)) (i + 1))) (by rw [ec]; exact dr_inc1 _) ?_
          refine dr_iinc1 23 hV dX3_toldNumber_23 (by decide) rfl ?_
          refine dr_goto (tgt := 4) 26 hV dX3_toldNumber_26 (by decide) ?_
          refine dr_sub hV (ls2 := [(0, .inr (.inr 3)), (1, .inl (nI (fa_cnt (fun p => decide (¬ I 13 p = -1)) (i + 1)))), (2, .inl (nI (i + 1)))]) rfl ?_
          exact ih (i + 1) (by omega) (by omega)
  refine dr_iconst (v := nI 0) 0 hV dX3_toldNumber_0 (by decide) ?_
  refine dr_istore_n 1 hV dX3_toldNumber_1 (by decide) ?_
  refine dr_iconst (v := nI 0) 2 hV dX3_toldNumber_2 (by decide) ?_
  refine dr_istore_n 3 hV dX3_toldNumber_3 (by decide) ?_
  refine dr_sub hV (ls2 := [(0, .inr (.inr 3)), (1, .inl (nI (fa_cnt (fun p => decide (¬ I 13 p = -1)) (0)))), (2, .inl (nI (0)))]) rfl ?_
  exact loop 9 0 (by omega) (by omega)
end
section
/-! THE YARD AS A VALUE: sg; what the model's and the yard's cells hold of it -/
abbrev dz_Sg : Type := (Nat × Nat × Nat) × (Nat → Nat) × (Nat → Nat) × (Nat → Nat) × (Nat → Nat → Int32) × (Nat → Int32) × (Nat → Int32) × (Nat → Int32) × (Nat → Nat → Bool) × (Int32 × Int32 × Int32) × Bool × (Nat → Int32)
def sg_n (s : dz_Sg) : Nat := s.1.1
def sg_c (s : dz_Sg) : Nat := s.1.2.1
def sg_p (s : dz_Sg) : Nat := s.1.2.2
def sg_b (s : dz_Sg) : Nat → Nat := s.2.1
def sg_h (s : dz_Sg) : Nat → Nat := s.2.2.1
def sg_col (s : dz_Sg) : Nat → Nat := s.2.2.2.1
def sg_f (s : dz_Sg) : Nat → Nat → Int32 := s.2.2.2.2.1
def sg_fo (s : dz_Sg) : Nat → Int32 := s.2.2.2.2.2.1
def sg_he (s : dz_Sg) : Nat → Int32 := s.2.2.2.2.2.2.1
def sg_wo (s : dz_Sg) : Nat → Int32 := s.2.2.2.2.2.2.2.1
def sg_nt (s : dz_Sg) : Nat → Nat → Bool := s.2.2.2.2.2.2.2.2.1
def sg_tol (s : dz_Sg) : Int32 := s.2.2.2.2.2.2.2.2.2.1.1
def sg_st (s : dz_Sg) : Int32 := s.2.2.2.2.2.2.2.2.2.1.2.1
def sg_ah (s : dz_Sg) : Int32 := s.2.2.2.2.2.2.2.2.2.1.2.2
def sg_me (s : dz_Sg) : Bool := s.2.2.2.2.2.2.2.2.2.2.1
def sg_mv (s : dz_Sg) : Nat → Int32 := s.2.2.2.2.2.2.2.2.2.2.2
/-- what holds of every yard that calls have made -/
def dz_OK (s : dz_Sg) : Prop := sg_n s ≤ 10 ∧ sg_c s ≤ 4 ∧ sg_p s ≤ 8 ∧ (∀ k, k < sg_c s → 1 ≤ sg_h s k ∧ sg_h s k ≤ 5 ∧ sg_b s k + sg_h s k ≤ sg_p s) ∧ (∀ k q, k < sg_c s → sg_b s k ≤ q → q < sg_b s k + sg_h s k → sg_col s q = k) ∧ (∀ q, q < sg_p s → sg_col s q < sg_c s ∧ sg_b s (sg_col s q) ≤ q ∧ q < sg_b s (sg_col s q) + sg_h s (sg_col s q)) ∧ (∀ d, d < sg_n s → ∃ x, x < 65536 ∧ sg_f s d 5 = nI x) ∧ (∀ q, q < sg_p s → sg_wo s q = -1 ∨ ∃ x, (x = 10 ∨ x < sg_n s) ∧ sg_wo s q = nI x) ∧ ∃ a, 1 ≤ a ∧ a ≤ 5 ∧ sg_ah s = nI a
/-- the model's cells hold it -/
def dz_RM (s : dz_Sg) (I : dz_MI) : Prop := I 0 1 = nI (sg_n s) ∧ I 0 2 = nI (sg_c s) ∧ I 0 3 = nI (sg_p s) ∧ I 0 4 = sg_tol s ∧ I 0 5 = sg_st s ∧ I 0 6 = sg_ah s ∧ I 0 7 = dz_b (sg_me s = true) ∧ (∀ k, k < 4 → I 1 k = sg_mv s k) ∧ (∀ d w, d < sg_n s → w < 9 → I (2 + w) d = sg_f s d w) ∧ (∀ k, k < sg_c s → I 11 k = sg_fo s k ∧ I 12 k = sg_he s k ∧ I 13 k = nI (sg_b s k) ∧ I 14 k = nI (sg_h s k)) ∧ (∀ q, q < sg_p s → I 15 q = nI (sg_col s q) ∧ I 16 q = sg_wo s q) ∧ (∀ q d, q < 8 → d < 10 → I 17 (10 * q + d) = dz_b (sg_nt s q d = true))
/-- the yard's cells hold it (the paper apart) -/
def dz_RY (s : dz_Sg) (I : dz_MI) : Prop := I 1 3 = nI (sg_n s) ∧ I 2 6 = nI (sg_c s) ∧ I 2 7 = nI (sg_p s) ∧ I 0 4 = sg_tol s ∧ I 0 5 = sg_st s ∧ I 0 6 = sg_ah s ∧ I 1 2 = dz_b (sg_me s = true) ∧ (∀ k, k < 4 → I 6 k = sg_mv s k) ∧ (∀ d w, d < sg_n s → w < 9 → I (24 + d) w = sg_f s d w) ∧ (∀ k, k < sg_c s → I 9 k = sg_fo s k ∧ I 10 k = sg_he s k ∧ I 7 k = nI (sg_b s k) ∧ I 8 k = nI (sg_h s k)) ∧ (∀ q, q < sg_p s → I 11 q = nI (sg_col s q) ∧ I 13 q = sg_wo s q) ∧ (∀ q, q < 8 → sg_p s ≤ q → I 13 q = -1) ∧ (∀ q, q < 8 → ∃ x, x < 1024 ∧ I 14 q = nI x ∧ ∀ d, d < 10 → x.testBit d = sg_nt s q d)
def dz_fitp (w f d t : Int32) : Prop := f = 0 ∨ dz_abs (w - f) ≤ d + t
def sg_foot (s : dz_Sg) (q : Nat) : Prop := q = sg_b s (sg_col s q)
def sg_head (s : dz_Sg) (q : Nat) : Prop := q + 1 = sg_b s (sg_col s q) + sg_h s (sg_col s q)
/-- what a place lets in of itself: an item (a drum, or 10: new stone) -/
def sg_at (s : dz_Sg) (q d : Nat) : Prop := (sg_wo s q = -1 ∨ sg_wo s q = nI d) ∧ (d = 10 ∨ (sg_nt s q d = false ∧ (sg_foot s q → dz_fitp (sg_f s d 0) (sg_fo s (sg_col s q)) (sg_f s d 2) (sg_tol s)) ∧ (sg_head s q → dz_fitp (sg_f s d 1) (sg_he s (sg_col s q)) (sg_f s d 2) (sg_tol s))))
/-- .. and behind the drums u, over l -/
def sg_may (s : dz_Sg) (q d u l : Nat) : Prop := sg_at s q d ∧ (d = 10 ∨ (u.testBit d = false ∧ (sg_foot s q ∨ l = 10 ∨ ¬ dz_tO (sg_f s) (sg_tol s) d l = -1)))
noncomputable abbrev dz_bp (P : Prop) : Int32 := @dz_b P (Classical.propDecidable P)
noncomputable def dz_B (P : Prop) : Bool := @decide P (Classical.propDecidable P)
theorem dz_Bt {P : Prop} : dz_B P = true ↔ P := by unfold dz_B; exact @decide_eq_true_iff P (Classical.propDecidable P)
theorem dz_Bf {P : Prop} : dz_B P = false ↔ ¬ P := by unfold dz_B; exact @decide_eq_false_iff_not P (Classical.propDecidable P)
section DZR3
variable {π : dz_Pl} {Λ : Nat → dz_Ds} {N own : Nat} {μ : dz_Mu} {F Lc : Nat} {post : Option dz_AV → dz_MI → dz_MJ → Prop} {V : dz_Vt} {I : dz_MI} {J : dz_MJ} {ls : dz_LS} {st : List dz_AV}
theorem dr_absd (pc : Nat) (hV : dz_Clo π Λ N own μ F Lc post V) {k : Nat} {x : Int32} (d : decode μ.2.1 pc = .ok (.invokestatic k, 3)) (hw : Cond.methodLink (dz_R own) k Lib.Math.abs.name ∈ dz_WS) (hF : 1 ≤ F) (hL : 40 ≤ Lc) (hs : dz_wd st ≤ 8) (kk : V (pc + 3) I J ls (.inl (dz_abs x) :: st)) : V pc I J ls (.inl x :: st) := dr_abs pc hV d hw hF hL hs kk
theorem dr_mat_eq (pc : Nat) (hV : dz_Clo π Λ N own μ F Lc post V) {x y : Int32} {P : Prop} [Decidable P] (d : decode μ.2.1 pc = .ok (.if_icmp .eq 7, 3)) (d1 : decode μ.2.1 (pc + 3) = .ok (.iconst 1, 1)) (d2 : decode μ.2.1 (pc + 4) = .ok (.goto 4, 3)) (d3 : decode μ.2.1 (pc + 7) = .ok (.iconst 0, 1)) (hP : P ↔ ¬ x = y) (kk : V (pc + 8) I J ls (.inl (dz_b P) :: st)) : V pc I J ls (.inl y :: .inl x :: st) := by
  refine dr_icmp_eq pc hV (tgt := pc + 7) d (by omega) (fun h => ?_) (fun h => ?_)
  · refine dr_iconst (v := 0) (pc + 7) hV d3 (by decide) ?_
    rw [dz_bf (P := P) (fun q => by first | exact hP.mp q h | exact h (hP.mp q))] at kk
    exact kk
  · refine dr_iconst (v := 1) (pc + 3) hV d1 (by decide) ?_
    refine dr_goto (pc + 4) hV (tgt := pc + 8) d2 (by omega) ?_
    rw [dz_b1 (P := P) (hP.mpr h)] at kk
    exact kk
theorem dr_matz_eq (pc : Nat) (hV : dz_Clo π Λ N own μ F Lc post V) {x : Int32} {P : Prop} [Decidable P] (d : decode μ.2.1 pc = .ok (.ifCond .eq 7, 3)) (d1 : decode μ.2.1 (pc + 3) = .ok (.iconst 1, 1)) (d2 : decode μ.2.1 (pc + 4) = .ok (.goto 4, 3)) (d3 : decode μ.2.1 (pc + 7) = .ok (.iconst 0, 1)) (hP : P ↔ ¬ x = 0) (kk : V (pc + 8) I J ls (.inl (dz_b P) :: st)) : V pc I J ls (.inl x :: st) := by
  refine dr_if_eq pc hV (tgt := pc + 7) d (by omega) (fun h => ?_) (fun h => ?_)
  · refine dr_iconst (v := 0) (pc + 7) hV d3 (by decide) ?_
    rw [dz_bf (P := P) (fun q => by first | exact hP.mp q h | exact h (hP.mp q))] at kk
    exact kk
  · refine dr_iconst (v := 1) (pc + 3) hV d1 (by decide) ?_
    refine dr_goto (pc + 4) hV (tgt := pc + 8) d2 (by omega) ?_
    rw [dz_b1 (P := P) (hP.mpr h)] at kk
    exact kk
theorem dr_mat_ne (pc : Nat) (hV : dz_Clo π Λ N own μ F Lc post V) {x y : Int32} {P : Prop} [Decidable P] (d : decode μ.2.1 pc = .ok (.if_icmp .ne 7, 3)) (d1 : decode μ.2.1 (pc + 3) = .ok (.iconst 1, 1)) (d2 : decode μ.2.1 (pc + 4) = .ok (.goto 4, 3)) (d3 : decode μ.2.1 (pc + 7) = .ok (.iconst 0, 1)) (hP : P ↔ x = y) (kk : V (pc + 8) I J ls (.inl (dz_b P) :: st)) : V pc I J ls (.inl y :: .inl x :: st) := by
  refine dr_icmp_ne pc hV (tgt := pc + 7) d (by omega) (fun h => ?_) (fun h => ?_)
  · refine dr_iconst (v := 0) (pc + 7) hV d3 (by decide) ?_
    rw [dz_bf (P := P) (fun q => by first | exact hP.mp q h | exact h (hP.mp q))] at kk
    exact kk
  · refine dr_iconst (v := 1) (pc + 3) hV d1 (by decide) ?_
    refine dr_goto (pc + 4) hV (tgt := pc + 8) d2 (by omega) ?_
    rw [dz_b1 (P := P) (hP.mpr h)] at kk
    exact kk
theorem dr_matz_ne (pc : Nat) (hV : dz_Clo π Λ N own μ F Lc post V) {x : Int32} {P : Prop} [Decidable P] (d : decode μ.2.1 pc = .ok (.ifCond .ne 7, 3)) (d1 : decode μ.2.1 (pc + 3) = .ok (.iconst 1, 1)) (d2 : decode μ.2.1 (pc + 4) = .ok (.goto 4, 3)) (d3 : decode μ.2.1 (pc + 7) = .ok (.iconst 0, 1)) (hP : P ↔ x = 0) (kk : V (pc + 8) I J ls (.inl (dz_b P) :: st)) : V pc I J ls (.inl x :: st) := by
  refine dr_if_ne pc hV (tgt := pc + 7) d (by omega) (fun h => ?_) (fun h => ?_)
  · refine dr_iconst (v := 0) (pc + 7) hV d3 (by decide) ?_
    rw [dz_bf (P := P) (fun q => by first | exact hP.mp q h | exact h (hP.mp q))] at kk
    exact kk
  · refine dr_iconst (v := 1) (pc + 3) hV d1 (by decide) ?_
    refine dr_goto (pc + 4) hV (tgt := pc + 8) d2 (by omega) ?_
    rw [dz_b1 (P := P) (hP.mpr h)] at kk
    exact kk
theorem dr_mat_lt (pc : Nat) (hV : dz_Clo π Λ N own μ F Lc post V) {x y : Int32} {P : Prop} [Decidable P] (d : decode μ.2.1 pc = .ok (.if_icmp .lt 7, 3)) (d1 : decode μ.2.1 (pc + 3) = .ok (.iconst 1, 1)) (d2 : decode μ.2.1 (pc + 4) = .ok (.goto 4, 3)) (d3 : decode μ.2.1 (pc + 7) = .ok (.iconst 0, 1)) (hP : P ↔ ¬ x < y) (kk : V (pc + 8) I J ls (.inl (dz_b P) :: st)) : V pc I J ls (.inl y :: .inl x :: st) := by
  refine dr_icmp_lt pc hV (tgt := pc + 7) d (by omega) (fun h => ?_) (fun h => ?_)
  · refine dr_iconst (v := 0) (pc + 7) hV d3 (by decide) ?_
    rw [dz_bf (P := P) (fun q => by first | exact hP.mp q h | exact h (hP.mp q))] at kk
    exact kk
  · refine dr_iconst (v := 1) (pc + 3) hV d1 (by decide) ?_
    refine dr_goto (pc + 4) hV (tgt := pc + 8) d2 (by omega) ?_
    rw [dz_b1 (P := P) (hP.mpr h)] at kk
    exact kk
theorem dr_matz_lt (pc : Nat) (hV : dz_Clo π Λ N own μ F Lc post V) {x : Int32} {P : Prop} [Decidable P] (d : decode μ.2.1 pc = .ok (.ifCond .lt 7, 3)) (d1 : decode μ.2.1 (pc + 3) = .ok (.iconst 1, 1)) (d2 : decode μ.2.1 (pc + 4) = .ok (.goto 4, 3)) (d3 : decode μ.2.1 (pc + 7) = .ok (.iconst 0, 1)) (hP : P ↔ ¬ x < 0) (kk : V (pc + 8) I J ls (.inl (dz_b P) :: st)) : V pc I J ls (.inl x :: st) := by
  refine dr_if_lt pc hV (tgt := pc + 7) d (by omega) (fun h => ?_) (fun h => ?_)
  · refine dr_iconst (v := 0) (pc + 7) hV d3 (by decide) ?_
    rw [dz_bf (P := P) (fun q => by first | exact hP.mp q h | exact h (hP.mp q))] at kk
    exact kk
  · refine dr_iconst (v := 1) (pc + 3) hV d1 (by decide) ?_
    refine dr_goto (pc + 4) hV (tgt := pc + 8) d2 (by omega) ?_
    rw [dz_b1 (P := P) (hP.mpr h)] at kk
    exact kk
theorem dr_mat_ge (pc : Nat) (hV : dz_Clo π Λ N own μ F Lc post V) {x y : Int32} {P : Prop} [Decidable P] (d : decode μ.2.1 pc = .ok (.if_icmp .ge 7, 3)) (d1 : decode μ.2.1 (pc + 3) = .ok (.iconst 1, 1)) (d2 : decode μ.2.1 (pc + 4) = .ok (.goto 4, 3)) (d3 : decode μ.2.1 (pc + 7) = .ok (.iconst 0, 1)) (hP : P ↔ ¬ y ≤ x) (kk : V (pc + 8) I J ls (.inl (dz_b P) :: st)) : V pc I J ls (.inl y :: .inl x :: st) := by
  refine dr_icmp_ge pc hV (tgt := pc + 7) d (by omega) (fun h => ?_) (fun h => ?_)
  · refine dr_iconst (v := 0) (pc + 7) hV d3 (by decide) ?_
    rw [dz_bf (P := P) (fun q => by first | exact hP.mp q h | exact h (hP.mp q))] at kk
    exact kk
  · refine dr_iconst (v := 1) (pc + 3) hV d1 (by decide) ?_
    refine dr_goto (pc + 4) hV (tgt := pc + 8) d2 (by omega) ?_
    rw [dz_b1 (P := P) (hP.mpr h)] at kk
    exact kk
theorem dr_matz_ge (pc : Nat) (hV : dz_Clo π Λ N own μ F Lc post V) {x : Int32} {P : Prop} [Decidable P] (d : decode μ.2.1 pc = .ok (.ifCond .ge 7, 3)) (d1 : decode μ.2.1 (pc + 3) = .ok (.iconst 1, 1)) (d2 : decode μ.2.1 (pc + 4) = .ok (.goto 4, 3)) (d3 : decode μ.2.1 (pc + 7) = .ok (.iconst 0, 1)) (hP : P ↔ ¬ 0 ≤ x) (kk : V (pc + 8) I J ls (.inl (dz_b P) :: st)) : V pc I J ls (.inl x :: st) := by
  refine dr_if_ge pc hV (tgt := pc + 7) d (by omega) (fun h => ?_) (fun h => ?_)
  · refine dr_iconst (v := 0) (pc + 7) hV d3 (by decide) ?_
    rw [dz_bf (P := P) (fun q => by first | exact hP.mp q h | exact h (hP.mp q))] at kk
    exact kk
  · refine dr_iconst (v := 1) (pc + 3) hV d1 (by decide) ?_
    refine dr_goto (pc + 4) hV (tgt := pc + 8) d2 (by omega) ?_
    rw [dz_b1 (P := P) (hP.mpr h)] at kk
    exact kk
theorem dr_mat_gt (pc : Nat) (hV : dz_Clo π Λ N own μ F Lc post V) {x y : Int32} {P : Prop} [Decidable P] (d : decode μ.2.1 pc = .ok (.if_icmp .gt 7, 3)) (d1 : decode μ.2.1 (pc + 3) = .ok (.iconst 1, 1)) (d2 : decode μ.2.1 (pc + 4) = .ok (.goto 4, 3)) (d3 : decode μ.2.1 (pc + 7) = .ok (.iconst 0, 1)) (hP : P ↔ ¬ y < x) (kk : V (pc + 8) I J ls (.inl (dz_b P) :: st)) : V pc I J ls (.inl y :: .inl x :: st) := by
  refine dr_icmp_gt pc hV (tgt := pc + 7) d (by omega) (fun h => ?_) (fun h => ?_)
  · refine dr_iconst (v := 0) (pc + 7) hV d3 (by decide) ?_
    rw [dz_bf (P := P) (fun q => by first | exact hP.mp q h | exact h (hP.mp q))] at kk
    exact kk
  · refine dr_iconst (v := 1) (pc + 3) hV d1 (by decide) ?_
    refine dr_goto (pc + 4) hV (tgt := pc + 8) d2 (by omega) ?_
    rw [dz_b1 (P := P) (hP.mpr h)] at kk
    exact kk
theorem dr_matz_gt (pc : Nat) (hV : dz_Clo π Λ N own μ F Lc post V) {x : Int32} {P : Prop} [Decidable P] (d : decode μ.2.1 pc = .ok (.ifCond .gt 7, 3)) (d1 : decode μ.2.1 (pc + 3) = .ok (.iconst 1, 1)) (d2 : decode μ.2.1 (pc + 4) = .ok (.goto 4, 3)) (d3 : decode μ.2.1 (pc + 7) = .ok (.iconst 0, 1)) (hP : P ↔ ¬ 0 < x) (kk : V (pc + 8) I J ls (.inl (dz_b P) :: st)) : V pc I J ls (.inl x :: st) := by
  refine dr_if_gt pc hV (tgt := pc + 7) d (by omega) (fun h => ?_) (fun h => ?_)
  · refine dr_iconst (v := 0) (pc + 7) hV d3 (by decide) ?_
    rw [dz_bf (P := P) (fun q => by first | exact hP.mp q h | exact h (hP.mp q))] at kk
    exact kk
  · refine dr_iconst (v := 1) (pc + 3) hV d1 (by decide) ?_
    refine dr_goto (pc + 4) hV (tgt := pc + 8) d2 (by omega) ?_
    rw [dz_b1 (P := P) (hP.mpr h)] at kk
    exact kk
theorem dr_mat_le (pc : Nat) (hV : dz_Clo π Λ N own μ F Lc post V) {x y : Int32} {P : Prop} [Decidable P] (d : decode μ.2.1 pc = .ok (.if_icmp .le 7, 3)) (d1 : decode μ.2.1 (pc + 3) = .ok (.iconst 1, 1)) (d2 : decode μ.2.1 (pc + 4) = .ok (.goto 4, 3)) (d3 : decode μ.2.1 (pc + 7) = .ok (.iconst 0, 1)) (hP : P ↔ ¬ x ≤ y) (kk : V (pc + 8) I J ls (.inl (dz_b P) :: st)) : V pc I J ls (.inl y :: .inl x :: st) := by
  refine dr_icmp_le pc hV (tgt := pc + 7) d (by omega) (fun h => ?_) (fun h => ?_)
  · refine dr_iconst (v := 0) (pc + 7) hV d3 (by decide) ?_
    rw [dz_bf (P := P) (fun q => by first | exact hP.mp q h | exact h (hP.mp q))] at kk
    exact kk
  · refine dr_iconst (v := 1) (pc + 3) hV d1 (by decide) ?_
    refine dr_goto (pc + 4) hV (tgt := pc + 8) d2 (by omega) ?_
    rw [dz_b1 (P := P) (hP.mpr h)] at kk
    exact kk
theorem dr_matz_le (pc : Nat) (hV : dz_Clo π Λ N own μ F Lc post V) {x : Int32} {P : Prop} [Decidable P] (d : decode μ.2.1 pc = .ok (.ifCond .le 7, 3)) (d1 : decode μ.2.1 (pc + 3) = .ok (.iconst 1, 1)) (d2 : decode μ.2.1 (pc + 4) = .ok (.goto 4, 3)) (d3 : decode μ.2.1 (pc + 7) = .ok (.iconst 0, 1)) (hP : P ↔ ¬ x ≤ 0) (kk : V (pc + 8) I J ls (.inl (dz_b P) :: st)) : V pc I J ls (.inl x :: st) := by
  refine dr_if_le pc hV (tgt := pc + 7) d (by omega) (fun h => ?_) (fun h => ?_)
  · refine dr_iconst (v := 0) (pc + 7) hV d3 (by decide) ?_
    rw [dz_bf (P := P) (fun q => by first | exact hP.mp q h | exact h (hP.mp q))] at kk
    exact kk
  · refine dr_iconst (v := 1) (pc + 3) hV d1 (by decide) ?_
    refine dr_goto (pc + 4) hV (tgt := pc + 8) d2 (by omega) ?_
    rw [dz_b1 (P := P) (hP.mpr h)] at kk
    exact kk
end DZR3
end
section
theorem dz_tuM {x r : Nat} (hx : x < 65536) (hr : r < 16) : ((nI x <<< (nI r &&& 31)) ||| (nI x >>> ((nI 16 - nI r) &&& 31))) &&& 65535 = dz_tu (nI x) (nI r) := by
  have hp : 2 ^ r ≤ 2 ^ 15 := Nat.pow_le_pow_right (by decide) (by omega)
  have h2 : x * 2 ^ r < 2 ^ 31 := by
    have := Nat.mul_lt_mul_of_lt_of_le hx hp (by decide)
    omega
  have e1 : nI x <<< (nI r &&& 31) = nI (x * 2 ^ r) := pk_shlN _ r (s_l r (by omega)) (by omega)
  have e2 : nI 16 - nI r = nI (16 - r) := pk_sub (by omega)
  unfold dz_tu
  rw [e1, e2, dz_sh (by omega) (by omega), dz_sh h2 (by decide)]
  have e3 : x * 2 ^ r / 2 ^ 16 = x / 2 ^ (16 - r) := by
    have : 2 ^ 16 = 2 ^ (16 - r) * 2 ^ r := by rw [← Nat.pow_add]; congr 1; omega
    rw [this, Nat.mul_div_mul_right _ _ (Nat.two_pow_pos r)]
  rw [e3]
set_option maxRecDepth 100000 in
set_option maxHeartbeats 4000000 in
theorem c_X5_turnOf (π : dz_Pl) {s : dz_Sg} {k q : Nat} (I : dz_MI) (J : dz_MJ) (hO : dz_OK s) (hR : dz_RM s I) (hk : k < sg_n s) (hq : q < sg_n s) : dz_Cl π dz_M 24 mX5_turnOf 1 40 [.inr (.inr 0), .inl (nI k), .inl (nI q)] I J (dz_Pu (.inl (dz_tO (sg_f s) (sg_tol s) k q)) I J) := by
  refine dz_body (own := 5) dz_mX5_turnOf rfl (Nat.le_of_ble_eq_true rfl) (fun V hV => ?_)
  obtain ⟨o1, o2, o3, o4, o5, o6, o7, o8, o9⟩ := hO
  obtain ⟨m1, m2, m3, m4, m5, m6, m7, m8, m9, m10, m11, m12⟩ := hR
  obtain ⟨x, hx, hx5⟩ := o7 k hk
  have loop : ∀ (fu i : Nat), 16 < i + fu → i ≤ 16 → (¬ (sg_f s q 6 < sg_f s q 6)) → (¬ (sg_f s k 5 = 0 ∨ sg_f s q 6 = 0)) → (¬ (sg_f s k 2 + sg_f s q 2 + sg_tol s < dz_abs (sg_f s k 0 - sg_f s q 1) ∨ ¬ (sg_f s k 4 = 0 ∨ sg_f s q 4 = 0 ∨ sg_f s k 4 = sg_f s q 4))) → (∀ j, j < i → ¬ dz_tu (sg_f s k 5) (nI j) = sg_f s q 6) → V 96 I J [(0, .inr (.inr 0)), (1, .inl (nI k)), (2, .inl (nI q)), (3, .inl (nI (i)))] [] := by
    intro fu
    induction fu with
    | zero => intro i h1 h2; exact absurd h1 (by omega)
    | succ fu ih =>
      intro i h1 h2 hh hz ha hi
      refine dr_iload_n 96 hV dX5_turnOf_96 rfl ?_
      refine dr_bipush (v := nI 16) 97 hV dX5_turnOf_97 (by decide) ?_
      refine dn_icmp_ge (tgt := 146) 99 hV dX5_turnOf_99 (by decide) (by omega) (by omega) (fun c99 => ?_) (fun c99 => ?_)
      · refine dr_iconst (v := (-1)) 146 hV dX5_turnOf_146 (by decide) ?_
        exact dr_iret 147 hV dX5_turnOf_147 rfl (by first | rfl | exact dz_bn) (dz_pue (by clear hV ih; unfold dz_tO dz_lT; rw [if_neg ha, if_neg hz, dz_find_n (fun j hj => by simpa using hi j (by omega))]))
      · refine dr_aload_n 102 hV dX5_turnOf_102 rfl ?_
        refine dr_geta 103 hV dX5_turnOf_103 (by decide) (by decide) rfl rfl rfl ?_
        refine dr_iload_n 106 hV dX5_turnOf_106 rfl ?_
        refine dr_iald 107 hV dX5_turnOf_107 (by decide) rfl rfl (by omega) (by decide) (m9 k 5 (by omega) (by decide)) ?_
        refine dr_iload_n 108 hV dX5_turnOf_108 rfl ?_
        refine dr_ishl 109 hV dX5_turnOf_109 rfl ?_
        refine dr_aload_n 110 hV dX5_turnOf_110 rfl ?_
        refine dr_geta 111 hV dX5_turnOf_111 (by decide) (by decide) rfl rfl rfl ?_
        refine dr_iload_n 114 hV dX5_turnOf_114 rfl ?_
        refine dr_iald 115 hV dX5_turnOf_115 (by decide) rfl rfl (by omega) (by decide) (m9 k 5 (by omega) (by decide)) ?_
        refine dr_bipush (v := nI 16) 116 hV dX5_turnOf_116 (by decide) ?_
        refine dr_iload_n 118 hV dX5_turnOf_118 rfl ?_
        refine dr_isub 119 hV dX5_turnOf_119 rfl ?_
        refine dr_ishr 120 hV dX5_turnOf_120 rfl ?_
        refine dr_ior 121 hV dX5_turnOf_121 rfl ?_
        refine dr_ldc 122 hV dX5_turnOf_122 dz_kX5_116 ?_
        refine dr_iand (z := dz_tu (sg_f s k 5) (nI i)) 124 hV dX5_turnOf_124 (by rw [hx5]; exact dz_tuM hx (by omega)) ?_
        refine dr_istore 125 hV dX5_turnOf_125 (by decide) ?_
        refine dr_iload 127 hV dX5_turnOf_127 rfl ?_
        refine dr_aload_n 129 hV dX5_turnOf_129 rfl ?_
        refine dr_geta 130 hV dX5_turnOf_130 (by decide) (by decide) rfl rfl rfl ?_
        refine dr_iload_n 133 hV dX5_turnOf_133 rfl ?_
        refine dr_iald 134 hV dX5_turnOf_134 (by decide) rfl rfl (by omega) (by decide) (m9 q 6 (by omega) (by decide)) ?_
        refine dr_icmp_ne (tgt := 140) 135 hV dX5_turnOf_135 (by decide) (fun c135 => ?_) (fun c135 => ?_)
        · refine dr_iinc1 140 hV dX5_turnOf_140 (by decide) rfl ?_
          refine dr_goto (tgt := 96) 143 hV dX5_turnOf_143 (by decide) ?_
          refine dr_sub hV (ls2 := [(0, .inr (.inr 0)), (1, .inl (nI k)), (2, .inl (nI q)), (3, .inl (nI (i + 1)))]) rfl ?_
          exact ih (i + 1) (by omega) (by omega) hh hz ha (lt_s hi c135)
        · refine dr_iload_n 138 hV dX5_turnOf_138 rfl ?_
          exact dr_iret 139 hV dX5_turnOf_139 rfl (by first | rfl | exact dz_bn) (dz_pue (by clear hV ih; unfold dz_tO dz_lT; rw [if_neg ha, if_neg hz, dz_find_s c99 (by simpa using c135) (fun j hj => by simpa using hi j hj)]))
  refine dr_aload_n 0 hV dX5_turnOf_0 rfl ?_
  refine dr_geta 1 hV dX5_turnOf_1 (by decide) (by decide) rfl rfl rfl ?_
  refine dr_iload_n 4 hV dX5_turnOf_4 rfl ?_
  refine dr_iald 5 hV dX5_turnOf_5 (by decide) rfl rfl (by omega) (by decide) (m9 k 0 (by omega) (by decide)) ?_
  refine dr_aload_n 6 hV dX5_turnOf_6 rfl ?_
  refine dr_geta 7 hV dX5_turnOf_7 (by decide) (by decide) rfl rfl rfl ?_
  refine dr_iload_n 10 hV dX5_turnOf_10 rfl ?_
  refine dr_iald 11 hV dX5_turnOf_11 (by decide) rfl rfl (by omega) (by decide) (m9 q 1 (by omega) (by decide)) ?_
  refine dr_isub 12 hV dX5_turnOf_12 rfl ?_
  refine dr_absd 13 hV dX5_turnOf_13 dz_j5_118 (by decide) (by decide) (Nat.le_of_ble_eq_true rfl) ?_
  refine dr_aload_n 16 hV dX5_turnOf_16 rfl ?_
  refine dr_geta 17 hV dX5_turnOf_17 (by decide) (by decide) rfl rfl rfl ?_
  refine dr_iload_n 20 hV dX5_turnOf_20 rfl ?_
  refine dr_iald 21 hV dX5_turnOf_21 (by decide) rfl rfl (by omega) (by decide) (m9 k 2 (by omega) (by decide)) ?_
  refine dr_aload_n 22 hV dX5_turnOf_22 rfl ?_
  refine dr_geta 23 hV dX5_turnOf_23 (by decide) (by decide) rfl rfl rfl ?_
  refine dr_iload_n 26 hV dX5_turnOf_26 rfl ?_
  refine dr_iald 27 hV dX5_turnOf_27 (by decide) rfl rfl (by omega) (by decide) (m9 q 2 (by omega) (by decide)) ?_
  refine dr_iadd 28 hV dX5_turnOf_28 rfl ?_
  refine dr_aload_n 29 hV dX5_turnOf_29 rfl ?_
  refine dr_geti 30 hV dX5_turnOf_30 (by decide) (by decide) rfl rfl rfl m4 ?_
  refine dr_iadd 33 hV dX5_turnOf_33 rfl ?_
  refine dr_icmp_le (tgt := 39) 34 hV dX5_turnOf_34 (by decide) (fun c34 => ?_) (fun c34 => ?_)
  · refine dr_aload_n 39 hV dX5_turnOf_39 rfl ?_
    refine dr_geta 40 hV dX5_turnOf_40 (by decide) (by decide) rfl rfl rfl ?_
    refine dr_iload_n 43 hV dX5_turnOf_43 rfl ?_
    refine dr_iald 44 hV dX5_turnOf_44 (by decide) rfl rfl (by omega) (by decide) (m9 k 4 (by omega) (by decide)) ?_
    first | refine dr_ifb_eq (tgt := 74) 45 hV dX5_turnOf_45 (by decide) (fun c45 => ?_) (fun c45 => ?_) | refine dr_if_eq (tgt := 74) 45 hV dX5_turnOf_45 (by decide) (fun c45 => ?_) (fun c45 => ?_)
    · refine dr_aload_n 74 hV dX5_turnOf_74 rfl ?_
      refine dr_geta 75 hV dX5_turnOf_75 (by decide) (by decide) rfl rfl rfl ?_
      refine dr_iload_n 78 hV dX5_turnOf_78 rfl ?_
      refine dr_iald 79 hV dX5_turnOf_79 (by decide) rfl rfl (by omega) (by decide) (m9 k 5 (by omega) (by decide)) ?_
      first | refine dr_ifb_eq (tgt := 92) 80 hV dX5_turnOf_80 (by decide) (fun c80 => ?_) (fun c80 => ?_) | refine dr_if_eq (tgt := 92) 80 hV dX5_turnOf_80 (by decide) (fun c80 => ?_) (fun c80 => ?_)
      · refine dr_iconst (v := nI 0) 92 hV dX5_turnOf_92 (by decide) ?_
        exact dr_iret 93 hV dX5_turnOf_93 rfl (by first | rfl | exact dz_bn) (dz_pue (by clear hV loop; unfold dz_tO dz_lT; rw [if_neg (by grind), if_pos (by grind)]))
      · refine dr_aload_n 83 hV dX5_turnOf_83 rfl ?_
        refine dr_geta 84 hV dX5_turnOf_84 (by decide) (by decide) rfl rfl rfl ?_
        refine dr_iload_n 87 hV dX5_turnOf_87 rfl ?_
        refine dr_iald 88 hV dX5_turnOf_88 (by decide) rfl rfl (by omega) (by decide) (m9 q 6 (by omega) (by decide)) ?_
        first | refine dr_ifb_ne (tgt := 94) 89 hV dX5_turnOf_89 (by decide) (fun c89 => ?_) (fun c89 => ?_) | refine dr_if_ne (tgt := 94) 89 hV dX5_turnOf_89 (by decide) (fun c89 => ?_) (fun c89 => ?_)
        · refine dr_iconst (v := nI 0) 94 hV dX5_turnOf_94 (by decide) ?_
          refine dr_istore_n 95 hV dX5_turnOf_95 (by decide) ?_
          refine dr_sub hV (ls2 := [(0, .inr (.inr 0)), (1, .inl (nI k)), (2, .inl (nI q)), (3, .inl (nI (0)))]) rfl ?_
          exact loop 17 0 (by omega) (by omega) (fun h => absurd h (by simp [fa_lt])) (fun h => h.elim c80 c89) (by grind) (fun j hj => absurd hj (by omega))
        · refine dr_iconst (v := nI 0) 92 hV dX5_turnOf_92 (by decide) ?_
          exact dr_iret 93 hV dX5_turnOf_93 rfl (by first | rfl | exact dz_bn) (dz_pue (by clear hV loop; unfold dz_tO dz_lT; rw [if_neg (by grind), if_pos (by grind)]))
    · refine dr_aload_n 48 hV dX5_turnOf_48 rfl ?_
      refine dr_geta 49 hV dX5_turnOf_49 (by decide) (by decide) rfl rfl rfl ?_
      refine dr_iload_n 52 hV dX5_turnOf_52 rfl ?_
      refine dr_iald 53 hV dX5_turnOf_53 (by decide) rfl rfl (by omega) (by decide) (m9 q 4 (by omega) (by decide)) ?_
      first | refine dr_ifb_eq (tgt := 74) 54 hV dX5_turnOf_54 (by decide) (fun c54 => ?_) (fun c54 => ?_) | refine dr_if_eq (tgt := 74) 54 hV dX5_turnOf_54 (by decide) (fun c54 => ?_) (fun c54 => ?_)
      · refine dr_aload_n 74 hV dX5_turnOf_74 rfl ?_
        refine dr_geta 75 hV dX5_turnOf_75 (by decide) (by decide) rfl rfl rfl ?_
        refine dr_iload_n 78 hV dX5_turnOf_78 rfl ?_
        refine dr_iald 79 hV dX5_turnOf_79 (by decide) rfl rfl (by omega) (by decide) (m9 k 5 (by omega) (by decide)) ?_
        first | refine dr_ifb_eq (tgt := 92) 80 hV dX5_turnOf_80 (by decide) (fun c80 => ?_) (fun c80 => ?_) | refine dr_if_eq (tgt := 92) 80 hV dX5_turnOf_80 (by decide) (fun c80 => ?_) (fun c80 => ?_)
        · refine dr_iconst (v := nI 0) 92 hV dX5_turnOf_92 (by decide) ?_
          exact dr_iret 93 hV dX5_turnOf_93 rfl (by first | rfl | exact dz_bn) (dz_pue (by clear hV loop; unfold dz_tO dz_lT; rw [if_neg (by grind), if_pos (by grind)]))
        · refine dr_aload_n 83 hV dX5_turnOf_83 rfl ?_
          refine dr_geta 84 hV dX5_turnOf_84 (by decide) (by decide) rfl rfl rfl ?_
          refine dr_iload_n 87 hV dX5_turnOf_87 rfl ?_
          refine dr_iald 88 hV dX5_turnOf_88 (by decide) rfl rfl (by omega) (by decide) (m9 q 6 (by omega) (by decide)) ?_
          first | refine dr_ifb_ne (tgt := 94) 89 hV dX5_turnOf_89 (by decide) (fun c89 => ?_) (fun c89 => ?_) | refine dr_if_ne (tgt := 94) 89 hV dX5_turnOf_89 (by decide) (fun c89 => ?_) (fun c89 => ?_)
          · refine dr_iconst (v := nI 0) 94 hV dX5_turnOf_94 (by decide) ?_
            refine dr_istore_n 95 hV dX5_turnOf_95 (by decide) ?_
            refine dr_sub hV (ls2 := [(0, .inr (.inr 0)), (1, .inl (nI k)), (2, .inl (nI q)), (3, .inl (nI (0)))]) rfl ?_
            exact loop 17 0 (by omega) (by omega) (fun h => absurd h (by simp [fa_lt])) (fun h => h.elim c80 c89) (by grind) (fun j hj => absurd hj (by omega))
          · refine dr_iconst (v := nI 0) 92 hV dX5_turnOf_92 (by decide) ?_
            exact dr_iret 93 hV dX5_turnOf_93 rfl (by first | rfl | exact dz_bn) (dz_pue (by clear hV loop; unfold dz_tO dz_lT; rw [if_neg (by grind), if_pos (by grind)]))
      · refine dr_aload_n 57 hV dX5_turnOf_57 rfl ?_
        refine dr_geta 58 hV dX5_turnOf_58 (by decide) (by decide) rfl rfl rfl ?_
        refine dr_iload_n 61 hV dX5_turnOf_61 rfl ?_
        refine dr_iald 62 hV dX5_turnOf_62 (by decide) rfl rfl (by omega) (by decide) (m9 k 4 (by omega) (by decide)) ?_
        refine dr_aload_n 63 hV dX5_turnOf_63 rfl ?_
        refine dr_geta 64 hV dX5_turnOf_64 (by decide) (by decide) rfl rfl rfl ?_
        refine dr_iload_n 67 hV dX5_turnOf_67 rfl ?_
        refine dr_iald 68 hV dX5_turnOf_68 (by decide) rfl rfl (by omega) (by decide) (m9 q 4 (by omega) (by decide)) ?_
        refine dr_icmp_eq (tgt := 74) 69 hV dX5_turnOf_69 (by decide) (fun c69 => ?_) (fun c69 => ?_)
        · refine dr_aload_n 74 hV dX5_turnOf_74 rfl ?_
          refine dr_geta 75 hV dX5_turnOf_75 (by decide) (by decide) rfl rfl rfl ?_
          refine dr_iload_n 78 hV dX5_turnOf_78 rfl ?_
          refine dr_iald 79 hV dX5_turnOf_79 (by decide) rfl rfl (by omega) (by decide) (m9 k 5 (by omega) (by decide)) ?_
          first | refine dr_ifb_eq (tgt := 92) 80 hV dX5_turnOf_80 (by decide) (fun c80 => ?_) (fun c80 => ?_) | refine dr_if_eq (tgt := 92) 80 hV dX5_turnOf_80 (by decide) (fun c80 => ?_) (fun c80 => ?_)
          · refine dr_iconst (v := nI 0) 92 hV dX5_turnOf_92 (by decide) ?_
            exact dr_iret 93 hV dX5_turnOf_93 rfl (by first | rfl | exact dz_bn) (dz_pue (by clear hV loop; unfold dz_tO dz_lT; rw [if_neg (by grind), if_pos (by grind)]))
          · refine dr_aload_n 83 hV dX5_turnOf_83 rfl ?_
            refine dr_geta 84 hV dX5_turnOf_84 (by decide) (by decide) rfl rfl rfl ?_
            refine dr_iload_n 87 hV dX5_turnOf_87 rfl ?_
            refine dr_iald 88 hV dX5_turnOf_88 (by decide) rfl rfl (by omega) (by decide) (m9 q 6 (by omega) (by decide)) ?_
            first | refine dr_ifb_ne (tgt := 94) 89 hV dX5_turnOf_89 (by decide) (fun c89 => ?_) (fun c89 => ?_) | refine dr_if_ne (tgt := 94) 89 hV dX5_turnOf_89 (by decide) (fun c89 => ?_) (fun c89 => ?_)
            · refine dr_iconst (v := nI 0) 94 hV dX5_turnOf_94 (by decide) ?_
              refine dr_istore_n 95 hV dX5_turnOf_95 (by decide) ?_
              refine dr_sub hV (ls2 := [(0, .inr (.inr 0)), (1, .inl (nI k)), (2, .inl (nI q)), (3, .inl (nI (0)))]) rfl ?_
              exact loop 17 0 (by omega) (by omega) (fun h => absurd h (by simp [fa_lt])) (fun h => h.elim c80 c89) (by grind) (fun j hj => absurd hj (by omega))
            · refine dr_iconst (v := nI 0) 92 hV dX5_turnOf_92 (by decide) ?_
              exact dr_iret 93 hV dX5_turnOf_93 rfl (by first | rfl | exact dz_bn) (dz_pue (by clear hV loop; unfold dz_tO dz_lT; rw [if_neg (by grind), if_pos (by grind)]))
        · refine dr_iconst (v := (-1)) 72 hV dX5_turnOf_72 (by decide) ?_
          exact dr_iret 73 hV dX5_turnOf_73 rfl (by first | rfl | exact dz_bn) (dz_pue (by clear hV loop; unfold dz_tO; rw [if_pos (by grind)]))
  · refine dr_iconst (v := (-1)) 37 hV dX5_turnOf_37 (by decide) ?_
    exact dr_iret 38 hV dX5_turnOf_38 rfl (by first | rfl | exact dz_bn) (dz_pue (by clear hV loop; unfold dz_tO; rw [if_pos (by simp only [Int32.not_le] at c34; exact Or.inl c34)]))
theorem dz_bp1 {P : Prop} {I : dz_MI} {J : dz_MJ} (h : P) : dz_Pu (.inl (dz_bp P)) I J (some (.inl (nI 1))) I J := dz_pu1 h
theorem dz_bp0 {P : Prop} {I : dz_MI} {J : dz_MJ} (h : ¬ P) : dz_Pu (.inl (dz_bp P)) I J (some (.inl (nI 0))) I J := dz_pu0 h
theorem dz_bpb {P Q : Prop} {hp : Decidable P} {I : dz_MI} {J : dz_MJ} (h : P ↔ Q) : dz_Pu (.inl (dz_bp Q)) I J (some (.inl (@dz_b P hp))) I J := dz_pub h
set_option maxRecDepth 100000 in
set_option maxHeartbeats 4000000 in
theorem c_X5_fitsFoot (π : dz_Pl) {s : dz_Sg} {k c : Nat} (I : dz_MI) (J : dz_MJ) (hO : dz_OK s) (hR : dz_RM s I) (hk : k < sg_n s) (hc : c < sg_c s) : dz_Cl π dz_M 24 mX5_fitsFoot 1 40 [.inr (.inr 0), .inl (nI k), .inl (nI c)] I J (dz_Pu (.inl (dz_bp (dz_fitp (sg_f s k 0) (sg_fo s c) (sg_f s k 2) (sg_tol s)))) I J) := by
  refine dz_body (own := 5) dz_mX5_fitsFoot rfl (Nat.le_of_ble_eq_true rfl) (fun V hV => ?_)
  obtain ⟨o1, o2, o3, o4, o5, o6, o7, o8, o9⟩ := hO
  obtain ⟨m1, m2, m3, m4, m5, m6, m7, m8, m9, m10, m11, m12⟩ := hR
  refine dr_aload_n 0 hV dX5_fitsFoot_0 rfl ?_
  refine dr_geta 1 hV dX5_fitsFoot_1 (by decide) (by decide) rfl rfl rfl ?_
  refine dr_iload_n 4 hV dX5_fitsFoot_4 rfl ?_
  refine dr_iald 5 hV dX5_fitsFoot_5 (by decide) rfl rfl (by omega) (by decide) (m10 c hc).1 ?_
  first | refine dr_ifb_eq (tgt := 39) 6 hV dX5_fitsFoot_6 (by decide) (fun c6 => ?_) (fun c6 => ?_) | refine dr_if_eq (tgt := 39) 6 hV dX5_fitsFoot_6 (by decide) (fun c6 => ?_) (fun c6 => ?_)
  · refine dr_iconst (v := nI 1) 39 hV dX5_fitsFoot_39 (by decide) ?_
    refine dr_goto (tgt := 44) 40 hV dX5_fitsFoot_40 (by decide) ?_
    exact dr_iret 44 hV dX5_fitsFoot_44 rfl (by first | rfl | exact dz_bn) (by clear hV; first | exact dz_bp1 (by unfold dz_fitp; grind) | exact dz_bp0 (by unfold dz_fitp; grind))
  · refine dr_aload_n 9 hV dX5_fitsFoot_9 rfl ?_
    refine dr_geta 10 hV dX5_fitsFoot_10 (by decide) (by decide) rfl rfl rfl ?_
    refine dr_iload_n 13 hV dX5_fitsFoot_13 rfl ?_
    refine dr_iald 14 hV dX5_fitsFoot_14 (by decide) rfl rfl (by omega) (by decide) (m9 k 0 (by omega) (by decide)) ?_
    refine dr_aload_n 15 hV dX5_fitsFoot_15 rfl ?_
    refine dr_geta 16 hV dX5_fitsFoot_16 (by decide) (by decide) rfl rfl rfl ?_
    refine dr_iload_n 19 hV dX5_fitsFoot_19 rfl ?_
    refine dr_iald 20 hV dX5_fitsFoot_20 (by decide) rfl rfl (by omega) (by decide) (m10 c hc).1 ?_
    refine dr_isub 21 hV dX5_fitsFoot_21 rfl ?_
    refine dr_absd 22 hV dX5_fitsFoot_22 dz_j5_118 (by decide) (by decide) (Nat.le_of_ble_eq_true rfl) ?_
    refine dr_aload_n 25 hV dX5_fitsFoot_25 rfl ?_
    refine dr_geta 26 hV dX5_fitsFoot_26 (by decide) (by decide) rfl rfl rfl ?_
    refine dr_iload_n 29 hV dX5_fitsFoot_29 rfl ?_
    refine dr_iald 30 hV dX5_fitsFoot_30 (by decide) rfl rfl (by omega) (by decide) (m9 k 2 (by omega) (by decide)) ?_
    refine dr_aload_n 31 hV dX5_fitsFoot_31 rfl ?_
    refine dr_geti 32 hV dX5_fitsFoot_32 (by decide) (by decide) rfl rfl rfl m4 ?_
    refine dr_iadd 35 hV dX5_fitsFoot_35 rfl ?_
    refine dr_icmp_gt (tgt := 43) 36 hV dX5_fitsFoot_36 (by decide) (fun c36 => ?_) (fun c36 => ?_)
    · refine dr_iconst (v := nI 0) 43 hV dX5_fitsFoot_43 (by decide) ?_
      exact dr_iret 44 hV dX5_fitsFoot_44 rfl (by first | rfl | exact dz_bn) (by clear hV; first | exact dz_bp1 (by unfold dz_fitp; grind) | exact dz_bp0 (by unfold dz_fitp; grind))
    · refine dr_iconst (v := nI 1) 39 hV dX5_fitsFoot_39 (by decide) ?_
      refine dr_goto (tgt := 44) 40 hV dX5_fitsFoot_40 (by decide) ?_
      exact dr_iret 44 hV dX5_fitsFoot_44 rfl (by first | rfl | exact dz_bn) (by clear hV; first | exact dz_bp1 (by unfold dz_fitp; grind) | exact dz_bp0 (by unfold dz_fitp; grind))
set_option maxRecDepth 100000 in
set_option maxHeartbeats 4000000 in
theorem c_X5_fitsHead (π : dz_Pl) {s : dz_Sg} {k c : Nat} (I : dz_MI) (J : dz_MJ) (hO : dz_OK s) (hR : dz_RM s I) (hk : k < sg_n s) (hc : c < sg_c s) : dz_Cl π dz_M 24 mX5_fitsHead 1 40 [.inr (.inr 0), .inl (nI k), .inl (nI c)] I J (dz_Pu (.inl (dz_bp (dz_fitp (sg_f s k 1) (sg_he s c) (sg_f s k 2) (sg_tol s)))) I J) := by
  refine dz_body (own := 5) dz_mX5_fitsHead rfl (Nat.le_of_ble_eq_true rfl) (fun V hV => ?_)
  obtain ⟨o1, o2, o3, o4, o5, o6, o7, o8, o9⟩ := hO
  obtain ⟨m1, m2, m3, m4, m5, m6, m7, m8, m9, m10, m11, m12⟩ := hR
  refine dr_aload_n 0 hV dX5_fitsHead_0 rfl ?_
  refine dr_geta 1 hV dX5_fitsHead_1 (by decide) (by decide) rfl rfl rfl ?_
  refine dr_iload_n 4 hV dX5_fitsHead_4 rfl ?_
  refine dr_iald 5 hV dX5_fitsHead_5 (by decide) rfl rfl (by omega) (by decide) (m10 c hc).2.1 ?_
  first | refine dr_ifb_eq (tgt := 39) 6 hV dX5_fitsHead_6 (by decide) (fun c6 => ?_) (fun c6 => ?_) | refine dr_if_eq (tgt := 39) 6 hV dX5_fitsHead_6 (by decide) (fun c6 => ?_) (fun c6 => ?_)
  · refine dr_iconst (v := nI 1) 39 hV dX5_fitsHead_39 (by decide) ?_
    refine dr_goto (tgt := 44) 40 hV dX5_fitsHead_40 (by decide) ?_
    exact dr_iret 44 hV dX5_fitsHead_44 rfl (by first | rfl | exact dz_bn) (by clear hV; first | exact dz_bp1 (by unfold dz_fitp; grind) | exact dz_bp0 (by unfold dz_fitp; grind))
  · refine dr_aload_n 9 hV dX5_fitsHead_9 rfl ?_
    refine dr_geta 10 hV dX5_fitsHead_10 (by decide) (by decide) rfl rfl rfl ?_
    refine dr_iload_n 13 hV dX5_fitsHead_13 rfl ?_
    refine dr_iald 14 hV dX5_fitsHead_14 (by decide) rfl rfl (by omega) (by decide) (m9 k 1 (by omega) (by decide)) ?_
    refine dr_aload_n 15 hV dX5_fitsHead_15 rfl ?_
    refine dr_geta 16 hV dX5_fitsHead_16 (by decide) (by decide) rfl rfl rfl ?_
    refine dr_iload_n 19 hV dX5_fitsHead_19 rfl ?_
    refine dr_iald 20 hV dX5_fitsHead_20 (by decide) rfl rfl (by omega) (by decide) (m10 c hc).2.1 ?_
    refine dr_isub 21 hV dX5_fitsHead_21 rfl ?_
    refine dr_absd 22 hV dX5_fitsHead_22 dz_j5_118 (by decide) (by decide) (Nat.le_of_ble_eq_true rfl) ?_
    refine dr_aload_n 25 hV dX5_fitsHead_25 rfl ?_
    refine dr_geta 26 hV dX5_fitsHead_26 (by decide) (by decide) rfl rfl rfl ?_
    refine dr_iload_n 29 hV dX5_fitsHead_29 rfl ?_
    refine dr_iald 30 hV dX5_fitsHead_30 (by decide) rfl rfl (by omega) (by decide) (m9 k 2 (by omega) (by decide)) ?_
    refine dr_aload_n 31 hV dX5_fitsHead_31 rfl ?_
    refine dr_geti 32 hV dX5_fitsHead_32 (by decide) (by decide) rfl rfl rfl m4 ?_
    refine dr_iadd 35 hV dX5_fitsHead_35 rfl ?_
    refine dr_icmp_gt (tgt := 43) 36 hV dX5_fitsHead_36 (by decide) (fun c36 => ?_) (fun c36 => ?_)
    · refine dr_iconst (v := nI 0) 43 hV dX5_fitsHead_43 (by decide) ?_
      exact dr_iret 44 hV dX5_fitsHead_44 rfl (by first | rfl | exact dz_bn) (by clear hV; first | exact dz_bp1 (by unfold dz_fitp; grind) | exact dz_bp0 (by unfold dz_fitp; grind))
    · refine dr_iconst (v := nI 1) 39 hV dX5_fitsHead_39 (by decide) ?_
      refine dr_goto (tgt := 44) 40 hV dX5_fitsHead_40 (by decide) ?_
      exact dr_iret 44 hV dX5_fitsHead_44 rfl (by first | rfl | exact dz_bn) (by clear hV; first | exact dz_bp1 (by unfold dz_fitp; grind) | exact dz_bp0 (by unfold dz_fitp; grind))
set_option maxRecDepth 100000 in
set_option maxHeartbeats 4000000 in
theorem c_X5_may (π : dz_Pl) {s : dz_Sg} {p d u l : Nat} (I : dz_MI) (J : dz_MJ) (hO : dz_OK s) (hR : dz_RM s I) (hp : p < sg_p s) (hd : d = 10 ∨ d < sg_n s) (hu : u < 2 ^ 31) (hl : l = 10 ∨ l < sg_n s) : dz_Cl π dz_M 24 mX5_may 2 64 [.inr (.inr 0), .inl (nI p), .inl (nI d), .inl (nI u), .inl (nI l)] I J (dz_Pu (.inl (dz_bp (sg_may s p d u l))) I J) := by
  refine dz_body (own := 5) dz_mX5_may rfl (Nat.le_of_ble_eq_true rfl) (fun V hV => ?_)
  have hO2 := hO
  have hR2 := hR
  obtain ⟨o1, o2, o3, o4, o5, o6, o7, o8, o9⟩ := hO
  obtain ⟨m1, m2, m3, m4, m5, m6, m7, m8, m9, m10, m11, m12⟩ := hR
  obtain ⟨g1, g2, g3⟩ := o6 p hp
  obtain ⟨g4, g5, g6⟩ := o4 _ g1
  obtain ⟨w1, w2⟩ := m11 p hp
  obtain ⟨k1, k2, k3, k4⟩ := m10 _ g1
  refine dr_aload_n 0 hV dX5_may_0 rfl ?_
  refine dr_geta 1 hV dX5_may_1 (by decide) (by decide) rfl rfl rfl ?_
  refine dr_iload_n 4 hV dX5_may_4 rfl ?_
  refine dr_iald 5 hV dX5_may_5 (by decide) rfl rfl (by omega) (by decide) w2 ?_
  refine dr_iconst (v := (-1)) 6 hV dX5_may_6 (by decide) ?_
  refine dr_icmp_eq (tgt := 22) 7 hV dX5_may_7 (by decide) (fun c7 => ?_) (fun c7 => ?_)
  · refine dr_iload_n 22 hV dX5_may_22 rfl ?_
    refine dr_bipush (v := nI 10) 23 hV dX5_may_23 (by decide) ?_
    refine dn_icmp_ne (tgt := 30) 25 hV dX5_may_25 (by decide) (by omega) (by omega) (fun c25 => ?_) (fun c25 => ?_)
    · refine dr_aload_n 30 hV dX5_may_30 rfl ?_
      refine dr_geta 31 hV dX5_may_31 (by decide) (by decide) rfl rfl rfl ?_
      refine dr_iload_n 34 hV dX5_may_34 rfl ?_
      refine dr_iald 35 hV dX5_may_35 (by decide) rfl rfl (by omega) (by decide) w1 ?_
      refine dr_istore 36 hV dX5_may_36 (by decide) ?_
      refine dr_iload_n 38 hV dX5_may_38 rfl ?_
      refine dr_aload_n 39 hV dX5_may_39 rfl ?_
      refine dr_geta 40 hV dX5_may_40 (by decide) (by decide) rfl rfl rfl ?_
      refine dr_iload 43 hV dX5_may_43 rfl ?_
      refine dr_iald 45 hV dX5_may_45 (by decide) rfl rfl (by omega) (by decide) k3 ?_
      refine dr_mat_ne (P := p = sg_b s (sg_col s p)) 46 hV dX5_may_46 dX5_may_49 dX5_may_50 dX5_may_53 (nI_eq (by omega) (by omega)).symm ?_
      refine dr_istore 54 hV dX5_may_54 (by decide) ?_
      refine dr_iload_n 56 hV dX5_may_56 rfl ?_
      refine dr_aload_n 57 hV dX5_may_57 rfl ?_
      refine dr_geta 58 hV dX5_may_58 (by decide) (by decide) rfl rfl rfl ?_
      refine dr_iload 61 hV dX5_may_61 rfl ?_
      refine dr_iald 63 hV dX5_may_63 (by decide) rfl rfl (by omega) (by decide) k3 ?_
      refine dr_aload_n 64 hV dX5_may_64 rfl ?_
      refine dr_geta 65 hV dX5_may_65 (by decide) (by decide) rfl rfl rfl ?_
      refine dr_iload 68 hV dX5_may_68 rfl ?_
      refine dr_iald 70 hV dX5_may_70 (by decide) rfl rfl (by omega) (by decide) k4 ?_
      refine dr_iadd (z := nI (sg_b s (sg_col s p) + sg_h s (sg_col s p))) 71 hV dX5_may_71 (nI_add _ _) ?_
      refine dr_iconst (v := nI 1) 72 hV dX5_may_72 (by decide) ?_
      refine dr_isub (z := nI (sg_b s (sg_col s p) + sg_h s (sg_col s p) - 1)) 73 hV dX5_may_73 (pk_sub (by omega)) ?_
      refine dr_mat_ne (P := p + 1 = sg_b s (sg_col s p) + sg_h s (sg_col s p)) 74 hV dX5_may_74 dX5_may_77 dX5_may_78 dX5_may_81 (by rw [nI_eq (by omega) (by omega)]; omega) ?_
      refine dr_istore 82 hV dX5_may_82 (by decide) ?_
      refine dr_iload_n 84 hV dX5_may_84 rfl ?_
      refine dr_iload_n 85 hV dX5_may_85 rfl ?_
      refine dr_ishr 86 hV dX5_may_86 rfl ?_
      refine dr_iconst (v := nI 1) 87 hV dX5_may_87 (by decide) ?_
      refine dr_iand (z := nI (u / 2 ^ d % 2)) 88 hV dX5_may_88 (dz_hb hu (by omega)) ?_
      refine dr_iconst (v := nI 1) 89 hV dX5_may_89 (by decide) ?_
      refine dn_icmp_eq (tgt := 137) 90 hV dX5_may_90 (by decide) (by omega) (by omega) (fun c90 => ?_) (fun c90 => ?_)
      · have ht : u.testBit d = true := by rw [dz_tb]; simp [c90]
        refine dr_iconst (v := nI 0) 137 hV dX5_may_137 (by decide) ?_
        exact dr_iret 138 hV dX5_may_138 rfl (by first | rfl | exact dz_bn) (by clear hV; first | exact dz_bp1 (by unfold sg_may sg_at sg_foot sg_head; grind) | exact dz_bp0 (by unfold sg_may sg_at sg_foot sg_head; grind))
      · have ht : u.testBit d = false := by rw [dz_tb]; simp [c90]
        refine dr_aload_n 93 hV dX5_may_93 rfl ?_
        refine dr_geta 94 hV dX5_may_94 (by decide) (by decide) rfl rfl rfl ?_
        refine dr_bipush (v := nI 10) 97 hV dX5_may_97 (by decide) ?_
        refine dr_iload_n 99 hV dX5_may_99 rfl ?_
        refine dr_imul (z := nI (10 * p)) 100 hV dX5_may_100 (pk_mul _ _) ?_
        refine dr_iload_n 101 hV dX5_may_101 rfl ?_
        refine dr_iadd (z := nI (10 * p + d)) 102 hV dX5_may_102 (nI_add _ _) ?_
        refine dr_zald 103 hV dX5_may_103 (by decide) rfl rfl (by omega) (by decide) (m12 p d (by omega) (by omega)) ?_
        first | refine dr_ifb_ne (tgt := 137) 104 hV dX5_may_104 (by decide) (fun c104 => ?_) (fun c104 => ?_) | refine dr_if_ne (tgt := 137) 104 hV dX5_may_104 (by decide) (fun c104 => ?_) (fun c104 => ?_)
        · refine dr_iconst (v := nI 0) 137 hV dX5_may_137 (by decide) ?_
          exact dr_iret 138 hV dX5_may_138 rfl (by first | rfl | exact dz_bn) (by clear hV; first | exact dz_bp1 (by unfold sg_may sg_at sg_foot sg_head; grind) | exact dz_bp0 (by unfold sg_may sg_at sg_foot sg_head; grind))
        · refine dr_iload 107 hV dX5_may_107 rfl ?_
          first | refine dr_ifb_eq (tgt := 122) 109 hV dX5_may_109 (by decide) (fun c109 => ?_) (fun c109 => ?_) | refine dr_if_eq (tgt := 122) 109 hV dX5_may_109 (by decide) (fun c109 => ?_) (fun c109 => ?_)
          · refine dr_iload 122 hV dX5_may_122 rfl ?_
            first | refine dr_ifb_eq (tgt := 139) 124 hV dX5_may_124 (by decide) (fun c124 => ?_) (fun c124 => ?_) | refine dr_if_eq (tgt := 139) 124 hV dX5_may_124 (by decide) (fun c124 => ?_) (fun c124 => ?_)
            · refine dr_iload 139 hV dX5_may_139 rfl ?_
              first | refine dr_ifb_ne (tgt := 162) 141 hV dX5_may_141 (by decide) (fun c141 => ?_) (fun c141 => ?_) | refine dr_if_ne (tgt := 162) 141 hV dX5_may_141 (by decide) (fun c141 => ?_) (fun c141 => ?_)
              · refine dr_iconst (v := nI 1) 162 hV dX5_may_162 (by decide) ?_
                refine dr_goto (tgt := 167) 163 hV dX5_may_163 (by decide) ?_
                exact dr_iret 167 hV dX5_may_167 rfl (by first | rfl | exact dz_bn) (by clear hV; first | exact dz_bp1 (by unfold sg_may sg_at sg_foot sg_head; grind) | exact dz_bp0 (by unfold sg_may sg_at sg_foot sg_head; grind))
              · refine dr_iload 144 hV dX5_may_144 rfl ?_
                refine dr_bipush (v := nI 10) 146 hV dX5_may_146 (by decide) ?_
                refine dn_icmp_eq (tgt := 162) 148 hV dX5_may_148 (by decide) (by omega) (by omega) (fun c148 => ?_) (fun c148 => ?_)
                · refine dr_iconst (v := nI 1) 162 hV dX5_may_162 (by decide) ?_
                  refine dr_goto (tgt := 167) 163 hV dX5_may_163 (by decide) ?_
                  exact dr_iret 167 hV dX5_may_167 rfl (by first | rfl | exact dz_bn) (by clear hV; first | exact dz_bp1 (by unfold sg_may sg_at sg_foot sg_head; grind) | exact dz_bp0 (by unfold sg_may sg_at sg_foot sg_head; grind))
                · refine dr_aload_n 151 hV dX5_may_151 rfl ?_
                  refine dr_iload_n 152 hV dX5_may_152 rfl ?_
                  refine dr_iload 153 hV dX5_may_153 rfl ?_
                  refine dr_cvp2 155 hV dz_lX5_127 dX5_may_155 (by decide) (by decide) ⟨by decide, _, _, rfl, by decide, rfl⟩ (Nat.le_of_ble_eq_true rfl) (c_X5_turnOf π _ _ hO2 hR2 (by omega) (by omega)) ?_
                  refine dr_iconst (v := (-1)) 158 hV dX5_may_158 (by decide) ?_
                  refine dr_icmp_eq (tgt := 166) 159 hV dX5_may_159 (by decide) (fun c159 => ?_) (fun c159 => ?_)
                  · refine dr_iconst (v := nI 0) 166 hV dX5_may_166 (by decide) ?_
                    exact dr_iret 167 hV dX5_may_167 rfl (by first | rfl | exact dz_bn) (by clear hV; first | exact dz_bp1 (by unfold sg_may sg_at sg_foot sg_head; grind) | exact dz_bp0 (by unfold sg_may sg_at sg_foot sg_head; grind))
                  · refine dr_iconst (v := nI 1) 162 hV dX5_may_162 (by decide) ?_
                    refine dr_goto (tgt := 167) 163 hV dX5_may_163 (by decide) ?_
                    exact dr_iret 167 hV dX5_may_167 rfl (by first | rfl | exact dz_bn) (by clear hV; first | exact dz_bp1 (by unfold sg_may sg_at sg_foot sg_head; grind) | exact dz_bp0 (by unfold sg_may sg_at sg_foot sg_head; grind))
            · refine dr_aload_n 127 hV dX5_may_127 rfl ?_
              refine dr_iload_n 128 hV dX5_may_128 rfl ?_
              refine dr_iload 129 hV dX5_may_129 rfl ?_
              refine dr_cvp2 131 hV dz_lX5_138 dX5_may_131 (by decide) (by decide) ⟨by decide, _, _, rfl, by decide, rfl⟩ (Nat.le_of_ble_eq_true rfl) (c_X5_fitsHead π _ _ hO2 hR2 (by omega) g1) ?_
              first | refine dr_ifb_ne (tgt := 139) 134 hV dX5_may_134 (by decide) (fun c134 => ?_) (fun c134 => ?_) | refine dr_if_ne (tgt := 139) 134 hV dX5_may_134 (by decide) (fun c134 => ?_) (fun c134 => ?_)
              · refine dr_iload 139 hV dX5_may_139 rfl ?_
                first | refine dr_ifb_ne (tgt := 162) 141 hV dX5_may_141 (by decide) (fun c141 => ?_) (fun c141 => ?_) | refine dr_if_ne (tgt := 162) 141 hV dX5_may_141 (by decide) (fun c141 => ?_) (fun c141 => ?_)
                · refine dr_iconst (v := nI 1) 162 hV dX5_may_162 (by decide) ?_
                  refine dr_goto (tgt := 167) 163 hV dX5_may_163 (by decide) ?_
                  exact dr_iret 167 hV dX5_may_167 rfl (by first | rfl | exact dz_bn) (by clear hV; first | exact dz_bp1 (by unfold sg_may sg_at sg_foot sg_head; grind) | exact dz_bp0 (by unfold sg_may sg_at sg_foot sg_head; grind))
                · refine dr_iload 144 hV dX5_may_144 rfl ?_
                  refine dr_bipush (v := nI 10) 146 hV dX5_may_146 (by decide) ?_
                  refine dn_icmp_eq (tgt := 162) 148 hV dX5_may_148 (by decide) (by omega) (by omega) (fun c148 => ?_) (fun c148 => ?_)
                  · refine dr_iconst (v := nI 1) 162 hV dX5_may_162 (by decide) ?_
                    refine dr_goto (tgt := 167) 163 hV dX5_may_163 (by decide) ?_
                    exact dr_iret 167 hV dX5_may_167 rfl (by first | rfl | exact dz_bn) (by clear hV; first | exact dz_bp1 (by unfold sg_may sg_at sg_foot sg_head; grind) | exact dz_bp0 (by unfold sg_may sg_at sg_foot sg_head; grind))
                  · refine dr_aload_n 151 hV dX5_may_151 rfl ?_
                    refine dr_iload_n 152 hV dX5_may_152 rfl ?_
                    refine dr_iload 153 hV dX5_may_153 rfl ?_
                    refine dr_cvp2 155 hV dz_lX5_127 dX5_may_155 (by decide) (by decide) ⟨by decide, _, _, rfl, by decide, rfl⟩ (Nat.le_of_ble_eq_true rfl) (c_X5_turnOf π _ _ hO2 hR2 (by omega) (by omega)) ?_
                    refine dr_iconst (v := (-1)) 158 hV dX5_may_158 (by decide) ?_
                    refine dr_icmp_eq (tgt := 166) 159 hV dX5_may_159 (by decide) (fun c159 => ?_) (fun c159 => ?_)
                    · refine dr_iconst (v := nI 0) 166 hV dX5_may_166 (by decide) ?_
                      exact dr_iret 167 hV dX5_may_167 rfl (by first | rfl | exact dz_bn) (by clear hV; first | exact dz_bp1 (by unfold sg_may sg_at sg_foot sg_head; grind) | exact dz_bp0 (by unfold sg_may sg_at sg_foot sg_head; grind))
                    · refine dr_iconst (v := nI 1) 162 hV dX5_may_162 (by decide) ?_
                      refine dr_goto (tgt := 167) 163 hV dX5_may_163 (by decide) ?_
                      exact dr_iret 167 hV dX5_may_167 rfl (by first | rfl | exact dz_bn) (by clear hV; first | exact dz_bp1 (by unfold sg_may sg_at sg_foot sg_head; grind) | exact dz_bp0 (by unfold sg_may sg_at sg_foot sg_head; grind))
              · refine dr_iconst (v := nI 0) 137 hV dX5_may_137 (by decide) ?_
                exact dr_iret 138 hV dX5_may_138 rfl (by first | rfl | exact dz_bn) (by clear hV; first | exact dz_bp1 (by unfold sg_may sg_at sg_foot sg_head; grind) | exact dz_bp0 (by unfold sg_may sg_at sg_foot sg_head; grind))
          · refine dr_aload_n 112 hV dX5_may_112 rfl ?_
            refine dr_iload_n 113 hV dX5_may_113 rfl ?_
            refine dr_iload 114 hV dX5_may_114 rfl ?_
            refine dr_cvp2 116 hV dz_lX5_134 dX5_may_116 (by decide) (by decide) ⟨by decide, _, _, rfl, by decide, rfl⟩ (Nat.le_of_ble_eq_true rfl) (c_X5_fitsFoot π _ _ hO2 hR2 (by omega) g1) ?_
            first | refine dr_ifb_eq (tgt := 137) 119 hV dX5_may_119 (by decide) (fun c119 => ?_) (fun c119 => ?_) | refine dr_if_eq (tgt := 137) 119 hV dX5_may_119 (by decide) (fun c119 => ?_) (fun c119 => ?_)
            · refine dr_iconst (v := nI 0) 137 hV dX5_may_137 (by decide) ?_
              exact dr_iret 138 hV dX5_may_138 rfl (by first | rfl | exact dz_bn) (by clear hV; first | exact dz_bp1 (by unfold sg_may sg_at sg_foot sg_head; grind) | exact dz_bp0 (by unfold sg_may sg_at sg_foot sg_head; grind))
            · refine dr_iload 122 hV dX5_may_122 rfl ?_
              first | refine dr_ifb_eq (tgt := 139) 124 hV dX5_may_124 (by decide) (fun c124 => ?_) (fun c124 => ?_) | refine dr_if_eq (tgt := 139) 124 hV dX5_may_124 (by decide) (fun c124 => ?_) (fun c124 => ?_)
              · refine dr_iload 139 hV dX5_may_139 rfl ?_
                first | refine dr_ifb_ne (tgt := 162) 141 hV dX5_may_141 (by decide) (fun c141 => ?_) (fun c141 => ?_) | refine dr_if_ne (tgt := 162) 141 hV dX5_may_141 (by decide) (fun c141 => ?_) (fun c141 => ?_)
                · refine dr_iconst (v := nI 1) 162 hV dX5_may_162 (by decide) ?_
                  refine dr_goto (tgt := 167) 163 hV dX5_may_163 (by decide) ?_
                  exact dr_iret 167 hV dX5_may_167 rfl (by first | rfl | exact dz_bn) (by clear hV; first | exact dz_bp1 (by unfold sg_may sg_at sg_foot sg_head; grind) | exact dz_bp0 (by unfold sg_may sg_at sg_foot sg_head; grind))
                · refine dr_iload 144 hV dX5_may_144 rfl ?_
                  refine dr_bipush (v := nI 10) 146 hV dX5_may_146 (by decide) ?_
                  refine dn_icmp_eq (tgt := 162) 148 hV dX5_may_148 (by decide) (by omega) (by omega) (fun c148 => ?_) (fun c148 => ?_)
                  · refine dr_iconst (v := nI 1) 162 hV dX5_may_162 (by decide) ?_
                    refine dr_goto (tgt := 167) 163 hV dX5_may_163 (by decide) ?_
                    exact dr_iret 167 hV dX5_may_167 rfl (by first | rfl | exact dz_bn) (by clear hV; first | exact dz_bp1 (by unfold sg_may sg_at sg_foot sg_head; grind) | exact dz_bp0 (by unfold sg_may sg_at sg_foot sg_head; grind))
                  · refine dr_aload_n 151 hV dX5_may_151 rfl ?_
                    refine dr_iload_n 152 hV dX5_may_152 rfl ?_
                    refine dr_iload 153 hV dX5_may_153 rfl ?_
                    refine dr_cvp2 155 hV dz_lX5_127 dX5_may_155 (by decide) (by decide) ⟨by decide, _, _, rfl, by decide, rfl⟩ (Nat.le_of_ble_eq_true rfl) (c_X5_turnOf π _ _ hO2 hR2 (by omega) (by omega)) ?_
                    refine dr_iconst (v := (-1)) 158 hV dX5_may_158 (by decide) ?_
                    refine dr_icmp_eq (tgt := 166) 159 hV dX5_may_159 (by decide) (fun c159 => ?_) (fun c159 => ?_)
                    · refine dr_iconst (v := nI 0) 166 hV dX5_may_166 (by decide) ?_
                      exact dr_iret 167 hV dX5_may_167 rfl (by first | rfl | exact dz_bn) (by clear hV; first | exact dz_bp1 (by unfold sg_may sg_at sg_foot sg_head; grind) | exact dz_bp0 (by unfold sg_may sg_at sg_foot sg_head; grind))
                    · refine dr_iconst (v := nI 1) 162 hV dX5_may_162 (by decide) ?_
                      refine dr_goto (tgt := 167) 163 hV dX5_may_163 (by decide) ?_
                      exact dr_iret 167 hV dX5_may_167 rfl (by first | rfl | exact dz_bn) (by clear hV; first | exact dz_bp1 (by unfold sg_may sg_at sg_foot sg_head; grind) | exact dz_bp0 (by unfold sg_may sg_at sg_foot sg_head; grind))
              · refine dr_aload_n 127 hV dX5_may_127 rfl ?_
                refine dr_iload_n 128 hV dX5_may_128 rfl ?_
                refine dr_iload 129 hV dX5_may_129 rfl ?_
                refine dr_cvp2 131 hV dz_lX5_138 dX5_may_131 (by decide) (by decide) ⟨by decide, _, _, rfl, by decide, rfl⟩ (Nat.le_of_ble_eq_true rfl) (c_X5_fitsHead π _ _ hO2 hR2 (by omega) g1) ?_
                first | refine dr_ifb_ne (tgt := 139) 134 hV dX5_may_134 (by decide) (fun c134 => ?_) (fun c134 => ?_) | refine dr_if_ne (tgt := 139) 134 hV dX5_may_134 (by decide) (fun c134 => ?_) (fun c134 => ?_)
                · refine dr_iload 139 hV dX5_may_139 rfl ?_
                  first | refine dr_ifb_ne (tgt := 162) 141 hV dX5_may_141 (by decide) (fun c141 => ?_) (fun c141 => ?_) | refine dr_if_ne (tgt := 162) 141 hV dX5_may_141 (by decide) (fun c141 => ?_) (fun c141 => ?_)
                  · refine dr_iconst (v := nI 1) 162 hV dX5_may_162 (by decide) ?_
                    refine dr_goto (tgt := 167) 163 hV dX5_may_163 (by decide) ?_
                    exact dr_iret 167 hV dX5_may_167 rfl (by first | rfl | exact dz_bn) (by clear hV; first | exact dz_bp1 (by unfold sg_may sg_at sg_foot sg_head; grind) | exact dz_bp0 (by unfold sg_may sg_at sg_foot sg_head; grind))
                  · refine dr_iload 144 hV dX5_may_144 rfl ?_
                    refine dr_bipush (v := nI 10) 146 hV dX5_may_146 (by decide) ?_
                    refine dn_icmp_eq (tgt := 162) 148 hV dX5_may_148 (by decide) (by omega) (by omega) (fun c148 => ?_) (fun c148 => ?_)
                    · refine dr_iconst (v := nI 1) 162 hV dX5_may_162 (by decide) ?_
                      refine dr_goto (tgt := 167) 163 hV dX5_may_163 (by decide) ?_
                      exact dr_iret 167 hV dX5_may_167 rfl (by first | rfl | exact dz_bn) (by clear hV; first | exact dz_bp1 (by unfold sg_may sg_at sg_foot sg_head; grind) | exact dz_bp0 (by unfold sg_may sg_at sg_foot sg_head; grind))
                    · refine dr_aload_n 151 hV dX5_may_151 rfl ?_
                      refine dr_iload_n 152 hV dX5_may_152 rfl ?_
                      refine dr_iload 153 hV dX5_may_153 rfl ?_
                      refine dr_cvp2 155 hV dz_lX5_127 dX5_may_155 (by decide) (by decide) ⟨by decide, _, _, rfl, by decide, rfl⟩ (Nat.le_of_ble_eq_true rfl) (c_X5_turnOf π _ _ hO2 hR2 (by omega) (by omega)) ?_
                      refine dr_iconst (v := (-1)) 158 hV dX5_may_158 (by decide) ?_
                      refine dr_icmp_eq (tgt := 166) 159 hV dX5_may_159 (by decide) (fun c159 => ?_) (fun c159 => ?_)
                      · refine dr_iconst (v := nI 0) 166 hV dX5_may_166 (by decide) ?_
                        exact dr_iret 167 hV dX5_may_167 rfl (by first | rfl | exact dz_bn) (by clear hV; first | exact dz_bp1 (by unfold sg_may sg_at sg_foot sg_head; grind) | exact dz_bp0 (by unfold sg_may sg_at sg_foot sg_head; grind))
                      · refine dr_iconst (v := nI 1) 162 hV dX5_may_162 (by decide) ?_
                        refine dr_goto (tgt := 167) 163 hV dX5_may_163 (by decide) ?_
                        exact dr_iret 167 hV dX5_may_167 rfl (by first | rfl | exact dz_bn) (by clear hV; first | exact dz_bp1 (by unfold sg_may sg_at sg_foot sg_head; grind) | exact dz_bp0 (by unfold sg_may sg_at sg_foot sg_head; grind))
                · refine dr_iconst (v := nI 0) 137 hV dX5_may_137 (by decide) ?_
                  exact dr_iret 138 hV dX5_may_138 rfl (by first | rfl | exact dz_bn) (by clear hV; first | exact dz_bp1 (by unfold sg_may sg_at sg_foot sg_head; grind) | exact dz_bp0 (by unfold sg_may sg_at sg_foot sg_head; grind))
    · refine dr_iconst (v := nI 1) 28 hV dX5_may_28 (by decide) ?_
      exact dr_iret 29 hV dX5_may_29 rfl (by first | rfl | exact dz_bn) (by clear hV; first | exact dz_bp1 (by unfold sg_may sg_at sg_foot sg_head; grind) | exact dz_bp0 (by unfold sg_may sg_at sg_foot sg_head; grind))
  · refine dr_aload_n 10 hV dX5_may_10 rfl ?_
    refine dr_geta 11 hV dX5_may_11 (by decide) (by decide) rfl rfl rfl ?_
    refine dr_iload_n 14 hV dX5_may_14 rfl ?_
    refine dr_iald 15 hV dX5_may_15 (by decide) rfl rfl (by omega) (by decide) w2 ?_
    refine dr_iload_n 16 hV dX5_may_16 rfl ?_
    refine dr_icmp_eq (tgt := 22) 17 hV dX5_may_17 (by decide) (fun c17 => ?_) (fun c17 => ?_)
    · refine dr_iload_n 22 hV dX5_may_22 rfl ?_
      refine dr_bipush (v := nI 10) 23 hV dX5_may_23 (by decide) ?_
      refine dn_icmp_ne (tgt := 30) 25 hV dX5_may_25 (by decide) (by omega) (by omega) (fun c25 => ?_) (fun c25 => ?_)
      · refine dr_aload_n 30 hV dX5_may_30 rfl ?_
        refine dr_geta 31 hV dX5_may_31 (by decide) (by decide) rfl rfl rfl ?_
        refine dr_iload_n 34 hV dX5_may_34 rfl ?_
        refine dr_iald 35 hV dX5_may_35 (by decide) rfl rfl (by omega) (by decide) w1 ?_
        refine dr_istore 36 hV dX5_may_36 (by decide) ?_
        refine dr_iload_n 38 hV dX5_may_38 rfl ?_
        refine dr_aload_n 39 hV dX5_may_39 rfl ?_
        refine dr_geta 40 hV dX5_may_40 (by decide) (by decide) rfl rfl rfl ?_
        refine dr_iload 43 hV dX5_may_43 rfl ?_
        refine dr_iald 45 hV dX5_may_45 (by decide) rfl rfl (by omega) (by decide) k3 ?_
        refine dr_mat_ne (P := p = sg_b s (sg_col s p)) 46 hV dX5_may_46 dX5_may_49 dX5_may_50 dX5_may_53 (nI_eq (by omega) (by omega)).symm ?_
        refine dr_istore 54 hV dX5_may_54 (by decide) ?_
        refine dr_iload_n 56 hV dX5_may_56 rfl ?_
        refine dr_aload_n 57 hV dX5_may_57 rfl ?_
        refine dr_geta 58 hV dX5_may_58 (by decide) (by decide) rfl rfl rfl ?_
        refine dr_iload 61 hV dX5_may_61 rfl ?_
        refine dr_iald 63 hV dX5_may_63 (by decide) rfl rfl (by omega) (by decide) k3 ?_
        refine dr_aload_n 64 hV dX5_may_64 rfl ?_
        refine dr_geta 65 hV dX5_may_65 (by decide) (by decide) rfl rfl rfl ?_
        refine dr_iload 68 hV dX5_may_68 rfl ?_
        refine dr_iald 70 hV dX5_may_70 (by decide) rfl rfl (by omega) (by decide) k4 ?_
        refine dr_iadd (z := nI (sg_b s (sg_col s p) + sg_h s (sg_col s p))) 71 hV dX5_may_71 (nI_add _ _) ?_
        refine dr_iconst (v := nI 1) 72 hV dX5_may_72 (by decide) ?_
        refine dr_isub (z := nI (sg_b s (sg_col s p) + sg_h s (sg_col s p) - 1)) 73 hV dX5_may_73 (pk_sub (by omega)) ?_
        refine dr_mat_ne (P := p + 1 = sg_b s (sg_col s p) + sg_h s (sg_col s p)) 74 hV dX5_may_74 dX5_may_77 dX5_may_78 dX5_may_81 (by rw [nI_eq (by omega) (by omega)]; omega) ?_
        refine dr_istore 82 hV dX5_may_82 (by decide) ?_
        refine dr_iload_n 84 hV dX5_may_84 rfl ?_
        refine dr_iload_n 85 hV dX5_may_85 rfl ?_
        refine dr_ishr 86 hV dX5_may_86 rfl ?_
        refine dr_iconst (v := nI 1) 87 hV dX5_may_87 (by decide) ?_
        refine dr_iand (z := nI (u / 2 ^ d % 2)) 88 hV dX5_may_88 (dz_hb hu (by omega)) ?_
        refine dr_iconst (v := nI 1) 89 hV dX5_may_89 (by decide) ?_
        refine dn_icmp_eq (tgt := 137) 90 hV dX5_may_90 (by decide) (by omega) (by omega) (fun c90 => ?_) (fun c90 => ?_)
        · have ht : u.testBit d = true := by rw [dz_tb]; simp [c90]
          refine dr_iconst (v := nI 0) 137 hV dX5_may_137 (by decide) ?_
          exact dr_iret 138 hV dX5_may_138 rfl (by first | rfl | exact dz_bn) (by clear hV; first | exact dz_bp1 (by unfold sg_may sg_at sg_foot sg_head; grind) | exact dz_bp0 (by unfold sg_may sg_at sg_foot sg_head; grind))
        · have ht : u.testBit d = false := by rw [dz_tb]; simp [c90]
          refine dr_aload_n 93 hV dX5_may_93 rfl ?_
          refine dr_geta 94 hV dX5_may_94 (by decide) (by decide) rfl rfl rfl ?_
          refine dr_bipush (v := nI 10) 97 hV dX5_may_97 (by decide) ?_
          refine dr_iload_n 99 hV dX5_may_99 rfl ?_
          refine dr_imul (z := nI (10 * p)) 100 hV dX5_may_100 (pk_mul _ _) ?_
          refine dr_iload_n 101 hV dX5_may_101 rfl ?_
          refine dr_iadd (z := nI (10 * p + d)) 102 hV dX5_may_102 (nI_add _ _) ?_
          refine dr_zald 103 hV dX5_may_103 (by decide) rfl rfl (by omega) (by decide) (m12 p d (by omega) (by omega)) ?_
          first | refine dr_ifb_ne (tgt := 137) 104 hV dX5_may_104 (by decide) (fun c104 => ?_) (fun c104 => ?_) | refine dr_if_ne (tgt := 137) 104 hV dX5_may_104 (by decide) (fun c104 => ?_) (fun c104 => ?_)
          · refine dr_iconst (v := nI 0) 137 hV dX5_may_137 (by decide) ?_
            exact dr_iret 138 hV dX5_may_138 rfl (by first | rfl | exact dz_bn) (by clear hV; first | exact dz_bp1 (by unfold sg_may sg_at sg_foot sg_head; grind) | exact dz_bp0 (by unfold sg_may sg_at sg_foot sg_head; grind))
          · refine dr_iload 107 hV dX5_may_107 rfl ?_
            first | refine dr_ifb_eq (tgt := 122) 109 hV dX5_may_109 (by decide) (fun c109 => ?_) (fun c109 => ?_) | refine dr_if_eq (tgt := 122) 109 hV dX5_may_109 (by decide) (fun c109 => ?_) (fun c109 => ?_)
            · refine dr_iload 122 hV dX5_may_122 rfl ?_
              first | refine dr_ifb_eq (tgt := 139) 124 hV dX5_may_124 (by decide) (fun c124 => ?_) (fun c124 => ?_) | refine dr_if_eq (tgt := 139) 124 hV dX5_may_124 (by decide) (fun c124 => ?_) (fun c124 => ?_)
              · refine dr_iload 139 hV dX5_may_139 rfl ?_
                first | refine dr_ifb_ne (tgt := 162) 141 hV dX5_may_141 (by decide) (fun c141 => ?_) (fun c141 => ?_) | refine dr_if_ne (tgt := 162) 141 hV dX5_may_141 (by decide) (fun c141 => ?_) (fun c141 => ?_)
                · refine dr_iconst (v := nI 1) 162 hV dX5_may_162 (by decide) ?_
                  refine dr_goto (tgt := 167) 163 hV dX5_may_163 (by decide) ?_
                  exact dr_iret 167 hV dX5_may_167 rfl (by first | rfl | exact dz_bn) (by clear hV; first | exact dz_bp1 (by unfold sg_may sg_at sg_foot sg_head; grind) | exact dz_bp0 (by unfold sg_may sg_at sg_foot sg_head; grind))
                · refine dr_iload 144 hV dX5_may_144 rfl ?_
                  refine dr_bipush (v := nI 10) 146 hV dX5_may_146 (by decide) ?_
                  refine dn_icmp_eq (tgt := 162) 148 hV dX5_may_148 (by decide) (by omega) (by omega) (fun c148 => ?_) (fun c148 => ?_)
                  · refine dr_iconst (v := nI 1) 162 hV dX5_may_162 (by decide) ?_
                    refine dr_goto (tgt := 167) 163 hV dX5_may_163 (by decide) ?_
                    exact dr_iret 167 hV dX5_may_167 rfl (by first | rfl | exact dz_bn) (by clear hV; first | exact dz_bp1 (by unfold sg_may sg_at sg_foot sg_head; grind) | exact dz_bp0 (by unfold sg_may sg_at sg_foot sg_head; grind))
                  · refine dr_aload_n 151 hV dX5_may_151 rfl ?_
                    refine dr_iload_n 152 hV dX5_may_152 rfl ?_
                    refine dr_iload 153 hV dX5_may_153 rfl ?_
                    refine dr_cvp2 155 hV dz_lX5_127 dX5_may_155 (by decide) (by decide) ⟨by decide, _, _, rfl, by decide, rfl⟩ (Nat.le_of_ble_eq_true rfl) (c_X5_turnOf π _ _ hO2 hR2 (by omega) (by omega)) ?_
                    refine dr_iconst (v := (-1)) 158 hV dX5_may_158 (by decide) ?_
                    refine dr_icmp_eq (tgt := 166) 159 hV dX5_may_159 (by decide) (fun c159 => ?_) (fun c159 => ?_)
                    · refine dr_iconst (v := nI 0) 166 hV dX5_may_166 (by decide) ?_
                      exact dr_iret 167 hV dX5_may_167 rfl (by first | rfl | exact dz_bn) (by clear hV; first | exact dz_bp1 (by unfold sg_may sg_at sg_foot sg_head; grind) | exact dz_bp0 (by unfold sg_may sg_at sg_foot sg_head; grind))
                    · refine dr_iconst (v := nI 1) 162 hV dX5_may_162 (by decide) ?_
                      refine dr_goto (tgt := 167) 163 hV dX5_may_163 (by decide) ?_
                      exact dr_iret 167 hV dX5_may_167 rfl (by first | rfl | exact dz_bn) (by clear hV; first | exact dz_bp1 (by unfold sg_may sg_at sg_foot sg_head; grind) | exact dz_bp0 (by unfold sg_may sg_at sg_foot sg_head; grind))
              · refine dr_aload_n 127 hV dX5_may_127 rfl ?_
                refine dr_iload_n 128 hV dX5_may_128 rfl ?_
                refine dr_iload 129 hV dX5_may_129 rfl ?_
                refine dr_cvp2 131 hV dz_lX5_138 dX5_may_131 (by decide) (by decide) ⟨by decide, _, _, rfl, by decide, rfl⟩ (Nat.le_of_ble_eq_true rfl) (c_X5_fitsHead π _ _ hO2 hR2 (by omega) g1) ?_
                first | refine dr_ifb_ne (tgt := 139) 134 hV dX5_may_134 (by decide) (fun c134 => ?_) (fun c134 => ?_) | refine dr_if_ne (tgt := 139) 134 hV dX5_may_134 (by decide) (fun c134 => ?_) (fun c134 => ?_)
                · refine dr_iload 139 hV dX5_may_139 rfl ?_
                  first | refine dr_ifb_ne (tgt := 162) 141 hV dX5_may_141 (by decide) (fun c141 => ?_) (fun c141 => ?_) | refine dr_if_ne (tgt := 162) 141 hV dX5_may_141 (by decide) (fun c141 => ?_) (fun c141 => ?_)
                  · refine dr_iconst (v := nI 1) 162 hV dX5_may_162 (by decide) ?_
                    refine dr_goto (tgt := 167) 163 hV dX5_may_163 (by decide) ?_
                    exact dr_iret 167 hV dX5_may_167 rfl (by first | rfl | exact dz_bn) (by clear hV; first | exact dz_bp1 (by unfold sg_may sg_at sg_foot sg_head; grind) | exact dz_bp0 (by unfold sg_may sg_at sg_foot sg_head; grind))
                  · refine dr_iload 144 hV dX5_may_144 rfl ?_
                    refine dr_bipush (v := nI 10) 146 hV dX5_may_146 (by decide) ?_
                    refine dn_icmp_eq (tgt := 162) 148 hV dX5_may_148 (by decide) (by omega) (by omega) (fun c148 => ?_) (fun c148 => ?_)
                    · refine dr_iconst (v := nI 1) 162 hV dX5_may_162 (by decide) ?_
                      refine dr_goto (tgt := 167) 163 hV dX5_may_163 (by decide) ?_
                      exact dr_iret 167 hV dX5_may_167 rfl (by first | rfl | exact dz_bn) (by clear hV; first | exact dz_bp1 (by unfold sg_may sg_at sg_foot sg_head; grind) | exact dz_bp0 (by unfold sg_may sg_at sg_foot sg_head; grind))
                    · refine dr_aload_n 151 hV dX5_may_151 rfl ?_
                      refine dr_iload_n 152 hV dX5_may_152 rfl ?_
                      refine dr_iload 153 hV dX5_may_153 rfl ?_
                      refine dr_cvp2 155 hV dz_lX5_127 dX5_may_155 (by decide) (by decide) ⟨by decide, _, _, rfl, by decide, rfl⟩ (Nat.le_of_ble_eq_true rfl) (c_X5_turnOf π _ _ hO2 hR2 (by omega) (by omega)) ?_
                      refine dr_iconst (v := (-1)) 158 hV dX5_may_158 (by decide) ?_
                      refine dr_icmp_eq (tgt := 166) 159 hV dX5_may_159 (by decide) (fun c159 => ?_) (fun c159 => ?_)
                      · refine dr_iconst (v := nI 0) 166 hV dX5_may_166 (by decide) ?_
                        exact dr_iret 167 hV dX5_may_167 rfl (by first | rfl | exact dz_bn) (by clear hV; first | exact dz_bp1 (by unfold sg_may sg_at sg_foot sg_head; grind) | exact dz_bp0 (by unfold sg_may sg_at sg_foot sg_head; grind))
                      · refine dr_iconst (v := nI 1) 162 hV dX5_may_162 (by decide) ?_
                        refine dr_goto (tgt := 167) 163 hV dX5_may_163 (by decide) ?_
                        exact dr_iret 167 hV dX5_may_167 rfl (by first | rfl | exact dz_bn) (by clear hV; first | exact dz_bp1 (by unfold sg_may sg_at sg_foot sg_head; grind) | exact dz_bp0 (by unfold sg_may sg_at sg_foot sg_head; grind))
                · refine dr_iconst (v := nI 0) 137 hV dX5_may_137 (by decide) ?_
                  exact dr_iret 138 hV dX5_may_138 rfl (by first | rfl | exact dz_bn) (by clear hV; first | exact dz_bp1 (by unfold sg_may sg_at sg_foot sg_head; grind) | exact dz_bp0 (by unfold sg_may sg_at sg_foot sg_head; grind))
            · refine dr_aload_n 112 hV dX5_may_112 rfl ?_
              refine dr_iload_n 113 hV dX5_may_113 rfl ?_
              refine dr_iload 114 hV dX5_may_114 rfl ?_
              refine dr_cvp2 116 hV dz_lX5_134 dX5_may_116 (by decide) (by decide) ⟨by decide, _, _, rfl, by decide, rfl⟩ (Nat.le_of_ble_eq_true rfl) (c_X5_fitsFoot π _ _ hO2 hR2 (by omega) g1) ?_
              first | refine dr_ifb_eq (tgt := 137) 119 hV dX5_may_119 (by decide) (fun c119 => ?_) (fun c119 => ?_) | refine dr_if_eq (tgt := 137) 119 hV dX5_may_119 (by decide) (fun c119 => ?_) (fun c119 => ?_)
              · refine dr_iconst (v := nI 0) 137 hV dX5_may_137 (by decide) ?_
                exact dr_iret 138 hV dX5_may_138 rfl (by first | rfl | exact dz_bn) (by clear hV; first | exact dz_bp1 (by unfold sg_may sg_at sg_foot sg_head; grind) | exact dz_bp0 (by unfold sg_may sg_at sg_foot sg_head; grind))
              · refine dr_iload 122 hV dX5_may_122 rfl ?_
                first | refine dr_ifb_eq (tgt := 139) 124 hV dX5_may_124 (by decide) (fun c124 => ?_) (fun c124 => ?_) | refine dr_if_eq (tgt := 139) 124 hV dX5_may_124 (by decide) (fun c124 => ?_) (fun c124 => ?_)
                · refine dr_iload 139 hV dX5_may_139 rfl ?_
                  first | refine dr_ifb_ne (tgt := 162) 141 hV dX5_may_141 (by decide) (fun c141 => ?_) (fun c141 => ?_) | refine dr_if_ne (tgt := 162) 141 hV dX5_may_141 (by decide) (fun c141 => ?_) (fun c141 => ?_)
                  · refine dr_iconst (v := nI 1) 162 hV dX5_may_162 (by decide) ?_
                    refine dr_goto (tgt := 167) 163 hV dX5_may_163 (by decide) ?_
                    exact dr_iret 167 hV dX5_may_167 rfl (by first | rfl | exact dz_bn) (by clear hV; first | exact dz_bp1 (by unfold sg_may sg_at sg_foot sg_head; grind) | exact dz_bp0 (by unfold sg_may sg_at sg_foot sg_head; grind))
                  · refine dr_iload 144 hV dX5_may_144 rfl ?_
                    refine dr_bipush (v := nI 10) 146 hV dX5_may_146 (by decide) ?_
                    refine dn_icmp_eq (tgt := 162) 148 hV dX5_may_148 (by decide) (by omega) (by omega) (fun c148 => ?_) (fun c148 => ?_)
                    · refine dr_iconst (v := nI 1) 162 hV dX5_may_162 (by decide) ?_
                      refine dr_goto (tgt := 167) 163 hV dX5_may_163 (by decide) ?_
                      exact dr_iret 167 hV dX5_may_167 rfl (by first | rfl | exact dz_bn) (by clear hV; first | exact dz_bp1 (by unfold sg_may sg_at sg_foot sg_head; grind) | exact dz_bp0 (by unfold sg_may sg_at sg_foot sg_head; grind))
                    · refine dr_aload_n 151 hV dX5_may_151 rfl ?_
                      refine dr_iload_n 152 hV dX5_may_152 rfl ?_
                      refine dr_iload 153 hV dX5_may_153 rfl ?_
                      refine dr_cvp2 155 hV dz_lX5_127 dX5_may_155 (by decide) (by decide) ⟨by decide, _, _, rfl, by decide, rfl⟩ (Nat.le_of_ble_eq_true rfl) (c_X5_turnOf π _ _ hO2 hR2 (by omega) (by omega)) ?_
                      refine dr_iconst (v := (-1)) 158 hV dX5_may_158 (by decide) ?_
                      refine dr_icmp_eq (tgt := 166) 159 hV dX5_may_159 (by decide) (fun c159 => ?_) (fun c159 => ?_)
                      · refine dr_iconst (v := nI 0) 166 hV dX5_may_166 (by decide) ?_
                        exact dr_iret 167 hV dX5_may_167 rfl (by first | rfl | exact dz_bn) (by clear hV; first | exact dz_bp1 (by unfold sg_may sg_at sg_foot sg_head; grind) | exact dz_bp0 (by unfold sg_may sg_at sg_foot sg_head; grind))
                      · refine dr_iconst (v := nI 1) 162 hV dX5_may_162 (by decide) ?_
                        refine dr_goto (tgt := 167) 163 hV dX5_may_163 (by decide) ?_
                        exact dr_iret 167 hV dX5_may_167 rfl (by first | rfl | exact dz_bn) (by clear hV; first | exact dz_bp1 (by unfold sg_may sg_at sg_foot sg_head; grind) | exact dz_bp0 (by unfold sg_may sg_at sg_foot sg_head; grind))
                · refine dr_aload_n 127 hV dX5_may_127 rfl ?_
                  refine dr_iload_n 128 hV dX5_may_128 rfl ?_
                  refine dr_iload 129 hV dX5_may_129 rfl ?_
                  refine dr_cvp2 131 hV dz_lX5_138 dX5_may_131 (by decide) (by decide) ⟨by decide, _, _, rfl, by decide, rfl⟩ (Nat.le_of_ble_eq_true rfl) (c_X5_fitsHead π _ _ hO2 hR2 (by omega) g1) ?_
                  first | refine dr_ifb_ne (tgt := 139) 134 hV dX5_may_134 (by decide) (fun c134 => ?_) (fun c134 => ?_) | refine dr_if_ne (tgt := 139) 134 hV dX5_may_134 (by decide) (fun c134 => ?_) (fun c134 => ?_)
                  · refine dr_iload 139 hV dX5_may_139 rfl ?_
                    first | refine dr_ifb_ne (tgt := 162) 141 hV dX5_may_141 (by decide) (fun c141 => ?_) (fun c141 => ?_) | refine dr_if_ne (tgt := 162) 141 hV dX5_may_141 (by decide) (fun c141 => ?_) (fun c141 => ?_)
                    · refine dr_iconst (v := nI 1) 162 hV dX5_may_162 (by decide) ?_
                      refine dr_goto (tgt := 167) 163 hV dX5_may_163 (by decide) ?_
                      exact dr_iret 167 hV dX5_may_167 rfl (by first | rfl | exact dz_bn) (by clear hV; first | exact dz_bp1 (by unfold sg_may sg_at sg_foot sg_head; grind) | exact dz_bp0 (by unfold sg_may sg_at sg_foot sg_head; grind))
                    · refine dr_iload 144 hV dX5_may_144 rfl ?_
                      refine dr_bipush (v := nI 10) 146 hV dX5_may_146 (by decide) ?_
                      refine dn_icmp_eq (tgt := 162) 148 hV dX5_may_148 (by decide) (by omega) (by omega) (fun c148 => ?_) (fun c148 => ?_)
                      · refine dr_iconst (v := nI 1) 162 hV dX5_may_162 (by decide) ?_
                        refine dr_goto (tgt := 167) 163 hV dX5_may_163 (by decide) ?_
                        exact dr_iret 167 hV dX5_may_167 rfl (by first | rfl | exact dz_bn) (by clear hV; first | exact dz_bp1 (by unfold sg_may sg_at sg_foot sg_head; grind) | exact dz_bp0 (by unfold sg_may sg_at sg_foot sg_head; grind))
                      · refine dr_aload_n 151 hV dX5_may_151 rfl ?_
                        refine dr_iload_n 152 hV dX5_may_152 rfl ?_
                        refine dr_iload 153 hV dX5_may_153 rfl ?_
                        refine dr_cvp2 155 hV dz_lX5_127 dX5_may_155 (by decide) (by decide) ⟨by decide, _, _, rfl, by decide, rfl⟩ (Nat.le_of_ble_eq_true rfl) (c_X5_turnOf π _ _ hO2 hR2 (by omega) (by omega)) ?_
                        refine dr_iconst (v := (-1)) 158 hV dX5_may_158 (by decide) ?_
                        refine dr_icmp_eq (tgt := 166) 159 hV dX5_may_159 (by decide) (fun c159 => ?_) (fun c159 => ?_)
                        · refine dr_iconst (v := nI 0) 166 hV dX5_may_166 (by decide) ?_
                          exact dr_iret 167 hV dX5_may_167 rfl (by first | rfl | exact dz_bn) (by clear hV; first | exact dz_bp1 (by unfold sg_may sg_at sg_foot sg_head; grind) | exact dz_bp0 (by unfold sg_may sg_at sg_foot sg_head; grind))
                        · refine dr_iconst (v := nI 1) 162 hV dX5_may_162 (by decide) ?_
                          refine dr_goto (tgt := 167) 163 hV dX5_may_163 (by decide) ?_
                          exact dr_iret 167 hV dX5_may_167 rfl (by first | rfl | exact dz_bn) (by clear hV; first | exact dz_bp1 (by unfold sg_may sg_at sg_foot sg_head; grind) | exact dz_bp0 (by unfold sg_may sg_at sg_foot sg_head; grind))
                  · refine dr_iconst (v := nI 0) 137 hV dX5_may_137 (by decide) ?_
                    exact dr_iret 138 hV dX5_may_138 rfl (by first | rfl | exact dz_bn) (by clear hV; first | exact dz_bp1 (by unfold sg_may sg_at sg_foot sg_head; grind) | exact dz_bp0 (by unfold sg_may sg_at sg_foot sg_head; grind))
      · refine dr_iconst (v := nI 1) 28 hV dX5_may_28 (by decide) ?_
        exact dr_iret 29 hV dX5_may_29 rfl (by first | rfl | exact dz_bn) (by clear hV; first | exact dz_bp1 (by unfold sg_may sg_at sg_foot sg_head; grind) | exact dz_bp0 (by unfold sg_may sg_at sg_foot sg_head; grind))
    · refine dr_iconst (v := nI 0) 20 hV dX5_may_20 (by decide) ?_
      exact dr_iret 21 hV dX5_may_21 rfl (by first | rfl | exact dz_bn) (by clear hV; first | exact dz_bp1 (by unfold sg_may sg_at sg_foot sg_head; grind) | exact dz_bp0 (by unfold sg_may sg_at sg_foot sg_head; grind))
end
section
/-! WAYS: completions counted by their new stones -/
/-- the least k below 9 where c isn't 0, or 1000 -/
theorem dz_lo_ex (c : Nat → Nat) : ∃ k, (k = 1000 ∧ ∀ j, j < 9 → c j = 0) ∨ (k < 9 ∧ c k ≠ 0 ∧ ∀ j, j < k → c j = 0) := by
  by_cases hx : ∃ i, i < 9 ∧ c i ≠ 0
  · obtain ⟨i, hi, hc, hl⟩ := fb_first (p := fun i => c i ≠ 0) hx
    exact ⟨i, Or.inr ⟨hi, hc, fun j hj => by simpa using hl j hj⟩⟩
  · exact ⟨1000, Or.inl ⟨rfl, fun j hj => Classical.byContradiction fun q => hx ⟨j, hj, q⟩⟩⟩
noncomputable def dz_lo (c : Nat → Nat) : Nat := Classical.choose (dz_lo_ex c)
noncomputable def dz_no (c : Nat → Nat) : Nat := if dz_lo c = 1000 then 0 else c (dz_lo c)
theorem dz_lo_c (c : Nat → Nat) : (dz_lo c = 1000 ∧ ∀ j, j < 9 → c j = 0) ∨ (dz_lo c < 9 ∧ c (dz_lo c) ≠ 0 ∧ ∀ j, j < dz_lo c → c j = 0) := Classical.choose_spec (dz_lo_ex c)
theorem dz_lo_s {c : Nat → Nat} {i : Nat} (hi : i < 9) (hc : c i ≠ 0) (hl : ∀ j, j < i → c j = 0) : dz_lo c = i := by
  rcases dz_lo_c c with h | h
  · exact absurd (h.2 i hi) hc
  · rcases Nat.lt_trichotomy (dz_lo c) i with q | q | q
    · exact absurd (hl _ q) h.2.1
    · exact q
    · exact absurd (h.2.2 _ q) hc
theorem dz_lo_n {c : Nat → Nat} (hl : ∀ j, j < 9 → c j = 0) : dz_lo c = 1000 := by
  rcases dz_lo_c c with h | h
  · exact h.1
  · exact absurd (hl _ h.1) h.2.1
theorem dz_lo_le (c : Nat → Nat) : dz_lo c ≤ 1000 := by
  rcases dz_lo_c c with h | h <;> omega
theorem dz_no_0 {c : Nat → Nat} (h : dz_lo c = 1000) : dz_no c = 0 := if_pos h
theorem dz_no_s {c : Nat → Nat} (h : ¬ dz_lo c = 1000) : dz_no c = c (dz_lo c) := if_neg h
theorem dz_no_pos {c : Nat → Nat} (h : ¬ dz_lo c = 1000) : 0 < dz_no c := by
  rw [dz_no_s h]
  rcases dz_lo_c c with q | q
  · exact absurd q.1 h
  · exact Nat.pos_of_ne_zero q.2.1
theorem dz_lo_cong {c e : Nat → Nat} (h : ∀ k, k < 9 → c k = e k) : dz_lo c = dz_lo e := by
  rcases dz_lo_c e with q | q
  · rw [q.1]; exact dz_lo_n (fun j hj => by rw [h j hj]; exact q.2 j hj)
  · exact dz_lo_s q.1 (by rw [h _ q.1]; exact q.2.1) (fun j hj => by rw [h j (by omega)]; exact q.2.2 j hj)
theorem dz_no_cong {c e : Nat → Nat} (h : ∀ k, k < 9 → c k = e k) : dz_no c = dz_no e := by
  unfold dz_no
  rw [dz_lo_cong h]
  rcases dz_lo_c e with q | q
  · rw [if_pos q.1, if_pos q.1]
  · rw [if_neg (by omega), if_neg (by omega), h _ q.1]
theorem dz_lo_zero : dz_lo (fun _ => 0) = 1000 := dz_lo_n (fun _ _ => rfl)
theorem dz_no_zero : dz_no (fun _ => 0) = 0 := dz_no_0 dz_lo_zero
/-- one more item's completions e beside c: none -/
theorem dz_ad_n {c e : Nat → Nat} (h : dz_lo e = 1000) : dz_lo (fun k => c k + e k) = dz_lo c ∧ dz_no (fun k => c k + e k) = dz_no c := by
  have h0 : ∀ k, k < 9 → c k + e k = c k := fun k hk => by
    rcases dz_lo_c e with q | q
    · rw [q.2 k hk]; rfl
    · omega
  exact ⟨dz_lo_cong h0, dz_no_cong h0⟩
theorem dz_ad_gt {c e : Nat → Nat} (h : dz_lo c < dz_lo e) : dz_lo (fun k => c k + e k) = dz_lo c ∧ dz_no (fun k => c k + e k) = dz_no c := by
  have hle := dz_lo_le e
  rcases dz_lo_c c with q | q
  · omega
  · have he : ∀ j, j ≤ dz_lo c → e j = 0 := fun j hj => by
      rcases dz_lo_c e with r | r
      · exact r.2 j (by omega)
      · exact r.2.2 j (by omega)
    have e1 : dz_lo (fun k => c k + e k) = dz_lo c := dz_lo_s q.1 (by rw [he _ (Nat.le_refl _)]; exact q.2.1) (fun j hj => by rw [q.2.2 j hj, he j (by omega)])
    refine ⟨e1, ?_⟩
    rw [dz_no_s (by omega), dz_no_s (by omega), e1, he _ (Nat.le_refl _)]; rfl
theorem dz_ad_lt {c e : Nat → Nat} (h : dz_lo e < dz_lo c) : dz_lo (fun k => c k + e k) = dz_lo e ∧ dz_no (fun k => c k + e k) = dz_no e := by
  have := dz_ad_gt (c := e) (e := c) h
  have hc : (fun k => c k + e k) = (fun k => e k + c k) := funext fun k => Nat.add_comm _ _
  rw [hc]; exact this
theorem dz_ad_eq {c e : Nat → Nat} (h : dz_lo e = dz_lo c) (h2 : ¬ dz_lo e = 1000) : dz_lo (fun k => c k + e k) = dz_lo c ∧ dz_no (fun k => c k + e k) = dz_no c + dz_no e := by
  rcases dz_lo_c c with q | q
  · omega
  · rcases dz_lo_c e with r | r
    · omega
    · have e1 : dz_lo (fun k => c k + e k) = dz_lo c := dz_lo_s q.1 (by omega) (fun j hj => by rw [q.2.2 j hj, r.2.2 j (by omega)])
      refine ⟨e1, ?_⟩
      rw [dz_no_s (c := fun k => c k + e k) (by omega), dz_no_s (by omega), dz_no_s h2, e1, h]
/-- the stones of an item d: one new one, or none -/
def sg_sh (d : Nat) (c : Nat → Nat) (k : Nat) : Nat := if d = 10 then (if k = 0 then 0 else c (k - 1)) else c k
theorem sg_sh_n {d : Nat} (h : ¬ d = 10) (c : Nat → Nat) : sg_sh d c = c := by funext k; simp [sg_sh, h]
theorem sg_sh_lo (c : Nat → Nat) (h8 : c 8 = 0) : dz_lo (sg_sh 10 c) = (if dz_lo c = 1000 then 1000 else dz_lo c + 1) ∧ dz_no (sg_sh 10 c) = dz_no c := by
  rcases dz_lo_c c with q | q
  · have e1 : dz_lo (sg_sh 10 c) = 1000 := dz_lo_n (fun j hj => by
      unfold sg_sh
      by_cases hj0 : j = 0
      · simp [hj0]
      · simp [hj0, q.2 (j - 1) (by omega)])
    rw [if_pos q.1, dz_no_0 e1, dz_no_0 q.1]
    exact ⟨e1, rfl⟩
  · have hlt : dz_lo c < 8 := by
      rcases Nat.lt_or_ge (dz_lo c) 8 with h | h
      · exact h
      · have : dz_lo c = 8 := by omega
        rw [this] at q
        exact absurd h8 q.2.1
    have e1 : dz_lo (sg_sh 10 c) = dz_lo c + 1 := dz_lo_s (by omega) (by simp [sg_sh]; exact q.2.1) (fun j hj => by
      unfold sg_sh
      by_cases hj0 : j = 0
      · simp [hj0]
      · simp [hj0, q.2.2 (j - 1) (by omega)])
    rw [if_neg (by omega)]
    refine ⟨e1, ?_⟩
    rw [dz_no_s (by omega), dz_no_s (by omega), e1]
    simp [sg_sh]
def sg_nx (u d : Nat) : Nat := if d = 10 then u else u ||| 2 ^ d
noncomputable def sg_ok (s : dz_Sg) (p d u l : Nat) : Bool := dz_B ((d = 10 ∨ d < sg_n s) ∧ sg_may s p d u l)
/-- ways to fill the last r places behind u, over l, with k new stones -/
noncomputable def sg_C (s : dz_Sg) : Nat → Nat → Nat → Nat → Nat
  | 0, _, _, k => if k = 0 then 1 else 0
  | r + 1, u, l, k => fb_sm (fun d => if sg_ok s (sg_p s - (r + 1)) d u l then sg_sh d (sg_C s r (sg_nx u d) d) k else 0) 11
noncomputable def sg_E (s : dz_Sg) (r u l : Nat) (d k : Nat) : Nat := if sg_ok s (sg_p s - (r + 1)) d u l then sg_sh d (sg_C s r (sg_nx u d) d) k else 0
theorem sg_C_succ (s : dz_Sg) (r u l k : Nat) : sg_C s (r + 1) u l k = fb_sm (fun d => sg_E s r u l d k) 11 := rfl
theorem sg_C_big (s : dz_Sg) : ∀ (r u l k : Nat), r < k → sg_C s r u l k = 0
  | 0, u, l, k, h => by unfold sg_C; rw [if_neg (by omega)]
  | r + 1, u, l, k, h => by
    rw [sg_C_succ]
    have h0 : ∀ d, d < 11 → sg_E s r u l d k = 0 := fun d _ => by
      unfold sg_E sg_sh
      split
      · split
        · rw [if_neg (by omega)]; exact sg_C_big s r _ _ _ (by omega)
        · exact sg_C_big s r _ _ _ (by omega)
      · rfl
    rw [fb_sm_cong h0, fb_sm_const]
theorem sg_C_le (s : dz_Sg) : ∀ (r u l k : Nat), sg_C s r u l k ≤ 11 ^ r
  | 0, u, l, k => by unfold sg_C; split <;> decide
  | r + 1, u, l, k => by
    rw [sg_C_succ]
    have h0 : ∀ d, d < 11 → sg_E s r u l d k ≤ 11 ^ r := fun d _ => by
      unfold sg_E sg_sh
      split
      · split
        · split
          · exact Nat.zero_le _
          · exact sg_C_le s r _ _ _
        · exact sg_C_le s r _ _ _
      · exact Nat.zero_le _
    have := fb_sm_le h0
    rw [fb_sm_const] at this
    rw [Nat.pow_succ]; omega
/-- l is new stone, or a drum among u -/
def sg_vl (s : dz_Sg) (u l : Nat) : Prop := l = 10 ∨ (l < sg_n s ∧ u.testBit l = true)
noncomputable def sg_L (s : dz_Sg) (p u l : Nat) : Nat := if dz_B (p = sg_p s ∨ sg_vl s u l) then dz_lo (sg_C s (sg_p s - p) u l) else 1000
noncomputable def sg_M (s : dz_Sg) (p u l : Nat) : Nat := if dz_B (p = sg_p s ∨ sg_vl s u l) then dz_no (sg_C s (sg_p s - p) u l) else 0
theorem sg_L_v {s : dz_Sg} {p u l : Nat} (h : p = sg_p s ∨ sg_vl s u l) : sg_L s p u l = dz_lo (sg_C s (sg_p s - p) u l) := by unfold sg_L; rw [if_pos (dz_Bt.mpr h)]
theorem sg_M_v {s : dz_Sg} {p u l : Nat} (h : p = sg_p s ∨ sg_vl s u l) : sg_M s p u l = dz_no (sg_C s (sg_p s - p) u l) := by unfold sg_M; rw [if_pos (dz_Bt.mpr h)]
theorem sg_L_n {s : dz_Sg} {p u l : Nat} (h : ¬ (p = sg_p s ∨ sg_vl s u l)) : sg_L s p u l = 1000 := by unfold sg_L; rw [if_neg (fun q => h (dz_Bt.mp q))]
theorem sg_M_n {s : dz_Sg} {p u l : Nat} (h : ¬ (p = sg_p s ∨ sg_vl s u l)) : sg_M s p u l = 0 := by unfold sg_M; rw [if_neg (fun q => h (dz_Bt.mp q))]
theorem sg_L_P (s : dz_Sg) (u l : Nat) : sg_L s (sg_p s) u l = 0 ∧ sg_M s (sg_p s) u l = 1 := by
  rw [sg_L_v (Or.inl rfl), sg_M_v (Or.inl rfl), Nat.sub_self]
  have e : dz_lo (sg_C s 0 u l) = 0 := dz_lo_s (by decide) (by unfold sg_C; simp) (fun j hj => absurd hj (by omega))
  refine ⟨e, ?_⟩
  rw [dz_no_s (by omega), e]
  rfl
theorem sg_L_le (s : dz_Sg) (p u l : Nat) : sg_L s p u l ≤ 1000 := by
  unfold sg_L; split
  · exact dz_lo_le _
  · exact Nat.le_refl _
theorem sg_M_le (s : dz_Sg) (p u l : Nat) (hp : sg_p s ≤ 8) : sg_M s p u l ≤ 11 ^ 8 := by
  unfold sg_M; split
  · unfold dz_no; split
    · exact Nat.zero_le _
    · exact Nat.le_trans (sg_C_le s _ _ _ _) (Nat.pow_le_pow_right (by decide) (by omega))
  · exact Nat.zero_le _
def sg_ix (p u l : Nat) : Nat := (1024 * p + u) * 11 + l
theorem sg_ix_inj {p u l p2 u2 l2 : Nat} (hu : u < 1024) (hl : l < 11) (hu2 : u2 < 1024) (hl2 : l2 < 11) (h : sg_ix p u l = sg_ix p2 u2 l2) : p = p2 ∧ u = u2 ∧ l = l2 := by
  unfold sg_ix at h; omega
theorem sg_ix_lt {p u l : Nat} (hp : p ≤ 8) (hu : u < 1024) (hl : l < 11) : sg_ix p u l < 101376 := by
  unfold sg_ix; omega
theorem sg_nx_lt {u d n : Nat} (hu : u < 2 ^ n) (hd : d = 10 ∨ d < n) : sg_nx u d < 2 ^ n := by
  unfold sg_nx
  split
  · exact hu
  · exact Nat.or_lt_two_pow hu (Nat.pow_lt_pow_right (by decide) (by omega))
theorem sg_vl_nx {s : dz_Sg} {u d : Nat} (hd : d = 10 ∨ d < sg_n s) : sg_vl s (sg_nx u d) d := by
  unfold sg_vl sg_nx
  rcases hd with h | h
  · exact Or.inl h
  · by_cases h10 : d = 10
    · exact Or.inl h10
    · rw [if_neg h10]
      exact Or.inr ⟨h, by rw [fb_bit_set]; simp⟩
theorem dz_pn {n : Nat} (h : n ≤ 10) : 2 ^ n ≤ 1024 := by
  have : 2 ^ n ≤ 2 ^ 10 := Nat.pow_le_pow_right (by decide) h
  exact this
end
section
/-! the model's find -/
def sg_best (s : dz_Sg) (p d u l : Nat) : Prop := (d = 10 ∨ d < sg_n s) ∧ sg_may s p d u l ∧ ¬ sg_L s (p + 1) (sg_nx u d) d = 1000 ∧ sg_L s (p + 1) (sg_nx u d) d + (if d = 10 then 1 else 0) = sg_L s p u l
theorem sg_L_9 {s : dz_Sg} {p u l : Nat} (h : ¬ sg_L s p u l = 1000) : sg_L s p u l < 9 := by
  unfold sg_L at h ⊢
  split at h
  · rename_i q
    rw [if_pos q]
    rcases dz_lo_c (sg_C s (sg_p s - p) u l) with z | z
    · exact absurd z.1 h
    · exact z.1
  · exact absurd rfl h
theorem dz_addb {a : Nat} {P : Prop} {hd : Decidable P} : nI a + @dz_b P hd = nI (a + if P then 1 else 0) := by
  unfold dz_b; split
  · exact nI_1 a
  · rw [Nat.add_zero]; exact (congrArg (fun z => nI a + z) nI_0.symm).trans ((nI_add a 0).trans rfl)
theorem c_index (π : dz_Pl) (Λ : Nat → dz_Ds) (N : Nat) (p u l : Nat) (I : dz_MI) (J : dz_MJ) : dz_Cl π Λ N mX5_index 0 0 [.inl (nI p), .inl (nI u), .inl (nI l)] I J (dz_Pu (.inl (nI (sg_ix p u l))) I J) := c_X5_index π Λ N p u l I J
theorem c_behind (π : dz_Pl) (p d u : Nat) (I : dz_MI) (J : dz_MJ) (hd : d ≤ 10) : dz_Cl π dz_M 24 mX5_behind 1 22 [.inr (.inr 0), .inl (nI p), .inl (nI d), .inl (nI u)] I J (dz_Pu (.inl (nI (sg_ix (p + 1) (sg_nx u d) d))) I J) := c_X5_behind π p d u I J hd
def fi_L (s : dz_Sg) (I : dz_MI) : Prop := ∀ p u l, p ≤ sg_p s → u < 2 ^ sg_n s → l < 11 → I 18 (sg_ix p u l) = nI (sg_L s p u l)
set_option maxRecDepth 100000 in
set_option maxHeartbeats 4000000 in
theorem c_X5_isBest (π : dz_Pl) {s : dz_Sg} {p d u l : Nat} (I : dz_MI) (J : dz_MJ) (hO : dz_OK s) (hR : dz_RM s I) (hT : fi_L s I) (hp : p < sg_p s) (hd : d ≤ 10) (hu : u < 2 ^ sg_n s) (hl : l = 10 ∨ l < sg_n s) : dz_Cl π dz_M 24 mX5_isBest 3 91 [.inr (.inr 0), .inl (nI p), .inl (nI d), .inl (nI u), .inl (nI l)] I J (dz_Pu (.inl (dz_bp (sg_best s p d u l))) I J) := by
  refine dz_body (own := 5) dz_mX5_isBest rfl (Nat.le_of_ble_eq_true rfl) (fun V hV => ?_)
  have hO2 := hO
  have hR2 := hR
  obtain ⟨o1, o2, o3, o4, o5, o6, o7, o8, o9⟩ := hO
  obtain ⟨m1, m2, m3, m4, m5, m6, m7, m8, m9, m10, m11, m12⟩ := hR
  have hu2 := dz_pn o1
  have hle := sg_L_le s (p + 1) (sg_nx u d) d
  have hle2 := sg_L_le s p u l
  refine dr_iload_n 0 hV dX5_isBest_0 rfl ?_
  refine dr_bipush (v := nI 10) 1 hV dX5_isBest_1 (by decide) ?_
  refine dn_icmp_eq (tgt := 14) 3 hV dX5_isBest_3 (by decide) (by omega) (by omega) (fun c3 => ?_) (fun c3 => ?_)
  · refine dr_aload_n 14 hV dX5_isBest_14 rfl ?_
    refine dr_iload_n 15 hV dX5_isBest_15 rfl ?_
    refine dr_iload_n 16 hV dX5_isBest_16 rfl ?_
    refine dr_iload_n 17 hV dX5_isBest_17 rfl ?_
    refine dr_iload 18 hV dX5_isBest_18 rfl ?_
    refine dr_cvp4 20 hV dz_lX5_148 dX5_isBest_20 (by decide) (by decide) ⟨by decide, _, _, rfl, by decide, rfl⟩ (Nat.le_of_ble_eq_true rfl) (c_X5_may π _ _ hO2 hR2 hp (by omega) (by omega) hl) ?_
    first | refine dr_ifb_ne (tgt := 28) 23 hV dX5_isBest_23 (by decide) (fun c23 => ?_) (fun c23 => ?_) | refine dr_if_ne (tgt := 28) 23 hV dX5_isBest_23 (by decide) (fun c23 => ?_) (fun c23 => ?_)
    · have hdn : d = 10 ∨ d < sg_n s := by omega
      have hnx := sg_nx_lt hu hdn
      refine dr_aload_n 28 hV dX5_isBest_28 rfl ?_
      refine dr_geta 29 hV dX5_isBest_29 (by decide) (by decide) rfl rfl rfl ?_
      refine dr_aload_n 32 hV dX5_isBest_32 rfl ?_
      refine dr_iload_n 33 hV dX5_isBest_33 rfl ?_
      refine dr_iload_n 34 hV dX5_isBest_34 rfl ?_
      refine dr_iload_n 35 hV dX5_isBest_35 rfl ?_
      refine dr_cvp3 36 hV dz_lX5_152 dX5_isBest_36 (by decide) (by decide) ⟨by decide, _, _, rfl, by decide, rfl⟩ (Nat.le_of_ble_eq_true rfl) (c_behind π p d u _ _ hd) ?_
      refine dr_iald 39 hV dX5_isBest_39 (by decide) rfl rfl (sg_ix_lt (p := p + 1) (u := sg_nx u d) (l := d) (by omega) (by omega) (by omega)) (by decide) (hT (p + 1) (sg_nx u d) d (by omega) hnx (by omega)) ?_
      refine dr_istore 40 hV dX5_isBest_40 (by decide) ?_
      refine dr_iload 42 hV dX5_isBest_42 rfl ?_
      refine dr_sipush (v := nI 1000) 44 hV dX5_isBest_44 (by decide) ?_
      refine dn_icmp_eq (tgt := 83) 47 hV dX5_isBest_47 (by decide) (by omega) (by omega) (fun c47 => ?_) (fun c47 => ?_)
      · refine dr_iconst (v := nI 0) 83 hV dX5_isBest_83 (by decide) ?_
        exact dr_iret 84 hV dX5_isBest_84 rfl (by first | rfl | exact dz_bn) (by clear hV; first | exact dz_bp1 (by unfold sg_best; grind) | exact dz_bp0 (by unfold sg_best; grind))
      · refine dr_iload 50 hV dX5_isBest_50 rfl ?_
        refine dr_iload_n 52 hV dX5_isBest_52 rfl ?_
        refine dr_bipush (v := nI 10) 53 hV dX5_isBest_53 (by decide) ?_
        refine dr_mat_ne (P := d = 10) 55 hV dX5_isBest_55 dX5_isBest_58 dX5_isBest_59 dX5_isBest_62 (nI_eq (by omega) (by decide)).symm ?_
        refine dr_iadd (z := nI (sg_L s (p + 1) (sg_nx u d) d + if d = 10 then 1 else 0)) 63 hV dX5_isBest_63 dz_addb ?_
        refine dr_aload_n 64 hV dX5_isBest_64 rfl ?_
        refine dr_geta 65 hV dX5_isBest_65 (by decide) (by decide) rfl rfl rfl ?_
        refine dr_iload_n 68 hV dX5_isBest_68 rfl ?_
        refine dr_iload_n 69 hV dX5_isBest_69 rfl ?_
        refine dr_iload 70 hV dX5_isBest_70 rfl ?_
        refine dr_csp3 72 hV (Or.inl dz_lX5_144) dX5_isBest_72 (by decide) (by decide) (Nat.le_of_ble_eq_true rfl) (c_index π _ _ p u l _ _) ?_
        refine dr_iald 75 hV dX5_isBest_75 (by decide) rfl rfl (sg_ix_lt (p := p) (u := u) (l := l) (by omega) (by omega) (by omega)) (by decide) (hT p u l (by omega) hu (by omega)) ?_
        refine dn_icmp_ne (tgt := 83) 76 hV dX5_isBest_76 (by decide) (by split <;> omega) (by omega) (fun c76 => ?_) (fun c76 => ?_)
        · refine dr_iconst (v := nI 0) 83 hV dX5_isBest_83 (by decide) ?_
          exact dr_iret 84 hV dX5_isBest_84 rfl (by first | rfl | exact dz_bn) (by clear hV; first | exact dz_bp1 (by unfold sg_best; grind) | exact dz_bp0 (by unfold sg_best; grind))
        · refine dr_iconst (v := nI 1) 79 hV dX5_isBest_79 (by decide) ?_
          refine dr_goto (tgt := 84) 80 hV dX5_isBest_80 (by decide) ?_
          exact dr_iret 84 hV dX5_isBest_84 rfl (by first | rfl | exact dz_bn) (by clear hV; first | exact dz_bp1 (by unfold sg_best; grind) | exact dz_bp0 (by unfold sg_best; grind))
    · refine dr_iconst (v := nI 0) 26 hV dX5_isBest_26 (by decide) ?_
      exact dr_iret 27 hV dX5_isBest_27 rfl (by first | rfl | exact dz_bn) (by clear hV; first | exact dz_bp1 (by unfold sg_best; grind) | exact dz_bp0 (by unfold sg_best; grind))
  · refine dr_iload_n 6 hV dX5_isBest_6 rfl ?_
    refine dr_aload_n 7 hV dX5_isBest_7 rfl ?_
    refine dr_geti 8 hV dX5_isBest_8 (by decide) (by decide) rfl rfl rfl m1 ?_
    refine dn_icmp_ge (tgt := 26) 11 hV dX5_isBest_11 (by decide) (by omega) (by omega) (fun c11 => ?_) (fun c11 => ?_)
    · refine dr_iconst (v := nI 0) 26 hV dX5_isBest_26 (by decide) ?_
      exact dr_iret 27 hV dX5_isBest_27 rfl (by first | rfl | exact dz_bn) (by clear hV; first | exact dz_bp1 (by unfold sg_best; grind) | exact dz_bp0 (by unfold sg_best; grind))
    · refine dr_aload_n 14 hV dX5_isBest_14 rfl ?_
      refine dr_iload_n 15 hV dX5_isBest_15 rfl ?_
      refine dr_iload_n 16 hV dX5_isBest_16 rfl ?_
      refine dr_iload_n 17 hV dX5_isBest_17 rfl ?_
      refine dr_iload 18 hV dX5_isBest_18 rfl ?_
      refine dr_cvp4 20 hV dz_lX5_148 dX5_isBest_20 (by decide) (by decide) ⟨by decide, _, _, rfl, by decide, rfl⟩ (Nat.le_of_ble_eq_true rfl) (c_X5_may π _ _ hO2 hR2 hp (by omega) (by omega) hl) ?_
      first | refine dr_ifb_ne (tgt := 28) 23 hV dX5_isBest_23 (by decide) (fun c23 => ?_) (fun c23 => ?_) | refine dr_if_ne (tgt := 28) 23 hV dX5_isBest_23 (by decide) (fun c23 => ?_) (fun c23 => ?_)
      · have hdn : d = 10 ∨ d < sg_n s := by omega
        have hnx := sg_nx_lt hu hdn
        refine dr_aload_n 28 hV dX5_isBest_28 rfl ?_
        refine dr_geta 29 hV dX5_isBest_29 (by decide) (by decide) rfl rfl rfl ?_
        refine dr_aload_n 32 hV dX5_isBest_32 rfl ?_
        refine dr_iload_n 33 hV dX5_isBest_33 rfl ?_
        refine dr_iload_n 34 hV dX5_isBest_34 rfl ?_
        refine dr_iload_n 35 hV dX5_isBest_35 rfl ?_
        refine dr_cvp3 36 hV dz_lX5_152 dX5_isBest_36 (by decide) (by decide) ⟨by decide, _, _, rfl, by decide, rfl⟩ (Nat.le_of_ble_eq_true rfl) (c_behind π p d u _ _ hd) ?_
        refine dr_iald 39 hV dX5_isBest_39 (by decide) rfl rfl (sg_ix_lt (p := p + 1) (u := sg_nx u d) (l := d) (by omega) (by omega) (by omega)) (by decide) (hT (p + 1) (sg_nx u d) d (by omega) hnx (by omega)) ?_
        refine dr_istore 40 hV dX5_isBest_40 (by decide) ?_
        refine dr_iload 42 hV dX5_isBest_42 rfl ?_
        refine dr_sipush (v := nI 1000) 44 hV dX5_isBest_44 (by decide) ?_
        refine dn_icmp_eq (tgt := 83) 47 hV dX5_isBest_47 (by decide) (by omega) (by omega) (fun c47 => ?_) (fun c47 => ?_)
        · refine dr_iconst (v := nI 0) 83 hV dX5_isBest_83 (by decide) ?_
          exact dr_iret 84 hV dX5_isBest_84 rfl (by first | rfl | exact dz_bn) (by clear hV; first | exact dz_bp1 (by unfold sg_best; grind) | exact dz_bp0 (by unfold sg_best; grind))
        · refine dr_iload 50 hV dX5_isBest_50 rfl ?_
          refine dr_iload_n 52 hV dX5_isBest_52 rfl ?_
          refine dr_bipush (v := nI 10) 53 hV dX5_isBest_53 (by decide) ?_
          refine dr_mat_ne (P := d = 10) 55 hV dX5_isBest_55 dX5_isBest_58 dX5_isBest_59 dX5_isBest_62 (nI_eq (by omega) (by decide)).symm ?_
          refine dr_iadd (z := nI (sg_L s (p + 1) (sg_nx u d) d + if d = 10 then 1 else 0)) 63 hV dX5_isBest_63 dz_addb ?_
          refine dr_aload_n 64 hV dX5_isBest_64 rfl ?_
          refine dr_geta 65 hV dX5_isBest_65 (by decide) (by decide) rfl rfl rfl ?_
          refine dr_iload_n 68 hV dX5_isBest_68 rfl ?_
          refine dr_iload_n 69 hV dX5_isBest_69 rfl ?_
          refine dr_iload 70 hV dX5_isBest_70 rfl ?_
          refine dr_csp3 72 hV (Or.inl dz_lX5_144) dX5_isBest_72 (by decide) (by decide) (Nat.le_of_ble_eq_true rfl) (c_index π _ _ p u l _ _) ?_
          refine dr_iald 75 hV dX5_isBest_75 (by decide) rfl rfl (sg_ix_lt (p := p) (u := u) (l := l) (by omega) (by omega) (by omega)) (by decide) (hT p u l (by omega) hu (by omega)) ?_
          refine dn_icmp_ne (tgt := 83) 76 hV dX5_isBest_76 (by decide) (by split <;> omega) (by omega) (fun c76 => ?_) (fun c76 => ?_)
          · refine dr_iconst (v := nI 0) 83 hV dX5_isBest_83 (by decide) ?_
            exact dr_iret 84 hV dX5_isBest_84 rfl (by first | rfl | exact dz_bn) (by clear hV; first | exact dz_bp1 (by unfold sg_best; grind) | exact dz_bp0 (by unfold sg_best; grind))
          · refine dr_iconst (v := nI 1) 79 hV dX5_isBest_79 (by decide) ?_
            refine dr_goto (tgt := 84) 80 hV dX5_isBest_80 (by decide) ?_
            exact dr_iret 84 hV dX5_isBest_84 rfl (by first | rfl | exact dz_bn) (by clear hV; first | exact dz_bp1 (by unfold sg_best; grind) | exact dz_bp0 (by unfold sg_best; grind))
      · refine dr_iconst (v := nI 0) 26 hV dX5_isBest_26 (by decide) ?_
        exact dr_iret 27 hV dX5_isBest_27 rfl (by first | rfl | exact dz_bn) (by clear hV; first | exact dz_bp1 (by unfold sg_best; grind) | exact dz_bp0 (by unfold sg_best; grind))
def fi_X (I0 : dz_MI) (J0 : dz_MJ) (I : dz_MI) (J : dz_MJ) (k0 : Nat) : Prop := (∀ c k, ¬ (c = 18 ∧ k = k0) → I c k = I0 c k) ∧ (∀ c k, ¬ ((c = 19 ∨ c = 20) ∧ k = k0) → J c k = J0 c k)
theorem fi_X.rf (I : dz_MI) (J : dz_MJ) (k0 : Nat) : fi_X I J I J k0 := ⟨fun _ _ _ => rfl, fun _ _ _ => rfl⟩
theorem fi_X.wi {I0 : dz_MI} {J0 : dz_MJ} {I : dz_MI} {J : dz_MJ} {k0 : Nat} (h : fi_X I0 J0 I J k0) (x : Int32) : fi_X I0 J0 (dz_wi I 18 k0 x) J k0 := ⟨fun c k q => by rw [dz_wi_n I x q]; exact h.1 c k q, h.2⟩
theorem fi_X.wj {I0 : dz_MI} {J0 : dz_MJ} {I : dz_MI} {J : dz_MJ} {k0 c0 : Nat} (hc : c0 = 19 ∨ c0 = 20) (h : fi_X I0 J0 I J k0) (x : Int64) : fi_X I0 J0 I (dz_wj J c0 k0 x) k0 := ⟨h.1, fun c k q => by rw [dz_wj_n J x (fun z => q ⟨by rw [z.1]; exact hc, z.2⟩)]; exact h.2 c k q⟩
theorem dz_RM.agree {s : dz_Sg} {I I2 : dz_MI} (hO : dz_OK s) (h : dz_RM s I) (ha : ∀ c k, c ≤ 17 → ¬ (c = 0 ∧ k = 0) → I2 c k = I c k) : dz_RM s I2 := by
  obtain ⟨m1, m2, m3, m4, m5, m6, m7, m8, m9, m10, m11, m12⟩ := h
  refine ⟨by rw [ha _ _ (by omega) (by omega)]; exact m1, by rw [ha _ _ (by omega) (by omega)]; exact m2, by rw [ha _ _ (by omega) (by omega)]; exact m3, by rw [ha _ _ (by omega) (by omega)]; exact m4, by rw [ha _ _ (by omega) (by omega)]; exact m5, by rw [ha _ _ (by omega) (by omega)]; exact m6, by rw [ha _ _ (by omega) (by omega)]; exact m7, fun k hk => by rw [ha _ _ (by omega) (by omega)]; exact m8 k hk, fun d w hd hw => by rw [ha _ _ (by omega) (by omega)]; exact m9 d w hd hw, fun k hk => ?_, fun q hq => ?_, fun q d hq hd => by rw [ha _ _ (by omega) (by omega)]; exact m12 q d hq hd⟩
  · rw [ha 11 _ (by omega) (by omega), ha 12 _ (by omega) (by omega), ha 13 _ (by omega) (by omega), ha 14 _ (by omega) (by omega)]; exact m10 k hk
  · rw [ha 15 _ (by omega) (by omega), ha 16 _ (by omega) (by omega)]; exact m11 q hq
theorem fi_X.RM {s : dz_Sg} {I0 : dz_MI} {J0 : dz_MJ} {I : dz_MI} {J : dz_MJ} {k0 : Nat} (hO : dz_OK s) (hR : dz_RM s I0) (h : fi_X I0 J0 I J k0) : dz_RM s I := dz_RM.agree hO hR (fun c k hc _ => h.1 c k (by omega))
/-- the tables are filled: all places behind p0, and m states of p0 -/
def fi_T (s : dz_Sg) (I : dz_MI) (J : dz_MJ) (p0 m : Nat) : Prop := ∀ p u l, p ≤ sg_p s → u < 2 ^ sg_n s → l < 11 → (p0 < p ∨ (p = p0 ∧ u * 11 + l < m)) → I 18 (sg_ix p u l) = nI (sg_L s p u l) ∧ J 19 (sg_ix p u l) = lN (sg_M s p u l) ∧ J 20 (sg_ix p u l) = 0
theorem fi_T.next {s : dz_Sg} {I0 I : dz_MI} {J0 J : dz_MJ} {p u l : Nat} (hn : sg_n s ≤ 10) (hu : u < 2 ^ sg_n s) (hl : l < 11) (h : fi_T s I0 J0 p (u * 11 + l)) (hx : fi_X I0 J0 I J (sg_ix p u l)) (h1 : I 18 (sg_ix p u l) = nI (sg_L s p u l)) (h2 : J 19 (sg_ix p u l) = lN (sg_M s p u l)) (h3 : J 20 (sg_ix p u l) = 0) : fi_T s I J p (u * 11 + (l + 1)) := by
  intro p2 u2 l2 hp2 hu2 hl2 hc
  have e10 := dz_pn hn
  by_cases he : p2 = p ∧ u2 = u ∧ l2 = l
  · obtain ⟨rfl, rfl, rfl⟩ := he
    exact ⟨h1, h2, h3⟩
  · have hne : ¬ sg_ix p2 u2 l2 = sg_ix p u l := fun q => he (sg_ix_inj (by omega) hl2 (by omega) hl q)
    have hc2 : p < p2 ∨ (p2 = p ∧ u2 * 11 + l2 < u * 11 + l) := by
      rcases hc with q | ⟨q1, q2⟩
      · exact Or.inl q
      · refine Or.inr ⟨q1, ?_⟩
        rcases Nat.lt_or_ge (u2 * 11 + l2) (u * 11 + l) with z | z
        · exact z
        · exact absurd ⟨q1, by omega, by omega⟩ he
    obtain ⟨g1, g2, g3⟩ := h p2 u2 l2 hp2 hu2 hl2 hc2
    rw [hx.1 18 _ (fun q => hne q.2), hx.2 19 _ (fun q => hne q.2), hx.2 20 _ (fun q => hne q.2)]
    exact ⟨g1, g2, g3⟩
noncomputable def fi_c (s : dz_Sg) (r u l d : Nat) : Nat → Nat := fun k => fb_sm (fun d => sg_E s r u l d k) d
theorem fi_c_s (s : dz_Sg) (r u l d : Nat) : fi_c s r u l (d + 1) = fun k => fi_c s r u l d k + sg_E s r u l d k := rfl
theorem fi_e_no {s : dz_Sg} {r u l d : Nat} (h : sg_ok s (sg_p s - (r + 1)) d u l = false) : dz_lo (sg_E s r u l d) = 1000 := dz_lo_n (fun j _ => by unfold sg_E; rw [h]; rfl)
theorem fi_e {s : dz_Sg} {r u l d p : Nat} (hr : sg_p s = p + (r + 1)) (h8 : sg_p s ≤ 8) (hd : d = 10 ∨ d < sg_n s) (h : sg_ok s (sg_p s - (r + 1)) d u l = true) : (sg_L s (p + 1) (sg_nx u d) d = 1000 → dz_lo (sg_E s r u l d) = 1000) ∧ (¬ sg_L s (p + 1) (sg_nx u d) d = 1000 → dz_lo (sg_E s r u l d) = sg_L s (p + 1) (sg_nx u d) d + (if d = 10 then 1 else 0) ∧ dz_no (sg_E s r u l d) = sg_M s (p + 1) (sg_nx u d) d) := by
  have e0 : sg_E s r u l d = sg_sh d (sg_C s r (sg_nx u d) d) := by funext k; unfold sg_E; rw [h]; rfl
  have hv := sg_vl_nx (s := s) (u := u) hd
  have er : sg_p s - (p + 1) = r := by omega
  rw [sg_L_v (Or.inr hv), sg_M_v (Or.inr hv), er, e0]
  by_cases h10 : d = 10
  · subst h10
    obtain ⟨q1, q2⟩ := sg_sh_lo (sg_C s r (sg_nx u 10) 10) (sg_C_big s r _ _ 8 (by omega))
    rw [q1, q2]
    refine ⟨fun z => by rw [if_pos z], fun z => ⟨by rw [if_neg z, if_pos rfl], rfl⟩⟩
  · rw [sg_sh_n h10, if_neg h10]
    exact ⟨fun z => z, fun z => ⟨(Nat.add_zero _).symm, rfl⟩⟩
set_option maxRecDepth 100000 in
set_option maxHeartbeats 4000000 in
theorem fi_in {π : dz_Pl} {post : Option dz_AV → dz_MI → dz_MJ → Prop} {V : dz_Vt} (hV : dz_Clo π dz_M 24 5 mX5_find 4 116 post V) {s : dz_Sg} {I0 : dz_MI} {J0 : dz_MJ} {p u l r : Nat} (hO : dz_OK s) (hR : dz_RM s I0) (hT : fi_T s I0 J0 p (u * 11 + l)) (hr : sg_p s = p + (r + 1)) (hu : u < 2 ^ sg_n s) (hl : l = 10 ∨ l < sg_n s) (K : ∀ I J, fi_X I0 J0 I J (sg_ix p u l) → I 18 (sg_ix p u l) = nI (dz_lo (fi_c s r u l 11)) → J 19 (sg_ix p u l) = lN (dz_no (fi_c s r u l 11)) → J 20 (sg_ix p u l) = 0 → V 285 I J [(0, .inr (.inr 0)), (1, .inl (nI p)), (2, .inl (nI u)), (3, .inl (nI l))] []) : ∀ (fu d : Nat) (I : dz_MI) (J : dz_MJ), 11 < d + fu → d ≤ 11 → fi_X I0 J0 I J (sg_ix p u l) → I 18 (sg_ix p u l) = nI (dz_lo (fi_c s r u l d)) → J 19 (sg_ix p u l) = lN (dz_no (fi_c s r u l d)) → J 20 (sg_ix p u l) = 0 → V 128 I J [(0, .inr (.inr 0)), (1, .inl (nI p)), (2, .inl (nI u)), (3, .inl (nI l)), (4, .inl (nI (sg_ix p u l))), (5, .inl (nI (d)))] [] := by
  have hO2 := hO
  obtain ⟨o1, o2, o3, o4, o5, o6, o7, o8, o9⟩ := hO
  have hu2 := dz_pn o1
  have hp : p < sg_p s := by omega
  have hk0 := sg_ix_lt (p := p) (u := u) (l := l) (by omega) (by omega) (by omega)
  intro fu
  induction fu with
  | zero => intro d I J h1 h2; exact absurd h1 (by omega)
  | succ fu ih =>
      intro d I J h1 h2 hx h18 h19 h20
      have hRI := hx.RM hO2 hR
      have hO := hO2
      have m1 := hRI.1
      refine dr_iload 128 hV dX5_find_128 rfl ?_
      refine dr_bipush (v := nI 10) 130 hV dX5_find_130 (by decide) ?_
      refine dn_icmp_gt (tgt := 285) 132 hV dX5_find_132 (by decide) (by omega) (by omega) (fun c132 => ?_) (fun c132 => ?_)
      · have hd11 : d = 11 := by omega
        subst hd11
        refine dr_sub hV (ls2 := [(0, .inr (.inr 0)), (1, .inl (nI p)), (2, .inl (nI u)), (3, .inl (nI l))]) rfl ?_
        exact K I J hx h18 h19 h20
      · refine dr_iload 135 hV dX5_find_135 rfl ?_
        refine dr_bipush (v := nI 10) 137 hV dX5_find_137 (by decide) ?_
        refine dn_icmp_eq (tgt := 151) 139 hV dX5_find_139 (by decide) (by omega) (by omega) (fun c139 => ?_) (fun c139 => ?_)
        · refine dr_aload_n 151 hV dX5_find_151 rfl ?_
          refine dr_iload_n 152 hV dX5_find_152 rfl ?_
          refine dr_iload 153 hV dX5_find_153 rfl ?_
          refine dr_iload_n 155 hV dX5_find_155 rfl ?_
          refine dr_iload_n 156 hV dX5_find_156 rfl ?_
          refine dr_cvp4 157 hV dz_lX5_148 dX5_find_157 (by decide) (by decide) ⟨by decide, _, _, rfl, by decide, rfl⟩ (Nat.le_of_ble_eq_true rfl) (c_X5_may π _ _ hO hRI hp (by omega) (by omega) hl) ?_
          first | refine dr_ifb_ne (tgt := 166) 160 hV dX5_find_160 (by decide) (fun c160 => ?_) (fun c160 => ?_) | refine dr_if_ne (tgt := 166) 160 hV dX5_find_160 (by decide) (fun c160 => ?_) (fun c160 => ?_)
          · have hdn : d = 10 ∨ d < sg_n s := by omega
            have hnx := sg_nx_lt hu hdn
            have hok : sg_ok s (sg_p s - (r + 1)) d u l = true := dz_Bt.mpr ⟨hdn, by rw [show sg_p s - (r + 1) = p by omega]; exact c160⟩
            obtain ⟨f1, f2⟩ := fi_e hr o3 hdn hok
            have hne : ¬ sg_ix (p + 1) (sg_nx u d) d = sg_ix p u l := fun q => by have := (sg_ix_inj (by omega) (by omega) (by omega) (by omega) q).1; omega
            obtain ⟨t1, t2, -⟩ := hT (p + 1) (sg_nx u d) d (by omega) hnx (by omega) (Or.inl (by omega))
            have hLn : I 18 (sg_ix (p + 1) (sg_nx u d) d) = nI (sg_L s (p + 1) (sg_nx u d) d) := by rw [hx.1 18 _ (fun q => hne q.2)]; exact t1
            have hMn : J 19 (sg_ix (p + 1) (sg_nx u d) d) = lN (sg_M s (p + 1) (sg_nx u d) d) := by rw [hx.2 19 _ (fun q => hne q.2)]; exact t2
            have hle := sg_L_le s (p + 1) (sg_nx u d) d
            have hle2 := dz_lo_le (fi_c s r u l d)
            have h2k : sg_L s (p + 1) (sg_nx u d) d + (if d = 10 then 1 else 0) < 2 ^ 31 := by split <;> omega
            refine dr_aload_n 166 hV dX5_find_166 rfl ?_
            refine dr_iload_n 167 hV dX5_find_167 rfl ?_
            refine dr_iload 168 hV dX5_find_168 rfl ?_
            refine dr_iload_n 170 hV dX5_find_170 rfl ?_
            refine dr_cvp3 171 hV dz_lX5_152 dX5_find_171 (by decide) (by decide) ⟨by decide, _, _, rfl, by decide, rfl⟩ (Nat.le_of_ble_eq_true rfl) (c_behind π p d u _ _ (by omega)) ?_
            refine dr_istore 174 hV dX5_find_174 (by decide) ?_
            refine dr_aload_n 176 hV dX5_find_176 rfl ?_
            refine dr_geta 177 hV dX5_find_177 (by decide) (by decide) rfl rfl rfl ?_
            refine dr_iload 180 hV dX5_find_180 rfl ?_
            refine dr_iald 182 hV dX5_find_182 (by decide) rfl rfl (sg_ix_lt (p := p + 1) (u := sg_nx u d) (l := d) (by omega) (by omega) (by omega)) (by decide) hLn ?_
            refine dr_iload 183 hV dX5_find_183 rfl ?_
            refine dr_bipush (v := nI 10) 185 hV dX5_find_185 (by decide) ?_
            refine dr_mat_ne (P := d = 10) 187 hV dX5_find_187 dX5_find_190 dX5_find_191 dX5_find_194 (nI_eq (by omega) (by decide)).symm ?_
            refine dr_iadd (z := nI (sg_L s (p + 1) (sg_nx u d) d + if d = 10 then 1 else 0)) 195 hV dX5_find_195 dz_addb ?_
            refine dr_istore 196 hV dX5_find_196 (by decide) ?_
            refine dr_iload 198 hV dX5_find_198 rfl ?_
            refine dr_aload_n 200 hV dX5_find_200 rfl ?_
            refine dr_geta 201 hV dX5_find_201 (by decide) (by decide) rfl rfl rfl ?_
            refine dr_iload 204 hV dX5_find_204 rfl ?_
            refine dr_iald 206 hV dX5_find_206 (by decide) rfl rfl hk0 (by decide) h18 ?_
            refine dn_icmp_gt (tgt := 279) 207 hV dX5_find_207 (by decide) h2k (by omega) (fun c207 => ?_) (fun c207 => ?_)
            · refine dr_iinc1 279 hV dX5_find_279 (by decide) rfl ?_
              refine dr_goto (tgt := 128) 282 hV dX5_find_282 (by decide) ?_
              have ha : dz_lo (fun k => fi_c s r u l d k + sg_E s r u l d k) = dz_lo (fi_c s r u l d) ∧ dz_no (fun k => fi_c s r u l d k + sg_E s r u l d k) = dz_no (fi_c s r u l d) := by
                by_cases z : sg_L s (p + 1) (sg_nx u d) d = 1000
                · exact dz_ad_n (f1 z)
                · exact dz_ad_gt (by rw [(f2 z).1]; omega)
              refine dr_sub hV (ls2 := [(0, .inr (.inr 0)), (1, .inl (nI p)), (2, .inl (nI u)), (3, .inl (nI l)), (4, .inl (nI (sg_ix p u l))), (5, .inl (nI (d + 1)))]) rfl ?_
              exact ih (d + 1) _ _ (by omega) (by omega) hx (by rw [h18, fi_c_s]; exact congrArg nI ha.1.symm) (by rw [h19, fi_c_s]; exact congrArg lN ha.2.symm) h20
            · refine dr_aload_n 210 hV dX5_find_210 rfl ?_
              refine dr_geta 211 hV dX5_find_211 (by decide) (by decide) rfl rfl rfl ?_
              refine dr_iload 214 hV dX5_find_214 rfl ?_
              refine dr_iald 216 hV dX5_find_216 (by decide) rfl rfl (sg_ix_lt (p := p + 1) (u := sg_nx u d) (l := d) (by omega) (by omega) (by omega)) (by decide) hLn ?_
              refine dr_sipush (v := nI 1000) 217 hV dX5_find_217 (by decide) ?_
              refine dn_icmp_ne (tgt := 226) 220 hV dX5_find_220 (by decide) (by omega) (by omega) (fun c220 => ?_) (fun c220 => ?_)
              · refine dr_aload_n 226 hV dX5_find_226 rfl ?_
                refine dr_geta 227 hV dX5_find_227 (by decide) (by decide) rfl rfl rfl ?_
                refine dr_iload 230 hV dX5_find_230 rfl ?_
                refine dr_iload 232 hV dX5_find_232 rfl ?_
                refine dr_aload_n 234 hV dX5_find_234 rfl ?_
                refine dr_geta 235 hV dX5_find_235 (by decide) (by decide) rfl rfl rfl ?_
                refine dr_iload 238 hV dX5_find_238 rfl ?_
                refine dr_iald 240 hV dX5_find_240 (by decide) rfl rfl hk0 (by decide) h18 ?_
                refine dn_icmp_ge (tgt := 254) 241 hV dX5_find_241 (by decide) h2k (by omega) (fun c241 => ?_) (fun c241 => ?_)
                · refine dr_aload_n 254 hV dX5_find_254 rfl ?_
                  refine dr_geta 255 hV dX5_find_255 (by decide) (by decide) rfl rfl rfl ?_
                  refine dr_iload 258 hV dX5_find_258 rfl ?_
                  refine dr_lald 260 hV dX5_find_260 (by decide) rfl rfl hk0 (by decide) h19 ?_
                  refine dr_aload_n 261 hV dX5_find_261 rfl ?_
                  refine dr_geta 262 hV dX5_find_262 (by decide) (by decide) rfl rfl rfl ?_
                  refine dr_iload 265 hV dX5_find_265 rfl ?_
                  refine dr_lald 267 hV dX5_find_267 (by decide) rfl rfl (sg_ix_lt (p := p + 1) (u := sg_nx u d) (l := d) (by omega) (by omega) (by omega)) (by decide) hMn ?_
                  refine dr_ladd (z := lN (dz_no (fi_c s r u l d) + sg_M s (p + 1) (sg_nx u d) d)) 268 hV dX5_find_268 (lN_add _ _) ?_
                  refine dr_last 269 hV dX5_find_269 (by decide) rfl rfl hk0 (by decide) ?_
                  refine dr_aload_n 270 hV dX5_find_270 rfl ?_
                  refine dr_geta 271 hV dX5_find_271 (by decide) (by decide) rfl rfl rfl ?_
                  refine dr_iload 274 hV dX5_find_274 rfl ?_
                  refine dr_iload 276 hV dX5_find_276 rfl ?_
                  refine dr_iast 278 hV dX5_find_278 (by decide) rfl rfl hk0 (by decide) ?_
                  refine dr_iinc1 279 hV dX5_find_279 (by decide) rfl ?_
                  refine dr_goto (tgt := 128) 282 hV dX5_find_282 (by decide) ?_
                  have he : dz_lo (sg_E s r u l d) = dz_lo (fi_c s r u l d) := by rw [(f2 c220).1]; omega
                  have ha := dz_ad_eq he (by have h9 := sg_L_9 c220; rw [(f2 c220).1]; split <;> omega)
                  refine dr_sub hV (ls2 := [(0, .inr (.inr 0)), (1, .inl (nI p)), (2, .inl (nI u)), (3, .inl (nI l)), (4, .inl (nI (sg_ix p u l))), (5, .inl (nI (d + 1)))]) rfl ?_
                  exact ih (d + 1) _ _ (by omega) (by omega) ((hx.wj (Or.inl rfl) _).wi _) (by rw [dz_wi_s, fi_c_s, ha.1]; rw [← he, (f2 c220).1]) (by rw [dz_wj_s, fi_c_s, ha.2]; rw [(f2 c220).2]) (by rw [dz_wj_n _ _ (by omega)]; exact h20)
                · refine dr_aload_n 244 hV dX5_find_244 rfl ?_
                  refine dr_geta 245 hV dX5_find_245 (by decide) (by decide) rfl rfl rfl ?_
                  refine dr_iload 248 hV dX5_find_248 rfl ?_
                  refine dr_lald 250 hV dX5_find_250 (by decide) rfl rfl (sg_ix_lt (p := p + 1) (u := sg_nx u d) (l := d) (by omega) (by omega) (by omega)) (by decide) hMn ?_
                  refine dr_goto (tgt := 269) 251 hV dX5_find_251 (by decide) ?_
                  refine dr_last 269 hV dX5_find_269 (by decide) rfl rfl hk0 (by decide) ?_
                  refine dr_aload_n 270 hV dX5_find_270 rfl ?_
                  refine dr_geta 271 hV dX5_find_271 (by decide) (by decide) rfl rfl rfl ?_
                  refine dr_iload 274 hV dX5_find_274 rfl ?_
                  refine dr_iload 276 hV dX5_find_276 rfl ?_
                  refine dr_iast 278 hV dX5_find_278 (by decide) rfl rfl hk0 (by decide) ?_
                  refine dr_iinc1 279 hV dX5_find_279 (by decide) rfl ?_
                  refine dr_goto (tgt := 128) 282 hV dX5_find_282 (by decide) ?_
                  have ha := dz_ad_lt (c := fi_c s r u l d) (e := sg_E s r u l d) (by rw [(f2 c220).1]; exact c241)
                  refine dr_sub hV (ls2 := [(0, .inr (.inr 0)), (1, .inl (nI p)), (2, .inl (nI u)), (3, .inl (nI l)), (4, .inl (nI (sg_ix p u l))), (5, .inl (nI (d + 1)))]) rfl ?_
                  exact ih (d + 1) _ _ (by omega) (by omega) ((hx.wj (Or.inl rfl) _).wi _) (by rw [dz_wi_s, fi_c_s, ha.1]; rw [(f2 c220).1]) (by rw [dz_wj_s, fi_c_s, ha.2]; rw [(f2 c220).2]) (by rw [dz_wj_n _ _ (by omega)]; exact h20)
              · refine dr_goto (tgt := 279) 223 hV dX5_find_223 (by decide) ?_
                refine dr_iinc1 279 hV dX5_find_279 (by decide) rfl ?_
                refine dr_goto (tgt := 128) 282 hV dX5_find_282 (by decide) ?_
                have ha := dz_ad_n (c := fi_c s r u l d) (e := sg_E s r u l d) (f1 c220)
                refine dr_sub hV (ls2 := [(0, .inr (.inr 0)), (1, .inl (nI p)), (2, .inl (nI u)), (3, .inl (nI l)), (4, .inl (nI (sg_ix p u l))), (5, .inl (nI (d + 1)))]) rfl ?_
                exact ih (d + 1) _ _ (by omega) (by omega) hx (by rw [h18, fi_c_s]; exact congrArg nI ha.1.symm) (by rw [h19, fi_c_s]; exact congrArg lN ha.2.symm) h20
          · refine dr_goto (tgt := 279) 163 hV dX5_find_163 (by decide) ?_
            refine dr_iinc1 279 hV dX5_find_279 (by decide) rfl ?_
            refine dr_goto (tgt := 128) 282 hV dX5_find_282 (by decide) ?_
            have ha := (dz_ad_n (c := fi_c s r u l d) (e := sg_E s r u l d) (fi_e_no (dz_Bf.mpr (fun q => by have := q.1; have := q.2; rw [show sg_p s - (r + 1) = p by omega] at this; first | omega | exact c160 this))))
            refine dr_sub hV (ls2 := [(0, .inr (.inr 0)), (1, .inl (nI p)), (2, .inl (nI u)), (3, .inl (nI l)), (4, .inl (nI (sg_ix p u l))), (5, .inl (nI (d + 1)))]) rfl ?_
            exact ih (d + 1) _ _ (by omega) (by omega) hx (by rw [h18, fi_c_s]; exact congrArg nI ha.1.symm) (by rw [h19, fi_c_s]; exact congrArg lN ha.2.symm) h20
        · refine dr_iload 142 hV dX5_find_142 rfl ?_
          refine dr_aload_n 144 hV dX5_find_144 rfl ?_
          refine dr_geti 145 hV dX5_find_145 (by decide) (by decide) rfl rfl rfl m1 ?_
          refine dn_icmp_ge (tgt := 279) 148 hV dX5_find_148 (by decide) (by omega) (by omega) (fun c148 => ?_) (fun c148 => ?_)
          · refine dr_iinc1 279 hV dX5_find_279 (by decide) rfl ?_
            refine dr_goto (tgt := 128) 282 hV dX5_find_282 (by decide) ?_
            have ha := (dz_ad_n (c := fi_c s r u l d) (e := sg_E s r u l d) (fi_e_no (dz_Bf.mpr (fun q => by have := q.1; have := q.2; rw [show sg_p s - (r + 1) = p by omega] at this; first | omega | exact c160 this))))
            refine dr_sub hV (ls2 := [(0, .inr (.inr 0)), (1, .inl (nI p)), (2, .inl (nI u)), (3, .inl (nI l)), (4, .inl (nI (sg_ix p u l))), (5, .inl (nI (d + 1)))]) rfl ?_
            exact ih (d + 1) _ _ (by omega) (by omega) hx (by rw [h18, fi_c_s]; exact congrArg nI ha.1.symm) (by rw [h19, fi_c_s]; exact congrArg lN ha.2.symm) h20
          · refine dr_aload_n 151 hV dX5_find_151 rfl ?_
            refine dr_iload_n 152 hV dX5_find_152 rfl ?_
            refine dr_iload 153 hV dX5_find_153 rfl ?_
            refine dr_iload_n 155 hV dX5_find_155 rfl ?_
            refine dr_iload_n 156 hV dX5_find_156 rfl ?_
            refine dr_cvp4 157 hV dz_lX5_148 dX5_find_157 (by decide) (by decide) ⟨by decide, _, _, rfl, by decide, rfl⟩ (Nat.le_of_ble_eq_true rfl) (c_X5_may π _ _ hO hRI hp (by omega) (by omega) hl) ?_
            first | refine dr_ifb_ne (tgt := 166) 160 hV dX5_find_160 (by decide) (fun c160 => ?_) (fun c160 => ?_) | refine dr_if_ne (tgt := 166) 160 hV dX5_find_160 (by decide) (fun c160 => ?_) (fun c160 => ?_)
            · have hdn : d = 10 ∨ d < sg_n s := by omega
              have hnx := sg_nx_lt hu hdn
              have hok : sg_ok s (sg_p s - (r + 1)) d u l = true := dz_Bt.mpr ⟨hdn, by rw [show sg_p s - (r + 1) = p by omega]; exact c160⟩
              obtain ⟨f1, f2⟩ := fi_e hr o3 hdn hok
              have hne : ¬ sg_ix (p + 1) (sg_nx u d) d = sg_ix p u l := fun q => by have := (sg_ix_inj (by omega) (by omega) (by omega) (by omega) q).1; omega
              obtain ⟨t1, t2, -⟩ := hT (p + 1) (sg_nx u d) d (by omega) hnx (by omega) (Or.inl (by omega))
              have hLn : I 18 (sg_ix (p + 1) (sg_nx u d) d) = nI (sg_L s (p + 1) (sg_nx u d) d) := by rw [hx.1 18 _ (fun q => hne q.2)]; exact t1
              have hMn : J 19 (sg_ix (p + 1) (sg_nx u d) d) = lN (sg_M s (p + 1) (sg_nx u d) d) := by rw [hx.2 19 _ (fun q => hne q.2)]; exact t2
              have hle := sg_L_le s (p + 1) (sg_nx u d) d
              have hle2 := dz_lo_le (fi_c s r u l d)
              have h2k : sg_L s (p + 1) (sg_nx u d) d + (if d = 10 then 1 else 0) < 2 ^ 31 := by split <;> omega
              refine dr_aload_n 166 hV dX5_find_166 rfl ?_
              refine dr_iload_n 167 hV dX5_find_167 rfl ?_
              refine dr_iload 168 hV dX5_find_168 rfl ?_
              refine dr_iload_n 170 hV dX5_find_170 rfl ?_
              refine dr_cvp3 171 hV dz_lX5_152 dX5_find_171 (by decide) (by decide) ⟨by decide, _, _, rfl, by decide, rfl⟩ (Nat.le_of_ble_eq_true rfl) (c_behind π p d u _ _ (by omega)) ?_
              refine dr_istore 174 hV dX5_find_174 (by decide) ?_
              refine dr_aload_n 176 hV dX5_find_176 rfl ?_
              refine dr_geta 177 hV dX5_find_177 (by decide) (by decide) rfl rfl rfl ?_
              refine dr_iload 180 hV dX5_find_180 rfl ?_
              refine dr_iald 182 hV dX5_find_182 (by decide) rfl rfl (sg_ix_lt (p := p + 1) (u := sg_nx u d) (l := d) (by omega) (by omega) (by omega)) (by decide) hLn ?_
              refine dr_iload 183 hV dX5_find_183 rfl ?_
              refine dr_bipush (v := nI 10) 185 hV dX5_find_185 (by decide) ?_
              refine dr_mat_ne (P := d = 10) 187 hV dX5_find_187 dX5_find_190 dX5_find_191 dX5_find_194 (nI_eq (by omega) (by decide)).symm ?_
              refine dr_iadd (z := nI (sg_L s (p + 1) (sg_nx u d) d + if d = 10 then 1 else 0)) 195 hV dX5_find_195 dz_addb ?_
              refine dr_istore 196 hV dX5_find_196 (by decide) ?_
              refine dr_iload 198 hV dX5_find_198 rfl ?_
              refine dr_aload_n 200 hV dX5_find_200 rfl ?_
              refine dr_geta 201 hV dX5_find_201 (by decide) (by decide) rfl rfl rfl ?_
              refine dr_iload 204 hV dX5_find_204 rfl ?_
              refine dr_iald 206 hV dX5_find_206 (by decide) rfl rfl hk0 (by decide) h18 ?_
              refine dn_icmp_gt (tgt := 279) 207 hV dX5_find_207 (by decide) h2k (by omega) (fun c207 => ?_) (fun c207 => ?_)
              · refine dr_iinc1 279 hV dX5_find_279 (by decide) rfl ?_
                refine dr_goto (tgt := 128) 282 hV dX5_find_282 (by decide) ?_
                have ha : dz_lo (fun k => fi_c s r u l d k + sg_E s r u l d k) = dz_lo (fi_c s r u l d) ∧ dz_no (fun k => fi_c s r u l d k + sg_E s r u l d k) = dz_no (fi_c s r u l d) := by
                  by_cases z : sg_L s (p + 1) (sg_nx u d) d = 1000
                  · exact dz_ad_n (f1 z)
                  · exact dz_ad_gt (by rw [(f2 z).1]; omega)
                refine dr_sub hV (ls2 := [(0, .inr (.inr 0)), (1, .inl (nI p)), (2, .inl (nI u)), (3, .inl (nI l)), (4, .inl (nI (sg_ix p u l))), (5, .inl (nI (d + 1)))]) rfl ?_
                exact ih (d + 1) _ _ (by omega) (by omega) hx (by rw [h18, fi_c_s]; exact congrArg nI ha.1.symm) (by rw [h19, fi_c_s]; exact congrArg lN ha.2.symm) h20
              · refine dr_aload_n 210 hV dX5_find_210 rfl ?_
                refine dr_geta 211 hV dX5_find_211 (by decide) (by decide) rfl rfl rfl ?_
                refine dr_iload 214 hV dX5_find_214 rfl ?_
                refine dr_iald 216 hV dX5_find_216 (by decide) rfl rfl (sg_ix_lt (p := p + 1) (u := sg_nx u d) (l := d) (by omega) (by omega) (by omega)) (by decide) hLn ?_
                refine dr_sipush (v := nI 1000) 217 hV dX5_find_217 (by decide) ?_
                refine dn_icmp_ne (tgt := 226) 220 hV dX5_find_220 (by decide) (by omega) (by omega) (fun c220 => ?_) (fun c220 => ?_)
                · refine dr_aload_n 226 hV dX5_find_226 rfl ?_
                  refine dr_geta 227 hV dX5_find_227 (by decide) (by decide) rfl rfl rfl ?_
                  refine dr_iload 230 hV dX5_find_230 rfl ?_
                  refine dr_iload 232 hV dX5_find_232 rfl ?_
                  refine dr_aload_n 234 hV dX5_find_234 rfl ?_
                  refine dr_geta 235 hV dX5_find_235 (by decide) (by decide) rfl rfl rfl ?_
                  refine dr_iload 238 hV dX5_find_238 rfl ?_
                  refine dr_iald 240 hV dX5_find_240 (by decide) rfl rfl hk0 (by decide) h18 ?_
                  refine dn_icmp_ge (tgt := 254) 241 hV dX5_find_241 (by decide) h2k (by omega) (fun c241 => ?_) (fun c241 => ?_)
                  · refine dr_aload_n 254 hV dX5_find_254 rfl ?_
                    refine dr_geta 255 hV dX5_find_255 (by decide) (by decide) rfl rfl rfl ?_
                    refine dr_iload 258 hV dX5_find_258 rfl ?_
                    refine dr_lald 260 hV dX5_find_260 (by decide) rfl rfl hk0 (by decide) h19 ?_
                    refine dr_aload_n 261 hV dX5_find_261 rfl ?_
                    refine dr_geta 262 hV dX5_find_262 (by decide) (by decide) rfl rfl rfl ?_
                    refine dr_iload 265 hV dX5_find_265 rfl ?_
                    refine dr_lald 267 hV dX5_find_267 (by decide) rfl rfl (sg_ix_lt (p := p + 1) (u := sg_nx u d) (l := d) (by omega) (by omega) (by omega)) (by decide) hMn ?_
                    refine dr_ladd (z := lN (dz_no (fi_c s r u l d) + sg_M s (p + 1) (sg_nx u d) d)) 268 hV dX5_find_268 (lN_add _ _) ?_
                    refine dr_last 269 hV dX5_find_269 (by decide) rfl rfl hk0 (by decide) ?_
                    refine dr_aload_n 270 hV dX5_find_270 rfl ?_
                    refine dr_geta 271 hV dX5_find_271 (by decide) (by decide) rfl rfl rfl ?_
                    refine dr_iload 274 hV dX5_find_274 rfl ?_
                    refine dr_iload 276 hV dX5_find_276 rfl ?_
                    refine dr_iast 278 hV dX5_find_278 (by decide) rfl rfl hk0 (by decide) ?_
                    refine dr_iinc1 279 hV dX5_find_279 (by decide) rfl ?_
                    refine dr_goto (tgt := 128) 282 hV dX5_find_282 (by decide) ?_
                    have he : dz_lo (sg_E s r u l d) = dz_lo (fi_c s r u l d) := by rw [(f2 c220).1]; omega
                    have ha := dz_ad_eq he (by have h9 := sg_L_9 c220; rw [(f2 c220).1]; split <;> omega)
                    refine dr_sub hV (ls2 := [(0, .inr (.inr 0)), (1, .inl (nI p)), (2, .inl (nI u)), (3, .inl (nI l)), (4, .inl (nI (sg_ix p u l))), (5, .inl (nI (d + 1)))]) rfl ?_
                    exact ih (d + 1) _ _ (by omega) (by omega) ((hx.wj (Or.inl rfl) _).wi _) (by rw [dz_wi_s, fi_c_s, ha.1]; rw [← he, (f2 c220).1]) (by rw [dz_wj_s, fi_c_s, ha.2]; rw [(f2 c220).2]) (by rw [dz_wj_n _ _ (by omega)]; exact h20)
                  · refine dr_aload_n 244 hV dX5_find_244 rfl ?_
                    refine dr_geta 245 hV dX5_find_245 (by decide) (by decide) rfl rfl rfl ?_
                    refine dr_iload 248 hV dX5_find_248 rfl ?_
                    refine dr_lald 250 hV dX5_find_250 (by decide) rfl rfl (sg_ix_lt (p := p + 1) (u := sg_nx u d) (l := d) (by omega) (by omega) (by omega)) (by decide) hMn ?_
                    refine dr_goto (tgt := 269) 251 hV dX5_find_251 (by decide) ?_
                    refine dr_last 269 hV dX5_find_269 (by decide) rfl rfl hk0 (by decide) ?_
                    refine dr_aload_n 270 hV dX5_find_270 rfl ?_
                    refine dr_geta 271 hV dX5_find_271 (by decide) (by decide) rfl rfl rfl ?_
                    refine dr_iload 274 hV dX5_find_274 rfl ?_
                    refine dr_iload 276 hV dX5_find_276 rfl ?_
                    refine dr_iast 278 hV dX5_find_278 (by decide) rfl rfl hk0 (by decide) ?_
                    refine dr_iinc1 279 hV dX5_find_279 (by decide) rfl ?_
                    refine dr_goto (tgt := 128) 282 hV dX5_find_282 (by decide) ?_
                    have ha := dz_ad_lt (c := fi_c s r u l d) (e := sg_E s r u l d) (by rw [(f2 c220).1]; exact c241)
                    refine dr_sub hV (ls2 := [(0, .inr (.inr 0)), (1, .inl (nI p)), (2, .inl (nI u)), (3, .inl (nI l)), (4, .inl (nI (sg_ix p u l))), (5, .inl (nI (d + 1)))]) rfl ?_
                    exact ih (d + 1) _ _ (by omega) (by omega) ((hx.wj (Or.inl rfl) _).wi _) (by rw [dz_wi_s, fi_c_s, ha.1]; rw [(f2 c220).1]) (by rw [dz_wj_s, fi_c_s, ha.2]; rw [(f2 c220).2]) (by rw [dz_wj_n _ _ (by omega)]; exact h20)
                · refine dr_goto (tgt := 279) 223 hV dX5_find_223 (by decide) ?_
                  refine dr_iinc1 279 hV dX5_find_279 (by decide) rfl ?_
                  refine dr_goto (tgt := 128) 282 hV dX5_find_282 (by decide) ?_
                  have ha := dz_ad_n (c := fi_c s r u l d) (e := sg_E s r u l d) (f1 c220)
                  refine dr_sub hV (ls2 := [(0, .inr (.inr 0)), (1, .inl (nI p)), (2, .inl (nI u)), (3, .inl (nI l)), (4, .inl (nI (sg_ix p u l))), (5, .inl (nI (d + 1)))]) rfl ?_
                  exact ih (d + 1) _ _ (by omega) (by omega) hx (by rw [h18, fi_c_s]; exact congrArg nI ha.1.symm) (by rw [h19, fi_c_s]; exact congrArg lN ha.2.symm) h20
            · refine dr_goto (tgt := 279) 163 hV dX5_find_163 (by decide) ?_
              refine dr_iinc1 279 hV dX5_find_279 (by decide) rfl ?_
              refine dr_goto (tgt := 128) 282 hV dX5_find_282 (by decide) ?_
              have ha := (dz_ad_n (c := fi_c s r u l d) (e := sg_E s r u l d) (fi_e_no (dz_Bf.mpr (fun q => by have := q.1; have := q.2; rw [show sg_p s - (r + 1) = p by omega] at this; first | omega | exact c160 this))))
              refine dr_sub hV (ls2 := [(0, .inr (.inr 0)), (1, .inl (nI p)), (2, .inl (nI u)), (3, .inl (nI l)), (4, .inl (nI (sg_ix p u l))), (5, .inl (nI (d + 1)))]) rfl ?_
              exact ih (d + 1) _ _ (by omega) (by omega) hx (by rw [h18, fi_c_s]; exact congrArg nI ha.1.symm) (by rw [h19, fi_c_s]; exact congrArg lN ha.2.symm) h20
set_option maxRecDepth 100000 in
set_option maxHeartbeats 4000000 in
theorem fi_l {π : dz_Pl} {post : Option dz_AV → dz_MI → dz_MJ → Prop} {V : dz_Vt} (hV : dz_Clo π dz_M 24 5 mX5_find 4 116 post V) {s : dz_Sg} {p u : Nat} (hO : dz_OK s) (hp : p ≤ sg_p s) (hu : u < 2 ^ sg_n s) (K : ∀ I J, dz_RM s I → fi_T s I J p (u * 11 + 11) → V 291 I J [(0, .inr (.inr 0)), (1, .inl (nI p)), (2, .inl (nI (u)))] []) : ∀ (fu l : Nat) (I : dz_MI) (J : dz_MJ), 11 < l + fu → l ≤ 11 → dz_RM s I → fi_T s I J p (u * 11 + l) → V 28 I J [(0, .inr (.inr 0)), (1, .inl (nI p)), (2, .inl (nI u)), (3, .inl (nI (l)))] [] := by
  have hO2 := hO
  obtain ⟨o1, o2, o3, o4, o5, o6, o7, o8, o9⟩ := hO
  have hu2 := dz_pn o1
  intro fu
  induction fu with
  | zero => intro l I J h1 h2; exact absurd h1 (by omega)
  | succ fu ih =>
      intro l I J h1 h2 hR hT
      have m1 := hR.1
      have m3 := hR.2.2.1
      have hk0 : l < 11 → sg_ix p u l < 101376 := fun hl => sg_ix_lt (p := p) (u := u) (l := l) (by omega) (by omega) hl
      refine dr_iload_n 28 hV dX5_find_28 rfl ?_
      refine dr_bipush (v := nI 10) 29 hV dX5_find_29 (by decide) ?_
      refine dn_icmp_gt (tgt := 291) 31 hV dX5_find_31 (by decide) (by omega) (by omega) (fun c31 => ?_) (fun c31 => ?_)
      · have hl11 : l = 11 := by omega
        subst hl11
        refine dr_sub hV (ls2 := [(0, .inr (.inr 0)), (1, .inl (nI p)), (2, .inl (nI (u)))]) rfl ?_
        exact K I J hR hT
      · refine dr_iload_n 34 hV dX5_find_34 rfl ?_
        refine dr_iload_n 35 hV dX5_find_35 rfl ?_
        refine dr_iload_n 36 hV dX5_find_36 rfl ?_
        refine dr_csp3 37 hV (Or.inl dz_lX5_144) dX5_find_37 (by decide) (by decide) (Nat.le_of_ble_eq_true rfl) (c_index π _ _ p u l _ _) ?_
        refine dr_istore 40 hV dX5_find_40 (by decide) ?_
        refine dr_aload_n 42 hV dX5_find_42 rfl ?_
        refine dr_geta 43 hV dX5_find_43 (by decide) (by decide) rfl rfl rfl ?_
        refine dr_iload 46 hV dX5_find_46 rfl ?_
        refine dr_lconst (v := 0) 48 hV dX5_find_48 (by decide) ?_
        refine dr_last 49 hV dX5_find_49 (by decide) rfl rfl (hk0 (by omega)) (by decide) ?_
        refine dr_aload_n 50 hV dX5_find_50 rfl ?_
        refine dr_geta 51 hV dX5_find_51 (by decide) (by decide) rfl rfl rfl ?_
        refine dr_iload 54 hV dX5_find_54 rfl ?_
        refine dr_iload_n 56 hV dX5_find_56 rfl ?_
        refine dr_aload_n 57 hV dX5_find_57 rfl ?_
        refine dr_geti 58 hV dX5_find_58 (by decide) (by decide) rfl rfl rfl m3 ?_
        refine dn_icmp_ne (tgt := 68) 61 hV dX5_find_61 (by decide) (by omega) (by omega) (fun c61 => ?_) (fun c61 => ?_)
        · refine dr_sipush (v := nI 1000) 68 hV dX5_find_68 (by decide) ?_
          refine dr_iast 71 hV dX5_find_71 (by decide) rfl rfl (hk0 (by omega)) (by decide) ?_
          refine dr_aload_n 72 hV dX5_find_72 rfl ?_
          refine dr_geta 73 hV dX5_find_73 (by decide) (by decide) rfl rfl rfl ?_
          refine dr_iload 76 hV dX5_find_76 rfl ?_
          refine dr_iload_n 78 hV dX5_find_78 rfl ?_
          refine dr_aload_n 79 hV dX5_find_79 rfl ?_
          refine dr_geti 80 hV dX5_find_80 (by decide) (by decide) rfl rfl rfl m3 ?_
          refine dn_icmp_ne (tgt := 90) 83 hV dX5_find_83 (by decide) (by omega) (by omega) (fun c83 => ?_) (fun c83 => ?_)
          · refine dr_lconst (v := 0) 90 hV dX5_find_90 (by decide) ?_
            refine dr_last 91 hV dX5_find_91 (by decide) rfl rfl (hk0 (by omega)) (by decide) ?_
            refine dr_iload_n 92 hV dX5_find_92 rfl ?_
            refine dr_aload_n 93 hV dX5_find_93 rfl ?_
            refine dr_geti 94 hV dX5_find_94 (by decide) (by decide) rfl rfl rfl m3 ?_
            refine dn_icmp_eq (tgt := 285) 97 hV dX5_find_97 (by decide) (by omega) (by omega) (fun c97 => ?_) (fun c97 => ?_)
            · exact absurd c97 c61
            · refine dr_iload_n 100 hV dX5_find_100 rfl ?_
              refine dr_bipush (v := nI 10) 101 hV dX5_find_101 (by decide) ?_
              refine dn_icmp_eq (tgt := 125) 103 hV dX5_find_103 (by decide) (by omega) (by omega) (fun c103 => ?_) (fun c103 => ?_)
              · refine dr_iconst (v := nI 0) 125 hV dX5_find_125 (by decide) ?_
                refine dr_istore 126 hV dX5_find_126 (by decide) ?_
                have hx9 := (((fi_X.rf I J (sg_ix p u l)).wj (Or.inr rfl) (0 : Int64)).wi (nI 1000)).wj (Or.inl rfl) ((0 : Int64))
                obtain ⟨r, hr⟩ : ∃ r, sg_p s = p + (r + 1) := ⟨sg_p s - p - 1, by omega⟩
                have hvl : sg_vl s u l := by
                  unfold sg_vl; rw [dz_tb]
                  grind
                have er : sg_p s - p = r + 1 := by omega
                have e11 : fi_c s r u l 11 = sg_C s (sg_p s - p) u l := by rw [er]; funext k; exact (sg_C_succ s r u l k).symm
                refine dr_sub hV (ls2 := [(0, .inr (.inr 0)), (1, .inl (nI p)), (2, .inl (nI u)), (3, .inl (nI l)), (4, .inl (nI (sg_ix p u l))), (5, .inl (nI (0)))]) rfl ?_
                refine fi_in hV hO2 hR hT hr hu (by omega) (fun I2 J2 hx9 h18 h19 h20 => ?_) 12 0 _ _ (by omega) (by omega) hx9 (by rw [dz_wi_s]; exact congrArg nI dz_lo_zero.symm) (by rw [dz_wj_s]; exact congrArg lN dz_no_zero.symm) (by rw [dz_wj_n _ _ (by omega), dz_wj_s])
                refine dr_iinc1 285 hV dX5_find_285 (by decide) rfl ?_
                refine dr_goto (tgt := 28) 288 hV dX5_find_288 (by decide) ?_
                refine dr_sub hV (ls2 := [(0, .inr (.inr 0)), (1, .inl (nI p)), (2, .inl (nI u)), (3, .inl (nI (l + 1)))]) rfl ?_
                exact ih (l + 1) _ _ (by omega) (by omega) (hx9.RM hO2 hR) (fi_T.next o1 hu (by omega) hT hx9 (by rw [h18, e11, sg_L_v (Or.inr hvl)]) (by rw [h19, e11, sg_M_v (Or.inr hvl)]) h20)
              · refine dr_iload_n 106 hV dX5_find_106 rfl ?_
                refine dr_aload_n 107 hV dX5_find_107 rfl ?_
                refine dr_geti 108 hV dX5_find_108 (by decide) (by decide) rfl rfl rfl m1 ?_
                refine dn_icmp_ge (tgt := 285) 111 hV dX5_find_111 (by decide) (by omega) (by omega) (fun c111 => ?_) (fun c111 => ?_)
                · have hx9 := (((fi_X.rf I J (sg_ix p u l)).wj (Or.inr rfl) (0 : Int64)).wi (nI 1000)).wj (Or.inl rfl) ((0 : Int64))
                  have hno : ¬ (p = sg_p s ∨ sg_vl s u l) := by
                    unfold sg_vl; rw [dz_tb]
                    grind
                  refine dr_iinc1 285 hV dX5_find_285 (by decide) rfl ?_
                  refine dr_goto (tgt := 28) 288 hV dX5_find_288 (by decide) ?_
                  refine dr_sub hV (ls2 := [(0, .inr (.inr 0)), (1, .inl (nI p)), (2, .inl (nI u)), (3, .inl (nI (l + 1)))]) rfl ?_
                  exact ih (l + 1) _ _ (by omega) (by omega) (hx9.RM hO2 hR) (fi_T.next o1 hu (by omega) hT hx9 (by rw [dz_wi_s, sg_L_n hno]) (by rw [dz_wj_s, sg_M_n hno]; rfl) (by rw [dz_wj_n _ _ (by omega), dz_wj_s]))
                · refine dr_iload_n 114 hV dX5_find_114 rfl ?_
                  refine dr_iload_n 115 hV dX5_find_115 rfl ?_
                  refine dr_ishr 116 hV dX5_find_116 rfl ?_
                  refine dr_iconst (v := nI 1) 117 hV dX5_find_117 (by decide) ?_
                  refine dr_iand (z := nI (u / 2 ^ l % 2)) 118 hV dX5_find_118 (dz_hb (by omega) (by omega)) ?_
                  refine dr_if_ne (tgt := 125) 119 hV dX5_find_119 (by decide) (fun c119 => ?_) (fun c119 => ?_)
                  · have c119b : u / 2 ^ l % 2 = 1 := by
                      have h2 : u / 2 ^ l % 2 < 2 := Nat.mod_lt _ (by decide)
                      have : ¬ u / 2 ^ l % 2 = 0 := fun q => c119 (by rw [q]; rfl)
                      omega
                    refine dr_iconst (v := nI 0) 125 hV dX5_find_125 (by decide) ?_
                    refine dr_istore 126 hV dX5_find_126 (by decide) ?_
                    have hx9 := (((fi_X.rf I J (sg_ix p u l)).wj (Or.inr rfl) (0 : Int64)).wi (nI 1000)).wj (Or.inl rfl) ((0 : Int64))
                    obtain ⟨r, hr⟩ : ∃ r, sg_p s = p + (r + 1) := ⟨sg_p s - p - 1, by omega⟩
                    have hvl : sg_vl s u l := by
                      unfold sg_vl; rw [dz_tb]
                      grind
                    have er : sg_p s - p = r + 1 := by omega
                    have e11 : fi_c s r u l 11 = sg_C s (sg_p s - p) u l := by rw [er]; funext k; exact (sg_C_succ s r u l k).symm
                    refine dr_sub hV (ls2 := [(0, .inr (.inr 0)), (1, .inl (nI p)), (2, .inl (nI u)), (3, .inl (nI l)), (4, .inl (nI (sg_ix p u l))), (5, .inl (nI (0)))]) rfl ?_
                    refine fi_in hV hO2 hR hT hr hu (by omega) (fun I2 J2 hx9 h18 h19 h20 => ?_) 12 0 _ _ (by omega) (by omega) hx9 (by rw [dz_wi_s]; exact congrArg nI dz_lo_zero.symm) (by rw [dz_wj_s]; exact congrArg lN dz_no_zero.symm) (by rw [dz_wj_n _ _ (by omega), dz_wj_s])
                    refine dr_iinc1 285 hV dX5_find_285 (by decide) rfl ?_
                    refine dr_goto (tgt := 28) 288 hV dX5_find_288 (by decide) ?_
                    refine dr_sub hV (ls2 := [(0, .inr (.inr 0)), (1, .inl (nI p)), (2, .inl (nI u)), (3, .inl (nI (l + 1)))]) rfl ?_
                    exact ih (l + 1) _ _ (by omega) (by omega) (hx9.RM hO2 hR) (fi_T.next o1 hu (by omega) hT hx9 (by rw [h18, e11, sg_L_v (Or.inr hvl)]) (by rw [h19, e11, sg_M_v (Or.inr hvl)]) h20)
                  · have c119b : ¬ u / 2 ^ l % 2 = 1 := by
                      have h2 : u / 2 ^ l % 2 < 2 := Nat.mod_lt _ (by decide)
                      have := (nI_eq (a := u / 2 ^ l % 2) (b := 0) (by omega) (by decide)).mp (by rw [c119]; rfl)
                      omega
                    refine dr_goto (tgt := 285) 122 hV dX5_find_122 (by decide) ?_
                    have hx9 := (((fi_X.rf I J (sg_ix p u l)).wj (Or.inr rfl) (0 : Int64)).wi (nI 1000)).wj (Or.inl rfl) ((0 : Int64))
                    have hno : ¬ (p = sg_p s ∨ sg_vl s u l) := by
                      unfold sg_vl; rw [dz_tb]
                      grind
                    refine dr_iinc1 285 hV dX5_find_285 (by decide) rfl ?_
                    refine dr_goto (tgt := 28) 288 hV dX5_find_288 (by decide) ?_
                    refine dr_sub hV (ls2 := [(0, .inr (.inr 0)), (1, .inl (nI p)), (2, .inl (nI u)), (3, .inl (nI (l + 1)))]) rfl ?_
                    exact ih (l + 1) _ _ (by omega) (by omega) (hx9.RM hO2 hR) (fi_T.next o1 hu (by omega) hT hx9 (by rw [dz_wi_s, sg_L_n hno]) (by rw [dz_wj_s, sg_M_n hno]; rfl) (by rw [dz_wj_n _ _ (by omega), dz_wj_s]))
          · exact absurd c83 c61
        · refine dr_iconst (v := nI 0) 64 hV dX5_find_64 (by decide) ?_
          refine dr_goto (tgt := 71) 65 hV dX5_find_65 (by decide) ?_
          refine dr_iast 71 hV dX5_find_71 (by decide) rfl rfl (hk0 (by omega)) (by decide) ?_
          refine dr_aload_n 72 hV dX5_find_72 rfl ?_
          refine dr_geta 73 hV dX5_find_73 (by decide) (by decide) rfl rfl rfl ?_
          refine dr_iload 76 hV dX5_find_76 rfl ?_
          refine dr_iload_n 78 hV dX5_find_78 rfl ?_
          refine dr_aload_n 79 hV dX5_find_79 rfl ?_
          refine dr_geti 80 hV dX5_find_80 (by decide) (by decide) rfl rfl rfl m3 ?_
          refine dn_icmp_ne (tgt := 90) 83 hV dX5_find_83 (by decide) (by omega) (by omega) (fun c83 => ?_) (fun c83 => ?_)
          · exact absurd c61 c83
          · refine dr_lconst (v := 1) 86 hV dX5_find_86 (by decide) ?_
            refine dr_goto (tgt := 91) 87 hV dX5_find_87 (by decide) ?_
            refine dr_last 91 hV dX5_find_91 (by decide) rfl rfl (hk0 (by omega)) (by decide) ?_
            refine dr_iload_n 92 hV dX5_find_92 rfl ?_
            refine dr_aload_n 93 hV dX5_find_93 rfl ?_
            refine dr_geti 94 hV dX5_find_94 (by decide) (by decide) rfl rfl rfl m3 ?_
            refine dn_icmp_eq (tgt := 285) 97 hV dX5_find_97 (by decide) (by omega) (by omega) (fun c97 => ?_) (fun c97 => ?_)
            · have hx9 := (((fi_X.rf I J (sg_ix p u l)).wj (Or.inr rfl) (0 : Int64)).wi (nI 0)).wj (Or.inl rfl) ((1 : Int64))
              refine dr_iinc1 285 hV dX5_find_285 (by decide) rfl ?_
              refine dr_goto (tgt := 28) 288 hV dX5_find_288 (by decide) ?_
              refine dr_sub hV (ls2 := [(0, .inr (.inr 0)), (1, .inl (nI p)), (2, .inl (nI u)), (3, .inl (nI (l + 1)))]) rfl ?_
              exact ih (l + 1) _ _ (by omega) (by omega) (hx9.RM hO2 hR) (fi_T.next o1 hu (by omega) hT hx9 (by rw [dz_wi_s, c61, (sg_L_P s u l).1]) (by rw [dz_wj_s, c61, (sg_L_P s u l).2]; rfl) (by rw [dz_wj_n _ _ (by omega), dz_wj_s]))
            · exact absurd c61 c97
end
section
/-! the model's find, its outer loops, the first best way -/
def fi_A (s : dz_Sg) (I : dz_MI) (J : dz_MJ) (q : Nat) : Prop := ∀ p u l, p ≤ sg_p s → u < 2 ^ sg_n s → l < 11 → q ≤ p → I 18 (sg_ix p u l) = nI (sg_L s p u l) ∧ J 19 (sg_ix p u l) = lN (sg_M s p u l) ∧ J 20 (sg_ix p u l) = 0
theorem fi_A.toT {s : dz_Sg} {I : dz_MI} {J : dz_MJ} {q : Nat} (h : fi_A s I J (q + 1)) : fi_T s I J q (0 * 11) := fun p u l h1 h2 h3 h4 => h p u l h1 h2 h3 (by rcases h4 with z | ⟨z, z2⟩ <;> omega)
theorem fi_T.toA {s : dz_Sg} {I : dz_MI} {J : dz_MJ} {q : Nat} (h : fi_T s I J q (2 ^ sg_n s * 11)) : fi_A s I J q := fun p u l h1 h2 h3 h4 => h p u l h1 h2 h3 (by
  rcases Nat.lt_or_ge q p with z | z
  · exact Or.inl z
  · exact Or.inr ⟨by omega, by omega⟩)
def dz_dn (q : Nat) : Int32 := if q = 0 then -1 else nI (q - 1)
theorem dz_dn_s (q : Nat) : dz_dn (q + 1) = nI q := by unfold dz_dn; rw [if_neg (by omega)]; rfl
theorem dz_dn_dec (q : Nat) : nI q + Int32.ofInt (-1) = dz_dn q := by
  unfold dz_dn
  by_cases h : q = 0
  · subst h; decide
  · rw [if_neg h]
    obtain ⟨k, rfl⟩ : ∃ k, q = k + 1 := ⟨q - 1, by omega⟩
    exact pk_m1 k
theorem dz_fs_ex (P : Nat → Prop) (n : Nat) : ∃ k, (k < n ∧ P k ∧ ∀ j, j < k → ¬ P j) ∨ (k = n ∧ ∀ j, j < n → ¬ P j) := by
  by_cases hx : ∃ i, i < n ∧ dz_B (P i) = true
  · obtain ⟨i, hi, hc, hl⟩ := fb_first (p := fun i => dz_B (P i) = true) hx
    exact ⟨i, Or.inl ⟨hi, dz_Bt.mp hc, fun j hj q => hl j hj (dz_Bt.mpr q)⟩⟩
  · exact ⟨n, Or.inr ⟨rfl, fun j hj q => hx ⟨j, hj, dz_Bt.mpr q⟩⟩⟩
/-- the first k below n of which P holds, or n -/
noncomputable def dz_fs (P : Nat → Prop) (n : Nat) : Nat := Classical.choose (dz_fs_ex P n)
theorem dz_fs_c (P : Nat → Prop) (n : Nat) : (dz_fs P n < n ∧ P (dz_fs P n) ∧ ∀ j, j < dz_fs P n → ¬ P j) ∨ (dz_fs P n = n ∧ ∀ j, j < n → ¬ P j) := Classical.choose_spec (dz_fs_ex P n)
theorem dz_fs_eq {P : Nat → Prop} {n i : Nat} (hi : i < n) (hp : P i) (hl : ∀ j, j < i → ¬ P j) : dz_fs P n = i := by
  rcases dz_fs_c P n with h | h
  · rcases Nat.lt_trichotomy (dz_fs P n) i with q | q | q
    · exact absurd h.2.1 (hl _ q)
    · exact q
    · exact absurd hp (h.2.2 _ q)
  · exact absurd hp (h.2 _ hi)
theorem dz_fs_cong {P Q : Nat → Prop} {n : Nat} (h : ∀ k, k < n → (P k ↔ Q k)) : dz_fs P n = dz_fs Q n := by
  rcases dz_fs_c Q n with q | q
  · exact dz_fs_eq q.1 ((h _ q.1).mpr q.2.1) (fun j hj z => q.2.2 j hj ((h j (by omega)).mp z))
  · rcases dz_fs_c P n with r | r
    · exact absurd ((h _ r.1).mp r.2.1) (q.2 _ r.1)
    · rw [r.1, q.1]
/-- what lies under place p, and the drums used, in FIRST -/
noncomputable def sg_go (s : dz_Sg) : Nat → Nat × Nat
  | 0 => (0, 10)
  | p + 1 => (sg_nx (sg_go s p).1 (dz_fs (fun d => sg_best s p d (sg_go s p).1 (sg_go s p).2) 11), dz_fs (fun d => sg_best s p d (sg_go s p).1 (sg_go s p).2) 11)
noncomputable def sg_fw (s : dz_Sg) (p : Nat) : Nat := dz_fs (fun d => sg_best s p d (sg_go s p).1 (sg_go s p).2) 11
theorem sg_go_s (s : dz_Sg) (p : Nat) : sg_go s (p + 1) = (sg_nx (sg_go s p).1 (sg_fw s p), sg_fw s p) := rfl
theorem sg_best_ex {s : dz_Sg} {p u l : Nat} (h8 : sg_p s ≤ 8) (hp : p < sg_p s) (hv : sg_vl s u l) (h : ¬ sg_L s p u l = 1000) : ∃ d, d < 11 ∧ sg_best s p d u l := by
  obtain ⟨r, hr⟩ : ∃ r, sg_p s = p + (r + 1) := ⟨sg_p s - p - 1, by omega⟩
  have er : sg_p s - p = r + 1 := by omega
  have er2 : sg_p s - (r + 1) = p := by omega
  have hL := sg_L_v (p := p) (Or.inr hv)
  rw [er] at hL
  rcases dz_lo_c (sg_C s (r + 1) u l) with q | q
  · exact absurd (hL.trans q.1) h
  · obtain ⟨q1, q2, q3⟩ := q
    rw [sg_C_succ] at q2
    have hx : ∃ d, d < 11 ∧ sg_E s r u l d (dz_lo (sg_C s (r + 1) u l)) ≠ 0 := Classical.byContradiction fun hn => q2 (by
      have h0 : ∀ d, d < 11 → sg_E s r u l d (dz_lo (sg_C s (r + 1) u l)) = 0 := fun d hd => Classical.byContradiction fun z => hn ⟨d, hd, z⟩
      rw [fb_sm_cong h0, fb_sm_const])
    obtain ⟨d, hd, he⟩ := hx
    refine ⟨d, hd, ?_⟩
    have hok : sg_ok s (sg_p s - (r + 1)) d u l = true := by
      cases hz : sg_ok s (sg_p s - (r + 1)) d u l with
      | true => rfl
      | false => exact absurd (by unfold sg_E; rw [hz]; rfl) he
    obtain ⟨k1, k2⟩ := dz_Bt.mp hok
    rw [er2] at k2
    obtain ⟨f1, f2⟩ := fi_e hr h8 k1 hok
    have hlo : ¬ dz_lo (sg_E s r u l d) = 1000 := fun z => by
      rcases dz_lo_c (sg_E s r u l d) with w | w
      · exact he (w.2 _ q1)
      · omega
    have hne : ¬ sg_L s (p + 1) (sg_nx u d) d = 1000 := fun z => hlo (f1 z)
    refine ⟨k1, k2, hne, ?_⟩
    rw [← (f2 hne).1, hL]
    have a1 : dz_lo (sg_E s r u l d) ≤ dz_lo (sg_C s (r + 1) u l) := by
      rcases dz_lo_c (sg_E s r u l d) with w | w
      · exact absurd w.1 hlo
      · rcases Nat.lt_or_ge (dz_lo (sg_C s (r + 1) u l)) (dz_lo (sg_E s r u l d)) with z | z
        · exact absurd (w.2.2 _ z) he
        · exact z
    have a2 : dz_lo (sg_C s (r + 1) u l) ≤ dz_lo (sg_E s r u l d) := by
      rcases dz_lo_c (sg_E s r u l d) with w | w
      · exact absurd w.1 hlo
      · rcases Nat.lt_or_ge (dz_lo (sg_E s r u l d)) (dz_lo (sg_C s (r + 1) u l)) with z | z
        · have h0 := q3 _ z
          rw [sg_C_succ] at h0
          exact absurd (fb_sm_zero h0 d hd) w.2.1
        · exact z
    omega
/-- along FIRST -/
theorem sg_go_ok {s : dz_Sg} (h8 : sg_p s ≤ 8) (h : ¬ sg_L s 0 0 10 = 1000) : ∀ p, p ≤ sg_p s → (sg_go s p).1 < 2 ^ sg_n s ∧ sg_vl s (sg_go s p).1 (sg_go s p).2 ∧ ¬ sg_L s p (sg_go s p).1 (sg_go s p).2 = 1000
  | 0, _ => ⟨Nat.two_pow_pos _, Or.inl rfl, h⟩
  | p + 1, hp => by
    obtain ⟨h1, h2, h3⟩ := sg_go_ok h8 h p (by omega)
    obtain ⟨d, hd, hb⟩ := sg_best_ex h8 (by omega) h2 h3
    have hf : sg_fw s p < 11 ∧ sg_best s p (sg_fw s p) (sg_go s p).1 (sg_go s p).2 := by
      rcases dz_fs_c (fun d => sg_best s p d (sg_go s p).1 (sg_go s p).2) 11 with q | q
      · exact ⟨q.1, q.2.1⟩
      · exact absurd hb (q.2 d hd)
    rw [sg_go_s]
    exact ⟨sg_nx_lt h1 hf.2.1, sg_vl_nx hf.2.1, hf.2.2.2.1⟩
theorem sg_fw_ok {s : dz_Sg} (h8 : sg_p s ≤ 8) (h : ¬ sg_L s 0 0 10 = 1000) {p : Nat} (hp : p < sg_p s) : sg_fw s p < 11 ∧ sg_best s p (sg_fw s p) (sg_go s p).1 (sg_go s p).2 ∧ ∀ j, j < sg_fw s p → ¬ sg_best s p j (sg_go s p).1 (sg_go s p).2 := by
  obtain ⟨h1, h2, h3⟩ := sg_go_ok h8 h p (by omega)
  obtain ⟨d, hd, hb⟩ := sg_best_ex h8 hp h2 h3
  rcases dz_fs_c (fun d => sg_best s p d (sg_go s p).1 (sg_go s p).2) 11 with q | q
  · exact q
  · exact absurd hb (q.2 d hd)
theorem fi_A.L {s : dz_Sg} {I : dz_MI} {J : dz_MJ} (h : fi_A s I J 0) : fi_L s I := fun p u l h1 h2 h3 => (h p u l h1 h2 h3 (Nat.zero_le _)).1
set_option maxRecDepth 100000 in
set_option maxHeartbeats 4000000 in
theorem fi_u {π : dz_Pl} {post : Option dz_AV → dz_MI → dz_MJ → Prop} {V : dz_Vt} (hV : dz_Clo π dz_M 24 5 mX5_find 4 116 post V) {s : dz_Sg} {p : Nat} (hO : dz_OK s) (hp : p ≤ sg_p s) (K : ∀ I J, dz_RM s I → fi_T s I J p (2 ^ sg_n s * 11) → V 297 I J [(0, .inr (.inr 0)), (1, .inl (nI p))] []) : ∀ (fu u : Nat) (I : dz_MI) (J : dz_MJ), 2 ^ sg_n s < u + fu → u ≤ 2 ^ sg_n s → dz_RM s I → fi_T s I J p (u * 11) → V 16 I J [(0, .inr (.inr 0)), (1, .inl (nI p)), (2, .inl (nI (u)))] [] := by
  have hO2 := hO
  obtain ⟨o1, o2, o3, o4, o5, o6, o7, o8, o9⟩ := hO
  have hu2 := dz_pn o1
  intro fu
  induction fu with
  | zero => intro u I J h1 h2; exact absurd h1 (by omega)
  | succ fu ih =>
      intro u I J h1 h2 hR hT
      have m1 := hR.1
      refine dr_iload_n 16 hV dX5_find_16 rfl ?_
      refine dr_iconst (v := nI 1) 17 hV dX5_find_17 (by decide) ?_
      refine dr_aload_n 18 hV dX5_find_18 rfl ?_
      refine dr_geti 19 hV dX5_find_19 (by decide) (by decide) rfl rfl rfl m1 ?_
      refine dr_ishl (z := nI (2 ^ sg_n s)) 22 hV dX5_find_22 (dz_s1 (by omega)) ?_
      refine dn_icmp_ge (tgt := 297) 23 hV dX5_find_23 (by decide) (by omega) (by omega) (fun c23 => ?_) (fun c23 => ?_)
      · have hue : u = 2 ^ sg_n s := by omega
        subst hue
        refine dr_sub hV (ls2 := [(0, .inr (.inr 0)), (1, .inl (nI p))]) rfl ?_
        exact K I J hR hT
      · refine dr_iconst (v := nI 0) 26 hV dX5_find_26 (by decide) ?_
        refine dr_istore_n 27 hV dX5_find_27 (by decide) ?_
        refine dr_sub hV (ls2 := [(0, .inr (.inr 0)), (1, .inl (nI p)), (2, .inl (nI u)), (3, .inl (nI (0)))]) rfl ?_
        refine fi_l hV hO2 hp c23 (fun I2 J2 hR2 hT2 => ?_) 12 0 I J (by omega) (by omega) hR hT
        refine dr_iinc1 291 hV dX5_find_291 (by decide) rfl ?_
        refine dr_goto (tgt := 16) 294 hV dX5_find_294 (by decide) ?_
        refine dr_sub hV (ls2 := [(0, .inr (.inr 0)), (1, .inl (nI p)), (2, .inl (nI (u + 1)))]) rfl ?_
        exact ih (u + 1) _ _ (by omega) (by omega) hR2 (by rw [show (u + 1) * 11 = u * 11 + 11 by omega]; exact hT2)
set_option maxRecDepth 100000 in
set_option maxHeartbeats 4000000 in
theorem fi_p {π : dz_Pl} {post : Option dz_AV → dz_MI → dz_MJ → Prop} {V : dz_Vt} (hV : dz_Clo π dz_M 24 5 mX5_find 4 116 post V) {s : dz_Sg} (hO : dz_OK s) (K : ∀ I J, dz_RM s I → fi_A s I J 0 → V 303 I J [(0, .inr (.inr 0))] []) : ∀ (q : Nat) (I : dz_MI) (J : dz_MJ), q ≤ sg_p s + 1 → dz_RM s I → fi_A s I J q → V 10 I J [(0, .inr (.inr 0)), (1, .inl (dz_dn q))] [] := by
  have hO2 := hO
  obtain ⟨o1, o2, o3, o4, o5, o6, o7, o8, o9⟩ := hO
  intro q
  induction q with
  | zero =>
      intro I J h1 hR hT
      rw [show dz_dn 0 = (-1) from rfl]
      refine dr_iload_n 10 hV dX5_find_10 rfl ?_
      refine dr_if_lt (tgt := 303) 11 hV dX5_find_11 (by decide) (fun c11 => ?_) (fun c11 => ?_)
      · refine dr_sub hV (ls2 := [(0, .inr (.inr 0))]) rfl ?_
        exact K I J hR hT
      · exact absurd (by decide) c11
  | succ q ih =>
      intro I J h1 hR hT
      rw [dz_dn_s]
      refine dr_iload_n 10 hV dX5_find_10 rfl ?_
      refine dr_if_lt (tgt := 303) 11 hV dX5_find_11 (by decide) (fun c11 => ?_) (fun c11 => ?_)
      · exact absurd c11 (nI_pos (by omega))
      · refine dr_iconst (v := nI 0) 14 hV dX5_find_14 (by decide) ?_
        refine dr_istore_n 15 hV dX5_find_15 (by decide) ?_
        refine dr_sub hV (ls2 := [(0, .inr (.inr 0)), (1, .inl (nI q)), (2, .inl (nI 0))]) rfl ?_
        refine fi_u hV hO2 (by omega) (fun I2 J2 hR2 hT2 => ?_) (2 ^ sg_n s + 1) 0 I J (by omega) (Nat.zero_le _) hR hT.toT
        refine dr_iinc 297 hV dX5_find_297 (by decide) rfl (v2 := dz_dn q) (dz_dn_dec q) ?_
        refine dr_goto (tgt := 10) 300 hV dX5_find_300 (by decide) ?_
        refine dr_sub hV (ls2 := [(0, .inr (.inr 0)), (1, .inl (dz_dn q))]) rfl ?_
        exact ih _ _ (by omega) hR2 hT2.toA
theorem dz_bpt {P : Prop} (h : P) : nI 1 = dz_bp P := by rw [dz_bp, dz_b1 h]; rfl
theorem dz_bpf {P : Prop} (h : ¬ P) : nI 0 = dz_bp P := by rw [dz_bp, dz_bf h]; rfl
def fi_Post (s : dz_Sg) (r : Option dz_AV) (I : dz_MI) (J : dz_MJ) : Prop := r = some (.inl (dz_bp (¬ sg_L s 0 0 10 = 1000))) ∧ dz_RM s I ∧ fi_A s I J 0 ∧ (¬ sg_L s 0 0 10 = 1000 → ∀ p, p < sg_p s → I 22 p = nI (sg_fw s p))
theorem fi_A.w {s : dz_Sg} {I : dz_MI} {J : dz_MJ} {q c k : Nat} {x : Int32} (hc : ¬ c = 18) (h : fi_A s I J q) : fi_A s (dz_wi I c k x) J q := fun p u l h1 h2 h3 h4 => by
  rw [dz_wi_n I x (by omega)]; exact h p u l h1 h2 h3 h4
theorem dz_RM.w {s : dz_Sg} {I : dz_MI} {c k : Nat} {x : Int32} (hO : dz_OK s) (hc : 18 ≤ c ∨ (c = 0 ∧ k = 0)) (h : dz_RM s I) : dz_RM s (dz_wi I c k x) := dz_RM.agree hO h (fun c2 k2 h1 h2 => dz_wi_n I x (by omega))
set_option maxRecDepth 100000 in
set_option maxHeartbeats 4000000 in
theorem fi_w {π : dz_Pl} {post : Option dz_AV → dz_MI → dz_MJ → Prop} {V : dz_Vt} (hV : dz_Clo π dz_M 24 5 mX5_find 4 116 post V) {s : dz_Sg} {p : Nat} {I : dz_MI} {J : dz_MJ} (hO : dz_OK s) (hR : dz_RM s I) (hT : fi_A s I J 0) (hn : ¬ sg_L s 0 0 10 = 1000) (hp : p < sg_p s) (K : V 368 I J [(0, .inr (.inr 0)), (3, .inl (nI (sg_go s p).1)), (4, .inl (nI (sg_go s p).2)), (5, .inl (nI p)), (6, .inl (nI (sg_fw s p)))] []) : ∀ (fu d : Nat), sg_fw s p < d + fu → d ≤ sg_fw s p → V 348 I J [(0, .inr (.inr 0)), (3, .inl (nI (sg_go s p).1)), (4, .inl (nI (sg_go s p).2)), (5, .inl (nI p)), (6, .inl (nI (d)))] [] := by
  have hO2 := hO
  obtain ⟨o1, o2, o3, o4, o5, o6, o7, o8, o9⟩ := hO
  obtain ⟨g1, g2, g3⟩ := sg_go_ok o3 hn p (by omega)
  obtain ⟨w1, w2, w3⟩ := sg_fw_ok o3 hn hp
  have g2b : (sg_go s p).2 = 10 ∨ (sg_go s p).2 < sg_n s := g2.elim Or.inl (fun z => Or.inr z.1)
  intro fu
  induction fu with
  | zero => intro d h1 h2; exact absurd h1 (by omega)
  | succ fu ih =>
      intro d h1 h2
      refine dr_aload_n 348 hV dX5_find_348 rfl ?_
      refine dr_iload 349 hV dX5_find_349 rfl ?_
      refine dr_iload 351 hV dX5_find_351 rfl ?_
      refine dr_iload_n 353 hV dX5_find_353 rfl ?_
      refine dr_iload 354 hV dX5_find_354 rfl ?_
      refine dr_cvp4 356 hV dz_lX5_155 dX5_find_356 (by decide) (by decide) ⟨by decide, _, _, rfl, by decide, rfl⟩ (Nat.le_of_ble_eq_true rfl) (c_X5_isBest π _ _ hO2 hR hT.L hp (by omega) g1 g2b) ?_
      first | refine dr_ifb_ne (tgt := 368) 359 hV dX5_find_359 (by decide) (fun c359 => ?_) (fun c359 => ?_) | refine dr_if_ne (tgt := 368) 359 hV dX5_find_359 (by decide) (fun c359 => ?_) (fun c359 => ?_)
      · have hde : d = sg_fw s p := by
          rcases Nat.lt_or_ge d (sg_fw s p) with z | z
          · exact absurd c359 (w3 d z)
          · omega
        subst hde
        refine dr_sub hV (ls2 := [(0, .inr (.inr 0)), (3, .inl (nI (sg_go s p).1)), (4, .inl (nI (sg_go s p).2)), (5, .inl (nI p)), (6, .inl (nI (sg_fw s p)))]) rfl ?_
        exact K
      · have hdl : d < sg_fw s p := by
          rcases Nat.lt_or_ge d (sg_fw s p) with z | z
          · exact z
          · exact absurd (by rw [show d = sg_fw s p by omega]; exact w2) c359
        refine dr_iinc1 362 hV dX5_find_362 (by decide) rfl ?_
        refine dr_goto (tgt := 348) 365 hV dX5_find_365 (by decide) ?_
        refine dr_sub hV (ls2 := [(0, .inr (.inr 0)), (3, .inl (nI (sg_go s p).1)), (4, .inl (nI (sg_go s p).2)), (5, .inl (nI p)), (6, .inl (nI (d + 1)))]) rfl ?_
        exact ih (d + 1) (by omega) (by omega)
set_option maxRecDepth 100000 in
set_option maxHeartbeats 4000000 in
theorem fi_g {π : dz_Pl} {post : Option dz_AV → dz_MI → dz_MJ → Prop} {V : dz_Vt} (hV : dz_Clo π dz_M 24 5 mX5_find 4 116 post V) {s : dz_Sg} (hO : dz_OK s) (hn : ¬ sg_L s 0 0 10 = 1000) {J : dz_MJ} (hpost : ∀ {r I}, fi_Post s r I J → post r I J) : ∀ (fu p : Nat) (I : dz_MI), sg_p s < p + fu → p ≤ sg_p s → dz_RM s I → fi_A s I J 0 → (∀ q, q < p → I 22 q = nI (sg_fw s q)) → V 336 I J [(0, .inr (.inr 0)), (3, .inl (nI (sg_go s p).1)), (4, .inl (nI (sg_go s p).2)), (5, .inl (nI (p)))] [] := by
  have hO2 := hO
  obtain ⟨o1, o2, o3, o4, o5, o6, o7, o8, o9⟩ := hO
  intro fu
  induction fu with
  | zero => intro p I h1 h2; exact absurd h1 (by omega)
  | succ fu ih =>
      intro p I h1 h2 hR hT hF
      have m3 := hR.2.2.1
      refine dr_iload 336 hV dX5_find_336 rfl ?_
      refine dr_aload_n 338 hV dX5_find_338 rfl ?_
      refine dr_geti 339 hV dX5_find_339 (by decide) (by decide) rfl rfl rfl m3 ?_
      refine dn_icmp_ge (tgt := 401) 342 hV dX5_find_342 (by decide) (by omega) (by omega) (fun c342 => ?_) (fun c342 => ?_)
      · have hpe : p = sg_p s := by omega
        subst hpe
        refine dr_iconst (v := nI 1) 401 hV dX5_find_401 (by decide) ?_
        exact dr_iret 402 hV dX5_find_402 rfl (by first | rfl | exact dz_bn) (hpost ⟨by rw [← dz_bpt hn], hR, hT, fun _ => hF⟩)
      · refine dr_iconst (v := nI 0) 345 hV dX5_find_345 (by decide) ?_
        refine dr_istore 346 hV dX5_find_346 (by decide) ?_
        refine dr_sub hV (ls2 := [(0, .inr (.inr 0)), (3, .inl (nI (sg_go s p).1)), (4, .inl (nI (sg_go s p).2)), (5, .inl (nI p)), (6, .inl (nI (0)))]) rfl ?_
        obtain ⟨w1, w2, w3⟩ := sg_fw_ok o3 hn c342
        refine fi_w hV hO2 hR hT hn c342 ?_ (sg_fw s p + 1) 0 (by omega) (Nat.zero_le _)
        refine dr_aload_n 368 hV dX5_find_368 rfl ?_
        refine dr_geta 369 hV dX5_find_369 (by decide) (by decide) rfl rfl rfl ?_
        refine dr_iload 372 hV dX5_find_372 rfl ?_
        refine dr_iload 374 hV dX5_find_374 rfl ?_
        refine dr_iast 376 hV dX5_find_376 (by decide) rfl rfl (by omega) (by decide) ?_
        refine dr_iload 377 hV dX5_find_377 rfl ?_
        refine dr_bipush (v := nI 10) 379 hV dX5_find_379 (by decide) ?_
        refine dn_icmp_eq (tgt := 391) 381 hV dX5_find_381 (by decide) (by omega) (by omega) (fun c381 => ?_) (fun c381 => ?_)
        · refine dr_iload 391 hV dX5_find_391 rfl ?_
          refine dr_istore 393 hV dX5_find_393 (by decide) ?_
          refine dr_iinc1 395 hV dX5_find_395 (by decide) rfl ?_
          refine dr_goto (tgt := 336) 398 hV dX5_find_398 (by decide) ?_
          refine dr_sub hV (ls2 := [(0, .inr (.inr 0)), (3, .inl (nI (sg_go s (p + 1)).1)), (4, .inl (nI (sg_go s (p + 1)).2)), (5, .inl (nI (p + 1)))]) ?_ ?_
          · rw [sg_go_s]; simp only [sg_nx, c381]; rfl
          refine ih (p + 1) _ (by omega) (by omega) (hR.w hO2 (Or.inl (by decide))) (hT.w (by decide)) (fun q hq => ?_)
          rcases Nat.lt_or_ge q p with z | z
          · rw [dz_wi_n _ _ (by omega)]; exact hF q z
          · rw [show q = p by omega, dz_wi_s]
        · refine dr_iload_n 384 hV dX5_find_384 rfl ?_
          refine dr_iconst (v := nI 1) 385 hV dX5_find_385 (by decide) ?_
          refine dr_iload 386 hV dX5_find_386 rfl ?_
          refine dr_ishl (z := nI (2 ^ sg_fw s p)) 388 hV dX5_find_388 (dz_s1 (by omega)) ?_
          refine dr_ior (z := nI ((sg_go s p).1 ||| 2 ^ sg_fw s p)) 389 hV dX5_find_389 (fa_or _ _) ?_
          refine dr_istore_n 390 hV dX5_find_390 (by decide) ?_
          refine dr_iload 391 hV dX5_find_391 rfl ?_
          refine dr_istore 393 hV dX5_find_393 (by decide) ?_
          refine dr_iinc1 395 hV dX5_find_395 (by decide) rfl ?_
          refine dr_goto (tgt := 336) 398 hV dX5_find_398 (by decide) ?_
          refine dr_sub hV (ls2 := [(0, .inr (.inr 0)), (3, .inl (nI (sg_go s (p + 1)).1)), (4, .inl (nI (sg_go s (p + 1)).2)), (5, .inl (nI (p + 1)))]) ?_ ?_
          · rw [sg_go_s]; simp only [sg_nx, if_neg c381]; rfl
          refine ih (p + 1) _ (by omega) (by omega) (hR.w hO2 (Or.inl (by decide))) (hT.w (by decide)) (fun q hq => ?_)
          rcases Nat.lt_or_ge q p with z | z
          · rw [dz_wi_n _ _ (by omega)]; exact hF q z
          · rw [show q = p by omega, dz_wi_s]
set_option maxRecDepth 100000 in
set_option maxHeartbeats 4000000 in
theorem c_X5_find (π : dz_Pl) {s : dz_Sg} (I : dz_MI) (J : dz_MJ) (hO : dz_OK s) (hR : dz_RM s I) : dz_Cl π dz_M 24 mX5_find 4 116 [.inr (.inr 0)] I J (fi_Post s) := by
  refine dz_body (own := 5) dz_mX5_find rfl (Nat.le_of_ble_eq_true rfl) (fun V hV => ?_)
  have hO2 := hO
  obtain ⟨o1, o2, o3, o4, o5, o6, o7, o8, o9⟩ := hO
  have m3 := hR.2.2.1
  have hle := sg_L_le s 0 0 10
  refine dr_aload_n 0 hV dX5_find_0 rfl ?_
  refine dr_iconst (v := nI 0) 1 hV dX5_find_1 (by decide) ?_
  refine dr_puti 2 hV dX5_find_2 (by decide) (by decide) rfl rfl rfl rfl rfl rfl ?_
  refine dr_aload_n 5 hV dX5_find_5 rfl ?_
  refine dr_geti (v := nI (sg_p s)) 6 hV dX5_find_6 (by decide) (by decide) rfl rfl rfl (by rw [dz_wi_n _ _ (by omega)]; exact m3) ?_
  refine dr_istore_n 9 hV dX5_find_9 (by decide) ?_
  refine dr_sub hV (ls2 := [(0, .inr (.inr 0)), (1, .inl (dz_dn (sg_p s + 1)))]) (by rw [dz_dn_s]; rfl) ?_
  refine fi_p hV hO2 (fun I2 J2 hR2 hT2 => ?_) (sg_p s + 1) _ _ (Nat.le_refl _) (hR.w hO2 (Or.inr ⟨rfl, rfl⟩)) (fun p u l h1 h2 h3 h4 => absurd h1 (by omega))
  refine dr_iconst (v := nI 0) 303 hV dX5_find_303 (by decide) ?_
  refine dr_iconst (v := nI 0) 304 hV dX5_find_304 (by decide) ?_
  refine dr_bipush (v := nI 10) 305 hV dX5_find_305 (by decide) ?_
  refine dr_csp3 307 hV (Or.inl dz_lX5_144) dX5_find_307 (by decide) (by decide) (Nat.le_of_ble_eq_true rfl) (c_index π _ _ 0 0 10 _ _) ?_
  refine dr_istore_n 310 hV dX5_find_310 (by decide) ?_
  refine dr_aload_n 311 hV dX5_find_311 rfl ?_
  refine dr_geta 312 hV dX5_find_312 (by decide) (by decide) rfl rfl rfl ?_
  refine dr_iload_n 315 hV dX5_find_315 rfl ?_
  refine dr_iald 316 hV dX5_find_316 (by decide) rfl rfl (by decide) (by decide) (hT2 0 0 10 (Nat.zero_le _) (Nat.two_pow_pos _) (by decide) (Nat.le_refl _)).1 ?_
  refine dr_sipush (v := nI 1000) 317 hV dX5_find_317 (by decide) ?_
  refine dn_icmp_lt (tgt := 325) 320 hV dX5_find_320 (by decide) (by omega) (by omega) (fun c320 => ?_) (fun c320 => ?_)
  · have hn : ¬ sg_L s 0 0 10 = 1000 := by omega
    refine dr_iload_n 325 hV dX5_find_325 rfl ?_
    refine dr_istore_n 326 hV dX5_find_326 (by decide) ?_
    refine dr_iconst (v := nI 0) 327 hV dX5_find_327 (by decide) ?_
    refine dr_istore_n 328 hV dX5_find_328 (by decide) ?_
    refine dr_bipush (v := nI 10) 329 hV dX5_find_329 (by decide) ?_
    refine dr_istore 331 hV dX5_find_331 (by decide) ?_
    refine dr_iconst (v := nI 0) 333 hV dX5_find_333 (by decide) ?_
    refine dr_istore 334 hV dX5_find_334 (by decide) ?_
    refine dr_sub hV (ls2 := [(0, .inr (.inr 0)), (3, .inl (nI (sg_go s 0).1)), (4, .inl (nI (sg_go s 0).2)), (5, .inl (nI (0)))]) rfl ?_
    exact fi_g hV hO2 hn (fun h => h) (sg_p s + 1) 0 _ (by omega) (Nat.zero_le _) hR2 hT2 (fun q hq => absurd hq (by omega))
  · refine dr_iconst (v := nI 0) 323 hV dX5_find_323 (by decide) ?_
    exact dr_iret 324 hV dX5_find_324 rfl (by first | rfl | exact dz_bn) ⟨by rw [← dz_bpf (show ¬ ¬ sg_L s 0 0 10 = 1000 by omega)], hR2, hT2, fun z => absurd (by omega) z⟩
end
section
/-! USAGE: how many best ways have an item at a place -/
theorem dz_sm_comm (f : Nat → Nat → Nat) : ∀ (a b : Nat), fb_sm (fun i => fb_sm (fun j => f i j) b) a = fb_sm (fun j => fb_sm (fun i => f i j) a) b
  | 0, b => by
    have h : ∀ j, j < b → fb_sm (fun i => f i j) 0 = 0 := fun _ _ => rfl
    rw [fb_sm_cong h, fb_sm_const]; rfl
  | a + 1, b => by
    rw [fb_sm_succ, dz_sm_comm f a b, ← fb_sm_add]
    exact fb_sm_cong (fun j _ => (fb_sm_succ _ _).symm)
theorem dz_sm_mul (f : Nat → Nat) (c : Nat) : ∀ n, fb_sm f n * c = fb_sm (fun k => f k * c) n
  | 0 => Nat.zero_mul c
  | n + 1 => by rw [fb_sm_succ, fb_sm_succ, Nat.add_mul, dz_sm_mul f c n]
theorem dz_sm_one (g : Nat → Nat) {k : Nat} : ∀ {n : Nat}, k < n → (∀ j, j < n → j ≠ k → g j = 0) → fb_sm g n = g k
  | 0, h, _ => absurd h (Nat.not_lt_zero k)
  | n + 1, h, h0 => by
    rw [fb_sm_succ]
    by_cases e : k = n
    · subst e
      rw [fb_sm_cong (fun j hj => h0 j (by omega) (by omega)), fb_sm_const]; omega
    · rw [dz_sm_one g (show k < n by omega) (fun j hj hjk => h0 j (by omega) hjk), h0 n (by omega) (by omega)]; rfl
theorem dz_sm_pos {f : Nat → Nat} {n : Nat} : 0 < fb_sm f n ↔ ∃ k, k < n ∧ 0 < f k := by
  constructor
  · intro h
    exact Classical.byContradiction fun hn => by
      have h0 : ∀ k, k < n → f k = 0 := fun k hk => by
        rcases Nat.eq_zero_or_pos (f k) with z | z
        · exact z
        · exact absurd ⟨k, hk, z⟩ hn
      rw [fb_sm_cong h0, fb_sm_const] at h
      omega
  · rintro ⟨k, hk, h⟩
    have := fb_sm_part f hk
    omega
/-- what flows over edges (i, j) to ix i j, weighed there -/
theorem dz_flow (K a b : Nat) (c : Nat → Nat → Bool) (ix : Nat → Nat → Nat) (v w : Nat → Nat) (hx : ∀ i j, i < a → j < b → c i j = true → ix i j < K) :
    fb_sm (fun m => fb_sm (fun i => fb_sm (fun j => if (c i j && decide (ix i j = m)) = true then v i else 0) b) a * w m) K = fb_sm (fun i => fb_sm (fun j => if c i j = true then v i * w (ix i j) else 0) b) a := by
  have h1 : ∀ m, m < K → fb_sm (fun i => fb_sm (fun j => if (c i j && decide (ix i j = m)) = true then v i else 0) b) a * w m = fb_sm (fun i => fb_sm (fun j => (if (c i j && decide (ix i j = m)) = true then v i else 0) * w m) b) a := fun m _ => by
    rw [dz_sm_mul]
    exact fb_sm_cong (fun i _ => dz_sm_mul _ _ _)
  rw [fb_sm_cong h1, dz_sm_comm (fun m i => fb_sm (fun j => (if (c i j && decide (ix i j = m)) = true then v i else 0) * w m) b)]
  refine fb_sm_cong (fun i hi => ?_)
  rw [dz_sm_comm (fun m j => (if (c i j && decide (ix i j = m)) = true then v i else 0) * w m)]
  refine fb_sm_cong (fun j hj => ?_)
  by_cases hc : c i j = true
  · rw [if_pos hc, dz_sm_one _ (hx i j hi hj hc) (fun m _ hm => by simp [Ne.symm hm])]
    simp [hc]
  · rw [if_neg hc]
    have h0 : ∀ m, m < K → (if (c i j && decide (ix i j = m)) = true then v i else 0) * w m = 0 := fun m _ => by simp [hc]
    rw [fb_sm_cong h0, fb_sm_const]; omega
/-- best steps, in numbers -/
noncomputable def sg_bb (s : dz_Sg) (p m d : Nat) : Bool := dz_B (sg_best s p d (m / 11) (m % 11))
def sg_mx (m d : Nat) : Nat := sg_nx (m / 11) d * 11 + d
noncomputable def sg_Ld (s : dz_Sg) : Nat → Nat → Nat
  | 0, m => if m = 10 then 1 else 0
  | p + 1, m => fb_sm (fun i => fb_sm (fun d => if (sg_bb s p i d && decide (sg_mx i d = m)) = true then sg_Ld s p i else 0) 11) (2 ^ sg_n s * 11)
noncomputable def sg_Mm (s : dz_Sg) (p m : Nat) : Nat := sg_M s p (m / 11) (m % 11)
noncomputable def sg_US (s : dz_Sg) (p d : Nat) : Nat := fb_sm (fun i => if sg_bb s p i d = true then sg_Ld s p i * sg_Mm s (p + 1) (sg_mx i d) else 0) (2 ^ sg_n s * 11)
theorem sg_mx_lt {s : dz_Sg} {p i d : Nat} (hi : i < 2 ^ sg_n s * 11) (hd : d < 11) (h : sg_bb s p i d = true) : sg_mx i d < 2 ^ sg_n s * 11 := by
  have hb := dz_Bt.mp h
  have hu : i / 11 < 2 ^ sg_n s := by omega
  have := sg_nx_lt hu hb.1
  unfold sg_mx; omega
theorem sg_mx_d {i d : Nat} (hd : d < 11) : sg_mx i d / 11 = sg_nx (i / 11) d ∧ sg_mx i d % 11 = d := by
  unfold sg_mx; omega
theorem sg_Ld_ok {s : dz_Sg} (h0 : ¬ sg_L s 0 0 10 = 1000) : ∀ (p m : Nat), 0 < sg_Ld s p m → sg_vl s (m / 11) (m % 11) ∧ ¬ sg_L s p (m / 11) (m % 11) = 1000
  | 0, m, h => by
    unfold sg_Ld at h
    split at h
    · rename_i e; subst e; exact ⟨Or.inl rfl, h0⟩
    · omega
  | p + 1, m, h => by
    unfold sg_Ld at h
    obtain ⟨i, hi, h⟩ := dz_sm_pos.mp h
    obtain ⟨d, hd, h⟩ := dz_sm_pos.mp h
    split at h
    · rename_i e
      simp only [Bool.and_eq_true, decide_eq_true_eq] at e
      obtain ⟨e1, rfl⟩ := e
      have hb := dz_Bt.mp e1
      rw [(sg_mx_d hd).1, (sg_mx_d hd).2]
      exact ⟨sg_vl_nx hb.1, hb.2.2.1⟩
    · omega
/-- the best ways from a state: by the next item -/
theorem sg_M_rec {s : dz_Sg} {p u l : Nat} (h8 : sg_p s ≤ 8) (hp : p < sg_p s) (hv : sg_vl s u l) (h : ¬ sg_L s p u l = 1000) : sg_M s p u l = fb_sm (fun d => if dz_B (sg_best s p d u l) = true then sg_M s (p + 1) (sg_nx u d) d else 0) 11 := by
  obtain ⟨r, hr⟩ : ∃ r, sg_p s = p + (r + 1) := ⟨sg_p s - p - 1, by omega⟩
  have er : sg_p s - p = r + 1 := by omega
  have er2 : sg_p s - (r + 1) = p := by omega
  have hL := sg_L_v (p := p) (Or.inr hv)
  have hM := sg_M_v (p := p) (Or.inr hv)
  rw [er] at hL hM
  rw [hM, dz_no_s (by rw [← hL]; exact h)]
  rcases dz_lo_c (sg_C s (r + 1) u l) with q | q
  · exact absurd (hL.trans q.1) h
  · obtain ⟨q1, q2, q3⟩ := q
    rw [sg_C_succ]
    refine fb_sm_cong (fun d hd => ?_)
    have hge : ∀ k, k < dz_lo (sg_C s (r + 1) u l) → sg_E s r u l d k = 0 := fun k hk => by
      have h0 := q3 k hk
      rw [sg_C_succ] at h0
      exact fb_sm_zero h0 d hd
    by_cases hok : sg_ok s (sg_p s - (r + 1)) d u l = true
    · obtain ⟨k1, k2⟩ := dz_Bt.mp hok
      obtain ⟨f1, f2⟩ := fi_e hr h8 k1 hok
      rw [er2] at k2
      by_cases hb : sg_best s p d u l
      · rw [if_pos (dz_Bt.mpr hb)]
        have hne := hb.2.2.1
        rw [← (f2 hne).2, dz_no_s (by rw [(f2 hne).1, hb.2.2.2]; exact h)]
        rw [(f2 hne).1, hb.2.2.2, hL]
      · rw [if_neg (fun z => hb (dz_Bt.mp z))]
        rcases dz_lo_c (sg_E s r u l d) with w | w
        · exact w.2 _ q1
        · refine w.2.2 _ ?_
          rcases Nat.lt_or_ge (dz_lo (sg_C s (r + 1) u l)) (dz_lo (sg_E s r u l d)) with z | z
          · exact z
          · exfalso
            have hle : dz_lo (sg_C s (r + 1) u l) ≤ dz_lo (sg_E s r u l d) := by
              rcases Nat.lt_or_ge (dz_lo (sg_E s r u l d)) (dz_lo (sg_C s (r + 1) u l)) with y | y
              · exact absurd (hge _ y) w.2.1
              · exact y
            have hne : ¬ sg_L s (p + 1) (sg_nx u d) d = 1000 := fun y => by
              have := f1 y
              omega
            exact hb ⟨k1, k2, hne, by rw [← (f2 hne).1, hL]; omega⟩
    · have hb : ¬ sg_best s p d u l := fun z => hok (dz_Bt.mpr ⟨z.1, by rw [er2]; exact z.2.1⟩)
      rw [if_neg (fun z => hb (dz_Bt.mp z))]
      unfold sg_E
      rw [if_neg hok]
theorem sg_flow {s : dz_Sg} (h8 : sg_p s ≤ 8) (h0 : ¬ sg_L s 0 0 10 = 1000) {p : Nat} (hp : p < sg_p s) :
    fb_sm (fun m => sg_Ld s p m * sg_Mm s p m) (2 ^ sg_n s * 11) = fb_sm (fun i => fb_sm (fun d => if sg_bb s p i d = true then sg_Ld s p i * sg_Mm s (p + 1) (sg_mx i d) else 0) 11) (2 ^ sg_n s * 11) := by
  refine fb_sm_cong (fun m hm => ?_)
  rcases Nat.eq_zero_or_pos (sg_Ld s p m) with z | z
  · rw [z, Nat.zero_mul]
    have hz : ∀ d, d < 11 → (if sg_bb s p m d = true then 0 * sg_Mm s (p + 1) (sg_mx m d) else 0) = 0 := fun d _ => by split <;> simp
    rw [fb_sm_cong hz, fb_sm_const]
  · obtain ⟨v1, v2⟩ := sg_Ld_ok h0 p m z
    have hM : sg_Mm s p m = fb_sm (fun d => if dz_B (sg_best s p d (m / 11) (m % 11)) = true then sg_M s (p + 1) (sg_nx (m / 11) d) d else 0) 11 := sg_M_rec h8 hp v1 v2
    rw [hM, Nat.mul_comm, dz_sm_mul]
    refine fb_sm_cong (fun d hd => ?_)
    show (if sg_bb s p m d = true then _ else 0) * _ = _
    by_cases hb : sg_bb s p m d = true
    · rw [if_pos hb, if_pos hb, Nat.mul_comm]
      unfold sg_Mm
      rw [(sg_mx_d hd).1, (sg_mx_d hd).2]
    · rw [if_neg hb, if_neg hb, Nat.zero_mul]
theorem sg_total {s : dz_Sg} (h8 : sg_p s ≤ 8) (h0 : ¬ sg_L s 0 0 10 = 1000) : ∀ p, p ≤ sg_p s → fb_sm (fun m => sg_Ld s p m * sg_Mm s p m) (2 ^ sg_n s * 11) = sg_M s 0 0 10
  | 0, _ => by
    rw [dz_sm_one _ (k := 10) (by have := Nat.two_pow_pos (sg_n s); omega) (fun j _ hj => by unfold sg_Ld; rw [if_neg hj, Nat.zero_mul])]
    show (if 10 = 10 then 1 else 0) * sg_M s 0 (10 / 11) (10 % 11) = _
    rw [if_pos rfl, Nat.one_mul]
  | p + 1, hp => by
    have ih := sg_total h8 h0 p (by omega)
    rw [sg_flow h8 h0 (by omega)] at ih
    rw [← ih]
    exact dz_flow (2 ^ sg_n s * 11) (2 ^ sg_n s * 11) 11 (sg_bb s p) sg_mx (sg_Ld s p) (sg_Mm s (p + 1)) (fun i j hi hj hc => sg_mx_lt hi hj hc)
theorem sg_US_total {s : dz_Sg} (h8 : sg_p s ≤ 8) (h0 : ¬ sg_L s 0 0 10 = 1000) {p : Nat} (hp : p < sg_p s) : fb_sm (fun d => sg_US s p d) 11 = sg_M s 0 0 10 := by
  rw [← sg_total h8 h0 p (by omega), sg_flow h8 h0 hp]
  exact (dz_sm_comm (fun i d => if sg_bb s p i d = true then sg_Ld s p i * sg_Mm s (p + 1) (sg_mx i d) else 0) (2 ^ sg_n s * 11) 11).symm
theorem sg_Mm_pos {s : dz_Sg} {p m : Nat} (hv : p = sg_p s ∨ sg_vl s (m / 11) (m % 11)) (h : ¬ sg_L s p (m / 11) (m % 11) = 1000) : 0 < sg_Mm s p m := by
  unfold sg_Mm
  rw [sg_M_v hv]
  rw [sg_L_v hv] at h
  exact dz_no_pos h
theorem sg_Ld_le {s : dz_Sg} (h8 : sg_p s ≤ 8) (h0 : ¬ sg_L s 0 0 10 = 1000) {p m : Nat} (hp : p ≤ sg_p s) (hm : m < 2 ^ sg_n s * 11) : sg_Ld s p m ≤ 11 ^ 8 := by
  rcases Nat.eq_zero_or_pos (sg_Ld s p m) with z | z
  · rw [z]; exact Nat.zero_le _
  · obtain ⟨v1, v2⟩ := sg_Ld_ok h0 p m z
    have h1 := sg_Mm_pos (p := p) (Or.inr v1) v2
    have h2 := fb_sm_part (fun m => sg_Ld s p m * sg_Mm s p m) hm
    rw [sg_total h8 h0 p hp] at h2
    have h3 := sg_M_le s 0 0 10 h8
    have h4 : sg_Ld s p m ≤ sg_Ld s p m * sg_Mm s p m := Nat.le_mul_of_pos_right _ h1
    omega
theorem sg_US_le {s : dz_Sg} (h8 : sg_p s ≤ 8) (h0 : ¬ sg_L s 0 0 10 = 1000) {p d : Nat} (hp : p < sg_p s) (hd : d < 11) : sg_US s p d ≤ 11 ^ 8 := by
  have h2 := fb_sm_part (fun d => sg_US s p d) hd
  rw [sg_US_total h8 h0 hp] at h2
  have h3 := sg_M_le s 0 0 10 h8
  omega
/-- an item that some best way has at a place -/
def sg_held (s : dz_Sg) (p d : Nat) : Prop := ∃ i, i < 2 ^ sg_n s * 11 ∧ 0 < sg_Ld s p i ∧ sg_best s p d (i / 11) (i % 11)
theorem sg_US_pos {s : dz_Sg} {p d : Nat} (hd : d < 11) : 0 < sg_US s p d ↔ sg_held s p d := by
  unfold sg_US sg_held
  rw [dz_sm_pos]
  constructor
  · rintro ⟨i, hi, h⟩
    split at h
    · rename_i e
      refine ⟨i, hi, Nat.pos_of_ne_zero (fun z => by rw [z, Nat.zero_mul] at h; omega), dz_Bt.mp e⟩
    · omega
  · rintro ⟨i, hi, h1, h2⟩
    refine ⟨i, hi, ?_⟩
    have hb : sg_bb s p i d = true := dz_Bt.mpr h2
    rw [if_pos hb]
    refine Nat.mul_pos h1 (sg_Mm_pos ?_ ?_)
    · rw [(sg_mx_d hd).1, (sg_mx_d hd).2]; exact Or.inr (sg_vl_nx h2.1)
    · rw [(sg_mx_d hd).1, (sg_mx_d hd).2]; exact h2.2.2.1
/-- all best ways have d there, if some has it and none has another -/
theorem sg_US_all {s : dz_Sg} (h8 : sg_p s ≤ 8) (h0 : ¬ sg_L s 0 0 10 = 1000) {p d : Nat} (hp : p < sg_p s) (hd : d < 11) : sg_US s p d = sg_M s 0 0 10 ↔ ∀ j, j < 11 → (sg_held s p j ↔ j = d) := by
  have ht := sg_US_total h8 h0 hp
  have hpos : 0 < sg_M s 0 0 10 := by
    have := sg_Mm_pos (s := s) (p := 0) (m := 10) (Or.inr (Or.inl rfl)) h0
    exact this
  constructor
  · intro h j hj
    constructor
    · intro hh
      exact Classical.byContradiction fun hne => by
        have h1 := (sg_US_pos hj).mpr hh
        have hu := fb_sm_upd (fun d => sg_US s p d) 0 hj
        have hdd := fb_sm_part (fun k => if k = j then 0 else sg_US s p k) hd
        simp only [Ne.symm hne, if_neg, not_false_eq_true] at hdd
        rw [ht] at hu
        omega
    · rintro rfl
      exact (sg_US_pos hd).mp (by omega)
  · intro h
    rw [← ht]
    exact (dz_sm_one (fun d => sg_US s p d) hd (fun j hj hne => by
      rcases Nat.eq_zero_or_pos (sg_US s p j) with z | z
      · exact z
      · exact absurd ((h j hj).mp ((sg_US_pos hj).mp z)) hne)).symm
end
