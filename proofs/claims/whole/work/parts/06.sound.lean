theorem dz_lookup_mem2 {l : List (Nat × Nat)} {k v : Nat} (h : l.lookup k = some v) : (k, v) ∈ l := by
  induction l with
  | nil => cases h
  | cons q l ih =>
    obtain ⟨a, w⟩ := q
    rw [List.lookup_cons] at h
    by_cases hk : k == a
    · rw [hk] at h
      have : k = a := by simpa using hk
      subst this
      cases h
      exact List.mem_cons_self
    · have hk' : (k == a) = false := by simpa using hk
      rw [hk'] at h
      exact List.mem_cons_of_mem _ (ih h)
theorem dz_w_math : Cond.initialized "java/lang/Math" ∈ dz_WS := (dz_t1 (i := 8) rfl rfl)
theorem dz_w_sys : Cond.initialized "java/lang/System" ∈ dz_WS := (dz_t1 (i := 7) rfl rfl)
theorem dz_w_cpy_n : Cond.native arraycopyName ∈ dz_WS := (dz_t1 (i := 195) rfl rfl)
theorem dz_w_cpy_s : Cond.static arraycopyName ∈ dz_WS := (dz_t1 (i := 194) rfl rfl)
theorem dz_w_abs_s : Cond.static Lib.Math.abs.name ∈ dz_WS := (dz_t1 (i := 229) rfl rfl)
theorem dz_w_abs_c : Cond.code Lib.Math.abs.name Lib.Math.abs.code 1 (some .int) ∈ dz_WS := (dz_t1 (i := 230) rfl rfl)
theorem dz_w_max_s : Cond.static Lib.Math.max.name ∈ dz_WS := (dz_t2 (i := 90) rfl rfl)
theorem dz_w_max_c : Cond.code Lib.Math.max.name Lib.Math.max.code 2 (some .int) ∈ dz_WS := (dz_t2 (i := 91) rfl rfl)
theorem dz_w_min_s : Cond.static Lib.Math.min.name ∈ dz_WS := (dz_t2 (i := 87) rfl rfl)
theorem dz_w_min_c : Cond.code Lib.Math.min.name Lib.Math.min.code 2 (some .int) ∈ dz_WS := (dz_t2 (i := 88) rfl rfl)
theorem dz_nat_w : 8 + (nativeFrameWords "java/lang/System" "arraycopy" 5 + 11) ≤ 40 := by decide
theorem dz_j1_42 : Cond.methodLink (dz_R 1) 42 Lib.Math.abs.name ∈ dz_WS := (dz_t1 (i := 228) rfl rfl)
theorem dz_j4_186 : Cond.methodLink (dz_R 4) 186 Lib.Math.abs.name ∈ dz_WS := (dz_t2 (i := 27) rfl rfl)
theorem dz_j5_118 : Cond.methodLink (dz_R 5) 118 Lib.Math.abs.name ∈ dz_WS := (dz_t4 (i := 24) rfl rfl)
theorem dz_j2_56 : Cond.methodLink (dz_R 2) 56 Lib.Math.min.name ∈ dz_WS := (dz_t2 (i := 86) rfl rfl)
theorem dz_j2_62 : Cond.methodLink (dz_R 2) 62 Lib.Math.max.name ∈ dz_WS := (dz_t2 (i := 89) rfl rfl)
theorem dz_j1_36 : Cond.methodLink (dz_R 1) 36 arraycopyName ∈ dz_WS := (dz_t1 (i := 193) rfl rfl)
theorem dz_kX1_71 : Cond.constant RX1 71 65535 ∈ dz_WS := (dz_t2 (i := 0) rfl rfl)
theorem dz_kX4_176 : Cond.constant RX4 176 65535 ∈ dz_WS := (dz_t1 (i := 182) rfl rfl)
theorem dz_kX4_66 : Cond.constant RX4 66 100000 ∈ dz_WS := (dz_t1 (i := 183) rfl rfl)
theorem dz_kX5_116 : Cond.constant RX5 116 65535 ∈ dz_WS := (dz_t4 (i := 2) rfl rfl)
theorem dz_kX5_117 : Cond.constant RX5 117 100000 ∈ dz_WS := (dz_t4 (i := 3) rfl rfl)
theorem dz_kX5_72 : Cond.constant RX5 72 101376 ∈ dz_WS := (dz_t3 (i := 129) rfl rfl)
theorem dz_kJ6_265 : Cond.constant RJ6 265 1431655765 ∈ dz_WS := (dz_t3 (i := 47) rfl rfl)
theorem dz_kJ6_266 : Cond.constant RJ6 266 858993459 ∈ dz_WS := (dz_t3 (i := 48) rfl rfl)
theorem dz_kJ6_267 : Cond.constant RJ6 267 252645135 ∈ dz_WS := (dz_t3 (i := 49) rfl rfl)
/-! SOUNDNESS of a step -/
section DZS
variable {π : dz_Pl} {Λ : Nat → dz_Ds} {N nL own F Lc : Nat} {A : Nat → Prop} {p : Program} {e : Env} {R : Room} {s : State} {m : MethodId} {args : Array Value} {below : List Frame} {meth : Method} {c : Code} {cells slots : Nat} {Q : State → Prop} {cc : ByteArray}
theorem dz_aald {H : Heap} {locs : List Loc} {lsA : Array Slot} {rest : List Value} {pc a : Nat} {D : va_G} {cl : List vw_C} {tys : List (ClassId × FieldType)} {ws : va_W} (hexec : p.tables.exec = Jvm.exec) (hb : c.code = cc) (hK : va_K D cl tys s) (hP : va_P D cl ws H) (q0 t0 : Nat) {cA : ClassId} {ty : FieldType} {n : Nat} {f : Nat → Option Nat} (ha : ws[q0]? = some (a, .inl (cA, n, .inr (.inr (.inr (.inr f)))))) (ht : tys[t0]? = some (cA, .array ty)) {i : Int32} (hin : vp_in i n) (hdg : decode cc pc = .ok (.aaload, 1))
    (kk : W p π.1 e R s m args below meth c H locs cells slots Q (F0 m (pc + 1) lsA (va_rf (f i.toNatClampNeg) :: rest))) : W p π.1 e R s m args below meth c H locs cells slots Q (F0 m pc lsA (.int i :: .ref a :: rest)) := by
  have hlt : i.toNatClampNeg < n := Nat.not_le.mp fun q => hin (Or.inr q)
  exact W.aald (v := va_rf (f i.toNatClampNeg)) (ty := .array ty) hexec hb (hP q0 _ ha) ((hK.2 t0 _ ht).1 n (fun j => va_rf (f j))) rfl (fun q => by cases q) (by show ¬ (i < 0 ∨ (arrV _ _ _).slots.size ≤ _); rw [arrV_size]; exact hin) (by show (arrV _ _ _).slots[_]? = _; rw [arrV_read _ _ hlt]) rfl rfl hdg kk
theorem dz_mapIdx_set (ad : Nat → Nat) (fs : List (Option (Option Nat))) (r r' : Nat → Int32) (q q' : Nat → Int64) (k : Nat) (v : Value) (kd : Option (Option Nat)) (hk : fs[k]? = some kd) (hv : v = dz_fv ad r' q' k kd) (ho : ∀ j, j ≠ k → r' j = r j ∧ q' j = q j) : (fs.mapIdx (fun k f => dz_fv ad r q k f)).set k v = fs.mapIdx (fun k f => dz_fv ad r' q' k f) := by
  apply List.ext_getElem?
  intro j
  by_cases hj : j = k
  · subst hj
    have hl := (List.getElem?_eq_some_iff.mp hk).1
    rw [List.getElem?_set_self (by simpa using hl), List.getElem?_mapIdx, hk, hv]
    rfl
  · rw [List.getElem?_set_ne (Ne.symm hj), List.getElem?_mapIdx, List.getElem?_mapIdx]
    cases fs[j]? with
    | none => rfl
    | some f =>
      obtain ⟨h1, h2⟩ := ho j hj
      rcases f with _ | _ | a <;> simp [dz_fv, h1, h2]
set_option maxHeartbeats 4000000 in
theorem dz_clo (X : dz_Ctx π N own nL F Lc cc A p R s m args c cells slots) {pc n : Nat} {i : Instr} {I : dz_MI} {J : dz_MJ} {ls : dz_LS} {st : List dz_AV} (d : decode cc pc = .ok (i, n)) (h : dz_wp Λ N own nL F Lc i n pc I J ls st (dz_W π Λ N nL A p e R s m args below meth c cells slots Q)) : dz_W π Λ N nL A p e R s m args below meth c cells slots Q pc I J ls st := by
  obtain ⟨hx, hb, hml, hown, hts, hK, hA, hinj, hF, hL, hc, hs, hnw⟩ := X
  intro H locs lsA hP hS hl
  have hD : va_D A (dz_wl π Λ N I J) := dz_wl_D hinj hA
  have hsz : c.maxLocals = lsA.size := by rw [hml]; exact hl.1.symm
  cases i
  case iconst z => 
    obtain ⟨rfl, h⟩ := h
    exact lv_iconst hx hb d rfl (h H locs lsA hP hS hl)
  case bipush z => 
    obtain ⟨rfl, h⟩ := h
    exact lv_bipush hx hb d rfl (h H locs lsA hP hS hl)
  case sipush z => 
    obtain ⟨rfl, h⟩ := h
    exact lv_sipush hx hb d rfl (h H locs lsA hP hS hl)
  case ldc k => 
    obtain ⟨rfl, v, hw, h⟩ := h
    exact lv_ldc hx hb hown (hts _ hw) d (h H locs lsA hP hS hl)
  case lconst z => 
    obtain ⟨rfl, h⟩ := h
    exact lv_lconst hx hb d rfl (h H locs lsA hP hS hl)
  case iload k => 
    obtain ⟨rfl, v, hk, h⟩ := h
    exact lv_iload hx hb d (dz_lk hl hk) (h H locs lsA hP hS hl)
  case iload_n k => 
    obtain ⟨rfl, v, hk, h⟩ := h
    exact lv_iload_n hx hb d rfl (dz_lk hl hk) (h H locs lsA hP hS hl)
  case lload k => 
    obtain ⟨rfl, v, hk, h⟩ := h
    exact lv_lload hx hb d (dz_lk hl hk) (h H locs lsA hP hS hl)
  case lload_n k => 
    obtain ⟨rfl, v, hk, h⟩ := h
    exact lv_lload_n hx hb d rfl (dz_lk hl hk) (h H locs lsA hP hS hl)
  case aload k => 
    obtain ⟨rfl, v, hk, h⟩ := h
    exact lv_aload hx hb d (dz_lk hl hk) (h H locs lsA hP hS hl)
  case aload_n k => 
    obtain ⟨rfl, v, hk, h⟩ := h
    exact lv_aload_n hx hb d rfl (dz_lk hl hk) (h H locs lsA hP hS hl)
  case istore k => 
    obtain ⟨rfl, hn, v, s2, rfl, h⟩ := h
    exact lv_istore hx hb d hl hn (dz_st1 π.2.2.2 ls k (.inl v) rfl) (fun ls2 hl2 => h H locs ls2 hP hS hl2)
  case istore_n k => 
    obtain ⟨rfl, hn, v, s2, rfl, h⟩ := h
    exact lv_istore_n hx hb d rfl hl hn (dz_st1 π.2.2.2 ls k.val (.inl v) rfl) (fun ls2 hl2 => h H locs ls2 hP hS hl2)
  case astore k => 
    obtain ⟨rfl, hn, v, s2, rfl, h⟩ := h
    exact lv_astore hx hb d hl hn (dz_st1 π.2.2.2 ls k (.inr (.inr v)) rfl) (fun ls2 hl2 => h H locs ls2 hP hS hl2)
  case astore_n k => 
    obtain ⟨rfl, hn, v, s2, rfl, h⟩ := h
    exact lv_astore_n hx hb d rfl hl hn (dz_st1 π.2.2.2 ls k.val (.inr (.inr v)) rfl) (fun ls2 hl2 => h H locs ls2 hP hS hl2)
  case lstore k => 
    obtain ⟨rfl, hn, v, s2, rfl, h⟩ := h
    exact lv_lstore hx hb d hl hn (dz_st2 π.2.2.2 ls k (.inr (.inl v)) rfl) (fun ls2 hl2 => h H locs ls2 hP hS hl2)
  case iinc k z => 
    obtain ⟨rfl, hn, v, hk, h⟩ := h
    obtain ⟨j, hj⟩ := dz_lki (ad := π.2.2.2) hk
    exact lv_iinc hx hb d hl hj rfl hn (dz_st1 π.2.2.2 ls k (.inl (v + Int32.ofInt z)) rfl) (fun ls2 hl2 => h H locs ls2 hP hS hl2)
  case iadd => 
    obtain ⟨rfl, x, y, s2, rfl, h⟩ := h
    exact lv_iadd hx hb d (h H locs lsA hP hS hl)
  case isub => 
    obtain ⟨rfl, x, y, s2, rfl, h⟩ := h
    exact lv_isub hx hb d (h H locs lsA hP hS hl)
  case imul => 
    obtain ⟨rfl, x, y, s2, rfl, h⟩ := h
    exact lv_imul hx hb d (h H locs lsA hP hS hl)
  case iand => 
    obtain ⟨rfl, x, y, s2, rfl, h⟩ := h
    exact lv_iand hx hb d (h H locs lsA hP hS hl)
  case ior => 
    obtain ⟨rfl, x, y, s2, rfl, h⟩ := h
    exact lv_ior hx hb d (h H locs lsA hP hS hl)
  case ixor => 
    obtain ⟨rfl, x, y, s2, rfl, h⟩ := h
    exact lv_ixor hx hb d (h H locs lsA hP hS hl)
  case ishl => 
    obtain ⟨rfl, x, y, s2, rfl, h⟩ := h
    exact lv_ishl hx hb d (h H locs lsA hP hS hl)
  case ishr => 
    obtain ⟨rfl, x, y, s2, rfl, h⟩ := h
    exact lv_ishr hx hb d (h H locs lsA hP hS hl)
  case ladd => 
    obtain ⟨rfl, x, y, s2, rfl, h⟩ := h
    exact lv_ladd hx hb d (h H locs lsA hP hS hl)
  case lmul => 
    obtain ⟨rfl, x, y, s2, rfl, h⟩ := h
    exact lv_lmul hx hb d (h H locs lsA hP hS hl)
  case lcmp => 
    obtain ⟨rfl, x, y, s2, rfl, h⟩ := h
    exact W.lcmp hx hb d (h H locs lsA hP hS hl)
  case iushr => 
    obtain ⟨rfl, x, y, s2, rfl, h⟩ := h
    exact lv_iushr hx hb d rfl (h H locs lsA hP hS hl)
  case ldc_w k => 
    obtain ⟨rfl, v, hw, h⟩ := h
    exact lv_ldcw hx hb hown (hts _ hw) d (h H locs lsA hP hS hl)
  case idiv => 
    obtain ⟨rfl, x, y, s2, rfl, hy, h⟩ := h
    exact lv_idiv hx hb d hy (h H locs lsA hP hS hl)
  case irem => 
    obtain ⟨rfl, x, y, s2, rfl, hy, h⟩ := h
    exact lv_irem hx hb d hy (h H locs lsA hP hS hl)
  case i2l => 
    obtain ⟨rfl, x, s2, rfl, h⟩ := h
    exact lv_i2l hx hb d rfl (h H locs lsA hP hS hl)
  case dup => 
    obtain ⟨rfl, x, s2, rfl, hx1, h⟩ := h
    exact lv_dup hx hb d (by rcases x with x | x | a <;> first | rfl | cases hx1) (h H locs lsA hP hS hl)
  case dup2 => 
    obtain ⟨rfl, x, y, s2, rfl, hx1, hy1, h⟩ := h
    exact lv_dup2_11 hx hb d (by rcases x with x | x | a <;> first | rfl | cases hx1) (by rcases y with x | x | a <;> first | rfl | cases hy1) (h H locs lsA hP hS hl)
  case ifCond k off => 
    obtain ⟨rfl, x, s2, tgt, rfl, ht, h1, h2⟩ := h
    cases k
    case eq => exact lv_if_eq hx hb d ht (fun q => h1 q H locs lsA hP hS hl) (fun q => h2 q H locs lsA hP hS hl)
    case ne => exact lv_if_ne hx hb d ht (fun q => h1 q H locs lsA hP hS hl) (fun q => h2 (fun z => z q) H locs lsA hP hS hl)
    case lt => exact lv_if_lt hx hb d ht (fun q => h1 q H locs lsA hP hS hl) (fun q => h2 q H locs lsA hP hS hl)
    case ge => exact lv_if_ge hx hb d ht (fun q => h1 q H locs lsA hP hS hl) (fun q => h2 q H locs lsA hP hS hl)
    case gt => exact lv_if_gt hx hb d ht (fun q => h1 q H locs lsA hP hS hl) (fun q => h2 q H locs lsA hP hS hl)
    case le => exact lv_if_le hx hb d ht (fun q => h1 q H locs lsA hP hS hl) (fun q => h2 q H locs lsA hP hS hl)
  case if_icmp k off => 
    obtain ⟨rfl, x, y, s2, tgt, rfl, ht, h1, h2⟩ := h
    cases k
    case eq => exact lv_icmp_eq hx hb d ht (fun q => h1 q H locs lsA hP hS hl) (fun q => h2 q H locs lsA hP hS hl)
    case ne => exact lv_icmp_ne hx hb d ht (fun q => h1 q H locs lsA hP hS hl) (fun q => h2 (fun z => z q) H locs lsA hP hS hl)
    case lt => exact lv_icmp_lt hx hb d ht (fun q => h1 q H locs lsA hP hS hl) (fun q => h2 q H locs lsA hP hS hl)
    case ge => exact lv_icmp_ge hx hb d ht (fun q => h1 q H locs lsA hP hS hl) (fun q => h2 q H locs lsA hP hS hl)
    case gt => exact lv_icmp_gt hx hb d ht (fun q => h1 q H locs lsA hP hS hl) (fun q => h2 q H locs lsA hP hS hl)
    case le => exact lv_icmp_le hx hb d ht (fun q => h1 q H locs lsA hP hS hl) (fun q => h2 q H locs lsA hP hS hl)
  case goto off => 
    obtain ⟨rfl, tgt, ht, h⟩ := h
    exact lv_goto hx hb d ht (h H locs lsA hP hS hl)
  case tableswitch dflt lo hi offs => 
    obtain ⟨x, s2, rfl, h1, h2⟩ := h
    by_cases q1 : x.toInt < lo
    · obtain ⟨tgt, ht, h⟩ := h1 (Or.inl q1)
      exact lv_tableOut hx hb d (Or.inl q1) ht (h H locs lsA hP hS hl)
    · by_cases q2 : hi < x.toInt
      · obtain ⟨tgt, ht, h⟩ := h1 (Or.inr q2)
        exact lv_tableOut hx hb d (Or.inr q2) ht (h H locs lsA hP hS hl)
      · obtain ⟨off, tgt, ho, ht, h⟩ := h2 q1 q2
        exact lv_tableIn hx hb d q1 q2 ho ht (h H locs lsA hP hS hl)
  case getfield k => 
    obtain ⟨rfl, a, s2, fs, sl, kd, rfl, ho, ha, hLa, hk, hkd, h⟩ := h
    obtain ⟨c1, c2, c3, c4⟩ := dz_cf own ho
    have hq := c4 (k, sl) (dz_lookup_mem2 hk)
    have hcell : (dz_wl π Λ N I J)[a]? = some (π.2.2.2 a, .inr (own, fs.mapIdx (fun k f => dz_fv π.2.2.2 (I a) (J a) k f))) := by rw [dz_wl_get ha, hLa]; rfl
    refine va_get (ws := dz_wl π Λ N I J) (v := dz_val π.2.2.2 (dz_rd I J a sl kd)) hx hb hts c1 hown hK hP a hcell (dz_cl own ho) sl hq.1 (hts _ hq.2) (fun _ h9 => h9) ?_ d (h H locs lsA hP hS hl)
    rw [List.getElem?_mapIdx, hkd]
    rcases kd with _ | _ | b <;> rfl
  case putfield k => 
    obtain ⟨rfl, a, s2, fs, sl, ho, ha, hLa, hk, hfin, h⟩ := h
    obtain ⟨c1, c2, c3, c4⟩ := dz_cf own ho
    have hq := c4 (k, sl) (dz_lookup_mem2 hk)
    have hcell : (dz_wl π Λ N I J)[a]? = some (π.2.2.2 a, .inr (own, fs.mapIdx (fun k f => dz_fv π.2.2.2 (I a) (J a) k f))) := by rw [dz_wl_get ha, hLa]; rfl
    rcases h with ⟨x, rfl, hkd, hn, hft, h⟩ | ⟨x, rfl, hkd, hty, h⟩
    · have hlen : sl < (fs.mapIdx (fun k f => dz_fv π.2.2.2 (I a) (J a) k f)).length := by rw [List.length_mapIdx]; exact (List.getElem?_eq_some_iff.mp hkd).1
      refine va_put (ws := dz_wl π Λ N I J) (v := .int x) (ty := dz_ty own sl) hx hb hts c1 (dz_ty own) c2 c3 hown hK hP hD hS a hcell (dz_cl own ho) sl hq.1 (hts _ hq.2) (fun _ h9 => h9) hfin (c2 sl hq.1) hn hft hlen d (fun H1 locs1 hP1 hD1 hS1 => ?_)
      rw [dz_wl_set (I' := dz_wi I a sl x) (J' := J) (by rw [hLa, dz_wi_row]; exact congrArg (fun z => (Sum.inr (own, z) : va_E)) (dz_mapIdx_set _ _ _ _ _ _ _ _ _ hkd (by simp [dz_fv, upd]) (fun j hj => ⟨by simp [upd, hj], rfl⟩))) (fun b hb2 => ⟨dz_wi_off I sl x hb2, rfl⟩)] at hP1
      exact h H1 locs1 lsA hP1 hS1 hl
    · have hlen : sl < (fs.mapIdx (fun k f => dz_fv π.2.2.2 (I a) (J a) k f)).length := by rw [List.length_mapIdx]; exact (List.getElem?_eq_some_iff.mp hkd).1
      refine va_put (ws := dz_wl π Λ N I J) (v := .long x) (ty := dz_ty own sl) hx hb hts c1 (dz_ty own) c2 c3 hown hK hP hD hS a hcell (dz_cl own ho) sl hq.1 (hts _ hq.2) (fun _ h9 => h9) hfin (c2 sl hq.1) (by rw [hty]; rfl) (by rw [hty]; rfl) hlen d (fun H1 locs1 hP1 hD1 hS1 => ?_)
      rw [dz_wl_set (I' := I) (J' := dz_wj J a sl x) (by rw [hLa, dz_wj_row]; exact congrArg (fun z => (Sum.inr (own, z) : va_E)) (dz_mapIdx_set _ _ _ _ _ _ _ _ _ hkd (by simp [dz_fv, vp_updL]) (fun j hj => ⟨rfl, by simp [vp_updL, hj]⟩))) (fun b hb2 => ⟨rfl, dz_wj_off J sl x hb2⟩)] at hP1
      exact h H1 locs1 lsA hP1 hS1 hl
  case iaload => 
    obtain ⟨rfl, a, j, s2, L, b, rfl, ha, hLa, hin, h⟩ := h
    have hcell : (dz_wl π Λ N I J)[a]? = some (π.2.2.2 a, .inl (π.2.2.1 0, L, .inl (I a))) := by rw [dz_wl_get ha, hLa]; rfl
    exact va_iald hx hb hK hP a 0 hcell rfl hin d (h H locs lsA hP hS hl)
  case baload => 
    obtain ⟨rfl, a, j, s2, L, b, rfl, ha, hLa, hin, h⟩ := h
    have hcell : (dz_wl π Λ N I J)[a]? = some (π.2.2.2 a, .inl (π.2.2.1 2, L, .inl (I a))) := by rw [dz_wl_get ha, hLa]; rfl
    exact va_zald hx hb hK hP a 2 hcell rfl hin d (h H locs lsA hP hS hl)
  case laload => 
    obtain ⟨rfl, a, j, s2, L, b, rfl, ha, hLa, hin, h⟩ := h
    have hcell : (dz_wl π Λ N I J)[a]? = some (π.2.2.2 a, .inl (π.2.2.1 1, L, .inr (.inl (J a)))) := by rw [dz_wl_get ha, hLa]; rfl
    exact va_lald hx hb hK hP a 1 hcell rfl hin d (h H locs lsA hP hS hl)
  case aaload => 
    obtain ⟨rfl, a, j, s2, k, L, b, rfl, ha, hk2, hLa, hin, h⟩ := h
    have hcell : (dz_wl π Λ N I J)[a]? = some (π.2.2.2 a, .inl (π.2.2.1 (k + 3), L, .inr (.inr (.inr (.inr (fun i => if i < L then some (π.2.2.2 (b + i)) else none)))))) := by rw [dz_wl_get ha, hLa]; rfl
    have hlt : j.toNatClampNeg < L := Nat.not_le.mp fun q => hin (Or.inr q)
    have h3 := h H locs lsA hP hS hl
    have e3 : va_rf (if j.toNatClampNeg < L then some (π.2.2.2 (b + j.toNatClampNeg)) else none) = Value.ref (π.2.2.2 (b + j.toNatClampNeg)) := by rw [if_pos hlt]; rfl
    rcases (show k = 0 ∨ k = 1 by omega) with rfl | rfl
    · refine dz_aald (ty := .int) hx hb hK hP a 3 hcell rfl hin d ?_
      rw [e3]; exact h3
    · refine dz_aald (ty := .long) hx hb hK hP a 4 hcell rfl hin d ?_
      rw [e3]; exact h3
  case iastore => 
    obtain ⟨rfl, a, j, x, s2, L, b, rfl, ha, hLa, hin, h⟩ := h
    have hcell : (dz_wl π Λ N I J)[a]? = some (π.2.2.2 a, .inl (π.2.2.1 0, L, .inl (I a))) := by rw [dz_wl_get ha, hLa]; rfl
    refine va_iast hx hb hK hP hD hS a 0 hcell rfl hin d (fun H1 locs1 hP1 hD1 hS1 => ?_)
    rw [dz_wl_set (I' := dz_wi I a j.toNatClampNeg x) (J' := J) (by rw [hLa, dz_wi_row]; rfl) (fun b hb2 => ⟨dz_wi_off I _ x hb2, rfl⟩)] at hP1
    exact h H1 locs1 lsA hP1 hS1 hl
  case bastore => 
    obtain ⟨rfl, a, j, x, s2, L, b, rfl, ha, hLa, hin, hnr, h⟩ := h
    have hcell : (dz_wl π Λ N I J)[a]? = some (π.2.2.2 a, .inl (π.2.2.1 2, L, .inl (I a))) := by rw [dz_wl_get ha, hLa]; rfl
    refine va_zast hx hb hK hP hD hS a 2 hcell rfl hin d (fun H1 locs1 hP1 hD1 hS1 => ?_)
    rw [hnr] at hP1
    rw [dz_wl_set (I' := dz_wi I a j.toNatClampNeg x) (J' := J) (by rw [hLa, dz_wi_row]; rfl) (fun b hb2 => ⟨dz_wi_off I _ x hb2, rfl⟩)] at hP1
    exact h H1 locs1 lsA hP1 hS1 hl
  case lastore => 
    obtain ⟨rfl, a, j, x, s2, L, b, rfl, ha, hLa, hin, h⟩ := h
    have hcell : (dz_wl π Λ N I J)[a]? = some (π.2.2.2 a, .inl (π.2.2.1 1, L, .inr (.inl (J a)))) := by rw [dz_wl_get ha, hLa]; rfl
    refine va_last hx hb hK hP hD hS a 1 hcell rfl hin d (fun H1 locs1 hP1 hD1 hS1 => ?_)
    rw [dz_wl_set (I' := I) (J' := dz_wj J a j.toNatClampNeg x) (by rw [hLa, dz_wj_row]; rfl) (fun b hb2 => ⟨rfl, dz_wj_off J _ x hb2⟩)] at hP1
    exact h H1 locs1 lsA hP1 hS1 hl
  case invokestatic k => 
    obtain ⟨rfl, hF1, hL1, h⟩ := h
    have hf : 1 ≤ R.frames := by omega
    rcases h with ⟨hw, x, s2, rfl, hwd, h⟩ | ⟨hw, x, y, s2, rfl, hwd, h⟩ | ⟨hw, x, y, s2, rfl, hwd, h⟩ | ⟨hw, a, b, sp, dp, z, s2, L0, b0, L1, b1, rfl, hwd, ha, hb9, hLa, hLb, h1, h2, h3, h4, h5, h⟩
    · exact va_mabs hx hb hsz hown (hts _ hw) (hts _ dz_w_abs_s) (hts _ dz_w_math) (hts _ dz_w_abs_c) hf (by rw [dz_wd_eq]; omega) hc hs d (h H locs lsA hP hS hl)
    · exact va_mmax hx hb hsz hown (hts _ hw) (hts _ dz_w_max_s) (hts _ dz_w_math) (hts _ dz_w_max_c) hf (by rw [dz_wd_eq]; omega) hc hs d (h H locs lsA hP hS hl)
    · exact va_mmin hx hb hsz hown (hts _ hw) (hts _ dz_w_min_s) (hts _ dz_w_math) (hts _ dz_w_min_c) hf (by rw [dz_wd_eq]; omega) hc hs d (h H locs lsA hP hS hl)
    · have hca : (dz_wl π Λ N I J)[a]? = some (π.2.2.2 a, .inl (π.2.2.1 0, L0, .inl (I a))) := by rw [dz_wl_get ha, hLa]; rfl
      have hcb : (dz_wl π Λ N I J)[b]? = some (π.2.2.2 b, .inl (π.2.2.1 0, L1, .inl (I b))) := by rw [dz_wl_get hb9, hLb]; rfl
      refine va_copyi hx hb hsz hown (hts _ hw) (hts _ dz_w_cpy_n) (hts _ dz_w_cpy_s) (hts _ dz_w_sys) hK hP hD hS a b 0 0 (ty := .int) hca hcb rfl rfl rfl h1 h2 h3 h4 h5 (fun _ _ => rfl) hf (by rw [dz_wd_eq]; exact Nat.le_trans (Nat.add_le_add_right hwd _) (Nat.le_trans dz_nat_w (by omega))) d (fun H1 locs1 hP1 hD1 hS1 => ?_)
      rw [dz_wl_set (I' := dz_cp I a b sp.toNatClampNeg dp.toNatClampNeg z.toNatClampNeg) (J' := J) (by rw [hLb]; simp [dz_cel, dz_cp]) (fun c2 hc2 => ⟨by simp [dz_cp, hc2], rfl⟩)] at hP1
      exact h H1 locs1 lsA hP1 hS1 hl
  all_goals exact False.elim h
end DZS
