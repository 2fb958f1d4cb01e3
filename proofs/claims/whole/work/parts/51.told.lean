/-! told: it returns, or throws -/
def nx_L : List Cond := [.declares (Bundle.init0 "java/lang/RuntimeException"), .declares (Bundle.init0 "java/lang/Exception"), .declares (Bundle.init0 Bundle.tN), .castable "java/util/NoSuchElementException" "java/util/NoSuchElementException"]
def nx_N (U : State) : Prop := ∀ w ∈ nx_L, va_Nw w U
abbrev nx_at : List Cond := vx_at0 RX4 162 "java/util/NoSuchElementException" ["java/lang/RuntimeException", "java/lang/Exception"]
theorem nx_on : ∀ w ∈ nx_L, w.onTables = true := by decide
theorem nx_N.warm {s U : State} (hW : s.WarmedH U.vm) (h : nx_N s) : nx_N U := by
  intro w hw
  have h1 := h w hw
  simp only [nx_L, List.mem_cons, List.not_mem_nil, or_false] at hw
  rcases hw with rfl | rfl | rfl | rfl
  · exact va_Nw.warmD hW h1
  · exact va_Nw.warmD hW h1
  · exact va_Nw.warmD hW h1
  · exact va_Nw.warmC hW h1
theorem nx_N.same {s U : State} (hv : s.vm = U.vm) (h : nx_N s) : nx_N U := fun w hw => va_Nw.same (nx_on w hw) hv (h w hw)
set_option maxRecDepth 100000 in
set_option maxHeartbeats 4000000 in
theorem nx_w : ∀ w ∈ nx_at, w ∈ dz_WS ∨ w ∈ nx_L := by
  have key : ∀ w ∈ ([.initialized Bundle.tN, .superclass Bundle.tN "java/lang/Object", .instanceMethod Bundle.tFill, .codeSync Bundle.tFill prog_13_method_18_code 1 (some (.object Bundle.tN)), .instanceMethod Bundle.tFill0, .native Bundle.tFill0, .instanceMethod Bundle.tInit0, .code Bundle.tInit0 prog_13_method_1_code 1 none, .instanceMethod Bundle.oInit, .code Bundle.oInit ⟨#[0xb1]⟩ 1 none, .methodLink Bundle.tN 1 Bundle.oInit, .methodLink Bundle.tN 27 Bundle.tFill, .methodLink Bundle.tN 202 Bundle.tFill0, .fieldLink Bundle.tN 7 Bundle.tN "cause" "Ljava/lang/Throwable;", .lays Bundle.tN Bundle.tN "cause" "Ljava/lang/Throwable;", .fieldLink Bundle.tN 17 Bundle.tN "stackTrace" "[Ljava/lang/StackTraceElement;", .lays Bundle.tN Bundle.tN "stackTrace" "[Ljava/lang/StackTraceElement;", .fieldLink Bundle.tN 24 Bundle.tN "suppressedExceptions" "Ljava/util/List;", .lays Bundle.tN Bundle.tN "suppressedExceptions" "Ljava/util/List;", .fieldLink Bundle.tN 13 Bundle.tN "UNASSIGNED_STACK" "[Ljava/lang/StackTraceElement;", .laysStatic Bundle.tN "UNASSIGNED_STACK" "[Ljava/lang/StackTraceElement;", .fieldLink Bundle.tN 20 Bundle.tN "SUPPRESSED_SENTINEL" "Ljava/util/List;", .laysStatic Bundle.tN "SUPPRESSED_SENTINEL" "Ljava/util/List;", .lays Bundle.tN Bundle.tN "detailMessage" "Ljava/lang/String;", .instanceMethod (Bundle.init0 "java/util/NoSuchElementException"), .code (Bundle.init0 "java/util/NoSuchElementException") Bundle.five 1 none, .methodLink "java/util/NoSuchElementException" 1 (Bundle.init0 "java/lang/RuntimeException"), .instanceMethod (Bundle.init0 "java/lang/RuntimeException"), .declares (Bundle.init0 "java/lang/RuntimeException"), .instanceMethod (Bundle.init0 "java/lang/RuntimeException"), .code (Bundle.init0 "java/lang/RuntimeException") Bundle.five 1 none, .methodLink "java/lang/RuntimeException" 1 (Bundle.init0 "java/lang/Exception"), .instanceMethod (Bundle.init0 "java/lang/Exception"), .declares (Bundle.init0 "java/lang/Exception"), .instanceMethod (Bundle.init0 "java/lang/Exception"), .code (Bundle.init0 "java/lang/Exception") Bundle.five 1 none, .methodLink "java/lang/Exception" 1 (Bundle.init0 Bundle.tN), .instanceMethod (Bundle.init0 Bundle.tN), .declares (Bundle.init0 Bundle.tN), .methodLink RX4 162 (Bundle.init0 "java/util/NoSuchElementException"), .instantiable "java/util/NoSuchElementException" 6, .castable "java/util/NoSuchElementException" "java/util/NoSuchElementException", .selects "java/util/NoSuchElementException" Bundle.tFill0 Bundle.tFill0, .selects "java/util/NoSuchElementException" Bundle.tFill Bundle.tFill, .lays "java/util/NoSuchElementException" Bundle.tN "cause" "Ljava/lang/Throwable;", .lays "java/util/NoSuchElementException" Bundle.tN "stackTrace" "[Ljava/lang/StackTraceElement;", .lays "java/util/NoSuchElementException" Bundle.tN "suppressedExceptions" "Ljava/util/List;", .lays "java/util/NoSuchElementException" Bundle.tN "detailMessage" "Ljava/lang/String;", .isRef (.static Bundle.tN "UNASSIGNED_STACK" Bundle.steD), .isRef (.static Bundle.tN "SUPPRESSED_SENTINEL" Bundle.listD), .fieldLink Bundle.tN 198 Bundle.tN "backtrace" "Ljava/lang/Object;", .lays Bundle.tN Bundle.tN "backtrace" "Ljava/lang/Object;", .lays "java/util/NoSuchElementException" Bundle.tN "backtrace" "Ljava/lang/Object;"] : List Cond), vx_no w = true → w ∈ dz_WS ∨ w ∈ nx_L := (List.forall_mem_cons.mpr ⟨(fun _ => Or.inl (dz_t1 (i := 9) rfl rfl)), (List.forall_mem_cons.mpr ⟨(fun _ => Or.inl (dz_t3 (i := 84) rfl rfl)), (List.forall_mem_cons.mpr ⟨(fun _ => Or.inl (dz_t3 (i := 93) rfl rfl)), (List.forall_mem_cons.mpr ⟨(fun _ => Or.inl (dz_t3 (i := 95) rfl rfl)), (List.forall_mem_cons.mpr ⟨(fun _ => Or.inl (dz_t3 (i := 98) rfl rfl)), (List.forall_mem_cons.mpr ⟨(fun _ => Or.inl (dz_t3 (i := 100) rfl rfl)), (List.forall_mem_cons.mpr ⟨(fun _ => Or.inl (dz_t3 (i := 85) rfl rfl)), (List.forall_mem_cons.mpr ⟨(fun _ => Or.inl (dz_t3 (i := 86) rfl rfl)), (List.forall_mem_cons.mpr ⟨(fun _ => Or.inl (dz_t1 (i := 20) rfl rfl)), (List.forall_mem_cons.mpr ⟨(fun _ => Or.inl (dz_t1 (i := 21) rfl rfl)), (List.forall_mem_cons.mpr ⟨(fun _ => Or.inl (dz_t3 (i := 87) rfl rfl)), (List.forall_mem_cons.mpr ⟨(fun _ => Or.inl (dz_t3 (i := 92) rfl rfl)), (List.forall_mem_cons.mpr ⟨(fun _ => Or.inl (dz_t3 (i := 96) rfl rfl)), (List.forall_mem_cons.mpr ⟨(fun _ => Or.inl (dz_t3 (i := 112) rfl rfl)), (List.forall_mem_cons.mpr ⟨(fun _ => Or.inl (dz_t3 (i := 74) rfl rfl)), (List.forall_mem_cons.mpr ⟨(fun _ => Or.inl (dz_t3 (i := 113) rfl rfl)), (List.forall_mem_cons.mpr ⟨(fun _ => Or.inl (dz_t3 (i := 76) rfl rfl)), (List.forall_mem_cons.mpr ⟨(fun _ => Or.inl (dz_t3 (i := 114) rfl rfl)), (List.forall_mem_cons.mpr ⟨(fun _ => Or.inl (dz_t3 (i := 78) rfl rfl)), (List.forall_mem_cons.mpr ⟨(fun _ => Or.inl (dz_t3 (i := 88) rfl rfl)), (List.forall_mem_cons.mpr ⟨(fun h => absurd h (by decide)), (List.forall_mem_cons.mpr ⟨(fun _ => Or.inl (dz_t3 (i := 90) rfl rfl)), (List.forall_mem_cons.mpr ⟨(fun h => absurd h (by decide)), (List.forall_mem_cons.mpr ⟨(fun _ => Or.inl (dz_t3 (i := 80) rfl rfl)), (List.forall_mem_cons.mpr ⟨(fun _ => Or.inl (dz_t3 (i := 102) rfl rfl)), (List.forall_mem_cons.mpr ⟨(fun _ => Or.inl (dz_t3 (i := 103) rfl rfl)), (List.forall_mem_cons.mpr ⟨(fun _ => Or.inl (dz_t3 (i := 104) rfl rfl)), (List.forall_mem_cons.mpr ⟨(fun _ => Or.inl (dz_t3 (i := 105) rfl rfl)), (List.forall_mem_cons.mpr ⟨(fun _ => Or.inr (by decide)), (List.forall_mem_cons.mpr ⟨(fun _ => Or.inl (dz_t3 (i := 105) rfl rfl)), (List.forall_mem_cons.mpr ⟨(fun _ => Or.inl (dz_t3 (i := 106) rfl rfl)), (List.forall_mem_cons.mpr ⟨(fun _ => Or.inl (dz_t3 (i := 107) rfl rfl)), (List.forall_mem_cons.mpr ⟨(fun _ => Or.inl (dz_t3 (i := 108) rfl rfl)), (List.forall_mem_cons.mpr ⟨(fun _ => Or.inr (by decide)), (List.forall_mem_cons.mpr ⟨(fun _ => Or.inl (dz_t3 (i := 108) rfl rfl)), (List.forall_mem_cons.mpr ⟨(fun _ => Or.inl (dz_t3 (i := 109) rfl rfl)), (List.forall_mem_cons.mpr ⟨(fun _ => Or.inl (dz_t3 (i := 110) rfl rfl)), (List.forall_mem_cons.mpr ⟨(fun _ => Or.inl (dz_t3 (i := 85) rfl rfl)), (List.forall_mem_cons.mpr ⟨(fun _ => Or.inr (by decide)), (List.forall_mem_cons.mpr ⟨(fun _ => Or.inl (dz_t3 (i := 101) rfl rfl)), (List.forall_mem_cons.mpr ⟨(fun _ => Or.inl (dz_t3 (i := 63) rfl rfl)), (List.forall_mem_cons.mpr ⟨(fun _ => Or.inr (by decide)), (List.forall_mem_cons.mpr ⟨(fun _ => Or.inl (dz_t3 (i := 71) rfl rfl)), (List.forall_mem_cons.mpr ⟨(fun _ => Or.inl (dz_t3 (i := 72) rfl rfl)), (List.forall_mem_cons.mpr ⟨(fun _ => Or.inl (dz_t3 (i := 73) rfl rfl)), (List.forall_mem_cons.mpr ⟨(fun _ => Or.inl (dz_t3 (i := 75) rfl rfl)), (List.forall_mem_cons.mpr ⟨(fun _ => Or.inl (dz_t3 (i := 77) rfl rfl)), (List.forall_mem_cons.mpr ⟨(fun _ => Or.inl (dz_t3 (i := 79) rfl rfl)), (List.forall_mem_cons.mpr ⟨(fun h => absurd h (by decide)), (List.forall_mem_cons.mpr ⟨(fun h => absurd h (by decide)), (List.forall_mem_cons.mpr ⟨(fun _ => Or.inl (dz_t3 (i := 83) rfl rfl)), (List.forall_mem_cons.mpr ⟨(fun _ => Or.inl (dz_t3 (i := 82) rfl rfl)), (List.forall_mem_cons.mpr ⟨(fun _ => Or.inl (dz_t3 (i := 81) rfl rfl)), (fun _ h => absurd h List.not_mem_nil)⟩)⟩)⟩)⟩)⟩)⟩)⟩)⟩)⟩)⟩)⟩)⟩)⟩)⟩)⟩)⟩)⟩)⟩)⟩)⟩)⟩)⟩)⟩)⟩)⟩)⟩)⟩)⟩)⟩)⟩)⟩)⟩)⟩)⟩)⟩)⟩)⟩)⟩)⟩)⟩)⟩)⟩)⟩)⟩)⟩)⟩)⟩)⟩)⟩)⟩)⟩)⟩)⟩)
  intro w hw
  obtain ⟨h1, h2⟩ := List.mem_filter.mp hw
  exact key w h1 h2
theorem nx_hat {args : Array Value} {s : State} (hts : ∀ w ∈ dz_WS, w.before args s = true) (h : nx_N s) : ∀ w ∈ nx_at, w.before args s = true := fun w hw => (nx_w w hw).elim (hts w) (fun z => va_Nw.use (nx_on w z) (h w z))
theorem nx_good : ∀ w ∈ Cond.classLink RX4 160 "java/util/NoSuchElementException" :: Cond.initialized "java/util/NoSuchElementException" :: nx_at, vx_ot w = true := by
  intro w hw
  rcases List.mem_cons.mp hw with rfl | hw
  · rfl
  rcases List.mem_cons.mp hw with rfl | hw
  · rfl
  unfold vx_ot
  rcases nx_w w hw with z | z
  · rw [(List.mem_filter.mp z).2]; simp
  · rw [nx_on w z]; rfl
def nx_Z (A : Nat → Prop) (U : State) (H : Heap) : Prop := vx_Zq Bundle.tN "UNASSIGNED_STACK" Bundle.steD A U H ∧ vx_Zq Bundle.tN "SUPPRESSED_SENTINEL" Bundle.listD A U H
def tl_Pre (π : dz_Pl) (vs : List dz_AV) (I : dz_MI) (J : dz_MJ) : Array Value → State → Prop := va_Pc (vs.map (dz_val π.2.2.2)) (fun U => dz_inj π.2.2.2 62 ∧ va_P π.2.1 vwCl (dz_wl π dz_Y 62 I J) U.heap ∧ va_K π.2.1 vwCl (dz_tys π.2.2.1) U ∧ dz_Nw U ∧ nx_N U ∧ nx_Z (dz_A π 62) U U.heap)
theorem tl_blind (π : dz_Pl) (vs : List dz_AV) (I : dz_MI) (J : dz_MJ) : FrameBlind (tl_Pre π vs I J) := by
  intro a U g mk q
  obtain ⟨q0, q1, qP, qK, qN, qx, qz⟩ := q
  exact ⟨q0, q1, qP, va_K.moved (u := U) (U := U.calling g mk a) (Vm.Alike.refl U.vm) qK, dz_Nw.same rfl qN, nx_N.same (s := U) (U := U.calling g mk a) rfl qx, ⟨vx_Zq.moved (u := U) (U := U.calling g mk a) (Vm.Alike.refl U.vm) qz.1, vx_Zq.moved (u := U) (U := U.calling g mk a) (Vm.Alike.refl U.vm) qz.2⟩⟩
def tl_post (s : dz_Sg) (d w : Int32) (I : dz_MI) (J : dz_MJ) : Option dz_AV → dz_MI → dz_MJ → Prop := fun r I2 J2 => q_tok s d w ∧ r = some (.inl (sg_f s d.toNatClampNeg w.toNatClampNeg)) ∧ I2 = I ∧ J2 = J
def tl_XC (π : dz_Pl) (s : dz_Sg) (d w : Int32) (I : dz_MI) (J : dz_MJ) : String → State → State → Prop := fun E st t => E = "java/util/NoSuchElementException" ∧ ¬ q_tok s d w ∧ va_P π.2.1 vwCl (dz_wl π dz_Y 62 I J) t.heap ∧ va_F (dz_A π 62) st t
theorem tl_w {w : Int32} (h : nI 0 ≤ w ∧ w ≤ nI 8) : ∃ j, j < 9 ∧ w = nI j := by
  refine ⟨w.toInt.toNat, ?_, ?_⟩
  · rw [fa_le, fa_le, nI_toInt (by decide), nI_toInt (by decide)] at h; omega
  · rw [fa_le, fa_le, nI_toInt (by decide), nI_toInt (by decide)] at h
    rw [fa_eq, nI_toInt (by omega)]; omega
set_option maxRecDepth 100000 in
set_option maxHeartbeats 4000000 in
theorem c_X4_told (π : dz_Pl) (hst : π.1.stackTraces = false) {s : dz_Sg} (d w : Int32) (I : dz_MI) (J : dz_MJ) (hO : dz_OK s) (hR : dz_RY s I) : vx_Met π.1 yX4_told (.code yX4_told cX4_told 3 (some .int) :: dz_WS) { frames := 6, cells := 1, slots := 6, locals := 90 } (tl_Pre π [.inr (.inr 0), .inl d, .inl w] I J) (dz_Post π dz_Y 62 (tl_post s d w I J)) (tl_XC π s d w I J) 1 6 (dz_A π 62) := by
  refine vx_ofW (cc := cX4_told) (maxL := 3) (ret := some .int) (by decide) rfl ?_
  intro p e st m args below meth c s₁ B hml htab hv
  obtain ⟨rfl, hinj, hP, hK, hnw, hnx, hU, hN⟩ := hv
  have hts0 := atoms_spec (ws := .code yX4_told cX4_told 3 (some .int) :: dz_WS) B.pre
  have hts : ∀ z ∈ dz_WS, z.before (([.inr (.inr 0), .inl d, .inl w] : List dz_AV).map (dz_val π.2.2.2)).toArray st = true := fun z hz => hts0 z (List.mem_cons_of_mem _ hz)
  have hown : st.vm.findClass RX4 = some m.cls := findClass_of_methodNamed B.named
  have hlocks := B.notSynchronized
  have X : dz_Ctx π 62 4 3 6 90 cX4_told (dz_A π 62) p { frames := 6, cells := 1, slots := 6, locals := 90 } st m (([.inr (.inr 0), .inl d, .inl w] : List dz_AV).map (dz_val π.2.2.2)).toArray c 0 0 :=
    ⟨B.exec, B.bytes, hml, hown, hts, hK, fun a ha => ⟨a, ha, rfl⟩, hinj, rfl, rfl, Nat.zero_le _, Nat.zero_le _, hnw⟩
  have hl := lv_entry (([.inr (.inr 0), .inl d, .inl w] : List dz_AV).map (dz_val π.2.2.2)) (n := 3) (by rw [dz_sl_len]; exact Nat.le_of_ble_eq_true rfl)
  rw [lg_entry_eq]
  rw [← dz_ent_eq] at hl
  have hVx : ∀ V : dz_Vt, V = dz_W π dz_Y 62 3 (dz_A π 62) p e { frames := 6, cells := 1, slots := 6, locals := 90 } st m (([.inr (.inr 0), .inl d, .inl w] : List dz_AV).map (dz_val π.2.2.2)).toArray below meth c 0 0 (vx_MQ below (dz_Post π dz_Y 62 (tl_post s d w I J)) (tl_XC π s d w I J) (([.inr (.inr 0), .inl d, .inl w] : List dz_AV).map (dz_val π.2.2.2)).toArray st 1 6 (dz_A π 62)) → V 0 I J (dz_ent 0 [.inr (.inr 0), .inl d, .inl w]) [] := by
    intro V hVe
    have hV : dz_Clo π dz_Y 62 4 mX4_told 6 90 (tl_post s d w I J) V := by
      subst hVe
      exact ⟨fun d h => dz_clo X d h, fun lk d hn hF hL ha hLa hci hcls hst h => dz_callv X lk d hn hF hL ha hLa hci hcls hst h, fun lk d hn hF hL hst h => dz_callsn X lk d hn hF hL hst h,
       fun {pc I J ls v ty} d hr hn hp H locs lsA hP hS hl => W.widen (k := 1) (n := 6) (Nat.zero_le _) (Nat.zero_le _) (vx_ret (W.zret B.exec B.bytes (by rw [B.returns]; exact hr) hn (fun t ht hW => ⟨⟨some (.inl v), I, J, rfl, hp, by rw [ht]; exact hP⟩, hS.F ht⟩) hS.2.2 d)),
       fun {pc I J ls v} d hr hp => (by cases hr),
       fun {pc I J ls} d hr hp => (by cases hr),
       fun hs h H locs lsA hP hS hl => h H locs lsA hP hS (dz_sub_has hl hs)⟩
    have hT : ∀ ls : dz_LS, ¬ q_tok s d w → V 21 I J ls [] := by
      subst hVe
      intro ls hno H locs lsA hP hS hl
      exact vx_throw0 (own := RX4) (cls := "java/util/NoSuchElementException") (names := ["java/lang/RuntimeException", "java/lang/Exception"]) (ik := 160) (ic := 162) (A := dz_A π 62) B.exec B.bytes hst hown (by decide) (by decide) (hts _ (dz_t3 (i := 62) rfl rfl)) (hts _ (dz_t1 (i := 12) rfl rfl)) (nx_hat hts hnx) nx_good hU hN hS (hl.1.trans hml.symm) dX4_told_21 dX4_told_24 dX4_told_25 dX4_told_28 (fun x hx => (htab x hx).elim) (by decide) (Nat.le_of_ble_eq_true rfl) (by decide) (by decide) hlocks
        (fun t hal hsz hkeep => ⟨rfl, hno, hP.kept (fun k q hk => hkeep q.1 (hP k q hk).lt), ⟨Nat.le_trans hS.1 hsz, fun q h1 h2 => (hkeep q (Nat.lt_of_lt_of_le h1 hS.1)).trans (hS.2.1 q h1 h2)⟩⟩) hS.2.2 (by decide) (by decide)
    clear hVe hP hl
    have hO2 := hO
    obtain ⟨o1, o2, o3, o4, o5, o6, o7, o8, o9⟩ := hO
    obtain ⟨y1, y2, y3, y4, y5, y6, y7, y8, y9, y10, y11, y12, y13⟩ := hR
    refine dr_aload_n 0 hV dX4_told_0 rfl ?_
    refine dr_geta 1 hV dX4_told_1 (by decide) (by decide) rfl rfl rfl ?_
    refine dr_iload_n 4 hV dX4_told_4 rfl ?_
    refine dr_cvp1 5 hV dz_lX4_86 dX4_told_5 (by decide) (by decide) ⟨by decide, _, _, rfl, by decide, rfl⟩ (Nat.le_of_ble_eq_true rfl) (c_X1_has π _ _ _) ?_
    first | refine dr_ifb_eq (tgt := 21) 8 hV dX4_told_8 (by decide) (fun c8 => ?_) (fun c8 => ?_) | refine dr_if_eq (tgt := 21) 8 hV dX4_told_8 (by decide) (fun c8 => ?_) (fun c8 => ?_)
    · exact hT _ (fun z => c8 (by rw [y1]; exact z.1))
    · refine dr_iload_n 11 hV dX4_told_11 rfl ?_
      refine dr_iconst (v := nI 0) 12 hV dX4_told_12 (by decide) ?_
      refine dr_bipush (v := nI 8) 13 hV dX4_told_13 (by decide) ?_
      refine dr_csp3 15 hV (Or.inl dz_lX4_55) dX4_told_15 (by decide) (by decide) (Nat.le_of_ble_eq_true rfl) (c_X4_isWithin π _ _ _ _ _ _ _) ?_
      first | refine dr_ifb_ne (tgt := 29) 18 hV dX4_told_18 (by decide) (fun c18 => ?_) (fun c18 => ?_) | refine dr_if_ne (tgt := 29) 18 hV dX4_told_18 (by decide) (fun c18 => ?_) (fun c18 => ?_)
      · have hok : q_tok s d w := ⟨by rw [y1] at c8; exact c8, c18⟩
        obtain ⟨k, hk, rfl⟩ := dz_ofI y1 (by omega) c8
        obtain ⟨j, hj, rfl⟩ := tl_w hok.2
        refine dr_aload_n 29 hV dX4_told_29 rfl ?_
        refine dr_geta 30 hV dX4_told_30 (by decide) (by decide) rfl rfl rfl ?_
        refine dr_iload_n 33 hV dX4_told_33 rfl ?_
        refine dr_iload_n 34 hV dX4_told_34 rfl ?_
        refine dr_cvp2 35 hV dz_lX4_141 dX4_told_35 (by decide) (by decide) ⟨by decide, _, _, rfl, by decide, rfl⟩ (Nat.le_of_ble_eq_true rfl) (c_X1_fact π _ _ y1 o1 hk hj) ?_
        rw [y9 k j hk hj]
        exact dr_iret 38 hV dX4_told_38 rfl (by first | rfl | exact dz_bn) ⟨hok, by rw [nI_clamp (by omega), nI_clamp (by omega)], rfl, rfl⟩
      · have hno : ¬ q_tok s d w := fun z => c18 z.2
        exact hT _ hno
  exact hVx _ rfl st.heap [] _ hP va_S.rf hl
