/-! THE LAW: its loop -/
section LQD
variable {p : Program} {l : Launch} {e : Env} {s : State} {m : MethodId} {below : List Frame} {meth : Method} {c : Code} {b L : Nat} {xs : Nat → Int32} {D : va_G} {cy : Nat → ClassId} {aY aM : Nat → Nat} {qO i : Nat} {I I2 : dz_MI} {J J2 : dz_MJ} {o : Nat → Int64} {lv : List (Nat × Value)} {st : List Value} {cells slots : Nat} {sg : dz_Sg}
theorem lq_end (X : lq_X p l s m c b L xs D cy aY aM qO) (hr : meth.sig.returnType = ret) (hlk : meth.locks = false) (h1 : cells ≤ 601024) (h2 : slots ≤ 7293034) : lq_W p l e s m below meth c b D cy aY aM qO 870 I J I2 J2 o lv [] cells slots := by
  intro H locs ls a1 a2 a3 hS hl
  refine lv_iconst (v := 1) X.1 X.2.1 dL_law_870 (by decide) ?_
  refine va_forget (fun q hq => hS.2.2 q hq) ?_
  refine W.widen h1 h2 ?_
  exact lw_ret X.1 X.2.1 hr hlk dL_law_871
theorem lq_tin (X : lq_X p l s m c b L xs D cy aY aM qO) {x : Int32} {off : Int} {tgt : Nat} (j : Nat) (hj : j ≤ 19) (hxj : x = nI j) (ho : (#[96, 157, 230, 279, 328, 365, 402, 439, 504, 517, 531, 556, 581, 606, 631, 644, 669, 694, 762, 799] : Array Int)[j]? = some off) (ht : ((40 : Nat) : Int) + off = (tgt : Int)) (kk : lq_W p l e s m below meth c b D cy aY aM qO tgt I J I2 J2 o lv st cells slots) : lq_W p l e s m below meth c b D cy aY aM qO 40 I J I2 J2 o lv (.int x :: st) cells slots := by
  have e1 : x.toInt = (j : Int) := by rw [hxj, nI_toInt (by omega)]
  exact lq_kit (fun H locs ls hl hS k => lv_tableIn (off := off) (tgt := tgt) X.1 X.2.1 dL_law_40 (by omega) (by omega) (by rw [e1, show ((j : Int) - 0).toNat = j by omega]; exact ho) ht k) kk
set_option maxRecDepth 100000 in
set_option maxHeartbeats 4000000 in
theorem lq_sw (X : lq_X p l s m c b L xs D cy aY aM qO) (hO : dz_OK sg) (hY : YI sg I J) (hR : dz_RM sg I2) (hi : i + 6 ≤ L) (hcs : cells + 1 ≤ 601024 ∧ slots + 6 ≤ 7293034) (K : lq_K p l e s m below meth c b D cy aY aM qO i (cells + 1) (slots + 6)) (x : Int32) : lq_W p l e s m below meth c b D cy aY aM qO 40 I J I2 J2 o (lq_L b (aY 0) (aM 0) qO i) [.int x] cells slots := by
  by_cases h0 : x = nI 0
  · exact lq_tin X 0 (by decide) h0 rfl (tgt := 136) (by decide) (lc_measure X hO hY hR hi hcs K)
  by_cases h1 : x = nI 1
  · exact lq_tin X 1 (by decide) h1 rfl (tgt := 197) (by decide) (lc_drum X hO hY hR hi hcs K)
  by_cases h2 : x = nI 2
  · exact lq_tin X 2 (by decide) h2 rfl (tgt := 270) (by decide) (lc_set X hO hY hR hi hcs K)
  by_cases h3 : x = nI 3
  · exact lq_tin X 3 (by decide) h3 rfl (tgt := 319) (by decide) (lc_column X hO hY hR hi hcs K)
  by_cases h4 : x = nI 4
  · exact lq_tin X 4 (by decide) h4 rfl (tgt := 368) (by decide) (lc_turn X hO hY hR hi hcs K)
  by_cases h5 : x = nI 5
  · exact lq_tin X 5 (by decide) h5 rfl (tgt := 405) (by decide) (lc_fits X hO hY hR hi hcs K)
  by_cases h6 : x = nI 6
  · exact lq_tin X 6 (by decide) h6 rfl (tgt := 442) (by decide) (lc_hand X hO hY hR hi hcs K)
  by_cases h7 : x = nI 7
  · exact lq_tin X 7 (by decide) h7 rfl (tgt := 479) (by decide) (lc_not X hO hY hR hi hcs K)
  by_cases h8 : x = nI 8
  · exact lq_tin X 8 (by decide) h8 rfl (tgt := 544) (by decide) (lc_least X hO hY hR hi hcs K)
  by_cases h9 : x = nI 9
  · exact lq_tin X 9 (by decide) h9 rfl (tgt := 557) (by decide) (lc_ways X hO hY hR hi hcs K)
  by_cases h10 : x = nI 10
  · exact lq_tin X 10 (by decide) h10 rfl (tgt := 571) (by decide) (lc_first X hO hY hR hi hcs K)
  by_cases h11 : x = nI 11
  · exact lq_tin X 11 (by decide) h11 rfl (tgt := 596) (by decide) (lc_sure X hO hY hR hi hcs K)
  by_cases h12 : x = nI 12
  · exact lq_tin X 12 (by decide) h12 rfl (tgt := 621) (by decide) (lc_open X hO hY hR hi hcs K)
  by_cases h13 : x = nI 13
  · exact lq_tin X 13 (by decide) h13 rfl (tgt := 646) (by decide) (lc_bears X hO hY hR hi hcs K)
  by_cases h14 : x = nI 14
  · exact lq_tin X 14 (by decide) h14 rfl (tgt := 671) (by decide) (lc_cracked X hO hY hR hi hcs K)
  by_cases h15 : x = nI 15
  · exact lq_tin X 15 (by decide) h15 rfl (tgt := 684) (by decide) (lc_setting X hO hY hR hi hcs K)
  by_cases h16 : x = nI 16
  · exact lq_tin X 16 (by decide) h16 rfl (tgt := 709) (by decide) (lc_tall X hO hY hR hi hcs K)
  by_cases h17 : x = nI 17
  · exact lq_tin X 17 (by decide) h17 rfl (tgt := 734) (by decide) (lc_told X hO hY hR hi hcs K)
  by_cases h18 : x = nI 18
  · exact lq_tin X 18 (by decide) h18 rfl (tgt := 802) (by decide) (lc_place X hO hY hR hi hcs K)
  by_cases h19 : x = nI 19
  · exact lq_tin X 19 (by decide) h19 rfl (tgt := 839) (by decide) (lc_count X hO hY hR hi hcs K)
  have ho : ∀ j, j ≤ 19 → ¬ x = nI j := fun j hj => by
    match j, hj with
    | 0, _ => exact h0
    | 1, _ => exact h1
    | 2, _ => exact h2
    | 3, _ => exact h3
    | 4, _ => exact h4
    | 5, _ => exact h5
    | 6, _ => exact h6
    | 7, _ => exact h7
    | 8, _ => exact h8
    | 9, _ => exact h9
    | 10, _ => exact h10
    | 11, _ => exact h11
    | 12, _ => exact h12
    | 13, _ => exact h13
    | 14, _ => exact h14
    | 15, _ => exact h15
    | 16, _ => exact h16
    | 17, _ => exact h17
    | 18, _ => exact h18
    | 19, _ => exact h19
    | n + 20, h => omega
  refine lq_kit (pc2 := 864) (st2 := []) (fun H locs ls hl hS k => lv_tableOut (tgt := 864) X.1 X.2.1 dL_law_40 (dz_tswo 19 ho (by decide)) (by decide) k) ?_
  exact lq_wd (by omega) (by omega) (K sg I J I2 J2 o hO hY hR)
theorem lq_turn (X : lq_X p l s m c b L xs D cy aY aM qO) (hO : dz_OK sg) (hY : YI sg I J) (hR : dz_RM sg I2) (hi : i + 6 ≤ L) (hcs : cells + 1 ≤ 601024 ∧ slots + 6 ≤ 7293034) (K : lq_K p l e s m below meth c b D cy aY aM qO i (cells + 1) (slots + 6)) : lq_W p l e s m below meth c b D cy aY aM qO 33 I J I2 J2 o (lq_L b (aY 0) (aM 0) qO i) [] cells slots := by
  have hL : L ≤ 3072 := X.2.2.2.2.2.2.2.2.2.2.2.2.2.2.2.2.2.2.2.2
  refine lq_ald X (k0 := 4) dL_law_33 rfl ?_
  refine lq_ild X (k0 := 0) dL_law_34 rfl ?_
  refine lq_kit (pc2 := 37) (st2 := [.int (xs i)]) (fun H locs ls hl hS k => ?_) ?_
  · refine va_sld X.1 X.2.1 X.2.2.2.2.2.1 X.2.2.2.2.2.2.1 (Nat.not_le.mpr X.2.2.2.2.2.2.1) hS (vp_in_nI (by omega) (by omega)) dL_law_36 ?_
    rw [nI_clamp (by omega)]
    exact k
  refine lq_kit (pc2 := 39) (st2 := [.int (nI 31), .int (xs i)]) (fun H locs ls hl hS k => lv_bipush X.1 X.2.1 dL_law_37 (by decide) k) ?_
  refine lq_kit (pc2 := 40) (st2 := [.int (xs i &&& nI 31)]) (fun H locs ls hl hS k => lv_iand X.1 X.2.1 dL_law_39 k) ?_
  exact lq_sw X hO hY hR hi hcs K _
theorem lq_loop (X : lq_X p l s m c b L xs D cy aY aM qO) (hr : meth.sig.returnType = ret) (hlk : meth.locks = false) : ∀ (n t : Nat), n + t = 513 → 6 * t ≤ L → ∀ (sg : dz_Sg) (I : dz_MI) (J : dz_MJ) (I2 : dz_MI) (J2 : dz_MJ) (o : Nat → Int64), dz_OK sg → YI sg I J → dz_RM sg I2 → lq_W p l e s m below meth c b D cy aY aM qO 23 I J I2 J2 o (lq_L b (aY 0) (aM 0) qO (6 * t)) [] (87 + t) (461495 + 6 * t) := by
  have hL : L ≤ 3072 := X.2.2.2.2.2.2.2.2.2.2.2.2.2.2.2.2.2.2.2.2
  intro n
  induction n with
  | zero => exact fun t ht h6 => absurd h6 (by omega)
  | succ n ih =>
    intro t ht h6 sg I J I2 J2 o hO hY hR
    refine lq_ild X (k0 := 0) dL_law_23 rfl ?_
    refine lq_ald X (k0 := 4) dL_law_25 rfl ?_
    refine lq_kit (pc2 := 27) (st2 := [.int (nI L), .int (nI (6 * t))]) (fun H locs ls hl hS k => va_slen X.1 X.2.1 X.2.2.2.2.2.1 X.2.2.2.2.2.2.1 (Nat.not_le.mpr X.2.2.2.2.2.2.1) hS dL_law_26 k) ?_
    refine lq_kit (pc2 := 29) (st2 := [.int (nI 6), .int (nI L), .int (nI (6 * t))]) (fun H locs ls hl hS k => lv_bipush X.1 X.2.1 dL_law_27 (by decide) k) ?_
    refine lq_kit (pc2 := 30) (st2 := [.int (nI L - nI 6), .int (nI (6 * t))]) (fun H locs ls hl hS k => lv_isub X.1 X.2.1 dL_law_29 k) ?_
    have e1 : (nI L - nI 6).toInt = (L : Int) - 6 := pk_sub_toInt (by omega) (by omega)
    have e2 : (nI (6 * t)).toInt = ((6 * t : Nat) : Int) := nI_toInt (by omega)
    intro H locs ls a1 a2 a3 hS hl
    refine lv_icmp_gt (tgt := 870) X.1 X.2.1 dL_law_30 (by decide) (fun h => ?_) (fun h => ?_)
    · exact lq_end (I := I) (J := J) (I2 := I2) (J2 := J2) (o := o) (lv := lq_L b (aY 0) (aM 0) qO (6 * t)) X hr hlk (by omega) (by omega) H locs ls a1 a2 a3 hS hl
    · rw [Int32.lt_iff_toInt_lt, e1, e2] at h
      refine lq_turn X hO hY hR (by omega) ⟨by omega, by omega⟩ ?_ H locs ls a1 a2 a3 hS hl
      intro sg' I' J' I2' J2' o' hO' hY' hR' H' locs' ls' a1' a2' a3' hS' hl'
      refine lv_iinc (v := nI (6 * (t + 1))) (k := 0) (lv' := lq_L b (aY 0) (aM 0) qO (6 * (t + 1))) X.1 X.2.1 dL_law_864 hl' rfl (show nI (6 * t) + nI 6 = nI (6 * (t + 1)) from nI_add _ _) (by decide) rfl (fun ls2 hl2 => ?_)
      refine lv_goto (tgt := 23) X.1 X.2.1 dL_law_867 (by decide) ?_
      exact lq_wd (by omega) (by omega) (ih (t + 1) (by omega) (by omega) sg' I' J' I2' J2' o' hO' hY' hR') H' locs' ls2 a1' a2' a3' hS' hl2
end LQD
