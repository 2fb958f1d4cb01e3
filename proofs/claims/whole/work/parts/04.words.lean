/-! WORDS: one list for all methods; field tables of the classes; calls that are linked -/
def dz_WS : List Cond := lw_tbl.filter goodWord
theorem dz_WS_tbl : GoodIn lw_tbl dz_WS := fun w h => ⟨(List.mem_filter.mp h).1, good_of_word (List.mem_filter.mp h).2⟩
theorem dz_WS_good : ∀ w ∈ dz_WS, (w.onTables && w.keeps) = true ∨ ∃ ty, w = .arrayClass ty := fun w h => (dz_WS_tbl w h).2
theorem dz_GI {w0 : Cond} {ws : List Cond} (h : ∀ w ∈ ws, w ∈ dz_WS) : GoodIn (w0 :: dz_WS) ws := fun w hw => ⟨List.mem_cons_of_mem _ (h w hw), dz_WS_good w (h w hw)⟩
theorem dz_t0 {i : Nat} {w : Cond} (h : (k2_sels lw_privs)[i]? = some w) (g : goodWord w = true) : w ∈ dz_WS := List.mem_filter.mpr ⟨List.mem_append_left _ (List.mem_of_getElem? h), g⟩
theorem dz_t1 {i : Nat} {w : Cond} (h : tables_1_1[i]? = some w) (g : goodWord w = true) : w ∈ dz_WS := List.mem_filter.mpr ⟨List.mem_append_right _ (List.mem_append_left _ (List.mem_of_getElem? h)), g⟩
theorem dz_t2 {i : Nat} {w : Cond} (h : tables_1_2[i]? = some w) (g : goodWord w = true) : w ∈ dz_WS := List.mem_filter.mpr ⟨List.mem_append_right _ (List.mem_append_right _ (List.mem_append_left _ (List.mem_of_getElem? h))), g⟩
theorem dz_t3 {i : Nat} {w : Cond} (h : tables_1_3[i]? = some w) (g : goodWord w = true) : w ∈ dz_WS := List.mem_filter.mpr ⟨List.mem_append_right _ (List.mem_append_right _ (List.mem_append_right _ (List.mem_append_left _ (List.mem_of_getElem? h)))), g⟩
theorem dz_t4 {i : Nat} {w : Cond} (h : tables_1_4[i]? = some w) (g : goodWord w = true) : w ∈ dz_WS := List.mem_filter.mpr ⟨List.mem_append_right _ (List.mem_append_right _ (List.mem_append_right _ (List.mem_append_right _ (List.mem_of_getElem? h)))), g⟩
def dz_R (own : Nat) : String := match own with
  | 0 => RX0
  | 1 => RX1
  | 2 => RX2
  | 3 => RX3
  | 4 => RX4
  | 5 => RX5
  | _ => RJ6
def dz_T (own : Nat) : u_T := match own with
  | 0 => TX0
  | 1 => TX1
  | 2 => TX2
  | 3 => TX3
  | 4 => TX4
  | 5 => TX5
  | _ => TJ6
def dz_ty (own : Nat) : Nat → FieldType := match own with
  | 0 => tyX0
  | 1 => tyX1
  | 2 => tyX2
  | 3 => tyX3
  | 4 => tyX4
  | 5 => tyX5
  | _ => tyJ6
def dz_N (own : Nat) : Nat := match own with
  | 0 => 8
  | 1 => 4
  | 2 => 12
  | 3 => 2
  | 4 => 8
  | 5 => 31
  | _ => 0
def dz_ft (own : Nat) : List (Nat × Nat) := match own with
  | 0 => [(9, 0), (15, 1), (18, 2), (21, 3), (24, 4), (27, 5), (30, 6), (34, 7)]
  | 1 => [(13, 0), (16, 1), (20, 3), (28, 2)]
  | 2 => [(11, 0), (15, 1), (19, 2), (22, 3), (25, 4), (30, 5), (35, 6), (38, 7), (41, 8), (44, 10), (48, 11), (65, 9)]
  | 3 => [(9, 0), (15, 1)]
  | 4 => [(10, 0), (19, 1), (26, 2), (33, 3), (37, 4), (41, 5), (44, 6), (47, 7)]
  | 5 => [(9, 4), (13, 5), (16, 6), (19, 8), (23, 9), (26, 10), (29, 11), (32, 12), (35, 13), (38, 14), (41, 15), (44, 16), (47, 17), (50, 18), (53, 19), (56, 20), (59, 21), (62, 22), (65, 23), (68, 24), (73, 25), (76, 26), (80, 27), (83, 28), (86, 29), (89, 30), (92, 0), (99, 1), (102, 2), (105, 3), (112, 7)]
  | _ => []
/-- what the words say of a class own: its fields are laid, linked by the numbers of dz_ft -/
def dz_CF (own : Nat) : Prop := (∀ w ∈ u_ws (dz_R own) (dz_T own) (dz_N own), w ∈ dz_WS) ∧ (∀ k, k < dz_N own → parseFieldDescriptor (dz_T own k).2.2.1 = some (dz_ty own k)) ∧ (∀ a, a < dz_N own → ∀ b, b < dz_N own → a ≠ b → (dz_T own a).2.1 ≠ (dz_T own b).2.1) ∧ ∀ q ∈ dz_ft own, q.2 < dz_N own ∧ Cond.fieldLink (dz_R own) q.1 (dz_T own q.2).1 (dz_T own q.2).2.1 (dz_T own q.2).2.2.1 ∈ dz_WS
set_option maxRecDepth 100000 in
set_option maxHeartbeats 4000000 in
theorem dz_cf0 : dz_CF 0 := ⟨(List.forall_mem_cons.mpr ⟨(dz_t1 (i := 58) rfl rfl), (List.forall_mem_cons.mpr ⟨(dz_t1 (i := 60) rfl rfl), (List.forall_mem_cons.mpr ⟨(dz_t1 (i := 62) rfl rfl), (List.forall_mem_cons.mpr ⟨(dz_t1 (i := 64) rfl rfl), (List.forall_mem_cons.mpr ⟨(dz_t1 (i := 66) rfl rfl), (List.forall_mem_cons.mpr ⟨(dz_t1 (i := 68) rfl rfl), (List.forall_mem_cons.mpr ⟨(dz_t1 (i := 70) rfl rfl), (List.forall_mem_cons.mpr ⟨(dz_t1 (i := 72) rfl rfl), (fun _ h => absurd h List.not_mem_nil)⟩)⟩)⟩)⟩)⟩)⟩)⟩)⟩), tyX0_ok, nmX0, (List.forall_mem_cons.mpr ⟨⟨by decide, (dz_t1 (i := 50) rfl rfl)⟩, (List.forall_mem_cons.mpr ⟨⟨by decide, (dz_t1 (i := 51) rfl rfl)⟩, (List.forall_mem_cons.mpr ⟨⟨by decide, (dz_t1 (i := 52) rfl rfl)⟩, (List.forall_mem_cons.mpr ⟨⟨by decide, (dz_t1 (i := 53) rfl rfl)⟩, (List.forall_mem_cons.mpr ⟨⟨by decide, (dz_t1 (i := 54) rfl rfl)⟩, (List.forall_mem_cons.mpr ⟨⟨by decide, (dz_t1 (i := 55) rfl rfl)⟩, (List.forall_mem_cons.mpr ⟨⟨by decide, (dz_t1 (i := 56) rfl rfl)⟩, (List.forall_mem_cons.mpr ⟨⟨by decide, (dz_t1 (i := 57) rfl rfl)⟩, (fun _ h => absurd h List.not_mem_nil)⟩)⟩)⟩)⟩)⟩)⟩)⟩)⟩)⟩
set_option maxRecDepth 100000 in
set_option maxHeartbeats 4000000 in
theorem dz_cf1 : dz_CF 1 := ⟨(List.forall_mem_cons.mpr ⟨(dz_t1 (i := 34) rfl rfl), (List.forall_mem_cons.mpr ⟨(dz_t1 (i := 36) rfl rfl), (List.forall_mem_cons.mpr ⟨(dz_t1 (i := 38) rfl rfl), (List.forall_mem_cons.mpr ⟨(dz_t1 (i := 40) rfl rfl), (fun _ h => absurd h List.not_mem_nil)⟩)⟩)⟩)⟩), tyX1_ok, nmX1, (List.forall_mem_cons.mpr ⟨⟨by decide, (dz_t1 (i := 30) rfl rfl)⟩, (List.forall_mem_cons.mpr ⟨⟨by decide, (dz_t1 (i := 31) rfl rfl)⟩, (List.forall_mem_cons.mpr ⟨⟨by decide, (dz_t1 (i := 33) rfl rfl)⟩, (List.forall_mem_cons.mpr ⟨⟨by decide, (dz_t1 (i := 32) rfl rfl)⟩, (fun _ h => absurd h List.not_mem_nil)⟩)⟩)⟩)⟩)⟩
set_option maxRecDepth 100000 in
set_option maxHeartbeats 4000000 in
theorem dz_cf2 : dz_CF 2 := ⟨(List.forall_mem_cons.mpr ⟨(dz_t1 (i := 109) rfl rfl), (List.forall_mem_cons.mpr ⟨(dz_t1 (i := 111) rfl rfl), (List.forall_mem_cons.mpr ⟨(dz_t1 (i := 113) rfl rfl), (List.forall_mem_cons.mpr ⟨(dz_t1 (i := 115) rfl rfl), (List.forall_mem_cons.mpr ⟨(dz_t1 (i := 117) rfl rfl), (List.forall_mem_cons.mpr ⟨(dz_t1 (i := 119) rfl rfl), (List.forall_mem_cons.mpr ⟨(dz_t1 (i := 121) rfl rfl), (List.forall_mem_cons.mpr ⟨(dz_t1 (i := 123) rfl rfl), (List.forall_mem_cons.mpr ⟨(dz_t1 (i := 125) rfl rfl), (List.forall_mem_cons.mpr ⟨(dz_t1 (i := 127) rfl rfl), (List.forall_mem_cons.mpr ⟨(dz_t1 (i := 129) rfl rfl), (List.forall_mem_cons.mpr ⟨(dz_t1 (i := 131) rfl rfl), (fun _ h => absurd h List.not_mem_nil)⟩)⟩)⟩)⟩)⟩)⟩)⟩)⟩)⟩)⟩)⟩)⟩), tyX2_ok, nmX2, (List.forall_mem_cons.mpr ⟨⟨by decide, (dz_t1 (i := 97) rfl rfl)⟩, (List.forall_mem_cons.mpr ⟨⟨by decide, (dz_t1 (i := 98) rfl rfl)⟩, (List.forall_mem_cons.mpr ⟨⟨by decide, (dz_t1 (i := 99) rfl rfl)⟩, (List.forall_mem_cons.mpr ⟨⟨by decide, (dz_t1 (i := 100) rfl rfl)⟩, (List.forall_mem_cons.mpr ⟨⟨by decide, (dz_t1 (i := 101) rfl rfl)⟩, (List.forall_mem_cons.mpr ⟨⟨by decide, (dz_t1 (i := 102) rfl rfl)⟩, (List.forall_mem_cons.mpr ⟨⟨by decide, (dz_t1 (i := 103) rfl rfl)⟩, (List.forall_mem_cons.mpr ⟨⟨by decide, (dz_t1 (i := 104) rfl rfl)⟩, (List.forall_mem_cons.mpr ⟨⟨by decide, (dz_t1 (i := 105) rfl rfl)⟩, (List.forall_mem_cons.mpr ⟨⟨by decide, (dz_t1 (i := 107) rfl rfl)⟩, (List.forall_mem_cons.mpr ⟨⟨by decide, (dz_t1 (i := 108) rfl rfl)⟩, (List.forall_mem_cons.mpr ⟨⟨by decide, (dz_t1 (i := 106) rfl rfl)⟩, (fun _ h => absurd h List.not_mem_nil)⟩)⟩)⟩)⟩)⟩)⟩)⟩)⟩)⟩)⟩)⟩)⟩)⟩
set_option maxRecDepth 100000 in
set_option maxHeartbeats 4000000 in
theorem dz_cf3 : dz_CF 3 := ⟨(List.forall_mem_cons.mpr ⟨(dz_t1 (i := 83) rfl rfl), (List.forall_mem_cons.mpr ⟨(dz_t1 (i := 85) rfl rfl), (fun _ h => absurd h List.not_mem_nil)⟩)⟩), tyX3_ok, nmX3, (List.forall_mem_cons.mpr ⟨⟨by decide, (dz_t1 (i := 81) rfl rfl)⟩, (List.forall_mem_cons.mpr ⟨⟨by decide, (dz_t1 (i := 82) rfl rfl)⟩, (fun _ h => absurd h List.not_mem_nil)⟩)⟩)⟩
set_option maxRecDepth 100000 in
set_option maxHeartbeats 4000000 in
theorem dz_cf4 : dz_CF 4 := ⟨(List.forall_mem_cons.mpr ⟨(dz_t1 (i := 144) rfl rfl), (List.forall_mem_cons.mpr ⟨(dz_t1 (i := 146) rfl rfl), (List.forall_mem_cons.mpr ⟨(dz_t1 (i := 148) rfl rfl), (List.forall_mem_cons.mpr ⟨(dz_t1 (i := 150) rfl rfl), (List.forall_mem_cons.mpr ⟨(dz_t1 (i := 152) rfl rfl), (List.forall_mem_cons.mpr ⟨(dz_t1 (i := 154) rfl rfl), (List.forall_mem_cons.mpr ⟨(dz_t1 (i := 156) rfl rfl), (List.forall_mem_cons.mpr ⟨(dz_t1 (i := 158) rfl rfl), (fun _ h => absurd h List.not_mem_nil)⟩)⟩)⟩)⟩)⟩)⟩)⟩)⟩), tyX4_ok, nmX4, (List.forall_mem_cons.mpr ⟨⟨by decide, (dz_t1 (i := 136) rfl rfl)⟩, (List.forall_mem_cons.mpr ⟨⟨by decide, (dz_t1 (i := 137) rfl rfl)⟩, (List.forall_mem_cons.mpr ⟨⟨by decide, (dz_t1 (i := 138) rfl rfl)⟩, (List.forall_mem_cons.mpr ⟨⟨by decide, (dz_t1 (i := 139) rfl rfl)⟩, (List.forall_mem_cons.mpr ⟨⟨by decide, (dz_t1 (i := 140) rfl rfl)⟩, (List.forall_mem_cons.mpr ⟨⟨by decide, (dz_t1 (i := 141) rfl rfl)⟩, (List.forall_mem_cons.mpr ⟨⟨by decide, (dz_t1 (i := 142) rfl rfl)⟩, (List.forall_mem_cons.mpr ⟨⟨by decide, (dz_t1 (i := 143) rfl rfl)⟩, (fun _ h => absurd h List.not_mem_nil)⟩)⟩)⟩)⟩)⟩)⟩)⟩)⟩)⟩
set_option maxRecDepth 100000 in
set_option maxHeartbeats 4000000 in
theorem dz_cf5 : dz_CF 5 := ⟨(List.forall_mem_cons.mpr ⟨(dz_t3 (i := 161) rfl rfl), (List.forall_mem_cons.mpr ⟨(dz_t3 (i := 163) rfl rfl), (List.forall_mem_cons.mpr ⟨(dz_t3 (i := 165) rfl rfl), (List.forall_mem_cons.mpr ⟨(dz_t3 (i := 167) rfl rfl), (List.forall_mem_cons.mpr ⟨(dz_t3 (i := 169) rfl rfl), (List.forall_mem_cons.mpr ⟨(dz_t3 (i := 171) rfl rfl), (List.forall_mem_cons.mpr ⟨(dz_t3 (i := 173) rfl rfl), (List.forall_mem_cons.mpr ⟨(dz_t3 (i := 175) rfl rfl), (List.forall_mem_cons.mpr ⟨(dz_t3 (i := 177) rfl rfl), (List.forall_mem_cons.mpr ⟨(dz_t3 (i := 179) rfl rfl), (List.forall_mem_cons.mpr ⟨(dz_t3 (i := 181) rfl rfl), (List.forall_mem_cons.mpr ⟨(dz_t3 (i := 183) rfl rfl), (List.forall_mem_cons.mpr ⟨(dz_t3 (i := 185) rfl rfl), (List.forall_mem_cons.mpr ⟨(dz_t3 (i := 187) rfl rfl), (List.forall_mem_cons.mpr ⟨(dz_t3 (i := 189) rfl rfl), (List.forall_mem_cons.mpr ⟨(dz_t3 (i := 191) rfl rfl), (List.forall_mem_cons.mpr ⟨(dz_t3 (i := 193) rfl rfl), (List.forall_mem_cons.mpr ⟨(dz_t3 (i := 195) rfl rfl), (List.forall_mem_cons.mpr ⟨(dz_t3 (i := 197) rfl rfl), (List.forall_mem_cons.mpr ⟨(dz_t3 (i := 199) rfl rfl), (List.forall_mem_cons.mpr ⟨(dz_t3 (i := 201) rfl rfl), (List.forall_mem_cons.mpr ⟨(dz_t3 (i := 203) rfl rfl), (List.forall_mem_cons.mpr ⟨(dz_t3 (i := 205) rfl rfl), (List.forall_mem_cons.mpr ⟨(dz_t3 (i := 207) rfl rfl), (List.forall_mem_cons.mpr ⟨(dz_t3 (i := 209) rfl rfl), (List.forall_mem_cons.mpr ⟨(dz_t3 (i := 211) rfl rfl), (List.forall_mem_cons.mpr ⟨(dz_t3 (i := 213) rfl rfl), (List.forall_mem_cons.mpr ⟨(dz_t3 (i := 215) rfl rfl), (List.forall_mem_cons.mpr ⟨(dz_t3 (i := 217) rfl rfl), (List.forall_mem_cons.mpr ⟨(dz_t3 (i := 219) rfl rfl), (List.forall_mem_cons.mpr ⟨(dz_t3 (i := 221) rfl rfl), (fun _ h => absurd h List.not_mem_nil)⟩)⟩)⟩)⟩)⟩)⟩)⟩)⟩)⟩)⟩)⟩)⟩)⟩)⟩)⟩)⟩)⟩)⟩)⟩)⟩)⟩)⟩)⟩)⟩)⟩)⟩)⟩)⟩)⟩)⟩)⟩), tyX5_ok, nmX5, (List.forall_mem_cons.mpr ⟨⟨by decide, (dz_t3 (i := 134) rfl rfl)⟩, (List.forall_mem_cons.mpr ⟨⟨by decide, (dz_t3 (i := 135) rfl rfl)⟩, (List.forall_mem_cons.mpr ⟨⟨by decide, (dz_t3 (i := 136) rfl rfl)⟩, (List.forall_mem_cons.mpr ⟨⟨by decide, (dz_t3 (i := 138) rfl rfl)⟩, (List.forall_mem_cons.mpr ⟨⟨by decide, (dz_t3 (i := 139) rfl rfl)⟩, (List.forall_mem_cons.mpr ⟨⟨by decide, (dz_t3 (i := 140) rfl rfl)⟩, (List.forall_mem_cons.mpr ⟨⟨by decide, (dz_t3 (i := 141) rfl rfl)⟩, (List.forall_mem_cons.mpr ⟨⟨by decide, (dz_t3 (i := 142) rfl rfl)⟩, (List.forall_mem_cons.mpr ⟨⟨by decide, (dz_t3 (i := 143) rfl rfl)⟩, (List.forall_mem_cons.mpr ⟨⟨by decide, (dz_t3 (i := 144) rfl rfl)⟩, (List.forall_mem_cons.mpr ⟨⟨by decide, (dz_t3 (i := 145) rfl rfl)⟩, (List.forall_mem_cons.mpr ⟨⟨by decide, (dz_t3 (i := 146) rfl rfl)⟩, (List.forall_mem_cons.mpr ⟨⟨by decide, (dz_t3 (i := 147) rfl rfl)⟩, (List.forall_mem_cons.mpr ⟨⟨by decide, (dz_t3 (i := 148) rfl rfl)⟩, (List.forall_mem_cons.mpr ⟨⟨by decide, (dz_t3 (i := 149) rfl rfl)⟩, (List.forall_mem_cons.mpr ⟨⟨by decide, (dz_t3 (i := 150) rfl rfl)⟩, (List.forall_mem_cons.mpr ⟨⟨by decide, (dz_t3 (i := 151) rfl rfl)⟩, (List.forall_mem_cons.mpr ⟨⟨by decide, (dz_t3 (i := 152) rfl rfl)⟩, (List.forall_mem_cons.mpr ⟨⟨by decide, (dz_t3 (i := 153) rfl rfl)⟩, (List.forall_mem_cons.mpr ⟨⟨by decide, (dz_t3 (i := 154) rfl rfl)⟩, (List.forall_mem_cons.mpr ⟨⟨by decide, (dz_t3 (i := 155) rfl rfl)⟩, (List.forall_mem_cons.mpr ⟨⟨by decide, (dz_t3 (i := 156) rfl rfl)⟩, (List.forall_mem_cons.mpr ⟨⟨by decide, (dz_t3 (i := 157) rfl rfl)⟩, (List.forall_mem_cons.mpr ⟨⟨by decide, (dz_t3 (i := 158) rfl rfl)⟩, (List.forall_mem_cons.mpr ⟨⟨by decide, (dz_t3 (i := 159) rfl rfl)⟩, (List.forall_mem_cons.mpr ⟨⟨by decide, (dz_t3 (i := 160) rfl rfl)⟩, (List.forall_mem_cons.mpr ⟨⟨by decide, (dz_t3 (i := 130) rfl rfl)⟩, (List.forall_mem_cons.mpr ⟨⟨by decide, (dz_t3 (i := 131) rfl rfl)⟩, (List.forall_mem_cons.mpr ⟨⟨by decide, (dz_t3 (i := 132) rfl rfl)⟩, (List.forall_mem_cons.mpr ⟨⟨by decide, (dz_t3 (i := 133) rfl rfl)⟩, (List.forall_mem_cons.mpr ⟨⟨by decide, (dz_t3 (i := 137) rfl rfl)⟩, (fun _ h => absurd h List.not_mem_nil)⟩)⟩)⟩)⟩)⟩)⟩)⟩)⟩)⟩)⟩)⟩)⟩)⟩)⟩)⟩)⟩)⟩)⟩)⟩)⟩)⟩)⟩)⟩)⟩)⟩)⟩)⟩)⟩)⟩)⟩)⟩)⟩
theorem dz_cl : ∀ own, own < 6 → vwCl[own]? = some (dz_R own, dz_T own, dz_N own)
  | 0, _ => rfl
  | 1, _ => rfl
  | 2, _ => rfl
  | 3, _ => rfl
  | 4, _ => rfl
  | 5, _ => rfl
  | k + 6, h => absurd h (by omega)
theorem dz_cf : ∀ own, own < 6 → dz_CF own
  | 0, _ => dz_cf0
  | 1, _ => dz_cf1
  | 2, _ => dz_cf2
  | 3, _ => dz_cf3
  | 4, _ => dz_cf4
  | 5, _ => dz_cf5
  | k + 6, h => absurd h (by omega)
abbrev dz_Mu : Type := MethodName × ByteArray × Nat × Option FieldType
abbrev mX0_init : dz_Mu := (yX0_init, cX0_init, 1, none)
abbrev mX0_number : dz_Mu := (yX0_number, cX0_number, 1, (some .int))
abbrev mX0_placeNumber : dz_Mu := (yX0_placeNumber, cX0_placeNumber, 1, (some .int))
abbrev mX0_has : dz_Mu := (yX0_has, cX0_has, 2, (some .boolean))
abbrev mX0_hasPlace : dz_Mu := (yX0_hasPlace, cX0_hasPlace, 2, (some .boolean))
abbrev mX0_canTakeOne : dz_Mu := (yX0_canTakeOne, cX0_canTakeOne, 2, (some .boolean))
abbrev mX0_take : dz_Mu := (yX0_take, cX0_take, 5, (some .int))
abbrev mX0_columnOf : dz_Mu := (yX0_columnOf, cX0_columnOf, 2, (some .int))
abbrev mX0_startOf : dz_Mu := (yX0_startOf, cX0_startOf, 2, (some .int))
abbrev mX0_endOf : dz_Mu := (yX0_endOf, cX0_endOf, 2, (some .int))
abbrev mX0_footOf : dz_Mu := (yX0_footOf, cX0_footOf, 2, (some .int))
abbrev mX0_headOf : dz_Mu := (yX0_headOf, cX0_headOf, 2, (some .int))
abbrev mX0_isFoot : dz_Mu := (yX0_isFoot, cX0_isFoot, 2, (some .boolean))
abbrev mX0_isHead : dz_Mu := (yX0_isHead, cX0_isHead, 2, (some .boolean))
abbrev mX0_isFull : dz_Mu := (yX0_isFull, cX0_isFull, 2, (some .boolean))
abbrev mX0_allowsNext : dz_Mu := (yX0_allowsNext, cX0_allowsNext, 3, (some .boolean))
abbrev mX0_nextColumn : dz_Mu := (yX0_nextColumn, cX0_nextColumn, 4, (some .int))
abbrev mX0_placeOfStone : dz_Mu := (yX0_placeOfStone, cX0_placeOfStone, 6, (some .int))
abbrev mX1_init : dz_Mu := (yX1_init, cX1_init, 1, none)
abbrev mX1_number : dz_Mu := (yX1_number, cX1_number, 1, (some .int))
abbrev mX1_has : dz_Mu := (yX1_has, cX1_has, 2, (some .boolean))
abbrev mX1_fact : dz_Mu := (yX1_fact, cX1_fact, 3, (some .int))
abbrev mX1_keepMeasured : dz_Mu := (yX1_keepMeasured, cX1_keepMeasured, 5, none)
abbrev mX1_canTakeOne : dz_Mu := (yX1_canTakeOne, cX1_canTakeOne, 1, (some .boolean))
abbrev mX1_take : dz_Mu := (yX1_take, cX1_take, 6, (some .int))
abbrev mX1_areAlike : dz_Mu := (yX1_areAlike, cX1_areAlike, 2, (some .boolean))
abbrev mX1_turned : dz_Mu := (yX1_turned, cX1_turned, 3, (some .int))
abbrev mX1_leastTurn : dz_Mu := (yX1_leastTurn, cX1_leastTurn, 3, (some .int))
abbrev mX1_turnOn : dz_Mu := (yX1_turnOn, cX1_turnOn, 7, (some .int))
abbrev mX1_lyingOn : dz_Mu := (yX1_lyingOn, cX1_lyingOn, 5, (some .int))
abbrev mJ6_bitCount_0f7a4 : dz_Mu := (yJ6_bitCount_0f7a4, cJ6_bitCount_0f7a4, 1, (some .int))
abbrev mX1_pairsLying : dz_Mu := (yX1_pairsLying, cX1_pairsLying, 4, (some .int))
abbrev mX1_meanHeight : dz_Mu := (yX1_meanHeight, cX1_meanHeight, 3, (some .int))
abbrev mX2_init : dz_Mu := (yX2_init, cX2_init, 1, none)
abbrev mX2_leastNew : dz_Mu := (yX2_leastNew, cX2_leastNew, 1, (some .int))
abbrev mX2_bestWays : dz_Mu := (yX2_bestWays, cX2_bestWays, 1, (some .long))
abbrev mX2_hasWay : dz_Mu := (yX2_hasWay, cX2_hasWay, 1, (some .boolean))
abbrev mX2_isPlace : dz_Mu := (yX2_isPlace, cX2_isPlace, 2, (some .boolean))
abbrev mX2_firstAt : dz_Mu := (yX2_firstAt, cX2_firstAt, 2, (some .int))
abbrev mX2_bestHeldAt : dz_Mu := (yX2_bestHeldAt, cX2_bestHeldAt, 2, (some .int))
abbrev mX2_clear : dz_Mu := (yX2_clear, cX2_clear, 4, none)
abbrev mX2_allowOver : dz_Mu := (yX2_allowOver, cX2_allowOver, 3, none)
abbrev mX2_allowAt : dz_Mu := (yX2_allowAt, cX2_allowAt, 4, none)
abbrev mX2_itemsFor : dz_Mu := (yX2_itemsFor, cX2_itemsFor, 3, (some .int))
abbrev mX4_hasBit : dz_Mu := (yX4_hasBit, cX4_hasBit, 2, (some .boolean))
abbrev mX2_after : dz_Mu := (yX2_after, cX2_after, 5, (some .int))
abbrev mX2_reach : dz_Mu := (yX2_reach, cX2_reach, 6, none)
abbrev mX2_spreadDrums : dz_Mu := (yX2_spreadDrums, cX2_spreadDrums, 10, none)
abbrev mX2_spreadNew : dz_Mu := (yX2_spreadNew, cX2_spreadNew, 6, none)
abbrev mX2_reachWith : dz_Mu := (yX2_reachWith, cX2_reachWith, 3, none)
abbrev mX2_itemsToBest : dz_Mu := (yX2_itemsToBest, cX2_itemsToBest, 6, (some .int))
abbrev mX2_dropAllButBest : dz_Mu := (yX2_dropAllButBest, cX2_dropAllButBest, 6, none)
abbrev mX2_lowest : dz_Mu := (yX2_lowest, cX2_lowest, 2, (some .int))
abbrev mX2_walkFirst : dz_Mu := (yX2_walkFirst, cX2_walkFirst, 4, none)
abbrev mX2_findBest : dz_Mu := (yX2_findBest, cX2_findBest, 2, none)
abbrev mX3_init : dz_Mu := (yX3_init, cX3_init, 2, none)
abbrev mX3_isRow : dz_Mu := (yX3_isRow, cX3_isRow, 1, (some .boolean))
abbrev mX3_tell : dz_Mu := (yX3_tell, cX3_tell, 3, none)
abbrev mX3_toldOf : dz_Mu := (yX3_toldOf, cX3_toldOf, 2, (some .int))
abbrev mX3_toldNumber : dz_Mu := (yX3_toldNumber, cX3_toldNumber, 3, (some .int))
abbrev mX3_bar : dz_Mu := (yX3_bar, cX3_bar, 5, none)
abbrev mX3_isBarred : dz_Mu := (yX3_isBarred, cX3_isBarred, 3, (some .boolean))
abbrev mX4_init : dz_Mu := (yX4_init, cX4_init, 1, none)
abbrev mX4_isWithin : dz_Mu := (yX4_isWithin, cX4_isWithin, 3, (some .boolean))
abbrev mX4_isWidth : dz_Mu := (yX4_isWidth, cX4_isWidth, 1, (some .boolean))
abbrev mX4_measure : dz_Mu := (yX4_measure, cX4_measure, 5, (some .boolean))
abbrev mX4_isHoles : dz_Mu := (yX4_isHoles, cX4_isHoles, 1, (some .boolean))
abbrev mX4_drum : dz_Mu := (yX4_drum, cX4_drum, 6, (some .int))
abbrev mX4_set : dz_Mu := (yX4_set, cX4_set, 4, (some .boolean))
abbrev mX4_isWidthOrUntold : dz_Mu := (yX4_isWidthOrUntold, cX4_isWidthOrUntold, 1, (some .boolean))
abbrev mX4_column : dz_Mu := (yX4_column, cX4_column, 4, (some .int))
abbrev mX4_turn : dz_Mu := (yX4_turn, cX4_turn, 3, (some .int))
abbrev mX4_agrees : dz_Mu := (yX4_agrees, cX4_agrees, 4, (some .boolean))
abbrev mX4_fitsFoot : dz_Mu := (yX4_fitsFoot, cX4_fitsFoot, 3, (some .boolean))
abbrev mX4_fitsHead : dz_Mu := (yX4_fitsHead, cX4_fitsHead, 3, (some .boolean))
abbrev mX4_fits : dz_Mu := (yX4_fits, cX4_fits, 4, (some .int))
abbrev mX4_hand : dz_Mu := (yX4_hand, cX4_hand, 3, (some .boolean))
abbrev mX4_not : dz_Mu := (yX4_not, cX4_not, 4, (some .boolean))
abbrev mX4_itemsAllowedAt : dz_Mu := (yX4_itemsAllowedAt, cX4_itemsAllowedAt, 5, (some .int))
abbrev mX4_drawPaper : dz_Mu := (yX4_drawPaper, cX4_drawPaper, 2, none)
abbrev mX4_least : dz_Mu := (yX4_least, cX4_least, 1, (some .int))
abbrev mX4_ways : dz_Mu := (yX4_ways, cX4_ways, 1, (some .long))
abbrev mX4_first : dz_Mu := (yX4_first, cX4_first, 2, (some .int))
abbrev mX4_sure : dz_Mu := (yX4_sure, cX4_sure, 3, (some .int))
abbrev mX4_open : dz_Mu := (yX4_open, cX4_open, 4, (some .int))
abbrev mX4_loadOver : dz_Mu := (yX4_loadOver, cX4_loadOver, 6, (some .int))
abbrev mX4_bears : dz_Mu := (yX4_bears, cX4_bears, 3, (some .int))
abbrev mX4_cracked : dz_Mu := (yX4_cracked, cX4_cracked, 4, (some .int))
abbrev mX4_setting : dz_Mu := (yX4_setting, cX4_setting, 2, (some .int))
abbrev mX4_heightOf : dz_Mu := (yX4_heightOf, cX4_heightOf, 2, (some .int))
abbrev mX4_tall : dz_Mu := (yX4_tall, cX4_tall, 5, (some .int))
abbrev mX4_told : dz_Mu := (yX4_told, cX4_told, 3, (some .int))
abbrev mX4_place : dz_Mu := (yX4_place, cX4_place, 3, (some .int))
abbrev mX4_count : dz_Mu := (yX4_count, cX4_count, 2, (some .int))
abbrev mX5_init : dz_Mu := (yX5_init, cX5_init, 1, none)
abbrev mX5_thrown : dz_Mu := (yX5_thrown, cX5_thrown, 1, (some .int))
abbrev mX5_isIn : dz_Mu := (yX5_isIn, cX5_isIn, 3, (some .boolean))
abbrev mX5_isWidth : dz_Mu := (yX5_isWidth, cX5_isWidth, 1, (some .boolean))
abbrev mX5_isDrum : dz_Mu := (yX5_isDrum, cX5_isDrum, 2, (some .boolean))
abbrev mX5_isColumn : dz_Mu := (yX5_isColumn, cX5_isColumn, 2, (some .boolean))
abbrev mX5_isPlace : dz_Mu := (yX5_isPlace, cX5_isPlace, 2, (some .boolean))
abbrev mX5_measure : dz_Mu := (yX5_measure, cX5_measure, 5, (some .boolean))
abbrev mX5_drum : dz_Mu := (yX5_drum, cX5_drum, 6, (some .int))
abbrev mX5_set : dz_Mu := (yX5_set, cX5_set, 4, (some .boolean))
abbrev mX5_column : dz_Mu := (yX5_column, cX5_column, 5, (some .int))
abbrev mX5_turnOf : dz_Mu := (yX5_turnOf, cX5_turnOf, 5, (some .int))
abbrev mX5_turn : dz_Mu := (yX5_turn, cX5_turn, 3, (some .int))
abbrev mX5_fitsFoot : dz_Mu := (yX5_fitsFoot, cX5_fitsFoot, 3, (some .boolean))
abbrev mX5_fitsHead : dz_Mu := (yX5_fitsHead, cX5_fitsHead, 3, (some .boolean))
abbrev mX5_fits : dz_Mu := (yX5_fits, cX5_fits, 3, (some .int))
abbrev mX5_hand : dz_Mu := (yX5_hand, cX5_hand, 3, (some .boolean))
abbrev mX5_not : dz_Mu := (yX5_not, cX5_not, 4, (some .boolean))
abbrev mX5_index : dz_Mu := (yX5_index, cX5_index, 3, (some .int))
abbrev mX5_may : dz_Mu := (yX5_may, cX5_may, 8, (some .boolean))
abbrev mX5_behind : dz_Mu := (yX5_behind, cX5_behind, 4, (some .int))
abbrev mX5_isBest : dz_Mu := (yX5_isBest, cX5_isBest, 6, (some .boolean))
abbrev mX5_find : dz_Mu := (yX5_find, cX5_find, 8, (some .boolean))
abbrev mX5_use : dz_Mu := (yX5_use, cX5_use, 7, none)
abbrev mX5_least : dz_Mu := (yX5_least, cX5_least, 1, (some .int))
abbrev mX5_ways : dz_Mu := (yX5_ways, cX5_ways, 1, (some .long))
abbrev mX5_first : dz_Mu := (yX5_first, cX5_first, 2, (some .int))
abbrev mX5_sure : dz_Mu := (yX5_sure, cX5_sure, 3, (some .int))
abbrev mX5_open : dz_Mu := (yX5_open, cX5_open, 4, (some .int))
abbrev mX5_borne : dz_Mu := (yX5_borne, cX5_borne, 5, (some .int))
abbrev mX5_bears : dz_Mu := (yX5_bears, cX5_bears, 2, (some .int))
abbrev mX5_cracked : dz_Mu := (yX5_cracked, cX5_cracked, 3, (some .int))
abbrev mX5_isFull : dz_Mu := (yX5_isFull, cX5_isFull, 2, (some .boolean))
abbrev mX5_isLevel : dz_Mu := (yX5_isLevel, cX5_isLevel, 3, (some .boolean))
abbrev mX5_setting : dz_Mu := (yX5_setting, cX5_setting, 8, (some .int))
abbrev mX5_tall : dz_Mu := (yX5_tall, cX5_tall, 6, (some .int))
abbrev mX5_told : dz_Mu := (yX5_told, cX5_told, 3, (some .int))
abbrev mX5_place : dz_Mu := (yX5_place, cX5_place, 3, (some .int))
abbrev mX5_count : dz_Mu := (yX5_count, cX5_count, 5, (some .int))
abbrev mJ9_abs_0f7a4 : dz_Mu := (yJ9_abs_0f7a4, cJ9_abs_0f7a4, 1, (some .int))
abbrev mJ9_max_7cf53 : dz_Mu := (yJ9_max_7cf53, cJ9_max_7cf53, 2, (some .int))
abbrev mJ9_min_7cf53 : dz_Mu := (yJ9_min_7cf53, cJ9_min_7cf53, 2, (some .int))
abbrev mL_told : dz_Mu := (yL_told, cL_told, 5, (some .int))
def dz_MW (μ : dz_Mu) (n : Nat) : Prop := Cond.initialized μ.1.cls ∈ dz_WS ∧ Cond.code μ.1 μ.2.1 μ.2.2.1 μ.2.2.2 ∈ dz_WS ∧ μ.1.cls ≠ "java/lang/invoke/MethodHandle" ∧ μ.1.cls ≠ "java/lang/invoke/VarHandle" ∧ (parseMethodDescriptor μ.1.desc).map (fun d => d.parameters.length) = some n ∧ plainName μ.1.cls = true
def dz_Lv (own : String) (idx : Nat) (μ : dz_Mu) (n : Nat) : Prop := dz_MW μ n ∧ Cond.methodLink own idx μ.1 ∈ dz_WS ∧ Cond.instanceMethod μ.1 ∈ dz_WS ∧ Cond.selects μ.1.cls μ.1 μ.1 ∈ dz_WS
def dz_Ls (own : String) (idx : Nat) (μ : dz_Mu) (n : Nat) : Prop := dz_MW μ n ∧ Cond.methodLink own idx μ.1 ∈ dz_WS ∧ Cond.static μ.1 ∈ dz_WS
theorem dz_mX0_init : dz_MW mX0_init 0 := ⟨(dz_t1 (i := 3) rfl rfl), (dz_t1 (i := 48) rfl rfl), by decide, by decide, by decide +kernel, by decide⟩
theorem dz_mX0_number : dz_MW mX0_number 0 := ⟨(dz_t1 (i := 3) rfl rfl), (dz_t3 (i := 38) rfl rfl), by decide, by decide, by decide +kernel, by decide⟩
theorem dz_mX0_placeNumber : dz_MW mX0_placeNumber 0 := ⟨(dz_t1 (i := 3) rfl rfl), (dz_t2 (i := 81) rfl rfl), by decide, by decide, by decide +kernel, by decide⟩
theorem dz_mX0_has : dz_MW mX0_has 1 := ⟨(dz_t1 (i := 3) rfl rfl), (dz_t2 (i := 9) rfl rfl), by decide, by decide, by decide +kernel, by decide⟩
theorem dz_mX0_hasPlace : dz_MW mX0_hasPlace 1 := ⟨(dz_t1 (i := 3) rfl rfl), (dz_t2 (i := 43) rfl rfl), by decide, by decide, by decide +kernel, by decide⟩
theorem dz_mX0_canTakeOne : dz_MW mX0_canTakeOne 1 := ⟨(dz_t1 (i := 3) rfl rfl), (dz_t1 (i := 210) rfl rfl), by decide, by decide, by decide +kernel, by decide⟩
theorem dz_mX0_take : dz_MW mX0_take 3 := ⟨(dz_t1 (i := 3) rfl rfl), (dz_t1 (i := 214) rfl rfl), by decide, by decide, by decide +kernel, by decide⟩
theorem dz_mX0_columnOf : dz_MW mX0_columnOf 1 := ⟨(dz_t1 (i := 3) rfl rfl), (dz_t2 (i := 112) rfl rfl), by decide, by decide, by decide +kernel, by decide⟩
theorem dz_mX0_startOf : dz_MW mX0_startOf 1 := ⟨(dz_t1 (i := 3) rfl rfl), (dz_t2 (i := 122) rfl rfl), by decide, by decide, by decide +kernel, by decide⟩
theorem dz_mX0_endOf : dz_MW mX0_endOf 1 := ⟨(dz_t1 (i := 3) rfl rfl), (dz_t2 (i := 130) rfl rfl), by decide, by decide, by decide +kernel, by decide⟩
theorem dz_mX0_footOf : dz_MW mX0_footOf 1 := ⟨(dz_t1 (i := 3) rfl rfl), (dz_t2 (i := 21) rfl rfl), by decide, by decide, by decide +kernel, by decide⟩
theorem dz_mX0_headOf : dz_MW mX0_headOf 1 := ⟨(dz_t1 (i := 3) rfl rfl), (dz_t2 (i := 35) rfl rfl), by decide, by decide, by decide +kernel, by decide⟩
theorem dz_mX0_isFoot : dz_MW mX0_isFoot 1 := ⟨(dz_t1 (i := 3) rfl rfl), (dz_t2 (i := 117) rfl rfl), by decide, by decide, by decide +kernel, by decide⟩
theorem dz_mX0_isHead : dz_MW mX0_isHead 1 := ⟨(dz_t1 (i := 3) rfl rfl), (dz_t2 (i := 126) rfl rfl), by decide, by decide, by decide +kernel, by decide⟩
theorem dz_mX0_isFull : dz_MW mX0_isFull 1 := ⟨(dz_t1 (i := 3) rfl rfl), (dz_t3 (i := 9) rfl rfl), by decide, by decide, by decide +kernel, by decide⟩
theorem dz_mX0_allowsNext : dz_MW mX0_allowsNext 2 := ⟨(dz_t1 (i := 3) rfl rfl), (dz_t3 (i := 13) rfl rfl), by decide, by decide, by decide +kernel, by decide⟩
theorem dz_mX0_nextColumn : dz_MW mX0_nextColumn 1 := ⟨(dz_t1 (i := 3) rfl rfl), (dz_t3 (i := 5) rfl rfl), by decide, by decide, by decide +kernel, by decide⟩
theorem dz_mX0_placeOfStone : dz_MW mX0_placeOfStone 2 := ⟨(dz_t1 (i := 3) rfl rfl), (dz_t3 (i := 1) rfl rfl), by decide, by decide, by decide +kernel, by decide⟩
theorem dz_mX1_init : dz_MW mX1_init 0 := ⟨(dz_t1 (i := 2) rfl rfl), (dz_t1 (i := 26) rfl rfl), by decide, by decide, by decide +kernel, by decide⟩
theorem dz_mX1_number : dz_MW mX1_number 0 := ⟨(dz_t1 (i := 2) rfl rfl), (dz_t2 (i := 95) rfl rfl), by decide, by decide, by decide +kernel, by decide⟩
theorem dz_mX1_has : dz_MW mX1_has 1 := ⟨(dz_t1 (i := 2) rfl rfl), (dz_t1 (i := 227) rfl rfl), by decide, by decide, by decide +kernel, by decide⟩
theorem dz_mX1_fact : dz_MW mX1_fact 2 := ⟨(dz_t1 (i := 2) rfl rfl), (dz_t2 (i := 17) rfl rfl), by decide, by decide, by decide +kernel, by decide⟩
theorem dz_mX1_keepMeasured : dz_MW mX1_keepMeasured 4 := ⟨(dz_t1 (i := 2) rfl rfl), (dz_t1 (i := 174) rfl rfl), by decide, by decide, by decide +kernel, by decide⟩
theorem dz_mX1_canTakeOne : dz_MW mX1_canTakeOne 0 := ⟨(dz_t1 (i := 2) rfl rfl), (dz_t1 (i := 187) rfl rfl), by decide, by decide, by decide +kernel, by decide⟩
theorem dz_mX1_take : dz_MW mX1_take 5 := ⟨(dz_t1 (i := 2) rfl rfl), (dz_t1 (i := 191) rfl rfl), by decide, by decide, by decide +kernel, by decide⟩
theorem dz_mX1_areAlike : dz_MW mX1_areAlike 2 := ⟨(dz_t1 (i := 2) rfl rfl), (dz_t1 (i := 233) rfl rfl), by decide, by decide, by decide +kernel, by decide⟩
theorem dz_mX1_turned : dz_MW mX1_turned 2 := ⟨(dz_t1 (i := 2) rfl rfl), (dz_t1 (i := 239) rfl rfl), by decide, by decide, by decide +kernel, by decide⟩
theorem dz_mX1_leastTurn : dz_MW mX1_leastTurn 2 := ⟨(dz_t1 (i := 2) rfl rfl), (dz_t1 (i := 236) rfl rfl), by decide, by decide, by decide +kernel, by decide⟩
theorem dz_mX1_turnOn : dz_MW mX1_turnOn 3 := ⟨(dz_t1 (i := 2) rfl rfl), (dz_t1 (i := 223) rfl rfl), by decide, by decide, by decide +kernel, by decide⟩
theorem dz_mX1_lyingOn : dz_MW mX1_lyingOn 2 := ⟨(dz_t1 (i := 2) rfl rfl), (dz_t2 (i := 99) rfl rfl), by decide, by decide, by decide +kernel, by decide⟩
theorem dz_mJ6_bitCount_0f7a4 : dz_MW mJ6_bitCount_0f7a4 1 := ⟨(dz_t1 (i := 13) rfl rfl), (dz_t3 (i := 46) rfl rfl), by decide, by decide, by decide +kernel, by decide⟩
theorem dz_mX1_pairsLying : dz_MW mX1_pairsLying 1 := ⟨(dz_t1 (i := 2) rfl rfl), (dz_t3 (i := 42) rfl rfl), by decide, by decide, by decide +kernel, by decide⟩
theorem dz_mX1_meanHeight : dz_MW mX1_meanHeight 0 := ⟨(dz_t1 (i := 2) rfl rfl), (dz_t3 (i := 26) rfl rfl), by decide, by decide, by decide +kernel, by decide⟩
theorem dz_mX2_init : dz_MW mX2_init 0 := ⟨(dz_t1 (i := 5) rfl rfl), (dz_t1 (i := 92) rfl rfl), by decide, by decide, by decide +kernel, by decide⟩
theorem dz_mX2_leastNew : dz_MW mX2_leastNew 0 := ⟨(dz_t1 (i := 5) rfl rfl), (dz_t2 (i := 190) rfl rfl), by decide, by decide, by decide +kernel, by decide⟩
theorem dz_mX2_bestWays : dz_MW mX2_bestWays 0 := ⟨(dz_t1 (i := 5) rfl rfl), (dz_t2 (i := 198) rfl rfl), by decide, by decide, by decide +kernel, by decide⟩
theorem dz_mX2_hasWay : dz_MW mX2_hasWay 0 := ⟨(dz_t1 (i := 5) rfl rfl), (dz_t2 (i := 183) rfl rfl), by decide, by decide, by decide +kernel, by decide⟩
theorem dz_mX2_isPlace : dz_MW mX2_isPlace 1 := ⟨(dz_t1 (i := 5) rfl rfl), (dz_t2 (i := 138) rfl rfl), by decide, by decide, by decide +kernel, by decide⟩
theorem dz_mX2_firstAt : dz_MW mX2_firstAt 1 := ⟨(dz_t1 (i := 5) rfl rfl), (dz_t2 (i := 206) rfl rfl), by decide, by decide, by decide +kernel, by decide⟩
theorem dz_mX2_bestHeldAt : dz_MW mX2_bestHeldAt 1 := ⟨(dz_t1 (i := 5) rfl rfl), (dz_t2 (i := 214) rfl rfl), by decide, by decide, by decide +kernel, by decide⟩
theorem dz_mX2_clear : dz_MW mX2_clear 1 := ⟨(dz_t1 (i := 5) rfl rfl), (dz_t2 (i := 85) rfl rfl), by decide, by decide, by decide +kernel, by decide⟩
theorem dz_mX2_allowOver : dz_MW mX2_allowOver 2 := ⟨(dz_t1 (i := 5) rfl rfl), (dz_t2 (i := 104) rfl rfl), by decide, by decide, by decide +kernel, by decide⟩
theorem dz_mX2_allowAt : dz_MW mX2_allowAt 3 := ⟨(dz_t1 (i := 5) rfl rfl), (dz_t2 (i := 134) rfl rfl), by decide, by decide, by decide +kernel, by decide⟩
theorem dz_mX2_itemsFor : dz_MW mX2_itemsFor 2 := ⟨(dz_t1 (i := 5) rfl rfl), (dz_t2 (i := 154) rfl rfl), by decide, by decide, by decide +kernel, by decide⟩
theorem dz_mX4_hasBit : dz_MW mX4_hasBit 2 := ⟨(dz_t1 (i := 1) rfl rfl), (dz_t2 (i := 65) rfl rfl), by decide, by decide, by decide +kernel, by decide⟩
theorem dz_mX2_after : dz_MW mX2_after 3 := ⟨(dz_t1 (i := 5) rfl rfl), (dz_t2 (i := 159) rfl rfl), by decide, by decide, by decide +kernel, by decide⟩
theorem dz_mX2_reach : dz_MW mX2_reach 3 := ⟨(dz_t1 (i := 5) rfl rfl), (dz_t2 (i := 163) rfl rfl), by decide, by decide, by decide +kernel, by decide⟩
theorem dz_mX2_spreadDrums : dz_MW mX2_spreadDrums 2 := ⟨(dz_t1 (i := 5) rfl rfl), (dz_t2 (i := 150) rfl rfl), by decide, by decide, by decide +kernel, by decide⟩
theorem dz_mX2_spreadNew : dz_MW mX2_spreadNew 2 := ⟨(dz_t1 (i := 5) rfl rfl), (dz_t2 (i := 167) rfl rfl), by decide, by decide, by decide +kernel, by decide⟩
theorem dz_mX2_reachWith : dz_MW mX2_reachWith 1 := ⟨(dz_t1 (i := 5) rfl rfl), (dz_t2 (i := 146) rfl rfl), by decide, by decide, by decide +kernel, by decide⟩
theorem dz_mX2_itemsToBest : dz_MW mX2_itemsToBest 2 := ⟨(dz_t1 (i := 5) rfl rfl), (dz_t2 (i := 175) rfl rfl), by decide, by decide, by decide +kernel, by decide⟩
theorem dz_mX2_dropAllButBest : dz_MW mX2_dropAllButBest 0 := ⟨(dz_t1 (i := 5) rfl rfl), (dz_t2 (i := 171) rfl rfl), by decide, by decide, by decide +kernel, by decide⟩
theorem dz_mX2_lowest : dz_MW mX2_lowest 1 := ⟨(dz_t1 (i := 5) rfl rfl), (dz_t2 (i := 186) rfl rfl), by decide, by decide, by decide +kernel, by decide⟩
theorem dz_mX2_walkFirst : dz_MW mX2_walkFirst 0 := ⟨(dz_t1 (i := 5) rfl rfl), (dz_t2 (i := 179) rfl rfl), by decide, by decide, by decide +kernel, by decide⟩
theorem dz_mX2_findBest : dz_MW mX2_findBest 0 := ⟨(dz_t1 (i := 5) rfl rfl), (dz_t2 (i := 142) rfl rfl), by decide, by decide, by decide +kernel, by decide⟩
theorem dz_mX3_init : dz_MW mX3_init 0 := ⟨(dz_t1 (i := 4) rfl rfl), (dz_t1 (i := 79) rfl rfl), by decide, by decide, by decide +kernel, by decide⟩
theorem dz_mX3_isRow : dz_MW mX3_isRow 1 := ⟨(dz_t1 (i := 4) rfl rfl), (dz_t2 (i := 50) rfl rfl), by decide, by decide, by decide +kernel, by decide⟩
theorem dz_mX3_tell : dz_MW mX3_tell 2 := ⟨(dz_t1 (i := 4) rfl rfl), (dz_t2 (i := 54) rfl rfl), by decide, by decide, by decide +kernel, by decide⟩
theorem dz_mX3_toldOf : dz_MW mX3_toldOf 1 := ⟨(dz_t1 (i := 4) rfl rfl), (dz_t2 (i := 47) rfl rfl), by decide, by decide, by decide +kernel, by decide⟩
theorem dz_mX3_toldNumber : dz_MW mX3_toldNumber 0 := ⟨(dz_t1 (i := 4) rfl rfl), (dz_t3 (i := 53) rfl rfl), by decide, by decide, by decide +kernel, by decide⟩
theorem dz_mX3_bar : dz_MW mX3_bar 3 := ⟨(dz_t1 (i := 4) rfl rfl), (dz_t2 (i := 69) rfl rfl), by decide, by decide, by decide +kernel, by decide⟩
theorem dz_mX3_isBarred : dz_MW mX3_isBarred 2 := ⟨(dz_t1 (i := 4) rfl rfl), (dz_t2 (i := 62) rfl rfl), by decide, by decide, by decide +kernel, by decide⟩
theorem dz_mX4_init : dz_MW mX4_init 0 := ⟨(dz_t1 (i := 1) rfl rfl), (dz_t1 (i := 18) rfl rfl), by decide, by decide, by decide +kernel, by decide⟩
theorem dz_mX4_isWithin : dz_MW mX4_isWithin 3 := ⟨(dz_t1 (i := 1) rfl rfl), (dz_t1 (i := 170) rfl rfl), by decide, by decide, by decide +kernel, by decide⟩
theorem dz_mX4_isWidth : dz_MW mX4_isWidth 1 := ⟨(dz_t1 (i := 1) rfl rfl), (dz_t1 (i := 167) rfl rfl), by decide, by decide, by decide +kernel, by decide⟩
theorem dz_mX4_measure : dz_MW mX4_measure 4 := ⟨(dz_t1 (i := 1) rfl rfl), (dz_t1 (i := 164) rfl rfl), by decide, by decide, by decide +kernel, by decide⟩
theorem dz_mX4_isHoles : dz_MW mX4_isHoles 1 := ⟨(dz_t1 (i := 1) rfl rfl), (dz_t1 (i := 181) rfl rfl), by decide, by decide, by decide +kernel, by decide⟩
theorem dz_mX4_drum : dz_MW mX4_drum 5 := ⟨(dz_t1 (i := 1) rfl rfl), (dz_t1 (i := 178) rfl rfl), by decide, by decide, by decide +kernel, by decide⟩
theorem dz_mX4_set : dz_MW mX4_set 3 := ⟨(dz_t1 (i := 1) rfl rfl), (dz_t1 (i := 199) rfl rfl), by decide, by decide, by decide +kernel, by decide⟩
theorem dz_mX4_isWidthOrUntold : dz_MW mX4_isWidthOrUntold 1 := ⟨(dz_t1 (i := 1) rfl rfl), (dz_t1 (i := 206) rfl rfl), by decide, by decide, by decide +kernel, by decide⟩
theorem dz_mX4_column : dz_MW mX4_column 3 := ⟨(dz_t1 (i := 1) rfl rfl), (dz_t1 (i := 203) rfl rfl), by decide, by decide, by decide +kernel, by decide⟩
theorem dz_mX4_turn : dz_MW mX4_turn 2 := ⟨(dz_t1 (i := 1) rfl rfl), (dz_t1 (i := 219) rfl rfl), by decide, by decide, by decide +kernel, by decide⟩
theorem dz_mX4_agrees : dz_MW mX4_agrees 3 := ⟨(dz_t1 (i := 1) rfl rfl), (dz_t2 (i := 26) rfl rfl), by decide, by decide, by decide +kernel, by decide⟩
theorem dz_mX4_fitsFoot : dz_MW mX4_fitsFoot 2 := ⟨(dz_t1 (i := 1) rfl rfl), (dz_t2 (i := 13) rfl rfl), by decide, by decide, by decide +kernel, by decide⟩
theorem dz_mX4_fitsHead : dz_MW mX4_fitsHead 2 := ⟨(dz_t1 (i := 1) rfl rfl), (dz_t2 (i := 31) rfl rfl), by decide, by decide, by decide +kernel, by decide⟩
theorem dz_mX4_fits : dz_MW mX4_fits 2 := ⟨(dz_t1 (i := 1) rfl rfl), (dz_t2 (i := 4) rfl rfl), by decide, by decide, by decide +kernel, by decide⟩
theorem dz_mX4_hand : dz_MW mX4_hand 2 := ⟨(dz_t1 (i := 1) rfl rfl), (dz_t2 (i := 39) rfl rfl), by decide, by decide, by decide +kernel, by decide⟩
theorem dz_mX4_not : dz_MW mX4_not 3 := ⟨(dz_t1 (i := 1) rfl rfl), (dz_t2 (i := 58) rfl rfl), by decide, by decide, by decide +kernel, by decide⟩
theorem dz_mX4_itemsAllowedAt : dz_MW mX4_itemsAllowedAt 1 := ⟨(dz_t1 (i := 1) rfl rfl), (dz_t2 (i := 108) rfl rfl), by decide, by decide, by decide +kernel, by decide⟩
theorem dz_mX4_drawPaper : dz_MW mX4_drawPaper 0 := ⟨(dz_t1 (i := 1) rfl rfl), (dz_t2 (i := 77) rfl rfl), by decide, by decide, by decide +kernel, by decide⟩
theorem dz_mX4_least : dz_MW mX4_least 0 := ⟨(dz_t1 (i := 1) rfl rfl), (dz_t2 (i := 73) rfl rfl), by decide, by decide, by decide +kernel, by decide⟩
theorem dz_mX4_ways : dz_MW mX4_ways 0 := ⟨(dz_t1 (i := 1) rfl rfl), (dz_t2 (i := 194) rfl rfl), by decide, by decide, by decide +kernel, by decide⟩
theorem dz_mX4_first : dz_MW mX4_first 1 := ⟨(dz_t1 (i := 1) rfl rfl), (dz_t2 (i := 202) rfl rfl), by decide, by decide, by decide +kernel, by decide⟩
theorem dz_mX4_sure : dz_MW mX4_sure 1 := ⟨(dz_t1 (i := 1) rfl rfl), (dz_t2 (i := 210) rfl rfl), by decide, by decide, by decide +kernel, by decide⟩
theorem dz_mX4_open : dz_MW mX4_open 1 := ⟨(dz_t1 (i := 1) rfl rfl), (dz_t2 (i := 218) rfl rfl), by decide, by decide, by decide +kernel, by decide⟩
theorem dz_mX4_loadOver : dz_MW mX4_loadOver 1 := ⟨(dz_t1 (i := 1) rfl rfl), (dz_t2 (i := 227) rfl rfl), by decide, by decide, by decide +kernel, by decide⟩
theorem dz_mX4_bears : dz_MW mX4_bears 1 := ⟨(dz_t1 (i := 1) rfl rfl), (dz_t2 (i := 223) rfl rfl), by decide, by decide, by decide +kernel, by decide⟩
theorem dz_mX4_cracked : dz_MW mX4_cracked 0 := ⟨(dz_t1 (i := 1) rfl rfl), (dz_t2 (i := 232) rfl rfl), by decide, by decide, by decide +kernel, by decide⟩
theorem dz_mX4_setting : dz_MW mX4_setting 1 := ⟨(dz_t1 (i := 1) rfl rfl), (dz_t2 (i := 236) rfl rfl), by decide, by decide, by decide +kernel, by decide⟩
theorem dz_mX4_heightOf : dz_MW mX4_heightOf 1 := ⟨(dz_t1 (i := 1) rfl rfl), (dz_t3 (i := 22) rfl rfl), by decide, by decide, by decide +kernel, by decide⟩
theorem dz_mX4_tall : dz_MW mX4_tall 1 := ⟨(dz_t1 (i := 1) rfl rfl), (dz_t3 (i := 17) rfl rfl), by decide, by decide, by decide +kernel, by decide⟩
theorem dz_mX4_told : dz_MW mX4_told 2 := ⟨(dz_t1 (i := 1) rfl rfl), (dz_t3 (i := 61) rfl rfl), by decide, by decide, by decide +kernel, by decide⟩
theorem dz_mX4_place : dz_MW mX4_place 2 := ⟨(dz_t1 (i := 1) rfl rfl), (dz_t3 (i := 30) rfl rfl), by decide, by decide, by decide +kernel, by decide⟩
theorem dz_mX4_count : dz_MW mX4_count 1 := ⟨(dz_t1 (i := 1) rfl rfl), (dz_t3 (i := 34) rfl rfl), by decide, by decide, by decide +kernel, by decide⟩
theorem dz_mX5_init : dz_MW mX5_init 0 := ⟨(dz_t1 (i := 6) rfl rfl), (dz_t3 (i := 127) rfl rfl), by decide, by decide, by decide +kernel, by decide⟩
theorem dz_mX5_thrown : dz_MW mX5_thrown 0 := ⟨(dz_t1 (i := 6) rfl rfl), (dz_t3 (i := 227) rfl rfl), by decide, by decide, by decide +kernel, by decide⟩
theorem dz_mX5_isIn : dz_MW mX5_isIn 3 := ⟨(dz_t1 (i := 6) rfl rfl), (dz_t3 (i := 237) rfl rfl), by decide, by decide, by decide +kernel, by decide⟩
theorem dz_mX5_isWidth : dz_MW mX5_isWidth 1 := ⟨(dz_t1 (i := 6) rfl rfl), (dz_t3 (i := 234) rfl rfl), by decide, by decide, by decide +kernel, by decide⟩
theorem dz_mX5_isDrum : dz_MW mX5_isDrum 1 := ⟨(dz_t1 (i := 6) rfl rfl), (dz_t4 (i := 19) rfl rfl), by decide, by decide, by decide +kernel, by decide⟩
theorem dz_mX5_isColumn : dz_MW mX5_isColumn 1 := ⟨(dz_t1 (i := 6) rfl rfl), (dz_t4 (i := 32) rfl rfl), by decide, by decide, by decide +kernel, by decide⟩
theorem dz_mX5_isPlace : dz_MW mX5_isPlace 1 := ⟨(dz_t1 (i := 6) rfl rfl), (dz_t4 (i := 48) rfl rfl), by decide, by decide, by decide +kernel, by decide⟩
theorem dz_mX5_measure : dz_MW mX5_measure 4 := ⟨(dz_t1 (i := 6) rfl rfl), (dz_t3 (i := 231) rfl rfl), by decide, by decide, by decide +kernel, by decide⟩
theorem dz_mX5_drum : dz_MW mX5_drum 5 := ⟨(dz_t1 (i := 6) rfl rfl), (dz_t4 (i := 1) rfl rfl), by decide, by decide, by decide +kernel, by decide⟩
theorem dz_mX5_set : dz_MW mX5_set 3 := ⟨(dz_t1 (i := 6) rfl rfl), (dz_t4 (i := 7) rfl rfl), by decide, by decide, by decide +kernel, by decide⟩
theorem dz_mX5_column : dz_MW mX5_column 3 := ⟨(dz_t1 (i := 6) rfl rfl), (dz_t4 (i := 11) rfl rfl), by decide, by decide, by decide +kernel, by decide⟩
theorem dz_mX5_turnOf : dz_MW mX5_turnOf 2 := ⟨(dz_t1 (i := 6) rfl rfl), (dz_t4 (i := 23) rfl rfl), by decide, by decide, by decide +kernel, by decide⟩
theorem dz_mX5_turn : dz_MW mX5_turn 2 := ⟨(dz_t1 (i := 6) rfl rfl), (dz_t4 (i := 15) rfl rfl), by decide, by decide, by decide +kernel, by decide⟩
theorem dz_mX5_fitsFoot : dz_MW mX5_fitsFoot 2 := ⟨(dz_t1 (i := 6) rfl rfl), (dz_t4 (i := 36) rfl rfl), by decide, by decide, by decide +kernel, by decide⟩
theorem dz_mX5_fitsHead : dz_MW mX5_fitsHead 2 := ⟨(dz_t1 (i := 6) rfl rfl), (dz_t4 (i := 40) rfl rfl), by decide, by decide, by decide +kernel, by decide⟩
theorem dz_mX5_fits : dz_MW mX5_fits 2 := ⟨(dz_t1 (i := 6) rfl rfl), (dz_t4 (i := 28) rfl rfl), by decide, by decide, by decide +kernel, by decide⟩
theorem dz_mX5_hand : dz_MW mX5_hand 2 := ⟨(dz_t1 (i := 6) rfl rfl), (dz_t4 (i := 44) rfl rfl), by decide, by decide, by decide +kernel, by decide⟩
theorem dz_mX5_not : dz_MW mX5_not 3 := ⟨(dz_t1 (i := 6) rfl rfl), (dz_t4 (i := 52) rfl rfl), by decide, by decide, by decide +kernel, by decide⟩
theorem dz_mX5_index : dz_MW mX5_index 3 := ⟨(dz_t1 (i := 6) rfl rfl), (dz_t4 (i := 63) rfl rfl), by decide, by decide, by decide +kernel, by decide⟩
theorem dz_mX5_may : dz_MW mX5_may 4 := ⟨(dz_t1 (i := 6) rfl rfl), (dz_t4 (i := 67) rfl rfl), by decide, by decide, by decide +kernel, by decide⟩
theorem dz_mX5_behind : dz_MW mX5_behind 3 := ⟨(dz_t1 (i := 6) rfl rfl), (dz_t4 (i := 71) rfl rfl), by decide, by decide, by decide +kernel, by decide⟩
theorem dz_mX5_isBest : dz_MW mX5_isBest 4 := ⟨(dz_t1 (i := 6) rfl rfl), (dz_t4 (i := 75) rfl rfl), by decide, by decide, by decide +kernel, by decide⟩
theorem dz_mX5_find : dz_MW mX5_find 0 := ⟨(dz_t1 (i := 6) rfl rfl), (dz_t4 (i := 60) rfl rfl), by decide, by decide, by decide +kernel, by decide⟩
theorem dz_mX5_use : dz_MW mX5_use 0 := ⟨(dz_t1 (i := 6) rfl rfl), (dz_t4 (i := 91) rfl rfl), by decide, by decide, by decide +kernel, by decide⟩
theorem dz_mX5_least : dz_MW mX5_least 0 := ⟨(dz_t1 (i := 6) rfl rfl), (dz_t4 (i := 56) rfl rfl), by decide, by decide, by decide +kernel, by decide⟩
theorem dz_mX5_ways : dz_MW mX5_ways 0 := ⟨(dz_t1 (i := 6) rfl rfl), (dz_t4 (i := 79) rfl rfl), by decide, by decide, by decide +kernel, by decide⟩
theorem dz_mX5_first : dz_MW mX5_first 1 := ⟨(dz_t1 (i := 6) rfl rfl), (dz_t4 (i := 83) rfl rfl), by decide, by decide, by decide +kernel, by decide⟩
theorem dz_mX5_sure : dz_MW mX5_sure 1 := ⟨(dz_t1 (i := 6) rfl rfl), (dz_t4 (i := 87) rfl rfl), by decide, by decide, by decide +kernel, by decide⟩
theorem dz_mX5_open : dz_MW mX5_open 1 := ⟨(dz_t1 (i := 6) rfl rfl), (dz_t4 (i := 95) rfl rfl), by decide, by decide, by decide +kernel, by decide⟩
theorem dz_mX5_borne : dz_MW mX5_borne 1 := ⟨(dz_t1 (i := 6) rfl rfl), (dz_t4 (i := 103) rfl rfl), by decide, by decide, by decide +kernel, by decide⟩
theorem dz_mX5_bears : dz_MW mX5_bears 1 := ⟨(dz_t1 (i := 6) rfl rfl), (dz_t4 (i := 99) rfl rfl), by decide, by decide, by decide +kernel, by decide⟩
theorem dz_mX5_cracked : dz_MW mX5_cracked 0 := ⟨(dz_t1 (i := 6) rfl rfl), (dz_t4 (i := 107) rfl rfl), by decide, by decide, by decide +kernel, by decide⟩
theorem dz_mX5_isFull : dz_MW mX5_isFull 1 := ⟨(dz_t1 (i := 6) rfl rfl), (dz_t4 (i := 119) rfl rfl), by decide, by decide, by decide +kernel, by decide⟩
theorem dz_mX5_isLevel : dz_MW mX5_isLevel 1 := ⟨(dz_t1 (i := 6) rfl rfl), (dz_t4 (i := 115) rfl rfl), by decide, by decide, by decide +kernel, by decide⟩
theorem dz_mX5_setting : dz_MW mX5_setting 1 := ⟨(dz_t1 (i := 6) rfl rfl), (dz_t4 (i := 111) rfl rfl), by decide, by decide, by decide +kernel, by decide⟩
theorem dz_mX5_tall : dz_MW mX5_tall 1 := ⟨(dz_t1 (i := 6) rfl rfl), (dz_t4 (i := 123) rfl rfl), by decide, by decide, by decide +kernel, by decide⟩
theorem dz_mX5_told : dz_MW mX5_told 2 := ⟨(dz_t1 (i := 6) rfl rfl), (dz_t4 (i := 127) rfl rfl), by decide, by decide, by decide +kernel, by decide⟩
theorem dz_mX5_place : dz_MW mX5_place 2 := ⟨(dz_t1 (i := 6) rfl rfl), (dz_t4 (i := 131) rfl rfl), by decide, by decide, by decide +kernel, by decide⟩
theorem dz_mX5_count : dz_MW mX5_count 1 := ⟨(dz_t1 (i := 6) rfl rfl), (dz_t4 (i := 135) rfl rfl), by decide, by decide, by decide +kernel, by decide⟩
theorem dz_lL_101 : dz_Lv RL 101 mX5_told 2 := ⟨dz_mX5_told, (dz_t4 (i := 124) rfl rfl), (dz_t4 (i := 125) rfl rfl), (dz_t4 (i := 126) rfl rfl)⟩
theorem dz_lL_102 : dz_Lv RL 102 mX5_thrown 0 := ⟨dz_mX5_thrown, (dz_t3 (i := 224) rfl rfl), (dz_t3 (i := 225) rfl rfl), (dz_t3 (i := 226) rfl rfl)⟩
theorem dz_lL_105 : dz_Lv RL 105 mX4_place 2 := ⟨dz_mX4_place, (dz_t3 (i := 27) rfl rfl), (dz_t3 (i := 28) rfl rfl), (dz_t3 (i := 29) rfl rfl)⟩
theorem dz_lL_108 : dz_Lv RL 108 mX5_place 2 := ⟨dz_mX5_place, (dz_t4 (i := 128) rfl rfl), (dz_t4 (i := 129) rfl rfl), (dz_t4 (i := 130) rfl rfl)⟩
theorem dz_lL_109 : dz_Lv RL 109 mX4_count 1 := ⟨dz_mX4_count, (dz_t3 (i := 31) rfl rfl), (dz_t3 (i := 32) rfl rfl), (dz_t3 (i := 33) rfl rfl)⟩
theorem dz_lL_112 : dz_Lv RL 112 mX5_count 1 := ⟨dz_mX5_count, (dz_t4 (i := 132) rfl rfl), (dz_t4 (i := 133) rfl rfl), (dz_t4 (i := 134) rfl rfl)⟩
theorem dz_lL_19 : dz_Lv RL 19 mX4_measure 4 := ⟨dz_mX4_measure, (dz_t1 (i := 161) rfl rfl), (dz_t1 (i := 162) rfl rfl), (dz_t1 (i := 163) rfl rfl)⟩
theorem dz_lL_23 : dz_Lv RL 23 mX5_measure 4 := ⟨dz_mX5_measure, (dz_t3 (i := 228) rfl rfl), (dz_t3 (i := 229) rfl rfl), (dz_t3 (i := 230) rfl rfl)⟩
theorem dz_lL_24 : dz_Lv RL 24 mX4_drum 5 := ⟨dz_mX4_drum, (dz_t1 (i := 175) rfl rfl), (dz_t1 (i := 176) rfl rfl), (dz_t1 (i := 177) rfl rfl)⟩
theorem dz_lL_28 : dz_Lv RL 28 mX5_drum 5 := ⟨dz_mX5_drum, (dz_t3 (i := 238) rfl rfl), (dz_t3 (i := 239) rfl rfl), (dz_t4 (i := 0) rfl rfl)⟩
theorem dz_lL_29 : dz_Lv RL 29 mX4_set 3 := ⟨dz_mX4_set, (dz_t1 (i := 196) rfl rfl), (dz_t1 (i := 197) rfl rfl), (dz_t1 (i := 198) rfl rfl)⟩
theorem dz_lL_33 : dz_Lv RL 33 mX5_set 3 := ⟨dz_mX5_set, (dz_t4 (i := 4) rfl rfl), (dz_t4 (i := 5) rfl rfl), (dz_t4 (i := 6) rfl rfl)⟩
theorem dz_lL_34 : dz_Lv RL 34 mX4_column 3 := ⟨dz_mX4_column, (dz_t1 (i := 200) rfl rfl), (dz_t1 (i := 201) rfl rfl), (dz_t1 (i := 202) rfl rfl)⟩
theorem dz_lL_38 : dz_Lv RL 38 mX5_column 3 := ⟨dz_mX5_column, (dz_t4 (i := 8) rfl rfl), (dz_t4 (i := 9) rfl rfl), (dz_t4 (i := 10) rfl rfl)⟩
theorem dz_lL_39 : dz_Lv RL 39 mX4_turn 2 := ⟨dz_mX4_turn, (dz_t1 (i := 216) rfl rfl), (dz_t1 (i := 217) rfl rfl), (dz_t1 (i := 218) rfl rfl)⟩
theorem dz_lL_42 : dz_Lv RL 42 mX5_turn 2 := ⟨dz_mX5_turn, (dz_t4 (i := 12) rfl rfl), (dz_t4 (i := 13) rfl rfl), (dz_t4 (i := 14) rfl rfl)⟩
theorem dz_lL_43 : dz_Lv RL 43 mX4_fits 2 := ⟨dz_mX4_fits, (dz_t2 (i := 1) rfl rfl), (dz_t2 (i := 2) rfl rfl), (dz_t2 (i := 3) rfl rfl)⟩
theorem dz_lL_46 : dz_Lv RL 46 mX5_fits 2 := ⟨dz_mX5_fits, (dz_t4 (i := 25) rfl rfl), (dz_t4 (i := 26) rfl rfl), (dz_t4 (i := 27) rfl rfl)⟩
theorem dz_lL_47 : dz_Lv RL 47 mX4_hand 2 := ⟨dz_mX4_hand, (dz_t2 (i := 36) rfl rfl), (dz_t2 (i := 37) rfl rfl), (dz_t2 (i := 38) rfl rfl)⟩
theorem dz_lL_51 : dz_Lv RL 51 mX5_hand 2 := ⟨dz_mX5_hand, (dz_t4 (i := 41) rfl rfl), (dz_t4 (i := 42) rfl rfl), (dz_t4 (i := 43) rfl rfl)⟩
theorem dz_lL_52 : dz_Lv RL 52 mX4_not 3 := ⟨dz_mX4_not, (dz_t2 (i := 55) rfl rfl), (dz_t2 (i := 56) rfl rfl), (dz_t2 (i := 57) rfl rfl)⟩
theorem dz_lL_56 : dz_Lv RL 56 mX5_not 3 := ⟨dz_mX5_not, (dz_t4 (i := 49) rfl rfl), (dz_t4 (i := 50) rfl rfl), (dz_t4 (i := 51) rfl rfl)⟩
theorem dz_lL_57 : dz_Lv RL 57 mX4_least 0 := ⟨dz_mX4_least, (dz_t2 (i := 70) rfl rfl), (dz_t2 (i := 71) rfl rfl), (dz_t2 (i := 72) rfl rfl)⟩
theorem dz_lL_61 : dz_Lv RL 61 mX5_least 0 := ⟨dz_mX5_least, (dz_t4 (i := 53) rfl rfl), (dz_t4 (i := 54) rfl rfl), (dz_t4 (i := 55) rfl rfl)⟩
theorem dz_lL_62 : dz_Lv RL 62 mX4_ways 0 := ⟨dz_mX4_ways, (dz_t2 (i := 191) rfl rfl), (dz_t2 (i := 192) rfl rfl), (dz_t2 (i := 193) rfl rfl)⟩
theorem dz_lL_66 : dz_Lv RL 66 mX5_ways 0 := ⟨dz_mX5_ways, (dz_t4 (i := 76) rfl rfl), (dz_t4 (i := 77) rfl rfl), (dz_t4 (i := 78) rfl rfl)⟩
theorem dz_lL_67 : dz_Lv RL 67 mX4_first 1 := ⟨dz_mX4_first, (dz_t2 (i := 199) rfl rfl), (dz_t2 (i := 200) rfl rfl), (dz_t2 (i := 201) rfl rfl)⟩
theorem dz_lL_7 : dz_Lv RL 7 mX4_told 2 := ⟨dz_mX4_told, (dz_t3 (i := 58) rfl rfl), (dz_t3 (i := 59) rfl rfl), (dz_t3 (i := 60) rfl rfl)⟩
theorem dz_lL_71 : dz_Lv RL 71 mX5_first 1 := ⟨dz_mX5_first, (dz_t4 (i := 80) rfl rfl), (dz_t4 (i := 81) rfl rfl), (dz_t4 (i := 82) rfl rfl)⟩
theorem dz_lL_72 : dz_Lv RL 72 mX4_sure 1 := ⟨dz_mX4_sure, (dz_t2 (i := 207) rfl rfl), (dz_t2 (i := 208) rfl rfl), (dz_t2 (i := 209) rfl rfl)⟩
theorem dz_lL_75 : dz_Lv RL 75 mX5_sure 1 := ⟨dz_mX5_sure, (dz_t4 (i := 84) rfl rfl), (dz_t4 (i := 85) rfl rfl), (dz_t4 (i := 86) rfl rfl)⟩
theorem dz_lL_76 : dz_Lv RL 76 mX4_open 1 := ⟨dz_mX4_open, (dz_t2 (i := 215) rfl rfl), (dz_t2 (i := 216) rfl rfl), (dz_t2 (i := 217) rfl rfl)⟩
theorem dz_lL_79 : dz_Lv RL 79 mX5_open 1 := ⟨dz_mX5_open, (dz_t4 (i := 92) rfl rfl), (dz_t4 (i := 93) rfl rfl), (dz_t4 (i := 94) rfl rfl)⟩
theorem dz_lL_80 : dz_Lv RL 80 mX4_bears 1 := ⟨dz_mX4_bears, (dz_t2 (i := 220) rfl rfl), (dz_t2 (i := 221) rfl rfl), (dz_t2 (i := 222) rfl rfl)⟩
theorem dz_lL_83 : dz_Lv RL 83 mX5_bears 1 := ⟨dz_mX5_bears, (dz_t4 (i := 96) rfl rfl), (dz_t4 (i := 97) rfl rfl), (dz_t4 (i := 98) rfl rfl)⟩
theorem dz_lL_84 : dz_Lv RL 84 mX4_cracked 0 := ⟨dz_mX4_cracked, (dz_t2 (i := 229) rfl rfl), (dz_t2 (i := 230) rfl rfl), (dz_t2 (i := 231) rfl rfl)⟩
theorem dz_lL_87 : dz_Lv RL 87 mX5_cracked 0 := ⟨dz_mX5_cracked, (dz_t4 (i := 104) rfl rfl), (dz_t4 (i := 105) rfl rfl), (dz_t4 (i := 106) rfl rfl)⟩
theorem dz_lL_88 : dz_Lv RL 88 mX4_setting 1 := ⟨dz_mX4_setting, (dz_t2 (i := 233) rfl rfl), (dz_t2 (i := 234) rfl rfl), (dz_t2 (i := 235) rfl rfl)⟩
theorem dz_lL_91 : dz_Lv RL 91 mX5_setting 1 := ⟨dz_mX5_setting, (dz_t4 (i := 108) rfl rfl), (dz_t4 (i := 109) rfl rfl), (dz_t4 (i := 110) rfl rfl)⟩
theorem dz_lL_92 : dz_Lv RL 92 mX4_tall 1 := ⟨dz_mX4_tall, (dz_t3 (i := 14) rfl rfl), (dz_t3 (i := 15) rfl rfl), (dz_t3 (i := 16) rfl rfl)⟩
theorem dz_lL_95 : dz_Lv RL 95 mX5_tall 1 := ⟨dz_mX5_tall, (dz_t4 (i := 120) rfl rfl), (dz_t4 (i := 121) rfl rfl), (dz_t4 (i := 122) rfl rfl)⟩
theorem dz_lX0_37 : dz_Lv RX0 37 mX0_canTakeOne 1 := ⟨dz_mX0_canTakeOne, (dz_t1 (i := 215) rfl rfl), (dz_t1 (i := 208) rfl rfl), (dz_t1 (i := 209) rfl rfl)⟩
theorem dz_lX0_41 : dz_Lv RX0 41 mX0_hasPlace 1 := ⟨dz_mX0_hasPlace, (dz_t2 (i := 113) rfl rfl), (dz_t2 (i := 41) rfl rfl), (dz_t2 (i := 42) rfl rfl)⟩
theorem dz_lX0_44 : dz_Lv RX0 44 mX0_has 1 := ⟨dz_mX0_has, (dz_t2 (i := 22) rfl rfl), (dz_t2 (i := 7) rfl rfl), (dz_t2 (i := 8) rfl rfl)⟩
theorem dz_lX0_47 : dz_Lv RX0 47 mX0_columnOf 1 := ⟨dz_mX0_columnOf, (dz_t2 (i := 118) rfl rfl), (dz_t2 (i := 110) rfl rfl), (dz_t2 (i := 111) rfl rfl)⟩
theorem dz_lX0_51 : dz_Lv RX0 51 mX0_startOf 1 := ⟨dz_mX0_startOf, (dz_t2 (i := 119) rfl rfl), (dz_t2 (i := 120) rfl rfl), (dz_t2 (i := 121) rfl rfl)⟩
theorem dz_lX0_54 : dz_Lv RX0 54 mX0_endOf 1 := ⟨dz_mX0_endOf, (dz_t2 (i := 127) rfl rfl), (dz_t2 (i := 128) rfl rfl), (dz_t2 (i := 129) rfl rfl)⟩
theorem dz_lX0_57 : dz_Lv RX0 57 mX0_nextColumn 1 := ⟨dz_mX0_nextColumn, (dz_t3 (i := 2) rfl rfl), (dz_t3 (i := 4) rfl rfl), (dz_t0 (i := 16) rfl rfl)⟩
theorem dz_lX0_60 : dz_Lv RX0 60 mX0_isFull 1 := ⟨dz_mX0_isFull, (dz_t3 (i := 6) rfl rfl), (dz_t3 (i := 8) rfl rfl), (dz_t0 (i := 17) rfl rfl)⟩
theorem dz_lX0_63 : dz_Lv RX0 63 mX0_allowsNext 2 := ⟨dz_mX0_allowsNext, (dz_t3 (i := 10) rfl rfl), (dz_t3 (i := 12) rfl rfl), (dz_t0 (i := 18) rfl rfl)⟩
theorem dz_lX1_24 : dz_Lv RX1 24 mX1_has 1 := ⟨dz_mX1_has, (dz_t1 (i := 224) rfl rfl), (dz_t1 (i := 225) rfl rfl), (dz_t1 (i := 226) rfl rfl)⟩
theorem dz_lX1_32 : dz_Lv RX1 32 mX1_canTakeOne 0 := ⟨dz_mX1_canTakeOne, (dz_t1 (i := 192) rfl rfl), (dz_t1 (i := 185) rfl rfl), (dz_t1 (i := 186) rfl rfl)⟩
theorem dz_lX1_48 : dz_Ls RX1 48 mX1_areAlike 2 := ⟨dz_mX1_areAlike, (dz_t1 (i := 231) rfl rfl), (dz_t1 (i := 232) rfl rfl)⟩
theorem dz_lX1_52 : dz_Ls RX1 52 mX1_leastTurn 2 := ⟨dz_mX1_leastTurn, (dz_t1 (i := 234) rfl rfl), (dz_t1 (i := 235) rfl rfl)⟩
theorem dz_lX1_56 : dz_Lv RX1 56 mX1_turnOn 3 := ⟨dz_mX1_turnOn, (dz_t2 (i := 100) rfl rfl), (dz_t1 (i := 221) rfl rfl), (dz_t1 (i := 222) rfl rfl)⟩
theorem dz_lX1_60 : dz_Lv RX1 60 mX1_lyingOn 2 := ⟨dz_mX1_lyingOn, (dz_t3 (i := 43) rfl rfl), (dz_t2 (i := 97) rfl rfl), (dz_t2 (i := 98) rfl rfl)⟩
theorem dz_lX1_63 : dz_Ls RX1 63 mJ6_bitCount_0f7a4 1 := ⟨dz_mJ6_bitCount_0f7a4, (dz_t3 (i := 44) rfl rfl), (dz_t3 (i := 45) rfl rfl)⟩
theorem dz_lX1_68 : dz_Ls RX1 68 mX1_turned 2 := ⟨dz_mX1_turned, (dz_t1 (i := 237) rfl rfl), (dz_t1 (i := 238) rfl rfl)⟩
theorem dz_lX2_100 : dz_Lv RX2 100 mX2_itemsToBest 2 := ⟨dz_mX2_itemsToBest, (dz_t2 (i := 172) rfl rfl), (dz_t2 (i := 174) rfl rfl), (dz_t0 (i := 13) rfl rfl)⟩
theorem dz_lX2_103 : dz_Lv RX2 103 mX2_hasWay 0 := ⟨dz_mX2_hasWay, (dz_t2 (i := 180) rfl rfl), (dz_t2 (i := 181) rfl rfl), (dz_t2 (i := 182) rfl rfl)⟩
theorem dz_lX2_107 : dz_Ls RX2 107 mX2_lowest 1 := ⟨dz_mX2_lowest, (dz_t2 (i := 184) rfl rfl), (dz_t2 (i := 185) rfl rfl)⟩
theorem dz_lX2_52 : dz_Lv RX2 52 mX2_isPlace 1 := ⟨dz_mX2_isPlace, (dz_t2 (i := 135) rfl rfl), (dz_t2 (i := 137) rfl rfl), (dz_t0 (i := 5) rfl rfl)⟩
theorem dz_lX2_68 : dz_Lv RX2 68 mX2_reachWith 1 := ⟨dz_mX2_reachWith, (dz_t2 (i := 143) rfl rfl), (dz_t2 (i := 145) rfl rfl), (dz_t0 (i := 6) rfl rfl)⟩
theorem dz_lX2_72 : dz_Lv RX2 72 mX2_dropAllButBest 0 := ⟨dz_mX2_dropAllButBest, (dz_t2 (i := 168) rfl rfl), (dz_t2 (i := 170) rfl rfl), (dz_t0 (i := 12) rfl rfl)⟩
theorem dz_lX2_75 : dz_Lv RX2 75 mX2_walkFirst 0 := ⟨dz_mX2_walkFirst, (dz_t2 (i := 176) rfl rfl), (dz_t2 (i := 178) rfl rfl), (dz_t0 (i := 14) rfl rfl)⟩
theorem dz_lX2_78 : dz_Lv RX2 78 mX2_spreadDrums 2 := ⟨dz_mX2_spreadDrums, (dz_t2 (i := 147) rfl rfl), (dz_t2 (i := 149) rfl rfl), (dz_t0 (i := 7) rfl rfl)⟩
theorem dz_lX2_82 : dz_Lv RX2 82 mX2_spreadNew 2 := ⟨dz_mX2_spreadNew, (dz_t2 (i := 164) rfl rfl), (dz_t2 (i := 166) rfl rfl), (dz_t0 (i := 11) rfl rfl)⟩
theorem dz_lX2_85 : dz_Lv RX2 85 mX2_reach 3 := ⟨dz_mX2_reach, (dz_t2 (i := 160) rfl rfl), (dz_t2 (i := 162) rfl rfl), (dz_t0 (i := 10) rfl rfl)⟩
theorem dz_lX2_89 : dz_Lv RX2 89 mX2_itemsFor 2 := ⟨dz_mX2_itemsFor, (dz_t2 (i := 151) rfl rfl), (dz_t2 (i := 153) rfl rfl), (dz_t0 (i := 8) rfl rfl)⟩
theorem dz_lX2_96 : dz_Lv RX2 96 mX2_after 3 := ⟨dz_mX2_after, (dz_t2 (i := 156) rfl rfl), (dz_t2 (i := 158) rfl rfl), (dz_t0 (i := 9) rfl rfl)⟩
theorem dz_lX3_18 : dz_Ls RX3 18 mX3_isRow 1 := ⟨dz_mX3_isRow, (dz_t2 (i := 48) rfl rfl), (dz_t2 (i := 49) rfl rfl)⟩
theorem dz_lX4_100 : dz_Lv RX4 100 mX3_toldOf 1 := ⟨dz_mX3_toldOf, (dz_t2 (i := 44) rfl rfl), (dz_t2 (i := 45) rfl rfl), (dz_t2 (i := 46) rfl rfl)⟩
theorem dz_lX4_104 : dz_Lv RX4 104 mX3_tell 2 := ⟨dz_mX3_tell, (dz_t2 (i := 51) rfl rfl), (dz_t2 (i := 52) rfl rfl), (dz_t2 (i := 53) rfl rfl)⟩
theorem dz_lX4_108 : dz_Lv RX4 108 mX3_isBarred 2 := ⟨dz_mX3_isBarred, (dz_t2 (i := 59) rfl rfl), (dz_t2 (i := 60) rfl rfl), (dz_t2 (i := 61) rfl rfl)⟩
theorem dz_lX4_111 : dz_Lv RX4 111 mX3_bar 3 := ⟨dz_mX3_bar, (dz_t2 (i := 66) rfl rfl), (dz_t2 (i := 67) rfl rfl), (dz_t2 (i := 68) rfl rfl)⟩
theorem dz_lX4_115 : dz_Lv RX4 115 mX4_drawPaper 0 := ⟨dz_mX4_drawPaper, (dz_t2 (i := 74) rfl rfl), (dz_t2 (i := 76) rfl rfl), (dz_t0 (i := 3) rfl rfl)⟩
theorem dz_lX4_118 : dz_Lv RX4 118 mX2_leastNew 0 := ⟨dz_mX2_leastNew, (dz_t2 (i := 187) rfl rfl), (dz_t2 (i := 188) rfl rfl), (dz_t2 (i := 189) rfl rfl)⟩
theorem dz_lX4_122 : dz_Lv RX4 122 mX2_bestWays 0 := ⟨dz_mX2_bestWays, (dz_t2 (i := 195) rfl rfl), (dz_t2 (i := 196) rfl rfl), (dz_t2 (i := 197) rfl rfl)⟩
theorem dz_lX4_126 : dz_Lv RX4 126 mX2_firstAt 1 := ⟨dz_mX2_firstAt, (dz_t2 (i := 203) rfl rfl), (dz_t2 (i := 204) rfl rfl), (dz_t2 (i := 205) rfl rfl)⟩
theorem dz_lX4_129 : dz_Lv RX4 129 mX0_placeNumber 0 := ⟨dz_mX0_placeNumber, (dz_t2 (i := 78) rfl rfl), (dz_t2 (i := 79) rfl rfl), (dz_t2 (i := 80) rfl rfl)⟩
theorem dz_lX4_132 : dz_Lv RX4 132 mX2_bestHeldAt 1 := ⟨dz_mX2_bestHeldAt, (dz_t2 (i := 211) rfl rfl), (dz_t2 (i := 212) rfl rfl), (dz_t2 (i := 213) rfl rfl)⟩
theorem dz_lX4_135 : dz_Ls RX4 135 mX4_hasBit 2 := ⟨dz_mX4_hasBit, (dz_t2 (i := 219) rfl rfl), (dz_t2 (i := 64) rfl rfl)⟩
theorem dz_lX4_138 : dz_Lv RX4 138 mX4_loadOver 1 := ⟨dz_mX4_loadOver, (dz_t2 (i := 224) rfl rfl), (dz_t2 (i := 226) rfl rfl), (dz_t0 (i := 15) rfl rfl)⟩
theorem dz_lX4_141 : dz_Lv RX4 141 mX1_fact 2 := ⟨dz_mX1_fact, (dz_t2 (i := 14) rfl rfl), (dz_t2 (i := 15) rfl rfl), (dz_t2 (i := 16) rfl rfl)⟩
theorem dz_lX4_145 : dz_Lv RX4 145 mX2_hasWay 0 := ⟨dz_mX2_hasWay, (dz_t2 (i := 237) rfl rfl), (dz_t2 (i := 181) rfl rfl), (dz_t2 (i := 182) rfl rfl)⟩
theorem dz_lX4_148 : dz_Lv RX4 148 mX0_placeOfStone 2 := ⟨dz_mX0_placeOfStone, (dz_t2 (i := 238) rfl rfl), (dz_t2 (i := 239) rfl rfl), (dz_t3 (i := 0) rfl rfl)⟩
theorem dz_lX4_151 : dz_Lv RX4 151 mX0_endOf 1 := ⟨dz_mX0_endOf, (dz_t2 (i := 228) rfl rfl), (dz_t2 (i := 128) rfl rfl), (dz_t2 (i := 129) rfl rfl)⟩
theorem dz_lX4_154 : dz_Lv RX4 154 mX0_startOf 1 := ⟨dz_mX0_startOf, (dz_t3 (i := 18) rfl rfl), (dz_t2 (i := 120) rfl rfl), (dz_t2 (i := 121) rfl rfl)⟩
theorem dz_lX4_157 : dz_Lv RX4 157 mX4_heightOf 1 := ⟨dz_mX4_heightOf, (dz_t3 (i := 19) rfl rfl), (dz_t3 (i := 21) rfl rfl), (dz_t0 (i := 19) rfl rfl)⟩
theorem dz_lX4_163 : dz_Lv RX4 163 mX0_columnOf 1 := ⟨dz_mX0_columnOf, (dz_t2 (i := 109) rfl rfl), (dz_t2 (i := 110) rfl rfl), (dz_t2 (i := 111) rfl rfl)⟩
theorem dz_lX4_166 : dz_Lv RX4 166 mX1_number 0 := ⟨dz_mX1_number, (dz_t2 (i := 92) rfl rfl), (dz_t2 (i := 93) rfl rfl), (dz_t2 (i := 94) rfl rfl)⟩
theorem dz_lX4_169 : dz_Lv RX4 169 mX0_number 0 := ⟨dz_mX0_number, (dz_t3 (i := 35) rfl rfl), (dz_t3 (i := 36) rfl rfl), (dz_t3 (i := 37) rfl rfl)⟩
theorem dz_lX4_170 : dz_Lv RX4 170 mX1_pairsLying 1 := ⟨dz_mX1_pairsLying, (dz_t3 (i := 39) rfl rfl), (dz_t3 (i := 40) rfl rfl), (dz_t3 (i := 41) rfl rfl)⟩
theorem dz_lX4_173 : dz_Lv RX4 173 mX3_toldNumber 0 := ⟨dz_mX3_toldNumber, (dz_t3 (i := 50) rfl rfl), (dz_t3 (i := 51) rfl rfl), (dz_t3 (i := 52) rfl rfl)⟩
theorem dz_lX4_177 : dz_Lv RX4 177 mX0_footOf 1 := ⟨dz_mX0_footOf, (dz_t2 (i := 18) rfl rfl), (dz_t2 (i := 19) rfl rfl), (dz_t2 (i := 20) rfl rfl)⟩
theorem dz_lX4_180 : dz_Lv RX4 180 mX4_agrees 3 := ⟨dz_mX4_agrees, (dz_t2 (i := 23) rfl rfl), (dz_t2 (i := 25) rfl rfl), (dz_t0 (i := 1) rfl rfl)⟩
theorem dz_lX4_183 : dz_Lv RX4 183 mX0_headOf 1 := ⟨dz_mX0_headOf, (dz_t2 (i := 32) rfl rfl), (dz_t2 (i := 33) rfl rfl), (dz_t2 (i := 34) rfl rfl)⟩
theorem dz_lX4_191 : dz_Lv RX4 191 mX1_meanHeight 0 := ⟨dz_mX1_meanHeight, (dz_t3 (i := 23) rfl rfl), (dz_t3 (i := 24) rfl rfl), (dz_t3 (i := 25) rfl rfl)⟩
theorem dz_lX4_194 : dz_Lv RX4 194 mX2_clear 1 := ⟨dz_mX2_clear, (dz_t2 (i := 82) rfl rfl), (dz_t2 (i := 83) rfl rfl), (dz_t2 (i := 84) rfl rfl)⟩
theorem dz_lX4_198 : dz_Lv RX4 198 mX1_lyingOn 2 := ⟨dz_mX1_lyingOn, (dz_t2 (i := 96) rfl rfl), (dz_t2 (i := 97) rfl rfl), (dz_t2 (i := 98) rfl rfl)⟩
theorem dz_lX4_201 : dz_Lv RX4 201 mX2_allowOver 2 := ⟨dz_mX2_allowOver, (dz_t2 (i := 101) rfl rfl), (dz_t2 (i := 102) rfl rfl), (dz_t2 (i := 103) rfl rfl)⟩
theorem dz_lX4_204 : dz_Lv RX4 204 mX4_itemsAllowedAt 1 := ⟨dz_mX4_itemsAllowedAt, (dz_t2 (i := 105) rfl rfl), (dz_t2 (i := 107) rfl rfl), (dz_t0 (i := 4) rfl rfl)⟩
theorem dz_lX4_207 : dz_Lv RX4 207 mX0_isHead 1 := ⟨dz_mX0_isHead, (dz_t2 (i := 123) rfl rfl), (dz_t2 (i := 124) rfl rfl), (dz_t2 (i := 125) rfl rfl)⟩
theorem dz_lX4_210 : dz_Lv RX4 210 mX2_allowAt 3 := ⟨dz_mX2_allowAt, (dz_t2 (i := 131) rfl rfl), (dz_t2 (i := 132) rfl rfl), (dz_t2 (i := 133) rfl rfl)⟩
theorem dz_lX4_213 : dz_Lv RX4 213 mX2_findBest 0 := ⟨dz_mX2_findBest, (dz_t2 (i := 139) rfl rfl), (dz_t2 (i := 140) rfl rfl), (dz_t2 (i := 141) rfl rfl)⟩
theorem dz_lX4_216 : dz_Lv RX4 216 mX0_isFoot 1 := ⟨dz_mX0_isFoot, (dz_t2 (i := 114) rfl rfl), (dz_t2 (i := 115) rfl rfl), (dz_t2 (i := 116) rfl rfl)⟩
theorem dz_lX4_51 : dz_Ls RX4 51 mX4_isWidth 1 := ⟨dz_mX4_isWidth, (dz_t1 (i := 165) rfl rfl), (dz_t1 (i := 166) rfl rfl)⟩
theorem dz_lX4_55 : dz_Ls RX4 55 mX4_isWithin 3 := ⟨dz_mX4_isWithin, (dz_t1 (i := 168) rfl rfl), (dz_t1 (i := 169) rfl rfl)⟩
theorem dz_lX4_59 : dz_Lv RX4 59 mX1_keepMeasured 4 := ⟨dz_mX1_keepMeasured, (dz_t1 (i := 171) rfl rfl), (dz_t1 (i := 172) rfl rfl), (dz_t1 (i := 173) rfl rfl)⟩
theorem dz_lX4_63 : dz_Ls RX4 63 mX4_isHoles 1 := ⟨dz_mX4_isHoles, (dz_t1 (i := 179) rfl rfl), (dz_t1 (i := 180) rfl rfl)⟩
theorem dz_lX4_67 : dz_Lv RX4 67 mX1_canTakeOne 0 := ⟨dz_mX1_canTakeOne, (dz_t1 (i := 184) rfl rfl), (dz_t1 (i := 185) rfl rfl), (dz_t1 (i := 186) rfl rfl)⟩
theorem dz_lX4_71 : dz_Lv RX4 71 mX1_take 5 := ⟨dz_mX1_take, (dz_t1 (i := 188) rfl rfl), (dz_t1 (i := 189) rfl rfl), (dz_t1 (i := 190) rfl rfl)⟩
theorem dz_lX4_75 : dz_Ls RX4 75 mX4_isWidthOrUntold 1 := ⟨dz_mX4_isWidthOrUntold, (dz_t1 (i := 204) rfl rfl), (dz_t1 (i := 205) rfl rfl)⟩
theorem dz_lX4_78 : dz_Lv RX4 78 mX0_canTakeOne 1 := ⟨dz_mX0_canTakeOne, (dz_t1 (i := 207) rfl rfl), (dz_t1 (i := 208) rfl rfl), (dz_t1 (i := 209) rfl rfl)⟩
theorem dz_lX4_80 : dz_Lv RX4 80 mX0_take 3 := ⟨dz_mX0_take, (dz_t1 (i := 211) rfl rfl), (dz_t1 (i := 212) rfl rfl), (dz_t1 (i := 213) rfl rfl)⟩
theorem dz_lX4_83 : dz_Lv RX4 83 mX1_turnOn 3 := ⟨dz_mX1_turnOn, (dz_t1 (i := 220) rfl rfl), (dz_t1 (i := 221) rfl rfl), (dz_t1 (i := 222) rfl rfl)⟩
theorem dz_lX4_86 : dz_Lv RX4 86 mX1_has 1 := ⟨dz_mX1_has, (dz_t2 (i := 5) rfl rfl), (dz_t1 (i := 225) rfl rfl), (dz_t1 (i := 226) rfl rfl)⟩
theorem dz_lX4_89 : dz_Lv RX4 89 mX0_has 1 := ⟨dz_mX0_has, (dz_t2 (i := 6) rfl rfl), (dz_t2 (i := 7) rfl rfl), (dz_t2 (i := 8) rfl rfl)⟩
theorem dz_lX4_90 : dz_Lv RX4 90 mX4_fitsFoot 2 := ⟨dz_mX4_fitsFoot, (dz_t2 (i := 10) rfl rfl), (dz_t2 (i := 12) rfl rfl), (dz_t0 (i := 0) rfl rfl)⟩
theorem dz_lX4_94 : dz_Lv RX4 94 mX4_fitsHead 2 := ⟨dz_mX4_fitsHead, (dz_t2 (i := 28) rfl rfl), (dz_t2 (i := 30) rfl rfl), (dz_t0 (i := 2) rfl rfl)⟩
theorem dz_lX4_97 : dz_Lv RX4 97 mX0_hasPlace 1 := ⟨dz_mX0_hasPlace, (dz_t2 (i := 40) rfl rfl), (dz_t2 (i := 41) rfl rfl), (dz_t2 (i := 42) rfl rfl)⟩
theorem dz_lX5_108 : dz_Ls RX5 108 mX5_isWidth 1 := ⟨dz_mX5_isWidth, (dz_t3 (i := 232) rfl rfl), (dz_t3 (i := 233) rfl rfl)⟩
theorem dz_lX5_124 : dz_Lv RX5 124 mX5_isDrum 1 := ⟨dz_mX5_isDrum, (dz_t4 (i := 16) rfl rfl), (dz_t4 (i := 18) rfl rfl), (dz_t0 (i := 21) rfl rfl)⟩
theorem dz_lX5_127 : dz_Lv RX5 127 mX5_turnOf 2 := ⟨dz_mX5_turnOf, (dz_t4 (i := 20) rfl rfl), (dz_t4 (i := 22) rfl rfl), (dz_t0 (i := 22) rfl rfl)⟩
theorem dz_lX5_131 : dz_Lv RX5 131 mX5_isColumn 1 := ⟨dz_mX5_isColumn, (dz_t4 (i := 29) rfl rfl), (dz_t4 (i := 31) rfl rfl), (dz_t0 (i := 23) rfl rfl)⟩
theorem dz_lX5_134 : dz_Lv RX5 134 mX5_fitsFoot 2 := ⟨dz_mX5_fitsFoot, (dz_t4 (i := 33) rfl rfl), (dz_t4 (i := 35) rfl rfl), (dz_t0 (i := 24) rfl rfl)⟩
theorem dz_lX5_138 : dz_Lv RX5 138 mX5_fitsHead 2 := ⟨dz_mX5_fitsHead, (dz_t4 (i := 37) rfl rfl), (dz_t4 (i := 39) rfl rfl), (dz_t0 (i := 25) rfl rfl)⟩
theorem dz_lX5_141 : dz_Lv RX5 141 mX5_isPlace 1 := ⟨dz_mX5_isPlace, (dz_t4 (i := 45) rfl rfl), (dz_t4 (i := 47) rfl rfl), (dz_t0 (i := 26) rfl rfl)⟩
theorem dz_lX5_144 : dz_Ls RX5 144 mX5_index 3 := ⟨dz_mX5_index, (dz_t4 (i := 61) rfl rfl), (dz_t4 (i := 62) rfl rfl)⟩
theorem dz_lX5_148 : dz_Lv RX5 148 mX5_may 4 := ⟨dz_mX5_may, (dz_t4 (i := 64) rfl rfl), (dz_t4 (i := 66) rfl rfl), (dz_t0 (i := 28) rfl rfl)⟩
theorem dz_lX5_152 : dz_Lv RX5 152 mX5_behind 3 := ⟨dz_mX5_behind, (dz_t4 (i := 68) rfl rfl), (dz_t4 (i := 70) rfl rfl), (dz_t0 (i := 29) rfl rfl)⟩
theorem dz_lX5_155 : dz_Lv RX5 155 mX5_isBest 4 := ⟨dz_mX5_isBest, (dz_t4 (i := 72) rfl rfl), (dz_t4 (i := 74) rfl rfl), (dz_t0 (i := 30) rfl rfl)⟩
theorem dz_lX5_158 : dz_Lv RX5 158 mX5_find 0 := ⟨dz_mX5_find, (dz_t4 (i := 57) rfl rfl), (dz_t4 (i := 59) rfl rfl), (dz_t0 (i := 27) rfl rfl)⟩
theorem dz_lX5_162 : dz_Lv RX5 162 mX5_use 0 := ⟨dz_mX5_use, (dz_t4 (i := 88) rfl rfl), (dz_t4 (i := 90) rfl rfl), (dz_t0 (i := 31) rfl rfl)⟩
theorem dz_lX5_165 : dz_Lv RX5 165 mX5_borne 1 := ⟨dz_mX5_borne, (dz_t4 (i := 100) rfl rfl), (dz_t4 (i := 102) rfl rfl), (dz_t0 (i := 32) rfl rfl)⟩
theorem dz_lX5_168 : dz_Lv RX5 168 mX5_isFull 1 := ⟨dz_mX5_isFull, (dz_t4 (i := 116) rfl rfl), (dz_t4 (i := 118) rfl rfl), (dz_t0 (i := 34) rfl rfl)⟩
theorem dz_lX5_171 : dz_Lv RX5 171 mX5_isLevel 1 := ⟨dz_mX5_isLevel, (dz_t4 (i := 112) rfl rfl), (dz_t4 (i := 114) rfl rfl), (dz_t0 (i := 33) rfl rfl)⟩
theorem dz_lX5_95 : dz_Ls RX5 95 mX5_isIn 3 := ⟨dz_mX5_isIn, (dz_t3 (i := 235) rfl rfl), (dz_t3 (i := 236) rfl rfl)⟩
