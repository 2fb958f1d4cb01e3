/-! THE LAW: one turn of its loop, by the call that the script spells -/
def lq_L (b a a2 q i : Nat) : List (Nat × Value) := [(4, .int (nI i)), (3, .ref q), (2, .ref a2), (1, .ref a), (0, .ref b)]
def lq_K (p : Program) (l : Launch) (e : Env) (s : State) (m : MethodId) (below : List Frame) (meth : Method) (c : Code) (b : Nat) (D : va_G) (cy : Nat → ClassId) (aY aM : Nat → Nat) (qO i cells slots : Nat) : Prop := ∀ (sg : dz_Sg) (I : dz_MI) (J : dz_MJ) (I2 : dz_MI) (J2 : dz_MJ) (o : Nat → Int64), dz_OK sg → YI sg I J → dz_RM sg I2 → lq_W p l e s m below meth c b D cy aY aM qO 864 I J I2 J2 o (lq_L b (aY 0) (aM 0) qO i) [] cells slots
section LQC
variable {p : Program} {l : Launch} {e : Env} {s : State} {m : MethodId} {below : List Frame} {meth : Method} {c : Code} {b L : Nat} {xs : Nat → Int32} {D : va_G} {cy : Nat → ClassId} {aY aM : Nat → Nat} {qO i : Nat} {I I2 : dz_MI} {J J2 : dz_MJ} {o : Nat → Int64} {lv : List (Nat × Value)} {st : List Value} {cells slots : Nat} {sg : dz_Sg}
theorem lq_st {pc : Nat} {st2 : List Value} (h : st = st2) (kk : lq_W p l e s m below meth c b D cy aY aM qO pc I J I2 J2 o lv st2 cells slots) : lq_W p l e s m below meth c b D cy aY aM qO pc I J I2 J2 o lv st cells slots := by subst h; exact kk
theorem lq_wd {pc k2 s2 : Nat} (h1 : cells ≤ k2) (h2 : slots ≤ s2) (kk : lq_W p l e s m below meth c b D cy aY aM qO pc I J I2 J2 o lv st k2 s2) : lq_W p l e s m below meth c b D cy aY aM qO pc I J I2 J2 o lv st cells slots := fun H locs ls a1 a2 a3 hS hl => W.widen h1 h2 (kk H locs ls a1 a2 a3 hS hl)
theorem lq_lv {pc : Nat} {lv2 : List (Nat × Value)} (ks : List Nat) (h : lv_pick lv ks = lv2) (kk : lq_W p l e s m below meth c b D cy aY aM qO pc I J I2 J2 o lv2 st cells slots) : lq_W p l e s m below meth c b D cy aY aM qO pc I J I2 J2 o lv st cells slots := fun H locs ls a1 a2 a3 hS hl => kk H locs ls a1 a2 a3 hS (lv_sub hl ks h)
theorem lq_ald (X : lq_X p l s m c b L xs D cy aY aM qO) {pc k0 a : Nat} {n : Fin 4} (d : decode cL_law pc = .ok (.aload_n n, 1)) (h : lv[k0]? = some (n.val, .ref a)) (kk : lq_W p l e s m below meth c b D cy aY aM qO (pc + 1) I J I2 J2 o lv (.ref a :: st) cells slots) : lq_W p l e s m below meth c b D cy aY aM qO pc I J I2 J2 o lv st cells slots := lq_kit (fun H locs ls hl hS k => lv_aload_n X.1 X.2.1 d rfl (lv_at hl k0 h) k) kk
theorem lq_ild (X : lq_X p l s m c b L xs D cy aY aM qO) {pc k0 n : Nat} {x : Int32} (d : decode cL_law pc = .ok (.iload n, 2)) (h : lv[k0]? = some (n, .int x)) (kk : lq_W p l e s m below meth c b D cy aY aM qO (pc + 2) I J I2 J2 o lv (.int x :: st) cells slots) : lq_W p l e s m below meth c b D cy aY aM qO pc I J I2 J2 o lv st cells slots := lq_kit (fun H locs ls hl hS k => lv_iload X.1 X.2.1 d (lv_at hl k0 h) k) kk
theorem lq_ist (X : lq_X p l s m c b L xs D cy aY aM qO) {pc n : Nat} {x : Int32} {lv2 : List (Nat × Value)} (d : decode cL_law pc = .ok (.istore n, 2)) (hn : n < 7) (h : (n, Value.int x) :: lv.filter (fun q => !(q.1 == n) && !(q.1 + 1 == n && q.2.category == 2)) = lv2) (kk : lq_W p l e s m below meth c b D cy aY aM qO (pc + 2) I J I2 J2 o lv2 st cells slots) : lq_W p l e s m below meth c b D cy aY aM qO pc I J I2 J2 o lv (.int x :: st) cells slots := fun H locs ls a1 a2 a3 hS hl => lv_istore (lv' := lv2) X.1 X.2.1 d hl hn h (fun ls2 hl2 => kk H locs ls2 a1 a2 a3 hS hl2)
theorem lq_eq (X : lq_X p l s m c b L xs D cy aY aM qO) {pc tgt : Nat} {off : Int} {x y : Int32} (d : decode cL_law pc = .ok (.if_icmp .eq off, 3)) (ht : (pc : Int) + off = (tgt : Int)) (hxy : x = y) (kk : lq_W p l e s m below meth c b D cy aY aM qO tgt I J I2 J2 o lv st cells slots) : lq_W p l e s m below meth c b D cy aY aM qO pc I J I2 J2 o lv (.int y :: .int x :: st) cells slots := fun H locs ls a1 a2 a3 hS hl => lv_icmp_eq (tgt := tgt) X.1 X.2.1 d ht (fun _ => kk H locs ls a1 a2 a3 hS hl) (fun h => absurd hxy h)
theorem lq_ez (X : lq_X p l s m c b L xs D cy aY aM qO) {pc tgt : Nat} {off : Int} {x : Int32} (d : decode cL_law pc = .ok (.ifCond .eq off, 3)) (ht : (pc : Int) + off = (tgt : Int)) (kt : x = 0 → lq_W p l e s m below meth c b D cy aY aM qO tgt I J I2 J2 o lv st cells slots) (kf : ¬ x = 0 → lq_W p l e s m below meth c b D cy aY aM qO (pc + 3) I J I2 J2 o lv st cells slots) : lq_W p l e s m below meth c b D cy aY aM qO pc I J I2 J2 o lv (.int x :: st) cells slots := fun H locs ls a1 a2 a3 hS hl => lv_if_eq (tgt := tgt) X.1 X.2.1 d ht (fun h => kt h H locs ls a1 a2 a3 hS hl) (fun h => kf h H locs ls a1 a2 a3 hS hl)
theorem lq_nz (X : lq_X p l s m c b L xs D cy aY aM qO) {pc tgt : Nat} {off : Int} {x : Int32} (d : decode cL_law pc = .ok (.ifCond .ne off, 3)) (ht : (pc : Int) + off = (tgt : Int)) (kt : ¬ x = 0 → lq_W p l e s m below meth c b D cy aY aM qO tgt I J I2 J2 o lv st cells slots) (kf : x = 0 → lq_W p l e s m below meth c b D cy aY aM qO (pc + 3) I J I2 J2 o lv st cells slots) : lq_W p l e s m below meth c b D cy aY aM qO pc I J I2 J2 o lv (.int x :: st) cells slots := fun H locs ls a1 a2 a3 hS hl => lv_if_ne (tgt := tgt) X.1 X.2.1 d ht (fun h => kt h H locs ls a1 a2 a3 hS hl) (fun h => kf h H locs ls a1 a2 a3 hS hl)
theorem lq_ic (X : lq_X p l s m c b L xs D cy aY aM qO) {pc : Nat} {z : Int} {x : Int32} (d : decode cL_law pc = .ok (.iconst z, 1)) (h : Int32.ofInt z = x) (kk : lq_W p l e s m below meth c b D cy aY aM qO (pc + 1) I J I2 J2 o lv (.int x :: st) cells slots) : lq_W p l e s m below meth c b D cy aY aM qO pc I J I2 J2 o lv st cells slots := lq_kit (fun H locs ls hl hS k => lv_iconst X.1 X.2.1 d h k) kk
theorem lq_go (X : lq_X p l s m c b L xs D cy aY aM qO) {pc tgt : Nat} {off : Int} (d : decode cL_law pc = .ok (.goto off, 3)) (ht : (pc : Int) + off = (tgt : Int)) (kk : lq_W p l e s m below meth c b D cy aY aM qO tgt I J I2 J2 o lv st cells slots) : lq_W p l e s m below meth c b D cy aY aM qO pc I J I2 J2 o lv st cells slots := lq_kit (fun H locs ls hl hS k => lv_goto X.1 X.2.1 d ht k) kk
theorem lq_lc (X : lq_X p l s m c b L xs D cy aY aM qO) {pc : Nat} {x y : Int64} (d : decode cL_law pc = .ok (.lcmp, 1)) (hxy : x = y) (kk : lq_W p l e s m below meth c b D cy aY aM qO (pc + 1) I J I2 J2 o lv (.int 0 :: st) cells slots) : lq_W p l e s m below meth c b D cy aY aM qO pc I J I2 J2 o lv (.long y :: .long x :: st) cells slots := lq_kit (fun H locs ls hl hS k => W.lcmp X.1 X.2.1 d (by
    have e : lg_cmp x y = 0 := by unfold lg_cmp; rw [hxy, if_neg (by simp), if_pos rfl]
    first | (rw [e]; exact k) | (show W _ _ _ _ _ _ _ _ _ _ _ _ _ _ _ (F0 m (pc + 1) ls (.int (lg_cmp x y) :: st)); rw [e]; exact k))) kk
/-- x != 0, as a boolean -/
theorem lq_bo (X : lq_X p l s m c b L xs D cy aY aM qO) {pc : Nat} {x : Int32} (d0 : decode cL_law pc = .ok (.ifCond .eq 7, 3)) (d1 : decode cL_law (pc + 3) = .ok (.iconst 1, 1)) (d2 : decode cL_law (pc + 4) = .ok (.goto 4, 3)) (d3 : decode cL_law (pc + 7) = .ok (.iconst 0, 1)) (kk : lq_W p l e s m below meth c b D cy aY aM qO (pc + 8) I J I2 J2 o lv (.int (dz_b (decide (¬ x = 0) = true)) :: st) cells slots) : lq_W p l e s m below meth c b D cy aY aM qO pc I J I2 J2 o lv (.int x :: st) cells slots := by
  refine lq_ez X (tgt := pc + 7) d0 (by omega) (fun h => ?_) (fun h => ?_)
  · refine lq_ic X (x := 0) d3 (by decide) ?_
    have e : dz_b (decide (¬ x = 0) = true) = 0 := dz_bf (by simp [h])
    rw [e] at kk
    exact kk
  · refine lq_ic X (x := 1) d1 (by decide) ?_
    refine lq_go X (tgt := pc + 8) d2 (by omega) ?_
    have e : dz_b (decide (¬ x = 0) = true) = 1 := dz_b1 (by simp [h])
    rw [e] at kk
    exact kk
set_option maxRecDepth 100000 in
set_option maxHeartbeats 4000000 in
theorem lc_measure (X : lq_X p l s m c b L xs D cy aY aM qO) (hO : dz_OK sg) (hY : YI sg I J) (hR : dz_RM sg I2) (hi : i + 6 ≤ L) (hcs : cells + 1 ≤ 601024 ∧ slots + 6 ≤ 7293034) (K : lq_K p l e s m below meth c b D cy aY aM qO i (cells + 1) (slots + 6)) : lq_W p l e s m below meth c b D cy aY aM qO 136 I J I2 J2 o (lq_L b (aY 0) (aM 0) qO i) [] cells slots := by
  refine lq_ald X (k0 := 3) dL_law_136 rfl ?_
  refine lq_arg X (k := 1) (k0 := 4) (k4 := 0) (i := i) dL_law_137 dL_law_138 dL_law_140 dL_law_141 dL_law_142 (by decide) rfl rfl (by omega) ?_
  refine lq_arg X (k := 2) (k0 := 4) (k4 := 0) (i := i) dL_law_143 dL_law_144 dL_law_146 dL_law_147 dL_law_148 (by decide) rfl rfl (by omega) ?_
  refine lq_arg X (k := 3) (k0 := 4) (k4 := 0) (i := i) dL_law_149 dL_law_150 dL_law_152 dL_law_153 dL_law_154 (by decide) rfl rfl (by omega) ?_
  refine lq_arg X (k := 4) (k0 := 4) (k4 := 0) (i := i) dL_law_155 dL_law_156 dL_law_158 dL_law_159 dL_law_160 (by decide) rfl rfl (by omega) ?_
  refine lq_st (st2 := (([.inl (xs (i + 1)), .inl (xs (i + 2)), .inl (xs (i + 3)), .inl (xs (i + 4))] : List dz_AV).map (dz_val aY)).reverse ++ .ref (aY 0) :: []) rfl ?_
  refine lq_cY X (vs := [.inl (xs (i + 1)), .inl (xs (i + 2)), .inl (xs (i + 3)), .inl (xs (i + 4))]) rfl dz_lL_19 dL_law_161 rfl (by decide) (by decide) (Nat.le_of_ble_eq_true rfl) ⟨by omega, by omega⟩ (c_X4_measure (l, D, cy, aY) _ _ _ _ _ _ hO hY.1) (fun r I3 J3 hf => ?_)
  obtain ⟨rfl, hY3⟩ := yd_Y hY hf
  refine lq_ald X (k0 := 2) dL_law_164 rfl ?_
  refine lq_arg X (k := 1) (k0 := 4) (k4 := 0) (i := i) dL_law_165 dL_law_166 dL_law_168 dL_law_169 dL_law_170 (by decide) rfl rfl (by omega) ?_
  refine lq_arg X (k := 2) (k0 := 4) (k4 := 0) (i := i) dL_law_171 dL_law_172 dL_law_174 dL_law_175 dL_law_176 (by decide) rfl rfl (by omega) ?_
  refine lq_arg X (k := 3) (k0 := 4) (k4 := 0) (i := i) dL_law_177 dL_law_178 dL_law_180 dL_law_181 dL_law_182 (by decide) rfl rfl (by omega) ?_
  refine lq_arg X (k := 4) (k0 := 4) (k4 := 0) (i := i) dL_law_183 dL_law_184 dL_law_186 dL_law_187 dL_law_188 (by decide) rfl rfl (by omega) ?_
  refine lq_st (st2 := (([.inl (xs (i + 1)), .inl (xs (i + 2)), .inl (xs (i + 3)), .inl (xs (i + 4))] : List dz_AV).map (dz_val aM)).reverse ++ .ref (aM 0) :: [.int (dz_bp (ok_measure (xs (i + 1)) (xs (i + 2)) (xs (i + 3)) (xs (i + 4))))]) rfl ?_
  refine lq_cM X (vs := [.inl (xs (i + 1)), .inl (xs (i + 2)), .inl (xs (i + 3)), .inl (xs (i + 4))]) rfl dz_lL_23 dL_law_189 rfl (by decide) (by decide) (Nat.le_of_ble_eq_true rfl) ⟨by omega, by omega⟩ (c_X5_measure (l, D, cy, aM) _ _ _ _ _ _ hO hR) (fun r I4 J4 hf2 => ?_)
  obtain ⟨rfl, hR4⟩ := hf2
  refine lq_st (st2 := [.int (dz_bp (ok_measure (xs (i + 1)) (xs (i + 2)) (xs (i + 3)) (xs (i + 4)))), .int (dz_bp (ok_measure (xs (i + 1)) (xs (i + 2)) (xs (i + 3)) (xs (i + 4))))]) rfl ?_
  refine lq_eq X (tgt := 864) dL_law_192 (by decide) rfl ?_
  exact lq_wd (by omega) (by omega) (K _ _ _ _ _ _ (OK_measure hO _ _ _ _ ) hY3 hR4)
set_option maxRecDepth 100000 in
set_option maxHeartbeats 4000000 in
theorem lc_drum (X : lq_X p l s m c b L xs D cy aY aM qO) (hO : dz_OK sg) (hY : YI sg I J) (hR : dz_RM sg I2) (hi : i + 6 ≤ L) (hcs : cells + 1 ≤ 601024 ∧ slots + 6 ≤ 7293034) (K : lq_K p l e s m below meth c b D cy aY aM qO i (cells + 1) (slots + 6)) : lq_W p l e s m below meth c b D cy aY aM qO 197 I J I2 J2 o (lq_L b (aY 0) (aM 0) qO i) [] cells slots := by
  refine lq_ald X (k0 := 3) dL_law_197 rfl ?_
  refine lq_arg X (k := 1) (k0 := 4) (k4 := 0) (i := i) dL_law_198 dL_law_199 dL_law_201 dL_law_202 dL_law_203 (by decide) rfl rfl (by omega) ?_
  refine lq_arg X (k := 2) (k0 := 4) (k4 := 0) (i := i) dL_law_204 dL_law_205 dL_law_207 dL_law_208 dL_law_209 (by decide) rfl rfl (by omega) ?_
  refine lq_arg X (k := 3) (k0 := 4) (k4 := 0) (i := i) dL_law_210 dL_law_211 dL_law_213 dL_law_214 dL_law_215 (by decide) rfl rfl (by omega) ?_
  refine lq_arg X (k := 4) (k0 := 4) (k4 := 0) (i := i) dL_law_216 dL_law_217 dL_law_219 dL_law_220 dL_law_221 (by decide) rfl rfl (by omega) ?_
  refine lq_arg X (k := 5) (k0 := 4) (k4 := 0) (i := i) dL_law_222 dL_law_223 dL_law_225 dL_law_226 dL_law_227 (by decide) rfl rfl (by omega) ?_
  refine lq_st (st2 := (([.inl (xs (i + 1)), .inl (xs (i + 2)), .inl (xs (i + 3)), .inl (xs (i + 4)), .inl (xs (i + 5))] : List dz_AV).map (dz_val aY)).reverse ++ .ref (aY 0) :: []) rfl ?_
  refine lq_cY X (vs := [.inl (xs (i + 1)), .inl (xs (i + 2)), .inl (xs (i + 3)), .inl (xs (i + 4)), .inl (xs (i + 5))]) rfl dz_lL_24 dL_law_228 rfl (by decide) (by decide) (Nat.le_of_ble_eq_true rfl) ⟨by omega, by omega⟩ (c_X4_drum (l, D, cy, aY) _ _ _ _ _ _ _ hO hY.1) (fun r I3 J3 hf => ?_)
  obtain ⟨rfl, hY3⟩ := yd_Y hY hf
  refine lq_ald X (k0 := 2) dL_law_231 rfl ?_
  refine lq_arg X (k := 1) (k0 := 4) (k4 := 0) (i := i) dL_law_232 dL_law_233 dL_law_235 dL_law_236 dL_law_237 (by decide) rfl rfl (by omega) ?_
  refine lq_arg X (k := 2) (k0 := 4) (k4 := 0) (i := i) dL_law_238 dL_law_239 dL_law_241 dL_law_242 dL_law_243 (by decide) rfl rfl (by omega) ?_
  refine lq_arg X (k := 3) (k0 := 4) (k4 := 0) (i := i) dL_law_244 dL_law_245 dL_law_247 dL_law_248 dL_law_249 (by decide) rfl rfl (by omega) ?_
  refine lq_arg X (k := 4) (k0 := 4) (k4 := 0) (i := i) dL_law_250 dL_law_251 dL_law_253 dL_law_254 dL_law_255 (by decide) rfl rfl (by omega) ?_
  refine lq_arg X (k := 5) (k0 := 4) (k4 := 0) (i := i) dL_law_256 dL_law_257 dL_law_259 dL_law_260 dL_law_261 (by decide) rfl rfl (by omega) ?_
  refine lq_st (st2 := (([.inl (xs (i + 1)), .inl (xs (i + 2)), .inl (xs (i + 3)), .inl (xs (i + 4)), .inl (xs (i + 5))] : List dz_AV).map (dz_val aM)).reverse ++ .ref (aM 0) :: [.int (a_drum sg (xs (i + 1)) (xs (i + 2)) (xs (i + 3)) (xs (i + 4)) (xs (i + 5)))]) rfl ?_
  refine lq_cM X (vs := [.inl (xs (i + 1)), .inl (xs (i + 2)), .inl (xs (i + 3)), .inl (xs (i + 4)), .inl (xs (i + 5))]) rfl dz_lL_28 dL_law_262 rfl (by decide) (by decide) (Nat.le_of_ble_eq_true rfl) ⟨by omega, by omega⟩ (c_X5_drum (l, D, cy, aM) _ _ _ _ _ _ _ hO hR) (fun r I4 J4 hf2 => ?_)
  obtain ⟨rfl, hR4⟩ := hf2
  refine lq_st (st2 := [.int (a_drum sg (xs (i + 1)) (xs (i + 2)) (xs (i + 3)) (xs (i + 4)) (xs (i + 5))), .int (a_drum sg (xs (i + 1)) (xs (i + 2)) (xs (i + 3)) (xs (i + 4)) (xs (i + 5)))]) rfl ?_
  refine lq_eq X (tgt := 864) dL_law_265 (by decide) rfl ?_
  exact lq_wd (by omega) (by omega) (K _ _ _ _ _ _ (OK_drum hO _ _ _ _ _ ) hY3 hR4)
set_option maxRecDepth 100000 in
set_option maxHeartbeats 4000000 in
theorem lc_set (X : lq_X p l s m c b L xs D cy aY aM qO) (hO : dz_OK sg) (hY : YI sg I J) (hR : dz_RM sg I2) (hi : i + 6 ≤ L) (hcs : cells + 1 ≤ 601024 ∧ slots + 6 ≤ 7293034) (K : lq_K p l e s m below meth c b D cy aY aM qO i (cells + 1) (slots + 6)) : lq_W p l e s m below meth c b D cy aY aM qO 270 I J I2 J2 o (lq_L b (aY 0) (aM 0) qO i) [] cells slots := by
  refine lq_ald X (k0 := 3) dL_law_270 rfl ?_
  refine lq_arg X (k := 1) (k0 := 4) (k4 := 0) (i := i) dL_law_271 dL_law_272 dL_law_274 dL_law_275 dL_law_276 (by decide) rfl rfl (by omega) ?_
  refine lq_arg X (k := 2) (k0 := 4) (k4 := 0) (i := i) dL_law_277 dL_law_278 dL_law_280 dL_law_281 dL_law_282 (by decide) rfl rfl (by omega) ?_
  refine lq_arg X (k := 3) (k0 := 4) (k4 := 0) (i := i) dL_law_283 dL_law_284 dL_law_286 dL_law_287 dL_law_288 (by decide) rfl rfl (by omega) ?_
  refine lq_st (st2 := (([.inl (xs (i + 1)), .inl (xs (i + 2)), .inl (xs (i + 3))] : List dz_AV).map (dz_val aY)).reverse ++ .ref (aY 0) :: []) rfl ?_
  refine lq_cY X (vs := [.inl (xs (i + 1)), .inl (xs (i + 2)), .inl (xs (i + 3))]) rfl dz_lL_29 dL_law_289 rfl (by decide) (by decide) (Nat.le_of_ble_eq_true rfl) ⟨by omega, by omega⟩ (c_X4_set (l, D, cy, aY) _ _ _ _ _ hO hY.1) (fun r I3 J3 hf => ?_)
  obtain ⟨rfl, hY3⟩ := yd_Y hY hf
  refine lq_ald X (k0 := 2) dL_law_292 rfl ?_
  refine lq_arg X (k := 1) (k0 := 4) (k4 := 0) (i := i) dL_law_293 dL_law_294 dL_law_296 dL_law_297 dL_law_298 (by decide) rfl rfl (by omega) ?_
  refine lq_arg X (k := 2) (k0 := 4) (k4 := 0) (i := i) dL_law_299 dL_law_300 dL_law_302 dL_law_303 dL_law_304 (by decide) rfl rfl (by omega) ?_
  refine lq_arg X (k := 3) (k0 := 4) (k4 := 0) (i := i) dL_law_305 dL_law_306 dL_law_308 dL_law_309 dL_law_310 (by decide) rfl rfl (by omega) ?_
  refine lq_st (st2 := (([.inl (xs (i + 1)), .inl (xs (i + 2)), .inl (xs (i + 3))] : List dz_AV).map (dz_val aM)).reverse ++ .ref (aM 0) :: [.int (dz_bp (ok_set (xs (i + 1)) (xs (i + 2)) (xs (i + 3))))]) rfl ?_
  refine lq_cM X (vs := [.inl (xs (i + 1)), .inl (xs (i + 2)), .inl (xs (i + 3))]) rfl dz_lL_33 dL_law_311 rfl (by decide) (by decide) (Nat.le_of_ble_eq_true rfl) ⟨by omega, by omega⟩ (c_X5_set (l, D, cy, aM) _ _ _ _ _ hO hR) (fun r I4 J4 hf2 => ?_)
  obtain ⟨rfl, hR4⟩ := hf2
  refine lq_st (st2 := [.int (dz_bp (ok_set (xs (i + 1)) (xs (i + 2)) (xs (i + 3)))), .int (dz_bp (ok_set (xs (i + 1)) (xs (i + 2)) (xs (i + 3))))]) rfl ?_
  refine lq_eq X (tgt := 864) dL_law_314 (by decide) rfl ?_
  exact lq_wd (by omega) (by omega) (K _ _ _ _ _ _ (OK_set hO _ _ _ ) hY3 hR4)
set_option maxRecDepth 100000 in
set_option maxHeartbeats 4000000 in
theorem lc_column (X : lq_X p l s m c b L xs D cy aY aM qO) (hO : dz_OK sg) (hY : YI sg I J) (hR : dz_RM sg I2) (hi : i + 6 ≤ L) (hcs : cells + 1 ≤ 601024 ∧ slots + 6 ≤ 7293034) (K : lq_K p l e s m below meth c b D cy aY aM qO i (cells + 1) (slots + 6)) : lq_W p l e s m below meth c b D cy aY aM qO 319 I J I2 J2 o (lq_L b (aY 0) (aM 0) qO i) [] cells slots := by
  refine lq_ald X (k0 := 3) dL_law_319 rfl ?_
  refine lq_arg X (k := 1) (k0 := 4) (k4 := 0) (i := i) dL_law_320 dL_law_321 dL_law_323 dL_law_324 dL_law_325 (by decide) rfl rfl (by omega) ?_
  refine lq_arg X (k := 2) (k0 := 4) (k4 := 0) (i := i) dL_law_326 dL_law_327 dL_law_329 dL_law_330 dL_law_331 (by decide) rfl rfl (by omega) ?_
  refine lq_arg X (k := 3) (k0 := 4) (k4 := 0) (i := i) dL_law_332 dL_law_333 dL_law_335 dL_law_336 dL_law_337 (by decide) rfl rfl (by omega) ?_
  refine lq_st (st2 := (([.inl (xs (i + 1)), .inl (xs (i + 2)), .inl (xs (i + 3))] : List dz_AV).map (dz_val aY)).reverse ++ .ref (aY 0) :: []) rfl ?_
  refine lq_cY X (vs := [.inl (xs (i + 1)), .inl (xs (i + 2)), .inl (xs (i + 3))]) rfl dz_lL_34 dL_law_338 rfl (by decide) (by decide) (Nat.le_of_ble_eq_true rfl) ⟨by omega, by omega⟩ (c_X4_column (l, D, cy, aY) _ _ _ _ _ hO hY.1) (fun r I3 J3 hf => ?_)
  obtain ⟨rfl, hY3⟩ := yd_Y hY hf
  refine lq_ald X (k0 := 2) dL_law_341 rfl ?_
  refine lq_arg X (k := 1) (k0 := 4) (k4 := 0) (i := i) dL_law_342 dL_law_343 dL_law_345 dL_law_346 dL_law_347 (by decide) rfl rfl (by omega) ?_
  refine lq_arg X (k := 2) (k0 := 4) (k4 := 0) (i := i) dL_law_348 dL_law_349 dL_law_351 dL_law_352 dL_law_353 (by decide) rfl rfl (by omega) ?_
  refine lq_arg X (k := 3) (k0 := 4) (k4 := 0) (i := i) dL_law_354 dL_law_355 dL_law_357 dL_law_358 dL_law_359 (by decide) rfl rfl (by omega) ?_
  refine lq_st (st2 := (([.inl (xs (i + 1)), .inl (xs (i + 2)), .inl (xs (i + 3))] : List dz_AV).map (dz_val aM)).reverse ++ .ref (aM 0) :: [.int (a_column sg (xs (i + 1)) (xs (i + 2)) (xs (i + 3)))]) rfl ?_
  refine lq_cM X (vs := [.inl (xs (i + 1)), .inl (xs (i + 2)), .inl (xs (i + 3))]) rfl dz_lL_38 dL_law_360 rfl (by decide) (by decide) (Nat.le_of_ble_eq_true rfl) ⟨by omega, by omega⟩ (c_X5_column (l, D, cy, aM) _ _ _ _ _ hO hR) (fun r I4 J4 hf2 => ?_)
  obtain ⟨rfl, hR4⟩ := hf2
  refine lq_st (st2 := [.int (a_column sg (xs (i + 1)) (xs (i + 2)) (xs (i + 3))), .int (a_column sg (xs (i + 1)) (xs (i + 2)) (xs (i + 3)))]) rfl ?_
  refine lq_eq X (tgt := 864) dL_law_363 (by decide) rfl ?_
  exact lq_wd (by omega) (by omega) (K _ _ _ _ _ _ (OK_column hO _ _ _ ) hY3 hR4)
set_option maxRecDepth 100000 in
set_option maxHeartbeats 4000000 in
theorem lc_turn (X : lq_X p l s m c b L xs D cy aY aM qO) (hO : dz_OK sg) (hY : YI sg I J) (hR : dz_RM sg I2) (hi : i + 6 ≤ L) (hcs : cells + 1 ≤ 601024 ∧ slots + 6 ≤ 7293034) (K : lq_K p l e s m below meth c b D cy aY aM qO i (cells + 1) (slots + 6)) : lq_W p l e s m below meth c b D cy aY aM qO 368 I J I2 J2 o (lq_L b (aY 0) (aM 0) qO i) [] cells slots := by
  refine lq_ald X (k0 := 3) dL_law_368 rfl ?_
  refine lq_arg X (k := 1) (k0 := 4) (k4 := 0) (i := i) dL_law_369 dL_law_370 dL_law_372 dL_law_373 dL_law_374 (by decide) rfl rfl (by omega) ?_
  refine lq_arg X (k := 2) (k0 := 4) (k4 := 0) (i := i) dL_law_375 dL_law_376 dL_law_378 dL_law_379 dL_law_380 (by decide) rfl rfl (by omega) ?_
  refine lq_st (st2 := (([.inl (xs (i + 1)), .inl (xs (i + 2))] : List dz_AV).map (dz_val aY)).reverse ++ .ref (aY 0) :: []) rfl ?_
  refine lq_cY X (vs := [.inl (xs (i + 1)), .inl (xs (i + 2))]) rfl dz_lL_39 dL_law_381 rfl (by decide) (by decide) (Nat.le_of_ble_eq_true rfl) ⟨by omega, by omega⟩ (c_X4_turn (l, D, cy, aY) _ _ _ _ hO hY.1) (fun r I3 J3 hf => ?_)
  obtain ⟨rfl, hY3⟩ := dz_Pu_Y hY hf
  refine lq_ald X (k0 := 2) dL_law_384 rfl ?_
  refine lq_arg X (k := 1) (k0 := 4) (k4 := 0) (i := i) dL_law_385 dL_law_386 dL_law_388 dL_law_389 dL_law_390 (by decide) rfl rfl (by omega) ?_
  refine lq_arg X (k := 2) (k0 := 4) (k4 := 0) (i := i) dL_law_391 dL_law_392 dL_law_394 dL_law_395 dL_law_396 (by decide) rfl rfl (by omega) ?_
  refine lq_st (st2 := (([.inl (xs (i + 1)), .inl (xs (i + 2))] : List dz_AV).map (dz_val aM)).reverse ++ .ref (aM 0) :: [.int (q_turn sg (xs (i + 1)) (xs (i + 2)))]) rfl ?_
  refine lq_cM X (vs := [.inl (xs (i + 1)), .inl (xs (i + 2))]) rfl dz_lL_42 dL_law_397 rfl (by decide) (by decide) (Nat.le_of_ble_eq_true rfl) ⟨by omega, by omega⟩ (c_X5_turn (l, D, cy, aM) _ _ _ _ hO hR) (fun r I4 J4 hf2 => ?_)
  obtain ⟨rfl, hR4⟩ := hf2
  refine lq_st (st2 := [.int (q_turn sg (xs (i + 1)) (xs (i + 2))), .int (q_turn sg (xs (i + 1)) (xs (i + 2)))]) rfl ?_
  refine lq_eq X (tgt := 864) dL_law_400 (by decide) rfl ?_
  exact lq_wd (by omega) (by omega) (K _ _ _ _ _ _ hO hY3 hR4)
set_option maxRecDepth 100000 in
set_option maxHeartbeats 4000000 in
theorem lc_fits (X : lq_X p l s m c b L xs D cy aY aM qO) (hO : dz_OK sg) (hY : YI sg I J) (hR : dz_RM sg I2) (hi : i + 6 ≤ L) (hcs : cells + 1 ≤ 601024 ∧ slots + 6 ≤ 7293034) (K : lq_K p l e s m below meth c b D cy aY aM qO i (cells + 1) (slots + 6)) : lq_W p l e s m below meth c b D cy aY aM qO 405 I J I2 J2 o (lq_L b (aY 0) (aM 0) qO i) [] cells slots := by
  refine lq_ald X (k0 := 3) dL_law_405 rfl ?_
  refine lq_arg X (k := 1) (k0 := 4) (k4 := 0) (i := i) dL_law_406 dL_law_407 dL_law_409 dL_law_410 dL_law_411 (by decide) rfl rfl (by omega) ?_
  refine lq_arg X (k := 2) (k0 := 4) (k4 := 0) (i := i) dL_law_412 dL_law_413 dL_law_415 dL_law_416 dL_law_417 (by decide) rfl rfl (by omega) ?_
  refine lq_st (st2 := (([.inl (xs (i + 1)), .inl (xs (i + 2))] : List dz_AV).map (dz_val aY)).reverse ++ .ref (aY 0) :: []) rfl ?_
  refine lq_cY X (vs := [.inl (xs (i + 1)), .inl (xs (i + 2))]) rfl dz_lL_43 dL_law_418 rfl (by decide) (by decide) (Nat.le_of_ble_eq_true rfl) ⟨by omega, by omega⟩ (c_X4_fits (l, D, cy, aY) _ _ _ _ hO hY.1) (fun r I3 J3 hf => ?_)
  obtain ⟨rfl, hY3⟩ := dz_Pu_Y hY hf
  refine lq_ald X (k0 := 2) dL_law_421 rfl ?_
  refine lq_arg X (k := 1) (k0 := 4) (k4 := 0) (i := i) dL_law_422 dL_law_423 dL_law_425 dL_law_426 dL_law_427 (by decide) rfl rfl (by omega) ?_
  refine lq_arg X (k := 2) (k0 := 4) (k4 := 0) (i := i) dL_law_428 dL_law_429 dL_law_431 dL_law_432 dL_law_433 (by decide) rfl rfl (by omega) ?_
  refine lq_st (st2 := (([.inl (xs (i + 1)), .inl (xs (i + 2))] : List dz_AV).map (dz_val aM)).reverse ++ .ref (aM 0) :: [.int (q_fits sg (xs (i + 1)) (xs (i + 2)))]) rfl ?_
  refine lq_cM X (vs := [.inl (xs (i + 1)), .inl (xs (i + 2))]) rfl dz_lL_46 dL_law_434 rfl (by decide) (by decide) (Nat.le_of_ble_eq_true rfl) ⟨by omega, by omega⟩ (c_X5_fits (l, D, cy, aM) _ _ _ _ hO hR) (fun r I4 J4 hf2 => ?_)
  obtain ⟨rfl, hR4⟩ := hf2
  refine lq_st (st2 := [.int (q_fits sg (xs (i + 1)) (xs (i + 2))), .int (q_fits sg (xs (i + 1)) (xs (i + 2)))]) rfl ?_
  refine lq_eq X (tgt := 864) dL_law_437 (by decide) rfl ?_
  exact lq_wd (by omega) (by omega) (K _ _ _ _ _ _ hO hY3 hR4)
set_option maxRecDepth 100000 in
set_option maxHeartbeats 4000000 in
theorem lc_hand (X : lq_X p l s m c b L xs D cy aY aM qO) (hO : dz_OK sg) (hY : YI sg I J) (hR : dz_RM sg I2) (hi : i + 6 ≤ L) (hcs : cells + 1 ≤ 601024 ∧ slots + 6 ≤ 7293034) (K : lq_K p l e s m below meth c b D cy aY aM qO i (cells + 1) (slots + 6)) : lq_W p l e s m below meth c b D cy aY aM qO 442 I J I2 J2 o (lq_L b (aY 0) (aM 0) qO i) [] cells slots := by
  refine lq_ald X (k0 := 3) dL_law_442 rfl ?_
  refine lq_arg X (k := 1) (k0 := 4) (k4 := 0) (i := i) dL_law_443 dL_law_444 dL_law_446 dL_law_447 dL_law_448 (by decide) rfl rfl (by omega) ?_
  refine lq_arg X (k := 2) (k0 := 4) (k4 := 0) (i := i) dL_law_449 dL_law_450 dL_law_452 dL_law_453 dL_law_454 (by decide) rfl rfl (by omega) ?_
  refine lq_st (st2 := (([.inl (xs (i + 1)), .inl (xs (i + 2))] : List dz_AV).map (dz_val aY)).reverse ++ .ref (aY 0) :: []) rfl ?_
  refine lq_cY X (vs := [.inl (xs (i + 1)), .inl (xs (i + 2))]) rfl dz_lL_47 dL_law_455 rfl (by decide) (by decide) (Nat.le_of_ble_eq_true rfl) ⟨by omega, by omega⟩ (c_X4_hand (l, D, cy, aY) _ _ _ _ hO hY.1) (fun r I3 J3 hf => ?_)
  obtain ⟨rfl, hY3⟩ := yd_Y hY hf
  refine lq_ald X (k0 := 2) dL_law_458 rfl ?_
  refine lq_arg X (k := 1) (k0 := 4) (k4 := 0) (i := i) dL_law_459 dL_law_460 dL_law_462 dL_law_463 dL_law_464 (by decide) rfl rfl (by omega) ?_
  refine lq_arg X (k := 2) (k0 := 4) (k4 := 0) (i := i) dL_law_465 dL_law_466 dL_law_468 dL_law_469 dL_law_470 (by decide) rfl rfl (by omega) ?_
  refine lq_st (st2 := (([.inl (xs (i + 1)), .inl (xs (i + 2))] : List dz_AV).map (dz_val aM)).reverse ++ .ref (aM 0) :: [.int (dz_bp (ok_hand sg (xs (i + 1)) (xs (i + 2))))]) rfl ?_
  refine lq_cM X (vs := [.inl (xs (i + 1)), .inl (xs (i + 2))]) rfl dz_lL_51 dL_law_471 rfl (by decide) (by decide) (Nat.le_of_ble_eq_true rfl) ⟨by omega, by omega⟩ (c_X5_hand (l, D, cy, aM) _ _ _ _ hO hR) (fun r I4 J4 hf2 => ?_)
  obtain ⟨rfl, hR4⟩ := hf2
  refine lq_st (st2 := [.int (dz_bp (ok_hand sg (xs (i + 1)) (xs (i + 2)))), .int (dz_bp (ok_hand sg (xs (i + 1)) (xs (i + 2))))]) rfl ?_
  refine lq_eq X (tgt := 864) dL_law_474 (by decide) rfl ?_
  exact lq_wd (by omega) (by omega) (K _ _ _ _ _ _ (OK_hand hO _ _ ) hY3 hR4)
set_option maxRecDepth 100000 in
set_option maxHeartbeats 4000000 in
theorem lc_not (X : lq_X p l s m c b L xs D cy aY aM qO) (hO : dz_OK sg) (hY : YI sg I J) (hR : dz_RM sg I2) (hi : i + 6 ≤ L) (hcs : cells + 1 ≤ 601024 ∧ slots + 6 ≤ 7293034) (K : lq_K p l e s m below meth c b D cy aY aM qO i (cells + 1) (slots + 6)) : lq_W p l e s m below meth c b D cy aY aM qO 479 I J I2 J2 o (lq_L b (aY 0) (aM 0) qO i) [] cells slots := by
  refine lq_ald X (k0 := 3) dL_law_479 rfl ?_
  refine lq_arg X (k := 1) (k0 := 4) (k4 := 0) (i := i) dL_law_480 dL_law_481 dL_law_483 dL_law_484 dL_law_485 (by decide) rfl rfl (by omega) ?_
  refine lq_arg X (k := 2) (k0 := 4) (k4 := 0) (i := i) dL_law_486 dL_law_487 dL_law_489 dL_law_490 dL_law_491 (by decide) rfl rfl (by omega) ?_
  refine lq_arg X (k := 3) (k0 := 4) (k4 := 0) (i := i) dL_law_492 dL_law_493 dL_law_495 dL_law_496 dL_law_497 (by decide) rfl rfl (by omega) ?_
  refine lq_bo X dL_law_498 dL_law_501 dL_law_502 dL_law_505 ?_
  refine lq_st (st2 := (([.inl (xs (i + 1)), .inl (xs (i + 2)), .inl (dz_b (decide (¬ xs (i + 3) = 0) = true))] : List dz_AV).map (dz_val aY)).reverse ++ .ref (aY 0) :: []) rfl ?_
  refine lq_cY X (vs := [.inl (xs (i + 1)), .inl (xs (i + 2)), .inl (dz_b (decide (¬ xs (i + 3) = 0) = true))]) rfl dz_lL_52 dL_law_506 rfl (by decide) (by decide) (Nat.le_of_ble_eq_true rfl) ⟨by omega, by omega⟩ (c_X4_not (l, D, cy, aY) _ _ (decide (¬ xs (i + 3) = 0)) _ _ hO hY.1) (fun r I3 J3 hf => ?_)
  obtain ⟨rfl, hY3⟩ := yd_Y hY hf
  refine lq_ald X (k0 := 2) dL_law_509 rfl ?_
  refine lq_arg X (k := 1) (k0 := 4) (k4 := 0) (i := i) dL_law_510 dL_law_511 dL_law_513 dL_law_514 dL_law_515 (by decide) rfl rfl (by omega) ?_
  refine lq_arg X (k := 2) (k0 := 4) (k4 := 0) (i := i) dL_law_516 dL_law_517 dL_law_519 dL_law_520 dL_law_521 (by decide) rfl rfl (by omega) ?_
  refine lq_arg X (k := 3) (k0 := 4) (k4 := 0) (i := i) dL_law_522 dL_law_523 dL_law_525 dL_law_526 dL_law_527 (by decide) rfl rfl (by omega) ?_
  refine lq_bo X dL_law_528 dL_law_531 dL_law_532 dL_law_535 ?_
  refine lq_st (st2 := (([.inl (xs (i + 1)), .inl (xs (i + 2)), .inl (dz_b (decide (¬ xs (i + 3) = 0) = true))] : List dz_AV).map (dz_val aM)).reverse ++ .ref (aM 0) :: [.int (dz_bp (ok_not sg (xs (i + 1)) (xs (i + 2)) (decide (¬ xs (i + 3) = 0))))]) rfl ?_
  refine lq_cM X (vs := [.inl (xs (i + 1)), .inl (xs (i + 2)), .inl (dz_b (decide (¬ xs (i + 3) = 0) = true))]) rfl dz_lL_56 dL_law_536 rfl (by decide) (by decide) (Nat.le_of_ble_eq_true rfl) ⟨by omega, by omega⟩ (c_X5_not (l, D, cy, aM) _ _ (decide (¬ xs (i + 3) = 0)) _ _ hO hR) (fun r I4 J4 hf2 => ?_)
  obtain ⟨rfl, hR4⟩ := hf2
  refine lq_st (st2 := [.int (dz_bp (ok_not sg (xs (i + 1)) (xs (i + 2)) (decide (¬ xs (i + 3) = 0)))), .int (dz_bp (ok_not sg (xs (i + 1)) (xs (i + 2)) (decide (¬ xs (i + 3) = 0))))]) rfl ?_
  refine lq_eq X (tgt := 864) dL_law_539 (by decide) rfl ?_
  exact lq_wd (by omega) (by omega) (K _ _ _ _ _ _ (OK_not hO _ _ (decide (¬ xs (i + 3) = 0)) ) hY3 hR4)
set_option maxRecDepth 100000 in
set_option maxHeartbeats 4000000 in
theorem lc_least (X : lq_X p l s m c b L xs D cy aY aM qO) (hO : dz_OK sg) (hY : YI sg I J) (hR : dz_RM sg I2) (hi : i + 6 ≤ L) (hcs : cells + 1 ≤ 601024 ∧ slots + 6 ≤ 7293034) (K : lq_K p l e s m below meth c b D cy aY aM qO i (cells + 1) (slots + 6)) : lq_W p l e s m below meth c b D cy aY aM qO 544 I J I2 J2 o (lq_L b (aY 0) (aM 0) qO i) [] cells slots := by
  refine lq_ald X (k0 := 3) dL_law_544 rfl ?_
  refine lq_st (st2 := (([] : List dz_AV).map (dz_val aY)).reverse ++ .ref (aY 0) :: []) rfl ?_
  refine lq_cY X (vs := []) rfl dz_lL_57 dL_law_545 rfl (by decide) (by decide) (Nat.le_of_ble_eq_true rfl) ⟨by omega, by omega⟩ (c_X4_least (l, D, cy, aY) _ _ hO hY) (fun r I3 J3 hf => ?_)
  obtain ⟨rfl, hY3⟩ := hf
  refine lq_ald X (k0 := 2) dL_law_548 rfl ?_
  refine lq_st (st2 := (([] : List dz_AV).map (dz_val aM)).reverse ++ .ref (aM 0) :: [.int (q_least sg)]) rfl ?_
  refine lq_cM X (vs := []) rfl dz_lL_61 dL_law_549 rfl (by decide) (by decide) (Nat.le_of_ble_eq_true rfl) ⟨by omega, by omega⟩ (c_X5_least (l, D, cy, aM) _ _ hO hR) (fun r I4 J4 hf2 => ?_)
  obtain ⟨rfl, hR4⟩ := hf2
  refine lq_st (st2 := [.int (q_least sg), .int (q_least sg)]) rfl ?_
  refine lq_eq X (tgt := 864) dL_law_552 (by decide) rfl ?_
  exact lq_wd (by omega) (by omega) (K _ _ _ _ _ _ hO hY3 hR4)
set_option maxRecDepth 100000 in
set_option maxHeartbeats 4000000 in
theorem lc_ways (X : lq_X p l s m c b L xs D cy aY aM qO) (hO : dz_OK sg) (hY : YI sg I J) (hR : dz_RM sg I2) (hi : i + 6 ≤ L) (hcs : cells + 1 ≤ 601024 ∧ slots + 6 ≤ 7293034) (K : lq_K p l e s m below meth c b D cy aY aM qO i (cells + 1) (slots + 6)) : lq_W p l e s m below meth c b D cy aY aM qO 557 I J I2 J2 o (lq_L b (aY 0) (aM 0) qO i) [] cells slots := by
  refine lq_ald X (k0 := 3) dL_law_557 rfl ?_
  refine lq_st (st2 := (([] : List dz_AV).map (dz_val aY)).reverse ++ .ref (aY 0) :: []) rfl ?_
  refine lq_cY X (vs := []) rfl dz_lL_62 dL_law_558 rfl (by decide) (by decide) (Nat.le_of_ble_eq_true rfl) ⟨by omega, by omega⟩ (c_X4_ways (l, D, cy, aY) _ _ hO hY) (fun r I3 J3 hf => ?_)
  obtain ⟨rfl, hY3⟩ := hf
  refine lq_ald X (k0 := 2) dL_law_561 rfl ?_
  refine lq_st (st2 := (([] : List dz_AV).map (dz_val aM)).reverse ++ .ref (aM 0) :: [.long (q_ways sg)]) rfl ?_
  refine lq_cM X (vs := []) rfl dz_lL_66 dL_law_562 rfl (by decide) (by decide) (Nat.le_of_ble_eq_true rfl) ⟨by omega, by omega⟩ (c_X5_ways (l, D, cy, aM) _ _ hO hR) (fun r I4 J4 hf2 => ?_)
  obtain ⟨rfl, hR4⟩ := hf2
  refine lq_st (st2 := [.long (q_ways sg), .long (q_ways sg)]) rfl ?_
  refine lq_lc X dL_law_565 rfl ?_
  refine lq_ez X (tgt := 864) dL_law_566 (by decide) (fun _ => ?_) (fun h => absurd rfl h)
  exact lq_wd (by omega) (by omega) (K _ _ _ _ _ _ hO hY3 hR4)
set_option maxRecDepth 100000 in
set_option maxHeartbeats 4000000 in
theorem lc_first (X : lq_X p l s m c b L xs D cy aY aM qO) (hO : dz_OK sg) (hY : YI sg I J) (hR : dz_RM sg I2) (hi : i + 6 ≤ L) (hcs : cells + 1 ≤ 601024 ∧ slots + 6 ≤ 7293034) (K : lq_K p l e s m below meth c b D cy aY aM qO i (cells + 1) (slots + 6)) : lq_W p l e s m below meth c b D cy aY aM qO 571 I J I2 J2 o (lq_L b (aY 0) (aM 0) qO i) [] cells slots := by
  refine lq_ald X (k0 := 3) dL_law_571 rfl ?_
  refine lq_arg X (k := 1) (k0 := 4) (k4 := 0) (i := i) dL_law_572 dL_law_573 dL_law_575 dL_law_576 dL_law_577 (by decide) rfl rfl (by omega) ?_
  refine lq_st (st2 := (([.inl (xs (i + 1))] : List dz_AV).map (dz_val aY)).reverse ++ .ref (aY 0) :: []) rfl ?_
  refine lq_cY X (vs := [.inl (xs (i + 1))]) rfl dz_lL_67 dL_law_578 rfl (by decide) (by decide) (Nat.le_of_ble_eq_true rfl) ⟨by omega, by omega⟩ (c_X4_first (l, D, cy, aY) _ _ _ hO hY) (fun r I3 J3 hf => ?_)
  obtain ⟨rfl, hY3⟩ := hf
  refine lq_ald X (k0 := 2) dL_law_581 rfl ?_
  refine lq_arg X (k := 1) (k0 := 4) (k4 := 0) (i := i) dL_law_582 dL_law_583 dL_law_585 dL_law_586 dL_law_587 (by decide) rfl rfl (by omega) ?_
  refine lq_st (st2 := (([.inl (xs (i + 1))] : List dz_AV).map (dz_val aM)).reverse ++ .ref (aM 0) :: [.int (q_first sg (xs (i + 1)))]) rfl ?_
  refine lq_cM X (vs := [.inl (xs (i + 1))]) rfl dz_lL_71 dL_law_588 rfl (by decide) (by decide) (Nat.le_of_ble_eq_true rfl) ⟨by omega, by omega⟩ (c_X5_first (l, D, cy, aM) _ _ _ hO hR) (fun r I4 J4 hf2 => ?_)
  obtain ⟨rfl, hR4⟩ := hf2
  refine lq_st (st2 := [.int (q_first sg (xs (i + 1))), .int (q_first sg (xs (i + 1)))]) rfl ?_
  refine lq_eq X (tgt := 864) dL_law_591 (by decide) rfl ?_
  exact lq_wd (by omega) (by omega) (K _ _ _ _ _ _ hO hY3 hR4)
set_option maxRecDepth 100000 in
set_option maxHeartbeats 4000000 in
theorem lc_sure (X : lq_X p l s m c b L xs D cy aY aM qO) (hO : dz_OK sg) (hY : YI sg I J) (hR : dz_RM sg I2) (hi : i + 6 ≤ L) (hcs : cells + 1 ≤ 601024 ∧ slots + 6 ≤ 7293034) (K : lq_K p l e s m below meth c b D cy aY aM qO i (cells + 1) (slots + 6)) : lq_W p l e s m below meth c b D cy aY aM qO 596 I J I2 J2 o (lq_L b (aY 0) (aM 0) qO i) [] cells slots := by
  refine lq_ald X (k0 := 3) dL_law_596 rfl ?_
  refine lq_arg X (k := 1) (k0 := 4) (k4 := 0) (i := i) dL_law_597 dL_law_598 dL_law_600 dL_law_601 dL_law_602 (by decide) rfl rfl (by omega) ?_
  refine lq_st (st2 := (([.inl (xs (i + 1))] : List dz_AV).map (dz_val aY)).reverse ++ .ref (aY 0) :: []) rfl ?_
  refine lq_cY X (vs := [.inl (xs (i + 1))]) rfl dz_lL_72 dL_law_603 rfl (by decide) (by decide) (Nat.le_of_ble_eq_true rfl) ⟨by omega, by omega⟩ (c_X4_sure (l, D, cy, aY) _ _ _ hO hY) (fun r I3 J3 hf => ?_)
  obtain ⟨rfl, hY3⟩ := hf
  refine lq_ald X (k0 := 2) dL_law_606 rfl ?_
  refine lq_arg X (k := 1) (k0 := 4) (k4 := 0) (i := i) dL_law_607 dL_law_608 dL_law_610 dL_law_611 dL_law_612 (by decide) rfl rfl (by omega) ?_
  refine lq_st (st2 := (([.inl (xs (i + 1))] : List dz_AV).map (dz_val aM)).reverse ++ .ref (aM 0) :: [.int (q_sure sg (xs (i + 1)))]) rfl ?_
  refine lq_cM X (vs := [.inl (xs (i + 1))]) rfl dz_lL_75 dL_law_613 rfl (by decide) (by decide) (Nat.le_of_ble_eq_true rfl) ⟨by omega, by omega⟩ (c_X5_sure (l, D, cy, aM) _ _ _ hO hR) (fun r I4 J4 hf2 => ?_)
  obtain ⟨rfl, hR4⟩ := hf2
  refine lq_st (st2 := [.int (q_sure sg (xs (i + 1))), .int (q_sure sg (xs (i + 1)))]) rfl ?_
  refine lq_eq X (tgt := 864) dL_law_616 (by decide) rfl ?_
  exact lq_wd (by omega) (by omega) (K _ _ _ _ _ _ hO hY3 hR4)
set_option maxRecDepth 100000 in
set_option maxHeartbeats 4000000 in
theorem lc_open (X : lq_X p l s m c b L xs D cy aY aM qO) (hO : dz_OK sg) (hY : YI sg I J) (hR : dz_RM sg I2) (hi : i + 6 ≤ L) (hcs : cells + 1 ≤ 601024 ∧ slots + 6 ≤ 7293034) (K : lq_K p l e s m below meth c b D cy aY aM qO i (cells + 1) (slots + 6)) : lq_W p l e s m below meth c b D cy aY aM qO 621 I J I2 J2 o (lq_L b (aY 0) (aM 0) qO i) [] cells slots := by
  refine lq_ald X (k0 := 3) dL_law_621 rfl ?_
  refine lq_arg X (k := 1) (k0 := 4) (k4 := 0) (i := i) dL_law_622 dL_law_623 dL_law_625 dL_law_626 dL_law_627 (by decide) rfl rfl (by omega) ?_
  refine lq_st (st2 := (([.inl (xs (i + 1))] : List dz_AV).map (dz_val aY)).reverse ++ .ref (aY 0) :: []) rfl ?_
  refine lq_cY X (vs := [.inl (xs (i + 1))]) rfl dz_lL_76 dL_law_628 rfl (by decide) (by decide) (Nat.le_of_ble_eq_true rfl) ⟨by omega, by omega⟩ (c_X4_open (l, D, cy, aY) _ _ _ hO hY) (fun r I3 J3 hf => ?_)
  obtain ⟨rfl, hY3⟩ := hf
  refine lq_ald X (k0 := 2) dL_law_631 rfl ?_
  refine lq_arg X (k := 1) (k0 := 4) (k4 := 0) (i := i) dL_law_632 dL_law_633 dL_law_635 dL_law_636 dL_law_637 (by decide) rfl rfl (by omega) ?_
  refine lq_st (st2 := (([.inl (xs (i + 1))] : List dz_AV).map (dz_val aM)).reverse ++ .ref (aM 0) :: [.int (q_open sg (xs (i + 1)))]) rfl ?_
  refine lq_cM X (vs := [.inl (xs (i + 1))]) rfl dz_lL_79 dL_law_638 rfl (by decide) (by decide) (Nat.le_of_ble_eq_true rfl) ⟨by omega, by omega⟩ (c_X5_open (l, D, cy, aM) _ _ _ hO hR) (fun r I4 J4 hf2 => ?_)
  obtain ⟨rfl, hR4⟩ := hf2
  refine lq_st (st2 := [.int (q_open sg (xs (i + 1))), .int (q_open sg (xs (i + 1)))]) rfl ?_
  refine lq_eq X (tgt := 864) dL_law_641 (by decide) rfl ?_
  exact lq_wd (by omega) (by omega) (K _ _ _ _ _ _ hO hY3 hR4)
set_option maxRecDepth 100000 in
set_option maxHeartbeats 4000000 in
theorem lc_bears (X : lq_X p l s m c b L xs D cy aY aM qO) (hO : dz_OK sg) (hY : YI sg I J) (hR : dz_RM sg I2) (hi : i + 6 ≤ L) (hcs : cells + 1 ≤ 601024 ∧ slots + 6 ≤ 7293034) (K : lq_K p l e s m below meth c b D cy aY aM qO i (cells + 1) (slots + 6)) : lq_W p l e s m below meth c b D cy aY aM qO 646 I J I2 J2 o (lq_L b (aY 0) (aM 0) qO i) [] cells slots := by
  refine lq_ald X (k0 := 3) dL_law_646 rfl ?_
  refine lq_arg X (k := 1) (k0 := 4) (k4 := 0) (i := i) dL_law_647 dL_law_648 dL_law_650 dL_law_651 dL_law_652 (by decide) rfl rfl (by omega) ?_
  refine lq_st (st2 := (([.inl (xs (i + 1))] : List dz_AV).map (dz_val aY)).reverse ++ .ref (aY 0) :: []) rfl ?_
  refine lq_cY X (vs := [.inl (xs (i + 1))]) rfl dz_lL_80 dL_law_653 rfl (by decide) (by decide) (Nat.le_of_ble_eq_true rfl) ⟨by omega, by omega⟩ (c_X4_bears (l, D, cy, aY) _ _ _ hO hY) (fun r I3 J3 hf => ?_)
  obtain ⟨rfl, hY3⟩ := hf
  refine lq_ald X (k0 := 2) dL_law_656 rfl ?_
  refine lq_arg X (k := 1) (k0 := 4) (k4 := 0) (i := i) dL_law_657 dL_law_658 dL_law_660 dL_law_661 dL_law_662 (by decide) rfl rfl (by omega) ?_
  refine lq_st (st2 := (([.inl (xs (i + 1))] : List dz_AV).map (dz_val aM)).reverse ++ .ref (aM 0) :: [.int (q_bears sg (xs (i + 1)))]) rfl ?_
  refine lq_cM X (vs := [.inl (xs (i + 1))]) rfl dz_lL_83 dL_law_663 rfl (by decide) (by decide) (Nat.le_of_ble_eq_true rfl) ⟨by omega, by omega⟩ (c_X5_bears (l, D, cy, aM) _ _ _ hO hR) (fun r I4 J4 hf2 => ?_)
  obtain ⟨rfl, hR4⟩ := hf2
  refine lq_st (st2 := [.int (q_bears sg (xs (i + 1))), .int (q_bears sg (xs (i + 1)))]) rfl ?_
  refine lq_eq X (tgt := 864) dL_law_666 (by decide) rfl ?_
  exact lq_wd (by omega) (by omega) (K _ _ _ _ _ _ hO hY3 hR4)
set_option maxRecDepth 100000 in
set_option maxHeartbeats 4000000 in
theorem lc_cracked (X : lq_X p l s m c b L xs D cy aY aM qO) (hO : dz_OK sg) (hY : YI sg I J) (hR : dz_RM sg I2) (hi : i + 6 ≤ L) (hcs : cells + 1 ≤ 601024 ∧ slots + 6 ≤ 7293034) (K : lq_K p l e s m below meth c b D cy aY aM qO i (cells + 1) (slots + 6)) : lq_W p l e s m below meth c b D cy aY aM qO 671 I J I2 J2 o (lq_L b (aY 0) (aM 0) qO i) [] cells slots := by
  refine lq_ald X (k0 := 3) dL_law_671 rfl ?_
  refine lq_st (st2 := (([] : List dz_AV).map (dz_val aY)).reverse ++ .ref (aY 0) :: []) rfl ?_
  refine lq_cY X (vs := []) rfl dz_lL_84 dL_law_672 rfl (by decide) (by decide) (Nat.le_of_ble_eq_true rfl) ⟨by omega, by omega⟩ (c_X4_cracked (l, D, cy, aY) _ _ hO hY) (fun r I3 J3 hf => ?_)
  obtain ⟨rfl, hY3⟩ := hf
  refine lq_ald X (k0 := 2) dL_law_675 rfl ?_
  refine lq_st (st2 := (([] : List dz_AV).map (dz_val aM)).reverse ++ .ref (aM 0) :: [.int (q_cracked sg)]) rfl ?_
  refine lq_cM X (vs := []) rfl dz_lL_87 dL_law_676 rfl (by decide) (by decide) (Nat.le_of_ble_eq_true rfl) ⟨by omega, by omega⟩ (c_X5_cracked (l, D, cy, aM) _ _ hO hR) (fun r I4 J4 hf2 => ?_)
  obtain ⟨rfl, hR4⟩ := hf2
  refine lq_st (st2 := [.int (q_cracked sg), .int (q_cracked sg)]) rfl ?_
  refine lq_eq X (tgt := 864) dL_law_679 (by decide) rfl ?_
  exact lq_wd (by omega) (by omega) (K _ _ _ _ _ _ hO hY3 hR4)
set_option maxRecDepth 100000 in
set_option maxHeartbeats 4000000 in
theorem lc_setting (X : lq_X p l s m c b L xs D cy aY aM qO) (hO : dz_OK sg) (hY : YI sg I J) (hR : dz_RM sg I2) (hi : i + 6 ≤ L) (hcs : cells + 1 ≤ 601024 ∧ slots + 6 ≤ 7293034) (K : lq_K p l e s m below meth c b D cy aY aM qO i (cells + 1) (slots + 6)) : lq_W p l e s m below meth c b D cy aY aM qO 684 I J I2 J2 o (lq_L b (aY 0) (aM 0) qO i) [] cells slots := by
  refine lq_ald X (k0 := 3) dL_law_684 rfl ?_
  refine lq_arg X (k := 1) (k0 := 4) (k4 := 0) (i := i) dL_law_685 dL_law_686 dL_law_688 dL_law_689 dL_law_690 (by decide) rfl rfl (by omega) ?_
  refine lq_st (st2 := (([.inl (xs (i + 1))] : List dz_AV).map (dz_val aY)).reverse ++ .ref (aY 0) :: []) rfl ?_
  refine lq_cY X (vs := [.inl (xs (i + 1))]) rfl dz_lL_88 dL_law_691 rfl (by decide) (by decide) (Nat.le_of_ble_eq_true rfl) ⟨by omega, by omega⟩ (c_X4_setting (l, D, cy, aY) _ _ _ hO hY) (fun r I3 J3 hf => ?_)
  obtain ⟨rfl, hY3⟩ := hf
  refine lq_ald X (k0 := 2) dL_law_694 rfl ?_
  refine lq_arg X (k := 1) (k0 := 4) (k4 := 0) (i := i) dL_law_695 dL_law_696 dL_law_698 dL_law_699 dL_law_700 (by decide) rfl rfl (by omega) ?_
  refine lq_st (st2 := (([.inl (xs (i + 1))] : List dz_AV).map (dz_val aM)).reverse ++ .ref (aM 0) :: [.int (q_setting sg (xs (i + 1)))]) rfl ?_
  refine lq_cM X (vs := [.inl (xs (i + 1))]) rfl dz_lL_91 dL_law_701 rfl (by decide) (by decide) (Nat.le_of_ble_eq_true rfl) ⟨by omega, by omega⟩ (c_X5_setting (l, D, cy, aM) _ _ _ hO hR) (fun r I4 J4 hf2 => ?_)
  obtain ⟨rfl, hR4⟩ := hf2
  refine lq_st (st2 := [.int (q_setting sg (xs (i + 1))), .int (q_setting sg (xs (i + 1)))]) rfl ?_
  refine lq_eq X (tgt := 864) dL_law_704 (by decide) rfl ?_
  exact lq_wd (by omega) (by omega) (K _ _ _ _ _ _ hO hY3 hR4)
set_option maxRecDepth 100000 in
set_option maxHeartbeats 4000000 in
theorem lc_tall (X : lq_X p l s m c b L xs D cy aY aM qO) (hO : dz_OK sg) (hY : YI sg I J) (hR : dz_RM sg I2) (hi : i + 6 ≤ L) (hcs : cells + 1 ≤ 601024 ∧ slots + 6 ≤ 7293034) (K : lq_K p l e s m below meth c b D cy aY aM qO i (cells + 1) (slots + 6)) : lq_W p l e s m below meth c b D cy aY aM qO 709 I J I2 J2 o (lq_L b (aY 0) (aM 0) qO i) [] cells slots := by
  refine lq_ald X (k0 := 3) dL_law_709 rfl ?_
  refine lq_arg X (k := 1) (k0 := 4) (k4 := 0) (i := i) dL_law_710 dL_law_711 dL_law_713 dL_law_714 dL_law_715 (by decide) rfl rfl (by omega) ?_
  refine lq_st (st2 := (([.inl (xs (i + 1))] : List dz_AV).map (dz_val aY)).reverse ++ .ref (aY 0) :: []) rfl ?_
  refine lq_cY X (vs := [.inl (xs (i + 1))]) rfl dz_lL_92 dL_law_716 rfl (by decide) (by decide) (Nat.le_of_ble_eq_true rfl) ⟨by omega, by omega⟩ (c_X4_tall (l, D, cy, aY) _ _ _ hO hY) (fun r I3 J3 hf => ?_)
  obtain ⟨rfl, hY3⟩ := hf
  refine lq_ald X (k0 := 2) dL_law_719 rfl ?_
  refine lq_arg X (k := 1) (k0 := 4) (k4 := 0) (i := i) dL_law_720 dL_law_721 dL_law_723 dL_law_724 dL_law_725 (by decide) rfl rfl (by omega) ?_
  refine lq_st (st2 := (([.inl (xs (i + 1))] : List dz_AV).map (dz_val aM)).reverse ++ .ref (aM 0) :: [.int (q_tall sg (xs (i + 1)))]) rfl ?_
  refine lq_cM X (vs := [.inl (xs (i + 1))]) rfl dz_lL_95 dL_law_726 rfl (by decide) (by decide) (Nat.le_of_ble_eq_true rfl) ⟨by omega, by omega⟩ (c_X5_tall (l, D, cy, aM) _ _ _ hO hR) (fun r I4 J4 hf2 => ?_)
  obtain ⟨rfl, hR4⟩ := hf2
  refine lq_st (st2 := [.int (q_tall sg (xs (i + 1))), .int (q_tall sg (xs (i + 1)))]) rfl ?_
  refine lq_eq X (tgt := 864) dL_law_729 (by decide) rfl ?_
  exact lq_wd (by omega) (by omega) (K _ _ _ _ _ _ hO hY3 hR4)
set_option maxRecDepth 100000 in
set_option maxHeartbeats 4000000 in
theorem lc_place (X : lq_X p l s m c b L xs D cy aY aM qO) (hO : dz_OK sg) (hY : YI sg I J) (hR : dz_RM sg I2) (hi : i + 6 ≤ L) (hcs : cells + 1 ≤ 601024 ∧ slots + 6 ≤ 7293034) (K : lq_K p l e s m below meth c b D cy aY aM qO i (cells + 1) (slots + 6)) : lq_W p l e s m below meth c b D cy aY aM qO 802 I J I2 J2 o (lq_L b (aY 0) (aM 0) qO i) [] cells slots := by
  refine lq_ald X (k0 := 3) dL_law_802 rfl ?_
  refine lq_arg X (k := 1) (k0 := 4) (k4 := 0) (i := i) dL_law_803 dL_law_804 dL_law_806 dL_law_807 dL_law_808 (by decide) rfl rfl (by omega) ?_
  refine lq_arg X (k := 2) (k0 := 4) (k4 := 0) (i := i) dL_law_809 dL_law_810 dL_law_812 dL_law_813 dL_law_814 (by decide) rfl rfl (by omega) ?_
  refine lq_st (st2 := (([.inl (xs (i + 1)), .inl (xs (i + 2))] : List dz_AV).map (dz_val aY)).reverse ++ .ref (aY 0) :: []) rfl ?_
  refine lq_cY X (vs := [.inl (xs (i + 1)), .inl (xs (i + 2))]) rfl dz_lL_105 dL_law_815 rfl (by decide) (by decide) (Nat.le_of_ble_eq_true rfl) ⟨by omega, by omega⟩ (c_X4_place (l, D, cy, aY) _ _ _ _ hO hY.1) (fun r I3 J3 hf => ?_)
  obtain ⟨rfl, hY3⟩ := dz_Pu_Y hY hf
  refine lq_ald X (k0 := 2) dL_law_818 rfl ?_
  refine lq_arg X (k := 1) (k0 := 4) (k4 := 0) (i := i) dL_law_819 dL_law_820 dL_law_822 dL_law_823 dL_law_824 (by decide) rfl rfl (by omega) ?_
  refine lq_arg X (k := 2) (k0 := 4) (k4 := 0) (i := i) dL_law_825 dL_law_826 dL_law_828 dL_law_829 dL_law_830 (by decide) rfl rfl (by omega) ?_
  refine lq_st (st2 := (([.inl (xs (i + 1)), .inl (xs (i + 2))] : List dz_AV).map (dz_val aM)).reverse ++ .ref (aM 0) :: [.int (q_place sg (xs (i + 1)) (xs (i + 2)))]) rfl ?_
  refine lq_cM X (vs := [.inl (xs (i + 1)), .inl (xs (i + 2))]) rfl dz_lL_108 dL_law_831 rfl (by decide) (by decide) (Nat.le_of_ble_eq_true rfl) ⟨by omega, by omega⟩ (c_X5_place (l, D, cy, aM) _ _ _ _ hO hR) (fun r I4 J4 hf2 => ?_)
  obtain ⟨rfl, hR4⟩ := hf2
  refine lq_st (st2 := [.int (q_place sg (xs (i + 1)) (xs (i + 2))), .int (q_place sg (xs (i + 1)) (xs (i + 2)))]) rfl ?_
  refine lq_eq X (tgt := 864) dL_law_834 (by decide) rfl ?_
  exact lq_wd (by omega) (by omega) (K _ _ _ _ _ _ hO hY3 hR4)
set_option maxRecDepth 100000 in
set_option maxHeartbeats 4000000 in
theorem lc_count (X : lq_X p l s m c b L xs D cy aY aM qO) (hO : dz_OK sg) (hY : YI sg I J) (hR : dz_RM sg I2) (hi : i + 6 ≤ L) (hcs : cells + 1 ≤ 601024 ∧ slots + 6 ≤ 7293034) (K : lq_K p l e s m below meth c b D cy aY aM qO i (cells + 1) (slots + 6)) : lq_W p l e s m below meth c b D cy aY aM qO 839 I J I2 J2 o (lq_L b (aY 0) (aM 0) qO i) [] cells slots := by
  refine lq_ald X (k0 := 3) dL_law_839 rfl ?_
  refine lq_arg X (k := 1) (k0 := 4) (k4 := 0) (i := i) dL_law_840 dL_law_841 dL_law_843 dL_law_844 dL_law_845 (by decide) rfl rfl (by omega) ?_
  refine lq_st (st2 := (([.inl (xs (i + 1))] : List dz_AV).map (dz_val aY)).reverse ++ .ref (aY 0) :: []) rfl ?_
  refine lq_cY X (vs := [.inl (xs (i + 1))]) rfl dz_lL_109 dL_law_846 rfl (by decide) (by decide) (Nat.le_of_ble_eq_true rfl) ⟨by omega, by omega⟩ (c_X4_count (l, D, cy, aY) _ _ _ hO hY.1) (fun r I3 J3 hf => ?_)
  obtain ⟨rfl, hY3⟩ := dz_Pu_Y hY hf
  refine lq_ald X (k0 := 2) dL_law_849 rfl ?_
  refine lq_arg X (k := 1) (k0 := 4) (k4 := 0) (i := i) dL_law_850 dL_law_851 dL_law_853 dL_law_854 dL_law_855 (by decide) rfl rfl (by omega) ?_
  refine lq_st (st2 := (([.inl (xs (i + 1))] : List dz_AV).map (dz_val aM)).reverse ++ .ref (aM 0) :: [.int (q_count sg (xs (i + 1)))]) rfl ?_
  refine lq_cM X (vs := [.inl (xs (i + 1))]) rfl dz_lL_112 dL_law_856 rfl (by decide) (by decide) (Nat.le_of_ble_eq_true rfl) ⟨by omega, by omega⟩ (c_X5_count (l, D, cy, aM) _ _ _ hO hR) (fun r I4 J4 hf2 => ?_)
  obtain ⟨rfl, hR4⟩ := hf2
  refine lq_st (st2 := [.int (q_count sg (xs (i + 1))), .int (q_count sg (xs (i + 1)))]) rfl ?_
  refine lq_eq X (tgt := 864) dL_law_859 (by decide) rfl ?_
  exact lq_wd (by omega) (by omega) (K _ _ _ _ _ _ hO hY3 hR4)
set_option maxRecDepth 100000 in
set_option maxHeartbeats 4000000 in
theorem lc_told (X : lq_X p l s m c b L xs D cy aY aM qO) (hO : dz_OK sg) (hY : YI sg I J) (hR : dz_RM sg I2) (hi : i + 6 ≤ L) (hcs : cells + 1 ≤ 601024 ∧ slots + 6 ≤ 7293034) (K : lq_K p l e s m below meth c b D cy aY aM qO i (cells + 1) (slots + 6)) : lq_W p l e s m below meth c b D cy aY aM qO 734 I J I2 J2 o (lq_L b (aY 0) (aM 0) qO i) [] cells slots := by
  refine lq_ald X (k0 := 3) dL_law_734 rfl ?_
  refine lq_arg X (k := 1) (k0 := 4) (k4 := 0) (i := i) dL_law_735 dL_law_736 dL_law_738 dL_law_739 dL_law_740 (by decide) rfl rfl (by omega) ?_
  refine lq_arg X (k := 2) (k0 := 4) (k4 := 0) (i := i) dL_law_741 dL_law_742 dL_law_744 dL_law_745 dL_law_746 (by decide) rfl rfl (by omega) ?_
  refine lq_ald X (k0 := 1) dL_law_747 rfl ?_
  refine lq_told X hO hY hcs (fun k o2 hc => ?_)
  refine lq_ist X (lv2 := ((5, .int k) :: (lq_L b (aY 0) (aM 0) qO i))) dL_law_751 (by decide) rfl ?_
  refine lq_ald X (k0 := 3) dL_law_753 rfl ?_
  refine lq_arg X (k := 1) (k0 := 5) (k4 := 1) (i := i) dL_law_754 dL_law_755 dL_law_757 dL_law_758 dL_law_759 (by decide) rfl rfl (by omega) ?_
  refine lq_arg X (k := 2) (k0 := 5) (k4 := 1) (i := i) dL_law_760 dL_law_761 dL_law_763 dL_law_764 dL_law_765 (by decide) rfl rfl (by omega) ?_
  refine lq_st (st2 := (([.inl (xs (i + 1)), .inl (xs (i + 2))] : List dz_AV).map (dz_val aM)).reverse ++ .ref (aM 0) :: []) rfl ?_
  refine lq_cM X (vs := [.inl (xs (i + 1)), .inl (xs (i + 2))]) rfl dz_lL_101 dL_law_766 rfl (by decide) (by decide) (Nat.le_of_ble_eq_true rfl) ⟨by omega, by omega⟩ (c_X5_told (l, D, cy, aM) _ _ _ _ hO hR) (fun r I4 J4 hf2 => ?_)
  obtain ⟨hR4, ht1, ht2⟩ := hf2
  obtain ⟨x, hx, hxv⟩ : ∃ x, r = some (.inl x) ∧ (q_tok sg (xs (i + 1)) (xs (i + 2)) → x = sg_f sg (xs (i + 1)).toNatClampNeg (xs (i + 2)).toNatClampNeg) := by
    by_cases hq : q_tok sg (xs (i + 1)) (xs (i + 2))
    · exact ⟨_, (ht1 hq).1, fun _ => rfl⟩
    · obtain ⟨x, hx⟩ := (ht2 hq).1
      exact ⟨x, hx, fun z => absurd z hq⟩
  subst hx
  have hk0 : I4 0 0 = k := by
    rcases hc with ⟨c1, c2, c3⟩ | ⟨c1, c2⟩
    · rw [c1]; exact (ht1 c2).2
    · rw [c1]; exact (ht2 c2).2
  refine lq_st (st2 := [.int x]) rfl ?_
  refine lq_ist X (lv2 := ((6, .int x) :: ((5, .int k) :: (lq_L b (aY 0) (aM 0) qO i)))) dL_law_769 (by decide) rfl ?_
  refine lq_ald X (k0 := 4) dL_law_771 rfl ?_
  refine lq_st (st2 := (([] : List dz_AV).map (dz_val aM)).reverse ++ .ref (aM 0) :: []) rfl ?_
  refine lq_cM X (vs := []) rfl dz_lL_102 dL_law_772 rfl (by decide) (by decide) (Nat.le_of_ble_eq_true rfl) ⟨by omega, by omega⟩ (c_X5_thrown (l, D, cy, aM) _ _) (fun r I5 J5 hf5 => ?_)
  obtain ⟨rfl, rfl, rfl⟩ := hf5
  refine lq_st (st2 := [.int (I5 0 0)]) rfl ?_
  refine lq_ild X (k0 := 1) dL_law_775 rfl ?_
  refine lq_eq X (tgt := 782) dL_law_777 (by decide) hk0 ?_
  refine lq_ild X (k0 := 1) dL_law_782 rfl ?_
  refine lq_nz X (tgt := 799) dL_law_784 (by decide) (fun _ => lq_go X (tgt := 864) dL_law_799 (by decide) (lq_lv [2, 3, 4, 5, 6] rfl (K _ _ _ _ _ _ hO hY hR4))) (fun hz => ?_)
  rcases hc with ⟨c1, c2, c3⟩ | ⟨c1, c2⟩
  · refine lq_ald X (k0 := 3) dL_law_787 rfl ?_
    refine lq_ic X (x := nI 0) dL_law_788 (by decide) ?_
    intro H locs ls a1 a2 a3 hS hl
    refine va_lald (ws := [(qO, .inl (cy 1, (1, .inr (.inl o2))))]) X.1 X.2.1 X.2.2.2.2.2.2.2.1 a3 0 1 rfl rfl (vp_in_nI (by decide) (by decide)) dL_law_789 ?_
    rw [nI_clamp (by decide)]
    refine lv_iload X.1 X.2.1 dL_law_790 (lv_at hl 0 rfl) ?_
    refine lv_i2l (v := x.toInt64) X.1 X.2.1 dL_law_792 rfl ?_
    refine (lq_lc X (lv := ((6, .int x) :: ((5, .int k) :: (lq_L b (aY 0) (aM 0) qO i)))) (o := o2) dL_law_793 (by rw [c3, hxv c2]) ?_) H locs ls a1 a2 a3 hS hl
    refine lq_ez X (tgt := 799) dL_law_794 (by decide) (fun _ => ?_) (fun h => absurd rfl h)
    exact lq_go X (tgt := 864) dL_law_799 (by decide) (lq_lv [2, 3, 4, 5, 6] rfl (K _ _ _ _ _ _ hO hY hR4))
  · rw [c1] at hz; exact absurd hz (by decide)
end LQC
