/-! ONE STEP over the layer: what an instruction asks and gives; soundness over the machine -/
def dz_cm (k : Jvm.ClassFile.Cond) (x y : Int32) : Prop := match k with
  | .eq => x = y
  | .ne => ¬ x = y
  | .lt => x < y
  | .ge => y ≤ x
  | .gt => y < x
  | .le => x ≤ y
def dz_rd (I : dz_MI) (J : dz_MJ) (c k : Nat) (kd : Option (Option Nat)) : dz_AV := match kd with
  | none => .inl (I c k)
  | some none => .inr (.inl (J c k))
  | some (some a) => .inr (.inr a)
def dz_wd (st : List dz_AV) : Nat := (st.map (fun v => if dz_isL v then 2 else 1)).sum
theorem dz_wd_eq (ad : Nat → Nat) (st : List dz_AV) : ((st.map (dz_val ad)).map fun v => v.category).sum = dz_wd st := by
  unfold dz_wd
  rw [List.map_map]
  congr 1
  apply List.map_congr_left
  intro v _
  rcases v with x | x | c <;> rfl
def dz_cp (I : dz_MI) (a b sp dp n : Nat) : dz_MI := fun c => if c = b then va_cpy (I a) (I b) sp dp n else I c
def dz_wp (Λ : Nat → dz_Ds) (N own nL F Lc : Nat) (i : Instr) (n pc : Nat) (I : dz_MI) (J : dz_MJ) (ls : dz_LS) (st : List dz_AV) (V : dz_Vt) : Prop := match i with
  | .iconst z => n = 1 ∧ V (pc + 1) I J ls (.inl (Int32.ofInt z) :: st)
  | .bipush z => n = 2 ∧ V (pc + 2) I J ls (.inl (Int8.ofInt z).toInt32 :: st)
  | .sipush z => n = 3 ∧ V (pc + 3) I J ls (.inl (Int16.ofInt z).toInt32 :: st)
  | .ldc k => n = 2 ∧ ∃ v, Cond.constant (dz_R own) k v ∈ dz_WS ∧ V (pc + 2) I J ls (.inl v :: st)
  | .lconst z => n = 1 ∧ V (pc + 1) I J ls (.inr (.inl (Int64.ofNat z)) :: st)
  | .iload k => n = 2 ∧ ∃ v, ls.lookup k = some (.inl v) ∧ V (pc + 2) I J ls (.inl v :: st)
  | .iload_n k => n = 1 ∧ ∃ v, ls.lookup k.val = some (.inl v) ∧ V (pc + 1) I J ls (.inl v :: st)
  | .lload k => n = 2 ∧ ∃ v, ls.lookup k = some (.inr (.inl v)) ∧ V (pc + 2) I J ls (.inr (.inl v) :: st)
  | .lload_n k => n = 1 ∧ ∃ v, ls.lookup k.val = some (.inr (.inl v)) ∧ V (pc + 1) I J ls (.inr (.inl v) :: st)
  | .aload k => n = 2 ∧ ∃ v, ls.lookup k = some (.inr (.inr v)) ∧ V (pc + 2) I J ls (.inr (.inr v) :: st)
  | .aload_n k => n = 1 ∧ ∃ v, ls.lookup k.val = some (.inr (.inr v)) ∧ V (pc + 1) I J ls (.inr (.inr v) :: st)
  | .istore k => n = 2 ∧ k < nL ∧ ∃ v s', st = .inl v :: s' ∧ V (pc + 2) I J (dz_st ls k (.inl v)) s'
  | .istore_n k => n = 1 ∧ k.val < nL ∧ ∃ v s', st = .inl v :: s' ∧ V (pc + 1) I J (dz_st ls k.val (.inl v)) s'
  | .lstore k => n = 2 ∧ k + 1 < nL ∧ ∃ v s', st = .inr (.inl v) :: s' ∧ V (pc + 2) I J (dz_st ls k (.inr (.inl v))) s'
  | .astore k => n = 2 ∧ k < nL ∧ ∃ v s', st = .inr (.inr v) :: s' ∧ V (pc + 2) I J (dz_st ls k (.inr (.inr v))) s'
  | .astore_n k => n = 1 ∧ k.val < nL ∧ ∃ v s', st = .inr (.inr v) :: s' ∧ V (pc + 1) I J (dz_st ls k.val (.inr (.inr v))) s'
  | .iinc k z => n = 3 ∧ k < nL ∧ ∃ v, ls.lookup k = some (.inl v) ∧ V (pc + 3) I J (dz_st ls k (.inl (v + Int32.ofInt z))) st
  | .iadd => n = 1 ∧ ∃ x y s', st = .inl y :: .inl x :: s' ∧ V (pc + 1) I J ls (.inl (x + y) :: s')
  | .isub => n = 1 ∧ ∃ x y s', st = .inl y :: .inl x :: s' ∧ V (pc + 1) I J ls (.inl (x - y) :: s')
  | .imul => n = 1 ∧ ∃ x y s', st = .inl y :: .inl x :: s' ∧ V (pc + 1) I J ls (.inl (x * y) :: s')
  | .iand => n = 1 ∧ ∃ x y s', st = .inl y :: .inl x :: s' ∧ V (pc + 1) I J ls (.inl (x &&& y) :: s')
  | .ior => n = 1 ∧ ∃ x y s', st = .inl y :: .inl x :: s' ∧ V (pc + 1) I J ls (.inl (x ||| y) :: s')
  | .ixor => n = 1 ∧ ∃ x y s', st = .inl y :: .inl x :: s' ∧ V (pc + 1) I J ls (.inl (x ^^^ y) :: s')
  | .ishl => n = 1 ∧ ∃ x y s', st = .inl y :: .inl x :: s' ∧ V (pc + 1) I J ls (.inl (x <<< (y &&& 31)) :: s')
  | .ishr => n = 1 ∧ ∃ x y s', st = .inl y :: .inl x :: s' ∧ V (pc + 1) I J ls (.inl (x >>> (y &&& 31)) :: s')
  | .iushr => n = 1 ∧ ∃ x y s', st = .inl y :: .inl x :: s' ∧ V (pc + 1) I J ls (.inl (x.toUInt32 >>> (y.toUInt32 &&& Int32.toUInt32 31)).toInt32 :: s')
  | .ldc_w k => n = 3 ∧ ∃ v, Cond.constant (dz_R own) k v ∈ dz_WS ∧ V (pc + 3) I J ls (.inl v :: st)
  | .idiv => n = 1 ∧ ∃ x y s', st = .inl y :: .inl x :: s' ∧ ¬ y = 0 ∧ V (pc + 1) I J ls (.inl (x / y) :: s')
  | .irem => n = 1 ∧ ∃ x y s', st = .inl y :: .inl x :: s' ∧ ¬ y = 0 ∧ V (pc + 1) I J ls (.inl (x - x / y * y) :: s')
  | .ladd => n = 1 ∧ ∃ x y s', st = .inr (.inl y) :: .inr (.inl x) :: s' ∧ V (pc + 1) I J ls (.inr (.inl (x + y)) :: s')
  | .lmul => n = 1 ∧ ∃ x y s', st = .inr (.inl y) :: .inr (.inl x) :: s' ∧ V (pc + 1) I J ls (.inr (.inl (x * y)) :: s')
  | .lcmp => n = 1 ∧ ∃ x y s', st = .inr (.inl y) :: .inr (.inl x) :: s' ∧ V (pc + 1) I J ls (.inl (lg_cmp x y) :: s')
  | .i2l => n = 1 ∧ ∃ x s', st = .inl x :: s' ∧ V (pc + 1) I J ls (.inr (.inl x.toInt64) :: s')
  | .dup => n = 1 ∧ ∃ x s', st = x :: s' ∧ dz_isL x = false ∧ V (pc + 1) I J ls (x :: x :: s')
  | .dup2 => n = 1 ∧ ∃ x y s', st = x :: y :: s' ∧ dz_isL x = false ∧ dz_isL y = false ∧ V (pc + 1) I J ls (x :: y :: x :: y :: s')
  | .ifCond k off => n = 3 ∧ ∃ (x : Int32) (s' : List dz_AV) (tgt : Nat), st = .inl x :: s' ∧ (pc : Int) + off = (tgt : Int) ∧ (dz_cm k x 0 → V tgt I J ls s') ∧ (¬ dz_cm k x 0 → V (pc + 3) I J ls s')
  | .if_icmp k off => n = 3 ∧ ∃ (x y : Int32) (s' : List dz_AV) (tgt : Nat), st = .inl y :: .inl x :: s' ∧ (pc : Int) + off = (tgt : Int) ∧ (dz_cm k x y → V tgt I J ls s') ∧ (¬ dz_cm k x y → V (pc + 3) I J ls s')
  | .goto off => n = 3 ∧ ∃ tgt : Nat, (pc : Int) + off = (tgt : Int) ∧ V tgt I J ls st
  | .tableswitch dflt lo hi offs => ∃ (x : Int32) (s' : List dz_AV), st = .inl x :: s' ∧ ((x.toInt < lo ∨ hi < x.toInt) → ∃ tgt : Nat, (pc : Int) + dflt = (tgt : Int) ∧ V tgt I J ls s') ∧ (¬ x.toInt < lo → ¬ hi < x.toInt → ∃ (off : Int) (tgt : Nat), offs[(x.toInt - lo).toNat]? = some off ∧ (pc : Int) + off = (tgt : Int) ∧ V tgt I J ls s')
  | .getfield k => n = 3 ∧ ∃ (c : Nat) (s' : List dz_AV) (fs : List (Option (Option Nat))) (sl : Nat) (kd : Option (Option Nat)), st = .inr (.inr c) :: s' ∧ own < 6 ∧ c < N ∧ Λ c = .inl (own, fs) ∧ (dz_ft own).lookup k = some sl ∧ fs[sl]? = some kd ∧ V (pc + 3) I J ls (dz_rd I J c sl kd :: s')
  | .putfield k => n = 3 ∧ ∃ (c : Nat) (s' : List dz_AV) (fs : List (Option (Option Nat))) (sl : Nat), own < 6 ∧ c < N ∧ Λ c = .inl (own, fs) ∧ (dz_ft own).lookup k = some sl ∧ (dz_T own sl).2.2.2 = false ∧ ((∃ x : Int32, st = .inl x :: .inr (.inr c) :: s' ∧ fs[sl]? = some none ∧ narrow (dz_ty own sl) (.int x) = .int x ∧ fits (dz_ty own sl) (.int x) = true ∧ V (pc + 3) (dz_wi I c sl x) J ls s') ∨ (∃ x : Int64, st = .inr (.inl x) :: .inr (.inr c) :: s' ∧ fs[sl]? = some (some none) ∧ dz_ty own sl = .long ∧ V (pc + 3) I (dz_wj J c sl x) ls s'))
  | .iaload => n = 1 ∧ ∃ (c : Nat) (j : Int32) (s' : List dz_AV) (L b : Nat), st = .inl j :: .inr (.inr c) :: s' ∧ c < N ∧ Λ c = .inr (0, L, b) ∧ vp_in j L ∧ V (pc + 1) I J ls (.inl (I c j.toNatClampNeg) :: s')
  | .baload => n = 1 ∧ ∃ (c : Nat) (j : Int32) (s' : List dz_AV) (L b : Nat), st = .inl j :: .inr (.inr c) :: s' ∧ c < N ∧ Λ c = .inr (2, L, b) ∧ vp_in j L ∧ V (pc + 1) I J ls (.inl (I c j.toNatClampNeg) :: s')
  | .laload => n = 1 ∧ ∃ (c : Nat) (j : Int32) (s' : List dz_AV) (L b : Nat), st = .inl j :: .inr (.inr c) :: s' ∧ c < N ∧ Λ c = .inr (1, L, b) ∧ vp_in j L ∧ V (pc + 1) I J ls (.inr (.inl (J c j.toNatClampNeg)) :: s')
  | .aaload => n = 1 ∧ ∃ (c : Nat) (j : Int32) (s' : List dz_AV) (k L b : Nat), st = .inl j :: .inr (.inr c) :: s' ∧ c < N ∧ k < 2 ∧ Λ c = .inr (k + 3, L, b) ∧ vp_in j L ∧ V (pc + 1) I J ls (.inr (.inr (b + j.toNatClampNeg)) :: s')
  | .iastore => n = 1 ∧ ∃ (c : Nat) (j x : Int32) (s' : List dz_AV) (L b : Nat), st = .inl x :: .inl j :: .inr (.inr c) :: s' ∧ c < N ∧ Λ c = .inr (0, L, b) ∧ vp_in j L ∧ V (pc + 1) (dz_wi I c j.toNatClampNeg x) J ls s'
  | .bastore => n = 1 ∧ ∃ (c : Nat) (j x : Int32) (s' : List dz_AV) (L b : Nat), st = .inl x :: .inl j :: .inr (.inr c) :: s' ∧ c < N ∧ Λ c = .inr (2, L, b) ∧ vp_in j L ∧ vp_nar .boolean x = x ∧ V (pc + 1) (dz_wi I c j.toNatClampNeg x) J ls s'
  | .lastore => n = 1 ∧ ∃ (c : Nat) (j : Int32) (x : Int64) (s' : List dz_AV) (L b : Nat), st = .inr (.inl x) :: .inl j :: .inr (.inr c) :: s' ∧ c < N ∧ Λ c = .inr (1, L, b) ∧ vp_in j L ∧ V (pc + 1) I (dz_wj J c j.toNatClampNeg x) ls s'
  | .invokestatic k => n = 3 ∧ 1 ≤ F ∧ 40 ≤ Lc ∧ ((Cond.methodLink (dz_R own) k Lib.Math.abs.name ∈ dz_WS ∧ ∃ x s', st = .inl x :: s' ∧ dz_wd s' ≤ 8 ∧ V (pc + 3) I J ls (.inl (if 0 ≤ x then x else 0 - x) :: s')) ∨ (Cond.methodLink (dz_R own) k Lib.Math.max.name ∈ dz_WS ∧ ∃ x y s', st = .inl y :: .inl x :: s' ∧ dz_wd s' ≤ 8 ∧ V (pc + 3) I J ls (.inl (if x < y then y else x) :: s')) ∨ (Cond.methodLink (dz_R own) k Lib.Math.min.name ∈ dz_WS ∧ ∃ x y s', st = .inl y :: .inl x :: s' ∧ dz_wd s' ≤ 8 ∧ V (pc + 3) I J ls (.inl (if y < x then y else x) :: s')) ∨ (Cond.methodLink (dz_R own) k arraycopyName ∈ dz_WS ∧ ∃ (a b : Nat) (sp dp z : Int32) (s' : List dz_AV) (L0 b0 L1 b1 : Nat), st = .inl z :: .inl dp :: .inr (.inr b) :: .inl sp :: .inr (.inr a) :: s' ∧ dz_wd s' ≤ 8 ∧ a < N ∧ b < N ∧ Λ a = .inr (0, L0, b0) ∧ Λ b = .inr (0, L1, b1) ∧ ¬ sp < 0 ∧ ¬ dp < 0 ∧ ¬ z < 0 ∧ sp.toNatClampNeg + z.toNatClampNeg ≤ L0 ∧ dp.toNatClampNeg + z.toNatClampNeg ≤ L1 ∧ V (pc + 3) (dz_cp I a b sp.toNatClampNeg dp.toNatClampNeg z.toNatClampNeg) J ls s'))
  | _ => False
def dz_W (π : dz_Pl) (Λ : Nat → dz_Ds) (N nL : Nat) (A : Nat → Prop) (p : Program) (e : Env) (R : Room) (s : State) (m : MethodId) (args : Array Value) (below : List Frame) (meth : Method) (c : Code) (cells slots : Nat) (Q : State → Prop) : dz_Vt := fun pc I J ls st => ∀ (H : Heap) (locs : List Loc) (lsA : Array Slot), va_P π.2.1 vwCl (dz_wl π Λ N I J) H → va_S A s.heap H locs → lv_has lsA nL (dz_map π.2.2.2 ls) → W p π.1 e R s m args below meth c H locs cells slots Q (F0 m pc lsA (st.map (dz_val π.2.2.2)))
def dz_Nw (U : State) : Prop := va_Nw (.methodLinkNest RX3 22 yX4_hasBit RX4) U ∧ va_Nw (.methodLinkNest RX2 92 yX4_hasBit RX4) U
theorem dz_Nw.warm {s U : State} (hW : s.WarmedH U.vm) (h : dz_Nw s) : dz_Nw U := ⟨va_Nw.warmM hW h.1, va_Nw.warmM hW h.2⟩
theorem dz_Nw.same {s U : State} (hv : s.vm = U.vm) (h : dz_Nw s) : dz_Nw U := ⟨va_Nw.same rfl hv h.1, va_Nw.same rfl hv h.2⟩
def dz_Ctx (π : dz_Pl) (N own nL F Lc : Nat) (cc : ByteArray) (A : Nat → Prop) (p : Program) (R : Room) (s : State) (m : MethodId) (args : Array Value) (c : Code) (cells slots : Nat) : Prop :=
  p.tables.exec = Jvm.exec ∧ c.code = cc ∧ c.maxLocals = nL ∧ s.vm.findClass (dz_R own) = some m.cls ∧ (∀ w ∈ dz_WS, w.before args s = true) ∧ va_K π.2.1 vwCl (dz_tys π.2.2.1) s ∧ (∀ a, a < N → A (π.2.2.2 a)) ∧ dz_inj π.2.2.2 N ∧ R.frames = F ∧ R.locals = Lc ∧ cells ≤ R.cells ∧ slots ≤ R.slots ∧ dz_Nw s
