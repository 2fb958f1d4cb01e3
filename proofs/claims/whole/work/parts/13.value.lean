/-! THE YARD AS A VALUE: sg; what the model's and the yard's cells hold of it -/
abbrev dz_Sg : Type := (Nat × Nat × Nat) × (Nat → Nat) × (Nat → Nat) × (Nat → Nat) × (Nat → Nat → Int32) × (Nat → Int32) × (Nat → Int32) × (Nat → Int32) × (Nat → Nat → Bool) × (Int32 × Int32 × Int32) × Bool × (Nat → Int32)
def sg_n (s : dz_Sg) : Nat := s.1.1
def sg_c (s : dz_Sg) : Nat := s.1.2.1
def sg_p (s : dz_Sg) : Nat := s.1.2.2
def sg_b (s : dz_Sg) : Nat → Nat := s.2.1
def sg_h (s : dz_Sg) : Nat → Nat := s.2.2.1
def sg_col (s : dz_Sg) : Nat → Nat := s.2.2.2.1
def sg_f (s : dz_Sg) : Nat → Nat → Int32 := s.2.2.2.2.1
def sg_fo (s : dz_Sg) : Nat → Int32 := s.2.2.2.2.2.1
def sg_he (s : dz_Sg) : Nat → Int32 := s.2.2.2.2.2.2.1
def sg_wo (s : dz_Sg) : Nat → Int32 := s.2.2.2.2.2.2.2.1
def sg_nt (s : dz_Sg) : Nat → Nat → Bool := s.2.2.2.2.2.2.2.2.1
def sg_tol (s : dz_Sg) : Int32 := s.2.2.2.2.2.2.2.2.2.1.1
def sg_st (s : dz_Sg) : Int32 := s.2.2.2.2.2.2.2.2.2.1.2.1
def sg_ah (s : dz_Sg) : Int32 := s.2.2.2.2.2.2.2.2.2.1.2.2
def sg_me (s : dz_Sg) : Bool := s.2.2.2.2.2.2.2.2.2.2.1
def sg_mv (s : dz_Sg) : Nat → Int32 := s.2.2.2.2.2.2.2.2.2.2.2
/-- what holds of every yard that calls have made -/
def dz_OK (s : dz_Sg) : Prop := sg_n s ≤ 10 ∧ sg_c s ≤ 4 ∧ sg_p s ≤ 8 ∧ (∀ k, k < sg_c s → 1 ≤ sg_h s k ∧ sg_h s k ≤ 5 ∧ sg_b s k + sg_h s k ≤ sg_p s) ∧ (∀ k q, k < sg_c s → sg_b s k ≤ q → q < sg_b s k + sg_h s k → sg_col s q = k) ∧ (∀ q, q < sg_p s → sg_col s q < sg_c s ∧ sg_b s (sg_col s q) ≤ q ∧ q < sg_b s (sg_col s q) + sg_h s (sg_col s q)) ∧ (∀ d, d < sg_n s → ∃ x, x < 65536 ∧ sg_f s d 5 = nI x) ∧ (∀ q, q < sg_p s → sg_wo s q = -1 ∨ ∃ x, (x = 10 ∨ x < sg_n s) ∧ sg_wo s q = nI x) ∧ (∃ a, 1 ≤ a ∧ a ≤ 5 ∧ sg_ah s = nI a) ∧ (∀ d, d < sg_n s → 0 ≤ sg_f s d 8) ∧ fb_sm (sg_h s) (sg_c s) = sg_p s
/-- the model's cells hold it -/
def dz_RM (s : dz_Sg) (I : dz_MI) : Prop := I 0 1 = nI (sg_n s) ∧ I 0 2 = nI (sg_c s) ∧ I 0 3 = nI (sg_p s) ∧ I 0 4 = sg_tol s ∧ I 0 5 = sg_st s ∧ I 0 6 = sg_ah s ∧ I 0 7 = dz_b (sg_me s = true) ∧ (∀ k, k < 4 → I 1 k = sg_mv s k) ∧ (∀ d w, d < sg_n s → w < 9 → I (2 + w) d = sg_f s d w) ∧ (∀ k, k < sg_c s → I 11 k = sg_fo s k ∧ I 12 k = sg_he s k ∧ I 13 k = nI (sg_b s k) ∧ I 14 k = nI (sg_h s k)) ∧ (∀ q, q < sg_p s → I 15 q = nI (sg_col s q) ∧ I 16 q = sg_wo s q) ∧ (∀ q d, q < 8 → d < 10 → I 17 (10 * q + d) = dz_b (sg_nt s q d = true))
/-- the yard's cells hold it (the paper apart) -/
def dz_RY (s : dz_Sg) (I : dz_MI) : Prop := I 1 3 = nI (sg_n s) ∧ I 2 6 = nI (sg_c s) ∧ I 2 7 = nI (sg_p s) ∧ I 0 4 = sg_tol s ∧ I 0 5 = sg_st s ∧ I 0 6 = sg_ah s ∧ I 1 2 = dz_b (sg_me s = true) ∧ (∀ k, k < 4 → I 6 k = sg_mv s k) ∧ (∀ d w, d < sg_n s → w < 9 → I (24 + d) w = sg_f s d w) ∧ (∀ k, k < sg_c s → I 9 k = sg_fo s k ∧ I 10 k = sg_he s k ∧ I 7 k = nI (sg_b s k) ∧ I 8 k = nI (sg_h s k)) ∧ (∀ q, q < sg_p s → I 11 q = nI (sg_col s q) ∧ I 13 q = sg_wo s q) ∧ (∀ q, q < 8 → sg_p s ≤ q → I 13 q = -1) ∧ (∀ q, q < 8 → ∃ x, x < 1024 ∧ I 14 q = nI x ∧ ∀ d, d < 10 → x.testBit d = sg_nt s q d)
def dz_fitp (w f d t : Int32) : Prop := f = 0 ∨ dz_abs (w - f) ≤ d + t
def sg_foot (s : dz_Sg) (q : Nat) : Prop := q = sg_b s (sg_col s q)
def sg_head (s : dz_Sg) (q : Nat) : Prop := q + 1 = sg_b s (sg_col s q) + sg_h s (sg_col s q)
/-- what a place lets in of itself: an item (a drum, or 10: new stone) -/
def sg_at (s : dz_Sg) (q d : Nat) : Prop := (sg_wo s q = -1 ∨ sg_wo s q = nI d) ∧ (d = 10 ∨ (sg_nt s q d = false ∧ (sg_foot s q → dz_fitp (sg_f s d 0) (sg_fo s (sg_col s q)) (sg_f s d 2) (sg_tol s)) ∧ (sg_head s q → dz_fitp (sg_f s d 1) (sg_he s (sg_col s q)) (sg_f s d 2) (sg_tol s))))
/-- .. and behind the drums u, over l -/
def sg_may (s : dz_Sg) (q d u l : Nat) : Prop := sg_at s q d ∧ (d = 10 ∨ (u.testBit d = false ∧ (sg_foot s q ∨ l = 10 ∨ ¬ dz_tO (sg_f s) (sg_tol s) d l = -1)))
noncomputable abbrev dz_bp (P : Prop) : Int32 := @dz_b P (Classical.propDecidable P)
noncomputable def dz_B (P : Prop) : Bool := @decide P (Classical.propDecidable P)
theorem dz_Bt {P : Prop} : dz_B P = true ↔ P := by unfold dz_B; exact @decide_eq_true_iff P (Classical.propDecidable P)
theorem dz_Bf {P : Prop} : dz_B P = false ↔ ¬ P := by unfold dz_B; exact @decide_eq_false_iff_not P (Classical.propDecidable P)
section DZR3
variable {π : dz_Pl} {Λ : Nat → dz_Ds} {N own : Nat} {μ : dz_Mu} {F Lc : Nat} {post : Option dz_AV → dz_MI → dz_MJ → Prop} {V : dz_Vt} {I : dz_MI} {J : dz_MJ} {ls : dz_LS} {st : List dz_AV}
theorem dr_absd (pc : Nat) (hV : dz_Clo π Λ N own μ F Lc post V) {k : Nat} {x : Int32} (d : decode μ.2.1 pc = .ok (.invokestatic k, 3)) (hw : Cond.methodLink (dz_R own) k Lib.Math.abs.name ∈ dz_WS) (hF : 1 ≤ F) (hL : 40 ≤ Lc) (hs : dz_wd st ≤ 8) (kk : V (pc + 3) I J ls (.inl (dz_abs x) :: st)) : V pc I J ls (.inl x :: st) := dr_abs pc hV d hw hF hL hs kk
theorem dr_mat_eq (pc : Nat) (hV : dz_Clo π Λ N own μ F Lc post V) {x y : Int32} {P : Prop} [Decidable P] (d : decode μ.2.1 pc = .ok (.if_icmp .eq 7, 3)) (d1 : decode μ.2.1 (pc + 3) = .ok (.iconst 1, 1)) (d2 : decode μ.2.1 (pc + 4) = .ok (.goto 4, 3)) (d3 : decode μ.2.1 (pc + 7) = .ok (.iconst 0, 1)) (hP : P ↔ ¬ x = y) (kk : V (pc + 8) I J ls (.inl (dz_b P) :: st)) : V pc I J ls (.inl y :: .inl x :: st) := by
  refine dr_icmp_eq pc hV (tgt := pc + 7) d (by omega) (fun h => ?_) (fun h => ?_)
  · refine dr_iconst (v := 0) (pc + 7) hV d3 (by decide) ?_
    rw [dz_bf (P := P) (fun q => by first | exact hP.mp q h | exact h (hP.mp q))] at kk
    exact kk
  · refine dr_iconst (v := 1) (pc + 3) hV d1 (by decide) ?_
    refine dr_goto (pc + 4) hV (tgt := pc + 8) d2 (by omega) ?_
    rw [dz_b1 (P := P) (hP.mpr h)] at kk
    exact kk
theorem dr_matz_eq (pc : Nat) (hV : dz_Clo π Λ N own μ F Lc post V) {x : Int32} {P : Prop} [Decidable P] (d : decode μ.2.1 pc = .ok (.ifCond .eq 7, 3)) (d1 : decode μ.2.1 (pc + 3) = .ok (.iconst 1, 1)) (d2 : decode μ.2.1 (pc + 4) = .ok (.goto 4, 3)) (d3 : decode μ.2.1 (pc + 7) = .ok (.iconst 0, 1)) (hP : P ↔ ¬ x = 0) (kk : V (pc + 8) I J ls (.inl (dz_b P) :: st)) : V pc I J ls (.inl x :: st) := by
  refine dr_if_eq pc hV (tgt := pc + 7) d (by omega) (fun h => ?_) (fun h => ?_)
  · refine dr_iconst (v := 0) (pc + 7) hV d3 (by decide) ?_
    rw [dz_bf (P := P) (fun q => by first | exact hP.mp q h | exact h (hP.mp q))] at kk
    exact kk
  · refine dr_iconst (v := 1) (pc + 3) hV d1 (by decide) ?_
    refine dr_goto (pc + 4) hV (tgt := pc + 8) d2 (by omega) ?_
    rw [dz_b1 (P := P) (hP.mpr h)] at kk
    exact kk
theorem dr_mat_ne (pc : Nat) (hV : dz_Clo π Λ N own μ F Lc post V) {x y : Int32} {P : Prop} [Decidable P] (d : decode μ.2.1 pc = .ok (.if_icmp .ne 7, 3)) (d1 : decode μ.2.1 (pc + 3) = .ok (.iconst 1, 1)) (d2 : decode μ.2.1 (pc + 4) = .ok (.goto 4, 3)) (d3 : decode μ.2.1 (pc + 7) = .ok (.iconst 0, 1)) (hP : P ↔ x = y) (kk : V (pc + 8) I J ls (.inl (dz_b P) :: st)) : V pc I J ls (.inl y :: .inl x :: st) := by
  refine dr_icmp_ne pc hV (tgt := pc + 7) d (by omega) (fun h => ?_) (fun h => ?_)
  · refine dr_iconst (v := 0) (pc + 7) hV d3 (by decide) ?_
    rw [dz_bf (P := P) (fun q => by first | exact hP.mp q h | exact h (hP.mp q))] at kk
    exact kk
  · refine dr_iconst (v := 1) (pc + 3) hV d1 (by decide) ?_
    refine dr_goto (pc + 4) hV (tgt := pc + 8) d2 (by omega) ?_
    rw [dz_b1 (P := P) (hP.mpr h)] at kk
    exact kk
theorem dr_matz_ne (pc : Nat) (hV : dz_Clo π Λ N own μ F Lc post V) {x : Int32} {P : Prop} [Decidable P] (d : decode μ.2.1 pc = .ok (.ifCond .ne 7, 3)) (d1 : decode μ.2.1 (pc + 3) = .ok (.iconst 1, 1)) (d2 : decode μ.2.1 (pc + 4) = .ok (.goto 4, 3)) (d3 : decode μ.2.1 (pc + 7) = .ok (.iconst 0, 1)) (hP : P ↔ x = 0) (kk : V (pc + 8) I J ls (.inl (dz_b P) :: st)) : V pc I J ls (.inl x :: st) := by
  refine dr_if_ne pc hV (tgt := pc + 7) d (by omega) (fun h => ?_) (fun h => ?_)
  · refine dr_iconst (v := 0) (pc + 7) hV d3 (by decide) ?_
    rw [dz_bf (P := P) (fun q => by first | exact hP.mp q h | exact h (hP.mp q))] at kk
    exact kk
  · refine dr_iconst (v := 1) (pc + 3) hV d1 (by decide) ?_
    refine dr_goto (pc + 4) hV (tgt := pc + 8) d2 (by omega) ?_
    rw [dz_b1 (P := P) (hP.mpr h)] at kk
    exact kk
theorem dr_mat_lt (pc : Nat) (hV : dz_Clo π Λ N own μ F Lc post V) {x y : Int32} {P : Prop} [Decidable P] (d : decode μ.2.1 pc = .ok (.if_icmp .lt 7, 3)) (d1 : decode μ.2.1 (pc + 3) = .ok (.iconst 1, 1)) (d2 : decode μ.2.1 (pc + 4) = .ok (.goto 4, 3)) (d3 : decode μ.2.1 (pc + 7) = .ok (.iconst 0, 1)) (hP : P ↔ ¬ x < y) (kk : V (pc + 8) I J ls (.inl (dz_b P) :: st)) : V pc I J ls (.inl y :: .inl x :: st) := by
  refine dr_icmp_lt pc hV (tgt := pc + 7) d (by omega) (fun h => ?_) (fun h => ?_)
  · refine dr_iconst (v := 0) (pc + 7) hV d3 (by decide) ?_
    rw [dz_bf (P := P) (fun q => by first | exact hP.mp q h | exact h (hP.mp q))] at kk
    exact kk
  · refine dr_iconst (v := 1) (pc + 3) hV d1 (by decide) ?_
    refine dr_goto (pc + 4) hV (tgt := pc + 8) d2 (by omega) ?_
    rw [dz_b1 (P := P) (hP.mpr h)] at kk
    exact kk
theorem dr_matz_lt (pc : Nat) (hV : dz_Clo π Λ N own μ F Lc post V) {x : Int32} {P : Prop} [Decidable P] (d : decode μ.2.1 pc = .ok (.ifCond .lt 7, 3)) (d1 : decode μ.2.1 (pc + 3) = .ok (.iconst 1, 1)) (d2 : decode μ.2.1 (pc + 4) = .ok (.goto 4, 3)) (d3 : decode μ.2.1 (pc + 7) = .ok (.iconst 0, 1)) (hP : P ↔ ¬ x < 0) (kk : V (pc + 8) I J ls (.inl (dz_b P) :: st)) : V pc I J ls (.inl x :: st) := by
  refine dr_if_lt pc hV (tgt := pc + 7) d (by omega) (fun h => ?_) (fun h => ?_)
  · refine dr_iconst (v := 0) (pc + 7) hV d3 (by decide) ?_
    rw [dz_bf (P := P) (fun q => by first | exact hP.mp q h | exact h (hP.mp q))] at kk
    exact kk
  · refine dr_iconst (v := 1) (pc + 3) hV d1 (by decide) ?_
    refine dr_goto (pc + 4) hV (tgt := pc + 8) d2 (by omega) ?_
    rw [dz_b1 (P := P) (hP.mpr h)] at kk
    exact kk
theorem dr_mat_ge (pc : Nat) (hV : dz_Clo π Λ N own μ F Lc post V) {x y : Int32} {P : Prop} [Decidable P] (d : decode μ.2.1 pc = .ok (.if_icmp .ge 7, 3)) (d1 : decode μ.2.1 (pc + 3) = .ok (.iconst 1, 1)) (d2 : decode μ.2.1 (pc + 4) = .ok (.goto 4, 3)) (d3 : decode μ.2.1 (pc + 7) = .ok (.iconst 0, 1)) (hP : P ↔ ¬ y ≤ x) (kk : V (pc + 8) I J ls (.inl (dz_b P) :: st)) : V pc I J ls (.inl y :: .inl x :: st) := by
  refine dr_icmp_ge pc hV (tgt := pc + 7) d (by omega) (fun h => ?_) (fun h => ?_)
  · refine dr_iconst (v := 0) (pc + 7) hV d3 (by decide) ?_
    rw [dz_bf (P := P) (fun q => by first | exact hP.mp q h | exact h (hP.mp q))] at kk
    exact kk
  · refine dr_iconst (v := 1) (pc + 3) hV d1 (by decide) ?_
    refine dr_goto (pc + 4) hV (tgt := pc + 8) d2 (by omega) ?_
    rw [dz_b1 (P := P) (hP.mpr h)] at kk
    exact kk
theorem dr_matz_ge (pc : Nat) (hV : dz_Clo π Λ N own μ F Lc post V) {x : Int32} {P : Prop} [Decidable P] (d : decode μ.2.1 pc = .ok (.ifCond .ge 7, 3)) (d1 : decode μ.2.1 (pc + 3) = .ok (.iconst 1, 1)) (d2 : decode μ.2.1 (pc + 4) = .ok (.goto 4, 3)) (d3 : decode μ.2.1 (pc + 7) = .ok (.iconst 0, 1)) (hP : P ↔ ¬ 0 ≤ x) (kk : V (pc + 8) I J ls (.inl (dz_b P) :: st)) : V pc I J ls (.inl x :: st) := by
  refine dr_if_ge pc hV (tgt := pc + 7) d (by omega) (fun h => ?_) (fun h => ?_)
  · refine dr_iconst (v := 0) (pc + 7) hV d3 (by decide) ?_
    rw [dz_bf (P := P) (fun q => by first | exact hP.mp q h | exact h (hP.mp q))] at kk
    exact kk
  · refine dr_iconst (v := 1) (pc + 3) hV d1 (by decide) ?_
    refine dr_goto (pc + 4) hV (tgt := pc + 8) d2 (by omega) ?_
    rw [dz_b1 (P := P) (hP.mpr h)] at kk
    exact kk
theorem dr_mat_gt (pc : Nat) (hV : dz_Clo π Λ N own μ F Lc post V) {x y : Int32} {P : Prop} [Decidable P] (d : decode μ.2.1 pc = .ok (.if_icmp .gt 7, 3)) (d1 : decode μ.2.1 (pc + 3) = .ok (.iconst 1, 1)) (d2 : decode μ.2.1 (pc + 4) = .ok (.goto 4, 3)) (d3 : decode μ.2.1 (pc + 7) = .ok (.iconst 0, 1)) (hP : P ↔ ¬ y < x) (kk : V (pc + 8) I J ls (.inl (dz_b P) :: st)) : V pc I J ls (.inl y :: .inl x :: st) := by
  refine dr_icmp_gt pc hV (tgt := pc + 7) d (by omega) (fun h => ?_) (fun h => ?_)
  · refine dr_iconst (v := 0) (pc + 7) hV d3 (by decide) ?_
    rw [dz_bf (P := P) (fun q => by first | exact hP.mp q h | exact h (hP.mp q))] at kk
    exact kk
  · refine dr_iconst (v := 1) (pc + 3) hV d1 (by decide) ?_
    refine dr_goto (pc + 4) hV (tgt := pc + 8) d2 (by omega) ?_
    rw [dz_b1 (P := P) (hP.mpr h)] at kk
    exact kk
theorem dr_matz_gt (pc : Nat) (hV : dz_Clo π Λ N own μ F Lc post V) {x : Int32} {P : Prop} [Decidable P] (d : decode μ.2.1 pc = .ok (.ifCond .gt 7, 3)) (d1 : decode μ.2.1 (pc + 3) = .ok (.iconst 1, 1)) (d2 : decode μ.2.1 (pc + 4) = .ok (.goto 4, 3)) (d3 : decode μ.2.1 (pc + 7) = .ok (.iconst 0, 1)) (hP : P ↔ ¬ 0 < x) (kk : V (pc + 8) I J ls (.inl (dz_b P) :: st)) : V pc I J ls (.inl x :: st) := by
  refine dr_if_gt pc hV (tgt := pc + 7) d (by omega) (fun h => ?_) (fun h => ?_)
  · refine dr_iconst (v := 0) (pc + 7) hV d3 (by decide) ?_
    rw [dz_bf (P := P) (fun q => by first | exact hP.mp q h | exact h (hP.mp q))] at kk
    exact kk
  · refine dr_iconst (v := 1) (pc + 3) hV d1 (by decide) ?_
    refine dr_goto (pc + 4) hV (tgt := pc + 8) d2 (by omega) ?_
    rw [dz_b1 (P := P) (hP.mpr h)] at kk
    exact kk
theorem dr_mat_le (pc : Nat) (hV : dz_Clo π Λ N own μ F Lc post V) {x y : Int32} {P : Prop} [Decidable P] (d : decode μ.2.1 pc = .ok (.if_icmp .le 7, 3)) (d1 : decode μ.2.1 (pc + 3) = .ok (.iconst 1, 1)) (d2 : decode μ.2.1 (pc + 4) = .ok (.goto 4, 3)) (d3 : decode μ.2.1 (pc + 7) = .ok (.iconst 0, 1)) (hP : P ↔ ¬ x ≤ y) (kk : V (pc + 8) I J ls (.inl (dz_b P) :: st)) : V pc I J ls (.inl y :: .inl x :: st) := by
  refine dr_icmp_le pc hV (tgt := pc + 7) d (by omega) (fun h => ?_) (fun h => ?_)
  · refine dr_iconst (v := 0) (pc + 7) hV d3 (by decide) ?_
    rw [dz_bf (P := P) (fun q => by first | exact hP.mp q h | exact h (hP.mp q))] at kk
    exact kk
  · refine dr_iconst (v := 1) (pc + 3) hV d1 (by decide) ?_
    refine dr_goto (pc + 4) hV (tgt := pc + 8) d2 (by omega) ?_
    rw [dz_b1 (P := P) (hP.mpr h)] at kk
    exact kk
theorem dr_matz_le (pc : Nat) (hV : dz_Clo π Λ N own μ F Lc post V) {x : Int32} {P : Prop} [Decidable P] (d : decode μ.2.1 pc = .ok (.ifCond .le 7, 3)) (d1 : decode μ.2.1 (pc + 3) = .ok (.iconst 1, 1)) (d2 : decode μ.2.1 (pc + 4) = .ok (.goto 4, 3)) (d3 : decode μ.2.1 (pc + 7) = .ok (.iconst 0, 1)) (hP : P ↔ ¬ x ≤ 0) (kk : V (pc + 8) I J ls (.inl (dz_b P) :: st)) : V pc I J ls (.inl x :: st) := by
  refine dr_if_le pc hV (tgt := pc + 7) d (by omega) (fun h => ?_) (fun h => ?_)
  · refine dr_iconst (v := 0) (pc + 7) hV d3 (by decide) ?_
    rw [dz_bf (P := P) (fun q => by first | exact hP.mp q h | exact h (hP.mp q))] at kk
    exact kk
  · refine dr_iconst (v := 1) (pc + 3) hV d1 (by decide) ?_
    refine dr_goto (pc + 4) hV (tgt := pc + 8) d2 (by omega) ?_
    rw [dz_b1 (P := P) (hP.mpr h)] at kk
    exact kk
end DZR3
