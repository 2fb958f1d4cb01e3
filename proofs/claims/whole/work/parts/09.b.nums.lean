/-! numbers: nI, bits, first places -/
theorem dz_inI {x : Int32} {k n : Nat} (hx : x = nI n) (hk : k < n) (hn : n < 2 ^ 31) : 0 ≤ nI k ∧ nI k < x := by
  subst hx
  exact ⟨nI_pos' (Nat.lt_trans hk hn), nI_lt hk hn⟩
theorem dz_ofI {v x : Int32} {n : Nat} (hx : x = nI n) (hn : n < 2 ^ 31) (h : 0 ≤ v ∧ v < x) : ∃ k, k < n ∧ v = nI k := by
  subst hx
  rcases pk_ix v hn with h1 | h1 | h1
  · exact absurd h1 (Int32.not_lt.mpr h.1)
  · exact absurd h.2 (Int32.not_lt.mpr h1)
  · exact h1
theorem dz_tb (x d : Nat) : x.testBit d = decide (x / 2 ^ d % 2 = 1) := Nat.testBit_eq_decide_div_mod_eq
theorem dz_sh {x d : Nat} (hx : x < 2 ^ 31) (hd : d < 31) : nI x >>> (nI d &&& 31) = nI (x / 2 ^ d) := pk_shrN hx _ d (s_l d (by omega))
theorem dz_hb {x d : Nat} (hx : x < 2 ^ 31) (hd : d < 31) : (nI x >>> (nI d &&& 31)) &&& nI 1 = nI (x / 2 ^ d % 2) := by
  rw [dz_sh hx hd]
  exact fa_mask (x / 2 ^ d) 1
theorem dz_hb0 {x d : Nat} (hx : x < 2 ^ 31) (hd : d < 31) : ((nI x >>> (nI d &&& 31)) &&& nI 1) = 0 ↔ x.testBit d = false := by
  rw [dz_hb hx hd, dz_tb, decide_eq_false_iff_not]
  have h2 : x / 2 ^ d % 2 < 2 := Nat.mod_lt _ (by decide)
  rw [← nI_0, nI_eq (by omega) (by decide)]
  omega
theorem dz_s1 {d : Nat} (hd : d < 31) : nI 1 <<< (nI d &&& 31) = nI (2 ^ d) := by
  have h : (1 : Nat) * 2 ^ d < 2 ^ 32 := by
    rw [Nat.one_mul]; exact Nat.pow_lt_pow_right (by decide) (by omega)
  rw [pk_shlN _ d (s_l d (by omega)) h, Nat.one_mul]
theorem dz_p31 {d : Nat} (hd : d < 31) : 2 ^ d < 2 ^ 31 := Nat.pow_lt_pow_right (by decide) hd
theorem dz_or_add {a d : Nat} (h : a < 2 ^ d) : a ||| 2 ^ d = a + 2 ^ d := by
  rw [Nat.or_comm, Nat.add_comm]
  have := Nat.two_pow_add_eq_or_of_lt h 1
  simpa using this.symm
/-- the sum of the powers of two of the places where p holds -/
def dz_bits (p : Nat → Bool) : Nat → Nat
  | 0 => 0
  | n + 1 => dz_bits p n + if p n then 2 ^ n else 0
theorem dz_bits_lt (p : Nat → Bool) : ∀ n, dz_bits p n < 2 ^ n
  | 0 => Nat.zero_lt_one
  | n + 1 => by
    have ih := dz_bits_lt p n
    unfold dz_bits
    rw [Nat.pow_succ]
    split <;> omega
theorem dz_bits_cong {p q : Nat → Bool} : ∀ {n : Nat}, (∀ k, k < n → p k = q k) → dz_bits p n = dz_bits q n
  | 0, _ => rfl
  | n + 1, h => by unfold dz_bits; rw [dz_bits_cong (fun k hk => h k (by omega)), h n (by omega)]
theorem dz_bits_tb (p : Nat → Bool) : ∀ (n i : Nat), (dz_bits p n).testBit i = (decide (i < n) && p i)
  | 0, i => by simp [dz_bits]
  | n + 1, i => by
    have ih := dz_bits_tb p n i
    have hl := dz_bits_lt p n
    unfold dz_bits
    by_cases hp : p n = true
    · rw [if_pos hp, ← dz_or_add hl, fb_bit_set, ih]
      by_cases h1 : i = n
      · subst h1; simp [hp]
      · by_cases h2 : i < n
        · simp [h1, h2, Nat.lt_succ_of_lt h2]
        · simp [h1, h2, show ¬ i < n + 1 by omega]
    · rw [if_neg hp, Nat.add_zero, ih]
      by_cases h1 : i = n
      · subst h1; simp [hp]
      · by_cases h2 : i < n
        · simp [h2, Nat.lt_succ_of_lt h2]
        · simp [h2, show ¬ i < n + 1 by omega]
theorem dz_bits_of {x n : Nat} (h : x < 2 ^ n) : dz_bits (fun i => x.testBit i) n = x := by
  apply Nat.eq_of_testBit_eq
  intro i
  rw [dz_bits_tb]
  by_cases hi : i < n
  · simp [hi]
  · rw [Nat.testBit_lt_two_pow (Nat.lt_of_lt_of_le h (Nat.pow_le_pow_right (by decide) (by omega)))]; simp [hi]
theorem dz_bits_ext {x y n : Nat} (hx : x < 2 ^ n) (hy : y < 2 ^ n) (h : ∀ i, i < n → x.testBit i = y.testBit i) : x = y := by
  rw [← dz_bits_of hx, ← dz_bits_of hy]
  exact dz_bits_cong h
/-- the first of n places where p holds, or -1 -/
def dz_find (p : Nat → Bool) (n : Nat) : Int32 := if fa_first p n < n then nI (fa_first p n) else -1
theorem dz_first_eq {p : Nat → Bool} {n i : Nat} (hi : i < n) (hp : p i = true) (hl : ∀ j, j < i → p j = false) : fa_first p n = i := by
  have h1 := fa_first_no p n
  have h2 := fa_first_yes p n
  have h3 := fa_first_le p n
  rcases Nat.lt_trichotomy (fa_first p n) i with h | h | h
  · have := h2 (by omega)
    rw [hl _ h] at this
    cases this
  · exact h
  · have := h1 i h
    rw [hp] at this
    cases this
theorem dz_find_s {p : Nat → Bool} {n i : Nat} (hi : i < n) (hp : p i = true) (hl : ∀ j, j < i → p j = false) : dz_find p n = nI i := by
  unfold dz_find
  rw [dz_first_eq hi hp hl, if_pos hi]
theorem dz_find_n {p : Nat → Bool} {n : Nat} (hl : ∀ j, j < n → p j = false) : dz_find p n = -1 := by
  unfold dz_find
  rw [if_neg]
  intro h
  have := fa_first_yes p n h
  rw [hl _ h] at this
  cases this
theorem dz_find_cong {p q : Nat → Bool} {n : Nat} (h : ∀ k, k < n → p k = q k) : dz_find p n = dz_find q n := by
  by_cases hx : ∃ i, i < n ∧ p i = true
  · obtain ⟨i, hi, hp, hl⟩ := fb_first (p := fun i => p i = true) hx
    rw [dz_find_s hi hp (fun j hj => by simpa using hl j hj), dz_find_s hi (by rw [← h i hi]; exact hp) (fun j hj => by rw [← h j (by omega)]; simpa using hl j hj)]
  · have h1 : ∀ j, j < n → p j = false := fun j hj => by
      cases hq : p j with
      | false => rfl
      | true => exact absurd ⟨j, hj, hq⟩ hx
    rw [dz_find_n h1, dz_find_n (fun j hj => by rw [← h j hj]; exact h1 j hj)]
/-- the sum of n int32s -/
def dz_sumI (f : Nat → Int32) : Nat → Int32
  | 0 => 0
  | n + 1 => dz_sumI f n + f n
theorem dz_sumI_cong {f g : Nat → Int32} : ∀ {n : Nat}, (∀ k, k < n → f k = g k) → dz_sumI f n = dz_sumI g n
  | 0, _ => rfl
  | n + 1, h => by unfold dz_sumI; rw [dz_sumI_cong (fun k hk => h k (by omega)), h n (by omega)]
theorem dz_m1n {n : Nat} (h : n < 2 ^ 31) : ¬ (nI n = -1) := by
  intro e
  have := congrArg Int32.toInt e
  rw [nI_toInt h] at this
  have h2 : (-1 : Int32).toInt = -1 := by decide
  rw [h2] at this
  omega
section DZR2
variable {π : dz_Pl} {Λ : Nat → dz_Ds} {N own : Nat} {μ : dz_Mu} {F Lc : Nat} {post : Option dz_AV → dz_MI → dz_MJ → Prop} {V : dz_Vt} {I : dz_MI} {J : dz_MJ} {ls : dz_LS} {st : List dz_AV}
theorem dn_icmp_ge (pc : Nat) (hV : dz_Clo π Λ N own μ F Lc post V) {a b : Nat} {off : Int} {tgt : Nat} (d : decode μ.2.1 pc = .ok (.if_icmp .ge off, 3)) (ht : (pc : Int) + off = (tgt : Int)) (ha : a < 2 ^ 31) (hb : b < 2 ^ 31) (kt : b ≤ a → V tgt I J ls st) (kf : a < b → V (pc + 3) I J ls st) : V pc I J ls (.inl (nI b) :: .inl (nI a) :: st) := dr_icmp_ge pc hV d ht (fun h => kt ((nI_leI hb ha).mp h)) (fun h => kf (Nat.not_le.mp (fun q => h ((nI_leI hb ha).mpr q))))
theorem dn_icmp_gt (pc : Nat) (hV : dz_Clo π Λ N own μ F Lc post V) {a b : Nat} {off : Int} {tgt : Nat} (d : decode μ.2.1 pc = .ok (.if_icmp .gt off, 3)) (ht : (pc : Int) + off = (tgt : Int)) (ha : a < 2 ^ 31) (hb : b < 2 ^ 31) (kt : b < a → V tgt I J ls st) (kf : a ≤ b → V (pc + 3) I J ls st) : V pc I J ls (.inl (nI b) :: .inl (nI a) :: st) := dr_icmp_gt pc hV d ht (fun h => kt ((nI_ltI hb ha).mp h)) (fun h => kf (Nat.not_lt.mp (fun q => h ((nI_ltI hb ha).mpr q))))
theorem dn_icmp_lt (pc : Nat) (hV : dz_Clo π Λ N own μ F Lc post V) {a b : Nat} {off : Int} {tgt : Nat} (d : decode μ.2.1 pc = .ok (.if_icmp .lt off, 3)) (ht : (pc : Int) + off = (tgt : Int)) (ha : a < 2 ^ 31) (hb : b < 2 ^ 31) (kt : a < b → V tgt I J ls st) (kf : b ≤ a → V (pc + 3) I J ls st) : V pc I J ls (.inl (nI b) :: .inl (nI a) :: st) := dr_icmp_lt pc hV d ht (fun h => kt ((nI_ltI ha hb).mp h)) (fun h => kf (Nat.not_lt.mp (fun q => h ((nI_ltI ha hb).mpr q))))
theorem dn_icmp_le (pc : Nat) (hV : dz_Clo π Λ N own μ F Lc post V) {a b : Nat} {off : Int} {tgt : Nat} (d : decode μ.2.1 pc = .ok (.if_icmp .le off, 3)) (ht : (pc : Int) + off = (tgt : Int)) (ha : a < 2 ^ 31) (hb : b < 2 ^ 31) (kt : a ≤ b → V tgt I J ls st) (kf : b < a → V (pc + 3) I J ls st) : V pc I J ls (.inl (nI b) :: .inl (nI a) :: st) := dr_icmp_le pc hV d ht (fun h => kt ((nI_leI ha hb).mp h)) (fun h => kf (Nat.not_le.mp (fun q => h ((nI_leI ha hb).mpr q))))
theorem dn_icmp_eq (pc : Nat) (hV : dz_Clo π Λ N own μ F Lc post V) {a b : Nat} {off : Int} {tgt : Nat} (d : decode μ.2.1 pc = .ok (.if_icmp .eq off, 3)) (ht : (pc : Int) + off = (tgt : Int)) (ha : a < 2 ^ 31) (hb : b < 2 ^ 31) (kt : a = b → V tgt I J ls st) (kf : ¬ a = b → V (pc + 3) I J ls st) : V pc I J ls (.inl (nI b) :: .inl (nI a) :: st) := dr_icmp_eq pc hV d ht (fun h => kt ((nI_eq ha hb).mp h)) (fun h => kf (fun q => h ((nI_eq ha hb).mpr q)))
theorem dn_icmp_ne (pc : Nat) (hV : dz_Clo π Λ N own μ F Lc post V) {a b : Nat} {off : Int} {tgt : Nat} (d : decode μ.2.1 pc = .ok (.if_icmp .ne off, 3)) (ht : (pc : Int) + off = (tgt : Int)) (ha : a < 2 ^ 31) (hb : b < 2 ^ 31) (kt : ¬ a = b → V tgt I J ls st) (kf : a = b → V (pc + 3) I J ls st) : V pc I J ls (.inl (nI b) :: .inl (nI a) :: st) := dr_icmp_ne pc hV d ht (fun h => kt (fun q => h ((nI_eq ha hb).mpr q))) (fun h => kf ((nI_eq ha hb).mp h))
end DZR2
