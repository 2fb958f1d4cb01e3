/-! LAYOUTS: the yard (cells 0 .. 61), the model (cells 0 .. 23) -/
def dz_Y : Nat → dz_Ds := fun c => match c with
  | 0 => .inl (4, [some (some 1), some (some 2), some (some 3), some (some 4), none, none, none, none])
  | 1 => .inl (1, [some (some 5), some (some 6), none, none])
  | 2 => .inl (0, [some (some 7), some (some 8), some (some 9), some (some 10), some (some 11), some (some 12), none, none])
  | 3 => .inl (3, [some (some 13), some (some 14)])
  | 4 => .inl (2, [some (some 15), some (some 16), some (some 17), some (some 18), some (some 19), some (some 20), some (some 21), some (some 22), some (some 23), none, none, some none])
  | 5 => .inr (3, 10, 24)
  | 6 => .inr (0, 9, 0)
  | 7 => .inr (0, 4, 0)
  | 8 => .inr (0, 4, 0)
  | 9 => .inr (0, 4, 0)
  | 10 => .inr (0, 4, 0)
  | 11 => .inr (0, 8, 0)
  | 12 => .inr (0, 4, 0)
  | 13 => .inr (0, 8, 0)
  | 14 => .inr (0, 8, 0)
  | 15 => .inr (0, 8, 0)
  | 16 => .inr (2, 8, 0)
  | 17 => .inr (0, 11, 0)
  | 18 => .inr (0, 8, 0)
  | 19 => .inr (0, 8, 0)
  | 20 => .inr (4, 9, 34)
  | 21 => .inr (3, 9, 43)
  | 22 => .inr (0, 9, 0)
  | 23 => .inr (3, 10, 52)
  | c => if c < 34 then .inr (0, 9, 0) else if c < 43 then .inr (1, 11264, 0) else if c < 52 then .inr (0, 6144, 0) else .inr (0, 9, 0)
def dz_M : Nat → dz_Ds := fun c => match c with
  | 0 => .inl (5, [none, none, none, none, none, none, none, none, some (some 1), some (some 2), some (some 3), some (some 4), some (some 5), some (some 6), some (some 7), some (some 8), some (some 9), some (some 10), some (some 11), some (some 12), some (some 13), some (some 14), some (some 15), some (some 16), some (some 17), some (some 18), some (some 19), some (some 20), some (some 21), some (some 22), some (some 23)])
  | 1 => .inr (0, 4, 0)
  | 2 => .inr (0, 10, 0)
  | 3 => .inr (0, 10, 0)
  | 4 => .inr (0, 10, 0)
  | 5 => .inr (0, 10, 0)
  | 6 => .inr (0, 10, 0)
  | 7 => .inr (0, 10, 0)
  | 8 => .inr (0, 10, 0)
  | 9 => .inr (0, 10, 0)
  | 10 => .inr (0, 10, 0)
  | 11 => .inr (0, 4, 0)
  | 12 => .inr (0, 4, 0)
  | 13 => .inr (0, 4, 0)
  | 14 => .inr (0, 4, 0)
  | 15 => .inr (0, 8, 0)
  | 16 => .inr (0, 8, 0)
  | 17 => .inr (2, 80, 0)
  | 18 => .inr (0, 101376, 0)
  | 19 => .inr (1, 101376, 0)
  | 20 => .inr (1, 101376, 0)
  | 21 => .inr (1, 88, 0)
  | 22 => .inr (0, 8, 0)
  | _ => .inr (0, 4, 0)
theorem dz_Y_f {i : Nat} (h : i < 10) : dz_Y (24 + i) = .inr (0, 9, 0) := by
  rcases (show i = 0 ∨ i = 1 ∨ i = 2 ∨ i = 3 ∨ i = 4 ∨ i = 5 ∨ i = 6 ∨ i = 7 ∨ i = 8 ∨ i = 9 by omega) with rfl | rfl | rfl | rfl | rfl | rfl | rfl | rfl | rfl | rfl <;> rfl
theorem dz_Y_b {i : Nat} (h : i < 9) : dz_Y (34 + i) = .inr (1, 11264, 0) := by
  rcases (show i = 0 ∨ i = 1 ∨ i = 2 ∨ i = 3 ∨ i = 4 ∨ i = 5 ∨ i = 6 ∨ i = 7 ∨ i = 8 by omega) with rfl | rfl | rfl | rfl | rfl | rfl | rfl | rfl | rfl <;> rfl
theorem dz_Y_r {i : Nat} (h : i < 9) : dz_Y (43 + i) = .inr (0, 6144, 0) := by
  rcases (show i = 0 ∨ i = 1 ∨ i = 2 ∨ i = 3 ∨ i = 4 ∨ i = 5 ∨ i = 6 ∨ i = 7 ∨ i = 8 by omega) with rfl | rfl | rfl | rfl | rfl | rfl | rfl | rfl | rfl <;> rfl
theorem dz_Y_w {i : Nat} (h : i < 10) : dz_Y (52 + i) = .inr (0, 9, 0) := by
  rcases (show i = 0 ∨ i = 1 ∨ i = 2 ∨ i = 3 ∨ i = 4 ∨ i = 5 ∨ i = 6 ∨ i = 7 ∨ i = 8 ∨ i = 9 by omega) with rfl | rfl | rfl | rfl | rfl | rfl | rfl | rfl | rfl | rfl <;> rfl
theorem dz_pu1 {P : Prop} {hd : Decidable P} {I : dz_MI} {J : dz_MJ} (h : P) : dz_Pu (.inl (dz_b P)) I J (some (.inl (nI 1))) I J := ⟨by rw [dz_b1 h]; rfl, rfl, rfl⟩
theorem dz_pu0 {P : Prop} {hd : Decidable P} {I : dz_MI} {J : dz_MJ} (h : ¬ P) : dz_Pu (.inl (dz_b P)) I J (some (.inl (nI 0))) I J := ⟨by rw [dz_bf h]; rfl, rfl, rfl⟩
theorem dz_pub {P Q : Prop} {hp : Decidable P} {hq : Decidable Q} {I : dz_MI} {J : dz_MJ} (h : P ↔ Q) : dz_Pu (.inl (dz_b Q)) I J (some (.inl (dz_b P))) I J := ⟨by rw [dz_bc h], rfl, rfl⟩
theorem dz_pu {v : dz_AV} {I : dz_MI} {J : dz_MJ} : dz_Pu v I J (some v) I J := ⟨rfl, rfl, rfl⟩
theorem dz_pue {x y : Int32} {I : dz_MI} {J : dz_MJ} (h : x = y) : dz_Pu (.inl y) I J (some (.inl x)) I J := ⟨by rw [h], rfl, rfl⟩
