/-! THE LAYER: the cells of a made system by their numbers; their ints and longs as two functions; a step's meaning over them -/
abbrev dz_AV : Type := Int32 ⊕ (Int64 ⊕ Nat)
abbrev dz_MI : Type := Nat → Nat → Int32
abbrev dz_MJ : Type := Nat → Nat → Int64
abbrev dz_LS : Type := List (Nat × dz_AV)
abbrev dz_Ds : Type := (Nat × List (Option (Option Nat))) ⊕ (Nat × Nat × Nat)
abbrev dz_Pl : Type := Launch × va_G × (Nat → ClassId) × (Nat → Nat)
abbrev dz_Vt : Type := Nat → dz_MI → dz_MJ → dz_LS → List dz_AV → Prop
def dz_val (ad : Nat → Nat) (v : dz_AV) : Value := match v with
  | .inl x => .int x
  | .inr (.inl x) => .long x
  | .inr (.inr c) => .ref (ad c)
def dz_isL (v : dz_AV) : Bool := match v with
  | .inr (.inl _) => true
  | _ => false
theorem dz_cat (ad : Nat → Nat) (v : dz_AV) : ((dz_val ad v).category == 2) = dz_isL v := by
  rcases v with x | x | c <;> rfl
def dz_fv (ad : Nat → Nat) (r : Nat → Int32) (q : Nat → Int64) (k : Nat) (f : Option (Option Nat)) : Value := match f with
  | none => .int (r k)
  | some none => .long (q k)
  | some (some c) => .ref (ad c)
def dz_cel (cy : Nat → ClassId) (ad : Nat → Nat) (d : dz_Ds) (r : Nat → Int32) (q : Nat → Int64) : va_E := match d with
  | .inl (ci, fs) => .inr (ci, fs.mapIdx (fun k f => dz_fv ad r q k f))
  | .inr (0, n, _) => .inl (cy 0, n, .inl r)
  | .inr (1, n, _) => .inl (cy 1, n, .inr (.inl q))
  | .inr (2, n, _) => .inl (cy 2, n, .inl r)
  | .inr (k + 3, n, b) => .inl (cy (k + 3), n, .inr (.inr (.inr (.inr (fun i => if i < n then some (ad (b + i)) else none)))))
def dz_wl (π : dz_Pl) (Λ : Nat → dz_Ds) (N : Nat) (I : dz_MI) (J : dz_MJ) : va_W := (List.range N).map (fun c => (π.2.2.2 c, dz_cel π.2.2.1 π.2.2.2 (Λ c) (I c) (J c)))
def dz_tys (cy : Nat → ClassId) : List (ClassId × FieldType) := [(cy 0, .int), (cy 1, .long), (cy 2, .boolean), (cy 3, .array .int), (cy 4, .array .long)]
theorem dz_wl_get {π : dz_Pl} {Λ : Nat → dz_Ds} {N : Nat} {I : dz_MI} {J : dz_MJ} {c : Nat} (h : c < N) : (dz_wl π Λ N I J)[c]? = some (π.2.2.2 c, dz_cel π.2.2.1 π.2.2.2 (Λ c) (I c) (J c)) := by
  simp [dz_wl, List.getElem?_range h]
theorem dz_wl_at {π : dz_Pl} {Λ : Nat → dz_Ds} {N : Nat} {I : dz_MI} {J : dz_MJ} {k : Nat} {q : Nat × va_E} (h : (dz_wl π Λ N I J)[k]? = some q) : k < N ∧ q = (π.2.2.2 k, dz_cel π.2.2.1 π.2.2.2 (Λ k) (I k) (J k)) := by
  by_cases hk : k < N
  · rw [dz_wl_get hk] at h
    exact ⟨hk, (Option.some.inj h).symm⟩
  · rw [List.getElem?_eq_none (by simp [dz_wl]; omega)] at h
    cases h
theorem dz_wl_set {π : dz_Pl} {Λ : Nat → dz_Ds} {N : Nat} {I I' : dz_MI} {J J' : dz_MJ} {c : Nat} {e : va_E} (he : e = dz_cel π.2.2.1 π.2.2.2 (Λ c) (I' c) (J' c)) (ho : ∀ a, a ≠ c → I' a = I a ∧ J' a = J a) : (dz_wl π Λ N I J).set c (π.2.2.2 c, e) = dz_wl π Λ N I' J' := by
  apply List.ext_getElem?
  intro k
  by_cases hk : k < N
  · by_cases hc : k = c
    · subst hc
      rw [List.getElem?_set_self (by simp [dz_wl]; exact hk), dz_wl_get hk, he]
    · rw [List.getElem?_set_ne (Ne.symm hc), dz_wl_get hk, dz_wl_get hk, (ho k hc).1, (ho k hc).2]
  · rw [List.getElem?_eq_none (by simp [dz_wl]; omega), List.getElem?_eq_none (by simp [dz_wl]; omega)]
def dz_inj (ad : Nat → Nat) (N : Nat) : Prop := ∀ i j, i < N → j < N → ad i = ad j → i = j
theorem dz_wl_D {π : dz_Pl} {Λ : Nat → dz_Ds} {N : Nat} {I : dz_MI} {J : dz_MJ} {A : Nat → Prop} (hi : dz_inj π.2.2.2 N) (hA : ∀ c, c < N → A (π.2.2.2 c)) : va_D A (dz_wl π Λ N I J) := by
  refine ⟨fun i j p q hp hq h => ?_, fun k q hq => ?_⟩
  · obtain ⟨h1, rfl⟩ := dz_wl_at hp
    obtain ⟨h2, rfl⟩ := dz_wl_at hq
    exact hi i j h1 h2 h
  · obtain ⟨h1, rfl⟩ := dz_wl_at hq
    exact hA k h1
def dz_wi (I : dz_MI) (c k : Nat) (v : Int32) : dz_MI := fun a b => if a = c ∧ b = k then v else I a b
def dz_wj (J : dz_MJ) (c k : Nat) (v : Int64) : dz_MJ := fun a b => if a = c ∧ b = k then v else J a b
theorem dz_wi_s (I : dz_MI) (c k : Nat) (v : Int32) : dz_wi I c k v c k = v := by simp [dz_wi]
theorem dz_wi_n (I : dz_MI) {c k a b : Nat} (v : Int32) (h : ¬ (a = c ∧ b = k)) : dz_wi I c k v a b = I a b := if_neg h
theorem dz_wj_s (J : dz_MJ) (c k : Nat) (v : Int64) : dz_wj J c k v c k = v := by simp [dz_wj]
theorem dz_wj_n (J : dz_MJ) {c k a b : Nat} (v : Int64) (h : ¬ (a = c ∧ b = k)) : dz_wj J c k v a b = J a b := if_neg h
theorem dz_wi_row (I : dz_MI) (c k : Nat) (v : Int32) : dz_wi I c k v c = upd (I c) k v := by
  funext b; simp [dz_wi, upd]
theorem dz_wi_off (I : dz_MI) {c a : Nat} (k : Nat) (v : Int32) (h : a ≠ c) : dz_wi I c k v a = I a := by
  funext b; simp [dz_wi, h]
theorem dz_wj_row (J : dz_MJ) (c k : Nat) (v : Int64) : dz_wj J c k v c = vp_updL (J c) k v := by
  funext b; simp [dz_wj, vp_updL]
theorem dz_wj_off (J : dz_MJ) {c a : Nat} (k : Nat) (v : Int64) (h : a ≠ c) : dz_wj J c k v a = J a := by
  funext b; simp [dz_wj, h]
-- locals
def dz_st (ls : dz_LS) (k : Nat) (v : dz_AV) : dz_LS := (k, v) :: ls.filter (fun q => !(q.1 == k) && (!(dz_isL v && q.1 == k + 1) && !(q.1 + 1 == k && dz_isL q.2)))
def dz_map (ad : Nat → Nat) (ls : dz_LS) : List (Nat × Value) := ls.map (fun q => (q.1, dz_val ad q.2))
theorem dz_lookup_mem {ls : dz_LS} {k : Nat} {v : dz_AV} (h : ls.lookup k = some v) : (k, v) ∈ ls := by
  induction ls with
  | nil => cases h
  | cons q l ih =>
    obtain ⟨a, w⟩ := q
    rw [List.lookup_cons] at h
    by_cases hk : k == a
    · rw [hk] at h
      have : k = a := by simpa using hk
      subst this
      cases h
      exact List.mem_cons_self
    · have hk' : (k == a) = false := by simpa using hk
      rw [hk'] at h
      exact List.mem_cons_of_mem _ (ih h)
theorem dz_lk {ad : Nat → Nat} {lsA : Array Slot} {nL : Nat} {ls : dz_LS} {k : Nat} {v : dz_AV} (h : lv_has lsA nL (dz_map ad ls)) (hk : ls.lookup k = some v) : lsA[k]? = some (.val (dz_val ad v)) :=
  h.2.2 (k, dz_val ad v) (List.mem_map.mpr ⟨(k, v), dz_lookup_mem hk, rfl⟩)
theorem dz_lki {ad : Nat → Nat} {ls : dz_LS} {k : Nat} {v : dz_AV} (hk : ls.lookup k = some v) : ∃ j : Nat, (dz_map ad ls)[j]? = some (k, dz_val ad v) := by
  obtain ⟨j, hj⟩ := List.getElem?_of_mem (dz_lookup_mem hk)
  exact ⟨j, by rw [dz_map, List.getElem?_map, hj]; rfl⟩
theorem dz_st1 (ad : Nat → Nat) (ls : dz_LS) (k : Nat) (v : dz_AV) (hv : dz_isL v = false) : (k, dz_val ad v) :: (dz_map ad ls).filter (fun q => !(q.1 == k) && !(q.1 + 1 == k && q.2.category == 2)) = dz_map ad (dz_st ls k v) := by
  unfold dz_map dz_st
  rw [List.map_cons, List.filter_map]
  congr 2
  apply List.filter_congr
  intro q _
  simp only [Function.comp, dz_cat, hv, Bool.false_and, Bool.not_false, Bool.true_and]
theorem dz_st2 (ad : Nat → Nat) (ls : dz_LS) (k : Nat) (v : dz_AV) (hv : dz_isL v = true) : (k, dz_val ad v) :: (dz_map ad ls).filter (fun q => !(q.1 == k) && (!(q.1 == k + 1) && !(q.1 + 1 == k && q.2.category == 2))) = dz_map ad (dz_st ls k v) := by
  unfold dz_map dz_st
  rw [List.map_cons, List.filter_map]
  congr 2
  apply List.filter_congr
  intro q _
  simp only [Function.comp, dz_cat, hv, Bool.true_and]
def dz_sub (ls ls' : dz_LS) : Prop := ls'.map (fun q => ls.lookup q.1) = ls'.map (fun q => some q.2)
theorem dz_sub_has {ad : Nat → Nat} {lsA : Array Slot} {nL : Nat} {ls ls' : dz_LS} (h : lv_has lsA nL (dz_map ad ls)) (hs : dz_sub ls ls') : lv_has lsA nL (dz_map ad ls') := by
  refine ⟨h.1, h.2.1, fun q hq => ?_⟩
  obtain ⟨⟨k, v⟩, hm, rfl⟩ := List.mem_map.mp hq
  obtain ⟨j, hj⟩ := List.getElem?_of_mem hm
  have h1 : (ls'.map (fun q => ls.lookup q.1))[j]? = some (ls.lookup k) := by rw [List.getElem?_map, hj]; rfl
  have h2 : (ls'.map (fun q => some q.2))[j]? = some (some v) := by rw [List.getElem?_map, hj]; rfl
  have e : ls.lookup k = some v := by
    have := h1.symm.trans ((congrArg (fun l => l[j]?) hs).trans h2)
    exact Option.some.inj this
  exact dz_lk h e
