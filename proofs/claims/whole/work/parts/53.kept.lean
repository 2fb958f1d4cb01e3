/-! what the yard is told leaves it a yard -/
theorem eqp_all {s s2 : dz_Sg} (h : sg_eqp s s2) : sg_p s2 = sg_p s ∧ q_least s2 = q_least s ∧ q_ways s2 = q_ways s ∧ (sg_no s2 ↔ sg_no s) ∧ (∀ q, sg_fw s2 q = sg_fw s q) ∧ (∀ q d, sg_held s2 q d ↔ sg_held s q d) := by
  obtain ⟨e1, e2, e3, e4, e5, e6, e7, e8, e9, e10, e11, e12⟩ := h
  have hok : sg_ok s2 = sg_ok s := by
    funext p d u l
    unfold sg_ok sg_may sg_at sg_foot sg_head
    rw [e1, e4, e5, e6, e7, e8, e9, e10, e11, e12]
  have hmay : sg_may s2 = sg_may s := by
    funext p d u l
    unfold sg_may sg_at sg_foot sg_head
    rw [e4, e5, e6, e7, e8, e9, e10, e11, e12]
  have hC : ∀ r u l k, sg_C s2 r u l k = sg_C s r u l k := by
    intro r
    induction r with
    | zero => intro u l k; rfl
    | succ r ih =>
      intro u l k
      rw [sg_C_succ, sg_C_succ]
      refine fb_sm_cong (fun d _ => ?_)
      have hf : sg_C s2 r (sg_nx u d) d = sg_C s r (sg_nx u d) d := funext fun k => ih _ _ k
      unfold sg_E
      rw [hok, e3, hf]
  have hC2 : sg_C s2 = sg_C s := funext fun r => funext fun u => funext fun l => funext fun k => hC r u l k
  have hvl : sg_vl s2 = sg_vl s := by funext u l; unfold sg_vl; rw [e1]
  have hL : sg_L s2 = sg_L s := by funext p u l; unfold sg_L; rw [hC2, hvl, e3]
  have hM : sg_M s2 = sg_M s := by funext p u l; unfold sg_M; rw [hC2, hvl, e3]
  have hb : sg_best s2 = sg_best s := by funext p d u l; unfold sg_best; rw [e1, hL, hmay]
  have hgo : ∀ p, sg_go s2 p = sg_go s p := by
    intro p
    induction p with
    | zero => rfl
    | succ p ih =>
      rw [sg_go_s, sg_go_s]
      unfold sg_fw
      rw [hb, ih]
  have hfw : ∀ q, sg_fw s2 q = sg_fw s q := fun q => by unfold sg_fw; rw [hb, hgo]
  have hbb : sg_bb s2 = sg_bb s := by funext p m d; unfold sg_bb; rw [hb]
  have hLd : ∀ p m, sg_Ld s2 p m = sg_Ld s p m := by
    intro p
    induction p with
    | zero => intro m; rfl
    | succ p ih =>
      intro m
      unfold sg_Ld
      rw [hbb, e1]
      refine fb_sm_cong (fun i _ => fb_sm_cong (fun d _ => ?_))
      rw [ih]
  have hno : sg_no s2 = sg_no s := by unfold sg_no; rw [hL]
  refine ⟨e3, ?_, ?_, by rw [hno], hfw, fun q d => ?_⟩
  · unfold q_least; rw [hno, hL]
  · unfold q_ways; rw [hM]
  · unfold sg_held; rw [e1, hb]
    exact ⟨fun ⟨i, a, b, c⟩ => ⟨i, a, by rw [← hLd]; exact b, c⟩, fun ⟨i, a, b, c⟩ => ⟨i, a, by rw [hLd]; exact b, c⟩⟩
theorem PD.eqp {s s2 : dz_Sg} {I : dz_MI} {J : dz_MJ} (h : PD s I J) (he : sg_eqp s s2) : PD s2 I J := by
  obtain ⟨k1, k2, k3, k4, k5, k6⟩ := eqp_all he
  obtain ⟨h1, h2, h3, h4⟩ := h
  refine ⟨by rw [k1]; exact h1, by rw [k2]; exact h2, by rw [k3]; exact h3, fun q hq => ?_⟩
  rw [k1] at hq
  refine ⟨?_, ?_⟩
  · rw [(h4 q hq).1]; unfold pa_fst; rw [dz_B_cong k4, k5]
  · rw [(h4 q hq).2]
    congr 1
    exact dz_bits_cong (fun d _ => dz_B_cong (by rw [k4, k6]))
theorem yd_Y {s s2 : dz_Sg} {v : dz_AV} {I I2 : dz_MI} {J J2 : dz_MJ} {r : Option dz_AV} (hY : YI s I J) (h : yd_S s s2 v I J r I2 J2) : r = some v ∧ YI s2 I2 J2 := by
  obtain ⟨h1, h2, h3, h4, h5, h6⟩ := h
  obtain ⟨y1, y2, y3⟩ := hY
  subst h3
  have hF : ∀ a k, a = 4 ∨ a = 18 ∨ a = 19 → I2 a k = I a k := fun a k z => by
    rcases z with rfl | rfl | rfl
    · exact h5 k
    · exact h4 18 k (by decide) (by decide)
    · exact h4 19 k (by decide) (by decide)
  refine ⟨h1, h2, y2.fr (fun a k z => h4 a k (by omega) (by omega)) (fun _ _ _ _ => rfl), ?_⟩
  rcases h6 with z | ⟨z1, z2⟩
  · exact Or.inl z
  · rw [z1]
    exact y3.imp id (fun y => ⟨y.1, (y.2.fr hF rfl).eqp z2⟩)
theorem dz_Pu_Y {s : dz_Sg} {v : dz_AV} {I I2 : dz_MI} {J J2 : dz_MJ} {r : Option dz_AV} (hY : YI s I J) (h : dz_Pu v I J r I2 J2) : r = some v ∧ YI s I2 J2 := by
  obtain ⟨rfl, rfl, rfl⟩ := h
  exact ⟨rfl, hY⟩
