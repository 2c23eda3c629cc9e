theorem yw_values_22 {g_trials g_drafted g_found : Int32} {b_s b_saved b_draft b_who b_met b_stack b_fresh b_deep : Nat → Int32} {b_alike b_meets : Nat → Int64} {n v : Nat} (hn : n ≤ 48) (hv : v < 48) : ∀ d j (b_who : Nat → Int32), j + d = n → b_who v = ys_wh b_s (b_s v) j → ∃ wh' : Nat → Int32, wh' v = ys_wh b_s (b_s v) n ∧ (∀ i, i ≠ v → wh' i = b_who i) ∧ ∀ (post : SY → Prop) (J7 : Int32 → (Nat → Int32) → (Nat → Int32) → (Nat → Int32) → (Nat → Int32) → (Nat → Int32) → (Nat → Int32) → (Nat → Int32) → (Nat → Int32) → (Nat → Int64) → (Nat → Int64) → Prop), J7 (nI (v + 1)) b_s b_saved b_draft wh' b_met b_stack b_fresh b_deep b_alike b_meets → wY_values_22 post J7 (nI n) (nI v) g_trials g_drafted g_found (d + 1) (nI j) b_s b_saved b_draft b_who b_met b_stack b_fresh b_deep b_alike b_meets := by
  intro d
  induction d with
  | zero =>
    intro j wh hj h
    have e : j = n := by omega
    refine ⟨wh, by rw [← e]; exact h, fun _ _ => rfl, fun post J7 hp => ?_⟩
    unfold wY_values_22
    simp (disch := omega) only [forall_eq, true_and, and_true, Nat.zero_add, nI_clamp, li_vin, nI_add, nI_eq, nI_leI, nI_ltI, li_0le, li_lt0, li_nn1, li_e0, not_true_eq_false, not_false_eq_true, false_implies, true_implies, forall_const, li_a0, li_b0, li_a1, li_b1, li_a2, li_b2, li_a3, li_b3, li_a7, li_b7, li_a8, li_b8, li_a16, li_b16, li_a48, li_b48, li_a584, li_b584, li_a572, li_b572, li_a96, li_b96, li_a144, li_b144, li_a192, li_b192, li_a240, li_b240, li_a336, li_b336, li_a384, li_b384, li_a432, li_b432, li_a480, li_b480, li_a488, li_b488, li_a496, li_b496, li_a504, li_b504, li_a512, li_b512, li_a520, li_b520, li_a524, li_b524, li_a528, li_b528, li_a536, li_b536, li_a544, li_b544, li_a552, li_b552, li_a560, li_b560, li_a568, li_b568, li_a573, li_b573, li_a585, li_b585, li_a633, li_b633, li_m3, li_n3, li_m4, li_n4, li_m48, li_n48, li_m50, li_n50, li_m585, li_n585, li_m633, li_n633, li_lt2, li_ge2, li_le2, li_gt2, li_lt1, li_ge1, li_le1, li_gt1, li_lt3, li_ge3, li_le3, li_gt3, li_lt4, li_ge4, li_le4, li_gt4, li_lt7, li_ge7, li_le7, li_gt7, li_lt8, li_ge8, li_le8, li_gt8, li_lt40, li_ge40, li_le40, li_gt40, li_lt240, li_ge240, li_le240, li_gt240, li_lt41, li_ge41, li_le41, li_gt41, li_lt48, li_ge48, li_le48, li_gt48, li_lt49, li_ge49, li_le49, li_gt49, li_lt60, li_ge60, li_le60, li_gt60, li_lt144, li_ge144, li_le144, li_gt144, li_lt145, li_ge145, li_le145, li_gt145, li_lt160, li_ge160, li_le160, li_gt160, li_lt336, li_ge336, li_le336, li_gt336, li_lt585, li_ge585, li_le585, li_gt585, li_lt633, li_ge633, li_le633, li_gt633, li_lt1000000, li_ge1000000, li_le1000000, li_gt1000000, li_lt2304, li_ge2304, li_le2304, li_gt2304, li_lt50, li_ge50, li_le50, li_gt50, li_le0, li_gt0]
    exact ⟨fun _ => hp, fun q => by omega⟩
  | succ d ih =>
    intro j wh hj h
    have st : ys_wh b_s (b_s v) (j + 1) = if b_s j = b_s v ∧ b_s (48 + j) ≠ 0 then nI j else ys_wh b_s (b_s v) j := rfl
    by_cases q : b_s j = b_s v ∧ b_s (48 + j) ≠ 0
    · obtain ⟨wh', h1, h2, h3⟩ := ih (j + 1) (upd wh v (nI j)) (by omega) (by rw [pk_us, st, if_pos q])
      refine ⟨wh', h1, fun i hi => by rw [h2 i hi, pk_un hi], fun post J7 hp => ?_⟩
      unfold wY_values_22
      simp (disch := omega) only [forall_eq, true_and, and_true, Nat.zero_add, nI_clamp, li_vin, nI_add, nI_eq, nI_leI, nI_ltI, li_0le, li_lt0, li_nn1, li_e0, not_true_eq_false, not_false_eq_true, false_implies, true_implies, forall_const, li_a0, li_b0, li_a1, li_b1, li_a2, li_b2, li_a3, li_b3, li_a7, li_b7, li_a8, li_b8, li_a16, li_b16, li_a48, li_b48, li_a584, li_b584, li_a572, li_b572, li_a96, li_b96, li_a144, li_b144, li_a192, li_b192, li_a240, li_b240, li_a336, li_b336, li_a384, li_b384, li_a432, li_b432, li_a480, li_b480, li_a488, li_b488, li_a496, li_b496, li_a504, li_b504, li_a512, li_b512, li_a520, li_b520, li_a524, li_b524, li_a528, li_b528, li_a536, li_b536, li_a544, li_b544, li_a552, li_b552, li_a560, li_b560, li_a568, li_b568, li_a573, li_b573, li_a585, li_b585, li_a633, li_b633, li_m3, li_n3, li_m4, li_n4, li_m48, li_n48, li_m50, li_n50, li_m585, li_n585, li_m633, li_n633, li_lt2, li_ge2, li_le2, li_gt2, li_lt1, li_ge1, li_le1, li_gt1, li_lt3, li_ge3, li_le3, li_gt3, li_lt4, li_ge4, li_le4, li_gt4, li_lt7, li_ge7, li_le7, li_gt7, li_lt8, li_ge8, li_le8, li_gt8, li_lt40, li_ge40, li_le40, li_gt40, li_lt240, li_ge240, li_le240, li_gt240, li_lt41, li_ge41, li_le41, li_gt41, li_lt48, li_ge48, li_le48, li_gt48, li_lt49, li_ge49, li_le49, li_gt49, li_lt60, li_ge60, li_le60, li_gt60, li_lt144, li_ge144, li_le144, li_gt144, li_lt145, li_ge145, li_le145, li_gt145, li_lt160, li_ge160, li_le160, li_gt160, li_lt336, li_ge336, li_le336, li_gt336, li_lt585, li_ge585, li_le585, li_gt585, li_lt633, li_ge633, li_le633, li_gt633, li_lt1000000, li_ge1000000, li_le1000000, li_gt1000000, li_lt2304, li_ge2304, li_le2304, li_gt2304, li_lt50, li_ge50, li_le50, li_gt50, li_le0, li_gt0]
      exact ⟨fun q => by omega, fun _ => br_t q.1 (br_f q.2 (h3 post J7 hp))⟩
    · obtain ⟨wh', h1, h2, h3⟩ := ih (j + 1) wh (by omega) (by rw [st, if_neg q]; exact h)
      refine ⟨wh', h1, h2, fun post J7 hp => ?_⟩
      unfold wY_values_22
      simp (disch := omega) only [forall_eq, true_and, and_true, Nat.zero_add, nI_clamp, li_vin, nI_add, nI_eq, nI_leI, nI_ltI, li_0le, li_lt0, li_nn1, li_e0, not_true_eq_false, not_false_eq_true, false_implies, true_implies, forall_const, li_a0, li_b0, li_a1, li_b1, li_a2, li_b2, li_a3, li_b3, li_a7, li_b7, li_a8, li_b8, li_a16, li_b16, li_a48, li_b48, li_a584, li_b584, li_a572, li_b572, li_a96, li_b96, li_a144, li_b144, li_a192, li_b192, li_a240, li_b240, li_a336, li_b336, li_a384, li_b384, li_a432, li_b432, li_a480, li_b480, li_a488, li_b488, li_a496, li_b496, li_a504, li_b504, li_a512, li_b512, li_a520, li_b520, li_a524, li_b524, li_a528, li_b528, li_a536, li_b536, li_a544, li_b544, li_a552, li_b552, li_a560, li_b560, li_a568, li_b568, li_a573, li_b573, li_a585, li_b585, li_a633, li_b633, li_m3, li_n3, li_m4, li_n4, li_m48, li_n48, li_m50, li_n50, li_m585, li_n585, li_m633, li_n633, li_lt2, li_ge2, li_le2, li_gt2, li_lt1, li_ge1, li_le1, li_gt1, li_lt3, li_ge3, li_le3, li_gt3, li_lt4, li_ge4, li_le4, li_gt4, li_lt7, li_ge7, li_le7, li_gt7, li_lt8, li_ge8, li_le8, li_gt8, li_lt40, li_ge40, li_le40, li_gt40, li_lt240, li_ge240, li_le240, li_gt240, li_lt41, li_ge41, li_le41, li_gt41, li_lt48, li_ge48, li_le48, li_gt48, li_lt49, li_ge49, li_le49, li_gt49, li_lt60, li_ge60, li_le60, li_gt60, li_lt144, li_ge144, li_le144, li_gt144, li_lt145, li_ge145, li_le145, li_gt145, li_lt160, li_ge160, li_le160, li_gt160, li_lt336, li_ge336, li_le336, li_gt336, li_lt585, li_ge585, li_le585, li_gt585, li_lt633, li_ge633, li_le633, li_gt633, li_lt1000000, li_ge1000000, li_le1000000, li_gt1000000, li_lt2304, li_ge2304, li_le2304, li_gt2304, li_lt50, li_ge50, li_le50, li_gt50, li_le0, li_gt0]
      refine ⟨fun q => by omega, fun _ => br_c (fun e => ?_) (fun _ => h3 post J7 hp)⟩
      exact br_c (fun _ => h3 post J7 hp) (fun z => absurd ⟨e, z⟩ q)
theorem yw_values_7 {g_trials g_drafted g_found : Int32} {b_s b_saved b_draft b_who b_met b_stack b_fresh b_deep : Nat → Int32} {b_alike b_meets : Nat → Int64} {n : Nat} (hn : n ≤ 48) : ∀ d j (b_who : Nat → Int32), j + d = 48 → ∃ wh' : Nat → Int32, (∀ v, j ≤ v → v < 48 → wh' v = ys_wh b_s (b_s v) n) ∧ (∀ i, i < j → wh' i = b_who i) ∧ ∀ post : SY → Prop, post (g_trials, g_drafted, g_found, b_s, b_saved, b_draft, wh', b_met, b_stack, b_fresh, b_deep, b_alike, b_meets) → wY_values_7 post (nI n) g_trials g_drafted g_found (d + 1) (nI j) b_s b_saved b_draft b_who b_met b_stack b_fresh b_deep b_alike b_meets := by
  intro d
  induction d with
  | zero =>
    intro j wh hj
    refine ⟨wh, fun v h1 h2 => by omega, fun _ _ => rfl, fun post hp => ?_⟩
    unfold wY_values_7
    simp (disch := omega) only [forall_eq, true_and, and_true, Nat.zero_add, nI_clamp, li_vin, nI_add, nI_eq, nI_leI, nI_ltI, li_0le, li_lt0, li_nn1, li_e0, not_true_eq_false, not_false_eq_true, false_implies, true_implies, forall_const, li_a0, li_b0, li_a1, li_b1, li_a2, li_b2, li_a3, li_b3, li_a7, li_b7, li_a8, li_b8, li_a16, li_b16, li_a48, li_b48, li_a584, li_b584, li_a572, li_b572, li_a96, li_b96, li_a144, li_b144, li_a192, li_b192, li_a240, li_b240, li_a336, li_b336, li_a384, li_b384, li_a432, li_b432, li_a480, li_b480, li_a488, li_b488, li_a496, li_b496, li_a504, li_b504, li_a512, li_b512, li_a520, li_b520, li_a524, li_b524, li_a528, li_b528, li_a536, li_b536, li_a544, li_b544, li_a552, li_b552, li_a560, li_b560, li_a568, li_b568, li_a573, li_b573, li_a585, li_b585, li_a633, li_b633, li_m3, li_n3, li_m4, li_n4, li_m48, li_n48, li_m50, li_n50, li_m585, li_n585, li_m633, li_n633, li_lt2, li_ge2, li_le2, li_gt2, li_lt1, li_ge1, li_le1, li_gt1, li_lt3, li_ge3, li_le3, li_gt3, li_lt4, li_ge4, li_le4, li_gt4, li_lt7, li_ge7, li_le7, li_gt7, li_lt8, li_ge8, li_le8, li_gt8, li_lt40, li_ge40, li_le40, li_gt40, li_lt240, li_ge240, li_le240, li_gt240, li_lt41, li_ge41, li_le41, li_gt41, li_lt48, li_ge48, li_le48, li_gt48, li_lt49, li_ge49, li_le49, li_gt49, li_lt60, li_ge60, li_le60, li_gt60, li_lt144, li_ge144, li_le144, li_gt144, li_lt145, li_ge145, li_le145, li_gt145, li_lt160, li_ge160, li_le160, li_gt160, li_lt336, li_ge336, li_le336, li_gt336, li_lt585, li_ge585, li_le585, li_gt585, li_lt633, li_ge633, li_le633, li_gt633, li_lt1000000, li_ge1000000, li_le1000000, li_gt1000000, li_lt2304, li_ge2304, li_le2304, li_gt2304, li_lt50, li_ge50, li_le50, li_gt50, li_le0, li_gt0]
    exact ⟨fun _ => hp, fun q => by omega⟩
  | succ d ih =>
    intro j wh hj
    obtain ⟨w1, a1, a2, a3⟩ := yw_values_22 (g_trials := g_trials) (g_drafted := g_drafted) (g_found := g_found) (b_s := b_s) (b_saved := b_saved) (b_draft := b_draft) (b_who := b_who) (b_met := b_met) (b_stack := b_stack) (b_fresh := b_fresh) (b_deep := b_deep) (b_alike := b_alike) (b_meets := b_meets) hn (v := j) (by omega) n 0 (upd wh j (-1)) (by omega) pk_us
    obtain ⟨wh', h1, h2, h3⟩ := ih (j + 1) w1 (by omega)
    refine ⟨wh', ?_, ?_, fun post hp => ?_⟩
    · intro v g1 g2
      by_cases z : v = j
      · rw [z, h2 j (by omega), a1]
      · exact h1 v (by omega) g2
    · intro i hi
      rw [h2 i (by omega), a2 i (by omega), pk_un (by omega)]
    · unfold wY_values_7
      simp (disch := omega) only [forall_eq, true_and, and_true, Nat.zero_add, nI_clamp, li_vin, nI_add, nI_eq, nI_leI, nI_ltI, li_0le, li_lt0, li_nn1, li_e0, not_true_eq_false, not_false_eq_true, false_implies, true_implies, forall_const, li_a0, li_b0, li_a1, li_b1, li_a2, li_b2, li_a3, li_b3, li_a7, li_b7, li_a8, li_b8, li_a16, li_b16, li_a48, li_b48, li_a584, li_b584, li_a572, li_b572, li_a96, li_b96, li_a144, li_b144, li_a192, li_b192, li_a240, li_b240, li_a336, li_b336, li_a384, li_b384, li_a432, li_b432, li_a480, li_b480, li_a488, li_b488, li_a496, li_b496, li_a504, li_b504, li_a512, li_b512, li_a520, li_b520, li_a524, li_b524, li_a528, li_b528, li_a536, li_b536, li_a544, li_b544, li_a552, li_b552, li_a560, li_b560, li_a568, li_b568, li_a573, li_b573, li_a585, li_b585, li_a633, li_b633, li_m3, li_n3, li_m4, li_n4, li_m48, li_n48, li_m50, li_n50, li_m585, li_n585, li_m633, li_n633, li_lt2, li_ge2, li_le2, li_gt2, li_lt1, li_ge1, li_le1, li_gt1, li_lt3, li_ge3, li_le3, li_gt3, li_lt4, li_ge4, li_le4, li_gt4, li_lt7, li_ge7, li_le7, li_gt7, li_lt8, li_ge8, li_le8, li_gt8, li_lt40, li_ge40, li_le40, li_gt40, li_lt240, li_ge240, li_le240, li_gt240, li_lt41, li_ge41, li_le41, li_gt41, li_lt48, li_ge48, li_le48, li_gt48, li_lt49, li_ge49, li_le49, li_gt49, li_lt60, li_ge60, li_le60, li_gt60, li_lt144, li_ge144, li_le144, li_gt144, li_lt145, li_ge145, li_le145, li_gt145, li_lt160, li_ge160, li_le160, li_gt160, li_lt336, li_ge336, li_le336, li_gt336, li_lt585, li_ge585, li_le585, li_gt585, li_lt633, li_ge633, li_le633, li_gt633, li_lt1000000, li_ge1000000, li_le1000000, li_gt1000000, li_lt2304, li_ge2304, li_le2304, li_gt2304, li_lt50, li_ge50, li_le50, li_gt50, li_le0, li_gt0]
      exact ⟨fun q => by omega, fun _ => ⟨_, a3 post _ (h3 post hp)⟩⟩
theorem yw_values {g_trials g_drafted g_found : Int32} {b_s b_saved b_draft b_who b_met b_stack b_fresh b_deep : Nat → Int32} {b_alike b_meets : Nat → Int64} (h : yv_H b_s) : ∃ (n : Nat) (wh' : Nat → Int32), n ≤ 48 ∧ (∀ x, yv_U b_s x → x < n) ∧ (∀ v, v < 48 → wh' v = ys_wh b_s (b_s v) n) ∧ ∀ post : SY → Prop, post (g_trials, g_drafted, g_found, b_s, b_saved, b_draft, wh', b_met, b_stack, b_fresh, b_deep, b_alike, b_meets) → wpY_values post (g_trials, g_drafted, g_found, b_s, b_saved, b_draft, b_who, b_met, b_stack, b_fresh, b_deep, b_alike, b_meets) := by
  obtain ⟨n, n1, n2, n3⟩ := yw_bound (g_trials := g_trials) (g_drafted := g_drafted) (g_found := g_found) (b_s := b_s) (b_saved := b_saved) (b_draft := b_draft) (b_who := b_who) (b_met := b_met) (b_stack := b_stack) (b_fresh := b_fresh) (b_deep := b_deep) (b_alike := b_alike) (b_meets := b_meets) h
  obtain ⟨wh', h1, h2, h3⟩ := yw_values_7 (g_trials := g_trials) (g_drafted := g_drafted) (g_found := g_found) (b_s := b_s) (b_saved := b_saved) (b_draft := b_draft) (b_who := b_who) (b_met := b_met) (b_stack := b_stack) (b_fresh := b_fresh) (b_deep := b_deep) (b_alike := b_alike) (b_meets := b_meets) n1 48 0 b_who rfl
  refine ⟨n, wh', n1, n2, fun v hv => h1 v (by omega) hv, fun post hp => ?_⟩
  unfold wpY_values
  exact n3 _ ⟨_, h3 post hp⟩
theorem yw_areAlike {g_trials g_drafted g_found : Int32} {b_s b_saved b_draft b_who b_met b_stack b_fresh b_deep : Nat → Int32} {b_alike b_meets : Nat → Int64} {u v : Nat} (hu : u < 48) (hv : v < 48) : ∀ post : Int32 → Prop, (by_b (b_alike u) v = true → post 1) → (by_b (b_alike u) v = false → post 0) → wpY_areAlike post (g_trials, g_drafted, g_found, b_s, b_saved, b_draft, b_who, b_met, b_stack, b_fresh, b_deep, b_alike, b_meets) (nI u) (nI v) := by
  intro post h1 h0
  unfold wpY_areAlike
  simp (disch := omega) only [forall_eq, true_and, and_true, Nat.zero_add, nI_clamp, li_vin, nI_add, nI_eq, nI_leI, nI_ltI, li_0le, li_lt0, li_nn1, li_e0, not_true_eq_false, not_false_eq_true, false_implies, true_implies, forall_const, li_a0, li_b0, li_a1, li_b1, li_a2, li_b2, li_a3, li_b3, li_a7, li_b7, li_a8, li_b8, li_a16, li_b16, li_a48, li_b48, li_a584, li_b584, li_a572, li_b572, li_a96, li_b96, li_a144, li_b144, li_a192, li_b192, li_a240, li_b240, li_a336, li_b336, li_a384, li_b384, li_a432, li_b432, li_a480, li_b480, li_a488, li_b488, li_a496, li_b496, li_a504, li_b504, li_a512, li_b512, li_a520, li_b520, li_a524, li_b524, li_a528, li_b528, li_a536, li_b536, li_a544, li_b544, li_a552, li_b552, li_a560, li_b560, li_a568, li_b568, li_a573, li_b573, li_a585, li_b585, li_a633, li_b633, li_m3, li_n3, li_m4, li_n4, li_m48, li_n48, li_m50, li_n50, li_m585, li_n585, li_m633, li_n633, li_lt2, li_ge2, li_le2, li_gt2, li_lt1, li_ge1, li_le1, li_gt1, li_lt3, li_ge3, li_le3, li_gt3, li_lt4, li_ge4, li_le4, li_gt4, li_lt7, li_ge7, li_le7, li_gt7, li_lt8, li_ge8, li_le8, li_gt8, li_lt40, li_ge40, li_le40, li_gt40, li_lt240, li_ge240, li_le240, li_gt240, li_lt41, li_ge41, li_le41, li_gt41, li_lt48, li_ge48, li_le48, li_gt48, li_lt49, li_ge49, li_le49, li_gt49, li_lt60, li_ge60, li_le60, li_gt60, li_lt144, li_ge144, li_le144, li_gt144, li_lt145, li_ge145, li_le145, li_gt145, li_lt160, li_ge160, li_le160, li_gt160, li_lt336, li_ge336, li_le336, li_gt336, li_lt585, li_ge585, li_le585, li_gt585, li_lt633, li_ge633, li_le633, li_gt633, li_lt1000000, li_ge1000000, li_le1000000, li_gt1000000, li_lt2304, li_ge2304, li_le2304, li_gt2304, li_lt50, li_ge50, li_le50, li_gt50, li_le0, li_gt0]
  rw [by_is1 _ (by omega)]
  refine ⟨h1, fun q => h0 ?_⟩
  cases z : by_b (b_alike u) v
  · rfl
  · exact absurd z q
/-- what mayBe looks at -/
def yr_m (s : Nat → Int32) (n : Nat) (al : Nat → Int64) (u v : Nat) : Prop :=
  s u = s v ∨ (ys_h s n u ∧ ys_h s n v ∧ (yv_T s).2.1 (ys_f s n u) = (yv_T s).2.1 (ys_f s n v) ∧ ∀ k, k < ma_ct ((yv_T s).2.1 (ys_f s n u)).1 → by_b (al ((yv_T s).2.2 (ys_f s n u) k)) ((yv_T s).2.2 (ys_f s n v) k) = true)
theorem yw_mayBe_60 {g_trials g_drafted g_found : Int32} {b_s b_saved b_draft b_who b_met b_stack b_fresh b_deep : Nat → Int32} {b_alike b_meets : Nat → Int64} (h : yv_H b_s) {u v : Nat} (hu : u < 48) (hv : v < 48) (u0 : b_s (48 + u) ≠ 0) : ∀ d j, j + d = ma_ct ((yv_T b_s).2.1 u).1 → (∀ k, k < j → by_b (b_alike ((yv_T b_s).2.2 u k)) ((yv_T b_s).2.2 v k) = true) → ∀ post : Int32 → Prop, ((∀ k, k < ma_ct ((yv_T b_s).2.1 u).1 → by_b (b_alike ((yv_T b_s).2.2 u k)) ((yv_T b_s).2.2 v k) = true) → post 1) → ((¬ ∀ k, k < ma_ct ((yv_T b_s).2.1 u).1 → by_b (b_alike ((yv_T b_s).2.2 u k)) ((yv_T b_s).2.2 v k) = true) → post 0) → wY_mayBe_60 post (nI u) (nI v) g_trials g_drafted g_found b_s b_saved b_draft b_who b_met b_stack b_fresh b_deep b_alike b_meets (d + 1) (nI j) := by
  have eu : (yv_T b_s).2.1 u = (yv_k b_s u, b_s (96 + u)) := if_pos hu
  have ct3 := ma_ct_le ((yv_T b_s).2.1 u).1
  have ec : b_s (192 + u) = nI (ma_ct ((yv_T b_s).2.1 u).1) := by
    rw [eu]; exact (yv_HC h hu u0).1
  intro d
  induction d with
  | zero =>
    intro j hj hk post h1 h0
    unfold wY_mayBe_60
    simp (disch := omega) only [forall_eq, true_and, and_true, Nat.zero_add, nI_clamp, li_vin, nI_add, nI_eq, nI_leI, nI_ltI, li_0le, li_lt0, li_nn1, li_e0, not_true_eq_false, not_false_eq_true, false_implies, true_implies, forall_const, li_a0, li_b0, li_a1, li_b1, li_a2, li_b2, li_a3, li_b3, li_a7, li_b7, li_a8, li_b8, li_a16, li_b16, li_a48, li_b48, li_a584, li_b584, li_a572, li_b572, li_a96, li_b96, li_a144, li_b144, li_a192, li_b192, li_a240, li_b240, li_a336, li_b336, li_a384, li_b384, li_a432, li_b432, li_a480, li_b480, li_a488, li_b488, li_a496, li_b496, li_a504, li_b504, li_a512, li_b512, li_a520, li_b520, li_a524, li_b524, li_a528, li_b528, li_a536, li_b536, li_a544, li_b544, li_a552, li_b552, li_a560, li_b560, li_a568, li_b568, li_a573, li_b573, li_a585, li_b585, li_a633, li_b633, li_m3, li_n3, li_m4, li_n4, li_m48, li_n48, li_m50, li_n50, li_m585, li_n585, li_m633, li_n633, li_lt2, li_ge2, li_le2, li_gt2, li_lt1, li_ge1, li_le1, li_gt1, li_lt3, li_ge3, li_le3, li_gt3, li_lt4, li_ge4, li_le4, li_gt4, li_lt7, li_ge7, li_le7, li_gt7, li_lt8, li_ge8, li_le8, li_gt8, li_lt40, li_ge40, li_le40, li_gt40, li_lt240, li_ge240, li_le240, li_gt240, li_lt41, li_ge41, li_le41, li_gt41, li_lt48, li_ge48, li_le48, li_gt48, li_lt49, li_ge49, li_le49, li_gt49, li_lt60, li_ge60, li_le60, li_gt60, li_lt144, li_ge144, li_le144, li_gt144, li_lt145, li_ge145, li_le145, li_gt145, li_lt160, li_ge160, li_le160, li_gt160, li_lt336, li_ge336, li_le336, li_gt336, li_lt585, li_ge585, li_le585, li_gt585, li_lt633, li_ge633, li_le633, li_gt633, li_lt1000000, li_ge1000000, li_le1000000, li_gt1000000, li_lt2304, li_ge2304, li_le2304, li_gt2304, li_lt50, li_ge50, li_le50, li_gt50, li_le0, li_gt0, ec]
    exact ⟨fun _ => h1 (fun k g => hk k (by omega)), fun q => by omega⟩
  | succ d ih =>
    intro j hj hk post h1 h0
    have pu : b_s (240 + 3 * u + j) = nI ((yv_T b_s).2.2 u j) ∧ (yv_T b_s).2.2 u j < 48 := yv_HP h hu (by omega)
    have pv : b_s (240 + 3 * v + j) = nI ((yv_T b_s).2.2 v j) ∧ (yv_T b_s).2.2 v j < 48 := yv_HP h hv (by omega)
    obtain ⟨pu1, pu2⟩ := pu
    obtain ⟨pv1, pv2⟩ := pv
    unfold wY_mayBe_60
    simp (disch := omega) only [forall_eq, true_and, and_true, Nat.zero_add, nI_clamp, li_vin, nI_add, nI_eq, nI_leI, nI_ltI, li_0le, li_lt0, li_nn1, li_e0, not_true_eq_false, not_false_eq_true, false_implies, true_implies, forall_const, li_a0, li_b0, li_a1, li_b1, li_a2, li_b2, li_a3, li_b3, li_a7, li_b7, li_a8, li_b8, li_a16, li_b16, li_a48, li_b48, li_a584, li_b584, li_a572, li_b572, li_a96, li_b96, li_a144, li_b144, li_a192, li_b192, li_a240, li_b240, li_a336, li_b336, li_a384, li_b384, li_a432, li_b432, li_a480, li_b480, li_a488, li_b488, li_a496, li_b496, li_a504, li_b504, li_a512, li_b512, li_a520, li_b520, li_a524, li_b524, li_a528, li_b528, li_a536, li_b536, li_a544, li_b544, li_a552, li_b552, li_a560, li_b560, li_a568, li_b568, li_a573, li_b573, li_a585, li_b585, li_a633, li_b633, li_m3, li_n3, li_m4, li_n4, li_m48, li_n48, li_m50, li_n50, li_m585, li_n585, li_m633, li_n633, li_lt2, li_ge2, li_le2, li_gt2, li_lt1, li_ge1, li_le1, li_gt1, li_lt3, li_ge3, li_le3, li_gt3, li_lt4, li_ge4, li_le4, li_gt4, li_lt7, li_ge7, li_le7, li_gt7, li_lt8, li_ge8, li_le8, li_gt8, li_lt40, li_ge40, li_le40, li_gt40, li_lt240, li_ge240, li_le240, li_gt240, li_lt41, li_ge41, li_le41, li_gt41, li_lt48, li_ge48, li_le48, li_gt48, li_lt49, li_ge49, li_le49, li_gt49, li_lt60, li_ge60, li_le60, li_gt60, li_lt144, li_ge144, li_le144, li_gt144, li_lt145, li_ge145, li_le145, li_gt145, li_lt160, li_ge160, li_le160, li_gt160, li_lt336, li_ge336, li_le336, li_gt336, li_lt585, li_ge585, li_le585, li_gt585, li_lt633, li_ge633, li_le633, li_gt633, li_lt1000000, li_ge1000000, li_le1000000, li_gt1000000, li_lt2304, li_ge2304, li_le2304, li_gt2304, li_lt50, li_ge50, li_le50, li_gt50, li_le0, li_gt0, ec, pu1, pv1]
    refine ⟨fun q => by omega, fun _ => ?_⟩
    refine yw_areAlike (g_trials := g_trials) (g_drafted := g_drafted) (g_found := g_found) (b_s := b_s) (b_saved := b_saved) (b_draft := b_draft) (b_who := b_who) (b_met := b_met) (b_stack := b_stack) (b_fresh := b_fresh) (b_deep := b_deep) (b_alike := b_alike) (b_meets := b_meets) pu2 pv2 _ (fun b => br_f (by decide) ?_) (fun b => br_t rfl (h0 (fun q => ?_)))
    · exact ih (j + 1) (by omega) (lt_s hk b) post h1 h0
    · rw [q j (by omega)] at b
      exact absurd b (by decide)
theorem yw_mayBe {g_trials g_drafted g_found : Int32} {b_s b_saved b_draft b_who b_met b_stack b_fresh b_deep : Nat → Int32} {b_alike b_meets : Nat → Int64} (h : yv_H b_s) {n u v : Nat} (hn : n ≤ 48) (hw : ∀ v, v < 48 → b_who v = ys_wh b_s (b_s v) n) (hu : u < 48) (hv : v < 48) : ∀ post : Int32 → Prop, (yr_m b_s n b_alike u v → post 1) → (¬ yr_m b_s n b_alike u v → post 0) → wpY_mayBe post (g_trials, g_drafted, g_found, b_s, b_saved, b_draft, b_who, b_met, b_stack, b_fresh, b_deep, b_alike, b_meets) (nI u) (nI v) := by
  intro post h1 h0
  unfold wpY_mayBe
  simp (disch := omega) only [forall_eq, true_and, and_true, Nat.zero_add, nI_clamp, li_vin, nI_add, nI_eq, nI_leI, nI_ltI, li_0le, li_lt0, li_nn1, li_e0, not_true_eq_false, not_false_eq_true, false_implies, true_implies, forall_const, li_a0, li_b0, li_a1, li_b1, li_a2, li_b2, li_a3, li_b3, li_a7, li_b7, li_a8, li_b8, li_a16, li_b16, li_a48, li_b48, li_a584, li_b584, li_a572, li_b572, li_a96, li_b96, li_a144, li_b144, li_a192, li_b192, li_a240, li_b240, li_a336, li_b336, li_a384, li_b384, li_a432, li_b432, li_a480, li_b480, li_a488, li_b488, li_a496, li_b496, li_a504, li_b504, li_a512, li_b512, li_a520, li_b520, li_a524, li_b524, li_a528, li_b528, li_a536, li_b536, li_a544, li_b544, li_a552, li_b552, li_a560, li_b560, li_a568, li_b568, li_a573, li_b573, li_a585, li_b585, li_a633, li_b633, li_m3, li_n3, li_m4, li_n4, li_m48, li_n48, li_m50, li_n50, li_m585, li_n585, li_m633, li_n633, li_lt2, li_ge2, li_le2, li_gt2, li_lt1, li_ge1, li_le1, li_gt1, li_lt3, li_ge3, li_le3, li_gt3, li_lt4, li_ge4, li_le4, li_gt4, li_lt7, li_ge7, li_le7, li_gt7, li_lt8, li_ge8, li_le8, li_gt8, li_lt40, li_ge40, li_le40, li_gt40, li_lt240, li_ge240, li_le240, li_gt240, li_lt41, li_ge41, li_le41, li_gt41, li_lt48, li_ge48, li_le48, li_gt48, li_lt49, li_ge49, li_le49, li_gt49, li_lt60, li_ge60, li_le60, li_gt60, li_lt144, li_ge144, li_le144, li_gt144, li_lt145, li_ge145, li_le145, li_gt145, li_lt160, li_ge160, li_le160, li_gt160, li_lt336, li_ge336, li_le336, li_gt336, li_lt585, li_ge585, li_le585, li_gt585, li_lt633, li_ge633, li_le633, li_gt633, li_lt1000000, li_ge1000000, li_le1000000, li_gt1000000, li_lt2304, li_ge2304, li_le2304, li_gt2304, li_lt50, li_ge50, li_le50, li_gt50, li_le0, li_gt0]
  refine br_c (fun e => h1 (Or.inl e)) (fun ne => ?_)
  rw [hw u hu, hw v hv]
  by_cases a : ys_h b_s n u
  · obtain ⟨a1, a2, a3, a4⟩ := ys_hf hn a
    rw [a1]
    refine br_f (nI_pos (by omega)) ?_
    by_cases b : ys_h b_s n v
    · obtain ⟨b1, b2, b3, b4⟩ := ys_hf hn b
      rw [b1]
      refine br_f (nI_pos (by omega)) ?_
      refine yw_isOther (g_trials := g_trials) (g_drafted := g_drafted) (g_found := g_found) (b_s := b_s) (b_saved := b_saved) (b_draft := b_draft) (b_who := b_who) (b_met := b_met) (b_stack := b_stack) (b_fresh := b_fresh) (b_deep := b_deep) (b_alike := b_alike) (b_meets := b_meets) h (by omega) (by omega) a4 b4 _ (fun e => br_t rfl ⟨ma_ct ((yv_T b_s).2.1 (ys_f b_s n u)).1 + 1, ?_⟩) (fun e => br_f (by decide) (h0 (fun q => ?_)))
      · refine yw_mayBe_60 (g_trials := g_trials) (g_drafted := g_drafted) (g_found := g_found) (b_s := b_s) (b_saved := b_saved) (b_draft := b_draft) (b_who := b_who) (b_met := b_met) (b_stack := b_stack) (b_fresh := b_fresh) (b_deep := b_deep) (b_alike := b_alike) (b_meets := b_meets) h (by omega) (by omega) a4 (ma_ct ((yv_T b_s).2.1 (ys_f b_s n u)).1) 0 (by omega) (fun k hk => by omega) post (fun q => h1 (Or.inr ⟨a, b, e, q⟩)) (fun q => h0 (fun z => ?_))
        rcases z with z | z
        · exact ne z
        · exact q z.2.2.2
      · rcases q with q | q
        · exact ne q
        · exact e q.2.2.1
    · have b' : ys_wh b_s (b_s v) n = -1 := Classical.byContradiction b
      rw [b']
      refine br_t (by decide) (h0 (fun q => ?_))
      rcases q with q | q
      · exact ne q
      · exact b q.2.1
  · have a' : ys_wh b_s (b_s u) n = -1 := Classical.byContradiction a
    rw [a']
    refine br_t (by decide) (h0 (fun q => ?_))
    rcases q with q | q
    · exact ne q
    · exact a q.1
def rl_c (al : Nat → Int64) : Nat := ma_cnt (fun k => by_b (al (k / 48)) (k % 48)) 2304
def rl_p (U : Nat → Prop) (L : Nat → Nat) (T : ma_T) (h : Nat → Prop) (f : Nat → Nat) (al : Nat → Int64) (n k : Nat) : Prop :=
  ∀ u v, U u → U v → u < v → v < n → u * n + v < k → by_b (al u) v = true → rl_m L T h f al u v
theorem rl_p1 {U : Nat → Prop} {L : Nat → Nat} {T : ma_T} {h : Nat → Prop} {f : Nat → Nat} {al : Nat → Int64} {n k : Nat} (hp : rl_p U L T h f al n k) (hk : ∀ u v, U u → U v → u < v → u = k / n → v = k % n → by_b (al u) v = true → rl_m L T h f al u v) : rl_p U L T h f al n (k + 1) := by
  intro u v hu hv lt vn lk e
  by_cases q : u * n + v < k
  · exact hp u v hu hv lt vn q e
  · have e2 : u * n + v = k := by omega
    obtain ⟨d1, d2⟩ := dv_u (u := u) vn
    rw [e2] at d1 d2
    exact hk u v hu hv lt d1.symm d2.symm e
theorem rl_bits {al : Nat → Int64} {u v : Nat} (hu : u < 48) (hv : v < 48) (ne : u ≠ v) : ∀ x y, x < 48 → y < 48 → by_b (vp_updL (vp_updL al u (al u &&& (((1 : Int64) <<< ((nI v).toInt64 &&& 63)) ^^^ (-1)))) v (vp_updL al u (al u &&& (((1 : Int64) <<< ((nI v).toInt64 &&& 63)) ^^^ (-1))) v &&& (((1 : Int64) <<< ((nI u).toInt64 &&& 63)) ^^^ (-1))) x) y = (by_b (al x) y && !(decide ((x = u ∧ y = v) ∨ (x = v ∧ y = u)))) := by
  intro x y hx hy
  rw [pk_uLn (fun z => ne z.symm)]
  by_cases a : x = v
  · rw [a, pk_uLs, by_and, by_not _ (by omega), by_shl (by omega)]
    congr 2
    apply decide_eq_decide.mpr
    constructor
    · intro q; exact Or.inr ⟨rfl, q.symm⟩
    · intro q
      rcases q with q | q
      · exact absurd q.1.symm ne
      · exact q.2.symm
  · rw [pk_uLn a]
    by_cases b : x = u
    · rw [b, pk_uLs, by_and, by_not _ (by omega), by_shl (by omega)]
      congr 2
      apply decide_eq_decide.mpr
      constructor
      · intro q; exact Or.inl ⟨rfl, q.symm⟩
      · intro q
        rcases q with q | q
        · exact q.2.symm
        · exact absurd q.1 ne
    · rw [pk_uLn b, decide_eq_false (fun q => q.elim (fun z => b z.1) (fun z => a z.1))]
      simp
theorem yw_relate_42 {g_trials g_drafted g_found : Int32} {b_s b_saved b_draft b_who b_met b_stack b_fresh b_deep : Nat → Int32} {b_alike b_meets : Nat → Int64} {B : Nat} {a : Nat → Int32} {n n' : Nat} (hr : re_P B a b_s) (hn : n ≤ 48) (hU : ∀ x, xv_U a x → x < n) (hw : ∀ v, v < 48 → b_who v = ys_wh b_s (b_s v) n) (hn' : n' ≤ 48) : ∀ d k (more : Int32) (b_alike : Nat → Int64), k + d = n' * n' → rl_I (xv_U a) (xv_L a) (yv_T b_s) (ys_h b_s n) (ys_f b_s n) b_alike → (more = 0 ∨ more = 1) → (more = 0 → rl_p (xv_U a) (xv_L a) (yv_T b_s) (ys_h b_s n) (ys_f b_s n) b_alike n' k) → ∃ (more' : Int32) (al' : Nat → Int64), rl_I (xv_U a) (xv_L a) (yv_T b_s) (ys_h b_s n) (ys_f b_s n) al' ∧ (more' = 0 ∨ more' = 1) ∧ (more' = 0 → rl_p (xv_U a) (xv_L a) (yv_T b_s) (ys_h b_s n) (ys_f b_s n) al' n' (n' * n')) ∧ rl_c al' ≤ rl_c b_alike ∧ (more' = 1 → more = 1 ∨ rl_c al' < rl_c b_alike) ∧ ∀ (post : SY → Prop) (J34 : Int32 → (Nat → Int32) → (Nat → Int32) → (Nat → Int32) → (Nat → Int32) → (Nat → Int32) → (Nat → Int32) → (Nat → Int32) → (Nat → Int32) → (Nat → Int64) → (Nat → Int64) → Prop), J34 more' b_s b_saved b_draft b_who b_met b_stack b_fresh b_deep al' b_meets → wY_relate_42 post J34 (nI n') g_trials g_drafted g_found (d + 1) more (nI k) b_s b_saved b_draft b_who b_met b_stack b_fresh b_deep b_alike b_meets := by
  have nn : n' * n' ≤ 2304 := Nat.mul_le_mul hn' hn'
  have emul : nI n' * nI n' = nI (n' * n') := pk_mul n' n'
  have wh := re_wh hr hn hU
  have hT := hr.2.2.2.2.1.2.2.2.1
  have uT : ∀ x, xv_U a x → x < 48 := fun x hx => hx.1
  have iffm : ∀ (al : Nat → Int64) u v, xv_U a u → xv_U a v → (yr_m b_s n al u v ↔ rl_m (xv_L a) (yv_T b_s) (ys_h b_s n) (ys_f b_s n) al u v) := by
    intro al u v hu hv
    unfold yr_m rl_m
    rw [re_eqL hr hu hv]
  intro d
  induction d with
  | zero =>
    intro k more al hk hI hm hp
    refine ⟨more, al, hI, hm, fun z => ?_, Nat.le_refl _, fun z => Or.inl z, fun post J34 hj => ?_⟩
    · rw [show n' * n' = k from by omega]; exact hp z
    · unfold wY_relate_42
      rw [emul]
      simp (disch := omega) only [forall_eq, true_and, and_true, Nat.zero_add, nI_clamp, li_vin, nI_add, nI_eq, nI_leI, nI_ltI, li_0le, li_lt0, li_nn1, li_e0, not_true_eq_false, not_false_eq_true, false_implies, true_implies, forall_const, li_a0, li_b0, li_a1, li_b1, li_a2, li_b2, li_a3, li_b3, li_a7, li_b7, li_a8, li_b8, li_a16, li_b16, li_a48, li_b48, li_a584, li_b584, li_a572, li_b572, li_a96, li_b96, li_a144, li_b144, li_a192, li_b192, li_a240, li_b240, li_a336, li_b336, li_a384, li_b384, li_a432, li_b432, li_a480, li_b480, li_a488, li_b488, li_a496, li_b496, li_a504, li_b504, li_a512, li_b512, li_a520, li_b520, li_a524, li_b524, li_a528, li_b528, li_a536, li_b536, li_a544, li_b544, li_a552, li_b552, li_a560, li_b560, li_a568, li_b568, li_a573, li_b573, li_a585, li_b585, li_a633, li_b633, li_m3, li_n3, li_m4, li_n4, li_m48, li_n48, li_m50, li_n50, li_m585, li_n585, li_m633, li_n633, li_lt2, li_ge2, li_le2, li_gt2, li_lt1, li_ge1, li_le1, li_gt1, li_lt3, li_ge3, li_le3, li_gt3, li_lt4, li_ge4, li_le4, li_gt4, li_lt7, li_ge7, li_le7, li_gt7, li_lt8, li_ge8, li_le8, li_gt8, li_lt40, li_ge40, li_le40, li_gt40, li_lt240, li_ge240, li_le240, li_gt240, li_lt41, li_ge41, li_le41, li_gt41, li_lt48, li_ge48, li_le48, li_gt48, li_lt49, li_ge49, li_le49, li_gt49, li_lt60, li_ge60, li_le60, li_gt60, li_lt144, li_ge144, li_le144, li_gt144, li_lt145, li_ge145, li_le145, li_gt145, li_lt160, li_ge160, li_le160, li_gt160, li_lt336, li_ge336, li_le336, li_gt336, li_lt585, li_ge585, li_le585, li_gt585, li_lt633, li_ge633, li_le633, li_gt633, li_lt1000000, li_ge1000000, li_le1000000, li_gt1000000, li_lt2304, li_ge2304, li_le2304, li_gt2304, li_lt50, li_ge50, li_le50, li_gt50, li_le0, li_gt0]
      exact ⟨fun _ => hj, fun q => by omega⟩
  | succ d ih =>
    intro k more al hk hI hm hp
    obtain ⟨un, vn, n0, _⟩ := dv_k (n := n') (k := k) (by omega)
    have er : nI k - nI k / nI n' * nI n' = nI (k % n') := pk_rem (by omega) n0 (by omega)
    have ed : nI k / nI n' = nI (k / n') := pk_div (by omega) n0 (by omega)
    have en : (nI n' = 0) ↔ False := ⟨fun z => by have := (li_e0 (by omega)).mp z; omega, fun z => z.elim⟩
    generalize hu : k / n' = u at *
    generalize hv : k % n' = v at *
    have skip : (¬ (xv_U a u ∧ xv_U a v ∧ u < v ∧ by_b (al u) v = true ∧ ¬ rl_m (xv_L a) (yv_T b_s) (ys_h b_s n) (ys_f b_s n) al u v)) → (more = 0 → rl_p (xv_U a) (xv_L a) (yv_T b_s) (ys_h b_s n) (ys_f b_s n) al n' (k + 1)) := by
      intro z m0
      refine rl_p1 (hp m0) (fun u' v' a1 a2 a3 a4 a5 a6 => ?_)
      rw [hu] at a4
      rw [hv] at a5
      rw [a4, a5] at a3 a6 ⊢
      rw [a4] at a1
      rw [a5] at a2
      exact Classical.byContradiction (fun w => z ⟨a1, a2, a3, a6, w⟩)
    have same : (more = 0 → rl_p (xv_U a) (xv_L a) (yv_T b_s) (ys_h b_s n) (ys_f b_s n) al n' (k + 1)) → (∀ (post : SY → Prop) (J34 : Int32 → (Nat → Int32) → (Nat → Int32) → (Nat → Int32) → (Nat → Int32) → (Nat → Int32) → (Nat → Int32) → (Nat → Int32) → (Nat → Int32) → (Nat → Int64) → (Nat → Int64) → Prop), wY_relate_42 post J34 (nI n') g_trials g_drafted g_found (d + 1) more (nI (k + 1)) b_s b_saved b_draft b_who b_met b_stack b_fresh b_deep al b_meets → wY_relate_42 post J34 (nI n') g_trials g_drafted g_found (d + 1 + 1) more (nI k) b_s b_saved b_draft b_who b_met b_stack b_fresh b_deep al b_meets) → ∃ (more' : Int32) (al' : Nat → Int64), rl_I (xv_U a) (xv_L a) (yv_T b_s) (ys_h b_s n) (ys_f b_s n) al' ∧ (more' = 0 ∨ more' = 1) ∧ (more' = 0 → rl_p (xv_U a) (xv_L a) (yv_T b_s) (ys_h b_s n) (ys_f b_s n) al' n' (n' * n')) ∧ rl_c al' ≤ rl_c al ∧ (more' = 1 → more = 1 ∨ rl_c al' < rl_c al) ∧ ∀ (post : SY → Prop) (J34 : Int32 → (Nat → Int32) → (Nat → Int32) → (Nat → Int32) → (Nat → Int32) → (Nat → Int32) → (Nat → Int32) → (Nat → Int32) → (Nat → Int32) → (Nat → Int64) → (Nat → Int64) → Prop), J34 more' b_s b_saved b_draft b_who b_met b_stack b_fresh b_deep al' b_meets → wY_relate_42 post J34 (nI n') g_trials g_drafted g_found (d + 1 + 1) more (nI k) b_s b_saved b_draft b_who b_met b_stack b_fresh b_deep al b_meets := by
      intro z hw
      obtain ⟨more', al', a1, a2, a3, a4, a5, a6⟩ := ih (k + 1) more al (by omega) hI hm z
      exact ⟨more', al', a1, a2, a3, a4, a5, fun post J34 q => hw post J34 (a6 post J34 q)⟩
    by_cases q1 : v ≤ u
    · refine same (skip (fun z => by omega)) (fun post J34 hj => ?_)
      rw [wY_relate_42]
      dsimp only
      rw [er, emul, ed]
      simp (disch := omega) only [forall_eq, true_and, and_true, Nat.zero_add, nI_clamp, li_vin, nI_add, nI_eq, nI_leI, nI_ltI, li_0le, li_lt0, li_nn1, li_e0, not_true_eq_false, not_false_eq_true, false_implies, true_implies, forall_const, li_a0, li_b0, li_a1, li_b1, li_a2, li_b2, li_a3, li_b3, li_a7, li_b7, li_a8, li_b8, li_a16, li_b16, li_a48, li_b48, li_a584, li_b584, li_a572, li_b572, li_a96, li_b96, li_a144, li_b144, li_a192, li_b192, li_a240, li_b240, li_a336, li_b336, li_a384, li_b384, li_a432, li_b432, li_a480, li_b480, li_a488, li_b488, li_a496, li_b496, li_a504, li_b504, li_a512, li_b512, li_a520, li_b520, li_a524, li_b524, li_a528, li_b528, li_a536, li_b536, li_a544, li_b544, li_a552, li_b552, li_a560, li_b560, li_a568, li_b568, li_a573, li_b573, li_a585, li_b585, li_a633, li_b633, li_m3, li_n3, li_m4, li_n4, li_m48, li_n48, li_m50, li_n50, li_m585, li_n585, li_m633, li_n633, li_lt2, li_ge2, li_le2, li_gt2, li_lt1, li_ge1, li_le1, li_gt1, li_lt3, li_ge3, li_le3, li_gt3, li_lt4, li_ge4, li_le4, li_gt4, li_lt7, li_ge7, li_le7, li_gt7, li_lt8, li_ge8, li_le8, li_gt8, li_lt40, li_ge40, li_le40, li_gt40, li_lt240, li_ge240, li_le240, li_gt240, li_lt41, li_ge41, li_le41, li_gt41, li_lt48, li_ge48, li_le48, li_gt48, li_lt49, li_ge49, li_le49, li_gt49, li_lt60, li_ge60, li_le60, li_gt60, li_lt144, li_ge144, li_le144, li_gt144, li_lt145, li_ge145, li_le145, li_gt145, li_lt160, li_ge160, li_le160, li_gt160, li_lt336, li_ge336, li_le336, li_gt336, li_lt585, li_ge585, li_le585, li_gt585, li_lt633, li_ge633, li_le633, li_gt633, li_lt1000000, li_ge1000000, li_le1000000, li_gt1000000, li_lt2304, li_ge2304, li_le2304, li_gt2304, li_lt50, li_ge50, li_le50, li_gt50, li_le0, li_gt0, en]
      exact ⟨fun q => by omega, fun _ => ⟨fun _ => hj, fun z => absurd q1 z⟩⟩
    · by_cases q2 : by_b (al u) v = true
      · by_cases q3 : yr_m b_s n al u v
        · refine same (skip (fun z => z.2.2.2.2 ((iffm al u v z.1 z.2.1).mp q3))) (fun post J34 hj => ?_)
          rw [wY_relate_42]
          dsimp only
          rw [er, emul, ed]
          simp (disch := omega) only [forall_eq, true_and, and_true, Nat.zero_add, nI_clamp, li_vin, nI_add, nI_eq, nI_leI, nI_ltI, li_0le, li_lt0, li_nn1, li_e0, not_true_eq_false, not_false_eq_true, false_implies, true_implies, forall_const, li_a0, li_b0, li_a1, li_b1, li_a2, li_b2, li_a3, li_b3, li_a7, li_b7, li_a8, li_b8, li_a16, li_b16, li_a48, li_b48, li_a584, li_b584, li_a572, li_b572, li_a96, li_b96, li_a144, li_b144, li_a192, li_b192, li_a240, li_b240, li_a336, li_b336, li_a384, li_b384, li_a432, li_b432, li_a480, li_b480, li_a488, li_b488, li_a496, li_b496, li_a504, li_b504, li_a512, li_b512, li_a520, li_b520, li_a524, li_b524, li_a528, li_b528, li_a536, li_b536, li_a544, li_b544, li_a552, li_b552, li_a560, li_b560, li_a568, li_b568, li_a573, li_b573, li_a585, li_b585, li_a633, li_b633, li_m3, li_n3, li_m4, li_n4, li_m48, li_n48, li_m50, li_n50, li_m585, li_n585, li_m633, li_n633, li_lt2, li_ge2, li_le2, li_gt2, li_lt1, li_ge1, li_le1, li_gt1, li_lt3, li_ge3, li_le3, li_gt3, li_lt4, li_ge4, li_le4, li_gt4, li_lt7, li_ge7, li_le7, li_gt7, li_lt8, li_ge8, li_le8, li_gt8, li_lt40, li_ge40, li_le40, li_gt40, li_lt240, li_ge240, li_le240, li_gt240, li_lt41, li_ge41, li_le41, li_gt41, li_lt48, li_ge48, li_le48, li_gt48, li_lt49, li_ge49, li_le49, li_gt49, li_lt60, li_ge60, li_le60, li_gt60, li_lt144, li_ge144, li_le144, li_gt144, li_lt145, li_ge145, li_le145, li_gt145, li_lt160, li_ge160, li_le160, li_gt160, li_lt336, li_ge336, li_le336, li_gt336, li_lt585, li_ge585, li_le585, li_gt585, li_lt633, li_ge633, li_le633, li_gt633, li_lt1000000, li_ge1000000, li_le1000000, li_gt1000000, li_lt2304, li_ge2304, li_le2304, li_gt2304, li_lt50, li_ge50, li_le50, li_gt50, li_le0, li_gt0, en]
          refine ⟨fun q => by omega, fun _ => ⟨fun z => absurd z q1, fun _ => ?_⟩⟩
          refine yw_areAlike (g_trials := g_trials) (g_drafted := g_drafted) (g_found := g_found) (b_s := b_s) (b_saved := b_saved) (b_draft := b_draft) (b_who := b_who) (b_met := b_met) (b_stack := b_stack) (b_fresh := b_fresh) (b_deep := b_deep) (b_alike := al) (b_meets := b_meets) (by omega) (by omega) _ (fun _ => br_f (by decide) ?_) (fun z => absurd (z.symm.trans q2) (by decide))
          exact yw_mayBe (g_trials := g_trials) (g_drafted := g_drafted) (g_found := g_found) (b_s := b_s) (b_saved := b_saved) (b_draft := b_draft) (b_who := b_who) (b_met := b_met) (b_stack := b_stack) (b_fresh := b_fresh) (b_deep := b_deep) (b_alike := al) (b_meets := b_meets) hr.2.1 hn hw (by omega) (by omega) _ (fun _ => br_f (by decide) hj) (fun z => absurd q3 z)
        · have bits := rl_bits (al := al) (u := u) (v := v) (by omega) (by omega) (by omega)
          have hI' := rl_step (by omega) (by omega) uT wh hT hI (fun a1 a2 z => q3 ((iffm al u v a1 a2).mpr z)) bits
          have lt := rl_cnt (u := u) (v := v) (by omega) (by omega) q2 bits
          obtain ⟨more', al', a1, a2, a3, a4, a5, a6⟩ := ih (k + 1) 1 _ (by omega) hI' (Or.inr rfl) (fun z => absurd z (by decide))
          refine ⟨more', al', a1, a2, a3, Nat.le_of_lt (Nat.lt_of_le_of_lt a4 lt), fun _ => Or.inr (Nat.lt_of_le_of_lt a4 lt), fun post J34 hj => ?_⟩
          rw [wY_relate_42]
          dsimp only
          rw [er, emul, ed]
          simp (disch := omega) only [forall_eq, true_and, and_true, Nat.zero_add, nI_clamp, li_vin, nI_add, nI_eq, nI_leI, nI_ltI, li_0le, li_lt0, li_nn1, li_e0, not_true_eq_false, not_false_eq_true, false_implies, true_implies, forall_const, li_a0, li_b0, li_a1, li_b1, li_a2, li_b2, li_a3, li_b3, li_a7, li_b7, li_a8, li_b8, li_a16, li_b16, li_a48, li_b48, li_a584, li_b584, li_a572, li_b572, li_a96, li_b96, li_a144, li_b144, li_a192, li_b192, li_a240, li_b240, li_a336, li_b336, li_a384, li_b384, li_a432, li_b432, li_a480, li_b480, li_a488, li_b488, li_a496, li_b496, li_a504, li_b504, li_a512, li_b512, li_a520, li_b520, li_a524, li_b524, li_a528, li_b528, li_a536, li_b536, li_a544, li_b544, li_a552, li_b552, li_a560, li_b560, li_a568, li_b568, li_a573, li_b573, li_a585, li_b585, li_a633, li_b633, li_m3, li_n3, li_m4, li_n4, li_m48, li_n48, li_m50, li_n50, li_m585, li_n585, li_m633, li_n633, li_lt2, li_ge2, li_le2, li_gt2, li_lt1, li_ge1, li_le1, li_gt1, li_lt3, li_ge3, li_le3, li_gt3, li_lt4, li_ge4, li_le4, li_gt4, li_lt7, li_ge7, li_le7, li_gt7, li_lt8, li_ge8, li_le8, li_gt8, li_lt40, li_ge40, li_le40, li_gt40, li_lt240, li_ge240, li_le240, li_gt240, li_lt41, li_ge41, li_le41, li_gt41, li_lt48, li_ge48, li_le48, li_gt48, li_lt49, li_ge49, li_le49, li_gt49, li_lt60, li_ge60, li_le60, li_gt60, li_lt144, li_ge144, li_le144, li_gt144, li_lt145, li_ge145, li_le145, li_gt145, li_lt160, li_ge160, li_le160, li_gt160, li_lt336, li_ge336, li_le336, li_gt336, li_lt585, li_ge585, li_le585, li_gt585, li_lt633, li_ge633, li_le633, li_gt633, li_lt1000000, li_ge1000000, li_le1000000, li_gt1000000, li_lt2304, li_ge2304, li_le2304, li_gt2304, li_lt50, li_ge50, li_le50, li_gt50, li_le0, li_gt0, en]
          refine ⟨fun q => by omega, fun _ => ⟨fun z => absurd z q1, fun _ => ?_⟩⟩
          refine yw_areAlike (g_trials := g_trials) (g_drafted := g_drafted) (g_found := g_found) (b_s := b_s) (b_saved := b_saved) (b_draft := b_draft) (b_who := b_who) (b_met := b_met) (b_stack := b_stack) (b_fresh := b_fresh) (b_deep := b_deep) (b_alike := al) (b_meets := b_meets) (by omega) (by omega) _ (fun _ => br_f (by decide) ?_) (fun z => absurd (z.symm.trans q2) (by decide))
          refine yw_mayBe (g_trials := g_trials) (g_drafted := g_drafted) (g_found := g_found) (b_s := b_s) (b_saved := b_saved) (b_draft := b_draft) (b_who := b_who) (b_met := b_met) (b_stack := b_stack) (b_fresh := b_fresh) (b_deep := b_deep) (b_alike := al) (b_meets := b_meets) hr.2.1 hn hw (by omega) (by omega) _ (fun z => absurd z q3) (fun _ => br_t rfl ?_)
          exact a6 post J34 hj
      · refine same (skip (fun z => q2 z.2.2.2.1)) (fun post J34 hj => ?_)
        rw [wY_relate_42]
        dsimp only
        rw [er, emul, ed]
        simp (disch := omega) only [forall_eq, true_and, and_true, Nat.zero_add, nI_clamp, li_vin, nI_add, nI_eq, nI_leI, nI_ltI, li_0le, li_lt0, li_nn1, li_e0, not_true_eq_false, not_false_eq_true, false_implies, true_implies, forall_const, li_a0, li_b0, li_a1, li_b1, li_a2, li_b2, li_a3, li_b3, li_a7, li_b7, li_a8, li_b8, li_a16, li_b16, li_a48, li_b48, li_a584, li_b584, li_a572, li_b572, li_a96, li_b96, li_a144, li_b144, li_a192, li_b192, li_a240, li_b240, li_a336, li_b336, li_a384, li_b384, li_a432, li_b432, li_a480, li_b480, li_a488, li_b488, li_a496, li_b496, li_a504, li_b504, li_a512, li_b512, li_a520, li_b520, li_a524, li_b524, li_a528, li_b528, li_a536, li_b536, li_a544, li_b544, li_a552, li_b552, li_a560, li_b560, li_a568, li_b568, li_a573, li_b573, li_a585, li_b585, li_a633, li_b633, li_m3, li_n3, li_m4, li_n4, li_m48, li_n48, li_m50, li_n50, li_m585, li_n585, li_m633, li_n633, li_lt2, li_ge2, li_le2, li_gt2, li_lt1, li_ge1, li_le1, li_gt1, li_lt3, li_ge3, li_le3, li_gt3, li_lt4, li_ge4, li_le4, li_gt4, li_lt7, li_ge7, li_le7, li_gt7, li_lt8, li_ge8, li_le8, li_gt8, li_lt40, li_ge40, li_le40, li_gt40, li_lt240, li_ge240, li_le240, li_gt240, li_lt41, li_ge41, li_le41, li_gt41, li_lt48, li_ge48, li_le48, li_gt48, li_lt49, li_ge49, li_le49, li_gt49, li_lt60, li_ge60, li_le60, li_gt60, li_lt144, li_ge144, li_le144, li_gt144, li_lt145, li_ge145, li_le145, li_gt145, li_lt160, li_ge160, li_le160, li_gt160, li_lt336, li_ge336, li_le336, li_gt336, li_lt585, li_ge585, li_le585, li_gt585, li_lt633, li_ge633, li_le633, li_gt633, li_lt1000000, li_ge1000000, li_le1000000, li_gt1000000, li_lt2304, li_ge2304, li_le2304, li_gt2304, li_lt50, li_ge50, li_le50, li_gt50, li_le0, li_gt0, en]
        refine ⟨fun q => by omega, fun _ => ⟨fun z => absurd z q1, fun _ => ?_⟩⟩
        exact yw_areAlike (g_trials := g_trials) (g_drafted := g_drafted) (g_found := g_found) (b_s := b_s) (b_saved := b_saved) (b_draft := b_draft) (b_who := b_who) (b_met := b_met) (b_stack := b_stack) (b_fresh := b_fresh) (b_deep := b_deep) (b_alike := al) (b_meets := b_meets) (by omega) (by omega) _ (fun z => absurd z q2) (fun _ => br_t rfl hj)
