theorem i_vc_number {k : Nat} {u : SX} {v : SY} (I : i_Rel k u v) (hk : k + 4 ≤ 2048) (v1 : Int32) (v2 : Int32) : wpX_number (fun r u' => wpY_number (fun r' v' => r' = r ∧ i_Rel (k + 4) u' v') v v1 v2) u v1 v2 := by
  obtain ⟨f_trials, f_drafted, f_pairs, f_metCount, f_meetingCount, a_held, a_saved, a_draft, a_toldBefore, a_pairX, a_pairY, a_stack, a_met, a_metAs, a_copies, a_meetings, a_wasMeeting, a_firstMet, a_depths, a_isKept⟩ := u
  obtain ⟨g_trials, g_drafted, g_found, b_s, b_saved, b_draft, b_who, b_met, b_stack, b_fresh, b_deep, b_alike, b_meets⟩ := v
  have C := re_A_C I
  have P := C.1
  unfold wpX_number
  by_cases hx : ∃ x, xv_U a_held x ∧ v1 = nI x
  · obtain ⟨x, ux, rfl⟩ := hx
    have x48 := ux.1
    obtain ⟨r, a', e1, e2⟩ := xw_tellNumber (f_trials := f_trials) (f_drafted := f_drafted) (f_pairs := f_pairs) (f_metCount := f_metCount) (f_meetingCount := f_meetingCount) (a_held := a_held) (a_saved := a_saved) (a_draft := a_draft) (a_toldBefore := a_toldBefore) (a_pairX := a_pairX) (a_pairY := a_pairY) (a_stack := a_stack) (a_met := a_met) (a_metAs := a_metAs) (a_copies := a_copies) (a_meetings := a_meetings) (a_wasMeeting := a_wasMeeting) (a_firstMet := a_firstMet) (a_depths := a_depths) (a_isKept := a_isKept) (re_G P) (v := v2) ux
    have o := tf_all (g_trials := g_trials) (g_drafted := g_drafted) (g_found := g_found) (b_s := b_s) (b_saved := b_saved) (b_draft := b_draft) (b_who := b_who) (b_met := b_met) (b_stack := b_stack) (b_fresh := b_fresh) (b_deep := b_deep) (b_alike := b_alike) (b_meets := b_meets) (kind := 1) (num := v2) (label := 0) (count := 0) P ux (Or.inl ⟨rfl, rfl, rfl, rfl, rfl⟩) (fun k hk => absurd hk (by rw [show ma_ct ((1 : Int32), v2).1 = 0 from ma_ct_1]; omega)) e1
    refine xw_inUse_t (f_trials := f_trials) (f_drafted := f_drafted) (f_pairs := f_pairs) (f_metCount := f_metCount) (f_meetingCount := f_meetingCount) (a_held := a_held) (a_saved := a_saved) (a_draft := a_draft) (a_toldBefore := a_toldBefore) (a_pairX := a_pairX) (a_pairY := a_pairY) (a_stack := a_stack) (a_met := a_met) (a_metAs := a_metAs) (a_copies := a_copies) (a_meetings := a_meetings) (a_wasMeeting := a_wasMeeting) (a_firstMet := a_firstMet) (a_depths := a_depths) (a_isKept := a_isKept) ux _ (br_f (by decide) (e2 _ ?_))
    rcases o with ⟨o1, o2, s', f1, f2⟩ | ⟨o1, s', f1, f2⟩
    · subst o1
      rw [o2]
      obtain ⟨m2, tb2, px2, py2, g2⟩ := xs_idle (f_trials := f_trials) (f_drafted := f_drafted) (f_pairs := f_pairs) (f_metCount := f_metCount) (f_meetingCount := f_meetingCount) (a_held := a_held) (a_saved := a_saved) (a_draft := a_draft) (a_toldBefore := a_toldBefore) (a_pairX := a_pairX) (a_pairY := a_pairY) (a_stack := a_stack) (a_met := a_met) (a_metAs := a_metAs) (a_copies := a_copies) (a_meetings := a_meetings) (a_wasMeeting := a_wasMeeting) (a_firstMet := a_firstMet) (a_depths := a_depths) (a_isKept := a_isKept) C
      refine g2 _ ?_
      unfold wpY_number
      refine yw_isUsed_t (g_trials := g_trials) (g_drafted := g_drafted) (g_found := g_found) (b_s := b_s) (b_saved := b_saved) (b_draft := b_draft) (b_who := b_who) (b_met := b_met) (b_stack := b_stack) (b_fresh := b_fresh) (b_deep := b_deep) (b_alike := b_alike) (b_meets := b_meets) (re_pos P ux) _ (br_f (by decide) (f2 _ ⟨rfl, ?_⟩))
      exact re_A_row (k := k) I (re_C_mono (by omega) ⟨tf_P P x48 f1, C.2⟩)
    · subst o1
      obtain ⟨m2, a2, tb2, px2, py2, s2, wh, al, g1, g2, g3⟩ := st_settle (f_trials := f_trials) (f_drafted := f_drafted) (f_pairs := f_pairs) (f_metCount := f_metCount) (f_meetingCount := f_meetingCount) (a_held := a') (a_saved := a_saved) (a_draft := a_draft) (a_toldBefore := a_toldBefore) (a_pairX := a_pairX) (a_pairY := a_pairY) (a_stack := a_stack) (a_met := a_met) (a_metAs := a_metAs) (a_copies := a_copies) (a_meetings := a_meetings) (a_wasMeeting := a_wasMeeting) (a_firstMet := a_firstMet) (a_depths := a_depths) (a_isKept := a_isKept) (g_trials := g_trials) (g_drafted := g_drafted) (g_found := g_found) (b_s := s') (b_saved := b_saved) (b_draft := b_draft) (b_who := b_who) (b_met := b_met) (b_stack := b_stack) (b_fresh := b_fresh) (b_deep := b_deep) (b_alike := b_alike) (b_meets := b_meets) (by omega) f1
      refine g2 _ ?_
      unfold wpY_number
      refine yw_isUsed_t (g_trials := g_trials) (g_drafted := g_drafted) (g_found := g_found) (b_s := b_s) (b_saved := b_saved) (b_draft := b_draft) (b_who := b_who) (b_met := b_met) (b_stack := b_stack) (b_fresh := b_fresh) (b_deep := b_deep) (b_alike := b_alike) (b_meets := b_meets) (re_pos P ux) _ (br_f (by decide) (f2 _ (g3 _ ⟨rfl, ?_⟩)))
      exact re_A_row (k := k) I (re_C_mono (by omega) g1)
  · refine xw_inUse_f (f_trials := f_trials) (f_drafted := f_drafted) (f_pairs := f_pairs) (f_metCount := f_metCount) (f_meetingCount := f_meetingCount) (a_held := a_held) (a_saved := a_saved) (a_draft := a_draft) (a_toldBefore := a_toldBefore) (a_pairX := a_pairX) (a_pairY := a_pairY) (a_stack := a_stack) (a_met := a_met) (a_metAs := a_metAs) (a_copies := a_copies) (a_meetings := a_meetings) (a_wasMeeting := a_wasMeeting) (a_firstMet := a_firstMet) (a_depths := a_depths) (a_isKept := a_isKept) hx _ (br_t rfl ?_)
    unfold wpY_number
    exact yw_isUsed_f (g_trials := g_trials) (g_drafted := g_drafted) (g_found := g_found) (b_s := b_s) (b_saved := b_saved) (b_draft := b_draft) (b_who := b_who) (b_met := b_met) (b_stack := b_stack) (b_fresh := b_fresh) (b_deep := b_deep) (b_alike := b_alike) (b_meets := b_meets) (re_neg P hx) _ (br_t rfl ⟨rfl, re_A_up (k := k) (by omega) I⟩)
theorem xw_draftInUse {f_trials f_drafted f_pairs f_metCount f_meetingCount : Int32} {a_held a_saved a_draft a_toldBefore a_pairX a_pairY a_stack a_met a_metAs a_copies a_meetings a_wasMeeting a_firstMet a_depths a_isKept : Nat → Int32} {d : Nat} {q : Nat → Nat} (hd : d ≤ 3) (eD : f_drafted = nI d) (hq : ∀ i, i < 3 → q i < 48 ∧ a_draft i = nI (q i)) : ∀ post : Int32 → Prop, ((∀ i, i < d → xv_U a_held (q i)) → post 1) → ((¬ ∀ i, i < d → xv_U a_held (q i)) → post 0) → wpX_draftInUse post (f_trials, f_drafted, f_pairs, f_metCount, f_meetingCount, a_held, a_saved, a_draft, a_toldBefore, a_pairX, a_pairY, a_stack, a_met, a_metAs, a_copies, a_meetings, a_wasMeeting, a_firstMet, a_depths, a_isKept) := by
  have lp : ∀ m j, j + m = 3 → (∀ i, i < j → i < d → xv_U a_held (q i)) → ∀ post : Int32 → Prop, ((∀ i, i < d → xv_U a_held (q i)) → post 1) → ((¬ ∀ i, i < d → xv_U a_held (q i)) → post 0) → wX_draftInUse_2 post f_trials f_drafted f_pairs f_metCount f_meetingCount a_held a_saved a_draft a_toldBefore a_pairX a_pairY a_stack a_met a_metAs a_copies a_meetings a_wasMeeting a_firstMet a_depths a_isKept (m + 1) (nI j) := by
    intro m
    induction m with
    | zero =>
      intro j hj h post h1 h0
      unfold wX_draftInUse_2
      simp (disch := omega) only [forall_eq, true_and, and_true, Nat.zero_add, nI_clamp, li_vin, nI_add, nI_eq, nI_leI, nI_ltI, li_0le, li_lt0, li_nn1, li_e0, not_true_eq_false, not_false_eq_true, false_implies, true_implies, forall_const, li_a0, li_b0, li_a1, li_b1, li_a2, li_b2, li_a3, li_b3, li_a7, li_b7, li_a8, li_b8, li_a16, li_b16, li_a48, li_b48, li_a584, li_b584, li_a572, li_b572, li_a96, li_b96, li_a144, li_b144, li_a192, li_b192, li_a240, li_b240, li_a336, li_b336, li_a384, li_b384, li_a432, li_b432, li_a480, li_b480, li_a488, li_b488, li_a496, li_b496, li_a504, li_b504, li_a512, li_b512, li_a520, li_b520, li_a524, li_b524, li_a528, li_b528, li_a536, li_b536, li_a544, li_b544, li_a552, li_b552, li_a560, li_b560, li_a568, li_b568, li_a573, li_b573, li_a585, li_b585, li_a633, li_b633, li_m3, li_n3, li_m4, li_n4, li_m48, li_n48, li_m50, li_n50, li_m585, li_n585, li_m633, li_n633, li_lt2, li_ge2, li_le2, li_gt2, li_lt1, li_ge1, li_le1, li_gt1, li_lt3, li_ge3, li_le3, li_gt3, li_lt4, li_ge4, li_le4, li_gt4, li_lt7, li_ge7, li_le7, li_gt7, li_lt8, li_ge8, li_le8, li_gt8, li_lt40, li_ge40, li_le40, li_gt40, li_lt240, li_ge240, li_le240, li_gt240, li_lt41, li_ge41, li_le41, li_gt41, li_lt48, li_ge48, li_le48, li_gt48, li_lt49, li_ge49, li_le49, li_gt49, li_lt60, li_ge60, li_le60, li_gt60, li_lt144, li_ge144, li_le144, li_gt144, li_lt145, li_ge145, li_le145, li_gt145, li_lt160, li_ge160, li_le160, li_gt160, li_lt336, li_ge336, li_le336, li_gt336, li_lt585, li_ge585, li_le585, li_gt585, li_lt633, li_ge633, li_le633, li_gt633, li_lt1000000, li_ge1000000, li_le1000000, li_gt1000000, li_lt2304, li_ge2304, li_le2304, li_gt2304, li_lt50, li_ge50, li_le50, li_gt50, li_le0, li_gt0]
      exact ⟨fun _ => h1 (fun i hi => h i (by omega) hi), fun z => by omega⟩
    | succ m ih =>
      intro j hj h post h1 h0
      rw [wX_draftInUse_2]
      dsimp only
      obtain ⟨q1, q2⟩ := hq j (by omega)
      simp (disch := omega) only [forall_eq, true_and, and_true, Nat.zero_add, nI_clamp, li_vin, nI_add, nI_eq, nI_leI, nI_ltI, li_0le, li_lt0, li_nn1, li_e0, not_true_eq_false, not_false_eq_true, false_implies, true_implies, forall_const, li_a0, li_b0, li_a1, li_b1, li_a2, li_b2, li_a3, li_b3, li_a7, li_b7, li_a8, li_b8, li_a16, li_b16, li_a48, li_b48, li_a584, li_b584, li_a572, li_b572, li_a96, li_b96, li_a144, li_b144, li_a192, li_b192, li_a240, li_b240, li_a336, li_b336, li_a384, li_b384, li_a432, li_b432, li_a480, li_b480, li_a488, li_b488, li_a496, li_b496, li_a504, li_b504, li_a512, li_b512, li_a520, li_b520, li_a524, li_b524, li_a528, li_b528, li_a536, li_b536, li_a544, li_b544, li_a552, li_b552, li_a560, li_b560, li_a568, li_b568, li_a573, li_b573, li_a585, li_b585, li_a633, li_b633, li_m3, li_n3, li_m4, li_n4, li_m48, li_n48, li_m50, li_n50, li_m585, li_n585, li_m633, li_n633, li_lt2, li_ge2, li_le2, li_gt2, li_lt1, li_ge1, li_le1, li_gt1, li_lt3, li_ge3, li_le3, li_gt3, li_lt4, li_ge4, li_le4, li_gt4, li_lt7, li_ge7, li_le7, li_gt7, li_lt8, li_ge8, li_le8, li_gt8, li_lt40, li_ge40, li_le40, li_gt40, li_lt240, li_ge240, li_le240, li_gt240, li_lt41, li_ge41, li_le41, li_gt41, li_lt48, li_ge48, li_le48, li_gt48, li_lt49, li_ge49, li_le49, li_gt49, li_lt60, li_ge60, li_le60, li_gt60, li_lt144, li_ge144, li_le144, li_gt144, li_lt145, li_ge145, li_le145, li_gt145, li_lt160, li_ge160, li_le160, li_gt160, li_lt336, li_ge336, li_le336, li_gt336, li_lt585, li_ge585, li_le585, li_gt585, li_lt633, li_ge633, li_le633, li_gt633, li_lt1000000, li_ge1000000, li_le1000000, li_gt1000000, li_lt2304, li_ge2304, li_le2304, li_gt2304, li_lt50, li_ge50, li_le50, li_gt50, li_le0, li_gt0, q2]
      refine ⟨fun z => by omega, fun _ => br_c (fun z => h1 (fun i hi => h i ?_ hi)) (fun z => ?_)⟩
      · rw [eD, nI_leI (by omega) (by omega)] at z
        omega
      rw [eD, nI_leI (by omega) (by omega)] at z
      by_cases uj : xv_U a_held (q j)
      · refine xw_inUse_t (f_trials := f_trials) (f_drafted := f_drafted) (f_pairs := f_pairs) (f_metCount := f_metCount) (f_meetingCount := f_meetingCount) (a_held := a_held) (a_saved := a_saved) (a_draft := a_draft) (a_toldBefore := a_toldBefore) (a_pairX := a_pairX) (a_pairY := a_pairY) (a_stack := a_stack) (a_met := a_met) (a_metAs := a_metAs) (a_copies := a_copies) (a_meetings := a_meetings) (a_wasMeeting := a_wasMeeting) (a_firstMet := a_firstMet) (a_depths := a_depths) (a_isKept := a_isKept) uj _ (br_f (by decide) ?_)
        refine ih (j + 1) (by omega) (fun i hi hid => ?_) post h1 h0
        by_cases w : i = j
        · rw [w]; exact uj
        · exact h i (by omega) hid
      · refine xw_inUse_f (f_trials := f_trials) (f_drafted := f_drafted) (f_pairs := f_pairs) (f_metCount := f_metCount) (f_meetingCount := f_meetingCount) (a_held := a_held) (a_saved := a_saved) (a_draft := a_draft) (a_toldBefore := a_toldBefore) (a_pairX := a_pairX) (a_pairY := a_pairY) (a_stack := a_stack) (a_met := a_met) (a_metAs := a_metAs) (a_copies := a_copies) (a_meetings := a_meetings) (a_wasMeeting := a_wasMeeting) (a_firstMet := a_firstMet) (a_depths := a_depths) (a_isKept := a_isKept) (fun ⟨y, uy, ey⟩ => ?_) _ (br_t rfl (h0 (fun w => uj (w j (by omega)))))
        have : q j = y := (nI_eq (by omega) (by have := uy.1; omega)).mp ey
        rw [this] at uj
        exact uj uy
  intro post h1 h0
  unfold wpX_draftInUse
  exact ⟨4, lp 3 0 rfl (fun i hi => by omega) post h1 h0⟩
theorem yw_make_22 {g_trials g_drafted g_found : Int32} {b_s b_saved b_draft b_who b_met b_stack b_fresh b_deep : Nat → Int32} {b_alike b_meets : Nat → Int64} {d : Nat} {q : Nat → Nat} {x1 x2 : Int32} (hd : d ≤ 3) (eD : g_drafted = nI d) (hq : ∀ i, i < 3 → q i < 48 ∧ b_draft i = nI (q i)) : ∀ m j, j + m = d → (∀ i, i < j → yv_U b_s (q i)) → ∀ post : Int32 → SY → Prop, ((∀ i, i < d → yv_U b_s (q i)) → wpY_tellOf (fun r u => match u with | (g_trials, g_drafted, g_found, b_s, b_saved, b_draft, b_who, b_met, b_stack, b_fresh, b_deep, b_alike, b_meets) => post r (g_trials, g_drafted, g_found, b_s, b_saved, b_draft, b_who, b_met, b_stack, b_fresh, b_deep, b_alike, b_meets)) (g_trials, 0, g_found, b_s, b_saved, b_draft, b_who, b_met, b_stack, b_fresh, b_deep, b_alike, b_meets) x1 2 0 x2 (nI d)) → ((¬ ∀ i, i < d → yv_U b_s (q i)) → post (-1) (g_trials, g_drafted, g_found, b_s, b_saved, b_draft, b_who, b_met, b_stack, b_fresh, b_deep, b_alike, b_meets)) → wY_make_22 post x1 x2 g_trials g_drafted g_found b_s b_saved b_draft b_who b_met b_stack b_fresh b_deep b_alike b_meets (m + 1) (nI j) := by
  intro m
  induction m with
  | zero =>
    intro j hj h post h1 h0
    unfold wY_make_22
    simp (disch := omega) only [forall_eq, true_and, and_true, Nat.zero_add, nI_clamp, li_vin, nI_add, nI_eq, nI_leI, nI_ltI, li_0le, li_lt0, li_nn1, li_e0, not_true_eq_false, not_false_eq_true, false_implies, true_implies, forall_const, li_a0, li_b0, li_a1, li_b1, li_a2, li_b2, li_a3, li_b3, li_a7, li_b7, li_a8, li_b8, li_a16, li_b16, li_a48, li_b48, li_a584, li_b584, li_a572, li_b572, li_a96, li_b96, li_a144, li_b144, li_a192, li_b192, li_a240, li_b240, li_a336, li_b336, li_a384, li_b384, li_a432, li_b432, li_a480, li_b480, li_a488, li_b488, li_a496, li_b496, li_a504, li_b504, li_a512, li_b512, li_a520, li_b520, li_a524, li_b524, li_a528, li_b528, li_a536, li_b536, li_a544, li_b544, li_a552, li_b552, li_a560, li_b560, li_a568, li_b568, li_a573, li_b573, li_a585, li_b585, li_a633, li_b633, li_m3, li_n3, li_m4, li_n4, li_m48, li_n48, li_m50, li_n50, li_m585, li_n585, li_m633, li_n633, li_lt2, li_ge2, li_le2, li_gt2, li_lt1, li_ge1, li_le1, li_gt1, li_lt3, li_ge3, li_le3, li_gt3, li_lt4, li_ge4, li_le4, li_gt4, li_lt7, li_ge7, li_le7, li_gt7, li_lt8, li_ge8, li_le8, li_gt8, li_lt40, li_ge40, li_le40, li_gt40, li_lt240, li_ge240, li_le240, li_gt240, li_lt41, li_ge41, li_le41, li_gt41, li_lt48, li_ge48, li_le48, li_gt48, li_lt49, li_ge49, li_le49, li_gt49, li_lt60, li_ge60, li_le60, li_gt60, li_lt144, li_ge144, li_le144, li_gt144, li_lt145, li_ge145, li_le145, li_gt145, li_lt160, li_ge160, li_le160, li_gt160, li_lt336, li_ge336, li_le336, li_gt336, li_lt585, li_ge585, li_le585, li_gt585, li_lt633, li_ge633, li_le633, li_gt633, li_lt1000000, li_ge1000000, li_le1000000, li_gt1000000, li_lt2304, li_ge2304, li_le2304, li_gt2304, li_lt50, li_ge50, li_le50, li_gt50, li_le0, li_gt0, eD]
    exact ⟨fun _ => h1 (fun i hi => h i (by omega)), fun z => by omega⟩
  | succ m ih =>
    intro j hj h post h1 h0
    rw [wY_make_22]
    dsimp only
    obtain ⟨q1, q2⟩ := hq j (by omega)
    have e1 : ¬ g_drafted ≤ nI j := by
      rw [eD]
      exact fun z => by have := (nI_leI (by omega) (by omega)).mp z; omega
    refine br_f e1 ?_
    simp (disch := omega) only [forall_eq, true_and, and_true, Nat.zero_add, nI_clamp, li_vin, nI_add, nI_eq, nI_leI, nI_ltI, li_0le, li_lt0, li_nn1, li_e0, not_true_eq_false, not_false_eq_true, false_implies, true_implies, forall_const, li_a0, li_b0, li_a1, li_b1, li_a2, li_b2, li_a3, li_b3, li_a7, li_b7, li_a8, li_b8, li_a16, li_b16, li_a48, li_b48, li_a584, li_b584, li_a572, li_b572, li_a96, li_b96, li_a144, li_b144, li_a192, li_b192, li_a240, li_b240, li_a336, li_b336, li_a384, li_b384, li_a432, li_b432, li_a480, li_b480, li_a488, li_b488, li_a496, li_b496, li_a504, li_b504, li_a512, li_b512, li_a520, li_b520, li_a524, li_b524, li_a528, li_b528, li_a536, li_b536, li_a544, li_b544, li_a552, li_b552, li_a560, li_b560, li_a568, li_b568, li_a573, li_b573, li_a585, li_b585, li_a633, li_b633, li_m3, li_n3, li_m4, li_n4, li_m48, li_n48, li_m50, li_n50, li_m585, li_n585, li_m633, li_n633, li_lt2, li_ge2, li_le2, li_gt2, li_lt1, li_ge1, li_le1, li_gt1, li_lt3, li_ge3, li_le3, li_gt3, li_lt4, li_ge4, li_le4, li_gt4, li_lt7, li_ge7, li_le7, li_gt7, li_lt8, li_ge8, li_le8, li_gt8, li_lt40, li_ge40, li_le40, li_gt40, li_lt240, li_ge240, li_le240, li_gt240, li_lt41, li_ge41, li_le41, li_gt41, li_lt48, li_ge48, li_le48, li_gt48, li_lt49, li_ge49, li_le49, li_gt49, li_lt60, li_ge60, li_le60, li_gt60, li_lt144, li_ge144, li_le144, li_gt144, li_lt145, li_ge145, li_le145, li_gt145, li_lt160, li_ge160, li_le160, li_gt160, li_lt336, li_ge336, li_le336, li_gt336, li_lt585, li_ge585, li_le585, li_gt585, li_lt633, li_ge633, li_le633, li_gt633, li_lt1000000, li_ge1000000, li_le1000000, li_gt1000000, li_lt2304, li_ge2304, li_le2304, li_gt2304, li_lt50, li_ge50, li_le50, li_gt50, li_le0, li_gt0, q2]
    by_cases uj : yv_U b_s (q j)
    · refine yw_isUsed_t (g_trials := g_trials) (g_drafted := g_drafted) (g_found := g_found) (b_s := b_s) (b_saved := b_saved) (b_draft := b_draft) (b_who := b_who) (b_met := b_met) (b_stack := b_stack) (b_fresh := b_fresh) (b_deep := b_deep) (b_alike := b_alike) (b_meets := b_meets) uj _ (br_f (by decide) ?_)
      exact ih (j + 1) (by omega) (lt_s h uj) post h1 h0
    · refine yw_isUsed_f (g_trials := g_trials) (g_drafted := g_drafted) (g_found := g_found) (b_s := b_s) (b_saved := b_saved) (b_draft := b_draft) (b_who := b_who) (b_met := b_met) (b_stack := b_stack) (b_fresh := b_fresh) (b_deep := b_deep) (b_alike := b_alike) (b_meets := b_meets) (fun ⟨y, uy, ey⟩ => ?_) _ (br_t rfl (h0 (fun w => uj (w j (by omega)))))
      have : q j = y := (nI_eq (by omega) (by have := uy.1; omega)).mp ey
      rw [this] at uj
      exact uj uy
theorem i_vc_make {k : Nat} {u : SX} {v : SY} (I : i_Rel k u v) (hk : k + 4 ≤ 2048) (v1 : Int32) (v2 : Int32) : wpX_make (fun r u' => wpY_make (fun r' v' => r' = r ∧ i_Rel (k + 4) u' v') v v1 v2) u v1 v2 := by
  obtain ⟨f_trials, f_drafted, f_pairs, f_metCount, f_meetingCount, a_held, a_saved, a_draft, a_toldBefore, a_pairX, a_pairY, a_stack, a_met, a_metAs, a_copies, a_meetings, a_wasMeeting, a_firstMet, a_depths, a_isKept⟩ := u
  obtain ⟨g_trials, g_drafted, g_found, b_s, b_saved, b_draft, b_who, b_met, b_stack, b_fresh, b_deep, b_alike, b_meets⟩ := v
  have C := re_A_C I
  have P := C.1
  have R := re_A_up (k := k) (k' := k + 4) (by omega) I
  obtain ⟨t, d, t3, d3, eT, eT', eD, eD', hDr, hC, hS⟩ := id I
  have yU := re_U P
  have hq : ∀ i, i < 3 → (a_draft i).toNatClampNeg < 48 ∧ a_draft i = nI (a_draft i).toNatClampNeg := by
    intro i hi
    obtain ⟨_, q, q1, q2⟩ := hDr i hi
    rw [q2, nI_clamp (by omega)]
    exact ⟨q1, rfl⟩
  generalize hqq : (fun i => (a_draft i).toNatClampNeg) = q at *
  have hq' : ∀ i, i < 3 → q i < 48 ∧ a_draft i = nI (q i) := by
    intro i hi
    rw [← hqq]; exact hq i hi
  have hqY : ∀ i, i < 3 → q i < 48 ∧ b_draft i = nI (q i) := by
    intro i hi
    obtain ⟨z1, z2⟩ := hq' i hi
    rw [← (hDr i hi).1]; exact ⟨z1, z2⟩
  unfold wpX_make
  by_cases hx : ∃ x, xv_U a_held x ∧ v1 = nI x
  · obtain ⟨x, ux, rfl⟩ := hx
    have x48 := ux.1
    refine xw_inUse_t (f_trials := f_trials) (f_drafted := f_drafted) (f_pairs := f_pairs) (f_metCount := f_metCount) (f_meetingCount := f_meetingCount) (a_held := a_held) (a_saved := a_saved) (a_draft := a_draft) (a_toldBefore := a_toldBefore) (a_pairX := a_pairX) (a_pairY := a_pairY) (a_stack := a_stack) (a_met := a_met) (a_metAs := a_metAs) (a_copies := a_copies) (a_meetings := a_meetings) (a_wasMeeting := a_wasMeeting) (a_firstMet := a_firstMet) (a_depths := a_depths) (a_isKept := a_isKept) ux _ (br_f (by decide) ?_)
    by_cases h0 : v2 < 0
    · refine br_t h0 ?_
      unfold wpY_make
      exact yw_isUsed_t (g_trials := g_trials) (g_drafted := g_drafted) (g_found := g_found) (b_s := b_s) (b_saved := b_saved) (b_draft := b_draft) (b_who := b_who) (b_met := b_met) (b_stack := b_stack) (b_fresh := b_fresh) (b_deep := b_deep) (b_alike := b_alike) (b_meets := b_meets) (re_pos P ux) _ (br_f (by decide) (br_t h0 ⟨rfl, R⟩))
    · obtain ⟨l, hl, rfl⟩ := nI_of h0
      refine br_f h0 ?_
      by_cases h8 : 8 ≤ l
      · refine br_t ((li_ge8 (by omega)).mpr h8) ?_
        unfold wpY_make
        exact yw_isUsed_t (g_trials := g_trials) (g_drafted := g_drafted) (g_found := g_found) (b_s := b_s) (b_saved := b_saved) (b_draft := b_draft) (b_who := b_who) (b_met := b_met) (b_stack := b_stack) (b_fresh := b_fresh) (b_deep := b_deep) (b_alike := b_alike) (b_meets := b_meets) (re_pos P ux) _ (br_f (by decide) (br_f h0 (br_f (fun z => by have := (li_le7 (by omega)).mp z; omega) ⟨rfl, R⟩)))
      · refine br_f (fun z => h8 ((li_ge8 (by omega)).mp z)) ?_
        have top : ∀ postY : Int32 → SY → Prop, (∃ n22 : Nat, wY_make_22 postY (nI x) (nI l) g_trials g_drafted g_found b_s b_saved b_draft b_who b_met b_stack b_fresh b_deep b_alike b_meets n22 0) → wpY_make postY (g_trials, g_drafted, g_found, b_s, b_saved, b_draft, b_who, b_met, b_stack, b_fresh, b_deep, b_alike, b_meets) (nI x) (nI l) := by
          intro postY hp
          unfold wpY_make
          exact yw_isUsed_t (g_trials := g_trials) (g_drafted := g_drafted) (g_found := g_found) (b_s := b_s) (b_saved := b_saved) (b_draft := b_draft) (b_who := b_who) (b_met := b_met) (b_stack := b_stack) (b_fresh := b_fresh) (b_deep := b_deep) (b_alike := b_alike) (b_meets := b_meets) (re_pos P ux) _ (br_f (by decide) (br_f h0 (br_t ((li_le7 (by omega)).mpr (by omega)) hp)))
        refine xw_draftInUse (f_trials := f_trials) (f_drafted := f_drafted) (f_pairs := f_pairs) (f_metCount := f_metCount) (f_meetingCount := f_meetingCount) (a_held := a_held) (a_saved := a_saved) (a_draft := a_draft) (a_toldBefore := a_toldBefore) (a_pairX := a_pairX) (a_pairY := a_pairY) (a_stack := a_stack) (a_met := a_met) (a_metAs := a_metAs) (a_copies := a_copies) (a_meetings := a_meetings) (a_wasMeeting := a_wasMeeting) (a_firstMet := a_firstMet) (a_depths := a_depths) (a_isKept := a_isKept) d3 eD hq' _ (fun all => br_f (by decide) ?_) (fun nall => br_t rfl ?_)
        · have z0 := hq' 0 (by omega)
          have z1 := hq' 1 (by omega)
          have z2 := hq' 2 (by omega)
          obtain ⟨r, m', a', tb, px, py, e1, e2⟩ := xw_tellRecord (f_trials := f_trials) (f_drafted := f_drafted) (f_pairs := f_pairs) (f_metCount := f_metCount) (f_meetingCount := f_meetingCount) (a_held := a_held) (a_saved := a_saved) (a_draft := a_draft) (a_toldBefore := a_toldBefore) (a_pairX := a_pairX) (a_pairY := a_pairY) (a_stack := a_stack) (a_met := a_met) (a_metAs := a_metAs) (a_copies := a_copies) (a_meetings := a_meetings) (a_wasMeeting := a_wasMeeting) (a_firstMet := a_firstMet) (a_depths := a_depths) (a_isKept := a_isKept) (re_G P) (x := x) (l := l) (c := d) (p0 := q 0) (p1 := q 1) (p2 := q 2) (p := q) ux (by omega) d3 z0.1 z1.1 z2.1 rfl rfl rfl all
          have ect : ma_ct (nI (2 + 4 * l + d), (0 : Int32)).1 = d := ma_ct_rec (by omega) d3
          have o := tf_all (g_trials := g_trials) (g_drafted := 0) (g_found := g_found) (b_s := b_s) (b_saved := b_saved) (b_draft := b_draft) (b_who := b_who) (b_met := b_met) (b_stack := b_stack) (b_fresh := b_fresh) (b_deep := b_deep) (b_alike := b_alike) (b_meets := b_meets) (kind := 2) (num := 0) (label := nI l) (count := nI d) P ux (Or.inr ⟨l, d, by omega, d3, rfl, rfl, rfl, rfl, rfl⟩) (fun k hk => by
            rw [ect] at hk
            exact ⟨(hqY k (by omega)).2, all k hk⟩) e1
          rw [z0.2, z1.2, z2.2]
          rw [← eD] at e2
          refine e2 _ ?_
          have allY : ∀ i, i < d → yv_U b_s (q i) := fun i hi => by rw [yU]; exact all i hi
          have mk : ∀ postY : Int32 → SY → Prop, wpY_tellOf (fun r u => match u with | (g_trials, g_drafted, g_found, b_s, b_saved, b_draft, b_who, b_met, b_stack, b_fresh, b_deep, b_alike, b_meets) => postY r (g_trials, g_drafted, g_found, b_s, b_saved, b_draft, b_who, b_met, b_stack, b_fresh, b_deep, b_alike, b_meets)) (g_trials, 0, g_found, b_s, b_saved, b_draft, b_who, b_met, b_stack, b_fresh, b_deep, b_alike, b_meets) (nI x) 2 0 (nI l) (nI d) → wpY_make postY (g_trials, g_drafted, g_found, b_s, b_saved, b_draft, b_who, b_met, b_stack, b_fresh, b_deep, b_alike, b_meets) (nI x) (nI l) := by
            intro postY hp
            exact top postY ⟨_, yw_make_22 (g_trials := g_trials) (g_drafted := g_drafted) (g_found := g_found) (b_s := b_s) (b_saved := b_saved) (b_draft := b_draft) (b_who := b_who) (b_met := b_met) (b_stack := b_stack) (b_fresh := b_fresh) (b_deep := b_deep) (b_alike := b_alike) (b_meets := b_meets) d3 eD' hqY d 0 (by omega) (fun i hi => by omega) postY (fun _ => hp) (fun z => absurd allY z)⟩
          rcases o with ⟨o1, o2, s', f1, f2⟩ | ⟨o1, s', f1, f2⟩
          · subst o1
            rw [o2]
            obtain ⟨m2, tb2, px2, py2, g2⟩ := xs_idle (f_trials := f_trials) (f_drafted := 0) (f_pairs := m') (f_metCount := f_metCount) (f_meetingCount := f_meetingCount) (a_held := a_held) (a_saved := a_saved) (a_draft := a_draft) (a_toldBefore := tb) (a_pairX := px) (a_pairY := py) (a_stack := a_stack) (a_met := a_met) (a_metAs := a_metAs) (a_copies := a_copies) (a_meetings := a_meetings) (a_wasMeeting := a_wasMeeting) (a_firstMet := a_firstMet) (a_depths := a_depths) (a_isKept := a_isKept) C
            refine g2 _ (mk _ (f2 _ ⟨rfl, ?_⟩))
            exact ⟨t, 0, t3, by omega, eT, eT', rfl, rfl, hDr, re_C_mono (by omega) ⟨tf_P P x48 f1, C.2⟩, fun j hj => re_C_mono (by omega) (hS j hj)⟩
          · subst o1
            obtain ⟨m2, a2, tb2, px2, py2, s2, wh, al, g1, g2, g3⟩ := st_settle (f_trials := f_trials) (f_drafted := 0) (f_pairs := m') (f_metCount := f_metCount) (f_meetingCount := f_meetingCount) (a_held := a') (a_saved := a_saved) (a_draft := a_draft) (a_toldBefore := tb) (a_pairX := px) (a_pairY := py) (a_stack := a_stack) (a_met := a_met) (a_metAs := a_metAs) (a_copies := a_copies) (a_meetings := a_meetings) (a_wasMeeting := a_wasMeeting) (a_firstMet := a_firstMet) (a_depths := a_depths) (a_isKept := a_isKept) (g_trials := g_trials) (g_drafted := 0) (g_found := g_found) (b_s := s') (b_saved := b_saved) (b_draft := b_draft) (b_who := b_who) (b_met := b_met) (b_stack := b_stack) (b_fresh := b_fresh) (b_deep := b_deep) (b_alike := b_alike) (b_meets := b_meets) (by omega) f1
            refine g2 _ (mk _ (f2 _ (g3 _ ⟨rfl, ?_⟩)))
            exact ⟨t, 0, t3, by omega, eT, eT', rfl, rfl, hDr, re_C_mono (by omega) g1, fun j hj => re_C_mono (by omega) (hS j hj)⟩
        · have nallY : ¬ ∀ i, i < d → yv_U b_s (q i) := by rw [yU]; exact nall
          exact top _ ⟨_, yw_make_22 (g_trials := g_trials) (g_drafted := g_drafted) (g_found := g_found) (b_s := b_s) (b_saved := b_saved) (b_draft := b_draft) (b_who := b_who) (b_met := b_met) (b_stack := b_stack) (b_fresh := b_fresh) (b_deep := b_deep) (b_alike := b_alike) (b_meets := b_meets) d3 eD' hqY d 0 (by omega) (fun i hi => by omega) _ (fun z => absurd z nallY) (fun _ => ⟨rfl, R⟩)⟩
  · refine xw_inUse_f (f_trials := f_trials) (f_drafted := f_drafted) (f_pairs := f_pairs) (f_metCount := f_metCount) (f_meetingCount := f_meetingCount) (a_held := a_held) (a_saved := a_saved) (a_draft := a_draft) (a_toldBefore := a_toldBefore) (a_pairX := a_pairX) (a_pairY := a_pairY) (a_stack := a_stack) (a_met := a_met) (a_metAs := a_metAs) (a_copies := a_copies) (a_meetings := a_meetings) (a_wasMeeting := a_wasMeeting) (a_firstMet := a_firstMet) (a_depths := a_depths) (a_isKept := a_isKept) hx _ (br_t rfl ?_)
    unfold wpY_make
    exact yw_isUsed_f (g_trials := g_trials) (g_drafted := g_drafted) (g_found := g_found) (b_s := b_s) (b_saved := b_saved) (b_draft := b_draft) (b_who := b_who) (b_met := b_met) (b_stack := b_stack) (b_fresh := b_fresh) (b_deep := b_deep) (b_alike := b_alike) (b_meets := b_meets) (re_neg P hx) _ (br_t rfl ⟨rfl, R⟩)
