/-- the component's settling of what is settled changes nothing that counts -/
theorem xs_tests {f_trials f_drafted f_pairs f_metCount f_meetingCount : Int32} {a_held a_saved a_draft a_toldBefore a_pairX a_pairY a_stack a_met a_metAs a_copies a_meetings a_wasMeeting a_firstMet a_depths a_isKept : Nat → Int32} (g : xv_G a_held) (hN : ∀ t, t < 8 → a_held (480 + t) = 3 → (∃ q, xv_U a_held q ∧ a_held (488 + t) = nI q) ∧ (a_held (496 + t) = -1 ∨ ∃ q, xv_U a_held q ∧ a_held (496 + t) = nI q)) (hd : ∀ t, t < 8 → a_held (480 + t) = 3 → dt_v a_held t = 3) : ∀ d t (f_pairs : Int32) (a_toldBefore a_pairX a_pairY : Nat → Int32), t + d = 8 → ∃ (m' : Int32) (tb px py : Nat → Int32), ∀ post : SX → Prop, post (f_trials, f_drafted, m', f_metCount, f_meetingCount, a_held, a_saved, a_draft, tb, px, py, a_stack, a_met, a_metAs, a_copies, a_meetings, a_wasMeeting, a_firstMet, a_depths, a_isKept) → wX_decideTests_2 post (d + 1) (nI t) f_trials f_drafted f_pairs f_metCount f_meetingCount a_held a_saved a_draft a_toldBefore a_pairX a_pairY a_stack a_met a_metAs a_copies a_meetings a_wasMeeting a_firstMet a_depths a_isKept := by
  intro d
  induction d with
  | zero =>
    intro t fp tb px py ht
    refine ⟨fp, tb, px, py, fun post hp => ?_⟩
    unfold wX_decideTests_2
    simp (disch := omega) only [forall_eq, true_and, and_true, Nat.zero_add, nI_clamp, li_vin, nI_add, nI_eq, nI_leI, nI_ltI, li_0le, li_lt0, li_nn1, li_e0, not_true_eq_false, not_false_eq_true, false_implies, true_implies, forall_const, li_a0, li_b0, li_a1, li_b1, li_a2, li_b2, li_a3, li_b3, li_a7, li_b7, li_a8, li_b8, li_a16, li_b16, li_a48, li_b48, li_a584, li_b584, li_a572, li_b572, li_a96, li_b96, li_a144, li_b144, li_a192, li_b192, li_a240, li_b240, li_a336, li_b336, li_a384, li_b384, li_a432, li_b432, li_a480, li_b480, li_a488, li_b488, li_a496, li_b496, li_a504, li_b504, li_a512, li_b512, li_a520, li_b520, li_a524, li_b524, li_a528, li_b528, li_a536, li_b536, li_a544, li_b544, li_a552, li_b552, li_a560, li_b560, li_a568, li_b568, li_a573, li_b573, li_a585, li_b585, li_a633, li_b633, li_m3, li_n3, li_m4, li_n4, li_m48, li_n48, li_m50, li_n50, li_m585, li_n585, li_m633, li_n633, li_lt2, li_ge2, li_le2, li_gt2, li_lt1, li_ge1, li_le1, li_gt1, li_lt3, li_ge3, li_le3, li_gt3, li_lt4, li_ge4, li_le4, li_gt4, li_lt7, li_ge7, li_le7, li_gt7, li_lt8, li_ge8, li_le8, li_gt8, li_lt40, li_ge40, li_le40, li_gt40, li_lt240, li_ge240, li_le240, li_gt240, li_lt41, li_ge41, li_le41, li_gt41, li_lt48, li_ge48, li_le48, li_gt48, li_lt49, li_ge49, li_le49, li_gt49, li_lt60, li_ge60, li_le60, li_gt60, li_lt144, li_ge144, li_le144, li_gt144, li_lt145, li_ge145, li_le145, li_gt145, li_lt160, li_ge160, li_le160, li_gt160, li_lt336, li_ge336, li_le336, li_gt336, li_lt585, li_ge585, li_le585, li_gt585, li_lt633, li_ge633, li_le633, li_gt633, li_lt1000000, li_ge1000000, li_le1000000, li_gt1000000, li_lt2304, li_ge2304, li_le2304, li_gt2304, li_lt50, li_ge50, li_le50, li_gt50, li_le0, li_gt0]
    exact ⟨fun _ => hp, fun q => by omega⟩
  | succ d ih =>
    intro t fp tb px py ht
    by_cases w : a_held (480 + t) = 3
    · obtain ⟨⟨q, uq, eq⟩, o⟩ := hN t (by omega) w
      obtain ⟨m1, tb1, px1, py1, hX⟩ := xw_dec1 (f_trials := f_trials) (f_drafted := f_drafted) (f_pairs := fp) (f_metCount := f_metCount) (f_meetingCount := f_meetingCount) (a_held := a_held) (a_saved := a_saved) (a_draft := a_draft) (a_toldBefore := tb) (a_pairX := px) (a_pairY := py) (a_stack := a_stack) (a_met := a_met) (a_metAs := a_metAs) (a_copies := a_copies) (a_meetings := a_meetings) (a_wasMeeting := a_wasMeeting) (a_firstMet := a_firstMet) (a_depths := a_depths) (a_isKept := a_isKept) g (by omega) w uq eq o
      obtain ⟨m2, tb2, px2, py2, h2⟩ := ih (t + 1) m1 tb1 px1 py1 (by omega)
      refine ⟨m2, tb2, px2, py2, fun post hp => hX post _ ?_⟩
      rw [hd t (by omega) w]
      unfold wX_decideTests_77
      exact br_t rfl (nm_r (nI_1 t) (h2 post hp))
    · obtain ⟨m2, tb2, px2, py2, h2⟩ := ih (t + 1) fp tb px py (by omega)
      refine ⟨m2, tb2, px2, py2, fun post hp => ?_⟩
      rw [wX_decideTests_2]
      dsimp only
      simp (disch := omega) only [forall_eq, true_and, and_true, Nat.zero_add, nI_clamp, li_vin, nI_add, nI_eq, nI_leI, nI_ltI, li_0le, li_lt0, li_nn1, li_e0, not_true_eq_false, not_false_eq_true, false_implies, true_implies, forall_const, li_a0, li_b0, li_a1, li_b1, li_a2, li_b2, li_a3, li_b3, li_a7, li_b7, li_a8, li_b8, li_a16, li_b16, li_a48, li_b48, li_a584, li_b584, li_a572, li_b572, li_a96, li_b96, li_a144, li_b144, li_a192, li_b192, li_a240, li_b240, li_a336, li_b336, li_a384, li_b384, li_a432, li_b432, li_a480, li_b480, li_a488, li_b488, li_a496, li_b496, li_a504, li_b504, li_a512, li_b512, li_a520, li_b520, li_a524, li_b524, li_a528, li_b528, li_a536, li_b536, li_a544, li_b544, li_a552, li_b552, li_a560, li_b560, li_a568, li_b568, li_a573, li_b573, li_a585, li_b585, li_a633, li_b633, li_m3, li_n3, li_m4, li_n4, li_m48, li_n48, li_m50, li_n50, li_m585, li_n585, li_m633, li_n633, li_lt2, li_ge2, li_le2, li_gt2, li_lt1, li_ge1, li_le1, li_gt1, li_lt3, li_ge3, li_le3, li_gt3, li_lt4, li_ge4, li_le4, li_gt4, li_lt7, li_ge7, li_le7, li_gt7, li_lt8, li_ge8, li_le8, li_gt8, li_lt40, li_ge40, li_le40, li_gt40, li_lt240, li_ge240, li_le240, li_gt240, li_lt41, li_ge41, li_le41, li_gt41, li_lt48, li_ge48, li_le48, li_gt48, li_lt49, li_ge49, li_le49, li_gt49, li_lt60, li_ge60, li_le60, li_gt60, li_lt144, li_ge144, li_le144, li_gt144, li_lt145, li_ge145, li_le145, li_gt145, li_lt160, li_ge160, li_le160, li_gt160, li_lt336, li_ge336, li_le336, li_gt336, li_lt585, li_ge585, li_le585, li_gt585, li_lt633, li_ge633, li_le633, li_gt633, li_lt1000000, li_ge1000000, li_le1000000, li_gt1000000, li_lt2304, li_ge2304, li_le2304, li_gt2304, li_lt50, li_ge50, li_le50, li_gt50, li_le0, li_gt0]
      exact ⟨fun q => by omega, fun _ => br_f w (h2 post hp)⟩
theorem xs_idle {f_trials f_drafted f_pairs f_metCount f_meetingCount : Int32} {a_held a_saved a_draft a_toldBefore a_pairX a_pairY a_stack a_met a_metAs a_copies a_meetings a_wasMeeting a_firstMet a_depths a_isKept : Nat → Int32} {B : Nat} {s : Nat → Int32} (hC : re_C B a_held s) : ∃ (m' : Int32) (tb px py : Nat → Int32), ∀ post : SX → Prop, post (f_trials, f_drafted, m', f_metCount, f_meetingCount, a_held, a_saved, a_draft, tb, px, py, a_stack, a_met, a_metAs, a_copies, a_meetings, a_wasMeeting, a_firstMet, a_depths, a_isKept) → wpX_settle post (f_trials, f_drafted, f_pairs, f_metCount, f_meetingCount, a_held, a_saved, a_draft, a_toldBefore, a_pairX, a_pairY, a_stack, a_met, a_metAs, a_copies, a_meetings, a_wasMeeting, a_firstMet, a_depths, a_isKept) := by
  obtain ⟨hr, S1, S2⟩ := hC
  have N := hr.2.2.2.2.2
  obtain ⟨m', tb, px, py, h1⟩ := xs_tests (f_trials := f_trials) (f_drafted := f_drafted) (f_pairs := f_pairs) (f_metCount := f_metCount) (f_meetingCount := f_meetingCount) (a_held := a_held) (a_saved := a_saved) (a_draft := a_draft) (a_toldBefore := a_toldBefore) (a_pairX := a_pairX) (a_pairY := a_pairY) (a_stack := a_stack) (a_met := a_met) (a_metAs := a_metAs) (a_copies := a_copies) (a_meetings := a_meetings) (a_wasMeeting := a_wasMeeting) (a_firstMet := a_firstMet) (a_depths := a_depths) (a_isKept := a_isKept) (re_G hr) (fun t ht h3 => (N.2.2.1 t ht).2.2.2 h3) (fun t ht h3 => dt_of N S1 ht h3) 8 0 f_pairs a_toldBefore a_pairX a_pairY rfl
  obtain ⟨rv, v1, vX⟩ := xw_triggerWithValue (f_trials := f_trials) (f_drafted := f_drafted) (f_pairs := m') (f_metCount := f_metCount) (f_meetingCount := f_meetingCount) (a_held := a_held) (a_saved := a_saved) (a_draft := a_draft) (a_toldBefore := tb) (a_pairX := px) (a_pairY := py) (a_stack := a_stack) (a_met := a_met) (a_metAs := a_metAs) (a_copies := a_copies) (a_meetings := a_meetings) (a_wasMeeting := a_wasMeeting) (a_firstMet := a_firstMet) (a_depths := a_depths) (a_isKept := a_isKept) hr.1 (re_NG N)
  obtain ⟨rn, n1, nX⟩ := xw_neededTrigger (f_trials := f_trials) (f_drafted := f_drafted) (f_pairs := m') (f_metCount := f_metCount) (f_meetingCount := f_meetingCount) (a_held := a_held) (a_saved := a_saved) (a_draft := a_draft) (a_toldBefore := tb) (a_pairX := px) (a_pairY := py) (a_stack := a_stack) (a_met := a_met) (a_metAs := a_metAs) (a_copies := a_copies) (a_meetings := a_meetings) (a_wasMeeting := a_wasMeeting) (a_firstMet := a_firstMet) (a_depths := a_depths) (a_isKept := a_isKept) hr.1 (re_NT N) (re_NG N)
  have ev : rv = -1 := by
    rcases v1 with q | ⟨k, hk, _, ⟨x, hx, ex, k0⟩, _⟩
    · exact q.1
    · exact absurd (S2 k x hk hx ex).1 k0
  have en : rn = -1 := by
    rcases n1 with q | ⟨k, hk, _, ⟨x, hx, ex, nd⟩, _⟩
    · exact q.1
    · exact absurd nd (S2 k x hk hx ex).2
  subst ev en
  refine ⟨m', tb, px, py, fun post hp => ?_⟩
  unfold wpX_settle
  refine ⟨1, ?_⟩
  rw [wX_settle_2]
  refine br_f (by decide) ?_
  unfold wpX_decideTests
  refine ⟨_, h1 _ ?_⟩
  unfold wpX_goTrigger
  exact vX _ (br_t rfl (nX _ (br_t rfl (br_t rfl hp))))
theorem yw_settle_4 {g_trials g_drafted g_found : Int32} {b_s b_saved b_draft b_who b_met b_stack b_fresh b_deep : Nat → Int32} {b_alike b_meets : Nat → Int64} : ∀ d j (x1 : Int32), j + d = 8 → (x1 = 0 ∨ x1 = 1) → (x1 = 0 → ∀ i, i < j → ¬ b_s (544 + i) = 3 ∧ b_s (552 + i) < 0) → ∃ x1' : Int32, ((x1' = 0 ∧ ∀ i, i < 8 → ¬ b_s (544 + i) = 3 ∧ b_s (552 + i) < 0) ∨ x1' = 1) ∧ ∀ post : SY → Prop, (∃ n51 : Nat, wY_settle_51 post n51 x1' g_trials g_drafted g_found b_s b_saved b_draft b_who b_met b_stack b_fresh b_deep b_alike b_meets) → wY_settle_4 post g_trials g_drafted g_found b_s b_saved b_draft b_who b_met b_stack b_fresh b_deep b_alike b_meets (d + 1) x1 (nI j) := by
  intro d
  induction d with
  | zero =>
    intro j x1 hj hx h
    refine ⟨x1, ?_, fun post hp => ?_⟩
    · rcases hx with q | q
      · exact Or.inl ⟨q, fun i hi => h q i (by omega)⟩
      · exact Or.inr q
    · unfold wY_settle_4
      simp (disch := omega) only [forall_eq, true_and, and_true, Nat.zero_add, nI_clamp, li_vin, nI_add, nI_eq, nI_leI, nI_ltI, li_0le, li_lt0, li_nn1, li_e0, not_true_eq_false, not_false_eq_true, false_implies, true_implies, forall_const, li_a0, li_b0, li_a1, li_b1, li_a2, li_b2, li_a3, li_b3, li_a7, li_b7, li_a8, li_b8, li_a16, li_b16, li_a48, li_b48, li_a584, li_b584, li_a572, li_b572, li_a96, li_b96, li_a144, li_b144, li_a192, li_b192, li_a240, li_b240, li_a336, li_b336, li_a384, li_b384, li_a432, li_b432, li_a480, li_b480, li_a488, li_b488, li_a496, li_b496, li_a504, li_b504, li_a512, li_b512, li_a520, li_b520, li_a524, li_b524, li_a528, li_b528, li_a536, li_b536, li_a544, li_b544, li_a552, li_b552, li_a560, li_b560, li_a568, li_b568, li_a573, li_b573, li_a585, li_b585, li_a633, li_b633, li_m3, li_n3, li_m4, li_n4, li_m48, li_n48, li_m50, li_n50, li_m585, li_n585, li_m633, li_n633, li_lt2, li_ge2, li_le2, li_gt2, li_lt1, li_ge1, li_le1, li_gt1, li_lt3, li_ge3, li_le3, li_gt3, li_lt4, li_ge4, li_le4, li_gt4, li_lt7, li_ge7, li_le7, li_gt7, li_lt8, li_ge8, li_le8, li_gt8, li_lt40, li_ge40, li_le40, li_gt40, li_lt240, li_ge240, li_le240, li_gt240, li_lt41, li_ge41, li_le41, li_gt41, li_lt48, li_ge48, li_le48, li_gt48, li_lt49, li_ge49, li_le49, li_gt49, li_lt60, li_ge60, li_le60, li_gt60, li_lt144, li_ge144, li_le144, li_gt144, li_lt145, li_ge145, li_le145, li_gt145, li_lt160, li_ge160, li_le160, li_gt160, li_lt336, li_ge336, li_le336, li_gt336, li_lt585, li_ge585, li_le585, li_gt585, li_lt633, li_ge633, li_le633, li_gt633, li_lt1000000, li_ge1000000, li_le1000000, li_gt1000000, li_lt2304, li_ge2304, li_le2304, li_gt2304, li_lt50, li_ge50, li_le50, li_gt50, li_le0, li_gt0]
      exact ⟨fun _ => hp, fun q => by omega⟩
  | succ d ih =>
    intro j x1 hj hx h
    have o1 : x1 ||| 1 = 1 := by
      rcases hx with q | q <;> rw [q] <;> decide
    have o0 : x1 ||| 0 = x1 := by
      rcases hx with q | q <;> rw [q] <;> decide
    by_cases a : b_s (544 + j) = 3
    · obtain ⟨x1', h1, h2⟩ := ih (j + 1) 1 (by omega) (Or.inr rfl) (fun z => absurd z (by decide))
      refine ⟨x1', h1, fun post hp => ?_⟩
      rw [wY_settle_4]
      dsimp only
      simp (disch := omega) only [forall_eq, true_and, and_true, Nat.zero_add, nI_clamp, li_vin, nI_add, nI_eq, nI_leI, nI_ltI, li_0le, li_lt0, li_nn1, li_e0, not_true_eq_false, not_false_eq_true, false_implies, true_implies, forall_const, li_a0, li_b0, li_a1, li_b1, li_a2, li_b2, li_a3, li_b3, li_a7, li_b7, li_a8, li_b8, li_a16, li_b16, li_a48, li_b48, li_a584, li_b584, li_a572, li_b572, li_a96, li_b96, li_a144, li_b144, li_a192, li_b192, li_a240, li_b240, li_a336, li_b336, li_a384, li_b384, li_a432, li_b432, li_a480, li_b480, li_a488, li_b488, li_a496, li_b496, li_a504, li_b504, li_a512, li_b512, li_a520, li_b520, li_a524, li_b524, li_a528, li_b528, li_a536, li_b536, li_a544, li_b544, li_a552, li_b552, li_a560, li_b560, li_a568, li_b568, li_a573, li_b573, li_a585, li_b585, li_a633, li_b633, li_m3, li_n3, li_m4, li_n4, li_m48, li_n48, li_m50, li_n50, li_m585, li_n585, li_m633, li_n633, li_lt2, li_ge2, li_le2, li_gt2, li_lt1, li_ge1, li_le1, li_gt1, li_lt3, li_ge3, li_le3, li_gt3, li_lt4, li_ge4, li_le4, li_gt4, li_lt7, li_ge7, li_le7, li_gt7, li_lt8, li_ge8, li_le8, li_gt8, li_lt40, li_ge40, li_le40, li_gt40, li_lt240, li_ge240, li_le240, li_gt240, li_lt41, li_ge41, li_le41, li_gt41, li_lt48, li_ge48, li_le48, li_gt48, li_lt49, li_ge49, li_le49, li_gt49, li_lt60, li_ge60, li_le60, li_gt60, li_lt144, li_ge144, li_le144, li_gt144, li_lt145, li_ge145, li_le145, li_gt145, li_lt160, li_ge160, li_le160, li_gt160, li_lt336, li_ge336, li_le336, li_gt336, li_lt585, li_ge585, li_le585, li_gt585, li_lt633, li_ge633, li_le633, li_gt633, li_lt1000000, li_ge1000000, li_le1000000, li_gt1000000, li_lt2304, li_ge2304, li_le2304, li_gt2304, li_lt50, li_ge50, li_le50, li_gt50, li_le0, li_gt0, a, o1]
      exact ⟨fun q => by omega, fun _ => h2 post hp⟩
    · by_cases b : b_s (552 + j) < 0
      · obtain ⟨x1', h1, h2⟩ := ih (j + 1) x1 (by omega) hx (fun z => lt_s (h z) ⟨a, b⟩)
        refine ⟨x1', h1, fun post hp => ?_⟩
        rw [wY_settle_4]
        dsimp only
        simp (disch := omega) only [forall_eq, true_and, and_true, Nat.zero_add, nI_clamp, li_vin, nI_add, nI_eq, nI_leI, nI_ltI, li_0le, li_lt0, li_nn1, li_e0, not_true_eq_false, not_false_eq_true, false_implies, true_implies, forall_const, li_a0, li_b0, li_a1, li_b1, li_a2, li_b2, li_a3, li_b3, li_a7, li_b7, li_a8, li_b8, li_a16, li_b16, li_a48, li_b48, li_a584, li_b584, li_a572, li_b572, li_a96, li_b96, li_a144, li_b144, li_a192, li_b192, li_a240, li_b240, li_a336, li_b336, li_a384, li_b384, li_a432, li_b432, li_a480, li_b480, li_a488, li_b488, li_a496, li_b496, li_a504, li_b504, li_a512, li_b512, li_a520, li_b520, li_a524, li_b524, li_a528, li_b528, li_a536, li_b536, li_a544, li_b544, li_a552, li_b552, li_a560, li_b560, li_a568, li_b568, li_a573, li_b573, li_a585, li_b585, li_a633, li_b633, li_m3, li_n3, li_m4, li_n4, li_m48, li_n48, li_m50, li_n50, li_m585, li_n585, li_m633, li_n633, li_lt2, li_ge2, li_le2, li_gt2, li_lt1, li_ge1, li_le1, li_gt1, li_lt3, li_ge3, li_le3, li_gt3, li_lt4, li_ge4, li_le4, li_gt4, li_lt7, li_ge7, li_le7, li_gt7, li_lt8, li_ge8, li_le8, li_gt8, li_lt40, li_ge40, li_le40, li_gt40, li_lt240, li_ge240, li_le240, li_gt240, li_lt41, li_ge41, li_le41, li_gt41, li_lt48, li_ge48, li_le48, li_gt48, li_lt49, li_ge49, li_le49, li_gt49, li_lt60, li_ge60, li_le60, li_gt60, li_lt144, li_ge144, li_le144, li_gt144, li_lt145, li_ge145, li_le145, li_gt145, li_lt160, li_ge160, li_le160, li_gt160, li_lt336, li_ge336, li_le336, li_gt336, li_lt585, li_ge585, li_le585, li_gt585, li_lt633, li_ge633, li_le633, li_gt633, li_lt1000000, li_ge1000000, li_le1000000, li_gt1000000, li_lt2304, li_ge2304, li_le2304, li_gt2304, li_lt50, li_ge50, li_le50, li_gt50, li_le0, li_gt0, o1, o0]
        exact ⟨fun q => by omega, fun _ => br_f a (br_t b (h2 post hp))⟩
      · obtain ⟨x1', h1, h2⟩ := ih (j + 1) 1 (by omega) (Or.inr rfl) (fun z => absurd z (by decide))
        refine ⟨x1', h1, fun post hp => ?_⟩
        rw [wY_settle_4]
        dsimp only
        simp (disch := omega) only [forall_eq, true_and, and_true, Nat.zero_add, nI_clamp, li_vin, nI_add, nI_eq, nI_leI, nI_ltI, li_0le, li_lt0, li_nn1, li_e0, not_true_eq_false, not_false_eq_true, false_implies, true_implies, forall_const, li_a0, li_b0, li_a1, li_b1, li_a2, li_b2, li_a3, li_b3, li_a7, li_b7, li_a8, li_b8, li_a16, li_b16, li_a48, li_b48, li_a584, li_b584, li_a572, li_b572, li_a96, li_b96, li_a144, li_b144, li_a192, li_b192, li_a240, li_b240, li_a336, li_b336, li_a384, li_b384, li_a432, li_b432, li_a480, li_b480, li_a488, li_b488, li_a496, li_b496, li_a504, li_b504, li_a512, li_b512, li_a520, li_b520, li_a524, li_b524, li_a528, li_b528, li_a536, li_b536, li_a544, li_b544, li_a552, li_b552, li_a560, li_b560, li_a568, li_b568, li_a573, li_b573, li_a585, li_b585, li_a633, li_b633, li_m3, li_n3, li_m4, li_n4, li_m48, li_n48, li_m50, li_n50, li_m585, li_n585, li_m633, li_n633, li_lt2, li_ge2, li_le2, li_gt2, li_lt1, li_ge1, li_le1, li_gt1, li_lt3, li_ge3, li_le3, li_gt3, li_lt4, li_ge4, li_le4, li_gt4, li_lt7, li_ge7, li_le7, li_gt7, li_lt8, li_ge8, li_le8, li_gt8, li_lt40, li_ge40, li_le40, li_gt40, li_lt240, li_ge240, li_le240, li_gt240, li_lt41, li_ge41, li_le41, li_gt41, li_lt48, li_ge48, li_le48, li_gt48, li_lt49, li_ge49, li_le49, li_gt49, li_lt60, li_ge60, li_le60, li_gt60, li_lt144, li_ge144, li_le144, li_gt144, li_lt145, li_ge145, li_le145, li_gt145, li_lt160, li_ge160, li_le160, li_gt160, li_lt336, li_ge336, li_le336, li_gt336, li_lt585, li_ge585, li_le585, li_gt585, li_lt633, li_ge633, li_le633, li_gt633, li_lt1000000, li_ge1000000, li_le1000000, li_gt1000000, li_lt2304, li_ge2304, li_le2304, li_gt2304, li_lt50, li_ge50, li_le50, li_gt50, li_le0, li_gt0, o1, o0]
        exact ⟨fun q => by omega, fun _ => br_f a (br_f b (h2 post hp))⟩
/-- both settle, and hold the same again -/
theorem st_settle {f_trials f_drafted f_pairs f_metCount f_meetingCount : Int32} {a_held a_saved a_draft a_toldBefore a_pairX a_pairY a_stack a_met a_metAs a_copies a_meetings a_wasMeeting a_firstMet a_depths a_isKept : Nat → Int32} {g_trials g_drafted g_found : Int32} {b_s b_saved b_draft b_who b_met b_stack b_fresh b_deep : Nat → Int32} {b_alike b_meets : Nat → Int64} {B : Nat} (hB : B + 81 < 1000000) (hr : re_P B a_held b_s) : ∃ (m' : Int32) (a' tb px py s' wh : Nat → Int32) (al : Nat → Int64), re_C (B + 81) a' s' ∧ (∀ post : SX → Prop, post (f_trials, f_drafted, m', f_metCount, f_meetingCount, a', a_saved, a_draft, tb, px, py, a_stack, a_met, a_metAs, a_copies, a_meetings, a_wasMeeting, a_firstMet, a_depths, a_isKept) → wpX_settle post (f_trials, f_drafted, f_pairs, f_metCount, f_meetingCount, a_held, a_saved, a_draft, a_toldBefore, a_pairX, a_pairY, a_stack, a_met, a_metAs, a_copies, a_meetings, a_wasMeeting, a_firstMet, a_depths, a_isKept)) ∧ (∀ post : SY → Prop, post (g_trials, g_drafted, g_found, s', b_saved, b_draft, wh, b_met, b_stack, b_fresh, b_deep, al, b_meets) → wpY_settle post (g_trials, g_drafted, g_found, b_s, b_saved, b_draft, b_who, b_met, b_stack, b_fresh, b_deep, b_alike, b_meets)) := by
  obtain ⟨x1', h1, h2⟩ := yw_settle_4 (g_trials := g_trials) (g_drafted := g_drafted) (g_found := g_found) (b_s := b_s) (b_saved := b_saved) (b_draft := b_draft) (b_who := b_who) (b_met := b_met) (b_stack := b_stack) (b_fresh := b_fresh) (b_deep := b_deep) (b_alike := b_alike) (b_meets := b_meets) 8 0 0 rfl (Or.inl rfl) (fun _ i hi => by omega)
  rcases h1 with ⟨z1, z2⟩ | z1
  · have N := hr.2.2.2.2.2
    have hC : re_C B a_held b_s := by
      refine ⟨hr, ?_, ?_⟩
      · intro t q ht h3 hq e
        have := (N.2.2.1 t ht).1
        rw [h3] at this
        exact absurd this.symm (z2 t ht).1
      · intro k x hk hx e
        have h4 := (N.2.2.2.1 k hk).1
        have h5 := (z2 k hk).2
        rw [← h4, e] at h5
        exact absurd h5 (nI_pos (by omega))
    obtain ⟨m', tb, px, py, hX⟩ := xs_idle (f_trials := f_trials) (f_drafted := f_drafted) (f_pairs := f_pairs) (f_metCount := f_metCount) (f_meetingCount := f_meetingCount) (a_held := a_held) (a_saved := a_saved) (a_draft := a_draft) (a_toldBefore := a_toldBefore) (a_pairX := a_pairX) (a_pairY := a_pairY) (a_stack := a_stack) (a_met := a_met) (a_metAs := a_metAs) (a_copies := a_copies) (a_meetings := a_meetings) (a_wasMeeting := a_wasMeeting) (a_firstMet := a_firstMet) (a_depths := a_depths) (a_isKept := a_isKept) hC
    refine ⟨m', a_held, tb, px, py, b_s, b_who, b_alike, re_C_mono (by omega) hC, hX, fun post hp => ?_⟩
    unfold wpY_settle
    refine ⟨_, h2 post ⟨1, ?_⟩⟩
    rw [z1, wY_settle_51]
    exact br_t rfl hp
  · obtain ⟨m', a', tb, px, py, s', wh, al, g1, g2, g3⟩ := st_loop (f_trials := f_trials) (f_drafted := f_drafted) (f_pairs := f_pairs) (f_metCount := f_metCount) (f_meetingCount := f_meetingCount) (a_held := a_held) (a_saved := a_saved) (a_draft := a_draft) (a_toldBefore := a_toldBefore) (a_pairX := a_pairX) (a_pairY := a_pairY) (a_stack := a_stack) (a_met := a_met) (a_metAs := a_metAs) (a_copies := a_copies) (a_meetings := a_meetings) (a_wasMeeting := a_wasMeeting) (a_firstMet := a_firstMet) (a_depths := a_depths) (a_isKept := a_isKept) (g_trials := g_trials) (g_drafted := g_drafted) (g_found := g_found) (b_s := b_s) (b_saved := b_saved) (b_draft := b_draft) (b_who := b_who) (b_met := b_met) (b_stack := b_stack) (b_fresh := b_fresh) (b_deep := b_deep) (b_alike := b_alike) (b_meets := b_meets) 8 0 B f_pairs a_held a_toldBefore a_pairX a_pairY b_s b_who b_alike (tc_le _) (by omega) (by omega) hr
    refine ⟨m', a', tb, px, py, s', wh, al, re_C_mono (by omega) g1, fun post hp => ⟨_, g2 post hp⟩, fun post hp => ?_⟩
    unfold wpY_settle
    refine ⟨_, h2 post ⟨9, ?_⟩⟩
    rw [z1]
    exact g3 post hp
