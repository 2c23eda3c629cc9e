theorem xm_Q1 {f g : Nat → Int32} {x y : Nat} (hx : x < 48) (hy : y < 48) : ma_Q (xm_p (upd f 0 (nI x))) (xm_p (upd g 0 (nI y))) 0 1 = ma_1 x y := by
  rw [ma_Q1, xm_p_nI (pk_us (f := f)) hx, xm_p_nI (pk_us (f := g)) hy]
theorem xm_hp1 {a f g : Nat → Int32} {x y : Nat} (hx : xv_U a x) (hy : xv_U a y) : ∀ j, j < 1 → (upd f 0 (nI x) j = nI (xm_p (upd f 0 (nI x)) j) ∧ xv_U a (xm_p (upd f 0 (nI x)) j)) ∧ upd g 0 (nI y) j = nI (xm_p (upd g 0 (nI y)) j) ∧ xv_U a (xm_p (upd g 0 (nI y)) j) := by
  intro j hj
  have e : j = 0 := by omega
  rw [e, xm_p_nI (pk_us (f := f)) hx.1, xm_p_nI (pk_us (f := g)) hy.1, pk_us, pk_us]
  exact ⟨⟨rfl, hx⟩, rfl, hy⟩
theorem xw_likeness {f_trials f_drafted f_pairs f_metCount f_meetingCount : Int32} {a_held a_saved a_draft a_toldBefore a_pairX a_pairY a_stack a_met a_metAs a_copies a_meetings a_wasMeeting a_firstMet a_depths a_isKept : Nat → Int32} (g : xv_G a_held) {x y : Nat} (hx : xv_U a_held x) (hy : xv_U a_held y) : ∃ (m' : Nat) (tb px' py' : Nat → Int32), ∀ post : Int32 → SX → Prop, post (ma_vd (xv_U a_held) (xv_L a_held) (xv_T a_held) x y) (f_trials, f_drafted, nI m', f_metCount, f_meetingCount, a_held, a_saved, a_draft, tb, px', py', a_stack, a_met, a_metAs, a_copies, a_meetings, a_wasMeeting, a_firstMet, a_depths, a_isKept) → wpX_likeness post (f_trials, f_drafted, f_pairs, f_metCount, f_meetingCount, a_held, a_saved, a_draft, a_toldBefore, a_pairX, a_pairY, a_stack, a_met, a_metAs, a_copies, a_meetings, a_wasMeeting, a_firstMet, a_depths, a_isKept) (nI x) (nI y) := by
  obtain ⟨tb, t1, t2⟩ := xw_rememberTold (f_trials := f_trials) (f_drafted := f_drafted) (f_pairs := f_pairs) (f_metCount := f_metCount) (f_meetingCount := f_meetingCount) (a_held := a_held) (a_saved := a_saved) (a_draft := a_draft) (a_toldBefore := a_toldBefore) (a_pairX := a_pairX) (a_pairY := a_pairY) (a_stack := a_stack) (a_met := a_met) (a_metAs := a_metAs) (a_copies := a_copies) (a_meetings := a_meetings) (a_wasMeeting := a_wasMeeting) (a_firstMet := a_firstMet) (a_depths := a_depths) (a_isKept := a_isKept)
  obtain ⟨r, m', a', px', py', h1, h2, h3⟩ := xw_merge (f_trials := f_trials) (f_drafted := f_drafted) (f_pairs := 1) (f_metCount := f_metCount) (f_meetingCount := f_meetingCount) (a_held := a_held) (a_saved := a_saved) (a_draft := a_draft) (a_toldBefore := tb) (a_pairX := upd a_pairX 0 (nI x)) (a_pairY := upd a_pairY 0 (nI y)) (a_stack := a_stack) (a_met := a_met) (a_metAs := a_metAs) (a_copies := a_copies) (a_meetings := a_meetings) (a_wasMeeting := a_wasMeeting) (a_firstMet := a_firstMet) (a_depths := a_depths) (a_isKept := a_isKept) g (m := 1) (by omega) rfl (xm_hp1 hx hy)
  obtain ⟨a'', c1, c2, c3⟩ := xw_recallTold (f_trials := f_trials) (f_drafted := f_drafted) (f_pairs := nI m') (f_metCount := f_metCount) (f_meetingCount := f_meetingCount) (a_held := a') (a_saved := a_saved) (a_draft := a_draft) (a_toldBefore := tb) (a_pairX := px') (a_pairY := py') (a_stack := a_stack) (a_met := a_met) (a_metAs := a_metAs) (a_copies := a_copies) (a_meetings := a_meetings) (a_wasMeeting := a_wasMeeting) (a_firstMet := a_firstMet) (a_depths := a_depths) (a_isKept := a_isKept)
  have e : a'' = a_held := by
    funext i
    by_cases q : i < 336
    · rw [c1 i q, t1 i q]
    · rw [c2 i (by omega), h2 i (by omega)]
  have er : r = ma_vd (xv_U a_held) (xv_L a_held) (xv_T a_held) x y := by
    rw [xm_Q1 hx.1 hy.1] at h1
    rcases h1 with ⟨q1, q2⟩ | ⟨i', q1, q2⟩
    · rw [q1, lk_2 q2]
    · rcases xm_vd q2 with z | z
      · rw [z] at q2 ⊢
        rw [lk_1 q2 q1]
      · rw [z] at q2 ⊢
        rw [lk_3 q2 q1]
  refine ⟨m', tb, px', py', fun post hp => ?_⟩
  unfold wpX_likeness
  refine t2 _ ?_
  intro _ e1 _ e2
  subst e1 e2
  refine h3 _ (c3 _ ?_)
  rw [e, er]
  exact hp
theorem xw_undone_no {f_trials f_drafted f_pairs f_metCount f_meetingCount : Int32} {a_held a_saved a_draft a_toldBefore a_pairX a_pairY a_stack a_met a_metAs a_copies a_meetings a_wasMeeting a_firstMet a_depths a_isKept : Nat → Int32} : ∃ a' : Nat → Int32, (∀ i, i < 336 → a' i = a_toldBefore i) ∧ (∀ i, 336 ≤ i → a' i = a_held i) ∧ ∀ post : Int32 → SX → Prop, post 2 (f_trials, f_drafted, f_pairs, f_metCount, f_meetingCount, a', a_saved, a_draft, a_toldBefore, a_pairX, a_pairY, a_stack, a_met, a_metAs, a_copies, a_meetings, a_wasMeeting, a_firstMet, a_depths, a_isKept) → wpX_undoneIfFailed post (f_trials, f_drafted, f_pairs, f_metCount, f_meetingCount, a_held, a_saved, a_draft, a_toldBefore, a_pairX, a_pairY, a_stack, a_met, a_metAs, a_copies, a_meetings, a_wasMeeting, a_firstMet, a_depths, a_isKept) 2 := by
  obtain ⟨a', c1, c2, c3⟩ := xw_recallTold (f_trials := f_trials) (f_drafted := f_drafted) (f_pairs := f_pairs) (f_metCount := f_metCount) (f_meetingCount := f_meetingCount) (a_held := a_held) (a_saved := a_saved) (a_draft := a_draft) (a_toldBefore := a_toldBefore) (a_pairX := a_pairX) (a_pairY := a_pairY) (a_stack := a_stack) (a_met := a_met) (a_metAs := a_metAs) (a_copies := a_copies) (a_meetings := a_meetings) (a_wasMeeting := a_wasMeeting) (a_firstMet := a_firstMet) (a_depths := a_depths) (a_isKept := a_isKept)
  refine ⟨a', c1, c2, fun post hp => ?_⟩
  unfold wpX_undoneIfFailed
  exact br_t rfl (c3 _ hp)
theorem xw_undone_ok {f_trials f_drafted f_pairs f_metCount f_meetingCount : Int32} {a_held a_saved a_draft a_toldBefore a_pairX a_pairY a_stack a_met a_metAs a_copies a_meetings a_wasMeeting a_firstMet a_depths a_isKept : Nat → Int32} {r : Int32} (hr : r ≠ 2) : ∀ post : Int32 → SX → Prop, post 1 (f_trials, f_drafted, f_pairs, f_metCount, f_meetingCount, a_held, a_saved, a_draft, a_toldBefore, a_pairX, a_pairY, a_stack, a_met, a_metAs, a_copies, a_meetings, a_wasMeeting, a_firstMet, a_depths, a_isKept) → wpX_undoneIfFailed post (f_trials, f_drafted, f_pairs, f_metCount, f_meetingCount, a_held, a_saved, a_draft, a_toldBefore, a_pairX, a_pairY, a_stack, a_met, a_metAs, a_copies, a_meetings, a_wasMeeting, a_firstMet, a_depths, a_isKept) r := by
  intro post hp
  unfold wpX_undoneIfFailed
  exact br_f hr hp
/-- what a telling by pairs leaves -/
def xt_R (a a' : Nat → Int32) (Q : Nat → Nat → Prop) (r : Int32) : Prop :=
  (r = 2 ∧ a' = a ∧ ma_No (xv_U a) (xv_L a) (xv_T a) Q) ∨ (r = 1 ∧ ∃ (px py : Nat → Nat) (i m : Nat) (vd : Int32), m ≤ i ∧ xm_I a Q a' px py i m vd)
theorem xw_tellEqual {f_trials f_drafted f_pairs f_metCount f_meetingCount : Int32} {a_held a_saved a_draft a_toldBefore a_pairX a_pairY a_stack a_met a_metAs a_copies a_meetings a_wasMeeting a_firstMet a_depths a_isKept : Nat → Int32} (g : xv_G a_held) {x y : Nat} (hx : xv_U a_held x) (hy : xv_U a_held y) : ∃ (r : Int32) (m' : Nat) (a' tb px' py' : Nat → Int32), xt_R a_held a' (ma_1 x y) r ∧ ∀ post : Int32 → SX → Prop, post r (f_trials, f_drafted, nI m', f_metCount, f_meetingCount, a', a_saved, a_draft, tb, px', py', a_stack, a_met, a_metAs, a_copies, a_meetings, a_wasMeeting, a_firstMet, a_depths, a_isKept) → wpX_tellEqual post (f_trials, f_drafted, f_pairs, f_metCount, f_meetingCount, a_held, a_saved, a_draft, a_toldBefore, a_pairX, a_pairY, a_stack, a_met, a_metAs, a_copies, a_meetings, a_wasMeeting, a_firstMet, a_depths, a_isKept) (nI x) (nI y) := by
  obtain ⟨tb, t1, t2⟩ := xw_rememberTold (f_trials := f_trials) (f_drafted := f_drafted) (f_pairs := f_pairs) (f_metCount := f_metCount) (f_meetingCount := f_meetingCount) (a_held := a_held) (a_saved := a_saved) (a_draft := a_draft) (a_toldBefore := a_toldBefore) (a_pairX := a_pairX) (a_pairY := a_pairY) (a_stack := a_stack) (a_met := a_met) (a_metAs := a_metAs) (a_copies := a_copies) (a_meetings := a_meetings) (a_wasMeeting := a_wasMeeting) (a_firstMet := a_firstMet) (a_depths := a_depths) (a_isKept := a_isKept)
  obtain ⟨r, m', a', px', py', h1, h2, h3⟩ := xw_merge (f_trials := f_trials) (f_drafted := f_drafted) (f_pairs := 1) (f_metCount := f_metCount) (f_meetingCount := f_meetingCount) (a_held := a_held) (a_saved := a_saved) (a_draft := a_draft) (a_toldBefore := tb) (a_pairX := upd a_pairX 0 (nI x)) (a_pairY := upd a_pairY 0 (nI y)) (a_stack := a_stack) (a_met := a_met) (a_metAs := a_metAs) (a_copies := a_copies) (a_meetings := a_meetings) (a_wasMeeting := a_wasMeeting) (a_firstMet := a_firstMet) (a_depths := a_depths) (a_isKept := a_isKept) g (m := 1) (by omega) rfl (xm_hp1 hx hy)
  rw [xm_Q1 hx.1 hy.1] at h1
  rcases h1 with ⟨q1, q2⟩ | ⟨i', q1, q2⟩
  · obtain ⟨a'', c1, c2, c3⟩ := xw_undone_no (f_trials := f_trials) (f_drafted := f_drafted) (f_pairs := nI m') (f_metCount := f_metCount) (f_meetingCount := f_meetingCount) (a_held := a') (a_saved := a_saved) (a_draft := a_draft) (a_toldBefore := tb) (a_pairX := px') (a_pairY := py') (a_stack := a_stack) (a_met := a_met) (a_metAs := a_metAs) (a_copies := a_copies) (a_meetings := a_meetings) (a_wasMeeting := a_wasMeeting) (a_firstMet := a_firstMet) (a_depths := a_depths) (a_isKept := a_isKept)
    have e : a'' = a_held := by
      funext i
      by_cases q : i < 336
      · rw [c1 i q, t1 i q]
      · rw [c2 i (by omega), h2 i (by omega)]
    refine ⟨2, m', a_held, tb, px', py', Or.inl ⟨rfl, rfl, q2⟩, fun post hp => ?_⟩
    unfold wpX_tellEqual
    refine t2 _ ?_
    intro _ e1 _ e2
    subst e1 e2
    refine h3 _ ?_
    rw [q1]
    refine c3 _ ?_
    rw [e]
    exact hp
  · refine ⟨1, m', a', tb, px', py', Or.inr ⟨rfl, xm_p px', xm_p py', i', m', r, q1, q2⟩, fun post hp => ?_⟩
    have hr : r ≠ 2 := by
      rcases xm_vd q2 with z | z
      · rw [z]; decide
      · rw [z]; decide
    unfold wpX_tellEqual
    refine t2 _ ?_
    intro _ e1 _ e2
    subst e1 e2
    exact h3 _ (xw_undone_ok (f_trials := f_trials) (f_drafted := f_drafted) (f_pairs := nI m') (f_metCount := f_metCount) (f_meetingCount := f_meetingCount) (a_held := a') (a_saved := a_saved) (a_draft := a_draft) (a_toldBefore := tb) (a_pairX := px') (a_pairY := py') (a_stack := a_stack) (a_met := a_met) (a_metAs := a_metAs) (a_copies := a_copies) (a_meetings := a_meetings) (a_wasMeeting := a_wasMeeting) (a_firstMet := a_firstMet) (a_depths := a_depths) (a_isKept := a_isKept) hr _ hp)
theorem xw_note_26 {f_trials f_drafted f_pairs f_metCount f_meetingCount : Int32} {a_held a_saved a_draft a_toldBefore a_pairX a_pairY a_stack a_met a_metAs a_copies a_meetings a_wasMeeting a_firstMet a_depths a_isKept : Nat → Int32} {n : Nat} (hn : n < 1000000) : ∀ post : SX → Prop, post (f_trials, f_drafted, f_pairs, f_metCount, f_meetingCount, upd a_held 584 (nI (n + 1)), a_saved, a_draft, a_toldBefore, a_pairX, a_pairY, a_stack, a_met, a_metAs, a_copies, a_meetings, a_wasMeeting, a_firstMet, a_depths, a_isKept) → wX_note_26 post (nI n) f_trials f_drafted f_pairs f_metCount f_meetingCount a_held a_saved a_draft a_toldBefore a_pairX a_pairY a_stack a_met a_metAs a_copies a_meetings a_wasMeeting a_firstMet a_depths a_isKept := by
  intro post hp
  unfold wX_note_26
  simp (disch := omega) only [forall_eq, true_and, and_true, Nat.zero_add, nI_clamp, li_vin, nI_add, nI_eq, nI_leI, nI_ltI, li_0le, li_lt0, li_nn1, li_e0, not_true_eq_false, not_false_eq_true, false_implies, true_implies, forall_const, li_a0, li_b0, li_a1, li_b1, li_a2, li_b2, li_a3, li_b3, li_a7, li_b7, li_a8, li_b8, li_a16, li_b16, li_a48, li_b48, li_a584, li_b584, li_a572, li_b572, li_a96, li_b96, li_a144, li_b144, li_a192, li_b192, li_a240, li_b240, li_a336, li_b336, li_a384, li_b384, li_a432, li_b432, li_a480, li_b480, li_a488, li_b488, li_a496, li_b496, li_a504, li_b504, li_a512, li_b512, li_a520, li_b520, li_a524, li_b524, li_a528, li_b528, li_a536, li_b536, li_a544, li_b544, li_a552, li_b552, li_a560, li_b560, li_a568, li_b568, li_a573, li_b573, li_a585, li_b585, li_a633, li_b633, li_m3, li_n3, li_m4, li_n4, li_m48, li_n48, li_m50, li_n50, li_m585, li_n585, li_m633, li_n633, li_lt2, li_ge2, li_le2, li_gt2, li_lt1, li_ge1, li_le1, li_gt1, li_lt3, li_ge3, li_le3, li_gt3, li_lt4, li_ge4, li_le4, li_gt4, li_lt7, li_ge7, li_le7, li_gt7, li_lt8, li_ge8, li_le8, li_gt8, li_lt40, li_ge40, li_le40, li_gt40, li_lt240, li_ge240, li_le240, li_gt240, li_lt41, li_ge41, li_le41, li_gt41, li_lt48, li_ge48, li_le48, li_gt48, li_lt49, li_ge49, li_le49, li_gt49, li_lt60, li_ge60, li_le60, li_gt60, li_lt144, li_ge144, li_le144, li_gt144, li_lt145, li_ge145, li_le145, li_gt145, li_lt160, li_ge160, li_le160, li_gt160, li_lt336, li_ge336, li_le336, li_gt336, li_lt585, li_ge585, li_le585, li_gt585, li_lt633, li_ge633, li_le633, li_gt633, li_lt1000000, li_ge1000000, li_le1000000, li_gt1000000, li_lt2304, li_ge2304, li_le2304, li_gt2304, li_lt50, li_ge50, li_le50, li_gt50, li_le0, li_gt0]
  exact ⟨fun q => by omega, fun _ => hp⟩
theorem xw_note {f_trials f_drafted f_pairs f_metCount f_meetingCount : Int32} {a_held a_saved a_draft a_toldBefore a_pairX a_pairY a_stack a_met a_metAs a_copies a_meetings a_wasMeeting a_firstMet a_depths a_isKept : Nat → Int32} {n : Nat} {w : Int32} (hn : n < 1000000) (e : a_held 584 = nI n) : ∃ a' : Nat → Int32, nt_X a_held a' w ∧ ∀ post : SX → Prop, post (f_trials, f_drafted, f_pairs, f_metCount, f_meetingCount, a', a_saved, a_draft, a_toldBefore, a_pairX, a_pairY, a_stack, a_met, a_metAs, a_copies, a_meetings, a_wasMeeting, a_firstMet, a_depths, a_isKept) → wpX_note post (f_trials, f_drafted, f_pairs, f_metCount, f_meetingCount, a_held, a_saved, a_draft, a_toldBefore, a_pairX, a_pairY, a_stack, a_met, a_metAs, a_copies, a_meetings, a_wasMeeting, a_firstMet, a_depths, a_isKept) w := by
  by_cases q : n < 60
  · refine ⟨upd (upd a_held (524 + n) w) 584 (nI (n + 1)), ⟨n, hn, e, pk_us, fun _ => ?_, fun i h1 h2 => ?_⟩, fun post hp => ?_⟩
    · rw [pk_un (by omega), pk_us]
    · rw [pk_un h1, pk_un (by omega)]
    · unfold wpX_note
      simp (disch := omega) only [forall_eq, true_and, and_true, Nat.zero_add, nI_clamp, li_vin, nI_add, nI_eq, nI_leI, nI_ltI, li_0le, li_lt0, li_nn1, li_e0, not_true_eq_false, not_false_eq_true, false_implies, true_implies, forall_const, li_a0, li_b0, li_a1, li_b1, li_a2, li_b2, li_a3, li_b3, li_a7, li_b7, li_a8, li_b8, li_a16, li_b16, li_a48, li_b48, li_a584, li_b584, li_a572, li_b572, li_a96, li_b96, li_a144, li_b144, li_a192, li_b192, li_a240, li_b240, li_a336, li_b336, li_a384, li_b384, li_a432, li_b432, li_a480, li_b480, li_a488, li_b488, li_a496, li_b496, li_a504, li_b504, li_a512, li_b512, li_a520, li_b520, li_a524, li_b524, li_a528, li_b528, li_a536, li_b536, li_a544, li_b544, li_a552, li_b552, li_a560, li_b560, li_a568, li_b568, li_a573, li_b573, li_a585, li_b585, li_a633, li_b633, li_m3, li_n3, li_m4, li_n4, li_m48, li_n48, li_m50, li_n50, li_m585, li_n585, li_m633, li_n633, li_lt2, li_ge2, li_le2, li_gt2, li_lt1, li_ge1, li_le1, li_gt1, li_lt3, li_ge3, li_le3, li_gt3, li_lt4, li_ge4, li_le4, li_gt4, li_lt7, li_ge7, li_le7, li_gt7, li_lt8, li_ge8, li_le8, li_gt8, li_lt40, li_ge40, li_le40, li_gt40, li_lt240, li_ge240, li_le240, li_gt240, li_lt41, li_ge41, li_le41, li_gt41, li_lt48, li_ge48, li_le48, li_gt48, li_lt49, li_ge49, li_le49, li_gt49, li_lt60, li_ge60, li_le60, li_gt60, li_lt144, li_ge144, li_le144, li_gt144, li_lt145, li_ge145, li_le145, li_gt145, li_lt160, li_ge160, li_le160, li_gt160, li_lt336, li_ge336, li_le336, li_gt336, li_lt585, li_ge585, li_le585, li_gt585, li_lt633, li_ge633, li_le633, li_gt633, li_lt1000000, li_ge1000000, li_le1000000, li_gt1000000, li_lt2304, li_ge2304, li_le2304, li_gt2304, li_lt50, li_ge50, li_le50, li_gt50, li_le0, li_gt0, e]
      exact ⟨fun z => by omega, fun _ => xw_note_26 (f_trials := f_trials) (f_drafted := f_drafted) (f_pairs := f_pairs) (f_metCount := f_metCount) (f_meetingCount := f_meetingCount) (a_held := upd a_held (524 + n) w) (a_saved := a_saved) (a_draft := a_draft) (a_toldBefore := a_toldBefore) (a_pairX := a_pairX) (a_pairY := a_pairY) (a_stack := a_stack) (a_met := a_met) (a_metAs := a_metAs) (a_copies := a_copies) (a_meetings := a_meetings) (a_wasMeeting := a_wasMeeting) (a_firstMet := a_firstMet) (a_depths := a_depths) (a_isKept := a_isKept) hn post hp⟩
  · refine ⟨upd a_held 584 (nI (n + 1)), ⟨n, hn, e, pk_us, fun z => absurd z q, fun i h1 h2 => pk_un h1⟩, fun post hp => ?_⟩
    unfold wpX_note
    simp (disch := omega) only [forall_eq, true_and, and_true, Nat.zero_add, nI_clamp, li_vin, nI_add, nI_eq, nI_leI, nI_ltI, li_0le, li_lt0, li_nn1, li_e0, not_true_eq_false, not_false_eq_true, false_implies, true_implies, forall_const, li_a0, li_b0, li_a1, li_b1, li_a2, li_b2, li_a3, li_b3, li_a7, li_b7, li_a8, li_b8, li_a16, li_b16, li_a48, li_b48, li_a584, li_b584, li_a572, li_b572, li_a96, li_b96, li_a144, li_b144, li_a192, li_b192, li_a240, li_b240, li_a336, li_b336, li_a384, li_b384, li_a432, li_b432, li_a480, li_b480, li_a488, li_b488, li_a496, li_b496, li_a504, li_b504, li_a512, li_b512, li_a520, li_b520, li_a524, li_b524, li_a528, li_b528, li_a536, li_b536, li_a544, li_b544, li_a552, li_b552, li_a560, li_b560, li_a568, li_b568, li_a573, li_b573, li_a585, li_b585, li_a633, li_b633, li_m3, li_n3, li_m4, li_n4, li_m48, li_n48, li_m50, li_n50, li_m585, li_n585, li_m633, li_n633, li_lt2, li_ge2, li_le2, li_gt2, li_lt1, li_ge1, li_le1, li_gt1, li_lt3, li_ge3, li_le3, li_gt3, li_lt4, li_ge4, li_le4, li_gt4, li_lt7, li_ge7, li_le7, li_gt7, li_lt8, li_ge8, li_le8, li_gt8, li_lt40, li_ge40, li_le40, li_gt40, li_lt240, li_ge240, li_le240, li_gt240, li_lt41, li_ge41, li_le41, li_gt41, li_lt48, li_ge48, li_le48, li_gt48, li_lt49, li_ge49, li_le49, li_gt49, li_lt60, li_ge60, li_le60, li_gt60, li_lt144, li_ge144, li_le144, li_gt144, li_lt145, li_ge145, li_le145, li_gt145, li_lt160, li_ge160, li_le160, li_gt160, li_lt336, li_ge336, li_le336, li_gt336, li_lt585, li_ge585, li_le585, li_gt585, li_lt633, li_ge633, li_le633, li_gt633, li_lt1000000, li_ge1000000, li_le1000000, li_gt1000000, li_lt2304, li_ge2304, li_le2304, li_gt2304, li_lt50, li_ge50, li_le50, li_gt50, li_le0, li_gt0, e]
    exact ⟨fun _ => xw_note_26 (f_trials := f_trials) (f_drafted := f_drafted) (f_pairs := f_pairs) (f_metCount := f_metCount) (f_meetingCount := f_meetingCount) (a_held := a_held) (a_saved := a_saved) (a_draft := a_draft) (a_toldBefore := a_toldBefore) (a_pairX := a_pairX) (a_pairY := a_pairY) (a_stack := a_stack) (a_met := a_met) (a_metAs := a_metAs) (a_copies := a_copies) (a_meetings := a_meetings) (a_wasMeeting := a_wasMeeting) (a_firstMet := a_firstMet) (a_depths := a_depths) (a_isKept := a_isKept) hn post hp, fun z => by omega⟩
