def kx_I (a b : Nat → Int32) : Prop := ∀ c, c < 48 → b c = 0 ∨ (b c = 1 ∧ xv_U a c ∧ xv_L a c = c ∧ kp_K a c)
def kx_m (b b' : Nat → Int32) : Prop := ∀ c, b c = 1 → b' c = 1
theorem xw_keep {f_trials f_drafted f_pairs f_metCount f_meetingCount : Int32} {a_held a_saved a_draft a_toldBefore a_pairX a_pairY a_stack a_met a_metAs a_copies a_meetings a_wasMeeting a_firstMet a_depths a_isKept : Nat → Int32} (g : xv_G a_held) {v : Int32} (hv : v = -1 ∨ ∃ x, xv_U a_held x ∧ v = nI x ∧ kp_K a_held (xv_L a_held x)) (hI : kx_I a_held a_isKept) : ∃ b : Nat → Int32, kx_I a_held b ∧ kx_m a_isKept b ∧ (∀ x, xv_U a_held x → v = nI x → b (xv_L a_held x) = 1) ∧ (∀ c, b c = 1 → a_isKept c = 1 ∨ ∃ x, xv_U a_held x ∧ v = nI x ∧ c = xv_L a_held x) ∧ ∀ post : SX → Prop, post (f_trials, f_drafted, f_pairs, f_metCount, f_meetingCount, a_held, a_saved, a_draft, a_toldBefore, a_pairX, a_pairY, a_stack, a_met, a_metAs, a_copies, a_meetings, a_wasMeeting, a_firstMet, a_depths, b) → wpX_keepWithSame post (f_trials, f_drafted, f_pairs, f_metCount, f_meetingCount, a_held, a_saved, a_draft, a_toldBefore, a_pairX, a_pairY, a_stack, a_met, a_metAs, a_copies, a_meetings, a_wasMeeting, a_firstMet, a_depths, a_isKept) v := by
  rcases hv with z | ⟨x, ux, rfl, kx⟩
  · refine ⟨a_isKept, hI, fun _ h => h, fun x ux e => ?_, fun c h => Or.inl h, fun post hp => ?_⟩
    · have x48 := ux.1
      rw [z] at e
      exact ((li_nn1 (by omega)).mp e.symm).elim
    · unfold wpX_keepWithSame
      exact br_t z hp
  · have x48 := ux.1
    obtain ⟨eL, lL⟩ := xv_HL g.1 x48
    have w := g.2.1 x ux
    refine ⟨upd a_isKept (xv_L a_held x) 1, fun c hc => ?_, fun c h => ?_, fun y uy e => ?_, fun c h => ?_, fun post hp => ?_⟩
    · by_cases e : c = xv_L a_held x
      · rw [e, pk_us]; exact Or.inr ⟨rfl, w.2.1, w.2.2.1, kx⟩
      · rw [pk_un e]; exact hI c hc
    · by_cases e : c = xv_L a_held x
      · rw [e, pk_us]
      · rw [pk_un e]; exact h
    · have y48 := uy.1
      have : x = y := (nI_eq (by omega) (by omega)).mp e
      rw [← this, pk_us]
    · by_cases e : c = xv_L a_held x
      · exact Or.inr ⟨x, ux, rfl, e⟩
      · rw [pk_un e] at h; exact Or.inl h
    · unfold wpX_keepWithSame
      simp (disch := omega) only [forall_eq, true_and, and_true, Nat.zero_add, nI_clamp, li_vin, nI_add, nI_eq, nI_leI, nI_ltI, li_0le, li_lt0, li_nn1, li_e0, not_true_eq_false, not_false_eq_true, false_implies, true_implies, forall_const, li_a0, li_b0, li_a1, li_b1, li_a2, li_b2, li_a3, li_b3, li_a7, li_b7, li_a8, li_b8, li_a16, li_b16, li_a48, li_b48, li_a584, li_b584, li_a572, li_b572, li_a96, li_b96, li_a144, li_b144, li_a192, li_b192, li_a240, li_b240, li_a336, li_b336, li_a384, li_b384, li_a432, li_b432, li_a480, li_b480, li_a488, li_b488, li_a496, li_b496, li_a504, li_b504, li_a512, li_b512, li_a520, li_b520, li_a524, li_b524, li_a528, li_b528, li_a536, li_b536, li_a544, li_b544, li_a552, li_b552, li_a560, li_b560, li_a568, li_b568, li_a573, li_b573, li_a585, li_b585, li_a633, li_b633, li_m3, li_n3, li_m4, li_n4, li_m48, li_n48, li_m50, li_n50, li_m585, li_n585, li_m633, li_n633, li_lt2, li_ge2, li_le2, li_gt2, li_lt1, li_ge1, li_le1, li_gt1, li_lt3, li_ge3, li_le3, li_gt3, li_lt4, li_ge4, li_le4, li_gt4, li_lt7, li_ge7, li_le7, li_gt7, li_lt8, li_ge8, li_le8, li_gt8, li_lt40, li_ge40, li_le40, li_gt40, li_lt240, li_ge240, li_le240, li_gt240, li_lt41, li_ge41, li_le41, li_gt41, li_lt48, li_ge48, li_le48, li_gt48, li_lt49, li_ge49, li_le49, li_gt49, li_lt60, li_ge60, li_le60, li_gt60, li_lt144, li_ge144, li_le144, li_gt144, li_lt145, li_ge145, li_le145, li_gt145, li_lt160, li_ge160, li_le160, li_gt160, li_lt336, li_ge336, li_le336, li_gt336, li_lt585, li_ge585, li_le585, li_gt585, li_lt633, li_ge633, li_le633, li_gt633, li_lt1000000, li_ge1000000, li_le1000000, li_gt1000000, li_lt2304, li_ge2304, li_le2304, li_gt2304, li_lt50, li_ge50, li_le50, li_gt50, li_le0, li_gt0, eL, nr_1]
      exact hp
theorem xw_mark_139 {f_trials f_drafted f_pairs f_metCount f_meetingCount : Int32} {a_held a_saved a_draft a_toldBefore a_pairX a_pairY a_stack a_met a_metAs a_copies a_meetings a_wasMeeting a_firstMet a_depths a_isKept : Nat → Int32} {B : Nat} {s : Nat → Int32} (hr : re_P B a_held s) : ∀ d j (a_isKept : Nat → Int32), j + d = 8 → kx_I a_held a_isKept → ∃ b : Nat → Int32, kx_I a_held b ∧ kx_m a_isKept b ∧ (∀ k x, j ≤ k → k < 8 → xv_U a_held x → (a_held (504 + k) = nI x ∨ a_held (512 + k) = nI x) → b (xv_L a_held x) = 1) ∧ ∀ post : SX → Prop, post (f_trials, f_drafted, f_pairs, f_metCount, f_meetingCount, a_held, a_saved, a_draft, a_toldBefore, a_pairX, a_pairY, a_stack, a_met, a_metAs, a_copies, a_meetings, a_wasMeeting, a_firstMet, a_depths, b) → wX_markKept_139 post (d + 1) (nI j) f_trials f_drafted f_pairs f_metCount f_meetingCount a_held a_saved a_draft a_toldBefore a_pairX a_pairY a_stack a_met a_metAs a_copies a_meetings a_wasMeeting a_firstMet a_depths a_isKept := by
  have g := re_G hr
  have N := hr.2.2.2.2.2
  intro d
  induction d with
  | zero =>
    intro j b hj hI
    refine ⟨b, hI, fun _ h => h, fun k x h1 h2 => by omega, fun post hp => ?_⟩
    unfold wX_markKept_139
    simp (disch := omega) only [forall_eq, true_and, and_true, Nat.zero_add, nI_clamp, li_vin, nI_add, nI_eq, nI_leI, nI_ltI, li_0le, li_lt0, li_nn1, li_e0, not_true_eq_false, not_false_eq_true, false_implies, true_implies, forall_const, li_a0, li_b0, li_a1, li_b1, li_a2, li_b2, li_a3, li_b3, li_a7, li_b7, li_a8, li_b8, li_a16, li_b16, li_a48, li_b48, li_a584, li_b584, li_a572, li_b572, li_a96, li_b96, li_a144, li_b144, li_a192, li_b192, li_a240, li_b240, li_a336, li_b336, li_a384, li_b384, li_a432, li_b432, li_a480, li_b480, li_a488, li_b488, li_a496, li_b496, li_a504, li_b504, li_a512, li_b512, li_a520, li_b520, li_a524, li_b524, li_a528, li_b528, li_a536, li_b536, li_a544, li_b544, li_a552, li_b552, li_a560, li_b560, li_a568, li_b568, li_a573, li_b573, li_a585, li_b585, li_a633, li_b633, li_m3, li_n3, li_m4, li_n4, li_m48, li_n48, li_m50, li_n50, li_m585, li_n585, li_m633, li_n633, li_lt2, li_ge2, li_le2, li_gt2, li_lt1, li_ge1, li_le1, li_gt1, li_lt3, li_ge3, li_le3, li_gt3, li_lt4, li_ge4, li_le4, li_gt4, li_lt7, li_ge7, li_le7, li_gt7, li_lt8, li_ge8, li_le8, li_gt8, li_lt40, li_ge40, li_le40, li_gt40, li_lt240, li_ge240, li_le240, li_gt240, li_lt41, li_ge41, li_le41, li_gt41, li_lt48, li_ge48, li_le48, li_gt48, li_lt49, li_ge49, li_le49, li_gt49, li_lt60, li_ge60, li_le60, li_gt60, li_lt144, li_ge144, li_le144, li_gt144, li_lt145, li_ge145, li_le145, li_gt145, li_lt160, li_ge160, li_le160, li_gt160, li_lt336, li_ge336, li_le336, li_gt336, li_lt585, li_ge585, li_le585, li_gt585, li_lt633, li_ge633, li_le633, li_gt633, li_lt1000000, li_ge1000000, li_le1000000, li_gt1000000, li_lt2304, li_ge2304, li_le2304, li_gt2304, li_lt50, li_ge50, li_le50, li_gt50, li_le0, li_gt0]
    exact ⟨fun _ => hp, fun q => by omega⟩
  | succ d ih =>
    intro j b hj hI
    have o := (N.2.2.2.1 j (by omega)).2
    have o1 : a_held (504 + j) = -1 ∨ ∃ x, xv_U a_held x ∧ a_held (504 + j) = nI x ∧ kp_K a_held (xv_L a_held x) := by
      rcases o with o | ⟨x, y, ux, uy, e1, e2, _⟩
      · exact Or.inl o.1
      · exact Or.inr ⟨x, ux, e1, kp_root ⟨ux, Or.inr (Or.inr (Or.inr ⟨j, by omega, Or.inl e1⟩))⟩⟩
    have o2 : a_held (512 + j) = -1 ∨ ∃ x, xv_U a_held x ∧ a_held (512 + j) = nI x ∧ kp_K a_held (xv_L a_held x) := by
      rcases o with o | ⟨x, y, ux, uy, e1, e2, _⟩
      · exact Or.inl o.2
      · exact Or.inr ⟨y, uy, e2, kp_root ⟨uy, Or.inr (Or.inr (Or.inr ⟨j, by omega, Or.inr e2⟩))⟩⟩
    obtain ⟨b1, p1, p2, p3, _, p4⟩ := xw_keep (f_trials := f_trials) (f_drafted := f_drafted) (f_pairs := f_pairs) (f_metCount := f_metCount) (f_meetingCount := f_meetingCount) (a_held := a_held) (a_saved := a_saved) (a_draft := a_draft) (a_toldBefore := a_toldBefore) (a_pairX := a_pairX) (a_pairY := a_pairY) (a_stack := a_stack) (a_met := a_met) (a_metAs := a_metAs) (a_copies := a_copies) (a_meetings := a_meetings) (a_wasMeeting := a_wasMeeting) (a_firstMet := a_firstMet) (a_depths := a_depths) (a_isKept := b) g o1 hI
    obtain ⟨b2, q1, q2, q3, _, q4⟩ := xw_keep (f_trials := f_trials) (f_drafted := f_drafted) (f_pairs := f_pairs) (f_metCount := f_metCount) (f_meetingCount := f_meetingCount) (a_held := a_held) (a_saved := a_saved) (a_draft := a_draft) (a_toldBefore := a_toldBefore) (a_pairX := a_pairX) (a_pairY := a_pairY) (a_stack := a_stack) (a_met := a_met) (a_metAs := a_metAs) (a_copies := a_copies) (a_meetings := a_meetings) (a_wasMeeting := a_wasMeeting) (a_firstMet := a_firstMet) (a_depths := a_depths) (a_isKept := b1) g o2 p1
    obtain ⟨b3, r1, r2, r3, r4⟩ := ih (j + 1) b2 (by omega) q1
    refine ⟨b3, r1, fun c h => r2 c (q2 c (p2 c h)), fun k x k1 k2 ux e => ?_, fun post hp => ?_⟩
    · by_cases ek : k = j
      · rw [ek] at e
        rcases e with e | e
        · exact r2 _ (q2 _ (p3 x ux e))
        · exact r2 _ (q3 x ux e)
      · exact r3 k x (by omega) k2 ux e
    · rw [wX_markKept_139]
      dsimp only
      simp (disch := omega) only [forall_eq, true_and, and_true, Nat.zero_add, nI_clamp, li_vin, nI_add, nI_eq, nI_leI, nI_ltI, li_0le, li_lt0, li_nn1, li_e0, not_true_eq_false, not_false_eq_true, false_implies, true_implies, forall_const, li_a0, li_b0, li_a1, li_b1, li_a2, li_b2, li_a3, li_b3, li_a7, li_b7, li_a8, li_b8, li_a16, li_b16, li_a48, li_b48, li_a584, li_b584, li_a572, li_b572, li_a96, li_b96, li_a144, li_b144, li_a192, li_b192, li_a240, li_b240, li_a336, li_b336, li_a384, li_b384, li_a432, li_b432, li_a480, li_b480, li_a488, li_b488, li_a496, li_b496, li_a504, li_b504, li_a512, li_b512, li_a520, li_b520, li_a524, li_b524, li_a528, li_b528, li_a536, li_b536, li_a544, li_b544, li_a552, li_b552, li_a560, li_b560, li_a568, li_b568, li_a573, li_b573, li_a585, li_b585, li_a633, li_b633, li_m3, li_n3, li_m4, li_n4, li_m48, li_n48, li_m50, li_n50, li_m585, li_n585, li_m633, li_n633, li_lt2, li_ge2, li_le2, li_gt2, li_lt1, li_ge1, li_le1, li_gt1, li_lt3, li_ge3, li_le3, li_gt3, li_lt4, li_ge4, li_le4, li_gt4, li_lt7, li_ge7, li_le7, li_gt7, li_lt8, li_ge8, li_le8, li_gt8, li_lt40, li_ge40, li_le40, li_gt40, li_lt240, li_ge240, li_le240, li_gt240, li_lt41, li_ge41, li_le41, li_gt41, li_lt48, li_ge48, li_le48, li_gt48, li_lt49, li_ge49, li_le49, li_gt49, li_lt60, li_ge60, li_le60, li_gt60, li_lt144, li_ge144, li_le144, li_gt144, li_lt145, li_ge145, li_le145, li_gt145, li_lt160, li_ge160, li_le160, li_gt160, li_lt336, li_ge336, li_le336, li_gt336, li_lt585, li_ge585, li_le585, li_gt585, li_lt633, li_ge633, li_le633, li_gt633, li_lt1000000, li_ge1000000, li_le1000000, li_gt1000000, li_lt2304, li_ge2304, li_le2304, li_gt2304, li_lt50, li_ge50, li_le50, li_gt50, li_le0, li_gt0]
      exact ⟨fun q => by omega, fun _ => p4 _ (q4 _ (r4 post hp))⟩
theorem xw_mark_83 {f_trials f_drafted f_pairs f_metCount f_meetingCount : Int32} {a_held a_saved a_draft a_toldBefore a_pairX a_pairY a_stack a_met a_metAs a_copies a_meetings a_wasMeeting a_firstMet a_depths a_isKept : Nat → Int32} {B : Nat} {s : Nat → Int32} (hr : re_P B a_held s) : ∀ d j (a_isKept : Nat → Int32), j + d = 8 → kx_I a_held a_isKept → ∃ b : Nat → Int32, kx_I a_held b ∧ kx_m a_isKept b ∧ (∀ k x, j ≤ k → k < 8 → xv_U a_held x → a_held (480 + k) = 3 → (a_held (488 + k) = nI x ∨ a_held (496 + k) = nI x) → b (xv_L a_held x) = 1) ∧ (∀ k x, k < 8 → xv_U a_held x → (a_held (504 + k) = nI x ∨ a_held (512 + k) = nI x) → b (xv_L a_held x) = 1) ∧ ∀ post : SX → Prop, post (f_trials, f_drafted, f_pairs, f_metCount, f_meetingCount, a_held, a_saved, a_draft, a_toldBefore, a_pairX, a_pairY, a_stack, a_met, a_metAs, a_copies, a_meetings, a_wasMeeting, a_firstMet, a_depths, b) → wX_markKept_83 post (d + 1) (nI j) f_trials f_drafted f_pairs f_metCount f_meetingCount a_held a_saved a_draft a_toldBefore a_pairX a_pairY a_stack a_met a_metAs a_copies a_meetings a_wasMeeting a_firstMet a_depths a_isKept := by
  have g := re_G hr
  have N := hr.2.2.2.2.2
  intro d
  induction d with
  | zero =>
    intro j b hj hI
    obtain ⟨b3, r1, r2, r3, r4⟩ := xw_mark_139 (f_trials := f_trials) (f_drafted := f_drafted) (f_pairs := f_pairs) (f_metCount := f_metCount) (f_meetingCount := f_meetingCount) (a_held := a_held) (a_saved := a_saved) (a_draft := a_draft) (a_toldBefore := a_toldBefore) (a_pairX := a_pairX) (a_pairY := a_pairY) (a_stack := a_stack) (a_met := a_met) (a_metAs := a_metAs) (a_copies := a_copies) (a_meetings := a_meetings) (a_wasMeeting := a_wasMeeting) (a_firstMet := a_firstMet) (a_depths := a_depths) (a_isKept := a_isKept) hr 8 0 b rfl hI
    refine ⟨b3, r1, r2, fun k x h1 h2 => by omega, fun k x h2 => r3 k x (by omega) h2, fun post hp => ?_⟩
    unfold wX_markKept_83
    simp (disch := omega) only [forall_eq, true_and, and_true, Nat.zero_add, nI_clamp, li_vin, nI_add, nI_eq, nI_leI, nI_ltI, li_0le, li_lt0, li_nn1, li_e0, not_true_eq_false, not_false_eq_true, false_implies, true_implies, forall_const, li_a0, li_b0, li_a1, li_b1, li_a2, li_b2, li_a3, li_b3, li_a7, li_b7, li_a8, li_b8, li_a16, li_b16, li_a48, li_b48, li_a584, li_b584, li_a572, li_b572, li_a96, li_b96, li_a144, li_b144, li_a192, li_b192, li_a240, li_b240, li_a336, li_b336, li_a384, li_b384, li_a432, li_b432, li_a480, li_b480, li_a488, li_b488, li_a496, li_b496, li_a504, li_b504, li_a512, li_b512, li_a520, li_b520, li_a524, li_b524, li_a528, li_b528, li_a536, li_b536, li_a544, li_b544, li_a552, li_b552, li_a560, li_b560, li_a568, li_b568, li_a573, li_b573, li_a585, li_b585, li_a633, li_b633, li_m3, li_n3, li_m4, li_n4, li_m48, li_n48, li_m50, li_n50, li_m585, li_n585, li_m633, li_n633, li_lt2, li_ge2, li_le2, li_gt2, li_lt1, li_ge1, li_le1, li_gt1, li_lt3, li_ge3, li_le3, li_gt3, li_lt4, li_ge4, li_le4, li_gt4, li_lt7, li_ge7, li_le7, li_gt7, li_lt8, li_ge8, li_le8, li_gt8, li_lt40, li_ge40, li_le40, li_gt40, li_lt240, li_ge240, li_le240, li_gt240, li_lt41, li_ge41, li_le41, li_gt41, li_lt48, li_ge48, li_le48, li_gt48, li_lt49, li_ge49, li_le49, li_gt49, li_lt60, li_ge60, li_le60, li_gt60, li_lt144, li_ge144, li_le144, li_gt144, li_lt145, li_ge145, li_le145, li_gt145, li_lt160, li_ge160, li_le160, li_gt160, li_lt336, li_ge336, li_le336, li_gt336, li_lt585, li_ge585, li_le585, li_gt585, li_lt633, li_ge633, li_le633, li_gt633, li_lt1000000, li_ge1000000, li_le1000000, li_gt1000000, li_lt2304, li_ge2304, li_le2304, li_gt2304, li_lt50, li_ge50, li_le50, li_gt50, li_le0, li_gt0]
    exact ⟨fun _ => ⟨_, r4 post hp⟩, fun q => by omega⟩
  | succ d ih =>
    intro j b hj hI
    by_cases w : a_held (480 + j) = 3
    · obtain ⟨⟨x, ux, e1⟩, o⟩ := (N.2.2.1 j (by omega)).2.2.2 w
      have o1 : a_held (488 + j) = -1 ∨ ∃ x, xv_U a_held x ∧ a_held (488 + j) = nI x ∧ kp_K a_held (xv_L a_held x) := Or.inr ⟨x, ux, e1, kp_root ⟨ux, Or.inr (Or.inr (Or.inl ⟨j, by omega, w, Or.inl e1⟩))⟩⟩
      have o2 : a_held (496 + j) = -1 ∨ ∃ x, xv_U a_held x ∧ a_held (496 + j) = nI x ∧ kp_K a_held (xv_L a_held x) := by
        rcases o with o | ⟨y, uy, e2⟩
        · exact Or.inl o
        · exact Or.inr ⟨y, uy, e2, kp_root ⟨uy, Or.inr (Or.inr (Or.inl ⟨j, by omega, w, Or.inr e2⟩))⟩⟩
      obtain ⟨b1, p1, p2, p3, _, p4⟩ := xw_keep (f_trials := f_trials) (f_drafted := f_drafted) (f_pairs := f_pairs) (f_metCount := f_metCount) (f_meetingCount := f_meetingCount) (a_held := a_held) (a_saved := a_saved) (a_draft := a_draft) (a_toldBefore := a_toldBefore) (a_pairX := a_pairX) (a_pairY := a_pairY) (a_stack := a_stack) (a_met := a_met) (a_metAs := a_metAs) (a_copies := a_copies) (a_meetings := a_meetings) (a_wasMeeting := a_wasMeeting) (a_firstMet := a_firstMet) (a_depths := a_depths) (a_isKept := b) g o1 hI
      obtain ⟨b2, q1, q2, q3, _, q4⟩ := xw_keep (f_trials := f_trials) (f_drafted := f_drafted) (f_pairs := f_pairs) (f_metCount := f_metCount) (f_meetingCount := f_meetingCount) (a_held := a_held) (a_saved := a_saved) (a_draft := a_draft) (a_toldBefore := a_toldBefore) (a_pairX := a_pairX) (a_pairY := a_pairY) (a_stack := a_stack) (a_met := a_met) (a_metAs := a_metAs) (a_copies := a_copies) (a_meetings := a_meetings) (a_wasMeeting := a_wasMeeting) (a_firstMet := a_firstMet) (a_depths := a_depths) (a_isKept := b1) g o2 p1
      obtain ⟨b3, r1, r2, r3, r5, r4⟩ := ih (j + 1) b2 (by omega) q1
      refine ⟨b3, r1, fun c h => r2 c (q2 c (p2 c h)), fun k x k1 k2 ux w' e => ?_, r5, fun post hp => ?_⟩
      · by_cases ek : k = j
        · rw [ek] at e
          rcases e with e | e
          · exact r2 _ (q2 _ (p3 x ux e))
          · exact r2 _ (q3 x ux e)
        · exact r3 k x (by omega) k2 ux w' e
      · rw [wX_markKept_83]
        dsimp only
        simp (disch := omega) only [forall_eq, true_and, and_true, Nat.zero_add, nI_clamp, li_vin, nI_add, nI_eq, nI_leI, nI_ltI, li_0le, li_lt0, li_nn1, li_e0, not_true_eq_false, not_false_eq_true, false_implies, true_implies, forall_const, li_a0, li_b0, li_a1, li_b1, li_a2, li_b2, li_a3, li_b3, li_a7, li_b7, li_a8, li_b8, li_a16, li_b16, li_a48, li_b48, li_a584, li_b584, li_a572, li_b572, li_a96, li_b96, li_a144, li_b144, li_a192, li_b192, li_a240, li_b240, li_a336, li_b336, li_a384, li_b384, li_a432, li_b432, li_a480, li_b480, li_a488, li_b488, li_a496, li_b496, li_a504, li_b504, li_a512, li_b512, li_a520, li_b520, li_a524, li_b524, li_a528, li_b528, li_a536, li_b536, li_a544, li_b544, li_a552, li_b552, li_a560, li_b560, li_a568, li_b568, li_a573, li_b573, li_a585, li_b585, li_a633, li_b633, li_m3, li_n3, li_m4, li_n4, li_m48, li_n48, li_m50, li_n50, li_m585, li_n585, li_m633, li_n633, li_lt2, li_ge2, li_le2, li_gt2, li_lt1, li_ge1, li_le1, li_gt1, li_lt3, li_ge3, li_le3, li_gt3, li_lt4, li_ge4, li_le4, li_gt4, li_lt7, li_ge7, li_le7, li_gt7, li_lt8, li_ge8, li_le8, li_gt8, li_lt40, li_ge40, li_le40, li_gt40, li_lt240, li_ge240, li_le240, li_gt240, li_lt41, li_ge41, li_le41, li_gt41, li_lt48, li_ge48, li_le48, li_gt48, li_lt49, li_ge49, li_le49, li_gt49, li_lt60, li_ge60, li_le60, li_gt60, li_lt144, li_ge144, li_le144, li_gt144, li_lt145, li_ge145, li_le145, li_gt145, li_lt160, li_ge160, li_le160, li_gt160, li_lt336, li_ge336, li_le336, li_gt336, li_lt585, li_ge585, li_le585, li_gt585, li_lt633, li_ge633, li_le633, li_gt633, li_lt1000000, li_ge1000000, li_le1000000, li_gt1000000, li_lt2304, li_ge2304, li_le2304, li_gt2304, li_lt50, li_ge50, li_le50, li_gt50, li_le0, li_gt0, w]
        exact ⟨fun q => by omega, fun _ => p4 _ (q4 _ (r4 post hp))⟩
    · obtain ⟨b3, r1, r2, r3, r5, r4⟩ := ih (j + 1) b (by omega) hI
      refine ⟨b3, r1, r2, fun k x k1 k2 ux w' e => ?_, r5, fun post hp => ?_⟩
      · by_cases ek : k = j
        · rw [ek] at w'; exact absurd w' w
        · exact r3 k x (by omega) k2 ux w' e
      · rw [wX_markKept_83]
        dsimp only
        simp (disch := omega) only [forall_eq, true_and, and_true, Nat.zero_add, nI_clamp, li_vin, nI_add, nI_eq, nI_leI, nI_ltI, li_0le, li_lt0, li_nn1, li_e0, not_true_eq_false, not_false_eq_true, false_implies, true_implies, forall_const, li_a0, li_b0, li_a1, li_b1, li_a2, li_b2, li_a3, li_b3, li_a7, li_b7, li_a8, li_b8, li_a16, li_b16, li_a48, li_b48, li_a584, li_b584, li_a572, li_b572, li_a96, li_b96, li_a144, li_b144, li_a192, li_b192, li_a240, li_b240, li_a336, li_b336, li_a384, li_b384, li_a432, li_b432, li_a480, li_b480, li_a488, li_b488, li_a496, li_b496, li_a504, li_b504, li_a512, li_b512, li_a520, li_b520, li_a524, li_b524, li_a528, li_b528, li_a536, li_b536, li_a544, li_b544, li_a552, li_b552, li_a560, li_b560, li_a568, li_b568, li_a573, li_b573, li_a585, li_b585, li_a633, li_b633, li_m3, li_n3, li_m4, li_n4, li_m48, li_n48, li_m50, li_n50, li_m585, li_n585, li_m633, li_n633, li_lt2, li_ge2, li_le2, li_gt2, li_lt1, li_ge1, li_le1, li_gt1, li_lt3, li_ge3, li_le3, li_gt3, li_lt4, li_ge4, li_le4, li_gt4, li_lt7, li_ge7, li_le7, li_gt7, li_lt8, li_ge8, li_le8, li_gt8, li_lt40, li_ge40, li_le40, li_gt40, li_lt240, li_ge240, li_le240, li_gt240, li_lt41, li_ge41, li_le41, li_gt41, li_lt48, li_ge48, li_le48, li_gt48, li_lt49, li_ge49, li_le49, li_gt49, li_lt60, li_ge60, li_le60, li_gt60, li_lt144, li_ge144, li_le144, li_gt144, li_lt145, li_ge145, li_le145, li_gt145, li_lt160, li_ge160, li_le160, li_gt160, li_lt336, li_ge336, li_le336, li_gt336, li_lt585, li_ge585, li_le585, li_gt585, li_lt633, li_ge633, li_le633, li_gt633, li_lt1000000, li_ge1000000, li_le1000000, li_gt1000000, li_lt2304, li_ge2304, li_le2304, li_gt2304, li_lt50, li_ge50, li_le50, li_gt50, li_le0, li_gt0]
        exact ⟨fun q => by omega, fun _ => br_f w (r4 post hp)⟩
theorem xw_mark_56 {f_trials f_drafted f_pairs f_metCount f_meetingCount : Int32} {a_held a_saved a_draft a_toldBefore a_pairX a_pairY a_stack a_met a_metAs a_copies a_meetings a_wasMeeting a_firstMet a_depths a_isKept : Nat → Int32} {B : Nat} {s : Nat → Int32} (hr : re_P B a_held s) : ∀ d j (a_isKept : Nat → Int32), j + d = 4 → kx_I a_held a_isKept → ∃ b : Nat → Int32, kx_I a_held b ∧ kx_m a_isKept b ∧ (∀ k x, j ≤ k → k < 4 → xv_U a_held x → a_held (520 + k) = nI x → b (xv_L a_held x) = 1) ∧ (∀ k x, k < 8 → xv_U a_held x → a_held (480 + k) = 3 → (a_held (488 + k) = nI x ∨ a_held (496 + k) = nI x) → b (xv_L a_held x) = 1) ∧ (∀ k x, k < 8 → xv_U a_held x → (a_held (504 + k) = nI x ∨ a_held (512 + k) = nI x) → b (xv_L a_held x) = 1) ∧ ∀ post : SX → Prop, post (f_trials, f_drafted, f_pairs, f_metCount, f_meetingCount, a_held, a_saved, a_draft, a_toldBefore, a_pairX, a_pairY, a_stack, a_met, a_metAs, a_copies, a_meetings, a_wasMeeting, a_firstMet, a_depths, b) → wX_markKept_56 post (d + 1) (nI j) f_trials f_drafted f_pairs f_metCount f_meetingCount a_held a_saved a_draft a_toldBefore a_pairX a_pairY a_stack a_met a_metAs a_copies a_meetings a_wasMeeting a_firstMet a_depths a_isKept := by
  have g := re_G hr
  have N := hr.2.2.2.2.2
  intro d
  induction d with
  | zero =>
    intro j b hj hI
    obtain ⟨b3, r1, r2, r3, r5, r4⟩ := xw_mark_83 (f_trials := f_trials) (f_drafted := f_drafted) (f_pairs := f_pairs) (f_metCount := f_metCount) (f_meetingCount := f_meetingCount) (a_held := a_held) (a_saved := a_saved) (a_draft := a_draft) (a_toldBefore := a_toldBefore) (a_pairX := a_pairX) (a_pairY := a_pairY) (a_stack := a_stack) (a_met := a_met) (a_metAs := a_metAs) (a_copies := a_copies) (a_meetings := a_meetings) (a_wasMeeting := a_wasMeeting) (a_firstMet := a_firstMet) (a_depths := a_depths) (a_isKept := a_isKept) hr 8 0 b rfl hI
    refine ⟨b3, r1, r2, fun k x h1 h2 => by omega, fun k x h2 => r3 k x (by omega) h2, r5, fun post hp => ?_⟩
    unfold wX_markKept_56
    simp (disch := omega) only [forall_eq, true_and, and_true, Nat.zero_add, nI_clamp, li_vin, nI_add, nI_eq, nI_leI, nI_ltI, li_0le, li_lt0, li_nn1, li_e0, not_true_eq_false, not_false_eq_true, false_implies, true_implies, forall_const, li_a0, li_b0, li_a1, li_b1, li_a2, li_b2, li_a3, li_b3, li_a7, li_b7, li_a8, li_b8, li_a16, li_b16, li_a48, li_b48, li_a584, li_b584, li_a572, li_b572, li_a96, li_b96, li_a144, li_b144, li_a192, li_b192, li_a240, li_b240, li_a336, li_b336, li_a384, li_b384, li_a432, li_b432, li_a480, li_b480, li_a488, li_b488, li_a496, li_b496, li_a504, li_b504, li_a512, li_b512, li_a520, li_b520, li_a524, li_b524, li_a528, li_b528, li_a536, li_b536, li_a544, li_b544, li_a552, li_b552, li_a560, li_b560, li_a568, li_b568, li_a573, li_b573, li_a585, li_b585, li_a633, li_b633, li_m3, li_n3, li_m4, li_n4, li_m48, li_n48, li_m50, li_n50, li_m585, li_n585, li_m633, li_n633, li_lt2, li_ge2, li_le2, li_gt2, li_lt1, li_ge1, li_le1, li_gt1, li_lt3, li_ge3, li_le3, li_gt3, li_lt4, li_ge4, li_le4, li_gt4, li_lt7, li_ge7, li_le7, li_gt7, li_lt8, li_ge8, li_le8, li_gt8, li_lt40, li_ge40, li_le40, li_gt40, li_lt240, li_ge240, li_le240, li_gt240, li_lt41, li_ge41, li_le41, li_gt41, li_lt48, li_ge48, li_le48, li_gt48, li_lt49, li_ge49, li_le49, li_gt49, li_lt60, li_ge60, li_le60, li_gt60, li_lt144, li_ge144, li_le144, li_gt144, li_lt145, li_ge145, li_le145, li_gt145, li_lt160, li_ge160, li_le160, li_gt160, li_lt336, li_ge336, li_le336, li_gt336, li_lt585, li_ge585, li_le585, li_gt585, li_lt633, li_ge633, li_le633, li_gt633, li_lt1000000, li_ge1000000, li_le1000000, li_gt1000000, li_lt2304, li_ge2304, li_le2304, li_gt2304, li_lt50, li_ge50, li_le50, li_gt50, li_le0, li_gt0]
    exact ⟨fun _ => ⟨_, r4 post hp⟩, fun q => by omega⟩
  | succ d ih =>
    intro j b hj hI
    have o1 : a_held (520 + j) = -1 ∨ ∃ x, xv_U a_held x ∧ a_held (520 + j) = nI x ∧ kp_K a_held (xv_L a_held x) := by
      rcases (N.2.2.2.2.1 j (by omega)).2 with o | ⟨x, ux, e⟩
      · exact Or.inl o
      · exact Or.inr ⟨x, ux, e, kp_root ⟨ux, Or.inr (Or.inl ⟨j, by omega, e⟩)⟩⟩
    obtain ⟨b1, p1, p2, p3, _, p4⟩ := xw_keep (f_trials := f_trials) (f_drafted := f_drafted) (f_pairs := f_pairs) (f_metCount := f_metCount) (f_meetingCount := f_meetingCount) (a_held := a_held) (a_saved := a_saved) (a_draft := a_draft) (a_toldBefore := a_toldBefore) (a_pairX := a_pairX) (a_pairY := a_pairY) (a_stack := a_stack) (a_met := a_met) (a_metAs := a_metAs) (a_copies := a_copies) (a_meetings := a_meetings) (a_wasMeeting := a_wasMeeting) (a_firstMet := a_firstMet) (a_depths := a_depths) (a_isKept := b) g o1 hI
    obtain ⟨b3, r1, r2, r3, r5, r6, r4⟩ := ih (j + 1) b1 (by omega) p1
    refine ⟨b3, r1, fun c h => r2 c (p2 c h), fun k x k1 k2 ux e => ?_, r5, r6, fun post hp => ?_⟩
    · by_cases ek : k = j
      · rw [ek] at e
        exact r2 _ (p3 x ux e)
      · exact r3 k x (by omega) k2 ux e
    · rw [wX_markKept_56]
      dsimp only
      simp (disch := omega) only [forall_eq, true_and, and_true, Nat.zero_add, nI_clamp, li_vin, nI_add, nI_eq, nI_leI, nI_ltI, li_0le, li_lt0, li_nn1, li_e0, not_true_eq_false, not_false_eq_true, false_implies, true_implies, forall_const, li_a0, li_b0, li_a1, li_b1, li_a2, li_b2, li_a3, li_b3, li_a7, li_b7, li_a8, li_b8, li_a16, li_b16, li_a48, li_b48, li_a584, li_b584, li_a572, li_b572, li_a96, li_b96, li_a144, li_b144, li_a192, li_b192, li_a240, li_b240, li_a336, li_b336, li_a384, li_b384, li_a432, li_b432, li_a480, li_b480, li_a488, li_b488, li_a496, li_b496, li_a504, li_b504, li_a512, li_b512, li_a520, li_b520, li_a524, li_b524, li_a528, li_b528, li_a536, li_b536, li_a544, li_b544, li_a552, li_b552, li_a560, li_b560, li_a568, li_b568, li_a573, li_b573, li_a585, li_b585, li_a633, li_b633, li_m3, li_n3, li_m4, li_n4, li_m48, li_n48, li_m50, li_n50, li_m585, li_n585, li_m633, li_n633, li_lt2, li_ge2, li_le2, li_gt2, li_lt1, li_ge1, li_le1, li_gt1, li_lt3, li_ge3, li_le3, li_gt3, li_lt4, li_ge4, li_le4, li_gt4, li_lt7, li_ge7, li_le7, li_gt7, li_lt8, li_ge8, li_le8, li_gt8, li_lt40, li_ge40, li_le40, li_gt40, li_lt240, li_ge240, li_le240, li_gt240, li_lt41, li_ge41, li_le41, li_gt41, li_lt48, li_ge48, li_le48, li_gt48, li_lt49, li_ge49, li_le49, li_gt49, li_lt60, li_ge60, li_le60, li_gt60, li_lt144, li_ge144, li_le144, li_gt144, li_lt145, li_ge145, li_le145, li_gt145, li_lt160, li_ge160, li_le160, li_gt160, li_lt336, li_ge336, li_le336, li_gt336, li_lt585, li_ge585, li_le585, li_gt585, li_lt633, li_ge633, li_le633, li_gt633, li_lt1000000, li_ge1000000, li_le1000000, li_gt1000000, li_lt2304, li_ge2304, li_le2304, li_gt2304, li_lt50, li_ge50, li_le50, li_gt50, li_le0, li_gt0]
      exact ⟨fun q => by omega, fun _ => p4 _ (r4 post hp)⟩
theorem xw_mark_23 {f_trials f_drafted f_pairs f_metCount f_meetingCount : Int32} {a_held a_saved a_draft a_toldBefore a_pairX a_pairY a_stack a_met a_metAs a_copies a_meetings a_wasMeeting a_firstMet a_depths a_isKept : Nat → Int32} {B : Nat} {s : Nat → Int32} (hr : re_P B a_held s) : ∀ d j (a_isKept : Nat → Int32), j + d = 48 → kx_I a_held a_isKept → ∃ b : Nat → Int32, kx_I a_held b ∧ kx_m a_isKept b ∧ (∀ x, j ≤ x → x < 48 → a_held (432 + x) = 1 → b (xv_L a_held x) = 1) ∧ (∀ k x, k < 4 → xv_U a_held x → a_held (520 + k) = nI x → b (xv_L a_held x) = 1) ∧ (∀ k x, k < 8 → xv_U a_held x → a_held (480 + k) = 3 → (a_held (488 + k) = nI x ∨ a_held (496 + k) = nI x) → b (xv_L a_held x) = 1) ∧ (∀ k x, k < 8 → xv_U a_held x → (a_held (504 + k) = nI x ∨ a_held (512 + k) = nI x) → b (xv_L a_held x) = 1) ∧ ∀ post : SX → Prop, post (f_trials, f_drafted, f_pairs, f_metCount, f_meetingCount, a_held, a_saved, a_draft, a_toldBefore, a_pairX, a_pairY, a_stack, a_met, a_metAs, a_copies, a_meetings, a_wasMeeting, a_firstMet, a_depths, b) → wX_markKept_23 post (d + 1) (nI j) f_trials f_drafted f_pairs f_metCount f_meetingCount a_held a_saved a_draft a_toldBefore a_pairX a_pairY a_stack a_met a_metAs a_copies a_meetings a_wasMeeting a_firstMet a_depths a_isKept := by
  have g := re_G hr
  have N := hr.2.2.2.2.2
  intro d
  induction d with
  | zero =>
    intro j b hj hI
    obtain ⟨b3, r1, r2, r3, r5, r6, r4⟩ := xw_mark_56 (f_trials := f_trials) (f_drafted := f_drafted) (f_pairs := f_pairs) (f_metCount := f_metCount) (f_meetingCount := f_meetingCount) (a_held := a_held) (a_saved := a_saved) (a_draft := a_draft) (a_toldBefore := a_toldBefore) (a_pairX := a_pairX) (a_pairY := a_pairY) (a_stack := a_stack) (a_met := a_met) (a_metAs := a_metAs) (a_copies := a_copies) (a_meetings := a_meetings) (a_wasMeeting := a_wasMeeting) (a_firstMet := a_firstMet) (a_depths := a_depths) (a_isKept := a_isKept) hr 4 0 b rfl hI
    refine ⟨b3, r1, r2, fun x h1 h2 => by omega, fun k x h2 => r3 k x (by omega) h2, r5, r6, fun post hp => ?_⟩
    unfold wX_markKept_23
    simp (disch := omega) only [forall_eq, true_and, and_true, Nat.zero_add, nI_clamp, li_vin, nI_add, nI_eq, nI_leI, nI_ltI, li_0le, li_lt0, li_nn1, li_e0, not_true_eq_false, not_false_eq_true, false_implies, true_implies, forall_const, li_a0, li_b0, li_a1, li_b1, li_a2, li_b2, li_a3, li_b3, li_a7, li_b7, li_a8, li_b8, li_a16, li_b16, li_a48, li_b48, li_a584, li_b584, li_a572, li_b572, li_a96, li_b96, li_a144, li_b144, li_a192, li_b192, li_a240, li_b240, li_a336, li_b336, li_a384, li_b384, li_a432, li_b432, li_a480, li_b480, li_a488, li_b488, li_a496, li_b496, li_a504, li_b504, li_a512, li_b512, li_a520, li_b520, li_a524, li_b524, li_a528, li_b528, li_a536, li_b536, li_a544, li_b544, li_a552, li_b552, li_a560, li_b560, li_a568, li_b568, li_a573, li_b573, li_a585, li_b585, li_a633, li_b633, li_m3, li_n3, li_m4, li_n4, li_m48, li_n48, li_m50, li_n50, li_m585, li_n585, li_m633, li_n633, li_lt2, li_ge2, li_le2, li_gt2, li_lt1, li_ge1, li_le1, li_gt1, li_lt3, li_ge3, li_le3, li_gt3, li_lt4, li_ge4, li_le4, li_gt4, li_lt7, li_ge7, li_le7, li_gt7, li_lt8, li_ge8, li_le8, li_gt8, li_lt40, li_ge40, li_le40, li_gt40, li_lt240, li_ge240, li_le240, li_gt240, li_lt41, li_ge41, li_le41, li_gt41, li_lt48, li_ge48, li_le48, li_gt48, li_lt49, li_ge49, li_le49, li_gt49, li_lt60, li_ge60, li_le60, li_gt60, li_lt144, li_ge144, li_le144, li_gt144, li_lt145, li_ge145, li_le145, li_gt145, li_lt160, li_ge160, li_le160, li_gt160, li_lt336, li_ge336, li_le336, li_gt336, li_lt585, li_ge585, li_le585, li_gt585, li_lt633, li_ge633, li_le633, li_gt633, li_lt1000000, li_ge1000000, li_le1000000, li_gt1000000, li_lt2304, li_ge2304, li_le2304, li_gt2304, li_lt50, li_ge50, li_le50, li_gt50, li_le0, li_gt0]
    exact ⟨fun _ => ⟨_, r4 post hp⟩, fun q => by omega⟩
  | succ d ih =>
    intro j b hj hI
    by_cases w : a_held (432 + j) = 1
    · have uj : xv_U a_held j := by
        rcases (N.2.1 j (by omega)).2 with o | o
        · rw [o] at w; exact absurd w (by decide)
        · exact o.2
      obtain ⟨b1, p1, p2, p3, _, p4⟩ := xw_keep (f_trials := f_trials) (f_drafted := f_drafted) (f_pairs := f_pairs) (f_metCount := f_metCount) (f_meetingCount := f_meetingCount) (a_held := a_held) (a_saved := a_saved) (a_draft := a_draft) (a_toldBefore := a_toldBefore) (a_pairX := a_pairX) (a_pairY := a_pairY) (a_stack := a_stack) (a_met := a_met) (a_metAs := a_metAs) (a_copies := a_copies) (a_meetings := a_meetings) (a_wasMeeting := a_wasMeeting) (a_firstMet := a_firstMet) (a_depths := a_depths) (a_isKept := b) g (v := nI j) (Or.inr ⟨j, uj, rfl, kp_root ⟨uj, Or.inl w⟩⟩) hI
      obtain ⟨b3, r1, r2, r3, r5, r6, r7, r4⟩ := ih (j + 1) b1 (by omega) p1
      refine ⟨b3, r1, fun c h => r2 c (p2 c h), fun x k1 k2 e => ?_, r5, r6, r7, fun post hp => ?_⟩
      · by_cases ek : x = j
        · rw [ek]; exact r2 _ (p3 j uj rfl)
        · exact r3 x (by omega) k2 e
      · rw [wX_markKept_23]
        dsimp only
        simp (disch := omega) only [forall_eq, true_and, and_true, Nat.zero_add, nI_clamp, li_vin, nI_add, nI_eq, nI_leI, nI_ltI, li_0le, li_lt0, li_nn1, li_e0, not_true_eq_false, not_false_eq_true, false_implies, true_implies, forall_const, li_a0, li_b0, li_a1, li_b1, li_a2, li_b2, li_a3, li_b3, li_a7, li_b7, li_a8, li_b8, li_a16, li_b16, li_a48, li_b48, li_a584, li_b584, li_a572, li_b572, li_a96, li_b96, li_a144, li_b144, li_a192, li_b192, li_a240, li_b240, li_a336, li_b336, li_a384, li_b384, li_a432, li_b432, li_a480, li_b480, li_a488, li_b488, li_a496, li_b496, li_a504, li_b504, li_a512, li_b512, li_a520, li_b520, li_a524, li_b524, li_a528, li_b528, li_a536, li_b536, li_a544, li_b544, li_a552, li_b552, li_a560, li_b560, li_a568, li_b568, li_a573, li_b573, li_a585, li_b585, li_a633, li_b633, li_m3, li_n3, li_m4, li_n4, li_m48, li_n48, li_m50, li_n50, li_m585, li_n585, li_m633, li_n633, li_lt2, li_ge2, li_le2, li_gt2, li_lt1, li_ge1, li_le1, li_gt1, li_lt3, li_ge3, li_le3, li_gt3, li_lt4, li_ge4, li_le4, li_gt4, li_lt7, li_ge7, li_le7, li_gt7, li_lt8, li_ge8, li_le8, li_gt8, li_lt40, li_ge40, li_le40, li_gt40, li_lt240, li_ge240, li_le240, li_gt240, li_lt41, li_ge41, li_le41, li_gt41, li_lt48, li_ge48, li_le48, li_gt48, li_lt49, li_ge49, li_le49, li_gt49, li_lt60, li_ge60, li_le60, li_gt60, li_lt144, li_ge144, li_le144, li_gt144, li_lt145, li_ge145, li_le145, li_gt145, li_lt160, li_ge160, li_le160, li_gt160, li_lt336, li_ge336, li_le336, li_gt336, li_lt585, li_ge585, li_le585, li_gt585, li_lt633, li_ge633, li_le633, li_gt633, li_lt1000000, li_ge1000000, li_le1000000, li_gt1000000, li_lt2304, li_ge2304, li_le2304, li_gt2304, li_lt50, li_ge50, li_le50, li_gt50, li_le0, li_gt0, w]
        exact ⟨fun q => by omega, fun _ => p4 _ (r4 post hp)⟩
    · obtain ⟨b3, r1, r2, r3, r5, r6, r7, r4⟩ := ih (j + 1) b (by omega) hI
      refine ⟨b3, r1, r2, fun x k1 k2 e => ?_, r5, r6, r7, fun post hp => ?_⟩
      · by_cases ek : x = j
        · rw [ek] at e; exact absurd e w
        · exact r3 x (by omega) k2 e
      · rw [wX_markKept_23]
        dsimp only
        simp (disch := omega) only [forall_eq, true_and, and_true, Nat.zero_add, nI_clamp, li_vin, nI_add, nI_eq, nI_leI, nI_ltI, li_0le, li_lt0, li_nn1, li_e0, not_true_eq_false, not_false_eq_true, false_implies, true_implies, forall_const, li_a0, li_b0, li_a1, li_b1, li_a2, li_b2, li_a3, li_b3, li_a7, li_b7, li_a8, li_b8, li_a16, li_b16, li_a48, li_b48, li_a584, li_b584, li_a572, li_b572, li_a96, li_b96, li_a144, li_b144, li_a192, li_b192, li_a240, li_b240, li_a336, li_b336, li_a384, li_b384, li_a432, li_b432, li_a480, li_b480, li_a488, li_b488, li_a496, li_b496, li_a504, li_b504, li_a512, li_b512, li_a520, li_b520, li_a524, li_b524, li_a528, li_b528, li_a536, li_b536, li_a544, li_b544, li_a552, li_b552, li_a560, li_b560, li_a568, li_b568, li_a573, li_b573, li_a585, li_b585, li_a633, li_b633, li_m3, li_n3, li_m4, li_n4, li_m48, li_n48, li_m50, li_n50, li_m585, li_n585, li_m633, li_n633, li_lt2, li_ge2, li_le2, li_gt2, li_lt1, li_ge1, li_le1, li_gt1, li_lt3, li_ge3, li_le3, li_gt3, li_lt4, li_ge4, li_le4, li_gt4, li_lt7, li_ge7, li_le7, li_gt7, li_lt8, li_ge8, li_le8, li_gt8, li_lt40, li_ge40, li_le40, li_gt40, li_lt240, li_ge240, li_le240, li_gt240, li_lt41, li_ge41, li_le41, li_gt41, li_lt48, li_ge48, li_le48, li_gt48, li_lt49, li_ge49, li_le49, li_gt49, li_lt60, li_ge60, li_le60, li_gt60, li_lt144, li_ge144, li_le144, li_gt144, li_lt145, li_ge145, li_le145, li_gt145, li_lt160, li_ge160, li_le160, li_gt160, li_lt336, li_ge336, li_le336, li_gt336, li_lt585, li_ge585, li_le585, li_gt585, li_lt633, li_ge633, li_le633, li_gt633, li_lt1000000, li_ge1000000, li_le1000000, li_gt1000000, li_lt2304, li_ge2304, li_le2304, li_gt2304, li_lt50, li_ge50, li_le50, li_gt50, li_le0, li_gt0]
        exact ⟨fun q => by omega, fun _ => br_f w (r4 post hp)⟩
theorem xw_markKept {f_trials f_drafted f_pairs f_metCount f_meetingCount : Int32} {a_held a_saved a_draft a_toldBefore a_pairX a_pairY a_stack a_met a_metAs a_copies a_meetings a_wasMeeting a_firstMet a_depths a_isKept : Nat → Int32} {B : Nat} {s : Nat → Int32} (hr : re_P B a_held s) : ∃ b : Nat → Int32, kx_I a_held b ∧ (∀ x, kp_0 a_held x → b (xv_L a_held x) = 1) ∧ ∀ post : SX → Prop, post (f_trials, f_drafted, f_pairs, f_metCount, f_meetingCount, a_held, a_saved, a_draft, a_toldBefore, a_pairX, a_pairY, a_stack, a_met, a_metAs, a_copies, a_meetings, a_wasMeeting, a_firstMet, a_depths, b) → wpX_markKept post (f_trials, f_drafted, f_pairs, f_metCount, f_meetingCount, a_held, a_saved, a_draft, a_toldBefore, a_pairX, a_pairY, a_stack, a_met, a_metAs, a_copies, a_meetings, a_wasMeeting, a_firstMet, a_depths, a_isKept) := by
  have lp : ∀ d j (a_isKept : Nat → Int32), j + d = 48 → (∀ c, c < j → a_isKept c = 0) → ∃ b : Nat → Int32, kx_I a_held b ∧ (∀ x, kp_0 a_held x → b (xv_L a_held x) = 1) ∧ ∀ post : SX → Prop, post (f_trials, f_drafted, f_pairs, f_metCount, f_meetingCount, a_held, a_saved, a_draft, a_toldBefore, a_pairX, a_pairY, a_stack, a_met, a_metAs, a_copies, a_meetings, a_wasMeeting, a_firstMet, a_depths, b) → wX_markKept_2 post f_trials f_drafted f_pairs f_metCount f_meetingCount (d + 1) (nI j) a_held a_saved a_draft a_toldBefore a_pairX a_pairY a_stack a_met a_metAs a_copies a_meetings a_wasMeeting a_firstMet a_depths a_isKept := by
    intro d
    induction d with
    | zero =>
      intro j b hj h0
      obtain ⟨b3, r1, r2, r3, r5, r6, r7, r4⟩ := xw_mark_23 (f_trials := f_trials) (f_drafted := f_drafted) (f_pairs := f_pairs) (f_metCount := f_metCount) (f_meetingCount := f_meetingCount) (a_held := a_held) (a_saved := a_saved) (a_draft := a_draft) (a_toldBefore := a_toldBefore) (a_pairX := a_pairX) (a_pairY := a_pairY) (a_stack := a_stack) (a_met := a_met) (a_metAs := a_metAs) (a_copies := a_copies) (a_meetings := a_meetings) (a_wasMeeting := a_wasMeeting) (a_firstMet := a_firstMet) (a_depths := a_depths) (a_isKept := a_isKept) hr 48 0 b rfl (fun c hc => Or.inl (h0 c (by omega)))
      refine ⟨b3, r1, fun x hx => ?_, fun post hp => ?_⟩
      · obtain ⟨ux, o⟩ := hx
        rcases o with o | ⟨e, he, o⟩ | ⟨t, ht, w, o⟩ | ⟨k, hk, o⟩
        · exact r3 x (by omega) ux.1 o
        · exact r5 e x he ux o
        · exact r6 t x ht ux w o
        · exact r7 k x hk ux o
      · unfold wX_markKept_2
        simp (disch := omega) only [forall_eq, true_and, and_true, Nat.zero_add, nI_clamp, li_vin, nI_add, nI_eq, nI_leI, nI_ltI, li_0le, li_lt0, li_nn1, li_e0, not_true_eq_false, not_false_eq_true, false_implies, true_implies, forall_const, li_a0, li_b0, li_a1, li_b1, li_a2, li_b2, li_a3, li_b3, li_a7, li_b7, li_a8, li_b8, li_a16, li_b16, li_a48, li_b48, li_a584, li_b584, li_a572, li_b572, li_a96, li_b96, li_a144, li_b144, li_a192, li_b192, li_a240, li_b240, li_a336, li_b336, li_a384, li_b384, li_a432, li_b432, li_a480, li_b480, li_a488, li_b488, li_a496, li_b496, li_a504, li_b504, li_a512, li_b512, li_a520, li_b520, li_a524, li_b524, li_a528, li_b528, li_a536, li_b536, li_a544, li_b544, li_a552, li_b552, li_a560, li_b560, li_a568, li_b568, li_a573, li_b573, li_a585, li_b585, li_a633, li_b633, li_m3, li_n3, li_m4, li_n4, li_m48, li_n48, li_m50, li_n50, li_m585, li_n585, li_m633, li_n633, li_lt2, li_ge2, li_le2, li_gt2, li_lt1, li_ge1, li_le1, li_gt1, li_lt3, li_ge3, li_le3, li_gt3, li_lt4, li_ge4, li_le4, li_gt4, li_lt7, li_ge7, li_le7, li_gt7, li_lt8, li_ge8, li_le8, li_gt8, li_lt40, li_ge40, li_le40, li_gt40, li_lt240, li_ge240, li_le240, li_gt240, li_lt41, li_ge41, li_le41, li_gt41, li_lt48, li_ge48, li_le48, li_gt48, li_lt49, li_ge49, li_le49, li_gt49, li_lt60, li_ge60, li_le60, li_gt60, li_lt144, li_ge144, li_le144, li_gt144, li_lt145, li_ge145, li_le145, li_gt145, li_lt160, li_ge160, li_le160, li_gt160, li_lt336, li_ge336, li_le336, li_gt336, li_lt585, li_ge585, li_le585, li_gt585, li_lt633, li_ge633, li_le633, li_gt633, li_lt1000000, li_ge1000000, li_le1000000, li_gt1000000, li_lt2304, li_ge2304, li_le2304, li_gt2304, li_lt50, li_ge50, li_le50, li_gt50, li_le0, li_gt0]
        exact ⟨fun _ => ⟨_, r4 post hp⟩, fun q => by omega⟩
    | succ d ih =>
      intro j b hj h0
      obtain ⟨b3, r1, r2, r3⟩ := ih (j + 1) (upd b j 0) (by omega) (by
        intro c hc
        by_cases q : c = j
        · rw [q, pk_us]
        · rw [pk_un q]; exact h0 c (by omega))
      refine ⟨b3, r1, r2, fun post hp => ?_⟩
      unfold wX_markKept_2
      simp (disch := omega) only [forall_eq, true_and, and_true, Nat.zero_add, nI_clamp, li_vin, nI_add, nI_eq, nI_leI, nI_ltI, li_0le, li_lt0, li_nn1, li_e0, not_true_eq_false, not_false_eq_true, false_implies, true_implies, forall_const, li_a0, li_b0, li_a1, li_b1, li_a2, li_b2, li_a3, li_b3, li_a7, li_b7, li_a8, li_b8, li_a16, li_b16, li_a48, li_b48, li_a584, li_b584, li_a572, li_b572, li_a96, li_b96, li_a144, li_b144, li_a192, li_b192, li_a240, li_b240, li_a336, li_b336, li_a384, li_b384, li_a432, li_b432, li_a480, li_b480, li_a488, li_b488, li_a496, li_b496, li_a504, li_b504, li_a512, li_b512, li_a520, li_b520, li_a524, li_b524, li_a528, li_b528, li_a536, li_b536, li_a544, li_b544, li_a552, li_b552, li_a560, li_b560, li_a568, li_b568, li_a573, li_b573, li_a585, li_b585, li_a633, li_b633, li_m3, li_n3, li_m4, li_n4, li_m48, li_n48, li_m50, li_n50, li_m585, li_n585, li_m633, li_n633, li_lt2, li_ge2, li_le2, li_gt2, li_lt1, li_ge1, li_le1, li_gt1, li_lt3, li_ge3, li_le3, li_gt3, li_lt4, li_ge4, li_le4, li_gt4, li_lt7, li_ge7, li_le7, li_gt7, li_lt8, li_ge8, li_le8, li_gt8, li_lt40, li_ge40, li_le40, li_gt40, li_lt240, li_ge240, li_le240, li_gt240, li_lt41, li_ge41, li_le41, li_gt41, li_lt48, li_ge48, li_le48, li_gt48, li_lt49, li_ge49, li_le49, li_gt49, li_lt60, li_ge60, li_le60, li_gt60, li_lt144, li_ge144, li_le144, li_gt144, li_lt145, li_ge145, li_le145, li_gt145, li_lt160, li_ge160, li_le160, li_gt160, li_lt336, li_ge336, li_le336, li_gt336, li_lt585, li_ge585, li_le585, li_gt585, li_lt633, li_ge633, li_le633, li_gt633, li_lt1000000, li_ge1000000, li_le1000000, li_gt1000000, li_lt2304, li_ge2304, li_le2304, li_gt2304, li_lt50, li_ge50, li_le50, li_gt50, li_le0, li_gt0, nr_0]
      exact ⟨fun q => by omega, fun _ => r3 post hp⟩
  obtain ⟨b, h1, h2, h3⟩ := lp 48 0 a_isKept rfl (fun c hc => by omega)
  exact ⟨b, h1, h2, fun post hp => ⟨_, h3 post hp⟩⟩
def kx_c (a b : Nat → Int32) : Prop := ∀ c, c < 48 → b c = 1 → ∀ k, k < ma_ct (xv_K a c) → b (xv_L a (xv_P a c k)) = 1
theorem xw_spread_43 {f_trials f_drafted f_pairs f_metCount f_meetingCount : Int32} {a_held a_saved a_draft a_toldBefore a_pairX a_pairY a_stack a_met a_metAs a_copies a_meetings a_wasMeeting a_firstMet a_depths a_isKept : Nat → Int32} (g : xv_G a_held) {c n : Nat} {x1 : Int32} (hc : c < 48) (hn : n ≤ ma_ct (xv_K a_held c)) (hk : 0 < n → xv_U a_held c ∧ xv_L a_held c = c ∧ kp_K a_held c) : ∀ d j (a_isKept : Nat → Int32), j + d = n → kx_I a_held a_isKept → ∃ b : Nat → Int32, kx_I a_held b ∧ kx_m a_isKept b ∧ (∀ k, j ≤ k → k < n → b (xv_L a_held (xv_P a_held c k)) = 1) ∧ (∀ e, b e = 1 → a_isKept e = 1 ∨ ∃ k, k < n ∧ e = xv_L a_held (xv_P a_held c k)) ∧ ∀ (post : SX → Prop) (J2 J10 : Int32 → Int32 → Int32 → Int32 → Int32 → Int32 → (Nat → Int32) → (Nat → Int32) → (Nat → Int32) → (Nat → Int32) → (Nat → Int32) → (Nat → Int32) → (Nat → Int32) → (Nat → Int32) → (Nat → Int32) → (Nat → Int32) → (Nat → Int32) → (Nat → Int32) → (Nat → Int32) → (Nat → Int32) → (Nat → Int32) → Prop), J10 (nI (c + 1)) f_trials f_drafted f_pairs f_metCount f_meetingCount a_held a_saved a_draft a_toldBefore a_pairX a_pairY a_stack a_met a_metAs a_copies a_meetings a_wasMeeting a_firstMet a_depths b → wX_spreadKept_43 post J2 J10 x1 (nI c) (nI n) (d + 1) (nI j) f_trials f_drafted f_pairs f_metCount f_meetingCount a_held a_saved a_draft a_toldBefore a_pairX a_pairY a_stack a_met a_metAs a_copies a_meetings a_wasMeeting a_firstMet a_depths a_isKept := by
  have ct3 := ma_ct_le (xv_K a_held c)
  intro d
  induction d with
  | zero =>
    intro j b hj hI
    refine ⟨b, hI, fun _ h => h, fun k h1 h2 => by omega, fun e h => Or.inl h, fun post J2 J10 hp => ?_⟩
    unfold wX_spreadKept_43
    simp (disch := omega) only [forall_eq, true_and, and_true, Nat.zero_add, nI_clamp, li_vin, nI_add, nI_eq, nI_leI, nI_ltI, li_0le, li_lt0, li_nn1, li_e0, not_true_eq_false, not_false_eq_true, false_implies, true_implies, forall_const, li_a0, li_b0, li_a1, li_b1, li_a2, li_b2, li_a3, li_b3, li_a7, li_b7, li_a8, li_b8, li_a16, li_b16, li_a48, li_b48, li_a584, li_b584, li_a572, li_b572, li_a96, li_b96, li_a144, li_b144, li_a192, li_b192, li_a240, li_b240, li_a336, li_b336, li_a384, li_b384, li_a432, li_b432, li_a480, li_b480, li_a488, li_b488, li_a496, li_b496, li_a504, li_b504, li_a512, li_b512, li_a520, li_b520, li_a524, li_b524, li_a528, li_b528, li_a536, li_b536, li_a544, li_b544, li_a552, li_b552, li_a560, li_b560, li_a568, li_b568, li_a573, li_b573, li_a585, li_b585, li_a633, li_b633, li_m3, li_n3, li_m4, li_n4, li_m48, li_n48, li_m50, li_n50, li_m585, li_n585, li_m633, li_n633, li_lt2, li_ge2, li_le2, li_gt2, li_lt1, li_ge1, li_le1, li_gt1, li_lt3, li_ge3, li_le3, li_gt3, li_lt4, li_ge4, li_le4, li_gt4, li_lt7, li_ge7, li_le7, li_gt7, li_lt8, li_ge8, li_le8, li_gt8, li_lt40, li_ge40, li_le40, li_gt40, li_lt240, li_ge240, li_le240, li_gt240, li_lt41, li_ge41, li_le41, li_gt41, li_lt48, li_ge48, li_le48, li_gt48, li_lt49, li_ge49, li_le49, li_gt49, li_lt60, li_ge60, li_le60, li_gt60, li_lt144, li_ge144, li_le144, li_gt144, li_lt145, li_ge145, li_le145, li_gt145, li_lt160, li_ge160, li_le160, li_gt160, li_lt336, li_ge336, li_le336, li_gt336, li_lt585, li_ge585, li_le585, li_gt585, li_lt633, li_ge633, li_le633, li_gt633, li_lt1000000, li_ge1000000, li_le1000000, li_gt1000000, li_lt2304, li_ge2304, li_le2304, li_gt2304, li_lt50, li_ge50, li_le50, li_gt50, li_le0, li_gt0]
    exact ⟨fun _ => hp, fun q => by omega⟩
  | succ d ih =>
    intro j b hj hI
    obtain ⟨uc, lc, kc⟩ := hk (by omega)
    have k0 : xv_K a_held c ≠ 0 := fun q => by
      rw [q, ma_ct_0] at hn
      omega
    have tc : (xv_T a_held).1 c := ⟨uc, lc, k0⟩
    have hkk : j < ma_ct ((xv_T a_held).2.1 c).1 := by show j < ma_ct (xv_K a_held c); omega
    have up := g.2.2 c tc j hkk
    have pe := (xv_HP g.1 hc (k := j) (by omega)).1
    have up' : xv_U a_held (xv_P a_held c j) := up
    have p48 := up'.1
    obtain ⟨b1, p1, p2, p3, p5, p4⟩ := xw_keep (f_trials := f_trials) (f_drafted := f_drafted) (f_pairs := f_pairs) (f_metCount := f_metCount) (f_meetingCount := f_meetingCount) (a_held := a_held) (a_saved := a_saved) (a_draft := a_draft) (a_toldBefore := a_toldBefore) (a_pairX := a_pairX) (a_pairY := a_pairY) (a_stack := a_stack) (a_met := a_met) (a_metAs := a_metAs) (a_copies := a_copies) (a_meetings := a_meetings) (a_wasMeeting := a_wasMeeting) (a_firstMet := a_firstMet) (a_depths := a_depths) (a_isKept := b) g (v := nI (xv_P a_held c j)) (Or.inr ⟨_, up', rfl, kp_part kc tc hkk⟩) hI
    obtain ⟨b3, r1, r2, r3, r5, r4⟩ := ih (j + 1) b1 (by omega) p1
    refine ⟨b3, r1, fun c h => r2 c (p2 c h), fun k k1 k2 => ?_, fun e h => ?_, fun post J2 J10 hp => ?_⟩
    · by_cases ek : k = j
      · rw [ek]; exact r2 _ (p3 _ up' rfl)
      · exact r3 k (by omega) k2
    · rcases r5 e h with o | o
      · rcases p5 e o with o | ⟨x, ux, ex, o⟩
        · exact Or.inl o
        · have x48 := ux.1
          have : xv_P a_held c j = x := (nI_eq (by omega) (by omega)).mp ex
          rw [← this] at o
          exact Or.inr ⟨j, by omega, o⟩
      · exact Or.inr o
    · rw [wX_spreadKept_43]
      dsimp only
      simp (disch := omega) only [forall_eq, true_and, and_true, Nat.zero_add, nI_clamp, li_vin, nI_add, nI_eq, nI_leI, nI_ltI, li_0le, li_lt0, li_nn1, li_e0, not_true_eq_false, not_false_eq_true, false_implies, true_implies, forall_const, li_a0, li_b0, li_a1, li_b1, li_a2, li_b2, li_a3, li_b3, li_a7, li_b7, li_a8, li_b8, li_a16, li_b16, li_a48, li_b48, li_a584, li_b584, li_a572, li_b572, li_a96, li_b96, li_a144, li_b144, li_a192, li_b192, li_a240, li_b240, li_a336, li_b336, li_a384, li_b384, li_a432, li_b432, li_a480, li_b480, li_a488, li_b488, li_a496, li_b496, li_a504, li_b504, li_a512, li_b512, li_a520, li_b520, li_a524, li_b524, li_a528, li_b528, li_a536, li_b536, li_a544, li_b544, li_a552, li_b552, li_a560, li_b560, li_a568, li_b568, li_a573, li_b573, li_a585, li_b585, li_a633, li_b633, li_m3, li_n3, li_m4, li_n4, li_m48, li_n48, li_m50, li_n50, li_m585, li_n585, li_m633, li_n633, li_lt2, li_ge2, li_le2, li_gt2, li_lt1, li_ge1, li_le1, li_gt1, li_lt3, li_ge3, li_le3, li_gt3, li_lt4, li_ge4, li_le4, li_gt4, li_lt7, li_ge7, li_le7, li_gt7, li_lt8, li_ge8, li_le8, li_gt8, li_lt40, li_ge40, li_le40, li_gt40, li_lt240, li_ge240, li_le240, li_gt240, li_lt41, li_ge41, li_le41, li_gt41, li_lt48, li_ge48, li_le48, li_gt48, li_lt49, li_ge49, li_le49, li_gt49, li_lt60, li_ge60, li_le60, li_gt60, li_lt144, li_ge144, li_le144, li_gt144, li_lt145, li_ge145, li_le145, li_gt145, li_lt160, li_ge160, li_le160, li_gt160, li_lt336, li_ge336, li_le336, li_gt336, li_lt585, li_ge585, li_le585, li_gt585, li_lt633, li_ge633, li_le633, li_gt633, li_lt1000000, li_ge1000000, li_le1000000, li_gt1000000, li_lt2304, li_ge2304, li_le2304, li_gt2304, li_lt50, li_ge50, li_le50, li_gt50, li_le0, li_gt0, pe]
      exact ⟨fun q => by omega, fun _ => p4 _ (r4 post J2 J10 hp)⟩
theorem xw_spread_10 {f_trials f_drafted f_pairs f_metCount f_meetingCount : Int32} {a_held a_saved a_draft a_toldBefore a_pairX a_pairY a_stack a_met a_metAs a_copies a_meetings a_wasMeeting a_firstMet a_depths a_isKept : Nat → Int32} (g : xv_G a_held) {r : Nat} : ∀ d j (a_isKept : Nat → Int32), j + d = 48 → kx_I a_held a_isKept → ∃ b : Nat → Int32, kx_I a_held b ∧ kx_m a_isKept b ∧ (∀ c, j ≤ c → c < 48 → a_isKept c = 1 → ∀ k, k < ma_ct (xv_K a_held c) → b (xv_L a_held (xv_P a_held c k)) = 1) ∧ (∀ S : Nat → Prop, (∀ c, a_isKept c = 1 → S c) → (∀ c, c < 48 → S c → ∀ k, k < ma_ct (xv_K a_held c) → S (xv_L a_held (xv_P a_held c k))) → ∀ c, b c = 1 → S c) ∧ ∀ (post : SX → Prop) (J2 : Int32 → Int32 → Int32 → Int32 → Int32 → Int32 → (Nat → Int32) → (Nat → Int32) → (Nat → Int32) → (Nat → Int32) → (Nat → Int32) → (Nat → Int32) → (Nat → Int32) → (Nat → Int32) → (Nat → Int32) → (Nat → Int32) → (Nat → Int32) → (Nat → Int32) → (Nat → Int32) → (Nat → Int32) → (Nat → Int32) → Prop), J2 (nI (r + 1)) f_trials f_drafted f_pairs f_metCount f_meetingCount a_held a_saved a_draft a_toldBefore a_pairX a_pairY a_stack a_met a_metAs a_copies a_meetings a_wasMeeting a_firstMet a_depths b → wX_spreadKept_10 post J2 (nI r) (d + 1) (nI j) f_trials f_drafted f_pairs f_metCount f_meetingCount a_held a_saved a_draft a_toldBefore a_pairX a_pairY a_stack a_met a_metAs a_copies a_meetings a_wasMeeting a_firstMet a_depths a_isKept := by
  intro d
  induction d with
  | zero =>
    intro j b hj hI
    refine ⟨b, hI, fun _ h => h, fun c h1 h2 => by omega, fun S h1 _ => h1, fun post J2 hp => ?_⟩
    unfold wX_spreadKept_10
    simp (disch := omega) only [forall_eq, true_and, and_true, Nat.zero_add, nI_clamp, li_vin, nI_add, nI_eq, nI_leI, nI_ltI, li_0le, li_lt0, li_nn1, li_e0, not_true_eq_false, not_false_eq_true, false_implies, true_implies, forall_const, li_a0, li_b0, li_a1, li_b1, li_a2, li_b2, li_a3, li_b3, li_a7, li_b7, li_a8, li_b8, li_a16, li_b16, li_a48, li_b48, li_a584, li_b584, li_a572, li_b572, li_a96, li_b96, li_a144, li_b144, li_a192, li_b192, li_a240, li_b240, li_a336, li_b336, li_a384, li_b384, li_a432, li_b432, li_a480, li_b480, li_a488, li_b488, li_a496, li_b496, li_a504, li_b504, li_a512, li_b512, li_a520, li_b520, li_a524, li_b524, li_a528, li_b528, li_a536, li_b536, li_a544, li_b544, li_a552, li_b552, li_a560, li_b560, li_a568, li_b568, li_a573, li_b573, li_a585, li_b585, li_a633, li_b633, li_m3, li_n3, li_m4, li_n4, li_m48, li_n48, li_m50, li_n50, li_m585, li_n585, li_m633, li_n633, li_lt2, li_ge2, li_le2, li_gt2, li_lt1, li_ge1, li_le1, li_gt1, li_lt3, li_ge3, li_le3, li_gt3, li_lt4, li_ge4, li_le4, li_gt4, li_lt7, li_ge7, li_le7, li_gt7, li_lt8, li_ge8, li_le8, li_gt8, li_lt40, li_ge40, li_le40, li_gt40, li_lt240, li_ge240, li_le240, li_gt240, li_lt41, li_ge41, li_le41, li_gt41, li_lt48, li_ge48, li_le48, li_gt48, li_lt49, li_ge49, li_le49, li_gt49, li_lt60, li_ge60, li_le60, li_gt60, li_lt144, li_ge144, li_le144, li_gt144, li_lt145, li_ge145, li_le145, li_gt145, li_lt160, li_ge160, li_le160, li_gt160, li_lt336, li_ge336, li_le336, li_gt336, li_lt585, li_ge585, li_le585, li_gt585, li_lt633, li_ge633, li_le633, li_gt633, li_lt1000000, li_ge1000000, li_le1000000, li_gt1000000, li_lt2304, li_ge2304, li_le2304, li_gt2304, li_lt50, li_ge50, li_le50, li_gt50, li_le0, li_gt0]
    exact ⟨fun _ => hp, fun q => by omega⟩
  | succ d ih =>
    intro j b hj hI
    rcases hI j (by omega) with z | ⟨z, uj, lj, kj⟩
    · obtain ⟨b1, p1, p2, p3, p5, p4⟩ := xw_spread_43 (f_trials := f_trials) (f_drafted := f_drafted) (f_pairs := f_pairs) (f_metCount := f_metCount) (f_meetingCount := f_meetingCount) (a_held := a_held) (a_saved := a_saved) (a_draft := a_draft) (a_toldBefore := a_toldBefore) (a_pairX := a_pairX) (a_pairY := a_pairY) (a_stack := a_stack) (a_met := a_met) (a_metAs := a_metAs) (a_copies := a_copies) (a_meetings := a_meetings) (a_wasMeeting := a_wasMeeting) (a_firstMet := a_firstMet) (a_depths := a_depths) (a_isKept := a_isKept) (x1 := nI r) g (c := j) (n := 0) (by omega) (by omega) (fun q => by omega) 0 0 b rfl hI
      obtain ⟨b3, r1, r2, r3, r5, r4⟩ := ih (j + 1) b1 (by omega) p1
      refine ⟨b3, r1, fun c h => r2 c (p2 c h), fun c c1 c2 o k hk => ?_, fun S s1 s2 c h => ?_, fun post J2 hp => ?_⟩
      · by_cases e : c = j
        · rw [e, z] at o; exact absurd o (by decide)
        · exact r3 c (by omega) c2 (p2 c o) k hk
      · refine r5 S (fun c h => ?_) s2 c h
        rcases p5 c h with o | ⟨k, hk, _⟩
        · exact s1 c o
        · omega
      · rw [wX_spreadKept_10]
        dsimp only
        simp (disch := omega) only [forall_eq, true_and, and_true, Nat.zero_add, nI_clamp, li_vin, nI_add, nI_eq, nI_leI, nI_ltI, li_0le, li_lt0, li_nn1, li_e0, not_true_eq_false, not_false_eq_true, false_implies, true_implies, forall_const, li_a0, li_b0, li_a1, li_b1, li_a2, li_b2, li_a3, li_b3, li_a7, li_b7, li_a8, li_b8, li_a16, li_b16, li_a48, li_b48, li_a584, li_b584, li_a572, li_b572, li_a96, li_b96, li_a144, li_b144, li_a192, li_b192, li_a240, li_b240, li_a336, li_b336, li_a384, li_b384, li_a432, li_b432, li_a480, li_b480, li_a488, li_b488, li_a496, li_b496, li_a504, li_b504, li_a512, li_b512, li_a520, li_b520, li_a524, li_b524, li_a528, li_b528, li_a536, li_b536, li_a544, li_b544, li_a552, li_b552, li_a560, li_b560, li_a568, li_b568, li_a573, li_b573, li_a585, li_b585, li_a633, li_b633, li_m3, li_n3, li_m4, li_n4, li_m48, li_n48, li_m50, li_n50, li_m585, li_n585, li_m633, li_n633, li_lt2, li_ge2, li_le2, li_gt2, li_lt1, li_ge1, li_le1, li_gt1, li_lt3, li_ge3, li_le3, li_gt3, li_lt4, li_ge4, li_le4, li_gt4, li_lt7, li_ge7, li_le7, li_gt7, li_lt8, li_ge8, li_le8, li_gt8, li_lt40, li_ge40, li_le40, li_gt40, li_lt240, li_ge240, li_le240, li_gt240, li_lt41, li_ge41, li_le41, li_gt41, li_lt48, li_ge48, li_le48, li_gt48, li_lt49, li_ge49, li_le49, li_gt49, li_lt60, li_ge60, li_le60, li_gt60, li_lt144, li_ge144, li_le144, li_gt144, li_lt145, li_ge145, li_le145, li_gt145, li_lt160, li_ge160, li_le160, li_gt160, li_lt336, li_ge336, li_le336, li_gt336, li_lt585, li_ge585, li_le585, li_gt585, li_lt633, li_ge633, li_le633, li_gt633, li_lt1000000, li_ge1000000, li_le1000000, li_gt1000000, li_lt2304, li_ge2304, li_le2304, li_gt2304, li_lt50, li_ge50, li_le50, li_gt50, li_le0, li_gt0, z]
        exact ⟨fun q => by omega, fun _ => ⟨_, p4 post _ _ (r4 post J2 hp)⟩⟩
    · obtain ⟨ce, cl⟩ := xv_HC g.1 (c := j) (by omega)
      obtain ⟨b1, p1, p2, p3, p5, p4⟩ := xw_spread_43 (f_trials := f_trials) (f_drafted := f_drafted) (f_pairs := f_pairs) (f_metCount := f_metCount) (f_meetingCount := f_meetingCount) (a_held := a_held) (a_saved := a_saved) (a_draft := a_draft) (a_toldBefore := a_toldBefore) (a_pairX := a_pairX) (a_pairY := a_pairY) (a_stack := a_stack) (a_met := a_met) (a_metAs := a_metAs) (a_copies := a_copies) (a_meetings := a_meetings) (a_wasMeeting := a_wasMeeting) (a_firstMet := a_firstMet) (a_depths := a_depths) (a_isKept := a_isKept) (x1 := nI r) g (c := j) (n := ma_ct (xv_K a_held j)) (by omega) (Nat.le_refl _) (fun _ => ⟨uj, lj, kj⟩) (ma_ct (xv_K a_held j)) 0 b (by omega) hI
      obtain ⟨b3, r1, r2, r3, r5, r4⟩ := ih (j + 1) b1 (by omega) p1
      refine ⟨b3, r1, fun c h => r2 c (p2 c h), fun c c1 c2 o k hk => ?_, fun S s1 s2 c h => ?_, fun post J2 hp => ?_⟩
      · by_cases e : c = j
        · rw [e] at hk ⊢
          exact r2 _ (p3 k (by omega) hk)
        · exact r3 c (by omega) c2 (p2 c o) k hk
      · refine r5 S (fun c h => ?_) s2 c h
        rcases p5 c h with o | ⟨k, hk, e⟩
        · exact s1 c o
        · rw [e]; exact s2 j (by omega) (s1 j z) k hk
      · rw [wX_spreadKept_10]
        dsimp only
        simp (disch := omega) only [forall_eq, true_and, and_true, Nat.zero_add, nI_clamp, li_vin, nI_add, nI_eq, nI_leI, nI_ltI, li_0le, li_lt0, li_nn1, li_e0, not_true_eq_false, not_false_eq_true, false_implies, true_implies, forall_const, li_a0, li_b0, li_a1, li_b1, li_a2, li_b2, li_a3, li_b3, li_a7, li_b7, li_a8, li_b8, li_a16, li_b16, li_a48, li_b48, li_a584, li_b584, li_a572, li_b572, li_a96, li_b96, li_a144, li_b144, li_a192, li_b192, li_a240, li_b240, li_a336, li_b336, li_a384, li_b384, li_a432, li_b432, li_a480, li_b480, li_a488, li_b488, li_a496, li_b496, li_a504, li_b504, li_a512, li_b512, li_a520, li_b520, li_a524, li_b524, li_a528, li_b528, li_a536, li_b536, li_a544, li_b544, li_a552, li_b552, li_a560, li_b560, li_a568, li_b568, li_a573, li_b573, li_a585, li_b585, li_a633, li_b633, li_m3, li_n3, li_m4, li_n4, li_m48, li_n48, li_m50, li_n50, li_m585, li_n585, li_m633, li_n633, li_lt2, li_ge2, li_le2, li_gt2, li_lt1, li_ge1, li_le1, li_gt1, li_lt3, li_ge3, li_le3, li_gt3, li_lt4, li_ge4, li_le4, li_gt4, li_lt7, li_ge7, li_le7, li_gt7, li_lt8, li_ge8, li_le8, li_gt8, li_lt40, li_ge40, li_le40, li_gt40, li_lt240, li_ge240, li_le240, li_gt240, li_lt41, li_ge41, li_le41, li_gt41, li_lt48, li_ge48, li_le48, li_gt48, li_lt49, li_ge49, li_le49, li_gt49, li_lt60, li_ge60, li_le60, li_gt60, li_lt144, li_ge144, li_le144, li_gt144, li_lt145, li_ge145, li_le145, li_gt145, li_lt160, li_ge160, li_le160, li_gt160, li_lt336, li_ge336, li_le336, li_gt336, li_lt585, li_ge585, li_le585, li_gt585, li_lt633, li_ge633, li_le633, li_gt633, li_lt1000000, li_ge1000000, li_le1000000, li_gt1000000, li_lt2304, li_ge2304, li_le2304, li_gt2304, li_lt50, li_ge50, li_le50, li_gt50, li_le0, li_gt0, z, ce]
        refine ⟨fun q => by omega, fun _ => br_f (by decide) ⟨_, p4 post _ _ (r4 post J2 hp)⟩⟩
theorem xw_spreadKept {f_trials f_drafted f_pairs f_metCount f_meetingCount : Int32} {a_held a_saved a_draft a_toldBefore a_pairX a_pairY a_stack a_met a_metAs a_copies a_meetings a_wasMeeting a_firstMet a_depths a_isKept : Nat → Int32} (g : xv_G a_held) (hI : kx_I a_held a_isKept) : ∃ b : Nat → Int32, kx_I a_held b ∧ kx_m a_isKept b ∧ kx_c a_held b ∧ ∀ post : SX → Prop, post (f_trials, f_drafted, f_pairs, f_metCount, f_meetingCount, a_held, a_saved, a_draft, a_toldBefore, a_pairX, a_pairY, a_stack, a_met, a_metAs, a_copies, a_meetings, a_wasMeeting, a_firstMet, a_depths, b) → wpX_spreadKept post (f_trials, f_drafted, f_pairs, f_metCount, f_meetingCount, a_held, a_saved, a_draft, a_toldBefore, a_pairX, a_pairY, a_stack, a_met, a_metAs, a_copies, a_meetings, a_wasMeeting, a_firstMet, a_depths, a_isKept) := by
  have lp : ∀ d r (a_isKept : Nat → Int32), r + d = 48 → kx_I a_held a_isKept → (kx_c a_held a_isKept ∨ r ≤ ma_cnt (fun c => decide (a_isKept c = 1)) 48) → ∃ b : Nat → Int32, kx_I a_held b ∧ kx_m a_isKept b ∧ kx_c a_held b ∧ ∀ post : SX → Prop, post (f_trials, f_drafted, f_pairs, f_metCount, f_meetingCount, a_held, a_saved, a_draft, a_toldBefore, a_pairX, a_pairY, a_stack, a_met, a_metAs, a_copies, a_meetings, a_wasMeeting, a_firstMet, a_depths, b) → wX_spreadKept_2 post (d + 1) (nI r) f_trials f_drafted f_pairs f_metCount f_meetingCount a_held a_saved a_draft a_toldBefore a_pairX a_pairY a_stack a_met a_metAs a_copies a_meetings a_wasMeeting a_firstMet a_depths a_isKept := by
    intro d
    induction d with
    | zero =>
      intro r b hr hI h
      have cl : kx_c a_held b := by
        rcases h with h | h
        · exact h
        · intro c hc o k hk
          rcases hI c hc with z | ⟨_, uc, lc, _⟩
          · rw [z] at o; exact absurd o (by decide)
          · have k0 : xv_K a_held c ≠ 0 := fun q => by
              rw [q, ma_ct_0] at hk
              omega
            have up : xv_U a_held (xv_P a_held c k) := g.2.2 c ⟨uc, lc, k0⟩ k hk
            have := ma_cnt_full (p := fun c => decide (b c = 1)) 48 (by omega) (xv_L a_held (xv_P a_held c k)) (g.2.1 _ (g.2.1 _ up).2.1).1
            exact of_decide_eq_true this
      refine ⟨b, hI, fun _ h => h, cl, fun post hp => ?_⟩
      unfold wX_spreadKept_2
      simp (disch := omega) only [forall_eq, true_and, and_true, Nat.zero_add, nI_clamp, li_vin, nI_add, nI_eq, nI_leI, nI_ltI, li_0le, li_lt0, li_nn1, li_e0, not_true_eq_false, not_false_eq_true, false_implies, true_implies, forall_const, li_a0, li_b0, li_a1, li_b1, li_a2, li_b2, li_a3, li_b3, li_a7, li_b7, li_a8, li_b8, li_a16, li_b16, li_a48, li_b48, li_a584, li_b584, li_a572, li_b572, li_a96, li_b96, li_a144, li_b144, li_a192, li_b192, li_a240, li_b240, li_a336, li_b336, li_a384, li_b384, li_a432, li_b432, li_a480, li_b480, li_a488, li_b488, li_a496, li_b496, li_a504, li_b504, li_a512, li_b512, li_a520, li_b520, li_a524, li_b524, li_a528, li_b528, li_a536, li_b536, li_a544, li_b544, li_a552, li_b552, li_a560, li_b560, li_a568, li_b568, li_a573, li_b573, li_a585, li_b585, li_a633, li_b633, li_m3, li_n3, li_m4, li_n4, li_m48, li_n48, li_m50, li_n50, li_m585, li_n585, li_m633, li_n633, li_lt2, li_ge2, li_le2, li_gt2, li_lt1, li_ge1, li_le1, li_gt1, li_lt3, li_ge3, li_le3, li_gt3, li_lt4, li_ge4, li_le4, li_gt4, li_lt7, li_ge7, li_le7, li_gt7, li_lt8, li_ge8, li_le8, li_gt8, li_lt40, li_ge40, li_le40, li_gt40, li_lt240, li_ge240, li_le240, li_gt240, li_lt41, li_ge41, li_le41, li_gt41, li_lt48, li_ge48, li_le48, li_gt48, li_lt49, li_ge49, li_le49, li_gt49, li_lt60, li_ge60, li_le60, li_gt60, li_lt144, li_ge144, li_le144, li_gt144, li_lt145, li_ge145, li_le145, li_gt145, li_lt160, li_ge160, li_le160, li_gt160, li_lt336, li_ge336, li_le336, li_gt336, li_lt585, li_ge585, li_le585, li_gt585, li_lt633, li_ge633, li_le633, li_gt633, li_lt1000000, li_ge1000000, li_le1000000, li_gt1000000, li_lt2304, li_ge2304, li_le2304, li_gt2304, li_lt50, li_ge50, li_le50, li_gt50, li_le0, li_gt0]
      exact ⟨fun _ => hp, fun q => by omega⟩
    | succ d ih =>
      intro r b hr hI h
      obtain ⟨b1, p1, p2, p3, p5, p4⟩ := xw_spread_10 (f_trials := f_trials) (f_drafted := f_drafted) (f_pairs := f_pairs) (f_metCount := f_metCount) (f_meetingCount := f_meetingCount) (a_held := a_held) (a_saved := a_saved) (a_draft := a_draft) (a_toldBefore := a_toldBefore) (a_pairX := a_pairX) (a_pairY := a_pairY) (a_stack := a_stack) (a_met := a_met) (a_metAs := a_metAs) (a_copies := a_copies) (a_meetings := a_meetings) (a_wasMeeting := a_wasMeeting) (a_firstMet := a_firstMet) (a_depths := a_depths) (a_isKept := a_isKept) g (r := r) 48 0 b rfl hI
      have next : kx_c a_held b1 ∨ r + 1 ≤ ma_cnt (fun c => decide (b1 c = 1)) 48 := by
        by_cases same : ∀ c, c < 48 → b1 c = 1 → b c = 1
        · refine Or.inl (fun c hc o k hk => p3 c (by omega) hc (same c hc o) k hk)
        · rcases h with h | h
          · exfalso
            apply same
            intro c hc o
            exact p5 (fun c => b c = 1) (fun _ h => h) (fun c hc o k hk => h c hc o k hk) c o
          · right
            have ex : ∃ c, c < 48 ∧ b1 c = 1 ∧ ¬ b c = 1 := by
              apply Classical.byContradiction
              intro q
              apply same
              intro c hc o
              exact Classical.byContradiction (fun n => q ⟨c, hc, o, n⟩)
            obtain ⟨c, hc, o, n⟩ := ex
            have := ma_cnt_lt (p := fun c => decide (b c = 1)) (q := fun c => decide (b1 c = 1)) 48 (fun i hi h => decide_eq_true (p2 i (of_decide_eq_true h))) ⟨c, hc, decide_eq_true o, fun h => n (of_decide_eq_true h)⟩
            omega
      obtain ⟨b3, r1, r2, r3, r4⟩ := ih (r + 1) b1 (by omega) p1 next
      refine ⟨b3, r1, fun c h => r2 c (p2 c h), r3, fun post hp => ?_⟩
      rw [wX_spreadKept_2]
      refine br_f (fun q => by have := (li_ge48 (by omega)).mp q; omega) ⟨_, p4 post _ (r4 post hp)⟩
  obtain ⟨b, h1, h2, h3, h4⟩ := lp 48 0 a_isKept rfl hI (Or.inr (Nat.zero_le _))
  exact ⟨b, h1, h2, h3, fun post hp => ⟨_, h4 post hp⟩⟩
/-- who goes -/
def kg_G (a : Nat → Int32) (x : Nat) : Prop := xv_U a x ∧ ¬ kp_K a (xv_L a x)
theorem xw_clear_21 {f_trials f_drafted f_pairs f_metCount f_meetingCount : Int32} {a_held a_saved a_draft a_toldBefore a_pairX a_pairY a_stack a_met a_metAs a_copies a_meetings a_wasMeeting a_firstMet a_depths a_isKept : Nat → Int32} {B : Nat} {a0 s : Nat → Int32} (hr : re_P B a0 s) (hb : ∀ c, xv_U a0 c → xv_L a0 c = c → (a_isKept c = 1 ↔ kp_K a0 c)) (hI : kx_I a0 a_isKept) : ∀ d j (a_held : Nat → Int32), j + d = 48 → (∀ x, x < j → kg_G a0 x → a_held (336 + x) = 0 ∧ a_held (384 + x) = 0) → (∀ x, x < 48 → (j ≤ x ∨ ¬ kg_G a0 x) → a_held (336 + x) = a0 (336 + x) ∧ a_held (384 + x) = a0 (384 + x)) → (∀ i, (i < 336 ∨ 432 ≤ i) → a_held i = a0 i) → ∃ a' : Nat → Int32, (∀ x, x < 48 → kg_G a0 x → a' (336 + x) = 0 ∧ a' (384 + x) = 0) ∧ (∀ x, x < 48 → ¬ kg_G a0 x → a' (336 + x) = a0 (336 + x) ∧ a' (384 + x) = a0 (384 + x)) ∧ (∀ i, (i < 336 ∨ 432 ≤ i) → a' i = a0 i) ∧ ∀ post : Int32 → SX → Prop, post (nI (sc_n (kg_G a0) 48)) (f_trials, f_drafted, f_pairs, f_metCount, f_meetingCount, a', a_saved, a_draft, a_toldBefore, a_pairX, a_pairY, a_stack, a_met, a_metAs, a_copies, a_meetings, a_wasMeeting, a_firstMet, a_depths, a_isKept) → wX_clear_21 post (d + 1) (nI (sc_n (kg_G a0) j)) (nI j) f_trials f_drafted f_pairs f_metCount f_meetingCount a_held a_saved a_draft a_toldBefore a_pairX a_pairY a_stack a_met a_metAs a_copies a_meetings a_wasMeeting a_firstMet a_depths a_isKept := by
  intro d
  induction d with
  | zero =>
    intro j a hj h1 h2 h3
    have e : j = 48 := by omega
    refine ⟨a, fun x hx => h1 x (by omega), fun x hx n => h2 x hx (Or.inr n), h3, fun post hp => ?_⟩
    rw [wX_clear_21]
    refine br_t ((li_ge48 (by omega)).mpr (by omega)) ?_
    rw [e]; exact hp
  | succ d ih =>
    intro j a hj h1 h2 h3
    have c1 : ¬ (48 : Int32) ≤ nI j := fun q => by have := (li_ge48 (by omega)).mp q; omega
    have uj : xv_U a j ↔ xv_U a0 j := by
      unfold xv_U
      rw [(h2 j (by omega) (Or.inl (by omega))).1]
    by_cases u : xv_U a0 j
    · obtain ⟨eL, lL⟩ := xv_HL hr.1 u.1
      have wl := hr.2.2.2.2.1.1 j u
      have eL' : a j = nI (xv_L a0 j) := by rw [h3 j (by omega)]; exact eL
      have iff := hb _ wl.2.1 wl.2.2.1
      by_cases kp : kp_K a0 (xv_L a0 j)
      · have nG : ¬ kg_G a0 j := fun q => q.2 kp
        obtain ⟨a', q1, q2, q3, q4⟩ := ih (j + 1) a (by omega) (fun x hx gx => by
          by_cases e : x = j
          · rw [e] at gx; exact absurd gx nG
          · exact h1 x (by omega) gx) (fun x hx o => by
          by_cases e : x = j
          · exact h2 x hx (Or.inl (by omega))
          · exact h2 x hx (by
              rcases o with o | o
              · exact Or.inl (by omega)
              · exact Or.inr o)) h3
        refine ⟨a', q1, q2, q3, fun post hp => ?_⟩
        have q4' := q4 post hp
        rw [sc_no nG] at q4'
        rw [wX_clear_21]
        dsimp only
        refine br_f c1 (xw_inUse_t (f_trials := f_trials) (f_drafted := f_drafted) (f_pairs := f_pairs) (f_metCount := f_metCount) (f_meetingCount := f_meetingCount) (a_held := a) (a_saved := a_saved) (a_draft := a_draft) (a_toldBefore := a_toldBefore) (a_pairX := a_pairX) (a_pairY := a_pairY) (a_stack := a_stack) (a_met := a_met) (a_metAs := a_metAs) (a_copies := a_copies) (a_meetings := a_meetings) (a_wasMeeting := a_wasMeeting) (a_firstMet := a_firstMet) (a_depths := a_depths) (a_isKept := a_isKept) (uj.mpr u) _ (br_f (by decide) ?_))
        simp (disch := omega) only [forall_eq, true_and, and_true, Nat.zero_add, nI_clamp, li_vin, nI_add, nI_eq, nI_leI, nI_ltI, li_0le, li_lt0, li_nn1, li_e0, not_true_eq_false, not_false_eq_true, false_implies, true_implies, forall_const, li_a0, li_b0, li_a1, li_b1, li_a2, li_b2, li_a3, li_b3, li_a7, li_b7, li_a8, li_b8, li_a16, li_b16, li_a48, li_b48, li_a584, li_b584, li_a572, li_b572, li_a96, li_b96, li_a144, li_b144, li_a192, li_b192, li_a240, li_b240, li_a336, li_b336, li_a384, li_b384, li_a432, li_b432, li_a480, li_b480, li_a488, li_b488, li_a496, li_b496, li_a504, li_b504, li_a512, li_b512, li_a520, li_b520, li_a524, li_b524, li_a528, li_b528, li_a536, li_b536, li_a544, li_b544, li_a552, li_b552, li_a560, li_b560, li_a568, li_b568, li_a573, li_b573, li_a585, li_b585, li_a633, li_b633, li_m3, li_n3, li_m4, li_n4, li_m48, li_n48, li_m50, li_n50, li_m585, li_n585, li_m633, li_n633, li_lt2, li_ge2, li_le2, li_gt2, li_lt1, li_ge1, li_le1, li_gt1, li_lt3, li_ge3, li_le3, li_gt3, li_lt4, li_ge4, li_le4, li_gt4, li_lt7, li_ge7, li_le7, li_gt7, li_lt8, li_ge8, li_le8, li_gt8, li_lt40, li_ge40, li_le40, li_gt40, li_lt240, li_ge240, li_le240, li_gt240, li_lt41, li_ge41, li_le41, li_gt41, li_lt48, li_ge48, li_le48, li_gt48, li_lt49, li_ge49, li_le49, li_gt49, li_lt60, li_ge60, li_le60, li_gt60, li_lt144, li_ge144, li_le144, li_gt144, li_lt145, li_ge145, li_le145, li_gt145, li_lt160, li_ge160, li_le160, li_gt160, li_lt336, li_ge336, li_le336, li_gt336, li_lt585, li_ge585, li_le585, li_gt585, li_lt633, li_ge633, li_le633, li_gt633, li_lt1000000, li_ge1000000, li_le1000000, li_gt1000000, li_lt2304, li_ge2304, li_le2304, li_gt2304, li_lt50, li_ge50, li_le50, li_gt50, li_le0, li_gt0, eL', iff.mpr kp]
        exact br_f (by decide) q4'
      · have G : kg_G a0 j := ⟨u, kp⟩
        have b0 : a_isKept (xv_L a0 j) = 0 := by
          rcases hI _ lL with z | z
          · exact z
          · exact absurd z.2.2.2 kp
        obtain ⟨a', q1, q2, q3, q4⟩ := ih (j + 1) (upd (upd a (336 + j) 0) (384 + j) 0) (by omega) (fun x hx gx => by
          by_cases e : x = j
          · rw [e, pk_un (by omega), pk_us, pk_us]; exact ⟨rfl, rfl⟩
          · rw [pk_un (by omega), pk_un (by omega), pk_un (by omega), pk_un (by omega)]
            exact h1 x (by omega) gx) (fun x hx o => by
          have e : x ≠ j := by
            intro e
            rcases o with o | o
            · omega
            · rw [e] at o; exact o G
          rw [pk_un (by omega), pk_un (by omega), pk_un (by omega), pk_un (by omega)]
          exact h2 x hx (by
            rcases o with o | o
            · exact Or.inl (by omega)
            · exact Or.inr o)) (fun i hi => by rw [pk_un (by omega), pk_un (by omega)]; exact h3 i hi)
        refine ⟨a', q1, q2, q3, fun post hp => ?_⟩
        have q4' := q4 post hp
        rw [sc_y G] at q4'
        rw [wX_clear_21]
        dsimp only
        refine br_f c1 (xw_inUse_t (f_trials := f_trials) (f_drafted := f_drafted) (f_pairs := f_pairs) (f_metCount := f_metCount) (f_meetingCount := f_meetingCount) (a_held := a) (a_saved := a_saved) (a_draft := a_draft) (a_toldBefore := a_toldBefore) (a_pairX := a_pairX) (a_pairY := a_pairY) (a_stack := a_stack) (a_met := a_met) (a_metAs := a_metAs) (a_copies := a_copies) (a_meetings := a_meetings) (a_wasMeeting := a_wasMeeting) (a_firstMet := a_firstMet) (a_depths := a_depths) (a_isKept := a_isKept) (uj.mpr u) _ (br_f (by decide) ?_))
        simp (disch := omega) only [forall_eq, true_and, and_true, Nat.zero_add, nI_clamp, li_vin, nI_add, nI_eq, nI_leI, nI_ltI, li_0le, li_lt0, li_nn1, li_e0, not_true_eq_false, not_false_eq_true, false_implies, true_implies, forall_const, li_a0, li_b0, li_a1, li_b1, li_a2, li_b2, li_a3, li_b3, li_a7, li_b7, li_a8, li_b8, li_a16, li_b16, li_a48, li_b48, li_a584, li_b584, li_a572, li_b572, li_a96, li_b96, li_a144, li_b144, li_a192, li_b192, li_a240, li_b240, li_a336, li_b336, li_a384, li_b384, li_a432, li_b432, li_a480, li_b480, li_a488, li_b488, li_a496, li_b496, li_a504, li_b504, li_a512, li_b512, li_a520, li_b520, li_a524, li_b524, li_a528, li_b528, li_a536, li_b536, li_a544, li_b544, li_a552, li_b552, li_a560, li_b560, li_a568, li_b568, li_a573, li_b573, li_a585, li_b585, li_a633, li_b633, li_m3, li_n3, li_m4, li_n4, li_m48, li_n48, li_m50, li_n50, li_m585, li_n585, li_m633, li_n633, li_lt2, li_ge2, li_le2, li_gt2, li_lt1, li_ge1, li_le1, li_gt1, li_lt3, li_ge3, li_le3, li_gt3, li_lt4, li_ge4, li_le4, li_gt4, li_lt7, li_ge7, li_le7, li_gt7, li_lt8, li_ge8, li_le8, li_gt8, li_lt40, li_ge40, li_le40, li_gt40, li_lt240, li_ge240, li_le240, li_gt240, li_lt41, li_ge41, li_le41, li_gt41, li_lt48, li_ge48, li_le48, li_gt48, li_lt49, li_ge49, li_le49, li_gt49, li_lt60, li_ge60, li_le60, li_gt60, li_lt144, li_ge144, li_le144, li_gt144, li_lt145, li_ge145, li_le145, li_gt145, li_lt160, li_ge160, li_le160, li_gt160, li_lt336, li_ge336, li_le336, li_gt336, li_lt585, li_ge585, li_le585, li_gt585, li_lt633, li_ge633, li_le633, li_gt633, li_lt1000000, li_ge1000000, li_le1000000, li_gt1000000, li_lt2304, li_ge2304, li_le2304, li_gt2304, li_lt50, li_ge50, li_le50, li_gt50, li_le0, li_gt0, eL', b0]
        exact xw_release (f_trials := f_trials) (f_drafted := f_drafted) (f_pairs := f_pairs) (f_metCount := f_metCount) (f_meetingCount := f_meetingCount) (a_held := a) (a_saved := a_saved) (a_draft := a_draft) (a_toldBefore := a_toldBefore) (a_pairX := a_pairX) (a_pairY := a_pairY) (a_stack := a_stack) (a_met := a_met) (a_metAs := a_metAs) (a_copies := a_copies) (a_meetings := a_meetings) (a_wasMeeting := a_wasMeeting) (a_firstMet := a_firstMet) (a_depths := a_depths) (a_isKept := a_isKept) (by omega) _ q4'
    · have nG : ¬ kg_G a0 j := fun q => u q.1
      obtain ⟨a', q1, q2, q3, q4⟩ := ih (j + 1) a (by omega) (fun x hx gx => by
        by_cases e : x = j
        · rw [e] at gx; exact absurd gx nG
        · exact h1 x (by omega) gx) (fun x hx o => by
        by_cases e : x = j
        · exact h2 x hx (Or.inl (by omega))
        · exact h2 x hx (by
            rcases o with o | o
            · exact Or.inl (by omega)
            · exact Or.inr o)) h3
      refine ⟨a', q1, q2, q3, fun post hp => ?_⟩
      have q4' := q4 post hp
      rw [sc_no nG] at q4'
      rw [wX_clear_21]
      dsimp only
      refine br_f c1 (xw_inUse_f (f_trials := f_trials) (f_drafted := f_drafted) (f_pairs := f_pairs) (f_metCount := f_metCount) (f_meetingCount := f_meetingCount) (a_held := a) (a_saved := a_saved) (a_draft := a_draft) (a_toldBefore := a_toldBefore) (a_pairX := a_pairX) (a_pairY := a_pairY) (a_stack := a_stack) (a_met := a_met) (a_metAs := a_metAs) (a_copies := a_copies) (a_meetings := a_meetings) (a_wasMeeting := a_wasMeeting) (a_firstMet := a_firstMet) (a_depths := a_depths) (a_isKept := a_isKept) (fun ⟨y, uy, ey⟩ => ?_) _ (br_t rfl (nm_r (nI_1 j) q4')))
      have : j = y := (nI_eq (by omega) (by have := uy.1; omega)).mp ey
      rw [← this] at uy
      exact u (uj.mp uy)
