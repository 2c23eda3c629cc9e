theorem nr_0 : vp_nar .boolean 0 = 0 := rfl
theorem nr_1 : vp_nar .boolean 1 = 1 := rfl
/-- the meetings that are noted -/
def mx_I (a : Nat → Int32) (x y c : Nat) (mts was : Nat → Int32) : Prop :=
  (∀ j, j < c → ∃ u v, u < 48 ∧ v < 48 ∧ mts j = nI (u * 48 + v) ∧ mt_M (xv_L a) (xv_T a) x y u v ∧ was (u * 48 + v) = 1) ∧
  (∀ w, w < 2304 → was w = 0 ∨ (was w = 1 ∧ ∃ j, j < c ∧ mts j = nI w)) ∧
  c = ma_cnt (fun w => decide (was w = 1)) 2304
theorem xw_forget {f_trials f_drafted f_pairs f_metCount f_meetingCount : Int32} {a_held a_saved a_draft a_toldBefore a_pairX a_pairY a_stack a_met a_metAs a_copies a_meetings a_wasMeeting a_firstMet a_depths a_isKept : Nat → Int32} : ∃ was fm : Nat → Int32, (∀ w, w < 2304 → was w = 0) ∧ (∀ u, u < 48 → fm u = -1) ∧ ∀ post : SX → Prop, post (f_trials, f_drafted, f_pairs, f_metCount, 0, a_held, a_saved, a_draft, a_toldBefore, a_pairX, a_pairY, a_stack, a_met, a_metAs, a_copies, a_meetings, was, fm, a_depths, a_isKept) → wpX_forgetMeetings post (f_trials, f_drafted, f_pairs, f_metCount, f_meetingCount, a_held, a_saved, a_draft, a_toldBefore, a_pairX, a_pairY, a_stack, a_met, a_metAs, a_copies, a_meetings, a_wasMeeting, a_firstMet, a_depths, a_isKept) := by
  have lp2 : ∀ d j (f_meetingCount : Int32) (a_wasMeeting a_firstMet : Nat → Int32), j + d = 48 → (∀ u, u < j → a_firstMet u = -1) → ∃ fm : Nat → Int32, (∀ u, u < 48 → fm u = -1) ∧ ∀ post : SX → Prop, post (f_trials, f_drafted, f_pairs, f_metCount, f_meetingCount, a_held, a_saved, a_draft, a_toldBefore, a_pairX, a_pairY, a_stack, a_met, a_metAs, a_copies, a_meetings, a_wasMeeting, fm, a_depths, a_isKept) → wX_forgetMeetings_29 post f_trials f_drafted f_pairs f_metCount f_meetingCount (d + 1) (nI j) a_held a_saved a_draft a_toldBefore a_pairX a_pairY a_stack a_met a_metAs a_copies a_meetings a_wasMeeting a_firstMet a_depths a_isKept := by
    intro d
    induction d with
    | zero =>
      intro j fc was fm hj h
      refine ⟨fm, fun u hu => h u (by omega), fun post hp => ?_⟩
      unfold wX_forgetMeetings_29
      simp (disch := omega) only [forall_eq, true_and, and_true, Nat.zero_add, nI_clamp, li_vin, nI_add, nI_eq, nI_leI, nI_ltI, li_0le, li_lt0, li_nn1, li_e0, not_true_eq_false, not_false_eq_true, false_implies, true_implies, forall_const, li_a0, li_b0, li_a1, li_b1, li_a2, li_b2, li_a3, li_b3, li_a7, li_b7, li_a8, li_b8, li_a16, li_b16, li_a48, li_b48, li_a584, li_b584, li_a572, li_b572, li_a96, li_b96, li_a144, li_b144, li_a192, li_b192, li_a240, li_b240, li_a336, li_b336, li_a384, li_b384, li_a432, li_b432, li_a480, li_b480, li_a488, li_b488, li_a496, li_b496, li_a504, li_b504, li_a512, li_b512, li_a520, li_b520, li_a524, li_b524, li_a528, li_b528, li_a536, li_b536, li_a544, li_b544, li_a552, li_b552, li_a560, li_b560, li_a568, li_b568, li_a573, li_b573, li_a585, li_b585, li_a633, li_b633, li_m3, li_n3, li_m4, li_n4, li_m48, li_n48, li_m50, li_n50, li_m585, li_n585, li_m633, li_n633, li_lt2, li_ge2, li_le2, li_gt2, li_lt1, li_ge1, li_le1, li_gt1, li_lt3, li_ge3, li_le3, li_gt3, li_lt4, li_ge4, li_le4, li_gt4, li_lt7, li_ge7, li_le7, li_gt7, li_lt8, li_ge8, li_le8, li_gt8, li_lt40, li_ge40, li_le40, li_gt40, li_lt240, li_ge240, li_le240, li_gt240, li_lt41, li_ge41, li_le41, li_gt41, li_lt48, li_ge48, li_le48, li_gt48, li_lt49, li_ge49, li_le49, li_gt49, li_lt60, li_ge60, li_le60, li_gt60, li_lt144, li_ge144, li_le144, li_gt144, li_lt145, li_ge145, li_le145, li_gt145, li_lt160, li_ge160, li_le160, li_gt160, li_lt336, li_ge336, li_le336, li_gt336, li_lt585, li_ge585, li_le585, li_gt585, li_lt633, li_ge633, li_le633, li_gt633, li_lt1000000, li_ge1000000, li_le1000000, li_gt1000000, li_lt2304, li_ge2304, li_le2304, li_gt2304, li_lt50, li_ge50, li_le50, li_gt50, li_le0, li_gt0]
      exact ⟨fun _ => hp, fun q => by omega⟩
    | succ d ih =>
      intro j fc was fm hj h
      obtain ⟨fm', h1, h2⟩ := ih (j + 1) fc was (upd fm j (-1)) (by omega) (by
        intro u hu
        by_cases q : u = j
        · rw [q, pk_us]
        · rw [pk_un q]; exact h u (by omega))
      refine ⟨fm', h1, fun post hp => ?_⟩
      unfold wX_forgetMeetings_29
      simp (disch := omega) only [forall_eq, true_and, and_true, Nat.zero_add, nI_clamp, li_vin, nI_add, nI_eq, nI_leI, nI_ltI, li_0le, li_lt0, li_nn1, li_e0, not_true_eq_false, not_false_eq_true, false_implies, true_implies, forall_const, li_a0, li_b0, li_a1, li_b1, li_a2, li_b2, li_a3, li_b3, li_a7, li_b7, li_a8, li_b8, li_a16, li_b16, li_a48, li_b48, li_a584, li_b584, li_a572, li_b572, li_a96, li_b96, li_a144, li_b144, li_a192, li_b192, li_a240, li_b240, li_a336, li_b336, li_a384, li_b384, li_a432, li_b432, li_a480, li_b480, li_a488, li_b488, li_a496, li_b496, li_a504, li_b504, li_a512, li_b512, li_a520, li_b520, li_a524, li_b524, li_a528, li_b528, li_a536, li_b536, li_a544, li_b544, li_a552, li_b552, li_a560, li_b560, li_a568, li_b568, li_a573, li_b573, li_a585, li_b585, li_a633, li_b633, li_m3, li_n3, li_m4, li_n4, li_m48, li_n48, li_m50, li_n50, li_m585, li_n585, li_m633, li_n633, li_lt2, li_ge2, li_le2, li_gt2, li_lt1, li_ge1, li_le1, li_gt1, li_lt3, li_ge3, li_le3, li_gt3, li_lt4, li_ge4, li_le4, li_gt4, li_lt7, li_ge7, li_le7, li_gt7, li_lt8, li_ge8, li_le8, li_gt8, li_lt40, li_ge40, li_le40, li_gt40, li_lt240, li_ge240, li_le240, li_gt240, li_lt41, li_ge41, li_le41, li_gt41, li_lt48, li_ge48, li_le48, li_gt48, li_lt49, li_ge49, li_le49, li_gt49, li_lt60, li_ge60, li_le60, li_gt60, li_lt144, li_ge144, li_le144, li_gt144, li_lt145, li_ge145, li_le145, li_gt145, li_lt160, li_ge160, li_le160, li_gt160, li_lt336, li_ge336, li_le336, li_gt336, li_lt585, li_ge585, li_le585, li_gt585, li_lt633, li_ge633, li_le633, li_gt633, li_lt1000000, li_ge1000000, li_le1000000, li_gt1000000, li_lt2304, li_ge2304, li_le2304, li_gt2304, li_lt50, li_ge50, li_le50, li_gt50, li_le0, li_gt0]
      exact ⟨fun q => by omega, fun _ => h2 post hp⟩
  have lp1 : ∀ d j (f_meetingCount : Int32) (a_wasMeeting : Nat → Int32), j + d = 2304 → (∀ w, w < j → a_wasMeeting w = 0) → ∃ was fm : Nat → Int32, (∀ w, w < 2304 → was w = 0) ∧ (∀ u, u < 48 → fm u = -1) ∧ ∀ post : SX → Prop, post (f_trials, f_drafted, f_pairs, f_metCount, f_meetingCount, a_held, a_saved, a_draft, a_toldBefore, a_pairX, a_pairY, a_stack, a_met, a_metAs, a_copies, a_meetings, was, fm, a_depths, a_isKept) → wX_forgetMeetings_7 post f_trials f_drafted f_pairs f_metCount f_meetingCount (d + 1) (nI j) a_held a_saved a_draft a_toldBefore a_pairX a_pairY a_stack a_met a_metAs a_copies a_meetings a_wasMeeting a_firstMet a_depths a_isKept := by
    intro d
    induction d with
    | zero =>
      intro j fc was hj h
      obtain ⟨fm, h1, h2⟩ := lp2 48 0 fc was a_firstMet rfl (fun u hu => by omega)
      refine ⟨was, fm, fun u hu => h u (by omega), h1, fun post hp => ?_⟩
      unfold wX_forgetMeetings_7
      simp (disch := omega) only [forall_eq, true_and, and_true, Nat.zero_add, nI_clamp, li_vin, nI_add, nI_eq, nI_leI, nI_ltI, li_0le, li_lt0, li_nn1, li_e0, not_true_eq_false, not_false_eq_true, false_implies, true_implies, forall_const, li_a0, li_b0, li_a1, li_b1, li_a2, li_b2, li_a3, li_b3, li_a7, li_b7, li_a8, li_b8, li_a16, li_b16, li_a48, li_b48, li_a584, li_b584, li_a572, li_b572, li_a96, li_b96, li_a144, li_b144, li_a192, li_b192, li_a240, li_b240, li_a336, li_b336, li_a384, li_b384, li_a432, li_b432, li_a480, li_b480, li_a488, li_b488, li_a496, li_b496, li_a504, li_b504, li_a512, li_b512, li_a520, li_b520, li_a524, li_b524, li_a528, li_b528, li_a536, li_b536, li_a544, li_b544, li_a552, li_b552, li_a560, li_b560, li_a568, li_b568, li_a573, li_b573, li_a585, li_b585, li_a633, li_b633, li_m3, li_n3, li_m4, li_n4, li_m48, li_n48, li_m50, li_n50, li_m585, li_n585, li_m633, li_n633, li_lt2, li_ge2, li_le2, li_gt2, li_lt1, li_ge1, li_le1, li_gt1, li_lt3, li_ge3, li_le3, li_gt3, li_lt4, li_ge4, li_le4, li_gt4, li_lt7, li_ge7, li_le7, li_gt7, li_lt8, li_ge8, li_le8, li_gt8, li_lt40, li_ge40, li_le40, li_gt40, li_lt240, li_ge240, li_le240, li_gt240, li_lt41, li_ge41, li_le41, li_gt41, li_lt48, li_ge48, li_le48, li_gt48, li_lt49, li_ge49, li_le49, li_gt49, li_lt60, li_ge60, li_le60, li_gt60, li_lt144, li_ge144, li_le144, li_gt144, li_lt145, li_ge145, li_le145, li_gt145, li_lt160, li_ge160, li_le160, li_gt160, li_lt336, li_ge336, li_le336, li_gt336, li_lt585, li_ge585, li_le585, li_gt585, li_lt633, li_ge633, li_le633, li_gt633, li_lt1000000, li_ge1000000, li_le1000000, li_gt1000000, li_lt2304, li_ge2304, li_le2304, li_gt2304, li_lt50, li_ge50, li_le50, li_gt50, li_le0, li_gt0]
      exact ⟨fun _ => ⟨_, h2 post hp⟩, fun q => by omega⟩
    | succ d ih =>
      intro j fc was hj h
      obtain ⟨was', fm', h1, h2, h3⟩ := ih (j + 1) fc (upd was j 0) (by omega) (by
        intro u hu
        by_cases q : u = j
        · rw [q, pk_us]
        · rw [pk_un q]; exact h u (by omega))
      refine ⟨was', fm', h1, h2, fun post hp => ?_⟩
      unfold wX_forgetMeetings_7
      simp (disch := omega) only [forall_eq, true_and, and_true, Nat.zero_add, nI_clamp, li_vin, nI_add, nI_eq, nI_leI, nI_ltI, li_0le, li_lt0, li_nn1, li_e0, not_true_eq_false, not_false_eq_true, false_implies, true_implies, forall_const, li_a0, li_b0, li_a1, li_b1, li_a2, li_b2, li_a3, li_b3, li_a7, li_b7, li_a8, li_b8, li_a16, li_b16, li_a48, li_b48, li_a584, li_b584, li_a572, li_b572, li_a96, li_b96, li_a144, li_b144, li_a192, li_b192, li_a240, li_b240, li_a336, li_b336, li_a384, li_b384, li_a432, li_b432, li_a480, li_b480, li_a488, li_b488, li_a496, li_b496, li_a504, li_b504, li_a512, li_b512, li_a520, li_b520, li_a524, li_b524, li_a528, li_b528, li_a536, li_b536, li_a544, li_b544, li_a552, li_b552, li_a560, li_b560, li_a568, li_b568, li_a573, li_b573, li_a585, li_b585, li_a633, li_b633, li_m3, li_n3, li_m4, li_n4, li_m48, li_n48, li_m50, li_n50, li_m585, li_n585, li_m633, li_n633, li_lt2, li_ge2, li_le2, li_gt2, li_lt1, li_ge1, li_le1, li_gt1, li_lt3, li_ge3, li_le3, li_gt3, li_lt4, li_ge4, li_le4, li_gt4, li_lt7, li_ge7, li_le7, li_gt7, li_lt8, li_ge8, li_le8, li_gt8, li_lt40, li_ge40, li_le40, li_gt40, li_lt240, li_ge240, li_le240, li_gt240, li_lt41, li_ge41, li_le41, li_gt41, li_lt48, li_ge48, li_le48, li_gt48, li_lt49, li_ge49, li_le49, li_gt49, li_lt60, li_ge60, li_le60, li_gt60, li_lt144, li_ge144, li_le144, li_gt144, li_lt145, li_ge145, li_le145, li_gt145, li_lt160, li_ge160, li_le160, li_gt160, li_lt336, li_ge336, li_le336, li_gt336, li_lt585, li_ge585, li_le585, li_gt585, li_lt633, li_ge633, li_le633, li_gt633, li_lt1000000, li_ge1000000, li_le1000000, li_gt1000000, li_lt2304, li_ge2304, li_le2304, li_gt2304, li_lt50, li_ge50, li_le50, li_gt50, li_le0, li_gt0, nr_0]
      exact ⟨fun q => by omega, fun _ => h3 post hp⟩
  obtain ⟨was, fm, h1, h2, h3⟩ := lp1 2304 0 0 a_wasMeeting rfl (fun w hw => by omega)
  refine ⟨was, fm, h1, h2, fun post hp => ?_⟩
  unfold wpX_forgetMeetings
  exact ⟨_, h3 post hp⟩
theorem xw_addMeeting {f_trials f_drafted f_pairs f_metCount f_meetingCount : Int32} {a_held a_saved a_draft a_toldBefore a_pairX a_pairY a_stack a_met a_metAs a_copies a_meetings a_wasMeeting a_firstMet a_depths a_isKept : Nat → Int32} {x y c p q : Nat} (h : xv_H a_held) (up : xv_U a_held p) (uq : xv_U a_held q) (hM : mt_M (xv_L a_held) (xv_T a_held) x y (xv_L a_held p) (xv_L a_held q)) (hc : f_meetingCount = nI c) (hI : mx_I a_held x y c a_meetings a_wasMeeting) : ∃ (c' : Nat) (mts was : Nat → Int32), mx_I a_held x y c' mts was ∧ was (xv_L a_held p * 48 + xv_L a_held q) = 1 ∧ (∀ w, w < 2304 → a_wasMeeting w = 1 → was w = 1) ∧ (∀ j, j < c → mts j = a_meetings j) ∧ c ≤ c' ∧ ∀ post : SX → Prop, post (f_trials, f_drafted, f_pairs, f_metCount, nI c', a_held, a_saved, a_draft, a_toldBefore, a_pairX, a_pairY, a_stack, a_met, a_metAs, a_copies, mts, was, a_firstMet, a_depths, a_isKept) → wpX_addMeeting post (f_trials, f_drafted, f_pairs, f_metCount, f_meetingCount, a_held, a_saved, a_draft, a_toldBefore, a_pairX, a_pairY, a_stack, a_met, a_metAs, a_copies, a_meetings, a_wasMeeting, a_firstMet, a_depths, a_isKept) (nI p) (nI q) := by
  have p48 := up.1
  have q48 := uq.1
  obtain ⟨ep, lp⟩ := xv_HL h p48
  obtain ⟨eq, lq⟩ := xv_HL h q48
  obtain ⟨h1, h2, h3⟩ := hI
  have w48 : xv_L a_held p * 48 + xv_L a_held q < 2304 := by omega
  rcases h2 _ w48 with z | ⟨z, _⟩
  · have clt : c < 2304 := by
      rw [h3]
      have : ma_cnt (fun w => decide (a_wasMeeting w = 1)) 2304 < ma_cnt (fun _ => true) 2304 := ma_cnt_lt 2304 (fun _ _ _ => rfl) ⟨_, w48, rfl, by rw [z]; decide⟩
      have := ma_cnt_le (fun _ => true) 2304
      omega
    refine ⟨c + 1, upd a_meetings c (nI (xv_L a_held p * 48 + xv_L a_held q)), upd a_wasMeeting (xv_L a_held p * 48 + xv_L a_held q) 1, ⟨?_, ?_, ?_⟩, pk_us, ?_, ?_, by omega, fun post hp => ?_⟩
    · intro j hj
      by_cases e : j = c
      · rw [e, pk_us]
        exact ⟨_, _, lp, lq, rfl, hM, pk_us⟩
      · rw [pk_un e]
        obtain ⟨u, v, a1, a2, a3, a4, a5⟩ := h1 j (by omega)
        refine ⟨u, v, a1, a2, a3, a4, ?_⟩
        by_cases e2 : u * 48 + v = xv_L a_held p * 48 + xv_L a_held q
        · rw [e2, pk_us]
        · rw [pk_un e2]; exact a5
    · intro w hw
      by_cases e : w = xv_L a_held p * 48 + xv_L a_held q
      · rw [e, pk_us]
        exact Or.inr ⟨rfl, c, by omega, pk_us⟩
      · rw [pk_un e]
        rcases h2 w hw with o | ⟨o, j, hj, oj⟩
        · exact Or.inl o
        · refine Or.inr ⟨o, j, by omega, ?_⟩
          rw [pk_un (by omega)]; exact oj
    · have e1 : ma_cnt (fun w => decide (upd a_wasMeeting (xv_L a_held p * 48 + xv_L a_held q) 1 w = 1)) 2304 = ma_cnt (fun w => decide (a_wasMeeting w = 1)) 2304 + 1 := by
        have gen : ∀ n, ma_cnt (fun w => decide (upd a_wasMeeting (xv_L a_held p * 48 + xv_L a_held q) 1 w = 1)) n = ma_cnt (fun w => decide (a_wasMeeting w = 1)) n + (if xv_L a_held p * 48 + xv_L a_held q < n then 1 else 0) := by
          intro n
          induction n with
          | zero => rfl
          | succ n ih =>
            show ma_cnt _ n + (if decide (upd a_wasMeeting (xv_L a_held p * 48 + xv_L a_held q) 1 n = 1) = true then 1 else 0) = ma_cnt _ n + (if decide (a_wasMeeting n = 1) = true then 1 else 0) + _
            rw [ih]
            by_cases e : n = xv_L a_held p * 48 + xv_L a_held q
            · rw [e, pk_us, z, if_neg (Nat.lt_irrefl _), if_pos (by decide), if_neg (by decide), if_pos (by omega)]
            · rw [pk_un e]
              by_cases l : xv_L a_held p * 48 + xv_L a_held q < n
              · rw [if_pos l, if_pos (show xv_L a_held p * 48 + xv_L a_held q < n + 1 from by omega)]; omega
              · rw [if_neg l, if_neg (show ¬ xv_L a_held p * 48 + xv_L a_held q < n + 1 from by omega)]; omega
        rw [gen 2304, if_pos w48]
      rw [e1, ← h3]
    · intro w hw o
      by_cases e : w = xv_L a_held p * 48 + xv_L a_held q
      · rw [e, pk_us]
      · rw [pk_un e]; exact o
    · intro j hj
      rw [pk_un (by omega)]
    · unfold wpX_addMeeting
      simp (disch := omega) only [forall_eq, true_and, and_true, Nat.zero_add, nI_clamp, li_vin, nI_add, nI_eq, nI_leI, nI_ltI, li_0le, li_lt0, li_nn1, li_e0, not_true_eq_false, not_false_eq_true, false_implies, true_implies, forall_const, li_a0, li_b0, li_a1, li_b1, li_a2, li_b2, li_a3, li_b3, li_a7, li_b7, li_a8, li_b8, li_a16, li_b16, li_a48, li_b48, li_a584, li_b584, li_a572, li_b572, li_a96, li_b96, li_a144, li_b144, li_a192, li_b192, li_a240, li_b240, li_a336, li_b336, li_a384, li_b384, li_a432, li_b432, li_a480, li_b480, li_a488, li_b488, li_a496, li_b496, li_a504, li_b504, li_a512, li_b512, li_a520, li_b520, li_a524, li_b524, li_a528, li_b528, li_a536, li_b536, li_a544, li_b544, li_a552, li_b552, li_a560, li_b560, li_a568, li_b568, li_a573, li_b573, li_a585, li_b585, li_a633, li_b633, li_m3, li_n3, li_m4, li_n4, li_m48, li_n48, li_m50, li_n50, li_m585, li_n585, li_m633, li_n633, li_lt2, li_ge2, li_le2, li_gt2, li_lt1, li_ge1, li_le1, li_gt1, li_lt3, li_ge3, li_le3, li_gt3, li_lt4, li_ge4, li_le4, li_gt4, li_lt7, li_ge7, li_le7, li_gt7, li_lt8, li_ge8, li_le8, li_gt8, li_lt40, li_ge40, li_le40, li_gt40, li_lt240, li_ge240, li_le240, li_gt240, li_lt41, li_ge41, li_le41, li_gt41, li_lt48, li_ge48, li_le48, li_gt48, li_lt49, li_ge49, li_le49, li_gt49, li_lt60, li_ge60, li_le60, li_gt60, li_lt144, li_ge144, li_le144, li_gt144, li_lt145, li_ge145, li_le145, li_gt145, li_lt160, li_ge160, li_le160, li_gt160, li_lt336, li_ge336, li_le336, li_gt336, li_lt585, li_ge585, li_le585, li_gt585, li_lt633, li_ge633, li_le633, li_gt633, li_lt1000000, li_ge1000000, li_le1000000, li_gt1000000, li_lt2304, li_ge2304, li_le2304, li_gt2304, li_lt50, li_ge50, li_le50, li_gt50, li_le0, li_gt0, ep, eq, z, hc, nr_1]
      exact ⟨fun q => by omega, fun _ => hp⟩
  · refine ⟨c, a_meetings, a_wasMeeting, ⟨h1, h2, h3⟩, z, fun _ _ o => o, fun _ _ => rfl, Nat.le_refl _, fun post hp => ?_⟩
    rw [← hc] at hp
    unfold wpX_addMeeting
    simp (disch := omega) only [forall_eq, true_and, and_true, Nat.zero_add, nI_clamp, li_vin, nI_add, nI_eq, nI_leI, nI_ltI, li_0le, li_lt0, li_nn1, li_e0, not_true_eq_false, not_false_eq_true, false_implies, true_implies, forall_const, li_a0, li_b0, li_a1, li_b1, li_a2, li_b2, li_a3, li_b3, li_a7, li_b7, li_a8, li_b8, li_a16, li_b16, li_a48, li_b48, li_a584, li_b584, li_a572, li_b572, li_a96, li_b96, li_a144, li_b144, li_a192, li_b192, li_a240, li_b240, li_a336, li_b336, li_a384, li_b384, li_a432, li_b432, li_a480, li_b480, li_a488, li_b488, li_a496, li_b496, li_a504, li_b504, li_a512, li_b512, li_a520, li_b520, li_a524, li_b524, li_a528, li_b528, li_a536, li_b536, li_a544, li_b544, li_a552, li_b552, li_a560, li_b560, li_a568, li_b568, li_a573, li_b573, li_a585, li_b585, li_a633, li_b633, li_m3, li_n3, li_m4, li_n4, li_m48, li_n48, li_m50, li_n50, li_m585, li_n585, li_m633, li_n633, li_lt2, li_ge2, li_le2, li_gt2, li_lt1, li_ge1, li_le1, li_gt1, li_lt3, li_ge3, li_le3, li_gt3, li_lt4, li_ge4, li_le4, li_gt4, li_lt7, li_ge7, li_le7, li_gt7, li_lt8, li_ge8, li_le8, li_gt8, li_lt40, li_ge40, li_le40, li_gt40, li_lt240, li_ge240, li_le240, li_gt240, li_lt41, li_ge41, li_le41, li_gt41, li_lt48, li_ge48, li_le48, li_gt48, li_lt49, li_ge49, li_le49, li_gt49, li_lt60, li_ge60, li_le60, li_gt60, li_lt144, li_ge144, li_le144, li_gt144, li_lt145, li_ge145, li_le145, li_gt145, li_lt160, li_ge160, li_le160, li_gt160, li_lt336, li_ge336, li_le336, li_gt336, li_lt585, li_ge585, li_le585, li_gt585, li_lt633, li_ge633, li_le633, li_gt633, li_lt1000000, li_ge1000000, li_le1000000, li_gt1000000, li_lt2304, li_ge2304, li_le2304, li_gt2304, li_lt50, li_ge50, li_le50, li_gt50, li_le0, li_gt0, ep, eq, z]
    exact br_f (by decide) hp
/-- what is known of a meeting that was looked at -/
def mx_p (a : Nat → Int32) (was fm : Nat → Int32) (u v : Nat) : Prop :=
  (xv_K a u = 0 → ∃ v0, fm u = nI v0 ∧ xv_U a v0 ∧ ma_al (xv_U a) (xv_L a) (xv_T a) v0 v) ∧
  (xv_K a u ≠ 0 → (xv_K a u, xv_V a u) = (xv_K a v, xv_V a v) ∧ ∀ k, k < ma_ct (xv_K a u) → was (xv_L a (xv_P a u k) * 48 + xv_L a (xv_P a v k)) = 1)
def mx_f (a : Nat → Int32) (x y : Nat) (fm : Nat → Int32) : Prop :=
  ∀ u, u < 48 → fm u = -1 ∨ ∃ v, fm u = nI v ∧ xv_U a v ∧ mt_M (xv_L a) (xv_T a) x y u v
theorem xw_holds_108 {f_trials f_drafted f_pairs f_metCount f_meetingCount : Int32} {a_held a_saved a_draft a_toldBefore a_pairX a_pairY a_stack a_met a_metAs a_copies a_meetings a_wasMeeting a_firstMet a_depths a_isKept : Nat → Int32} {x y u v : Nat} (g : xv_G a_held) (uu : xv_U a_held u) (uv : xv_U a_held v) (lu : xv_L a_held u = u) (lv : xv_L a_held v = v) (k0 : xv_K a_held u ≠ 0) (es : (xv_K a_held u, xv_V a_held u) = (xv_K a_held v, xv_V a_held v)) (hM : mt_M (xv_L a_held) (xv_T a_held) x y u v) : ∀ d j c (a_meetings a_wasMeeting : Nat → Int32), j + d = ma_ct (xv_K a_held u) → mx_I a_held x y c a_meetings a_wasMeeting → (∀ k, k < j → a_wasMeeting (xv_L a_held (xv_P a_held u k) * 48 + xv_L a_held (xv_P a_held v k)) = 1) → ∃ (c' : Nat) (mts was : Nat → Int32), mx_I a_held x y c' mts was ∧ (∀ k, k < ma_ct (xv_K a_held u) → was (xv_L a_held (xv_P a_held u k) * 48 + xv_L a_held (xv_P a_held v k)) = 1) ∧ (∀ w, w < 2304 → a_wasMeeting w = 1 → was w = 1) ∧ (∀ i, i < c → mts i = a_meetings i) ∧ c ≤ c' ∧ ∀ post : Int32 → SX → Prop, post 1 (f_trials, f_drafted, f_pairs, f_metCount, nI c', a_held, a_saved, a_draft, a_toldBefore, a_pairX, a_pairY, a_stack, a_met, a_metAs, a_copies, mts, was, a_firstMet, a_depths, a_isKept) → wX_meetingHolds_108 post (nI u) (nI v) (nI (ma_ct (xv_K a_held u))) (d + 1) (nI j) f_trials f_drafted f_pairs f_metCount (nI c) a_held a_saved a_draft a_toldBefore a_pairX a_pairY a_stack a_met a_metAs a_copies a_meetings a_wasMeeting a_firstMet a_depths a_isKept := by
  have ct3 := ma_ct_le (xv_K a_held u)
  have u48 := uu.1
  have v48 := uv.1
  have ek : xv_K a_held u = xv_K a_held v := congrArg Prod.fst es
  have tu : (xv_T a_held).1 u := ⟨uu, lu, k0⟩
  have tv : (xv_T a_held).1 v := ⟨uv, lv, by rw [← ek]; exact k0⟩
  have Pu : ∀ k, k < ma_ct (xv_K a_held u) → xv_U a_held (xv_P a_held u k) := fun k hk => g.2.2 u tu k hk
  have Pv : ∀ k, k < ma_ct (xv_K a_held u) → xv_U a_held (xv_P a_held v k) := fun k hk => g.2.2 v tv k (by show k < ma_ct (xv_K a_held v); rw [← ek]; exact hk)
  intro d
  induction d with
  | zero =>
    intro j c mts was hj hI h
    refine ⟨c, mts, was, hI, fun k hk => h k (by omega), fun _ _ o => o, fun _ _ => rfl, Nat.le_refl _, fun post hp => ?_⟩
    unfold wX_meetingHolds_108
    simp (disch := omega) only [forall_eq, true_and, and_true, Nat.zero_add, nI_clamp, li_vin, nI_add, nI_eq, nI_leI, nI_ltI, li_0le, li_lt0, li_nn1, li_e0, not_true_eq_false, not_false_eq_true, false_implies, true_implies, forall_const, li_a0, li_b0, li_a1, li_b1, li_a2, li_b2, li_a3, li_b3, li_a7, li_b7, li_a8, li_b8, li_a16, li_b16, li_a48, li_b48, li_a584, li_b584, li_a572, li_b572, li_a96, li_b96, li_a144, li_b144, li_a192, li_b192, li_a240, li_b240, li_a336, li_b336, li_a384, li_b384, li_a432, li_b432, li_a480, li_b480, li_a488, li_b488, li_a496, li_b496, li_a504, li_b504, li_a512, li_b512, li_a520, li_b520, li_a524, li_b524, li_a528, li_b528, li_a536, li_b536, li_a544, li_b544, li_a552, li_b552, li_a560, li_b560, li_a568, li_b568, li_a573, li_b573, li_a585, li_b585, li_a633, li_b633, li_m3, li_n3, li_m4, li_n4, li_m48, li_n48, li_m50, li_n50, li_m585, li_n585, li_m633, li_n633, li_lt2, li_ge2, li_le2, li_gt2, li_lt1, li_ge1, li_le1, li_gt1, li_lt3, li_ge3, li_le3, li_gt3, li_lt4, li_ge4, li_le4, li_gt4, li_lt7, li_ge7, li_le7, li_gt7, li_lt8, li_ge8, li_le8, li_gt8, li_lt40, li_ge40, li_le40, li_gt40, li_lt240, li_ge240, li_le240, li_gt240, li_lt41, li_ge41, li_le41, li_gt41, li_lt48, li_ge48, li_le48, li_gt48, li_lt49, li_ge49, li_le49, li_gt49, li_lt60, li_ge60, li_le60, li_gt60, li_lt144, li_ge144, li_le144, li_gt144, li_lt145, li_ge145, li_le145, li_gt145, li_lt160, li_ge160, li_le160, li_gt160, li_lt336, li_ge336, li_le336, li_gt336, li_lt585, li_ge585, li_le585, li_gt585, li_lt633, li_ge633, li_le633, li_gt633, li_lt1000000, li_ge1000000, li_le1000000, li_gt1000000, li_lt2304, li_ge2304, li_le2304, li_gt2304, li_lt50, li_ge50, li_le50, li_gt50, li_le0, li_gt0]
    exact ⟨fun _ => hp, fun q => by omega⟩
  | succ d ih =>
    intro j c mts was hj hI h
    have pu := (xv_HP g.1 u48 (k := j) (by omega)).1
    have pv := (xv_HP g.1 v48 (k := j) (by omega)).1
    obtain ⟨c1, m1, w1, a1, a2, a3, a4, a5, a6⟩ := xw_addMeeting (f_trials := f_trials) (f_drafted := f_drafted) (f_pairs := f_pairs) (f_metCount := f_metCount) (f_meetingCount := nI c) (a_held := a_held) (a_saved := a_saved) (a_draft := a_draft) (a_toldBefore := a_toldBefore) (a_pairX := a_pairX) (a_pairY := a_pairY) (a_stack := a_stack) (a_met := a_met) (a_metAs := a_metAs) (a_copies := a_copies) (a_meetings := mts) (a_wasMeeting := was) (a_firstMet := a_firstMet) (a_depths := a_depths) (a_isKept := a_isKept) g.1 (Pu j (by omega)) (Pv j (by omega)) (mt_s hM tu tv es (by show j < ma_ct (xv_K a_held u); omega)) rfl hI
    have lt : ∀ k, k < ma_ct (xv_K a_held u) → xv_L a_held (xv_P a_held u k) * 48 + xv_L a_held (xv_P a_held v k) < 2304 := by
      intro k hk
      have h1 := (g.2.1 _ (g.2.1 _ (Pu k hk)).2.1).1
      have h2 := (g.2.1 _ (g.2.1 _ (Pv k hk)).2.1).1
      omega
    obtain ⟨c2, m2, w2, b1, b2, b3, b4, b5, b6⟩ := ih (j + 1) c1 m1 w1 (by omega) a1 (lt_s (fun k hk => a3 _ (lt k (by omega)) (h k hk)) a2)
    refine ⟨c2, m2, w2, b1, b2, fun w hw o => b3 w hw (a3 w hw o), fun i hi => by rw [b4 i (by omega), a4 i hi], by omega, fun post hp => ?_⟩
    rw [wX_meetingHolds_108]
    dsimp only
    simp (disch := omega) only [forall_eq, true_and, and_true, Nat.zero_add, nI_clamp, li_vin, nI_add, nI_eq, nI_leI, nI_ltI, li_0le, li_lt0, li_nn1, li_e0, not_true_eq_false, not_false_eq_true, false_implies, true_implies, forall_const, li_a0, li_b0, li_a1, li_b1, li_a2, li_b2, li_a3, li_b3, li_a7, li_b7, li_a8, li_b8, li_a16, li_b16, li_a48, li_b48, li_a584, li_b584, li_a572, li_b572, li_a96, li_b96, li_a144, li_b144, li_a192, li_b192, li_a240, li_b240, li_a336, li_b336, li_a384, li_b384, li_a432, li_b432, li_a480, li_b480, li_a488, li_b488, li_a496, li_b496, li_a504, li_b504, li_a512, li_b512, li_a520, li_b520, li_a524, li_b524, li_a528, li_b528, li_a536, li_b536, li_a544, li_b544, li_a552, li_b552, li_a560, li_b560, li_a568, li_b568, li_a573, li_b573, li_a585, li_b585, li_a633, li_b633, li_m3, li_n3, li_m4, li_n4, li_m48, li_n48, li_m50, li_n50, li_m585, li_n585, li_m633, li_n633, li_lt2, li_ge2, li_le2, li_gt2, li_lt1, li_ge1, li_le1, li_gt1, li_lt3, li_ge3, li_le3, li_gt3, li_lt4, li_ge4, li_le4, li_gt4, li_lt7, li_ge7, li_le7, li_gt7, li_lt8, li_ge8, li_le8, li_gt8, li_lt40, li_ge40, li_le40, li_gt40, li_lt240, li_ge240, li_le240, li_gt240, li_lt41, li_ge41, li_le41, li_gt41, li_lt48, li_ge48, li_le48, li_gt48, li_lt49, li_ge49, li_le49, li_gt49, li_lt60, li_ge60, li_le60, li_gt60, li_lt144, li_ge144, li_le144, li_gt144, li_lt145, li_ge145, li_le145, li_gt145, li_lt160, li_ge160, li_le160, li_gt160, li_lt336, li_ge336, li_le336, li_gt336, li_lt585, li_ge585, li_le585, li_gt585, li_lt633, li_ge633, li_le633, li_gt633, li_lt1000000, li_ge1000000, li_le1000000, li_gt1000000, li_lt2304, li_ge2304, li_le2304, li_gt2304, li_lt50, li_ge50, li_le50, li_gt50, li_le0, li_gt0, pu, pv]
    exact ⟨fun q => by omega, fun _ => a6 _ (b6 post hp)⟩
theorem mx_loop {f_trials f_drafted f_pairs f_metCount f_meetingCount : Int32} {a_held a_saved a_draft a_toldBefore a_pairX a_pairY a_stack a_met a_metAs a_copies a_meetings a_wasMeeting a_firstMet a_depths a_isKept : Nat → Int32} {B x y : Nat} {s : Nat → Int32} (hr : re_P B a_held s) (ux : xv_U a_held x) (uy : xv_U a_held y) : ∀ d i c (f_pairs : Int32) (a_toldBefore a_pairX a_pairY a_meetings a_wasMeeting a_firstMet : Nat → Int32), i + d = 2304 → mx_I a_held x y c a_meetings a_wasMeeting → a_wasMeeting (xv_L a_held x * 48 + xv_L a_held y) = 1 → mx_f a_held x y a_firstMet → i ≤ c → (∀ j, j < i → ∀ u v, u < 48 → v < 48 → a_meetings j = nI (u * 48 + v) → mx_p a_held a_wasMeeting a_firstMet u v) → ∃ (r : Int32) (c' : Nat) (fp : Int32) (tb px py mts was fm : Nat → Int32), ((r = 1 ∧ mt_G (xv_U a_held) (xv_L a_held) (xv_T a_held) x y) ∨ (r = 2 ∧ ¬ mt_G (xv_U a_held) (xv_L a_held) (xv_T a_held) x y)) ∧ ∀ post : Int32 → SX → Prop, post r (f_trials, f_drafted, fp, f_metCount, nI c', a_held, a_saved, a_draft, tb, px, py, a_stack, a_met, a_metAs, a_copies, mts, was, fm, a_depths, a_isKept) → wX_matches_30 post (d + 1) (nI i) f_trials f_drafted f_pairs f_metCount (nI c) a_held a_saved a_draft a_toldBefore a_pairX a_pairY a_stack a_met a_metAs a_copies a_meetings a_wasMeeting a_firstMet a_depths a_isKept := by
  have g := re_G hr
  have h5 := hr.2.2.2.2.1
  have fin : ∀ c (mts was fm : Nat → Int32), mx_I a_held x y c mts was → was (xv_L a_held x * 48 + xv_L a_held y) = 1 → (∀ j, j < c → ∀ u v, u < 48 → v < 48 → mts j = nI (u * 48 + v) → mx_p a_held was fm u v) → mt_G (xv_U a_held) (xv_L a_held) (xv_T a_held) x y := by
    intro c mts was fm hI hw hp
    have sub : ∀ u v, mt_M (xv_L a_held) (xv_T a_held) x y u v → mx_p a_held was fm u v := by
      intro u v hM
      have : u < 48 ∧ v < 48 ∧ was (u * 48 + v) = 1 := by
        refine hM (fun u v => u < 48 ∧ v < 48 ∧ was (u * 48 + v) = 1) ?_ ?_
        · exact ⟨(g.2.1 _ (g.2.1 x ux).2.1).1, (g.2.1 _ (g.2.1 y uy).2.1).1, hw⟩
        · intro u v ⟨u48, v48, o⟩ tu tv es k hk
          rcases hI.2.1 (u * 48 + v) (by omega) with z | ⟨_, j, hj, e⟩
          · rw [z] at o; exact absurd o (by decide)
          · obtain ⟨_, p2⟩ := hp j hj u v u48 v48 e
            have Pu := g.2.2 u tu k hk
            have Pv := g.2.2 v tv k (by rw [← es]; exact hk)
            exact ⟨(g.2.1 _ (g.2.1 _ Pu).2.1).1, (g.2.1 _ (g.2.1 _ Pv).2.1).1, (p2 (xv_T1 tu).2.2).2 k hk⟩
      obtain ⟨u48, v48, o⟩ := this
      rcases hI.2.1 (u * 48 + v) (by omega) with z | ⟨_, j, hj, e⟩
      · rw [z] at o; exact absurd o (by decide)
      · exact hp j hj u v u48 v48 e
    constructor
    · intro u v hM tu
      obtain ⟨_, p2⟩ := sub u v hM
      obtain ⟨es, _⟩ := p2 (xv_T1 tu).2.2
      obtain ⟨_, uv, _, lv⟩ := mt_U g.2.1 g.2.2 ux uy hM
      have ek : xv_K a_held u = xv_K a_held v := congrArg Prod.fst es
      exact ⟨⟨uv, lv, by rw [← ek]; exact (xv_T1 tu).2.2⟩, es⟩
    · intro u v w hM hM' nt
      obtain ⟨uu, uv, lu, lv⟩ := mt_U g.2.1 g.2.2 ux uy hM
      obtain ⟨_, uw, _, _⟩ := mt_U g.2.1 g.2.2 ux uy hM'
      have k0 : xv_K a_held u = 0 := Classical.byContradiction (fun q => nt ⟨uu, lu, q⟩)
      obtain ⟨v0, e1, u0, a1⟩ := (sub u v hM).1 k0
      obtain ⟨v0', e2, u0', a2⟩ := (sub u w hM').1 k0
      have : v0' = v0 := (nI_eq (by have := u0'.1; omega) (by have := u0.1; omega)).mp (by rw [← e2, e1])
      rw [this] at a2
      exact ma_al_tr h5 uv u0 uw (ma_al_sym a1) a2
  intro d
  induction d with
  | zero =>
    intro i c fp tb px py mts was fm hi hI hw hf hic hp
    have c2304 : c ≤ 2304 := by rw [hI.2.2]; exact ma_cnt_le _ _
    refine ⟨1, c, fp, tb, px, py, mts, was, fm, Or.inl ⟨rfl, fin c mts was fm hI hw (fun j hj => hp j (by omega))⟩, fun post hpo => ?_⟩
    rw [wX_matches_30]
    exact br_t ((li_ge2304 (by omega)).mpr (by omega)) hpo
  | succ d ih =>
    intro i c fp tb px py mts was fm hi hI hw hf hic hp
    have c2304 : c ≤ 2304 := by rw [hI.2.2]; exact ma_cnt_le _ _
    have c1 : ¬ (2304 : Int32) ≤ nI i := fun q => by have := (li_ge2304 (by omega)).mp q; omega
    by_cases done : c ≤ i
    · refine ⟨1, c, fp, tb, px, py, mts, was, fm, Or.inl ⟨rfl, fin c mts was fm hI hw (fun j hj => hp j (by omega))⟩, fun post hpo => ?_⟩
      rw [wX_matches_30]
      exact br_f c1 (br_t ((nI_leI (by omega) (by omega)).mpr done) hpo)
    · obtain ⟨u, v, u48, v48, em, hM, ow⟩ := hI.1 i (by omega)
      obtain ⟨uu, uv, lu, lv⟩ := mt_U g.2.1 g.2.2 ux uy hM
      have ed : nI (u * 48 + v) / (48 : Int32) = nI u := by
        have := pk_div (a := u * 48 + v) (d := 48) (by omega) (by omega) (by omega)
        rw [show (u * 48 + v) / 48 = u from by omega] at this
        exact this
      have er : nI (u * 48 + v) - nI (u * 48 + v) / (48 : Int32) * (48 : Int32) = nI v := by
        have := pk_rem (a := u * 48 + v) (d := 48) (by omega) (by omega) (by omega)
        rw [show (u * 48 + v) % 48 = v from by omega] at this
        exact this
      have top : ∀ (post : Int32 → SX → Prop) (n : Nat), wpX_meetingHolds (fun r_95 u => match u with | (f_trials, f_drafted, f_pairs, f_metCount, f_meetingCount, a_held, a_saved, a_draft, a_toldBefore, a_pairX, a_pairY, a_stack, a_met, a_metAs, a_copies, a_meetings, a_wasMeeting, a_firstMet, a_depths, a_isKept) => (((r_95 = 0 → (post 2 (f_trials, f_drafted, f_pairs, f_metCount, f_meetingCount, a_held, a_saved, a_draft, a_toldBefore, a_pairX, a_pairY, a_stack, a_met, a_metAs, a_copies, a_meetings, a_wasMeeting, a_firstMet, a_depths, a_isKept))) ∧ (¬ r_95 = 0 → (wX_matches_30 post n (nI (i + 1)) f_trials f_drafted f_pairs f_metCount f_meetingCount a_held a_saved a_draft a_toldBefore a_pairX a_pairY a_stack a_met a_metAs a_copies a_meetings a_wasMeeting a_firstMet a_depths a_isKept))))) (f_trials, f_drafted, fp, f_metCount, nI c, a_held, a_saved, a_draft, tb, px, py, a_stack, a_met, a_metAs, a_copies, mts, was, fm, a_depths, a_isKept) (nI u) (nI v) → wX_matches_30 post (n + 1) (nI i) f_trials f_drafted fp f_metCount (nI c) a_held a_saved a_draft tb px py a_stack a_met a_metAs a_copies mts was fm a_depths a_isKept := by
        intro post n hpo
        rw [wX_matches_30]
        dsimp only
        refine br_f c1 (br_f (fun q => done ((nI_leI (by omega) (by omega)).mp q)) ?_)
        have vin : vp_in (nI i) 2304 := vp_in_nI (by omega) (by omega)
        have cl : (nI i).toNatClampNeg = i := nI_clamp (by omega)
        rw [cl, em, er, ed]
        refine ⟨vin, by decide, nm_e ⟨vin, by decide, nm_e ?_⟩⟩
        simp only [nI_1, forall_eq]
        exact hpo
      have code : ∀ u' v', u' < 48 → v' < 48 → nI (u * 48 + v) = nI (u' * 48 + v') → u' = u ∧ v' = v := by
        intro u' v' h1 h2 e
        have := (nI_eq (by omega) (by omega)).mp e
        omega
      have kc := xv_HK (a := a_held) u48
      have kv := xv_HK (a := a_held) v48
      have vc := xv_HV (a := a_held) u48
      have vv := xv_HV (a := a_held) v48
      by_cases k0 : xv_K a_held u = 0
      · -- FREE
        have nt : ¬ (xv_T a_held).1 u := fun q => (xv_T1 q).2.2 k0
        have stage : ∀ (fm1 : Nat → Int32) (v0 : Nat), fm1 u = nI v0 → xv_U a_held v0 → mt_M (xv_L a_held) (xv_T a_held) x y u v0 → mx_f a_held x y fm1 → (∀ j, j < i → ∀ u v, u < 48 → v < 48 → mts j = nI (u * 48 + v) → mx_p a_held was fm1 u v) → (∀ (post : Int32 → SX → Prop), wX_meetingHolds_29 post (nI u) (nI v) f_trials f_drafted fp f_metCount (nI c) a_held a_saved a_draft tb px py a_stack a_met a_metAs a_copies mts was fm1 a_depths a_isKept → wpX_meetingHolds post (f_trials, f_drafted, fp, f_metCount, nI c, a_held, a_saved, a_draft, tb, px, py, a_stack, a_met, a_metAs, a_copies, mts, was, fm, a_depths, a_isKept) (nI u) (nI v)) → ∃ (r : Int32) (c' : Nat) (fp' : Int32) (tb' px' py' mts' was' fm' : Nat → Int32), ((r = 1 ∧ mt_G (xv_U a_held) (xv_L a_held) (xv_T a_held) x y) ∨ (r = 2 ∧ ¬ mt_G (xv_U a_held) (xv_L a_held) (xv_T a_held) x y)) ∧ ∀ post : Int32 → SX → Prop, post r (f_trials, f_drafted, fp', f_metCount, nI c', a_held, a_saved, a_draft, tb', px', py', a_stack, a_met, a_metAs, a_copies, mts', was', fm', a_depths, a_isKept) → wX_matches_30 post (d + 1 + 1) (nI i) f_trials f_drafted fp f_metCount (nI c) a_held a_saved a_draft tb px py a_stack a_met a_metAs a_copies mts was fm a_depths a_isKept := by
          intro fm1 v0 e0 u0 m0 f1 p1 hw1
          obtain ⟨m1, tb1, px1, py1, lk⟩ := xw_likeness (f_trials := f_trials) (f_drafted := f_drafted) (f_pairs := fp) (f_metCount := f_metCount) (f_meetingCount := nI c) (a_held := a_held) (a_saved := a_saved) (a_draft := a_draft) (a_toldBefore := tb) (a_pairX := px) (a_pairY := py) (a_stack := a_stack) (a_met := a_met) (a_metAs := a_metAs) (a_copies := a_copies) (a_meetings := mts) (a_wasMeeting := was) (a_firstMet := fm1) (a_depths := a_depths) (a_isKept := a_isKept) g u0 uv
          by_cases al : ma_al (xv_U a_held) (xv_L a_held) (xv_T a_held) v0 v
          · obtain ⟨r, c', fp', tb', px', py', mts', was', fm', o1, o2⟩ := ih (i + 1) c (nI m1) tb1 px1 py1 mts was fm1 (by omega) hI hw f1 (by omega) (by
              intro j hj u' v' h1 h2 e
              by_cases ej : j = i
              · rw [ej, em] at e
                obtain ⟨eu, ev⟩ := code u' v' h1 h2 e
                rw [eu, ev]
                exact ⟨fun _ => ⟨v0, e0, u0, al⟩, fun q => absurd k0 q⟩
              · exact p1 j (by omega) u' v' h1 h2 e)
            refine ⟨r, c', fp', tb', px', py', mts', was', fm', o1, fun post hpo => top post _ (hw1 _ ?_)⟩
            unfold wX_meetingHolds_29
            simp (disch := omega) only [forall_eq, true_and, and_true, Nat.zero_add, nI_clamp, li_vin, nI_add, nI_eq, nI_leI, nI_ltI, li_0le, li_lt0, li_nn1, li_e0, not_true_eq_false, not_false_eq_true, false_implies, true_implies, forall_const, li_a0, li_b0, li_a1, li_b1, li_a2, li_b2, li_a3, li_b3, li_a7, li_b7, li_a8, li_b8, li_a16, li_b16, li_a48, li_b48, li_a584, li_b584, li_a572, li_b572, li_a96, li_b96, li_a144, li_b144, li_a192, li_b192, li_a240, li_b240, li_a336, li_b336, li_a384, li_b384, li_a432, li_b432, li_a480, li_b480, li_a488, li_b488, li_a496, li_b496, li_a504, li_b504, li_a512, li_b512, li_a520, li_b520, li_a524, li_b524, li_a528, li_b528, li_a536, li_b536, li_a544, li_b544, li_a552, li_b552, li_a560, li_b560, li_a568, li_b568, li_a573, li_b573, li_a585, li_b585, li_a633, li_b633, li_m3, li_n3, li_m4, li_n4, li_m48, li_n48, li_m50, li_n50, li_m585, li_n585, li_m633, li_n633, li_lt2, li_ge2, li_le2, li_gt2, li_lt1, li_ge1, li_le1, li_gt1, li_lt3, li_ge3, li_le3, li_gt3, li_lt4, li_ge4, li_le4, li_gt4, li_lt7, li_ge7, li_le7, li_gt7, li_lt8, li_ge8, li_le8, li_gt8, li_lt40, li_ge40, li_le40, li_gt40, li_lt240, li_ge240, li_le240, li_gt240, li_lt41, li_ge41, li_le41, li_gt41, li_lt48, li_ge48, li_le48, li_gt48, li_lt49, li_ge49, li_le49, li_gt49, li_lt60, li_ge60, li_le60, li_gt60, li_lt144, li_ge144, li_le144, li_gt144, li_lt145, li_ge145, li_le145, li_gt145, li_lt160, li_ge160, li_le160, li_gt160, li_lt336, li_ge336, li_le336, li_gt336, li_lt585, li_ge585, li_le585, li_gt585, li_lt633, li_ge633, li_le633, li_gt633, li_lt1000000, li_ge1000000, li_le1000000, li_gt1000000, li_lt2304, li_ge2304, li_le2304, li_gt2304, li_lt50, li_ge50, li_le50, li_gt50, li_le0, li_gt0, e0]
            refine lk _ ?_
            rw [ma_vd_is1 al]
            exact br_t rfl (br_f (by decide) (o2 post hpo))
          · refine ⟨2, c, nI m1, tb1, px1, py1, mts, was, fm1, Or.inr ⟨rfl, fun G => al (G.2 u v0 v m0 hM nt)⟩, fun post hpo => top post _ (hw1 _ ?_)⟩
            unfold wX_meetingHolds_29
            simp (disch := omega) only [forall_eq, true_and, and_true, Nat.zero_add, nI_clamp, li_vin, nI_add, nI_eq, nI_leI, nI_ltI, li_0le, li_lt0, li_nn1, li_e0, not_true_eq_false, not_false_eq_true, false_implies, true_implies, forall_const, li_a0, li_b0, li_a1, li_b1, li_a2, li_b2, li_a3, li_b3, li_a7, li_b7, li_a8, li_b8, li_a16, li_b16, li_a48, li_b48, li_a584, li_b584, li_a572, li_b572, li_a96, li_b96, li_a144, li_b144, li_a192, li_b192, li_a240, li_b240, li_a336, li_b336, li_a384, li_b384, li_a432, li_b432, li_a480, li_b480, li_a488, li_b488, li_a496, li_b496, li_a504, li_b504, li_a512, li_b512, li_a520, li_b520, li_a524, li_b524, li_a528, li_b528, li_a536, li_b536, li_a544, li_b544, li_a552, li_b552, li_a560, li_b560, li_a568, li_b568, li_a573, li_b573, li_a585, li_b585, li_a633, li_b633, li_m3, li_n3, li_m4, li_n4, li_m48, li_n48, li_m50, li_n50, li_m585, li_n585, li_m633, li_n633, li_lt2, li_ge2, li_le2, li_gt2, li_lt1, li_ge1, li_le1, li_gt1, li_lt3, li_ge3, li_le3, li_gt3, li_lt4, li_ge4, li_le4, li_gt4, li_lt7, li_ge7, li_le7, li_gt7, li_lt8, li_ge8, li_le8, li_gt8, li_lt40, li_ge40, li_le40, li_gt40, li_lt240, li_ge240, li_le240, li_gt240, li_lt41, li_ge41, li_le41, li_gt41, li_lt48, li_ge48, li_le48, li_gt48, li_lt49, li_ge49, li_le49, li_gt49, li_lt60, li_ge60, li_le60, li_gt60, li_lt144, li_ge144, li_le144, li_gt144, li_lt145, li_ge145, li_le145, li_gt145, li_lt160, li_ge160, li_le160, li_gt160, li_lt336, li_ge336, li_le336, li_gt336, li_lt585, li_ge585, li_le585, li_gt585, li_lt633, li_ge633, li_le633, li_gt633, li_lt1000000, li_ge1000000, li_le1000000, li_gt1000000, li_lt2304, li_ge2304, li_le2304, li_gt2304, li_lt50, li_ge50, li_le50, li_gt50, li_le0, li_gt0, e0]
            refine lk _ ?_
            exact br_f (fun q => al (ma_vd_al.mp q)) hpo
        rcases hf u u48 with z | ⟨v0, e0, u0, m0⟩
        · refine stage (upd fm u (nI v)) v pk_us uv hM ?_ ?_ (fun post hpo => ?_)
          · intro u' h'
            by_cases e : u' = u
            · rw [e, pk_us]; exact Or.inr ⟨v, rfl, uv, hM⟩
            · rw [pk_un e]; exact hf u' h'
          · intro j hj u' v' h1 h2 e
            obtain ⟨q1, q2⟩ := hp j hj u' v' h1 h2 e
            refine ⟨fun kz => ?_, q2⟩
            obtain ⟨w0, f1, f2, f3⟩ := q1 kz
            by_cases eu : u' = u
            · rw [eu, z] at f1
              exact ((li_nn1 (by have := f2.1; omega)).mp f1.symm).elim
            · rw [pk_un eu]; exact ⟨w0, f1, f2, f3⟩
          · unfold wpX_meetingHolds
            simp (disch := omega) only [forall_eq, true_and, and_true, Nat.zero_add, nI_clamp, li_vin, nI_add, nI_eq, nI_leI, nI_ltI, li_0le, li_lt0, li_nn1, li_e0, not_true_eq_false, not_false_eq_true, false_implies, true_implies, forall_const, li_a0, li_b0, li_a1, li_b1, li_a2, li_b2, li_a3, li_b3, li_a7, li_b7, li_a8, li_b8, li_a16, li_b16, li_a48, li_b48, li_a584, li_b584, li_a572, li_b572, li_a96, li_b96, li_a144, li_b144, li_a192, li_b192, li_a240, li_b240, li_a336, li_b336, li_a384, li_b384, li_a432, li_b432, li_a480, li_b480, li_a488, li_b488, li_a496, li_b496, li_a504, li_b504, li_a512, li_b512, li_a520, li_b520, li_a524, li_b524, li_a528, li_b528, li_a536, li_b536, li_a544, li_b544, li_a552, li_b552, li_a560, li_b560, li_a568, li_b568, li_a573, li_b573, li_a585, li_b585, li_a633, li_b633, li_m3, li_n3, li_m4, li_n4, li_m48, li_n48, li_m50, li_n50, li_m585, li_n585, li_m633, li_n633, li_lt2, li_ge2, li_le2, li_gt2, li_lt1, li_ge1, li_le1, li_gt1, li_lt3, li_ge3, li_le3, li_gt3, li_lt4, li_ge4, li_le4, li_gt4, li_lt7, li_ge7, li_le7, li_gt7, li_lt8, li_ge8, li_le8, li_gt8, li_lt40, li_ge40, li_le40, li_gt40, li_lt240, li_ge240, li_le240, li_gt240, li_lt41, li_ge41, li_le41, li_gt41, li_lt48, li_ge48, li_le48, li_gt48, li_lt49, li_ge49, li_le49, li_gt49, li_lt60, li_ge60, li_le60, li_gt60, li_lt144, li_ge144, li_le144, li_gt144, li_lt145, li_ge145, li_le145, li_gt145, li_lt160, li_ge160, li_le160, li_gt160, li_lt336, li_ge336, li_le336, li_gt336, li_lt585, li_ge585, li_le585, li_gt585, li_lt633, li_ge633, li_le633, li_gt633, li_lt1000000, li_ge1000000, li_le1000000, li_gt1000000, li_lt2304, li_ge2304, li_le2304, li_gt2304, li_lt50, li_ge50, li_le50, li_gt50, li_le0, li_gt0, kc, k0, z]
            exact hpo
        · refine stage fm v0 e0 u0 m0 hf hp (fun post hpo => ?_)
          have v048 := u0.1
          unfold wpX_meetingHolds
          simp (disch := omega) only [forall_eq, true_and, and_true, Nat.zero_add, nI_clamp, li_vin, nI_add, nI_eq, nI_leI, nI_ltI, li_0le, li_lt0, li_nn1, li_e0, not_true_eq_false, not_false_eq_true, false_implies, true_implies, forall_const, li_a0, li_b0, li_a1, li_b1, li_a2, li_b2, li_a3, li_b3, li_a7, li_b7, li_a8, li_b8, li_a16, li_b16, li_a48, li_b48, li_a584, li_b584, li_a572, li_b572, li_a96, li_b96, li_a144, li_b144, li_a192, li_b192, li_a240, li_b240, li_a336, li_b336, li_a384, li_b384, li_a432, li_b432, li_a480, li_b480, li_a488, li_b488, li_a496, li_b496, li_a504, li_b504, li_a512, li_b512, li_a520, li_b520, li_a524, li_b524, li_a528, li_b528, li_a536, li_b536, li_a544, li_b544, li_a552, li_b552, li_a560, li_b560, li_a568, li_b568, li_a573, li_b573, li_a585, li_b585, li_a633, li_b633, li_m3, li_n3, li_m4, li_n4, li_m48, li_n48, li_m50, li_n50, li_m585, li_n585, li_m633, li_n633, li_lt2, li_ge2, li_le2, li_gt2, li_lt1, li_ge1, li_le1, li_gt1, li_lt3, li_ge3, li_le3, li_gt3, li_lt4, li_ge4, li_le4, li_gt4, li_lt7, li_ge7, li_le7, li_gt7, li_lt8, li_ge8, li_le8, li_gt8, li_lt40, li_ge40, li_le40, li_gt40, li_lt240, li_ge240, li_le240, li_gt240, li_lt41, li_ge41, li_le41, li_gt41, li_lt48, li_ge48, li_le48, li_gt48, li_lt49, li_ge49, li_le49, li_gt49, li_lt60, li_ge60, li_le60, li_gt60, li_lt144, li_ge144, li_le144, li_gt144, li_lt145, li_ge145, li_le145, li_gt145, li_lt160, li_ge160, li_le160, li_gt160, li_lt336, li_ge336, li_le336, li_gt336, li_lt585, li_ge585, li_le585, li_gt585, li_lt633, li_ge633, li_le633, li_gt633, li_lt1000000, li_ge1000000, li_le1000000, li_gt1000000, li_lt2304, li_ge2304, li_le2304, li_gt2304, li_lt50, li_ge50, li_le50, li_gt50, li_le0, li_gt0, kc, k0, e0]
          exact hpo
      · by_cases es : (xv_K a_held u, xv_V a_held u) = (xv_K a_held v, xv_V a_held v)
        · obtain ⟨c2, m2, w2, b1, b2, b3, b4, b5, b6⟩ := xw_holds_108 (f_trials := f_trials) (f_drafted := f_drafted) (f_pairs := fp) (f_metCount := f_metCount) (f_meetingCount := f_meetingCount) (a_held := a_held) (a_saved := a_saved) (a_draft := a_draft) (a_toldBefore := tb) (a_pairX := px) (a_pairY := py) (a_stack := a_stack) (a_met := a_met) (a_metAs := a_metAs) (a_copies := a_copies) (a_meetings := a_meetings) (a_wasMeeting := a_wasMeeting) (a_firstMet := fm) (a_depths := a_depths) (a_isKept := a_isKept) g uu uv lu lv k0 es hM (ma_ct (xv_K a_held u)) 0 c mts was (by omega) hI (fun k hk => by omega)
          have xy : xv_L a_held x * 48 + xv_L a_held y < 2304 := by
            have h1 := (g.2.1 _ (g.2.1 x ux).2.1).1
            have h2 := (g.2.1 _ (g.2.1 y uy).2.1).1
            omega
          obtain ⟨r, c', fp', tb', px', py', mts', was', fm', o1, o2⟩ := ih (i + 1) c2 fp tb px py m2 w2 fm (by omega) b1 (b3 _ xy hw) hf (by omega) (by
            intro j hj u' v' h1 h2 e
            rw [b4 j (by omega)] at e
            by_cases ej : j = i
            · rw [ej, em] at e
              obtain ⟨eu, ev⟩ := code u' v' h1 h2 e
              rw [eu, ev]
              exact ⟨fun q => absurd q k0, fun _ => ⟨es, b2⟩⟩
            · obtain ⟨q1, q2⟩ := hp j (by omega) u' v' h1 h2 e
              refine ⟨q1, fun kz => ⟨(q2 kz).1, fun k hk => b3 _ ?_ ((q2 kz).2 k hk)⟩⟩
              obtain ⟨u2, v2, c1, c2, c3, c4, _⟩ := hI.1 j (by omega)
              rw [c3] at e
              have := (nI_eq (by omega) (by omega)).mp e
              have eu : u2 = u' := by omega
              have ev : v2 = v' := by omega
              rw [eu, ev] at c4
              obtain ⟨uu', uv', lu', lv'⟩ := mt_U g.2.1 g.2.2 ux uy c4
              have ek : xv_K a_held u' = xv_K a_held v' := congrArg Prod.fst (q2 kz).1
              have Pu := g.2.2 u' ⟨uu', lu', kz⟩ k hk
              have Pv := g.2.2 v' ⟨uv', lv', by rw [← ek]; exact kz⟩ k (by show k < ma_ct (xv_K a_held v'); rw [← ek]; exact hk)
              have h3 : xv_L a_held (xv_P a_held u' k) < 48 := (g.2.1 _ (g.2.1 _ Pu).2.1).1
              have h4 : xv_L a_held (xv_P a_held v' k) < 48 := (g.2.1 _ (g.2.1 _ Pv).2.1).1
              omega)
          refine ⟨r, c', fp', tb', px', py', mts', was', fm', o1, fun post hpo => top post _ ?_⟩
          obtain ⟨ce, cl⟩ := xv_HC g.1 u48
          have e1 : xv_K a_held u = xv_K a_held v := congrArg Prod.fst es
          have e2 : xv_V a_held u = xv_V a_held v := congrArg Prod.snd es
          unfold wpX_meetingHolds
          simp (disch := omega) only [forall_eq, true_and, and_true, Nat.zero_add, nI_clamp, li_vin, nI_add, nI_eq, nI_leI, nI_ltI, li_0le, li_lt0, li_nn1, li_e0, not_true_eq_false, not_false_eq_true, false_implies, true_implies, forall_const, li_a0, li_b0, li_a1, li_b1, li_a2, li_b2, li_a3, li_b3, li_a7, li_b7, li_a8, li_b8, li_a16, li_b16, li_a48, li_b48, li_a584, li_b584, li_a572, li_b572, li_a96, li_b96, li_a144, li_b144, li_a192, li_b192, li_a240, li_b240, li_a336, li_b336, li_a384, li_b384, li_a432, li_b432, li_a480, li_b480, li_a488, li_b488, li_a496, li_b496, li_a504, li_b504, li_a512, li_b512, li_a520, li_b520, li_a524, li_b524, li_a528, li_b528, li_a536, li_b536, li_a544, li_b544, li_a552, li_b552, li_a560, li_b560, li_a568, li_b568, li_a573, li_b573, li_a585, li_b585, li_a633, li_b633, li_m3, li_n3, li_m4, li_n4, li_m48, li_n48, li_m50, li_n50, li_m585, li_n585, li_m633, li_n633, li_lt2, li_ge2, li_le2, li_gt2, li_lt1, li_ge1, li_le1, li_gt1, li_lt3, li_ge3, li_le3, li_gt3, li_lt4, li_ge4, li_le4, li_gt4, li_lt7, li_ge7, li_le7, li_gt7, li_lt8, li_ge8, li_le8, li_gt8, li_lt40, li_ge40, li_le40, li_gt40, li_lt240, li_ge240, li_le240, li_gt240, li_lt41, li_ge41, li_le41, li_gt41, li_lt48, li_ge48, li_le48, li_gt48, li_lt49, li_ge49, li_le49, li_gt49, li_lt60, li_ge60, li_le60, li_gt60, li_lt144, li_ge144, li_le144, li_gt144, li_lt145, li_ge145, li_le145, li_gt145, li_lt160, li_ge160, li_le160, li_gt160, li_lt336, li_ge336, li_le336, li_gt336, li_lt585, li_ge585, li_le585, li_gt585, li_lt633, li_ge633, li_le633, li_gt633, li_lt1000000, li_ge1000000, li_le1000000, li_gt1000000, li_lt2304, li_ge2304, li_le2304, li_gt2304, li_lt50, li_ge50, li_le50, li_gt50, li_le0, li_gt0, kc, kv, vc, vv, ce]
          exact br_f k0 (br_t e1 (br_t e2 ⟨_, b6 _ (br_f (by decide) (o2 post hpo))⟩))
        · refine ⟨2, c, fp, tb, px, py, mts, was, fm, Or.inr ⟨rfl, fun G => es (G.1 u v hM ⟨uu, lu, k0⟩).2⟩, fun post hpo => top post _ ?_⟩
          unfold wpX_meetingHolds
          simp (disch := omega) only [forall_eq, true_and, and_true, Nat.zero_add, nI_clamp, li_vin, nI_add, nI_eq, nI_leI, nI_ltI, li_0le, li_lt0, li_nn1, li_e0, not_true_eq_false, not_false_eq_true, false_implies, true_implies, forall_const, li_a0, li_b0, li_a1, li_b1, li_a2, li_b2, li_a3, li_b3, li_a7, li_b7, li_a8, li_b8, li_a16, li_b16, li_a48, li_b48, li_a584, li_b584, li_a572, li_b572, li_a96, li_b96, li_a144, li_b144, li_a192, li_b192, li_a240, li_b240, li_a336, li_b336, li_a384, li_b384, li_a432, li_b432, li_a480, li_b480, li_a488, li_b488, li_a496, li_b496, li_a504, li_b504, li_a512, li_b512, li_a520, li_b520, li_a524, li_b524, li_a528, li_b528, li_a536, li_b536, li_a544, li_b544, li_a552, li_b552, li_a560, li_b560, li_a568, li_b568, li_a573, li_b573, li_a585, li_b585, li_a633, li_b633, li_m3, li_n3, li_m4, li_n4, li_m48, li_n48, li_m50, li_n50, li_m585, li_n585, li_m633, li_n633, li_lt2, li_ge2, li_le2, li_gt2, li_lt1, li_ge1, li_le1, li_gt1, li_lt3, li_ge3, li_le3, li_gt3, li_lt4, li_ge4, li_le4, li_gt4, li_lt7, li_ge7, li_le7, li_gt7, li_lt8, li_ge8, li_le8, li_gt8, li_lt40, li_ge40, li_le40, li_gt40, li_lt240, li_ge240, li_le240, li_gt240, li_lt41, li_ge41, li_le41, li_gt41, li_lt48, li_ge48, li_le48, li_gt48, li_lt49, li_ge49, li_le49, li_gt49, li_lt60, li_ge60, li_le60, li_gt60, li_lt144, li_ge144, li_le144, li_gt144, li_lt145, li_ge145, li_le145, li_gt145, li_lt160, li_ge160, li_le160, li_gt160, li_lt336, li_ge336, li_le336, li_gt336, li_lt585, li_ge585, li_le585, li_gt585, li_lt633, li_ge633, li_le633, li_gt633, li_lt1000000, li_ge1000000, li_le1000000, li_gt1000000, li_lt2304, li_ge2304, li_le2304, li_gt2304, li_lt50, li_ge50, li_le50, li_gt50, li_le0, li_gt0, kc, kv, vc, vv]
          exact br_f k0 (br_c (fun e1 => br_f (fun e2 => es (by rw [e1, e2])) hpo) (fun _ => hpo))
