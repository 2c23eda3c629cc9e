noncomputable def sc_n (P : Nat → Prop) (n : Nat) : Nat := ma_cnt (fun x => @decide (P x) (Classical.propDecidable _)) n
theorem sc_y {P : Nat → Prop} {n : Nat} (h : P n) : sc_n P (n + 1) = sc_n P n + 1 := by
  unfold sc_n
  show ma_cnt _ n + (if _ = true then 1 else 0) = _
  rw [if_pos (@decide_eq_true _ (Classical.propDecidable _) h)]
theorem sc_no {P : Nat → Prop} {n : Nat} (h : ¬ P n) : sc_n P (n + 1) = sc_n P n := by
  unfold sc_n
  show ma_cnt _ n + (if _ = true then 1 else 0) = _
  rw [if_neg (fun q => h (@of_decide_eq_true _ (Classical.propDecidable _) q))]
  rfl
theorem sc_0 (P : Nat → Prop) : sc_n P 0 = 0 := rfl
theorem sc_congr {P Q : Nat → Prop} {n : Nat} (h : ∀ i, i < n → (P i ↔ Q i)) : sc_n P n = sc_n Q n := by
  induction n with
  | zero => rfl
  | succ n ih =>
    have e := ih (fun i hi => h i (by omega))
    by_cases q : P n
    · rw [sc_y q, sc_y ((h n (by omega)).mp q), e]
    · rw [sc_no q, sc_no (fun z => q ((h n (by omega)).mpr z)), e]
theorem xw_usedCount {f_trials f_drafted f_pairs f_metCount f_meetingCount : Int32} {a_held a_saved a_draft a_toldBefore a_pairX a_pairY a_stack a_met a_metAs a_copies a_meetings a_wasMeeting a_firstMet a_depths a_isKept : Nat → Int32} (h : xv_H a_held) : ∀ post : Int32 → Prop, post (nI (sc_n (xv_U a_held) 48)) → wpX_usedCount post (f_trials, f_drafted, f_pairs, f_metCount, f_meetingCount, a_held, a_saved, a_draft, a_toldBefore, a_pairX, a_pairY, a_stack, a_met, a_metAs, a_copies, a_meetings, a_wasMeeting, a_firstMet, a_depths, a_isKept) := by
  have lp : ∀ d j, j + d = 48 → ∀ post : Int32 → Prop, post (nI (sc_n (xv_U a_held) 48)) → wX_usedCount_4 post f_trials f_drafted f_pairs f_metCount f_meetingCount a_held a_saved a_draft a_toldBefore a_pairX a_pairY a_stack a_met a_metAs a_copies a_meetings a_wasMeeting a_firstMet a_depths a_isKept (d + 1) (nI (sc_n (xv_U a_held) j)) (nI j) := by
    intro d
    induction d with
    | zero =>
      intro j hj post hp
      unfold wX_usedCount_4
      simp (disch := omega) only [forall_eq, true_and, and_true, Nat.zero_add, nI_clamp, li_vin, nI_add, nI_eq, nI_leI, nI_ltI, li_0le, li_lt0, li_nn1, li_e0, not_true_eq_false, not_false_eq_true, false_implies, true_implies, forall_const, li_a0, li_b0, li_a1, li_b1, li_a2, li_b2, li_a3, li_b3, li_a7, li_b7, li_a8, li_b8, li_a16, li_b16, li_a48, li_b48, li_a584, li_b584, li_a572, li_b572, li_a96, li_b96, li_a144, li_b144, li_a192, li_b192, li_a240, li_b240, li_a336, li_b336, li_a384, li_b384, li_a432, li_b432, li_a480, li_b480, li_a488, li_b488, li_a496, li_b496, li_a504, li_b504, li_a512, li_b512, li_a520, li_b520, li_a524, li_b524, li_a528, li_b528, li_a536, li_b536, li_a544, li_b544, li_a552, li_b552, li_a560, li_b560, li_a568, li_b568, li_a573, li_b573, li_a585, li_b585, li_a633, li_b633, li_m3, li_n3, li_m4, li_n4, li_m48, li_n48, li_m50, li_n50, li_m585, li_n585, li_m633, li_n633, li_lt2, li_ge2, li_le2, li_gt2, li_lt1, li_ge1, li_le1, li_gt1, li_lt3, li_ge3, li_le3, li_gt3, li_lt4, li_ge4, li_le4, li_gt4, li_lt7, li_ge7, li_le7, li_gt7, li_lt8, li_ge8, li_le8, li_gt8, li_lt40, li_ge40, li_le40, li_gt40, li_lt240, li_ge240, li_le240, li_gt240, li_lt41, li_ge41, li_le41, li_gt41, li_lt48, li_ge48, li_le48, li_gt48, li_lt49, li_ge49, li_le49, li_gt49, li_lt60, li_ge60, li_le60, li_gt60, li_lt144, li_ge144, li_le144, li_gt144, li_lt145, li_ge145, li_le145, li_gt145, li_lt160, li_ge160, li_le160, li_gt160, li_lt336, li_ge336, li_le336, li_gt336, li_lt585, li_ge585, li_le585, li_gt585, li_lt633, li_ge633, li_le633, li_gt633, li_lt1000000, li_ge1000000, li_le1000000, li_gt1000000, li_lt2304, li_ge2304, li_le2304, li_gt2304, li_lt50, li_ge50, li_le50, li_gt50, li_le0, li_gt0]
      exact ⟨fun _ => by rw [show j = 48 from by omega]; exact hp, fun q => by omega⟩
    | succ d ih =>
      intro j hj post hp
      have h2 := ih (j + 1) (by omega) post hp
      rcases h.2.2.2.1 j (by omega) with q | q
      · have nu : ¬ xv_U a_held j := fun u => by have := u.2; rw [q] at this; exact absurd this (by decide)
        rw [sc_no nu] at h2
        unfold wX_usedCount_4
        simp (disch := omega) only [forall_eq, true_and, and_true, Nat.zero_add, nI_clamp, li_vin, nI_add, nI_eq, nI_leI, nI_ltI, li_0le, li_lt0, li_nn1, li_e0, not_true_eq_false, not_false_eq_true, false_implies, true_implies, forall_const, li_a0, li_b0, li_a1, li_b1, li_a2, li_b2, li_a3, li_b3, li_a7, li_b7, li_a8, li_b8, li_a16, li_b16, li_a48, li_b48, li_a584, li_b584, li_a572, li_b572, li_a96, li_b96, li_a144, li_b144, li_a192, li_b192, li_a240, li_b240, li_a336, li_b336, li_a384, li_b384, li_a432, li_b432, li_a480, li_b480, li_a488, li_b488, li_a496, li_b496, li_a504, li_b504, li_a512, li_b512, li_a520, li_b520, li_a524, li_b524, li_a528, li_b528, li_a536, li_b536, li_a544, li_b544, li_a552, li_b552, li_a560, li_b560, li_a568, li_b568, li_a573, li_b573, li_a585, li_b585, li_a633, li_b633, li_m3, li_n3, li_m4, li_n4, li_m48, li_n48, li_m50, li_n50, li_m585, li_n585, li_m633, li_n633, li_lt2, li_ge2, li_le2, li_gt2, li_lt1, li_ge1, li_le1, li_gt1, li_lt3, li_ge3, li_le3, li_gt3, li_lt4, li_ge4, li_le4, li_gt4, li_lt7, li_ge7, li_le7, li_gt7, li_lt8, li_ge8, li_le8, li_gt8, li_lt40, li_ge40, li_le40, li_gt40, li_lt240, li_ge240, li_le240, li_gt240, li_lt41, li_ge41, li_le41, li_gt41, li_lt48, li_ge48, li_le48, li_gt48, li_lt49, li_ge49, li_le49, li_gt49, li_lt60, li_ge60, li_le60, li_gt60, li_lt144, li_ge144, li_le144, li_gt144, li_lt145, li_ge145, li_le145, li_gt145, li_lt160, li_ge160, li_le160, li_gt160, li_lt336, li_ge336, li_le336, li_gt336, li_lt585, li_ge585, li_le585, li_gt585, li_lt633, li_ge633, li_le633, li_gt633, li_lt1000000, li_ge1000000, li_le1000000, li_gt1000000, li_lt2304, li_ge2304, li_le2304, li_gt2304, li_lt50, li_ge50, li_le50, li_gt50, li_le0, li_gt0, q, Int32.add_zero]
        exact ⟨fun q => by omega, fun _ => h2⟩
      · rw [sc_y (show xv_U a_held j from ⟨by omega, q⟩)] at h2
        unfold wX_usedCount_4
        simp (disch := omega) only [forall_eq, true_and, and_true, Nat.zero_add, nI_clamp, li_vin, nI_add, nI_eq, nI_leI, nI_ltI, li_0le, li_lt0, li_nn1, li_e0, not_true_eq_false, not_false_eq_true, false_implies, true_implies, forall_const, li_a0, li_b0, li_a1, li_b1, li_a2, li_b2, li_a3, li_b3, li_a7, li_b7, li_a8, li_b8, li_a16, li_b16, li_a48, li_b48, li_a584, li_b584, li_a572, li_b572, li_a96, li_b96, li_a144, li_b144, li_a192, li_b192, li_a240, li_b240, li_a336, li_b336, li_a384, li_b384, li_a432, li_b432, li_a480, li_b480, li_a488, li_b488, li_a496, li_b496, li_a504, li_b504, li_a512, li_b512, li_a520, li_b520, li_a524, li_b524, li_a528, li_b528, li_a536, li_b536, li_a544, li_b544, li_a552, li_b552, li_a560, li_b560, li_a568, li_b568, li_a573, li_b573, li_a585, li_b585, li_a633, li_b633, li_m3, li_n3, li_m4, li_n4, li_m48, li_n48, li_m50, li_n50, li_m585, li_n585, li_m633, li_n633, li_lt2, li_ge2, li_le2, li_gt2, li_lt1, li_ge1, li_le1, li_gt1, li_lt3, li_ge3, li_le3, li_gt3, li_lt4, li_ge4, li_le4, li_gt4, li_lt7, li_ge7, li_le7, li_gt7, li_lt8, li_ge8, li_le8, li_gt8, li_lt40, li_ge40, li_le40, li_gt40, li_lt240, li_ge240, li_le240, li_gt240, li_lt41, li_ge41, li_le41, li_gt41, li_lt48, li_ge48, li_le48, li_gt48, li_lt49, li_ge49, li_le49, li_gt49, li_lt60, li_ge60, li_le60, li_gt60, li_lt144, li_ge144, li_le144, li_gt144, li_lt145, li_ge145, li_le145, li_gt145, li_lt160, li_ge160, li_le160, li_gt160, li_lt336, li_ge336, li_le336, li_gt336, li_lt585, li_ge585, li_le585, li_gt585, li_lt633, li_ge633, li_le633, li_gt633, li_lt1000000, li_ge1000000, li_le1000000, li_gt1000000, li_lt2304, li_ge2304, li_le2304, li_gt2304, li_lt50, li_ge50, li_le50, li_gt50, li_le0, li_gt0, q]
        exact ⟨fun q => by omega, fun _ => h2⟩
  intro post hp
  unfold wpX_usedCount
  refine ⟨49, ?_⟩
  have := lp 48 0 rfl post hp
  rw [sc_0] at this
  exact this
/-- what classCount counts -/
def sc_P (a : Nat → Int32) (f : Prop) (x : Nat) : Prop := xv_U a x ∧ xv_L a x = x ∧ (f → xv_K a x = 0)
theorem xw_classCount {f_trials f_drafted f_pairs f_metCount f_meetingCount : Int32} {a_held a_saved a_draft a_toldBefore a_pairX a_pairY a_stack a_met a_metAs a_copies a_meetings a_wasMeeting a_firstMet a_depths a_isKept : Nat → Int32} (h : xv_H a_held) {f : Int32} (hf : f = 0 ∨ f = 1) : ∀ post : Int32 → Prop, post (nI (sc_n (sc_P a_held (f = 1)) 48)) → wpX_classCount post (f_trials, f_drafted, f_pairs, f_metCount, f_meetingCount, a_held, a_saved, a_draft, a_toldBefore, a_pairX, a_pairY, a_stack, a_met, a_metAs, a_copies, a_meetings, a_wasMeeting, a_firstMet, a_depths, a_isKept) f := by
  have lp : ∀ d j, j + d = 48 → ∀ post : Int32 → Prop, post (nI (sc_n (sc_P a_held (f = 1)) 48)) → wX_classCount_4 post f f_trials f_drafted f_pairs f_metCount f_meetingCount a_held a_saved a_draft a_toldBefore a_pairX a_pairY a_stack a_met a_metAs a_copies a_meetings a_wasMeeting a_firstMet a_depths a_isKept (d + 1) (nI (sc_n (sc_P a_held (f = 1)) j)) (nI j) := by
    intro d
    induction d with
    | zero =>
      intro j hj post hp
      unfold wX_classCount_4
      simp (disch := omega) only [forall_eq, true_and, and_true, Nat.zero_add, nI_clamp, li_vin, nI_add, nI_eq, nI_leI, nI_ltI, li_0le, li_lt0, li_nn1, li_e0, not_true_eq_false, not_false_eq_true, false_implies, true_implies, forall_const, li_a0, li_b0, li_a1, li_b1, li_a2, li_b2, li_a3, li_b3, li_a7, li_b7, li_a8, li_b8, li_a16, li_b16, li_a48, li_b48, li_a584, li_b584, li_a572, li_b572, li_a96, li_b96, li_a144, li_b144, li_a192, li_b192, li_a240, li_b240, li_a336, li_b336, li_a384, li_b384, li_a432, li_b432, li_a480, li_b480, li_a488, li_b488, li_a496, li_b496, li_a504, li_b504, li_a512, li_b512, li_a520, li_b520, li_a524, li_b524, li_a528, li_b528, li_a536, li_b536, li_a544, li_b544, li_a552, li_b552, li_a560, li_b560, li_a568, li_b568, li_a573, li_b573, li_a585, li_b585, li_a633, li_b633, li_m3, li_n3, li_m4, li_n4, li_m48, li_n48, li_m50, li_n50, li_m585, li_n585, li_m633, li_n633, li_lt2, li_ge2, li_le2, li_gt2, li_lt1, li_ge1, li_le1, li_gt1, li_lt3, li_ge3, li_le3, li_gt3, li_lt4, li_ge4, li_le4, li_gt4, li_lt7, li_ge7, li_le7, li_gt7, li_lt8, li_ge8, li_le8, li_gt8, li_lt40, li_ge40, li_le40, li_gt40, li_lt240, li_ge240, li_le240, li_gt240, li_lt41, li_ge41, li_le41, li_gt41, li_lt48, li_ge48, li_le48, li_gt48, li_lt49, li_ge49, li_le49, li_gt49, li_lt60, li_ge60, li_le60, li_gt60, li_lt144, li_ge144, li_le144, li_gt144, li_lt145, li_ge145, li_le145, li_gt145, li_lt160, li_ge160, li_le160, li_gt160, li_lt336, li_ge336, li_le336, li_gt336, li_lt585, li_ge585, li_le585, li_gt585, li_lt633, li_ge633, li_le633, li_gt633, li_lt1000000, li_ge1000000, li_le1000000, li_gt1000000, li_lt2304, li_ge2304, li_le2304, li_gt2304, li_lt50, li_ge50, li_le50, li_gt50, li_le0, li_gt0]
      exact ⟨fun _ => by rw [show j = 48 from by omega]; exact hp, fun q => by omega⟩
    | succ d ih =>
      intro j hj post hp
      have h2 := ih (j + 1) (by omega) post hp
      obtain ⟨eL, lL⟩ := xv_HL h (x := j) (by omega)
      rw [wX_classCount_4]
      dsimp only
      refine br_f (fun q => by have := (li_ge48 (by omega)).mp q; omega) ?_
      by_cases u : xv_U a_held j
      · refine xw_inUse_t (f_trials := f_trials) (f_drafted := f_drafted) (f_pairs := f_pairs) (f_metCount := f_metCount) (f_meetingCount := f_meetingCount) (a_held := a_held) (a_saved := a_saved) (a_draft := a_draft) (a_toldBefore := a_toldBefore) (a_pairX := a_pairX) (a_pairY := a_pairY) (a_stack := a_stack) (a_met := a_met) (a_metAs := a_metAs) (a_copies := a_copies) (a_meetings := a_meetings) (a_wasMeeting := a_wasMeeting) (a_firstMet := a_firstMet) (a_depths := a_depths) (a_isKept := a_isKept) u _ (br_f (by decide) ?_)
        simp (disch := omega) only [forall_eq, true_and, and_true, Nat.zero_add, nI_clamp, li_vin, nI_add, nI_eq, nI_leI, nI_ltI, li_0le, li_lt0, li_nn1, li_e0, not_true_eq_false, not_false_eq_true, false_implies, true_implies, forall_const, li_a0, li_b0, li_a1, li_b1, li_a2, li_b2, li_a3, li_b3, li_a7, li_b7, li_a8, li_b8, li_a16, li_b16, li_a48, li_b48, li_a584, li_b584, li_a572, li_b572, li_a96, li_b96, li_a144, li_b144, li_a192, li_b192, li_a240, li_b240, li_a336, li_b336, li_a384, li_b384, li_a432, li_b432, li_a480, li_b480, li_a488, li_b488, li_a496, li_b496, li_a504, li_b504, li_a512, li_b512, li_a520, li_b520, li_a524, li_b524, li_a528, li_b528, li_a536, li_b536, li_a544, li_b544, li_a552, li_b552, li_a560, li_b560, li_a568, li_b568, li_a573, li_b573, li_a585, li_b585, li_a633, li_b633, li_m3, li_n3, li_m4, li_n4, li_m48, li_n48, li_m50, li_n50, li_m585, li_n585, li_m633, li_n633, li_lt2, li_ge2, li_le2, li_gt2, li_lt1, li_ge1, li_le1, li_gt1, li_lt3, li_ge3, li_le3, li_gt3, li_lt4, li_ge4, li_le4, li_gt4, li_lt7, li_ge7, li_le7, li_gt7, li_lt8, li_ge8, li_le8, li_gt8, li_lt40, li_ge40, li_le40, li_gt40, li_lt240, li_ge240, li_le240, li_gt240, li_lt41, li_ge41, li_le41, li_gt41, li_lt48, li_ge48, li_le48, li_gt48, li_lt49, li_ge49, li_le49, li_gt49, li_lt60, li_ge60, li_le60, li_gt60, li_lt144, li_ge144, li_le144, li_gt144, li_lt145, li_ge145, li_le145, li_gt145, li_lt160, li_ge160, li_le160, li_gt160, li_lt336, li_ge336, li_le336, li_gt336, li_lt585, li_ge585, li_le585, li_gt585, li_lt633, li_ge633, li_le633, li_gt633, li_lt1000000, li_ge1000000, li_le1000000, li_gt1000000, li_lt2304, li_ge2304, li_le2304, li_gt2304, li_lt50, li_ge50, li_le50, li_gt50, li_le0, li_gt0, eL]
        by_cases l : xv_L a_held j = j
        · refine br_t l ?_
          rcases hf with z | z
          · subst z
            rw [sc_y (show sc_P a_held ((0 : Int32) = 1) j from ⟨u, l, fun q => absurd q (by decide)⟩)] at h2
            exact br_t rfl h2
          · subst z
            refine br_f (by decide) ?_
            refine xw_isFree (f_trials := f_trials) (f_drafted := f_drafted) (f_pairs := f_pairs) (f_metCount := f_metCount) (f_meetingCount := f_meetingCount) (a_held := a_held) (a_saved := a_saved) (a_draft := a_draft) (a_toldBefore := a_toldBefore) (a_pairX := a_pairX) (a_pairY := a_pairY) (a_stack := a_stack) (a_met := a_met) (a_metAs := a_metAs) (a_copies := a_copies) (a_meetings := a_meetings) (a_wasMeeting := a_wasMeeting) (a_firstMet := a_firstMet) (a_depths := a_depths) (a_isKept := a_isKept) h (by omega) _ (fun k0 => br_f (by decide) ?_) (fun k0 => br_t rfl ?_)
            · rw [l] at k0
              rw [sc_y (show sc_P a_held ((1 : Int32) = 1) j from ⟨u, l, fun _ => k0⟩)] at h2
              exact h2
            · rw [l] at k0
              rw [sc_no (show ¬ sc_P a_held ((1 : Int32) = 1) j from fun q => k0 (q.2.2 rfl))] at h2
              exact h2
        · rw [sc_no (show ¬ sc_P a_held (f = 1) j from fun q => l q.2.1)] at h2
          exact br_f l h2
      · rw [sc_no (show ¬ sc_P a_held (f = 1) j from fun q => u q.1)] at h2
        refine xw_inUse_f (f_trials := f_trials) (f_drafted := f_drafted) (f_pairs := f_pairs) (f_metCount := f_metCount) (f_meetingCount := f_meetingCount) (a_held := a_held) (a_saved := a_saved) (a_draft := a_draft) (a_toldBefore := a_toldBefore) (a_pairX := a_pairX) (a_pairY := a_pairY) (a_stack := a_stack) (a_met := a_met) (a_metAs := a_metAs) (a_copies := a_copies) (a_meetings := a_meetings) (a_wasMeeting := a_wasMeeting) (a_firstMet := a_firstMet) (a_depths := a_depths) (a_isKept := a_isKept) (fun ⟨y, uy, ey⟩ => ?_) _ (br_t rfl (nm_r (nI_1 j) h2))
        have : j = y := (nI_eq (by omega) (by have := uy.1; omega)).mp ey
        rw [this] at u
        exact u uy
  intro post hp
  unfold wpX_classCount
  refine ⟨49, ?_⟩
  have := lp 48 0 rfl post hp
  rw [sc_0] at this
  exact this
theorem yw_state_46 {g_trials g_drafted g_found : Int32} {b_s b_saved b_draft b_who b_met b_stack b_fresh b_deep : Nat → Int32} {b_alike b_meets : Nat → Int64} {B : Nat} {a : Nat → Int32} {w : Nat} {al : Nat → Int64} (hr : re_P B a b_s) (hw : w ≤ 2) (hV : ∀ x, xv_U a x → (xv_K a (xv_L a x) = 0 ∧ b_who x = -1) ∨ (xv_K a (xv_L a x) ≠ 0 ∧ ∃ j, j < 48 ∧ b_who x = nI j)) : ∀ d j, j + d = 48 → ∀ post : Int32 → SY → Prop, post (nI (sc_n (fun x => xv_U a x ∧ (w = 0 ∨ (xv_L a x = x ∧ (w = 1 ∨ xv_K a x = 0)))) 48)) (g_trials, g_drafted, g_found, b_s, b_saved, b_draft, b_who, b_met, b_stack, b_fresh, b_deep, b_alike, b_meets) → wY_state_46 post (nI w) g_trials g_drafted g_found b_s b_saved b_draft b_who b_met b_stack b_fresh b_deep b_alike b_meets (d + 1) (nI (sc_n (fun x => xv_U a x ∧ (w = 0 ∨ (xv_L a x = x ∧ (w = 1 ∨ xv_K a x = 0)))) j)) (nI j) := by
  have yU := re_U hr
  intro d
  induction d with
  | zero =>
    intro j hj post hp
    unfold wY_state_46
    simp (disch := omega) only [forall_eq, true_and, and_true, Nat.zero_add, nI_clamp, li_vin, nI_add, nI_eq, nI_leI, nI_ltI, li_0le, li_lt0, li_nn1, li_e0, not_true_eq_false, not_false_eq_true, false_implies, true_implies, forall_const, li_a0, li_b0, li_a1, li_b1, li_a2, li_b2, li_a3, li_b3, li_a7, li_b7, li_a8, li_b8, li_a16, li_b16, li_a48, li_b48, li_a584, li_b584, li_a572, li_b572, li_a96, li_b96, li_a144, li_b144, li_a192, li_b192, li_a240, li_b240, li_a336, li_b336, li_a384, li_b384, li_a432, li_b432, li_a480, li_b480, li_a488, li_b488, li_a496, li_b496, li_a504, li_b504, li_a512, li_b512, li_a520, li_b520, li_a524, li_b524, li_a528, li_b528, li_a536, li_b536, li_a544, li_b544, li_a552, li_b552, li_a560, li_b560, li_a568, li_b568, li_a573, li_b573, li_a585, li_b585, li_a633, li_b633, li_m3, li_n3, li_m4, li_n4, li_m48, li_n48, li_m50, li_n50, li_m585, li_n585, li_m633, li_n633, li_lt2, li_ge2, li_le2, li_gt2, li_lt1, li_ge1, li_le1, li_gt1, li_lt3, li_ge3, li_le3, li_gt3, li_lt4, li_ge4, li_le4, li_gt4, li_lt7, li_ge7, li_le7, li_gt7, li_lt8, li_ge8, li_le8, li_gt8, li_lt40, li_ge40, li_le40, li_gt40, li_lt240, li_ge240, li_le240, li_gt240, li_lt41, li_ge41, li_le41, li_gt41, li_lt48, li_ge48, li_le48, li_gt48, li_lt49, li_ge49, li_le49, li_gt49, li_lt60, li_ge60, li_le60, li_gt60, li_lt144, li_ge144, li_le144, li_gt144, li_lt145, li_ge145, li_le145, li_gt145, li_lt160, li_ge160, li_le160, li_gt160, li_lt336, li_ge336, li_le336, li_gt336, li_lt585, li_ge585, li_le585, li_gt585, li_lt633, li_ge633, li_le633, li_gt633, li_lt1000000, li_ge1000000, li_le1000000, li_gt1000000, li_lt2304, li_ge2304, li_le2304, li_gt2304, li_lt50, li_ge50, li_le50, li_gt50, li_le0, li_gt0]
    exact ⟨fun _ => by rw [show j = 48 from by omega]; exact hp, fun q => by omega⟩
  | succ d ih =>
    intro j hj post hp
    have h2 := ih (j + 1) (by omega) post hp
    rw [wY_state_46]
    dsimp only
    refine br_f (fun q => by have := (li_ge48 (by omega)).mp q; omega) ?_
    simp (disch := omega) only [forall_eq, true_and, and_true, Nat.zero_add, nI_clamp, li_vin, nI_add, nI_eq, nI_leI, nI_ltI, li_0le, li_lt0, li_nn1, li_e0, not_true_eq_false, not_false_eq_true, false_implies, true_implies, forall_const, li_a0, li_b0, li_a1, li_b1, li_a2, li_b2, li_a3, li_b3, li_a7, li_b7, li_a8, li_b8, li_a16, li_b16, li_a48, li_b48, li_a584, li_b584, li_a572, li_b572, li_a96, li_b96, li_a144, li_b144, li_a192, li_b192, li_a240, li_b240, li_a336, li_b336, li_a384, li_b384, li_a432, li_b432, li_a480, li_b480, li_a488, li_b488, li_a496, li_b496, li_a504, li_b504, li_a512, li_b512, li_a520, li_b520, li_a524, li_b524, li_a528, li_b528, li_a536, li_b536, li_a544, li_b544, li_a552, li_b552, li_a560, li_b560, li_a568, li_b568, li_a573, li_b573, li_a585, li_b585, li_a633, li_b633, li_m3, li_n3, li_m4, li_n4, li_m48, li_n48, li_m50, li_n50, li_m585, li_n585, li_m633, li_n633, li_lt2, li_ge2, li_le2, li_gt2, li_lt1, li_ge1, li_le1, li_gt1, li_lt3, li_ge3, li_le3, li_gt3, li_lt4, li_ge4, li_le4, li_gt4, li_lt7, li_ge7, li_le7, li_gt7, li_lt8, li_ge8, li_le8, li_gt8, li_lt40, li_ge40, li_le40, li_gt40, li_lt240, li_ge240, li_le240, li_gt240, li_lt41, li_ge41, li_le41, li_gt41, li_lt48, li_ge48, li_le48, li_gt48, li_lt49, li_ge49, li_le49, li_gt49, li_lt60, li_ge60, li_le60, li_gt60, li_lt144, li_ge144, li_le144, li_gt144, li_lt145, li_ge145, li_le145, li_gt145, li_lt160, li_ge160, li_le160, li_gt160, li_lt336, li_ge336, li_le336, li_gt336, li_lt585, li_ge585, li_le585, li_gt585, li_lt633, li_ge633, li_le633, li_gt633, li_lt1000000, li_ge1000000, li_le1000000, li_gt1000000, li_lt2304, li_ge2304, li_le2304, li_gt2304, li_lt50, li_ge50, li_le50, li_gt50, li_le0, li_gt0]
    by_cases u : xv_U a j
    · have uy : b_s (384 + j) = 1 := by
        have : yv_U b_s j := by rw [yU]; exact u
        exact this.2
      refine br_t uy ?_
      obtain ⟨eL, lL⟩ := re_Ls hr u
      by_cases w0 : w = 0
      · rw [sc_y (show (fun x => xv_U a x ∧ (w = 0 ∨ (xv_L a x = x ∧ (w = 1 ∨ xv_K a x = 0)))) j from ⟨u, Or.inl w0⟩)] at h2
        exact ⟨fun _ => h2, fun q => absurd w0 q⟩
      · refine ⟨fun q => absurd q w0, fun _ => ?_⟩
        by_cases l : xv_L a j = j
        · refine br_t (by rw [eL, l]) ?_
          by_cases w1 : w = 1
          · rw [sc_y (show (fun x => xv_U a x ∧ (w = 0 ∨ (xv_L a x = x ∧ (w = 1 ∨ xv_K a x = 0)))) j from ⟨u, Or.inr ⟨l, Or.inl w1⟩⟩)] at h2
            exact br_t (by rw [w1]; rfl) h2
          · refine br_f (fun q => w1 ((nI_eq (b := 1) (by omega) (by decide)).mp q)) ?_
            have hv := hV j u
            rw [l] at hv
            rcases hv with ⟨k0, wh⟩ | ⟨k0, i, hi, wh⟩
            · rw [sc_y (show (fun x => xv_U a x ∧ (w = 0 ∨ (xv_L a x = x ∧ (w = 1 ∨ xv_K a x = 0)))) j from ⟨u, Or.inr ⟨l, Or.inr k0⟩⟩)] at h2
              rw [wh]
              exact br_f (by decide) h2
            · rw [sc_no (show ¬ (fun x => xv_U a x ∧ (w = 0 ∨ (xv_L a x = x ∧ (w = 1 ∨ xv_K a x = 0)))) j from fun q => by
                rcases q.2 with q | q
                · exact w0 q
                · rcases q.2 with q | q
                  · exact w1 q
                  · exact k0 q)] at h2
              rw [wh]
              exact br_t (nI_pos' (by omega)) h2
        · rw [sc_no (show ¬ (fun x => xv_U a x ∧ (w = 0 ∨ (xv_L a x = x ∧ (w = 1 ∨ xv_K a x = 0)))) j from fun q => by
            rcases q.2 with q | q
            · exact w0 q
            · exact l q.1)] at h2
          refine br_f (fun q => l ?_) h2
          rw [eL] at q
          exact (nI_eq (by omega) (by omega)).mp q
    · have uy : ¬ b_s (384 + j) = 1 := by
        intro q
        apply u
        rw [← yU]; exact ⟨by omega, q⟩
      rw [sc_no (show ¬ (fun x => xv_U a x ∧ (w = 0 ∨ (xv_L a x = x ∧ (w = 1 ∨ xv_K a x = 0)))) j from fun q => u q.1)] at h2
      exact br_f uy h2
theorem yr_hv {B : Nat} {a s wh : Nat → Int32} {n : Nat} (hr : re_P B a s) (n1 : n ≤ 48) (n2 : ∀ x, xv_U a x → x < n) (n3 : ∀ v, v < 48 → wh v = ys_wh s (s v) n) {x : Nat} (hx : xv_U a x) : (xv_K a (xv_L a x) = 0 ∧ wh x = -1) ∨ (xv_K a (xv_L a x) ≠ 0 ∧ ∃ j, j < 48 ∧ wh x = nI j) := by
  have h5 := hr.2.2.2.2.1
  have wl := h5.1 x hx
  have w := re_wh hr n1 n2
  by_cases q : ys_h s n x
  · right
    obtain ⟨t, l⟩ := w.2.1 x hx q
    obtain ⟨c1, _⟩ := ma_R_x h5 t
    rw [l] at c1
    obtain ⟨e1, e2, _⟩ := ys_hf n1 q
    refine ⟨(xv_T1 c1).2.2, ys_f s n x, by omega, ?_⟩
    rw [n3 x hx.1, e1]
  · left
    have q' : ys_wh s (s x) n = -1 := Classical.byContradiction q
    refine ⟨Classical.byContradiction (fun k0 => q ?_), by rw [n3 x hx.1, q']⟩
    obtain ⟨u, u1, u2, _⟩ := ma_R_y h5 (c := xv_L a x) ⟨wl.2.1, wl.2.2.1, k0⟩
    exact w.1 x hx ⟨u, u1, u2⟩
theorem i_vc_state {k : Nat} {u : SX} {v : SY} (I : i_Rel k u v) (hk : k + 4 ≤ 2048) (v1 : Int32) : wpX_state (fun r => wpY_state (fun r' v' => r' = r ∧ i_Rel (k + 4) u v') v v1) u v1 := by
  obtain ⟨f_trials, f_drafted, f_pairs, f_metCount, f_meetingCount, a_held, a_saved, a_draft, a_toldBefore, a_pairX, a_pairY, a_stack, a_met, a_metAs, a_copies, a_meetings, a_wasMeeting, a_firstMet, a_depths, a_isKept⟩ := u
  obtain ⟨g_trials, g_drafted, g_found, b_s, b_saved, b_draft, b_who, b_met, b_stack, b_fresh, b_deep, b_alike, b_meets⟩ := v
  have C := re_A_C I
  have P := C.1
  have R := re_A_up (k := k) (k' := k + 4) (by omega) I
  have yU := re_U P
  obtain ⟨t, d, t3, d3, eT, eT', eD, eD', hDr, hC, hS⟩ := id I
  obtain ⟨n, wh, n1, n2, n3, n4⟩ := yw_values (g_trials := g_trials) (g_drafted := g_drafted) (g_found := g_found) (b_s := b_s) (b_saved := b_saved) (b_draft := b_draft) (b_who := b_who) (b_met := b_met) (b_stack := b_stack) (b_fresh := b_fresh) (b_deep := b_deep) (b_alike := b_alike) (b_meets := b_meets) P.2.1
  have hV : ∀ x, xv_U a_held x → (xv_K a_held (xv_L a_held x) = 0 ∧ wh x = -1) ∨ (xv_K a_held (xv_L a_held x) ≠ 0 ∧ ∃ j, j < 48 ∧ wh x = nI j) := fun x hx => yr_hv P n1 (fun x hx => n2 x (by rw [yU]; exact hx)) n3 hx
  have cnt : ∀ w : Nat, w ≤ 2 → ∀ (postY : Int32 → SY → Prop), postY (nI (sc_n (fun x => xv_U a_held x ∧ (w = 0 ∨ (xv_L a_held x = x ∧ (w = 1 ∨ xv_K a_held x = 0)))) 48)) (g_trials, g_drafted, g_found, b_s, b_saved, b_draft, wh, b_met, b_stack, b_fresh, b_deep, b_alike, b_meets) → wpY_state postY (g_trials, g_drafted, g_found, b_s, b_saved, b_draft, b_who, b_met, b_stack, b_fresh, b_deep, b_alike, b_meets) (nI w) := by
    intro w hw postY hp
    have lp := yw_state_46 (g_trials := g_trials) (g_drafted := g_drafted) (g_found := g_found) (b_s := b_s) (b_saved := b_saved) (b_draft := b_draft) (b_who := wh) (b_met := b_met) (b_stack := b_stack) (b_fresh := b_fresh) (b_deep := b_deep) (b_alike := b_alike) (b_meets := b_meets) (al := b_alike) P hw hV 48 0 rfl postY hp
    rw [sc_0] at lp
    unfold wpY_state
    refine br_f (fun q => by have := (nI_eq (b := 3) (by omega) (by decide)).mp q; omega) (br_f (fun q => by have := (nI_eq (b := 4) (by omega) (by decide)).mp q; omega) (br_f (nI_pos (by omega)) (br_t ((li_le4 (by omega)).mpr (by omega)) (n4 _ ⟨_, lp⟩))))
  unfold wpX_state
  by_cases h0 : v1 < 0
  · refine br_t h0 ?_
    unfold wpY_state
    refine br_f (fun q => by rw [q] at h0; exact absurd h0 (by decide)) (br_f (fun q => by rw [q] at h0; exact absurd h0 (by decide)) (br_t h0 ⟨rfl, R⟩))
  · obtain ⟨w, hw, rfl⟩ := nI_of h0
    refine br_f h0 ?_
    by_cases h4 : 4 < w
    · refine br_t ((li_gt4 (by omega)).mpr h4) ?_
      unfold wpY_state
      exact br_f (fun q => by have := (nI_eq (b := 3) (by omega) (by decide)).mp q; omega) (br_f (fun q => by have := (nI_eq (b := 4) (by omega) (by decide)).mp q; omega) (br_f (nI_pos (by omega)) (br_f (fun q => by have := (li_le4 (by omega)).mp q; omega) ⟨rfl, R⟩)))
    · refine br_f (fun q => h4 ((li_gt4 (by omega)).mp q)) ?_
      have cases : w = 0 ∨ w = 1 ∨ w = 2 ∨ w = 3 ∨ w = 4 := by omega
      rcases cases with z | z | z | z | z
      · subst z
        refine br_t rfl (xw_usedCount (f_trials := f_trials) (f_drafted := f_drafted) (f_pairs := f_pairs) (f_metCount := f_metCount) (f_meetingCount := f_meetingCount) (a_held := a_held) (a_saved := a_saved) (a_draft := a_draft) (a_toldBefore := a_toldBefore) (a_pairX := a_pairX) (a_pairY := a_pairY) (a_stack := a_stack) (a_met := a_met) (a_metAs := a_metAs) (a_copies := a_copies) (a_meetings := a_meetings) (a_wasMeeting := a_wasMeeting) (a_firstMet := a_firstMet) (a_depths := a_depths) (a_isKept := a_isKept) P.1 _ (cnt 0 (by omega) _ ⟨?_, R⟩))
        rw [sc_congr (fun i _ => ⟨fun q => q.1, fun q => ⟨q, Or.inl rfl⟩⟩)]
      · subst z
        refine br_f (by decide) (br_t rfl (xw_classCount (f_trials := f_trials) (f_drafted := f_drafted) (f_pairs := f_pairs) (f_metCount := f_metCount) (f_meetingCount := f_meetingCount) (a_held := a_held) (a_saved := a_saved) (a_draft := a_draft) (a_toldBefore := a_toldBefore) (a_pairX := a_pairX) (a_pairY := a_pairY) (a_stack := a_stack) (a_met := a_met) (a_metAs := a_metAs) (a_copies := a_copies) (a_meetings := a_meetings) (a_wasMeeting := a_wasMeeting) (a_firstMet := a_firstMet) (a_depths := a_depths) (a_isKept := a_isKept) P.1 (Or.inl rfl) _ (cnt 1 (by omega) _ ⟨?_, R⟩)))
        congr 1
        refine sc_congr (fun i _ => ⟨fun q => ⟨q.1, ?_, fun z => absurd z (by decide)⟩, fun q => ⟨q.1, Or.inr ⟨q.2.1, Or.inl rfl⟩⟩⟩)
        rcases q.2 with z | z
        · omega
        · exact z.1
      · subst z
        refine br_f (by decide) (br_f (by decide) (br_t rfl (xw_classCount (f_trials := f_trials) (f_drafted := f_drafted) (f_pairs := f_pairs) (f_metCount := f_metCount) (f_meetingCount := f_meetingCount) (a_held := a_held) (a_saved := a_saved) (a_draft := a_draft) (a_toldBefore := a_toldBefore) (a_pairX := a_pairX) (a_pairY := a_pairY) (a_stack := a_stack) (a_met := a_met) (a_metAs := a_metAs) (a_copies := a_copies) (a_meetings := a_meetings) (a_wasMeeting := a_wasMeeting) (a_firstMet := a_firstMet) (a_depths := a_depths) (a_isKept := a_isKept) P.1 (Or.inr rfl) _ (cnt 2 (by omega) _ ⟨?_, R⟩))))
        congr 1
        refine sc_congr (fun i _ => ⟨fun q => ⟨q.1, ?_, fun _ => ?_⟩, fun q => ⟨q.1, Or.inr ⟨q.2.1, Or.inr (q.2.2 rfl)⟩⟩⟩)
        · rcases q.2 with z | z
          · omega
          · exact z.1
        · rcases q.2 with z | z
          · omega
          · rcases z.2 with z | z
            · omega
            · exact z
      · subst z
        refine br_f (by decide) (br_f (by decide) (br_f (by decide) (br_t rfl ?_)))
        unfold wpY_state wY_state_10
        exact br_t rfl (br_t rfl ⟨by rw [eT, eT'], R⟩)
      · subst z
        refine br_f (by decide) (br_f (by decide) (br_f (by decide) (br_f (by decide) (br_t rfl ?_))))
        unfold wpY_state wY_state_10
        exact br_f (by decide) (br_t rfl (br_f (by decide) ⟨by rw [eD, eD'], R⟩))
