/-- what a telling of a value leaves with the component -/
def tv_X (a a' : Nat → Int32) (x : Nat) (sh : Int32 × Int32) (p : Nat → Nat) (r : Int32) : Prop :=
  (xv_K a (xv_L a x) = 0 ∧ sv_X a a' (xv_L a x) sh p ∧ r = 1) ∨
  (xv_K a (xv_L a x) ≠ 0 ∧ (xv_K a (xv_L a x), xv_V a (xv_L a x)) = sh ∧ xt_R a a' (ma_2 (ma_ct sh.1) (xv_P a (xv_L a x)) p) r) ∨
  (xv_K a (xv_L a x) ≠ 0 ∧ (xv_K a (xv_L a x), xv_V a (xv_L a x)) ≠ sh ∧ r = 2 ∧ a' = a)
theorem ma_2_congr {n : Nat} {p p' q q' : Nat → Nat} (h1 : ∀ k, k < n → p k = p' k) (h2 : ∀ k, k < n → q k = q' k) : ma_2 n p q = ma_2 n p' q' := by
  funext u v
  apply propext
  constructor
  · intro ⟨k, hk, a, b⟩
    exact ⟨k, hk, by rw [a, h1 k hk], by rw [b, h2 k hk]⟩
  · intro ⟨k, hk, a, b⟩
    exact ⟨k, hk, by rw [a, h1 k hk], by rw [b, h2 k hk]⟩
theorem xt_0 {a : Nat → Int32} (g : xv_G a) (px py : Nat → Nat) : xt_R a a (ma_2 0 px py) 1 := by
  refine Or.inr ⟨rfl, px, py, 0, 0, 1, Nat.le_refl _, ?_⟩
  rw [← ma_Q2]
  exact xm_0 g (by omega) (fun j hj => by omega)
theorem xw_tellNumber {f_trials f_drafted f_pairs f_metCount f_meetingCount : Int32} {a_held a_saved a_draft a_toldBefore a_pairX a_pairY a_stack a_met a_metAs a_copies a_meetings a_wasMeeting a_firstMet a_depths a_isKept : Nat → Int32} (g : xv_G a_held) {x : Nat} {v : Int32} (ux : xv_U a_held x) : ∃ (r : Int32) (a' : Nat → Int32), tv_X a_held a' x (1, v) (fun _ => 0) r ∧ ∀ post : Int32 → SX → Prop, post r (f_trials, f_drafted, f_pairs, f_metCount, f_meetingCount, a', a_saved, a_draft, a_toldBefore, a_pairX, a_pairY, a_stack, a_met, a_metAs, a_copies, a_meetings, a_wasMeeting, a_firstMet, a_depths, a_isKept) → wpX_tellNumber post (f_trials, f_drafted, f_pairs, f_metCount, f_meetingCount, a_held, a_saved, a_draft, a_toldBefore, a_pairX, a_pairY, a_stack, a_met, a_metAs, a_copies, a_meetings, a_wasMeeting, a_firstMet, a_depths, a_isKept) (nI x) v := by
  have x48 := ux.1
  obtain ⟨eL, lL⟩ := xv_HL g.1 x48
  have kc := xv_HK (a := a_held) lL
  have vc := xv_HV (a := a_held) lL
  generalize hc : xv_L a_held x = c at *
  by_cases k0 : xv_K a_held c = 0
  · refine ⟨1, upd (upd a_held (48 + c) 1) (96 + c) v, Or.inl ⟨by rw [hc]; exact k0, ?_, rfl⟩, fun post hp => ?_⟩
    · rw [hc]
      refine ⟨?_, pk_us, ?_, fun k hk => ?_, fun k hk => ?_, fun d hd ne => ⟨?_, ?_, ?_, fun k hk => ?_⟩, fun i hi => ?_⟩
      · rw [pk_un (by omega), pk_us]
      · rw [pk_un (by omega), pk_un (by omega)]
        have := (xv_HC g.1 lL).1
        rw [k0, ma_ct_0] at this
        rw [this]; rfl
      · rw [pk_un (by omega), pk_un (by omega)]; exact g.1.2.2.1 c k lL hk
      · exact absurd hk (by rw [show ma_ct ((1 : Int32), v).1 = 0 from ma_ct_1]; omega)
      · rw [pk_un (by omega), pk_un (by omega)]
      · rw [pk_un (by omega), pk_un (by omega)]
      · rw [pk_un (by omega), pk_un (by omega)]
      · rw [pk_un (by omega), pk_un (by omega)]
      · rw [pk_un (by omega), pk_un (by omega)]
    · unfold wpX_tellNumber
      simp (disch := omega) only [forall_eq, true_and, and_true, Nat.zero_add, nI_clamp, li_vin, nI_add, nI_eq, nI_leI, nI_ltI, li_0le, li_lt0, li_nn1, li_e0, not_true_eq_false, not_false_eq_true, false_implies, true_implies, forall_const, li_a0, li_b0, li_a1, li_b1, li_a2, li_b2, li_a3, li_b3, li_a7, li_b7, li_a8, li_b8, li_a16, li_b16, li_a48, li_b48, li_a584, li_b584, li_a572, li_b572, li_a96, li_b96, li_a144, li_b144, li_a192, li_b192, li_a240, li_b240, li_a336, li_b336, li_a384, li_b384, li_a432, li_b432, li_a480, li_b480, li_a488, li_b488, li_a496, li_b496, li_a504, li_b504, li_a512, li_b512, li_a520, li_b520, li_a524, li_b524, li_a528, li_b528, li_a536, li_b536, li_a544, li_b544, li_a552, li_b552, li_a560, li_b560, li_a568, li_b568, li_a573, li_b573, li_a585, li_b585, li_a633, li_b633, li_m3, li_n3, li_m4, li_n4, li_m48, li_n48, li_m50, li_n50, li_m585, li_n585, li_m633, li_n633, li_lt2, li_ge2, li_le2, li_gt2, li_lt1, li_ge1, li_le1, li_gt1, li_lt3, li_ge3, li_le3, li_gt3, li_lt4, li_ge4, li_le4, li_gt4, li_lt7, li_ge7, li_le7, li_gt7, li_lt8, li_ge8, li_le8, li_gt8, li_lt40, li_ge40, li_le40, li_gt40, li_lt240, li_ge240, li_le240, li_gt240, li_lt41, li_ge41, li_le41, li_gt41, li_lt48, li_ge48, li_le48, li_gt48, li_lt49, li_ge49, li_le49, li_gt49, li_lt60, li_ge60, li_le60, li_gt60, li_lt144, li_ge144, li_le144, li_gt144, li_lt145, li_ge145, li_le145, li_gt145, li_lt160, li_ge160, li_le160, li_gt160, li_lt336, li_ge336, li_le336, li_gt336, li_lt585, li_ge585, li_le585, li_gt585, li_lt633, li_ge633, li_le633, li_gt633, li_lt1000000, li_ge1000000, li_le1000000, li_gt1000000, li_lt2304, li_ge2304, li_le2304, li_gt2304, li_lt50, li_ge50, li_le50, li_gt50, li_le0, li_gt0, eL, kc, k0]
      exact hp
  · by_cases e : xv_K a_held c = 1 ∧ xv_V a_held c = v
    · refine ⟨1, a_held, Or.inr (Or.inl ⟨by rw [hc]; exact k0, by rw [hc, e.1, e.2], ?_⟩), fun post hp => ?_⟩
      · rw [show ma_ct ((1 : Int32), v).1 = 0 from ma_ct_1]
        exact xt_0 g _ _
      · unfold wpX_tellNumber
        simp (disch := omega) only [forall_eq, true_and, and_true, Nat.zero_add, nI_clamp, li_vin, nI_add, nI_eq, nI_leI, nI_ltI, li_0le, li_lt0, li_nn1, li_e0, not_true_eq_false, not_false_eq_true, false_implies, true_implies, forall_const, li_a0, li_b0, li_a1, li_b1, li_a2, li_b2, li_a3, li_b3, li_a7, li_b7, li_a8, li_b8, li_a16, li_b16, li_a48, li_b48, li_a584, li_b584, li_a572, li_b572, li_a96, li_b96, li_a144, li_b144, li_a192, li_b192, li_a240, li_b240, li_a336, li_b336, li_a384, li_b384, li_a432, li_b432, li_a480, li_b480, li_a488, li_b488, li_a496, li_b496, li_a504, li_b504, li_a512, li_b512, li_a520, li_b520, li_a524, li_b524, li_a528, li_b528, li_a536, li_b536, li_a544, li_b544, li_a552, li_b552, li_a560, li_b560, li_a568, li_b568, li_a573, li_b573, li_a585, li_b585, li_a633, li_b633, li_m3, li_n3, li_m4, li_n4, li_m48, li_n48, li_m50, li_n50, li_m585, li_n585, li_m633, li_n633, li_lt2, li_ge2, li_le2, li_gt2, li_lt1, li_ge1, li_le1, li_gt1, li_lt3, li_ge3, li_le3, li_gt3, li_lt4, li_ge4, li_le4, li_gt4, li_lt7, li_ge7, li_le7, li_gt7, li_lt8, li_ge8, li_le8, li_gt8, li_lt40, li_ge40, li_le40, li_gt40, li_lt240, li_ge240, li_le240, li_gt240, li_lt41, li_ge41, li_le41, li_gt41, li_lt48, li_ge48, li_le48, li_gt48, li_lt49, li_ge49, li_le49, li_gt49, li_lt60, li_ge60, li_le60, li_gt60, li_lt144, li_ge144, li_le144, li_gt144, li_lt145, li_ge145, li_le145, li_gt145, li_lt160, li_ge160, li_le160, li_gt160, li_lt336, li_ge336, li_le336, li_gt336, li_lt585, li_ge585, li_le585, li_gt585, li_lt633, li_ge633, li_le633, li_gt633, li_lt1000000, li_ge1000000, li_le1000000, li_gt1000000, li_lt2304, li_ge2304, li_le2304, li_gt2304, li_lt50, li_ge50, li_le50, li_gt50, li_le0, li_gt0, eL, kc, vc]
        exact br_f k0 (br_t e.1 (br_t e.2 hp))
    · refine ⟨2, a_held, Or.inr (Or.inr ⟨by rw [hc]; exact k0, fun q => e ?_, rfl, rfl⟩), fun post hp => ?_⟩
      · rw [hc] at q
        exact ⟨congrArg Prod.fst q, congrArg Prod.snd q⟩
      · unfold wpX_tellNumber
        simp (disch := omega) only [forall_eq, true_and, and_true, Nat.zero_add, nI_clamp, li_vin, nI_add, nI_eq, nI_leI, nI_ltI, li_0le, li_lt0, li_nn1, li_e0, not_true_eq_false, not_false_eq_true, false_implies, true_implies, forall_const, li_a0, li_b0, li_a1, li_b1, li_a2, li_b2, li_a3, li_b3, li_a7, li_b7, li_a8, li_b8, li_a16, li_b16, li_a48, li_b48, li_a584, li_b584, li_a572, li_b572, li_a96, li_b96, li_a144, li_b144, li_a192, li_b192, li_a240, li_b240, li_a336, li_b336, li_a384, li_b384, li_a432, li_b432, li_a480, li_b480, li_a488, li_b488, li_a496, li_b496, li_a504, li_b504, li_a512, li_b512, li_a520, li_b520, li_a524, li_b524, li_a528, li_b528, li_a536, li_b536, li_a544, li_b544, li_a552, li_b552, li_a560, li_b560, li_a568, li_b568, li_a573, li_b573, li_a585, li_b585, li_a633, li_b633, li_m3, li_n3, li_m4, li_n4, li_m48, li_n48, li_m50, li_n50, li_m585, li_n585, li_m633, li_n633, li_lt2, li_ge2, li_le2, li_gt2, li_lt1, li_ge1, li_le1, li_gt1, li_lt3, li_ge3, li_le3, li_gt3, li_lt4, li_ge4, li_le4, li_gt4, li_lt7, li_ge7, li_le7, li_gt7, li_lt8, li_ge8, li_le8, li_gt8, li_lt40, li_ge40, li_le40, li_gt40, li_lt240, li_ge240, li_le240, li_gt240, li_lt41, li_ge41, li_le41, li_gt41, li_lt48, li_ge48, li_le48, li_gt48, li_lt49, li_ge49, li_le49, li_gt49, li_lt60, li_ge60, li_le60, li_gt60, li_lt144, li_ge144, li_le144, li_gt144, li_lt145, li_ge145, li_le145, li_gt145, li_lt160, li_ge160, li_le160, li_gt160, li_lt336, li_ge336, li_le336, li_gt336, li_lt585, li_ge585, li_le585, li_gt585, li_lt633, li_ge633, li_le633, li_gt633, li_lt1000000, li_ge1000000, li_le1000000, li_gt1000000, li_lt2304, li_ge2304, li_le2304, li_gt2304, li_lt50, li_ge50, li_le50, li_gt50, li_le0, li_gt0, eL, kc, vc]
        exact br_f k0 (br_c (fun e1 => br_f (fun e2 => e ⟨e1, e2⟩) hp) (fun _ => hp))
theorem xw_tellRecord_123 {f_trials f_drafted f_pairs f_metCount f_meetingCount : Int32} {a_held a_saved a_draft a_toldBefore a_pairX a_pairY a_stack a_met a_metAs a_copies a_meetings a_wasMeeting a_firstMet a_depths a_isKept : Nat → Int32} {x3 x4 x5 x6 : Int32} {b : Nat} (hb : b + 3 ≤ 585) : ∀ d j (a_pairX : Nat → Int32), j + d = 3 → ∃ px : Nat → Int32, (∀ k, j ≤ k → k < 3 → px k = a_held (b + k)) ∧ (∀ k, k < j → px k = a_pairX k) ∧ ∀ post : Int32 → SX → Prop, wpX_merge (fun r u => match u with | (f_trials, f_drafted, f_pairs, f_metCount, f_meetingCount, a_held, a_saved, a_draft, a_toldBefore, a_pairX, a_pairY, a_stack, a_met, a_metAs, a_copies, a_meetings, a_wasMeeting, a_firstMet, a_depths, a_isKept) => wpX_undoneIfFailed (fun r u => match u with | (f_trials, f_drafted, f_pairs, f_metCount, f_meetingCount, a_held, a_saved, a_draft, a_toldBefore, a_pairX, a_pairY, a_stack, a_met, a_metAs, a_copies, a_meetings, a_wasMeeting, a_firstMet, a_depths, a_isKept) => post r (f_trials, f_drafted, f_pairs, f_metCount, f_meetingCount, a_held, a_saved, a_draft, a_toldBefore, a_pairX, a_pairY, a_stack, a_met, a_metAs, a_copies, a_meetings, a_wasMeeting, a_firstMet, a_depths, a_isKept)) (f_trials, f_drafted, f_pairs, f_metCount, f_meetingCount, a_held, a_saved, a_draft, a_toldBefore, a_pairX, a_pairY, a_stack, a_met, a_metAs, a_copies, a_meetings, a_wasMeeting, a_firstMet, a_depths, a_isKept) r) (f_trials, f_drafted, x3, f_metCount, f_meetingCount, a_held, a_saved, a_draft, a_toldBefore, px, upd (upd (upd a_pairY 0 x4) 1 x5) 2 x6, a_stack, a_met, a_metAs, a_copies, a_meetings, a_wasMeeting, a_firstMet, a_depths, a_isKept) → wX_tellRecord_123 post x3 x4 x5 x6 (nI b) f_trials f_drafted f_pairs f_metCount f_meetingCount (d + 1) (nI j) a_held a_saved a_draft a_toldBefore a_pairX a_pairY a_stack a_met a_metAs a_copies a_meetings a_wasMeeting a_firstMet a_depths a_isKept := by
  intro d
  induction d with
  | zero =>
    intro j px hj
    refine ⟨px, fun k h1 h2 => by omega, fun _ _ => rfl, fun post hp => ?_⟩
    unfold wX_tellRecord_123
    simp (disch := omega) only [forall_eq, true_and, and_true, Nat.zero_add, nI_clamp, li_vin, nI_add, nI_eq, nI_leI, nI_ltI, li_0le, li_lt0, li_nn1, li_e0, not_true_eq_false, not_false_eq_true, false_implies, true_implies, forall_const, li_a0, li_b0, li_a1, li_b1, li_a2, li_b2, li_a3, li_b3, li_a7, li_b7, li_a8, li_b8, li_a16, li_b16, li_a48, li_b48, li_a584, li_b584, li_a572, li_b572, li_a96, li_b96, li_a144, li_b144, li_a192, li_b192, li_a240, li_b240, li_a336, li_b336, li_a384, li_b384, li_a432, li_b432, li_a480, li_b480, li_a488, li_b488, li_a496, li_b496, li_a504, li_b504, li_a512, li_b512, li_a520, li_b520, li_a524, li_b524, li_a528, li_b528, li_a536, li_b536, li_a544, li_b544, li_a552, li_b552, li_a560, li_b560, li_a568, li_b568, li_a573, li_b573, li_a585, li_b585, li_a633, li_b633, li_m3, li_n3, li_m4, li_n4, li_m48, li_n48, li_m50, li_n50, li_m585, li_n585, li_m633, li_n633, li_lt2, li_ge2, li_le2, li_gt2, li_lt1, li_ge1, li_le1, li_gt1, li_lt3, li_ge3, li_le3, li_gt3, li_lt4, li_ge4, li_le4, li_gt4, li_lt7, li_ge7, li_le7, li_gt7, li_lt8, li_ge8, li_le8, li_gt8, li_lt40, li_ge40, li_le40, li_gt40, li_lt240, li_ge240, li_le240, li_gt240, li_lt41, li_ge41, li_le41, li_gt41, li_lt48, li_ge48, li_le48, li_gt48, li_lt49, li_ge49, li_le49, li_gt49, li_lt60, li_ge60, li_le60, li_gt60, li_lt144, li_ge144, li_le144, li_gt144, li_lt145, li_ge145, li_le145, li_gt145, li_lt160, li_ge160, li_le160, li_gt160, li_lt336, li_ge336, li_le336, li_gt336, li_lt585, li_ge585, li_le585, li_gt585, li_lt633, li_ge633, li_le633, li_gt633, li_lt1000000, li_ge1000000, li_le1000000, li_gt1000000, li_lt2304, li_ge2304, li_le2304, li_gt2304, li_lt50, li_ge50, li_le50, li_gt50, li_le0, li_gt0]
    exact ⟨fun _ => hp, fun q => by omega⟩
  | succ d ih =>
    intro j px hj
    obtain ⟨px', h1, h2, h3⟩ := ih (j + 1) (upd px j (a_held (b + j))) (by omega)
    refine ⟨px', ?_, ?_, fun post hp => ?_⟩
    · intro k g1 g2
      by_cases q : k = j
      · rw [q, h2 _ (by omega), pk_us]
      · exact h1 k (by omega) g2
    · intro k hk
      rw [h2 k (by omega), pk_un (by omega)]
    · unfold wX_tellRecord_123
      simp (disch := omega) only [forall_eq, true_and, and_true, Nat.zero_add, nI_clamp, li_vin, nI_add, nI_eq, nI_leI, nI_ltI, li_0le, li_lt0, li_nn1, li_e0, not_true_eq_false, not_false_eq_true, false_implies, true_implies, forall_const, li_a0, li_b0, li_a1, li_b1, li_a2, li_b2, li_a3, li_b3, li_a7, li_b7, li_a8, li_b8, li_a16, li_b16, li_a48, li_b48, li_a584, li_b584, li_a572, li_b572, li_a96, li_b96, li_a144, li_b144, li_a192, li_b192, li_a240, li_b240, li_a336, li_b336, li_a384, li_b384, li_a432, li_b432, li_a480, li_b480, li_a488, li_b488, li_a496, li_b496, li_a504, li_b504, li_a512, li_b512, li_a520, li_b520, li_a524, li_b524, li_a528, li_b528, li_a536, li_b536, li_a544, li_b544, li_a552, li_b552, li_a560, li_b560, li_a568, li_b568, li_a573, li_b573, li_a585, li_b585, li_a633, li_b633, li_m3, li_n3, li_m4, li_n4, li_m48, li_n48, li_m50, li_n50, li_m585, li_n585, li_m633, li_n633, li_lt2, li_ge2, li_le2, li_gt2, li_lt1, li_ge1, li_le1, li_gt1, li_lt3, li_ge3, li_le3, li_gt3, li_lt4, li_ge4, li_le4, li_gt4, li_lt7, li_ge7, li_le7, li_gt7, li_lt8, li_ge8, li_le8, li_gt8, li_lt40, li_ge40, li_le40, li_gt40, li_lt240, li_ge240, li_le240, li_gt240, li_lt41, li_ge41, li_le41, li_gt41, li_lt48, li_ge48, li_le48, li_gt48, li_lt49, li_ge49, li_le49, li_gt49, li_lt60, li_ge60, li_le60, li_gt60, li_lt144, li_ge144, li_le144, li_gt144, li_lt145, li_ge145, li_le145, li_gt145, li_lt160, li_ge160, li_le160, li_gt160, li_lt336, li_ge336, li_le336, li_gt336, li_lt585, li_ge585, li_le585, li_gt585, li_lt633, li_ge633, li_le633, li_gt633, li_lt1000000, li_ge1000000, li_le1000000, li_gt1000000, li_lt2304, li_ge2304, li_le2304, li_gt2304, li_lt50, li_ge50, li_le50, li_gt50, li_le0, li_gt0]
      exact ⟨fun q => by omega, fun _ => h3 post hp⟩
theorem xw_tellRecord {f_trials f_drafted f_pairs f_metCount f_meetingCount : Int32} {a_held a_saved a_draft a_toldBefore a_pairX a_pairY a_stack a_met a_metAs a_copies a_meetings a_wasMeeting a_firstMet a_depths a_isKept : Nat → Int32} (g : xv_G a_held) {x l c p0 p1 p2 : Nat} {p : Nat → Nat} (ux : xv_U a_held x) (hl : l < 8) (hc3 : c ≤ 3) (h0 : p0 < 48) (h1 : p1 < 48) (h2 : p2 < 48) (e0 : p 0 = p0) (e1 : p 1 = p1) (e2 : p 2 = p2) (hU : ∀ k, k < c → xv_U a_held (p k)) : ∃ (r m' : Int32) (a' tb px py : Nat → Int32), tv_X a_held a' x (nI (2 + 4 * l + c), 0) p r ∧ ∀ post : Int32 → SX → Prop, post r (f_trials, f_drafted, m', f_metCount, f_meetingCount, a', a_saved, a_draft, tb, px, py, a_stack, a_met, a_metAs, a_copies, a_meetings, a_wasMeeting, a_firstMet, a_depths, a_isKept) → wpX_tellRecord post (f_trials, f_drafted, f_pairs, f_metCount, f_meetingCount, a_held, a_saved, a_draft, a_toldBefore, a_pairX, a_pairY, a_stack, a_met, a_metAs, a_copies, a_meetings, a_wasMeeting, a_firstMet, a_depths, a_isKept) (nI x) (nI l) (nI c) (nI p0) (nI p1) (nI p2) := by
  have x48 := ux.1
  have wx := g.2.1 x ux
  obtain ⟨eL, lL⟩ := xv_HL g.1 x48
  have kc := xv_HK (a := a_held) lL
  have ect : ma_ct (nI (2 + 4 * l + c)) = c := ma_ct_rec hl hc3
  generalize hcc : xv_L a_held x = cc at *
  by_cases k0 : xv_K a_held cc = 0
  · refine ⟨1, f_pairs, upd (upd (upd (upd (upd a_held (48 + cc) (nI (2 + 4 * l + c))) (144 + cc) (nI c)) (192 + 3 * cc) (nI p0)) (192 + 3 * cc + 1) (nI p1)) (192 + 3 * cc + 2) (nI p2), a_toldBefore, a_pairX, a_pairY, Or.inl ⟨by rw [hcc]; exact k0, ?_, rfl⟩, fun post hp => ?_⟩
    · rw [hcc]
      have part : ∀ k, k < 3 → upd (upd (upd (upd (upd a_held (48 + cc) (nI (2 + 4 * l + c))) (144 + cc) (nI c)) (192 + 3 * cc) (nI p0)) (192 + 3 * cc + 1) (nI p1)) (192 + 3 * cc + 2) (nI p2) (192 + 3 * cc + k) = nI (p k) ∧ p k < 48 := by
        intro k hk
        have : k = 0 ∨ k = 1 ∨ k = 2 := by omega
        rcases this with z | z | z
        · rw [z, e0, pk_un (by omega), pk_un (by omega), Nat.add_zero, pk_us]; exact ⟨rfl, h0⟩
        · rw [z, e1, pk_un (by omega), pk_us]; exact ⟨rfl, h1⟩
        · rw [z, e2, pk_us]; exact ⟨rfl, h2⟩
      refine ⟨?_, ?_, ?_, fun k hk => ⟨p k, (part k hk).2, (part k hk).1⟩, fun k hk => ?_, fun d hd ne => ⟨?_, ?_, ?_, fun k hk => ?_⟩, fun i hi => ?_⟩
      · simp (disch := omega) only [pk_un, pk_us]
      · simp (disch := omega) only [pk_un]
        rcases g.1.2.2.2.2.1 cc lL with z | z
        · rw [kc, k0] at z; exact absurd z (by decide)
        · exact z
      · simp (disch := omega) only [pk_un, pk_us]
        show nI c = nI (ma_ct (nI (2 + 4 * l + c)))
        rw [ect]
      · have : k < 3 := Nat.lt_of_lt_of_le hk (ma_ct_le _)
        exact (part k this).1
      · simp (disch := omega) only [pk_un]
      · simp (disch := omega) only [pk_un]
      · simp (disch := omega) only [pk_un]
      · simp (disch := omega) only [pk_un]
      · rcases hi with hi | hi
        · simp (disch := omega) only [pk_un]
        · simp (disch := omega) only [pk_un]
    · unfold wpX_tellRecord
      simp (disch := omega) only [forall_eq, true_and, and_true, Nat.zero_add, nI_clamp, li_vin, nI_add, nI_eq, nI_leI, nI_ltI, li_0le, li_lt0, li_nn1, li_e0, not_true_eq_false, not_false_eq_true, false_implies, true_implies, forall_const, li_a0, li_b0, li_a1, li_b1, li_a2, li_b2, li_a3, li_b3, li_a7, li_b7, li_a8, li_b8, li_a16, li_b16, li_a48, li_b48, li_a584, li_b584, li_a572, li_b572, li_a96, li_b96, li_a144, li_b144, li_a192, li_b192, li_a240, li_b240, li_a336, li_b336, li_a384, li_b384, li_a432, li_b432, li_a480, li_b480, li_a488, li_b488, li_a496, li_b496, li_a504, li_b504, li_a512, li_b512, li_a520, li_b520, li_a524, li_b524, li_a528, li_b528, li_a536, li_b536, li_a544, li_b544, li_a552, li_b552, li_a560, li_b560, li_a568, li_b568, li_a573, li_b573, li_a585, li_b585, li_a633, li_b633, li_m3, li_n3, li_m4, li_n4, li_m48, li_n48, li_m50, li_n50, li_m585, li_n585, li_m633, li_n633, li_lt2, li_ge2, li_le2, li_gt2, li_lt1, li_ge1, li_le1, li_gt1, li_lt3, li_ge3, li_le3, li_gt3, li_lt4, li_ge4, li_le4, li_gt4, li_lt7, li_ge7, li_le7, li_gt7, li_lt8, li_ge8, li_le8, li_gt8, li_lt40, li_ge40, li_le40, li_gt40, li_lt240, li_ge240, li_le240, li_gt240, li_lt41, li_ge41, li_le41, li_gt41, li_lt48, li_ge48, li_le48, li_gt48, li_lt49, li_ge49, li_le49, li_gt49, li_lt60, li_ge60, li_le60, li_gt60, li_lt144, li_ge144, li_le144, li_gt144, li_lt145, li_ge145, li_le145, li_gt145, li_lt160, li_ge160, li_le160, li_gt160, li_lt336, li_ge336, li_le336, li_gt336, li_lt585, li_ge585, li_le585, li_gt585, li_lt633, li_ge633, li_le633, li_gt633, li_lt1000000, li_ge1000000, li_le1000000, li_gt1000000, li_lt2304, li_ge2304, li_le2304, li_gt2304, li_lt50, li_ge50, li_le50, li_gt50, li_le0, li_gt0, eL, kc, k0]
      exact hp
  · by_cases e : xv_K a_held cc = nI (2 + 4 * l + c)
    · have V0 : xv_V a_held cc = 0 := by
        rw [← xv_HV lL]
        rcases g.1.2.2.2.2.1 cc lL with z | z
        · rw [kc, e] at z
          have := (nI_eq (b := 1) (by omega) (by decide)).mp z
          omega
        · exact z
      have Ucc : xv_U a_held cc := wx.2.1
      have Lcc : xv_L a_held cc = cc := wx.2.2.1
      obtain ⟨tb, t1, t2⟩ := xw_rememberTold (f_trials := f_trials) (f_drafted := f_drafted) (f_pairs := f_pairs) (f_metCount := f_metCount) (f_meetingCount := f_meetingCount) (a_held := a_held) (a_saved := a_saved) (a_draft := a_draft) (a_toldBefore := a_toldBefore) (a_pairX := a_pairX) (a_pairY := a_pairY) (a_stack := a_stack) (a_met := a_met) (a_metAs := a_metAs) (a_copies := a_copies) (a_meetings := a_meetings) (a_wasMeeting := a_wasMeeting) (a_firstMet := a_firstMet) (a_depths := a_depths) (a_isKept := a_isKept)
      obtain ⟨px, q1, q2, q3⟩ := xw_tellRecord_123 (f_trials := f_trials) (f_drafted := f_drafted) (f_pairs := f_pairs) (f_metCount := f_metCount) (f_meetingCount := f_meetingCount) (a_held := a_held) (a_saved := a_saved) (a_draft := a_draft) (a_toldBefore := tb) (a_pairX := a_pairX) (a_pairY := a_pairY) (a_stack := a_stack) (a_met := a_met) (a_metAs := a_metAs) (a_copies := a_copies) (a_meetings := a_meetings) (a_wasMeeting := a_wasMeeting) (a_firstMet := a_firstMet) (a_depths := a_depths) (a_isKept := a_isKept) (x3 := nI c) (x4 := nI p0) (x5 := nI p1) (x6 := nI p2) (b := 192 + 3 * cc) (by omega) 3 0 a_pairX rfl
      have pX : ∀ k, k < 3 → px k = nI (xv_P a_held cc k) ∧ xv_P a_held cc k < 48 := by
        intro k hk
        rw [q1 k (by omega) hk]; exact xv_HP g.1 lL hk
      have pY : ∀ k, k < 3 → upd (upd (upd a_pairY 0 (nI p0)) 1 (nI p1)) 2 (nI p2) k = nI (p k) ∧ p k < 48 := by
        intro k hk
        have : k = 0 ∨ k = 1 ∨ k = 2 := by omega
        rcases this with z | z | z
        · rw [z, e0, pk_un (by omega), pk_un (by omega), pk_us]; exact ⟨rfl, h0⟩
        · rw [z, e1, pk_un (by omega), pk_us]; exact ⟨rfl, h1⟩
        · rw [z, e2, pk_us]; exact ⟨rfl, h2⟩
      have mX : ∀ k, k < 3 → xm_p px k = xv_P a_held cc k := fun k hk => xm_p_nI (pX k hk).1 (pX k hk).2
      have mY : ∀ k, k < 3 → xm_p (upd (upd (upd a_pairY 0 (nI p0)) 1 (nI p1)) 2 (nI p2)) k = p k := fun k hk => xm_p_nI (pY k hk).1 (pY k hk).2
      have UP : ∀ k, k < c → xv_U a_held (xv_P a_held cc k) := by
        intro k hk
        refine g.2.2 cc ⟨Ucc, Lcc, k0⟩ k ?_
        show k < ma_ct (xv_K a_held cc)
        rw [e, ect]; exact hk
      obtain ⟨r, m', a', px', py', w1, w2, w3⟩ := xw_merge (f_trials := f_trials) (f_drafted := f_drafted) (f_pairs := nI c) (f_metCount := f_metCount) (f_meetingCount := f_meetingCount) (a_held := a_held) (a_saved := a_saved) (a_draft := a_draft) (a_toldBefore := tb) (a_pairX := px) (a_pairY := upd (upd (upd a_pairY 0 (nI p0)) 1 (nI p1)) 2 (nI p2)) (a_stack := a_stack) (a_met := a_met) (a_metAs := a_metAs) (a_copies := a_copies) (a_meetings := a_meetings) (a_wasMeeting := a_wasMeeting) (a_firstMet := a_firstMet) (a_depths := a_depths) (a_isKept := a_isKept) g (m := c) hc3 rfl (by
        intro j hj
        rw [mX j (by omega), mY j (by omega)]
        exact ⟨⟨(pX j (by omega)).1, UP j hj⟩, (pY j (by omega)).1, hU j hj⟩)
      have eQ : ma_Q (xm_p px) (xm_p (upd (upd (upd a_pairY 0 (nI p0)) 1 (nI p1)) 2 (nI p2))) 0 c = ma_2 (ma_ct (nI (2 + 4 * l + c), (0 : Int32)).1) (xv_P a_held cc) p := by
        rw [ma_Q2]
        show ma_2 c _ _ = ma_2 (ma_ct (nI (2 + 4 * l + c))) _ _
        rw [ect]
        exact ma_2_congr (fun k hk => mX k (by omega)) (fun k hk => mY k (by omega))
      rw [eQ] at w1
      rcases w1 with ⟨z1, z2⟩ | ⟨i', z1, z2⟩
      · obtain ⟨a'', c1, c2, c3⟩ := xw_undone_no (f_trials := f_trials) (f_drafted := f_drafted) (f_pairs := nI m') (f_metCount := f_metCount) (f_meetingCount := f_meetingCount) (a_held := a') (a_saved := a_saved) (a_draft := a_draft) (a_toldBefore := tb) (a_pairX := px') (a_pairY := py') (a_stack := a_stack) (a_met := a_met) (a_metAs := a_metAs) (a_copies := a_copies) (a_meetings := a_meetings) (a_wasMeeting := a_wasMeeting) (a_firstMet := a_firstMet) (a_depths := a_depths) (a_isKept := a_isKept)
        have ea : a'' = a_held := by
          funext i
          by_cases q : i < 336
          · rw [c1 i q, t1 i q]
          · rw [c2 i (by omega), w2 i (by omega)]
        refine ⟨2, nI m', a_held, tb, px', py', Or.inr (Or.inl ⟨by rw [hcc]; exact k0, by rw [hcc, e, V0], ?_⟩), fun post hp => ?_⟩
        · rw [hcc]; exact Or.inl ⟨rfl, rfl, z2⟩
        · unfold wpX_tellRecord
          simp (disch := omega) only [forall_eq, true_and, and_true, Nat.zero_add, nI_clamp, li_vin, nI_add, nI_eq, nI_leI, nI_ltI, li_0le, li_lt0, li_nn1, li_e0, not_true_eq_false, not_false_eq_true, false_implies, true_implies, forall_const, li_a0, li_b0, li_a1, li_b1, li_a2, li_b2, li_a3, li_b3, li_a7, li_b7, li_a8, li_b8, li_a16, li_b16, li_a48, li_b48, li_a584, li_b584, li_a572, li_b572, li_a96, li_b96, li_a144, li_b144, li_a192, li_b192, li_a240, li_b240, li_a336, li_b336, li_a384, li_b384, li_a432, li_b432, li_a480, li_b480, li_a488, li_b488, li_a496, li_b496, li_a504, li_b504, li_a512, li_b512, li_a520, li_b520, li_a524, li_b524, li_a528, li_b528, li_a536, li_b536, li_a544, li_b544, li_a552, li_b552, li_a560, li_b560, li_a568, li_b568, li_a573, li_b573, li_a585, li_b585, li_a633, li_b633, li_m3, li_n3, li_m4, li_n4, li_m48, li_n48, li_m50, li_n50, li_m585, li_n585, li_m633, li_n633, li_lt2, li_ge2, li_le2, li_gt2, li_lt1, li_ge1, li_le1, li_gt1, li_lt3, li_ge3, li_le3, li_gt3, li_lt4, li_ge4, li_le4, li_gt4, li_lt7, li_ge7, li_le7, li_gt7, li_lt8, li_ge8, li_le8, li_gt8, li_lt40, li_ge40, li_le40, li_gt40, li_lt240, li_ge240, li_le240, li_gt240, li_lt41, li_ge41, li_le41, li_gt41, li_lt48, li_ge48, li_le48, li_gt48, li_lt49, li_ge49, li_le49, li_gt49, li_lt60, li_ge60, li_le60, li_gt60, li_lt144, li_ge144, li_le144, li_gt144, li_lt145, li_ge145, li_le145, li_gt145, li_lt160, li_ge160, li_le160, li_gt160, li_lt336, li_ge336, li_le336, li_gt336, li_lt585, li_ge585, li_le585, li_gt585, li_lt633, li_ge633, li_le633, li_gt633, li_lt1000000, li_ge1000000, li_le1000000, li_gt1000000, li_lt2304, li_ge2304, li_le2304, li_gt2304, li_lt50, li_ge50, li_le50, li_gt50, li_le0, li_gt0, eL, kc]
          refine br_f k0 (br_t e (t2 _ ⟨_, q3 post (w3 _ ?_)⟩))
          rw [z1]
          refine c3 _ ?_
          rw [ea]; exact hp
      · have hr : r ≠ 2 := by
          rcases xm_vd z2 with z | z
          · rw [z]; decide
          · rw [z]; decide
        refine ⟨1, nI m', a', tb, px', py', Or.inr (Or.inl ⟨by rw [hcc]; exact k0, by rw [hcc, e, V0], ?_⟩), fun post hp => ?_⟩
        · rw [hcc]; exact Or.inr ⟨rfl, xm_p px', xm_p py', i', m', r, z1, z2⟩
        · unfold wpX_tellRecord
          simp (disch := omega) only [forall_eq, true_and, and_true, Nat.zero_add, nI_clamp, li_vin, nI_add, nI_eq, nI_leI, nI_ltI, li_0le, li_lt0, li_nn1, li_e0, not_true_eq_false, not_false_eq_true, false_implies, true_implies, forall_const, li_a0, li_b0, li_a1, li_b1, li_a2, li_b2, li_a3, li_b3, li_a7, li_b7, li_a8, li_b8, li_a16, li_b16, li_a48, li_b48, li_a584, li_b584, li_a572, li_b572, li_a96, li_b96, li_a144, li_b144, li_a192, li_b192, li_a240, li_b240, li_a336, li_b336, li_a384, li_b384, li_a432, li_b432, li_a480, li_b480, li_a488, li_b488, li_a496, li_b496, li_a504, li_b504, li_a512, li_b512, li_a520, li_b520, li_a524, li_b524, li_a528, li_b528, li_a536, li_b536, li_a544, li_b544, li_a552, li_b552, li_a560, li_b560, li_a568, li_b568, li_a573, li_b573, li_a585, li_b585, li_a633, li_b633, li_m3, li_n3, li_m4, li_n4, li_m48, li_n48, li_m50, li_n50, li_m585, li_n585, li_m633, li_n633, li_lt2, li_ge2, li_le2, li_gt2, li_lt1, li_ge1, li_le1, li_gt1, li_lt3, li_ge3, li_le3, li_gt3, li_lt4, li_ge4, li_le4, li_gt4, li_lt7, li_ge7, li_le7, li_gt7, li_lt8, li_ge8, li_le8, li_gt8, li_lt40, li_ge40, li_le40, li_gt40, li_lt240, li_ge240, li_le240, li_gt240, li_lt41, li_ge41, li_le41, li_gt41, li_lt48, li_ge48, li_le48, li_gt48, li_lt49, li_ge49, li_le49, li_gt49, li_lt60, li_ge60, li_le60, li_gt60, li_lt144, li_ge144, li_le144, li_gt144, li_lt145, li_ge145, li_le145, li_gt145, li_lt160, li_ge160, li_le160, li_gt160, li_lt336, li_ge336, li_le336, li_gt336, li_lt585, li_ge585, li_le585, li_gt585, li_lt633, li_ge633, li_le633, li_gt633, li_lt1000000, li_ge1000000, li_le1000000, li_gt1000000, li_lt2304, li_ge2304, li_le2304, li_gt2304, li_lt50, li_ge50, li_le50, li_gt50, li_le0, li_gt0, eL, kc]
          exact br_f k0 (br_t e (t2 _ ⟨_, q3 post (w3 _ (xw_undone_ok (f_trials := f_trials) (f_drafted := f_drafted) (f_pairs := nI m') (f_metCount := f_metCount) (f_meetingCount := f_meetingCount) (a_held := a') (a_saved := a_saved) (a_draft := a_draft) (a_toldBefore := tb) (a_pairX := px') (a_pairY := py') (a_stack := a_stack) (a_met := a_met) (a_metAs := a_metAs) (a_copies := a_copies) (a_meetings := a_meetings) (a_wasMeeting := a_wasMeeting) (a_firstMet := a_firstMet) (a_depths := a_depths) (a_isKept := a_isKept) hr _ hp))⟩))
    · refine ⟨2, f_pairs, a_held, a_toldBefore, a_pairX, a_pairY, Or.inr (Or.inr ⟨by rw [hcc]; exact k0, fun q => e ?_, rfl, rfl⟩), fun post hp => ?_⟩
      · rw [hcc] at q
        exact congrArg Prod.fst q
      · unfold wpX_tellRecord
        simp (disch := omega) only [forall_eq, true_and, and_true, Nat.zero_add, nI_clamp, li_vin, nI_add, nI_eq, nI_leI, nI_ltI, li_0le, li_lt0, li_nn1, li_e0, not_true_eq_false, not_false_eq_true, false_implies, true_implies, forall_const, li_a0, li_b0, li_a1, li_b1, li_a2, li_b2, li_a3, li_b3, li_a7, li_b7, li_a8, li_b8, li_a16, li_b16, li_a48, li_b48, li_a584, li_b584, li_a572, li_b572, li_a96, li_b96, li_a144, li_b144, li_a192, li_b192, li_a240, li_b240, li_a336, li_b336, li_a384, li_b384, li_a432, li_b432, li_a480, li_b480, li_a488, li_b488, li_a496, li_b496, li_a504, li_b504, li_a512, li_b512, li_a520, li_b520, li_a524, li_b524, li_a528, li_b528, li_a536, li_b536, li_a544, li_b544, li_a552, li_b552, li_a560, li_b560, li_a568, li_b568, li_a573, li_b573, li_a585, li_b585, li_a633, li_b633, li_m3, li_n3, li_m4, li_n4, li_m48, li_n48, li_m50, li_n50, li_m585, li_n585, li_m633, li_n633, li_lt2, li_ge2, li_le2, li_gt2, li_lt1, li_ge1, li_le1, li_gt1, li_lt3, li_ge3, li_le3, li_gt3, li_lt4, li_ge4, li_le4, li_gt4, li_lt7, li_ge7, li_le7, li_gt7, li_lt8, li_ge8, li_le8, li_gt8, li_lt40, li_ge40, li_le40, li_gt40, li_lt240, li_ge240, li_le240, li_gt240, li_lt41, li_ge41, li_le41, li_gt41, li_lt48, li_ge48, li_le48, li_gt48, li_lt49, li_ge49, li_le49, li_gt49, li_lt60, li_ge60, li_le60, li_gt60, li_lt144, li_ge144, li_le144, li_gt144, li_lt145, li_ge145, li_le145, li_gt145, li_lt160, li_ge160, li_le160, li_gt160, li_lt336, li_ge336, li_le336, li_gt336, li_lt585, li_ge585, li_le585, li_gt585, li_lt633, li_ge633, li_le633, li_gt633, li_lt1000000, li_ge1000000, li_le1000000, li_gt1000000, li_lt2304, li_ge2304, li_le2304, li_gt2304, li_lt50, li_ge50, li_le50, li_gt50, li_le0, li_gt0, eL, kc]
        exact br_f k0 (br_f e hp)
