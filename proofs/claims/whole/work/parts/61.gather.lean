theorem xw_metIndex {f_trials f_drafted f_pairs f_metCount f_meetingCount : Int32} {a_held a_saved a_draft a_toldBefore a_pairX a_pairY a_stack a_met a_metAs a_copies a_meetings a_wasMeeting a_firstMet a_depths a_isKept : Nat → Int32} (g : xv_G a_held) {c M : Nat} {m : Nat → Nat} (uc : xv_U a_held c) (hM : M ≤ 48) (eM : f_metCount = nI M) (hm : ∀ j, j < M → xv_U a_held (m j) ∧ a_met j = nI (m j)) : ∃ (ix : Nat) (m' : Int32) (tb px py : Nat → Int32), ix ≤ M ∧ (∀ j, j < ix → ¬ ma_al (xv_U a_held) (xv_L a_held) (xv_T a_held) c (m j)) ∧ (ix < M → ma_al (xv_U a_held) (xv_L a_held) (xv_T a_held) c (m ix)) ∧ ∀ post : Int32 → SX → Prop, post (nI ix) (f_trials, f_drafted, m', f_metCount, f_meetingCount, a_held, a_saved, a_draft, tb, px, py, a_stack, a_met, a_metAs, a_copies, a_meetings, a_wasMeeting, a_firstMet, a_depths, a_isKept) → wpX_metIndex post (f_trials, f_drafted, f_pairs, f_metCount, f_meetingCount, a_held, a_saved, a_draft, a_toldBefore, a_pairX, a_pairY, a_stack, a_met, a_metAs, a_copies, a_meetings, a_wasMeeting, a_firstMet, a_depths, a_isKept) (nI c) := by
  have lp : ∀ d j (f_pairs : Int32) (a_toldBefore a_pairX a_pairY : Nat → Int32), j + d = M → (∀ i, i < j → ¬ ma_al (xv_U a_held) (xv_L a_held) (xv_T a_held) c (m i)) → ∃ (ix : Nat) (m' : Int32) (tb px py : Nat → Int32), ix ≤ M ∧ (∀ j, j < ix → ¬ ma_al (xv_U a_held) (xv_L a_held) (xv_T a_held) c (m j)) ∧ (ix < M → ma_al (xv_U a_held) (xv_L a_held) (xv_T a_held) c (m ix)) ∧ ∀ post : Int32 → SX → Prop, post (nI ix) (f_trials, f_drafted, m', f_metCount, f_meetingCount, a_held, a_saved, a_draft, tb, px, py, a_stack, a_met, a_metAs, a_copies, a_meetings, a_wasMeeting, a_firstMet, a_depths, a_isKept) → wX_metIndex_2 post (nI c) (d + 1) (nI j) f_trials f_drafted f_pairs f_metCount f_meetingCount a_held a_saved a_draft a_toldBefore a_pairX a_pairY a_stack a_met a_metAs a_copies a_meetings a_wasMeeting a_firstMet a_depths a_isKept := by
    intro d
    induction d with
    | zero =>
      intro j fp tb px py hj h
      have ej : j = M := by omega
      refine ⟨M, fp, tb, px, py, Nat.le_refl _, by rw [← ej]; exact h, fun z => by omega, fun post hp => ?_⟩
      rw [wX_metIndex_2]
      rw [← eM] at hp
      refine br_c (fun _ => hp) (fun _ => br_t ?_ hp)
      rw [eM, ej]
      exact (nI_leI (by omega) (by omega)).mpr (Nat.le_refl _)
    | succ d ih =>
      intro j fp tb px py hj h
      obtain ⟨um, em⟩ := hm j (by omega)
      obtain ⟨m1, tb1, px1, py1, hw⟩ := xw_likeness (f_trials := f_trials) (f_drafted := f_drafted) (f_pairs := fp) (f_metCount := f_metCount) (f_meetingCount := f_meetingCount) (a_held := a_held) (a_saved := a_saved) (a_draft := a_draft) (a_toldBefore := tb) (a_pairX := px) (a_pairY := py) (a_stack := a_stack) (a_met := a_met) (a_metAs := a_metAs) (a_copies := a_copies) (a_meetings := a_meetings) (a_wasMeeting := a_wasMeeting) (a_firstMet := a_firstMet) (a_depths := a_depths) (a_isKept := a_isKept) g uc um
      have c1 : ¬ (48 : Int32) ≤ nI j := fun z => by have := (li_ge48 (by omega)).mp z; omega
      have c2 : ¬ f_metCount ≤ nI j := by
        rw [eM]
        exact fun z => by have := (nI_leI (by omega) (by omega)).mp z; omega
      by_cases q : ma_al (xv_U a_held) (xv_L a_held) (xv_T a_held) c (m j)
      · refine ⟨j, nI m1, tb1, px1, py1, by omega, h, fun _ => q, fun post hp => ?_⟩
        rw [wX_metIndex_2]
        refine br_f c1 (br_f c2 ?_)
        simp (disch := omega) only [forall_eq, true_and, and_true, Nat.zero_add, nI_clamp, li_vin, nI_add, nI_eq, nI_leI, nI_ltI, li_0le, li_lt0, li_nn1, li_e0, not_true_eq_false, not_false_eq_true, false_implies, true_implies, forall_const, li_a0, li_b0, li_a1, li_b1, li_a2, li_b2, li_a3, li_b3, li_a7, li_b7, li_a8, li_b8, li_a16, li_b16, li_a48, li_b48, li_a584, li_b584, li_a572, li_b572, li_a96, li_b96, li_a144, li_b144, li_a192, li_b192, li_a240, li_b240, li_a336, li_b336, li_a384, li_b384, li_a432, li_b432, li_a480, li_b480, li_a488, li_b488, li_a496, li_b496, li_a504, li_b504, li_a512, li_b512, li_a520, li_b520, li_a524, li_b524, li_a528, li_b528, li_a536, li_b536, li_a544, li_b544, li_a552, li_b552, li_a560, li_b560, li_a568, li_b568, li_a573, li_b573, li_a585, li_b585, li_a633, li_b633, li_m3, li_n3, li_m4, li_n4, li_m48, li_n48, li_m50, li_n50, li_m585, li_n585, li_m633, li_n633, li_lt2, li_ge2, li_le2, li_gt2, li_lt1, li_ge1, li_le1, li_gt1, li_lt3, li_ge3, li_le3, li_gt3, li_lt4, li_ge4, li_le4, li_gt4, li_lt7, li_ge7, li_le7, li_gt7, li_lt8, li_ge8, li_le8, li_gt8, li_lt40, li_ge40, li_le40, li_gt40, li_lt240, li_ge240, li_le240, li_gt240, li_lt41, li_ge41, li_le41, li_gt41, li_lt48, li_ge48, li_le48, li_gt48, li_lt49, li_ge49, li_le49, li_gt49, li_lt60, li_ge60, li_le60, li_gt60, li_lt144, li_ge144, li_le144, li_gt144, li_lt145, li_ge145, li_le145, li_gt145, li_lt160, li_ge160, li_le160, li_gt160, li_lt336, li_ge336, li_le336, li_gt336, li_lt585, li_ge585, li_le585, li_gt585, li_lt633, li_ge633, li_le633, li_gt633, li_lt1000000, li_ge1000000, li_le1000000, li_gt1000000, li_lt2304, li_ge2304, li_le2304, li_gt2304, li_lt50, li_ge50, li_le50, li_gt50, li_le0, li_gt0, em]
        refine hw _ ?_
        rw [ma_vd_is1 q]
        exact br_t rfl hp
      · obtain ⟨ix, m2, tb2, px2, py2, h1, h2, h3, h4⟩ := ih (j + 1) (nI m1) tb1 px1 py1 (by omega) (lt_s h q)
        refine ⟨ix, m2, tb2, px2, py2, h1, h2, h3, fun post hp => ?_⟩
        rw [wX_metIndex_2]
        refine br_f c1 (br_f c2 ?_)
        simp (disch := omega) only [forall_eq, true_and, and_true, Nat.zero_add, nI_clamp, li_vin, nI_add, nI_eq, nI_leI, nI_ltI, li_0le, li_lt0, li_nn1, li_e0, not_true_eq_false, not_false_eq_true, false_implies, true_implies, forall_const, li_a0, li_b0, li_a1, li_b1, li_a2, li_b2, li_a3, li_b3, li_a7, li_b7, li_a8, li_b8, li_a16, li_b16, li_a48, li_b48, li_a584, li_b584, li_a572, li_b572, li_a96, li_b96, li_a144, li_b144, li_a192, li_b192, li_a240, li_b240, li_a336, li_b336, li_a384, li_b384, li_a432, li_b432, li_a480, li_b480, li_a488, li_b488, li_a496, li_b496, li_a504, li_b504, li_a512, li_b512, li_a520, li_b520, li_a524, li_b524, li_a528, li_b528, li_a536, li_b536, li_a544, li_b544, li_a552, li_b552, li_a560, li_b560, li_a568, li_b568, li_a573, li_b573, li_a585, li_b585, li_a633, li_b633, li_m3, li_n3, li_m4, li_n4, li_m48, li_n48, li_m50, li_n50, li_m585, li_n585, li_m633, li_n633, li_lt2, li_ge2, li_le2, li_gt2, li_lt1, li_ge1, li_le1, li_gt1, li_lt3, li_ge3, li_le3, li_gt3, li_lt4, li_ge4, li_le4, li_gt4, li_lt7, li_ge7, li_le7, li_gt7, li_lt8, li_ge8, li_le8, li_gt8, li_lt40, li_ge40, li_le40, li_gt40, li_lt240, li_ge240, li_le240, li_gt240, li_lt41, li_ge41, li_le41, li_gt41, li_lt48, li_ge48, li_le48, li_gt48, li_lt49, li_ge49, li_le49, li_gt49, li_lt60, li_ge60, li_le60, li_gt60, li_lt144, li_ge144, li_le144, li_gt144, li_lt145, li_ge145, li_le145, li_gt145, li_lt160, li_ge160, li_le160, li_gt160, li_lt336, li_ge336, li_le336, li_gt336, li_lt585, li_ge585, li_le585, li_gt585, li_lt633, li_ge633, li_le633, li_gt633, li_lt1000000, li_ge1000000, li_le1000000, li_gt1000000, li_lt2304, li_ge2304, li_le2304, li_gt2304, li_lt50, li_ge50, li_le50, li_gt50, li_le0, li_gt0, em]
        refine hw _ ?_
        exact br_f (fun z => q (ma_vd_al.mp z)) (h4 post hp)
  obtain ⟨ix, m', tb, px, py, h1, h2, h3, h4⟩ := lp M 0 f_pairs a_toldBefore a_pairX a_pairY (by omega) (fun i hi => by omega)
  exact ⟨ix, m', tb, px, py, h1, h2, h3, fun post hp => ⟨_, h4 post hp⟩⟩
theorem yw_indexOf {g_trials g_drafted g_found : Int32} {b_s b_saved b_draft b_who b_met b_stack b_fresh b_deep : Nat → Int32} {b_alike b_meets : Nat → Int64} {a : Nat → Int32} (w : ma_W (xv_U a) (xv_L a)) (hA : ∀ x y, xv_U a x → xv_U a y → (by_b (b_alike x) y = true ↔ ma_al (xv_U a) (xv_L a) (xv_T a) x y)) {v M : Nat} {m : Nat → Nat} (uv : xv_U a v) (hM : M ≤ 48) (eM : g_found = nI M) (hm : ∀ j, j < M → ∃ q, b_met j = nI q ∧ xv_U a q ∧ xv_L a q = m j) : ∃ r : Int32, ((r = -1 ∧ ∀ j, j < M → ¬ ma_al (xv_U a) (xv_L a) (xv_T a) (xv_L a v) (m j)) ∨ (∃ ix, ix < M ∧ r = nI ix ∧ ma_al (xv_U a) (xv_L a) (xv_T a) (xv_L a v) (m ix) ∧ ∀ j, j < ix → ¬ ma_al (xv_U a) (xv_L a) (xv_T a) (xv_L a v) (m j))) ∧ ∀ post : Int32 → Prop, post r → wpY_indexOf post (g_trials, g_drafted, g_found, b_s, b_saved, b_draft, b_who, b_met, b_stack, b_fresh, b_deep, b_alike, b_meets) (nI v) := by
  have wv := w v uv
  have iff : ∀ j q, xv_U a q → xv_L a q = m j → (by_b (b_alike q) v = true ↔ ma_al (xv_U a) (xv_L a) (xv_T a) (xv_L a v) (m j)) := by
    intro j q uq eq
    have wq := w q uq
    rw [hA q v uq uv, ← eq]
    constructor
    · intro h
      exact ma_al_L uv uq wv.2.1 wq.2.1 wv.2.2.1.symm wq.2.2.1.symm (ma_al_sym h)
    · intro h
      exact ma_al_sym (ma_al_L wv.2.1 wq.2.1 uv uq wv.2.2.1 wq.2.2.1 h)
  have lp : ∀ d j, j + d = M → (∀ i, i < j → ¬ ma_al (xv_U a) (xv_L a) (xv_T a) (xv_L a v) (m i)) → ∃ r : Int32, ((r = -1 ∧ ∀ j, j < M → ¬ ma_al (xv_U a) (xv_L a) (xv_T a) (xv_L a v) (m j)) ∨ (∃ ix, ix < M ∧ r = nI ix ∧ ma_al (xv_U a) (xv_L a) (xv_T a) (xv_L a v) (m ix) ∧ ∀ j, j < ix → ¬ ma_al (xv_U a) (xv_L a) (xv_T a) (xv_L a v) (m j))) ∧ ∀ post : Int32 → Prop, post r → wY_indexOf_2 post (nI v) g_trials g_drafted g_found b_s b_saved b_draft b_who b_met b_stack b_fresh b_deep b_alike b_meets (d + 1) (nI j) := by
    intro d
    induction d with
    | zero =>
      intro j hj h
      have ej : j = M := by omega
      refine ⟨-1, Or.inl ⟨rfl, by rw [← ej]; exact h⟩, fun post hp => ?_⟩
      rw [wY_indexOf_2]
      refine br_t ?_ hp
      rw [eM, ej]
      exact (nI_leI (by omega) (by omega)).mpr (Nat.le_refl _)
    | succ d ih =>
      intro j hj h
      obtain ⟨q, em, uq, eq⟩ := hm j (by omega)
      have q48 := uq.1
      have v48 := uv.1
      have c2 : ¬ g_found ≤ nI j := by
        rw [eM]
        exact fun z => by have := (nI_leI (by omega) (by omega)).mp z; omega
      by_cases z : ma_al (xv_U a) (xv_L a) (xv_T a) (xv_L a v) (m j)
      · refine ⟨nI j, Or.inr ⟨j, by omega, rfl, z, h⟩, fun post hp => ?_⟩
        rw [wY_indexOf_2]
        refine br_f c2 ?_
        simp (disch := omega) only [forall_eq, true_and, and_true, Nat.zero_add, nI_clamp, li_vin, nI_add, nI_eq, nI_leI, nI_ltI, li_0le, li_lt0, li_nn1, li_e0, not_true_eq_false, not_false_eq_true, false_implies, true_implies, forall_const, li_a0, li_b0, li_a1, li_b1, li_a2, li_b2, li_a3, li_b3, li_a7, li_b7, li_a8, li_b8, li_a16, li_b16, li_a48, li_b48, li_a584, li_b584, li_a572, li_b572, li_a96, li_b96, li_a144, li_b144, li_a192, li_b192, li_a240, li_b240, li_a336, li_b336, li_a384, li_b384, li_a432, li_b432, li_a480, li_b480, li_a488, li_b488, li_a496, li_b496, li_a504, li_b504, li_a512, li_b512, li_a520, li_b520, li_a524, li_b524, li_a528, li_b528, li_a536, li_b536, li_a544, li_b544, li_a552, li_b552, li_a560, li_b560, li_a568, li_b568, li_a573, li_b573, li_a585, li_b585, li_a633, li_b633, li_m3, li_n3, li_m4, li_n4, li_m48, li_n48, li_m50, li_n50, li_m585, li_n585, li_m633, li_n633, li_lt2, li_ge2, li_le2, li_gt2, li_lt1, li_ge1, li_le1, li_gt1, li_lt3, li_ge3, li_le3, li_gt3, li_lt4, li_ge4, li_le4, li_gt4, li_lt7, li_ge7, li_le7, li_gt7, li_lt8, li_ge8, li_le8, li_gt8, li_lt40, li_ge40, li_le40, li_gt40, li_lt240, li_ge240, li_le240, li_gt240, li_lt41, li_ge41, li_le41, li_gt41, li_lt48, li_ge48, li_le48, li_gt48, li_lt49, li_ge49, li_le49, li_gt49, li_lt60, li_ge60, li_le60, li_gt60, li_lt144, li_ge144, li_le144, li_gt144, li_lt145, li_ge145, li_le145, li_gt145, li_lt160, li_ge160, li_le160, li_gt160, li_lt336, li_ge336, li_le336, li_gt336, li_lt585, li_ge585, li_le585, li_gt585, li_lt633, li_ge633, li_le633, li_gt633, li_lt1000000, li_ge1000000, li_le1000000, li_gt1000000, li_lt2304, li_ge2304, li_le2304, li_gt2304, li_lt50, li_ge50, li_le50, li_gt50, li_le0, li_gt0, em]
        exact yw_areAlike (g_trials := g_trials) (g_drafted := g_drafted) (g_found := g_found) (b_s := b_s) (b_saved := b_saved) (b_draft := b_draft) (b_who := b_who) (b_met := b_met) (b_stack := b_stack) (b_fresh := b_fresh) (b_deep := b_deep) (b_alike := b_alike) (b_meets := b_meets) q48 v48 _ (fun _ => br_f (by decide) hp) (fun b => absurd (b.symm.trans ((iff j q uq eq).mpr z)) (by decide))
      · obtain ⟨r, h1, h2⟩ := ih (j + 1) (by omega) (lt_s h z)
        refine ⟨r, h1, fun post hp => ?_⟩
        rw [wY_indexOf_2]
        refine br_f c2 ?_
        simp (disch := omega) only [forall_eq, true_and, and_true, Nat.zero_add, nI_clamp, li_vin, nI_add, nI_eq, nI_leI, nI_ltI, li_0le, li_lt0, li_nn1, li_e0, not_true_eq_false, not_false_eq_true, false_implies, true_implies, forall_const, li_a0, li_b0, li_a1, li_b1, li_a2, li_b2, li_a3, li_b3, li_a7, li_b7, li_a8, li_b8, li_a16, li_b16, li_a48, li_b48, li_a584, li_b584, li_a572, li_b572, li_a96, li_b96, li_a144, li_b144, li_a192, li_b192, li_a240, li_b240, li_a336, li_b336, li_a384, li_b384, li_a432, li_b432, li_a480, li_b480, li_a488, li_b488, li_a496, li_b496, li_a504, li_b504, li_a512, li_b512, li_a520, li_b520, li_a524, li_b524, li_a528, li_b528, li_a536, li_b536, li_a544, li_b544, li_a552, li_b552, li_a560, li_b560, li_a568, li_b568, li_a573, li_b573, li_a585, li_b585, li_a633, li_b633, li_m3, li_n3, li_m4, li_n4, li_m48, li_n48, li_m50, li_n50, li_m585, li_n585, li_m633, li_n633, li_lt2, li_ge2, li_le2, li_gt2, li_lt1, li_ge1, li_le1, li_gt1, li_lt3, li_ge3, li_le3, li_gt3, li_lt4, li_ge4, li_le4, li_gt4, li_lt7, li_ge7, li_le7, li_gt7, li_lt8, li_ge8, li_le8, li_gt8, li_lt40, li_ge40, li_le40, li_gt40, li_lt240, li_ge240, li_le240, li_gt240, li_lt41, li_ge41, li_le41, li_gt41, li_lt48, li_ge48, li_le48, li_gt48, li_lt49, li_ge49, li_le49, li_gt49, li_lt60, li_ge60, li_le60, li_gt60, li_lt144, li_ge144, li_le144, li_gt144, li_lt145, li_ge145, li_le145, li_gt145, li_lt160, li_ge160, li_le160, li_gt160, li_lt336, li_ge336, li_le336, li_gt336, li_lt585, li_ge585, li_le585, li_gt585, li_lt633, li_ge633, li_le633, li_gt633, li_lt1000000, li_ge1000000, li_le1000000, li_gt1000000, li_lt2304, li_ge2304, li_le2304, li_gt2304, li_lt50, li_ge50, li_le50, li_gt50, li_le0, li_gt0, em]
        exact yw_areAlike (g_trials := g_trials) (g_drafted := g_drafted) (g_found := g_found) (b_s := b_s) (b_saved := b_saved) (b_draft := b_draft) (b_who := b_who) (b_met := b_met) (b_stack := b_stack) (b_fresh := b_fresh) (b_deep := b_deep) (b_alike := b_alike) (b_meets := b_meets) q48 v48 _ (fun b => absurd ((iff j q uq eq).mp b) z) (fun _ => br_t rfl (h2 post hp))
  obtain ⟨r, h1, h2⟩ := lp M 0 (by omega) (fun i hi => by omega)
  exact ⟨r, h1, fun post hp => ⟨_, h2 post hp⟩⟩
theorem yw_push_74 {g_trials g_drafted g_found : Int32} {b_s b_saved b_draft b_who b_met b_stack b_fresh b_deep : Nat → Int32} {b_alike b_meets : Nat → Int64} {w c : Nat} (hw : w < 48) (hc : c ≤ 3) (ec : b_s (192 + w) = nI c) : ∀ m top (b_stack : Nat → Int32), m ≤ 3 → top + m ≤ 160 → ∃ st : Nat → Int32, (∀ j, j < top → st j = b_stack j) ∧ (∀ k, k < mn_3 m c → st (top + (mn_3 m c - 1 - k)) = b_s (240 + 3 * w + k)) ∧ ∀ (post : SY → Prop) (J21 : Int32 → Int32 → (Nat → Int32) → (Nat → Int32) → (Nat → Int32) → (Nat → Int32) → (Nat → Int32) → (Nat → Int32) → (Nat → Int32) → (Nat → Int32) → (Nat → Int64) → (Nat → Int64) → Prop), J21 (nI (top + mn_3 m c)) g_found b_s b_saved b_draft b_who b_met st b_fresh b_deep b_alike b_meets → wY_gather_74 post J21 (nI w) g_trials g_drafted g_found (m + 1) (nI top) (nI m - 1) b_s b_saved b_draft b_who b_met b_stack b_fresh b_deep b_alike b_meets := by
  intro m
  induction m with
  | zero =>
    intro top st hm ht
    refine ⟨st, fun _ _ => rfl, fun k hk => by rw [mn_le (by omega)] at hk; omega, fun post J hp => ?_⟩
    rw [mn_le (by omega)] at hp
    rw [wY_gather_74]
    exact br_t pm_0 hp
  | succ m ih =>
    intro top st hm ht
    by_cases q : c ≤ m
    · obtain ⟨st', h1, h2, h3⟩ := ih top st (by omega) (by omega)
      rw [mn_ge q] at h2 h3
      refine ⟨st', h1, ?_, fun post J hp => ?_⟩
      · rw [mn_ge (by omega)]; exact h2
      · rw [mn_ge (by omega)] at hp
        have h3' := h3 post J hp
        rw [wY_gather_74]
        dsimp only
        rw [nI_pred]
        simp (disch := omega) only [forall_eq, true_and, and_true, Nat.zero_add, nI_clamp, li_vin, nI_add, nI_eq, nI_leI, nI_ltI, li_0le, li_lt0, li_nn1, li_e0, not_true_eq_false, not_false_eq_true, false_implies, true_implies, forall_const, li_a0, li_b0, li_a1, li_b1, li_a2, li_b2, li_a3, li_b3, li_a7, li_b7, li_a8, li_b8, li_a16, li_b16, li_a48, li_b48, li_a584, li_b584, li_a572, li_b572, li_a96, li_b96, li_a144, li_b144, li_a192, li_b192, li_a240, li_b240, li_a336, li_b336, li_a384, li_b384, li_a432, li_b432, li_a480, li_b480, li_a488, li_b488, li_a496, li_b496, li_a504, li_b504, li_a512, li_b512, li_a520, li_b520, li_a524, li_b524, li_a528, li_b528, li_a536, li_b536, li_a544, li_b544, li_a552, li_b552, li_a560, li_b560, li_a568, li_b568, li_a573, li_b573, li_a585, li_b585, li_a633, li_b633, li_m3, li_n3, li_m4, li_n4, li_m48, li_n48, li_m50, li_n50, li_m585, li_n585, li_m633, li_n633, li_lt2, li_ge2, li_le2, li_gt2, li_lt1, li_ge1, li_le1, li_gt1, li_lt3, li_ge3, li_le3, li_gt3, li_lt4, li_ge4, li_le4, li_gt4, li_lt7, li_ge7, li_le7, li_gt7, li_lt8, li_ge8, li_le8, li_gt8, li_lt40, li_ge40, li_le40, li_gt40, li_lt240, li_ge240, li_le240, li_gt240, li_lt41, li_ge41, li_le41, li_gt41, li_lt48, li_ge48, li_le48, li_gt48, li_lt49, li_ge49, li_le49, li_gt49, li_lt60, li_ge60, li_le60, li_gt60, li_lt144, li_ge144, li_le144, li_gt144, li_lt145, li_ge145, li_le145, li_gt145, li_lt160, li_ge160, li_le160, li_gt160, li_lt336, li_ge336, li_le336, li_gt336, li_lt585, li_ge585, li_le585, li_gt585, li_lt633, li_ge633, li_le633, li_gt633, li_lt1000000, li_ge1000000, li_le1000000, li_gt1000000, li_lt2304, li_ge2304, li_le2304, li_gt2304, li_lt50, li_ge50, li_le50, li_gt50, li_le0, li_gt0, ec, pm_1]
        exact ⟨fun _ => h3', fun z => absurd q z⟩
    · obtain ⟨st', h1, h2, h3⟩ := ih (top + 1) (upd st top (b_s (240 + 3 * w + m))) (by omega) (by omega)
      rw [mn_le (by omega)] at h2 h3
      refine ⟨st', ?_, ?_, fun post J hp => ?_⟩
      · intro j hj
        rw [h1 j (by omega), pk_un (by omega)]
      · rw [mn_le (by omega)]
        intro k hk
        by_cases z : k = m
        · rw [z, show top + (m + 1 - 1 - m) = top from by omega, h1 top (by omega), pk_us]
        · have := h2 k (by omega)
          rw [show top + 1 + (m - 1 - k) = top + (m + 1 - 1 - k) from by omega] at this
          exact this
      · rw [mn_le (by omega), show top + (m + 1) = top + 1 + m from by omega] at hp
        have h3' := h3 post J hp
        rw [wY_gather_74]
        dsimp only
        rw [nI_pred]
        simp (disch := omega) only [forall_eq, true_and, and_true, Nat.zero_add, nI_clamp, li_vin, nI_add, nI_eq, nI_leI, nI_ltI, li_0le, li_lt0, li_nn1, li_e0, not_true_eq_false, not_false_eq_true, false_implies, true_implies, forall_const, li_a0, li_b0, li_a1, li_b1, li_a2, li_b2, li_a3, li_b3, li_a7, li_b7, li_a8, li_b8, li_a16, li_b16, li_a48, li_b48, li_a584, li_b584, li_a572, li_b572, li_a96, li_b96, li_a144, li_b144, li_a192, li_b192, li_a240, li_b240, li_a336, li_b336, li_a384, li_b384, li_a432, li_b432, li_a480, li_b480, li_a488, li_b488, li_a496, li_b496, li_a504, li_b504, li_a512, li_b512, li_a520, li_b520, li_a524, li_b524, li_a528, li_b528, li_a536, li_b536, li_a544, li_b544, li_a552, li_b552, li_a560, li_b560, li_a568, li_b568, li_a573, li_b573, li_a585, li_b585, li_a633, li_b633, li_m3, li_n3, li_m4, li_n4, li_m48, li_n48, li_m50, li_n50, li_m585, li_n585, li_m633, li_n633, li_lt2, li_ge2, li_le2, li_gt2, li_lt1, li_ge1, li_le1, li_gt1, li_lt3, li_ge3, li_le3, li_gt3, li_lt4, li_ge4, li_le4, li_gt4, li_lt7, li_ge7, li_le7, li_gt7, li_lt8, li_ge8, li_le8, li_gt8, li_lt40, li_ge40, li_le40, li_gt40, li_lt240, li_ge240, li_le240, li_gt240, li_lt41, li_ge41, li_le41, li_gt41, li_lt48, li_ge48, li_le48, li_gt48, li_lt49, li_ge49, li_le49, li_gt49, li_lt60, li_ge60, li_le60, li_gt60, li_lt144, li_ge144, li_le144, li_gt144, li_lt145, li_ge145, li_le145, li_gt145, li_lt160, li_ge160, li_le160, li_gt160, li_lt336, li_ge336, li_le336, li_gt336, li_lt585, li_ge585, li_le585, li_gt585, li_lt633, li_ge633, li_le633, li_gt633, li_lt1000000, li_ge1000000, li_le1000000, li_gt1000000, li_lt2304, li_ge2304, li_le2304, li_gt2304, li_lt50, li_ge50, li_le50, li_gt50, li_le0, li_gt0, ec, pm_1]
        exact ⟨fun z => absurd z q, fun _ => h3'⟩
theorem ga_M1 {a : Nat → Int32} {x : Nat} {m : Nat → Nat} {M : Nat} {st : Nat → Nat} {top i c : Nat} {D : Nat → Prop} {ix : Nat → Nat} (g : xv_G a) (h : ga_I a x m M st top i D ix) (uc : xv_U a c) (hn : ∀ j, j < M → ¬ ma_al (xv_U a) (xv_L a) (xv_T a) c (m j)) : M < 48 := by
  obtain ⟨h1, h2, _⟩ := h
  have := ma_php 48 (M + 1) (fun j => if j = M then c else m j) (by
    intro j hj
    show (if j = M then c else m j) < 48
    by_cases q : j = M
    · rw [if_pos q]; exact uc.1
    · rw [if_neg q]; exact (h1 j (by omega)).1.1) (by
    intro j j' hj hj'
    show (if j = M then c else m j) ≠ (if j' = M then c else m j')
    rw [if_neg (show ¬ j = M from by omega)]
    by_cases q : j' = M
    · rw [if_pos q]
      intro e
      refine hn j (by omega) ?_
      rw [e]
      exact ma_al_rf g.2.1 uc uc rfl
    · rw [if_neg q]
      intro e
      refine h2 j j' hj (by omega) ?_
      rw [e]
      exact ma_al_rf g.2.1 (h1 j' (by omega)).1 (h1 j' (by omega)).1 rfl)
  omega
/-- how the rows of the two sides stand to the work of gathering -/
def ga_X (a st met metAs : Nat → Int32) (m : Nat → Nat) (M : Nat) (s : Nat → Nat) (top : Nat) (D : Nat → Prop) (ix : Nat → Nat) : Prop :=
  (∀ j, j < top → st j = nI (s j)) ∧ (∀ j, j < M → met j = nI (m j)) ∧ (∀ c, D c → metAs c = nI (ix c))
def ga_Y (a st met : Nat → Int32) (m : Nat → Nat) (M : Nat) (s : Nat → Nat) (top : Nat) : Prop :=
  (∀ j, j < top → ∃ q, st j = nI q ∧ xv_U a q ∧ xv_L a q = xv_L a (s j)) ∧ (∀ j, j < M → ∃ q, met j = nI q ∧ xv_U a q ∧ xv_L a q = m j)
theorem ga_loop {f_trials f_drafted f_pairs f_metCount f_meetingCount : Int32} {a_held a_saved a_draft a_toldBefore a_pairX a_pairY a_stack a_met a_metAs a_copies a_meetings a_wasMeeting a_firstMet a_depths a_isKept : Nat → Int32} {g_trials g_drafted g_found : Int32} {b_s b_saved b_draft b_who b_met b_stack b_fresh b_deep : Nat → Int32} {b_alike b_meets : Nat → Int64} {B x : Nat} (hr : re_P B a_held b_s) (hR : yr_R a_held b_s b_who b_alike) : ∀ d i top M (m s : Nat → Nat) (D : Nat → Prop) (ix : Nat → Nat) (f_pairs : Int32) (a_toldBefore a_pairX a_pairY a_stack a_met a_metAs b_stack b_met : Nat → Int32), i + d = 145 → ga_I a_held x m M s top i D ix → ga_X a_held a_stack a_met a_metAs m M s top D ix → ga_Y a_held b_stack b_met m M s top → ∃ (M' i' : Nat) (m' s' : Nat → Nat) (D' : Nat → Prop) (ix' : Nat → Nat) (fp : Int32) (tb px py st met metAs st2 met2 : Nat → Int32), ga_I a_held x m' M' s' 0 i' D' ix' ∧ ga_X a_held st met metAs m' M' s' 0 D' ix' ∧ ga_Y a_held st2 met2 m' M' s' 0 ∧ (∀ post : SX → Prop, post (f_trials, f_drafted, fp, nI M', f_meetingCount, a_held, a_saved, a_draft, tb, px, py, st, met, metAs, a_copies, a_meetings, a_wasMeeting, a_firstMet, a_depths, a_isKept) → wX_gather_16 post (d + 1) (nI top) (nI i) f_trials f_drafted f_pairs (nI M) f_meetingCount a_held a_saved a_draft a_toldBefore a_pairX a_pairY a_stack a_met a_metAs a_copies a_meetings a_wasMeeting a_firstMet a_depths a_isKept) ∧ (∀ post : SY → Prop, post (g_trials, g_drafted, nI M', b_s, b_saved, b_draft, b_who, met2, st2, b_fresh, b_deep, b_alike, b_meets) → wY_gather_21 post g_trials g_drafted (d + 1) (nI top) (nI M) b_s b_saved b_draft b_who b_met b_stack b_fresh b_deep b_alike b_meets) := by
  have g := re_G hr
  intro d
  induction d with
  | zero =>
    intro i top M m s D ix fp tb px py st met mA st2 met2 hd hI hX hY
    have hM := ga_M g hI
    have ht : top = 0 := by
      have := hI.2.2.2.1
      omega
    subst ht
    refine ⟨M, i, m, s, D, ix, fp, tb, px, py, st, met, mA, st2, met2, hI, hX, hY, fun post hp => ?_, fun post hp => ?_⟩
    · rw [wX_gather_16]
      exact br_t ((li_ge145 (by omega)).mpr (by omega)) hp
    · rw [wY_gather_21]
      exact br_t (by decide) hp
  | succ d ih =>
    intro i top M m s D ix fp tb px py st met mA st2 met2 hd hI hX hY
    have hM := ga_M g hI
    have i145 : ¬ (145 : Int32) ≤ nI i := fun z => by have := (li_ge145 (by omega)).mp z; omega
    cases top with
    | zero =>
      refine ⟨M, i, m, s, D, ix, fp, tb, px, py, st, met, mA, st2, met2, hI, hX, hY, fun post hp => ?_, fun post hp => ?_⟩
      · rw [wX_gather_16]
        exact br_f i145 (br_t (by decide) hp)
      · rw [wY_gather_21]
        exact br_t (by decide) hp
    | succ top =>
      obtain ⟨X1, X2, X3⟩ := hX
      obtain ⟨Y1, Y2⟩ := hY
      have it : i + (top + 1) ≤ 1 + 3 * M := hI.2.2.2.1
      have us := hI.2.2.1 top (by omega)
      have s48 := us.1
      have es := X1 top (by omega)
      obtain ⟨q, eq, uq, lq⟩ := Y1 top (by omega)
      have q48 := uq.1
      obtain ⟨eL, lL⟩ := xv_HL hr.1 s48
      have ws := g.2.1 _ us
      have hmU : ∀ j, j < M → xv_U a_held (m j) ∧ met j = nI (m j) := fun j hj => ⟨(hI.1 j hj).1, X2 j hj⟩
      obtain ⟨j0, m1, tb1, px1, py1, k1, k2, k3, k4⟩ := xw_metIndex (f_trials := f_trials) (f_drafted := f_drafted) (f_pairs := fp) (f_metCount := nI M) (f_meetingCount := f_meetingCount) (a_held := a_held) (a_saved := a_saved) (a_draft := a_draft) (a_toldBefore := tb) (a_pairX := px) (a_pairY := py) (a_stack := st) (a_met := met) (a_metAs := mA) (a_copies := a_copies) (a_meetings := a_meetings) (a_wasMeeting := a_wasMeeting) (a_firstMet := a_firstMet) (a_depths := a_depths) (a_isKept := a_isKept) g (c := xv_L a_held (s top)) (m := m) ws.2.1 hM rfl hmU
      obtain ⟨ry, r1, r2⟩ := yw_indexOf (g_trials := g_trials) (g_drafted := g_drafted) (g_found := nI M) (b_s := b_s) (b_saved := b_saved) (b_draft := b_draft) (b_who := b_who) (b_met := met2) (b_stack := st2) (b_fresh := b_fresh) (b_deep := b_deep) (b_alike := b_alike) (b_meets := b_meets) g.2.1 hR.2 uq hM rfl Y2
      rw [lq] at r1
      by_cases old : j0 < M
      · have al0 := k3 old
        have ery : ry = nI j0 := by
          rcases r1 with ⟨_, z⟩ | ⟨j1, z1, z2, z3, z4⟩
          · exact absurd al0 (z j0 old)
          · rcases Nat.lt_trichotomy j0 j1 with w | w | w
            · exact absurd al0 (z4 j0 w)
            · rw [z2, w]
            · exact absurd z3 (k2 j1 w)
        have hI' := ga_old (ix' := fun c => if c = xv_L a_held (s top) then j0 else ix c) g hI old al0 k2 (if_pos rfl) (fun c hc => if_neg hc)
        have hX' : ga_X a_held st met (upd mA (xv_L a_held (s top)) (nI j0)) m M s top (fun c => D c ∨ c = xv_L a_held (s top)) (fun c => if c = xv_L a_held (s top) then j0 else ix c) := by
          refine ⟨fun j hj => X1 j (by omega), X2, fun c hc => ?_⟩
          by_cases z : c = xv_L a_held (s top)
          · rw [z, pk_us]
            show nI j0 = nI (if xv_L a_held (s top) = xv_L a_held (s top) then j0 else ix _)
            rw [if_pos rfl]
          · rw [pk_un z]
            show mA c = nI (if c = xv_L a_held (s top) then j0 else ix c)
            rw [if_neg z]
            rcases hc with hc | hc
            · exact X3 c hc
            · exact absurd hc z
        obtain ⟨M', i', m', s', D', ix', fp', tb', px', py', st', met', mA', st2', met2', a1, a2, a3, a4, a5⟩ := ih (i + 1) top M m s _ _ m1 tb1 px1 py1 st met _ st2 met2 (by omega) hI' hX' ⟨fun j hj => Y1 j (by omega), Y2⟩
        refine ⟨M', i', m', s', D', ix', fp', tb', px', py', st', met', mA', st2', met2', a1, a2, a3, fun post hp => ?_, fun post hp => ?_⟩
        · rw [wX_gather_16]
          dsimp only
          refine br_f i145 ?_
          simp (disch := omega) only [forall_eq, true_and, and_true, Nat.zero_add, nI_clamp, li_vin, nI_add, nI_eq, nI_leI, nI_ltI, li_0le, li_lt0, li_nn1, li_e0, not_true_eq_false, not_false_eq_true, false_implies, true_implies, forall_const, li_a0, li_b0, li_a1, li_b1, li_a2, li_b2, li_a3, li_b3, li_a7, li_b7, li_a8, li_b8, li_a16, li_b16, li_a48, li_b48, li_a584, li_b584, li_a572, li_b572, li_a96, li_b96, li_a144, li_b144, li_a192, li_b192, li_a240, li_b240, li_a336, li_b336, li_a384, li_b384, li_a432, li_b432, li_a480, li_b480, li_a488, li_b488, li_a496, li_b496, li_a504, li_b504, li_a512, li_b512, li_a520, li_b520, li_a524, li_b524, li_a528, li_b528, li_a536, li_b536, li_a544, li_b544, li_a552, li_b552, li_a560, li_b560, li_a568, li_b568, li_a573, li_b573, li_a585, li_b585, li_a633, li_b633, li_m3, li_n3, li_m4, li_n4, li_m48, li_n48, li_m50, li_n50, li_m585, li_n585, li_m633, li_n633, li_lt2, li_ge2, li_le2, li_gt2, li_lt1, li_ge1, li_le1, li_gt1, li_lt3, li_ge3, li_le3, li_gt3, li_lt4, li_ge4, li_le4, li_gt4, li_lt7, li_ge7, li_le7, li_gt7, li_lt8, li_ge8, li_le8, li_gt8, li_lt40, li_ge40, li_le40, li_gt40, li_lt240, li_ge240, li_le240, li_gt240, li_lt41, li_ge41, li_le41, li_gt41, li_lt48, li_ge48, li_le48, li_gt48, li_lt49, li_ge49, li_le49, li_gt49, li_lt60, li_ge60, li_le60, li_gt60, li_lt144, li_ge144, li_le144, li_gt144, li_lt145, li_ge145, li_le145, li_gt145, li_lt160, li_ge160, li_le160, li_gt160, li_lt336, li_ge336, li_le336, li_gt336, li_lt585, li_ge585, li_le585, li_gt585, li_lt633, li_ge633, li_le633, li_gt633, li_lt1000000, li_ge1000000, li_le1000000, li_gt1000000, li_lt2304, li_ge2304, li_le2304, li_gt2304, li_lt50, li_ge50, li_le50, li_gt50, li_le0, li_gt0, pk_m1, es, eL]
          refine ⟨fun z => by omega, fun _ => k4 _ ?_⟩
          simp (disch := omega) only [forall_eq, true_and, and_true, Nat.zero_add, nI_clamp, li_vin, nI_add, nI_eq, nI_leI, nI_ltI, li_0le, li_lt0, li_nn1, li_e0, not_true_eq_false, not_false_eq_true, false_implies, true_implies, forall_const, li_a0, li_b0, li_a1, li_b1, li_a2, li_b2, li_a3, li_b3, li_a7, li_b7, li_a8, li_b8, li_a16, li_b16, li_a48, li_b48, li_a584, li_b584, li_a572, li_b572, li_a96, li_b96, li_a144, li_b144, li_a192, li_b192, li_a240, li_b240, li_a336, li_b336, li_a384, li_b384, li_a432, li_b432, li_a480, li_b480, li_a488, li_b488, li_a496, li_b496, li_a504, li_b504, li_a512, li_b512, li_a520, li_b520, li_a524, li_b524, li_a528, li_b528, li_a536, li_b536, li_a544, li_b544, li_a552, li_b552, li_a560, li_b560, li_a568, li_b568, li_a573, li_b573, li_a585, li_b585, li_a633, li_b633, li_m3, li_n3, li_m4, li_n4, li_m48, li_n48, li_m50, li_n50, li_m585, li_n585, li_m633, li_n633, li_lt2, li_ge2, li_le2, li_gt2, li_lt1, li_ge1, li_le1, li_gt1, li_lt3, li_ge3, li_le3, li_gt3, li_lt4, li_ge4, li_le4, li_gt4, li_lt7, li_ge7, li_le7, li_gt7, li_lt8, li_ge8, li_le8, li_gt8, li_lt40, li_ge40, li_le40, li_gt40, li_lt240, li_ge240, li_le240, li_gt240, li_lt41, li_ge41, li_le41, li_gt41, li_lt48, li_ge48, li_le48, li_gt48, li_lt49, li_ge49, li_le49, li_gt49, li_lt60, li_ge60, li_le60, li_gt60, li_lt144, li_ge144, li_le144, li_gt144, li_lt145, li_ge145, li_le145, li_gt145, li_lt160, li_ge160, li_le160, li_gt160, li_lt336, li_ge336, li_le336, li_gt336, li_lt585, li_ge585, li_le585, li_gt585, li_lt633, li_ge633, li_le633, li_gt633, li_lt1000000, li_ge1000000, li_le1000000, li_gt1000000, li_lt2304, li_ge2304, li_le2304, li_gt2304, li_lt50, li_ge50, li_le50, li_gt50, li_le0, li_gt0]
          exact ⟨fun z => absurd z (by omega), fun _ => a4 post hp⟩
        · rw [wY_gather_21]
          dsimp only
          simp (disch := omega) only [forall_eq, true_and, and_true, Nat.zero_add, nI_clamp, li_vin, nI_add, nI_eq, nI_leI, nI_ltI, li_0le, li_lt0, li_nn1, li_e0, not_true_eq_false, not_false_eq_true, false_implies, true_implies, forall_const, li_a0, li_b0, li_a1, li_b1, li_a2, li_b2, li_a3, li_b3, li_a7, li_b7, li_a8, li_b8, li_a16, li_b16, li_a48, li_b48, li_a584, li_b584, li_a572, li_b572, li_a96, li_b96, li_a144, li_b144, li_a192, li_b192, li_a240, li_b240, li_a336, li_b336, li_a384, li_b384, li_a432, li_b432, li_a480, li_b480, li_a488, li_b488, li_a496, li_b496, li_a504, li_b504, li_a512, li_b512, li_a520, li_b520, li_a524, li_b524, li_a528, li_b528, li_a536, li_b536, li_a544, li_b544, li_a552, li_b552, li_a560, li_b560, li_a568, li_b568, li_a573, li_b573, li_a585, li_b585, li_a633, li_b633, li_m3, li_n3, li_m4, li_n4, li_m48, li_n48, li_m50, li_n50, li_m585, li_n585, li_m633, li_n633, li_lt2, li_ge2, li_le2, li_gt2, li_lt1, li_ge1, li_le1, li_gt1, li_lt3, li_ge3, li_le3, li_gt3, li_lt4, li_ge4, li_le4, li_gt4, li_lt7, li_ge7, li_le7, li_gt7, li_lt8, li_ge8, li_le8, li_gt8, li_lt40, li_ge40, li_le40, li_gt40, li_lt240, li_ge240, li_le240, li_gt240, li_lt41, li_ge41, li_le41, li_gt41, li_lt48, li_ge48, li_le48, li_gt48, li_lt49, li_ge49, li_le49, li_gt49, li_lt60, li_ge60, li_le60, li_gt60, li_lt144, li_ge144, li_le144, li_gt144, li_lt145, li_ge145, li_le145, li_gt145, li_lt160, li_ge160, li_le160, li_gt160, li_lt336, li_ge336, li_le336, li_gt336, li_lt585, li_ge585, li_le585, li_gt585, li_lt633, li_ge633, li_le633, li_gt633, li_lt1000000, li_ge1000000, li_le1000000, li_gt1000000, li_lt2304, li_ge2304, li_le2304, li_gt2304, li_lt50, li_ge50, li_le50, li_gt50, li_le0, li_gt0, pk_m1, eq]
          refine ⟨fun z => by omega, fun _ => r2 _ ?_⟩
          rw [ery]
          exact br_f (nI_pos (by omega)) (a5 post hp)
      · have ej : j0 = M := by omega
        subst ej
        have ery : ry = -1 := by
          rcases r1 with ⟨z, _⟩ | ⟨j1, z1, z2, z3, z4⟩
          · exact z
          · exact absurd z3 (k2 j1 z1)
        have j48 := ga_M1 g hI ws.2.1 k2
        obtain ⟨stX, p1, p2, p3⟩ := xw_pushParts (f_trials := f_trials) (f_drafted := f_drafted) (f_pairs := m1) (f_metCount := nI (j0 + 1)) (f_meetingCount := f_meetingCount) (a_held := a_held) (a_saved := a_saved) (a_draft := a_draft) (a_toldBefore := tb1) (a_pairX := px1) (a_pairY := py1) (a_stack := st) (a_met := upd met j0 (nI (xv_L a_held (s top)))) (a_metAs := upd mA (xv_L a_held (s top)) (nI j0)) (a_copies := a_copies) (a_meetings := a_meetings) (a_wasMeeting := a_wasMeeting) (a_firstMet := a_firstMet) (a_depths := a_depths) (a_isKept := a_isKept) hr.1 (c := xv_L a_held (s top)) (top := top) lL (by omega)
        have ct3 := ma_ct_le (xv_K a_held (xv_L a_held (s top)))
        have UP : ∀ k, k < ma_ct (xv_K a_held (xv_L a_held (s top))) → xv_U a_held (xv_P a_held (xv_L a_held (s top)) k) := by
          intro k hk
          refine g.2.2 _ ⟨ws.2.1, ws.2.2.1, fun z => ?_⟩ k hk
          rw [z, ma_ct_0] at hk
          omega
        have pS : ∀ k, k < ma_ct (xv_K a_held (xv_L a_held (s top))) → xm_p stX (top + (ma_ct (xv_K a_held (xv_L a_held (s top))) - 1 - k)) = xv_P a_held (xv_L a_held (s top)) k := fun k hk => xm_p_nI (p2 k hk) (UP k hk).1
        have hI' := ga_new (m' := fun j => if j = j0 then xv_L a_held (s top) else m j) (ix' := fun c => if c = xv_L a_held (s top) then j0 else ix c) (st' := xm_p stX) g hI k2 (if_pos rfl) (fun c hc => if_neg hc) (if_pos rfl) (fun j hj => if_neg (by omega)) (fun j hj => by
          unfold xm_p
          rw [p1 j hj, X1 j (by omega), nI_clamp (by have := (hI.2.2.1 j (by omega)).1; omega)]) (fun k hk => by
          rw [pS k hk]; exact ⟨rfl, UP k hk⟩)
        have hM1 := ga_M g hI'
        have hX' : ga_X a_held stX (upd met j0 (nI (xv_L a_held (s top)))) (upd mA (xv_L a_held (s top)) (nI j0)) (fun j => if j = j0 then xv_L a_held (s top) else m j) (j0 + 1) (xm_p stX) (top + ma_ct (xv_K a_held (xv_L a_held (s top)))) (fun c => D c ∨ c = xv_L a_held (s top)) (fun c => if c = xv_L a_held (s top) then j0 else ix c) := by
          refine ⟨fun j hj => ?_, fun j hj => ?_, fun c hc => ?_⟩
          · by_cases z : j < top
            · rw [p1 j z]
              unfold xm_p
              rw [p1 j z, X1 j (by omega), nI_clamp (by have := (hI.2.2.1 j (by omega)).1; omega)]
            · have h2 := p2 (ma_ct (xv_K a_held (xv_L a_held (s top))) - 1 - (j - top)) (by omega)
              have h3 := pS (ma_ct (xv_K a_held (xv_L a_held (s top))) - 1 - (j - top)) (by omega)
              rw [show top + (ma_ct (xv_K a_held (xv_L a_held (s top))) - 1 - (ma_ct (xv_K a_held (xv_L a_held (s top))) - 1 - (j - top))) = j from by omega] at h2 h3
              rw [h2, h3]
          · by_cases z : j = j0
            · rw [z, pk_us]
              show _ = nI (if j0 = j0 then xv_L a_held (s top) else m j0)
              rw [if_pos rfl]
            · rw [pk_un z]
              show met j = nI (if j = j0 then xv_L a_held (s top) else m j)
              rw [if_neg z]; exact X2 j (by omega)
          · by_cases z : c = xv_L a_held (s top)
            · rw [z, pk_us]
              show nI j0 = nI (if xv_L a_held (s top) = xv_L a_held (s top) then j0 else ix _)
              rw [if_pos rfl]
            · rw [pk_un z]
              show mA c = nI (if c = xv_L a_held (s top) then j0 else ix c)
              rw [if_neg z]
              rcases hc with hc | hc
              · exact X3 c hc
              · exact absurd hc z
        have topX : ∀ (post : SX → Prop) (n : Nat), wX_gather_16 post n (nI (top + ma_ct (xv_K a_held (xv_L a_held (s top))))) (nI (i + 1)) f_trials f_drafted m1 (nI (j0 + 1)) f_meetingCount a_held a_saved a_draft tb1 px1 py1 stX (upd met j0 (nI (xv_L a_held (s top)))) (upd mA (xv_L a_held (s top)) (nI j0)) a_copies a_meetings a_wasMeeting a_firstMet a_depths a_isKept → wX_gather_16 post (n + 1) (nI (top + 1)) (nI i) f_trials f_drafted fp (nI j0) f_meetingCount a_held a_saved a_draft tb px py st met mA a_copies a_meetings a_wasMeeting a_firstMet a_depths a_isKept := by
          intro post n hp
          rw [wX_gather_16]
          dsimp only
          refine br_f i145 ?_
          simp (disch := omega) only [forall_eq, true_and, and_true, Nat.zero_add, nI_clamp, li_vin, nI_add, nI_eq, nI_leI, nI_ltI, li_0le, li_lt0, li_nn1, li_e0, not_true_eq_false, not_false_eq_true, false_implies, true_implies, forall_const, li_a0, li_b0, li_a1, li_b1, li_a2, li_b2, li_a3, li_b3, li_a7, li_b7, li_a8, li_b8, li_a16, li_b16, li_a48, li_b48, li_a584, li_b584, li_a572, li_b572, li_a96, li_b96, li_a144, li_b144, li_a192, li_b192, li_a240, li_b240, li_a336, li_b336, li_a384, li_b384, li_a432, li_b432, li_a480, li_b480, li_a488, li_b488, li_a496, li_b496, li_a504, li_b504, li_a512, li_b512, li_a520, li_b520, li_a524, li_b524, li_a528, li_b528, li_a536, li_b536, li_a544, li_b544, li_a552, li_b552, li_a560, li_b560, li_a568, li_b568, li_a573, li_b573, li_a585, li_b585, li_a633, li_b633, li_m3, li_n3, li_m4, li_n4, li_m48, li_n48, li_m50, li_n50, li_m585, li_n585, li_m633, li_n633, li_lt2, li_ge2, li_le2, li_gt2, li_lt1, li_ge1, li_le1, li_gt1, li_lt3, li_ge3, li_le3, li_gt3, li_lt4, li_ge4, li_le4, li_gt4, li_lt7, li_ge7, li_le7, li_gt7, li_lt8, li_ge8, li_le8, li_gt8, li_lt40, li_ge40, li_le40, li_gt40, li_lt240, li_ge240, li_le240, li_gt240, li_lt41, li_ge41, li_le41, li_gt41, li_lt48, li_ge48, li_le48, li_gt48, li_lt49, li_ge49, li_le49, li_gt49, li_lt60, li_ge60, li_le60, li_gt60, li_lt144, li_ge144, li_le144, li_gt144, li_lt145, li_ge145, li_le145, li_gt145, li_lt160, li_ge160, li_le160, li_gt160, li_lt336, li_ge336, li_le336, li_gt336, li_lt585, li_ge585, li_le585, li_gt585, li_lt633, li_ge633, li_le633, li_gt633, li_lt1000000, li_ge1000000, li_le1000000, li_gt1000000, li_lt2304, li_ge2304, li_le2304, li_gt2304, li_lt50, li_ge50, li_le50, li_gt50, li_le0, li_gt0, pk_m1, es, eL]
          refine ⟨fun z => by omega, fun _ => k4 _ ?_⟩
          simp (disch := omega) only [forall_eq, true_and, and_true, Nat.zero_add, nI_clamp, li_vin, nI_add, nI_eq, nI_leI, nI_ltI, li_0le, li_lt0, li_nn1, li_e0, not_true_eq_false, not_false_eq_true, false_implies, true_implies, forall_const, li_a0, li_b0, li_a1, li_b1, li_a2, li_b2, li_a3, li_b3, li_a7, li_b7, li_a8, li_b8, li_a16, li_b16, li_a48, li_b48, li_a584, li_b584, li_a572, li_b572, li_a96, li_b96, li_a144, li_b144, li_a192, li_b192, li_a240, li_b240, li_a336, li_b336, li_a384, li_b384, li_a432, li_b432, li_a480, li_b480, li_a488, li_b488, li_a496, li_b496, li_a504, li_b504, li_a512, li_b512, li_a520, li_b520, li_a524, li_b524, li_a528, li_b528, li_a536, li_b536, li_a544, li_b544, li_a552, li_b552, li_a560, li_b560, li_a568, li_b568, li_a573, li_b573, li_a585, li_b585, li_a633, li_b633, li_m3, li_n3, li_m4, li_n4, li_m48, li_n48, li_m50, li_n50, li_m585, li_n585, li_m633, li_n633, li_lt2, li_ge2, li_le2, li_gt2, li_lt1, li_ge1, li_le1, li_gt1, li_lt3, li_ge3, li_le3, li_gt3, li_lt4, li_ge4, li_le4, li_gt4, li_lt7, li_ge7, li_le7, li_gt7, li_lt8, li_ge8, li_le8, li_gt8, li_lt40, li_ge40, li_le40, li_gt40, li_lt240, li_ge240, li_le240, li_gt240, li_lt41, li_ge41, li_le41, li_gt41, li_lt48, li_ge48, li_le48, li_gt48, li_lt49, li_ge49, li_le49, li_gt49, li_lt60, li_ge60, li_le60, li_gt60, li_lt144, li_ge144, li_le144, li_gt144, li_lt145, li_ge145, li_le145, li_gt145, li_lt160, li_ge160, li_le160, li_gt160, li_lt336, li_ge336, li_le336, li_gt336, li_lt585, li_ge585, li_le585, li_gt585, li_lt633, li_ge633, li_le633, li_gt633, li_lt1000000, li_ge1000000, li_le1000000, li_gt1000000, li_lt2304, li_ge2304, li_le2304, li_gt2304, li_lt50, li_ge50, li_le50, li_gt50, li_le0, li_gt0]
          exact ⟨fun z => by omega, fun _ => p3 _ hp⟩
        have mY : ∀ j, j < j0 + 1 → ∃ q', upd met2 j0 (nI q) j = nI q' ∧ xv_U a_held q' ∧ xv_L a_held q' = (fun j => if j = j0 then xv_L a_held (s top) else m j) j := by
          intro j hj
          by_cases z : j = j0
          · rw [z, pk_us]
            refine ⟨q, rfl, uq, ?_⟩
            show _ = (if j0 = j0 then xv_L a_held (s top) else m j0)
            rw [if_pos rfl]; exact lq
          · rw [pk_un z]
            show ∃ q', met2 j = nI q' ∧ xv_U a_held q' ∧ xv_L a_held q' = (if j = j0 then xv_L a_held (s top) else m j)
            rw [if_neg z]; exact Y2 j (by omega)
        obtain ⟨n, n1, n2, n3⟩ := hR.1
        rcases yr_hw hr n1 n2 n3 uq with ⟨k0, wq⟩ | ⟨k0, w, w48, wq, tw, lw⟩
        · rw [lq] at k0
          have c0 : ma_ct (xv_K a_held (xv_L a_held (s top))) = 0 := by rw [k0]; exact ma_ct_0
          obtain ⟨M', i', m', s', D', ix', fp', tb', px', py', st', met', mA', st2', met2', a1, a2, a3, a4, a5⟩ := ih (i + 1) _ (j0 + 1) _ _ _ _ m1 tb1 px1 py1 stX _ _ st2 (upd met2 j0 (nI q)) (by omega) hI' hX' ⟨by
            intro j hj
            rw [c0] at hj
            obtain ⟨q', z1, z2, z3⟩ := Y1 j (by omega)
            refine ⟨q', z1, z2, ?_⟩
            unfold xm_p
            rw [z3, p1 j (by omega), X1 j (by omega), nI_clamp (by have := (hI.2.2.1 j (by omega)).1; omega)], mY⟩
          refine ⟨M', i', m', s', D', ix', fp', tb', px', py', st', met', mA', st2', met2', a1, a2, a3, fun post hp => topX post _ (a4 post hp), fun post hp => ?_⟩
          have a5' := a5 post hp
          rw [c0] at a5'
          rw [wY_gather_21]
          dsimp only
          simp (disch := omega) only [forall_eq, true_and, and_true, Nat.zero_add, nI_clamp, li_vin, nI_add, nI_eq, nI_leI, nI_ltI, li_0le, li_lt0, li_nn1, li_e0, not_true_eq_false, not_false_eq_true, false_implies, true_implies, forall_const, li_a0, li_b0, li_a1, li_b1, li_a2, li_b2, li_a3, li_b3, li_a7, li_b7, li_a8, li_b8, li_a16, li_b16, li_a48, li_b48, li_a584, li_b584, li_a572, li_b572, li_a96, li_b96, li_a144, li_b144, li_a192, li_b192, li_a240, li_b240, li_a336, li_b336, li_a384, li_b384, li_a432, li_b432, li_a480, li_b480, li_a488, li_b488, li_a496, li_b496, li_a504, li_b504, li_a512, li_b512, li_a520, li_b520, li_a524, li_b524, li_a528, li_b528, li_a536, li_b536, li_a544, li_b544, li_a552, li_b552, li_a560, li_b560, li_a568, li_b568, li_a573, li_b573, li_a585, li_b585, li_a633, li_b633, li_m3, li_n3, li_m4, li_n4, li_m48, li_n48, li_m50, li_n50, li_m585, li_n585, li_m633, li_n633, li_lt2, li_ge2, li_le2, li_gt2, li_lt1, li_ge1, li_le1, li_gt1, li_lt3, li_ge3, li_le3, li_gt3, li_lt4, li_ge4, li_le4, li_gt4, li_lt7, li_ge7, li_le7, li_gt7, li_lt8, li_ge8, li_le8, li_gt8, li_lt40, li_ge40, li_le40, li_gt40, li_lt240, li_ge240, li_le240, li_gt240, li_lt41, li_ge41, li_le41, li_gt41, li_lt48, li_ge48, li_le48, li_gt48, li_lt49, li_ge49, li_le49, li_gt49, li_lt60, li_ge60, li_le60, li_gt60, li_lt144, li_ge144, li_le144, li_gt144, li_lt145, li_ge145, li_le145, li_gt145, li_lt160, li_ge160, li_le160, li_gt160, li_lt336, li_ge336, li_le336, li_gt336, li_lt585, li_ge585, li_le585, li_gt585, li_lt633, li_ge633, li_le633, li_gt633, li_lt1000000, li_ge1000000, li_le1000000, li_gt1000000, li_lt2304, li_ge2304, li_le2304, li_gt2304, li_lt50, li_ge50, li_le50, li_gt50, li_le0, li_gt0, pk_m1, eq]
          refine ⟨fun z => by omega, fun _ => r2 _ ?_⟩
          rw [ery]
          refine br_t (by decide) ?_
          simp (disch := omega) only [forall_eq, true_and, and_true, Nat.zero_add, nI_clamp, li_vin, nI_add, nI_eq, nI_leI, nI_ltI, li_0le, li_lt0, li_nn1, li_e0, not_true_eq_false, not_false_eq_true, false_implies, true_implies, forall_const, li_a0, li_b0, li_a1, li_b1, li_a2, li_b2, li_a3, li_b3, li_a7, li_b7, li_a8, li_b8, li_a16, li_b16, li_a48, li_b48, li_a584, li_b584, li_a572, li_b572, li_a96, li_b96, li_a144, li_b144, li_a192, li_b192, li_a240, li_b240, li_a336, li_b336, li_a384, li_b384, li_a432, li_b432, li_a480, li_b480, li_a488, li_b488, li_a496, li_b496, li_a504, li_b504, li_a512, li_b512, li_a520, li_b520, li_a524, li_b524, li_a528, li_b528, li_a536, li_b536, li_a544, li_b544, li_a552, li_b552, li_a560, li_b560, li_a568, li_b568, li_a573, li_b573, li_a585, li_b585, li_a633, li_b633, li_m3, li_n3, li_m4, li_n4, li_m48, li_n48, li_m50, li_n50, li_m585, li_n585, li_m633, li_n633, li_lt2, li_ge2, li_le2, li_gt2, li_lt1, li_ge1, li_le1, li_gt1, li_lt3, li_ge3, li_le3, li_gt3, li_lt4, li_ge4, li_le4, li_gt4, li_lt7, li_ge7, li_le7, li_gt7, li_lt8, li_ge8, li_le8, li_gt8, li_lt40, li_ge40, li_le40, li_gt40, li_lt240, li_ge240, li_le240, li_gt240, li_lt41, li_ge41, li_le41, li_gt41, li_lt48, li_ge48, li_le48, li_gt48, li_lt49, li_ge49, li_le49, li_gt49, li_lt60, li_ge60, li_le60, li_gt60, li_lt144, li_ge144, li_le144, li_gt144, li_lt145, li_ge145, li_le145, li_gt145, li_lt160, li_ge160, li_le160, li_gt160, li_lt336, li_ge336, li_le336, li_gt336, li_lt585, li_ge585, li_le585, li_gt585, li_lt633, li_ge633, li_le633, li_gt633, li_lt1000000, li_ge1000000, li_le1000000, li_gt1000000, li_lt2304, li_ge2304, li_le2304, li_gt2304, li_lt50, li_ge50, li_le50, li_gt50, li_le0, li_gt0, wq]
          refine ⟨1, ?_⟩
          rw [wY_gather_74]
          exact br_f (by decide) (br_t (by decide) a5')
        · rw [lq] at k0 lw
          obtain ⟨_, y0, yk, yv, yc, yp⟩ := yr_xy hr tw lw
          obtain ⟨stY, z1, z2, z3⟩ := yw_push_74 (g_trials := g_trials) (g_drafted := g_drafted) (g_found := nI (j0 + 1)) (b_s := b_s) (b_saved := b_saved) (b_draft := b_draft) (b_who := b_who) (b_met := upd met2 j0 (nI q)) (b_stack := b_stack) (b_fresh := b_fresh) (b_deep := b_deep) (b_alike := b_alike) (b_meets := b_meets) w48 ct3 yc 3 top st2 (by omega) (by omega)
          rw [mn_ge ct3] at z2 z3
          obtain ⟨M', i', m', s', D', ix', fp', tb', px', py', st', met', mA', st2', met2', a1, a2, a3, a4, a5⟩ := ih (i + 1) _ (j0 + 1) _ _ _ _ m1 tb1 px1 py1 stX _ _ stY (upd met2 j0 (nI q)) (by omega) hI' hX' ⟨by
            intro j hj
            by_cases z : j < top
            · rw [z1 j z]
              obtain ⟨q', w1, w2, w3⟩ := Y1 j (by omega)
              refine ⟨q', w1, w2, ?_⟩
              unfold xm_p
              rw [w3, p1 j z, X1 j (by omega), nI_clamp (by have := (hI.2.2.1 j (by omega)).1; omega)]
            · have h2 := z2 (ma_ct (xv_K a_held (xv_L a_held (s top))) - 1 - (j - top)) (by omega)
              have h3 := pS (ma_ct (xv_K a_held (xv_L a_held (s top))) - 1 - (j - top)) (by omega)
              rw [show top + (ma_ct (xv_K a_held (xv_L a_held (s top))) - 1 - (ma_ct (xv_K a_held (xv_L a_held (s top))) - 1 - (j - top))) = j from by omega] at h2 h3
              obtain ⟨qq, w1, w2, w3⟩ := yp (ma_ct (xv_K a_held (xv_L a_held (s top))) - 1 - (j - top)) (by omega)
              exact ⟨qq, by rw [h2]; exact w1, w2, by rw [h3]; exact w3⟩, mY⟩
          refine ⟨M', i', m', s', D', ix', fp', tb', px', py', st', met', mA', st2', met2', a1, a2, a3, fun post hp => topX post _ (a4 post hp), fun post hp => ?_⟩
          rw [wY_gather_21]
          dsimp only
          simp (disch := omega) only [forall_eq, true_and, and_true, Nat.zero_add, nI_clamp, li_vin, nI_add, nI_eq, nI_leI, nI_ltI, li_0le, li_lt0, li_nn1, li_e0, not_true_eq_false, not_false_eq_true, false_implies, true_implies, forall_const, li_a0, li_b0, li_a1, li_b1, li_a2, li_b2, li_a3, li_b3, li_a7, li_b7, li_a8, li_b8, li_a16, li_b16, li_a48, li_b48, li_a584, li_b584, li_a572, li_b572, li_a96, li_b96, li_a144, li_b144, li_a192, li_b192, li_a240, li_b240, li_a336, li_b336, li_a384, li_b384, li_a432, li_b432, li_a480, li_b480, li_a488, li_b488, li_a496, li_b496, li_a504, li_b504, li_a512, li_b512, li_a520, li_b520, li_a524, li_b524, li_a528, li_b528, li_a536, li_b536, li_a544, li_b544, li_a552, li_b552, li_a560, li_b560, li_a568, li_b568, li_a573, li_b573, li_a585, li_b585, li_a633, li_b633, li_m3, li_n3, li_m4, li_n4, li_m48, li_n48, li_m50, li_n50, li_m585, li_n585, li_m633, li_n633, li_lt2, li_ge2, li_le2, li_gt2, li_lt1, li_ge1, li_le1, li_gt1, li_lt3, li_ge3, li_le3, li_gt3, li_lt4, li_ge4, li_le4, li_gt4, li_lt7, li_ge7, li_le7, li_gt7, li_lt8, li_ge8, li_le8, li_gt8, li_lt40, li_ge40, li_le40, li_gt40, li_lt240, li_ge240, li_le240, li_gt240, li_lt41, li_ge41, li_le41, li_gt41, li_lt48, li_ge48, li_le48, li_gt48, li_lt49, li_ge49, li_le49, li_gt49, li_lt60, li_ge60, li_le60, li_gt60, li_lt144, li_ge144, li_le144, li_gt144, li_lt145, li_ge145, li_le145, li_gt145, li_lt160, li_ge160, li_le160, li_gt160, li_lt336, li_ge336, li_le336, li_gt336, li_lt585, li_ge585, li_le585, li_gt585, li_lt633, li_ge633, li_le633, li_gt633, li_lt1000000, li_ge1000000, li_le1000000, li_gt1000000, li_lt2304, li_ge2304, li_le2304, li_gt2304, li_lt50, li_ge50, li_le50, li_gt50, li_le0, li_gt0, pk_m1, eq]
          refine ⟨fun z => by omega, fun _ => r2 _ ?_⟩
          rw [ery]
          refine br_t (by decide) ?_
          simp (disch := omega) only [forall_eq, true_and, and_true, Nat.zero_add, nI_clamp, li_vin, nI_add, nI_eq, nI_leI, nI_ltI, li_0le, li_lt0, li_nn1, li_e0, not_true_eq_false, not_false_eq_true, false_implies, true_implies, forall_const, li_a0, li_b0, li_a1, li_b1, li_a2, li_b2, li_a3, li_b3, li_a7, li_b7, li_a8, li_b8, li_a16, li_b16, li_a48, li_b48, li_a584, li_b584, li_a572, li_b572, li_a96, li_b96, li_a144, li_b144, li_a192, li_b192, li_a240, li_b240, li_a336, li_b336, li_a384, li_b384, li_a432, li_b432, li_a480, li_b480, li_a488, li_b488, li_a496, li_b496, li_a504, li_b504, li_a512, li_b512, li_a520, li_b520, li_a524, li_b524, li_a528, li_b528, li_a536, li_b536, li_a544, li_b544, li_a552, li_b552, li_a560, li_b560, li_a568, li_b568, li_a573, li_b573, li_a585, li_b585, li_a633, li_b633, li_m3, li_n3, li_m4, li_n4, li_m48, li_n48, li_m50, li_n50, li_m585, li_n585, li_m633, li_n633, li_lt2, li_ge2, li_le2, li_gt2, li_lt1, li_ge1, li_le1, li_gt1, li_lt3, li_ge3, li_le3, li_gt3, li_lt4, li_ge4, li_le4, li_gt4, li_lt7, li_ge7, li_le7, li_gt7, li_lt8, li_ge8, li_le8, li_gt8, li_lt40, li_ge40, li_le40, li_gt40, li_lt240, li_ge240, li_le240, li_gt240, li_lt41, li_ge41, li_le41, li_gt41, li_lt48, li_ge48, li_le48, li_gt48, li_lt49, li_ge49, li_le49, li_gt49, li_lt60, li_ge60, li_le60, li_gt60, li_lt144, li_ge144, li_le144, li_gt144, li_lt145, li_ge145, li_le145, li_gt145, li_lt160, li_ge160, li_le160, li_gt160, li_lt336, li_ge336, li_le336, li_gt336, li_lt585, li_ge585, li_le585, li_gt585, li_lt633, li_ge633, li_le633, li_gt633, li_lt1000000, li_ge1000000, li_le1000000, li_gt1000000, li_lt2304, li_ge2304, li_le2304, li_gt2304, li_lt50, li_ge50, li_le50, li_gt50, li_le0, li_gt0, wq]
          exact ⟨_, z3 post _ (a5 post hp)⟩
