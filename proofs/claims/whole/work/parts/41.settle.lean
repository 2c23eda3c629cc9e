def tc_8 (a : Nat → Int32) : Nat := ma_cnt (fun k => decide (¬ a (504 + k) = -1)) 8
theorem tc_le (a : Nat → Int32) : tc_8 a ≤ 8 := ma_cnt_le _ _
theorem tc_lt {a a' : Nat → Int32} {k x : Nat} (hk : k < 8) (hx : x < 48) (e : a (504 + k) = nI x) (e' : a' (504 + k) = -1) (o : ∀ j, j < 8 → j ≠ k → a' (504 + j) = a (504 + j)) : tc_8 a' < tc_8 a := by
  refine ma_cnt_lt 8 ?_ ⟨k, hk, ?_, ?_⟩
  · intro j hj h
    have h1 : ¬ a' (504 + j) = -1 := of_decide_eq_true h
    by_cases q : j = k
    · rw [q] at h1; exact absurd e' h1
    · rw [o j hj q] at h1; exact decide_eq_true h1
  · refine decide_eq_true (fun z => ?_)
    rw [e] at z
    exact (li_nn1 (by omega)).mp z
  · intro h
    have h1 : ¬ a' (504 + k) = -1 := of_decide_eq_true h
    exact h1 e'
/-- a round of settling -/
theorem st_round {f_trials f_drafted f_pairs f_metCount f_meetingCount : Int32} {a_held a_saved a_draft a_toldBefore a_pairX a_pairY a_stack a_met a_metAs a_copies a_meetings a_wasMeeting a_firstMet a_depths a_isKept : Nat → Int32} {g_trials g_drafted g_found : Int32} {b_s b_saved b_draft b_who b_met b_stack b_fresh b_deep : Nat → Int32} {b_alike b_meets : Nat → Int64} {B rd : Nat} (hB : B + 9 < 1000000) (hrd : rd ≤ 8) (hr : re_P B a_held b_s) :
    (∃ (m' : Int32) (a' tb px py s' wh : Nat → Int32) (al : Nat → Int64), re_C (B + 8) a' s' ∧ (∀ (post : SX → Prop) (n : Nat), post (f_trials, f_drafted, m', f_metCount, f_meetingCount, a', a_saved, a_draft, tb, px, py, a_stack, a_met, a_metAs, a_copies, a_meetings, a_wasMeeting, a_firstMet, a_depths, a_isKept) → wX_settle_2 post (n + 1) (nI rd) f_trials f_drafted f_pairs f_metCount f_meetingCount a_held a_saved a_draft a_toldBefore a_pairX a_pairY a_stack a_met a_metAs a_copies a_meetings a_wasMeeting a_firstMet a_depths a_isKept) ∧ (∀ (post : SY → Prop) (n : Nat), post (g_trials, g_drafted, g_found, s', b_saved, b_draft, wh, b_met, b_stack, b_fresh, b_deep, al, b_meets) → wY_settle_51 post (n + 1) 1 g_trials g_drafted g_found b_s b_saved b_draft b_who b_met b_stack b_fresh b_deep b_alike b_meets)) ∨
    (∃ (m' : Int32) (a' tb px py s' wh : Nat → Int32) (al : Nat → Int64), re_P (B + 9) a' s' ∧ tc_8 a' < tc_8 a_held ∧ (∀ (post : SX → Prop) (n : Nat), wX_settle_2 post n (nI (rd + 1)) f_trials f_drafted m' f_metCount f_meetingCount a' a_saved a_draft tb px py a_stack a_met a_metAs a_copies a_meetings a_wasMeeting a_firstMet a_depths a_isKept → wX_settle_2 post (n + 1) (nI rd) f_trials f_drafted f_pairs f_metCount f_meetingCount a_held a_saved a_draft a_toldBefore a_pairX a_pairY a_stack a_met a_metAs a_copies a_meetings a_wasMeeting a_firstMet a_depths a_isKept) ∧ (∀ (post : SY → Prop) (n : Nat), wY_settle_51 post n 1 g_trials g_drafted g_found s' b_saved b_draft wh b_met b_stack b_fresh b_deep al b_meets → wY_settle_51 post (n + 1) 1 g_trials g_drafted g_found b_s b_saved b_draft b_who b_met b_stack b_fresh b_deep b_alike b_meets)) := by
  have nlt : ¬ (8 : Int32) < nI rd := fun q => by have := (li_gt8 (by omega)).mp q; omega
  obtain ⟨wh, al, hR, rY⟩ := yw_relate (g_trials := g_trials) (g_drafted := g_drafted) (g_found := g_found) (b_s := b_s) (b_saved := b_saved) (b_draft := b_draft) (b_who := b_who) (b_met := b_met) (b_stack := b_stack) (b_fresh := b_fresh) (b_deep := b_deep) (b_alike := b_alike) (b_meets := b_meets) hr
  obtain ⟨m1, a1, tb1, px1, py1, s1, b1, b2, b3, b4, b5, b6⟩ := st_tests (f_trials := f_trials) (f_drafted := f_drafted) (f_pairs := f_pairs) (f_metCount := f_metCount) (f_meetingCount := f_meetingCount) (a_held := a_held) (a_saved := a_saved) (a_draft := a_draft) (a_toldBefore := a_toldBefore) (a_pairX := a_pairX) (a_pairY := a_pairY) (a_stack := a_stack) (a_met := a_met) (a_metAs := a_metAs) (a_copies := a_copies) (a_meetings := a_meetings) (a_wasMeeting := a_wasMeeting) (a_firstMet := a_firstMet) (a_depths := a_depths) (a_isKept := a_isKept) (g_trials := g_trials) (g_drafted := g_drafted) (g_found := g_found) (b_s := b_s) (b_saved := b_saved) (b_draft := b_draft) (b_who := wh) (b_met := b_met) (b_stack := b_stack) (b_fresh := b_fresh) (b_deep := b_deep) (b_alike := al) (b_meets := b_meets) 8 0 B f_pairs a_held a_toldBefore a_pairX a_pairY b_s rfl (by omega) hr hR (fun j hj => by omega)
  have N := b1.2.2.2.2.2
  have xH := b1.1
  have hT := re_NT N
  have hG := re_NG N
  obtain ⟨rv, v1, vX⟩ := xw_triggerWithValue (f_trials := f_trials) (f_drafted := f_drafted) (f_pairs := m1) (f_metCount := f_metCount) (f_meetingCount := f_meetingCount) (a_held := a1) (a_saved := a_saved) (a_draft := a_draft) (a_toldBefore := tb1) (a_pairX := px1) (a_pairY := py1) (a_stack := a_stack) (a_met := a_met) (a_metAs := a_metAs) (a_copies := a_copies) (a_meetings := a_meetings) (a_wasMeeting := a_wasMeeting) (a_firstMet := a_firstMet) (a_depths := a_depths) (a_isKept := a_isKept) xH hG
  obtain ⟨rv', v1', vY⟩ := yw_next_f (g_trials := g_trials) (g_drafted := g_drafted) (g_found := g_found) (b_s := s1) (b_saved := b_saved) (b_draft := b_draft) (b_who := wh) (b_met := b_met) (b_stack := b_stack) (b_fresh := b_fresh) (b_deep := b_deep) (b_alike := al) (b_meets := b_meets) b1 b2
  have erv := fk_one v1' v1
  subst erv
  have topX : ∀ (post : SX → Prop) (n : Nat), wpX_goTrigger (fun r_23 u => match u with | (f_trials, f_drafted, f_pairs, f_metCount, f_meetingCount, a_held, a_saved, a_draft, a_toldBefore, a_pairX, a_pairY, a_stack, a_met, a_metAs, a_copies, a_meetings, a_wasMeeting, a_firstMet, a_depths, a_isKept) => (((r_23 = 0 → post (f_trials, f_drafted, f_pairs, f_metCount, f_meetingCount, a_held, a_saved, a_draft, a_toldBefore, a_pairX, a_pairY, a_stack, a_met, a_metAs, a_copies, a_meetings, a_wasMeeting, a_firstMet, a_depths, a_isKept)) ∧ (¬ r_23 = 0 → (∀ x1_45 : Int32, x1_45 = nI rd + 1 → wX_settle_2 post n x1_45 f_trials f_drafted f_pairs f_metCount f_meetingCount a_held a_saved a_draft a_toldBefore a_pairX a_pairY a_stack a_met a_metAs a_copies a_meetings a_wasMeeting a_firstMet a_depths a_isKept))))) (f_trials, f_drafted, m1, f_metCount, f_meetingCount, a1, a_saved, a_draft, tb1, px1, py1, a_stack, a_met, a_metAs, a_copies, a_meetings, a_wasMeeting, a_firstMet, a_depths, a_isKept) → wX_settle_2 post (n + 1) (nI rd) f_trials f_drafted f_pairs f_metCount f_meetingCount a_held a_saved a_draft a_toldBefore a_pairX a_pairY a_stack a_met a_metAs a_copies a_meetings a_wasMeeting a_firstMet a_depths a_isKept := by
    intro post n h
    rw [wX_settle_2]
    refine br_f nlt ?_
    unfold wpX_decideTests
    exact ⟨_, b5 _ h⟩
  have topY : ∀ (post : SY → Prop) (n : Nat), wY_settle_61 post (wY_settle_51 post n) 1 (nI 8) g_trials g_drafted g_found s1 b_saved b_draft wh b_met b_stack b_fresh b_deep al b_meets → wY_settle_51 post (n + 1) 1 g_trials g_drafted g_found b_s b_saved b_draft b_who b_met b_stack b_fresh b_deep b_alike b_meets := by
    intro post n h
    rw [wY_settle_51]
    refine br_f (by decide) (rY _ ?_)
    exact ⟨_, b6 post _ h⟩
  rcases v1 with ⟨z1, z2⟩ | ⟨k, hk, z1, z2, z3⟩
  · obtain ⟨rn, n1, nX⟩ := xw_neededTrigger (f_trials := f_trials) (f_drafted := f_drafted) (f_pairs := m1) (f_metCount := f_metCount) (f_meetingCount := f_meetingCount) (a_held := a1) (a_saved := a_saved) (a_draft := a_draft) (a_toldBefore := tb1) (a_pairX := px1) (a_pairY := py1) (a_stack := a_stack) (a_met := a_met) (a_metAs := a_metAs) (a_copies := a_copies) (a_meetings := a_meetings) (a_wasMeeting := a_wasMeeting) (a_firstMet := a_firstMet) (a_depths := a_depths) (a_isKept := a_isKept) xH hT hG
    obtain ⟨rn', n1', nY⟩ := yw_next_t (g_trials := g_trials) (g_drafted := g_drafted) (g_found := g_found) (b_s := s1) (b_saved := b_saved) (b_draft := b_draft) (b_who := wh) (b_met := b_met) (b_stack := b_stack) (b_fresh := b_fresh) (b_deep := b_deep) (b_alike := al) (b_meets := b_meets) b1 b2 z2
    have ern := fk_one n1' n1
    subst ern
    subst z1
    rcases n1 with ⟨w1, w2⟩ | ⟨k, hk, w1, ⟨x, x48, ex, nd⟩, w3⟩
    · subst w1
      refine Or.inl ⟨m1, a1, tb1, px1, py1, s1, wh, al, ⟨b1, dt_S1 N b3, ?_⟩, fun post n hp => topX post n ?_, fun post n hp => topY post n ?_⟩
      · intro k x hk hx e
        refine ⟨Classical.byContradiction (fun q => z2 k hk ⟨x, hx, e, q⟩), fun q => w2 k hk ⟨x, hx, e, q⟩⟩
      · unfold wpX_goTrigger
        exact vX _ (br_t rfl (nX _ (br_t rfl (br_t rfl hp))))
      · rw [wY_settle_61]
        refine br_t (by decide) (vY _ (br_f (by decide) (nY _ ?_)))
        unfold wY_settle_111 wY_settle_121
        exact br_t (by decide) (br_t rfl hp)
    · subst w1
      obtain ⟨g1, g2⟩ := N.2.2.2.1 k hk
      have g2' : ∃ y, xv_U a1 x ∧ xv_U a1 y ∧ a1 (512 + k) = nI y ∧ s1 (560 + k) = nI y := by
        rcases g2 with ⟨q, _⟩ | ⟨x', y, ux, uy, e1, e2, e3⟩
        · rw [ex] at q
          exact ((li_nn1 (by omega)).mp q).elim
        · have : x' = x := tg_un x48 ux.1 ex e1
          rw [this] at ux
          exact ⟨y, ux, uy, e2, e3⟩
      obtain ⟨y, ux, uy, ey, ey'⟩ := g2'
      have ex' : s1 (552 + k) = nI x := by rw [← g1]; exact ex
      obtain ⟨n, nb, na, ns⟩ := N.2.2.2.2.2.1
      obtain ⟨a3, t1, tX⟩ := xw_note (f_trials := f_trials) (f_drafted := f_drafted) (f_pairs := m1) (f_metCount := f_metCount) (f_meetingCount := f_meetingCount) (a_held := upd (upd a1 (504 + k) (-1)) (512 + k) (-1)) (a_saved := a_saved) (a_draft := a_draft) (a_toldBefore := tb1) (a_pairX := px1) (a_pairY := py1) (a_stack := a_stack) (a_met := a_met) (a_metAs := a_metAs) (a_copies := a_copies) (a_meetings := a_meetings) (a_wasMeeting := a_wasMeeting) (a_firstMet := a_firstMet) (a_depths := a_depths) (a_isKept := a_isKept) (n := n) (w := nI (16 + k)) (by omega) (by rw [pk_un (by omega), pk_un (by omega)]; exact na)
      obtain ⟨s3, u1, uY⟩ := yw_note (g_trials := g_trials) (g_drafted := g_drafted) (g_found := g_found) (b_s := upd s1 (552 + k) (-1)) (b_saved := b_saved) (b_draft := b_draft) (b_who := wh) (b_met := b_met) (b_stack := b_stack) (b_fresh := b_fresh) (b_deep := b_deep) (b_alike := al) (b_meets := b_meets) (n := n) (w := nI (16 + k)) (by omega) (by rw [pk_un (by omega)]; exact ns)
      have N2 : re_N (B + 8) (upd (upd a1 (504 + k) (-1)) (512 + k) (-1)) (upd s1 (552 + k) (-1)) := by
        refine tg_N hk N ⟨?_, pk_us, fun i h1 h2 => ?_⟩ ⟨pk_us, fun i h1 => pk_un h1⟩
        · rw [pk_un (by omega), pk_us]
        · rw [pk_un h2, pk_un h1]
      have N3 : re_N (B + 9) a3 s3 := nt_N (by omega) N2 t1 u1
      have lowa : ∀ i, i < 504 → a3 i = a1 i := fun i hi => by rw [nt_lowX t1 i (by omega), pk_un (by omega), pk_un (by omega)]
      have lows : ∀ i, i < 552 → s3 i = s1 i := fun i hi => by rw [nt_lowY u1 i (by omega), pk_un (by omega)]
      have r3 : re_P (B + 9) a3 s3 := re_P_N b1 (fun i hi => lowa i (by omega)) (fun i hi => lows i (by omega)) N3
      have eU3 : xv_U a3 = xv_U a1 := (xv_congr (fun i hi => lowa i (by omega))).1
      obtain ⟨rt, m4, a4, tb4, px4, py4, e1, eX⟩ := xw_tellEqual (f_trials := f_trials) (f_drafted := f_drafted) (f_pairs := m1) (f_metCount := f_metCount) (f_meetingCount := f_meetingCount) (a_held := a3) (a_saved := a_saved) (a_draft := a_draft) (a_toldBefore := tb1) (a_pairX := px1) (a_pairY := py1) (a_stack := a_stack) (a_met := a_met) (a_metAs := a_metAs) (a_copies := a_copies) (a_meetings := a_meetings) (a_wasMeeting := a_wasMeeting) (a_firstMet := a_firstMet) (a_depths := a_depths) (a_isKept := a_isKept) (re_G r3) (x := x) (y := y) (by rw [eU3]; exact ux) (by rw [eU3]; exact uy)
      obtain ⟨rt', s4, f1, fY⟩ := yw_tell (g_trials := g_trials) (g_drafted := g_drafted) (g_found := g_found) (b_s := s3) (b_saved := b_saved) (b_draft := b_draft) (b_who := wh) (b_met := b_met) (b_stack := b_stack) (b_fresh := b_fresh) (b_deep := b_deep) (b_alike := al) (b_meets := b_meets) r3 (x := x) (y := y) (by rw [eU3]; exact ux) (by rw [eU3]; exact uy)
      obtain ⟨r4, _⟩ := tl_eq r3 e1 f1
      have hi4 : ∀ i, 336 ≤ i → a4 i = a3 i := by
        rcases e1 with q | ⟨_, px, py, i, m, vd, _, q⟩
        · rw [q.2.1]; exact fun _ _ => rfl
        · exact q.2.1
      refine Or.inr ⟨nI m4, a4, tb4, px4, py4, s4, wh, al, r4, ?_, fun post n hp => topX post n ?_, fun post n hp => topY post n ?_⟩
      · refine tc_lt hk x48 (e := by rw [← b4 (504 + k) (by omega) (by omega)]; exact ex) ?_ (fun j hj ne => ?_)
        · rw [hi4 _ (by omega), nt_lowX t1 _ (by omega), pk_un (by omega), pk_us]
        · rw [hi4 _ (by omega), nt_lowX t1 _ (by omega), pk_un (by omega), pk_un (by omega), b4 _ (by omega) (by omega)]
      · unfold wpX_goTrigger
        refine vX _ (br_t rfl (nX _ (br_f (fun q => (li_nn1 (by omega)).mp q) ?_)))
        simp (disch := omega) only [forall_eq, true_and, and_true, Nat.zero_add, nI_clamp, li_vin, nI_add, nI_eq, nI_leI, nI_ltI, li_0le, li_lt0, li_nn1, li_e0, not_true_eq_false, not_false_eq_true, false_implies, true_implies, forall_const, li_a0, li_b0, li_a1, li_b1, li_a2, li_b2, li_a3, li_b3, li_a7, li_b7, li_a8, li_b8, li_a16, li_b16, li_a48, li_b48, li_a584, li_b584, li_a572, li_b572, li_a96, li_b96, li_a144, li_b144, li_a192, li_b192, li_a240, li_b240, li_a336, li_b336, li_a384, li_b384, li_a432, li_b432, li_a480, li_b480, li_a488, li_b488, li_a496, li_b496, li_a504, li_b504, li_a512, li_b512, li_a520, li_b520, li_a524, li_b524, li_a528, li_b528, li_a536, li_b536, li_a544, li_b544, li_a552, li_b552, li_a560, li_b560, li_a568, li_b568, li_a573, li_b573, li_a585, li_b585, li_a633, li_b633, li_m3, li_n3, li_m4, li_n4, li_m48, li_n48, li_m50, li_n50, li_m585, li_n585, li_m633, li_n633, li_lt2, li_ge2, li_le2, li_gt2, li_lt1, li_ge1, li_le1, li_gt1, li_lt3, li_ge3, li_le3, li_gt3, li_lt4, li_ge4, li_le4, li_gt4, li_lt7, li_ge7, li_le7, li_gt7, li_lt8, li_ge8, li_le8, li_gt8, li_lt40, li_ge40, li_le40, li_gt40, li_lt240, li_ge240, li_le240, li_gt240, li_lt41, li_ge41, li_le41, li_gt41, li_lt48, li_ge48, li_le48, li_gt48, li_lt49, li_ge49, li_le49, li_gt49, li_lt60, li_ge60, li_le60, li_gt60, li_lt144, li_ge144, li_le144, li_gt144, li_lt145, li_ge145, li_le145, li_gt145, li_lt160, li_ge160, li_le160, li_gt160, li_lt336, li_ge336, li_le336, li_gt336, li_lt585, li_ge585, li_le585, li_gt585, li_lt633, li_ge633, li_le633, li_gt633, li_lt1000000, li_ge1000000, li_le1000000, li_gt1000000, li_lt2304, li_ge2304, li_le2304, li_gt2304, li_lt50, li_ge50, li_le50, li_gt50, li_le0, li_gt0, ex, ey]
        refine xw_removeTrigger (f_trials := f_trials) (f_drafted := f_drafted) (f_pairs := m1) (f_metCount := f_metCount) (f_meetingCount := f_meetingCount) (a_held := a1) (a_saved := a_saved) (a_draft := a_draft) (a_toldBefore := tb1) (a_pairX := px1) (a_pairY := py1) (a_stack := a_stack) (a_met := a_met) (a_metAs := a_metAs) (a_copies := a_copies) (a_meetings := a_meetings) (a_wasMeeting := a_wasMeeting) (a_firstMet := a_firstMet) (a_depths := a_depths) (a_isKept := a_isKept) hk _ (tX _ (eX _ ?_))
        exact br_f (by decide) hp
      · rw [wY_settle_61]
        refine br_t (by decide) (vY _ (br_f (by decide) (nY _ ?_)))
        unfold wY_settle_111 wY_settle_121
        refine br_f (nI_pos (by omega)) (br_f (by decide) ?_)
        have ey3 : s3 (560 + k) = nI y := by rw [nt_lowY u1 _ (by omega), pk_un (by omega)]; exact ey'
        simp (disch := omega) only [forall_eq, true_and, and_true, Nat.zero_add, nI_clamp, li_vin, nI_add, nI_eq, nI_leI, nI_ltI, li_0le, li_lt0, li_nn1, li_e0, not_true_eq_false, not_false_eq_true, false_implies, true_implies, forall_const, li_a0, li_b0, li_a1, li_b1, li_a2, li_b2, li_a3, li_b3, li_a7, li_b7, li_a8, li_b8, li_a16, li_b16, li_a48, li_b48, li_a584, li_b584, li_a572, li_b572, li_a96, li_b96, li_a144, li_b144, li_a192, li_b192, li_a240, li_b240, li_a336, li_b336, li_a384, li_b384, li_a432, li_b432, li_a480, li_b480, li_a488, li_b488, li_a496, li_b496, li_a504, li_b504, li_a512, li_b512, li_a520, li_b520, li_a524, li_b524, li_a528, li_b528, li_a536, li_b536, li_a544, li_b544, li_a552, li_b552, li_a560, li_b560, li_a568, li_b568, li_a573, li_b573, li_a585, li_b585, li_a633, li_b633, li_m3, li_n3, li_m4, li_n4, li_m48, li_n48, li_m50, li_n50, li_m585, li_n585, li_m633, li_n633, li_lt2, li_ge2, li_le2, li_gt2, li_lt1, li_ge1, li_le1, li_gt1, li_lt3, li_ge3, li_le3, li_gt3, li_lt4, li_ge4, li_le4, li_gt4, li_lt7, li_ge7, li_le7, li_gt7, li_lt8, li_ge8, li_le8, li_gt8, li_lt40, li_ge40, li_le40, li_gt40, li_lt240, li_ge240, li_le240, li_gt240, li_lt41, li_ge41, li_le41, li_gt41, li_lt48, li_ge48, li_le48, li_gt48, li_lt49, li_ge49, li_le49, li_gt49, li_lt60, li_ge60, li_le60, li_gt60, li_lt144, li_ge144, li_le144, li_gt144, li_lt145, li_ge145, li_le145, li_gt145, li_lt160, li_ge160, li_le160, li_gt160, li_lt336, li_ge336, li_le336, li_gt336, li_lt585, li_ge585, li_le585, li_gt585, li_lt633, li_ge633, li_le633, li_gt633, li_lt1000000, li_ge1000000, li_le1000000, li_gt1000000, li_lt2304, li_ge2304, li_le2304, li_gt2304, li_lt50, li_ge50, li_le50, li_gt50, li_le0, li_gt0, ex']
        refine br_t (by decide) (uY _ ?_)
        simp (disch := omega) only [forall_eq, true_and, and_true, Nat.zero_add, nI_clamp, li_vin, nI_add, nI_eq, nI_leI, nI_ltI, li_0le, li_lt0, li_nn1, li_e0, not_true_eq_false, not_false_eq_true, false_implies, true_implies, forall_const, li_a0, li_b0, li_a1, li_b1, li_a2, li_b2, li_a3, li_b3, li_a7, li_b7, li_a8, li_b8, li_a16, li_b16, li_a48, li_b48, li_a584, li_b584, li_a572, li_b572, li_a96, li_b96, li_a144, li_b144, li_a192, li_b192, li_a240, li_b240, li_a336, li_b336, li_a384, li_b384, li_a432, li_b432, li_a480, li_b480, li_a488, li_b488, li_a496, li_b496, li_a504, li_b504, li_a512, li_b512, li_a520, li_b520, li_a524, li_b524, li_a528, li_b528, li_a536, li_b536, li_a544, li_b544, li_a552, li_b552, li_a560, li_b560, li_a568, li_b568, li_a573, li_b573, li_a585, li_b585, li_a633, li_b633, li_m3, li_n3, li_m4, li_n4, li_m48, li_n48, li_m50, li_n50, li_m585, li_n585, li_m633, li_n633, li_lt2, li_ge2, li_le2, li_gt2, li_lt1, li_ge1, li_le1, li_gt1, li_lt3, li_ge3, li_le3, li_gt3, li_lt4, li_ge4, li_le4, li_gt4, li_lt7, li_ge7, li_le7, li_gt7, li_lt8, li_ge8, li_le8, li_gt8, li_lt40, li_ge40, li_le40, li_gt40, li_lt240, li_ge240, li_le240, li_gt240, li_lt41, li_ge41, li_le41, li_gt41, li_lt48, li_ge48, li_le48, li_gt48, li_lt49, li_ge49, li_le49, li_gt49, li_lt60, li_ge60, li_le60, li_gt60, li_lt144, li_ge144, li_le144, li_gt144, li_lt145, li_ge145, li_le145, li_gt145, li_lt160, li_ge160, li_le160, li_gt160, li_lt336, li_ge336, li_le336, li_gt336, li_lt585, li_ge585, li_le585, li_gt585, li_lt633, li_ge633, li_le633, li_gt633, li_lt1000000, li_ge1000000, li_le1000000, li_gt1000000, li_lt2304, li_ge2304, li_le2304, li_gt2304, li_lt50, li_ge50, li_le50, li_gt50, li_le0, li_gt0, ey3]
        exact fY _ hp
  · subst z1
    obtain ⟨x, x48, ex, k0⟩ := z2
    have g1 := (N.2.2.2.1 k hk).1
    have ex' : s1 (552 + k) = nI x := by rw [← g1]; exact ex
    have N2 : re_N (B + 8) (upd (upd a1 (504 + k) (-1)) (512 + k) (-1)) (upd s1 (552 + k) (-1)) := by
      refine tg_N hk N ⟨?_, pk_us, fun i h1 h2 => ?_⟩ ⟨pk_us, fun i h1 => pk_un h1⟩
      · rw [pk_un (by omega), pk_us]
      · rw [pk_un h2, pk_un h1]
    have r3 : re_P (B + 8) (upd (upd a1 (504 + k) (-1)) (512 + k) (-1)) (upd s1 (552 + k) (-1)) := re_P_N b1 (fun i hi => by rw [pk_un (by omega), pk_un (by omega)]) (fun i hi => pk_un (by omega)) N2
    refine Or.inr ⟨m1, _, tb1, px1, py1, _, wh, al, re_P_mono (by omega) r3, ?_, fun post n hp => topX post n ?_, fun post n hp => topY post n ?_⟩
    · refine tc_lt hk x48 (e := by rw [← b4 (504 + k) (by omega) (by omega)]; exact ex) ?_ (fun j hj ne => ?_)
      · rw [pk_un (by omega), pk_us]
      · rw [pk_un (by omega), pk_un (by omega), b4 _ (by omega) (by omega)]
    · unfold wpX_goTrigger
      refine vX _ (br_f (fun q => (li_nn1 (by omega)).mp q) ?_)
      refine xw_removeTrigger (f_trials := f_trials) (f_drafted := f_drafted) (f_pairs := m1) (f_metCount := f_metCount) (f_meetingCount := f_meetingCount) (a_held := a1) (a_saved := a_saved) (a_draft := a_draft) (a_toldBefore := tb1) (a_pairX := px1) (a_pairY := py1) (a_stack := a_stack) (a_met := a_met) (a_metAs := a_metAs) (a_copies := a_copies) (a_meetings := a_meetings) (a_wasMeeting := a_wasMeeting) (a_firstMet := a_firstMet) (a_depths := a_depths) (a_isKept := a_isKept) hk _ ?_
      exact br_f (by decide) (nm_r (nI_1 rd) hp)
    · rw [wY_settle_61]
      refine br_t (by decide) (vY _ (br_t (nI_pos' (by omega)) ?_))
      unfold wY_settle_111 wY_settle_121
      refine br_f (nI_pos (by omega)) (br_f (by decide) ?_)
      simp (disch := omega) only [forall_eq, true_and, and_true, Nat.zero_add, nI_clamp, li_vin, nI_add, nI_eq, nI_leI, nI_ltI, li_0le, li_lt0, li_nn1, li_e0, not_true_eq_false, not_false_eq_true, false_implies, true_implies, forall_const, li_a0, li_b0, li_a1, li_b1, li_a2, li_b2, li_a3, li_b3, li_a7, li_b7, li_a8, li_b8, li_a16, li_b16, li_a48, li_b48, li_a584, li_b584, li_a572, li_b572, li_a96, li_b96, li_a144, li_b144, li_a192, li_b192, li_a240, li_b240, li_a336, li_b336, li_a384, li_b384, li_a432, li_b432, li_a480, li_b480, li_a488, li_b488, li_a496, li_b496, li_a504, li_b504, li_a512, li_b512, li_a520, li_b520, li_a524, li_b524, li_a528, li_b528, li_a536, li_b536, li_a544, li_b544, li_a552, li_b552, li_a560, li_b560, li_a568, li_b568, li_a573, li_b573, li_a585, li_b585, li_a633, li_b633, li_m3, li_n3, li_m4, li_n4, li_m48, li_n48, li_m50, li_n50, li_m585, li_n585, li_m633, li_n633, li_lt2, li_ge2, li_le2, li_gt2, li_lt1, li_ge1, li_le1, li_gt1, li_lt3, li_ge3, li_le3, li_gt3, li_lt4, li_ge4, li_le4, li_gt4, li_lt7, li_ge7, li_le7, li_gt7, li_lt8, li_ge8, li_le8, li_gt8, li_lt40, li_ge40, li_le40, li_gt40, li_lt240, li_ge240, li_le240, li_gt240, li_lt41, li_ge41, li_le41, li_gt41, li_lt48, li_ge48, li_le48, li_gt48, li_lt49, li_ge49, li_le49, li_gt49, li_lt60, li_ge60, li_le60, li_gt60, li_lt144, li_ge144, li_le144, li_gt144, li_lt145, li_ge145, li_le145, li_gt145, li_lt160, li_ge160, li_le160, li_gt160, li_lt336, li_ge336, li_le336, li_gt336, li_lt585, li_ge585, li_le585, li_gt585, li_lt633, li_ge633, li_le633, li_gt633, li_lt1000000, li_ge1000000, li_le1000000, li_gt1000000, li_lt2304, li_ge2304, li_le2304, li_gt2304, li_lt50, li_ge50, li_le50, li_gt50, li_le0, li_gt0, ex']
      exact hp
theorem st_loop {f_trials f_drafted f_pairs f_metCount f_meetingCount : Int32} {a_held a_saved a_draft a_toldBefore a_pairX a_pairY a_stack a_met a_metAs a_copies a_meetings a_wasMeeting a_firstMet a_depths a_isKept : Nat → Int32} {g_trials g_drafted g_found : Int32} {b_s b_saved b_draft b_who b_met b_stack b_fresh b_deep : Nat → Int32} {b_alike b_meets : Nat → Int64} : ∀ c rd B (f_pairs : Int32) (a_held a_toldBefore a_pairX a_pairY b_s b_who : Nat → Int32) (b_alike : Nat → Int64), tc_8 a_held ≤ c → rd + c ≤ 8 → B + 9 * (c + 1) < 1000000 → re_P B a_held b_s → ∃ (m' : Int32) (a' tb px py s' wh : Nat → Int32) (al : Nat → Int64), re_C (B + 9 * (c + 1)) a' s' ∧ (∀ post : SX → Prop, post (f_trials, f_drafted, m', f_metCount, f_meetingCount, a', a_saved, a_draft, tb, px, py, a_stack, a_met, a_metAs, a_copies, a_meetings, a_wasMeeting, a_firstMet, a_depths, a_isKept) → wX_settle_2 post (c + 1) (nI rd) f_trials f_drafted f_pairs f_metCount f_meetingCount a_held a_saved a_draft a_toldBefore a_pairX a_pairY a_stack a_met a_metAs a_copies a_meetings a_wasMeeting a_firstMet a_depths a_isKept) ∧ (∀ post : SY → Prop, post (g_trials, g_drafted, g_found, s', b_saved, b_draft, wh, b_met, b_stack, b_fresh, b_deep, al, b_meets) → wY_settle_51 post (c + 1) 1 g_trials g_drafted g_found b_s b_saved b_draft b_who b_met b_stack b_fresh b_deep b_alike b_meets) := by
  intro c
  induction c with
  | zero =>
    intro rd B fp a tb px py s wh al hc hrd hB hr
    rcases st_round (f_trials := f_trials) (f_drafted := f_drafted) (f_pairs := fp) (f_metCount := f_metCount) (f_meetingCount := f_meetingCount) (a_held := a) (a_saved := a_saved) (a_draft := a_draft) (a_toldBefore := tb) (a_pairX := px) (a_pairY := py) (a_stack := a_stack) (a_met := a_met) (a_metAs := a_metAs) (a_copies := a_copies) (a_meetings := a_meetings) (a_wasMeeting := a_wasMeeting) (a_firstMet := a_firstMet) (a_depths := a_depths) (a_isKept := a_isKept) (g_trials := g_trials) (g_drafted := g_drafted) (g_found := g_found) (b_s := s) (b_saved := b_saved) (b_draft := b_draft) (b_who := wh) (b_met := b_met) (b_stack := b_stack) (b_fresh := b_fresh) (b_deep := b_deep) (b_alike := al) (b_meets := b_meets) (rd := rd) (by omega) (by omega) hr with ⟨m', a', tb', px', py', s', wh', al', h1, h2, h3⟩ | ⟨m', a', tb', px', py', s', wh', al', h1, h2, h3, h4⟩
    · exact ⟨m', a', tb', px', py', s', wh', al', re_C_mono (by omega) h1, fun post hp => h2 post 0 hp, fun post hp => h3 post 0 hp⟩
    · omega
  | succ c ih =>
    intro rd B fp a tb px py s wh al hc hrd hB hr
    rcases st_round (f_trials := f_trials) (f_drafted := f_drafted) (f_pairs := fp) (f_metCount := f_metCount) (f_meetingCount := f_meetingCount) (a_held := a) (a_saved := a_saved) (a_draft := a_draft) (a_toldBefore := tb) (a_pairX := px) (a_pairY := py) (a_stack := a_stack) (a_met := a_met) (a_metAs := a_metAs) (a_copies := a_copies) (a_meetings := a_meetings) (a_wasMeeting := a_wasMeeting) (a_firstMet := a_firstMet) (a_depths := a_depths) (a_isKept := a_isKept) (g_trials := g_trials) (g_drafted := g_drafted) (g_found := g_found) (b_s := s) (b_saved := b_saved) (b_draft := b_draft) (b_who := wh) (b_met := b_met) (b_stack := b_stack) (b_fresh := b_fresh) (b_deep := b_deep) (b_alike := al) (b_meets := b_meets) (rd := rd) (by omega) (by omega) hr with ⟨m', a', tb', px', py', s', wh', al', h1, h2, h3⟩ | ⟨m', a', tb', px', py', s', wh', al', h1, h2, h3, h4⟩
    · exact ⟨m', a', tb', px', py', s', wh', al', re_C_mono (by omega) h1, fun post hp => h2 post _ hp, fun post hp => h3 post _ hp⟩
    · obtain ⟨m2, a2, tb2, px2, py2, s2, wh2, al2, g1, g2, g3⟩ := ih (rd + 1) (B + 9) m' a' tb' px' py' s' wh' al' (by omega) (by omega) (by omega) h1
      exact ⟨m2, a2, tb2, px2, py2, s2, wh2, al2, re_C_mono (by omega) g1, fun post hp => h3 post _ (g2 post hp), fun post hp => h4 post _ (g3 post hp)⟩
