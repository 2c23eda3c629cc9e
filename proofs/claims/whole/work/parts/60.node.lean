theorem pm_1 (m : Nat) : nI m + (-1) = nI m - 1 := (Int32.sub_eq_add_neg (nI m) 1).symm
theorem pm_0 : nI 0 - 1 < (0 : Int32) := by decide
theorem xw_push_16 {f_trials f_drafted f_pairs f_metCount f_meetingCount : Int32} {a_held a_saved a_draft a_toldBefore a_pairX a_pairY a_stack a_met a_metAs a_copies a_meetings a_wasMeeting a_firstMet a_depths a_isKept : Nat → Int32} {c : Nat} (hc : c < 48) : ∀ m top (a_stack : Nat → Int32), m ≤ 3 → top + m ≤ 145 → ∃ st : Nat → Int32, (∀ j, j < top → st j = a_stack j) ∧ (∀ k, k < m → st (top + (m - 1 - k)) = a_held (192 + 3 * c + k)) ∧ ∀ post : Int32 → SX → Prop, post (nI (top + m)) (f_trials, f_drafted, f_pairs, f_metCount, f_meetingCount, a_held, a_saved, a_draft, a_toldBefore, a_pairX, a_pairY, st, a_met, a_metAs, a_copies, a_meetings, a_wasMeeting, a_firstMet, a_depths, a_isKept) → wX_pushParts_16 post (nI c) f_trials f_drafted f_pairs f_metCount f_meetingCount (m + 1) (nI top) (nI m - 1) a_held a_saved a_draft a_toldBefore a_pairX a_pairY a_stack a_met a_metAs a_copies a_meetings a_wasMeeting a_firstMet a_depths a_isKept := by
  intro m
  induction m with
  | zero =>
    intro top st hm ht
    refine ⟨st, fun _ _ => rfl, fun k hk => by omega, fun post hp => ?_⟩
    rw [wX_pushParts_16]
    exact br_t pm_0 hp
  | succ m ih =>
    intro top st hm ht
    obtain ⟨st', h1, h2, h3⟩ := ih (top + 1) (upd st top (a_held (192 + 3 * c + m))) (by omega) (by omega)
    refine ⟨st', ?_, ?_, fun post hp => ?_⟩
    · intro j hj
      rw [h1 j (by omega), pk_un (by omega)]
    · intro k hk
      by_cases q : k = m
      · rw [q, show top + (m + 1 - 1 - m) = top from by omega, h1 top (by omega), pk_us]
      · have := h2 k (by omega)
        rw [show top + 1 + (m - 1 - k) = top + (m + 1 - 1 - k) from by omega] at this
        exact this
    · rw [show top + (m + 1) = top + 1 + m from by omega] at hp
      have h3' := h3 post hp
      rw [wX_pushParts_16]
      dsimp only
      rw [nI_pred]
      simp (disch := omega) only [forall_eq, true_and, and_true, Nat.zero_add, nI_clamp, li_vin, nI_add, nI_eq, nI_leI, nI_ltI, li_0le, li_lt0, li_nn1, li_e0, not_true_eq_false, not_false_eq_true, false_implies, true_implies, forall_const, li_a0, li_b0, li_a1, li_b1, li_a2, li_b2, li_a3, li_b3, li_a7, li_b7, li_a8, li_b8, li_a16, li_b16, li_a48, li_b48, li_a584, li_b584, li_a572, li_b572, li_a96, li_b96, li_a144, li_b144, li_a192, li_b192, li_a240, li_b240, li_a336, li_b336, li_a384, li_b384, li_a432, li_b432, li_a480, li_b480, li_a488, li_b488, li_a496, li_b496, li_a504, li_b504, li_a512, li_b512, li_a520, li_b520, li_a524, li_b524, li_a528, li_b528, li_a536, li_b536, li_a544, li_b544, li_a552, li_b552, li_a560, li_b560, li_a568, li_b568, li_a573, li_b573, li_a585, li_b585, li_a633, li_b633, li_m3, li_n3, li_m4, li_n4, li_m48, li_n48, li_m50, li_n50, li_m585, li_n585, li_m633, li_n633, li_lt2, li_ge2, li_le2, li_gt2, li_lt1, li_ge1, li_le1, li_gt1, li_lt3, li_ge3, li_le3, li_gt3, li_lt4, li_ge4, li_le4, li_gt4, li_lt7, li_ge7, li_le7, li_gt7, li_lt8, li_ge8, li_le8, li_gt8, li_lt40, li_ge40, li_le40, li_gt40, li_lt240, li_ge240, li_le240, li_gt240, li_lt41, li_ge41, li_le41, li_gt41, li_lt48, li_ge48, li_le48, li_gt48, li_lt49, li_ge49, li_le49, li_gt49, li_lt60, li_ge60, li_le60, li_gt60, li_lt144, li_ge144, li_le144, li_gt144, li_lt145, li_ge145, li_le145, li_gt145, li_lt160, li_ge160, li_le160, li_gt160, li_lt336, li_ge336, li_le336, li_gt336, li_lt585, li_ge585, li_le585, li_gt585, li_lt633, li_ge633, li_le633, li_gt633, li_lt1000000, li_ge1000000, li_le1000000, li_gt1000000, li_lt2304, li_ge2304, li_le2304, li_gt2304, li_lt50, li_ge50, li_le50, li_gt50, li_le0, li_gt0, pm_1]
      exact ⟨fun q => by omega, fun _ => h3'⟩
theorem xw_pushParts {f_trials f_drafted f_pairs f_metCount f_meetingCount : Int32} {a_held a_saved a_draft a_toldBefore a_pairX a_pairY a_stack a_met a_metAs a_copies a_meetings a_wasMeeting a_firstMet a_depths a_isKept : Nat → Int32} (h : xv_H a_held) {c top : Nat} (hc : c < 48) (ht : top + 3 ≤ 145) : ∃ st : Nat → Int32, (∀ j, j < top → st j = a_stack j) ∧ (∀ k, k < ma_ct (xv_K a_held c) → st (top + (ma_ct (xv_K a_held c) - 1 - k)) = nI (xv_P a_held c k)) ∧ ∀ post : Int32 → SX → Prop, post (nI (top + ma_ct (xv_K a_held c))) (f_trials, f_drafted, f_pairs, f_metCount, f_meetingCount, a_held, a_saved, a_draft, a_toldBefore, a_pairX, a_pairY, st, a_met, a_metAs, a_copies, a_meetings, a_wasMeeting, a_firstMet, a_depths, a_isKept) → wpX_pushParts post (f_trials, f_drafted, f_pairs, f_metCount, f_meetingCount, a_held, a_saved, a_draft, a_toldBefore, a_pairX, a_pairY, a_stack, a_met, a_metAs, a_copies, a_meetings, a_wasMeeting, a_firstMet, a_depths, a_isKept) (nI c) (nI top) := by
  obtain ⟨e1, l1⟩ := xv_HC h hc
  obtain ⟨st, h1, h2, h3⟩ := xw_push_16 (f_trials := f_trials) (f_drafted := f_drafted) (f_pairs := f_pairs) (f_metCount := f_metCount) (f_meetingCount := f_meetingCount) (a_held := a_held) (a_saved := a_saved) (a_draft := a_draft) (a_toldBefore := a_toldBefore) (a_pairX := a_pairX) (a_pairY := a_pairY) (a_stack := a_stack) (a_met := a_met) (a_metAs := a_metAs) (a_copies := a_copies) (a_meetings := a_meetings) (a_wasMeeting := a_wasMeeting) (a_firstMet := a_firstMet) (a_depths := a_depths) (a_isKept := a_isKept) hc (ma_ct (xv_K a_held c)) top a_stack l1 (by omega)
  refine ⟨st, h1, fun k hk => ?_, fun post hp => ?_⟩
  · rw [h2 k hk]; exact (xv_HP h hc (by omega)).1
  · unfold wpX_pushParts
    simp (disch := omega) only [forall_eq, true_and, and_true, Nat.zero_add, nI_clamp, li_vin, nI_add, nI_eq, nI_leI, nI_ltI, li_0le, li_lt0, li_nn1, li_e0, not_true_eq_false, not_false_eq_true, false_implies, true_implies, forall_const, li_a0, li_b0, li_a1, li_b1, li_a2, li_b2, li_a3, li_b3, li_a7, li_b7, li_a8, li_b8, li_a16, li_b16, li_a48, li_b48, li_a584, li_b584, li_a572, li_b572, li_a96, li_b96, li_a144, li_b144, li_a192, li_b192, li_a240, li_b240, li_a336, li_b336, li_a384, li_b384, li_a432, li_b432, li_a480, li_b480, li_a488, li_b488, li_a496, li_b496, li_a504, li_b504, li_a512, li_b512, li_a520, li_b520, li_a524, li_b524, li_a528, li_b528, li_a536, li_b536, li_a544, li_b544, li_a552, li_b552, li_a560, li_b560, li_a568, li_b568, li_a573, li_b573, li_a585, li_b585, li_a633, li_b633, li_m3, li_n3, li_m4, li_n4, li_m48, li_n48, li_m50, li_n50, li_m585, li_n585, li_m633, li_n633, li_lt2, li_ge2, li_le2, li_gt2, li_lt1, li_ge1, li_le1, li_gt1, li_lt3, li_ge3, li_le3, li_gt3, li_lt4, li_ge4, li_le4, li_gt4, li_lt7, li_ge7, li_le7, li_gt7, li_lt8, li_ge8, li_le8, li_gt8, li_lt40, li_ge40, li_le40, li_gt40, li_lt240, li_ge240, li_le240, li_gt240, li_lt41, li_ge41, li_le41, li_gt41, li_lt48, li_ge48, li_le48, li_gt48, li_lt49, li_ge49, li_le49, li_gt49, li_lt60, li_ge60, li_le60, li_gt60, li_lt144, li_ge144, li_le144, li_gt144, li_lt145, li_ge145, li_le145, li_gt145, li_lt160, li_ge160, li_le160, li_gt160, li_lt336, li_ge336, li_le336, li_gt336, li_lt585, li_ge585, li_le585, li_gt585, li_lt633, li_ge633, li_le633, li_gt633, li_lt1000000, li_ge1000000, li_le1000000, li_gt1000000, li_lt2304, li_ge2304, li_le2304, li_gt2304, li_lt50, li_ge50, li_le50, li_gt50, li_le0, li_gt0, e1]
    exact ⟨_, h3 post hp⟩
def mn_3 (m c : Nat) : Nat := if m ≤ c then m else c
theorem mn_le {m c : Nat} (h : m ≤ c) : mn_3 m c = m := if_pos h
theorem mn_ge {m c : Nat} (h : c ≤ m) : mn_3 m c = c := by
  unfold mn_3; split <;> omega
theorem yw_push_180 {g_trials g_drafted g_found : Int32} {b_s b_saved b_draft b_who b_met b_stack b_fresh b_deep : Nat → Int32} {b_alike b_meets : Nat → Int64} {w c : Nat} {x2 x3 x5 : Int32} (hw : w < 48) (hc : c ≤ 3) (ec : b_s (192 + w) = nI c) : ∀ m top (b_stack : Nat → Int32), m ≤ 3 → top + m ≤ 160 → ∃ st : Nat → Int32, (∀ j, j < top → st j = b_stack j) ∧ (∀ k, k < mn_3 m c → st (top + (mn_3 m c - 1 - k)) = b_s (240 + 3 * w + k)) ∧ ∀ (post : Int64 → SY → Prop) (J43 : Int32 → Int32 → (Nat → Int32) → (Nat → Int32) → (Nat → Int32) → (Nat → Int32) → (Nat → Int32) → (Nat → Int32) → (Nat → Int32) → (Nat → Int32) → (Nat → Int64) → (Nat → Int64) → Prop), J43 (nI (top + mn_3 m c)) x5 b_s b_saved b_draft b_who b_met st b_fresh b_deep b_alike b_meets → wY_node_180 post J43 x2 x3 x5 (nI w) g_trials g_drafted g_found (m + 1) (nI top) (nI m - 1) b_s b_saved b_draft b_who b_met b_stack b_fresh b_deep b_alike b_meets := by
  intro m
  induction m with
  | zero =>
    intro top st hm ht
    refine ⟨st, fun _ _ => rfl, fun k hk => by rw [mn_le (by omega)] at hk; omega, fun post J hp => ?_⟩
    rw [mn_le (by omega)] at hp
    rw [wY_node_180]
    exact br_t pm_0 hp
  | succ m ih =>
    intro top st hm ht
    by_cases q : c ≤ m
    · obtain ⟨st', h1, h2, h3⟩ := ih top st (by omega) (by omega)
      rw [mn_ge q] at h2 h3
      refine ⟨st', h1, ?_, fun post J hp => ?_⟩
      · rw [mn_ge (by omega)]; exact h2
      · rw [mn_ge (by omega)] at hp
        have h3' := h3 post J hp
        rw [wY_node_180]
        dsimp only
        rw [nI_pred]
        simp (disch := omega) only [forall_eq, true_and, and_true, Nat.zero_add, nI_clamp, li_vin, nI_add, nI_eq, nI_leI, nI_ltI, li_0le, li_lt0, li_nn1, li_e0, not_true_eq_false, not_false_eq_true, false_implies, true_implies, forall_const, li_a0, li_b0, li_a1, li_b1, li_a2, li_b2, li_a3, li_b3, li_a7, li_b7, li_a8, li_b8, li_a16, li_b16, li_a48, li_b48, li_a584, li_b584, li_a572, li_b572, li_a96, li_b96, li_a144, li_b144, li_a192, li_b192, li_a240, li_b240, li_a336, li_b336, li_a384, li_b384, li_a432, li_b432, li_a480, li_b480, li_a488, li_b488, li_a496, li_b496, li_a504, li_b504, li_a512, li_b512, li_a520, li_b520, li_a524, li_b524, li_a528, li_b528, li_a536, li_b536, li_a544, li_b544, li_a552, li_b552, li_a560, li_b560, li_a568, li_b568, li_a573, li_b573, li_a585, li_b585, li_a633, li_b633, li_m3, li_n3, li_m4, li_n4, li_m48, li_n48, li_m50, li_n50, li_m585, li_n585, li_m633, li_n633, li_lt2, li_ge2, li_le2, li_gt2, li_lt1, li_ge1, li_le1, li_gt1, li_lt3, li_ge3, li_le3, li_gt3, li_lt4, li_ge4, li_le4, li_gt4, li_lt7, li_ge7, li_le7, li_gt7, li_lt8, li_ge8, li_le8, li_gt8, li_lt40, li_ge40, li_le40, li_gt40, li_lt240, li_ge240, li_le240, li_gt240, li_lt41, li_ge41, li_le41, li_gt41, li_lt48, li_ge48, li_le48, li_gt48, li_lt49, li_ge49, li_le49, li_gt49, li_lt60, li_ge60, li_le60, li_gt60, li_lt144, li_ge144, li_le144, li_gt144, li_lt145, li_ge145, li_le145, li_gt145, li_lt160, li_ge160, li_le160, li_gt160, li_lt336, li_ge336, li_le336, li_gt336, li_lt585, li_ge585, li_le585, li_gt585, li_lt633, li_ge633, li_le633, li_gt633, li_lt1000000, li_ge1000000, li_le1000000, li_gt1000000, li_lt2304, li_ge2304, li_le2304, li_gt2304, li_lt50, li_ge50, li_le50, li_gt50, li_le0, li_gt0, ec, pm_1]
        exact ⟨fun _ => h3', fun z => absurd q z⟩
    · obtain ⟨st', h1, h2, h3⟩ := ih (top + 1) (upd st top (b_s (240 + 3 * w + m))) (by omega) (by omega)
      rw [mn_le (by omega)] at h2 h3
      refine ⟨st', ?_, ?_, fun post J hp => ?_⟩
      · intro j hj
        rw [h1 j (by omega), pk_un (by omega)]
      · rw [mn_le (by omega)]
        intro k hk
        by_cases z : k = m
        · rw [z, show top + (m + 1 - 1 - m) = top from by omega, h1 top (by omega), pk_us]
        · have := h2 k (by omega)
          rw [show top + 1 + (m - 1 - k) = top + (m + 1 - 1 - k) from by omega] at this
          exact this
      · rw [mn_le (by omega), show top + (m + 1) = top + 1 + m from by omega] at hp
        have h3' := h3 post J hp
        rw [wY_node_180]
        dsimp only
        rw [nI_pred]
        simp (disch := omega) only [forall_eq, true_and, and_true, Nat.zero_add, nI_clamp, li_vin, nI_add, nI_eq, nI_leI, nI_ltI, li_0le, li_lt0, li_nn1, li_e0, not_true_eq_false, not_false_eq_true, false_implies, true_implies, forall_const, li_a0, li_b0, li_a1, li_b1, li_a2, li_b2, li_a3, li_b3, li_a7, li_b7, li_a8, li_b8, li_a16, li_b16, li_a48, li_b48, li_a584, li_b584, li_a572, li_b572, li_a96, li_b96, li_a144, li_b144, li_a192, li_b192, li_a240, li_b240, li_a336, li_b336, li_a384, li_b384, li_a432, li_b432, li_a480, li_b480, li_a488, li_b488, li_a496, li_b496, li_a504, li_b504, li_a512, li_b512, li_a520, li_b520, li_a524, li_b524, li_a528, li_b528, li_a536, li_b536, li_a544, li_b544, li_a552, li_b552, li_a560, li_b560, li_a568, li_b568, li_a573, li_b573, li_a585, li_b585, li_a633, li_b633, li_m3, li_n3, li_m4, li_n4, li_m48, li_n48, li_m50, li_n50, li_m585, li_n585, li_m633, li_n633, li_lt2, li_ge2, li_le2, li_gt2, li_lt1, li_ge1, li_le1, li_gt1, li_lt3, li_ge3, li_le3, li_gt3, li_lt4, li_ge4, li_le4, li_gt4, li_lt7, li_ge7, li_le7, li_gt7, li_lt8, li_ge8, li_le8, li_gt8, li_lt40, li_ge40, li_le40, li_gt40, li_lt240, li_ge240, li_le240, li_gt240, li_lt41, li_ge41, li_le41, li_gt41, li_lt48, li_ge48, li_le48, li_gt48, li_lt49, li_ge49, li_le49, li_gt49, li_lt60, li_ge60, li_le60, li_gt60, li_lt144, li_ge144, li_le144, li_gt144, li_lt145, li_ge145, li_le145, li_gt145, li_lt160, li_ge160, li_le160, li_gt160, li_lt336, li_ge336, li_le336, li_gt336, li_lt585, li_ge585, li_le585, li_gt585, li_lt633, li_ge633, li_le633, li_gt633, li_lt1000000, li_ge1000000, li_le1000000, li_gt1000000, li_lt2304, li_ge2304, li_le2304, li_gt2304, li_lt50, li_ge50, li_le50, li_gt50, li_le0, li_gt0, ec, pm_1]
        exact ⟨fun z => absurd z q, fun _ => h3'⟩
/-- who holds a value, once more -/
theorem yr_hw {B : Nat} {a s wh : Nat → Int32} {n : Nat} (hr : re_P B a s) (n1 : n ≤ 48) (n2 : ∀ x, xv_U a x → x < n) (n3 : ∀ v, v < 48 → wh v = ys_wh s (s v) n) {x : Nat} (hx : xv_U a x) : (xv_K a (xv_L a x) = 0 ∧ wh x = -1) ∨ (xv_K a (xv_L a x) ≠ 0 ∧ ∃ j, j < 48 ∧ wh x = nI j ∧ (yv_T s).1 j ∧ xv_L a j = xv_L a x) := by
  rcases yr_hv hr n1 n2 n3 hx with q | ⟨q, _⟩
  · exact Or.inl q
  · refine Or.inr ⟨q, ?_⟩
    have h5 := hr.2.2.2.2.1
    have wl := h5.1 x hx
    have w := re_wh hr n1 n2
    obtain ⟨u, u1, u2, _⟩ := ma_R_y h5 (c := xv_L a x) ⟨wl.2.1, wl.2.2.1, q⟩
    have hh := w.1 x hx ⟨u, u1, u2⟩
    obtain ⟨t, l⟩ := w.2.1 x hx hh
    obtain ⟨e1, e2, _⟩ := ys_hf n1 hh
    exact ⟨ys_f s n x, by omega, by rw [n3 x hx.1, e1], t, l⟩
/-- the two values of a class, side by side -/
theorem yr_xy {B : Nat} {a s : Nat → Int32} (hr : re_P B a s) {w c : Nat} (t : (yv_T s).1 w) (l : xv_L a w = c) : w < 48 ∧ s (48 + w) ≠ 0 ∧ yv_k s w = xv_K a c ∧ s (96 + w) = xv_V a c ∧ s (192 + w) = nI (ma_ct (xv_K a c)) ∧ ∀ k, k < ma_ct (xv_K a c) → ∃ q, s (240 + 3 * w + k) = nI q ∧ xv_U a q ∧ xv_L a q = xv_L a (xv_P a c k) := by
  have h5 := hr.2.2.2.2.1
  have w48 : w < 48 := (yv_T1 t).1.1
  obtain ⟨c1, c2, c3⟩ := ma_R_x h5 t
  rw [l] at c1 c2 c3
  have e1 : (yv_T s).2.1 w = (yv_k s w, s (96 + w)) := if_pos w48
  have k1 : yv_k s w = xv_K a c := by
    have := congrArg Prod.fst c2
    rw [e1] at this
    exact this.symm
  have k2 : s (96 + w) = xv_V a c := by
    have := congrArg Prod.snd c2
    rw [e1] at this
    exact this.symm
  have ec : ma_ct ((yv_T s).2.1 w).1 = ma_ct (xv_K a c) := by rw [← c2]; rfl
  refine ⟨w48, (yv_T1 t).2, k1, k2, ?_, fun k hk => ?_⟩
  · rw [← k1]; exact (yv_HC hr.2.1 w48 (yv_T1 t).2).1
  · rw [← ec] at hk
    have k3 : k < 3 := Nat.lt_of_lt_of_le hk (ma_ct_le _)
    exact ⟨yv_P s w k, (yv_HP hr.2.1 w48 k3).1, (h5.2.2.2.1 _ t).2 k hk, c3 k hk⟩
theorem nd_loop {f_trials f_drafted f_pairs f_metCount f_meetingCount : Int32} {a_held a_saved a_draft a_toldBefore a_pairX a_pairY a_stack a_met a_metAs a_copies a_meetings a_wasMeeting a_firstMet a_depths a_isKept : Nat → Int32} {g_trials g_drafted g_found : Int32} {b_s b_saved b_draft b_who b_met b_stack b_fresh b_deep : Nat → Int32} {b_alike b_meets : Nat → Int64} {B n kk : Nat} {b : Int32} (hr : re_P B a_held b_s) (hb : b = 0 ∨ b = 1) (n1 : n ≤ 48) (n2 : ∀ x, xv_U a_held x → x < n) (n3 : ∀ v, v < 48 → b_who v = ys_wh b_s (b_s v) n) (hkk : kk ≤ 40) : ∀ d i top (a_stack b_stack : Nat → Int32), i + d = kk → top ≤ 1 + 2 * i → (∀ j, j < top → ∃ p q, a_stack j = nI p ∧ b_stack j = nI q ∧ xv_U a_held p ∧ xv_U a_held q ∧ xv_L a_held p = xv_L a_held q) → ∃ (r : Int64) (st st2 : Nat → Int32), (∀ post : Int64 → SX → Prop, post r (f_trials, f_drafted, f_pairs, f_metCount, f_meetingCount, a_held, a_saved, a_draft, a_toldBefore, a_pairX, a_pairY, st, a_met, a_metAs, a_copies, a_meetings, a_wasMeeting, a_firstMet, a_depths, a_isKept) → wX_node_35 post (nI kk) b (d + 1) (nI top) (nI i) f_trials f_drafted f_pairs f_metCount f_meetingCount a_held a_saved a_draft a_toldBefore a_pairX a_pairY a_stack a_met a_metAs a_copies a_meetings a_wasMeeting a_firstMet a_depths a_isKept) ∧ (∀ post : Int64 → SY → Prop, post r (g_trials, g_drafted, g_found, b_s, b_saved, b_draft, b_who, b_met, st2, b_fresh, b_deep, b_alike, b_meets) → wY_node_43 post (nI kk) b g_trials g_drafted g_found (d + 1) (nI top) (nI i) b_s b_saved b_draft b_who b_met b_stack b_fresh b_deep b_alike b_meets) := by
  have nb : b = 0 ∨ ¬ b = 0 := by
    rcases hb with z | z
    · exact Or.inl z
    · exact Or.inr (by rw [z]; decide)
  have h1 := hr.1
  intro d
  induction d with
  | zero =>
    intro i top st st2 hi ht hs
    have ei : i = kk := by omega
    subst ei
    cases top with
    | zero =>
      refine ⟨-10000000000, st, st2, fun post hp => ?_, fun post hp => ?_⟩
      · rw [wX_node_35]
        exact br_f (fun q => by have := (li_gt40 (by omega)).mp q; omega) (br_t (by decide) hp)
      · rw [wY_node_43]
        exact br_t (by decide) hp
    | succ top =>
      obtain ⟨p, q, e1, e2, up, uq, el⟩ := hs top (by omega)
      have p48 := up.1
      have q48 := uq.1
      obtain ⟨eL, lL⟩ := xv_HL h1 p48
      have kc := xv_HK (a := a_held) lL
      have vc := xv_HV (a := a_held) lL
      have ve := h1.2.2.2.2.1 _ lL
      have topX : ∀ (post : Int64 → SX → Prop) (n : Nat), (((b = 0 → (post ((xv_K a_held (xv_L a_held p)).toInt64) (f_trials, f_drafted, f_pairs, f_metCount, f_meetingCount, a_held, a_saved, a_draft, a_toldBefore, a_pairX, a_pairY, st, a_met, a_metAs, a_copies, a_meetings, a_wasMeeting, a_firstMet, a_depths, a_isKept))) ∧ (¬ b = 0 → (wpX_numberOf (fun r_58 => (post r_58 (f_trials, f_drafted, f_pairs, f_metCount, f_meetingCount, a_held, a_saved, a_draft, a_toldBefore, a_pairX, a_pairY, st, a_met, a_metAs, a_copies, a_meetings, a_wasMeeting, a_firstMet, a_depths, a_isKept))) (f_trials, f_drafted, f_pairs, f_metCount, f_meetingCount, a_held, a_saved, a_draft, a_toldBefore, a_pairX, a_pairY, st, a_met, a_metAs, a_copies, a_meetings, a_wasMeeting, a_firstMet, a_depths, a_isKept) (nI (xv_L a_held p)))))) → wX_node_35 post (nI i) b (n + 1) (nI (top + 1)) (nI i) f_trials f_drafted f_pairs f_metCount f_meetingCount a_held a_saved a_draft a_toldBefore a_pairX a_pairY st a_met a_metAs a_copies a_meetings a_wasMeeting a_firstMet a_depths a_isKept := by
        intro post n hp
        rw [wX_node_35]
        dsimp only
        simp (disch := omega) only [forall_eq, true_and, and_true, Nat.zero_add, nI_clamp, li_vin, nI_add, nI_eq, nI_leI, nI_ltI, li_0le, li_lt0, li_nn1, li_e0, not_true_eq_false, not_false_eq_true, false_implies, true_implies, forall_const, li_a0, li_b0, li_a1, li_b1, li_a2, li_b2, li_a3, li_b3, li_a7, li_b7, li_a8, li_b8, li_a16, li_b16, li_a48, li_b48, li_a584, li_b584, li_a572, li_b572, li_a96, li_b96, li_a144, li_b144, li_a192, li_b192, li_a240, li_b240, li_a336, li_b336, li_a384, li_b384, li_a432, li_b432, li_a480, li_b480, li_a488, li_b488, li_a496, li_b496, li_a504, li_b504, li_a512, li_b512, li_a520, li_b520, li_a524, li_b524, li_a528, li_b528, li_a536, li_b536, li_a544, li_b544, li_a552, li_b552, li_a560, li_b560, li_a568, li_b568, li_a573, li_b573, li_a585, li_b585, li_a633, li_b633, li_m3, li_n3, li_m4, li_n4, li_m48, li_n48, li_m50, li_n50, li_m585, li_n585, li_m633, li_n633, li_lt2, li_ge2, li_le2, li_gt2, li_lt1, li_ge1, li_le1, li_gt1, li_lt3, li_ge3, li_le3, li_gt3, li_lt4, li_ge4, li_le4, li_gt4, li_lt7, li_ge7, li_le7, li_gt7, li_lt8, li_ge8, li_le8, li_gt8, li_lt40, li_ge40, li_le40, li_gt40, li_lt240, li_ge240, li_le240, li_gt240, li_lt41, li_ge41, li_le41, li_gt41, li_lt48, li_ge48, li_le48, li_gt48, li_lt49, li_ge49, li_le49, li_gt49, li_lt60, li_ge60, li_le60, li_gt60, li_lt144, li_ge144, li_le144, li_gt144, li_lt145, li_ge145, li_le145, li_gt145, li_lt160, li_ge160, li_le160, li_gt160, li_lt336, li_ge336, li_le336, li_gt336, li_lt585, li_ge585, li_le585, li_gt585, li_lt633, li_ge633, li_le633, li_gt633, li_lt1000000, li_ge1000000, li_le1000000, li_gt1000000, li_lt2304, li_ge2304, li_le2304, li_gt2304, li_lt50, li_ge50, li_le50, li_gt50, li_le0, li_gt0, pm_1, nI_pred, pk_m1, e1, eL, kc]
        exact ⟨fun q => by omega, fun _ => ⟨fun q => by omega, fun _ => hp⟩⟩
      rcases yr_hw hr n1 n2 n3 uq with ⟨k0, wq⟩ | ⟨k0, w, w48, wq, tw, lw⟩
      · rw [← el] at k0
        have eI := (re_Ls hr uq).1
        rcases nb with z | z
        · refine ⟨0, st, st2, fun post hp => topX post _ (br_t z ?_), fun post hp => ?_⟩
          · rw [k0]; exact hp
          · rw [wY_node_43]
            dsimp only
            simp (disch := omega) only [forall_eq, true_and, and_true, Nat.zero_add, nI_clamp, li_vin, nI_add, nI_eq, nI_leI, nI_ltI, li_0le, li_lt0, li_nn1, li_e0, not_true_eq_false, not_false_eq_true, false_implies, true_implies, forall_const, li_a0, li_b0, li_a1, li_b1, li_a2, li_b2, li_a3, li_b3, li_a7, li_b7, li_a8, li_b8, li_a16, li_b16, li_a48, li_b48, li_a584, li_b584, li_a572, li_b572, li_a96, li_b96, li_a144, li_b144, li_a192, li_b192, li_a240, li_b240, li_a336, li_b336, li_a384, li_b384, li_a432, li_b432, li_a480, li_b480, li_a488, li_b488, li_a496, li_b496, li_a504, li_b504, li_a512, li_b512, li_a520, li_b520, li_a524, li_b524, li_a528, li_b528, li_a536, li_b536, li_a544, li_b544, li_a552, li_b552, li_a560, li_b560, li_a568, li_b568, li_a573, li_b573, li_a585, li_b585, li_a633, li_b633, li_m3, li_n3, li_m4, li_n4, li_m48, li_n48, li_m50, li_n50, li_m585, li_n585, li_m633, li_n633, li_lt2, li_ge2, li_le2, li_gt2, li_lt1, li_ge1, li_le1, li_gt1, li_lt3, li_ge3, li_le3, li_gt3, li_lt4, li_ge4, li_le4, li_gt4, li_lt7, li_ge7, li_le7, li_gt7, li_lt8, li_ge8, li_le8, li_gt8, li_lt40, li_ge40, li_le40, li_gt40, li_lt240, li_ge240, li_le240, li_gt240, li_lt41, li_ge41, li_le41, li_gt41, li_lt48, li_ge48, li_le48, li_gt48, li_lt49, li_ge49, li_le49, li_gt49, li_lt60, li_ge60, li_le60, li_gt60, li_lt144, li_ge144, li_le144, li_gt144, li_lt145, li_ge145, li_le145, li_gt145, li_lt160, li_ge160, li_le160, li_gt160, li_lt336, li_ge336, li_le336, li_gt336, li_lt585, li_ge585, li_le585, li_gt585, li_lt633, li_ge633, li_le633, li_gt633, li_lt1000000, li_ge1000000, li_le1000000, li_gt1000000, li_lt2304, li_ge2304, li_le2304, li_gt2304, li_lt50, li_ge50, li_le50, li_gt50, li_le0, li_gt0, pk_m1, e2, wq]
            exact ⟨fun q => by omega, fun _ => br_f (by decide) (br_t z hp)⟩
        · refine ⟨(nI (xv_L a_held p)).toInt64, st, st2, fun post hp => topX post _ (br_f z ?_), fun post hp => ?_⟩
          · unfold wpX_numberOf
            simp (disch := omega) only [forall_eq, true_and, and_true, Nat.zero_add, nI_clamp, li_vin, nI_add, nI_eq, nI_leI, nI_ltI, li_0le, li_lt0, li_nn1, li_e0, not_true_eq_false, not_false_eq_true, false_implies, true_implies, forall_const, li_a0, li_b0, li_a1, li_b1, li_a2, li_b2, li_a3, li_b3, li_a7, li_b7, li_a8, li_b8, li_a16, li_b16, li_a48, li_b48, li_a584, li_b584, li_a572, li_b572, li_a96, li_b96, li_a144, li_b144, li_a192, li_b192, li_a240, li_b240, li_a336, li_b336, li_a384, li_b384, li_a432, li_b432, li_a480, li_b480, li_a488, li_b488, li_a496, li_b496, li_a504, li_b504, li_a512, li_b512, li_a520, li_b520, li_a524, li_b524, li_a528, li_b528, li_a536, li_b536, li_a544, li_b544, li_a552, li_b552, li_a560, li_b560, li_a568, li_b568, li_a573, li_b573, li_a585, li_b585, li_a633, li_b633, li_m3, li_n3, li_m4, li_n4, li_m48, li_n48, li_m50, li_n50, li_m585, li_n585, li_m633, li_n633, li_lt2, li_ge2, li_le2, li_gt2, li_lt1, li_ge1, li_le1, li_gt1, li_lt3, li_ge3, li_le3, li_gt3, li_lt4, li_ge4, li_le4, li_gt4, li_lt7, li_ge7, li_le7, li_gt7, li_lt8, li_ge8, li_le8, li_gt8, li_lt40, li_ge40, li_le40, li_gt40, li_lt240, li_ge240, li_le240, li_gt240, li_lt41, li_ge41, li_le41, li_gt41, li_lt48, li_ge48, li_le48, li_gt48, li_lt49, li_ge49, li_le49, li_gt49, li_lt60, li_ge60, li_le60, li_gt60, li_lt144, li_ge144, li_le144, li_gt144, li_lt145, li_ge145, li_le145, li_gt145, li_lt160, li_ge160, li_le160, li_gt160, li_lt336, li_ge336, li_le336, li_gt336, li_lt585, li_ge585, li_le585, li_gt585, li_lt633, li_ge633, li_le633, li_gt633, li_lt1000000, li_ge1000000, li_le1000000, li_gt1000000, li_lt2304, li_ge2304, li_le2304, li_gt2304, li_lt50, li_ge50, li_le50, li_gt50, li_le0, li_gt0, kc, k0]
            exact hp
          · rw [wY_node_43]
            dsimp only
            simp (disch := omega) only [forall_eq, true_and, and_true, Nat.zero_add, nI_clamp, li_vin, nI_add, nI_eq, nI_leI, nI_ltI, li_0le, li_lt0, li_nn1, li_e0, not_true_eq_false, not_false_eq_true, false_implies, true_implies, forall_const, li_a0, li_b0, li_a1, li_b1, li_a2, li_b2, li_a3, li_b3, li_a7, li_b7, li_a8, li_b8, li_a16, li_b16, li_a48, li_b48, li_a584, li_b584, li_a572, li_b572, li_a96, li_b96, li_a144, li_b144, li_a192, li_b192, li_a240, li_b240, li_a336, li_b336, li_a384, li_b384, li_a432, li_b432, li_a480, li_b480, li_a488, li_b488, li_a496, li_b496, li_a504, li_b504, li_a512, li_b512, li_a520, li_b520, li_a524, li_b524, li_a528, li_b528, li_a536, li_b536, li_a544, li_b544, li_a552, li_b552, li_a560, li_b560, li_a568, li_b568, li_a573, li_b573, li_a585, li_b585, li_a633, li_b633, li_m3, li_n3, li_m4, li_n4, li_m48, li_n48, li_m50, li_n50, li_m585, li_n585, li_m633, li_n633, li_lt2, li_ge2, li_le2, li_gt2, li_lt1, li_ge1, li_le1, li_gt1, li_lt3, li_ge3, li_le3, li_gt3, li_lt4, li_ge4, li_le4, li_gt4, li_lt7, li_ge7, li_le7, li_gt7, li_lt8, li_ge8, li_le8, li_gt8, li_lt40, li_ge40, li_le40, li_gt40, li_lt240, li_ge240, li_le240, li_gt240, li_lt41, li_ge41, li_le41, li_gt41, li_lt48, li_ge48, li_le48, li_gt48, li_lt49, li_ge49, li_le49, li_gt49, li_lt60, li_ge60, li_le60, li_gt60, li_lt144, li_ge144, li_le144, li_gt144, li_lt145, li_ge145, li_le145, li_gt145, li_lt160, li_ge160, li_le160, li_gt160, li_lt336, li_ge336, li_le336, li_gt336, li_lt585, li_ge585, li_le585, li_gt585, li_lt633, li_ge633, li_le633, li_gt633, li_lt1000000, li_ge1000000, li_le1000000, li_gt1000000, li_lt2304, li_ge2304, li_le2304, li_gt2304, li_lt50, li_ge50, li_le50, li_gt50, li_le0, li_gt0, pk_m1, e2, wq, eI]
            rw [← el]
            exact ⟨fun q => by omega, fun _ => br_f (by decide) (br_f z hp)⟩
      · rw [← el] at k0 lw
        obtain ⟨_, y0, yk, yv, yc, yp⟩ := yr_xy hr tw lw
        rcases hr.2.1.2.2.1 w w48 with s0 | ⟨s1, s2, s3⟩ | ⟨s1, s2, l, c, hl, hc, s3, s4⟩
        · exact absurd s0 y0
        · have K1 : xv_K a_held (xv_L a_held p) = 1 := by
            rw [← yk]; unfold yv_k; rw [if_pos s1]
          rcases nb with z | z
          · refine ⟨1, st, st2, fun post hp => topX post _ (br_t z ?_), fun post hp => ?_⟩
            · rw [K1]; exact hp
            · rw [wY_node_43]
              dsimp only
              simp (disch := omega) only [forall_eq, true_and, and_true, Nat.zero_add, nI_clamp, li_vin, nI_add, nI_eq, nI_leI, nI_ltI, li_0le, li_lt0, li_nn1, li_e0, not_true_eq_false, not_false_eq_true, false_implies, true_implies, forall_const, li_a0, li_b0, li_a1, li_b1, li_a2, li_b2, li_a3, li_b3, li_a7, li_b7, li_a8, li_b8, li_a16, li_b16, li_a48, li_b48, li_a584, li_b584, li_a572, li_b572, li_a96, li_b96, li_a144, li_b144, li_a192, li_b192, li_a240, li_b240, li_a336, li_b336, li_a384, li_b384, li_a432, li_b432, li_a480, li_b480, li_a488, li_b488, li_a496, li_b496, li_a504, li_b504, li_a512, li_b512, li_a520, li_b520, li_a524, li_b524, li_a528, li_b528, li_a536, li_b536, li_a544, li_b544, li_a552, li_b552, li_a560, li_b560, li_a568, li_b568, li_a573, li_b573, li_a585, li_b585, li_a633, li_b633, li_m3, li_n3, li_m4, li_n4, li_m48, li_n48, li_m50, li_n50, li_m585, li_n585, li_m633, li_n633, li_lt2, li_ge2, li_le2, li_gt2, li_lt1, li_ge1, li_le1, li_gt1, li_lt3, li_ge3, li_le3, li_gt3, li_lt4, li_ge4, li_le4, li_gt4, li_lt7, li_ge7, li_le7, li_gt7, li_lt8, li_ge8, li_le8, li_gt8, li_lt40, li_ge40, li_le40, li_gt40, li_lt240, li_ge240, li_le240, li_gt240, li_lt41, li_ge41, li_le41, li_gt41, li_lt48, li_ge48, li_le48, li_gt48, li_lt49, li_ge49, li_le49, li_gt49, li_lt60, li_ge60, li_le60, li_gt60, li_lt144, li_ge144, li_le144, li_gt144, li_lt145, li_ge145, li_le145, li_gt145, li_lt160, li_ge160, li_le160, li_gt160, li_lt336, li_ge336, li_le336, li_gt336, li_lt585, li_ge585, li_le585, li_gt585, li_lt633, li_ge633, li_le633, li_gt633, li_lt1000000, li_ge1000000, li_le1000000, li_gt1000000, li_lt2304, li_ge2304, li_le2304, li_gt2304, li_lt50, li_ge50, li_le50, li_gt50, li_le0, li_gt0, pk_m1, e2, wq, s1]
              exact ⟨fun q => by omega, fun _ => br_t z hp⟩
          · refine ⟨(b_s (96 + w)).toInt64, st, st2, fun post hp => topX post _ (br_f z ?_), fun post hp => ?_⟩
            · unfold wpX_numberOf
              simp (disch := omega) only [forall_eq, true_and, and_true, Nat.zero_add, nI_clamp, li_vin, nI_add, nI_eq, nI_leI, nI_ltI, li_0le, li_lt0, li_nn1, li_e0, not_true_eq_false, not_false_eq_true, false_implies, true_implies, forall_const, li_a0, li_b0, li_a1, li_b1, li_a2, li_b2, li_a3, li_b3, li_a7, li_b7, li_a8, li_b8, li_a16, li_b16, li_a48, li_b48, li_a584, li_b584, li_a572, li_b572, li_a96, li_b96, li_a144, li_b144, li_a192, li_b192, li_a240, li_b240, li_a336, li_b336, li_a384, li_b384, li_a432, li_b432, li_a480, li_b480, li_a488, li_b488, li_a496, li_b496, li_a504, li_b504, li_a512, li_b512, li_a520, li_b520, li_a524, li_b524, li_a528, li_b528, li_a536, li_b536, li_a544, li_b544, li_a552, li_b552, li_a560, li_b560, li_a568, li_b568, li_a573, li_b573, li_a585, li_b585, li_a633, li_b633, li_m3, li_n3, li_m4, li_n4, li_m48, li_n48, li_m50, li_n50, li_m585, li_n585, li_m633, li_n633, li_lt2, li_ge2, li_le2, li_gt2, li_lt1, li_ge1, li_le1, li_gt1, li_lt3, li_ge3, li_le3, li_gt3, li_lt4, li_ge4, li_le4, li_gt4, li_lt7, li_ge7, li_le7, li_gt7, li_lt8, li_ge8, li_le8, li_gt8, li_lt40, li_ge40, li_le40, li_gt40, li_lt240, li_ge240, li_le240, li_gt240, li_lt41, li_ge41, li_le41, li_gt41, li_lt48, li_ge48, li_le48, li_gt48, li_lt49, li_ge49, li_le49, li_gt49, li_lt60, li_ge60, li_le60, li_gt60, li_lt144, li_ge144, li_le144, li_gt144, li_lt145, li_ge145, li_le145, li_gt145, li_lt160, li_ge160, li_le160, li_gt160, li_lt336, li_ge336, li_le336, li_gt336, li_lt585, li_ge585, li_le585, li_gt585, li_lt633, li_ge633, li_le633, li_gt633, li_lt1000000, li_ge1000000, li_le1000000, li_gt1000000, li_lt2304, li_ge2304, li_le2304, li_gt2304, li_lt50, li_ge50, li_le50, li_gt50, li_le0, li_gt0, kc, vc]
              refine br_f k0 ?_
              rw [← yv]; exact hp
            · rw [wY_node_43]
              dsimp only
              simp (disch := omega) only [forall_eq, true_and, and_true, Nat.zero_add, nI_clamp, li_vin, nI_add, nI_eq, nI_leI, nI_ltI, li_0le, li_lt0, li_nn1, li_e0, not_true_eq_false, not_false_eq_true, false_implies, true_implies, forall_const, li_a0, li_b0, li_a1, li_b1, li_a2, li_b2, li_a3, li_b3, li_a7, li_b7, li_a8, li_b8, li_a16, li_b16, li_a48, li_b48, li_a584, li_b584, li_a572, li_b572, li_a96, li_b96, li_a144, li_b144, li_a192, li_b192, li_a240, li_b240, li_a336, li_b336, li_a384, li_b384, li_a432, li_b432, li_a480, li_b480, li_a488, li_b488, li_a496, li_b496, li_a504, li_b504, li_a512, li_b512, li_a520, li_b520, li_a524, li_b524, li_a528, li_b528, li_a536, li_b536, li_a544, li_b544, li_a552, li_b552, li_a560, li_b560, li_a568, li_b568, li_a573, li_b573, li_a585, li_b585, li_a633, li_b633, li_m3, li_n3, li_m4, li_n4, li_m48, li_n48, li_m50, li_n50, li_m585, li_n585, li_m633, li_n633, li_lt2, li_ge2, li_le2, li_gt2, li_lt1, li_ge1, li_le1, li_gt1, li_lt3, li_ge3, li_le3, li_gt3, li_lt4, li_ge4, li_le4, li_gt4, li_lt7, li_ge7, li_le7, li_gt7, li_lt8, li_ge8, li_le8, li_gt8, li_lt40, li_ge40, li_le40, li_gt40, li_lt240, li_ge240, li_le240, li_gt240, li_lt41, li_ge41, li_le41, li_gt41, li_lt48, li_ge48, li_le48, li_gt48, li_lt49, li_ge49, li_le49, li_gt49, li_lt60, li_ge60, li_le60, li_gt60, li_lt144, li_ge144, li_le144, li_gt144, li_lt145, li_ge145, li_le145, li_gt145, li_lt160, li_ge160, li_le160, li_gt160, li_lt336, li_ge336, li_le336, li_gt336, li_lt585, li_ge585, li_le585, li_gt585, li_lt633, li_ge633, li_le633, li_gt633, li_lt1000000, li_ge1000000, li_le1000000, li_gt1000000, li_lt2304, li_ge2304, li_le2304, li_gt2304, li_lt50, li_ge50, li_le50, li_gt50, li_le0, li_gt0, pk_m1, e2, wq, s1]
              exact ⟨fun q => by omega, fun _ => br_f z hp⟩
        · have Kr : xv_K a_held (xv_L a_held p) = nI (2 + 4 * l + c) := by rw [← yk]; exact yv_kr s1 s3 s4
          rcases nb with z | z
          · refine ⟨(nI (2 + 4 * l + c)).toInt64, st, st2, fun post hp => topX post _ (br_t z ?_), fun post hp => ?_⟩
            · rw [Kr]; exact hp
            · rw [wY_node_43]
              dsimp only
              simp (disch := omega) only [forall_eq, true_and, and_true, Nat.zero_add, nI_clamp, li_vin, nI_add, nI_eq, nI_leI, nI_ltI, li_0le, li_lt0, li_nn1, li_e0, not_true_eq_false, not_false_eq_true, false_implies, true_implies, forall_const, li_a0, li_b0, li_a1, li_b1, li_a2, li_b2, li_a3, li_b3, li_a7, li_b7, li_a8, li_b8, li_a16, li_b16, li_a48, li_b48, li_a584, li_b584, li_a572, li_b572, li_a96, li_b96, li_a144, li_b144, li_a192, li_b192, li_a240, li_b240, li_a336, li_b336, li_a384, li_b384, li_a432, li_b432, li_a480, li_b480, li_a488, li_b488, li_a496, li_b496, li_a504, li_b504, li_a512, li_b512, li_a520, li_b520, li_a524, li_b524, li_a528, li_b528, li_a536, li_b536, li_a544, li_b544, li_a552, li_b552, li_a560, li_b560, li_a568, li_b568, li_a573, li_b573, li_a585, li_b585, li_a633, li_b633, li_m3, li_n3, li_m4, li_n4, li_m48, li_n48, li_m50, li_n50, li_m585, li_n585, li_m633, li_n633, li_lt2, li_ge2, li_le2, li_gt2, li_lt1, li_ge1, li_le1, li_gt1, li_lt3, li_ge3, li_le3, li_gt3, li_lt4, li_ge4, li_le4, li_gt4, li_lt7, li_ge7, li_le7, li_gt7, li_lt8, li_ge8, li_le8, li_gt8, li_lt40, li_ge40, li_le40, li_gt40, li_lt240, li_ge240, li_le240, li_gt240, li_lt41, li_ge41, li_le41, li_gt41, li_lt48, li_ge48, li_le48, li_gt48, li_lt49, li_ge49, li_le49, li_gt49, li_lt60, li_ge60, li_le60, li_gt60, li_lt144, li_ge144, li_le144, li_gt144, li_lt145, li_ge145, li_le145, li_gt145, li_lt160, li_ge160, li_le160, li_gt160, li_lt336, li_ge336, li_le336, li_gt336, li_lt585, li_ge585, li_le585, li_gt585, li_lt633, li_ge633, li_le633, li_gt633, li_lt1000000, li_ge1000000, li_le1000000, li_gt1000000, li_lt2304, li_ge2304, li_le2304, li_gt2304, li_lt50, li_ge50, li_le50, li_gt50, li_le0, li_gt0, pk_m1, e2, wq, s1, s3, s4]
              exact ⟨fun q => by omega, fun _ => br_f (by decide) (br_t z hp)⟩
          · refine ⟨0, st, st2, fun post hp => topX post _ (br_f z ?_), fun post hp => ?_⟩
            · unfold wpX_numberOf
              simp (disch := omega) only [forall_eq, true_and, and_true, Nat.zero_add, nI_clamp, li_vin, nI_add, nI_eq, nI_leI, nI_ltI, li_0le, li_lt0, li_nn1, li_e0, not_true_eq_false, not_false_eq_true, false_implies, true_implies, forall_const, li_a0, li_b0, li_a1, li_b1, li_a2, li_b2, li_a3, li_b3, li_a7, li_b7, li_a8, li_b8, li_a16, li_b16, li_a48, li_b48, li_a584, li_b584, li_a572, li_b572, li_a96, li_b96, li_a144, li_b144, li_a192, li_b192, li_a240, li_b240, li_a336, li_b336, li_a384, li_b384, li_a432, li_b432, li_a480, li_b480, li_a488, li_b488, li_a496, li_b496, li_a504, li_b504, li_a512, li_b512, li_a520, li_b520, li_a524, li_b524, li_a528, li_b528, li_a536, li_b536, li_a544, li_b544, li_a552, li_b552, li_a560, li_b560, li_a568, li_b568, li_a573, li_b573, li_a585, li_b585, li_a633, li_b633, li_m3, li_n3, li_m4, li_n4, li_m48, li_n48, li_m50, li_n50, li_m585, li_n585, li_m633, li_n633, li_lt2, li_ge2, li_le2, li_gt2, li_lt1, li_ge1, li_le1, li_gt1, li_lt3, li_ge3, li_le3, li_gt3, li_lt4, li_ge4, li_le4, li_gt4, li_lt7, li_ge7, li_le7, li_gt7, li_lt8, li_ge8, li_le8, li_gt8, li_lt40, li_ge40, li_le40, li_gt40, li_lt240, li_ge240, li_le240, li_gt240, li_lt41, li_ge41, li_le41, li_gt41, li_lt48, li_ge48, li_le48, li_gt48, li_lt49, li_ge49, li_le49, li_gt49, li_lt60, li_ge60, li_le60, li_gt60, li_lt144, li_ge144, li_le144, li_gt144, li_lt145, li_ge145, li_le145, li_gt145, li_lt160, li_ge160, li_le160, li_gt160, li_lt336, li_ge336, li_le336, li_gt336, li_lt585, li_ge585, li_le585, li_gt585, li_lt633, li_ge633, li_le633, li_gt633, li_lt1000000, li_ge1000000, li_le1000000, li_gt1000000, li_lt2304, li_ge2304, li_le2304, li_gt2304, li_lt50, li_ge50, li_le50, li_gt50, li_le0, li_gt0, kc, vc]
              refine br_f k0 ?_
              rw [← yv, s2]; exact hp
            · rw [wY_node_43]
              dsimp only
              simp (disch := omega) only [forall_eq, true_and, and_true, Nat.zero_add, nI_clamp, li_vin, nI_add, nI_eq, nI_leI, nI_ltI, li_0le, li_lt0, li_nn1, li_e0, not_true_eq_false, not_false_eq_true, false_implies, true_implies, forall_const, li_a0, li_b0, li_a1, li_b1, li_a2, li_b2, li_a3, li_b3, li_a7, li_b7, li_a8, li_b8, li_a16, li_b16, li_a48, li_b48, li_a584, li_b584, li_a572, li_b572, li_a96, li_b96, li_a144, li_b144, li_a192, li_b192, li_a240, li_b240, li_a336, li_b336, li_a384, li_b384, li_a432, li_b432, li_a480, li_b480, li_a488, li_b488, li_a496, li_b496, li_a504, li_b504, li_a512, li_b512, li_a520, li_b520, li_a524, li_b524, li_a528, li_b528, li_a536, li_b536, li_a544, li_b544, li_a552, li_b552, li_a560, li_b560, li_a568, li_b568, li_a573, li_b573, li_a585, li_b585, li_a633, li_b633, li_m3, li_n3, li_m4, li_n4, li_m48, li_n48, li_m50, li_n50, li_m585, li_n585, li_m633, li_n633, li_lt2, li_ge2, li_le2, li_gt2, li_lt1, li_ge1, li_le1, li_gt1, li_lt3, li_ge3, li_le3, li_gt3, li_lt4, li_ge4, li_le4, li_gt4, li_lt7, li_ge7, li_le7, li_gt7, li_lt8, li_ge8, li_le8, li_gt8, li_lt40, li_ge40, li_le40, li_gt40, li_lt240, li_ge240, li_le240, li_gt240, li_lt41, li_ge41, li_le41, li_gt41, li_lt48, li_ge48, li_le48, li_gt48, li_lt49, li_ge49, li_le49, li_gt49, li_lt60, li_ge60, li_le60, li_gt60, li_lt144, li_ge144, li_le144, li_gt144, li_lt145, li_ge145, li_le145, li_gt145, li_lt160, li_ge160, li_le160, li_gt160, li_lt336, li_ge336, li_le336, li_gt336, li_lt585, li_ge585, li_le585, li_gt585, li_lt633, li_ge633, li_le633, li_gt633, li_lt1000000, li_ge1000000, li_le1000000, li_gt1000000, li_lt2304, li_ge2304, li_le2304, li_gt2304, li_lt50, li_ge50, li_le50, li_gt50, li_le0, li_gt0, pk_m1, e2, wq, s1]
              exact ⟨fun q => by omega, fun _ => br_f (by decide) (br_f z hp)⟩
  | succ d ih =>
    intro i top st st2 hi ht hs
    cases top with
    | zero =>
      refine ⟨-10000000000, st, st2, fun post hp => ?_, fun post hp => ?_⟩
      · rw [wX_node_35]
        exact br_f (fun q => by have := (li_gt40 (by omega)).mp q; omega) (br_t (by decide) hp)
      · rw [wY_node_43]
        exact br_t (by decide) hp
    | succ top =>
      obtain ⟨p, q, e1, e2, up, uq, el⟩ := hs top (by omega)
      have p48 := up.1
      have q48 := uq.1
      obtain ⟨eL, lL⟩ := xv_HL h1 p48
      have wl := hr.2.2.2.2.1.1 p up
      obtain ⟨stX, x1, x2, x3⟩ := xw_pushParts (f_trials := f_trials) (f_drafted := f_drafted) (f_pairs := f_pairs) (f_metCount := f_metCount) (f_meetingCount := f_meetingCount) (a_held := a_held) (a_saved := a_saved) (a_draft := a_draft) (a_toldBefore := a_toldBefore) (a_pairX := a_pairX) (a_pairY := a_pairY) (a_stack := st) (a_met := a_met) (a_metAs := a_metAs) (a_copies := a_copies) (a_meetings := a_meetings) (a_wasMeeting := a_wasMeeting) (a_firstMet := a_firstMet) (a_depths := a_depths) (a_isKept := a_isKept) h1 (top := top) lL (by omega)
      have ct3 := ma_ct_le (xv_K a_held (xv_L a_held p))
      have topX : ∀ (post : Int64 → SX → Prop) (n : Nat), wX_node_35 post (nI kk) b n (nI (top + ma_ct (xv_K a_held (xv_L a_held p)))) (nI (i + 1)) f_trials f_drafted f_pairs f_metCount f_meetingCount a_held a_saved a_draft a_toldBefore a_pairX a_pairY stX a_met a_metAs a_copies a_meetings a_wasMeeting a_firstMet a_depths a_isKept → wX_node_35 post (nI kk) b (n + 1) (nI (top + 1)) (nI i) f_trials f_drafted f_pairs f_metCount f_meetingCount a_held a_saved a_draft a_toldBefore a_pairX a_pairY st a_met a_metAs a_copies a_meetings a_wasMeeting a_firstMet a_depths a_isKept := by
        intro post n hp
        rw [wX_node_35]
        dsimp only
        simp (disch := omega) only [forall_eq, true_and, and_true, Nat.zero_add, nI_clamp, li_vin, nI_add, nI_eq, nI_leI, nI_ltI, li_0le, li_lt0, li_nn1, li_e0, not_true_eq_false, not_false_eq_true, false_implies, true_implies, forall_const, li_a0, li_b0, li_a1, li_b1, li_a2, li_b2, li_a3, li_b3, li_a7, li_b7, li_a8, li_b8, li_a16, li_b16, li_a48, li_b48, li_a584, li_b584, li_a572, li_b572, li_a96, li_b96, li_a144, li_b144, li_a192, li_b192, li_a240, li_b240, li_a336, li_b336, li_a384, li_b384, li_a432, li_b432, li_a480, li_b480, li_a488, li_b488, li_a496, li_b496, li_a504, li_b504, li_a512, li_b512, li_a520, li_b520, li_a524, li_b524, li_a528, li_b528, li_a536, li_b536, li_a544, li_b544, li_a552, li_b552, li_a560, li_b560, li_a568, li_b568, li_a573, li_b573, li_a585, li_b585, li_a633, li_b633, li_m3, li_n3, li_m4, li_n4, li_m48, li_n48, li_m50, li_n50, li_m585, li_n585, li_m633, li_n633, li_lt2, li_ge2, li_le2, li_gt2, li_lt1, li_ge1, li_le1, li_gt1, li_lt3, li_ge3, li_le3, li_gt3, li_lt4, li_ge4, li_le4, li_gt4, li_lt7, li_ge7, li_le7, li_gt7, li_lt8, li_ge8, li_le8, li_gt8, li_lt40, li_ge40, li_le40, li_gt40, li_lt240, li_ge240, li_le240, li_gt240, li_lt41, li_ge41, li_le41, li_gt41, li_lt48, li_ge48, li_le48, li_gt48, li_lt49, li_ge49, li_le49, li_gt49, li_lt60, li_ge60, li_le60, li_gt60, li_lt144, li_ge144, li_le144, li_gt144, li_lt145, li_ge145, li_le145, li_gt145, li_lt160, li_ge160, li_le160, li_gt160, li_lt336, li_ge336, li_le336, li_gt336, li_lt585, li_ge585, li_le585, li_gt585, li_lt633, li_ge633, li_le633, li_gt633, li_lt1000000, li_ge1000000, li_le1000000, li_gt1000000, li_lt2304, li_ge2304, li_le2304, li_gt2304, li_lt50, li_ge50, li_le50, li_gt50, li_le0, li_gt0, pk_m1, e1, eL]
        exact ⟨fun q => by omega, fun _ => ⟨fun q => by omega, fun _ => ⟨fun q => by omega, fun _ => x3 _ hp⟩⟩⟩
      have goX : ∀ j, j < top + ma_ct (xv_K a_held (xv_L a_held p)) → (j < top ∧ stX j = st j) ∨ (∃ k, k < ma_ct (xv_K a_held (xv_L a_held p)) ∧ j = top + (ma_ct (xv_K a_held (xv_L a_held p)) - 1 - k) ∧ stX j = nI (xv_P a_held (xv_L a_held p) k)) := by
        intro j hj
        by_cases z : j < top
        · exact Or.inl ⟨z, x1 j z⟩
        · refine Or.inr ⟨ma_ct (xv_K a_held (xv_L a_held p)) - 1 - (j - top), by omega, by omega, ?_⟩
          have := x2 (ma_ct (xv_K a_held (xv_L a_held p)) - 1 - (j - top)) (by omega)
          rw [show top + (ma_ct (xv_K a_held (xv_L a_held p)) - 1 - (ma_ct (xv_K a_held (xv_L a_held p)) - 1 - (j - top))) = j from by omega] at this
          exact this
      rcases yr_hw hr n1 n2 n3 uq with ⟨k0, wq⟩ | ⟨k0, w, w48, wq, tw, lw⟩
      · rw [← el] at k0
        have c0 : ma_ct (xv_K a_held (xv_L a_held p)) = 0 := by rw [k0]; exact ma_ct_0
        obtain ⟨r, s1, s2, g1, g2⟩ := ih (i + 1) (top + ma_ct (xv_K a_held (xv_L a_held p))) stX st2 (by omega) (by omega) (by
          intro j hj
          rw [c0] at hj
          rw [x1 j (by omega)]
          exact hs j (by omega))
        refine ⟨r, s1, s2, fun post hp => topX post _ (g1 post hp), fun post hp => ?_⟩
        have g2' := g2 post hp
        rw [c0] at g2'
        rw [wY_node_43]
        dsimp only
        simp (disch := omega) only [forall_eq, true_and, and_true, Nat.zero_add, nI_clamp, li_vin, nI_add, nI_eq, nI_leI, nI_ltI, li_0le, li_lt0, li_nn1, li_e0, not_true_eq_false, not_false_eq_true, false_implies, true_implies, forall_const, li_a0, li_b0, li_a1, li_b1, li_a2, li_b2, li_a3, li_b3, li_a7, li_b7, li_a8, li_b8, li_a16, li_b16, li_a48, li_b48, li_a584, li_b584, li_a572, li_b572, li_a96, li_b96, li_a144, li_b144, li_a192, li_b192, li_a240, li_b240, li_a336, li_b336, li_a384, li_b384, li_a432, li_b432, li_a480, li_b480, li_a488, li_b488, li_a496, li_b496, li_a504, li_b504, li_a512, li_b512, li_a520, li_b520, li_a524, li_b524, li_a528, li_b528, li_a536, li_b536, li_a544, li_b544, li_a552, li_b552, li_a560, li_b560, li_a568, li_b568, li_a573, li_b573, li_a585, li_b585, li_a633, li_b633, li_m3, li_n3, li_m4, li_n4, li_m48, li_n48, li_m50, li_n50, li_m585, li_n585, li_m633, li_n633, li_lt2, li_ge2, li_le2, li_gt2, li_lt1, li_ge1, li_le1, li_gt1, li_lt3, li_ge3, li_le3, li_gt3, li_lt4, li_ge4, li_le4, li_gt4, li_lt7, li_ge7, li_le7, li_gt7, li_lt8, li_ge8, li_le8, li_gt8, li_lt40, li_ge40, li_le40, li_gt40, li_lt240, li_ge240, li_le240, li_gt240, li_lt41, li_ge41, li_le41, li_gt41, li_lt48, li_ge48, li_le48, li_gt48, li_lt49, li_ge49, li_le49, li_gt49, li_lt60, li_ge60, li_le60, li_gt60, li_lt144, li_ge144, li_le144, li_gt144, li_lt145, li_ge145, li_le145, li_gt145, li_lt160, li_ge160, li_le160, li_gt160, li_lt336, li_ge336, li_le336, li_gt336, li_lt585, li_ge585, li_le585, li_gt585, li_lt633, li_ge633, li_le633, li_gt633, li_lt1000000, li_ge1000000, li_le1000000, li_gt1000000, li_lt2304, li_ge2304, li_le2304, li_gt2304, li_lt50, li_ge50, li_le50, li_gt50, li_le0, li_gt0, pk_m1, e2, wq]
        refine ⟨fun q => by omega, fun _ => ⟨fun q => by omega, fun _ => ⟨1, ?_⟩⟩⟩
        rw [wY_node_180]
        exact br_f (by decide) (br_t (by decide) g2')
      · rw [← el] at k0 lw
        obtain ⟨_, y0, yk, yv, yc, yp⟩ := yr_xy hr tw lw
        obtain ⟨stY, z1, z2, z3⟩ := yw_push_180 (g_trials := g_trials) (g_drafted := g_drafted) (g_found := g_found) (b_s := b_s) (b_saved := b_saved) (b_draft := b_draft) (b_who := b_who) (b_met := b_met) (b_stack := b_stack) (b_fresh := b_fresh) (b_deep := b_deep) (b_alike := b_alike) (b_meets := b_meets) (x2 := nI kk) (x3 := b) (x5 := nI (i + 1)) w48 ct3 yc 3 top st2 (by omega) (by omega)
        rw [mn_ge ct3] at z2 z3
        obtain ⟨r, s1, s2, g1, g2⟩ := ih (i + 1) (top + ma_ct (xv_K a_held (xv_L a_held p))) stX stY (by omega) (by omega) (by
          intro j hj
          rcases goX j hj with ⟨a1, a2⟩ | ⟨k, k1, k2, k3⟩
          · rw [a2, z1 j a1]; exact hs j (by omega)
          · obtain ⟨qq, q1, q2, q3⟩ := yp k k1
            refine ⟨xv_P a_held (xv_L a_held p) k, qq, k3, ?_, ?_, q2, q3.symm⟩
            · rw [k2, z2 k k1]; exact q1
            · exact hr.2.2.2.2.1.2.2.1 _ ⟨wl.2.1, wl.2.2.1, k0⟩ k k1)
        refine ⟨r, s1, s2, fun post hp => topX post _ (g1 post hp), fun post hp => ?_⟩
        have g2' := g2 post hp
        rw [wY_node_43]
        dsimp only
        simp (disch := omega) only [forall_eq, true_and, and_true, Nat.zero_add, nI_clamp, li_vin, nI_add, nI_eq, nI_leI, nI_ltI, li_0le, li_lt0, li_nn1, li_e0, not_true_eq_false, not_false_eq_true, false_implies, true_implies, forall_const, li_a0, li_b0, li_a1, li_b1, li_a2, li_b2, li_a3, li_b3, li_a7, li_b7, li_a8, li_b8, li_a16, li_b16, li_a48, li_b48, li_a584, li_b584, li_a572, li_b572, li_a96, li_b96, li_a144, li_b144, li_a192, li_b192, li_a240, li_b240, li_a336, li_b336, li_a384, li_b384, li_a432, li_b432, li_a480, li_b480, li_a488, li_b488, li_a496, li_b496, li_a504, li_b504, li_a512, li_b512, li_a520, li_b520, li_a524, li_b524, li_a528, li_b528, li_a536, li_b536, li_a544, li_b544, li_a552, li_b552, li_a560, li_b560, li_a568, li_b568, li_a573, li_b573, li_a585, li_b585, li_a633, li_b633, li_m3, li_n3, li_m4, li_n4, li_m48, li_n48, li_m50, li_n50, li_m585, li_n585, li_m633, li_n633, li_lt2, li_ge2, li_le2, li_gt2, li_lt1, li_ge1, li_le1, li_gt1, li_lt3, li_ge3, li_le3, li_gt3, li_lt4, li_ge4, li_le4, li_gt4, li_lt7, li_ge7, li_le7, li_gt7, li_lt8, li_ge8, li_le8, li_gt8, li_lt40, li_ge40, li_le40, li_gt40, li_lt240, li_ge240, li_le240, li_gt240, li_lt41, li_ge41, li_le41, li_gt41, li_lt48, li_ge48, li_le48, li_gt48, li_lt49, li_ge49, li_le49, li_gt49, li_lt60, li_ge60, li_le60, li_gt60, li_lt144, li_ge144, li_le144, li_gt144, li_lt145, li_ge145, li_le145, li_gt145, li_lt160, li_ge160, li_le160, li_gt160, li_lt336, li_ge336, li_le336, li_gt336, li_lt585, li_ge585, li_le585, li_gt585, li_lt633, li_ge633, li_le633, li_gt633, li_lt1000000, li_ge1000000, li_le1000000, li_gt1000000, li_lt2304, li_ge2304, li_le2304, li_gt2304, li_lt50, li_ge50, li_le50, li_gt50, li_le0, li_gt0, pk_m1, e2, wq]
        exact ⟨fun q => by omega, fun _ => ⟨fun q => by omega, fun _ => ⟨_, z3 post _ g2'⟩⟩⟩
theorem i_vc_node {k : Nat} {u : SX} {v : SY} (I : i_Rel k u v) (hk : k + 4 ≤ 2048) (v1 : Int32) (v2 : Int32) (v3 : Int32) : wpX_node (fun r u' => wpY_node (fun r' v' => r' = r ∧ i_Rel (k + 4) u' v') v v1 v2 (lw_bz v3)) u v1 v2 (lw_bz v3) := by
  obtain ⟨f_trials, f_drafted, f_pairs, f_metCount, f_meetingCount, a_held, a_saved, a_draft, a_toldBefore, a_pairX, a_pairY, a_stack, a_met, a_metAs, a_copies, a_meetings, a_wasMeeting, a_firstMet, a_depths, a_isKept⟩ := u
  obtain ⟨g_trials, g_drafted, g_found, b_s, b_saved, b_draft, b_who, b_met, b_stack, b_fresh, b_deep, b_alike, b_meets⟩ := v
  have P := (re_A_C I).1
  have R := re_A_up (k := k) (k' := k + 4) (by omega) I
  have yU := re_U P
  have hb := lw_bz_01 v3
  generalize lw_bz v3 = b at *
  unfold wpX_node
  by_cases hx : ∃ x, xv_U a_held x ∧ v1 = nI x
  · obtain ⟨x, ux, rfl⟩ := hx
    refine xw_inUse_t (f_trials := f_trials) (f_drafted := f_drafted) (f_pairs := f_pairs) (f_metCount := f_metCount) (f_meetingCount := f_meetingCount) (a_held := a_held) (a_saved := a_saved) (a_draft := a_draft) (a_toldBefore := a_toldBefore) (a_pairX := a_pairX) (a_pairY := a_pairY) (a_stack := a_stack) (a_met := a_met) (a_metAs := a_metAs) (a_copies := a_copies) (a_meetings := a_meetings) (a_wasMeeting := a_wasMeeting) (a_firstMet := a_firstMet) (a_depths := a_depths) (a_isKept := a_isKept) ux _ (br_f (by decide) ?_)
    by_cases h0 : v2 < 0
    · refine br_t h0 ?_
      unfold wpY_node
      exact yw_isUsed_t (g_trials := g_trials) (g_drafted := g_drafted) (g_found := g_found) (b_s := b_s) (b_saved := b_saved) (b_draft := b_draft) (b_who := b_who) (b_met := b_met) (b_stack := b_stack) (b_fresh := b_fresh) (b_deep := b_deep) (b_alike := b_alike) (b_meets := b_meets) (re_pos P ux) _ (br_f (by decide) (br_t h0 ⟨rfl, R⟩))
    · obtain ⟨kk, hkk, rfl⟩ := nI_of h0
      refine br_f h0 ?_
      by_cases h40 : kk ≤ 40
      · obtain ⟨n, wh, n1, n2, n3, n4⟩ := yw_values (g_trials := g_trials) (g_drafted := g_drafted) (g_found := g_found) (b_s := b_s) (b_saved := b_saved) (b_draft := b_draft) (b_who := b_who) (b_met := b_met) (b_stack := b_stack) (b_fresh := b_fresh) (b_deep := b_deep) (b_alike := b_alike) (b_meets := b_meets) P.2.1
        obtain ⟨r, st, st2, g1, g2⟩ := nd_loop (f_trials := f_trials) (f_drafted := f_drafted) (f_pairs := f_pairs) (f_metCount := f_metCount) (f_meetingCount := f_meetingCount) (a_held := a_held) (a_saved := a_saved) (a_draft := a_draft) (a_toldBefore := a_toldBefore) (a_pairX := a_pairX) (a_pairY := a_pairY) (a_stack := a_stack) (a_met := a_met) (a_metAs := a_metAs) (a_copies := a_copies) (a_meetings := a_meetings) (a_wasMeeting := a_wasMeeting) (a_firstMet := a_firstMet) (a_depths := a_depths) (a_isKept := a_isKept) (g_trials := g_trials) (g_drafted := g_drafted) (g_found := g_found) (b_s := b_s) (b_saved := b_saved) (b_draft := b_draft) (b_who := wh) (b_met := b_met) (b_stack := b_stack) (b_fresh := b_fresh) (b_deep := b_deep) (b_alike := b_alike) (b_meets := b_meets) P hb n1 (fun x hx => n2 x (by rw [yU]; exact hx)) n3 h40 kk 0 1 (upd a_stack 0 (nI x)) (upd b_stack 0 (nI x)) (by omega) (by omega) (by
          intro j hj
          have : j = 0 := by omega
          rw [this, pk_us, pk_us]
          exact ⟨x, x, rfl, rfl, ux, ux, rfl⟩)
        refine br_t ((li_le40 (by omega)).mpr h40) (nm_e ⟨_, g1 _ ?_⟩)
        unfold wpY_node
        refine yw_isUsed_t (g_trials := g_trials) (g_drafted := g_drafted) (g_found := g_found) (b_s := b_s) (b_saved := b_saved) (b_draft := b_draft) (b_who := b_who) (b_met := b_met) (b_stack := b_stack) (b_fresh := b_fresh) (b_deep := b_deep) (b_alike := b_alike) (b_meets := b_meets) (re_pos P ux) _ (br_f (by decide) (br_f h0 (br_t ((li_le40 (by omega)).mpr h40) (n4 _ ?_))))
        exact nm_r (e' := nI 1) (by decide) (nm_e ⟨_, g2 _ ⟨rfl, R⟩⟩)
      · refine br_f (fun q => h40 ((li_le40 (by omega)).mp q)) ?_
        unfold wpY_node
        exact yw_isUsed_t (g_trials := g_trials) (g_drafted := g_drafted) (g_found := g_found) (b_s := b_s) (b_saved := b_saved) (b_draft := b_draft) (b_who := b_who) (b_met := b_met) (b_stack := b_stack) (b_fresh := b_fresh) (b_deep := b_deep) (b_alike := b_alike) (b_meets := b_meets) (re_pos P ux) _ (br_f (by decide) (br_f h0 (br_f (fun q => h40 ((li_le40 (by omega)).mp q)) ⟨rfl, R⟩)))
  · refine xw_inUse_f (f_trials := f_trials) (f_drafted := f_drafted) (f_pairs := f_pairs) (f_metCount := f_metCount) (f_meetingCount := f_meetingCount) (a_held := a_held) (a_saved := a_saved) (a_draft := a_draft) (a_toldBefore := a_toldBefore) (a_pairX := a_pairX) (a_pairY := a_pairY) (a_stack := a_stack) (a_met := a_met) (a_metAs := a_metAs) (a_copies := a_copies) (a_meetings := a_meetings) (a_wasMeeting := a_wasMeeting) (a_firstMet := a_firstMet) (a_depths := a_depths) (a_isKept := a_isKept) hx _ (br_t rfl ?_)
    unfold wpY_node
    exact yw_isUsed_f (g_trials := g_trials) (g_drafted := g_drafted) (g_found := g_found) (b_s := b_s) (b_saved := b_saved) (b_draft := b_draft) (b_who := b_who) (b_met := b_met) (b_stack := b_stack) (b_fresh := b_fresh) (b_deep := b_deep) (b_alike := b_alike) (b_meets := b_meets) (re_neg P hx) _ (br_t rfl ⟨rfl, R⟩)
