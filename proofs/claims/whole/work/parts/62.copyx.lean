/-- both gather the same -/
theorem ga_both {f_trials f_drafted f_pairs f_metCount f_meetingCount : Int32} {a_held a_saved a_draft a_toldBefore a_pairX a_pairY a_stack a_met a_metAs a_copies a_meetings a_wasMeeting a_firstMet a_depths a_isKept : Nat → Int32} {g_trials g_drafted g_found : Int32} {b_s b_saved b_draft b_who b_met b_stack b_fresh b_deep : Nat → Int32} {b_alike b_meets : Nat → Int64} {B x : Nat} (hr : re_P B a_held b_s) (ux : xv_U a_held x) : ∃ (M i : Nat) (m s : Nat → Nat) (D : Nat → Prop) (ix : Nat → Nat) (fp : Int32) (tb px py st met metAs st2 met2 wh : Nat → Int32) (al : Nat → Int64), ga_I a_held x m M s 0 i D ix ∧ ga_X a_held st met metAs m M s 0 D ix ∧ ga_Y a_held st2 met2 m M s 0 ∧ yr_R a_held b_s wh al ∧ (∀ post : SX → Prop, post (f_trials, f_drafted, fp, nI M, f_meetingCount, a_held, a_saved, a_draft, tb, px, py, st, met, metAs, a_copies, a_meetings, a_wasMeeting, a_firstMet, a_depths, a_isKept) → wpX_gather post (f_trials, f_drafted, f_pairs, f_metCount, f_meetingCount, a_held, a_saved, a_draft, a_toldBefore, a_pairX, a_pairY, a_stack, a_met, a_metAs, a_copies, a_meetings, a_wasMeeting, a_firstMet, a_depths, a_isKept) (nI x)) ∧ (∀ post : SY → Prop, post (g_trials, g_drafted, nI M, b_s, b_saved, b_draft, wh, met2, st2, b_fresh, b_deep, al, b_meets) → wpY_gather post (g_trials, g_drafted, g_found, b_s, b_saved, b_draft, b_who, b_met, b_stack, b_fresh, b_deep, b_alike, b_meets) (nI x)) := by
  obtain ⟨wh, al, hR, rY⟩ := yw_relate (g_trials := g_trials) (g_drafted := g_drafted) (g_found := g_found) (b_s := b_s) (b_saved := b_saved) (b_draft := b_draft) (b_who := b_who) (b_met := b_met) (b_stack := b_stack) (b_fresh := b_fresh) (b_deep := b_deep) (b_alike := b_alike) (b_meets := b_meets) hr
  obtain ⟨M, i, m, s, D, ix, fp, tb, px, py, st, met, mA, st2, met2, a1, a2, a3, a4, a5⟩ := ga_loop (f_trials := f_trials) (f_drafted := f_drafted) (f_pairs := f_pairs) (f_metCount := f_metCount) (f_meetingCount := f_meetingCount) (a_held := a_held) (a_saved := a_saved) (a_draft := a_draft) (a_toldBefore := a_toldBefore) (a_pairX := a_pairX) (a_pairY := a_pairY) (a_stack := a_stack) (a_met := a_met) (a_metAs := a_metAs) (a_copies := a_copies) (a_meetings := a_meetings) (a_wasMeeting := a_wasMeeting) (a_firstMet := a_firstMet) (a_depths := a_depths) (a_isKept := a_isKept) (g_trials := g_trials) (g_drafted := g_drafted) (g_found := g_found) (b_s := b_s) (b_saved := b_saved) (b_draft := b_draft) (b_who := wh) (b_met := b_met) (b_stack := b_stack) (b_fresh := b_fresh) (b_deep := b_deep) (b_alike := al) (b_meets := b_meets) (x := x) hr hR 145 0 1 0 (fun _ => 0) (fun _ => x) (fun _ => False) (fun _ => 0) f_pairs a_toldBefore a_pairX a_pairY (upd a_stack 0 (nI x)) a_met a_metAs (upd b_stack 0 (nI x)) b_met (by omega) (ga_0 ux rfl) ⟨fun j hj => by rw [show j = 0 from by omega, pk_us], fun j hj => by omega, fun c hc => hc.elim⟩ ⟨fun j hj => ⟨x, by rw [show j = 0 from by omega, pk_us], ux, rfl⟩, fun j hj => by omega⟩
  refine ⟨M, i, m, s, D, ix, fp, tb, px, py, st, met, mA, st2, met2, wh, al, a1, a2, a3, hR, fun post hp => ?_, fun post hp => ?_⟩
  · unfold wpX_gather
    exact nm_e ⟨_, a4 post hp⟩
  · unfold wpY_gather
    refine rY _ ?_
    exact nm_r (e' := nI 1) (by decide) (nm_e ⟨_, a5 post hp⟩)
theorem i_vc_different {k : Nat} {u : SX} {v : SY} (I : i_Rel k u v) (hk : k + 4 ≤ 2048) (v1 : Int32) : wpX_different (fun r u' => wpY_different (fun r' v' => r' = r ∧ i_Rel (k + 4) u' v') v v1) u v1 := by
  obtain ⟨f_trials, f_drafted, f_pairs, f_metCount, f_meetingCount, a_held, a_saved, a_draft, a_toldBefore, a_pairX, a_pairY, a_stack, a_met, a_metAs, a_copies, a_meetings, a_wasMeeting, a_firstMet, a_depths, a_isKept⟩ := u
  obtain ⟨g_trials, g_drafted, g_found, b_s, b_saved, b_draft, b_who, b_met, b_stack, b_fresh, b_deep, b_alike, b_meets⟩ := v
  have P := (re_A_C I).1
  have R := re_A_up (k := k) (k' := k + 4) (by omega) I
  unfold wpX_different
  by_cases hx : ∃ x, xv_U a_held x ∧ v1 = nI x
  · obtain ⟨x, ux, rfl⟩ := hx
    obtain ⟨M, i, m, s, D, ix, fp, tb, px, py, st, met, mA, st2, met2, wh, al, a1, a2, a3, hR, a4, a5⟩ := ga_both (f_trials := f_trials) (f_drafted := f_drafted) (f_pairs := f_pairs) (f_metCount := f_metCount) (f_meetingCount := f_meetingCount) (a_held := a_held) (a_saved := a_saved) (a_draft := a_draft) (a_toldBefore := a_toldBefore) (a_pairX := a_pairX) (a_pairY := a_pairY) (a_stack := a_stack) (a_met := a_met) (a_metAs := a_metAs) (a_copies := a_copies) (a_meetings := a_meetings) (a_wasMeeting := a_wasMeeting) (a_firstMet := a_firstMet) (a_depths := a_depths) (a_isKept := a_isKept) (g_trials := g_trials) (g_drafted := g_drafted) (g_found := g_found) (b_s := b_s) (b_saved := b_saved) (b_draft := b_draft) (b_who := b_who) (b_met := b_met) (b_stack := b_stack) (b_fresh := b_fresh) (b_deep := b_deep) (b_alike := b_alike) (b_meets := b_meets) P ux
    refine xw_inUse_t (f_trials := f_trials) (f_drafted := f_drafted) (f_pairs := f_pairs) (f_metCount := f_metCount) (f_meetingCount := f_meetingCount) (a_held := a_held) (a_saved := a_saved) (a_draft := a_draft) (a_toldBefore := a_toldBefore) (a_pairX := a_pairX) (a_pairY := a_pairY) (a_stack := a_stack) (a_met := a_met) (a_metAs := a_metAs) (a_copies := a_copies) (a_meetings := a_meetings) (a_wasMeeting := a_wasMeeting) (a_firstMet := a_firstMet) (a_depths := a_depths) (a_isKept := a_isKept) ux _ (br_f (by decide) (a4 _ ?_))
    unfold wpY_different
    exact yw_isUsed_t (g_trials := g_trials) (g_drafted := g_drafted) (g_found := g_found) (b_s := b_s) (b_saved := b_saved) (b_draft := b_draft) (b_who := b_who) (b_met := b_met) (b_stack := b_stack) (b_fresh := b_fresh) (b_deep := b_deep) (b_alike := b_alike) (b_meets := b_meets) (re_pos P ux) _ (br_f (by decide) (a5 _ ⟨rfl, R⟩))
  · refine xw_inUse_f (f_trials := f_trials) (f_drafted := f_drafted) (f_pairs := f_pairs) (f_metCount := f_metCount) (f_meetingCount := f_meetingCount) (a_held := a_held) (a_saved := a_saved) (a_draft := a_draft) (a_toldBefore := a_toldBefore) (a_pairX := a_pairX) (a_pairY := a_pairY) (a_stack := a_stack) (a_met := a_met) (a_metAs := a_metAs) (a_copies := a_copies) (a_meetings := a_meetings) (a_wasMeeting := a_wasMeeting) (a_firstMet := a_firstMet) (a_depths := a_depths) (a_isKept := a_isKept) hx _ (br_t rfl ?_)
    unfold wpY_different
    exact yw_isUsed_f (g_trials := g_trials) (g_drafted := g_drafted) (g_found := g_found) (b_s := b_s) (b_saved := b_saved) (b_draft := b_draft) (b_who := b_who) (b_met := b_met) (b_stack := b_stack) (b_fresh := b_fresh) (b_deep := b_deep) (b_alike := b_alike) (b_meets := b_meets) (re_neg P hx) _ (br_t rfl ⟨rfl, R⟩)
theorem sc_mono {P : Nat → Prop} : ∀ {n k : Nat}, sc_n P n ≤ sc_n P (n + k) := by
  intro n k
  induction k with
  | zero => exact Nat.le_refl _
  | succ k ih =>
    by_cases q : P (n + k)
    · have := sc_y q
      rw [show n + (k + 1) = n + k + 1 from by omega]
      omega
    · have := sc_no q
      rw [show n + (k + 1) = n + k + 1 from by omega]
      omega
theorem sc_lt {P : Nat → Prop} {v z : Nat} (h : v < z) (p : P v) : sc_n P v < sc_n P z := by
  have h1 := sc_y p
  have h2 := sc_mono (P := P) (n := v + 1) (k := z - (v + 1))
  rw [show v + 1 + (z - (v + 1)) = z from by omega] at h2
  omega
theorem sc_gt {P : Nat → Prop} : ∀ z i, i < sc_n P z → ∃ v, v < z ∧ P v ∧ sc_n P v = i := by
  intro z
  induction z with
  | zero => intro i h; rw [sc_0] at h; omega
  | succ z ih =>
    intro i h
    by_cases q : P z
    · rw [sc_y q] at h
      by_cases e : i = sc_n P z
      · exact ⟨z, by omega, q, e.symm⟩
      · obtain ⟨v, v1, v2⟩ := ih i (by omega)
        exact ⟨v, by omega, v2⟩
    · rw [sc_no q] at h
      obtain ⟨v, v1, v2⟩ := ih i h
      exact ⟨v, by omega, v2⟩
/-- the i-th that is not in USE -/
def fr_F (a : Nat → Int32) (i z : Nat) : Prop := z < 48 ∧ ¬ xv_U a z ∧ sc_n (fun v => ¬ xv_U a v) z = i
theorem fr_one {a : Nat → Int32} {i z z' : Nat} (h : fr_F a i z) (h' : fr_F a i z') : z = z' := by
  obtain ⟨_, h2, h3⟩ := h
  obtain ⟨_, h2', h3'⟩ := h'
  rcases Nat.lt_trichotomy z z' with q | q | q
  · have := sc_lt (P := fun v => ¬ xv_U a v) q h2
    omega
  · exact q
  · have := sc_lt (P := fun v => ¬ xv_U a v) q h2'
    omega
/-- how many are in USE, and how many are not -/
theorem fr_sum (a : Nat → Int32) : ∀ n, sc_n (xv_U a) n + sc_n (fun v => ¬ xv_U a v) n = n := by
  intro n
  induction n with
  | zero => rw [sc_0, sc_0]
  | succ n ih =>
    by_cases q : xv_U a n
    · rw [sc_y q, sc_no (P := fun v => ¬ xv_U a v) (fun z => z q)]; omega
    · rw [sc_no q, sc_y (P := fun v => ¬ xv_U a v) q]; omega
/-- the first i of these are taken -/
def cp_F (a : Nat → Int32) (i z : Nat) : Prop := z < 48 ∧ ¬ xv_U a z ∧ sc_n (fun v => ¬ xv_U a v) z < i
def cp_T (a0 a : Nat → Int32) (i : Nat) : Prop :=
  (∀ z, cp_F a0 i z → a (336 + z) = 1 ∧ a z = nI z ∧ a (48 + z) = 0 ∧ a (96 + z) = 0 ∧ a (144 + z) = 0) ∧
  (∀ z, z < 48 → ¬ cp_F a0 i z → a z = a0 z ∧ a (48 + z) = a0 (48 + z) ∧ a (96 + z) = a0 (96 + z) ∧ a (144 + z) = a0 (144 + z) ∧ a (336 + z) = a0 (336 + z)) ∧
  (∀ j, (192 ≤ j ∧ j < 336) ∨ 384 ≤ j → a j = a0 j)
theorem cp_U {a0 a : Nat → Int32} {i : Nat} (h : cp_T a0 a i) (z : Nat) : xv_U a z ↔ (xv_U a0 z ∨ cp_F a0 i z) := by
  obtain ⟨h1, h2, h3⟩ := h
  constructor
  · intro ⟨p, q⟩
    by_cases f : cp_F a0 i z
    · exact Or.inr f
    · rw [(h2 z p f).2.2.2.2] at q
      exact Or.inl ⟨p, q⟩
  · intro q
    by_cases f : cp_F a0 i z
    · exact ⟨f.1, (h1 z f).1⟩
    · rcases q with q | q
      · exact ⟨q.1, by rw [(h2 z q.1 f).2.2.2.2]; exact q.2⟩
      · exact absurd q f
theorem cp_36 {f_trials f_drafted f_pairs f_metCount f_meetingCount : Int32} {a_held a_saved a_draft a_toldBefore a_pairX a_pairY a_stack a_met a_metAs a_copies a_meetings a_wasMeeting a_firstMet a_depths a_isKept : Nat → Int32} {a0 : Nat → Int32} {M : Nat} (hM : M ≤ sc_n (fun v => ¬ xv_U a0 v) 48) (hM48 : M ≤ 48) : ∀ d i (a_held a_copies : Nat → Int32), i + d = M → cp_T a0 a_held i → xv_H a_held → (∀ j, j < i → ∃ z, fr_F a0 j z ∧ a_copies j = nI z) → ∃ a' cps : Nat → Int32, cp_T a0 a' M ∧ xv_H a' ∧ (∀ j, j < M → ∃ z, fr_F a0 j z ∧ cps j = nI z) ∧ ∀ post : Int32 → SX → Prop, (∃ n78 : Nat, wX_copy_78 post n78 0 f_trials f_drafted f_pairs (nI M) f_meetingCount a' a_saved a_draft a_toldBefore a_pairX a_pairY a_stack a_met a_metAs cps a_meetings a_wasMeeting a_firstMet a_depths a_isKept) → wX_copy_36 post (d + 1) (nI i) f_trials f_drafted f_pairs (nI M) f_meetingCount a_held a_saved a_draft a_toldBefore a_pairX a_pairY a_stack a_met a_metAs a_copies a_meetings a_wasMeeting a_firstMet a_depths a_isKept := by
  intro d
  induction d with
  | zero =>
    intro i a cps hi hT hH hc
    have ei : i = M := by omega
    rw [ei] at hT hc
    refine ⟨a, cps, hT, hH, hc, fun post hp => ?_⟩
    rw [wX_copy_36]
    refine br_c (fun _ => hp) (fun _ => br_t ?_ hp)
    exact (nI_leI (by omega) (by omega)).mpr (by omega)
  | succ d ih =>
    intro i a cps hi hT hH hc
    have uU := cp_U hT
    obtain ⟨r, l1, l2⟩ := xw_leastUnused (f_trials := f_trials) (f_drafted := f_drafted) (f_pairs := f_pairs) (f_metCount := nI M) (f_meetingCount := f_meetingCount) (a_held := a) (a_saved := a_saved) (a_draft := a_draft) (a_toldBefore := a_toldBefore) (a_pairX := a_pairX) (a_pairY := a_pairY) (a_stack := a_stack) (a_met := a_met) (a_metAs := a_metAs) (a_copies := cps) (a_meetings := a_meetings) (a_wasMeeting := a_wasMeeting) (a_firstMet := a_firstMet) (a_depths := a_depths) (a_isKept := a_isKept) hH
    obtain ⟨v0, w1, w2, w3⟩ := sc_gt (P := fun v => ¬ xv_U a0 v) 48 i (by omega)
    have nv0 : ¬ xv_U a v0 := by
      intro q
      rcases (uU v0).mp q with q | q
      · exact w2 q
      · have := q.2.2
        omega
    rcases l1 with ⟨_, all⟩ | ⟨z, hz, er, nz, lz⟩
    · exact absurd (all v0 w1) nv0
    · subst er
      have nz0 : ¬ xv_U a0 z := fun q => nz ((uU z).mpr (Or.inl q))
      have ge : i ≤ sc_n (fun v => ¬ xv_U a0 v) z := by
        apply Classical.byContradiction
        intro q
        exact nz ((uU z).mpr (Or.inr ⟨hz, nz0, by omega⟩))
      have eqi : sc_n (fun v => ¬ xv_U a0 v) z = i := by
        apply Classical.byContradiction
        intro q
        obtain ⟨v, v1, v2, v3⟩ := sc_gt (P := fun v => ¬ xv_U a0 v) z i (by omega)
        rcases (uU v).mp (lz v v1) with o | o
        · exact v2 o
        · have := o.2.2
          omega
      have fz : fr_F a0 i z := ⟨hz, nz0, eqi⟩
      obtain ⟨a1, t1, t2⟩ := xw_take (f_trials := f_trials) (f_drafted := f_drafted) (f_pairs := f_pairs) (f_metCount := nI M) (f_meetingCount := f_meetingCount) (a_held := a) (a_saved := a_saved) (a_draft := a_draft) (a_toldBefore := a_toldBefore) (a_pairX := a_pairX) (a_pairY := a_pairY) (a_stack := a_stack) (a_met := a_met) (a_metAs := a_metAs) (a_copies := cps) (a_meetings := a_meetings) (a_wasMeeting := a_wasMeeting) (a_firstMet := a_firstMet) (a_depths := a_depths) (a_isKept := a_isKept) hz
      have hH1 := tk_XH t1 hz hH
      have F1 : ∀ v, cp_F a0 (i + 1) v ↔ (cp_F a0 i v ∨ v = z) := by
        intro v
        constructor
        · intro ⟨p1, p2, p3⟩
          by_cases q : sc_n (fun v => ¬ xv_U a0 v) v = i
          · exact Or.inr (fr_one ⟨p1, p2, q⟩ fz)
          · exact Or.inl ⟨p1, p2, by omega⟩
        · intro q
          rcases q with ⟨p1, p2, p3⟩ | q
          · exact ⟨p1, p2, by omega⟩
          · rw [q]; exact ⟨hz, nz0, by omega⟩
      have nFz : ¬ cp_F a0 i z := fun q => by have := q.2.2; omega
      have hT1 : cp_T a0 a1 (i + 1) := by
        obtain ⟨q1, q2, q3⟩ := hT
        obtain ⟨k1, k2, k3, k4, k5, k6⟩ := t1
        refine ⟨fun v hv => ?_, fun v hv nv => ?_, fun j hj => ?_⟩
        · by_cases e : v = z
          · rw [e]; exact ⟨k1, k2, k3, k4, k5⟩
          · have hv' := ((F1 v).mp hv).resolve_right e
            have v48 := hv'.1
            rw [k6 (336 + v) (by omega) (by omega) (by omega) (by omega) (by omega), k6 v (by omega) (by omega) (by omega) (by omega) (by omega), k6 (48 + v) (by omega) (by omega) (by omega) (by omega) (by omega), k6 (96 + v) (by omega) (by omega) (by omega) (by omega) (by omega), k6 (144 + v) (by omega) (by omega) (by omega) (by omega) (by omega)]
            exact q1 v hv'
        · have e : v ≠ z := fun e => nv ((F1 v).mpr (Or.inr e))
          rw [k6 (336 + v) (by omega) (by omega) (by omega) (by omega) (by omega), k6 v (by omega) (by omega) (by omega) (by omega) (by omega), k6 (48 + v) (by omega) (by omega) (by omega) (by omega) (by omega), k6 (96 + v) (by omega) (by omega) (by omega) (by omega) (by omega), k6 (144 + v) (by omega) (by omega) (by omega) (by omega) (by omega)]
          exact q2 v hv (fun q => nv ((F1 v).mpr (Or.inl q)))
        · rw [k6 j (by omega) (by omega) (by omega) (by omega) (by omega)]; exact q3 j hj
      obtain ⟨a', cps', b1, b2, b3, b4⟩ := ih (i + 1) a1 (upd cps i (nI z)) (by omega) hT1 hH1 (by
        intro j hj
        by_cases e : j = i
        · rw [e, pk_us]; exact ⟨z, fz, rfl⟩
        · rw [pk_un e]; exact hc j (by omega))
      refine ⟨a', cps', b1, b2, b3, fun post hp => ?_⟩
      rw [wX_copy_36]
      refine br_f (fun q => by have := (li_ge48 (by omega)).mp q; omega) (br_f (fun q => by have := (nI_leI (by omega) (by omega)).mp q; omega) (l2 _ (t2 _ ?_)))
      simp (disch := omega) only [forall_eq, true_and, and_true, Nat.zero_add, nI_clamp, li_vin, nI_add, nI_eq, nI_leI, nI_ltI, li_0le, li_lt0, li_nn1, li_e0, not_true_eq_false, not_false_eq_true, false_implies, true_implies, forall_const, li_a0, li_b0, li_a1, li_b1, li_a2, li_b2, li_a3, li_b3, li_a7, li_b7, li_a8, li_b8, li_a16, li_b16, li_a48, li_b48, li_a584, li_b584, li_a572, li_b572, li_a96, li_b96, li_a144, li_b144, li_a192, li_b192, li_a240, li_b240, li_a336, li_b336, li_a384, li_b384, li_a432, li_b432, li_a480, li_b480, li_a488, li_b488, li_a496, li_b496, li_a504, li_b504, li_a512, li_b512, li_a520, li_b520, li_a524, li_b524, li_a528, li_b528, li_a536, li_b536, li_a544, li_b544, li_a552, li_b552, li_a560, li_b560, li_a568, li_b568, li_a573, li_b573, li_a585, li_b585, li_a633, li_b633, li_m3, li_n3, li_m4, li_n4, li_m48, li_n48, li_m50, li_n50, li_m585, li_n585, li_m633, li_n633, li_lt2, li_ge2, li_le2, li_gt2, li_lt1, li_ge1, li_le1, li_gt1, li_lt3, li_ge3, li_le3, li_gt3, li_lt4, li_ge4, li_le4, li_gt4, li_lt7, li_ge7, li_le7, li_gt7, li_lt8, li_ge8, li_le8, li_gt8, li_lt40, li_ge40, li_le40, li_gt40, li_lt240, li_ge240, li_le240, li_gt240, li_lt41, li_ge41, li_le41, li_gt41, li_lt48, li_ge48, li_le48, li_gt48, li_lt49, li_ge49, li_le49, li_gt49, li_lt60, li_ge60, li_le60, li_gt60, li_lt144, li_ge144, li_le144, li_gt144, li_lt145, li_ge145, li_le145, li_gt145, li_lt160, li_ge160, li_le160, li_gt160, li_lt336, li_ge336, li_le336, li_gt336, li_lt585, li_ge585, li_le585, li_gt585, li_lt633, li_ge633, li_le633, li_gt633, li_lt1000000, li_ge1000000, li_le1000000, li_gt1000000, li_lt2304, li_ge2304, li_le2304, li_gt2304, li_lt50, li_ge50, li_le50, li_gt50, li_le0, li_gt0]
      exact b4 post hp
/-- the cells of a copy -/
theorem xw_fillCopy {f_trials f_drafted f_pairs f_metCount f_meetingCount : Int32} {a_held a_saved a_draft a_toldBefore a_pairX a_pairY a_stack a_met a_metAs a_copies a_meetings a_wasMeeting a_firstMet a_depths a_isKept : Nat → Int32} {c z n : Nat} {g : Nat → Nat} (h : xv_H a_held) (hc : c < 48) (hz : z < 48) (ne : c ≠ z) (en : ma_ct (xv_K a_held c) = n) (hg : ∀ k, k < n → ∃ e, e < 48 ∧ a_metAs (xv_L a_held (xv_P a_held c k)) = nI e ∧ a_copies e = nI (g k)) (hL : ∀ k, k < n → xv_P a_held c k ≠ z) : ∃ a' : Nat → Int32, a' (48 + z) = a_held (48 + c) ∧ a' (96 + z) = a_held (96 + c) ∧ a' (144 + z) = a_held (144 + c) ∧ (∀ k, k < n → a' (192 + 3 * z + k) = nI (g k)) ∧ (∀ i, i ≠ 48 + z → i ≠ 96 + z → i ≠ 144 + z → (i < 192 + 3 * z ∨ 192 + 3 * z + n ≤ i) → a' i = a_held i) ∧ ∀ post : SX → Prop, post (f_trials, f_drafted, f_pairs, f_metCount, f_meetingCount, a', a_saved, a_draft, a_toldBefore, a_pairX, a_pairY, a_stack, a_met, a_metAs, a_copies, a_meetings, a_wasMeeting, a_firstMet, a_depths, a_isKept) → wpX_fillCopy post (f_trials, f_drafted, f_pairs, f_metCount, f_meetingCount, a_held, a_saved, a_draft, a_toldBefore, a_pairX, a_pairY, a_stack, a_met, a_metAs, a_copies, a_meetings, a_wasMeeting, a_firstMet, a_depths, a_isKept) (nI c) (nI z) := by
  obtain ⟨ce, cl⟩ := xv_HC h hc
  rw [en] at ce cl
  have lp : ∀ d j (b : Nat → Int32), j + d = n → (∀ k, k < 3 → b (192 + 3 * c + k) = a_held (192 + 3 * c + k)) → (∀ x, x < 48 → b x = a_held x) → ∃ a' : Nat → Int32, (∀ k, j ≤ k → k < n → a' (192 + 3 * z + k) = nI (g k)) ∧ (∀ i, (i < 192 + 3 * z + j ∨ 192 + 3 * z + n ≤ i) → a' i = b i) ∧ ∀ post : SX → Prop, post (f_trials, f_drafted, f_pairs, f_metCount, f_meetingCount, a', a_saved, a_draft, a_toldBefore, a_pairX, a_pairY, a_stack, a_met, a_metAs, a_copies, a_meetings, a_wasMeeting, a_firstMet, a_depths, a_isKept) → wX_fillCopy_61 post (nI c) (nI z) (nI n) f_trials f_drafted f_pairs f_metCount f_meetingCount (d + 1) (nI j) b a_saved a_draft a_toldBefore a_pairX a_pairY a_stack a_met a_metAs a_copies a_meetings a_wasMeeting a_firstMet a_depths a_isKept := by
    intro d
    induction d with
    | zero =>
      intro j b hj hb hb2
      refine ⟨b, fun k h1 h2 => by omega, fun _ _ => rfl, fun post hp => ?_⟩
      unfold wX_fillCopy_61
      simp (disch := omega) only [forall_eq, true_and, and_true, Nat.zero_add, nI_clamp, li_vin, nI_add, nI_eq, nI_leI, nI_ltI, li_0le, li_lt0, li_nn1, li_e0, not_true_eq_false, not_false_eq_true, false_implies, true_implies, forall_const, li_a0, li_b0, li_a1, li_b1, li_a2, li_b2, li_a3, li_b3, li_a7, li_b7, li_a8, li_b8, li_a16, li_b16, li_a48, li_b48, li_a584, li_b584, li_a572, li_b572, li_a96, li_b96, li_a144, li_b144, li_a192, li_b192, li_a240, li_b240, li_a336, li_b336, li_a384, li_b384, li_a432, li_b432, li_a480, li_b480, li_a488, li_b488, li_a496, li_b496, li_a504, li_b504, li_a512, li_b512, li_a520, li_b520, li_a524, li_b524, li_a528, li_b528, li_a536, li_b536, li_a544, li_b544, li_a552, li_b552, li_a560, li_b560, li_a568, li_b568, li_a573, li_b573, li_a585, li_b585, li_a633, li_b633, li_m3, li_n3, li_m4, li_n4, li_m48, li_n48, li_m50, li_n50, li_m585, li_n585, li_m633, li_n633, li_lt2, li_ge2, li_le2, li_gt2, li_lt1, li_ge1, li_le1, li_gt1, li_lt3, li_ge3, li_le3, li_gt3, li_lt4, li_ge4, li_le4, li_gt4, li_lt7, li_ge7, li_le7, li_gt7, li_lt8, li_ge8, li_le8, li_gt8, li_lt40, li_ge40, li_le40, li_gt40, li_lt240, li_ge240, li_le240, li_gt240, li_lt41, li_ge41, li_le41, li_gt41, li_lt48, li_ge48, li_le48, li_gt48, li_lt49, li_ge49, li_le49, li_gt49, li_lt60, li_ge60, li_le60, li_gt60, li_lt144, li_ge144, li_le144, li_gt144, li_lt145, li_ge145, li_le145, li_gt145, li_lt160, li_ge160, li_le160, li_gt160, li_lt336, li_ge336, li_le336, li_gt336, li_lt585, li_ge585, li_le585, li_gt585, li_lt633, li_ge633, li_le633, li_gt633, li_lt1000000, li_ge1000000, li_le1000000, li_gt1000000, li_lt2304, li_ge2304, li_le2304, li_gt2304, li_lt50, li_ge50, li_le50, li_gt50, li_le0, li_gt0]
      exact ⟨fun _ => hp, fun q => by omega⟩
    | succ d ih =>
      intro j b hj hb hb2
      obtain ⟨pe, pl⟩ := xv_HP h hc (k := j) (by omega)
      obtain ⟨le, ll⟩ := xv_HL h pl
      obtain ⟨e, e48, g1, g2⟩ := hg j (by omega)
      have pe' : b (192 + 3 * c + j) = nI (xv_P a_held c j) := by rw [hb j (by omega)]; exact pe
      have le' : b (xv_P a_held c j) = nI (xv_L a_held (xv_P a_held c j)) := by rw [hb2 _ pl]; exact le
      obtain ⟨a', h1, h2, h3⟩ := ih (j + 1) (upd b (192 + 3 * z + j) (nI (g j))) (by omega) (fun k hk => by rw [pk_un (by omega)]; exact hb k hk) (fun x hx => by rw [pk_un (by omega)]; exact hb2 x hx)
      refine ⟨a', ?_, ?_, fun post hp => ?_⟩
      · intro k k1 k2
        by_cases q : k = j
        · rw [q, h2 _ (by omega), pk_us]
        · exact h1 k (by omega) k2
      · intro i hi
        rw [h2 i (by omega), pk_un (by omega)]
      · unfold wX_fillCopy_61
        simp (disch := omega) only [forall_eq, true_and, and_true, Nat.zero_add, nI_clamp, li_vin, nI_add, nI_eq, nI_leI, nI_ltI, li_0le, li_lt0, li_nn1, li_e0, not_true_eq_false, not_false_eq_true, false_implies, true_implies, forall_const, li_a0, li_b0, li_a1, li_b1, li_a2, li_b2, li_a3, li_b3, li_a7, li_b7, li_a8, li_b8, li_a16, li_b16, li_a48, li_b48, li_a584, li_b584, li_a572, li_b572, li_a96, li_b96, li_a144, li_b144, li_a192, li_b192, li_a240, li_b240, li_a336, li_b336, li_a384, li_b384, li_a432, li_b432, li_a480, li_b480, li_a488, li_b488, li_a496, li_b496, li_a504, li_b504, li_a512, li_b512, li_a520, li_b520, li_a524, li_b524, li_a528, li_b528, li_a536, li_b536, li_a544, li_b544, li_a552, li_b552, li_a560, li_b560, li_a568, li_b568, li_a573, li_b573, li_a585, li_b585, li_a633, li_b633, li_m3, li_n3, li_m4, li_n4, li_m48, li_n48, li_m50, li_n50, li_m585, li_n585, li_m633, li_n633, li_lt2, li_ge2, li_le2, li_gt2, li_lt1, li_ge1, li_le1, li_gt1, li_lt3, li_ge3, li_le3, li_gt3, li_lt4, li_ge4, li_le4, li_gt4, li_lt7, li_ge7, li_le7, li_gt7, li_lt8, li_ge8, li_le8, li_gt8, li_lt40, li_ge40, li_le40, li_gt40, li_lt240, li_ge240, li_le240, li_gt240, li_lt41, li_ge41, li_le41, li_gt41, li_lt48, li_ge48, li_le48, li_gt48, li_lt49, li_ge49, li_le49, li_gt49, li_lt60, li_ge60, li_le60, li_gt60, li_lt144, li_ge144, li_le144, li_gt144, li_lt145, li_ge145, li_le145, li_gt145, li_lt160, li_ge160, li_le160, li_gt160, li_lt336, li_ge336, li_le336, li_gt336, li_lt585, li_ge585, li_le585, li_gt585, li_lt633, li_ge633, li_le633, li_gt633, li_lt1000000, li_ge1000000, li_le1000000, li_gt1000000, li_lt2304, li_ge2304, li_le2304, li_gt2304, li_lt50, li_ge50, li_le50, li_gt50, li_le0, li_gt0, pe', le', g1, g2]
        exact ⟨fun q => by omega, fun _ => h3 post hp⟩
  obtain ⟨a', h1, h2, h3⟩ := lp n 0 (upd (upd (upd a_held (48 + z) (a_held (48 + c))) (96 + z) (a_held (96 + c))) (144 + z) (nI n)) (by omega) (fun k hk => by rw [pk_un (by omega), pk_un (by omega), pk_un (by omega)]) (fun x hx => by rw [pk_un (by omega), pk_un (by omega), pk_un (by omega)])
  refine ⟨a', ?_, ?_, ?_, fun k hk => h1 k (by omega) hk, fun i i1 i2 i3 i4 => ?_, fun post hp => ?_⟩
  · rw [h2 _ (by omega)]
    simp (disch := omega) only [pk_un, pk_us]
  · rw [h2 _ (by omega)]
    simp (disch := omega) only [pk_un, pk_us]
  · rw [h2 _ (by omega), pk_us, ce]
  · rw [h2 i (by omega), pk_un i3, pk_un i2, pk_un i1]
  · unfold wpX_fillCopy
    simp (disch := omega) only [forall_eq, true_and, and_true, Nat.zero_add, nI_clamp, li_vin, nI_add, nI_eq, nI_leI, nI_ltI, li_0le, li_lt0, li_nn1, li_e0, not_true_eq_false, not_false_eq_true, false_implies, true_implies, forall_const, li_a0, li_b0, li_a1, li_b1, li_a2, li_b2, li_a3, li_b3, li_a7, li_b7, li_a8, li_b8, li_a16, li_b16, li_a48, li_b48, li_a584, li_b584, li_a572, li_b572, li_a96, li_b96, li_a144, li_b144, li_a192, li_b192, li_a240, li_b240, li_a336, li_b336, li_a384, li_b384, li_a432, li_b432, li_a480, li_b480, li_a488, li_b488, li_a496, li_b496, li_a504, li_b504, li_a512, li_b512, li_a520, li_b520, li_a524, li_b524, li_a528, li_b528, li_a536, li_b536, li_a544, li_b544, li_a552, li_b552, li_a560, li_b560, li_a568, li_b568, li_a573, li_b573, li_a585, li_b585, li_a633, li_b633, li_m3, li_n3, li_m4, li_n4, li_m48, li_n48, li_m50, li_n50, li_m585, li_n585, li_m633, li_n633, li_lt2, li_ge2, li_le2, li_gt2, li_lt1, li_ge1, li_le1, li_gt1, li_lt3, li_ge3, li_le3, li_gt3, li_lt4, li_ge4, li_le4, li_gt4, li_lt7, li_ge7, li_le7, li_gt7, li_lt8, li_ge8, li_le8, li_gt8, li_lt40, li_ge40, li_le40, li_gt40, li_lt240, li_ge240, li_le240, li_gt240, li_lt41, li_ge41, li_le41, li_gt41, li_lt48, li_ge48, li_le48, li_gt48, li_lt49, li_ge49, li_le49, li_gt49, li_lt60, li_ge60, li_le60, li_gt60, li_lt144, li_ge144, li_le144, li_gt144, li_lt145, li_ge145, li_le145, li_gt145, li_lt160, li_ge160, li_le160, li_gt160, li_lt336, li_ge336, li_le336, li_gt336, li_lt585, li_ge585, li_le585, li_gt585, li_lt633, li_ge633, li_le633, li_gt633, li_lt1000000, li_ge1000000, li_le1000000, li_gt1000000, li_lt2304, li_ge2304, li_le2304, li_gt2304, li_lt50, li_ge50, li_le50, li_gt50, li_le0, li_gt0, pk_un, ce]
    exact ⟨_, h3 post hp⟩
