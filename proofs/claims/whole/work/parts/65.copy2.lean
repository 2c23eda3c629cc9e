theorem i_vc_copy {k : Nat} {u : SX} {v : SY} (I : i_Rel k u v) (hk : k + 4 ≤ 2048) (v1 : Int32) : wpX_copy (fun r u' => wpY_copy (fun r' v' => r' = r ∧ i_Rel (k + 4) u' v') v v1) u v1 := by
  obtain ⟨f_trials, f_drafted, f_pairs, f_metCount, f_meetingCount, a_held, a_saved, a_draft, a_toldBefore, a_pairX, a_pairY, a_stack, a_met, a_metAs, a_copies, a_meetings, a_wasMeeting, a_firstMet, a_depths, a_isKept⟩ := u
  obtain ⟨g_trials, g_drafted, g_found, b_s, b_saved, b_draft, b_who, b_met, b_stack, b_fresh, b_deep, b_alike, b_meets⟩ := v
  have C := re_A_C I
  have P := C.1
  have R := re_A_up (k := k) (k' := k + 4) (by omega) I
  have yU := re_U P
  have g := re_G P
  unfold wpX_copy
  by_cases hx : ∃ x, xv_U a_held x ∧ v1 = nI x
  · obtain ⟨x, ux, rfl⟩ := hx
    obtain ⟨M, i, m, s, D, ix, fp, tb, px, py, st, met, mA, st2, met2, wh, al, a1, a2, a3, hR, a4, a5⟩ := ga_both (f_trials := f_trials) (f_drafted := f_drafted) (f_pairs := f_pairs) (f_metCount := f_metCount) (f_meetingCount := f_meetingCount) (a_held := a_held) (a_saved := a_saved) (a_draft := a_draft) (a_toldBefore := a_toldBefore) (a_pairX := a_pairX) (a_pairY := a_pairY) (a_stack := a_stack) (a_met := a_met) (a_metAs := a_metAs) (a_copies := a_copies) (a_meetings := a_meetings) (a_wasMeeting := a_wasMeeting) (a_firstMet := a_firstMet) (a_depths := a_depths) (a_isKept := a_isKept) (g_trials := g_trials) (g_drafted := g_drafted) (g_found := g_found) (b_s := b_s) (b_saved := b_saved) (b_draft := b_draft) (b_who := b_who) (b_met := b_met) (b_stack := b_stack) (b_fresh := b_fresh) (b_deep := b_deep) (b_alike := b_alike) (b_meets := b_meets) P ux
    have hM := ga_M g a1
    obtain ⟨X1, X2, X3⟩ := a2
    obtain ⟨Y1, Y2⟩ := a3
    obtain ⟨I1, I2, I3, I4, I5, I6, I7, I8⟩ := a1
    have hP : ∀ j, j < M → ∀ k, k < ma_ct (xv_K a_held (m j)) → D (xv_L a_held (xv_P a_held (m j) k)) := by
      intro j hj k hk
      rcases I7 j hj k hk with q | ⟨j', hj', _⟩
      · exact q
      · omega
    have M0 : 0 < M := by
      rcases I8 with ⟨_, q, _⟩ | q
      · omega
      · exact q.1
    have sum := fr_sum a_held 48
    obtain ⟨n, fresh, f1, f2⟩ := yw_copy_19 (g_trials := g_trials) (g_drafted := g_drafted) (g_found := g_found) (b_s := b_s) (b_saved := b_saved) (b_draft := b_draft) (b_who := wh) (b_met := met2) (b_stack := st2) (b_fresh := b_fresh) (b_deep := b_deep) (b_alike := al) (b_meets := b_meets) (a0 := a_held) (M := M) hM yU P.2.1 48 0 b_fresh rfl (by rw [sc_0]; omega) (fun j hj => by rw [sc_0] at hj; omega)
    rw [sc_0] at f2
    have sub : (48 : Int32) - nI (sc_n (xv_U a_held) 48) = nI (48 - sc_n (xv_U a_held) 48) := pk_sub (a := 48) (by omega)
    have topY : ∀ postY : Int32 → SY → Prop, wY_copy_62 postY (nI n) g_trials g_drafted (nI M) b_s b_saved b_draft wh met2 st2 fresh b_deep al b_meets → wpY_copy postY (g_trials, g_drafted, g_found, b_s, b_saved, b_draft, b_who, b_met, b_stack, b_fresh, b_deep, b_alike, b_meets) (nI x) := by
      intro postY hp
      unfold wpY_copy
      exact yw_isUsed_t (g_trials := g_trials) (g_drafted := g_drafted) (g_found := g_found) (b_s := b_s) (b_saved := b_saved) (b_draft := b_draft) (b_who := b_who) (b_met := b_met) (b_stack := b_stack) (b_fresh := b_fresh) (b_deep := b_deep) (b_alike := b_alike) (b_meets := b_meets) (re_pos P ux) _ (br_f (by decide) (a5 _ ⟨_, f2 postY hp⟩))
    refine xw_inUse_t (f_trials := f_trials) (f_drafted := f_drafted) (f_pairs := f_pairs) (f_metCount := f_metCount) (f_meetingCount := f_meetingCount) (a_held := a_held) (a_saved := a_saved) (a_draft := a_draft) (a_toldBefore := a_toldBefore) (a_pairX := a_pairX) (a_pairY := a_pairY) (a_stack := a_stack) (a_met := a_met) (a_metAs := a_metAs) (a_copies := a_copies) (a_meetings := a_meetings) (a_wasMeeting := a_wasMeeting) (a_firstMet := a_firstMet) (a_depths := a_depths) (a_isKept := a_isKept) ux _ (br_f (by decide) (a4 _ ?_))
    refine xw_usedCount (f_trials := f_trials) (f_drafted := f_drafted) (f_pairs := fp) (f_metCount := nI M) (f_meetingCount := f_meetingCount) (a_held := a_held) (a_saved := a_saved) (a_draft := a_draft) (a_toldBefore := tb) (a_pairX := px) (a_pairY := py) (a_stack := st) (a_met := met) (a_metAs := mA) (a_copies := a_copies) (a_meetings := a_meetings) (a_wasMeeting := a_wasMeeting) (a_firstMet := a_firstMet) (a_depths := a_depths) (a_isKept := a_isKept) P.1 _ ?_
    rw [sub]
    by_cases full : M ≤ 48 - sc_n (xv_U a_held) 48
    · refine br_t ((nI_leI (by omega) (by omega)).mpr full) ?_
      have enough : M ≤ sc_n (fun v => ¬ xv_U a_held v) 48 := by omega
      obtain ⟨aT, cps, t1, t2, t3, t4⟩ := cp_36 (f_trials := f_trials) (f_drafted := f_drafted) (f_pairs := fp) (f_metCount := f_metCount) (f_meetingCount := f_meetingCount) (a_held := a_held) (a_saved := a_saved) (a_draft := a_draft) (a_toldBefore := tb) (a_pairX := px) (a_pairY := py) (a_stack := st) (a_met := met) (a_metAs := mA) (a_copies := a_copies) (a_meetings := a_meetings) (a_wasMeeting := a_wasMeeting) (a_firstMet := a_firstMet) (a_depths := a_depths) (a_isKept := a_isKept) (a0 := a_held) (M := M) enough hM M 0 a_held a_copies (by omega) ⟨fun z hz => by have := hz.2.2; omega, fun z hz _ => ⟨rfl, rfl, rfl, rfl, rfl⟩, fun _ _ => rfl⟩ P.1 (fun j hj => by omega)
      refine ⟨_, t4 _ ?_⟩
      -- the numbers of the copies
      have zex : ∀ j, j < M → fr_F a_held j (xm_p cps j) ∧ cps j = nI (xm_p cps j) := by
        intro j hj
        obtain ⟨z, z1, z2⟩ := t3 j hj
        have e := xm_p_nI z2 z1.1
        rw [e]; exact ⟨z1, z2⟩
      generalize hzf : xm_p cps = zf at zex
      have hz : ∀ j, j < M → zf j < 48 ∧ ¬ xv_U a_held (zf j) := fun j hj => ⟨(zex j hj).1.1, (zex j hj).1.2.1⟩
      have inj : ∀ j j', j < M → j' < M → zf j = zf j' → j = j' := by
        intro j j' hj hj' e
        have h1 := (zex j hj).1.2.2
        have h2 := (zex j' hj').1.2.2
        rw [e] at h1
        omega
      have hxi : ∀ j, j < M → ∀ k, k < ma_ct (xv_K a_held (m j)) → ix (xv_L a_held (xv_P a_held (m j) k)) < M ∧ mA (xv_L a_held (xv_P a_held (m j) k)) = nI (ix (xv_L a_held (xv_P a_held (m j) k))) := fun j hj k hk => ⟨(I5 _ (hP j hj k hk)).2.1, X3 _ (hP j hj k hk)⟩
      have Fz : ∀ z, cp_F a_held M z ↔ ∃ j, j < M ∧ z = zf j := by
        intro z
        constructor
        · intro ⟨z1, z2, z3⟩
          exact ⟨_, z3, fr_one ⟨z1, z2, rfl⟩ (zex _ z3).1⟩
        · intro ⟨j, hj, e⟩
          rw [e]
          have := (zex j hj).1
          exact ⟨this.1, this.2.1, by rw [this.2.2]; exact hj⟩
      have G0 : cp_G a_held m zf ix M 0 aT := by
        obtain ⟨q1, q2, q3⟩ := t1
        refine ⟨fun j hj => ?_, fun j hj => by omega, fun z hz' nz => ?_, fun j hj => q3 j (Or.inr hj), t2⟩
        · have := q1 (zf j) ((Fz _).mpr ⟨j, hj, rfl⟩)
          exact ⟨this.1, this.2.1⟩
        · have := q2 z hz' (fun q => by
            obtain ⟨j, hj, e⟩ := (Fz z).mp q
            exact nz j hj e)
          refine ⟨this.1, this.2.1, this.2.2.1, this.2.2.2.1, this.2.2.2.2, fun k hk => q3 _ (Or.inl (by omega))⟩
      obtain ⟨aF, b1, b2⟩ := cp_78 (f_trials := f_trials) (f_drafted := f_drafted) (f_pairs := fp) (f_metCount := f_metCount) (f_meetingCount := f_meetingCount) (a_held := a_held) (a_saved := a_saved) (a_draft := a_draft) (a_toldBefore := tb) (a_pairX := px) (a_pairY := py) (a_stack := st) (a_met := met) (a_metAs := mA) (a_copies := cps) (a_meetings := a_meetings) (a_wasMeeting := a_wasMeeting) (a_firstMet := a_firstMet) (a_depths := a_depths) (a_isKept := a_isKept) (a0 := a_held) (m := m) (zf := zf) (ix := ix) g hM hz inj (fun j hj => ⟨(I1 j hj).1, (I1 j hj).2, X2 j hj⟩) hxi (fun j hj => (zex j hj).2) M 0 aT (by omega) G0
      refine ⟨_, b2 _ ?_⟩
      have nM : n = M ∧ ∀ j, j < M → fresh j = nI (zf j) := by
        rcases f1 with ⟨q1, q2⟩ | ⟨q1, q2⟩
        · refine ⟨q1, fun j hj => ?_⟩
          obtain ⟨z, z1, z2⟩ := q2 j hj
          rw [z2, fr_one z1 (zex j hj).1]
        · omega
      obtain ⟨nM, fz⟩ := nM
      obtain ⟨sF, c1, c2⟩ := yw_copy_75 (g_trials := g_trials) (g_drafted := g_drafted) (g_found := g_found) (b_s := b_s) (b_saved := b_saved) (b_draft := b_draft) (b_who := wh) (b_met := met2) (b_stack := st2) (b_fresh := fresh) (b_deep := b_deep) (b_alike := al) (b_meets := b_meets) (a0 := a_held) (s0 := b_s) (m := m) (zf := zf) (ix := ix) (D := D) P hR hM hz inj Y2 fz I5 hP M 0 b_s (by omega) ⟨fun j hj => by omega, fun z _ _ => ⟨rfl, rfl, rfl, rfl, rfl, rfl, rfl, rfl, fun _ _ => rfl⟩, fun _ _ _ => rfl⟩
      have P' := cp_P P hz (fun j hj => ⟨(I1 j hj).1, (I1 j hj).2⟩) (fun j hj k hk => (hxi j hj k hk).1) b1 c1
      obtain ⟨m2, a2', tb2, px2, py2, s2, wh2, al2, g1, g2, g3⟩ := st_settle (f_trials := f_trials) (f_drafted := f_drafted) (f_pairs := fp) (f_metCount := nI M) (f_meetingCount := f_meetingCount) (a_held := aF) (a_saved := a_saved) (a_draft := a_draft) (a_toldBefore := tb) (a_pairX := px) (a_pairY := py) (a_stack := st) (a_met := met) (a_metAs := mA) (a_copies := cps) (a_meetings := a_meetings) (a_wasMeeting := a_wasMeeting) (a_firstMet := a_firstMet) (a_depths := a_depths) (a_isKept := a_isKept) (g_trials := g_trials) (g_drafted := g_drafted) (g_found := nI M) (b_s := sF) (b_saved := b_saved) (b_draft := b_draft) (b_who := wh) (b_met := met2) (b_stack := st2) (b_fresh := fresh) (b_deep := b_deep) (b_alike := al) (b_meets := b_meets) (by omega) P'
      unfold wX_copy_114
      refine g2 _ (topY _ ?_)
      unfold wY_copy_62
      rw [nM]
      refine br_t ((nI_leI (by omega) (by omega)).mpr (Nat.le_refl _)) ⟨_, c2 _ (g3 _ ⟨?_, ?_⟩)⟩
      · show fresh 0 = cps 0
        rw [fz 0 M0, (zex 0 M0).2]
      · exact re_A_row (k := k) I (re_C_mono (by omega) g1)
    · refine br_f (fun q => full ((nI_leI (by omega) (by omega)).mp q)) (topY _ ?_)
      have nl : n < M := by
        rcases f1 with ⟨q1, q2⟩ | ⟨q1, q2⟩
        · exfalso
          obtain ⟨z, z1, _⟩ := q2 (M - 1) (by omega)
          have := sc_lt (P := fun v => ¬ xv_U a_held v) z1.1 z1.2.1
          have := z1.2.2
          omega
        · exact q1
      unfold wY_copy_62
      exact br_f (fun q => by have := (nI_leI (by omega) (by omega)).mp q; omega) ⟨rfl, R⟩
  · refine xw_inUse_f (f_trials := f_trials) (f_drafted := f_drafted) (f_pairs := f_pairs) (f_metCount := f_metCount) (f_meetingCount := f_meetingCount) (a_held := a_held) (a_saved := a_saved) (a_draft := a_draft) (a_toldBefore := a_toldBefore) (a_pairX := a_pairX) (a_pairY := a_pairY) (a_stack := a_stack) (a_met := a_met) (a_metAs := a_metAs) (a_copies := a_copies) (a_meetings := a_meetings) (a_wasMeeting := a_wasMeeting) (a_firstMet := a_firstMet) (a_depths := a_depths) (a_isKept := a_isKept) hx _ (br_t rfl ?_)
    unfold wpY_copy
    exact yw_isUsed_f (g_trials := g_trials) (g_drafted := g_drafted) (g_found := g_found) (b_s := b_s) (b_saved := b_saved) (b_draft := b_draft) (b_who := b_who) (b_met := b_met) (b_stack := b_stack) (b_fresh := b_fresh) (b_deep := b_deep) (b_alike := b_alike) (b_meets := b_meets) (re_neg P hx) _ (br_t rfl ⟨rfl, R⟩)
