theorem i_vc_put {k : Nat} {u : SX} {v : SY} (I : i_Rel k u v) (hk : k + 4 ≤ 2048) (v1 : Int32) (v2 : Int32) : wpX_put (fun r u' => wpY_put (fun r' v' => r' = r ∧ i_Rel (k + 4) u' v') v v1 v2) u v1 v2 := by
  obtain ⟨f_trials, f_drafted, f_pairs, f_metCount, f_meetingCount, a_held, a_saved, a_draft, a_toldBefore, a_pairX, a_pairY, a_stack, a_met, a_metAs, a_copies, a_meetings, a_wasMeeting, a_firstMet, a_depths, a_isKept⟩ := u
  obtain ⟨g_trials, g_drafted, g_found, b_s, b_saved, b_draft, b_who, b_met, b_stack, b_fresh, b_deep, b_alike, b_meets⟩ := v
  have C := re_A_C I
  have P := C.1
  have R := re_A_up (k := k) (k' := k + 4) (by omega) I
  obtain ⟨t, d, t3, d3, eT, eT', eD, eD', hDr, hC, hS⟩ := id I
  have yU := re_U P
  unfold wpX_put wpX_isStream
  by_cases h0 : v1 < 0
  · refine br_t h0 (br_t rfl ?_)
    unfold wpY_put
    exact br_t h0 ⟨rfl, R⟩
  · obtain ⟨e, he, rfl⟩ := nI_of h0
    refine br_f h0 ?_
    by_cases h4 : 4 ≤ e
    · refine br_t ((li_ge4 (by omega)).mpr h4) (br_t rfl ?_)
      unfold wpY_put
      exact br_f h0 (br_t ((li_gt3 (by omega)).mpr (by omega)) ⟨rfl, R⟩)
    · refine br_f (fun q => h4 ((li_ge4 (by omega)).mp q)) ?_
      have h3 : ¬ (3 : Int32) < nI e := fun q => by have := (li_gt3 (by omega)).mp q; omega
      obtain ⟨e1, e2⟩ := P.2.2.2.2.2.2.2.2.2.1 e (by omega)
      have vin : vp_in (520 + nI e) 585 := by rw [li_a520]; exact vp_in_nI (by omega) (by omega)
      have cl : (520 + nI e).toNatClampNeg = 520 + e := by rw [li_a520, nI_clamp (by omega)]
      have vinY : vp_in (568 + nI e) 681 := by rw [li_a568]; exact vp_in_nI (by omega) (by omega)
      have clY : (568 + nI e).toNatClampNeg = 568 + e := by rw [li_a568, nI_clamp (by omega)]
      refine ⟨vin, ?_⟩
      rw [cl]
      rcases e2 with e2 | ⟨w, uw, ew⟩
      · refine br_t e2 (br_t rfl ?_)
        unfold wpY_put
        refine br_f h0 (br_f h3 ⟨vinY, ?_⟩)
        rw [clY, ← e1, e2]
        exact br_t (by decide) ⟨rfl, R⟩
      · have w48 := uw.1
        refine br_f (by rw [ew]; exact fun q => (li_nn1 (by omega)).mp q) (br_f (by decide) ?_)
        have ewY : b_s (568 + e) = nI w := by rw [← e1]; exact ew
        have topY : ∀ (postY : Int32 → SY → Prop) (v2 : Int32), wpY_isUsed (fun r_5 => (((r_5 = 0 → (postY (-1) (g_trials, g_drafted, g_found, b_s, b_saved, b_draft, b_who, b_met, b_stack, b_fresh, b_deep, b_alike, b_meets))) ∧ (¬ r_5 = 0 → (wpY_spare (fun r_20 => (((0 ≤ r_20 → (wpY_use (fun u => match u with | (g_trials, g_drafted, g_found, b_s, b_saved, b_draft, b_who, b_met, b_stack, b_fresh, b_deep, b_alike, b_meets) => (∀ x4_49 : Int32, x4_49 = b_draft 0 → (∀ x5_50 : Int32, x5_50 = b_draft 1 → (∀ a_draft_52 : Nat → Int32, a_draft_52 = upd b_draft 0 v2 → (∀ a_draft_54 : Nat → Int32, a_draft_54 = upd a_draft_52 1 r_20 → (vp_in (568 + nI e) 681 ∧ (∀ x6_56 : Int32, x6_56 = b_s (568 + nI e).toNatClampNeg → (vp_in (568 + nI e) 681 ∧ ∀ a_s_58 : Nat → Int32, a_s_58 = upd b_s (568 + nI e).toNatClampNeg r_20 → (wpY_tellOf (fun r_59 u => match u with | (g_trials, g_drafted, g_found, b_s, b_saved, b_draft, b_who, b_met, b_stack, b_fresh, b_deep, b_alike, b_meets) => (∀ a_draft_74 : Nat → Int32, a_draft_74 = upd b_draft 0 x4_49 → (∀ a_draft_76 : Nat → Int32, a_draft_76 = upd a_draft_74 1 x5_50 → (((r_59 = 2 → (vp_in (568 + nI e) 681 ∧ ∀ a_s_79 : Nat → Int32, a_s_79 = upd b_s (568 + nI e).toNatClampNeg x6_56 → (vp_in (384 + r_20) 681 ∧ ∀ a_s_81 : Nat → Int32, a_s_81 = upd a_s_79 (384 + r_20).toNatClampNeg 0 → (postY r_59 (g_trials, g_drafted, g_found, a_s_81, b_saved, a_draft_76, b_who, b_met, b_stack, b_fresh, b_deep, b_alike, b_meets))))) ∧ (¬ r_59 = 2 → (postY r_59 (g_trials, g_drafted, g_found, b_s, b_saved, a_draft_76, b_who, b_met, b_stack, b_fresh, b_deep, b_alike, b_meets)))))))) (g_trials, g_drafted, g_found, a_s_58, b_saved, a_draft_54, b_who, b_met, b_stack, b_fresh, b_deep, b_alike, b_meets) x6_56 2 0 7 2))))))))) (g_trials, g_drafted, g_found, b_s, b_saved, b_draft, b_who, b_met, b_stack, b_fresh, b_deep, b_alike, b_meets) r_20)) ∧ (¬ 0 ≤ r_20 → (postY (-2) (g_trials, g_drafted, g_found, b_s, b_saved, b_draft, b_who, b_met, b_stack, b_fresh, b_deep, b_alike, b_meets)))))) (g_trials, g_drafted, g_found, b_s, b_saved, b_draft, b_who, b_met, b_stack, b_fresh, b_deep, b_alike, b_meets)))))) (g_trials, g_drafted, g_found, b_s, b_saved, b_draft, b_who, b_met, b_stack, b_fresh, b_deep, b_alike, b_meets) v2 → wpY_put postY (g_trials, g_drafted, g_found, b_s, b_saved, b_draft, b_who, b_met, b_stack, b_fresh, b_deep, b_alike, b_meets) (nI e) v2 := by
          intro postY v2 hp
          unfold wpY_put
          refine br_f h0 (br_f h3 ⟨vinY, ?_⟩)
          rw [clY, ewY]
          rw [clY] at hp
          exact br_f (nI_pos (by omega)) hp
        by_cases hx : ∃ x, xv_U a_held x ∧ v2 = nI x
        · obtain ⟨x, ux, rfl⟩ := hx
          have x48 := ux.1
          refine xw_inUse_t (f_trials := f_trials) (f_drafted := f_drafted) (f_pairs := f_pairs) (f_metCount := f_metCount) (f_meetingCount := f_meetingCount) (a_held := a_held) (a_saved := a_saved) (a_draft := a_draft) (a_toldBefore := a_toldBefore) (a_pairX := a_pairX) (a_pairY := a_pairY) (a_stack := a_stack) (a_met := a_met) (a_metAs := a_metAs) (a_copies := a_copies) (a_meetings := a_meetings) (a_wasMeeting := a_wasMeeting) (a_firstMet := a_firstMet) (a_depths := a_depths) (a_isKept := a_isKept) ux _ (br_f (by decide) ?_)
          obtain ⟨r, l1, l2⟩ := xw_leastUnused (f_trials := f_trials) (f_drafted := f_drafted) (f_pairs := f_pairs) (f_metCount := f_metCount) (f_meetingCount := f_meetingCount) (a_held := a_held) (a_saved := a_saved) (a_draft := a_draft) (a_toldBefore := a_toldBefore) (a_pairX := a_pairX) (a_pairY := a_pairY) (a_stack := a_stack) (a_met := a_met) (a_metAs := a_metAs) (a_copies := a_copies) (a_meetings := a_meetings) (a_wasMeeting := a_wasMeeting) (a_firstMet := a_firstMet) (a_depths := a_depths) (a_isKept := a_isKept) P.1
          obtain ⟨r', l1', l2'⟩ := yw_spare (g_trials := g_trials) (g_drafted := g_drafted) (g_found := g_found) (b_s := b_s) (b_saved := b_saved) (b_draft := b_draft) (b_who := b_who) (b_met := b_met) (b_stack := b_stack) (b_fresh := b_fresh) (b_deep := b_deep) (b_alike := b_alike) (b_meets := b_meets) P.2.1
          rw [yU] at l1'
          refine l2 _ ?_
          rcases l1 with ⟨er, all⟩ | ⟨z, hz, er, nz, lz⟩
          · have er' : r' = -2 := by
              rcases l1' with q | ⟨z, hz, _, nz, _⟩
              · exact q.1
              · exact absurd (all z hz) nz
            subst er er'
            refine br_t rfl (topY _ _ ?_)
            refine yw_isUsed_t (g_trials := g_trials) (g_drafted := g_drafted) (g_found := g_found) (b_s := b_s) (b_saved := b_saved) (b_draft := b_draft) (b_who := b_who) (b_met := b_met) (b_stack := b_stack) (b_fresh := b_fresh) (b_deep := b_deep) (b_alike := b_alike) (b_meets := b_meets) (re_pos P ux) _ (br_f (by decide) (l2' _ ?_))
            exact br_f (by decide) ⟨rfl, R⟩
          · have er' : r' = nI z := by
              rcases l1' with q | ⟨z', hz', e', nz', lz'⟩
              · exact absurd (q.2 z hz) nz
              · rw [e', lu_one nz lz nz' lz']
            subst er er'
            obtain ⟨a1, t1, t2⟩ := xw_take (f_trials := f_trials) (f_drafted := f_drafted) (f_pairs := f_pairs) (f_metCount := f_metCount) (f_meetingCount := f_meetingCount) (a_held := a_held) (a_saved := a_saved) (a_draft := a_draft) (a_toldBefore := a_toldBefore) (a_pairX := a_pairX) (a_pairY := a_pairY) (a_stack := a_stack) (a_met := a_met) (a_metAs := a_metAs) (a_copies := a_copies) (a_meetings := a_meetings) (a_wasMeeting := a_wasMeeting) (a_firstMet := a_firstMet) (a_depths := a_depths) (a_isKept := a_isKept) hz
            obtain ⟨s1, u1, u2⟩ := yw_use (g_trials := g_trials) (g_drafted := g_drafted) (g_found := g_found) (b_s := b_s) (b_saved := b_saved) (b_draft := b_draft) (b_who := b_who) (b_met := b_met) (b_stack := b_stack) (b_fresh := b_fresh) (b_deep := b_deep) (b_alike := b_alike) (b_meets := b_meets) hz
            have C1 := tk_C C hz nz t1 u1
            have P1 := C1.1
            obtain ⟨zL, zK, zU⟩ := tk_Xz t1 hz
            have nw : w ≠ z := fun q => nz (by rw [← q]; exact uw)
            have nx : x ≠ z := fun q => nz (by rw [← q]; exact ux)
            have uw1 : xv_U a1 w := (tk_XL t1 hz nw).2.2.2.2.mpr uw
            have ux1 : xv_U a1 x := (tk_XL t1 hz nx).2.2.2.2.mpr ux
            have ea1 : a1 (520 + e) = nI w := by
              rw [t1.2.2.2.2.2 _ (by omega) (by omega) (by omega) (by omega) (by omega)]; exact ew
            have es1 : s1 (568 + e) = nI w := by
              rw [u1.2.2.2.2.2 _ (by omega) (by omega) (by omega) (by omega) (by omega)]; exact ewY
            obtain ⟨rr, m', a2, tb, px, py, f1, f2⟩ := xw_tellRecord (f_trials := f_trials) (f_drafted := f_drafted) (f_pairs := f_pairs) (f_metCount := f_metCount) (f_meetingCount := f_meetingCount) (a_held := a1) (a_saved := a_saved) (a_draft := a_draft) (a_toldBefore := a_toldBefore) (a_pairX := a_pairX) (a_pairY := a_pairY) (a_stack := a_stack) (a_met := a_met) (a_metAs := a_metAs) (a_copies := a_copies) (a_meetings := a_meetings) (a_wasMeeting := a_wasMeeting) (a_firstMet := a_firstMet) (a_depths := a_depths) (a_isKept := a_isKept) (re_G P1) (x := w) (l := 7) (c := 2) (p0 := x) (p1 := z) (p2 := z) (p := fun i => if i = 0 then x else z) uw1 (by omega) (by omega) x48 hz hz rfl rfl rfl (by
              intro k hk
              show xv_U a1 (if k = 0 then x else z)
              by_cases q : k = 0
              · rw [if_pos q]; exact ux1
              · rw [if_neg q]; exact zU)
            have Np : re_N (25 * k) (upd a1 (520 + e) (nI z)) (upd s1 (568 + e) (nI z)) := en_N (by omega) P1.2.2.2.2.2 (Or.inr ⟨z, zU, rfl⟩) ⟨pk_us, fun i hi => pk_un hi⟩ ⟨pk_us, fun i hi => pk_un hi⟩
            have Pp := re_P_N P1 (a' := upd a1 (520 + e) (nI z)) (s' := upd s1 (568 + e) (nI z)) (fun i hi => pk_un (by omega)) (fun i hi => pk_un (by omega)) Np
            have Up : xv_U (upd a1 (520 + e) (nI z)) = xv_U a1 := (xv_congr (fun i hi => pk_un (by omega))).1
            have lw := (P1.2.2.2.2.1.1 w uw1).2.1.1
            have f1' := tv_up (i := 520 + e) (v := nI z) (by omega) lw f1
            have ect : ma_ct (nI (2 + 4 * 7 + 2), (0 : Int32)).1 = 2 := ma_ct_rec (by omega) (by omega)
            have o := tf_all (g_trials := g_trials) (g_drafted := g_drafted) (g_found := g_found) (b_s := upd s1 (568 + e) (nI z)) (b_saved := b_saved) (b_draft := upd (upd b_draft 0 (nI x)) 1 (nI z)) (b_who := b_who) (b_met := b_met) (b_stack := b_stack) (b_fresh := b_fresh) (b_deep := b_deep) (b_alike := b_alike) (b_meets := b_meets) (kind := 2) (num := 0) (label := 7) (count := 2) Pp (by rw [Up]; exact uw1) (Or.inr ⟨7, 2, by omega, by omega, rfl, rfl, rfl, rfl, rfl⟩) (by
              intro k hk
              rw [ect] at hk
              rw [Up]
              show upd (upd b_draft 0 (nI x)) 1 (nI z) k = nI (if k = 0 then x else z) ∧ xv_U a1 (if k = 0 then x else z)
              by_cases q : k = 0
              · rw [if_pos q, q, pk_un (by omega), pk_us]; exact ⟨rfl, ux1⟩
              · have q1 : k = 1 := by omega
                rw [if_neg q, q1, pk_us]; exact ⟨rfl, zU⟩) f1'
            have dr : ∀ i, i < 3 → upd (upd (upd (upd b_draft 0 (nI x)) 1 (nI z)) 0 (b_draft 0)) 1 (b_draft 1) i = b_draft i := by
              intro i hi
              by_cases q1 : i = 1
              · rw [q1, pk_us]
              · rw [pk_un q1]
                by_cases q0 : i = 0
                · rw [q0, pk_us]
                · rw [pk_un q0, pk_un q1, pk_un q0]
            have hDr' : ∀ i, i < 3 → a_draft i = upd (upd (upd (upd b_draft 0 (nI x)) 1 (nI z)) 0 (b_draft 0)) 1 (b_draft 1) i ∧ ∃ q, q < 48 ∧ a_draft i = nI q := by
              intro i hi
              rw [dr i hi]; exact hDr i hi
            refine br_f (fun q => (li_nn1 (by omega)).mp q) (t2 _ ⟨vin, ?_⟩)
            rw [ea1]
            refine f2 _ ?_
            rcases o with ⟨o1, o2, s', g1, g2⟩ | ⟨o1, s', g1, g2⟩
            · subst o1
              have ea2 := tv_2 f1
              subst ea2
              refine br_t rfl (xw_release (f_trials := f_trials) (f_drafted := f_drafted) (f_pairs := m') (f_metCount := f_metCount) (f_meetingCount := f_meetingCount) (a_held := a2) (a_saved := a_saved) (a_draft := a_draft) (a_toldBefore := tb) (a_pairX := px) (a_pairY := py) (a_stack := a_stack) (a_met := a_met) (a_metAs := a_metAs) (a_copies := a_copies) (a_meetings := a_meetings) (a_wasMeeting := a_wasMeeting) (a_firstMet := a_firstMet) (a_depths := a_depths) (a_isKept := a_isKept) hz _ (topY _ _ ?_))
              refine yw_isUsed_t (g_trials := g_trials) (g_drafted := g_drafted) (g_found := g_found) (b_s := b_s) (b_saved := b_saved) (b_draft := b_draft) (b_who := b_who) (b_met := b_met) (b_stack := b_stack) (b_fresh := b_fresh) (b_deep := b_deep) (b_alike := b_alike) (b_meets := b_meets) (re_pos P ux) _ (br_f (by decide) (l2' _ (br_t (nI_pos' (by omega)) (u2 _ ?_))))
              refine nm_e (nm_e (nm_e (nm_e ⟨vinY, ?_⟩)))
              rw [clY, es1]
              refine nm_e ⟨vinY, nm_e (g2 _ ?_)⟩
              refine nm_e (nm_e (br_t rfl ?_))
              simp (disch := omega) only [forall_eq, true_and, and_true, Nat.zero_add, nI_clamp, li_vin, nI_add, nI_eq, nI_leI, nI_ltI, li_0le, li_lt0, li_nn1, li_e0, not_true_eq_false, not_false_eq_true, false_implies, true_implies, forall_const, li_a0, li_b0, li_a1, li_b1, li_a2, li_b2, li_a3, li_b3, li_a7, li_b7, li_a8, li_b8, li_a16, li_b16, li_a48, li_b48, li_a584, li_b584, li_a572, li_b572, li_a96, li_b96, li_a144, li_b144, li_a192, li_b192, li_a240, li_b240, li_a336, li_b336, li_a384, li_b384, li_a432, li_b432, li_a480, li_b480, li_a488, li_b488, li_a496, li_b496, li_a504, li_b504, li_a512, li_b512, li_a520, li_b520, li_a524, li_b524, li_a528, li_b528, li_a536, li_b536, li_a544, li_b544, li_a552, li_b552, li_a560, li_b560, li_a568, li_b568, li_a573, li_b573, li_a585, li_b585, li_a633, li_b633, li_m3, li_n3, li_m4, li_n4, li_m48, li_n48, li_m50, li_n50, li_m585, li_n585, li_m633, li_n633, li_lt2, li_ge2, li_le2, li_gt2, li_lt1, li_ge1, li_le1, li_gt1, li_lt3, li_ge3, li_le3, li_gt3, li_lt4, li_ge4, li_le4, li_gt4, li_lt7, li_ge7, li_le7, li_gt7, li_lt8, li_ge8, li_le8, li_gt8, li_lt40, li_ge40, li_le40, li_gt40, li_lt240, li_ge240, li_le240, li_gt240, li_lt41, li_ge41, li_le41, li_gt41, li_lt48, li_ge48, li_le48, li_gt48, li_lt49, li_ge49, li_le49, li_gt49, li_lt60, li_ge60, li_le60, li_gt60, li_lt144, li_ge144, li_le144, li_gt144, li_lt145, li_ge145, li_le145, li_gt145, li_lt160, li_ge160, li_le160, li_gt160, li_lt336, li_ge336, li_le336, li_gt336, li_lt585, li_ge585, li_le585, li_gt585, li_lt633, li_ge633, li_le633, li_gt633, li_lt1000000, li_ge1000000, li_le1000000, li_gt1000000, li_lt2304, li_ge2304, li_le2304, li_gt2304, li_lt50, li_ge50, li_le50, li_gt50, li_le0, li_gt0]
              have Cr := rm_C C hz nz t1 u1
              have F : tf_F (upd s1 (384 + z) 0) (upd (upd s' (568 + e) (nI w)) (384 + z) 0) w := by
                rcases g1 with g1 | ⟨g1, g2, g3, g4⟩
                · refine Or.inl (fun i hi => ?_)
                  by_cases q1 : i = 384 + z
                  · rw [q1, pk_us, pk_us]
                  · rw [pk_un q1, pk_un q1]
                    by_cases q2 : i = 568 + e
                    · rw [q2, pk_us, es1]
                    · rw [pk_un q2, g1 i hi, pk_un q2]
                · refine Or.inr ⟨?_, ?_, fun k hk => ?_, fun i a1 a2 a3 a4 a5 a6 => ?_⟩
                  · rw [pk_un (by omega)]
                    rw [pk_un (by omega)] at g1
                    exact g1
                  · rw [pk_un (by omega), pk_un (by omega)]; exact g2
                  · rw [pk_un (by omega), pk_un (by omega)]; exact g3 k hk
                  · by_cases q1 : i = 384 + z
                    · rw [q1, pk_us, pk_us]
                    · rw [pk_un q1, pk_un q1]
                      by_cases q2 : i = 568 + e
                      · rw [q2, pk_us, es1]
                      · rw [pk_un q2, g4 i a1 a2 a3 a4 a5 a6, pk_un q2]
              exact ⟨t, d, t3, d3, eT, eT', eD, eD', hDr', re_C_mono (by omega) ⟨tf_P Cr.1 w48 F, Cr.2⟩, fun j hj => re_C_mono (by omega) (hS j hj)⟩
            · subst o1
              refine br_f (by decide) ⟨vin, ?_⟩
              obtain ⟨m2, a3, tb2, px2, py2, s2, wh, al, h1, h2, h3'⟩ := st_settle (f_trials := f_trials) (f_drafted := f_drafted) (f_pairs := m') (f_metCount := f_metCount) (f_meetingCount := f_meetingCount) (a_held := upd a2 (520 + e) (nI z)) (a_saved := a_saved) (a_draft := a_draft) (a_toldBefore := tb) (a_pairX := px) (a_pairY := py) (a_stack := a_stack) (a_met := a_met) (a_metAs := a_metAs) (a_copies := a_copies) (a_meetings := a_meetings) (a_wasMeeting := a_wasMeeting) (a_firstMet := a_firstMet) (a_depths := a_depths) (a_isKept := a_isKept) (g_trials := g_trials) (g_drafted := g_drafted) (g_found := g_found) (b_s := s') (b_saved := b_saved) (b_draft := upd (upd b_draft 0 (nI x)) 1 (nI z)) (b_who := b_who) (b_met := b_met) (b_stack := b_stack) (b_fresh := b_fresh) (b_deep := b_deep) (b_alike := b_alike) (b_meets := b_meets) (by omega) g1
              refine nm_e (h2 _ (topY _ _ ?_))
              refine yw_isUsed_t (g_trials := g_trials) (g_drafted := g_drafted) (g_found := g_found) (b_s := b_s) (b_saved := b_saved) (b_draft := b_draft) (b_who := b_who) (b_met := b_met) (b_stack := b_stack) (b_fresh := b_fresh) (b_deep := b_deep) (b_alike := b_alike) (b_meets := b_meets) (re_pos P ux) _ (br_f (by decide) (l2' _ (br_t (nI_pos' (by omega)) (u2 _ ?_))))
              refine nm_e (nm_e (nm_e (nm_e ⟨vinY, ?_⟩)))
              rw [clY, es1]
              refine nm_e ⟨vinY, nm_e (g2 _ (h3' _ ?_))⟩
              refine nm_e (nm_e (br_f (by decide) ⟨rfl, ?_⟩))
              exact ⟨t, d, t3, d3, eT, eT', eD, eD', hDr', re_C_mono (by omega) h1, fun j hj => re_C_mono (by omega) (hS j hj)⟩
        · refine xw_inUse_f (f_trials := f_trials) (f_drafted := f_drafted) (f_pairs := f_pairs) (f_metCount := f_metCount) (f_meetingCount := f_meetingCount) (a_held := a_held) (a_saved := a_saved) (a_draft := a_draft) (a_toldBefore := a_toldBefore) (a_pairX := a_pairX) (a_pairY := a_pairY) (a_stack := a_stack) (a_met := a_met) (a_metAs := a_metAs) (a_copies := a_copies) (a_meetings := a_meetings) (a_wasMeeting := a_wasMeeting) (a_firstMet := a_firstMet) (a_depths := a_depths) (a_isKept := a_isKept) hx _ (br_t rfl (topY _ _ ?_))
          exact yw_isUsed_f (g_trials := g_trials) (g_drafted := g_drafted) (g_found := g_found) (b_s := b_s) (b_saved := b_saved) (b_draft := b_draft) (b_who := b_who) (b_met := b_met) (b_stack := b_stack) (b_fresh := b_fresh) (b_deep := b_deep) (b_alike := b_alike) (b_meets := b_meets) (re_neg P hx) _ (br_t rfl ⟨rfl, R⟩)
