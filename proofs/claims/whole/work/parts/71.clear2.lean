def ky_c (a s : Nat → Int32) (w : Int64) : Prop :=
  (∀ u v, u < 48 → v < 48 → by_b w u = true → xv_U a v → xv_L a u = xv_L a v → by_b w v = true) ∧ (∀ u j q, u < 48 → j < 3 → by_b w u = true → (yv_T s).1 u → j < ma_ct (xv_K a (xv_L a u)) → q < 48 → s (240 + 3 * u + j) = nI q → by_b w q = true)
theorem ky_lt {a : Nat → Int32} {w w' : Int64} (hI : ky_I a w') (hm : ky_m w w') (ne : w' ≠ w) : ma_cnt (by_b w) 48 < ma_cnt (by_b w') 48 := by
  refine ma_cnt_lt 48 (fun i _ h => hm i h) ?_
  apply Classical.byContradiction
  intro no
  apply ne
  apply by_ext
  intro i hi
  cases h' : by_b w' i
  · cases h : by_b w i
    · rfl
    · have := hm i h
      rw [h'] at this
      exact absurd this (by decide)
  · cases h : by_b w i
    · exact absurd ⟨i, (hI i hi h').1.1, h', by rw [h]; decide⟩ no
    · rfl
theorem yw_clear_18 {g_trials g_drafted g_found : Int32} {b_s b_saved b_draft b_who b_met b_stack b_fresh b_deep : Nat → Int32} {b_alike b_meets : Nat → Int64} {B : Nat} {a : Nat → Int32} (hr : re_P B a b_s) : ∀ c (w x3 : Int64), 48 - ma_cnt (by_b w) 48 ≤ c → ky_I a w → (w = x3 → ky_c a b_s w) → ∃ w' : Int64, ky_I a w' ∧ ky_m w w' ∧ ky_c a b_s w' ∧ ∀ post : Int32 → SY → Prop, (∃ n185 : Nat, wY_clear_185 post w' n185 0 0 g_trials g_drafted g_found b_s b_saved b_draft b_who b_met b_stack b_fresh b_deep b_alike b_meets) → wY_clear_18 post g_trials g_drafted g_found b_s b_saved b_draft b_who b_met b_stack b_fresh b_deep b_alike b_meets (c + 2) w x3 := by
  intro c
  induction c with
  | zero =>
    intro w x3 hc hI hx
    by_cases e : w = x3
    · refine ⟨w, hI, fun _ h => h, hx e, fun post hp => ?_⟩
      rw [wY_clear_18]
      exact br_t e hp
    · obtain ⟨w1, a1, a2, a3, a4⟩ := yw_clear_29 (g_trials := g_trials) (g_drafted := g_drafted) (g_found := g_found) (b_s := b_s) (b_saved := b_saved) (b_draft := b_draft) (b_who := b_who) (b_met := b_met) (b_stack := b_stack) (b_fresh := b_fresh) (b_deep := b_deep) (b_alike := b_alike) (b_meets := b_meets) hr 2304 0 w rfl hI
      obtain ⟨w2, b1, b2, b3, b4⟩ := yw_clear_97 (g_trials := g_trials) (g_drafted := g_drafted) (g_found := g_found) (b_s := b_s) (b_saved := b_saved) (b_draft := b_draft) (b_who := b_who) (b_met := b_met) (b_stack := b_stack) (b_fresh := b_fresh) (b_deep := b_deep) (b_alike := b_alike) (b_meets := b_meets) hr 144 0 w1 rfl a1
      by_cases e2 : w2 = w
      · have cl : ky_c a b_s w := by
          refine ⟨fun u v hu hv hb uv el => ?_, fun u j q hu hj hb t hk q48 eq => ?_⟩
          · have := b2 _ (a3 u v hu hv (by omega) hb uv el)
            rw [e2] at this; exact this
          · have := b3 u j q hu hj (by omega) (a2 _ hb) t hk q48 eq
            rw [e2] at this; exact this
        refine ⟨w, hI, fun _ h => h, cl, fun post hp => ?_⟩
        rw [wY_clear_18]
        refine br_f e ⟨_, a4 post _ _ ⟨_, b4 post _ _ ?_⟩⟩
        rw [e2, wY_clear_18]
        exact br_t rfl hp
      · have := ky_lt b1 (fun i h => b2 i (a2 i h)) e2
        have := ma_cnt_le (by_b w2) 48
        omega
  | succ c ih =>
    intro w x3 hc hI hx
    by_cases e : w = x3
    · refine ⟨w, hI, fun _ h => h, hx e, fun post hp => ?_⟩
      rw [wY_clear_18]
      exact br_t e hp
    · obtain ⟨w1, a1, a2, a3, a4⟩ := yw_clear_29 (g_trials := g_trials) (g_drafted := g_drafted) (g_found := g_found) (b_s := b_s) (b_saved := b_saved) (b_draft := b_draft) (b_who := b_who) (b_met := b_met) (b_stack := b_stack) (b_fresh := b_fresh) (b_deep := b_deep) (b_alike := b_alike) (b_meets := b_meets) hr 2304 0 w rfl hI
      obtain ⟨w2, b1, b2, b3, b4⟩ := yw_clear_97 (g_trials := g_trials) (g_drafted := g_drafted) (g_found := g_found) (b_s := b_s) (b_saved := b_saved) (b_draft := b_draft) (b_who := b_who) (b_met := b_met) (b_stack := b_stack) (b_fresh := b_fresh) (b_deep := b_deep) (b_alike := b_alike) (b_meets := b_meets) hr 144 0 w1 rfl a1
      by_cases e2 : w2 = w
      · have cl : ky_c a b_s w := by
          refine ⟨fun u v hu hv hb uv el => ?_, fun u j q hu hj hb t hk q48 eq => ?_⟩
          · have := b2 _ (a3 u v hu hv (by omega) hb uv el)
            rw [e2] at this; exact this
          · have := b3 u j q hu hj (by omega) (a2 _ hb) t hk q48 eq
            rw [e2] at this; exact this
        refine ⟨w, hI, fun _ h => h, cl, fun post hp => ?_⟩
        rw [wY_clear_18]
        refine br_f e ⟨_, a4 post _ _ ⟨_, b4 post _ _ ?_⟩⟩
        rw [e2, wY_clear_18]
        exact br_t rfl hp
      · have lt := ky_lt b1 (fun i h => b2 i (a2 i h)) e2
        obtain ⟨w3, d1, d2, d3, d4⟩ := ih w2 w (by omega) b1 (fun q => absurd q e2)
        refine ⟨w3, d1, fun i h => d2 i (b2 i (a2 i h)), d3, fun post hp => ?_⟩
        rw [wY_clear_18]
        exact br_f e ⟨_, a4 post _ _ ⟨_, b4 post _ _ (d4 post hp)⟩⟩
/-- the closed set is KEPT -/
theorem ky_fin {B : Nat} {a s : Nat → Int32} {w : Int64} (hr : re_P B a s) (hI : ky_I a w) (h0 : ∀ x, kp_0 a x → by_b w x = true) (hc : ky_c a s w) {v : Nat} (uv : xv_U a v) : by_b w v = true ↔ kp_K a (xv_L a v) := by
  have g := re_G hr
  have v48 := uv.1
  refine ⟨fun h => (hI v (by omega) h).2, fun h => ?_⟩
  have z : xv_U a (xv_L a v) ∧ by_b w (xv_L a v) = true := by
    refine h (fun c => xv_U a c ∧ by_b w c = true) ?_ ?_
    · intro x hx
      have wx := g.2.1 x hx.1
      exact ⟨wx.2.1, hc.1 x _ hx.1.1 wx.2.1.1 (h0 x hx) wx.2.1 wx.2.2.1.symm⟩
    · intro c ⟨uc, bc⟩ tc k hk
      obtain ⟨u, u1, u2, u3, u4⟩ := ma_R_y hr.2.2.2.2.1 tc
      have uu : xv_U a u := (hr.2.2.2.2.1.2.2.2.1 u u1).1
      have lc := (xv_T1 tc).2.1
      have bu : by_b w u = true := hc.1 c u uc.1 uu.1 bc uu (by rw [lc, u2])
      obtain ⟨_, _, _, _, _, ep⟩ := yr_xy hr u1 u2
      obtain ⟨q, q1, q2, q3⟩ := ep k hk
      have bq := hc.2 u k q uu.1 (Nat.lt_of_lt_of_le hk (ma_ct_le _)) bu u1 (by rw [u2]; exact hk) q2.1 q1
      have up := g.2.2 c tc k hk
      have wp := g.2.1 _ up
      refine ⟨wp.2.1, hc.1 q _ q2.1 wp.2.1.1 bq wp.2.1 ?_⟩
      rw [q3]
      exact wp.2.2.1.symm
  have wv := g.2.1 v uv
  exact hc.1 _ v wv.2.1.1 v48 z.2 uv wv.2.2.1
theorem yw_clear_185 {g_trials g_drafted g_found : Int32} {b_s b_saved b_draft b_who b_met b_stack b_fresh b_deep : Nat → Int32} {b_alike b_meets : Nat → Int64} {B : Nat} {a s0 : Nat → Int32} {w : Int64} (hr : re_P B a s0) (hb : ∀ v, xv_U a v → (by_b w v = true ↔ kp_K a (xv_L a v))) : ∀ d j (b_s : Nat → Int32), j + d = 48 → (∀ x, x < j → kg_G a x → b_s x = nI x ∧ b_s (48 + x) = 0 ∧ b_s (384 + x) = 0 ∧ b_s (432 + x) = 0 ∧ b_s (480 + x) = 0) → (∀ x, x < 48 → (j ≤ x ∨ ¬ kg_G a x) → b_s x = s0 x ∧ b_s (48 + x) = s0 (48 + x) ∧ b_s (384 + x) = s0 (384 + x) ∧ b_s (432 + x) = s0 (432 + x) ∧ b_s (480 + x) = s0 (480 + x)) → (∀ i, (96 ≤ i ∧ i < 384) ∨ 528 ≤ i → b_s i = s0 i) → ∃ s' : Nat → Int32, (∀ x, x < 48 → kg_G a x → s' x = nI x ∧ s' (48 + x) = 0 ∧ s' (384 + x) = 0 ∧ s' (432 + x) = 0 ∧ s' (480 + x) = 0) ∧ (∀ x, x < 48 → ¬ kg_G a x → s' x = s0 x ∧ s' (48 + x) = s0 (48 + x) ∧ s' (384 + x) = s0 (384 + x) ∧ s' (432 + x) = s0 (432 + x) ∧ s' (480 + x) = s0 (480 + x)) ∧ (∀ i, (96 ≤ i ∧ i < 384) ∨ 528 ≤ i → s' i = s0 i) ∧ ∀ post : Int32 → SY → Prop, post (nI (sc_n (kg_G a) 48)) (g_trials, g_drafted, g_found, s', b_saved, b_draft, b_who, b_met, b_stack, b_fresh, b_deep, b_alike, b_meets) → wY_clear_185 post w (d + 1) (nI (sc_n (kg_G a) j)) (nI j) g_trials g_drafted g_found b_s b_saved b_draft b_who b_met b_stack b_fresh b_deep b_alike b_meets := by
  have yU := re_U hr
  intro d
  induction d with
  | zero =>
    intro j s hj h1 h2 h3
    have e : j = 48 := by omega
    refine ⟨s, fun x hx => h1 x (by omega), fun x hx n => h2 x hx (Or.inr n), h3, fun post hp => ?_⟩
    rw [wY_clear_185]
    refine br_t ((li_ge48 (by omega)).mpr (by omega)) ?_
    rw [e]; exact hp
  | succ d ih =>
    intro j s hj h1 h2 h3
    have c1 : ¬ (48 : Int32) ≤ nI j := fun q => by have := (li_ge48 (by omega)).mp q; omega
    have es := (h2 j (by omega) (Or.inl (by omega))).2.2.1
    have is1 := by_is1 w (k := j) (by omega)
    have skip : ¬ kg_G a j → ∃ s' : Nat → Int32, (∀ x, x < 48 → kg_G a x → s' x = nI x ∧ s' (48 + x) = 0 ∧ s' (384 + x) = 0 ∧ s' (432 + x) = 0 ∧ s' (480 + x) = 0) ∧ (∀ x, x < 48 → ¬ kg_G a x → s' x = s0 x ∧ s' (48 + x) = s0 (48 + x) ∧ s' (384 + x) = s0 (384 + x) ∧ s' (432 + x) = s0 (432 + x) ∧ s' (480 + x) = s0 (480 + x)) ∧ (∀ i, (96 ≤ i ∧ i < 384) ∨ 528 ≤ i → s' i = s0 i) ∧ ∀ post : Int32 → SY → Prop, post (nI (sc_n (kg_G a) 48)) (g_trials, g_drafted, g_found, s', b_saved, b_draft, b_who, b_met, b_stack, b_fresh, b_deep, b_alike, b_meets) → wY_clear_185 post w (d + 1) (nI (sc_n (kg_G a) j)) (nI (j + 1)) g_trials g_drafted g_found s b_saved b_draft b_who b_met b_stack b_fresh b_deep b_alike b_meets := by
      intro nG
      obtain ⟨s', q1, q2, q3, q4⟩ := ih (j + 1) s (by omega) (fun x hx gx => by
        by_cases e : x = j
        · rw [e] at gx; exact absurd gx nG
        · exact h1 x (by omega) gx) (fun x hx o => by
        by_cases e : x = j
        · exact h2 x hx (Or.inl (by omega))
        · exact h2 x hx (by
            rcases o with o | o
            · exact Or.inl (by omega)
            · exact Or.inr o)) h3
      refine ⟨s', q1, q2, q3, fun post hp => ?_⟩
      have q4' := q4 post hp
      rw [sc_no nG] at q4'
      exact q4'
    by_cases u : xv_U a j
    · have u' : yv_U s0 j := by rw [yU]; exact u
      have e1 : s (384 + j) = 1 := by rw [es]; exact u'.2
      by_cases kp : kp_K a (xv_L a j)
      · obtain ⟨s', q1, q2, q3, q4⟩ := skip (fun q => q.2 kp)
        refine ⟨s', q1, q2, q3, fun post hp => ?_⟩
        have q4' := q4 post hp
        rw [wY_clear_185]
        dsimp only
        refine br_f c1 ?_
        rw [li_a384]
        refine ⟨vp_in_nI (by omega) (by omega), ?_⟩
        rw [nI_clamp (by omega), e1]
        exact br_f (by decide) (br_t (is1.mpr ((hb j u).mpr kp)) (nm_r (nI_1 j) q4'))
      · have G : kg_G a j := ⟨u, kp⟩
        obtain ⟨s1, t, t'⟩ := yw_use (g_trials := g_trials) (g_drafted := g_drafted) (g_found := g_found) (b_s := s) (b_saved := b_saved) (b_draft := b_draft) (b_who := b_who) (b_met := b_met) (b_stack := b_stack) (b_fresh := b_fresh) (b_deep := b_deep) (b_alike := b_alike) (b_meets := b_meets) (z := j) (by omega)
        obtain ⟨t1, t2, t3, t4, t5, t6⟩ := t
        obtain ⟨s', q1, q2, q3, q4⟩ := ih (j + 1) (upd s1 (384 + j) 0) (by omega) (fun x hx gx => by
          by_cases e : x = j
          · rw [e, pk_us, pk_un (by omega), pk_un (by omega), pk_un (by omega), pk_un (by omega)]
            exact ⟨t2, t3, rfl, t4, t5⟩
          · rw [pk_un (by omega), pk_un (by omega), pk_un (by omega), pk_un (by omega), pk_un (by omega), t6 _ (by omega) (by omega) (by omega) (by omega) (by omega), t6 _ (by omega) (by omega) (by omega) (by omega) (by omega), t6 _ (by omega) (by omega) (by omega) (by omega) (by omega), t6 _ (by omega) (by omega) (by omega) (by omega) (by omega), t6 _ (by omega) (by omega) (by omega) (by omega) (by omega)]
            exact h1 x (by omega) gx) (fun x hx o => by
          have e : x ≠ j := by
            intro e
            rcases o with o | o
            · omega
            · rw [e] at o; exact o G
          rw [pk_un (by omega), pk_un (by omega), pk_un (by omega), pk_un (by omega), pk_un (by omega), t6 _ (by omega) (by omega) (by omega) (by omega) (by omega), t6 _ (by omega) (by omega) (by omega) (by omega) (by omega), t6 _ (by omega) (by omega) (by omega) (by omega) (by omega), t6 _ (by omega) (by omega) (by omega) (by omega) (by omega), t6 _ (by omega) (by omega) (by omega) (by omega) (by omega)]
          exact h2 x hx (by
            rcases o with o | o
            · exact Or.inl (by omega)
            · exact Or.inr o)) (fun i hi => by rw [pk_un (by omega), t6 _ (by omega) (by omega) (by omega) (by omega) (by omega)]; exact h3 i hi)
        refine ⟨s', q1, q2, q3, fun post hp => ?_⟩
        have q4' := q4 post hp
        rw [sc_y G] at q4'
        rw [wY_clear_185]
        dsimp only
        refine br_f c1 ?_
        rw [li_a384]
        refine ⟨vp_in_nI (by omega) (by omega), ?_⟩
        rw [nI_clamp (by omega), e1]
        refine br_f (by decide) (br_f (fun q => kp ((hb j u).mp (is1.mp q))) (t' _ ?_))
        dsimp only
        simp (disch := omega) only [forall_eq, true_and, and_true, Nat.zero_add, nI_clamp, li_vin, nI_add, nI_eq, nI_leI, nI_ltI, li_0le, li_lt0, li_nn1, li_e0, not_true_eq_false, not_false_eq_true, false_implies, true_implies, forall_const, li_a0, li_b0, li_a1, li_b1, li_a2, li_b2, li_a3, li_b3, li_a7, li_b7, li_a8, li_b8, li_a16, li_b16, li_a48, li_b48, li_a584, li_b584, li_a572, li_b572, li_a96, li_b96, li_a144, li_b144, li_a192, li_b192, li_a240, li_b240, li_a336, li_b336, li_a384, li_b384, li_a432, li_b432, li_a480, li_b480, li_a488, li_b488, li_a496, li_b496, li_a504, li_b504, li_a512, li_b512, li_a520, li_b520, li_a524, li_b524, li_a528, li_b528, li_a536, li_b536, li_a544, li_b544, li_a552, li_b552, li_a560, li_b560, li_a568, li_b568, li_a573, li_b573, li_a585, li_b585, li_a633, li_b633, li_m3, li_n3, li_m4, li_n4, li_m48, li_n48, li_m50, li_n50, li_m585, li_n585, li_m633, li_n633, li_lt2, li_ge2, li_le2, li_gt2, li_lt1, li_ge1, li_le1, li_gt1, li_lt3, li_ge3, li_le3, li_gt3, li_lt4, li_ge4, li_le4, li_gt4, li_lt7, li_ge7, li_le7, li_gt7, li_lt8, li_ge8, li_le8, li_gt8, li_lt40, li_ge40, li_le40, li_gt40, li_lt240, li_ge240, li_le240, li_gt240, li_lt41, li_ge41, li_le41, li_gt41, li_lt48, li_ge48, li_le48, li_gt48, li_lt49, li_ge49, li_le49, li_gt49, li_lt60, li_ge60, li_le60, li_gt60, li_lt144, li_ge144, li_le144, li_gt144, li_lt145, li_ge145, li_le145, li_gt145, li_lt160, li_ge160, li_le160, li_gt160, li_lt336, li_ge336, li_le336, li_gt336, li_lt585, li_ge585, li_le585, li_gt585, li_lt633, li_ge633, li_le633, li_gt633, li_lt1000000, li_ge1000000, li_le1000000, li_gt1000000, li_lt2304, li_ge2304, li_le2304, li_gt2304, li_lt50, li_ge50, li_le50, li_gt50, li_le0, li_gt0]
        exact q4'
    · have e0 : s (384 + j) = 0 := by
        rw [es]
        rcases hr.2.1.2.1 j (by omega) with z | z
        · have : yv_U s0 j := ⟨by omega, z⟩
          rw [yU] at this
          exact absurd this u
        · exact z.1
      obtain ⟨s', q1, q2, q3, q4⟩ := skip (fun q => u q.1)
      refine ⟨s', q1, q2, q3, fun post hp => ?_⟩
      have q4' := q4 post hp
      rw [wY_clear_185]
      dsimp only
      refine br_f c1 ?_
      rw [li_a384]
      refine ⟨vp_in_nI (by omega) (by omega), ?_⟩
      rw [nI_clamp (by omega), e0]
      exact br_t rfl (nm_r (nI_1 j) q4')
theorem i_vc_clear {k : Nat} {u : SX} {v : SY} (I : i_Rel k u v) (hk : k + 4 ≤ 2048) : wpX_clear (fun r u' => wpY_clear (fun r' v' => r' = r ∧ i_Rel (k + 4) u' v') v) u := by
  obtain ⟨f_trials, f_drafted, f_pairs, f_metCount, f_meetingCount, a_held, a_saved, a_draft, a_toldBefore, a_pairX, a_pairY, a_stack, a_met, a_metAs, a_copies, a_meetings, a_wasMeeting, a_firstMet, a_depths, a_isKept⟩ := u
  obtain ⟨g_trials, g_drafted, g_found, b_s, b_saved, b_draft, b_who, b_met, b_stack, b_fresh, b_deep, b_alike, b_meets⟩ := v
  have C := re_A_C I
  have P := C.1
  have g := re_G P
  have R := re_A_up (k := k) (k' := k + 4) (by omega) I
  obtain ⟨t, d, t3, d3, eT, eT', eD, eD', hDr, hC, hS⟩ := id I
  unfold wpX_clear
  by_cases t0 : t ≤ 0
  · refine br_t (by rw [eT]; exact (li_le0 (by omega)).mpr t0) ?_
    obtain ⟨b1, m1, m2, m3⟩ := xw_markKept (f_trials := f_trials) (f_drafted := f_drafted) (f_pairs := f_pairs) (f_metCount := f_metCount) (f_meetingCount := f_meetingCount) (a_held := a_held) (a_saved := a_saved) (a_draft := a_draft) (a_toldBefore := a_toldBefore) (a_pairX := a_pairX) (a_pairY := a_pairY) (a_stack := a_stack) (a_met := a_met) (a_metAs := a_metAs) (a_copies := a_copies) (a_meetings := a_meetings) (a_wasMeeting := a_wasMeeting) (a_firstMet := a_firstMet) (a_depths := a_depths) (a_isKept := a_isKept) P
    obtain ⟨b2, s1, s2, s3, s4⟩ := xw_spreadKept (f_trials := f_trials) (f_drafted := f_drafted) (f_pairs := f_pairs) (f_metCount := f_metCount) (f_meetingCount := f_meetingCount) (a_held := a_held) (a_saved := a_saved) (a_draft := a_draft) (a_toldBefore := a_toldBefore) (a_pairX := a_pairX) (a_pairY := a_pairY) (a_stack := a_stack) (a_met := a_met) (a_metAs := a_metAs) (a_copies := a_copies) (a_meetings := a_meetings) (a_wasMeeting := a_wasMeeting) (a_firstMet := a_firstMet) (a_depths := a_depths) (a_isKept := b1) g m1
    have hb : ∀ c, xv_U a_held c → xv_L a_held c = c → (b2 c = 1 ↔ kp_K a_held c) := by
      intro c uc lc
      constructor
      · intro h
        rcases s1 c uc.1 with z | z
        · rw [z] at h; exact absurd h (by decide)
        · exact z.2.2.2
      · intro h
        refine h (fun c => b2 c = 1) (fun x hx => s2 _ (m2 x hx)) ?_
        intro c hc tc k hk
        exact s3 c (xv_T1 tc).1.1 hc k hk
    obtain ⟨a', x1, x2, x3, x4⟩ := xw_clear_21 (f_trials := f_trials) (f_drafted := f_drafted) (f_pairs := f_pairs) (f_metCount := f_metCount) (f_meetingCount := f_meetingCount) (a_held := a_held) (a_saved := a_saved) (a_draft := a_draft) (a_toldBefore := a_toldBefore) (a_pairX := a_pairX) (a_pairY := a_pairY) (a_stack := a_stack) (a_met := a_met) (a_metAs := a_metAs) (a_copies := a_copies) (a_meetings := a_meetings) (a_wasMeeting := a_wasMeeting) (a_firstMet := a_firstMet) (a_depths := a_depths) (a_isKept := b2) P hb s1 48 0 a_held rfl (fun x hx => by omega) (fun x hx _ => ⟨rfl, rfl⟩) (fun i _ => rfl)
    refine m3 _ (s4 _ ⟨_, x4 _ ?_⟩)
    obtain ⟨w, r1, r2, r3⟩ := yw_roots (g_trials := g_trials) (g_drafted := g_drafted) (g_found := g_found) (b_s := b_s) (b_saved := b_saved) (b_draft := b_draft) (b_who := b_who) (b_met := b_met) (b_stack := b_stack) (b_fresh := b_fresh) (b_deep := b_deep) (b_alike := b_alike) (b_meets := b_meets) P
    obtain ⟨w', c1, c2, c3, c4⟩ := yw_clear_18 (g_trials := g_trials) (g_drafted := g_drafted) (g_found := g_found) (b_s := b_s) (b_saved := b_saved) (b_draft := b_draft) (b_who := b_who) (b_met := b_met) (b_stack := b_stack) (b_fresh := b_fresh) (b_deep := b_deep) (b_alike := b_alike) (b_meets := b_meets) P 48 w (-1) (by omega) r1 (fun q => by
      have b : by_b (-1) 63 = true := by decide
      rw [← q] at b
      have := (r1 63 (by omega) b).1.1
      omega)
    have hw : ∀ v, xv_U a_held v → (by_b w' v = true ↔ kp_K a_held (xv_L a_held v)) := fun v uv => ky_fin P c1 (fun x hx => c2 x (r2 x hx)) c3 uv
    obtain ⟨s', y1, y2, y3, y4⟩ := yw_clear_185 (g_trials := g_trials) (g_drafted := g_drafted) (g_found := g_found) (b_s := b_s) (b_saved := b_saved) (b_draft := b_draft) (b_who := b_who) (b_met := b_met) (b_stack := b_stack) (b_fresh := b_fresh) (b_deep := b_deep) (b_alike := b_alike) (b_meets := b_meets) P hw 48 0 b_s rfl (fun x hx => by omega) (fun x hx _ => ⟨rfl, rfl, rfl, rfl, rfl⟩) (fun i _ => rfl)
    unfold wpY_clear
    refine br_t (by rw [eT']; exact (li_le0 (by omega)).mpr t0) (r3 _ ⟨_, c4 _ ⟨_, y4 _ ⟨rfl, ?_⟩⟩⟩)
    refine re_A_row I (re_C_mono (by omega) (cl_C (Kp := kp_K a_held) (fun _ h => kp_root h) (fun c h t k hk => kp_part h t hk) C ?_ ?_))
    · refine ⟨fun x hx ux nk => x1 x hx ⟨ux, nk⟩, fun x hx o => x2 x hx (fun q => ?_), x3⟩
      rcases o with o | o
      · exact o q.1
      · exact q.2 o
    · refine ⟨fun x hx ux nk => y1 x hx ⟨ux, nk⟩, fun x hx o => y2 x hx (fun q => ?_), y3⟩
      rcases o with o | o
      · exact o q.1
      · exact q.2 o
  · refine br_f (fun q => t0 (by rw [eT] at q; exact (li_le0 (by omega)).mp q)) ?_
    unfold wpY_clear
    exact br_f (fun q => t0 (by rw [eT'] at q; exact (li_le0 (by omega)).mp q)) ⟨rfl, R⟩
