/-- all meetings are known, and those of RECORDS hold -/
def my_F (a : Nat → Int32) (x y : Nat) (mb : Nat → Int64) : Prop :=
  my_I a x y mb ∧ (∀ u v, mt_M (xv_L a) (xv_T a) x y u v → by_b (mb u) v = true) ∧ (∀ u v, mt_M (xv_L a) (xv_T a) x y u v → (xv_T a).1 u → (xv_T a).1 v ∧ (xv_T a).2.1 u = (xv_T a).2.1 v)
theorem my_fin {B x y n : Nat} {a s : Nat → Int32} {mb : Nat → Int64} (hr : re_P B a s) (ux : xv_U a x) (uy : xv_U a y) (hU : ∀ z, xv_U a z → z < n) (hI : my_I a x y mb) (hp : my_p a mb n (n * n)) : my_F a x y mb := by
  have g := re_G hr
  have idx : ∀ u v, u < n → v < n → u * n + v < n * n := by
    intro u v h1 h2
    have : u * n + n ≤ n * n := by
      have : (u + 1) * n ≤ n * n := Nat.mul_le_mul_right n (by omega)
      rw [Nat.add_mul, Nat.one_mul] at this
      exact this
    omega
  have sub : ∀ u v, mt_M (xv_L a) (xv_T a) x y u v → by_b (mb u) v = true ∧ xv_U a u ∧ xv_U a v := by
    intro u v hM
    have uv := mt_U g.2.1 g.2.2 ux uy hM
    refine ⟨?_, uv.1, uv.2.1⟩
    have : by_b (mb u) v = true ∧ xv_U a u ∧ xv_U a v := by
      refine hM (fun u v => by_b (mb u) v = true ∧ xv_U a u ∧ xv_U a v) ⟨hI.2, (g.2.1 x ux).2.1, (g.2.1 y uy).2.1⟩ ?_
      intro u v ⟨b, uu, uv⟩ tu tv es k hk
      obtain ⟨_, _, q⟩ := hp u v (hU u uu) (hU v uv) (idx u v (hU u uu) (hU v uv)) b tu
      exact ⟨q k hk, (g.2.1 _ (g.2.2 u tu k hk)).2.1, (g.2.1 _ (g.2.2 v tv k (by rw [← es]; exact hk))).2.1⟩
    exact this.1
  refine ⟨hI, fun u v hM => (sub u v hM).1, fun u v hM tu => ?_⟩
  obtain ⟨b, uu, uv⟩ := sub u v hM
  obtain ⟨q1, q2, _⟩ := hp u v (hU u uu) (hU v uv) (idx u v (hU u uu) (hU v uv)) b tu
  exact ⟨q1, q2⟩
theorem yw_meetAll_52 {g_trials g_drafted g_found : Int32} {b_s b_saved b_draft b_who b_met b_stack b_fresh b_deep : Nat → Int32} {b_alike b_meets : Nat → Int64} {B x y n : Nat} {a : Nat → Int32} (hr : re_P B a b_s) (hR : yr_R a b_s b_who b_alike) (ux : xv_U a x) (uy : xv_U a y) (hn : n ≤ 48) (hU : ∀ z, xv_U a z → z < n) : ∀ c (b_meets : Nat → Int64), 2304 - rl_c b_meets ≤ c → my_I a x y b_meets → ∃ (r : Int32) (mb : Nat → Int64), ((r = 1 ∧ my_F a x y mb) ∨ (r = 0 ∧ ¬ mt_G (xv_U a) (xv_L a) (xv_T a) x y)) ∧ ∀ post : Int32 → SY → Prop, post r (g_trials, g_drafted, g_found, b_s, b_saved, b_draft, b_who, b_met, b_stack, b_fresh, b_deep, b_alike, mb) → wY_meetAll_52 post (nI n) (c + 2) 1 g_trials g_drafted g_found b_s b_saved b_draft b_who b_met b_stack b_fresh b_deep b_alike b_meets := by
  have lim : ∀ mb, rl_c mb ≤ 2304 := fun mb => ma_cnt_le _ _
  intro c
  induction c with
  | zero =>
    intro mb hc hI
    rcases yw_meetAll_63 (g_trials := g_trials) (g_drafted := g_drafted) (g_found := g_found) (b_s := b_s) (b_saved := b_saved) (b_draft := b_draft) (b_who := b_who) (b_met := b_met) (b_stack := b_stack) (b_fresh := b_fresh) (b_deep := b_deep) (b_alike := b_alike) (b_meets := b_meets) (x := x) (y := y) hr hR ux uy hn (n * n) 0 0 mb (by omega) hI (Or.inl rfl) (fun _ u v _ _ q => by omega) with ⟨mb', a1, a3⟩ | ⟨more', mb', a1, a2, a3, a4, a5, a6⟩
    · refine ⟨0, mb', Or.inr ⟨rfl, a1⟩, fun post hp => ?_⟩
      rw [wY_meetAll_52]
      exact br_f (by decide) ⟨_, a3 post _ hp⟩
    · rcases a2 with z | z
      · refine ⟨1, mb', Or.inl ⟨rfl, my_fin hr ux uy hU a1 (a3 z)⟩, fun post hp => ?_⟩
        rw [wY_meetAll_52]
        refine br_f (by decide) ⟨_, a6 post _ ?_⟩
        rw [z, wY_meetAll_52]
        exact br_t rfl hp
      · rcases a5 z with w | w
        · exact absurd w (by decide)
        · have := lim mb'
          omega
  | succ c ih =>
    intro mb hc hI
    rcases yw_meetAll_63 (g_trials := g_trials) (g_drafted := g_drafted) (g_found := g_found) (b_s := b_s) (b_saved := b_saved) (b_draft := b_draft) (b_who := b_who) (b_met := b_met) (b_stack := b_stack) (b_fresh := b_fresh) (b_deep := b_deep) (b_alike := b_alike) (b_meets := b_meets) (x := x) (y := y) hr hR ux uy hn (n * n) 0 0 mb (by omega) hI (Or.inl rfl) (fun _ u v _ _ q => by omega) with ⟨mb', a1, a3⟩ | ⟨more', mb', a1, a2, a3, a4, a5, a6⟩
    · refine ⟨0, mb', Or.inr ⟨rfl, a1⟩, fun post hp => ?_⟩
      rw [wY_meetAll_52]
      exact br_f (by decide) ⟨_, a3 post _ hp⟩
    · rcases a2 with z | z
      · refine ⟨1, mb', Or.inl ⟨rfl, my_fin hr ux uy hU a1 (a3 z)⟩, fun post hp => ?_⟩
        rw [wY_meetAll_52]
        refine br_f (by decide) ⟨_, a6 post _ ?_⟩
        rw [z, wY_meetAll_52]
        exact br_t rfl hp
      · rcases a5 z with w | w
        · exact absurd w (by decide)
        · obtain ⟨r, mb2, b1, b2⟩ := ih mb' (by omega) a1
          refine ⟨r, mb2, b1, fun post hp => ?_⟩
          rw [wY_meetAll_52]
          refine br_f (by decide) ⟨_, a6 post _ ?_⟩
          rw [z]
          exact b2 post hp
theorem yw_meetAll {g_trials g_drafted g_found : Int32} {b_s b_saved b_draft b_who b_met b_stack b_fresh b_deep : Nat → Int32} {b_alike b_meets : Nat → Int64} {B x y : Nat} {a : Nat → Int32} (hr : re_P B a b_s) (hR : yr_R a b_s b_who b_alike) (ux : xv_U a x) (uy : xv_U a y) : ∃ (r : Int32) (mb : Nat → Int64), ((r = 1 ∧ my_F a x y mb) ∨ (r = 0 ∧ ¬ mt_G (xv_U a) (xv_L a) (xv_T a) x y)) ∧ ∀ post : Int32 → SY → Prop, post r (g_trials, g_drafted, g_found, b_s, b_saved, b_draft, b_who, b_met, b_stack, b_fresh, b_deep, b_alike, mb) → wpY_meetAll post (g_trials, g_drafted, g_found, b_s, b_saved, b_draft, b_who, b_met, b_stack, b_fresh, b_deep, b_alike, b_meets) (nI x) (nI y) := by
  have x48 := ux.1
  have y48 := uy.1
  obtain ⟨ex, lx⟩ := re_Ls hr ux
  obtain ⟨ey, ly⟩ := re_Ls hr uy
  have yU := re_U hr
  have lp : ∀ d j (b_meets : Nat → Int64), j + d = 48 → (∀ u, u < j → b_meets u = 0) → ∃ (r : Int32) (mb : Nat → Int64), ((r = 1 ∧ my_F a x y mb) ∨ (r = 0 ∧ ¬ mt_G (xv_U a) (xv_L a) (xv_T a) x y)) ∧ ∀ post : Int32 → SY → Prop, post r (g_trials, g_drafted, g_found, b_s, b_saved, b_draft, b_who, b_met, b_stack, b_fresh, b_deep, b_alike, mb) → wY_meetAll_2 post (nI x) (nI y) g_trials g_drafted g_found (d + 1) (nI j) b_s b_saved b_draft b_who b_met b_stack b_fresh b_deep b_alike b_meets := by
    intro d
    induction d with
    | zero =>
      intro j mb hj h0
      have I0 : my_I a x y (vp_updL mb (xv_L a x) ((1 : Int64) <<< ((nI (xv_L a y)).toInt64 &&& 63))) := by
        constructor
        · intro u hu i hi hb
          by_cases e : u = xv_L a x
          · rw [e, pk_uLs, by_shl (by omega)] at hb
            have e2 : xv_L a y = i := of_decide_eq_true hb
            rw [e, ← e2]
            exact ⟨ly, mt_0⟩
          · rw [pk_uLn e, h0 u (by omega), by_0] at hb
            exact absurd hb (by decide)
        · rw [pk_uLs, by_shl (by omega)]
          exact decide_eq_true rfl
      obtain ⟨n, n1, n2, n3⟩ := yw_bound (g_trials := g_trials) (g_drafted := g_drafted) (g_found := g_found) (b_s := b_s) (b_saved := b_saved) (b_draft := b_draft) (b_who := b_who) (b_met := b_met) (b_stack := b_stack) (b_fresh := b_fresh) (b_deep := b_deep) (b_alike := b_alike) (b_meets := vp_updL mb (xv_L a x) ((1 : Int64) <<< ((nI (xv_L a y)).toInt64 &&& 63))) hr.2.1
      obtain ⟨r, mb2, b1, b2⟩ := yw_meetAll_52 (g_trials := g_trials) (g_drafted := g_drafted) (g_found := g_found) (b_s := b_s) (b_saved := b_saved) (b_draft := b_draft) (b_who := b_who) (b_met := b_met) (b_stack := b_stack) (b_fresh := b_fresh) (b_deep := b_deep) (b_alike := b_alike) (b_meets := b_meets) (x := x) (y := y) hr hR ux uy n1 (fun z hz => n2 z (by rw [yU]; exact hz)) 2304 _ (by omega) I0
      refine ⟨r, mb2, b1, fun post hp => ?_⟩
      unfold wY_meetAll_2
      simp (disch := omega) only [forall_eq, true_and, and_true, Nat.zero_add, nI_clamp, li_vin, nI_add, nI_eq, nI_leI, nI_ltI, li_0le, li_lt0, li_nn1, li_e0, not_true_eq_false, not_false_eq_true, false_implies, true_implies, forall_const, li_a0, li_b0, li_a1, li_b1, li_a2, li_b2, li_a3, li_b3, li_a7, li_b7, li_a8, li_b8, li_a16, li_b16, li_a48, li_b48, li_a584, li_b584, li_a572, li_b572, li_a96, li_b96, li_a144, li_b144, li_a192, li_b192, li_a240, li_b240, li_a336, li_b336, li_a384, li_b384, li_a432, li_b432, li_a480, li_b480, li_a488, li_b488, li_a496, li_b496, li_a504, li_b504, li_a512, li_b512, li_a520, li_b520, li_a524, li_b524, li_a528, li_b528, li_a536, li_b536, li_a544, li_b544, li_a552, li_b552, li_a560, li_b560, li_a568, li_b568, li_a573, li_b573, li_a585, li_b585, li_a633, li_b633, li_m3, li_n3, li_m4, li_n4, li_m48, li_n48, li_m50, li_n50, li_m585, li_n585, li_m633, li_n633, li_lt2, li_ge2, li_le2, li_gt2, li_lt1, li_ge1, li_le1, li_gt1, li_lt3, li_ge3, li_le3, li_gt3, li_lt4, li_ge4, li_le4, li_gt4, li_lt7, li_ge7, li_le7, li_gt7, li_lt8, li_ge8, li_le8, li_gt8, li_lt40, li_ge40, li_le40, li_gt40, li_lt240, li_ge240, li_le240, li_gt240, li_lt41, li_ge41, li_le41, li_gt41, li_lt48, li_ge48, li_le48, li_gt48, li_lt49, li_ge49, li_le49, li_gt49, li_lt60, li_ge60, li_le60, li_gt60, li_lt144, li_ge144, li_le144, li_gt144, li_lt145, li_ge145, li_le145, li_gt145, li_lt160, li_ge160, li_le160, li_gt160, li_lt336, li_ge336, li_le336, li_gt336, li_lt585, li_ge585, li_le585, li_gt585, li_lt633, li_ge633, li_le633, li_gt633, li_lt1000000, li_ge1000000, li_le1000000, li_gt1000000, li_lt2304, li_ge2304, li_le2304, li_gt2304, li_lt50, li_ge50, li_le50, li_gt50, li_le0, li_gt0, ex, ey]
      exact ⟨fun _ => n3 _ ⟨_, b2 post hp⟩, fun q => by omega⟩
    | succ d ih =>
      intro j mb hj h0
      obtain ⟨r, mb2, b1, b2⟩ := ih (j + 1) (vp_updL mb j 0) (by omega) (by
        intro u hu
        by_cases e : u = j
        · rw [e, pk_uLs]
        · rw [pk_uLn e]; exact h0 u (by omega))
      refine ⟨r, mb2, b1, fun post hp => ?_⟩
      unfold wY_meetAll_2
      simp (disch := omega) only [forall_eq, true_and, and_true, Nat.zero_add, nI_clamp, li_vin, nI_add, nI_eq, nI_leI, nI_ltI, li_0le, li_lt0, li_nn1, li_e0, not_true_eq_false, not_false_eq_true, false_implies, true_implies, forall_const, li_a0, li_b0, li_a1, li_b1, li_a2, li_b2, li_a3, li_b3, li_a7, li_b7, li_a8, li_b8, li_a16, li_b16, li_a48, li_b48, li_a584, li_b584, li_a572, li_b572, li_a96, li_b96, li_a144, li_b144, li_a192, li_b192, li_a240, li_b240, li_a336, li_b336, li_a384, li_b384, li_a432, li_b432, li_a480, li_b480, li_a488, li_b488, li_a496, li_b496, li_a504, li_b504, li_a512, li_b512, li_a520, li_b520, li_a524, li_b524, li_a528, li_b528, li_a536, li_b536, li_a544, li_b544, li_a552, li_b552, li_a560, li_b560, li_a568, li_b568, li_a573, li_b573, li_a585, li_b585, li_a633, li_b633, li_m3, li_n3, li_m4, li_n4, li_m48, li_n48, li_m50, li_n50, li_m585, li_n585, li_m633, li_n633, li_lt2, li_ge2, li_le2, li_gt2, li_lt1, li_ge1, li_le1, li_gt1, li_lt3, li_ge3, li_le3, li_gt3, li_lt4, li_ge4, li_le4, li_gt4, li_lt7, li_ge7, li_le7, li_gt7, li_lt8, li_ge8, li_le8, li_gt8, li_lt40, li_ge40, li_le40, li_gt40, li_lt240, li_ge240, li_le240, li_gt240, li_lt41, li_ge41, li_le41, li_gt41, li_lt48, li_ge48, li_le48, li_gt48, li_lt49, li_ge49, li_le49, li_gt49, li_lt60, li_ge60, li_le60, li_gt60, li_lt144, li_ge144, li_le144, li_gt144, li_lt145, li_ge145, li_le145, li_gt145, li_lt160, li_ge160, li_le160, li_gt160, li_lt336, li_ge336, li_le336, li_gt336, li_lt585, li_ge585, li_le585, li_gt585, li_lt633, li_ge633, li_le633, li_gt633, li_lt1000000, li_ge1000000, li_le1000000, li_gt1000000, li_lt2304, li_ge2304, li_le2304, li_gt2304, li_lt50, li_ge50, li_le50, li_gt50, li_le0, li_gt0]
      exact ⟨fun q => by omega, fun _ => b2 post hp⟩
  obtain ⟨r, mb, b1, b2⟩ := lp 48 0 b_meets rfl (fun u hu => by omega)
  exact ⟨r, mb, b1, fun post hp => ⟨_, b2 post hp⟩⟩
theorem by_sub (p q : Int64) : (p &&& (q ^^^ (-1))) = 0 ↔ ∀ i, i < 64 → by_b p i = true → by_b q i = true := by
  constructor
  · intro h i hi hb
    have := congrArg (fun w => by_b w i) h
    simp only [by_and, by_not _ hi, by_0, hb] at this
    cases hq : by_b q i
    · rw [hq] at this; exact absurd this (by decide)
    · rfl
  · intro h
    apply by_ext
    intro i hi
    rw [by_and, by_not _ hi, by_0]
    cases hb : by_b p i
    · rfl
    · rw [h i hi hb]; rfl
theorem yw_matches_32 {g_trials g_drafted g_found : Int32} {b_s b_saved b_draft b_who b_met b_stack b_fresh b_deep : Nat → Int32} {b_alike b_meets : Nat → Int64} {B x y n : Nat} {a : Nat → Int32} (hr : re_P B a b_s) (hR : yr_R a b_s b_who b_alike) (ux : xv_U a x) (uy : xv_U a y) (n1 : n ≤ 48) (n2 : ∀ z, xv_U a z → z < n) (n3 : ∀ v, v < 48 → b_who v = ys_wh b_s (b_s v) n) (hF : my_F a x y b_meets) : ∀ d k, k + d = 2304 → (∀ u v, u < 48 → v < 48 → u * 48 + v < k → mt_M (xv_L a) (xv_T a) x y u v → ¬ (xv_T a).1 u → ∀ w, mt_M (xv_L a) (xv_T a) x y u w → ma_al (xv_U a) (xv_L a) (xv_T a) v w) → ∀ post : Int32 → SY → Prop, (mt_G (xv_U a) (xv_L a) (xv_T a) x y → post 1 (g_trials, g_drafted, g_found, b_s, b_saved, b_draft, b_who, b_met, b_stack, b_fresh, b_deep, b_alike, b_meets)) → (¬ mt_G (xv_U a) (xv_L a) (xv_T a) x y → post 2 (g_trials, g_drafted, g_found, b_s, b_saved, b_draft, b_who, b_met, b_stack, b_fresh, b_deep, b_alike, b_meets)) → wY_matches_32 post g_trials g_drafted g_found b_s b_saved b_draft b_who b_met b_stack b_fresh b_deep b_alike b_meets (d + 1) 1 (nI k) := by
  have g := re_G hr
  obtain ⟨hI, F1, F2⟩ := hF
  intro d
  induction d with
  | zero =>
    intro k hk h post h1 h2
    have G : mt_G (xv_U a) (xv_L a) (xv_T a) x y := by
      refine ⟨F2, fun u v w hM hM' nt => ?_⟩
      obtain ⟨uu, uv, _, _⟩ := mt_U g.2.1 g.2.2 ux uy hM
      have u48 := uu.1
      have v48 := uv.1
      exact h u v u48 v48 (by omega) hM nt w hM'
    rw [wY_matches_32]
    refine br_t ((li_ge2304 (by omega)).mpr (by omega)) ?_
    unfold wY_matches_121
    exact br_f (by decide) (h1 G)
  | succ d ih =>
    intro k hk h post h1 h2
    have u48 : k / 48 < 48 := by omega
    have v48 : k % 48 < 48 := by omega
    have ed : nI k / (48 : Int32) = nI (k / 48) := pk_div (d := 48) (by omega) (by omega) (by omega)
    have er : nI k - nI k / (48 : Int32) * (48 : Int32) = nI (k % 48) := pk_rem (d := 48) (by omega) (by omega) (by omega)
    have c1 : ¬ (2304 : Int32) ≤ nI k := fun q => by have := (li_ge2304 (by omega)).mp q; omega
    generalize hu : k / 48 = u at *
    generalize hv : k % 48 = v at *
    have is1 := by_is1 (b_meets u) (k := v) (by omega)
    have more : (mt_M (xv_L a) (xv_T a) x y u v → ¬ (xv_T a).1 u → ∀ w, mt_M (xv_L a) (xv_T a) x y u w → ma_al (xv_U a) (xv_L a) (xv_T a) v w) → wY_matches_32 post g_trials g_drafted g_found b_s b_saved b_draft b_who b_met b_stack b_fresh b_deep b_alike b_meets (d + 1) 1 (nI (k + 1)) := by
      intro hn
      refine ih (k + 1) (by omega) (fun u' v' hu' hv' lt hM nt => ?_) post h1 h2
      by_cases e : u' * 48 + v' < k
      · exact h u' v' hu' hv' e hM nt
      · have eu : u' = u := by omega
        have ev : v' = v := by omega
        rw [eu, ev] at hM
        rw [eu] at nt ⊢
        rw [ev]
        exact hn hM nt
    rw [wY_matches_32]
    dsimp only
    refine br_f c1 (br_f (by decide) ?_)
    rw [er, ed]
    refine ⟨by decide, nm_e ⟨by decide, nm_e ⟨vp_in_nI u48 (by omega), ?_⟩⟩⟩
    rw [nI_clamp (by omega), nI_clamp (by omega)]
    rcases ys_wh_c b_s (b_s u) n with ⟨wz, _⟩ | ⟨j, hj, wz, w3, w4⟩
    · rw [n3 u u48, wz]
      refine br_f (by decide) ⟨vp_in_nI u48 (by omega), ?_⟩
      by_cases bit : by_b (b_meets u) v = true
      · obtain ⟨_, hM⟩ := hI.1 u u48 v (by omega) bit
        obtain ⟨uu, uv, lu, lv⟩ := mt_U g.2.1 g.2.2 ux uy hM
        have nt : ¬ (xv_T a).1 u := by
          intro q
          rcases yr_hv hr n1 n2 n3 uu with ⟨k0, _⟩ | ⟨_, j, hj, e⟩
          · rw [lu] at k0; exact (xv_T1 q).2.2 k0
          · rw [n3 u u48, wz] at e
            exact (li_nn1 (by omega)).mp e.symm
        refine br_t (is1.mpr bit) ⟨vp_in_nI u48 (by omega), vp_in_nI v48 (by omega), ?_⟩
        have iff := by_sub (b_meets u) (b_alike v)
        by_cases z : (b_meets u &&& (b_alike v ^^^ (-1))) = 0
        · refine br_t z (nm_r (nI_1 k) (more (fun _ _ w hM' => ?_)))
          obtain ⟨_, uw, _, _⟩ := mt_U g.2.1 g.2.2 ux uy hM'
          have w48 := uw.1
          exact (hR.2 v w uv uw).mp (iff.mp z w (by omega) (F1 u w hM'))
        · refine br_f z (nm_r (nI_1 k) ?_)
          have nG : ¬ mt_G (xv_U a) (xv_L a) (xv_T a) x y := by
            intro G
            apply z
            rw [iff]
            intro i hi hb
            obtain ⟨i48, hM'⟩ := hI.1 u u48 i hi hb
            obtain ⟨_, ui, _, _⟩ := mt_U g.2.1 g.2.2 ux uy hM'
            exact (hR.2 v i uv ui).mpr (G.2 u v i hM hM' nt)
          rw [wY_matches_32]
          unfold wY_matches_121
          exact br_c (fun _ => br_t rfl (h2 nG)) (fun _ => br_t rfl (br_t rfl (h2 nG)))
      · exact br_f (fun q => bit (is1.mp q)) (nm_r (nI_1 k) (more (fun hM => absurd (F1 u v hM) bit)))
    · rw [n3 u u48, wz]
      refine br_t (nI_pos' (by omega)) (nm_r (nI_1 k) (more (fun hM nt => ?_)))
      obtain ⟨uu, uv, lu, lv⟩ := mt_U g.2.1 g.2.2 ux uy hM
      rcases yr_hv hr n1 n2 n3 uu with ⟨_, e⟩ | ⟨k0, _⟩
      · rw [n3 u u48, wz] at e
        exact ((li_nn1 (by omega)).mp e).elim
      · rw [lu] at k0
        exact absurd ⟨uu, lu, k0⟩ nt
theorem i_vc_matches {k : Nat} {u : SX} {v : SY} (I : i_Rel k u v) (hk : k + 4 ≤ 2048) (v1 : Int32) (v2 : Int32) : wpX_matches (fun r u' => wpY_matches (fun r' v' => r' = r ∧ i_Rel (k + 4) u' v') v v1 v2) u v1 v2 := by
  obtain ⟨f_trials, f_drafted, f_pairs, f_metCount, f_meetingCount, a_held, a_saved, a_draft, a_toldBefore, a_pairX, a_pairY, a_stack, a_met, a_metAs, a_copies, a_meetings, a_wasMeeting, a_firstMet, a_depths, a_isKept⟩ := u
  obtain ⟨g_trials, g_drafted, g_found, b_s, b_saved, b_draft, b_who, b_met, b_stack, b_fresh, b_deep, b_alike, b_meets⟩ := v
  have P := (re_A_C I).1
  have R := re_A_up (k := k) (k' := k + 4) (by omega) I
  unfold wpX_matches
  by_cases hx : ∃ x, xv_U a_held x ∧ v1 = nI x
  · obtain ⟨x, ux, rfl⟩ := hx
    refine xw_inUse_t (f_trials := f_trials) (f_drafted := f_drafted) (f_pairs := f_pairs) (f_metCount := f_metCount) (f_meetingCount := f_meetingCount) (a_held := a_held) (a_saved := a_saved) (a_draft := a_draft) (a_toldBefore := a_toldBefore) (a_pairX := a_pairX) (a_pairY := a_pairY) (a_stack := a_stack) (a_met := a_met) (a_metAs := a_metAs) (a_copies := a_copies) (a_meetings := a_meetings) (a_wasMeeting := a_wasMeeting) (a_firstMet := a_firstMet) (a_depths := a_depths) (a_isKept := a_isKept) ux _ (br_f (by decide) ?_)
    by_cases hy : ∃ x, xv_U a_held x ∧ v2 = nI x
    · obtain ⟨y, uy, rfl⟩ := hy
      refine xw_inUse_t (f_trials := f_trials) (f_drafted := f_drafted) (f_pairs := f_pairs) (f_metCount := f_metCount) (f_meetingCount := f_meetingCount) (a_held := a_held) (a_saved := a_saved) (a_draft := a_draft) (a_toldBefore := a_toldBefore) (a_pairX := a_pairX) (a_pairY := a_pairY) (a_stack := a_stack) (a_met := a_met) (a_metAs := a_metAs) (a_copies := a_copies) (a_meetings := a_meetings) (a_wasMeeting := a_wasMeeting) (a_firstMet := a_firstMet) (a_depths := a_depths) (a_isKept := a_isKept) uy _ (br_f (by decide) ?_)
      obtain ⟨was, fm, f1, f2, f3⟩ := xw_forget (f_trials := f_trials) (f_drafted := f_drafted) (f_pairs := f_pairs) (f_metCount := f_metCount) (f_meetingCount := f_meetingCount) (a_held := a_held) (a_saved := a_saved) (a_draft := a_draft) (a_toldBefore := a_toldBefore) (a_pairX := a_pairX) (a_pairY := a_pairY) (a_stack := a_stack) (a_met := a_met) (a_metAs := a_metAs) (a_copies := a_copies) (a_meetings := a_meetings) (a_wasMeeting := a_wasMeeting) (a_firstMet := a_firstMet) (a_depths := a_depths) (a_isKept := a_isKept)
      have I0 : mx_I a_held x y 0 a_meetings was := by
        refine ⟨fun j hj => by omega, fun w hw => Or.inl (f1 w hw), ?_⟩
        have : ma_cnt (fun w => decide (was w = 1)) 2304 = ma_cnt (fun _ => false) 2304 := ma_cnt_congr 2304 (fun i hi => by rw [f1 i hi]; decide)
        rw [this]
        have z : ∀ n, ma_cnt (fun _ => false) n = 0 := by
          intro n
          induction n with
          | zero => rfl
          | succ n ih =>
            show ma_cnt (fun _ => false) n + (if false = true then 1 else 0) = 0
            rw [ih]; rfl
        rw [z]
      obtain ⟨c1, mts, was1, a1, a2, a3, a4, a5, a6⟩ := xw_addMeeting (f_trials := f_trials) (f_drafted := f_drafted) (f_pairs := f_pairs) (f_metCount := f_metCount) (f_meetingCount := 0) (a_held := a_held) (a_saved := a_saved) (a_draft := a_draft) (a_toldBefore := a_toldBefore) (a_pairX := a_pairX) (a_pairY := a_pairY) (a_stack := a_stack) (a_met := a_met) (a_metAs := a_metAs) (a_copies := a_copies) (a_meetings := a_meetings) (a_wasMeeting := was) (a_firstMet := fm) (a_depths := a_depths) (a_isKept := a_isKept) (x := x) (y := y) (c := 0) P.1 ux uy mt_0 rfl I0
      obtain ⟨r, c', fp, tb, px, py, mts', was', fm', o1, o2⟩ := mx_loop (f_trials := f_trials) (f_drafted := f_drafted) (f_pairs := f_pairs) (f_metCount := f_metCount) (f_meetingCount := f_meetingCount) (a_held := a_held) (a_saved := a_saved) (a_draft := a_draft) (a_toldBefore := a_toldBefore) (a_pairX := a_pairX) (a_pairY := a_pairY) (a_stack := a_stack) (a_met := a_met) (a_metAs := a_metAs) (a_copies := a_copies) (a_meetings := a_meetings) (a_wasMeeting := a_wasMeeting) (a_firstMet := a_firstMet) (a_depths := a_depths) (a_isKept := a_isKept) P ux uy 2304 0 c1 f_pairs a_toldBefore a_pairX a_pairY mts was1 fm (by omega) a1 a2 (fun u hu => Or.inl (f2 u hu)) (by omega) (fun j hj => by omega)
      refine f3 _ (a6 _ ⟨_, o2 _ ?_⟩)
      obtain ⟨wh, al, hR, rY⟩ := yw_relate (g_trials := g_trials) (g_drafted := g_drafted) (g_found := g_found) (b_s := b_s) (b_saved := b_saved) (b_draft := b_draft) (b_who := b_who) (b_met := b_met) (b_stack := b_stack) (b_fresh := b_fresh) (b_deep := b_deep) (b_alike := b_alike) (b_meets := b_meets) P
      obtain ⟨rm, mb, m1, m2⟩ := yw_meetAll (g_trials := g_trials) (g_drafted := g_drafted) (g_found := g_found) (b_s := b_s) (b_saved := b_saved) (b_draft := b_draft) (b_who := wh) (b_met := b_met) (b_stack := b_stack) (b_fresh := b_fresh) (b_deep := b_deep) (b_alike := al) (b_meets := b_meets) (x := x) (y := y) P hR ux uy
      unfold wpY_matches
      refine yw_isUsed_t (g_trials := g_trials) (g_drafted := g_drafted) (g_found := g_found) (b_s := b_s) (b_saved := b_saved) (b_draft := b_draft) (b_who := b_who) (b_met := b_met) (b_stack := b_stack) (b_fresh := b_fresh) (b_deep := b_deep) (b_alike := b_alike) (b_meets := b_meets) (re_pos P ux) _ (br_f (by decide) (yw_isUsed_t (g_trials := g_trials) (g_drafted := g_drafted) (g_found := g_found) (b_s := b_s) (b_saved := b_saved) (b_draft := b_draft) (b_who := b_who) (b_met := b_met) (b_stack := b_stack) (b_fresh := b_fresh) (b_deep := b_deep) (b_alike := b_alike) (b_meets := b_meets) (re_pos P uy) _ (br_f (by decide) (rY _ (m2 _ ?_)))))
      rcases m1 with ⟨z1, z2⟩ | ⟨z1, z2⟩
      · subst z1
        obtain ⟨n, n1, n2, n3⟩ := hR.1
        refine ⟨_, yw_matches_32 (g_trials := g_trials) (g_drafted := g_drafted) (g_found := g_found) (b_s := b_s) (b_saved := b_saved) (b_draft := b_draft) (b_who := wh) (b_met := b_met) (b_stack := b_stack) (b_fresh := b_fresh) (b_deep := b_deep) (b_alike := al) (b_meets := mb) P hR ux uy n1 n2 n3 z2 2304 0 (by omega) (fun u v _ _ q => by omega) _ (fun G => ⟨?_, R⟩) (fun nG => ⟨?_, R⟩)⟩
        · rcases o1 with o | o
          · exact o.1.symm
          · exact absurd G o.2
        · rcases o1 with o | o
          · exact absurd o.2 nG
          · exact o.1.symm
      · subst z1
        refine ⟨1, ?_⟩
        rw [wY_matches_32]
        unfold wY_matches_121
        have er : (2 : Int32) = r := by
          rcases o1 with o | o
          · exact absurd o.2 z2
          · exact o.1.symm
        exact br_f (by decide) (br_t rfl (br_t rfl ⟨er, R⟩))
    · refine xw_inUse_f (f_trials := f_trials) (f_drafted := f_drafted) (f_pairs := f_pairs) (f_metCount := f_metCount) (f_meetingCount := f_meetingCount) (a_held := a_held) (a_saved := a_saved) (a_draft := a_draft) (a_toldBefore := a_toldBefore) (a_pairX := a_pairX) (a_pairY := a_pairY) (a_stack := a_stack) (a_met := a_met) (a_metAs := a_metAs) (a_copies := a_copies) (a_meetings := a_meetings) (a_wasMeeting := a_wasMeeting) (a_firstMet := a_firstMet) (a_depths := a_depths) (a_isKept := a_isKept) hy _ (br_t rfl ?_)
      unfold wpY_matches
      exact yw_isUsed_t (g_trials := g_trials) (g_drafted := g_drafted) (g_found := g_found) (b_s := b_s) (b_saved := b_saved) (b_draft := b_draft) (b_who := b_who) (b_met := b_met) (b_stack := b_stack) (b_fresh := b_fresh) (b_deep := b_deep) (b_alike := b_alike) (b_meets := b_meets) (re_pos P ux) _ (br_f (by decide) (yw_isUsed_f (g_trials := g_trials) (g_drafted := g_drafted) (g_found := g_found) (b_s := b_s) (b_saved := b_saved) (b_draft := b_draft) (b_who := b_who) (b_met := b_met) (b_stack := b_stack) (b_fresh := b_fresh) (b_deep := b_deep) (b_alike := b_alike) (b_meets := b_meets) (re_neg P hy) _ (br_t rfl ⟨rfl, R⟩)))
  · refine xw_inUse_f (f_trials := f_trials) (f_drafted := f_drafted) (f_pairs := f_pairs) (f_metCount := f_metCount) (f_meetingCount := f_meetingCount) (a_held := a_held) (a_saved := a_saved) (a_draft := a_draft) (a_toldBefore := a_toldBefore) (a_pairX := a_pairX) (a_pairY := a_pairY) (a_stack := a_stack) (a_met := a_met) (a_metAs := a_metAs) (a_copies := a_copies) (a_meetings := a_meetings) (a_wasMeeting := a_wasMeeting) (a_firstMet := a_firstMet) (a_depths := a_depths) (a_isKept := a_isKept) hx _ (br_t rfl ?_)
    unfold wpY_matches
    exact yw_isUsed_f (g_trials := g_trials) (g_drafted := g_drafted) (g_found := g_found) (b_s := b_s) (b_saved := b_saved) (b_draft := b_draft) (b_who := b_who) (b_met := b_met) (b_stack := b_stack) (b_fresh := b_fresh) (b_deep := b_deep) (b_alike := b_alike) (b_meets := b_meets) (re_neg P hx) _ (br_t rfl ⟨rfl, R⟩)
