/-- what relate leaves: who holds the values, who are ALIKE -/
def yr_R (a s : Nat → Int32) (wh : Nat → Int32) (al : Nat → Int64) : Prop :=
  (∃ n, n ≤ 48 ∧ (∀ x, xv_U a x → x < n) ∧ ∀ v, v < 48 → wh v = ys_wh s (s v) n) ∧ ∀ x y, xv_U a x → xv_U a y → (by_b (al x) y = true ↔ ma_al (xv_U a) (xv_L a) (xv_T a) x y)
theorem yw_relate_34 {g_trials g_drafted g_found : Int32} {b_s b_saved b_draft b_who b_met b_stack b_fresh b_deep : Nat → Int32} {b_alike b_meets : Nat → Int64} {B : Nat} {a : Nat → Int32} {n n' : Nat} (hr : re_P B a b_s) (hn : n ≤ 48) (hU : ∀ x, xv_U a x → x < n) (hw : ∀ v, v < 48 → b_who v = ys_wh b_s (b_s v) n) (hn' : n' ≤ 48) : ∀ c (b_alike : Nat → Int64), rl_c b_alike ≤ c → rl_I (xv_U a) (xv_L a) (yv_T b_s) (ys_h b_s n) (ys_f b_s n) b_alike → ∃ al' : Nat → Int64, rl_I (xv_U a) (xv_L a) (yv_T b_s) (ys_h b_s n) (ys_f b_s n) al' ∧ rl_p (xv_U a) (xv_L a) (yv_T b_s) (ys_h b_s n) (ys_f b_s n) al' n' (n' * n') ∧ ∀ post : SY → Prop, post (g_trials, g_drafted, g_found, b_s, b_saved, b_draft, b_who, b_met, b_stack, b_fresh, b_deep, al', b_meets) → wY_relate_34 post (nI n') g_trials g_drafted g_found (c + 2) 1 b_s b_saved b_draft b_who b_met b_stack b_fresh b_deep b_alike b_meets := by
  intro c
  induction c with
  | zero =>
    intro al hc hI
    obtain ⟨more', al', a1, a2, a3, a4, a5, a6⟩ := yw_relate_42 (g_trials := g_trials) (g_drafted := g_drafted) (g_found := g_found) (b_s := b_s) (b_saved := b_saved) (b_draft := b_draft) (b_who := b_who) (b_met := b_met) (b_stack := b_stack) (b_fresh := b_fresh) (b_deep := b_deep) (b_alike := b_alike) (b_meets := b_meets) hr hn hU hw hn' (n' * n') 0 0 al (by omega) hI (Or.inl rfl) (fun _ u v _ _ _ _ q => by omega)
    rcases a2 with z | z
    · refine ⟨al', a1, a3 z, fun post hp => ?_⟩
      rw [wY_relate_34]
      refine br_f (by decide) ⟨_, a6 post _ ?_⟩
      rw [z, wY_relate_34]
      exact br_t rfl hp
    · rcases a5 z with w | w
      · exact absurd w (by decide)
      · omega
  | succ c ih =>
    intro al hc hI
    obtain ⟨more', al', a1, a2, a3, a4, a5, a6⟩ := yw_relate_42 (g_trials := g_trials) (g_drafted := g_drafted) (g_found := g_found) (b_s := b_s) (b_saved := b_saved) (b_draft := b_draft) (b_who := b_who) (b_met := b_met) (b_stack := b_stack) (b_fresh := b_fresh) (b_deep := b_deep) (b_alike := b_alike) (b_meets := b_meets) hr hn hU hw hn' (n' * n') 0 0 al (by omega) hI (Or.inl rfl) (fun _ u v _ _ _ _ q => by omega)
    rcases a2 with z | z
    · refine ⟨al', a1, a3 z, fun post hp => ?_⟩
      rw [wY_relate_34]
      refine br_f (by decide) ⟨_, a6 post _ ?_⟩
      rw [z, wY_relate_34]
      exact br_t rfl hp
    · rcases a5 z with w | w
      · exact absurd w (by decide)
      · obtain ⟨al2, b1, b2, b3⟩ := ih al' (by omega) a1
        refine ⟨al2, b1, b2, fun post hp => ?_⟩
        rw [wY_relate_34]
        refine br_f (by decide) ⟨_, a6 post _ ?_⟩
        rw [z]
        exact b3 post hp
theorem yw_relate_6 {g_trials g_drafted g_found : Int32} {b_s b_saved b_draft b_who b_met b_stack b_fresh b_deep : Nat → Int32} {b_alike b_meets : Nat → Int64} {B : Nat} {a : Nat → Int32} {n : Nat} (hr : re_P B a b_s) (hn : n ≤ 48) (hU : ∀ x, xv_U a x → x < n) (hw : ∀ v, v < 48 → b_who v = ys_wh b_s (b_s v) n) : ∀ d j (b_alike : Nat → Int64), j + d = 48 → (∀ i, i < j → b_alike i = 281474976710655) → ∃ al' : Nat → Int64, yr_R a b_s b_who al' ∧ ∀ post : SY → Prop, post (g_trials, g_drafted, g_found, b_s, b_saved, b_draft, b_who, b_met, b_stack, b_fresh, b_deep, al', b_meets) → wY_relate_6 post g_trials g_drafted g_found (d + 1) (nI j) b_s b_saved b_draft b_who b_met b_stack b_fresh b_deep b_alike b_meets := by
  intro d
  induction d with
  | zero =>
    intro j al hj h
    obtain ⟨n', n1, n2, n3⟩ := yw_bound (g_trials := g_trials) (g_drafted := g_drafted) (g_found := g_found) (b_s := b_s) (b_saved := b_saved) (b_draft := b_draft) (b_who := b_who) (b_met := b_met) (b_stack := b_stack) (b_fresh := b_fresh) (b_deep := b_deep) (b_alike := al) (b_meets := b_meets) hr.2.1
    have hI : rl_I (xv_U a) (xv_L a) (yv_T b_s) (ys_h b_s n) (ys_f b_s n) al := by
      constructor
      · intro u v hu hv
        rw [h u (by omega), h v (by omega), by_full (by omega), by_full (by omega), decide_eq_true hu, decide_eq_true hv]
      · intro B _ u v hu hv _
        rw [h u (by have := hu.1; omega), by_full (by have := hv.1; omega), decide_eq_true hv.1]
    obtain ⟨al', b1, b2, b3⟩ := yw_relate_34 (g_trials := g_trials) (g_drafted := g_drafted) (g_found := g_found) (b_s := b_s) (b_saved := b_saved) (b_draft := b_draft) (b_who := b_who) (b_met := b_met) (b_stack := b_stack) (b_fresh := b_fresh) (b_deep := b_deep) (b_alike := b_alike) (b_meets := b_meets) hr hn hU hw n1 (rl_c al) al (Nat.le_refl _) hI
    refine ⟨al', ⟨⟨n, hn, hU, hw⟩, fun x y hx hy => ?_⟩, fun post hp => ?_⟩
    · refine rl_al hr hn hU b1 (fun u v hu hv lt q => ?_) hx hy
      have yU := re_U hr
      have vn := n2 v (by rw [yU]; exact hv)
      refine b2 u v hu hv lt vn ?_ q
      have : u * n' + n' ≤ n' * n' := by
        have : (u + 1) * n' ≤ n' * n' := Nat.mul_le_mul_right n' (by omega)
        rw [Nat.add_mul, Nat.one_mul] at this
        exact this
      omega
    · unfold wY_relate_6
      simp (disch := omega) only [forall_eq, true_and, and_true, Nat.zero_add, nI_clamp, li_vin, nI_add, nI_eq, nI_leI, nI_ltI, li_0le, li_lt0, li_nn1, li_e0, not_true_eq_false, not_false_eq_true, false_implies, true_implies, forall_const, li_a0, li_b0, li_a1, li_b1, li_a2, li_b2, li_a3, li_b3, li_a7, li_b7, li_a8, li_b8, li_a16, li_b16, li_a48, li_b48, li_a584, li_b584, li_a572, li_b572, li_a96, li_b96, li_a144, li_b144, li_a192, li_b192, li_a240, li_b240, li_a336, li_b336, li_a384, li_b384, li_a432, li_b432, li_a480, li_b480, li_a488, li_b488, li_a496, li_b496, li_a504, li_b504, li_a512, li_b512, li_a520, li_b520, li_a524, li_b524, li_a528, li_b528, li_a536, li_b536, li_a544, li_b544, li_a552, li_b552, li_a560, li_b560, li_a568, li_b568, li_a573, li_b573, li_a585, li_b585, li_a633, li_b633, li_m3, li_n3, li_m4, li_n4, li_m48, li_n48, li_m50, li_n50, li_m585, li_n585, li_m633, li_n633, li_lt2, li_ge2, li_le2, li_gt2, li_lt1, li_ge1, li_le1, li_gt1, li_lt3, li_ge3, li_le3, li_gt3, li_lt4, li_ge4, li_le4, li_gt4, li_lt7, li_ge7, li_le7, li_gt7, li_lt8, li_ge8, li_le8, li_gt8, li_lt40, li_ge40, li_le40, li_gt40, li_lt240, li_ge240, li_le240, li_gt240, li_lt41, li_ge41, li_le41, li_gt41, li_lt48, li_ge48, li_le48, li_gt48, li_lt49, li_ge49, li_le49, li_gt49, li_lt60, li_ge60, li_le60, li_gt60, li_lt144, li_ge144, li_le144, li_gt144, li_lt145, li_ge145, li_le145, li_gt145, li_lt160, li_ge160, li_le160, li_gt160, li_lt336, li_ge336, li_le336, li_gt336, li_lt585, li_ge585, li_le585, li_gt585, li_lt633, li_ge633, li_le633, li_gt633, li_lt1000000, li_ge1000000, li_le1000000, li_gt1000000, li_lt2304, li_ge2304, li_le2304, li_gt2304, li_lt50, li_ge50, li_le50, li_gt50, li_le0, li_gt0]
      exact ⟨fun _ => n3 _ ⟨_, b3 post hp⟩, fun q => by omega⟩
  | succ d ih =>
    intro j al hj h
    obtain ⟨al', b1, b2⟩ := ih (j + 1) (vp_updL al j 281474976710655) (by omega) (by
      intro i hi
      by_cases q : i = j
      · rw [q, pk_uLs]
      · rw [pk_uLn q]; exact h i (by omega))
    refine ⟨al', b1, fun post hp => ?_⟩
    unfold wY_relate_6
    simp (disch := omega) only [forall_eq, true_and, and_true, Nat.zero_add, nI_clamp, li_vin, nI_add, nI_eq, nI_leI, nI_ltI, li_0le, li_lt0, li_nn1, li_e0, not_true_eq_false, not_false_eq_true, false_implies, true_implies, forall_const, li_a0, li_b0, li_a1, li_b1, li_a2, li_b2, li_a3, li_b3, li_a7, li_b7, li_a8, li_b8, li_a16, li_b16, li_a48, li_b48, li_a584, li_b584, li_a572, li_b572, li_a96, li_b96, li_a144, li_b144, li_a192, li_b192, li_a240, li_b240, li_a336, li_b336, li_a384, li_b384, li_a432, li_b432, li_a480, li_b480, li_a488, li_b488, li_a496, li_b496, li_a504, li_b504, li_a512, li_b512, li_a520, li_b520, li_a524, li_b524, li_a528, li_b528, li_a536, li_b536, li_a544, li_b544, li_a552, li_b552, li_a560, li_b560, li_a568, li_b568, li_a573, li_b573, li_a585, li_b585, li_a633, li_b633, li_m3, li_n3, li_m4, li_n4, li_m48, li_n48, li_m50, li_n50, li_m585, li_n585, li_m633, li_n633, li_lt2, li_ge2, li_le2, li_gt2, li_lt1, li_ge1, li_le1, li_gt1, li_lt3, li_ge3, li_le3, li_gt3, li_lt4, li_ge4, li_le4, li_gt4, li_lt7, li_ge7, li_le7, li_gt7, li_lt8, li_ge8, li_le8, li_gt8, li_lt40, li_ge40, li_le40, li_gt40, li_lt240, li_ge240, li_le240, li_gt240, li_lt41, li_ge41, li_le41, li_gt41, li_lt48, li_ge48, li_le48, li_gt48, li_lt49, li_ge49, li_le49, li_gt49, li_lt60, li_ge60, li_le60, li_gt60, li_lt144, li_ge144, li_le144, li_gt144, li_lt145, li_ge145, li_le145, li_gt145, li_lt160, li_ge160, li_le160, li_gt160, li_lt336, li_ge336, li_le336, li_gt336, li_lt585, li_ge585, li_le585, li_gt585, li_lt633, li_ge633, li_le633, li_gt633, li_lt1000000, li_ge1000000, li_le1000000, li_gt1000000, li_lt2304, li_ge2304, li_le2304, li_gt2304, li_lt50, li_ge50, li_le50, li_gt50, li_le0, li_gt0]
    exact ⟨fun q => by omega, fun _ => b2 post hp⟩
theorem yw_relate {g_trials g_drafted g_found : Int32} {b_s b_saved b_draft b_who b_met b_stack b_fresh b_deep : Nat → Int32} {b_alike b_meets : Nat → Int64} {B : Nat} {a : Nat → Int32} (hr : re_P B a b_s) : ∃ (wh : Nat → Int32) (al : Nat → Int64), yr_R a b_s wh al ∧ ∀ post : SY → Prop, post (g_trials, g_drafted, g_found, b_s, b_saved, b_draft, wh, b_met, b_stack, b_fresh, b_deep, al, b_meets) → wpY_relate post (g_trials, g_drafted, g_found, b_s, b_saved, b_draft, b_who, b_met, b_stack, b_fresh, b_deep, b_alike, b_meets) := by
  have yU := re_U hr
  obtain ⟨n, wh, n1, n2, n3, n4⟩ := yw_values (g_trials := g_trials) (g_drafted := g_drafted) (g_found := g_found) (b_s := b_s) (b_saved := b_saved) (b_draft := b_draft) (b_who := b_who) (b_met := b_met) (b_stack := b_stack) (b_fresh := b_fresh) (b_deep := b_deep) (b_alike := b_alike) (b_meets := b_meets) hr.2.1
  obtain ⟨al, b1, b2⟩ := yw_relate_6 (g_trials := g_trials) (g_drafted := g_drafted) (g_found := g_found) (b_s := b_s) (b_saved := b_saved) (b_draft := b_draft) (b_who := wh) (b_met := b_met) (b_stack := b_stack) (b_fresh := b_fresh) (b_deep := b_deep) (b_alike := b_alike) (b_meets := b_meets) hr n1 (fun x hx => n2 x (by rw [yU]; exact hx)) n3 48 0 b_alike rfl (fun i hi => by omega)
  refine ⟨wh, al, b1, fun post hp => ?_⟩
  unfold wpY_relate
  exact n4 _ ⟨_, b2 post hp⟩
/-- judge answers as compare does -/
theorem yw_judge {g_trials g_drafted g_found : Int32} {b_s b_saved b_draft b_who b_met b_stack b_fresh b_deep : Nat → Int32} {b_alike b_meets : Nat → Int64} {B : Nat} {a : Nat → Int32} (hr : re_P B a b_s) (hR : yr_R a b_s b_who b_alike) {x y : Nat} (hx : xv_U a x) (hy : xv_U a y) : ∃ s' : Nat → Int32, (∀ i, i < 633 → s' i = b_s i) ∧ ∀ post : Int32 → SY → Prop, post (ma_vd (xv_U a) (xv_L a) (xv_T a) x y) (g_trials, g_drafted, g_found, s', b_saved, b_draft, b_who, b_met, b_stack, b_fresh, b_deep, b_alike, b_meets) → wpY_judge post (g_trials, g_drafted, g_found, b_s, b_saved, b_draft, b_who, b_met, b_stack, b_fresh, b_deep, b_alike, b_meets) (nI x) (nI y) := by
  have yU := re_U hr
  have iff := hR.2 x y hx hy
  by_cases q : by_b (b_alike x) y = true
  · refine ⟨b_s, fun _ _ => rfl, fun post hp => ?_⟩
    unfold wpY_judge
    refine yw_areAlike (g_trials := g_trials) (g_drafted := g_drafted) (g_found := g_found) (b_s := b_s) (b_saved := b_saved) (b_draft := b_draft) (b_who := b_who) (b_met := b_met) (b_stack := b_stack) (b_fresh := b_fresh) (b_deep := b_deep) (b_alike := b_alike) (b_meets := b_meets) hx.1 hy.1 _ (fun _ => br_f (by decide) ?_) (fun z => absurd (z.symm.trans q) (by decide))
    rw [ma_vd_is1 (iff.mp q)] at hp
    exact hp
  · have na : ¬ ma_al (xv_U a) (xv_L a) (xv_T a) x y := fun z => q (iff.mpr z)
    obtain ⟨s1, a1, a2, a3⟩ := yw_tryIds (g_trials := g_trials) (g_drafted := g_drafted) (g_found := g_found) (b_s := b_s) (b_saved := b_saved) (b_draft := b_draft) (b_who := b_who) (b_met := b_met) (b_stack := b_stack) (b_fresh := b_fresh) (b_deep := b_deep) (b_alike := b_alike) (b_meets := b_meets)
    obtain ⟨s2, j1, j2⟩ := yw_join (g_trials := g_trials) (g_drafted := g_drafted) (g_found := g_found) (b_s := s1) (b_saved := b_saved) (b_draft := b_draft) (b_who := b_who) (b_met := b_met) (b_stack := b_stack) (b_fresh := b_fresh) (b_deep := b_deep) (b_alike := b_alike) (b_meets := b_meets) (b := 633) (by omega) hx.1 hy.1
    have i2 : yc_I (xv_L a) (ma_1 x y) b_s s2 := yc_more (yc_0 hr a2 a1) (by rw [yU]; exact hx) (by rw [yU]; exact hy) j1 (fun u v => ⟨fun q => Or.inr q, fun q => q.elim (fun z => z.elim) (fun z => z)⟩)
    obtain ⟨r, s', h1, h2⟩ := yw_close (g_trials := g_trials) (g_drafted := g_drafted) (g_found := g_found) (b_s := s2) (b_saved := b_saved) (b_draft := b_draft) (b_who := b_who) (b_met := b_met) (b_stack := b_stack) (b_fresh := b_fresh) (b_deep := b_deep) (b_alike := b_alike) (b_meets := b_meets) hr.2.1 (re_yT hr) i2
    obtain ⟨t1, t2⟩ := tl_tr (Q := ma_1 x y) hr
    refine ⟨s', ?_, fun post hp => ?_⟩
    · rcases h1 with z | z
      · exact z.2.2.1
      · exact z.2.2
    · unfold wpY_judge
      refine yw_areAlike (g_trials := g_trials) (g_drafted := g_drafted) (g_found := g_found) (b_s := b_s) (b_saved := b_saved) (b_draft := b_draft) (b_who := b_who) (b_met := b_met) (b_stack := b_stack) (b_fresh := b_fresh) (b_deep := b_deep) (b_alike := b_alike) (b_meets := b_meets) hx.1 hy.1 _ (fun z => absurd z q) (fun _ => br_t rfl ?_)
      refine a3 _ (j2 _ (h2 _ ?_))
      rcases h1 with z | z
      · rw [z.1]
        refine br_f (by decide) ?_
        rw [ma_vd_is3 na (fun w => ma_Ok_no (t1 _ z.2.1) w)] at hp
        exact hp
      · rw [z.1]
        refine br_t rfl ?_
        rw [ma_vd_is2 na (t2 z.2.1)] at hp
        exact hp
