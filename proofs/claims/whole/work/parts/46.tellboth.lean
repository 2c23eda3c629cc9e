/-- the two tellings of a value -/
theorem tf_all {g_trials g_drafted g_found : Int32} {b_s b_saved b_draft b_who b_met b_stack b_fresh b_deep : Nat → Int32} {b_alike b_meets : Nat → Int64} {B : Nat} {a a' : Nat → Int32} {x : Nat} {sh : Int32 × Int32} {p : Nat → Nat} {r kind num label count : Int32} (hr : re_P B a b_s) (ux : xv_U a x) (hA : tf_A sh kind num label count) (hd : ∀ k, k < ma_ct sh.1 → b_draft k = nI (p k) ∧ xv_U a (p k)) (hX : tv_X a a' x sh p r) :
    (r = 2 ∧ a' = a ∧ ∃ s' : Nat → Int32, tf_F b_s s' x ∧ ∀ post : Int32 → SY → Prop, post 2 (g_trials, g_drafted, g_found, s', b_saved, b_draft, b_who, b_met, b_stack, b_fresh, b_deep, b_alike, b_meets) → wpY_tellOf post (g_trials, g_drafted, g_found, b_s, b_saved, b_draft, b_who, b_met, b_stack, b_fresh, b_deep, b_alike, b_meets) (nI x) kind num label count) ∨
    (r = 1 ∧ ∃ s' : Nat → Int32, re_P B a' s' ∧ ∀ post : Int32 → SY → Prop, wpY_settle (fun u => match u with | (g_trials, g_drafted, g_found, b_s, b_saved, b_draft, b_who, b_met, b_stack, b_fresh, b_deep, b_alike, b_meets) => post 1 (g_trials, g_drafted, g_found, b_s, b_saved, b_draft, b_who, b_met, b_stack, b_fresh, b_deep, b_alike, b_meets)) (g_trials, g_drafted, g_found, s', b_saved, b_draft, b_who, b_met, b_stack, b_fresh, b_deep, b_alike, b_meets) → wpY_tellOf post (g_trials, g_drafted, g_found, b_s, b_saved, b_draft, b_who, b_met, b_stack, b_fresh, b_deep, b_alike, b_meets) (nI x) kind num label count) := by
  have yU := re_U hr
  have h5 := hr.2.2.2.2.1
  have x48 := ux.1
  obtain ⟨wx1, wx2, wx3, wx4⟩ := h5.1 x ux
  obtain ⟨c1, c2, c3⟩ := tf_c hA
  have ct3 := ma_ct_le sh.1
  have uy : yv_U b_s x := by rw [yU]; exact ux
  have p48 : ∀ k, k < ma_ct sh.1 → p k < 48 := fun k hk => (hd k hk).2.1
  by_cases own : b_s (48 + x) = 0
  · -- no value of its own
    have ny : ¬ (yv_T b_s).1 x := fun q => (yv_T1 q).2 own
    obtain ⟨s0, s2, v1, v2, v3, v4⟩ := yw_new (g_trials := g_trials) (g_drafted := g_drafted) (g_found := g_found) (b_s := b_s) (b_saved := b_saved) (b_draft := b_draft) (b_who := b_who) (b_met := b_met) (b_stack := b_stack) (b_fresh := b_fresh) (b_deep := b_deep) (b_alike := b_alike) (b_meets := b_meets) x48 hA own (fun k hk => (hd k hk).1)
    have tY := sv_YT v1 uy ny p48
    have yH0 := sv_YH v1 x48 uy.2 p48 hr.2.1
    have cY := v1.2.2.2
    have fail : ∀ s' : Nat → Int32, (∀ i, i < 633 → s' i = s0 i) → tf_F b_s (upd s' (48 + x) 0) x := by
      intro s' hs
      refine Or.inr ⟨own, pk_us, fun k hk => ?_, fun i h1 h2 h3 h4 h5 h6 => ?_⟩
      · rw [pk_un (by omega), hs _ (by omega)]; exact yH0.2.2.2 x k x48 hk
      · rw [pk_un h2, hs i h1]; exact cY i h1 h2 h3 h4 h5 h6
    have w0 : ∀ (s' : Nat → Int32) (post : Int32 → SY → Prop), post 2 (g_trials, g_drafted, g_found, upd s' (48 + x) 0, b_saved, b_draft, b_who, b_met, b_stack, b_fresh, b_deep, b_alike, b_meets) → ((0 : Int32) = 0 → (((0 : Int32) = 0 → (vp_in (48 + nI x) 681 ∧ ∀ a_s_51 : Nat → Int32, a_s_51 = upd s' (48 + nI x).toNatClampNeg 0 → wY_tellOf_249 post 0 g_trials g_drafted g_found a_s_51 b_saved b_draft b_who b_met b_stack b_fresh b_deep b_alike b_meets)) ∧ (¬ (0 : Int32) = 0 → wY_tellOf_249 post 0 g_trials g_drafted g_found s' b_saved b_draft b_who b_met b_stack b_fresh b_deep b_alike b_meets))) ∧ (¬ (0 : Int32) = 0 → wY_tellOf_249 post 0 g_trials g_drafted g_found s' b_saved b_draft b_who b_met b_stack b_fresh b_deep b_alike b_meets) := by
      intro s' post hp
      refine br_t rfl (br_t rfl ?_)
      simp (disch := omega) only [forall_eq, true_and, and_true, Nat.zero_add, nI_clamp, li_vin, nI_add, nI_eq, nI_leI, nI_ltI, li_0le, li_lt0, li_nn1, li_e0, not_true_eq_false, not_false_eq_true, false_implies, true_implies, forall_const, li_a0, li_b0, li_a1, li_b1, li_a2, li_b2, li_a3, li_b3, li_a7, li_b7, li_a8, li_b8, li_a16, li_b16, li_a48, li_b48, li_a584, li_b584, li_a572, li_b572, li_a96, li_b96, li_a144, li_b144, li_a192, li_b192, li_a240, li_b240, li_a336, li_b336, li_a384, li_b384, li_a432, li_b432, li_a480, li_b480, li_a488, li_b488, li_a496, li_b496, li_a504, li_b504, li_a512, li_b512, li_a520, li_b520, li_a524, li_b524, li_a528, li_b528, li_a536, li_b536, li_a544, li_b544, li_a552, li_b552, li_a560, li_b560, li_a568, li_b568, li_a573, li_b573, li_a585, li_b585, li_a633, li_b633, li_m3, li_n3, li_m4, li_n4, li_m48, li_n48, li_m50, li_n50, li_m585, li_n585, li_m633, li_n633, li_lt2, li_ge2, li_le2, li_gt2, li_lt1, li_ge1, li_le1, li_gt1, li_lt3, li_ge3, li_le3, li_gt3, li_lt4, li_ge4, li_le4, li_gt4, li_lt7, li_ge7, li_le7, li_gt7, li_lt8, li_ge8, li_le8, li_gt8, li_lt40, li_ge40, li_le40, li_gt40, li_lt240, li_ge240, li_le240, li_gt240, li_lt41, li_ge41, li_le41, li_gt41, li_lt48, li_ge48, li_le48, li_gt48, li_lt49, li_ge49, li_le49, li_gt49, li_lt60, li_ge60, li_le60, li_gt60, li_lt144, li_ge144, li_le144, li_gt144, li_lt145, li_ge145, li_le145, li_gt145, li_lt160, li_ge160, li_le160, li_gt160, li_lt336, li_ge336, li_le336, li_gt336, li_lt585, li_ge585, li_le585, li_gt585, li_lt633, li_ge633, li_le633, li_gt633, li_lt1000000, li_ge1000000, li_le1000000, li_gt1000000, li_lt2304, li_ge2304, li_le2304, li_gt2304, li_lt50, li_ge50, li_le50, li_gt50, li_le0, li_gt0]
      exact yw_told0 (g_trials := g_trials) (g_drafted := g_drafted) (g_found := g_found) (b_s := upd s' (48 + x) 0) (b_saved := b_saved) (b_draft := b_draft) (b_who := b_who) (b_met := b_met) (b_stack := b_stack) (b_fresh := b_fresh) (b_deep := b_deep) (b_alike := b_alike) (b_meets := b_meets) post hp
    rcases hX with ⟨k0, X1, X2⟩ | ⟨k0, X1, X2⟩ | ⟨k0, X1, X2, X3⟩
    · -- a FREE class
      have r0 : re_P B a' s0 := sv_P hr ux k0 c1 (fun k hk => (hd k hk).2) X1 v1
      have hI := yc_0 r0 v2 v3
      obtain ⟨rk, s', o, hw⟩ := yw_keepTried (g_trials := g_trials) (g_drafted := g_drafted) (g_found := g_found) (b_s := s2) (b_saved := b_saved) (b_draft := b_draft) (b_who := b_who) (b_met := b_met) (b_stack := b_stack) (b_fresh := b_fresh) (b_deep := b_deep) (b_alike := b_alike) (b_meets := b_meets) r0.2.1 (re_yT r0) hI
      rcases o with ⟨z1, s1, z2, z3, z4, z5⟩ | ⟨z1, z2, z3⟩
      · refine Or.inr ⟨X2, s', tf_same r0 z3 z2 z4 z5, fun post hp => v4 post ?_⟩
        unfold wY_tellOf_223
        refine hw _ ?_
        subst z1
        exact br_f (by decide) (yw_told1 (g_trials := g_trials) (g_drafted := g_drafted) (g_found := g_found) (b_s := s') (b_saved := b_saved) (b_draft := b_draft) (b_who := b_who) (b_met := b_met) (b_stack := b_stack) (b_fresh := b_fresh) (b_deep := b_deep) (b_alike := b_alike) (b_meets := b_meets) post hp)
      · exfalso
        have o1 := ma_R_Ok (K := xv_K a') (V := xv_V a') (P := xv_P a') r0.2.2.2.2.1
        rw [re_U r0] at z2
        exact ma_Ok_no o1 z2
    · -- a value of the same shape in the class
      have tc : (xv_T a).1 (xv_L a x) := ⟨wx2, wx3, k0⟩
      have hs : (xv_T a).2.1 (xv_L a x) = sh := X1
      have eU0 : yv_U s0 = xv_U a := by
        funext y
        apply propext
        have := re_U hr
        constructor
        · intro ⟨q1, q2⟩
          rw [cY (384 + y) (by omega) (by omega) (by omega) (by omega) (by omega) (by omega)] at q2
          rw [← this]; exact ⟨q1, q2⟩
        · intro q
          rw [← this] at q
          refine ⟨q.1, ?_⟩
          have := q.1
          rw [cY (384 + y) (by omega) (by omega) (by omega) (by omega) (by omega) (by omega)]; exact q.2
      have low : ∀ y, y < 48 → s0 y = b_s y := fun y hy => cY y (by omega) (by omega) (by omega) (by omega) (by omega) (by omega)
      have yT0 := ma_put_U (U := xv_U a) tY ux (fun k hk => (hd k hk).2) h5.2.2.2.1
      have hI : yc_I (xv_L a) ma_0 s0 s2 := yc_00 eU0 h5.1 (fun y hy => by rw [low y hy.1]; exact (re_Ls hr hy).1) (fun y hy => by rw [low y hy]; exact hr.2.1.1 y hy) (fun y hy n => by rw [low y hy]; exact re_un hr y hy n) v2 v3
      obtain ⟨rk, s', o, hw⟩ := yw_keepTried (g_trials := g_trials) (g_drafted := g_drafted) (g_found := g_found) (b_s := s2) (b_saved := b_saved) (b_draft := b_draft) (b_who := b_who) (b_met := b_met) (b_stack := b_stack) (b_fresh := b_fresh) (b_deep := b_deep) (b_alike := b_alike) (b_meets := b_meets) yH0 (by rw [eU0]; exact yT0) hI
      obtain ⟨ad1, ad2⟩ := ma_R_add h5 ux tc hs ny tY
      have adB := ma_R_addB h5 ux tc hs ny tY
      rw [eU0] at o
      have f : ∀ E, ma_F (xv_U a) (xv_L a) (yv_T s0) ma_0 E ↔ ma_F (xv_U a) (xv_L a) (xv_T a) (ma_2 (ma_ct sh.1) (xv_P a (xv_L a x)) p) E := fun E => (ad2 E).symm
      have b : ∀ E, ma_F (xv_U a) (xv_L a) (yv_T s0) ma_0 E → (ma_Bad (yv_T s0) E ↔ ma_Bad (xv_T a) E) := fun E hE => (adB E ((f E).mp hE)).symm
      rcases o with ⟨z1, s1, z2, z3, z4, z5⟩ | ⟨z1, z2, z3⟩
      · have ok := ma_Ok_tr f b z2
        rcases X2 with ⟨x1, x2, x3⟩ | ⟨x1, px, py, i, m, vd, x2, x3⟩
        · exact absurd x3 (ma_Ok_no ok)
        · have eI : yv_I s' 0 = yv_I s1 633 := by
            funext y
            unfold yv_I
            by_cases q : y < 48
            · rw [if_pos q, if_pos q, Nat.zero_add, z4 y q]
            · rw [if_neg q, if_neg q]
          have eT : yv_T s' = yv_T s0 := yv_congrT (fun i p q => z5 i p (by omega))
          obtain ⟨e1, _, _, _, _⟩ := ma_MI_end x3.2.2.1 x2
          obtain ⟨t1, t2⟩ := ad1 _ e1
          have yH' : yv_H s' := by
            obtain ⟨g1, g2, g3, g4⟩ := yH0
            refine ⟨fun y hy => by rw [z4 y hy]; exact z3.2.1 y hy, ?_, ?_, ?_⟩
            · intro y hy
              rw [z5 (384 + y) (by omega) (by omega), z5 (48 + y) (by omega) (by omega)]
              rcases g2 y hy with q | q
              · exact Or.inl q
              · refine Or.inr ⟨q.1, ?_, q.2.2⟩
                rw [z4 y hy]
                refine z3.2.2.2.1 y hy (fun u => ?_)
                have := u.2
                rw [q.1] at this
                exact absurd this (by decide)
            · intro y hy
              rw [z5 (48 + y) (by omega) (by omega), z5 (96 + y) (by omega) (by omega), z5 (144 + y) (by omega) (by omega), z5 (192 + y) (by omega) (by omega)]; exact g3 y hy
            · intro y k hy hk
              rw [z5 _ (by omega) (by omega)]; exact g4 y k hy hk
          refine Or.inr ⟨x1, s', ?_, fun post hp => v4 post ?_⟩
          · refine tl_P hr x3 x2 (by rw [eI]; exact ok) yH' (fun y hy => ?_) (fun i h1 h2 => ?_) (by rw [eT]; exact yT0) (by rw [eT]; exact t1) (by rw [eT]; exact t2)
            · rw [z5 _ (by omega) (by omega)]; exact cY (384 + y) (by omega) (by omega) (by omega) (by omega) (by omega) (by omega)
            · rw [z5 i (by omega) h2]; exact cY i h2 (by omega) (by omega) (by omega) (by omega) (by omega)
          · unfold wY_tellOf_223
            refine hw _ ?_
            subst z1
            exact br_f (by decide) (yw_told1 (g_trials := g_trials) (g_drafted := g_drafted) (g_found := g_found) (b_s := s') (b_saved := b_saved) (b_draft := b_draft) (b_who := b_who) (b_met := b_met) (b_stack := b_stack) (b_fresh := b_fresh) (b_deep := b_deep) (b_alike := b_alike) (b_meets := b_meets) post hp)
      · have no := ma_No_tr f b z2
        rcases X2 with ⟨x1, x2, x3⟩ | ⟨x1, px, py, i, m, vd, x2, x3⟩
        · refine Or.inl ⟨x1, x2, upd s' (48 + x) 0, fail s' z3, fun post hp => v4 post ?_⟩
          unfold wY_tellOf_223
          refine hw _ ?_
          subst z1
          exact w0 s' post hp
        · exact absurd no (ma_Ok_no (ma_MI_Ok x3.2.2.1 x2))
    · -- a value of another shape in the class
      have tc : (xv_T a).1 (xv_L a x) := ⟨wx2, wx3, k0⟩
      have eU0 : yv_U s0 = xv_U a := by
        funext y
        apply propext
        have := re_U hr
        constructor
        · intro ⟨q1, q2⟩
          rw [cY (384 + y) (by omega) (by omega) (by omega) (by omega) (by omega) (by omega)] at q2
          rw [← this]; exact ⟨q1, q2⟩
        · intro q
          rw [← this] at q
          refine ⟨q.1, ?_⟩
          have := q.1
          rw [cY (384 + y) (by omega) (by omega) (by omega) (by omega) (by omega) (by omega)]; exact q.2
      have low : ∀ y, y < 48 → s0 y = b_s y := fun y hy => cY y (by omega) (by omega) (by omega) (by omega) (by omega) (by omega)
      have yT0 := ma_put_U (U := xv_U a) tY ux (fun k hk => (hd k hk).2) h5.2.2.2.1
      have hI : yc_I (xv_L a) ma_0 s0 s2 := yc_00 eU0 h5.1 (fun y hy => by rw [low y hy.1]; exact (re_Ls hr hy).1) (fun y hy => by rw [low y hy]; exact hr.2.1.1 y hy) (fun y hy n => by rw [low y hy]; exact re_un hr y hy n) v2 v3
      obtain ⟨rk, s', o, hw⟩ := yw_keepTried (g_trials := g_trials) (g_drafted := g_drafted) (g_found := g_found) (b_s := s2) (b_saved := b_saved) (b_draft := b_draft) (b_who := b_who) (b_met := b_met) (b_stack := b_stack) (b_fresh := b_fresh) (b_deep := b_deep) (b_alike := b_alike) (b_meets := b_meets) yH0 (by rw [eU0]; exact yT0) hI
      have no := ma_R_clash h5 ux tc X1 tY ny
      rw [eU0] at o
      rcases o with ⟨z1, s1, z2, z3, z4, z5⟩ | ⟨z1, z2, z3⟩
      · exact absurd no (ma_Ok_no z2)
      · refine Or.inl ⟨X2, X3, upd s' (48 + x) 0, fail s' z3, fun post hp => v4 post ?_⟩
        unfold wY_tellOf_223
        refine hw _ ?_
        subst z1
        exact w0 s' post hp
  · -- a value of its own
    have ty : (yv_T b_s).1 x := ⟨uy, own⟩
    obtain ⟨m1, m2, m3⟩ := ma_R_x h5 ty
    have e2 : (yv_T b_s).2.1 x = (yv_k b_s x, b_s (96 + x)) := if_pos x48
    have k0 : xv_K a (xv_L a x) ≠ 0 := (xv_T1 m1).2.2
    have iff := tf_own hr.2.1 x48 own hA
    have eq : ((xv_K a (xv_L a x), xv_V a (xv_L a x)) = sh) ↔ (yv_k b_s x, b_s (96 + x)) = sh := by
      rw [← e2, ← m2]; exact Iff.rfl
    rcases hX with ⟨q, _⟩ | ⟨_, X1, X2⟩ | ⟨_, X1, X2, X3⟩
    · exact absurd q k0
    · obtain ⟨i1, i2, i3, i4⟩ := iff.mpr (eq.mp X1)
      have cs : ma_ct ((yv_T b_s).2.1 x).1 = ma_ct sh.1 := by rw [e2, eq.mp X1]
      have UP : ∀ k, k < ma_ct sh.1 → yv_U b_s (yv_P b_s x k) := by
        intro k hk
        rw [yU]
        exact (h5.2.2.2.1 x ty).2 k (by rw [cs]; exact hk)
      obtain ⟨s1, t1, t2, t3⟩ := yw_tryIds (g_trials := g_trials) (g_drafted := g_drafted) (g_found := g_found) (b_s := b_s) (b_saved := b_saved) (b_draft := b_draft) (b_who := b_who) (b_met := b_met) (b_stack := b_stack) (b_fresh := b_fresh) (b_deep := b_deep) (b_alike := b_alike) (b_meets := b_meets)
      have hI1 : yc_I (xv_L a) (ma_2 0 (yv_P b_s x) p) b_s s1 := by
        have h := yc_0 hr t2 t1
        refine ⟨h.1, h.2.1, h.2.2.1, h.2.2.2.1, fun E => ?_⟩
        rw [← h.2.2.2.2 E]
        constructor
        · intro q
          exact ⟨q.1, q.2.1, fun _ _ z => z.elim, q.2.2.2⟩
        · intro q
          exact ⟨q.1, q.2.1, fun u v ⟨k, hk, _⟩ => by omega, q.2.2.2⟩
      obtain ⟨s2, hI2, w2⟩ := yw_89 (g_trials := g_trials) (g_drafted := g_drafted) (g_found := g_found) (b_s := b_s) (b_saved := b_saved) (b_draft := b_draft) (b_who := b_who) (b_met := b_met) (b_stack := b_stack) (b_fresh := b_fresh) (b_deep := b_deep) (b_alike := b_alike) (b_meets := b_meets) (L := xv_L a) (p := p) (kind := kind) (num := num) (label := label) hr.2.1 x48 ct3 (fun k hk => ⟨(hd k hk).1, by rw [yU]; exact (hd k hk).2⟩) UP (ma_ct sh.1) 0 s1 (by omega) hI1
      obtain ⟨rk, s', o, hw⟩ := yw_keepTried (g_trials := g_trials) (g_drafted := g_drafted) (g_found := g_found) (b_s := s2) (b_saved := b_saved) (b_draft := b_draft) (b_who := b_who) (b_met := b_met) (b_stack := b_stack) (b_fresh := b_fresh) (b_deep := b_deep) (b_alike := b_alike) (b_meets := b_meets) hr.2.1 (re_yT hr) hI2
      have o' := yt_of hr o
      have same : ∀ k, k < ma_ct sh.1 → ma_K (xv_U a) (xv_L a) (yv_P b_s x k) (xv_P a (xv_L a x) k) := by
        intro k hk
        refine Or.inr ⟨by rw [← yU]; exact UP k hk, h5.2.2.1 _ m1 k (by rw [m2, cs]; exact hk), m3 k (by rw [cs]; exact hk)⟩
      have o2 : yt_R a b_s s' (ma_2 (ma_ct sh.1) (xv_P a (xv_L a x)) p) rk := yt_Q (fun E => ⟨ma_F_Q same, ma_F_Q (fun k hk => (ma_K_eqv _ _).2.1 _ _ (same k hk))⟩) o'
      obtain ⟨P', q⟩ := tl_eq hr X2 o2
      have top : ∀ post : Int32 → SY → Prop, wY_tellOf_223 post (nI x) 1 g_trials g_drafted g_found s2 b_saved b_draft b_who b_met b_stack b_fresh b_deep b_alike b_meets → wpY_tellOf post (g_trials, g_drafted, g_found, b_s, b_saved, b_draft, b_who, b_met, b_stack, b_fresh, b_deep, b_alike, b_meets) (nI x) kind num label count := by
        intro post hp
        unfold wpY_tellOf
        simp (disch := omega) only [forall_eq, true_and, and_true, Nat.zero_add, nI_clamp, li_vin, nI_add, nI_eq, nI_leI, nI_ltI, li_0le, li_lt0, li_nn1, li_e0, not_true_eq_false, not_false_eq_true, false_implies, true_implies, forall_const, li_a0, li_b0, li_a1, li_b1, li_a2, li_b2, li_a3, li_b3, li_a7, li_b7, li_a8, li_b8, li_a16, li_b16, li_a48, li_b48, li_a584, li_b584, li_a572, li_b572, li_a96, li_b96, li_a144, li_b144, li_a192, li_b192, li_a240, li_b240, li_a336, li_b336, li_a384, li_b384, li_a432, li_b432, li_a480, li_b480, li_a488, li_b488, li_a496, li_b496, li_a504, li_b504, li_a512, li_b512, li_a520, li_b520, li_a524, li_b524, li_a528, li_b528, li_a536, li_b536, li_a544, li_b544, li_a552, li_b552, li_a560, li_b560, li_a568, li_b568, li_a573, li_b573, li_a585, li_b585, li_a633, li_b633, li_m3, li_n3, li_m4, li_n4, li_m48, li_n48, li_m50, li_n50, li_m585, li_n585, li_m633, li_n633, li_lt2, li_ge2, li_le2, li_gt2, li_lt1, li_ge1, li_le1, li_gt1, li_lt3, li_ge3, li_le3, li_gt3, li_lt4, li_ge4, li_le4, li_gt4, li_lt7, li_ge7, li_le7, li_gt7, li_lt8, li_ge8, li_le8, li_gt8, li_lt40, li_ge40, li_le40, li_gt40, li_lt240, li_ge240, li_le240, li_gt240, li_lt41, li_ge41, li_le41, li_gt41, li_lt48, li_ge48, li_le48, li_gt48, li_lt49, li_ge49, li_le49, li_gt49, li_lt60, li_ge60, li_le60, li_gt60, li_lt144, li_ge144, li_le144, li_gt144, li_lt145, li_ge145, li_le145, li_gt145, li_lt160, li_ge160, li_le160, li_gt160, li_lt336, li_ge336, li_le336, li_gt336, li_lt585, li_ge585, li_le585, li_gt585, li_lt633, li_ge633, li_le633, li_gt633, li_lt1000000, li_ge1000000, li_le1000000, li_gt1000000, li_lt2304, li_ge2304, li_le2304, li_gt2304, li_lt50, li_ge50, li_le50, li_gt50, li_le0, li_gt0]
        refine br_f own ?_
        unfold wY_tellOf_17
        refine br_f (by decide) ?_
        simp (disch := omega) only [forall_eq, true_and, and_true, Nat.zero_add, nI_clamp, li_vin, nI_add, nI_eq, nI_leI, nI_ltI, li_0le, li_lt0, li_nn1, li_e0, not_true_eq_false, not_false_eq_true, false_implies, true_implies, forall_const, li_a0, li_b0, li_a1, li_b1, li_a2, li_b2, li_a3, li_b3, li_a7, li_b7, li_a8, li_b8, li_a16, li_b16, li_a48, li_b48, li_a584, li_b584, li_a572, li_b572, li_a96, li_b96, li_a144, li_b144, li_a192, li_b192, li_a240, li_b240, li_a336, li_b336, li_a384, li_b384, li_a432, li_b432, li_a480, li_b480, li_a488, li_b488, li_a496, li_b496, li_a504, li_b504, li_a512, li_b512, li_a520, li_b520, li_a524, li_b524, li_a528, li_b528, li_a536, li_b536, li_a544, li_b544, li_a552, li_b552, li_a560, li_b560, li_a568, li_b568, li_a573, li_b573, li_a585, li_b585, li_a633, li_b633, li_m3, li_n3, li_m4, li_n4, li_m48, li_n48, li_m50, li_n50, li_m585, li_n585, li_m633, li_n633, li_lt2, li_ge2, li_le2, li_gt2, li_lt1, li_ge1, li_le1, li_gt1, li_lt3, li_ge3, li_le3, li_gt3, li_lt4, li_ge4, li_le4, li_gt4, li_lt7, li_ge7, li_le7, li_gt7, li_lt8, li_ge8, li_le8, li_gt8, li_lt40, li_ge40, li_le40, li_gt40, li_lt240, li_ge240, li_le240, li_gt240, li_lt41, li_ge41, li_le41, li_gt41, li_lt48, li_ge48, li_le48, li_gt48, li_lt49, li_ge49, li_le49, li_gt49, li_lt60, li_ge60, li_le60, li_gt60, li_lt144, li_ge144, li_le144, li_gt144, li_lt145, li_ge145, li_le145, li_gt145, li_lt160, li_ge160, li_le160, li_gt160, li_lt336, li_ge336, li_le336, li_gt336, li_lt585, li_ge585, li_le585, li_gt585, li_lt633, li_ge633, li_le633, li_gt633, li_lt1000000, li_ge1000000, li_le1000000, li_gt1000000, li_lt2304, li_ge2304, li_le2304, li_gt2304, li_lt50, li_ge50, li_le50, li_gt50, li_le0, li_gt0]
        refine br_t i1 (br_t i2 (br_t i3 (br_t i4 ?_)))
        unfold wY_tellOf_82
        rw [c2]
        exact t3 _ ⟨_, w2 post hp⟩
      rcases q with ⟨q1, q2⟩ | ⟨q1, q2, q3⟩
      · refine Or.inr ⟨q1, s', P', fun post hp => top post ?_⟩
        unfold wY_tellOf_223
        refine hw _ ?_
        subst q2
        exact br_f (by decide) (yw_told1 (g_trials := g_trials) (g_drafted := g_drafted) (g_found := g_found) (b_s := s') (b_saved := b_saved) (b_draft := b_draft) (b_who := b_who) (b_met := b_met) (b_stack := b_stack) (b_fresh := b_fresh) (b_deep := b_deep) (b_alike := b_alike) (b_meets := b_meets) post hp)
      · refine Or.inl ⟨q1, q3, s', Or.inl ?_, fun post hp => top post ?_⟩
        · rcases o' with z | z
          · rw [q2] at z; exact absurd z.1 (by decide)
          · exact z.2.2
        · unfold wY_tellOf_223
          refine hw _ ?_
          subst q2
          exact br_t rfl (br_f (by decide) (yw_told0 (g_trials := g_trials) (g_drafted := g_drafted) (g_found := g_found) (b_s := s') (b_saved := b_saved) (b_draft := b_draft) (b_who := b_who) (b_met := b_met) (b_stack := b_stack) (b_fresh := b_fresh) (b_deep := b_deep) (b_alike := b_alike) (b_meets := b_meets) post hp))
    · refine Or.inl ⟨X2, X3, b_s, Or.inl (fun _ _ => rfl), fun post hp => ?_⟩
      have nall : ¬ (b_s (48 + x) = kind ∧ b_s (96 + x) = num ∧ b_s (144 + x) = label ∧ b_s (192 + x) = count) := fun q => X1 (eq.mpr (iff.mp q))
      unfold wpY_tellOf
      simp (disch := omega) only [forall_eq, true_and, and_true, Nat.zero_add, nI_clamp, li_vin, nI_add, nI_eq, nI_leI, nI_ltI, li_0le, li_lt0, li_nn1, li_e0, not_true_eq_false, not_false_eq_true, false_implies, true_implies, forall_const, li_a0, li_b0, li_a1, li_b1, li_a2, li_b2, li_a3, li_b3, li_a7, li_b7, li_a8, li_b8, li_a16, li_b16, li_a48, li_b48, li_a584, li_b584, li_a572, li_b572, li_a96, li_b96, li_a144, li_b144, li_a192, li_b192, li_a240, li_b240, li_a336, li_b336, li_a384, li_b384, li_a432, li_b432, li_a480, li_b480, li_a488, li_b488, li_a496, li_b496, li_a504, li_b504, li_a512, li_b512, li_a520, li_b520, li_a524, li_b524, li_a528, li_b528, li_a536, li_b536, li_a544, li_b544, li_a552, li_b552, li_a560, li_b560, li_a568, li_b568, li_a573, li_b573, li_a585, li_b585, li_a633, li_b633, li_m3, li_n3, li_m4, li_n4, li_m48, li_n48, li_m50, li_n50, li_m585, li_n585, li_m633, li_n633, li_lt2, li_ge2, li_le2, li_gt2, li_lt1, li_ge1, li_le1, li_gt1, li_lt3, li_ge3, li_le3, li_gt3, li_lt4, li_ge4, li_le4, li_gt4, li_lt7, li_ge7, li_le7, li_gt7, li_lt8, li_ge8, li_le8, li_gt8, li_lt40, li_ge40, li_le40, li_gt40, li_lt240, li_ge240, li_le240, li_gt240, li_lt41, li_ge41, li_le41, li_gt41, li_lt48, li_ge48, li_le48, li_gt48, li_lt49, li_ge49, li_le49, li_gt49, li_lt60, li_ge60, li_le60, li_gt60, li_lt144, li_ge144, li_le144, li_gt144, li_lt145, li_ge145, li_le145, li_gt145, li_lt160, li_ge160, li_le160, li_gt160, li_lt336, li_ge336, li_le336, li_gt336, li_lt585, li_ge585, li_le585, li_gt585, li_lt633, li_ge633, li_le633, li_gt633, li_lt1000000, li_ge1000000, li_le1000000, li_gt1000000, li_lt2304, li_ge2304, li_le2304, li_gt2304, li_lt50, li_ge50, li_le50, li_gt50, li_le0, li_gt0]
      refine br_f own ?_
      unfold wY_tellOf_17
      refine br_f (by decide) ?_
      simp (disch := omega) only [forall_eq, true_and, and_true, Nat.zero_add, nI_clamp, li_vin, nI_add, nI_eq, nI_leI, nI_ltI, li_0le, li_lt0, li_nn1, li_e0, not_true_eq_false, not_false_eq_true, false_implies, true_implies, forall_const, li_a0, li_b0, li_a1, li_b1, li_a2, li_b2, li_a3, li_b3, li_a7, li_b7, li_a8, li_b8, li_a16, li_b16, li_a48, li_b48, li_a584, li_b584, li_a572, li_b572, li_a96, li_b96, li_a144, li_b144, li_a192, li_b192, li_a240, li_b240, li_a336, li_b336, li_a384, li_b384, li_a432, li_b432, li_a480, li_b480, li_a488, li_b488, li_a496, li_b496, li_a504, li_b504, li_a512, li_b512, li_a520, li_b520, li_a524, li_b524, li_a528, li_b528, li_a536, li_b536, li_a544, li_b544, li_a552, li_b552, li_a560, li_b560, li_a568, li_b568, li_a573, li_b573, li_a585, li_b585, li_a633, li_b633, li_m3, li_n3, li_m4, li_n4, li_m48, li_n48, li_m50, li_n50, li_m585, li_n585, li_m633, li_n633, li_lt2, li_ge2, li_le2, li_gt2, li_lt1, li_ge1, li_le1, li_gt1, li_lt3, li_ge3, li_le3, li_gt3, li_lt4, li_ge4, li_le4, li_gt4, li_lt7, li_ge7, li_le7, li_gt7, li_lt8, li_ge8, li_le8, li_gt8, li_lt40, li_ge40, li_le40, li_gt40, li_lt240, li_ge240, li_le240, li_gt240, li_lt41, li_ge41, li_le41, li_gt41, li_lt48, li_ge48, li_le48, li_gt48, li_lt49, li_ge49, li_le49, li_gt49, li_lt60, li_ge60, li_le60, li_gt60, li_lt144, li_ge144, li_le144, li_gt144, li_lt145, li_ge145, li_le145, li_gt145, li_lt160, li_ge160, li_le160, li_gt160, li_lt336, li_ge336, li_le336, li_gt336, li_lt585, li_ge585, li_le585, li_gt585, li_lt633, li_ge633, li_le633, li_gt633, li_lt1000000, li_ge1000000, li_le1000000, li_gt1000000, li_lt2304, li_ge2304, li_le2304, li_gt2304, li_lt50, li_ge50, li_le50, li_gt50, li_le0, li_gt0]
      exact br_c (fun q1 => br_c (fun q2 => br_c (fun q3 => br_f (fun q4 => nall ⟨q1, q2, q3, q4⟩) hp) (fun _ => hp)) (fun _ => hp)) (fun _ => hp)
