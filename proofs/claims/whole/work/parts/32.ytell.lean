theorem yw_close_7 {g_trials g_drafted g_found : Int32} {b_s b_saved b_draft b_who b_met b_stack b_fresh b_deep : Nat → Int32} {b_alike b_meets : Nat → Int64} {L : Nat → Nat} {Q : Nat → Nat → Prop} {s0 : Nat → Int32} {n : Nat} (hn : n ≤ 48) (hU : ∀ x, yv_U s0 x → x < n) (h0 : yv_H s0) (hT : ∀ c, (yv_T s0).1 c → yv_U s0 c ∧ ∀ k, k < ma_ct ((yv_T s0).2.1 c).1 → yv_U s0 ((yv_T s0).2.2 c k)) : ∀ c (b_s : Nat → Int32), yc_c b_s ≤ c → yc_I L Q s0 b_s → ∃ (r : Int32) (s' : Nat → Int32), ((r = 1 ∧ ma_Ok (yv_U s0) L (yv_T s0) Q (yv_I s' 633) ∧ yc_I L Q s0 s') ∨ (r = 0 ∧ ma_No (yv_U s0) L (yv_T s0) Q ∧ ∀ i, i < 633 → s' i = s0 i)) ∧ ∀ post : Int32 → SY → Prop, post r (g_trials, g_drafted, g_found, s', b_saved, b_draft, b_who, b_met, b_stack, b_fresh, b_deep, b_alike, b_meets) → wY_close_7 post (nI 633) (nI n) (c + 2) 1 g_trials g_drafted g_found b_s b_saved b_draft b_who b_met b_stack b_fresh b_deep b_alike b_meets := by
  intro c
  induction c with
  | zero =>
    intro s hc hI
    rcases yw_close_16 (g_trials := g_trials) (g_drafted := g_drafted) (g_found := g_found) (b_s := b_s) (b_saved := b_saved) (b_draft := b_draft) (b_who := b_who) (b_met := b_met) (b_stack := b_stack) (b_fresh := b_fresh) (b_deep := b_deep) (b_alike := b_alike) (b_meets := b_meets) (L := L) (Q := Q) hn h0 hT (n * n) 0 0 s (by omega) hI (Or.inl rfl) (fun _ u v _ _ _ _ q => by omega) with ⟨s', a1, a2, a3⟩ | ⟨more', s', a1, a2, a3, a4, a5, a6⟩
    · refine ⟨0, s', Or.inr ⟨rfl, a1, a2⟩, fun post hp => ?_⟩
      rw [wY_close_7]
      exact br_f (by decide) ⟨_, a3 post _ hp⟩
    · rcases a2 with z | z
      · refine ⟨1, s', Or.inl ⟨rfl, yc_ok a1 hT (fun u v hu hv lt e => ?_), a1⟩, fun post hp => ?_⟩
        · have vn := hU v (hT v hv).1
          refine a3 z u v hu hv lt vn ?_ e
          have : u * n + n ≤ n * n := by
            have : (u + 1) * n ≤ n * n := Nat.mul_le_mul_right n (by omega)
            rw [Nat.add_mul, Nat.one_mul] at this
            exact this
          omega
        · rw [wY_close_7]
          refine br_f (by decide) ⟨_, a6 post _ ?_⟩
          rw [z]
          rw [wY_close_7]
          exact br_t rfl hp
      · have := a5 z
        rcases this with w | w
        · exact absurd w (by decide)
        · omega
  | succ c ih =>
    intro s hc hI
    rcases yw_close_16 (g_trials := g_trials) (g_drafted := g_drafted) (g_found := g_found) (b_s := b_s) (b_saved := b_saved) (b_draft := b_draft) (b_who := b_who) (b_met := b_met) (b_stack := b_stack) (b_fresh := b_fresh) (b_deep := b_deep) (b_alike := b_alike) (b_meets := b_meets) (L := L) (Q := Q) hn h0 hT (n * n) 0 0 s (by omega) hI (Or.inl rfl) (fun _ u v _ _ _ _ q => by omega) with ⟨s', a1, a2, a3⟩ | ⟨more', s', a1, a2, a3, a4, a5, a6⟩
    · refine ⟨0, s', Or.inr ⟨rfl, a1, a2⟩, fun post hp => ?_⟩
      rw [wY_close_7]
      exact br_f (by decide) ⟨_, a3 post _ hp⟩
    · rcases a2 with z | z
      · refine ⟨1, s', Or.inl ⟨rfl, yc_ok a1 hT (fun u v hu hv lt e => ?_), a1⟩, fun post hp => ?_⟩
        · have vn := hU v (hT v hv).1
          refine a3 z u v hu hv lt vn ?_ e
          have : u * n + n ≤ n * n := by
            have : (u + 1) * n ≤ n * n := Nat.mul_le_mul_right n (by omega)
            rw [Nat.add_mul, Nat.one_mul] at this
            exact this
          omega
        · rw [wY_close_7]
          refine br_f (by decide) ⟨_, a6 post _ ?_⟩
          rw [z]
          rw [wY_close_7]
          exact br_t rfl hp
      · have := a5 z
        rcases this with w | w
        · exact absurd w (by decide)
        · obtain ⟨r, s2, b1, b2⟩ := ih s' (by omega) a1
          refine ⟨r, s2, b1, fun post hp => ?_⟩
          rw [wY_close_7]
          refine br_f (by decide) ⟨_, a6 post _ ?_⟩
          rw [z]
          exact b2 post hp
theorem yw_close {g_trials g_drafted g_found : Int32} {b_s b_saved b_draft b_who b_met b_stack b_fresh b_deep : Nat → Int32} {b_alike b_meets : Nat → Int64} {L : Nat → Nat} {Q : Nat → Nat → Prop} {s0 : Nat → Int32} (h0 : yv_H s0) (hT : ∀ c, (yv_T s0).1 c → yv_U s0 c ∧ ∀ k, k < ma_ct ((yv_T s0).2.1 c).1 → yv_U s0 ((yv_T s0).2.2 c k)) (hI : yc_I L Q s0 b_s) : ∃ (r : Int32) (s' : Nat → Int32), ((r = 1 ∧ ma_Ok (yv_U s0) L (yv_T s0) Q (yv_I s' 633) ∧ yc_I L Q s0 s') ∨ (r = 0 ∧ ma_No (yv_U s0) L (yv_T s0) Q ∧ ∀ i, i < 633 → s' i = s0 i)) ∧ ∀ post : Int32 → SY → Prop, post r (g_trials, g_drafted, g_found, s', b_saved, b_draft, b_who, b_met, b_stack, b_fresh, b_deep, b_alike, b_meets) → wpY_close post (g_trials, g_drafted, g_found, b_s, b_saved, b_draft, b_who, b_met, b_stack, b_fresh, b_deep, b_alike, b_meets) 633 := by
  have hs : yv_H b_s := yv_congrH (fun i hi => hI.1 i (by omega)) h0
  obtain ⟨n, n1, n2, n3⟩ := yw_bound (g_trials := g_trials) (g_drafted := g_drafted) (g_found := g_found) (b_s := b_s) (b_saved := b_saved) (b_draft := b_draft) (b_who := b_who) (b_met := b_met) (b_stack := b_stack) (b_fresh := b_fresh) (b_deep := b_deep) (b_alike := b_alike) (b_meets := b_meets) hs
  have hU : ∀ x, yv_U s0 x → x < n := by
    intro x hx
    have x48 := hx.1
    exact n2 x ⟨x48, by rw [hI.1 _ (by omega)]; exact hx.2⟩
  obtain ⟨r, s', h1, h2⟩ := yw_close_7 (g_trials := g_trials) (g_drafted := g_drafted) (g_found := g_found) (b_s := b_s) (b_saved := b_saved) (b_draft := b_draft) (b_who := b_who) (b_met := b_met) (b_stack := b_stack) (b_fresh := b_fresh) (b_deep := b_deep) (b_alike := b_alike) (b_meets := b_meets) (L := L) (Q := Q) n1 hU h0 hT (yc_c b_s) b_s (Nat.le_refl _) hI
  refine ⟨r, s', h1, fun post hp => ?_⟩
  unfold wpY_close
  exact n3 _ ⟨_, h2 post hp⟩
theorem yw_keepTried_10 {g_trials g_drafted g_found : Int32} {b_s b_saved b_draft b_who b_met b_stack b_fresh b_deep : Nat → Int32} {b_alike b_meets : Nat → Int64} : ∀ d j (b_s : Nat → Int32), j + d = 48 → ∃ s' : Nat → Int32, (∀ v, j ≤ v → v < 48 → s' v = b_s (633 + v)) ∧ (∀ i, (i < j ∨ 48 ≤ i) → s' i = b_s i) ∧ ∀ post : Int32 → SY → Prop, post 1 (g_trials, g_drafted, g_found, s', b_saved, b_draft, b_who, b_met, b_stack, b_fresh, b_deep, b_alike, b_meets) → wY_keepTried_10 post 1 g_trials g_drafted g_found (d + 1) (nI j) b_s b_saved b_draft b_who b_met b_stack b_fresh b_deep b_alike b_meets := by
  intro d
  induction d with
  | zero =>
    intro j s hj
    refine ⟨s, fun v h1 h2 => by omega, fun _ _ => rfl, fun post hp => ?_⟩
    unfold wY_keepTried_10
    simp (disch := omega) only [forall_eq, true_and, and_true, Nat.zero_add, nI_clamp, li_vin, nI_add, nI_eq, nI_leI, nI_ltI, li_0le, li_lt0, li_nn1, li_e0, not_true_eq_false, not_false_eq_true, false_implies, true_implies, forall_const, li_a0, li_b0, li_a1, li_b1, li_a2, li_b2, li_a3, li_b3, li_a7, li_b7, li_a8, li_b8, li_a16, li_b16, li_a48, li_b48, li_a584, li_b584, li_a572, li_b572, li_a96, li_b96, li_a144, li_b144, li_a192, li_b192, li_a240, li_b240, li_a336, li_b336, li_a384, li_b384, li_a432, li_b432, li_a480, li_b480, li_a488, li_b488, li_a496, li_b496, li_a504, li_b504, li_a512, li_b512, li_a520, li_b520, li_a524, li_b524, li_a528, li_b528, li_a536, li_b536, li_a544, li_b544, li_a552, li_b552, li_a560, li_b560, li_a568, li_b568, li_a573, li_b573, li_a585, li_b585, li_a633, li_b633, li_m3, li_n3, li_m4, li_n4, li_m48, li_n48, li_m50, li_n50, li_m585, li_n585, li_m633, li_n633, li_lt2, li_ge2, li_le2, li_gt2, li_lt1, li_ge1, li_le1, li_gt1, li_lt3, li_ge3, li_le3, li_gt3, li_lt4, li_ge4, li_le4, li_gt4, li_lt7, li_ge7, li_le7, li_gt7, li_lt8, li_ge8, li_le8, li_gt8, li_lt40, li_ge40, li_le40, li_gt40, li_lt240, li_ge240, li_le240, li_gt240, li_lt41, li_ge41, li_le41, li_gt41, li_lt48, li_ge48, li_le48, li_gt48, li_lt49, li_ge49, li_le49, li_gt49, li_lt60, li_ge60, li_le60, li_gt60, li_lt144, li_ge144, li_le144, li_gt144, li_lt145, li_ge145, li_le145, li_gt145, li_lt160, li_ge160, li_le160, li_gt160, li_lt336, li_ge336, li_le336, li_gt336, li_lt585, li_ge585, li_le585, li_gt585, li_lt633, li_ge633, li_le633, li_gt633, li_lt1000000, li_ge1000000, li_le1000000, li_gt1000000, li_lt2304, li_ge2304, li_le2304, li_gt2304, li_lt50, li_ge50, li_le50, li_gt50, li_le0, li_gt0]
    exact ⟨fun _ => ⟨nb_1, hp⟩, fun q => by omega⟩
  | succ d ih =>
    intro j s hj
    obtain ⟨s', h1, h2, h3⟩ := ih (j + 1) (upd s j (s (633 + j))) (by omega)
    refine ⟨s', ?_, ?_, fun post hp => ?_⟩
    · intro v g1 g2
      by_cases z : v = j
      · rw [z, h2 _ (by omega), pk_us]
      · rw [h1 v (by omega) g2, pk_un (by omega)]
    · intro i hi
      rw [h2 i (by omega), pk_un (by omega)]
    · unfold wY_keepTried_10
      simp (disch := omega) only [forall_eq, true_and, and_true, Nat.zero_add, nI_clamp, li_vin, nI_add, nI_eq, nI_leI, nI_ltI, li_0le, li_lt0, li_nn1, li_e0, not_true_eq_false, not_false_eq_true, false_implies, true_implies, forall_const, li_a0, li_b0, li_a1, li_b1, li_a2, li_b2, li_a3, li_b3, li_a7, li_b7, li_a8, li_b8, li_a16, li_b16, li_a48, li_b48, li_a584, li_b584, li_a572, li_b572, li_a96, li_b96, li_a144, li_b144, li_a192, li_b192, li_a240, li_b240, li_a336, li_b336, li_a384, li_b384, li_a432, li_b432, li_a480, li_b480, li_a488, li_b488, li_a496, li_b496, li_a504, li_b504, li_a512, li_b512, li_a520, li_b520, li_a524, li_b524, li_a528, li_b528, li_a536, li_b536, li_a544, li_b544, li_a552, li_b552, li_a560, li_b560, li_a568, li_b568, li_a573, li_b573, li_a585, li_b585, li_a633, li_b633, li_m3, li_n3, li_m4, li_n4, li_m48, li_n48, li_m50, li_n50, li_m585, li_n585, li_m633, li_n633, li_lt2, li_ge2, li_le2, li_gt2, li_lt1, li_ge1, li_le1, li_gt1, li_lt3, li_ge3, li_le3, li_gt3, li_lt4, li_ge4, li_le4, li_gt4, li_lt7, li_ge7, li_le7, li_gt7, li_lt8, li_ge8, li_le8, li_gt8, li_lt40, li_ge40, li_le40, li_gt40, li_lt240, li_ge240, li_le240, li_gt240, li_lt41, li_ge41, li_le41, li_gt41, li_lt48, li_ge48, li_le48, li_gt48, li_lt49, li_ge49, li_le49, li_gt49, li_lt60, li_ge60, li_le60, li_gt60, li_lt144, li_ge144, li_le144, li_gt144, li_lt145, li_ge145, li_le145, li_gt145, li_lt160, li_ge160, li_le160, li_gt160, li_lt336, li_ge336, li_le336, li_gt336, li_lt585, li_ge585, li_le585, li_gt585, li_lt633, li_ge633, li_le633, li_gt633, li_lt1000000, li_ge1000000, li_le1000000, li_gt1000000, li_lt2304, li_ge2304, li_le2304, li_gt2304, li_lt50, li_ge50, li_le50, li_gt50, li_le0, li_gt0]
      exact ⟨fun q => by omega, fun _ => br_f (by decide) (h3 post hp)⟩
/-- what keepTried leaves: the tried least members are kept, or nothing but the tried ones has changed -/
theorem yw_keepTried {g_trials g_drafted g_found : Int32} {b_s b_saved b_draft b_who b_met b_stack b_fresh b_deep : Nat → Int32} {b_alike b_meets : Nat → Int64} {L : Nat → Nat} {Q : Nat → Nat → Prop} {s0 : Nat → Int32} (h0 : yv_H s0) (hT : ∀ c, (yv_T s0).1 c → yv_U s0 c ∧ ∀ k, k < ma_ct ((yv_T s0).2.1 c).1 → yv_U s0 ((yv_T s0).2.2 c k)) (hI : yc_I L Q s0 b_s) : ∃ (r : Int32) (s' : Nat → Int32), ((r = 1 ∧ ∃ s1, ma_Ok (yv_U s0) L (yv_T s0) Q (yv_I s1 633) ∧ yc_I L Q s0 s1 ∧ (∀ v, v < 48 → s' v = s1 (633 + v)) ∧ ∀ i, 48 ≤ i → i < 633 → s' i = s0 i) ∨ (r = 0 ∧ ma_No (yv_U s0) L (yv_T s0) Q ∧ ∀ i, i < 633 → s' i = s0 i)) ∧ ∀ post : Int32 → SY → Prop, post r (g_trials, g_drafted, g_found, s', b_saved, b_draft, b_who, b_met, b_stack, b_fresh, b_deep, b_alike, b_meets) → wpY_keepTried post (g_trials, g_drafted, g_found, b_s, b_saved, b_draft, b_who, b_met, b_stack, b_fresh, b_deep, b_alike, b_meets) := by
  obtain ⟨r, s1, h1, h2⟩ := yw_close (g_trials := g_trials) (g_drafted := g_drafted) (g_found := g_found) (b_s := b_s) (b_saved := b_saved) (b_draft := b_draft) (b_who := b_who) (b_met := b_met) (b_stack := b_stack) (b_fresh := b_fresh) (b_deep := b_deep) (b_alike := b_alike) (b_meets := b_meets) h0 hT hI
  rcases h1 with ⟨z1, z2, z3⟩ | ⟨z1, z2, z3⟩
  · obtain ⟨s', k1, k2, k3⟩ := yw_keepTried_10 (g_trials := g_trials) (g_drafted := g_drafted) (g_found := g_found) (b_s := b_s) (b_saved := b_saved) (b_draft := b_draft) (b_who := b_who) (b_met := b_met) (b_stack := b_stack) (b_fresh := b_fresh) (b_deep := b_deep) (b_alike := b_alike) (b_meets := b_meets) 48 0 s1 rfl
    refine ⟨1, s', Or.inl ⟨rfl, s1, z2, z3, fun v hv => k1 v (by omega) hv, fun i g1 g2 => by rw [k2 i (by omega)]; exact z3.1 i g2⟩, fun post hp => ?_⟩
    unfold wpY_keepTried
    refine h2 _ ?_
    rw [z1]
    exact ⟨_, k3 post hp⟩
  · refine ⟨0, s1, Or.inr ⟨rfl, z2, z3⟩, fun post hp => ?_⟩
    unfold wpY_keepTried
    refine h2 _ ?_
    rw [z1]
    refine ⟨1, ?_⟩
    unfold wY_keepTried_10
    exact br_f (by decide) (br_t rfl ⟨nb_0, hp⟩)
/-- what a telling of pairs leaves with the reference -/
def yt_R (a s s' : Nat → Int32) (Q : Nat → Nat → Prop) (r : Int32) : Prop :=
  (r = 1 ∧ ma_Ok (xv_U a) (xv_L a) (xv_T a) Q (yv_I s' 0) ∧ (∀ v, v < 48 → ∃ c, c < 48 ∧ s' v = nI c) ∧ (∀ v, v < 48 → ¬ xv_U a v → s' v = nI v) ∧ ∀ i, 48 ≤ i → i < 633 → s' i = s i) ∨ (r = 0 ∧ ma_No (xv_U a) (xv_L a) (xv_T a) Q ∧ ∀ i, i < 633 → s' i = s i)
theorem yt_of {B : Nat} {a s s' : Nat → Int32} {Q : Nat → Nat → Prop} {r : Int32} (hr : re_P B a s) (h : (r = 1 ∧ ∃ s1, ma_Ok (yv_U s) (xv_L a) (yv_T s) Q (yv_I s1 633) ∧ yc_I (xv_L a) Q s s1 ∧ (∀ v, v < 48 → s' v = s1 (633 + v)) ∧ ∀ i, 48 ≤ i → i < 633 → s' i = s i) ∨ (r = 0 ∧ ma_No (yv_U s) (xv_L a) (yv_T s) Q ∧ ∀ i, i < 633 → s' i = s i)) : yt_R a s s' Q r := by
  have yU := re_U hr
  obtain ⟨t1, t2⟩ := tl_tr (Q := Q) hr
  rcases h with ⟨z1, s1, z2, z3, z4, z5⟩ | ⟨z1, z2, z3⟩
  · refine Or.inl ⟨z1, ?_, ?_, ?_, z5⟩
    · have e : yv_I s' 0 = yv_I s1 633 := by
        funext x
        unfold yv_I
        by_cases q : x < 48
        · rw [if_pos q, if_pos q, Nat.zero_add, z4 x q]
        · rw [if_neg q, if_neg q]
      rw [e]; exact t1 _ z2
    · intro v hv
      rw [z4 v hv]; exact z3.2.1 v hv
    · intro v hv nu
      rw [z4 v hv]; exact z3.2.2.2.1 v hv (by rw [yU]; exact nu)
  · exact Or.inr ⟨z1, t2 z2, z3⟩
theorem re_yT {B : Nat} {a s : Nat → Int32} (r : re_P B a s) : ∀ c, (yv_T s).1 c → yv_U s c ∧ ∀ k, k < ma_ct ((yv_T s).2.1 c).1 → yv_U s ((yv_T s).2.2 c k) := by
  rw [re_U r]; exact r.2.2.2.2.1.2.2.2.1
theorem yw_tell {g_trials g_drafted g_found : Int32} {b_s b_saved b_draft b_who b_met b_stack b_fresh b_deep : Nat → Int32} {b_alike b_meets : Nat → Int64} {B : Nat} {a : Nat → Int32} (hr : re_P B a b_s) {x y : Nat} (hx : xv_U a x) (hy : xv_U a y) : ∃ (r : Int32) (s' : Nat → Int32), yt_R a b_s s' (ma_1 x y) r ∧ ∀ post : Int32 → SY → Prop, post r (g_trials, g_drafted, g_found, s', b_saved, b_draft, b_who, b_met, b_stack, b_fresh, b_deep, b_alike, b_meets) → wpY_tell post (g_trials, g_drafted, g_found, b_s, b_saved, b_draft, b_who, b_met, b_stack, b_fresh, b_deep, b_alike, b_meets) (nI x) (nI y) := by
  have yU := re_U hr
  obtain ⟨s1, a1, a2, a3⟩ := yw_tryIds (g_trials := g_trials) (g_drafted := g_drafted) (g_found := g_found) (b_s := b_s) (b_saved := b_saved) (b_draft := b_draft) (b_who := b_who) (b_met := b_met) (b_stack := b_stack) (b_fresh := b_fresh) (b_deep := b_deep) (b_alike := b_alike) (b_meets := b_meets)
  obtain ⟨s2, j1, j2⟩ := yw_join (g_trials := g_trials) (g_drafted := g_drafted) (g_found := g_found) (b_s := s1) (b_saved := b_saved) (b_draft := b_draft) (b_who := b_who) (b_met := b_met) (b_stack := b_stack) (b_fresh := b_fresh) (b_deep := b_deep) (b_alike := b_alike) (b_meets := b_meets) (b := 633) (by omega) hx.1 hy.1
  have i2 : yc_I (xv_L a) (ma_1 x y) b_s s2 := yc_more (yc_0 hr a2 a1) (by rw [yU]; exact hx) (by rw [yU]; exact hy) j1 (fun u v => ⟨fun q => Or.inr q, fun q => q.elim (fun z => z.elim) (fun z => z)⟩)
  obtain ⟨r, s', h1, h2⟩ := yw_keepTried (g_trials := g_trials) (g_drafted := g_drafted) (g_found := g_found) (b_s := s2) (b_saved := b_saved) (b_draft := b_draft) (b_who := b_who) (b_met := b_met) (b_stack := b_stack) (b_fresh := b_fresh) (b_deep := b_deep) (b_alike := b_alike) (b_meets := b_meets) hr.2.1 (re_yT hr) i2
  refine ⟨r, s', yt_of hr h1, fun post hp => ?_⟩
  unfold wpY_tell
  refine a3 _ (j2 _ (h2 _ ⟨?_, hp⟩))
  rcases h1 with z | z
  · rw [z.1]; exact nb_1
  · rw [z.1]; exact nb_0
/-- the two tellings of x = y -/
theorem tl_eq {B : Nat} {a s a' s' : Nat → Int32} {Q : Nat → Nat → Prop} {r r' : Int32} (hr : re_P B a s) (hX : xt_R a a' Q r) (hY : yt_R a s s' Q r') : re_P B a' s' ∧ ((r = 1 ∧ r' = 1) ∨ (r = 2 ∧ r' = 0 ∧ a' = a)) := by
  rcases hX with ⟨x1, x2, x3⟩ | ⟨x1, px, py, i, m, vd, x2, x3⟩
  · rcases hY with ⟨y1, y2, _⟩ | ⟨y1, y2, y3⟩
    · exact absurd x3 (ma_Ok_no y2)
    · rw [x2]
      exact ⟨re_P_congr (fun _ _ => rfl) y3 hr, Or.inr ⟨x1, y1, rfl⟩⟩
  · rcases hY with ⟨y1, y2, y3, y4, y5⟩ | ⟨y1, y2, y3⟩
    · exact ⟨tl_E hr x3 x2 y2 y3 y4 y5, Or.inl ⟨x1, y1⟩⟩
    · exact absurd y2 (ma_Ok_no (ma_MI_Ok x3.2.2.1 x2))
