/-- the reference's arguments for a value -/
def tf_A (sh : Int32 × Int32) (kind num label count : Int32) : Prop :=
  (sh.1 = 1 ∧ kind = 1 ∧ num = sh.2 ∧ label = 0 ∧ count = 0) ∨ (∃ l c, l < 8 ∧ c ≤ 3 ∧ sh = (nI (2 + 4 * l + c), 0) ∧ kind = 2 ∧ num = 0 ∧ label = nI l ∧ count = nI c)
theorem tf_c {sh : Int32 × Int32} {kind num label count : Int32} (h : tf_A sh kind num label count) : sv_c sh ∧ count = nI (ma_ct sh.1) ∧ kind ≠ 0 := by
  rcases h with ⟨h1, h2, h3, h4, h5⟩ | ⟨l, c, hl, hc, h1, h2, h3, h4, h5⟩
  · refine ⟨Or.inl h1, ?_, by rw [h2]; decide⟩
    rw [h5, h1, ma_ct_1]; rfl
  · subst h1
    refine ⟨Or.inr ⟨rfl, l, c, hl, hc, rfl⟩, ?_, by rw [h2]; decide⟩
    show count = nI (ma_ct (nI (2 + 4 * l + c)))
    rw [h5, ma_ct_rec hl hc]
theorem tf_own {s : Nat → Int32} {x : Nat} {sh : Int32 × Int32} {kind num label count : Int32} (h : yv_H s) (hx : x < 48) (x0 : s (48 + x) ≠ 0) (hA : tf_A sh kind num label count) : (s (48 + x) = kind ∧ s (96 + x) = num ∧ s (144 + x) = label ∧ s (192 + x) = count) ↔ (yv_k s x, s (96 + x)) = sh := by
  rcases hA with ⟨h1, h2, h3, h4, h5⟩ | ⟨l, c, hl, hc, h1, h2, h3, h4, h5⟩
  · constructor
    · intro ⟨a, b, _, _⟩
      unfold yv_k
      rw [if_pos (by rw [a, h2]), b, h3, ← h1]
    · intro q
      have q1 : yv_k s x = 1 := by rw [← h1, ← q]
      have q2 : s (96 + x) = num := by rw [h3, ← q]
      rcases h.2.2.1 x hx with z | ⟨a1, a2, a3⟩ | ⟨a1, a2, l, c, hl, hc, e1, e2⟩
      · exact absurd z x0
      · exact ⟨by rw [a1, h2], q2, by rw [a2, h4], by rw [a3, h5]⟩
      · rw [yv_kr a1 e1 e2] at q1
        have := (nI_eq (b := 1) (by omega) (by decide)).mp q1
        omega
  · subst h1
    constructor
    · intro ⟨a, b, d, e⟩
      rw [yv_kr (by rw [a, h2]) (by rw [d, h4]) (by rw [e, h5]), b, h3]
    · intro q
      have q1 : yv_k s x = nI (2 + 4 * l + c) := congrArg Prod.fst q
      have q2 : s (96 + x) = 0 := congrArg Prod.snd q
      rcases h.2.2.1 x hx with z | ⟨a1, a2, a3⟩ | ⟨a1, a2, l', c', hl', hc', e1, e2⟩
      · exact absurd z x0
      · have : yv_k s x = 1 := by unfold yv_k; rw [if_pos a1]
        rw [this] at q1
        have := (nI_eq (a := 1) (by decide) (by omega)).mp q1
        omega
      · rw [yv_kr a1 e1 e2] at q1
        have := (nI_eq (by omega) (by omega)).mp q1
        have hl2 : l' = l := by omega
        have hc2 : c' = c := by omega
        exact ⟨by rw [a1, h2], by rw [q2, h3], by rw [e1, h4, hl2], by rw [e2, h5, hc2]⟩
theorem yw_188 {g_trials g_drafted g_found : Int32} {b_s b_saved b_draft b_who b_met b_stack b_fresh b_deep : Nat → Int32} {b_alike b_meets : Nat → Int64} {x c : Nat} {x6 : Int32} (hx : x < 48) (hc : c ≤ 3) : ∀ d j (b_s : Nat → Int32), j + d = c → ∃ s' : Nat → Int32, (∀ k, j ≤ k → k < c → s' (240 + 3 * x + k) = b_draft k) ∧ (∀ i, (i < 240 + 3 * x + j ∨ 240 + 3 * x + c ≤ i) → s' i = b_s i) ∧ ∀ post : Int32 → SY → Prop, wY_tellOf_223 post (nI x) x6 g_trials g_drafted g_found s' b_saved b_draft b_who b_met b_stack b_fresh b_deep b_alike b_meets → wY_tellOf_188 post (nI x) (nI c) x6 g_trials g_drafted g_found (d + 1) (nI j) b_s b_saved b_draft b_who b_met b_stack b_fresh b_deep b_alike b_meets := by
  intro d
  induction d with
  | zero =>
    intro j s hj
    refine ⟨s, fun k h1 h2 => by omega, fun _ _ => rfl, fun post hp => ?_⟩
    unfold wY_tellOf_188
    simp (disch := omega) only [forall_eq, true_and, and_true, Nat.zero_add, nI_clamp, li_vin, nI_add, nI_eq, nI_leI, nI_ltI, li_0le, li_lt0, li_nn1, li_e0, not_true_eq_false, not_false_eq_true, false_implies, true_implies, forall_const, li_a0, li_b0, li_a1, li_b1, li_a2, li_b2, li_a3, li_b3, li_a7, li_b7, li_a8, li_b8, li_a16, li_b16, li_a48, li_b48, li_a584, li_b584, li_a572, li_b572, li_a96, li_b96, li_a144, li_b144, li_a192, li_b192, li_a240, li_b240, li_a336, li_b336, li_a384, li_b384, li_a432, li_b432, li_a480, li_b480, li_a488, li_b488, li_a496, li_b496, li_a504, li_b504, li_a512, li_b512, li_a520, li_b520, li_a524, li_b524, li_a528, li_b528, li_a536, li_b536, li_a544, li_b544, li_a552, li_b552, li_a560, li_b560, li_a568, li_b568, li_a573, li_b573, li_a585, li_b585, li_a633, li_b633, li_m3, li_n3, li_m4, li_n4, li_m48, li_n48, li_m50, li_n50, li_m585, li_n585, li_m633, li_n633, li_lt2, li_ge2, li_le2, li_gt2, li_lt1, li_ge1, li_le1, li_gt1, li_lt3, li_ge3, li_le3, li_gt3, li_lt4, li_ge4, li_le4, li_gt4, li_lt7, li_ge7, li_le7, li_gt7, li_lt8, li_ge8, li_le8, li_gt8, li_lt40, li_ge40, li_le40, li_gt40, li_lt240, li_ge240, li_le240, li_gt240, li_lt41, li_ge41, li_le41, li_gt41, li_lt48, li_ge48, li_le48, li_gt48, li_lt49, li_ge49, li_le49, li_gt49, li_lt60, li_ge60, li_le60, li_gt60, li_lt144, li_ge144, li_le144, li_gt144, li_lt145, li_ge145, li_le145, li_gt145, li_lt160, li_ge160, li_le160, li_gt160, li_lt336, li_ge336, li_le336, li_gt336, li_lt585, li_ge585, li_le585, li_gt585, li_lt633, li_ge633, li_le633, li_gt633, li_lt1000000, li_ge1000000, li_le1000000, li_gt1000000, li_lt2304, li_ge2304, li_le2304, li_gt2304, li_lt50, li_ge50, li_le50, li_gt50, li_le0, li_gt0]
    exact ⟨fun _ => hp, fun q => by omega⟩
  | succ d ih =>
    intro j s hj
    obtain ⟨s', h1, h2, h3⟩ := ih (j + 1) (upd s (240 + 3 * x + j) (b_draft j)) (by omega)
    refine ⟨s', ?_, ?_, fun post hp => ?_⟩
    · intro k g1 g2
      by_cases q : k = j
      · rw [q, h2 _ (by omega), pk_us]
      · exact h1 k (by omega) g2
    · intro i hi
      rw [h2 i (by omega), pk_un (by omega)]
    · unfold wY_tellOf_188
      simp (disch := omega) only [forall_eq, true_and, and_true, Nat.zero_add, nI_clamp, li_vin, nI_add, nI_eq, nI_leI, nI_ltI, li_0le, li_lt0, li_nn1, li_e0, not_true_eq_false, not_false_eq_true, false_implies, true_implies, forall_const, li_a0, li_b0, li_a1, li_b1, li_a2, li_b2, li_a3, li_b3, li_a7, li_b7, li_a8, li_b8, li_a16, li_b16, li_a48, li_b48, li_a584, li_b584, li_a572, li_b572, li_a96, li_b96, li_a144, li_b144, li_a192, li_b192, li_a240, li_b240, li_a336, li_b336, li_a384, li_b384, li_a432, li_b432, li_a480, li_b480, li_a488, li_b488, li_a496, li_b496, li_a504, li_b504, li_a512, li_b512, li_a520, li_b520, li_a524, li_b524, li_a528, li_b528, li_a536, li_b536, li_a544, li_b544, li_a552, li_b552, li_a560, li_b560, li_a568, li_b568, li_a573, li_b573, li_a585, li_b585, li_a633, li_b633, li_m3, li_n3, li_m4, li_n4, li_m48, li_n48, li_m50, li_n50, li_m585, li_n585, li_m633, li_n633, li_lt2, li_ge2, li_le2, li_gt2, li_lt1, li_ge1, li_le1, li_gt1, li_lt3, li_ge3, li_le3, li_gt3, li_lt4, li_ge4, li_le4, li_gt4, li_lt7, li_ge7, li_le7, li_gt7, li_lt8, li_ge8, li_le8, li_gt8, li_lt40, li_ge40, li_le40, li_gt40, li_lt240, li_ge240, li_le240, li_gt240, li_lt41, li_ge41, li_le41, li_gt41, li_lt48, li_ge48, li_le48, li_gt48, li_lt49, li_ge49, li_le49, li_gt49, li_lt60, li_ge60, li_le60, li_gt60, li_lt144, li_ge144, li_le144, li_gt144, li_lt145, li_ge145, li_le145, li_gt145, li_lt160, li_ge160, li_le160, li_gt160, li_lt336, li_ge336, li_le336, li_gt336, li_lt585, li_ge585, li_le585, li_gt585, li_lt633, li_ge633, li_le633, li_gt633, li_lt1000000, li_ge1000000, li_le1000000, li_gt1000000, li_lt2304, li_ge2304, li_le2304, li_gt2304, li_lt50, li_ge50, li_le50, li_gt50, li_le0, li_gt0]
      exact ⟨fun q => by omega, fun _ => h3 post hp⟩
/-- a variable without a value of its own gets one, and the work of closing begins -/
theorem yw_new {g_trials g_drafted g_found : Int32} {b_s b_saved b_draft b_who b_met b_stack b_fresh b_deep : Nat → Int32} {b_alike b_meets : Nat → Int64} {x : Nat} {sh : Int32 × Int32} {p : Nat → Nat} {kind num label count : Int32} (hx : x < 48) (hA : tf_A sh kind num label count) (k0 : b_s (48 + x) = 0) (hd : ∀ k, k < ma_ct sh.1 → b_draft k = nI (p k)) : ∃ s0 s2 : Nat → Int32, sv_Y b_s s0 x sh p ∧ (∀ i, i < 633 → s2 i = s0 i) ∧ (∀ v, v < 48 → s2 (633 + v) = s0 v) ∧ ∀ post : Int32 → SY → Prop, wY_tellOf_223 post (nI x) 0 g_trials g_drafted g_found s2 b_saved b_draft b_who b_met b_stack b_fresh b_deep b_alike b_meets → wpY_tellOf post (g_trials, g_drafted, g_found, b_s, b_saved, b_draft, b_who, b_met, b_stack, b_fresh, b_deep, b_alike, b_meets) (nI x) kind num label count := by
  obtain ⟨c1, c2, c3⟩ := tf_c hA
  have ct3 := ma_ct_le sh.1
  obtain ⟨s1, t1, t2, t3⟩ := yw_tryIds (g_trials := g_trials) (g_drafted := g_drafted) (g_found := g_found) (b_s := b_s) (b_saved := b_saved) (b_draft := b_draft) (b_who := b_who) (b_met := b_met) (b_stack := b_stack) (b_fresh := b_fresh) (b_deep := b_deep) (b_alike := b_alike) (b_meets := b_meets)
  obtain ⟨s2, p1, p2, p3⟩ := yw_188 (g_trials := g_trials) (g_drafted := g_drafted) (g_found := g_found) (b_s := b_s) (b_saved := b_saved) (b_draft := b_draft) (b_who := b_who) (b_met := b_met) (b_stack := b_stack) (b_fresh := b_fresh) (b_deep := b_deep) (b_alike := b_alike) (b_meets := b_meets) (x := x) (c := ma_ct sh.1) (x6 := 0) hx ct3 (ma_ct sh.1) 0 (upd (upd (upd (upd s1 (48 + x) kind) (96 + x) num) (144 + x) label) (192 + x) count) (by omega)
  have cell : ∀ i, i < 681 → (i < 240 + 3 * x ∨ 240 + 3 * x + ma_ct sh.1 ≤ i) → i ≠ 48 + x → i ≠ 96 + x → i ≠ 144 + x → i ≠ 192 + x → s2 i = s1 i := by
    intro i _ h h1 h2 h3 h4
    rw [p2 i (by omega), pk_un h4, pk_un h3, pk_un h2, pk_un h1]
  have k48 : s2 (48 + x) = kind := by
    rw [p2 _ (by omega)]; simp (disch := omega) only [pk_un, pk_us]
  have k96 : s2 (96 + x) = num := by
    rw [p2 _ (by omega)]; simp (disch := omega) only [pk_un, pk_us]
  have k144 : s2 (144 + x) = label := by
    rw [p2 _ (by omega)]; simp (disch := omega) only [pk_un, pk_us]
  have k192 : s2 (192 + x) = count := by
    rw [p2 _ (by omega)]; simp (disch := omega) only [pk_un, pk_us]
  have g0 : ∀ i, i < 633 → (fun i => if i < 633 then s2 i else b_s i) i = s2 i := fun i hi => if_pos hi
  refine ⟨fun i => if i < 633 then s2 i else b_s i, s2, ⟨?_, ?_, ?_, ?_⟩, fun i hi => (g0 i hi).symm, ?_, fun post hp => ?_⟩
  · rw [g0 (48 + x) (by omega), g0 (96 + x) (by omega), g0 (144 + x) (by omega), g0 (192 + x) (by omega), k48, k96, k144, k192]
    rcases hA with ⟨h1, h2, h3, h4, h5⟩ | ⟨l, c, hl, hc, h1, h2, h3, h4, h5⟩
    · exact Or.inl ⟨h1, h2, h3, h4, h5⟩
    · exact Or.inr ⟨l, c, hl, hc, h1, h2, h3, h4, h5⟩
  · intro k hk
    rw [g0 _ (by omega), p1 k (by omega) hk]; exact hd k hk
  · intro k h1 h2
    rw [g0 _ (by omega), cell _ (by omega) (by omega) (by omega) (by omega) (by omega) (by omega), t2 _ (by omega)]
  · intro i hi h1 h2 h3 h4 h5
    rw [g0 _ hi, cell i (by omega) (by omega) h1 h2 h3 h4, t2 i hi]
  · intro v hv
    rw [g0 _ (by omega), cell _ (by omega) (by omega) (by omega) (by omega) (by omega) (by omega), cell v (by omega) (by omega) (by omega) (by omega) (by omega) (by omega), t1 v hv, t2 v (by omega)]
  · have h136 : wY_tellOf_136 post (nI x) kind num label (nI (ma_ct sh.1)) 0 g_trials g_drafted g_found s1 b_saved b_draft b_who b_met b_stack b_fresh b_deep b_alike b_meets := by
      rw [c2] at p3
      unfold wY_tellOf_136
      simp (disch := omega) only [forall_eq, true_and, and_true, Nat.zero_add, nI_clamp, li_vin, nI_add, nI_eq, nI_leI, nI_ltI, li_0le, li_lt0, li_nn1, li_e0, not_true_eq_false, not_false_eq_true, false_implies, true_implies, forall_const, li_a0, li_b0, li_a1, li_b1, li_a2, li_b2, li_a3, li_b3, li_a7, li_b7, li_a8, li_b8, li_a16, li_b16, li_a48, li_b48, li_a584, li_b584, li_a572, li_b572, li_a96, li_b96, li_a144, li_b144, li_a192, li_b192, li_a240, li_b240, li_a336, li_b336, li_a384, li_b384, li_a432, li_b432, li_a480, li_b480, li_a488, li_b488, li_a496, li_b496, li_a504, li_b504, li_a512, li_b512, li_a520, li_b520, li_a524, li_b524, li_a528, li_b528, li_a536, li_b536, li_a544, li_b544, li_a552, li_b552, li_a560, li_b560, li_a568, li_b568, li_a573, li_b573, li_a585, li_b585, li_a633, li_b633, li_m3, li_n3, li_m4, li_n4, li_m48, li_n48, li_m50, li_n50, li_m585, li_n585, li_m633, li_n633, li_lt2, li_ge2, li_le2, li_gt2, li_lt1, li_ge1, li_le1, li_gt1, li_lt3, li_ge3, li_le3, li_gt3, li_lt4, li_ge4, li_le4, li_gt4, li_lt7, li_ge7, li_le7, li_gt7, li_lt8, li_ge8, li_le8, li_gt8, li_lt40, li_ge40, li_le40, li_gt40, li_lt240, li_ge240, li_le240, li_gt240, li_lt41, li_ge41, li_le41, li_gt41, li_lt48, li_ge48, li_le48, li_gt48, li_lt49, li_ge49, li_le49, li_gt49, li_lt60, li_ge60, li_le60, li_gt60, li_lt144, li_ge144, li_le144, li_gt144, li_lt145, li_ge145, li_le145, li_gt145, li_lt160, li_ge160, li_le160, li_gt160, li_lt336, li_ge336, li_le336, li_gt336, li_lt585, li_ge585, li_le585, li_gt585, li_lt633, li_ge633, li_le633, li_gt633, li_lt1000000, li_ge1000000, li_le1000000, li_gt1000000, li_lt2304, li_ge2304, li_le2304, li_gt2304, li_lt50, li_ge50, li_le50, li_gt50, li_le0, li_gt0]
      exact ⟨_, p3 post hp⟩
    unfold wpY_tellOf
    simp (disch := omega) only [forall_eq, true_and, and_true, Nat.zero_add, nI_clamp, li_vin, nI_add, nI_eq, nI_leI, nI_ltI, li_0le, li_lt0, li_nn1, li_e0, not_true_eq_false, not_false_eq_true, false_implies, true_implies, forall_const, li_a0, li_b0, li_a1, li_b1, li_a2, li_b2, li_a3, li_b3, li_a7, li_b7, li_a8, li_b8, li_a16, li_b16, li_a48, li_b48, li_a584, li_b584, li_a572, li_b572, li_a96, li_b96, li_a144, li_b144, li_a192, li_b192, li_a240, li_b240, li_a336, li_b336, li_a384, li_b384, li_a432, li_b432, li_a480, li_b480, li_a488, li_b488, li_a496, li_b496, li_a504, li_b504, li_a512, li_b512, li_a520, li_b520, li_a524, li_b524, li_a528, li_b528, li_a536, li_b536, li_a544, li_b544, li_a552, li_b552, li_a560, li_b560, li_a568, li_b568, li_a573, li_b573, li_a585, li_b585, li_a633, li_b633, li_m3, li_n3, li_m4, li_n4, li_m48, li_n48, li_m50, li_n50, li_m585, li_n585, li_m633, li_n633, li_lt2, li_ge2, li_le2, li_gt2, li_lt1, li_ge1, li_le1, li_gt1, li_lt3, li_ge3, li_le3, li_gt3, li_lt4, li_ge4, li_le4, li_gt4, li_lt7, li_ge7, li_le7, li_gt7, li_lt8, li_ge8, li_le8, li_gt8, li_lt40, li_ge40, li_le40, li_gt40, li_lt240, li_ge240, li_le240, li_gt240, li_lt41, li_ge41, li_le41, li_gt41, li_lt48, li_ge48, li_le48, li_gt48, li_lt49, li_ge49, li_le49, li_gt49, li_lt60, li_ge60, li_le60, li_gt60, li_lt144, li_ge144, li_le144, li_gt144, li_lt145, li_ge145, li_le145, li_gt145, li_lt160, li_ge160, li_le160, li_gt160, li_lt336, li_ge336, li_le336, li_gt336, li_lt585, li_ge585, li_le585, li_gt585, li_lt633, li_ge633, li_le633, li_gt633, li_lt1000000, li_ge1000000, li_le1000000, li_gt1000000, li_lt2304, li_ge2304, li_le2304, li_gt2304, li_lt50, li_ge50, li_le50, li_gt50, li_le0, li_gt0, k0]
    unfold wY_tellOf_17
    refine br_t rfl ?_
    unfold wY_tellOf_82
    refine t3 _ ⟨1, ?_⟩
    unfold wY_tellOf_89
    rw [c2]
    exact br_c (fun _ => h136) (fun _ => br_t rfl h136)
theorem yw_89 {g_trials g_drafted g_found : Int32} {b_s b_saved b_draft b_who b_met b_stack b_fresh b_deep : Nat → Int32} {b_alike b_meets : Nat → Int64} {x c : Nat} {L : Nat → Nat} {s0 : Nat → Int32} {p : Nat → Nat} {kind num label : Int32} (h0 : yv_H s0) (hx : x < 48) (hc : c ≤ 3) (hd : ∀ k, k < c → b_draft k = nI (p k) ∧ yv_U s0 (p k)) (hU : ∀ k, k < c → yv_U s0 (yv_P s0 x k)) : ∀ d j (b_s : Nat → Int32), j + d = c → yc_I L (ma_2 j (yv_P s0 x) p) s0 b_s → ∃ s' : Nat → Int32, yc_I L (ma_2 c (yv_P s0 x) p) s0 s' ∧ ∀ post : Int32 → SY → Prop, wY_tellOf_223 post (nI x) 1 g_trials g_drafted g_found s' b_saved b_draft b_who b_met b_stack b_fresh b_deep b_alike b_meets → wY_tellOf_89 post (nI x) kind num label (nI c) 1 (d + 1) (nI j) g_trials g_drafted g_found b_s b_saved b_draft b_who b_met b_stack b_fresh b_deep b_alike b_meets := by
  intro d
  induction d with
  | zero =>
    intro j s hj hI
    refine ⟨s, by rw [show c = j from by omega]; exact hI, fun post hp => ?_⟩
    unfold wY_tellOf_89
    simp (disch := omega) only [forall_eq, true_and, and_true, Nat.zero_add, nI_clamp, li_vin, nI_add, nI_eq, nI_leI, nI_ltI, li_0le, li_lt0, li_nn1, li_e0, not_true_eq_false, not_false_eq_true, false_implies, true_implies, forall_const, li_a0, li_b0, li_a1, li_b1, li_a2, li_b2, li_a3, li_b3, li_a7, li_b7, li_a8, li_b8, li_a16, li_b16, li_a48, li_b48, li_a584, li_b584, li_a572, li_b572, li_a96, li_b96, li_a144, li_b144, li_a192, li_b192, li_a240, li_b240, li_a336, li_b336, li_a384, li_b384, li_a432, li_b432, li_a480, li_b480, li_a488, li_b488, li_a496, li_b496, li_a504, li_b504, li_a512, li_b512, li_a520, li_b520, li_a524, li_b524, li_a528, li_b528, li_a536, li_b536, li_a544, li_b544, li_a552, li_b552, li_a560, li_b560, li_a568, li_b568, li_a573, li_b573, li_a585, li_b585, li_a633, li_b633, li_m3, li_n3, li_m4, li_n4, li_m48, li_n48, li_m50, li_n50, li_m585, li_n585, li_m633, li_n633, li_lt2, li_ge2, li_le2, li_gt2, li_lt1, li_ge1, li_le1, li_gt1, li_lt3, li_ge3, li_le3, li_gt3, li_lt4, li_ge4, li_le4, li_gt4, li_lt7, li_ge7, li_le7, li_gt7, li_lt8, li_ge8, li_le8, li_gt8, li_lt40, li_ge40, li_le40, li_gt40, li_lt240, li_ge240, li_le240, li_gt240, li_lt41, li_ge41, li_le41, li_gt41, li_lt48, li_ge48, li_le48, li_gt48, li_lt49, li_ge49, li_le49, li_gt49, li_lt60, li_ge60, li_le60, li_gt60, li_lt144, li_ge144, li_le144, li_gt144, li_lt145, li_ge145, li_le145, li_gt145, li_lt160, li_ge160, li_le160, li_gt160, li_lt336, li_ge336, li_le336, li_gt336, li_lt585, li_ge585, li_le585, li_gt585, li_lt633, li_ge633, li_le633, li_gt633, li_lt1000000, li_ge1000000, li_le1000000, li_gt1000000, li_lt2304, li_ge2304, li_le2304, li_gt2304, li_lt50, li_ge50, li_le50, li_gt50, li_le0, li_gt0]
    refine ⟨fun _ => ?_, fun q => by omega⟩
    unfold wY_tellOf_136
    exact br_f (by decide) hp
  | succ d ih =>
    intro j s hj hI
    obtain ⟨d1, d2⟩ := hd j (by omega)
    have px : s (240 + 3 * x + j) = nI (yv_P s0 x j) ∧ yv_P s0 x j < 48 := by
      rw [hI.1 _ (by omega)]; exact yv_HP h0 hx (by omega)
    obtain ⟨px1, px2⟩ := px
    obtain ⟨s1, j1, j2⟩ := yw_join (g_trials := g_trials) (g_drafted := g_drafted) (g_found := g_found) (b_s := s) (b_saved := b_saved) (b_draft := b_draft) (b_who := b_who) (b_met := b_met) (b_stack := b_stack) (b_fresh := b_fresh) (b_deep := b_deep) (b_alike := b_alike) (b_meets := b_meets) (b := 633) (by omega) px2 d2.1
    have hI1 : yc_I L (ma_2 (j + 1) (yv_P s0 x) p) s0 s1 := by
      refine yc_more hI (hU j (by omega)) d2 j1 (fun u v => ?_)
      constructor
      · intro ⟨k, hk, a, b⟩
        by_cases q : k = j
        · rw [q] at a b; exact Or.inr ⟨a, b⟩
        · exact Or.inl ⟨k, by omega, a, b⟩
      · intro q
        rcases q with ⟨k, hk, a, b⟩ | ⟨a, b⟩
        · exact ⟨k, by omega, a, b⟩
        · exact ⟨j, by omega, a, b⟩
    obtain ⟨s', h1, h2⟩ := ih (j + 1) s1 (by omega) hI1
    refine ⟨s', h1, fun post hp => ?_⟩
    rw [wY_tellOf_89]
    dsimp only
    simp (disch := omega) only [forall_eq, true_and, and_true, Nat.zero_add, nI_clamp, li_vin, nI_add, nI_eq, nI_leI, nI_ltI, li_0le, li_lt0, li_nn1, li_e0, not_true_eq_false, not_false_eq_true, false_implies, true_implies, forall_const, li_a0, li_b0, li_a1, li_b1, li_a2, li_b2, li_a3, li_b3, li_a7, li_b7, li_a8, li_b8, li_a16, li_b16, li_a48, li_b48, li_a584, li_b584, li_a572, li_b572, li_a96, li_b96, li_a144, li_b144, li_a192, li_b192, li_a240, li_b240, li_a336, li_b336, li_a384, li_b384, li_a432, li_b432, li_a480, li_b480, li_a488, li_b488, li_a496, li_b496, li_a504, li_b504, li_a512, li_b512, li_a520, li_b520, li_a524, li_b524, li_a528, li_b528, li_a536, li_b536, li_a544, li_b544, li_a552, li_b552, li_a560, li_b560, li_a568, li_b568, li_a573, li_b573, li_a585, li_b585, li_a633, li_b633, li_m3, li_n3, li_m4, li_n4, li_m48, li_n48, li_m50, li_n50, li_m585, li_n585, li_m633, li_n633, li_lt2, li_ge2, li_le2, li_gt2, li_lt1, li_ge1, li_le1, li_gt1, li_lt3, li_ge3, li_le3, li_gt3, li_lt4, li_ge4, li_le4, li_gt4, li_lt7, li_ge7, li_le7, li_gt7, li_lt8, li_ge8, li_le8, li_gt8, li_lt40, li_ge40, li_le40, li_gt40, li_lt240, li_ge240, li_le240, li_gt240, li_lt41, li_ge41, li_le41, li_gt41, li_lt48, li_ge48, li_le48, li_gt48, li_lt49, li_ge49, li_le49, li_gt49, li_lt60, li_ge60, li_le60, li_gt60, li_lt144, li_ge144, li_le144, li_gt144, li_lt145, li_ge145, li_le145, li_gt145, li_lt160, li_ge160, li_le160, li_gt160, li_lt336, li_ge336, li_le336, li_gt336, li_lt585, li_ge585, li_le585, li_gt585, li_lt633, li_ge633, li_le633, li_gt633, li_lt1000000, li_ge1000000, li_le1000000, li_gt1000000, li_lt2304, li_ge2304, li_le2304, li_gt2304, li_lt50, li_ge50, li_le50, li_gt50, li_le0, li_gt0, px1, d1]
    exact ⟨fun q => by omega, fun _ => br_f (by decide) (j2 _ (h2 post hp))⟩
theorem yw_told0 {g_trials g_drafted g_found : Int32} {b_s b_saved b_draft b_who b_met b_stack b_fresh b_deep : Nat → Int32} {b_alike b_meets : Nat → Int64} : ∀ post : Int32 → SY → Prop, post 2 (g_trials, g_drafted, g_found, b_s, b_saved, b_draft, b_who, b_met, b_stack, b_fresh, b_deep, b_alike, b_meets) → wY_tellOf_249 post 0 g_trials g_drafted g_found b_s b_saved b_draft b_who b_met b_stack b_fresh b_deep b_alike b_meets := by
  intro post hp
  unfold wY_tellOf_249 wpY_told
  exact br_t rfl hp
theorem yw_told1 {g_trials g_drafted g_found : Int32} {b_s b_saved b_draft b_who b_met b_stack b_fresh b_deep : Nat → Int32} {b_alike b_meets : Nat → Int64} : ∀ post : Int32 → SY → Prop, wpY_settle (fun u => match u with | (g_trials, g_drafted, g_found, b_s, b_saved, b_draft, b_who, b_met, b_stack, b_fresh, b_deep, b_alike, b_meets) => post 1 (g_trials, g_drafted, g_found, b_s, b_saved, b_draft, b_who, b_met, b_stack, b_fresh, b_deep, b_alike, b_meets)) (g_trials, g_drafted, g_found, b_s, b_saved, b_draft, b_who, b_met, b_stack, b_fresh, b_deep, b_alike, b_meets) → wY_tellOf_249 post 1 g_trials g_drafted g_found b_s b_saved b_draft b_who b_met b_stack b_fresh b_deep b_alike b_meets := by
  intro post hp
  unfold wY_tellOf_249 wpY_told
  exact br_f (by decide) hp
theorem yt_Q {a s s' : Nat → Int32} {Q Q' : Nat → Nat → Prop} {r : Int32} (f : ∀ E, ma_F (xv_U a) (xv_L a) (xv_T a) Q E ↔ ma_F (xv_U a) (xv_L a) (xv_T a) Q' E) (h : yt_R a s s' Q r) : yt_R a s s' Q' r := by
  rcases h with ⟨h1, h2, h3⟩ | ⟨h1, h2, h3⟩
  · exact Or.inl ⟨h1, ma_Ok_tr f (fun _ _ => Iff.rfl) h2, h3⟩
  · exact Or.inr ⟨h1, ma_No_tr f (fun _ _ => Iff.rfl) h2, h3⟩
/-- what a telling that fails leaves of the reference's row -/
def tf_F (s s' : Nat → Int32) (x : Nat) : Prop :=
  (∀ i, i < 633 → s' i = s i) ∨ (s (48 + x) = 0 ∧ s' (48 + x) = 0 ∧ (∀ k, k < 3 → ∃ q, q < 48 ∧ s' (240 + 3 * x + k) = nI q) ∧ ∀ i, i < 633 → i ≠ 48 + x → i ≠ 96 + x → i ≠ 144 + x → i ≠ 192 + x → (i < 240 + 3 * x ∨ 240 + 3 * x + 3 ≤ i) → s' i = s i)
theorem tf_P {B : Nat} {a s s' : Nat → Int32} {x : Nat} (r : re_P B a s) (hx : x < 48) (h : tf_F s s' x) : re_P B a s' := by
  rcases h with h | ⟨h1, h2, h3, h4⟩
  · exact re_P_congr (fun _ _ => rfl) h r
  · exact un_P r hx h2 h1 h3 h4
