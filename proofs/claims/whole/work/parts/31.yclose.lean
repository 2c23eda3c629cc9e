theorem dv_u {n u v : Nat} (hv : v < n) : (u * n + v) / n = u ∧ (u * n + v) % n = v := by
  have hn : 0 < n := by omega
  rw [Nat.mul_comm u n, Nat.mul_add_div hn, Nat.mul_add_mod, Nat.div_eq_of_lt hv, Nat.mod_eq_of_lt hv]
  exact ⟨by omega, rfl⟩
theorem dv_k {n k : Nat} (hk : k < n * n) : k / n < n ∧ k % n < n ∧ 0 < n ∧ k / n * n + k % n = k := by
  have hn : 0 < n := by
    cases n with
    | zero => omega
    | succ n => omega
  exact ⟨Nat.div_lt_of_lt_mul hk, Nat.mod_lt _ hn, hn, Nat.div_add_mod' k n⟩
def yc_c (s : Nat → Int32) : Nat := ma_cnt (fun v => decide (yv_I s 633 v = v)) 48
theorem yw_joinParts_6 {g_trials g_drafted g_found : Int32} {b_s b_saved b_draft b_who b_met b_stack b_fresh b_deep : Nat → Int32} {b_alike b_meets : Nat → Int64} {L : Nat → Nat} {Q : Nat → Nat → Prop} {s0 : Nat → Int32} {u v : Nat} (h0 : yv_H s0) (hT : ∀ c, (yv_T s0).1 c → yv_U s0 c ∧ ∀ k, k < ma_ct ((yv_T s0).2.1 c).1 → yv_U s0 ((yv_T s0).2.2 c k)) (hu : (yv_T s0).1 u) (hv : (yv_T s0).1 v) (sh : (yv_T s0).2.1 u = (yv_T s0).2.1 v) : ∀ d j (any : Int32) (b_s : Nat → Int32), j + d = ma_ct ((yv_T s0).2.1 u).1 → yc_I L Q s0 b_s → yv_I b_s 633 u = yv_I b_s 633 v → (any = 0 ∨ any = 1) → ∃ (any' : Int32) (s' : Nat → Int32), yc_I L Q s0 s' ∧ (any' = 0 ∨ any' = 1) ∧ ((any' = any ∧ s' = b_s ∧ ∀ k, j ≤ k → k < ma_ct ((yv_T s0).2.1 u).1 → yv_I b_s 633 ((yv_T s0).2.2 u k) = yv_I b_s 633 ((yv_T s0).2.2 v k)) ∨ (any' = 1 ∧ yc_c s' < yc_c b_s)) ∧ ∀ post : Int32 → SY → Prop, post any' (g_trials, g_drafted, g_found, s', b_saved, b_draft, b_who, b_met, b_stack, b_fresh, b_deep, b_alike, b_meets) → wY_joinParts_6 post (nI 633) (nI u) (nI v) (d + 1) any (nI j) g_trials g_drafted g_found b_s b_saved b_draft b_who b_met b_stack b_fresh b_deep b_alike b_meets := by
  have u48 : u < 48 := (yv_T1 hu).1.1
  have v48 : v < 48 := (yv_T1 hv).1.1
  have eu : (yv_T s0).2.1 u = (yv_k s0 u, s0 (96 + u)) := if_pos u48
  have ct3 := ma_ct_le ((yv_T s0).2.1 u).1
  have ec : s0 (192 + u) = nI (ma_ct ((yv_T s0).2.1 u).1) := by
    rw [eu]; exact (yv_HC h0 u48 (yv_T1 hu).2).1
  intro d
  induction d with
  | zero =>
    intro j any s hj hI e ha
    have ec' : s (192 + u) = nI (ma_ct ((yv_T s0).2.1 u).1) := by rw [hI.1 _ (by omega)]; exact ec
    refine ⟨any, s, hI, ha, Or.inl ⟨rfl, rfl, fun k g1 g2 => by omega⟩, fun post hp => ?_⟩
    unfold wY_joinParts_6
    simp (disch := omega) only [forall_eq, true_and, and_true, Nat.zero_add, nI_clamp, li_vin, nI_add, nI_eq, nI_leI, nI_ltI, li_0le, li_lt0, li_nn1, li_e0, not_true_eq_false, not_false_eq_true, false_implies, true_implies, forall_const, li_a0, li_b0, li_a1, li_b1, li_a2, li_b2, li_a3, li_b3, li_a7, li_b7, li_a8, li_b8, li_a16, li_b16, li_a48, li_b48, li_a584, li_b584, li_a572, li_b572, li_a96, li_b96, li_a144, li_b144, li_a192, li_b192, li_a240, li_b240, li_a336, li_b336, li_a384, li_b384, li_a432, li_b432, li_a480, li_b480, li_a488, li_b488, li_a496, li_b496, li_a504, li_b504, li_a512, li_b512, li_a520, li_b520, li_a524, li_b524, li_a528, li_b528, li_a536, li_b536, li_a544, li_b544, li_a552, li_b552, li_a560, li_b560, li_a568, li_b568, li_a573, li_b573, li_a585, li_b585, li_a633, li_b633, li_m3, li_n3, li_m4, li_n4, li_m48, li_n48, li_m50, li_n50, li_m585, li_n585, li_m633, li_n633, li_lt2, li_ge2, li_le2, li_gt2, li_lt1, li_ge1, li_le1, li_gt1, li_lt3, li_ge3, li_le3, li_gt3, li_lt4, li_ge4, li_le4, li_gt4, li_lt7, li_ge7, li_le7, li_gt7, li_lt8, li_ge8, li_le8, li_gt8, li_lt40, li_ge40, li_le40, li_gt40, li_lt240, li_ge240, li_le240, li_gt240, li_lt41, li_ge41, li_le41, li_gt41, li_lt48, li_ge48, li_le48, li_gt48, li_lt49, li_ge49, li_le49, li_gt49, li_lt60, li_ge60, li_le60, li_gt60, li_lt144, li_ge144, li_le144, li_gt144, li_lt145, li_ge145, li_le145, li_gt145, li_lt160, li_ge160, li_le160, li_gt160, li_lt336, li_ge336, li_le336, li_gt336, li_lt585, li_ge585, li_le585, li_gt585, li_lt633, li_ge633, li_le633, li_gt633, li_lt1000000, li_ge1000000, li_le1000000, li_gt1000000, li_lt2304, li_ge2304, li_le2304, li_gt2304, li_lt50, li_ge50, li_le50, li_gt50, li_le0, li_gt0, ec']
    refine ⟨fun _ => ⟨?_, hp⟩, fun q => by omega⟩
    rcases ha with z | z
    · rw [z]; exact nb_0
    · rw [z]; exact nb_1
  | succ d ih =>
    intro j any s hj hI e ha
    have ec' : s (192 + u) = nI (ma_ct ((yv_T s0).2.1 u).1) := by rw [hI.1 _ (by omega)]; exact ec
    have j3 : j < 3 := by omega
    have pu : s (240 + 3 * u + j) = nI ((yv_T s0).2.2 u j) ∧ (yv_T s0).2.2 u j < 48 := by
      rw [hI.1 _ (by omega)]; exact yv_HP h0 u48 j3
    have pv : s (240 + 3 * v + j) = nI ((yv_T s0).2.2 v j) ∧ (yv_T s0).2.2 v j < 48 := by
      rw [hI.1 _ (by omega)]; exact yv_HP h0 v48 j3
    obtain ⟨pu1, pu2⟩ := pu
    obtain ⟨pv1, pv2⟩ := pv
    obtain ⟨iu1, iu2⟩ := yc_W hI _ pu2
    obtain ⟨iv1, iv2⟩ := yc_W hI _ pv2
    have Uu := (hT u hu).2 j (by omega)
    have Uv := (hT v hv).2 j (by rw [← sh]; omega)
    by_cases q : yv_I s 633 ((yv_T s0).2.2 u j) = yv_I s 633 ((yv_T s0).2.2 v j)
    · obtain ⟨any', s', h1, h2, h3, h4⟩ := ih (j + 1) any s (by omega) hI e ha
      refine ⟨any', s', h1, h2, ?_, fun post hp => ?_⟩
      · rcases h3 with ⟨z1, z2, z3⟩ | z
        · refine Or.inl ⟨z1, z2, fun k g1 g2 => ?_⟩
          by_cases w : k = j
          · rw [w]; exact q
          · exact z3 k (by omega) g2
        · exact Or.inr z
      · unfold wY_joinParts_6
        simp (disch := omega) only [forall_eq, true_and, and_true, Nat.zero_add, nI_clamp, li_vin, nI_add, nI_eq, nI_leI, nI_ltI, li_0le, li_lt0, li_nn1, li_e0, not_true_eq_false, not_false_eq_true, false_implies, true_implies, forall_const, li_a0, li_b0, li_a1, li_b1, li_a2, li_b2, li_a3, li_b3, li_a7, li_b7, li_a8, li_b8, li_a16, li_b16, li_a48, li_b48, li_a584, li_b584, li_a572, li_b572, li_a96, li_b96, li_a144, li_b144, li_a192, li_b192, li_a240, li_b240, li_a336, li_b336, li_a384, li_b384, li_a432, li_b432, li_a480, li_b480, li_a488, li_b488, li_a496, li_b496, li_a504, li_b504, li_a512, li_b512, li_a520, li_b520, li_a524, li_b524, li_a528, li_b528, li_a536, li_b536, li_a544, li_b544, li_a552, li_b552, li_a560, li_b560, li_a568, li_b568, li_a573, li_b573, li_a585, li_b585, li_a633, li_b633, li_m3, li_n3, li_m4, li_n4, li_m48, li_n48, li_m50, li_n50, li_m585, li_n585, li_m633, li_n633, li_lt2, li_ge2, li_le2, li_gt2, li_lt1, li_ge1, li_le1, li_gt1, li_lt3, li_ge3, li_le3, li_gt3, li_lt4, li_ge4, li_le4, li_gt4, li_lt7, li_ge7, li_le7, li_gt7, li_lt8, li_ge8, li_le8, li_gt8, li_lt40, li_ge40, li_le40, li_gt40, li_lt240, li_ge240, li_le240, li_gt240, li_lt41, li_ge41, li_le41, li_gt41, li_lt48, li_ge48, li_le48, li_gt48, li_lt49, li_ge49, li_le49, li_gt49, li_lt60, li_ge60, li_le60, li_gt60, li_lt144, li_ge144, li_le144, li_gt144, li_lt145, li_ge145, li_le145, li_gt145, li_lt160, li_ge160, li_le160, li_gt160, li_lt336, li_ge336, li_le336, li_gt336, li_lt585, li_ge585, li_le585, li_gt585, li_lt633, li_ge633, li_le633, li_gt633, li_lt1000000, li_ge1000000, li_le1000000, li_gt1000000, li_lt2304, li_ge2304, li_le2304, li_gt2304, li_lt50, li_ge50, li_le50, li_gt50, li_le0, li_gt0, ec', pu1, pv1, iu1, iv1]
        exact ⟨fun q => by omega, fun _ => ⟨fun _ => h4 post hp, fun z => absurd q z⟩⟩
    · obtain ⟨s1, j1, j2⟩ := yw_join (g_trials := g_trials) (g_drafted := g_drafted) (g_found := g_found) (b_s := s) (b_saved := b_saved) (b_draft := b_draft) (b_who := b_who) (b_met := b_met) (b_stack := b_stack) (b_fresh := b_fresh) (b_deep := b_deep) (b_alike := b_alike) (b_meets := b_meets) (b := 633) (by omega) pu2 pv2
      obtain ⟨n1, n2, n3, n4⟩ := yc_step hI Uu Uv j1 (yc_part hu hv e sh (by omega))
      obtain ⟨any', s', h1, h2, h3, h4⟩ := ih (j + 1) 1 s1 (by omega) n1 (n3 u v (hT u hu).1 (hT v hv).1 e) (Or.inr rfl)
      have lt : yc_c s1 < yc_c s := n2 q
      refine ⟨any', s', h1, h2, ?_, fun post hp => ?_⟩
      · rcases h3 with ⟨z1, z2, z3⟩ | ⟨z1, z2⟩
        · rw [z2]; exact Or.inr ⟨z1, lt⟩
        · exact Or.inr ⟨z1, by omega⟩
      · unfold wY_joinParts_6
        simp (disch := omega) only [forall_eq, true_and, and_true, Nat.zero_add, nI_clamp, li_vin, nI_add, nI_eq, nI_leI, nI_ltI, li_0le, li_lt0, li_nn1, li_e0, not_true_eq_false, not_false_eq_true, false_implies, true_implies, forall_const, li_a0, li_b0, li_a1, li_b1, li_a2, li_b2, li_a3, li_b3, li_a7, li_b7, li_a8, li_b8, li_a16, li_b16, li_a48, li_b48, li_a584, li_b584, li_a572, li_b572, li_a96, li_b96, li_a144, li_b144, li_a192, li_b192, li_a240, li_b240, li_a336, li_b336, li_a384, li_b384, li_a432, li_b432, li_a480, li_b480, li_a488, li_b488, li_a496, li_b496, li_a504, li_b504, li_a512, li_b512, li_a520, li_b520, li_a524, li_b524, li_a528, li_b528, li_a536, li_b536, li_a544, li_b544, li_a552, li_b552, li_a560, li_b560, li_a568, li_b568, li_a573, li_b573, li_a585, li_b585, li_a633, li_b633, li_m3, li_n3, li_m4, li_n4, li_m48, li_n48, li_m50, li_n50, li_m585, li_n585, li_m633, li_n633, li_lt2, li_ge2, li_le2, li_gt2, li_lt1, li_ge1, li_le1, li_gt1, li_lt3, li_ge3, li_le3, li_gt3, li_lt4, li_ge4, li_le4, li_gt4, li_lt7, li_ge7, li_le7, li_gt7, li_lt8, li_ge8, li_le8, li_gt8, li_lt40, li_ge40, li_le40, li_gt40, li_lt240, li_ge240, li_le240, li_gt240, li_lt41, li_ge41, li_le41, li_gt41, li_lt48, li_ge48, li_le48, li_gt48, li_lt49, li_ge49, li_le49, li_gt49, li_lt60, li_ge60, li_le60, li_gt60, li_lt144, li_ge144, li_le144, li_gt144, li_lt145, li_ge145, li_le145, li_gt145, li_lt160, li_ge160, li_le160, li_gt160, li_lt336, li_ge336, li_le336, li_gt336, li_lt585, li_ge585, li_le585, li_gt585, li_lt633, li_ge633, li_le633, li_gt633, li_lt1000000, li_ge1000000, li_le1000000, li_gt1000000, li_lt2304, li_ge2304, li_le2304, li_gt2304, li_lt50, li_ge50, li_le50, li_gt50, li_le0, li_gt0, ec', pu1, pv1, iu1, iv1]
        exact ⟨fun q => by omega, fun _ => ⟨fun z => absurd z q, fun _ => j2 _ (h4 post hp)⟩⟩
def yc_p (s0 s : Nat → Int32) (n k : Nat) : Prop :=
  ∀ u v, (yv_T s0).1 u → (yv_T s0).1 v → u < v → v < n → u * n + v < k → yv_I s 633 u = yv_I s 633 v → (yv_T s0).2.1 u = (yv_T s0).2.1 v ∧ ∀ j, j < ma_ct ((yv_T s0).2.1 u).1 → yv_I s 633 ((yv_T s0).2.2 u j) = yv_I s 633 ((yv_T s0).2.2 v j)
theorem yc_p1 {s0 s : Nat → Int32} {n k : Nat} (h : yc_p s0 s n k) (hk : ∀ u v, (yv_T s0).1 u → (yv_T s0).1 v → u < v → u = k / n → v = k % n → yv_I s 633 u = yv_I s 633 v → (yv_T s0).2.1 u = (yv_T s0).2.1 v ∧ ∀ j, j < ma_ct ((yv_T s0).2.1 u).1 → yv_I s 633 ((yv_T s0).2.2 u j) = yv_I s 633 ((yv_T s0).2.2 v j)) : yc_p s0 s n (k + 1) := by
  intro u v hu hv lt vn lk e
  by_cases q : u * n + v < k
  · exact h u v hu hv lt vn q e
  · have e2 : u * n + v = k := by omega
    obtain ⟨d1, d2⟩ := dv_u (u := u) vn
    rw [e2] at d1 d2
    exact hk u v hu hv lt d1.symm d2.symm e
theorem yw_close_16 {g_trials g_drafted g_found : Int32} {b_s b_saved b_draft b_who b_met b_stack b_fresh b_deep : Nat → Int32} {b_alike b_meets : Nat → Int64} {L : Nat → Nat} {Q : Nat → Nat → Prop} {s0 : Nat → Int32} {n : Nat} (hn : n ≤ 48) (h0 : yv_H s0) (hT : ∀ c, (yv_T s0).1 c → yv_U s0 c ∧ ∀ k, k < ma_ct ((yv_T s0).2.1 c).1 → yv_U s0 ((yv_T s0).2.2 c k)) : ∀ d k (more : Int32) (b_s : Nat → Int32), k + d = n * n → yc_I L Q s0 b_s → (more = 0 ∨ more = 1) → (more = 0 → yc_p s0 b_s n k) →
    (∃ s' : Nat → Int32, ma_No (yv_U s0) L (yv_T s0) Q ∧ (∀ i, i < 633 → s' i = s0 i) ∧ ∀ (post : Int32 → SY → Prop) (J7 : Int32 → Int32 → Int32 → Int32 → (Nat → Int32) → (Nat → Int32) → (Nat → Int32) → (Nat → Int32) → (Nat → Int32) → (Nat → Int32) → (Nat → Int32) → (Nat → Int32) → (Nat → Int64) → (Nat → Int64) → Prop), post 0 (g_trials, g_drafted, g_found, s', b_saved, b_draft, b_who, b_met, b_stack, b_fresh, b_deep, b_alike, b_meets) → wY_close_16 post J7 (nI 633) (nI n) (d + 1) more (nI k) g_trials g_drafted g_found b_s b_saved b_draft b_who b_met b_stack b_fresh b_deep b_alike b_meets) ∨
    (∃ (more' : Int32) (s' : Nat → Int32), yc_I L Q s0 s' ∧ (more' = 0 ∨ more' = 1) ∧ (more' = 0 → yc_p s0 s' n (n * n)) ∧ yc_c s' ≤ yc_c b_s ∧ (more' = 1 → more = 1 ∨ yc_c s' < yc_c b_s) ∧ ∀ (post : Int32 → SY → Prop) (J7 : Int32 → Int32 → Int32 → Int32 → (Nat → Int32) → (Nat → Int32) → (Nat → Int32) → (Nat → Int32) → (Nat → Int32) → (Nat → Int32) → (Nat → Int32) → (Nat → Int32) → (Nat → Int64) → (Nat → Int64) → Prop), J7 more' g_trials g_drafted g_found s' b_saved b_draft b_who b_met b_stack b_fresh b_deep b_alike b_meets → wY_close_16 post J7 (nI 633) (nI n) (d + 1) more (nI k) g_trials g_drafted g_found b_s b_saved b_draft b_who b_met b_stack b_fresh b_deep b_alike b_meets) := by
  have nn : n * n ≤ 2304 := Nat.mul_le_mul hn hn
  have emul : nI n * nI n = nI (n * n) := pk_mul n n
  intro d
  induction d with
  | zero =>
    intro k more s hk hI hm hp
    refine Or.inr ⟨more, s, hI, hm, fun z => ?_, Nat.le_refl _, fun z => Or.inl z, fun post J7 hj => ?_⟩
    · rw [show n * n = k from by omega]; exact hp z
    · unfold wY_close_16
      rw [emul]
      simp (disch := omega) only [forall_eq, true_and, and_true, Nat.zero_add, nI_clamp, li_vin, nI_add, nI_eq, nI_leI, nI_ltI, li_0le, li_lt0, li_nn1, li_e0, not_true_eq_false, not_false_eq_true, false_implies, true_implies, forall_const, li_a0, li_b0, li_a1, li_b1, li_a2, li_b2, li_a3, li_b3, li_a7, li_b7, li_a8, li_b8, li_a16, li_b16, li_a48, li_b48, li_a584, li_b584, li_a572, li_b572, li_a96, li_b96, li_a144, li_b144, li_a192, li_b192, li_a240, li_b240, li_a336, li_b336, li_a384, li_b384, li_a432, li_b432, li_a480, li_b480, li_a488, li_b488, li_a496, li_b496, li_a504, li_b504, li_a512, li_b512, li_a520, li_b520, li_a524, li_b524, li_a528, li_b528, li_a536, li_b536, li_a544, li_b544, li_a552, li_b552, li_a560, li_b560, li_a568, li_b568, li_a573, li_b573, li_a585, li_b585, li_a633, li_b633, li_m3, li_n3, li_m4, li_n4, li_m48, li_n48, li_m50, li_n50, li_m585, li_n585, li_m633, li_n633, li_lt2, li_ge2, li_le2, li_gt2, li_lt1, li_ge1, li_le1, li_gt1, li_lt3, li_ge3, li_le3, li_gt3, li_lt4, li_ge4, li_le4, li_gt4, li_lt7, li_ge7, li_le7, li_gt7, li_lt8, li_ge8, li_le8, li_gt8, li_lt40, li_ge40, li_le40, li_gt40, li_lt240, li_ge240, li_le240, li_gt240, li_lt41, li_ge41, li_le41, li_gt41, li_lt48, li_ge48, li_le48, li_gt48, li_lt49, li_ge49, li_le49, li_gt49, li_lt60, li_ge60, li_le60, li_gt60, li_lt144, li_ge144, li_le144, li_gt144, li_lt145, li_ge145, li_le145, li_gt145, li_lt160, li_ge160, li_le160, li_gt160, li_lt336, li_ge336, li_le336, li_gt336, li_lt585, li_ge585, li_le585, li_gt585, li_lt633, li_ge633, li_le633, li_gt633, li_lt1000000, li_ge1000000, li_le1000000, li_gt1000000, li_lt2304, li_ge2304, li_le2304, li_gt2304, li_lt50, li_ge50, li_le50, li_gt50, li_le0, li_gt0]
      exact ⟨fun _ => hj, fun q => by omega⟩
  | succ d ih =>
    intro k more s hk hI hm hp
    obtain ⟨un, vn, n0, _⟩ := dv_k (n := n) (k := k) (by omega)
    have er : nI k - nI k / nI n * nI n = nI (k % n) := pk_rem (by omega) n0 (by omega)
    have ed : nI k / nI n = nI (k / n) := pk_div (by omega) n0 (by omega)
    have en : (nI n = 0) ↔ False := ⟨fun z => by have := (li_e0 (by omega)).mp z; omega, fun z => z.elim⟩
    generalize hu : k / n = u at *
    generalize hv : k % n = v at *
    have step : ∀ (more1 : Int32) (s1 : Nat → Int32), yc_I L Q s0 s1 → (more1 = 0 ∨ more1 = 1) → (more1 = 0 → yc_p s0 s1 n (k + 1)) → yc_c s1 ≤ yc_c s → (more1 = 1 → more = 1 ∨ yc_c s1 < yc_c s) → (∀ (post : Int32 → SY → Prop) (J7 : Int32 → Int32 → Int32 → Int32 → (Nat → Int32) → (Nat → Int32) → (Nat → Int32) → (Nat → Int32) → (Nat → Int32) → (Nat → Int32) → (Nat → Int32) → (Nat → Int32) → (Nat → Int64) → (Nat → Int64) → Prop), wY_close_16 post J7 (nI 633) (nI n) (d + 1) more1 (nI (k + 1)) g_trials g_drafted g_found s1 b_saved b_draft b_who b_met b_stack b_fresh b_deep b_alike b_meets → wY_close_16 post J7 (nI 633) (nI n) (d + 1 + 1) more (nI k) g_trials g_drafted g_found s b_saved b_draft b_who b_met b_stack b_fresh b_deep b_alike b_meets) →
      (∃ s' : Nat → Int32, ma_No (yv_U s0) L (yv_T s0) Q ∧ (∀ i, i < 633 → s' i = s0 i) ∧ ∀ (post : Int32 → SY → Prop) (J7 : Int32 → Int32 → Int32 → Int32 → (Nat → Int32) → (Nat → Int32) → (Nat → Int32) → (Nat → Int32) → (Nat → Int32) → (Nat → Int32) → (Nat → Int32) → (Nat → Int32) → (Nat → Int64) → (Nat → Int64) → Prop), post 0 (g_trials, g_drafted, g_found, s', b_saved, b_draft, b_who, b_met, b_stack, b_fresh, b_deep, b_alike, b_meets) → wY_close_16 post J7 (nI 633) (nI n) (d + 1 + 1) more (nI k) g_trials g_drafted g_found s b_saved b_draft b_who b_met b_stack b_fresh b_deep b_alike b_meets) ∨
      (∃ (more' : Int32) (s' : Nat → Int32), yc_I L Q s0 s' ∧ (more' = 0 ∨ more' = 1) ∧ (more' = 0 → yc_p s0 s' n (n * n)) ∧ yc_c s' ≤ yc_c s ∧ (more' = 1 → more = 1 ∨ yc_c s' < yc_c s) ∧ ∀ (post : Int32 → SY → Prop) (J7 : Int32 → Int32 → Int32 → Int32 → (Nat → Int32) → (Nat → Int32) → (Nat → Int32) → (Nat → Int32) → (Nat → Int32) → (Nat → Int32) → (Nat → Int32) → (Nat → Int32) → (Nat → Int64) → (Nat → Int64) → Prop), J7 more' g_trials g_drafted g_found s' b_saved b_draft b_who b_met b_stack b_fresh b_deep b_alike b_meets → wY_close_16 post J7 (nI 633) (nI n) (d + 1 + 1) more (nI k) g_trials g_drafted g_found s b_saved b_draft b_who b_met b_stack b_fresh b_deep b_alike b_meets) := by
      intro more1 s1 i1 i2 i3 i4 i5 hw
      rcases ih (k + 1) more1 s1 (by omega) i1 i2 i3 with ⟨s', a1, a2, a3⟩ | ⟨more', s', a1, a2, a3, a4, a5, a6⟩
      · exact Or.inl ⟨s', a1, a2, fun post J7 q => hw post J7 (a3 post J7 q)⟩
      · refine Or.inr ⟨more', s', a1, a2, a3, by omega, fun z => ?_, fun post J7 q => hw post J7 (a6 post J7 q)⟩
        rcases a5 z with z1 | z1
        · rcases i5 z1 with z2 | z2
          · exact Or.inl z2
          · exact Or.inr (by omega)
        · exact Or.inr (by omega)
    have skip : (¬ ((yv_T s0).1 u ∧ (yv_T s0).1 v ∧ u < v ∧ yv_I s 633 u = yv_I s 633 v)) → (more = 0 → yc_p s0 s n (k + 1)) := by
      intro z m0
      refine yc_p1 (hp m0) (fun u' v' a1 a2 a3 a4 a5 a6 => ?_)
      rw [hu] at a4
      rw [hv] at a5
      rw [a4, a5] at a3 a6
      rw [a4] at a1
      rw [a5] at a2
      exact absurd ⟨a1, a2, a3, a6⟩ z
    obtain ⟨iu1, iu2⟩ := yc_W hI u (by omega)
    obtain ⟨iv1, iv2⟩ := yc_W hI v (by omega)
    have low : ∀ i, i < 633 → s i = s0 i := hI.1
    have ku : s (48 + u) = s0 (48 + u) := low _ (by omega)
    have kv : s (48 + v) = s0 (48 + v) := low _ (by omega)
    by_cases q1 : v ≤ u
    · refine step more s hI hm (skip (fun z => by omega)) (Nat.le_refl _) (fun z => Or.inl z) (fun post J7 hj => ?_)
      rw [wY_close_16]
      dsimp only
      rw [er, emul, ed]
      simp (disch := omega) only [forall_eq, true_and, and_true, Nat.zero_add, nI_clamp, li_vin, nI_add, nI_eq, nI_leI, nI_ltI, li_0le, li_lt0, li_nn1, li_e0, not_true_eq_false, not_false_eq_true, false_implies, true_implies, forall_const, li_a0, li_b0, li_a1, li_b1, li_a2, li_b2, li_a3, li_b3, li_a7, li_b7, li_a8, li_b8, li_a16, li_b16, li_a48, li_b48, li_a584, li_b584, li_a572, li_b572, li_a96, li_b96, li_a144, li_b144, li_a192, li_b192, li_a240, li_b240, li_a336, li_b336, li_a384, li_b384, li_a432, li_b432, li_a480, li_b480, li_a488, li_b488, li_a496, li_b496, li_a504, li_b504, li_a512, li_b512, li_a520, li_b520, li_a524, li_b524, li_a528, li_b528, li_a536, li_b536, li_a544, li_b544, li_a552, li_b552, li_a560, li_b560, li_a568, li_b568, li_a573, li_b573, li_a585, li_b585, li_a633, li_b633, li_m3, li_n3, li_m4, li_n4, li_m48, li_n48, li_m50, li_n50, li_m585, li_n585, li_m633, li_n633, li_lt2, li_ge2, li_le2, li_gt2, li_lt1, li_ge1, li_le1, li_gt1, li_lt3, li_ge3, li_le3, li_gt3, li_lt4, li_ge4, li_le4, li_gt4, li_lt7, li_ge7, li_le7, li_gt7, li_lt8, li_ge8, li_le8, li_gt8, li_lt40, li_ge40, li_le40, li_gt40, li_lt240, li_ge240, li_le240, li_gt240, li_lt41, li_ge41, li_le41, li_gt41, li_lt48, li_ge48, li_le48, li_gt48, li_lt49, li_ge49, li_le49, li_gt49, li_lt60, li_ge60, li_le60, li_gt60, li_lt144, li_ge144, li_le144, li_gt144, li_lt145, li_ge145, li_le145, li_gt145, li_lt160, li_ge160, li_le160, li_gt160, li_lt336, li_ge336, li_le336, li_gt336, li_lt585, li_ge585, li_le585, li_gt585, li_lt633, li_ge633, li_le633, li_gt633, li_lt1000000, li_ge1000000, li_le1000000, li_gt1000000, li_lt2304, li_ge2304, li_le2304, li_gt2304, li_lt50, li_ge50, li_le50, li_gt50, li_le0, li_gt0, en]
      exact ⟨fun q => by omega, fun _ => ⟨fun _ => hj, fun z => absurd q1 z⟩⟩
    · by_cases q2 : yv_I s 633 u = yv_I s 633 v
      · by_cases q3 : s0 (48 + u) = 0
        · refine step more s hI hm (skip (fun z => (yv_T1 z.1).2 q3)) (Nat.le_refl _) (fun z => Or.inl z) (fun post J7 hj => ?_)
          rw [wY_close_16]
          dsimp only
          rw [er, emul, ed]
          simp (disch := omega) only [forall_eq, true_and, and_true, Nat.zero_add, nI_clamp, li_vin, nI_add, nI_eq, nI_leI, nI_ltI, li_0le, li_lt0, li_nn1, li_e0, not_true_eq_false, not_false_eq_true, false_implies, true_implies, forall_const, li_a0, li_b0, li_a1, li_b1, li_a2, li_b2, li_a3, li_b3, li_a7, li_b7, li_a8, li_b8, li_a16, li_b16, li_a48, li_b48, li_a584, li_b584, li_a572, li_b572, li_a96, li_b96, li_a144, li_b144, li_a192, li_b192, li_a240, li_b240, li_a336, li_b336, li_a384, li_b384, li_a432, li_b432, li_a480, li_b480, li_a488, li_b488, li_a496, li_b496, li_a504, li_b504, li_a512, li_b512, li_a520, li_b520, li_a524, li_b524, li_a528, li_b528, li_a536, li_b536, li_a544, li_b544, li_a552, li_b552, li_a560, li_b560, li_a568, li_b568, li_a573, li_b573, li_a585, li_b585, li_a633, li_b633, li_m3, li_n3, li_m4, li_n4, li_m48, li_n48, li_m50, li_n50, li_m585, li_n585, li_m633, li_n633, li_lt2, li_ge2, li_le2, li_gt2, li_lt1, li_ge1, li_le1, li_gt1, li_lt3, li_ge3, li_le3, li_gt3, li_lt4, li_ge4, li_le4, li_gt4, li_lt7, li_ge7, li_le7, li_gt7, li_lt8, li_ge8, li_le8, li_gt8, li_lt40, li_ge40, li_le40, li_gt40, li_lt240, li_ge240, li_le240, li_gt240, li_lt41, li_ge41, li_le41, li_gt41, li_lt48, li_ge48, li_le48, li_gt48, li_lt49, li_ge49, li_le49, li_gt49, li_lt60, li_ge60, li_le60, li_gt60, li_lt144, li_ge144, li_le144, li_gt144, li_lt145, li_ge145, li_le145, li_gt145, li_lt160, li_ge160, li_le160, li_gt160, li_lt336, li_ge336, li_le336, li_gt336, li_lt585, li_ge585, li_le585, li_gt585, li_lt633, li_ge633, li_le633, li_gt633, li_lt1000000, li_ge1000000, li_le1000000, li_gt1000000, li_lt2304, li_ge2304, li_le2304, li_gt2304, li_lt50, li_ge50, li_le50, li_gt50, li_le0, li_gt0, en, iu1, iv1, ku, kv]
          exact ⟨fun q => by omega, fun _ => ⟨fun z => absurd z q1, fun _ => ⟨fun _ => ⟨fun _ => hj, fun z => absurd q3 z⟩, fun z => absurd q2 z⟩⟩⟩
        · by_cases q4 : s0 (48 + v) = 0
          · refine step more s hI hm (skip (fun z => (yv_T1 z.2.1).2 q4)) (Nat.le_refl _) (fun z => Or.inl z) (fun post J7 hj => ?_)
            rw [wY_close_16]
            dsimp only
            rw [er, emul, ed]
            simp (disch := omega) only [forall_eq, true_and, and_true, Nat.zero_add, nI_clamp, li_vin, nI_add, nI_eq, nI_leI, nI_ltI, li_0le, li_lt0, li_nn1, li_e0, not_true_eq_false, not_false_eq_true, false_implies, true_implies, forall_const, li_a0, li_b0, li_a1, li_b1, li_a2, li_b2, li_a3, li_b3, li_a7, li_b7, li_a8, li_b8, li_a16, li_b16, li_a48, li_b48, li_a584, li_b584, li_a572, li_b572, li_a96, li_b96, li_a144, li_b144, li_a192, li_b192, li_a240, li_b240, li_a336, li_b336, li_a384, li_b384, li_a432, li_b432, li_a480, li_b480, li_a488, li_b488, li_a496, li_b496, li_a504, li_b504, li_a512, li_b512, li_a520, li_b520, li_a524, li_b524, li_a528, li_b528, li_a536, li_b536, li_a544, li_b544, li_a552, li_b552, li_a560, li_b560, li_a568, li_b568, li_a573, li_b573, li_a585, li_b585, li_a633, li_b633, li_m3, li_n3, li_m4, li_n4, li_m48, li_n48, li_m50, li_n50, li_m585, li_n585, li_m633, li_n633, li_lt2, li_ge2, li_le2, li_gt2, li_lt1, li_ge1, li_le1, li_gt1, li_lt3, li_ge3, li_le3, li_gt3, li_lt4, li_ge4, li_le4, li_gt4, li_lt7, li_ge7, li_le7, li_gt7, li_lt8, li_ge8, li_le8, li_gt8, li_lt40, li_ge40, li_le40, li_gt40, li_lt240, li_ge240, li_le240, li_gt240, li_lt41, li_ge41, li_le41, li_gt41, li_lt48, li_ge48, li_le48, li_gt48, li_lt49, li_ge49, li_le49, li_gt49, li_lt60, li_ge60, li_le60, li_gt60, li_lt144, li_ge144, li_le144, li_gt144, li_lt145, li_ge145, li_le145, li_gt145, li_lt160, li_ge160, li_le160, li_gt160, li_lt336, li_ge336, li_le336, li_gt336, li_lt585, li_ge585, li_le585, li_gt585, li_lt633, li_ge633, li_le633, li_gt633, li_lt1000000, li_ge1000000, li_le1000000, li_gt1000000, li_lt2304, li_ge2304, li_le2304, li_gt2304, li_lt50, li_ge50, li_le50, li_gt50, li_le0, li_gt0, en, iu1, iv1, ku, kv]
            exact ⟨fun q => by omega, fun _ => ⟨fun z => absurd z q1, fun _ => ⟨fun _ => ⟨fun z => absurd z q3, fun _ => ⟨fun _ => hj, fun z => absurd q4 z⟩⟩, fun z => absurd q2 z⟩⟩⟩
          · have tu : (yv_T s0).1 u := by
              rcases h0.2.1 u (by omega) with z | z
              · exact ⟨⟨by omega, z⟩, q3⟩
              · exact absurd z.2.2 q3
            have tv : (yv_T s0).1 v := by
              rcases h0.2.1 v (by omega) with z | z
              · exact ⟨⟨by omega, z⟩, q4⟩
              · exact absurd z.2.2 q4
            have eT : yv_T s = yv_T s0 := yv_congrT (fun i _ hi => low i (by omega))
            have hs : yv_H s := yv_congrH (fun i hi => low i (by omega)) h0
            have wo := yw_isOther (g_trials := g_trials) (g_drafted := g_drafted) (g_found := g_found) (b_s := s) (b_saved := b_saved) (b_draft := b_draft) (b_who := b_who) (b_met := b_met) (b_stack := b_stack) (b_fresh := b_fresh) (b_deep := b_deep) (b_alike := b_alike) (b_meets := b_meets) hs (u := u) (v := v) (by omega) (by omega) (by rw [ku]; exact q3) (by rw [kv]; exact q4)
            rw [eT] at wo
            by_cases q5 : (yv_T s0).2.1 u = (yv_T s0).2.1 v
            · obtain ⟨any', s1, b1, b2, b3, b4⟩ := yw_joinParts_6 (g_trials := g_trials) (g_drafted := g_drafted) (g_found := g_found) (b_s := b_s) (b_saved := b_saved) (b_draft := b_draft) (b_who := b_who) (b_met := b_met) (b_stack := b_stack) (b_fresh := b_fresh) (b_deep := b_deep) (b_alike := b_alike) (b_meets := b_meets) (L := L) (Q := Q) h0 hT tu tv q5 (ma_ct ((yv_T s0).2.1 u).1) 0 0 s (by omega) hI q2 (Or.inl rfl)
              have or01 : (more ||| any' = 0 ∧ more = 0 ∧ any' = 0) ∨ (more ||| any' = 1 ∧ (more = 1 ∨ any' = 1)) := by
                rcases hm with z | z <;> rcases b2 with w | w <;> rw [z, w]
                · exact Or.inl ⟨by decide, rfl, rfl⟩
                · exact Or.inr ⟨by decide, Or.inr rfl⟩
                · exact Or.inr ⟨by decide, Or.inl rfl⟩
                · exact Or.inr ⟨by decide, Or.inl rfl⟩
              refine step (more ||| any') s1 b1 ?_ ?_ ?_ ?_ (fun post J7 hj => ?_)
              · rcases or01 with z | z
                · exact Or.inl z.1
                · exact Or.inr z.1
              · intro m0
                rcases or01 with z | z
                · rcases b3 with ⟨c1, c2, c3⟩ | ⟨c1, c2⟩
                  · rw [c2]
                    refine yc_p1 (hp z.2.1) (fun u' v' a1 a2 a3 a4 a5 a6 => ?_)
                    rw [hu] at a4
                    rw [hv] at a5
                    rw [a4, a5]
                    exact ⟨q5, fun j hj => c3 j (by omega) hj⟩
                  · rw [c1] at z
                    exact absurd z.2.2 (by decide)
                · rw [z.1] at m0
                  exact absurd m0 (by decide)
              · rcases b3 with ⟨c1, c2, c3⟩ | ⟨c1, c2⟩
                · rw [c2]; exact Nat.le_refl _
                · omega
              · intro m1
                rcases b3 with ⟨c1, c2, c3⟩ | ⟨c1, c2⟩
                · rcases or01 with z | z
                  · rw [z.1] at m1
                    exact absurd m1 (by decide)
                  · rcases z.2 with z | z
                    · exact Or.inl z
                    · rw [c1] at z
                      exact absurd z (by decide)
                · exact Or.inr c2
              · rw [wY_close_16]
                dsimp only
                rw [er, emul, ed]
                simp (disch := omega) only [forall_eq, true_and, and_true, Nat.zero_add, nI_clamp, li_vin, nI_add, nI_eq, nI_leI, nI_ltI, li_0le, li_lt0, li_nn1, li_e0, not_true_eq_false, not_false_eq_true, false_implies, true_implies, forall_const, li_a0, li_b0, li_a1, li_b1, li_a2, li_b2, li_a3, li_b3, li_a7, li_b7, li_a8, li_b8, li_a16, li_b16, li_a48, li_b48, li_a584, li_b584, li_a572, li_b572, li_a96, li_b96, li_a144, li_b144, li_a192, li_b192, li_a240, li_b240, li_a336, li_b336, li_a384, li_b384, li_a432, li_b432, li_a480, li_b480, li_a488, li_b488, li_a496, li_b496, li_a504, li_b504, li_a512, li_b512, li_a520, li_b520, li_a524, li_b524, li_a528, li_b528, li_a536, li_b536, li_a544, li_b544, li_a552, li_b552, li_a560, li_b560, li_a568, li_b568, li_a573, li_b573, li_a585, li_b585, li_a633, li_b633, li_m3, li_n3, li_m4, li_n4, li_m48, li_n48, li_m50, li_n50, li_m585, li_n585, li_m633, li_n633, li_lt2, li_ge2, li_le2, li_gt2, li_lt1, li_ge1, li_le1, li_gt1, li_lt3, li_ge3, li_le3, li_gt3, li_lt4, li_ge4, li_le4, li_gt4, li_lt7, li_ge7, li_le7, li_gt7, li_lt8, li_ge8, li_le8, li_gt8, li_lt40, li_ge40, li_le40, li_gt40, li_lt240, li_ge240, li_le240, li_gt240, li_lt41, li_ge41, li_le41, li_gt41, li_lt48, li_ge48, li_le48, li_gt48, li_lt49, li_ge49, li_le49, li_gt49, li_lt60, li_ge60, li_le60, li_gt60, li_lt144, li_ge144, li_le144, li_gt144, li_lt145, li_ge145, li_le145, li_gt145, li_lt160, li_ge160, li_le160, li_gt160, li_lt336, li_ge336, li_le336, li_gt336, li_lt585, li_ge585, li_le585, li_gt585, li_lt633, li_ge633, li_le633, li_gt633, li_lt1000000, li_ge1000000, li_le1000000, li_gt1000000, li_lt2304, li_ge2304, li_le2304, li_gt2304, li_lt50, li_ge50, li_le50, li_gt50, li_le0, li_gt0, en, iu1, iv1, ku, kv]
                refine ⟨fun q => by omega, fun _ => ⟨fun z => absurd z q1, fun _ => ⟨fun _ => ⟨fun z => absurd z q3, fun _ => ⟨fun z => absurd z q4, fun _ => ?_⟩⟩, fun z => absurd q2 z⟩⟩⟩
                refine wo _ (fun _ => br_t rfl ?_) (fun z => absurd q5 z)
                exact ⟨_, b4 _ hj⟩
            · refine Or.inl ⟨s, yc_no hI tu tv q2 q5, low, fun post J7 hpo => ?_⟩
              rw [wY_close_16]
              dsimp only
              rw [er, emul, ed]
              simp (disch := omega) only [forall_eq, true_and, and_true, Nat.zero_add, nI_clamp, li_vin, nI_add, nI_eq, nI_leI, nI_ltI, li_0le, li_lt0, li_nn1, li_e0, not_true_eq_false, not_false_eq_true, false_implies, true_implies, forall_const, li_a0, li_b0, li_a1, li_b1, li_a2, li_b2, li_a3, li_b3, li_a7, li_b7, li_a8, li_b8, li_a16, li_b16, li_a48, li_b48, li_a584, li_b584, li_a572, li_b572, li_a96, li_b96, li_a144, li_b144, li_a192, li_b192, li_a240, li_b240, li_a336, li_b336, li_a384, li_b384, li_a432, li_b432, li_a480, li_b480, li_a488, li_b488, li_a496, li_b496, li_a504, li_b504, li_a512, li_b512, li_a520, li_b520, li_a524, li_b524, li_a528, li_b528, li_a536, li_b536, li_a544, li_b544, li_a552, li_b552, li_a560, li_b560, li_a568, li_b568, li_a573, li_b573, li_a585, li_b585, li_a633, li_b633, li_m3, li_n3, li_m4, li_n4, li_m48, li_n48, li_m50, li_n50, li_m585, li_n585, li_m633, li_n633, li_lt2, li_ge2, li_le2, li_gt2, li_lt1, li_ge1, li_le1, li_gt1, li_lt3, li_ge3, li_le3, li_gt3, li_lt4, li_ge4, li_le4, li_gt4, li_lt7, li_ge7, li_le7, li_gt7, li_lt8, li_ge8, li_le8, li_gt8, li_lt40, li_ge40, li_le40, li_gt40, li_lt240, li_ge240, li_le240, li_gt240, li_lt41, li_ge41, li_le41, li_gt41, li_lt48, li_ge48, li_le48, li_gt48, li_lt49, li_ge49, li_le49, li_gt49, li_lt60, li_ge60, li_le60, li_gt60, li_lt144, li_ge144, li_le144, li_gt144, li_lt145, li_ge145, li_le145, li_gt145, li_lt160, li_ge160, li_le160, li_gt160, li_lt336, li_ge336, li_le336, li_gt336, li_lt585, li_ge585, li_le585, li_gt585, li_lt633, li_ge633, li_le633, li_gt633, li_lt1000000, li_ge1000000, li_le1000000, li_gt1000000, li_lt2304, li_ge2304, li_le2304, li_gt2304, li_lt50, li_ge50, li_le50, li_gt50, li_le0, li_gt0, en, iu1, iv1, ku, kv]
              refine ⟨fun q => by omega, fun _ => ⟨fun z => absurd z q1, fun _ => ⟨fun _ => ⟨fun z => absurd z q3, fun _ => ⟨fun z => absurd z q4, fun _ => ?_⟩⟩, fun z => absurd q2 z⟩⟩⟩
              exact wo _ (fun z => absurd z q5) (fun _ => br_f (by decide) hpo)
      · refine step more s hI hm (skip (fun z => q2 z.2.2.2)) (Nat.le_refl _) (fun z => Or.inl z) (fun post J7 hj => ?_)
        rw [wY_close_16]
        dsimp only
        rw [er, emul, ed]
        simp (disch := omega) only [forall_eq, true_and, and_true, Nat.zero_add, nI_clamp, li_vin, nI_add, nI_eq, nI_leI, nI_ltI, li_0le, li_lt0, li_nn1, li_e0, not_true_eq_false, not_false_eq_true, false_implies, true_implies, forall_const, li_a0, li_b0, li_a1, li_b1, li_a2, li_b2, li_a3, li_b3, li_a7, li_b7, li_a8, li_b8, li_a16, li_b16, li_a48, li_b48, li_a584, li_b584, li_a572, li_b572, li_a96, li_b96, li_a144, li_b144, li_a192, li_b192, li_a240, li_b240, li_a336, li_b336, li_a384, li_b384, li_a432, li_b432, li_a480, li_b480, li_a488, li_b488, li_a496, li_b496, li_a504, li_b504, li_a512, li_b512, li_a520, li_b520, li_a524, li_b524, li_a528, li_b528, li_a536, li_b536, li_a544, li_b544, li_a552, li_b552, li_a560, li_b560, li_a568, li_b568, li_a573, li_b573, li_a585, li_b585, li_a633, li_b633, li_m3, li_n3, li_m4, li_n4, li_m48, li_n48, li_m50, li_n50, li_m585, li_n585, li_m633, li_n633, li_lt2, li_ge2, li_le2, li_gt2, li_lt1, li_ge1, li_le1, li_gt1, li_lt3, li_ge3, li_le3, li_gt3, li_lt4, li_ge4, li_le4, li_gt4, li_lt7, li_ge7, li_le7, li_gt7, li_lt8, li_ge8, li_le8, li_gt8, li_lt40, li_ge40, li_le40, li_gt40, li_lt240, li_ge240, li_le240, li_gt240, li_lt41, li_ge41, li_le41, li_gt41, li_lt48, li_ge48, li_le48, li_gt48, li_lt49, li_ge49, li_le49, li_gt49, li_lt60, li_ge60, li_le60, li_gt60, li_lt144, li_ge144, li_le144, li_gt144, li_lt145, li_ge145, li_le145, li_gt145, li_lt160, li_ge160, li_le160, li_gt160, li_lt336, li_ge336, li_le336, li_gt336, li_lt585, li_ge585, li_le585, li_gt585, li_lt633, li_ge633, li_le633, li_gt633, li_lt1000000, li_ge1000000, li_le1000000, li_gt1000000, li_lt2304, li_ge2304, li_le2304, li_gt2304, li_lt50, li_ge50, li_le50, li_gt50, li_le0, li_gt0, en, iu1, iv1, ku, kv]
        exact ⟨fun q => by omega, fun _ => ⟨fun z => absurd z q1, fun _ => ⟨fun z => absurd z q2, fun _ => hj⟩⟩⟩
