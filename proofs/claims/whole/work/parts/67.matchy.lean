def my_I (a : Nat → Int32) (x y : Nat) (mb : Nat → Int64) : Prop :=
  (∀ u, u < 48 → ∀ i, i < 64 → by_b (mb u) i = true → i < 48 ∧ mt_M (xv_L a) (xv_T a) x y u i) ∧ by_b (mb (xv_L a x)) (xv_L a y) = true
theorem my_b {mb : Nat → Int64} {p q : Nat} (hq : q < 48) (u i : Nat) : by_b (vp_updL mb p (mb p ||| ((1 : Int64) <<< ((nI q).toInt64 &&& 63))) u) i = (by_b (mb u) i || decide (u = p ∧ q = i)) := by
  by_cases e : u = p
  · rw [e, pk_uLs, by_or, by_shl (by omega)]
    congr 1
    apply decide_eq_decide.mpr
    exact ⟨fun z => ⟨rfl, z⟩, fun z => z.2⟩
  · rw [pk_uLn e, decide_eq_false (fun z => e z.1), Bool.or_false]
theorem my_set {a : Nat → Int32} {x y p q : Nat} {mb : Nat → Int64} (hq : q < 48) (h : my_I a x y mb) (hM : mt_M (xv_L a) (xv_T a) x y p q) : my_I a x y (vp_updL mb p (mb p ||| ((1 : Int64) <<< ((nI q).toInt64 &&& 63)))) := by
  constructor
  · intro u hu i hi hb
    rw [my_b hq] at hb
    rcases Bool.or_eq_true_iff.mp hb with z | z
    · exact h.1 u hu i hi z
    · obtain ⟨e1, e2⟩ := of_decide_eq_true z
      rw [e1, ← e2]; exact ⟨hq, hM⟩
  · rw [my_b hq, h.2]; rfl
theorem my_same {mb : Nat → Int64} {p q : Nat} (hq : q < 48) (hb : by_b (mb p) q = true) : vp_updL mb p (mb p ||| ((1 : Int64) <<< ((nI q).toInt64 &&& 63))) = mb := by
  funext u
  apply by_ext
  intro i hi
  rw [my_b hq]
  by_cases z : u = p ∧ q = i
  · rw [z.1, ← z.2, hb]; rfl
  · rw [decide_eq_false z, Bool.or_false]
theorem my_lt {mb : Nat → Int64} {p q : Nat} (hp : p < 48) (hq : q < 48) (hb : by_b (mb p) q = false) : rl_c mb < rl_c (vp_updL mb p (mb p ||| ((1 : Int64) <<< ((nI q).toInt64 &&& 63)))) := by
  refine ma_cnt_lt 2304 ?_ ⟨p * 48 + q, by omega, ?_, ?_⟩
  · intro k _ h
    show by_b (vp_updL mb p _ (k / 48)) (k % 48) = true
    rw [my_b hq, show by_b (mb (k / 48)) (k % 48) = true from h]; rfl
  · show by_b (vp_updL mb p _ ((p * 48 + q) / 48)) ((p * 48 + q) % 48) = true
    rw [show (p * 48 + q) / 48 = p from by omega, show (p * 48 + q) % 48 = q from by omega, my_b hq, decide_eq_true ⟨rfl, rfl⟩, Bool.or_true]
  · show ¬ by_b (mb ((p * 48 + q) / 48)) ((p * 48 + q) % 48) = true
    rw [show (p * 48 + q) / 48 = p from by omega, show (p * 48 + q) % 48 = q from by omega, hb]
    decide
theorem yw_meetParts {g_trials g_drafted g_found : Int32} {b_s b_saved b_draft b_who b_met b_stack b_fresh b_deep : Nat → Int32} {b_alike b_meets : Nat → Int64} {B x y u v w1 w2 : Nat} {a : Nat → Int32} (hr : re_P B a b_s) (t1 : (yv_T b_s).1 w1) (l1 : xv_L a w1 = u) (t2 : (yv_T b_s).1 w2) (l2 : xv_L a w2 = v) (tu : (xv_T a).1 u) (tv : (xv_T a).1 v) (es : (xv_T a).2.1 u = (xv_T a).2.1 v) (hM : mt_M (xv_L a) (xv_T a) x y u v) : ∀ d j (any : Int32) (b_meets : Nat → Int64), j + d = ma_ct (xv_K a u) → my_I a x y b_meets → (any = 0 ∨ any = 1) → ∃ (any' : Int32) (mb : Nat → Int64), my_I a x y mb ∧ (any' = 0 ∨ any' = 1) ∧ (∀ p i, by_b (b_meets p) i = true → by_b (mb p) i = true) ∧ (∀ k, j ≤ k → k < ma_ct (xv_K a u) → by_b (mb (xv_L a (xv_P a u k))) (xv_L a (xv_P a v k)) = true) ∧ ((any' = any ∧ mb = b_meets) ∨ (any' = 1 ∧ rl_c b_meets < rl_c mb)) ∧ ∀ post : Int32 → SY → Prop, post any' (g_trials, g_drafted, g_found, b_s, b_saved, b_draft, b_who, b_met, b_stack, b_fresh, b_deep, b_alike, mb) → wY_meetParts_5 post (nI w1) (nI w2) g_trials g_drafted g_found (d + 1) any (nI j) b_s b_saved b_draft b_who b_met b_stack b_fresh b_deep b_alike b_meets := by
  obtain ⟨w148, _, _, _, yc, yp1⟩ := yr_xy hr t1 l1
  obtain ⟨w248, _, _, _, _, yp2⟩ := yr_xy hr t2 l2
  have ct3 := ma_ct_le (xv_K a u)
  have ek : xv_K a u = xv_K a v := congrArg Prod.fst es
  intro d
  induction d with
  | zero =>
    intro j any mb hj hI ha
    refine ⟨any, mb, hI, ha, fun _ _ h => h, fun k h1 h2 => by omega, Or.inl ⟨rfl, rfl⟩, fun post hp => ?_⟩
    unfold wY_meetParts_5
    simp (disch := omega) only [forall_eq, true_and, and_true, Nat.zero_add, nI_clamp, li_vin, nI_add, nI_eq, nI_leI, nI_ltI, li_0le, li_lt0, li_nn1, li_e0, not_true_eq_false, not_false_eq_true, false_implies, true_implies, forall_const, li_a0, li_b0, li_a1, li_b1, li_a2, li_b2, li_a3, li_b3, li_a7, li_b7, li_a8, li_b8, li_a16, li_b16, li_a48, li_b48, li_a584, li_b584, li_a572, li_b572, li_a96, li_b96, li_a144, li_b144, li_a192, li_b192, li_a240, li_b240, li_a336, li_b336, li_a384, li_b384, li_a432, li_b432, li_a480, li_b480, li_a488, li_b488, li_a496, li_b496, li_a504, li_b504, li_a512, li_b512, li_a520, li_b520, li_a524, li_b524, li_a528, li_b528, li_a536, li_b536, li_a544, li_b544, li_a552, li_b552, li_a560, li_b560, li_a568, li_b568, li_a573, li_b573, li_a585, li_b585, li_a633, li_b633, li_m3, li_n3, li_m4, li_n4, li_m48, li_n48, li_m50, li_n50, li_m585, li_n585, li_m633, li_n633, li_lt2, li_ge2, li_le2, li_gt2, li_lt1, li_ge1, li_le1, li_gt1, li_lt3, li_ge3, li_le3, li_gt3, li_lt4, li_ge4, li_le4, li_gt4, li_lt7, li_ge7, li_le7, li_gt7, li_lt8, li_ge8, li_le8, li_gt8, li_lt40, li_ge40, li_le40, li_gt40, li_lt240, li_ge240, li_le240, li_gt240, li_lt41, li_ge41, li_le41, li_gt41, li_lt48, li_ge48, li_le48, li_gt48, li_lt49, li_ge49, li_le49, li_gt49, li_lt60, li_ge60, li_le60, li_gt60, li_lt144, li_ge144, li_le144, li_gt144, li_lt145, li_ge145, li_le145, li_gt145, li_lt160, li_ge160, li_le160, li_gt160, li_lt336, li_ge336, li_le336, li_gt336, li_lt585, li_ge585, li_le585, li_gt585, li_lt633, li_ge633, li_le633, li_gt633, li_lt1000000, li_ge1000000, li_le1000000, li_gt1000000, li_lt2304, li_ge2304, li_le2304, li_gt2304, li_lt50, li_ge50, li_le50, li_gt50, li_le0, li_gt0, yc]
    refine ⟨fun _ => ⟨?_, hp⟩, fun q => by omega⟩
    rcases ha with z | z
    · rw [z]; exact nb_0
    · rw [z]; exact nb_1
  | succ d ih =>
    intro j any mb hj hI ha
    obtain ⟨q1, e1, u1, f1⟩ := yp1 j (by omega)
    obtain ⟨q2, e2, u2, f2⟩ := yp2 j (by rw [← ek]; omega)
    have q148 := u1.1
    have q248 := u2.1
    obtain ⟨g1, b1⟩ := re_Ls hr u1
    obtain ⟨g2, b2⟩ := re_Ls hr u2
    rw [f1] at g1 b1
    rw [f2] at g2 b2
    have hM' : mt_M (xv_L a) (xv_T a) x y (xv_L a (xv_P a u j)) (xv_L a (xv_P a v j)) := mt_s hM tu tv es (by show j < ma_ct (xv_K a u); omega)
    have o1 : ∀ z : Int32, any ||| z = if z = 1 then 1 else any ||| z := by
      intro z
      by_cases q : z = 1
      · rw [if_pos q, q]
        rcases ha with h | h <;> rw [h] <;> decide
      · rw [if_neg q]
    have or1 : any ||| 1 = 1 := by
      rcases ha with h | h <;> rw [h] <;> decide
    have or0 : any ||| 0 = any := by
      rcases ha with h | h <;> rw [h] <;> decide
    have hI' := my_set b2 hI hM'
    have mono : ∀ p i, by_b (mb p) i = true → by_b (vp_updL mb (xv_L a (xv_P a u j)) (mb (xv_L a (xv_P a u j)) ||| ((1 : Int64) <<< ((nI (xv_L a (xv_P a v j))).toInt64 &&& 63))) p) i = true := by
      intro p i h
      rw [my_b b2, h]; rfl
    have set1 : by_b (vp_updL mb (xv_L a (xv_P a u j)) (mb (xv_L a (xv_P a u j)) ||| ((1 : Int64) <<< ((nI (xv_L a (xv_P a v j))).toInt64 &&& 63))) (xv_L a (xv_P a u j))) (xv_L a (xv_P a v j)) = true := by
      rw [my_b b2, decide_eq_true ⟨rfl, rfl⟩, Bool.or_true]
    have is0 := by_is0 (mb (xv_L a (xv_P a u j))) (k := xv_L a (xv_P a v j)) (by omega)
    by_cases bit : by_b (mb (xv_L a (xv_P a u j))) (xv_L a (xv_P a v j)) = true
    · have same := my_same b2 bit
      obtain ⟨any', mb', h1, h2, h3, h4, h5, h6⟩ := ih (j + 1) any mb (by omega) hI ha
      refine ⟨any', mb', h1, h2, h3, fun k k1 k2 => ?_, h5, fun post hp => ?_⟩
      · by_cases e : k = j
        · rw [e]; exact h3 _ _ bit
        · exact h4 k (by omega) k2
      · unfold wY_meetParts_5
        simp (disch := omega) only [forall_eq, true_and, and_true, Nat.zero_add, nI_clamp, li_vin, nI_add, nI_eq, nI_leI, nI_ltI, li_0le, li_lt0, li_nn1, li_e0, not_true_eq_false, not_false_eq_true, false_implies, true_implies, forall_const, li_a0, li_b0, li_a1, li_b1, li_a2, li_b2, li_a3, li_b3, li_a7, li_b7, li_a8, li_b8, li_a16, li_b16, li_a48, li_b48, li_a584, li_b584, li_a572, li_b572, li_a96, li_b96, li_a144, li_b144, li_a192, li_b192, li_a240, li_b240, li_a336, li_b336, li_a384, li_b384, li_a432, li_b432, li_a480, li_b480, li_a488, li_b488, li_a496, li_b496, li_a504, li_b504, li_a512, li_b512, li_a520, li_b520, li_a524, li_b524, li_a528, li_b528, li_a536, li_b536, li_a544, li_b544, li_a552, li_b552, li_a560, li_b560, li_a568, li_b568, li_a573, li_b573, li_a585, li_b585, li_a633, li_b633, li_m3, li_n3, li_m4, li_n4, li_m48, li_n48, li_m50, li_n50, li_m585, li_n585, li_m633, li_n633, li_lt2, li_ge2, li_le2, li_gt2, li_lt1, li_ge1, li_le1, li_gt1, li_lt3, li_ge3, li_le3, li_gt3, li_lt4, li_ge4, li_le4, li_gt4, li_lt7, li_ge7, li_le7, li_gt7, li_lt8, li_ge8, li_le8, li_gt8, li_lt40, li_ge40, li_le40, li_gt40, li_lt240, li_ge240, li_le240, li_gt240, li_lt41, li_ge41, li_le41, li_gt41, li_lt48, li_ge48, li_le48, li_gt48, li_lt49, li_ge49, li_le49, li_gt49, li_lt60, li_ge60, li_le60, li_gt60, li_lt144, li_ge144, li_le144, li_gt144, li_lt145, li_ge145, li_le145, li_gt145, li_lt160, li_ge160, li_le160, li_gt160, li_lt336, li_ge336, li_le336, li_gt336, li_lt585, li_ge585, li_le585, li_gt585, li_lt633, li_ge633, li_le633, li_gt633, li_lt1000000, li_ge1000000, li_le1000000, li_gt1000000, li_lt2304, li_ge2304, li_le2304, li_gt2304, li_lt50, li_ge50, li_le50, li_gt50, li_le0, li_gt0, yc, e1, e2, g1, g2]
        refine ⟨fun q => by omega, fun _ => br_f (fun z => ?_) ?_⟩
        · rw [is0.mp z] at bit
          exact absurd bit (by decide)
        · unfold wY_meetParts_91
          simp (disch := omega) only [forall_eq, true_and, and_true, Nat.zero_add, nI_clamp, li_vin, nI_add, nI_eq, nI_leI, nI_ltI, li_0le, li_lt0, li_nn1, li_e0, not_true_eq_false, not_false_eq_true, false_implies, true_implies, forall_const, li_a0, li_b0, li_a1, li_b1, li_a2, li_b2, li_a3, li_b3, li_a7, li_b7, li_a8, li_b8, li_a16, li_b16, li_a48, li_b48, li_a584, li_b584, li_a572, li_b572, li_a96, li_b96, li_a144, li_b144, li_a192, li_b192, li_a240, li_b240, li_a336, li_b336, li_a384, li_b384, li_a432, li_b432, li_a480, li_b480, li_a488, li_b488, li_a496, li_b496, li_a504, li_b504, li_a512, li_b512, li_a520, li_b520, li_a524, li_b524, li_a528, li_b528, li_a536, li_b536, li_a544, li_b544, li_a552, li_b552, li_a560, li_b560, li_a568, li_b568, li_a573, li_b573, li_a585, li_b585, li_a633, li_b633, li_m3, li_n3, li_m4, li_n4, li_m48, li_n48, li_m50, li_n50, li_m585, li_n585, li_m633, li_n633, li_lt2, li_ge2, li_le2, li_gt2, li_lt1, li_ge1, li_le1, li_gt1, li_lt3, li_ge3, li_le3, li_gt3, li_lt4, li_ge4, li_le4, li_gt4, li_lt7, li_ge7, li_le7, li_gt7, li_lt8, li_ge8, li_le8, li_gt8, li_lt40, li_ge40, li_le40, li_gt40, li_lt240, li_ge240, li_le240, li_gt240, li_lt41, li_ge41, li_le41, li_gt41, li_lt48, li_ge48, li_le48, li_gt48, li_lt49, li_ge49, li_le49, li_gt49, li_lt60, li_ge60, li_le60, li_gt60, li_lt144, li_ge144, li_le144, li_gt144, li_lt145, li_ge145, li_le145, li_gt145, li_lt160, li_ge160, li_le160, li_gt160, li_lt336, li_ge336, li_le336, li_gt336, li_lt585, li_ge585, li_le585, li_gt585, li_lt633, li_ge633, li_le633, li_gt633, li_lt1000000, li_ge1000000, li_le1000000, li_gt1000000, li_lt2304, li_ge2304, li_le2304, li_gt2304, li_lt50, li_ge50, li_le50, li_gt50, li_le0, li_gt0, or0]
          rw [same]
          exact h6 post hp
    · have bit0 : by_b (mb (xv_L a (xv_P a u j))) (xv_L a (xv_P a v j)) = false := by
        cases h : by_b (mb (xv_L a (xv_P a u j))) (xv_L a (xv_P a v j))
        · rfl
        · exact absurd h bit
      have lt := my_lt (mb := mb) b1 b2 bit0
      obtain ⟨any', mb', h1, h2, h3, h4, h5, h6⟩ := ih (j + 1) 1 _ (by omega) hI' (Or.inr rfl)
      refine ⟨any', mb', h1, h2, fun p i h => h3 p i (mono p i h), fun k k1 k2 => ?_, ?_, fun post hp => ?_⟩
      · by_cases e : k = j
        · rw [e]; exact h3 _ _ set1
        · exact h4 k (by omega) k2
      · rcases h5 with ⟨z1, z2⟩ | ⟨z1, z2⟩
        · rw [z2]; exact Or.inr ⟨z1, lt⟩
        · exact Or.inr ⟨z1, by omega⟩
      · unfold wY_meetParts_5
        simp (disch := omega) only [forall_eq, true_and, and_true, Nat.zero_add, nI_clamp, li_vin, nI_add, nI_eq, nI_leI, nI_ltI, li_0le, li_lt0, li_nn1, li_e0, not_true_eq_false, not_false_eq_true, false_implies, true_implies, forall_const, li_a0, li_b0, li_a1, li_b1, li_a2, li_b2, li_a3, li_b3, li_a7, li_b7, li_a8, li_b8, li_a16, li_b16, li_a48, li_b48, li_a584, li_b584, li_a572, li_b572, li_a96, li_b96, li_a144, li_b144, li_a192, li_b192, li_a240, li_b240, li_a336, li_b336, li_a384, li_b384, li_a432, li_b432, li_a480, li_b480, li_a488, li_b488, li_a496, li_b496, li_a504, li_b504, li_a512, li_b512, li_a520, li_b520, li_a524, li_b524, li_a528, li_b528, li_a536, li_b536, li_a544, li_b544, li_a552, li_b552, li_a560, li_b560, li_a568, li_b568, li_a573, li_b573, li_a585, li_b585, li_a633, li_b633, li_m3, li_n3, li_m4, li_n4, li_m48, li_n48, li_m50, li_n50, li_m585, li_n585, li_m633, li_n633, li_lt2, li_ge2, li_le2, li_gt2, li_lt1, li_ge1, li_le1, li_gt1, li_lt3, li_ge3, li_le3, li_gt3, li_lt4, li_ge4, li_le4, li_gt4, li_lt7, li_ge7, li_le7, li_gt7, li_lt8, li_ge8, li_le8, li_gt8, li_lt40, li_ge40, li_le40, li_gt40, li_lt240, li_ge240, li_le240, li_gt240, li_lt41, li_ge41, li_le41, li_gt41, li_lt48, li_ge48, li_le48, li_gt48, li_lt49, li_ge49, li_le49, li_gt49, li_lt60, li_ge60, li_le60, li_gt60, li_lt144, li_ge144, li_le144, li_gt144, li_lt145, li_ge145, li_le145, li_gt145, li_lt160, li_ge160, li_le160, li_gt160, li_lt336, li_ge336, li_le336, li_gt336, li_lt585, li_ge585, li_le585, li_gt585, li_lt633, li_ge633, li_le633, li_gt633, li_lt1000000, li_ge1000000, li_le1000000, li_gt1000000, li_lt2304, li_ge2304, li_le2304, li_gt2304, li_lt50, li_ge50, li_le50, li_gt50, li_le0, li_gt0, yc, e1, e2, g1, g2]
        refine ⟨fun q => by omega, fun _ => br_t (is0.mpr bit0) ?_⟩
        unfold wY_meetParts_91
        simp (disch := omega) only [forall_eq, true_and, and_true, Nat.zero_add, nI_clamp, li_vin, nI_add, nI_eq, nI_leI, nI_ltI, li_0le, li_lt0, li_nn1, li_e0, not_true_eq_false, not_false_eq_true, false_implies, true_implies, forall_const, li_a0, li_b0, li_a1, li_b1, li_a2, li_b2, li_a3, li_b3, li_a7, li_b7, li_a8, li_b8, li_a16, li_b16, li_a48, li_b48, li_a584, li_b584, li_a572, li_b572, li_a96, li_b96, li_a144, li_b144, li_a192, li_b192, li_a240, li_b240, li_a336, li_b336, li_a384, li_b384, li_a432, li_b432, li_a480, li_b480, li_a488, li_b488, li_a496, li_b496, li_a504, li_b504, li_a512, li_b512, li_a520, li_b520, li_a524, li_b524, li_a528, li_b528, li_a536, li_b536, li_a544, li_b544, li_a552, li_b552, li_a560, li_b560, li_a568, li_b568, li_a573, li_b573, li_a585, li_b585, li_a633, li_b633, li_m3, li_n3, li_m4, li_n4, li_m48, li_n48, li_m50, li_n50, li_m585, li_n585, li_m633, li_n633, li_lt2, li_ge2, li_le2, li_gt2, li_lt1, li_ge1, li_le1, li_gt1, li_lt3, li_ge3, li_le3, li_gt3, li_lt4, li_ge4, li_le4, li_gt4, li_lt7, li_ge7, li_le7, li_gt7, li_lt8, li_ge8, li_le8, li_gt8, li_lt40, li_ge40, li_le40, li_gt40, li_lt240, li_ge240, li_le240, li_gt240, li_lt41, li_ge41, li_le41, li_gt41, li_lt48, li_ge48, li_le48, li_gt48, li_lt49, li_ge49, li_le49, li_gt49, li_lt60, li_ge60, li_le60, li_gt60, li_lt144, li_ge144, li_le144, li_gt144, li_lt145, li_ge145, li_le145, li_gt145, li_lt160, li_ge160, li_le160, li_gt160, li_lt336, li_ge336, li_le336, li_gt336, li_lt585, li_ge585, li_le585, li_gt585, li_lt633, li_ge633, li_le633, li_gt633, li_lt1000000, li_ge1000000, li_le1000000, li_gt1000000, li_lt2304, li_ge2304, li_le2304, li_gt2304, li_lt50, li_ge50, li_le50, li_gt50, li_le0, li_gt0, or1]
        exact h6 post hp
/-- the meetings that were gone through in this pass -/
def my_p (a : Nat → Int32) (mb : Nat → Int64) (n k : Nat) : Prop :=
  ∀ u v, u < n → v < n → u * n + v < k → by_b (mb u) v = true → (xv_T a).1 u → (xv_T a).1 v ∧ (xv_T a).2.1 u = (xv_T a).2.1 v ∧ ∀ j, j < ma_ct (xv_K a u) → by_b (mb (xv_L a (xv_P a u j))) (xv_L a (xv_P a v j)) = true
theorem my_p1 {a : Nat → Int32} {mb : Nat → Int64} {n k : Nat} (hp : my_p a mb n k) (hk : ∀ u v, u = k / n → v = k % n → by_b (mb u) v = true → (xv_T a).1 u → (xv_T a).1 v ∧ (xv_T a).2.1 u = (xv_T a).2.1 v ∧ ∀ j, j < ma_ct (xv_K a u) → by_b (mb (xv_L a (xv_P a u j))) (xv_L a (xv_P a v j)) = true) : my_p a mb n (k + 1) := by
  intro u v hu hv lk e
  by_cases q : u * n + v < k
  · exact hp u v hu hv q e
  · have e2 : u * n + v = k := by omega
    obtain ⟨d1, d2⟩ := dv_u (u := u) hv
    rw [e2] at d1 d2
    exact hk u v d1.symm d2.symm e
theorem yw_meetAll_63 {g_trials g_drafted g_found : Int32} {b_s b_saved b_draft b_who b_met b_stack b_fresh b_deep : Nat → Int32} {b_alike b_meets : Nat → Int64} {B x y n : Nat} {a : Nat → Int32} (hr : re_P B a b_s) (hR : yr_R a b_s b_who b_alike) (ux : xv_U a x) (uy : xv_U a y) (hn : n ≤ 48) : ∀ d k (more : Int32) (b_meets : Nat → Int64), k + d = n * n → my_I a x y b_meets → (more = 0 ∨ more = 1) → (more = 0 → my_p a b_meets n k) →
    (∃ mb : Nat → Int64, ¬ mt_G (xv_U a) (xv_L a) (xv_T a) x y ∧ ∀ (post : Int32 → SY → Prop) (J52 : Int32 → Int32 → Int32 → Int32 → (Nat → Int32) → (Nat → Int32) → (Nat → Int32) → (Nat → Int32) → (Nat → Int32) → (Nat → Int32) → (Nat → Int32) → (Nat → Int32) → (Nat → Int64) → (Nat → Int64) → Prop), post 0 (g_trials, g_drafted, g_found, b_s, b_saved, b_draft, b_who, b_met, b_stack, b_fresh, b_deep, b_alike, mb) → wY_meetAll_63 post J52 (nI n) (d + 1) more (nI k) g_trials g_drafted g_found b_s b_saved b_draft b_who b_met b_stack b_fresh b_deep b_alike b_meets) ∨
    (∃ (more' : Int32) (mb : Nat → Int64), my_I a x y mb ∧ (more' = 0 ∨ more' = 1) ∧ (more' = 0 → my_p a mb n (n * n)) ∧ rl_c b_meets ≤ rl_c mb ∧ (more' = 1 → more = 1 ∨ rl_c b_meets < rl_c mb) ∧ ∀ (post : Int32 → SY → Prop) (J52 : Int32 → Int32 → Int32 → Int32 → (Nat → Int32) → (Nat → Int32) → (Nat → Int32) → (Nat → Int32) → (Nat → Int32) → (Nat → Int32) → (Nat → Int32) → (Nat → Int32) → (Nat → Int64) → (Nat → Int64) → Prop), J52 more' g_trials g_drafted g_found b_s b_saved b_draft b_who b_met b_stack b_fresh b_deep b_alike mb → wY_meetAll_63 post J52 (nI n) (d + 1) more (nI k) g_trials g_drafted g_found b_s b_saved b_draft b_who b_met b_stack b_fresh b_deep b_alike b_meets) := by
  have g := re_G hr
  have nn : n * n ≤ 2304 := Nat.mul_le_mul hn hn
  have emul : nI n * nI n = nI (n * n) := pk_mul n n
  obtain ⟨n0', n1', n2', n3'⟩ := hR.1
  intro d
  induction d with
  | zero =>
    intro k more mb hk hI hm hp
    refine Or.inr ⟨more, mb, hI, hm, fun z => ?_, Nat.le_refl _, fun z => Or.inl z, fun post J hj => ?_⟩
    · rw [show n * n = k from by omega]; exact hp z
    · unfold wY_meetAll_63
      rw [emul]
      simp (disch := omega) only [forall_eq, true_and, and_true, Nat.zero_add, nI_clamp, li_vin, nI_add, nI_eq, nI_leI, nI_ltI, li_0le, li_lt0, li_nn1, li_e0, not_true_eq_false, not_false_eq_true, false_implies, true_implies, forall_const, li_a0, li_b0, li_a1, li_b1, li_a2, li_b2, li_a3, li_b3, li_a7, li_b7, li_a8, li_b8, li_a16, li_b16, li_a48, li_b48, li_a584, li_b584, li_a572, li_b572, li_a96, li_b96, li_a144, li_b144, li_a192, li_b192, li_a240, li_b240, li_a336, li_b336, li_a384, li_b384, li_a432, li_b432, li_a480, li_b480, li_a488, li_b488, li_a496, li_b496, li_a504, li_b504, li_a512, li_b512, li_a520, li_b520, li_a524, li_b524, li_a528, li_b528, li_a536, li_b536, li_a544, li_b544, li_a552, li_b552, li_a560, li_b560, li_a568, li_b568, li_a573, li_b573, li_a585, li_b585, li_a633, li_b633, li_m3, li_n3, li_m4, li_n4, li_m48, li_n48, li_m50, li_n50, li_m585, li_n585, li_m633, li_n633, li_lt2, li_ge2, li_le2, li_gt2, li_lt1, li_ge1, li_le1, li_gt1, li_lt3, li_ge3, li_le3, li_gt3, li_lt4, li_ge4, li_le4, li_gt4, li_lt7, li_ge7, li_le7, li_gt7, li_lt8, li_ge8, li_le8, li_gt8, li_lt40, li_ge40, li_le40, li_gt40, li_lt240, li_ge240, li_le240, li_gt240, li_lt41, li_ge41, li_le41, li_gt41, li_lt48, li_ge48, li_le48, li_gt48, li_lt49, li_ge49, li_le49, li_gt49, li_lt60, li_ge60, li_le60, li_gt60, li_lt144, li_ge144, li_le144, li_gt144, li_lt145, li_ge145, li_le145, li_gt145, li_lt160, li_ge160, li_le160, li_gt160, li_lt336, li_ge336, li_le336, li_gt336, li_lt585, li_ge585, li_le585, li_gt585, li_lt633, li_ge633, li_le633, li_gt633, li_lt1000000, li_ge1000000, li_le1000000, li_gt1000000, li_lt2304, li_ge2304, li_le2304, li_gt2304, li_lt50, li_ge50, li_le50, li_gt50, li_le0, li_gt0]
      exact ⟨fun _ => hj, fun q => by omega⟩
  | succ d ih =>
    intro k more mb hk hI hm hp
    obtain ⟨un, vn, n0, _⟩ := dv_k (n := n) (k := k) (by omega)
    have er : nI k - nI k / nI n * nI n = nI (k % n) := pk_rem (by omega) n0 (by omega)
    have ed : nI k / nI n = nI (k / n) := pk_div (by omega) n0 (by omega)
    have en : (nI n = 0) ↔ False := ⟨fun z => by have := (li_e0 (by omega)).mp z; omega, fun z => z.elim⟩
    generalize hu : k / n = u at *
    generalize hv : k % n = v at *
    have is0 := by_is0 (mb u) (k := v) (by omega)
    have step : ∀ (more1 : Int32) (mb1 : Nat → Int64), my_I a x y mb1 → (more1 = 0 ∨ more1 = 1) → (more1 = 0 → my_p a mb1 n (k + 1)) → rl_c mb ≤ rl_c mb1 → (more1 = 1 → more = 1 ∨ rl_c mb < rl_c mb1) → (∀ (post : Int32 → SY → Prop) (J52 : Int32 → Int32 → Int32 → Int32 → (Nat → Int32) → (Nat → Int32) → (Nat → Int32) → (Nat → Int32) → (Nat → Int32) → (Nat → Int32) → (Nat → Int32) → (Nat → Int32) → (Nat → Int64) → (Nat → Int64) → Prop), wY_meetAll_63 post J52 (nI n) (d + 1) more1 (nI (k + 1)) g_trials g_drafted g_found b_s b_saved b_draft b_who b_met b_stack b_fresh b_deep b_alike mb1 → wY_meetAll_63 post J52 (nI n) (d + 1 + 1) more (nI k) g_trials g_drafted g_found b_s b_saved b_draft b_who b_met b_stack b_fresh b_deep b_alike mb) →
      (∃ mb' : Nat → Int64, ¬ mt_G (xv_U a) (xv_L a) (xv_T a) x y ∧ ∀ (post : Int32 → SY → Prop) (J52 : Int32 → Int32 → Int32 → Int32 → (Nat → Int32) → (Nat → Int32) → (Nat → Int32) → (Nat → Int32) → (Nat → Int32) → (Nat → Int32) → (Nat → Int32) → (Nat → Int32) → (Nat → Int64) → (Nat → Int64) → Prop), post 0 (g_trials, g_drafted, g_found, b_s, b_saved, b_draft, b_who, b_met, b_stack, b_fresh, b_deep, b_alike, mb') → wY_meetAll_63 post J52 (nI n) (d + 1 + 1) more (nI k) g_trials g_drafted g_found b_s b_saved b_draft b_who b_met b_stack b_fresh b_deep b_alike mb) ∨
      (∃ (more' : Int32) (mb' : Nat → Int64), my_I a x y mb' ∧ (more' = 0 ∨ more' = 1) ∧ (more' = 0 → my_p a mb' n (n * n)) ∧ rl_c mb ≤ rl_c mb' ∧ (more' = 1 → more = 1 ∨ rl_c mb < rl_c mb') ∧ ∀ (post : Int32 → SY → Prop) (J52 : Int32 → Int32 → Int32 → Int32 → (Nat → Int32) → (Nat → Int32) → (Nat → Int32) → (Nat → Int32) → (Nat → Int32) → (Nat → Int32) → (Nat → Int32) → (Nat → Int32) → (Nat → Int64) → (Nat → Int64) → Prop), J52 more' g_trials g_drafted g_found b_s b_saved b_draft b_who b_met b_stack b_fresh b_deep b_alike mb' → wY_meetAll_63 post J52 (nI n) (d + 1 + 1) more (nI k) g_trials g_drafted g_found b_s b_saved b_draft b_who b_met b_stack b_fresh b_deep b_alike mb) := by
      intro more1 mb1 i1 i2 i3 i4 i5 hw
      rcases ih (k + 1) more1 mb1 (by omega) i1 i2 i3 with ⟨mb', a1, a3⟩ | ⟨more', mb', a1, a2, a3, a4, a5, a6⟩
      · exact Or.inl ⟨mb', a1, fun post J q => hw post J (a3 post J q)⟩
      · refine Or.inr ⟨more', mb', a1, a2, a3, by omega, fun z => ?_, fun post J q => hw post J (a6 post J q)⟩
        rcases a5 z with z1 | z1
        · rcases i5 z1 with z2 | z2
          · exact Or.inl z2
          · exact Or.inr (by omega)
        · exact Or.inr (by omega)
    have skip : (¬ (by_b (mb u) v = true ∧ (xv_T a).1 u)) → (more = 0 → my_p a mb n (k + 1)) := by
      intro z m0
      refine my_p1 (hp m0) (fun u' v' a4 a5 a6 a7 => ?_)
      rw [hu] at a4
      rw [hv] at a5
      rw [a4, a5] at a6
      rw [a4] at a7
      exact absurd ⟨a6, a7⟩ z
    by_cases bit : by_b (mb u) v = true
    · obtain ⟨_, hM⟩ := hI.1 u (by omega) v (by omega) bit
      obtain ⟨uu, uv, lu, lv⟩ := mt_U g.2.1 g.2.2 ux uy hM
      have nb : ¬ ((mb u >>> ((nI v).toInt64 &&& 63)) &&& 1) = 0 := fun z => by
        rw [is0.mp z] at bit
        exact absurd bit (by decide)
      have hwu := yr_hw hr n1' n2' n3' uu
      have hwv := yr_hw hr n1' n2' n3' uv
      rw [lu] at hwu
      rw [lv] at hwv
      rcases hwu with ⟨ku, wu⟩ | ⟨ku, w1, w148, wu, t1, l1⟩
      · refine step more mb hI hm (skip (fun z => (xv_T1 z.2).2.2 ku)) (Nat.le_refl _) (fun z => Or.inl z) (fun post J hj => ?_)
        rw [wY_meetAll_63]
        dsimp only
        rw [er, emul, ed]
        simp (disch := omega) only [forall_eq, true_and, and_true, Nat.zero_add, nI_clamp, li_vin, nI_add, nI_eq, nI_leI, nI_ltI, li_0le, li_lt0, li_nn1, li_e0, not_true_eq_false, not_false_eq_true, false_implies, true_implies, forall_const, li_a0, li_b0, li_a1, li_b1, li_a2, li_b2, li_a3, li_b3, li_a7, li_b7, li_a8, li_b8, li_a16, li_b16, li_a48, li_b48, li_a584, li_b584, li_a572, li_b572, li_a96, li_b96, li_a144, li_b144, li_a192, li_b192, li_a240, li_b240, li_a336, li_b336, li_a384, li_b384, li_a432, li_b432, li_a480, li_b480, li_a488, li_b488, li_a496, li_b496, li_a504, li_b504, li_a512, li_b512, li_a520, li_b520, li_a524, li_b524, li_a528, li_b528, li_a536, li_b536, li_a544, li_b544, li_a552, li_b552, li_a560, li_b560, li_a568, li_b568, li_a573, li_b573, li_a585, li_b585, li_a633, li_b633, li_m3, li_n3, li_m4, li_n4, li_m48, li_n48, li_m50, li_n50, li_m585, li_n585, li_m633, li_n633, li_lt2, li_ge2, li_le2, li_gt2, li_lt1, li_ge1, li_le1, li_gt1, li_lt3, li_ge3, li_le3, li_gt3, li_lt4, li_ge4, li_le4, li_gt4, li_lt7, li_ge7, li_le7, li_gt7, li_lt8, li_ge8, li_le8, li_gt8, li_lt40, li_ge40, li_le40, li_gt40, li_lt240, li_ge240, li_le240, li_gt240, li_lt41, li_ge41, li_le41, li_gt41, li_lt48, li_ge48, li_le48, li_gt48, li_lt49, li_ge49, li_le49, li_gt49, li_lt60, li_ge60, li_le60, li_gt60, li_lt144, li_ge144, li_le144, li_gt144, li_lt145, li_ge145, li_le145, li_gt145, li_lt160, li_ge160, li_le160, li_gt160, li_lt336, li_ge336, li_le336, li_gt336, li_lt585, li_ge585, li_le585, li_gt585, li_lt633, li_ge633, li_le633, li_gt633, li_lt1000000, li_ge1000000, li_le1000000, li_gt1000000, li_lt2304, li_ge2304, li_le2304, li_gt2304, li_lt50, li_ge50, li_le50, li_gt50, li_le0, li_gt0, en, wu]
        exact ⟨fun q => by omega, fun _ => br_f nb (br_f (by decide) hj)⟩
      · have tu : (xv_T a).1 u := ⟨uu, lu, ku⟩
        rcases hwv with ⟨kv, wv⟩ | ⟨kv, w2, w248, wv, t2, l2⟩
        · refine Or.inl ⟨mb, fun G => (xv_T1 (G.1 u v hM tu).1).2.2 kv, fun post J hj => ?_⟩
          rw [wY_meetAll_63]
          dsimp only
          rw [er, emul, ed]
          simp (disch := omega) only [forall_eq, true_and, and_true, Nat.zero_add, nI_clamp, li_vin, nI_add, nI_eq, nI_leI, nI_ltI, li_0le, li_lt0, li_nn1, li_e0, not_true_eq_false, not_false_eq_true, false_implies, true_implies, forall_const, li_a0, li_b0, li_a1, li_b1, li_a2, li_b2, li_a3, li_b3, li_a7, li_b7, li_a8, li_b8, li_a16, li_b16, li_a48, li_b48, li_a584, li_b584, li_a572, li_b572, li_a96, li_b96, li_a144, li_b144, li_a192, li_b192, li_a240, li_b240, li_a336, li_b336, li_a384, li_b384, li_a432, li_b432, li_a480, li_b480, li_a488, li_b488, li_a496, li_b496, li_a504, li_b504, li_a512, li_b512, li_a520, li_b520, li_a524, li_b524, li_a528, li_b528, li_a536, li_b536, li_a544, li_b544, li_a552, li_b552, li_a560, li_b560, li_a568, li_b568, li_a573, li_b573, li_a585, li_b585, li_a633, li_b633, li_m3, li_n3, li_m4, li_n4, li_m48, li_n48, li_m50, li_n50, li_m585, li_n585, li_m633, li_n633, li_lt2, li_ge2, li_le2, li_gt2, li_lt1, li_ge1, li_le1, li_gt1, li_lt3, li_ge3, li_le3, li_gt3, li_lt4, li_ge4, li_le4, li_gt4, li_lt7, li_ge7, li_le7, li_gt7, li_lt8, li_ge8, li_le8, li_gt8, li_lt40, li_ge40, li_le40, li_gt40, li_lt240, li_ge240, li_le240, li_gt240, li_lt41, li_ge41, li_le41, li_gt41, li_lt48, li_ge48, li_le48, li_gt48, li_lt49, li_ge49, li_le49, li_gt49, li_lt60, li_ge60, li_le60, li_gt60, li_lt144, li_ge144, li_le144, li_gt144, li_lt145, li_ge145, li_le145, li_gt145, li_lt160, li_ge160, li_le160, li_gt160, li_lt336, li_ge336, li_le336, li_gt336, li_lt585, li_ge585, li_le585, li_gt585, li_lt633, li_ge633, li_le633, li_gt633, li_lt1000000, li_ge1000000, li_le1000000, li_gt1000000, li_lt2304, li_ge2304, li_le2304, li_gt2304, li_lt50, li_ge50, li_le50, li_gt50, li_le0, li_gt0, en, wu, wv]
          exact ⟨fun q => by omega, fun _ => br_f nb (br_t (by decide) hj)⟩
        · have tv : (xv_T a).1 v := ⟨uv, lv, kv⟩
          obtain ⟨_, y01, _, _, _, _⟩ := yr_xy hr t1 l1
          obtain ⟨_, y02, _, _, _, _⟩ := yr_xy hr t2 l2
          have wo := yw_isOther (g_trials := g_trials) (g_drafted := g_drafted) (g_found := g_found) (b_s := b_s) (b_saved := b_saved) (b_draft := b_draft) (b_who := b_who) (b_met := b_met) (b_stack := b_stack) (b_fresh := b_fresh) (b_deep := b_deep) (b_alike := b_alike) (b_meets := mb) hr.2.1 (u := w1) (v := w2) w148 w248 y01 y02
          have s1 : (yv_T b_s).2.1 w1 = (xv_T a).2.1 u := by
            have := (ma_R_x hr.2.2.2.2.1 t1).2.1
            rw [l1] at this
            exact this.symm
          have s2 : (yv_T b_s).2.1 w2 = (xv_T a).2.1 v := by
            have := (ma_R_x hr.2.2.2.2.1 t2).2.1
            rw [l2] at this
            exact this.symm
          rw [s1, s2] at wo
          by_cases es : (xv_T a).2.1 u = (xv_T a).2.1 v
          · obtain ⟨any', mb1, b1, b2, b3, b4, b5, b6⟩ := yw_meetParts (g_trials := g_trials) (g_drafted := g_drafted) (g_found := g_found) (b_s := b_s) (b_saved := b_saved) (b_draft := b_draft) (b_who := b_who) (b_met := b_met) (b_stack := b_stack) (b_fresh := b_fresh) (b_deep := b_deep) (b_alike := b_alike) (b_meets := b_meets) (x := x) (y := y) hr t1 l1 t2 l2 tu tv es hM (ma_ct (xv_K a u)) 0 0 mb (by omega) hI (Or.inl rfl)
            have or01 : (more ||| any' = 0 ∧ more = 0 ∧ any' = 0) ∨ (more ||| any' = 1 ∧ (more = 1 ∨ any' = 1)) := by
              rcases hm with z | z <;> rcases b2 with w | w <;> rw [z, w]
              · exact Or.inl ⟨by decide, rfl, rfl⟩
              · exact Or.inr ⟨by decide, Or.inr rfl⟩
              · exact Or.inr ⟨by decide, Or.inl rfl⟩
              · exact Or.inr ⟨by decide, Or.inl rfl⟩
            refine step (more ||| any') mb1 b1 ?_ ?_ ?_ ?_ (fun post J hj => ?_)
            · rcases or01 with z | z
              · exact Or.inl z.1
              · exact Or.inr z.1
            · intro m0
              rcases or01 with z | z
              · rcases b5 with ⟨c1, c2⟩ | ⟨c1, c2⟩
                · rw [c2]
                  rw [c2] at b4
                  refine my_p1 (hp z.2.1) (fun u' v' a4 a5 a6 a7 => ?_)
                  rw [hu] at a4
                  rw [hv] at a5
                  rw [a4, a5]
                  exact ⟨tv, es, fun j hj => b4 j (by omega) hj⟩
                · rw [c1] at z
                  exact absurd z.2.2 (by decide)
              · rw [z.1] at m0
                exact absurd m0 (by decide)
            · rcases b5 with ⟨c1, c2⟩ | ⟨c1, c2⟩
              · rw [c2]; exact Nat.le_refl _
              · omega
            · intro m1
              rcases b5 with ⟨c1, c2⟩ | ⟨c1, c2⟩
              · rcases or01 with z | z
                · rw [z.1] at m1
                  exact absurd m1 (by decide)
                · rcases z.2 with z | z
                  · exact Or.inl z
                  · rw [c1] at z
                    exact absurd z (by decide)
              · exact Or.inr c2
            · rw [wY_meetAll_63]
              dsimp only
              rw [er, emul, ed]
              simp (disch := omega) only [forall_eq, true_and, and_true, Nat.zero_add, nI_clamp, li_vin, nI_add, nI_eq, nI_leI, nI_ltI, li_0le, li_lt0, li_nn1, li_e0, not_true_eq_false, not_false_eq_true, false_implies, true_implies, forall_const, li_a0, li_b0, li_a1, li_b1, li_a2, li_b2, li_a3, li_b3, li_a7, li_b7, li_a8, li_b8, li_a16, li_b16, li_a48, li_b48, li_a584, li_b584, li_a572, li_b572, li_a96, li_b96, li_a144, li_b144, li_a192, li_b192, li_a240, li_b240, li_a336, li_b336, li_a384, li_b384, li_a432, li_b432, li_a480, li_b480, li_a488, li_b488, li_a496, li_b496, li_a504, li_b504, li_a512, li_b512, li_a520, li_b520, li_a524, li_b524, li_a528, li_b528, li_a536, li_b536, li_a544, li_b544, li_a552, li_b552, li_a560, li_b560, li_a568, li_b568, li_a573, li_b573, li_a585, li_b585, li_a633, li_b633, li_m3, li_n3, li_m4, li_n4, li_m48, li_n48, li_m50, li_n50, li_m585, li_n585, li_m633, li_n633, li_lt2, li_ge2, li_le2, li_gt2, li_lt1, li_ge1, li_le1, li_gt1, li_lt3, li_ge3, li_le3, li_gt3, li_lt4, li_ge4, li_le4, li_gt4, li_lt7, li_ge7, li_le7, li_gt7, li_lt8, li_ge8, li_le8, li_gt8, li_lt40, li_ge40, li_le40, li_gt40, li_lt240, li_ge240, li_le240, li_gt240, li_lt41, li_ge41, li_le41, li_gt41, li_lt48, li_ge48, li_le48, li_gt48, li_lt49, li_ge49, li_le49, li_gt49, li_lt60, li_ge60, li_le60, li_gt60, li_lt144, li_ge144, li_le144, li_gt144, li_lt145, li_ge145, li_le145, li_gt145, li_lt160, li_ge160, li_le160, li_gt160, li_lt336, li_ge336, li_le336, li_gt336, li_lt585, li_ge585, li_le585, li_gt585, li_lt633, li_ge633, li_le633, li_gt633, li_lt1000000, li_ge1000000, li_le1000000, li_gt1000000, li_lt2304, li_ge2304, li_le2304, li_gt2304, li_lt50, li_ge50, li_le50, li_gt50, li_le0, li_gt0, en, wu, wv]
              refine ⟨fun q => by omega, fun _ => br_f nb ?_⟩
              refine wo _ (fun _ => ?_) (fun z => absurd es z)
              exact br_t rfl ⟨_, b6 _ hj⟩
          · refine Or.inl ⟨mb, fun G => es (G.1 u v hM tu).2, fun post J hj => ?_⟩
            rw [wY_meetAll_63]
            dsimp only
            rw [er, emul, ed]
            simp (disch := omega) only [forall_eq, true_and, and_true, Nat.zero_add, nI_clamp, li_vin, nI_add, nI_eq, nI_leI, nI_ltI, li_0le, li_lt0, li_nn1, li_e0, not_true_eq_false, not_false_eq_true, false_implies, true_implies, forall_const, li_a0, li_b0, li_a1, li_b1, li_a2, li_b2, li_a3, li_b3, li_a7, li_b7, li_a8, li_b8, li_a16, li_b16, li_a48, li_b48, li_a584, li_b584, li_a572, li_b572, li_a96, li_b96, li_a144, li_b144, li_a192, li_b192, li_a240, li_b240, li_a336, li_b336, li_a384, li_b384, li_a432, li_b432, li_a480, li_b480, li_a488, li_b488, li_a496, li_b496, li_a504, li_b504, li_a512, li_b512, li_a520, li_b520, li_a524, li_b524, li_a528, li_b528, li_a536, li_b536, li_a544, li_b544, li_a552, li_b552, li_a560, li_b560, li_a568, li_b568, li_a573, li_b573, li_a585, li_b585, li_a633, li_b633, li_m3, li_n3, li_m4, li_n4, li_m48, li_n48, li_m50, li_n50, li_m585, li_n585, li_m633, li_n633, li_lt2, li_ge2, li_le2, li_gt2, li_lt1, li_ge1, li_le1, li_gt1, li_lt3, li_ge3, li_le3, li_gt3, li_lt4, li_ge4, li_le4, li_gt4, li_lt7, li_ge7, li_le7, li_gt7, li_lt8, li_ge8, li_le8, li_gt8, li_lt40, li_ge40, li_le40, li_gt40, li_lt240, li_ge240, li_le240, li_gt240, li_lt41, li_ge41, li_le41, li_gt41, li_lt48, li_ge48, li_le48, li_gt48, li_lt49, li_ge49, li_le49, li_gt49, li_lt60, li_ge60, li_le60, li_gt60, li_lt144, li_ge144, li_le144, li_gt144, li_lt145, li_ge145, li_le145, li_gt145, li_lt160, li_ge160, li_le160, li_gt160, li_lt336, li_ge336, li_le336, li_gt336, li_lt585, li_ge585, li_le585, li_gt585, li_lt633, li_ge633, li_le633, li_gt633, li_lt1000000, li_ge1000000, li_le1000000, li_gt1000000, li_lt2304, li_ge2304, li_le2304, li_gt2304, li_lt50, li_ge50, li_le50, li_gt50, li_le0, li_gt0, en, wu, wv]
            refine ⟨fun q => by omega, fun _ => br_f nb ?_⟩
            exact wo _ (fun z => absurd z es) (fun _ => br_f (by decide) hj)
    · have bit0 : by_b (mb u) v = false := by
        cases h : by_b (mb u) v
        · rfl
        · exact absurd h bit
      refine step more mb hI hm (skip (fun z => bit z.1)) (Nat.le_refl _) (fun z => Or.inl z) (fun post J hj => ?_)
      rw [wY_meetAll_63]
      dsimp only
      rw [er, emul, ed]
      simp (disch := omega) only [forall_eq, true_and, and_true, Nat.zero_add, nI_clamp, li_vin, nI_add, nI_eq, nI_leI, nI_ltI, li_0le, li_lt0, li_nn1, li_e0, not_true_eq_false, not_false_eq_true, false_implies, true_implies, forall_const, li_a0, li_b0, li_a1, li_b1, li_a2, li_b2, li_a3, li_b3, li_a7, li_b7, li_a8, li_b8, li_a16, li_b16, li_a48, li_b48, li_a584, li_b584, li_a572, li_b572, li_a96, li_b96, li_a144, li_b144, li_a192, li_b192, li_a240, li_b240, li_a336, li_b336, li_a384, li_b384, li_a432, li_b432, li_a480, li_b480, li_a488, li_b488, li_a496, li_b496, li_a504, li_b504, li_a512, li_b512, li_a520, li_b520, li_a524, li_b524, li_a528, li_b528, li_a536, li_b536, li_a544, li_b544, li_a552, li_b552, li_a560, li_b560, li_a568, li_b568, li_a573, li_b573, li_a585, li_b585, li_a633, li_b633, li_m3, li_n3, li_m4, li_n4, li_m48, li_n48, li_m50, li_n50, li_m585, li_n585, li_m633, li_n633, li_lt2, li_ge2, li_le2, li_gt2, li_lt1, li_ge1, li_le1, li_gt1, li_lt3, li_ge3, li_le3, li_gt3, li_lt4, li_ge4, li_le4, li_gt4, li_lt7, li_ge7, li_le7, li_gt7, li_lt8, li_ge8, li_le8, li_gt8, li_lt40, li_ge40, li_le40, li_gt40, li_lt240, li_ge240, li_le240, li_gt240, li_lt41, li_ge41, li_le41, li_gt41, li_lt48, li_ge48, li_le48, li_gt48, li_lt49, li_ge49, li_le49, li_gt49, li_lt60, li_ge60, li_le60, li_gt60, li_lt144, li_ge144, li_le144, li_gt144, li_lt145, li_ge145, li_le145, li_gt145, li_lt160, li_ge160, li_le160, li_gt160, li_lt336, li_ge336, li_le336, li_gt336, li_lt585, li_ge585, li_le585, li_gt585, li_lt633, li_ge633, li_le633, li_gt633, li_lt1000000, li_ge1000000, li_le1000000, li_gt1000000, li_lt2304, li_ge2304, li_le2304, li_gt2304, li_lt50, li_ge50, li_le50, li_gt50, li_le0, li_gt0, en]
      exact ⟨fun q => by omega, fun _ => br_t (is0.mpr bit0) hj⟩
