def ky_I (a : Nat → Int32) (w : Int64) : Prop := ∀ i, i < 64 → by_b w i = true → xv_U a i ∧ kp_K a (xv_L a i)
def ky_m (w w' : Int64) : Prop := ∀ i, by_b w i = true → by_b w' i = true
theorem ky_set {a : Nat → Int32} {w : Int64} {x : Nat} (hI : ky_I a w) (ux : xv_U a x) (kx : kp_K a (xv_L a x)) : ky_I a (w ||| ((1 : Int64) <<< ((nI x).toInt64 &&& 63))) ∧ ky_m w (w ||| ((1 : Int64) <<< ((nI x).toInt64 &&& 63))) ∧ by_b (w ||| ((1 : Int64) <<< ((nI x).toInt64 &&& 63))) x = true := by
  have x48 := ux.1
  have bb : ∀ i, by_b (w ||| ((1 : Int64) <<< ((nI x).toInt64 &&& 63))) i = (by_b w i || decide (x = i)) := fun i => by rw [by_or, by_shl (by omega)]
  refine ⟨fun i hi hb => ?_, fun i hb => ?_, ?_⟩
  · rw [bb, Bool.or_eq_true] at hb
    rcases hb with hb | hb
    · exact hI i hi hb
    · have e : x = i := of_decide_eq_true hb
      rw [← e]; exact ⟨ux, kx⟩
  · rw [bb, hb]; rfl
  · rw [bb, Bool.or_eq_true]; exact Or.inr (decide_eq_true rfl)
theorem ky_or (w x y : Int64) : w ||| (x ||| y) = (w ||| x) ||| y := by
  apply by_ext
  intro i _
  rw [by_or, by_or, by_or, by_or, Bool.or_assoc]
theorem yw_roots_170 {g_trials g_drafted g_found : Int32} {b_s b_saved b_draft b_who b_met b_stack b_fresh b_deep : Nat → Int32} {b_alike b_meets : Nat → Int64} {B : Nat} {a : Nat → Int32} (hr : re_P B a b_s) {j : Nat} {w : Int64} (hj : j < 8) (hI : ky_I a w) : ∃ w' : Int64, ky_I a w' ∧ ky_m w w' ∧ (∀ x, xv_U a x → (a (504 + j) = nI x ∨ a (512 + j) = nI x) → by_b w' x = true) ∧ ∀ (post : Int64 → Prop) (J : Int64 → Int32 → Prop), J w' (nI (j + 1)) → wY_roots_170 post J w (nI j) g_trials g_drafted g_found b_s b_saved b_draft b_who b_met b_stack b_fresh b_deep b_alike b_meets := by
  have N := hr.2.2.2.2.2
  obtain ⟨e0, o⟩ := N.2.2.2.1 j hj
  rcases o with o | ⟨x, y, ux, uy, e1, e2, e3⟩
  · refine ⟨w, hI, fun _ h => h, fun x ux e => ?_, fun post J hJ => ?_⟩
    · have x48 := ux.1
      rcases e with e | e
      · rw [o.1] at e; exact ((li_nn1 (by omega)).mp e.symm).elim
      · rw [o.2] at e; exact ((li_nn1 (by omega)).mp e.symm).elim
    · have e : b_s (552 + j) = -1 := by rw [← e0]; exact o.1
      unfold wY_roots_170
      simp (disch := omega) only [forall_eq, true_and, and_true, Nat.zero_add, nI_clamp, li_vin, nI_add, nI_eq, nI_leI, nI_ltI, li_0le, li_lt0, li_nn1, li_e0, not_true_eq_false, not_false_eq_true, false_implies, true_implies, forall_const, li_a0, li_b0, li_a1, li_b1, li_a2, li_b2, li_a3, li_b3, li_a7, li_b7, li_a8, li_b8, li_a16, li_b16, li_a48, li_b48, li_a584, li_b584, li_a572, li_b572, li_a96, li_b96, li_a144, li_b144, li_a192, li_b192, li_a240, li_b240, li_a336, li_b336, li_a384, li_b384, li_a432, li_b432, li_a480, li_b480, li_a488, li_b488, li_a496, li_b496, li_a504, li_b504, li_a512, li_b512, li_a520, li_b520, li_a524, li_b524, li_a528, li_b528, li_a536, li_b536, li_a544, li_b544, li_a552, li_b552, li_a560, li_b560, li_a568, li_b568, li_a573, li_b573, li_a585, li_b585, li_a633, li_b633, li_m3, li_n3, li_m4, li_n4, li_m48, li_n48, li_m50, li_n50, li_m585, li_n585, li_m633, li_n633, li_lt2, li_ge2, li_le2, li_gt2, li_lt1, li_ge1, li_le1, li_gt1, li_lt3, li_ge3, li_le3, li_gt3, li_lt4, li_ge4, li_le4, li_gt4, li_lt7, li_ge7, li_le7, li_gt7, li_lt8, li_ge8, li_le8, li_gt8, li_lt40, li_ge40, li_le40, li_gt40, li_lt240, li_ge240, li_le240, li_gt240, li_lt41, li_ge41, li_le41, li_gt41, li_lt48, li_ge48, li_le48, li_gt48, li_lt49, li_ge49, li_le49, li_gt49, li_lt60, li_ge60, li_le60, li_gt60, li_lt144, li_ge144, li_le144, li_gt144, li_lt145, li_ge145, li_le145, li_gt145, li_lt160, li_ge160, li_le160, li_gt160, li_lt336, li_ge336, li_le336, li_gt336, li_lt585, li_ge585, li_le585, li_gt585, li_lt633, li_ge633, li_le633, li_gt633, li_lt1000000, li_ge1000000, li_le1000000, li_gt1000000, li_lt2304, li_ge2304, li_le2304, li_gt2304, li_lt50, li_ge50, li_le50, li_gt50, li_le0, li_gt0, e]
      first
      | exact hJ
      | exact br_t (by decide) hJ
  · have x48 := ux.1
    have y48 := uy.1
    obtain ⟨p1, p2, p3⟩ := ky_set hI ux (kp_root ⟨ux, Or.inr (Or.inr (Or.inr ⟨j, hj, Or.inl e1⟩))⟩)
    obtain ⟨q1, q2, q3⟩ := ky_set p1 uy (kp_root ⟨uy, Or.inr (Or.inr (Or.inr ⟨j, hj, Or.inr e2⟩))⟩)
    refine ⟨_, q1, fun i h => q2 i (p2 i h), fun z uz e => ?_, fun post J hJ => ?_⟩
    · have z48 := uz.1
      rcases e with e | e
      · rw [e1] at e
        have : x = z := (nI_eq (by omega) (by omega)).mp e
        rw [← this]; exact q2 _ p3
      · rw [e2] at e
        have : y = z := (nI_eq (by omega) (by omega)).mp e
        rw [← this]; exact q3
    · have e : b_s (552 + j) = nI x := by rw [← e0]; exact e1
      rw [← ky_or] at hJ
      unfold wY_roots_170
      simp (disch := omega) only [forall_eq, true_and, and_true, Nat.zero_add, nI_clamp, li_vin, nI_add, nI_eq, nI_leI, nI_ltI, li_0le, li_lt0, li_nn1, li_e0, not_true_eq_false, not_false_eq_true, false_implies, true_implies, forall_const, li_a0, li_b0, li_a1, li_b1, li_a2, li_b2, li_a3, li_b3, li_a7, li_b7, li_a8, li_b8, li_a16, li_b16, li_a48, li_b48, li_a584, li_b584, li_a572, li_b572, li_a96, li_b96, li_a144, li_b144, li_a192, li_b192, li_a240, li_b240, li_a336, li_b336, li_a384, li_b384, li_a432, li_b432, li_a480, li_b480, li_a488, li_b488, li_a496, li_b496, li_a504, li_b504, li_a512, li_b512, li_a520, li_b520, li_a524, li_b524, li_a528, li_b528, li_a536, li_b536, li_a544, li_b544, li_a552, li_b552, li_a560, li_b560, li_a568, li_b568, li_a573, li_b573, li_a585, li_b585, li_a633, li_b633, li_m3, li_n3, li_m4, li_n4, li_m48, li_n48, li_m50, li_n50, li_m585, li_n585, li_m633, li_n633, li_lt2, li_ge2, li_le2, li_gt2, li_lt1, li_ge1, li_le1, li_gt1, li_lt3, li_ge3, li_le3, li_gt3, li_lt4, li_ge4, li_le4, li_gt4, li_lt7, li_ge7, li_le7, li_gt7, li_lt8, li_ge8, li_le8, li_gt8, li_lt40, li_ge40, li_le40, li_gt40, li_lt240, li_ge240, li_le240, li_gt240, li_lt41, li_ge41, li_le41, li_gt41, li_lt48, li_ge48, li_le48, li_gt48, li_lt49, li_ge49, li_le49, li_gt49, li_lt60, li_ge60, li_le60, li_gt60, li_lt144, li_ge144, li_le144, li_gt144, li_lt145, li_ge145, li_le145, li_gt145, li_lt160, li_ge160, li_le160, li_gt160, li_lt336, li_ge336, li_le336, li_gt336, li_lt585, li_ge585, li_le585, li_gt585, li_lt633, li_ge633, li_le633, li_gt633, li_lt1000000, li_ge1000000, li_le1000000, li_gt1000000, li_lt2304, li_ge2304, li_le2304, li_gt2304, li_lt50, li_ge50, li_le50, li_gt50, li_le0, li_gt0, e, e3]
      exact hJ
theorem yw_roots_128 {g_trials g_drafted g_found : Int32} {b_s b_saved b_draft b_who b_met b_stack b_fresh b_deep : Nat → Int32} {b_alike b_meets : Nat → Int64} {B : Nat} {a : Nat → Int32} (hr : re_P B a b_s) {j : Nat} {w : Int64} (hj : j < 8) (hI : ky_I a w) : ∃ w' : Int64, ky_I a w' ∧ ky_m w w' ∧ (∀ x, xv_U a x → (a (504 + j) = nI x ∨ a (512 + j) = nI x) → by_b w' x = true) ∧ (∀ x, xv_U a x → a (480 + j) = 3 → a (496 + j) = nI x → by_b w' x = true) ∧ ∀ (post : Int64 → Prop) (J : Int64 → Int32 → Prop), J w' (nI (j + 1)) → wY_roots_128 post J w (nI j) g_trials g_drafted g_found b_s b_saved b_draft b_who b_met b_stack b_fresh b_deep b_alike b_meets := by
  have N := hr.2.2.2.2.2
  obtain ⟨e0, e1, e2, o⟩ := N.2.2.1 j hj
  by_cases t : a (480 + j) = 3
  · have et : b_s (544 + j) = 3 := by rw [← e0]; exact t
    rcases (o t).2 with z | ⟨x, ux, z⟩
    · have ez : b_s (536 + j) = -1 := by rw [← e2]; exact z
      obtain ⟨w', p1, p2, p3, p4⟩ := yw_roots_170 (g_trials := g_trials) (g_drafted := g_drafted) (g_found := g_found) (b_s := b_s) (b_saved := b_saved) (b_draft := b_draft) (b_who := b_who) (b_met := b_met) (b_stack := b_stack) (b_fresh := b_fresh) (b_deep := b_deep) (b_alike := b_alike) (b_meets := b_meets) hr hj hI
      refine ⟨w', p1, p2, p3, fun x ux _ e => ?_, fun post J hJ => ?_⟩
      · have x48 := ux.1
        rw [z] at e; exact ((li_nn1 (by omega)).mp e.symm).elim
      · have := p4 post J hJ
        unfold wY_roots_128
        simp (disch := omega) only [forall_eq, true_and, and_true, Nat.zero_add, nI_clamp, li_vin, nI_add, nI_eq, nI_leI, nI_ltI, li_0le, li_lt0, li_nn1, li_e0, not_true_eq_false, not_false_eq_true, false_implies, true_implies, forall_const, li_a0, li_b0, li_a1, li_b1, li_a2, li_b2, li_a3, li_b3, li_a7, li_b7, li_a8, li_b8, li_a16, li_b16, li_a48, li_b48, li_a584, li_b584, li_a572, li_b572, li_a96, li_b96, li_a144, li_b144, li_a192, li_b192, li_a240, li_b240, li_a336, li_b336, li_a384, li_b384, li_a432, li_b432, li_a480, li_b480, li_a488, li_b488, li_a496, li_b496, li_a504, li_b504, li_a512, li_b512, li_a520, li_b520, li_a524, li_b524, li_a528, li_b528, li_a536, li_b536, li_a544, li_b544, li_a552, li_b552, li_a560, li_b560, li_a568, li_b568, li_a573, li_b573, li_a585, li_b585, li_a633, li_b633, li_m3, li_n3, li_m4, li_n4, li_m48, li_n48, li_m50, li_n50, li_m585, li_n585, li_m633, li_n633, li_lt2, li_ge2, li_le2, li_gt2, li_lt1, li_ge1, li_le1, li_gt1, li_lt3, li_ge3, li_le3, li_gt3, li_lt4, li_ge4, li_le4, li_gt4, li_lt7, li_ge7, li_le7, li_gt7, li_lt8, li_ge8, li_le8, li_gt8, li_lt40, li_ge40, li_le40, li_gt40, li_lt240, li_ge240, li_le240, li_gt240, li_lt41, li_ge41, li_le41, li_gt41, li_lt48, li_ge48, li_le48, li_gt48, li_lt49, li_ge49, li_le49, li_gt49, li_lt60, li_ge60, li_le60, li_gt60, li_lt144, li_ge144, li_le144, li_gt144, li_lt145, li_ge145, li_le145, li_gt145, li_lt160, li_ge160, li_le160, li_gt160, li_lt336, li_ge336, li_le336, li_gt336, li_lt585, li_ge585, li_le585, li_gt585, li_lt633, li_ge633, li_le633, li_gt633, li_lt1000000, li_ge1000000, li_le1000000, li_gt1000000, li_lt2304, li_ge2304, li_le2304, li_gt2304, li_lt50, li_ge50, li_le50, li_gt50, li_le0, li_gt0, et, ez]
        first
        | exact this
        | exact br_t (by decide) this
    · have x48 := ux.1
      have ez : b_s (536 + j) = nI x := by rw [← e2]; exact z
      obtain ⟨q1, q2, q3⟩ := ky_set hI ux (kp_root ⟨ux, Or.inr (Or.inr (Or.inl ⟨j, hj, t, Or.inr z⟩))⟩)
      obtain ⟨w', p1, p2, p3, p4⟩ := yw_roots_170 (g_trials := g_trials) (g_drafted := g_drafted) (g_found := g_found) (b_s := b_s) (b_saved := b_saved) (b_draft := b_draft) (b_who := b_who) (b_met := b_met) (b_stack := b_stack) (b_fresh := b_fresh) (b_deep := b_deep) (b_alike := b_alike) (b_meets := b_meets) hr hj q1
      refine ⟨w', p1, fun i h => p2 i (q2 i h), p3, fun y uy _ e => ?_, fun post J hJ => ?_⟩
      · have y48 := uy.1
        rw [z] at e
        have : x = y := (nI_eq (by omega) (by omega)).mp e
        rw [← this]; exact p2 _ q3
      · have := p4 post J hJ
        unfold wY_roots_128
        simp (disch := omega) only [forall_eq, true_and, and_true, Nat.zero_add, nI_clamp, li_vin, nI_add, nI_eq, nI_leI, nI_ltI, li_0le, li_lt0, li_nn1, li_e0, not_true_eq_false, not_false_eq_true, false_implies, true_implies, forall_const, li_a0, li_b0, li_a1, li_b1, li_a2, li_b2, li_a3, li_b3, li_a7, li_b7, li_a8, li_b8, li_a16, li_b16, li_a48, li_b48, li_a584, li_b584, li_a572, li_b572, li_a96, li_b96, li_a144, li_b144, li_a192, li_b192, li_a240, li_b240, li_a336, li_b336, li_a384, li_b384, li_a432, li_b432, li_a480, li_b480, li_a488, li_b488, li_a496, li_b496, li_a504, li_b504, li_a512, li_b512, li_a520, li_b520, li_a524, li_b524, li_a528, li_b528, li_a536, li_b536, li_a544, li_b544, li_a552, li_b552, li_a560, li_b560, li_a568, li_b568, li_a573, li_b573, li_a585, li_b585, li_a633, li_b633, li_m3, li_n3, li_m4, li_n4, li_m48, li_n48, li_m50, li_n50, li_m585, li_n585, li_m633, li_n633, li_lt2, li_ge2, li_le2, li_gt2, li_lt1, li_ge1, li_le1, li_gt1, li_lt3, li_ge3, li_le3, li_gt3, li_lt4, li_ge4, li_le4, li_gt4, li_lt7, li_ge7, li_le7, li_gt7, li_lt8, li_ge8, li_le8, li_gt8, li_lt40, li_ge40, li_le40, li_gt40, li_lt240, li_ge240, li_le240, li_gt240, li_lt41, li_ge41, li_le41, li_gt41, li_lt48, li_ge48, li_le48, li_gt48, li_lt49, li_ge49, li_le49, li_gt49, li_lt60, li_ge60, li_le60, li_gt60, li_lt144, li_ge144, li_le144, li_gt144, li_lt145, li_ge145, li_le145, li_gt145, li_lt160, li_ge160, li_le160, li_gt160, li_lt336, li_ge336, li_le336, li_gt336, li_lt585, li_ge585, li_le585, li_gt585, li_lt633, li_ge633, li_le633, li_gt633, li_lt1000000, li_ge1000000, li_le1000000, li_gt1000000, li_lt2304, li_ge2304, li_le2304, li_gt2304, li_lt50, li_ge50, li_le50, li_gt50, li_le0, li_gt0, et, ez]
        exact this
  · have et : ¬ b_s (544 + j) = 3 := by rw [← e0]; exact t
    obtain ⟨w', p1, p2, p3, p4⟩ := yw_roots_170 (g_trials := g_trials) (g_drafted := g_drafted) (g_found := g_found) (b_s := b_s) (b_saved := b_saved) (b_draft := b_draft) (b_who := b_who) (b_met := b_met) (b_stack := b_stack) (b_fresh := b_fresh) (b_deep := b_deep) (b_alike := b_alike) (b_meets := b_meets) hr hj hI
    refine ⟨w', p1, p2, p3, fun x ux q => absurd q t, fun post J hJ => ?_⟩
    have := p4 post J hJ
    unfold wY_roots_128
    simp (disch := omega) only [forall_eq, true_and, and_true, Nat.zero_add, nI_clamp, li_vin, nI_add, nI_eq, nI_leI, nI_ltI, li_0le, li_lt0, li_nn1, li_e0, not_true_eq_false, not_false_eq_true, false_implies, true_implies, forall_const, li_a0, li_b0, li_a1, li_b1, li_a2, li_b2, li_a3, li_b3, li_a7, li_b7, li_a8, li_b8, li_a16, li_b16, li_a48, li_b48, li_a584, li_b584, li_a572, li_b572, li_a96, li_b96, li_a144, li_b144, li_a192, li_b192, li_a240, li_b240, li_a336, li_b336, li_a384, li_b384, li_a432, li_b432, li_a480, li_b480, li_a488, li_b488, li_a496, li_b496, li_a504, li_b504, li_a512, li_b512, li_a520, li_b520, li_a524, li_b524, li_a528, li_b528, li_a536, li_b536, li_a544, li_b544, li_a552, li_b552, li_a560, li_b560, li_a568, li_b568, li_a573, li_b573, li_a585, li_b585, li_a633, li_b633, li_m3, li_n3, li_m4, li_n4, li_m48, li_n48, li_m50, li_n50, li_m585, li_n585, li_m633, li_n633, li_lt2, li_ge2, li_le2, li_gt2, li_lt1, li_ge1, li_le1, li_gt1, li_lt3, li_ge3, li_le3, li_gt3, li_lt4, li_ge4, li_le4, li_gt4, li_lt7, li_ge7, li_le7, li_gt7, li_lt8, li_ge8, li_le8, li_gt8, li_lt40, li_ge40, li_le40, li_gt40, li_lt240, li_ge240, li_le240, li_gt240, li_lt41, li_ge41, li_le41, li_gt41, li_lt48, li_ge48, li_le48, li_gt48, li_lt49, li_ge49, li_le49, li_gt49, li_lt60, li_ge60, li_le60, li_gt60, li_lt144, li_ge144, li_le144, li_gt144, li_lt145, li_ge145, li_le145, li_gt145, li_lt160, li_ge160, li_le160, li_gt160, li_lt336, li_ge336, li_le336, li_gt336, li_lt585, li_ge585, li_le585, li_gt585, li_lt633, li_ge633, li_le633, li_gt633, li_lt1000000, li_ge1000000, li_le1000000, li_gt1000000, li_lt2304, li_ge2304, li_le2304, li_gt2304, li_lt50, li_ge50, li_le50, li_gt50, li_le0, li_gt0]
    exact br_f et this
theorem yw_roots_93 {g_trials g_drafted g_found : Int32} {b_s b_saved b_draft b_who b_met b_stack b_fresh b_deep : Nat → Int32} {b_alike b_meets : Nat → Int64} {B : Nat} {a : Nat → Int32} (hr : re_P B a b_s) : ∀ d j (w : Int64), j + d = 8 → ky_I a w → ∃ w' : Int64, ky_I a w' ∧ ky_m w w' ∧ (∀ k x, j ≤ k → k < 8 → xv_U a x → (a (504 + k) = nI x ∨ a (512 + k) = nI x) → by_b w' x = true) ∧ (∀ k x, j ≤ k → k < 8 → xv_U a x → a (480 + k) = 3 → (a (488 + k) = nI x ∨ a (496 + k) = nI x) → by_b w' x = true) ∧ ∀ post : Int64 → Prop, post w' → wY_roots_93 post g_trials g_drafted g_found b_s b_saved b_draft b_who b_met b_stack b_fresh b_deep b_alike b_meets (d + 1) w (nI j) := by
  have N := hr.2.2.2.2.2
  intro d
  induction d with
  | zero =>
    intro j w hj hI
    refine ⟨w, hI, fun _ h => h, fun k x h1 h2 => by omega, fun k x h1 h2 => by omega, fun post hp => ?_⟩
    rw [wY_roots_93]
    exact br_t ((li_ge8 (by omega)).mpr (by omega)) hp
  | succ d ih =>
    intro j w hj hI
    have c1 : ¬ (8 : Int32) ≤ nI j := fun q => by have := (li_ge8 (by omega)).mp q; omega
    obtain ⟨e0, e1, e2, o⟩ := N.2.2.1 j (by omega)
    have first : ∃ w1 : Int64, ky_I a w1 ∧ ky_m w w1 ∧ (∀ x, xv_U a x → a (480 + j) = 3 → a (488 + j) = nI x → by_b w1 x = true) ∧ ∀ (post : Int64 → Prop) (n : Nat), wY_roots_128 post (wY_roots_93 post g_trials g_drafted g_found b_s b_saved b_draft b_who b_met b_stack b_fresh b_deep b_alike b_meets n) w1 (nI j) g_trials g_drafted g_found b_s b_saved b_draft b_who b_met b_stack b_fresh b_deep b_alike b_meets → wY_roots_93 post g_trials g_drafted g_found b_s b_saved b_draft b_who b_met b_stack b_fresh b_deep b_alike b_meets (n + 1) w (nI j) := by
      by_cases t : a (480 + j) = 3
      · have et : b_s (544 + j) = 3 := by rw [← e0]; exact t
        obtain ⟨⟨x, ux, z⟩, _⟩ := o t
        have x48 := ux.1
        have ez : b_s (528 + j) = nI x := by rw [← e1]; exact z
        obtain ⟨q1, q2, q3⟩ := ky_set hI ux (kp_root ⟨ux, Or.inr (Or.inr (Or.inl ⟨j, by omega, t, Or.inl z⟩))⟩)
        refine ⟨_, q1, q2, fun y uy _ e => ?_, fun post n h => ?_⟩
        · have y48 := uy.1
          rw [z] at e
          have : x = y := (nI_eq (by omega) (by omega)).mp e
          rw [← this]; exact q3
        · rw [wY_roots_93]
          refine br_f c1 ?_
          simp (disch := omega) only [forall_eq, true_and, and_true, Nat.zero_add, nI_clamp, li_vin, nI_add, nI_eq, nI_leI, nI_ltI, li_0le, li_lt0, li_nn1, li_e0, not_true_eq_false, not_false_eq_true, false_implies, true_implies, forall_const, li_a0, li_b0, li_a1, li_b1, li_a2, li_b2, li_a3, li_b3, li_a7, li_b7, li_a8, li_b8, li_a16, li_b16, li_a48, li_b48, li_a584, li_b584, li_a572, li_b572, li_a96, li_b96, li_a144, li_b144, li_a192, li_b192, li_a240, li_b240, li_a336, li_b336, li_a384, li_b384, li_a432, li_b432, li_a480, li_b480, li_a488, li_b488, li_a496, li_b496, li_a504, li_b504, li_a512, li_b512, li_a520, li_b520, li_a524, li_b524, li_a528, li_b528, li_a536, li_b536, li_a544, li_b544, li_a552, li_b552, li_a560, li_b560, li_a568, li_b568, li_a573, li_b573, li_a585, li_b585, li_a633, li_b633, li_m3, li_n3, li_m4, li_n4, li_m48, li_n48, li_m50, li_n50, li_m585, li_n585, li_m633, li_n633, li_lt2, li_ge2, li_le2, li_gt2, li_lt1, li_ge1, li_le1, li_gt1, li_lt3, li_ge3, li_le3, li_gt3, li_lt4, li_ge4, li_le4, li_gt4, li_lt7, li_ge7, li_le7, li_gt7, li_lt8, li_ge8, li_le8, li_gt8, li_lt40, li_ge40, li_le40, li_gt40, li_lt240, li_ge240, li_le240, li_gt240, li_lt41, li_ge41, li_le41, li_gt41, li_lt48, li_ge48, li_le48, li_gt48, li_lt49, li_ge49, li_le49, li_gt49, li_lt60, li_ge60, li_le60, li_gt60, li_lt144, li_ge144, li_le144, li_gt144, li_lt145, li_ge145, li_le145, li_gt145, li_lt160, li_ge160, li_le160, li_gt160, li_lt336, li_ge336, li_le336, li_gt336, li_lt585, li_ge585, li_le585, li_gt585, li_lt633, li_ge633, li_le633, li_gt633, li_lt1000000, li_ge1000000, li_le1000000, li_gt1000000, li_lt2304, li_ge2304, li_le2304, li_gt2304, li_lt50, li_ge50, li_le50, li_gt50, li_le0, li_gt0, et, ez]
          exact h
      · have et : ¬ b_s (544 + j) = 3 := by rw [← e0]; exact t
        refine ⟨w, hI, fun _ h => h, fun y uy q => absurd q t, fun post n h => ?_⟩
        rw [wY_roots_93]
        refine br_f c1 ?_
        simp (disch := omega) only [forall_eq, true_and, and_true, Nat.zero_add, nI_clamp, li_vin, nI_add, nI_eq, nI_leI, nI_ltI, li_0le, li_lt0, li_nn1, li_e0, not_true_eq_false, not_false_eq_true, false_implies, true_implies, forall_const, li_a0, li_b0, li_a1, li_b1, li_a2, li_b2, li_a3, li_b3, li_a7, li_b7, li_a8, li_b8, li_a16, li_b16, li_a48, li_b48, li_a584, li_b584, li_a572, li_b572, li_a96, li_b96, li_a144, li_b144, li_a192, li_b192, li_a240, li_b240, li_a336, li_b336, li_a384, li_b384, li_a432, li_b432, li_a480, li_b480, li_a488, li_b488, li_a496, li_b496, li_a504, li_b504, li_a512, li_b512, li_a520, li_b520, li_a524, li_b524, li_a528, li_b528, li_a536, li_b536, li_a544, li_b544, li_a552, li_b552, li_a560, li_b560, li_a568, li_b568, li_a573, li_b573, li_a585, li_b585, li_a633, li_b633, li_m3, li_n3, li_m4, li_n4, li_m48, li_n48, li_m50, li_n50, li_m585, li_n585, li_m633, li_n633, li_lt2, li_ge2, li_le2, li_gt2, li_lt1, li_ge1, li_le1, li_gt1, li_lt3, li_ge3, li_le3, li_gt3, li_lt4, li_ge4, li_le4, li_gt4, li_lt7, li_ge7, li_le7, li_gt7, li_lt8, li_ge8, li_le8, li_gt8, li_lt40, li_ge40, li_le40, li_gt40, li_lt240, li_ge240, li_le240, li_gt240, li_lt41, li_ge41, li_le41, li_gt41, li_lt48, li_ge48, li_le48, li_gt48, li_lt49, li_ge49, li_le49, li_gt49, li_lt60, li_ge60, li_le60, li_gt60, li_lt144, li_ge144, li_le144, li_gt144, li_lt145, li_ge145, li_le145, li_gt145, li_lt160, li_ge160, li_le160, li_gt160, li_lt336, li_ge336, li_le336, li_gt336, li_lt585, li_ge585, li_le585, li_gt585, li_lt633, li_ge633, li_le633, li_gt633, li_lt1000000, li_ge1000000, li_le1000000, li_gt1000000, li_lt2304, li_ge2304, li_le2304, li_gt2304, li_lt50, li_ge50, li_le50, li_gt50, li_le0, li_gt0]
        exact br_f et h
    obtain ⟨w1, a1, a2, a3, a4⟩ := first
    obtain ⟨w2, b1, b2, b3, b4, b5⟩ := yw_roots_128 (g_trials := g_trials) (g_drafted := g_drafted) (g_found := g_found) (b_s := b_s) (b_saved := b_saved) (b_draft := b_draft) (b_who := b_who) (b_met := b_met) (b_stack := b_stack) (b_fresh := b_fresh) (b_deep := b_deep) (b_alike := b_alike) (b_meets := b_meets) hr (j := j) (by omega) a1
    obtain ⟨w3, d1, d2, d3, d4, d5⟩ := ih (j + 1) w2 (by omega) b1
    refine ⟨w3, d1, fun i h => d2 i (b2 i (a2 i h)), fun k x k1 k2 ux e => ?_, fun k x k1 k2 ux t e => ?_, fun post hp => a4 post _ (b5 post _ (d5 post hp))⟩
    · by_cases ek : k = j
      · rw [ek] at e; exact d2 _ (b3 x ux e)
      · exact d3 k x (by omega) k2 ux e
    · by_cases ek : k = j
      · rw [ek] at e t
        rcases e with e | e
        · exact d2 _ (b2 _ (a3 x ux t e))
        · exact d2 _ (b4 x ux t e)
      · exact d4 k x (by omega) k2 ux t e
theorem yw_roots_52 {g_trials g_drafted g_found : Int32} {b_s b_saved b_draft b_who b_met b_stack b_fresh b_deep : Nat → Int32} {b_alike b_meets : Nat → Int64} {B : Nat} {a : Nat → Int32} (hr : re_P B a b_s) : ∀ d j (w : Int64), j + d = 4 → ky_I a w → ∃ w' : Int64, ky_I a w' ∧ ky_m w w' ∧ (∀ k x, j ≤ k → k < 4 → xv_U a x → a (520 + k) = nI x → by_b w' x = true) ∧ (∀ k x, k < 8 → xv_U a x → (a (504 + k) = nI x ∨ a (512 + k) = nI x) → by_b w' x = true) ∧ (∀ k x, k < 8 → xv_U a x → a (480 + k) = 3 → (a (488 + k) = nI x ∨ a (496 + k) = nI x) → by_b w' x = true) ∧ ∀ post : Int64 → Prop, post w' → wY_roots_52 post g_trials g_drafted g_found b_s b_saved b_draft b_who b_met b_stack b_fresh b_deep b_alike b_meets (d + 1) w (nI j) := by
  have N := hr.2.2.2.2.2
  intro d
  induction d with
  | zero =>
    intro j w hj hI
    obtain ⟨w', r1, r2, r3, r4, r5⟩ := yw_roots_93 (g_trials := g_trials) (g_drafted := g_drafted) (g_found := g_found) (b_s := b_s) (b_saved := b_saved) (b_draft := b_draft) (b_who := b_who) (b_met := b_met) (b_stack := b_stack) (b_fresh := b_fresh) (b_deep := b_deep) (b_alike := b_alike) (b_meets := b_meets) hr 8 0 w rfl hI
    refine ⟨w', r1, r2, fun k x h1 h2 => by omega, fun k x => r3 k x (by omega), fun k x => r4 k x (by omega), fun post hp => ?_⟩
    rw [wY_roots_52]
    exact br_t ((li_ge4 (by omega)).mpr (by omega)) ⟨_, r5 post hp⟩
  | succ d ih =>
    intro j w hj hI
    have c1 : ¬ (4 : Int32) ≤ nI j := fun q => by have := (li_ge4 (by omega)).mp q; omega
    obtain ⟨e0, o⟩ := N.2.2.2.2.1 j (by omega)
    rcases o with z | ⟨x, ux, z⟩
    · have ez : b_s (568 + j) = -1 := by rw [← e0]; exact z
      obtain ⟨w', r1, r2, r3, r4, r5, r6⟩ := ih (j + 1) w (by omega) hI
      refine ⟨w', r1, r2, fun k x k1 k2 ux e => ?_, r4, r5, fun post hp => ?_⟩
      · by_cases ek : k = j
        · have x48 := ux.1
          rw [ek, z] at e; exact ((li_nn1 (by omega)).mp e.symm).elim
        · exact r3 k x (by omega) k2 ux e
      · have := r6 post hp
        rw [wY_roots_52]
        refine br_f c1 ?_
        simp (disch := omega) only [forall_eq, true_and, and_true, Nat.zero_add, nI_clamp, li_vin, nI_add, nI_eq, nI_leI, nI_ltI, li_0le, li_lt0, li_nn1, li_e0, not_true_eq_false, not_false_eq_true, false_implies, true_implies, forall_const, li_a0, li_b0, li_a1, li_b1, li_a2, li_b2, li_a3, li_b3, li_a7, li_b7, li_a8, li_b8, li_a16, li_b16, li_a48, li_b48, li_a584, li_b584, li_a572, li_b572, li_a96, li_b96, li_a144, li_b144, li_a192, li_b192, li_a240, li_b240, li_a336, li_b336, li_a384, li_b384, li_a432, li_b432, li_a480, li_b480, li_a488, li_b488, li_a496, li_b496, li_a504, li_b504, li_a512, li_b512, li_a520, li_b520, li_a524, li_b524, li_a528, li_b528, li_a536, li_b536, li_a544, li_b544, li_a552, li_b552, li_a560, li_b560, li_a568, li_b568, li_a573, li_b573, li_a585, li_b585, li_a633, li_b633, li_m3, li_n3, li_m4, li_n4, li_m48, li_n48, li_m50, li_n50, li_m585, li_n585, li_m633, li_n633, li_lt2, li_ge2, li_le2, li_gt2, li_lt1, li_ge1, li_le1, li_gt1, li_lt3, li_ge3, li_le3, li_gt3, li_lt4, li_ge4, li_le4, li_gt4, li_lt7, li_ge7, li_le7, li_gt7, li_lt8, li_ge8, li_le8, li_gt8, li_lt40, li_ge40, li_le40, li_gt40, li_lt240, li_ge240, li_le240, li_gt240, li_lt41, li_ge41, li_le41, li_gt41, li_lt48, li_ge48, li_le48, li_gt48, li_lt49, li_ge49, li_le49, li_gt49, li_lt60, li_ge60, li_le60, li_gt60, li_lt144, li_ge144, li_le144, li_gt144, li_lt145, li_ge145, li_le145, li_gt145, li_lt160, li_ge160, li_le160, li_gt160, li_lt336, li_ge336, li_le336, li_gt336, li_lt585, li_ge585, li_le585, li_gt585, li_lt633, li_ge633, li_le633, li_gt633, li_lt1000000, li_ge1000000, li_le1000000, li_gt1000000, li_lt2304, li_ge2304, li_le2304, li_gt2304, li_lt50, li_ge50, li_le50, li_gt50, li_le0, li_gt0, ez]
        first
        | exact this
        | exact br_t (by decide) this
    · have x48 := ux.1
      have ez : b_s (568 + j) = nI x := by rw [← e0]; exact z
      obtain ⟨q1, q2, q3⟩ := ky_set hI ux (kp_root ⟨ux, Or.inr (Or.inl ⟨j, by omega, z⟩)⟩)
      obtain ⟨w', r1, r2, r3, r4, r5, r6⟩ := ih (j + 1) _ (by omega) q1
      refine ⟨w', r1, fun i h => r2 i (q2 i h), fun k y k1 k2 uy e => ?_, r4, r5, fun post hp => ?_⟩
      · by_cases ek : k = j
        · have y48 := uy.1
          rw [ek, z] at e
          have : x = y := (nI_eq (by omega) (by omega)).mp e
          rw [← this]; exact r2 _ q3
        · exact r3 k y (by omega) k2 uy e
      · have := r6 post hp
        rw [wY_roots_52]
        refine br_f c1 ?_
        simp (disch := omega) only [forall_eq, true_and, and_true, Nat.zero_add, nI_clamp, li_vin, nI_add, nI_eq, nI_leI, nI_ltI, li_0le, li_lt0, li_nn1, li_e0, not_true_eq_false, not_false_eq_true, false_implies, true_implies, forall_const, li_a0, li_b0, li_a1, li_b1, li_a2, li_b2, li_a3, li_b3, li_a7, li_b7, li_a8, li_b8, li_a16, li_b16, li_a48, li_b48, li_a584, li_b584, li_a572, li_b572, li_a96, li_b96, li_a144, li_b144, li_a192, li_b192, li_a240, li_b240, li_a336, li_b336, li_a384, li_b384, li_a432, li_b432, li_a480, li_b480, li_a488, li_b488, li_a496, li_b496, li_a504, li_b504, li_a512, li_b512, li_a520, li_b520, li_a524, li_b524, li_a528, li_b528, li_a536, li_b536, li_a544, li_b544, li_a552, li_b552, li_a560, li_b560, li_a568, li_b568, li_a573, li_b573, li_a585, li_b585, li_a633, li_b633, li_m3, li_n3, li_m4, li_n4, li_m48, li_n48, li_m50, li_n50, li_m585, li_n585, li_m633, li_n633, li_lt2, li_ge2, li_le2, li_gt2, li_lt1, li_ge1, li_le1, li_gt1, li_lt3, li_ge3, li_le3, li_gt3, li_lt4, li_ge4, li_le4, li_gt4, li_lt7, li_ge7, li_le7, li_gt7, li_lt8, li_ge8, li_le8, li_gt8, li_lt40, li_ge40, li_le40, li_gt40, li_lt240, li_ge240, li_le240, li_gt240, li_lt41, li_ge41, li_le41, li_gt41, li_lt48, li_ge48, li_le48, li_gt48, li_lt49, li_ge49, li_le49, li_gt49, li_lt60, li_ge60, li_le60, li_gt60, li_lt144, li_ge144, li_le144, li_gt144, li_lt145, li_ge145, li_le145, li_gt145, li_lt160, li_ge160, li_le160, li_gt160, li_lt336, li_ge336, li_le336, li_gt336, li_lt585, li_ge585, li_le585, li_gt585, li_lt633, li_ge633, li_le633, li_gt633, li_lt1000000, li_ge1000000, li_le1000000, li_gt1000000, li_lt2304, li_ge2304, li_le2304, li_gt2304, li_lt50, li_ge50, li_le50, li_gt50, li_le0, li_gt0, ez]
        exact this
theorem yw_roots {g_trials g_drafted g_found : Int32} {b_s b_saved b_draft b_who b_met b_stack b_fresh b_deep : Nat → Int32} {b_alike b_meets : Nat → Int64} {B : Nat} {a : Nat → Int32} (hr : re_P B a b_s) : ∃ w : Int64, ky_I a w ∧ (∀ x, kp_0 a x → by_b w x = true) ∧ ∀ post : Int64 → Prop, post w → wpY_roots post (g_trials, g_drafted, g_found, b_s, b_saved, b_draft, b_who, b_met, b_stack, b_fresh, b_deep, b_alike, b_meets) := by
  have N := hr.2.2.2.2.2
  have yU := re_U hr
  have lp : ∀ d j (w : Int64), j + d = 48 → ky_I a w → (∀ x, x < j → xv_U a x → a (432 + x) = 1 → by_b w x = true) → ∃ w' : Int64, ky_I a w' ∧ (∀ x, kp_0 a x → by_b w' x = true) ∧ ∀ post : Int64 → Prop, post w' → wY_roots_4 post g_trials g_drafted g_found b_s b_saved b_draft b_who b_met b_stack b_fresh b_deep b_alike b_meets (d + 1) w (nI j) := by
    intro d
    induction d with
    | zero =>
      intro j w hj hI h0
      obtain ⟨w', r1, r2, r3, r4, r5, r6⟩ := yw_roots_52 (g_trials := g_trials) (g_drafted := g_drafted) (g_found := g_found) (b_s := b_s) (b_saved := b_saved) (b_draft := b_draft) (b_who := b_who) (b_met := b_met) (b_stack := b_stack) (b_fresh := b_fresh) (b_deep := b_deep) (b_alike := b_alike) (b_meets := b_meets) hr 4 0 w rfl hI
      refine ⟨w', r1, fun x hx => ?_, fun post hp => ?_⟩
      · obtain ⟨ux, o⟩ := hx
        have x48 := ux.1
        rcases o with o | ⟨e, he, o⟩ | ⟨t, ht, w, o⟩ | ⟨k, hk, o⟩
        · exact r2 x (h0 x (by omega) ux o)
        · exact r3 e x (by omega) he ux o
        · exact r5 t x ht ux w o
        · exact r4 k x hk ux o
      · rw [wY_roots_4]
        exact br_t ((li_ge48 (by omega)).mpr (by omega)) ⟨_, r6 post hp⟩
    | succ d ih =>
      intro j w hj hI h0
      have c1 : ¬ (48 : Int32) ≤ nI j := fun q => by have := (li_ge48 (by omega)).mp q; omega
      obtain ⟨e0, o⟩ := N.2.1 j (by omega)
      by_cases t : a (432 + j) = 1
      · have uj : xv_U a j := by
          rcases o with o | o
          · rw [o] at t; exact absurd t (by decide)
          · exact o.2
        have uj' : yv_U b_s j := by rw [yU]; exact uj
        have et : b_s (432 + j) = 1 := by rw [← e0]; exact t
        obtain ⟨q1, q2, q3⟩ := ky_set hI uj (kp_root ⟨uj, Or.inl t⟩)
        obtain ⟨w', r1, r2, r3⟩ := ih (j + 1) _ (by omega) q1 (fun x hx ux e => by
          by_cases ex : x = j
          · rw [ex]; exact q3
          · exact q2 x (h0 x (by omega) ux e))
        refine ⟨w', r1, r2, fun post hp => ?_⟩
        have := r3 post hp
        rw [wY_roots_4]
        refine br_f c1 ?_
        simp (disch := omega) only [forall_eq, true_and, and_true, Nat.zero_add, nI_clamp, li_vin, nI_add, nI_eq, nI_leI, nI_ltI, li_0le, li_lt0, li_nn1, li_e0, not_true_eq_false, not_false_eq_true, false_implies, true_implies, forall_const, li_a0, li_b0, li_a1, li_b1, li_a2, li_b2, li_a3, li_b3, li_a7, li_b7, li_a8, li_b8, li_a16, li_b16, li_a48, li_b48, li_a584, li_b584, li_a572, li_b572, li_a96, li_b96, li_a144, li_b144, li_a192, li_b192, li_a240, li_b240, li_a336, li_b336, li_a384, li_b384, li_a432, li_b432, li_a480, li_b480, li_a488, li_b488, li_a496, li_b496, li_a504, li_b504, li_a512, li_b512, li_a520, li_b520, li_a524, li_b524, li_a528, li_b528, li_a536, li_b536, li_a544, li_b544, li_a552, li_b552, li_a560, li_b560, li_a568, li_b568, li_a573, li_b573, li_a585, li_b585, li_a633, li_b633, li_m3, li_n3, li_m4, li_n4, li_m48, li_n48, li_m50, li_n50, li_m585, li_n585, li_m633, li_n633, li_lt2, li_ge2, li_le2, li_gt2, li_lt1, li_ge1, li_le1, li_gt1, li_lt3, li_ge3, li_le3, li_gt3, li_lt4, li_ge4, li_le4, li_gt4, li_lt7, li_ge7, li_le7, li_gt7, li_lt8, li_ge8, li_le8, li_gt8, li_lt40, li_ge40, li_le40, li_gt40, li_lt240, li_ge240, li_le240, li_gt240, li_lt41, li_ge41, li_le41, li_gt41, li_lt48, li_ge48, li_le48, li_gt48, li_lt49, li_ge49, li_le49, li_gt49, li_lt60, li_ge60, li_le60, li_gt60, li_lt144, li_ge144, li_le144, li_gt144, li_lt145, li_ge145, li_le145, li_gt145, li_lt160, li_ge160, li_le160, li_gt160, li_lt336, li_ge336, li_le336, li_gt336, li_lt585, li_ge585, li_le585, li_gt585, li_lt633, li_ge633, li_le633, li_gt633, li_lt1000000, li_ge1000000, li_le1000000, li_gt1000000, li_lt2304, li_ge2304, li_le2304, li_gt2304, li_lt50, li_ge50, li_le50, li_gt50, li_le0, li_gt0, uj'.2, et]
        exact this
      · obtain ⟨w', r1, r2, r3⟩ := ih (j + 1) w (by omega) hI (fun x hx ux e => by
          by_cases ex : x = j
          · rw [ex] at e; exact absurd e t
          · exact h0 x (by omega) ux e)
        refine ⟨w', r1, r2, fun post hp => ?_⟩
        have := r3 post hp
        have et : ¬ b_s (432 + j) = 1 := by rw [← e0]; exact t
        rw [wY_roots_4]
        refine br_f c1 ?_
        simp (disch := omega) only [forall_eq, true_and, and_true, Nat.zero_add, nI_clamp, li_vin, nI_add, nI_eq, nI_leI, nI_ltI, li_0le, li_lt0, li_nn1, li_e0, not_true_eq_false, not_false_eq_true, false_implies, true_implies, forall_const, li_a0, li_b0, li_a1, li_b1, li_a2, li_b2, li_a3, li_b3, li_a7, li_b7, li_a8, li_b8, li_a16, li_b16, li_a48, li_b48, li_a584, li_b584, li_a572, li_b572, li_a96, li_b96, li_a144, li_b144, li_a192, li_b192, li_a240, li_b240, li_a336, li_b336, li_a384, li_b384, li_a432, li_b432, li_a480, li_b480, li_a488, li_b488, li_a496, li_b496, li_a504, li_b504, li_a512, li_b512, li_a520, li_b520, li_a524, li_b524, li_a528, li_b528, li_a536, li_b536, li_a544, li_b544, li_a552, li_b552, li_a560, li_b560, li_a568, li_b568, li_a573, li_b573, li_a585, li_b585, li_a633, li_b633, li_m3, li_n3, li_m4, li_n4, li_m48, li_n48, li_m50, li_n50, li_m585, li_n585, li_m633, li_n633, li_lt2, li_ge2, li_le2, li_gt2, li_lt1, li_ge1, li_le1, li_gt1, li_lt3, li_ge3, li_le3, li_gt3, li_lt4, li_ge4, li_le4, li_gt4, li_lt7, li_ge7, li_le7, li_gt7, li_lt8, li_ge8, li_le8, li_gt8, li_lt40, li_ge40, li_le40, li_gt40, li_lt240, li_ge240, li_le240, li_gt240, li_lt41, li_ge41, li_le41, li_gt41, li_lt48, li_ge48, li_le48, li_gt48, li_lt49, li_ge49, li_le49, li_gt49, li_lt60, li_ge60, li_le60, li_gt60, li_lt144, li_ge144, li_le144, li_gt144, li_lt145, li_ge145, li_le145, li_gt145, li_lt160, li_ge160, li_le160, li_gt160, li_lt336, li_ge336, li_le336, li_gt336, li_lt585, li_ge585, li_le585, li_gt585, li_lt633, li_ge633, li_le633, li_gt633, li_lt1000000, li_ge1000000, li_le1000000, li_gt1000000, li_lt2304, li_ge2304, li_le2304, li_gt2304, li_lt50, li_ge50, li_le50, li_gt50, li_le0, li_gt0]
        exact br_c (fun _ => br_f et this) (fun _ => this)
  obtain ⟨w, h1, h2, h3⟩ := lp 48 0 0 rfl (fun i hi hb => by rw [by_0] at hb; exact absurd hb (by decide)) (fun x hx => by omega)
  exact ⟨w, h1, h2, fun post hp => ⟨_, h3 post hp⟩⟩
theorem ky_eq {B : Nat} {a s : Nat → Int32} (hr : re_P B a s) {u v : Nat} (uu : xv_U a u) (hv : v < 48) (e : s u = s v) : xv_U a v ∧ xv_L a u = xv_L a v := by
  have yU := re_U hr
  obtain ⟨eu, lu⟩ := re_Ls hr uu
  have uv : xv_U a v := by
    rcases hr.2.1.2.1 v hv with z | ⟨_, z, _⟩
    · have : yv_U s v := ⟨hv, z⟩
      rw [yU] at this
      exact this
    · rw [eu, z] at e
      have : xv_L a u = v := (nI_eq (by omega) (by omega)).mp e
      have w := ((re_G hr).2.1 u uu).2.1
      rw [this] at w
      exact w
  exact ⟨uv, (re_eqL hr uu uv).mp e⟩
theorem yw_clear_97 {g_trials g_drafted g_found : Int32} {b_s b_saved b_draft b_who b_met b_stack b_fresh b_deep : Nat → Int32} {b_alike b_meets : Nat → Int64} {B : Nat} {a : Nat → Int32} (hr : re_P B a b_s) : ∀ d k (w : Int64), k + d = 144 → ky_I a w → ∃ w' : Int64, ky_I a w' ∧ ky_m w w' ∧ (∀ u j q, u < 48 → j < 3 → k ≤ 3 * u + j → by_b w u = true → (yv_T b_s).1 u → j < ma_ct (xv_K a (xv_L a u)) → q < 48 → b_s (240 + 3 * u + j) = nI q → by_b w' q = true) ∧ ∀ (post : Int32 → SY → Prop) (J : Int64 → Int64 → Prop) (x3 : Int64), J w' x3 → wY_clear_97 post J x3 g_trials g_drafted g_found b_s b_saved b_draft b_who b_met b_stack b_fresh b_deep b_alike b_meets (d + 1) w (nI k) := by
  have yU := re_U hr
  intro d
  induction d with
  | zero =>
    intro k w hk hI
    refine ⟨w, hI, fun _ h => h, fun u j q h1 h2 h3 => by omega, fun post J x3 hJ => ?_⟩
    rw [wY_clear_97]
    exact br_t ((li_ge144 (by omega)).mpr (by omega)) hJ
  | succ d ih =>
    intro k w hk hI
    have u48 : k / 3 < 48 := by omega
    have j3 : k % 3 < 3 := by omega
    have ed : nI k / (3 : Int32) = nI (k / 3) := pk_div (d := 3) (by omega) (by omega) (by omega)
    have er : nI k - nI k / (3 : Int32) * (3 : Int32) = nI (k % 3) := pk_rem (d := 3) (by omega) (by omega) (by omega)
    have c1 : ¬ (144 : Int32) ≤ nI k := fun q => by have := (li_ge144 (by omega)).mp q; omega
    have kk : k = 3 * (k / 3) + k % 3 := by omega
    generalize hu : k / 3 = u at *
    generalize hv : k % 3 = j at *
    have is1 := by_is1 w (k := u) (by omega)
    have step : ∃ w1 : Int64, ky_I a w1 ∧ ky_m w w1 ∧ (∀ q, by_b w u = true → (yv_T b_s).1 u → j < ma_ct (xv_K a (xv_L a u)) → q < 48 → b_s (240 + 3 * u + j) = nI q → by_b w1 q = true) ∧ ∀ (post : Int32 → SY → Prop) (J : Int64 → Int64 → Prop) (x3 : Int64) (n : Nat), wY_clear_97 post J x3 g_trials g_drafted g_found b_s b_saved b_draft b_who b_met b_stack b_fresh b_deep b_alike b_meets n w1 (nI (k + 1)) → wY_clear_97 post J x3 g_trials g_drafted g_found b_s b_saved b_draft b_who b_met b_stack b_fresh b_deep b_alike b_meets (n + 1) w (nI k) := by
      by_cases bit : by_b w u = true
      · obtain ⟨uu, ku⟩ := hI u (by omega) bit
        have uu' : yv_U b_s u := by rw [yU]; exact uu
        by_cases k2 : b_s (48 + u) = 2
        · have t : (yv_T b_s).1 u := ⟨uu', by rw [k2]; decide⟩
          obtain ⟨_, _, _, _, ec, ep⟩ := yr_xy hr t rfl
          have c3 : ma_ct (xv_K a (xv_L a u)) ≤ 3 := ma_ct_le _
          by_cases jc : j < ma_ct (xv_K a (xv_L a u))
          · obtain ⟨q, q1, q2, q3⟩ := ep j jc
            have q48 := q2.1
            obtain ⟨tx, _, _⟩ := ma_R_x hr.2.2.2.2.1 t
            have kq : kp_K a (xv_L a q) := by
              rw [q3]
              exact kp_part ku tx jc
            obtain ⟨z1, z2, z3⟩ := ky_set hI q2 kq
            refine ⟨_, z1, z2, fun q' _ _ _ q'48 e => ?_, fun post J x3 n h => ?_⟩
            · rw [q1] at e
              have : q = q' := (nI_eq (by omega) (by omega)).mp e
              rw [← this]; exact z3
            · have ek : b_s (240 + k) = nI q := by
                rw [← q1]
                exact congrArg b_s (by omega)
              rw [wY_clear_97]
              dsimp only
              refine br_f c1 ⟨by decide, ?_⟩
              rw [er, ed]
              refine br_t (is1.mpr bit) ?_
              simp (disch := omega) only [forall_eq, true_and, and_true, Nat.zero_add, nI_clamp, li_vin, nI_add, nI_eq, nI_leI, nI_ltI, li_0le, li_lt0, li_nn1, li_e0, not_true_eq_false, not_false_eq_true, false_implies, true_implies, forall_const, li_a0, li_b0, li_a1, li_b1, li_a2, li_b2, li_a3, li_b3, li_a7, li_b7, li_a8, li_b8, li_a16, li_b16, li_a48, li_b48, li_a584, li_b584, li_a572, li_b572, li_a96, li_b96, li_a144, li_b144, li_a192, li_b192, li_a240, li_b240, li_a336, li_b336, li_a384, li_b384, li_a432, li_b432, li_a480, li_b480, li_a488, li_b488, li_a496, li_b496, li_a504, li_b504, li_a512, li_b512, li_a520, li_b520, li_a524, li_b524, li_a528, li_b528, li_a536, li_b536, li_a544, li_b544, li_a552, li_b552, li_a560, li_b560, li_a568, li_b568, li_a573, li_b573, li_a585, li_b585, li_a633, li_b633, li_m3, li_n3, li_m4, li_n4, li_m48, li_n48, li_m50, li_n50, li_m585, li_n585, li_m633, li_n633, li_lt2, li_ge2, li_le2, li_gt2, li_lt1, li_ge1, li_le1, li_gt1, li_lt3, li_ge3, li_le3, li_gt3, li_lt4, li_ge4, li_le4, li_gt4, li_lt7, li_ge7, li_le7, li_gt7, li_lt8, li_ge8, li_le8, li_gt8, li_lt40, li_ge40, li_le40, li_gt40, li_lt240, li_ge240, li_le240, li_gt240, li_lt41, li_ge41, li_le41, li_gt41, li_lt48, li_ge48, li_le48, li_gt48, li_lt49, li_ge49, li_le49, li_gt49, li_lt60, li_ge60, li_le60, li_gt60, li_lt144, li_ge144, li_le144, li_gt144, li_lt145, li_ge145, li_le145, li_gt145, li_lt160, li_ge160, li_le160, li_gt160, li_lt336, li_ge336, li_le336, li_gt336, li_lt585, li_ge585, li_le585, li_gt585, li_lt633, li_ge633, li_le633, li_gt633, li_lt1000000, li_ge1000000, li_le1000000, li_gt1000000, li_lt2304, li_ge2304, li_le2304, li_gt2304, li_lt50, li_ge50, li_le50, li_gt50, li_le0, li_gt0, k2, ec, ek]
              refine ⟨by decide, by decide, by decide, fun q => by omega, fun _ => h⟩
          · refine ⟨w, hI, fun _ h => h, fun q' _ _ z => absurd z jc, fun post J x3 n h => ?_⟩
            rw [wY_clear_97]
            dsimp only
            refine br_f c1 ⟨by decide, ?_⟩
            rw [er, ed]
            refine br_t (is1.mpr bit) ?_
            simp (disch := omega) only [forall_eq, true_and, and_true, Nat.zero_add, nI_clamp, li_vin, nI_add, nI_eq, nI_leI, nI_ltI, li_0le, li_lt0, li_nn1, li_e0, not_true_eq_false, not_false_eq_true, false_implies, true_implies, forall_const, li_a0, li_b0, li_a1, li_b1, li_a2, li_b2, li_a3, li_b3, li_a7, li_b7, li_a8, li_b8, li_a16, li_b16, li_a48, li_b48, li_a584, li_b584, li_a572, li_b572, li_a96, li_b96, li_a144, li_b144, li_a192, li_b192, li_a240, li_b240, li_a336, li_b336, li_a384, li_b384, li_a432, li_b432, li_a480, li_b480, li_a488, li_b488, li_a496, li_b496, li_a504, li_b504, li_a512, li_b512, li_a520, li_b520, li_a524, li_b524, li_a528, li_b528, li_a536, li_b536, li_a544, li_b544, li_a552, li_b552, li_a560, li_b560, li_a568, li_b568, li_a573, li_b573, li_a585, li_b585, li_a633, li_b633, li_m3, li_n3, li_m4, li_n4, li_m48, li_n48, li_m50, li_n50, li_m585, li_n585, li_m633, li_n633, li_lt2, li_ge2, li_le2, li_gt2, li_lt1, li_ge1, li_le1, li_gt1, li_lt3, li_ge3, li_le3, li_gt3, li_lt4, li_ge4, li_le4, li_gt4, li_lt7, li_ge7, li_le7, li_gt7, li_lt8, li_ge8, li_le8, li_gt8, li_lt40, li_ge40, li_le40, li_gt40, li_lt240, li_ge240, li_le240, li_gt240, li_lt41, li_ge41, li_le41, li_gt41, li_lt48, li_ge48, li_le48, li_gt48, li_lt49, li_ge49, li_le49, li_gt49, li_lt60, li_ge60, li_le60, li_gt60, li_lt144, li_ge144, li_le144, li_gt144, li_lt145, li_ge145, li_le145, li_gt145, li_lt160, li_ge160, li_le160, li_gt160, li_lt336, li_ge336, li_le336, li_gt336, li_lt585, li_ge585, li_le585, li_gt585, li_lt633, li_ge633, li_le633, li_gt633, li_lt1000000, li_ge1000000, li_le1000000, li_gt1000000, li_lt2304, li_ge2304, li_le2304, li_gt2304, li_lt50, li_ge50, li_le50, li_gt50, li_le0, li_gt0, k2, ec]
            refine ⟨by decide, by decide, by decide, fun _ => h, fun q => by omega⟩
        · refine ⟨w, hI, fun _ h => h, fun q' _ t z => ?_, fun post J x3 n h => ?_⟩
          · obtain ⟨_, n0, _, _, ec, _⟩ := yr_xy hr t rfl
            have c3 : ma_ct (xv_K a (xv_L a u)) ≤ 3 := ma_ct_le _
            rcases hr.2.1.2.2.1 u u48 with y | ⟨_, _, y⟩ | ⟨y, _⟩
            · exact absurd y n0
            · rw [y] at ec
              have := (li_e0 (by omega)).mp ec.symm
              omega
            · exact absurd y k2
          · rw [wY_clear_97]
            dsimp only
            refine br_f c1 ⟨by decide, ?_⟩
            rw [er, ed]
            refine br_t (is1.mpr bit) ?_
            simp (disch := omega) only [forall_eq, true_and, and_true, Nat.zero_add, nI_clamp, li_vin, nI_add, nI_eq, nI_leI, nI_ltI, li_0le, li_lt0, li_nn1, li_e0, not_true_eq_false, not_false_eq_true, false_implies, true_implies, forall_const, li_a0, li_b0, li_a1, li_b1, li_a2, li_b2, li_a3, li_b3, li_a7, li_b7, li_a8, li_b8, li_a16, li_b16, li_a48, li_b48, li_a584, li_b584, li_a572, li_b572, li_a96, li_b96, li_a144, li_b144, li_a192, li_b192, li_a240, li_b240, li_a336, li_b336, li_a384, li_b384, li_a432, li_b432, li_a480, li_b480, li_a488, li_b488, li_a496, li_b496, li_a504, li_b504, li_a512, li_b512, li_a520, li_b520, li_a524, li_b524, li_a528, li_b528, li_a536, li_b536, li_a544, li_b544, li_a552, li_b552, li_a560, li_b560, li_a568, li_b568, li_a573, li_b573, li_a585, li_b585, li_a633, li_b633, li_m3, li_n3, li_m4, li_n4, li_m48, li_n48, li_m50, li_n50, li_m585, li_n585, li_m633, li_n633, li_lt2, li_ge2, li_le2, li_gt2, li_lt1, li_ge1, li_le1, li_gt1, li_lt3, li_ge3, li_le3, li_gt3, li_lt4, li_ge4, li_le4, li_gt4, li_lt7, li_ge7, li_le7, li_gt7, li_lt8, li_ge8, li_le8, li_gt8, li_lt40, li_ge40, li_le40, li_gt40, li_lt240, li_ge240, li_le240, li_gt240, li_lt41, li_ge41, li_le41, li_gt41, li_lt48, li_ge48, li_le48, li_gt48, li_lt49, li_ge49, li_le49, li_gt49, li_lt60, li_ge60, li_le60, li_gt60, li_lt144, li_ge144, li_le144, li_gt144, li_lt145, li_ge145, li_le145, li_gt145, li_lt160, li_ge160, li_le160, li_gt160, li_lt336, li_ge336, li_le336, li_gt336, li_lt585, li_ge585, li_le585, li_gt585, li_lt633, li_ge633, li_le633, li_gt633, li_lt1000000, li_ge1000000, li_le1000000, li_gt1000000, li_lt2304, li_ge2304, li_le2304, li_gt2304, li_lt50, li_ge50, li_le50, li_gt50, li_le0, li_gt0]
            refine ⟨by decide, br_f k2 h⟩
      · refine ⟨w, hI, fun _ h => h, fun q' z => absurd z bit, fun post J x3 n h => ?_⟩
        rw [wY_clear_97]
        dsimp only
        refine br_f c1 ⟨by decide, ?_⟩
        rw [er, ed]
        exact br_f (fun q => bit (is1.mp q)) (nm_r (nI_1 k) h)
    obtain ⟨w1, a1, a2, a3, a4⟩ := step
    obtain ⟨w2, b1, b2, b3, b4⟩ := ih (k + 1) w1 (by omega) a1
    refine ⟨w2, b1, fun i h => b2 i (a2 i h), fun u' j' q hu' hj' lt hb t hc q48 e => ?_, fun post J x3 hJ => a4 post J x3 _ (b4 post J x3 hJ)⟩
    by_cases ek : k < 3 * u' + j'
    · exact b3 u' j' q hu' hj' (by omega) (a2 _ hb) t hc q48 e
    · have eu : u' = u := by omega
      have ej : j' = j := by omega
      subst eu
      subst ej
      exact b2 _ (a3 q hb t hc q48 e)
theorem yw_clear_29 {g_trials g_drafted g_found : Int32} {b_s b_saved b_draft b_who b_met b_stack b_fresh b_deep : Nat → Int32} {b_alike b_meets : Nat → Int64} {B : Nat} {a : Nat → Int32} (hr : re_P B a b_s) : ∀ d k (w : Int64), k + d = 2304 → ky_I a w → ∃ w' : Int64, ky_I a w' ∧ ky_m w w' ∧ (∀ u v, u < 48 → v < 48 → k ≤ 48 * u + v → by_b w u = true → xv_U a v → xv_L a u = xv_L a v → by_b w' v = true) ∧ ∀ (post : Int32 → SY → Prop) (J : Int64 → Int64 → Prop) (x3 : Int64), (∃ n97 : Nat, wY_clear_97 post J x3 g_trials g_drafted g_found b_s b_saved b_draft b_who b_met b_stack b_fresh b_deep b_alike b_meets n97 w' 0) → wY_clear_29 post J x3 g_trials g_drafted g_found b_s b_saved b_draft b_who b_met b_stack b_fresh b_deep b_alike b_meets (d + 1) w (nI k) := by
  have yU := re_U hr
  intro d
  induction d with
  | zero =>
    intro k w hk hI
    refine ⟨w, hI, fun _ h => h, fun u v h1 h2 h3 => by omega, fun post J x3 hJ => ?_⟩
    rw [wY_clear_29]
    exact br_t ((li_ge2304 (by omega)).mpr (by omega)) hJ
  | succ d ih =>
    intro k w hk hI
    have u48 : k / 48 < 48 := by omega
    have v48 : k % 48 < 48 := by omega
    have ed : nI k / (48 : Int32) = nI (k / 48) := pk_div (d := 48) (by omega) (by omega) (by omega)
    have er : nI k - nI k / (48 : Int32) * (48 : Int32) = nI (k % 48) := pk_rem (d := 48) (by omega) (by omega) (by omega)
    have c1 : ¬ (2304 : Int32) ≤ nI k := fun q => by have := (li_ge2304 (by omega)).mp q; omega
    have kk : k = 48 * (k / 48) + k % 48 := by omega
    generalize hu : k / 48 = u at *
    generalize hv : k % 48 = v at *
    have is1 := by_is1 w (k := u) (by omega)
    have step : ∃ w1 : Int64, ky_I a w1 ∧ ky_m w w1 ∧ (by_b w u = true → xv_U a v → xv_L a u = xv_L a v → by_b w1 v = true) ∧ ∀ (post : Int32 → SY → Prop) (J : Int64 → Int64 → Prop) (x3 : Int64) (n : Nat), wY_clear_29 post J x3 g_trials g_drafted g_found b_s b_saved b_draft b_who b_met b_stack b_fresh b_deep b_alike b_meets n w1 (nI (k + 1)) → wY_clear_29 post J x3 g_trials g_drafted g_found b_s b_saved b_draft b_who b_met b_stack b_fresh b_deep b_alike b_meets (n + 1) w (nI k) := by
      by_cases bit : by_b w u = true
      · obtain ⟨uu, ku⟩ := hI u (by omega) bit
        by_cases e : b_s u = b_s v
        · obtain ⟨uv, el⟩ := ky_eq hr uu v48 e
          obtain ⟨z1, z2, z3⟩ := ky_set hI uv (by rw [← el]; exact ku)
          refine ⟨_, z1, z2, fun _ _ _ => z3, fun post J x3 n h => ?_⟩
          rw [wY_clear_29]
          dsimp only
          refine br_f c1 ⟨by decide, ?_⟩
          rw [er, ed]
          refine br_t (is1.mpr bit) ?_
          simp (disch := omega) only [forall_eq, true_and, and_true, Nat.zero_add, nI_clamp, li_vin, nI_add, nI_eq, nI_leI, nI_ltI, li_0le, li_lt0, li_nn1, li_e0, not_true_eq_false, not_false_eq_true, false_implies, true_implies, forall_const, li_a0, li_b0, li_a1, li_b1, li_a2, li_b2, li_a3, li_b3, li_a7, li_b7, li_a8, li_b8, li_a16, li_b16, li_a48, li_b48, li_a584, li_b584, li_a572, li_b572, li_a96, li_b96, li_a144, li_b144, li_a192, li_b192, li_a240, li_b240, li_a336, li_b336, li_a384, li_b384, li_a432, li_b432, li_a480, li_b480, li_a488, li_b488, li_a496, li_b496, li_a504, li_b504, li_a512, li_b512, li_a520, li_b520, li_a524, li_b524, li_a528, li_b528, li_a536, li_b536, li_a544, li_b544, li_a552, li_b552, li_a560, li_b560, li_a568, li_b568, li_a573, li_b573, li_a585, li_b585, li_a633, li_b633, li_m3, li_n3, li_m4, li_n4, li_m48, li_n48, li_m50, li_n50, li_m585, li_n585, li_m633, li_n633, li_lt2, li_ge2, li_le2, li_gt2, li_lt1, li_ge1, li_le1, li_gt1, li_lt3, li_ge3, li_le3, li_gt3, li_lt4, li_ge4, li_le4, li_gt4, li_lt7, li_ge7, li_le7, li_gt7, li_lt8, li_ge8, li_le8, li_gt8, li_lt40, li_ge40, li_le40, li_gt40, li_lt240, li_ge240, li_le240, li_gt240, li_lt41, li_ge41, li_le41, li_gt41, li_lt48, li_ge48, li_le48, li_gt48, li_lt49, li_ge49, li_le49, li_gt49, li_lt60, li_ge60, li_le60, li_gt60, li_lt144, li_ge144, li_le144, li_gt144, li_lt145, li_ge145, li_le145, li_gt145, li_lt160, li_ge160, li_le160, li_gt160, li_lt336, li_ge336, li_le336, li_gt336, li_lt585, li_ge585, li_le585, li_gt585, li_lt633, li_ge633, li_le633, li_gt633, li_lt1000000, li_ge1000000, li_le1000000, li_gt1000000, li_lt2304, li_ge2304, li_le2304, li_gt2304, li_lt50, li_ge50, li_le50, li_gt50, li_le0, li_gt0, e]
          exact ⟨by decide, by decide, by decide, h⟩
        · refine ⟨w, hI, fun _ h => h, fun _ uv el => absurd ((re_eqL hr uu uv).mpr el) e, fun post J x3 n h => ?_⟩
          rw [wY_clear_29]
          dsimp only
          refine br_f c1 ⟨by decide, ?_⟩
          rw [er, ed]
          refine br_t (is1.mpr bit) ?_
          simp (disch := omega) only [forall_eq, true_and, and_true, Nat.zero_add, nI_clamp, li_vin, nI_add, nI_eq, nI_leI, nI_ltI, li_0le, li_lt0, li_nn1, li_e0, not_true_eq_false, not_false_eq_true, false_implies, true_implies, forall_const, li_a0, li_b0, li_a1, li_b1, li_a2, li_b2, li_a3, li_b3, li_a7, li_b7, li_a8, li_b8, li_a16, li_b16, li_a48, li_b48, li_a584, li_b584, li_a572, li_b572, li_a96, li_b96, li_a144, li_b144, li_a192, li_b192, li_a240, li_b240, li_a336, li_b336, li_a384, li_b384, li_a432, li_b432, li_a480, li_b480, li_a488, li_b488, li_a496, li_b496, li_a504, li_b504, li_a512, li_b512, li_a520, li_b520, li_a524, li_b524, li_a528, li_b528, li_a536, li_b536, li_a544, li_b544, li_a552, li_b552, li_a560, li_b560, li_a568, li_b568, li_a573, li_b573, li_a585, li_b585, li_a633, li_b633, li_m3, li_n3, li_m4, li_n4, li_m48, li_n48, li_m50, li_n50, li_m585, li_n585, li_m633, li_n633, li_lt2, li_ge2, li_le2, li_gt2, li_lt1, li_ge1, li_le1, li_gt1, li_lt3, li_ge3, li_le3, li_gt3, li_lt4, li_ge4, li_le4, li_gt4, li_lt7, li_ge7, li_le7, li_gt7, li_lt8, li_ge8, li_le8, li_gt8, li_lt40, li_ge40, li_le40, li_gt40, li_lt240, li_ge240, li_le240, li_gt240, li_lt41, li_ge41, li_le41, li_gt41, li_lt48, li_ge48, li_le48, li_gt48, li_lt49, li_ge49, li_le49, li_gt49, li_lt60, li_ge60, li_le60, li_gt60, li_lt144, li_ge144, li_le144, li_gt144, li_lt145, li_ge145, li_le145, li_gt145, li_lt160, li_ge160, li_le160, li_gt160, li_lt336, li_ge336, li_le336, li_gt336, li_lt585, li_ge585, li_le585, li_gt585, li_lt633, li_ge633, li_le633, li_gt633, li_lt1000000, li_ge1000000, li_le1000000, li_gt1000000, li_lt2304, li_ge2304, li_le2304, li_gt2304, li_lt50, li_ge50, li_le50, li_gt50, li_le0, li_gt0]
          exact ⟨by decide, by decide, br_f e h⟩
      · refine ⟨w, hI, fun _ h => h, fun z => absurd z bit, fun post J x3 n h => ?_⟩
        rw [wY_clear_29]
        dsimp only
        refine br_f c1 ⟨by decide, ?_⟩
        rw [er, ed]
        exact br_f (fun q => bit (is1.mp q)) (nm_r (nI_1 k) h)
    obtain ⟨w1, a1, a2, a3, a4⟩ := step
    obtain ⟨w2, b1, b2, b3, b4⟩ := ih (k + 1) w1 (by omega) a1
    refine ⟨w2, b1, fun i h => b2 i (a2 i h), fun u' v' hu' hv' lt hb uv el => ?_, fun post J x3 hJ => a4 post J x3 _ (b4 post J x3 hJ)⟩
    by_cases ek : k < 48 * u' + v'
    · exact b3 u' v' hu' hv' (by omega) (a2 _ hb) uv el
    · have eu : u' = u := by omega
      have ej : v' = v := by omega
      subst eu
      subst ej
      exact b2 _ (a3 hb uv el)
