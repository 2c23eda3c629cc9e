def cp_G (a0 : Nat → Int32) (m zf ix : Nat → Nat) (M i : Nat) (a : Nat → Int32) : Prop :=
  (∀ j, j < M → a (336 + zf j) = 1 ∧ a (zf j) = nI (zf j)) ∧
  (∀ j, j < i → a (48 + zf j) = a0 (48 + m j) ∧ a (96 + zf j) = a0 (96 + m j) ∧ a (144 + zf j) = a0 (144 + m j) ∧ ∀ k, k < ma_ct (xv_K a0 (m j)) → a (192 + 3 * zf j + k) = nI (zf (ix (xv_L a0 (xv_P a0 (m j) k))))) ∧
  (∀ z, z < 48 → (∀ j, j < M → z ≠ zf j) → a z = a0 z ∧ a (48 + z) = a0 (48 + z) ∧ a (96 + z) = a0 (96 + z) ∧ a (144 + z) = a0 (144 + z) ∧ a (336 + z) = a0 (336 + z) ∧ ∀ k, k < 3 → a (192 + 3 * z + k) = a0 (192 + 3 * z + k)) ∧
  (∀ j, 384 ≤ j → a j = a0 j) ∧ xv_H a
theorem cp_78 {f_trials f_drafted f_pairs f_metCount f_meetingCount : Int32} {a_held a_saved a_draft a_toldBefore a_pairX a_pairY a_stack a_met a_metAs a_copies a_meetings a_wasMeeting a_firstMet a_depths a_isKept : Nat → Int32} {a0 : Nat → Int32} {m zf ix : Nat → Nat} {M : Nat} (g0 : xv_G a0) (hM48 : M ≤ 48) (hz : ∀ j, j < M → zf j < 48 ∧ ¬ xv_U a0 (zf j)) (inj : ∀ j j', j < M → j' < M → zf j = zf j' → j = j') (hm : ∀ j, j < M → xv_U a0 (m j) ∧ xv_L a0 (m j) = m j ∧ a_met j = nI (m j)) (hx : ∀ j, j < M → ∀ k, k < ma_ct (xv_K a0 (m j)) → ix (xv_L a0 (xv_P a0 (m j) k)) < M ∧ a_metAs (xv_L a0 (xv_P a0 (m j) k)) = nI (ix (xv_L a0 (xv_P a0 (m j) k)))) (hc : ∀ j, j < M → a_copies j = nI (zf j)) : ∀ d i (a_held : Nat → Int32), i + d = M → cp_G a0 m zf ix M i a_held → ∃ a' : Nat → Int32, cp_G a0 m zf ix M M a' ∧ ∀ post : Int32 → SX → Prop, wX_copy_114 post f_trials f_drafted f_pairs (nI M) f_meetingCount a' a_saved a_draft a_toldBefore a_pairX a_pairY a_stack a_met a_metAs a_copies a_meetings a_wasMeeting a_firstMet a_depths a_isKept → wX_copy_78 post (d + 1) (nI i) f_trials f_drafted f_pairs (nI M) f_meetingCount a_held a_saved a_draft a_toldBefore a_pairX a_pairY a_stack a_met a_metAs a_copies a_meetings a_wasMeeting a_firstMet a_depths a_isKept := by
  intro d
  induction d with
  | zero =>
    intro i a hi hG
    have ei : i = M := by omega
    rw [ei] at hG
    refine ⟨a, hG, fun post hp => ?_⟩
    rw [wX_copy_78]
    refine br_c (fun _ => hp) (fun _ => br_t ?_ hp)
    exact (nI_leI (by omega) (by omega)).mpr (by omega)
  | succ d ih =>
    intro i a hi hG
    obtain ⟨G1, G2, G3, G4, G5⟩ := hG
    obtain ⟨z48, nz⟩ := hz i (by omega)
    obtain ⟨um, lm, em⟩ := hm i (by omega)
    have m48 := um.1
    have oldc : ∀ y, xv_U a0 y → ∀ j, j < M → y ≠ zf j := fun y uy j hj e => (hz j hj).2 (by rw [← e]; exact uy)
    have cm := G3 (m i) m48 (oldc _ um)
    have eK : xv_K a (m i) = xv_K a0 (m i) := by
      rw [← xv_HK m48, ← xv_HK m48]; exact cm.2.1
    have ct3 := ma_ct_le (xv_K a0 (m i))
    have Uk : ∀ k, k < ma_ct (xv_K a0 (m i)) → xv_U a0 (xv_P a0 (m i) k) := by
      intro k hk
      refine g0.2.2 _ ⟨um, lm, fun q => ?_⟩ k hk
      rw [q, ma_ct_0] at hk
      omega
    have eP : ∀ k, k < ma_ct (xv_K a0 (m i)) → xv_P a (m i) k = xv_P a0 (m i) k := by
      intro k hk
      unfold xv_P
      rw [if_pos ⟨m48, by omega⟩, if_pos ⟨m48, by omega⟩, cm.2.2.2.2.2 k (by omega)]
    have eL : ∀ y, xv_U a0 y → xv_L a y = xv_L a0 y := by
      intro y uy
      unfold xv_L
      rw [if_pos uy.1, if_pos uy.1, (G3 y uy.1 (oldc y uy)).1]
    obtain ⟨a1, f1, f2, f3, f4, f5, f6⟩ := xw_fillCopy (f_trials := f_trials) (f_drafted := f_drafted) (f_pairs := f_pairs) (f_metCount := nI M) (f_meetingCount := f_meetingCount) (a_held := a) (a_saved := a_saved) (a_draft := a_draft) (a_toldBefore := a_toldBefore) (a_pairX := a_pairX) (a_pairY := a_pairY) (a_stack := a_stack) (a_met := a_met) (a_metAs := a_metAs) (a_copies := a_copies) (a_meetings := a_meetings) (a_wasMeeting := a_wasMeeting) (a_firstMet := a_firstMet) (a_depths := a_depths) (a_isKept := a_isKept) (c := m i) (z := zf i) (n := ma_ct (xv_K a0 (m i))) (g := fun k => zf (ix (xv_L a0 (xv_P a0 (m i) k)))) G5 m48 z48 (oldc _ um i (by omega)) (by rw [eK]) (by
      intro k hk
      rw [eP k hk, eL _ (Uk k hk)]
      obtain ⟨h1, h2⟩ := hx i (by omega) k hk
      exact ⟨_, by omega, h2, hc _ h1⟩) (by
      intro k hk
      rw [eP k hk]
      exact oldc _ (Uk k hk) i (by omega))
    have far : ∀ i', i' ≠ 48 + zf i → i' ≠ 96 + zf i → i' ≠ 144 + zf i → (i' < 192 + 3 * zf i ∨ 192 + 3 * zf i + 3 ≤ i') → a1 i' = a i' := fun i' h1 h2 h3 h4 => f5 i' h1 h2 h3 (by omega)
    have hG1 : cp_G a0 m zf ix M (i + 1) a1 := by
      refine ⟨fun j hj => ?_, fun j hj => ?_, fun z hz' nz' => ?_, fun j hj => ?_, ?_⟩
      · have := (hz j hj).1
        rw [far _ (by omega) (by omega) (by omega) (by omega), far _ (by omega) (by omega) (by omega) (by omega)]
        exact G1 j hj
      · by_cases e : j = i
        · rw [e]
          exact ⟨by rw [f1]; exact cm.2.1, by rw [f2]; exact cm.2.2.1, by rw [f3]; exact cm.2.2.2.1, f4⟩
        · have ne : zf j ≠ zf i := fun q => e (inj j i (by omega) (by omega) q)
          have j48 := (hz j (by omega)).1
          obtain ⟨q1, q2, q3, q4⟩ := G2 j (by omega)
          refine ⟨?_, ?_, ?_, fun k hk => ?_⟩
          · rw [far _ (by omega) (by omega) (by omega) (by omega)]; exact q1
          · rw [far _ (by omega) (by omega) (by omega) (by omega)]; exact q2
          · rw [far _ (by omega) (by omega) (by omega) (by omega)]; exact q3
          · have := ma_ct_le (xv_K a0 (m j))
            rw [far _ (by omega) (by omega) (by omega) (by omega)]; exact q4 k hk
      · have ne := nz' i (by omega)
        rw [far z (by omega) (by omega) (by omega) (by omega), far (48 + z) (by omega) (by omega) (by omega) (by omega), far (96 + z) (by omega) (by omega) (by omega) (by omega), far (144 + z) (by omega) (by omega) (by omega) (by omega), far (336 + z) (by omega) (by omega) (by omega) (by omega)]
        obtain ⟨q1, q2, q3, q4, q5, q6⟩ := G3 z hz' nz'
        refine ⟨q1, q2, q3, q4, q5, fun k hk => ?_⟩
        rw [far _ (by omega) (by omega) (by omega) (by omega)]; exact q6 k hk
      · rw [far j (by omega) (by omega) (by omega) (by omega)]; exact G4 j hj
      · obtain ⟨h1, h2, h3, h4, h5, h6⟩ := G5
        refine ⟨fun x hx => ?_, fun c hc => ?_, fun c k hc hk => ?_, fun x hx => ?_, fun c hc => ?_, fun c hc => ?_⟩
        · rw [far x (by omega) (by omega) (by omega) (by omega)]; exact h1 x hx
        · by_cases e : c = zf i
          · rw [e, f1, f3]; exact h2 _ m48
          · rw [far (144 + c) (by omega) (by omega) (by omega) (by omega), far (48 + c) (by omega) (by omega) (by omega) (by omega)]; exact h2 c hc
        · by_cases e : c = zf i
          · rw [e]
            by_cases q : k < ma_ct (xv_K a0 (m i))
            · exact ⟨_, (hz _ (hx i (by omega) k q).1).1, f4 k q⟩
            · rw [f5 _ (by omega) (by omega) (by omega) (by omega)]; exact h3 _ k z48 hk
          · rw [far _ (by omega) (by omega) (by omega) (by omega)]; exact h3 c k hc hk
        · rw [far (336 + x) (by omega) (by omega) (by omega) (by omega)]; exact h4 x hx
        · by_cases e : c = zf i
          · rw [e, f1, f2]; exact h5 _ m48
          · rw [far (48 + c) (by omega) (by omega) (by omega) (by omega), far (96 + c) (by omega) (by omega) (by omega) (by omega)]; exact h5 c hc
        · by_cases e : c = zf i
          · rw [e, f1]; exact h6 _ m48
          · rw [far (48 + c) (by omega) (by omega) (by omega) (by omega)]; exact h6 c hc
    obtain ⟨a', b1, b2⟩ := ih (i + 1) a1 (by omega) hG1
    refine ⟨a', b1, fun post hp => ?_⟩
    rw [wX_copy_78]
    refine br_f (fun q => by have := (li_ge48 (by omega)).mp q; omega) (br_f (fun q => by have := (nI_leI (by omega) (by omega)).mp q; omega) ?_)
    simp (disch := omega) only [forall_eq, true_and, and_true, Nat.zero_add, nI_clamp, li_vin, nI_add, nI_eq, nI_leI, nI_ltI, li_0le, li_lt0, li_nn1, li_e0, not_true_eq_false, not_false_eq_true, false_implies, true_implies, forall_const, li_a0, li_b0, li_a1, li_b1, li_a2, li_b2, li_a3, li_b3, li_a7, li_b7, li_a8, li_b8, li_a16, li_b16, li_a48, li_b48, li_a584, li_b584, li_a572, li_b572, li_a96, li_b96, li_a144, li_b144, li_a192, li_b192, li_a240, li_b240, li_a336, li_b336, li_a384, li_b384, li_a432, li_b432, li_a480, li_b480, li_a488, li_b488, li_a496, li_b496, li_a504, li_b504, li_a512, li_b512, li_a520, li_b520, li_a524, li_b524, li_a528, li_b528, li_a536, li_b536, li_a544, li_b544, li_a552, li_b552, li_a560, li_b560, li_a568, li_b568, li_a573, li_b573, li_a585, li_b585, li_a633, li_b633, li_m3, li_n3, li_m4, li_n4, li_m48, li_n48, li_m50, li_n50, li_m585, li_n585, li_m633, li_n633, li_lt2, li_ge2, li_le2, li_gt2, li_lt1, li_ge1, li_le1, li_gt1, li_lt3, li_ge3, li_le3, li_gt3, li_lt4, li_ge4, li_le4, li_gt4, li_lt7, li_ge7, li_le7, li_gt7, li_lt8, li_ge8, li_le8, li_gt8, li_lt40, li_ge40, li_le40, li_gt40, li_lt240, li_ge240, li_le240, li_gt240, li_lt41, li_ge41, li_le41, li_gt41, li_lt48, li_ge48, li_le48, li_gt48, li_lt49, li_ge49, li_le49, li_gt49, li_lt60, li_ge60, li_le60, li_gt60, li_lt144, li_ge144, li_le144, li_gt144, li_lt145, li_ge145, li_le145, li_gt145, li_lt160, li_ge160, li_le160, li_gt160, li_lt336, li_ge336, li_le336, li_gt336, li_lt585, li_ge585, li_le585, li_gt585, li_lt633, li_ge633, li_le633, li_gt633, li_lt1000000, li_ge1000000, li_le1000000, li_gt1000000, li_lt2304, li_ge2304, li_le2304, li_gt2304, li_lt50, li_ge50, li_le50, li_gt50, li_le0, li_gt0, em, hc i (by omega)]
    exact f6 _ (b2 post hp)
theorem yw_copy_19 {g_trials g_drafted g_found : Int32} {b_s b_saved b_draft b_who b_met b_stack b_fresh b_deep : Nat → Int32} {b_alike b_meets : Nat → Int64} {a0 : Nat → Int32} {M : Nat} (hM48 : M ≤ 48) (yU : yv_U b_s = xv_U a0) (hH : yv_H b_s) : ∀ d v (b_fresh : Nat → Int32), v + d = 48 → sc_n (fun v => ¬ xv_U a0 v) v ≤ M → (∀ j, j < sc_n (fun v => ¬ xv_U a0 v) v → ∃ z, fr_F a0 j z ∧ b_fresh j = nI z) → ∃ (n : Nat) (fresh : Nat → Int32), ((n = M ∧ ∀ j, j < M → ∃ z, fr_F a0 j z ∧ fresh j = nI z) ∨ (n < M ∧ sc_n (fun v => ¬ xv_U a0 v) 48 < M)) ∧ ∀ post : Int32 → SY → Prop, wY_copy_62 post (nI n) g_trials g_drafted (nI M) b_s b_saved b_draft b_who b_met b_stack fresh b_deep b_alike b_meets → wY_copy_19 post g_trials g_drafted (nI M) (d + 1) (nI (sc_n (fun v => ¬ xv_U a0 v) v)) (nI v) b_s b_saved b_draft b_who b_met b_stack b_fresh b_deep b_alike b_meets := by
  intro d
  induction d with
  | zero =>
    intro v fr hv hn hf
    have ev : v = 48 := by omega
    refine ⟨sc_n (fun v => ¬ xv_U a0 v) v, fr, ?_, fun post hp => ?_⟩
    · by_cases q : sc_n (fun v => ¬ xv_U a0 v) v = M
      · refine Or.inl ⟨q, ?_⟩
        rw [q] at hf
        exact hf
      · rw [ev] at q hn ⊢
        exact Or.inr ⟨by omega, by omega⟩
    · rw [wY_copy_19]
      exact br_t ((li_ge48 (by omega)).mpr (by omega)) hp
  | succ d ih =>
    intro v fr hv hn hf
    have c1 : ¬ (48 : Int32) ≤ nI v := fun q => by have := (li_ge48 (by omega)).mp q; omega
    by_cases full : M ≤ sc_n (fun v => ¬ xv_U a0 v) v
    · have en : sc_n (fun v => ¬ xv_U a0 v) v = M := by omega
      refine ⟨sc_n (fun v => ¬ xv_U a0 v) v, fr, Or.inl ⟨en, by rw [en] at hf; exact hf⟩, fun post hp => ?_⟩
      rw [wY_copy_19]
      exact br_f c1 (br_t ((nI_leI (by omega) (by omega)).mpr full) hp)
    · have c2 : ¬ nI M ≤ nI (sc_n (fun v => ¬ xv_U a0 v) v) := fun q => full ((nI_leI (by omega) (by omega)).mp q)
      by_cases u : xv_U a0 v
      · have e := sc_no (P := fun v => ¬ xv_U a0 v) (n := v) (fun z => z u)
        have uy : yv_U b_s v := by rw [yU]; exact u
        obtain ⟨n, fr', h1, h2⟩ := ih (v + 1) fr (by omega) (by omega) (by rw [e]; exact hf)
        refine ⟨n, fr', h1, fun post hp => ?_⟩
        have h2' := h2 post hp
        rw [e] at h2'
        rw [wY_copy_19]
        dsimp only
        refine br_f c1 (br_f c2 ?_)
        simp (disch := omega) only [forall_eq, true_and, and_true, Nat.zero_add, nI_clamp, li_vin, nI_add, nI_eq, nI_leI, nI_ltI, li_0le, li_lt0, li_nn1, li_e0, not_true_eq_false, not_false_eq_true, false_implies, true_implies, forall_const, li_a0, li_b0, li_a1, li_b1, li_a2, li_b2, li_a3, li_b3, li_a7, li_b7, li_a8, li_b8, li_a16, li_b16, li_a48, li_b48, li_a584, li_b584, li_a572, li_b572, li_a96, li_b96, li_a144, li_b144, li_a192, li_b192, li_a240, li_b240, li_a336, li_b336, li_a384, li_b384, li_a432, li_b432, li_a480, li_b480, li_a488, li_b488, li_a496, li_b496, li_a504, li_b504, li_a512, li_b512, li_a520, li_b520, li_a524, li_b524, li_a528, li_b528, li_a536, li_b536, li_a544, li_b544, li_a552, li_b552, li_a560, li_b560, li_a568, li_b568, li_a573, li_b573, li_a585, li_b585, li_a633, li_b633, li_m3, li_n3, li_m4, li_n4, li_m48, li_n48, li_m50, li_n50, li_m585, li_n585, li_m633, li_n633, li_lt2, li_ge2, li_le2, li_gt2, li_lt1, li_ge1, li_le1, li_gt1, li_lt3, li_ge3, li_le3, li_gt3, li_lt4, li_ge4, li_le4, li_gt4, li_lt7, li_ge7, li_le7, li_gt7, li_lt8, li_ge8, li_le8, li_gt8, li_lt40, li_ge40, li_le40, li_gt40, li_lt240, li_ge240, li_le240, li_gt240, li_lt41, li_ge41, li_le41, li_gt41, li_lt48, li_ge48, li_le48, li_gt48, li_lt49, li_ge49, li_le49, li_gt49, li_lt60, li_ge60, li_le60, li_gt60, li_lt144, li_ge144, li_le144, li_gt144, li_lt145, li_ge145, li_le145, li_gt145, li_lt160, li_ge160, li_le160, li_gt160, li_lt336, li_ge336, li_le336, li_gt336, li_lt585, li_ge585, li_le585, li_gt585, li_lt633, li_ge633, li_le633, li_gt633, li_lt1000000, li_ge1000000, li_le1000000, li_gt1000000, li_lt2304, li_ge2304, li_le2304, li_gt2304, li_lt50, li_ge50, li_le50, li_gt50, li_le0, li_gt0, uy.2]
        exact br_f (by decide) h2'
      · have e := sc_y (P := fun v => ¬ xv_U a0 v) (n := v) u
        have uy : b_s (384 + v) = 0 := by
          rcases hH.2.1 v (by omega) with q | q
          · exact absurd (by rw [← yU]; exact ⟨by omega, q⟩) u
          · exact q.1
        obtain ⟨n, fr', h1, h2⟩ := ih (v + 1) (upd fr (sc_n (fun v => ¬ xv_U a0 v) v) (nI v)) (by omega) (by omega) (by
          rw [e]
          intro j hj
          by_cases q : j = sc_n (fun v => ¬ xv_U a0 v) v
          · rw [q, pk_us]; exact ⟨v, ⟨by omega, u, rfl⟩, rfl⟩
          · rw [pk_un q]; exact hf j (by omega))
        refine ⟨n, fr', h1, fun post hp => ?_⟩
        have h2' := h2 post hp
        rw [e] at h2'
        rw [wY_copy_19]
        dsimp only
        refine br_f c1 (br_f c2 ?_)
        simp (disch := omega) only [forall_eq, true_and, and_true, Nat.zero_add, nI_clamp, li_vin, nI_add, nI_eq, nI_leI, nI_ltI, li_0le, li_lt0, li_nn1, li_e0, not_true_eq_false, not_false_eq_true, false_implies, true_implies, forall_const, li_a0, li_b0, li_a1, li_b1, li_a2, li_b2, li_a3, li_b3, li_a7, li_b7, li_a8, li_b8, li_a16, li_b16, li_a48, li_b48, li_a584, li_b584, li_a572, li_b572, li_a96, li_b96, li_a144, li_b144, li_a192, li_b192, li_a240, li_b240, li_a336, li_b336, li_a384, li_b384, li_a432, li_b432, li_a480, li_b480, li_a488, li_b488, li_a496, li_b496, li_a504, li_b504, li_a512, li_b512, li_a520, li_b520, li_a524, li_b524, li_a528, li_b528, li_a536, li_b536, li_a544, li_b544, li_a552, li_b552, li_a560, li_b560, li_a568, li_b568, li_a573, li_b573, li_a585, li_b585, li_a633, li_b633, li_m3, li_n3, li_m4, li_n4, li_m48, li_n48, li_m50, li_n50, li_m585, li_n585, li_m633, li_n633, li_lt2, li_ge2, li_le2, li_gt2, li_lt1, li_ge1, li_le1, li_gt1, li_lt3, li_ge3, li_le3, li_gt3, li_lt4, li_ge4, li_le4, li_gt4, li_lt7, li_ge7, li_le7, li_gt7, li_lt8, li_ge8, li_le8, li_gt8, li_lt40, li_ge40, li_le40, li_gt40, li_lt240, li_ge240, li_le240, li_gt240, li_lt41, li_ge41, li_le41, li_gt41, li_lt48, li_ge48, li_le48, li_gt48, li_lt49, li_ge49, li_le49, li_gt49, li_lt60, li_ge60, li_le60, li_gt60, li_lt144, li_ge144, li_le144, li_gt144, li_lt145, li_ge145, li_le145, li_gt145, li_lt160, li_ge160, li_le160, li_gt160, li_lt336, li_ge336, li_le336, li_gt336, li_lt585, li_ge585, li_le585, li_gt585, li_lt633, li_ge633, li_le633, li_gt633, li_lt1000000, li_ge1000000, li_le1000000, li_gt1000000, li_lt2304, li_ge2304, li_le2304, li_gt2304, li_lt50, li_ge50, li_le50, li_gt50, li_le0, li_gt0, uy]
        exact h2'
theorem yw_move {g_trials g_drafted g_found : Int32} {b_s b_saved b_draft b_who b_met b_stack b_fresh b_deep : Nat → Int32} {b_alike b_meets : Nat → Int64} {w z : Nat} (hw : w < 48) (hz : z < 48) (ne : w ≠ z) : ∃ s' : Nat → Int32, s' (48 + z) = b_s (48 + w) ∧ s' (96 + z) = b_s (96 + w) ∧ s' (144 + z) = b_s (144 + w) ∧ s' (192 + z) = b_s (192 + w) ∧ (∀ k, k < 3 → s' (240 + 3 * z + k) = b_s (240 + 3 * w + k)) ∧ (∀ i, i ≠ 48 + z → i ≠ 96 + z → i ≠ 144 + z → i ≠ 192 + z → (i < 240 + 3 * z ∨ 240 + 3 * z + 3 ≤ i) → s' i = b_s i) ∧ ∀ post : SY → Prop, post (g_trials, g_drafted, g_found, s', b_saved, b_draft, b_who, b_met, b_stack, b_fresh, b_deep, b_alike, b_meets) → wpY_move post (g_trials, g_drafted, g_found, b_s, b_saved, b_draft, b_who, b_met, b_stack, b_fresh, b_deep, b_alike, b_meets) (nI w) (nI z) := by
  have lp : ∀ d j (b_s : Nat → Int32), j + d = 3 → ∃ s' : Nat → Int32, (∀ k, j ≤ k → k < 3 → s' (240 + 3 * z + k) = b_s (240 + 3 * w + k)) ∧ (∀ i, (i < 240 + 3 * z + j ∨ 240 + 3 * z + 3 ≤ i) → s' i = b_s i) ∧ ∀ post : SY → Prop, post (g_trials, g_drafted, g_found, s', b_saved, b_draft, b_who, b_met, b_stack, b_fresh, b_deep, b_alike, b_meets) → wY_move_34 post (nI w) (nI z) g_trials g_drafted g_found (d + 1) (nI j) b_s b_saved b_draft b_who b_met b_stack b_fresh b_deep b_alike b_meets := by
    intro d
    induction d with
    | zero =>
      intro j s hj
      refine ⟨s, fun k h1 h2 => by omega, fun _ _ => rfl, fun post hp => ?_⟩
      unfold wY_move_34
      simp (disch := omega) only [forall_eq, true_and, and_true, Nat.zero_add, nI_clamp, li_vin, nI_add, nI_eq, nI_leI, nI_ltI, li_0le, li_lt0, li_nn1, li_e0, not_true_eq_false, not_false_eq_true, false_implies, true_implies, forall_const, li_a0, li_b0, li_a1, li_b1, li_a2, li_b2, li_a3, li_b3, li_a7, li_b7, li_a8, li_b8, li_a16, li_b16, li_a48, li_b48, li_a584, li_b584, li_a572, li_b572, li_a96, li_b96, li_a144, li_b144, li_a192, li_b192, li_a240, li_b240, li_a336, li_b336, li_a384, li_b384, li_a432, li_b432, li_a480, li_b480, li_a488, li_b488, li_a496, li_b496, li_a504, li_b504, li_a512, li_b512, li_a520, li_b520, li_a524, li_b524, li_a528, li_b528, li_a536, li_b536, li_a544, li_b544, li_a552, li_b552, li_a560, li_b560, li_a568, li_b568, li_a573, li_b573, li_a585, li_b585, li_a633, li_b633, li_m3, li_n3, li_m4, li_n4, li_m48, li_n48, li_m50, li_n50, li_m585, li_n585, li_m633, li_n633, li_lt2, li_ge2, li_le2, li_gt2, li_lt1, li_ge1, li_le1, li_gt1, li_lt3, li_ge3, li_le3, li_gt3, li_lt4, li_ge4, li_le4, li_gt4, li_lt7, li_ge7, li_le7, li_gt7, li_lt8, li_ge8, li_le8, li_gt8, li_lt40, li_ge40, li_le40, li_gt40, li_lt240, li_ge240, li_le240, li_gt240, li_lt41, li_ge41, li_le41, li_gt41, li_lt48, li_ge48, li_le48, li_gt48, li_lt49, li_ge49, li_le49, li_gt49, li_lt60, li_ge60, li_le60, li_gt60, li_lt144, li_ge144, li_le144, li_gt144, li_lt145, li_ge145, li_le145, li_gt145, li_lt160, li_ge160, li_le160, li_gt160, li_lt336, li_ge336, li_le336, li_gt336, li_lt585, li_ge585, li_le585, li_gt585, li_lt633, li_ge633, li_le633, li_gt633, li_lt1000000, li_ge1000000, li_le1000000, li_gt1000000, li_lt2304, li_ge2304, li_le2304, li_gt2304, li_lt50, li_ge50, li_le50, li_gt50, li_le0, li_gt0]
      exact ⟨fun _ => hp, fun q => by omega⟩
    | succ d ih =>
      intro j s hj
      obtain ⟨s', h1, h2, h3⟩ := ih (j + 1) (upd s (240 + 3 * z + j) (s (240 + 3 * w + j))) (by omega)
      refine ⟨s', ?_, ?_, fun post hp => ?_⟩
      · intro k k1 k2
        by_cases q : k = j
        · rw [q, h2 _ (by omega), pk_us]
        · rw [h1 k (by omega) k2, pk_un (by omega)]
      · intro i hi
        rw [h2 i (by omega), pk_un (by omega)]
      · unfold wY_move_34
        simp (disch := omega) only [forall_eq, true_and, and_true, Nat.zero_add, nI_clamp, li_vin, nI_add, nI_eq, nI_leI, nI_ltI, li_0le, li_lt0, li_nn1, li_e0, not_true_eq_false, not_false_eq_true, false_implies, true_implies, forall_const, li_a0, li_b0, li_a1, li_b1, li_a2, li_b2, li_a3, li_b3, li_a7, li_b7, li_a8, li_b8, li_a16, li_b16, li_a48, li_b48, li_a584, li_b584, li_a572, li_b572, li_a96, li_b96, li_a144, li_b144, li_a192, li_b192, li_a240, li_b240, li_a336, li_b336, li_a384, li_b384, li_a432, li_b432, li_a480, li_b480, li_a488, li_b488, li_a496, li_b496, li_a504, li_b504, li_a512, li_b512, li_a520, li_b520, li_a524, li_b524, li_a528, li_b528, li_a536, li_b536, li_a544, li_b544, li_a552, li_b552, li_a560, li_b560, li_a568, li_b568, li_a573, li_b573, li_a585, li_b585, li_a633, li_b633, li_m3, li_n3, li_m4, li_n4, li_m48, li_n48, li_m50, li_n50, li_m585, li_n585, li_m633, li_n633, li_lt2, li_ge2, li_le2, li_gt2, li_lt1, li_ge1, li_le1, li_gt1, li_lt3, li_ge3, li_le3, li_gt3, li_lt4, li_ge4, li_le4, li_gt4, li_lt7, li_ge7, li_le7, li_gt7, li_lt8, li_ge8, li_le8, li_gt8, li_lt40, li_ge40, li_le40, li_gt40, li_lt240, li_ge240, li_le240, li_gt240, li_lt41, li_ge41, li_le41, li_gt41, li_lt48, li_ge48, li_le48, li_gt48, li_lt49, li_ge49, li_le49, li_gt49, li_lt60, li_ge60, li_le60, li_gt60, li_lt144, li_ge144, li_le144, li_gt144, li_lt145, li_ge145, li_le145, li_gt145, li_lt160, li_ge160, li_le160, li_gt160, li_lt336, li_ge336, li_le336, li_gt336, li_lt585, li_ge585, li_le585, li_gt585, li_lt633, li_ge633, li_le633, li_gt633, li_lt1000000, li_ge1000000, li_le1000000, li_gt1000000, li_lt2304, li_ge2304, li_le2304, li_gt2304, li_lt50, li_ge50, li_le50, li_gt50, li_le0, li_gt0]
        exact ⟨fun q => by omega, fun _ => h3 post hp⟩
  obtain ⟨s', h1, h2, h3⟩ := lp 3 0 (upd (upd (upd (upd b_s (48 + z) (b_s (48 + w))) (96 + z) (b_s (96 + w))) (144 + z) (b_s (144 + w))) (192 + z) (b_s (192 + w))) rfl
  refine ⟨s', ?_, ?_, ?_, ?_, fun k hk => ?_, fun i i1 i2 i3 i4 i5 => ?_, fun post hp => ?_⟩
  · rw [h2 _ (by omega)]; simp (disch := omega) only [pk_un, pk_us]
  · rw [h2 _ (by omega)]; simp (disch := omega) only [pk_un, pk_us]
  · rw [h2 _ (by omega)]; simp (disch := omega) only [pk_un, pk_us]
  · rw [h2 _ (by omega)]; simp (disch := omega) only [pk_un, pk_us]
  · rw [h1 k (by omega) hk]; simp (disch := omega) only [pk_un]
  · rw [h2 i (by omega), pk_un i4, pk_un i3, pk_un i2, pk_un i1]
  · have h3' := h3 post hp
    unfold wpY_move
    refine ⟨5, ?_⟩
    show wY_move_3 post (nI w) (nI z) g_trials g_drafted g_found 5 (nI 48) b_s b_saved b_draft b_who b_met b_stack b_fresh b_deep b_alike b_meets
    rw [wY_move_3]
    dsimp only
    simp (disch := omega) only [forall_eq, true_and, and_true, Nat.zero_add, nI_clamp, li_vin, nI_add, nI_eq, nI_leI, nI_ltI, li_0le, li_lt0, li_nn1, li_e0, not_true_eq_false, not_false_eq_true, false_implies, true_implies, forall_const, li_a0, li_b0, li_a1, li_b1, li_a2, li_b2, li_a3, li_b3, li_a7, li_b7, li_a8, li_b8, li_a16, li_b16, li_a48, li_b48, li_a584, li_b584, li_a572, li_b572, li_a96, li_b96, li_a144, li_b144, li_a192, li_b192, li_a240, li_b240, li_a336, li_b336, li_a384, li_b384, li_a432, li_b432, li_a480, li_b480, li_a488, li_b488, li_a496, li_b496, li_a504, li_b504, li_a512, li_b512, li_a520, li_b520, li_a524, li_b524, li_a528, li_b528, li_a536, li_b536, li_a544, li_b544, li_a552, li_b552, li_a560, li_b560, li_a568, li_b568, li_a573, li_b573, li_a585, li_b585, li_a633, li_b633, li_m3, li_n3, li_m4, li_n4, li_m48, li_n48, li_m50, li_n50, li_m585, li_n585, li_m633, li_n633, li_lt2, li_ge2, li_le2, li_gt2, li_lt1, li_ge1, li_le1, li_gt1, li_lt3, li_ge3, li_le3, li_gt3, li_lt4, li_ge4, li_le4, li_gt4, li_lt7, li_ge7, li_le7, li_gt7, li_lt8, li_ge8, li_le8, li_gt8, li_lt40, li_ge40, li_le40, li_gt40, li_lt240, li_ge240, li_le240, li_gt240, li_lt41, li_ge41, li_le41, li_gt41, li_lt48, li_ge48, li_le48, li_gt48, li_lt49, li_ge49, li_le49, li_gt49, li_lt60, li_ge60, li_le60, li_gt60, li_lt144, li_ge144, li_le144, li_gt144, li_lt145, li_ge145, li_le145, li_gt145, li_lt160, li_ge160, li_le160, li_gt160, li_lt336, li_ge336, li_le336, li_gt336, li_lt585, li_ge585, li_le585, li_gt585, li_lt633, li_ge633, li_le633, li_gt633, li_lt1000000, li_ge1000000, li_le1000000, li_gt1000000, li_lt2304, li_ge2304, li_le2304, li_gt2304, li_lt50, li_ge50, li_le50, li_gt50, li_le0, li_gt0]
    refine ⟨fun q => by omega, fun _ => ?_⟩
    rw [wY_move_3]
    dsimp only
    simp (disch := omega) only [forall_eq, true_and, and_true, Nat.zero_add, nI_clamp, li_vin, nI_add, nI_eq, nI_leI, nI_ltI, li_0le, li_lt0, li_nn1, li_e0, not_true_eq_false, not_false_eq_true, false_implies, true_implies, forall_const, li_a0, li_b0, li_a1, li_b1, li_a2, li_b2, li_a3, li_b3, li_a7, li_b7, li_a8, li_b8, li_a16, li_b16, li_a48, li_b48, li_a584, li_b584, li_a572, li_b572, li_a96, li_b96, li_a144, li_b144, li_a192, li_b192, li_a240, li_b240, li_a336, li_b336, li_a384, li_b384, li_a432, li_b432, li_a480, li_b480, li_a488, li_b488, li_a496, li_b496, li_a504, li_b504, li_a512, li_b512, li_a520, li_b520, li_a524, li_b524, li_a528, li_b528, li_a536, li_b536, li_a544, li_b544, li_a552, li_b552, li_a560, li_b560, li_a568, li_b568, li_a573, li_b573, li_a585, li_b585, li_a633, li_b633, li_m3, li_n3, li_m4, li_n4, li_m48, li_n48, li_m50, li_n50, li_m585, li_n585, li_m633, li_n633, li_lt2, li_ge2, li_le2, li_gt2, li_lt1, li_ge1, li_le1, li_gt1, li_lt3, li_ge3, li_le3, li_gt3, li_lt4, li_ge4, li_le4, li_gt4, li_lt7, li_ge7, li_le7, li_gt7, li_lt8, li_ge8, li_le8, li_gt8, li_lt40, li_ge40, li_le40, li_gt40, li_lt240, li_ge240, li_le240, li_gt240, li_lt41, li_ge41, li_le41, li_gt41, li_lt48, li_ge48, li_le48, li_gt48, li_lt49, li_ge49, li_le49, li_gt49, li_lt60, li_ge60, li_le60, li_gt60, li_lt144, li_ge144, li_le144, li_gt144, li_lt145, li_ge145, li_le145, li_gt145, li_lt160, li_ge160, li_le160, li_gt160, li_lt336, li_ge336, li_le336, li_gt336, li_lt585, li_ge585, li_le585, li_gt585, li_lt633, li_ge633, li_le633, li_gt633, li_lt1000000, li_ge1000000, li_le1000000, li_gt1000000, li_lt2304, li_ge2304, li_le2304, li_gt2304, li_lt50, li_ge50, li_le50, li_gt50, li_le0, li_gt0]
    refine ⟨fun q => by omega, fun _ => ?_⟩
    rw [wY_move_3]
    dsimp only
    simp (disch := omega) only [forall_eq, true_and, and_true, Nat.zero_add, nI_clamp, li_vin, nI_add, nI_eq, nI_leI, nI_ltI, li_0le, li_lt0, li_nn1, li_e0, not_true_eq_false, not_false_eq_true, false_implies, true_implies, forall_const, li_a0, li_b0, li_a1, li_b1, li_a2, li_b2, li_a3, li_b3, li_a7, li_b7, li_a8, li_b8, li_a16, li_b16, li_a48, li_b48, li_a584, li_b584, li_a572, li_b572, li_a96, li_b96, li_a144, li_b144, li_a192, li_b192, li_a240, li_b240, li_a336, li_b336, li_a384, li_b384, li_a432, li_b432, li_a480, li_b480, li_a488, li_b488, li_a496, li_b496, li_a504, li_b504, li_a512, li_b512, li_a520, li_b520, li_a524, li_b524, li_a528, li_b528, li_a536, li_b536, li_a544, li_b544, li_a552, li_b552, li_a560, li_b560, li_a568, li_b568, li_a573, li_b573, li_a585, li_b585, li_a633, li_b633, li_m3, li_n3, li_m4, li_n4, li_m48, li_n48, li_m50, li_n50, li_m585, li_n585, li_m633, li_n633, li_lt2, li_ge2, li_le2, li_gt2, li_lt1, li_ge1, li_le1, li_gt1, li_lt3, li_ge3, li_le3, li_gt3, li_lt4, li_ge4, li_le4, li_gt4, li_lt7, li_ge7, li_le7, li_gt7, li_lt8, li_ge8, li_le8, li_gt8, li_lt40, li_ge40, li_le40, li_gt40, li_lt240, li_ge240, li_le240, li_gt240, li_lt41, li_ge41, li_le41, li_gt41, li_lt48, li_ge48, li_le48, li_gt48, li_lt49, li_ge49, li_le49, li_gt49, li_lt60, li_ge60, li_le60, li_gt60, li_lt144, li_ge144, li_le144, li_gt144, li_lt145, li_ge145, li_le145, li_gt145, li_lt160, li_ge160, li_le160, li_gt160, li_lt336, li_ge336, li_le336, li_gt336, li_lt585, li_ge585, li_le585, li_gt585, li_lt633, li_ge633, li_le633, li_gt633, li_lt1000000, li_ge1000000, li_le1000000, li_gt1000000, li_lt2304, li_ge2304, li_le2304, li_gt2304, li_lt50, li_ge50, li_le50, li_gt50, li_le0, li_gt0]
    refine ⟨fun q => by omega, fun _ => ?_⟩
    rw [wY_move_3]
    dsimp only
    simp (disch := omega) only [forall_eq, true_and, and_true, Nat.zero_add, nI_clamp, li_vin, nI_add, nI_eq, nI_leI, nI_ltI, li_0le, li_lt0, li_nn1, li_e0, not_true_eq_false, not_false_eq_true, false_implies, true_implies, forall_const, li_a0, li_b0, li_a1, li_b1, li_a2, li_b2, li_a3, li_b3, li_a7, li_b7, li_a8, li_b8, li_a16, li_b16, li_a48, li_b48, li_a584, li_b584, li_a572, li_b572, li_a96, li_b96, li_a144, li_b144, li_a192, li_b192, li_a240, li_b240, li_a336, li_b336, li_a384, li_b384, li_a432, li_b432, li_a480, li_b480, li_a488, li_b488, li_a496, li_b496, li_a504, li_b504, li_a512, li_b512, li_a520, li_b520, li_a524, li_b524, li_a528, li_b528, li_a536, li_b536, li_a544, li_b544, li_a552, li_b552, li_a560, li_b560, li_a568, li_b568, li_a573, li_b573, li_a585, li_b585, li_a633, li_b633, li_m3, li_n3, li_m4, li_n4, li_m48, li_n48, li_m50, li_n50, li_m585, li_n585, li_m633, li_n633, li_lt2, li_ge2, li_le2, li_gt2, li_lt1, li_ge1, li_le1, li_gt1, li_lt3, li_ge3, li_le3, li_gt3, li_lt4, li_ge4, li_le4, li_gt4, li_lt7, li_ge7, li_le7, li_gt7, li_lt8, li_ge8, li_le8, li_gt8, li_lt40, li_ge40, li_le40, li_gt40, li_lt240, li_ge240, li_le240, li_gt240, li_lt41, li_ge41, li_le41, li_gt41, li_lt48, li_ge48, li_le48, li_gt48, li_lt49, li_ge49, li_le49, li_gt49, li_lt60, li_ge60, li_le60, li_gt60, li_lt144, li_ge144, li_le144, li_gt144, li_lt145, li_ge145, li_le145, li_gt145, li_lt160, li_ge160, li_le160, li_gt160, li_lt336, li_ge336, li_le336, li_gt336, li_lt585, li_ge585, li_le585, li_gt585, li_lt633, li_ge633, li_le633, li_gt633, li_lt1000000, li_ge1000000, li_le1000000, li_gt1000000, li_lt2304, li_ge2304, li_le2304, li_gt2304, li_lt50, li_ge50, li_le50, li_gt50, li_le0, li_gt0]
    refine ⟨fun q => by omega, fun _ => ?_⟩
    rw [wY_move_3]
    dsimp only
    simp (disch := omega) only [forall_eq, true_and, and_true, Nat.zero_add, nI_clamp, li_vin, nI_add, nI_eq, nI_leI, nI_ltI, li_0le, li_lt0, li_nn1, li_e0, not_true_eq_false, not_false_eq_true, false_implies, true_implies, forall_const, li_a0, li_b0, li_a1, li_b1, li_a2, li_b2, li_a3, li_b3, li_a7, li_b7, li_a8, li_b8, li_a16, li_b16, li_a48, li_b48, li_a584, li_b584, li_a572, li_b572, li_a96, li_b96, li_a144, li_b144, li_a192, li_b192, li_a240, li_b240, li_a336, li_b336, li_a384, li_b384, li_a432, li_b432, li_a480, li_b480, li_a488, li_b488, li_a496, li_b496, li_a504, li_b504, li_a512, li_b512, li_a520, li_b520, li_a524, li_b524, li_a528, li_b528, li_a536, li_b536, li_a544, li_b544, li_a552, li_b552, li_a560, li_b560, li_a568, li_b568, li_a573, li_b573, li_a585, li_b585, li_a633, li_b633, li_m3, li_n3, li_m4, li_n4, li_m48, li_n48, li_m50, li_n50, li_m585, li_n585, li_m633, li_n633, li_lt2, li_ge2, li_le2, li_gt2, li_lt1, li_ge1, li_le1, li_gt1, li_lt3, li_ge3, li_le3, li_gt3, li_lt4, li_ge4, li_le4, li_gt4, li_lt7, li_ge7, li_le7, li_gt7, li_lt8, li_ge8, li_le8, li_gt8, li_lt40, li_ge40, li_le40, li_gt40, li_lt240, li_ge240, li_le240, li_gt240, li_lt41, li_ge41, li_le41, li_gt41, li_lt48, li_ge48, li_le48, li_gt48, li_lt49, li_ge49, li_le49, li_gt49, li_lt60, li_ge60, li_le60, li_gt60, li_lt144, li_ge144, li_le144, li_gt144, li_lt145, li_ge145, li_le145, li_gt145, li_lt160, li_ge160, li_le160, li_gt160, li_lt336, li_ge336, li_le336, li_gt336, li_lt585, li_ge585, li_le585, li_gt585, li_lt633, li_ge633, li_le633, li_gt633, li_lt1000000, li_ge1000000, li_le1000000, li_gt1000000, li_lt2304, li_ge2304, li_le2304, li_gt2304, li_lt50, li_ge50, li_le50, li_gt50, li_le0, li_gt0, pk_un]
    exact ⟨fun _ => ⟨_, h3'⟩, fun q => by omega⟩
