def cq_1 (a0 s0 : Nat → Int32) (zf ix : Nat → Nat) (z c : Nat) (s : Nat → Int32) : Prop :=
  s (384 + z) = 1 ∧ s z = nI z ∧ s (432 + z) = 0 ∧ s (480 + z) = 0 ∧ (∀ k, k < 3 → ∃ q, q < 48 ∧ s (240 + 3 * z + k) = nI q) ∧
  ((xv_K a0 c = 0 ∧ s (48 + z) = 0) ∨ (∃ w, (yv_T s0).1 w ∧ xv_L a0 w = c ∧ s (48 + z) = s0 (48 + w) ∧ s (96 + z) = s0 (96 + w) ∧ s (144 + z) = s0 (144 + w) ∧ s (192 + z) = s0 (192 + w) ∧ ∀ k, k < ma_ct (xv_K a0 c) → s (240 + 3 * z + k) = nI (zf (ix (xv_L a0 (xv_P a0 c k))))))
def cq_G (a0 s0 : Nat → Int32) (m zf ix : Nat → Nat) (i : Nat) (s : Nat → Int32) : Prop :=
  (∀ j, j < i → cq_1 a0 s0 zf ix (zf j) (m j) s) ∧
  (∀ z, z < 48 → (∀ j, j < i → z ≠ zf j) → s z = s0 z ∧ s (48 + z) = s0 (48 + z) ∧ s (96 + z) = s0 (96 + z) ∧ s (144 + z) = s0 (144 + z) ∧ s (192 + z) = s0 (192 + z) ∧ s (384 + z) = s0 (384 + z) ∧ s (432 + z) = s0 (432 + z) ∧ s (480 + z) = s0 (480 + z) ∧ ∀ k, k < 3 → s (240 + 3 * z + k) = s0 (240 + 3 * z + k)) ∧
  (∀ q, 528 ≤ q → q < 633 → s q = s0 q)
theorem yw_copy_129 {g_trials g_drafted g_found : Int32} {b_s b_saved b_draft b_who b_met b_stack b_fresh b_deep : Nat → Int32} {b_alike b_meets : Nat → Int64} {a0 : Nat → Int32} {m zf ix : Nat → Nat} {M c w z i : Nat} {D : Nat → Prop} (wf : ma_W (xv_U a0) (xv_L a0)) (hA : ∀ x y, xv_U a0 x → xv_U a0 y → (by_b (b_alike x) y = true ↔ ma_al (xv_U a0) (xv_L a0) (xv_T a0) x y)) (hM48 : M ≤ 48) (eM : g_found = nI M) (hm : ∀ j, j < M → ∃ q, b_met j = nI q ∧ xv_U a0 q ∧ xv_L a0 q = m j) (hf : ∀ j, j < M → b_fresh j = nI (zf j)) (w48 : w < 48) (z48 : z < 48) (ne : w ≠ z) (ct3 : c ≤ 3) (hD : ∀ e, D e → xv_U a0 e ∧ ix e < M ∧ ma_al (xv_U a0) (xv_L a0) (xv_T a0) e (m (ix e)) ∧ ∀ j, j < ix e → ¬ ma_al (xv_U a0) (xv_L a0) (xv_T a0) e (m j)) {q : Nat → Nat} (hq : ∀ k, k < c → xv_U a0 (q k) ∧ D (xv_L a0 (q k))) : ∀ d j (b_s : Nat → Int32), j + d = c → b_s (192 + w) = nI c → (∀ k, k < c → b_s (240 + 3 * w + k) = nI (q k)) → ∃ s' : Nat → Int32, (∀ k, j ≤ k → k < c → s' (240 + 3 * z + k) = nI (zf (ix (xv_L a0 (q k))))) ∧ (∀ i, (i < 240 + 3 * z + j ∨ 240 + 3 * z + c ≤ i) → s' i = b_s i) ∧ ∀ (post : Int32 → SY → Prop) (J75 : Int32 → Int32 → Int32 → Int32 → (Nat → Int32) → (Nat → Int32) → (Nat → Int32) → (Nat → Int32) → (Nat → Int32) → (Nat → Int32) → (Nat → Int32) → (Nat → Int32) → (Nat → Int64) → (Nat → Int64) → Prop), J75 (nI (i + 1)) g_trials g_drafted g_found s' b_saved b_draft b_who b_met b_stack b_fresh b_deep b_alike b_meets → wY_copy_129 post J75 (nI i) (nI z) (nI w) g_trials g_drafted g_found (d + 1) (nI j) b_s b_saved b_draft b_who b_met b_stack b_fresh b_deep b_alike b_meets := by
  intro d
  induction d with
  | zero =>
    intro j s hj ec hp
    refine ⟨s, fun k h1 h2 => by omega, fun _ _ => rfl, fun post J hpo => ?_⟩
    unfold wY_copy_129
    simp (disch := omega) only [forall_eq, true_and, and_true, Nat.zero_add, nI_clamp, li_vin, nI_add, nI_eq, nI_leI, nI_ltI, li_0le, li_lt0, li_nn1, li_e0, not_true_eq_false, not_false_eq_true, false_implies, true_implies, forall_const, li_a0, li_b0, li_a1, li_b1, li_a2, li_b2, li_a3, li_b3, li_a7, li_b7, li_a8, li_b8, li_a16, li_b16, li_a48, li_b48, li_a584, li_b584, li_a572, li_b572, li_a96, li_b96, li_a144, li_b144, li_a192, li_b192, li_a240, li_b240, li_a336, li_b336, li_a384, li_b384, li_a432, li_b432, li_a480, li_b480, li_a488, li_b488, li_a496, li_b496, li_a504, li_b504, li_a512, li_b512, li_a520, li_b520, li_a524, li_b524, li_a528, li_b528, li_a536, li_b536, li_a544, li_b544, li_a552, li_b552, li_a560, li_b560, li_a568, li_b568, li_a573, li_b573, li_a585, li_b585, li_a633, li_b633, li_m3, li_n3, li_m4, li_n4, li_m48, li_n48, li_m50, li_n50, li_m585, li_n585, li_m633, li_n633, li_lt2, li_ge2, li_le2, li_gt2, li_lt1, li_ge1, li_le1, li_gt1, li_lt3, li_ge3, li_le3, li_gt3, li_lt4, li_ge4, li_le4, li_gt4, li_lt7, li_ge7, li_le7, li_gt7, li_lt8, li_ge8, li_le8, li_gt8, li_lt40, li_ge40, li_le40, li_gt40, li_lt240, li_ge240, li_le240, li_gt240, li_lt41, li_ge41, li_le41, li_gt41, li_lt48, li_ge48, li_le48, li_gt48, li_lt49, li_ge49, li_le49, li_gt49, li_lt60, li_ge60, li_le60, li_gt60, li_lt144, li_ge144, li_le144, li_gt144, li_lt145, li_ge145, li_le145, li_gt145, li_lt160, li_ge160, li_le160, li_gt160, li_lt336, li_ge336, li_le336, li_gt336, li_lt585, li_ge585, li_le585, li_gt585, li_lt633, li_ge633, li_le633, li_gt633, li_lt1000000, li_ge1000000, li_le1000000, li_gt1000000, li_lt2304, li_ge2304, li_le2304, li_gt2304, li_lt50, li_ge50, li_le50, li_gt50, li_le0, li_gt0, ec]
    exact ⟨fun _ => hpo, fun q => by omega⟩
  | succ d ih =>
    intro j s hj ec hp
    have pj := hp j (by omega)
    obtain ⟨uq, dq⟩ := hq j (by omega)
    have q48 := uq.1
    obtain ⟨d1, d2, d3, d4⟩ := hD _ dq
    obtain ⟨r, r1, r2⟩ := yw_indexOf (g_trials := g_trials) (g_drafted := g_drafted) (g_found := g_found) (b_s := s) (b_saved := b_saved) (b_draft := b_draft) (b_who := b_who) (b_met := b_met) (b_stack := b_stack) (b_fresh := b_fresh) (b_deep := b_deep) (b_alike := b_alike) (b_meets := b_meets) (m := m) wf hA uq hM48 eM hm
    have er : r = nI (ix (xv_L a0 (q j))) := by
      rcases r1 with ⟨_, y⟩ | ⟨j1, y1, y2, y3, y4⟩
      · exact absurd d3 (y _ d2)
      · rcases Nat.lt_trichotomy (ix (xv_L a0 (q j))) j1 with t | t | t
        · exact absurd d3 (y4 _ t)
        · rw [y2, t]
        · exact absurd y3 (d4 j1 t)
    obtain ⟨s', h1, h2, h3⟩ := ih (j + 1) (upd s (240 + 3 * z + j) (nI (zf (ix (xv_L a0 (q j)))))) (by omega) (by rw [pk_un (by omega)]; exact ec) (fun k hk => by rw [pk_un (by omega)]; exact hp k hk)
    refine ⟨s', ?_, ?_, fun post J hpo => ?_⟩
    · intro k k1 k2
      by_cases e : k = j
      · rw [e, h2 _ (by omega), pk_us]
      · exact h1 k (by omega) k2
    · intro i hi
      rw [h2 i (by omega), pk_un (by omega)]
    · unfold wY_copy_129
      simp (disch := omega) only [forall_eq, true_and, and_true, Nat.zero_add, nI_clamp, li_vin, nI_add, nI_eq, nI_leI, nI_ltI, li_0le, li_lt0, li_nn1, li_e0, not_true_eq_false, not_false_eq_true, false_implies, true_implies, forall_const, li_a0, li_b0, li_a1, li_b1, li_a2, li_b2, li_a3, li_b3, li_a7, li_b7, li_a8, li_b8, li_a16, li_b16, li_a48, li_b48, li_a584, li_b584, li_a572, li_b572, li_a96, li_b96, li_a144, li_b144, li_a192, li_b192, li_a240, li_b240, li_a336, li_b336, li_a384, li_b384, li_a432, li_b432, li_a480, li_b480, li_a488, li_b488, li_a496, li_b496, li_a504, li_b504, li_a512, li_b512, li_a520, li_b520, li_a524, li_b524, li_a528, li_b528, li_a536, li_b536, li_a544, li_b544, li_a552, li_b552, li_a560, li_b560, li_a568, li_b568, li_a573, li_b573, li_a585, li_b585, li_a633, li_b633, li_m3, li_n3, li_m4, li_n4, li_m48, li_n48, li_m50, li_n50, li_m585, li_n585, li_m633, li_n633, li_lt2, li_ge2, li_le2, li_gt2, li_lt1, li_ge1, li_le1, li_gt1, li_lt3, li_ge3, li_le3, li_gt3, li_lt4, li_ge4, li_le4, li_gt4, li_lt7, li_ge7, li_le7, li_gt7, li_lt8, li_ge8, li_le8, li_gt8, li_lt40, li_ge40, li_le40, li_gt40, li_lt240, li_ge240, li_le240, li_gt240, li_lt41, li_ge41, li_le41, li_gt41, li_lt48, li_ge48, li_le48, li_gt48, li_lt49, li_ge49, li_le49, li_gt49, li_lt60, li_ge60, li_le60, li_gt60, li_lt144, li_ge144, li_le144, li_gt144, li_lt145, li_ge145, li_le145, li_gt145, li_lt160, li_ge160, li_le160, li_gt160, li_lt336, li_ge336, li_le336, li_gt336, li_lt585, li_ge585, li_le585, li_gt585, li_lt633, li_ge633, li_le633, li_gt633, li_lt1000000, li_ge1000000, li_le1000000, li_gt1000000, li_lt2304, li_ge2304, li_le2304, li_gt2304, li_lt50, li_ge50, li_le50, li_gt50, li_le0, li_gt0, ec, pj]
      refine ⟨fun q => by omega, fun _ => r2 _ ?_⟩
      rw [er]
      simp (disch := omega) only [forall_eq, true_and, and_true, Nat.zero_add, nI_clamp, li_vin, nI_add, nI_eq, nI_leI, nI_ltI, li_0le, li_lt0, li_nn1, li_e0, not_true_eq_false, not_false_eq_true, false_implies, true_implies, forall_const, li_a0, li_b0, li_a1, li_b1, li_a2, li_b2, li_a3, li_b3, li_a7, li_b7, li_a8, li_b8, li_a16, li_b16, li_a48, li_b48, li_a584, li_b584, li_a572, li_b572, li_a96, li_b96, li_a144, li_b144, li_a192, li_b192, li_a240, li_b240, li_a336, li_b336, li_a384, li_b384, li_a432, li_b432, li_a480, li_b480, li_a488, li_b488, li_a496, li_b496, li_a504, li_b504, li_a512, li_b512, li_a520, li_b520, li_a524, li_b524, li_a528, li_b528, li_a536, li_b536, li_a544, li_b544, li_a552, li_b552, li_a560, li_b560, li_a568, li_b568, li_a573, li_b573, li_a585, li_b585, li_a633, li_b633, li_m3, li_n3, li_m4, li_n4, li_m48, li_n48, li_m50, li_n50, li_m585, li_n585, li_m633, li_n633, li_lt2, li_ge2, li_le2, li_gt2, li_lt1, li_ge1, li_le1, li_gt1, li_lt3, li_ge3, li_le3, li_gt3, li_lt4, li_ge4, li_le4, li_gt4, li_lt7, li_ge7, li_le7, li_gt7, li_lt8, li_ge8, li_le8, li_gt8, li_lt40, li_ge40, li_le40, li_gt40, li_lt240, li_ge240, li_le240, li_gt240, li_lt41, li_ge41, li_le41, li_gt41, li_lt48, li_ge48, li_le48, li_gt48, li_lt49, li_ge49, li_le49, li_gt49, li_lt60, li_ge60, li_le60, li_gt60, li_lt144, li_ge144, li_le144, li_gt144, li_lt145, li_ge145, li_le145, li_gt145, li_lt160, li_ge160, li_le160, li_gt160, li_lt336, li_ge336, li_le336, li_gt336, li_lt585, li_ge585, li_le585, li_gt585, li_lt633, li_ge633, li_le633, li_gt633, li_lt1000000, li_ge1000000, li_le1000000, li_gt1000000, li_lt2304, li_ge2304, li_le2304, li_gt2304, li_lt50, li_ge50, li_le50, li_gt50, li_le0, li_gt0, hf _ d2]
      exact h3 post J hpo
theorem cq_keep {a0 s0 : Nat → Int32} {zf ix : Nat → Nat} {z c z' : Nat} {s s' : Nat → Int32} (hz : z < 48) (hz' : z' < 48) (ne : z ≠ z') (h : cq_1 a0 s0 zf ix z c s) (far : ∀ i, i ≠ z' → i ≠ 48 + z' → i ≠ 96 + z' → i ≠ 144 + z' → i ≠ 192 + z' → i ≠ 384 + z' → i ≠ 432 + z' → i ≠ 480 + z' → (i < 240 + 3 * z' ∨ 240 + 3 * z' + 3 ≤ i) → s' i = s i) : cq_1 a0 s0 zf ix z c s' := by
  have f : ∀ i, (i = z ∨ i = 48 + z ∨ i = 96 + z ∨ i = 144 + z ∨ i = 192 + z ∨ i = 384 + z ∨ i = 432 + z ∨ i = 480 + z ∨ (240 + 3 * z ≤ i ∧ i < 240 + 3 * z + 3)) → s' i = s i := fun i hi => far i (by omega) (by omega) (by omega) (by omega) (by omega) (by omega) (by omega) (by omega) (by omega)
  obtain ⟨h1, h2, h3, h4, h5, h6⟩ := h
  refine ⟨by rw [f _ (by omega)]; exact h1, by rw [f _ (by omega)]; exact h2, by rw [f _ (by omega)]; exact h3, by rw [f _ (by omega)]; exact h4, fun k hk => by rw [f _ (by omega)]; exact h5 k hk, ?_⟩
  rcases h6 with ⟨q1, q2⟩ | ⟨w, q1, q2, q3, q4, q5, q6, q7⟩
  · exact Or.inl ⟨q1, by rw [f _ (by omega)]; exact q2⟩
  · refine Or.inr ⟨w, q1, q2, by rw [f _ (by omega)]; exact q3, by rw [f _ (by omega)]; exact q4, by rw [f _ (by omega)]; exact q5, by rw [f _ (by omega)]; exact q6, fun k hk => ?_⟩
    have := ma_ct_le (xv_K a0 c)
    rw [f _ (by omega)]; exact q7 k hk
theorem yw_copy_75 {g_trials g_drafted g_found : Int32} {b_s b_saved b_draft b_who b_met b_stack b_fresh b_deep : Nat → Int32} {b_alike b_meets : Nat → Int64} {B : Nat} {a0 s0 : Nat → Int32} {m zf ix : Nat → Nat} {M : Nat} {D : Nat → Prop} (hr : re_P B a0 s0) (hR : yr_R a0 s0 b_who b_alike) (hM48 : M ≤ 48) (hz : ∀ j, j < M → zf j < 48 ∧ ¬ xv_U a0 (zf j)) (inj : ∀ j j', j < M → j' < M → zf j = zf j' → j = j') (hm : ∀ j, j < M → ∃ q, b_met j = nI q ∧ xv_U a0 q ∧ xv_L a0 q = m j) (hf : ∀ j, j < M → b_fresh j = nI (zf j)) (hD : ∀ e, D e → xv_U a0 e ∧ ix e < M ∧ ma_al (xv_U a0) (xv_L a0) (xv_T a0) e (m (ix e)) ∧ ∀ j, j < ix e → ¬ ma_al (xv_U a0) (xv_L a0) (xv_T a0) e (m j)) (hP : ∀ j, j < M → ∀ k, k < ma_ct (xv_K a0 (m j)) → D (xv_L a0 (xv_P a0 (m j) k))) : ∀ d i (b_s : Nat → Int32), i + d = M → cq_G a0 s0 m zf ix i b_s → ∃ s' : Nat → Int32, cq_G a0 s0 m zf ix M s' ∧ ∀ post : Int32 → SY → Prop, wpY_settle (fun u => match u with | (g_trials, g_drafted, g_found, b_s, b_saved, b_draft, b_who, b_met, b_stack, b_fresh, b_deep, b_alike, b_meets) => post (b_fresh 0) (g_trials, g_drafted, g_found, b_s, b_saved, b_draft, b_who, b_met, b_stack, b_fresh, b_deep, b_alike, b_meets)) (g_trials, g_drafted, nI M, s', b_saved, b_draft, b_who, b_met, b_stack, b_fresh, b_deep, b_alike, b_meets) → wY_copy_75 post (d + 1) (nI i) g_trials g_drafted (nI M) b_s b_saved b_draft b_who b_met b_stack b_fresh b_deep b_alike b_meets := by
  have wf := hr.2.2.2.2.1.1
  intro d
  induction d with
  | zero =>
    intro i s hi hG
    have ei : i = M := by omega
    rw [ei] at hG
    refine ⟨s, hG, fun post hp => ?_⟩
    rw [wY_copy_75]
    exact br_t ((nI_leI (by omega) (by omega)).mpr (by omega)) hp
  | succ d ih =>
    intro i s hi hG
    obtain ⟨G1, G2, G3⟩ := hG
    obtain ⟨z48, nz⟩ := hz i (by omega)
    obtain ⟨q, em, uq, lq⟩ := hm i (by omega)
    have q48 := uq.1
    have nf := hf i (by omega)
    have oldc : ∀ y, xv_U a0 y → ∀ j, j < M → y ≠ zf j := fun y uy j hj e => (hz j hj).2 (by rw [← e]; exact uy)
    have zi : ∀ j, j < i → zf i ≠ zf j := fun j hj e => by
      have := inj i j (by omega) (by omega) e
      omega
    have cz := G2 (zf i) z48 zi
    obtain ⟨s1, t1, t2⟩ := yw_use (g_trials := g_trials) (g_drafted := g_drafted) (g_found := nI M) (b_s := s) (b_saved := b_saved) (b_draft := b_draft) (b_who := b_who) (b_met := b_met) (b_stack := b_stack) (b_fresh := b_fresh) (b_deep := b_deep) (b_alike := b_alike) (b_meets := b_meets) z48
    obtain ⟨u1, u2, u3, u4, u5, u6⟩ := t1
    have c1 : ¬ nI M ≤ nI i := fun z => by have := (nI_leI (by omega) (by omega)).mp z; omega
    obtain ⟨n, n1, n2, n3⟩ := hR.1
    rcases yr_hw hr n1 n2 n3 uq with ⟨k0, wq⟩ | ⟨k0, w, w48, wq, tw, lw⟩
    · rw [lq] at k0
      have hG1 : cq_G a0 s0 m zf ix (i + 1) s1 := by
        refine ⟨fun j hj => ?_, fun z hz' nz' => ?_, fun p p1 p2 => ?_⟩
        · by_cases e : j = i
          · rw [e]
            refine ⟨u1, u2, u4, u5, fun k hk => ?_, Or.inl ⟨k0, u3⟩⟩
            rw [u6 _ (by omega) (by omega) (by omega) (by omega) (by omega), cz.2.2.2.2.2.2.2.2 k hk]
            exact hr.2.1.2.2.2 _ k z48 hk
          · have j48 := (hz j (by omega)).1
            exact cq_keep j48 z48 (fun q => zi j (by omega) q.symm) (G1 j (by omega)) (fun i' h1 h2 _ _ _ h6 h7 h8 _ => u6 i' h6 h1 h2 h7 h8)
        · have ne := nz' i (by omega)
          have := G2 z hz' (fun j hj => nz' j (by omega))
          rw [u6 z (by omega) (by omega) (by omega) (by omega) (by omega), u6 (48 + z) (by omega) (by omega) (by omega) (by omega) (by omega), u6 (96 + z) (by omega) (by omega) (by omega) (by omega) (by omega), u6 (144 + z) (by omega) (by omega) (by omega) (by omega) (by omega), u6 (192 + z) (by omega) (by omega) (by omega) (by omega) (by omega), u6 (384 + z) (by omega) (by omega) (by omega) (by omega) (by omega), u6 (432 + z) (by omega) (by omega) (by omega) (by omega) (by omega), u6 (480 + z) (by omega) (by omega) (by omega) (by omega) (by omega)]
          refine ⟨this.1, this.2.1, this.2.2.1, this.2.2.2.1, this.2.2.2.2.1, this.2.2.2.2.2.1, this.2.2.2.2.2.2.1, this.2.2.2.2.2.2.2.1, fun k hk => ?_⟩
          rw [u6 _ (by omega) (by omega) (by omega) (by omega) (by omega)]; exact this.2.2.2.2.2.2.2.2 k hk
        · rw [u6 p (by omega) (by omega) (by omega) (by omega) (by omega)]; exact G3 p p1 p2
      obtain ⟨s', b1, b2⟩ := ih (i + 1) s1 (by omega) hG1
      refine ⟨s', b1, fun post hp => ?_⟩
      rw [wY_copy_75]
      dsimp only
      refine br_f c1 ?_
      simp (disch := omega) only [forall_eq, true_and, and_true, Nat.zero_add, nI_clamp, li_vin, nI_add, nI_eq, nI_leI, nI_ltI, li_0le, li_lt0, li_nn1, li_e0, not_true_eq_false, not_false_eq_true, false_implies, true_implies, forall_const, li_a0, li_b0, li_a1, li_b1, li_a2, li_b2, li_a3, li_b3, li_a7, li_b7, li_a8, li_b8, li_a16, li_b16, li_a48, li_b48, li_a584, li_b584, li_a572, li_b572, li_a96, li_b96, li_a144, li_b144, li_a192, li_b192, li_a240, li_b240, li_a336, li_b336, li_a384, li_b384, li_a432, li_b432, li_a480, li_b480, li_a488, li_b488, li_a496, li_b496, li_a504, li_b504, li_a512, li_b512, li_a520, li_b520, li_a524, li_b524, li_a528, li_b528, li_a536, li_b536, li_a544, li_b544, li_a552, li_b552, li_a560, li_b560, li_a568, li_b568, li_a573, li_b573, li_a585, li_b585, li_a633, li_b633, li_m3, li_n3, li_m4, li_n4, li_m48, li_n48, li_m50, li_n50, li_m585, li_n585, li_m633, li_n633, li_lt2, li_ge2, li_le2, li_gt2, li_lt1, li_ge1, li_le1, li_gt1, li_lt3, li_ge3, li_le3, li_gt3, li_lt4, li_ge4, li_le4, li_gt4, li_lt7, li_ge7, li_le7, li_gt7, li_lt8, li_ge8, li_le8, li_gt8, li_lt40, li_ge40, li_le40, li_gt40, li_lt240, li_ge240, li_le240, li_gt240, li_lt41, li_ge41, li_le41, li_gt41, li_lt48, li_ge48, li_le48, li_gt48, li_lt49, li_ge49, li_le49, li_gt49, li_lt60, li_ge60, li_le60, li_gt60, li_lt144, li_ge144, li_le144, li_gt144, li_lt145, li_ge145, li_le145, li_gt145, li_lt160, li_ge160, li_le160, li_gt160, li_lt336, li_ge336, li_le336, li_gt336, li_lt585, li_ge585, li_le585, li_gt585, li_lt633, li_ge633, li_le633, li_gt633, li_lt1000000, li_ge1000000, li_le1000000, li_gt1000000, li_lt2304, li_ge2304, li_le2304, li_gt2304, li_lt50, li_ge50, li_le50, li_gt50, li_le0, li_gt0, nf, em, wq]
      refine t2 _ (br_f (by decide) ?_)
      exact b2 post hp
    · rw [lq] at k0 lw
      obtain ⟨_, y0, yk, yv, yc, yp⟩ := yr_xy hr tw lw
      have yU := re_U hr
      have uw : xv_U a0 w := by rw [← yU]; exact (yv_T1 tw).1
      have new : w ≠ zf i := oldc w uw i (by omega)
      have cw := G2 w w48 (fun j hj => oldc w uw j (by omega))
      have ct3 := ma_ct_le (xv_K a0 (m i))
      obtain ⟨s2, v1, v2, v3, v4, v5, v6, v7⟩ := yw_move (g_trials := g_trials) (g_drafted := g_drafted) (g_found := nI M) (b_s := s1) (b_saved := b_saved) (b_draft := b_draft) (b_who := b_who) (b_met := b_met) (b_stack := b_stack) (b_fresh := b_fresh) (b_deep := b_deep) (b_alike := b_alike) (b_meets := b_meets) w48 z48 new
      have s1w : ∀ i', i' = 48 + w ∨ i' = 96 + w ∨ i' = 144 + w ∨ i' = 192 + w ∨ (240 + 3 * w ≤ i' ∧ i' < 240 + 3 * w + 3) → s1 i' = s i' := fun i' h => u6 i' (by omega) (by omega) (by omega) (by omega) (by omega)
      have e192 : s2 (192 + w) = nI (ma_ct (xv_K a0 (m i))) := by
        rw [v6 _ (by omega) (by omega) (by omega) (by omega) (by omega), s1w _ (by omega), cw.2.2.2.2.1]; exact yc
      have parts : ∀ k, k < ma_ct (xv_K a0 (m i)) → s2 (240 + 3 * w + k) = nI (yv_P s0 w k) ∧ xv_U a0 (yv_P s0 w k) ∧ xv_L a0 (yv_P s0 w k) = xv_L a0 (xv_P a0 (m i) k) := by
        intro k hk
        have k3 : k < 3 := by omega
        obtain ⟨qq, w1, w2, w3⟩ := yp k hk
        have eq' : yv_P s0 w k = qq := by
          unfold yv_P
          have := w2.1
          rw [if_pos ⟨w48, k3⟩, w1, nI_clamp (by omega)]
        rw [eq']
        refine ⟨?_, w2, w3⟩
        rw [v6 _ (by omega) (by omega) (by omega) (by omega) (by omega), s1w _ (by omega), cw.2.2.2.2.2.2.2.2 k k3]; exact w1
      obtain ⟨s3, x1, x2, x3⟩ := yw_copy_129 (g_trials := g_trials) (g_drafted := g_drafted) (g_found := nI M) (b_s := b_s) (b_saved := b_saved) (b_draft := b_draft) (b_who := b_who) (b_met := b_met) (b_stack := b_stack) (b_fresh := b_fresh) (b_deep := b_deep) (b_alike := b_alike) (b_meets := b_meets) (m := m) (zf := zf) (ix := ix) (z := zf i) (w := w) (i := i) (q := yv_P s0 w) (D := D) (c := ma_ct (xv_K a0 (m i))) wf hR.2 hM48 rfl hm hf w48 z48 new ct3 hD (fun k hk => ⟨(parts k hk).2.1, by rw [(parts k hk).2.2]; exact hP i (by omega) k hk⟩) (ma_ct (xv_K a0 (m i))) 0 s2 (by omega) e192 (fun k hk => (parts k hk).1)
      have far : ∀ i', i' ≠ zf i → i' ≠ 48 + zf i → i' ≠ 96 + zf i → i' ≠ 144 + zf i → i' ≠ 192 + zf i → i' ≠ 384 + zf i → i' ≠ 432 + zf i → i' ≠ 480 + zf i → (i' < 240 + 3 * zf i ∨ 240 + 3 * zf i + 3 ≤ i') → s3 i' = s i' := by
        intro i' h1 h2 h3 h4 h5 h6 h7 h8 h9
        rw [x2 i' (by omega), v6 i' h2 h3 h4 h5 h9, u6 i' h6 h1 h2 h7 h8]
      have hG1 : cq_G a0 s0 m zf ix (i + 1) s3 := by
        refine ⟨fun j hj => ?_, fun z hz' nz' => ?_, fun p p1 p2 => ?_⟩
        · by_cases e : j = i
          · rw [e]
            refine ⟨?_, ?_, ?_, ?_, fun k hk => ?_, Or.inr ⟨w, tw, lw, ?_, ?_, ?_, ?_, fun k hk => ?_⟩⟩
            · rw [x2 _ (by omega), v6 _ (by omega) (by omega) (by omega) (by omega) (by omega)]; exact u1
            · rw [x2 _ (by omega), v6 _ (by omega) (by omega) (by omega) (by omega) (by omega)]; exact u2
            · rw [x2 _ (by omega), v6 _ (by omega) (by omega) (by omega) (by omega) (by omega)]; exact u4
            · rw [x2 _ (by omega), v6 _ (by omega) (by omega) (by omega) (by omega) (by omega)]; exact u5
            · by_cases z : k < ma_ct (xv_K a0 (m i))
              · have h3 := hP i (by omega) k z
                rw [x1 k (by omega) z, (parts k z).2.2]
                exact ⟨_, (hz _ (hD _ h3).2.1).1, rfl⟩
              · rw [x2 _ (by omega), v5 k hk, s1w _ (by omega), cw.2.2.2.2.2.2.2.2 k hk]
                exact hr.2.1.2.2.2 w k w48 hk
            · rw [x2 _ (by omega), v1, s1w _ (by omega)]; exact cw.2.1
            · rw [x2 _ (by omega), v2, s1w _ (by omega)]; exact cw.2.2.1
            · rw [x2 _ (by omega), v3, s1w _ (by omega)]; exact cw.2.2.2.1
            · rw [x2 _ (by omega), v4, s1w _ (by omega)]; exact cw.2.2.2.2.1
            · rw [x1 k (by omega) hk, (parts k hk).2.2]
          · have j48 := (hz j (by omega)).1
            exact cq_keep j48 z48 (fun q => zi j (by omega) q.symm) (G1 j (by omega)) far
        · have ne := nz' i (by omega)
          have := G2 z hz' (fun j hj => nz' j (by omega))
          have f : ∀ i', (i' = z ∨ i' = 48 + z ∨ i' = 96 + z ∨ i' = 144 + z ∨ i' = 192 + z ∨ i' = 384 + z ∨ i' = 432 + z ∨ i' = 480 + z ∨ (240 + 3 * z ≤ i' ∧ i' < 240 + 3 * z + 3)) → s3 i' = s i' := fun i' hi => far i' (by omega) (by omega) (by omega) (by omega) (by omega) (by omega) (by omega) (by omega) (by omega)
          rw [f z (by omega), f (48 + z) (by omega), f (96 + z) (by omega), f (144 + z) (by omega), f (192 + z) (by omega), f (384 + z) (by omega), f (432 + z) (by omega), f (480 + z) (by omega)]
          refine ⟨this.1, this.2.1, this.2.2.1, this.2.2.2.1, this.2.2.2.2.1, this.2.2.2.2.2.1, this.2.2.2.2.2.2.1, this.2.2.2.2.2.2.2.1, fun k hk => ?_⟩
          rw [f _ (by omega)]; exact this.2.2.2.2.2.2.2.2 k hk
        · rw [far p (by omega) (by omega) (by omega) (by omega) (by omega) (by omega) (by omega) (by omega) (by omega)]; exact G3 p p1 p2
      obtain ⟨s', b1, b2⟩ := ih (i + 1) s3 (by omega) hG1
      refine ⟨s', b1, fun post hp => ?_⟩
      rw [wY_copy_75]
      dsimp only
      refine br_f c1 ?_
      simp (disch := omega) only [forall_eq, true_and, and_true, Nat.zero_add, nI_clamp, li_vin, nI_add, nI_eq, nI_leI, nI_ltI, li_0le, li_lt0, li_nn1, li_e0, not_true_eq_false, not_false_eq_true, false_implies, true_implies, forall_const, li_a0, li_b0, li_a1, li_b1, li_a2, li_b2, li_a3, li_b3, li_a7, li_b7, li_a8, li_b8, li_a16, li_b16, li_a48, li_b48, li_a584, li_b584, li_a572, li_b572, li_a96, li_b96, li_a144, li_b144, li_a192, li_b192, li_a240, li_b240, li_a336, li_b336, li_a384, li_b384, li_a432, li_b432, li_a480, li_b480, li_a488, li_b488, li_a496, li_b496, li_a504, li_b504, li_a512, li_b512, li_a520, li_b520, li_a524, li_b524, li_a528, li_b528, li_a536, li_b536, li_a544, li_b544, li_a552, li_b552, li_a560, li_b560, li_a568, li_b568, li_a573, li_b573, li_a585, li_b585, li_a633, li_b633, li_m3, li_n3, li_m4, li_n4, li_m48, li_n48, li_m50, li_n50, li_m585, li_n585, li_m633, li_n633, li_lt2, li_ge2, li_le2, li_gt2, li_lt1, li_ge1, li_le1, li_gt1, li_lt3, li_ge3, li_le3, li_gt3, li_lt4, li_ge4, li_le4, li_gt4, li_lt7, li_ge7, li_le7, li_gt7, li_lt8, li_ge8, li_le8, li_gt8, li_lt40, li_ge40, li_le40, li_gt40, li_lt240, li_ge240, li_le240, li_gt240, li_lt41, li_ge41, li_le41, li_gt41, li_lt48, li_ge48, li_le48, li_gt48, li_lt49, li_ge49, li_le49, li_gt49, li_lt60, li_ge60, li_le60, li_gt60, li_lt144, li_ge144, li_le144, li_gt144, li_lt145, li_ge145, li_le145, li_gt145, li_lt160, li_ge160, li_le160, li_gt160, li_lt336, li_ge336, li_le336, li_gt336, li_lt585, li_ge585, li_le585, li_gt585, li_lt633, li_ge633, li_le633, li_gt633, li_lt1000000, li_ge1000000, li_le1000000, li_gt1000000, li_lt2304, li_ge2304, li_le2304, li_gt2304, li_lt50, li_ge50, li_le50, li_gt50, li_le0, li_gt0, nf, em, wq]
      refine t2 _ (v7 _ ⟨_, x3 post _ (b2 post hp)⟩)
/-- the copies on both sides -/
theorem cp_P {B : Nat} {a0 a s0 s : Nat → Int32} {m zf ix : Nat → Nat} {M : Nat} (r : re_P B a0 s0) (hz : ∀ j, j < M → zf j < 48 ∧ ¬ xv_U a0 (zf j)) (hm : ∀ j, j < M → xv_U a0 (m j) ∧ xv_L a0 (m j) = m j) (hx : ∀ j, j < M → ∀ k, k < ma_ct (xv_K a0 (m j)) → ix (xv_L a0 (xv_P a0 (m j) k)) < M) (hX : cp_G a0 m zf ix M M a) (hY : cq_G a0 s0 m zf ix M s) : re_P B a s := by
  obtain ⟨G1, G2, G3, G4, G5⟩ := hX
  obtain ⟨H1, H2, H3⟩ := hY
  have dec : ∀ z, (∃ j, j < M ∧ z = zf j) ∨ ∀ j, j < M → z ≠ zf j := by
    intro z
    by_cases q : ∃ j, j < M ∧ z = zf j
    · exact Or.inl q
    · exact Or.inr (fun j hj e => q ⟨j, hj, e⟩)
  have vY : yv_H s := by
    obtain ⟨g1, g2, g3, g4⟩ := r.2.1
    refine ⟨fun v hv => ?_, fun v hv => ?_, fun v hv => ?_, fun v k hv hk => ?_⟩
    · rcases dec v with ⟨j, hj, e⟩ | n
      · rw [e]; exact ⟨_, (hz j hj).1, (H1 j hj).2.1⟩
      · rw [(H2 v hv n).1]; exact g1 v hv
    · rcases dec v with ⟨j, hj, e⟩ | n
      · rw [e]; exact Or.inl (H1 j hj).1
      · obtain ⟨h1, h2, _, _, _, h6, _⟩ := H2 v hv n
        rw [h1, h2, h6]; exact g2 v hv
    · rcases dec v with ⟨j, hj, e⟩ | n
      · rw [e]
        rcases (H1 j hj).2.2.2.2.2 with ⟨_, q⟩ | ⟨w, tw, _, q1, q2, q3, q4, _⟩
        · exact Or.inl q
        · rw [q1, q2, q3, q4]; exact g3 w (yv_T1 tw).1.1
      · obtain ⟨h1, h2, h3, h4, h5, _⟩ := H2 v hv n
        rw [h2, h3, h4, h5]; exact g3 v hv
    · rcases dec v with ⟨j, hj, e⟩ | n
      · rw [e]; exact (H1 j hj).2.2.2.2.1 k hk
      · rw [(H2 v hv n).2.2.2.2.2.2.2.2 k hk]; exact g4 v k hv hk
  have K0 : ∀ j, j < M → a (48 + zf j) = xv_K a0 (m j) ∧ a (96 + zf j) = xv_V a0 (m j) := by
    intro j hj
    have m48 := (hm j hj).1.1
    rw [(G2 j hj).1, (G2 j hj).2.1, xv_HK (a := a0) m48, xv_HV (a := a0) m48]
    exact ⟨rfl, rfl⟩
  refine ex_P (F := fun z => ∃ j, j < M ∧ z = zf j) r ?_ ⟨?_, ?_, ?_⟩ ⟨?_, ?_, ?_⟩ G5 vY ?_ ?_
  · intro f ⟨j, hj, e⟩
    rw [e]; exact (hz j hj).2
  · intro f ⟨j, hj, e⟩
    rw [e]; exact ⟨(hz j hj).1, (G1 j hj).1, (G1 j hj).2⟩
  · intro x hx' n
    obtain ⟨h1, h2, h3, h4, h5, h6⟩ := G3 x hx' (fun j hj e => n ⟨j, hj, e⟩)
    exact ⟨h1, h2, h3, h5, h6⟩
  · exact G4
  · intro f ⟨j, hj, e⟩
    rw [e]
    obtain ⟨h1, h2, h3, h4, _⟩ := H1 j hj
    exact ⟨(hz j hj).1, h1, h2, h3, h4⟩
  · intro x hx' n
    exact H2 x hx' (fun j hj e => n ⟨j, hj, e⟩)
  · exact H3
  · intro f ⟨j, hj, e⟩
    rw [e, (K0 j hj).1]
    rcases (H1 j hj).2.2.2.2.2 with ⟨q1, q2⟩ | ⟨w, tw, lw, q1, _⟩
    · rw [q1, q2]
    · obtain ⟨_, y0, yk, _⟩ := yr_xy r tw lw
      rw [q1]
      refine ⟨fun _ => y0, fun _ z => ?_⟩
      have c1 := (ma_R_x r.2.2.2.2.1 tw).1
      rw [lw] at c1
      exact (xv_T1 c1).2.2 z
  · intro f ⟨j, hj, e⟩ k0
    rw [e] at k0 ⊢
    have z48 := (hz j hj).1
    rw [(K0 j hj).1] at k0
    rcases (H1 j hj).2.2.2.2.2 with ⟨q1, q2⟩ | ⟨w, tw, lw, q1, q2, q3, q4, q5⟩
    · exact absurd q1 k0
    · obtain ⟨w48, y0, yk, yv, yc, yp⟩ := yr_xy r tw lw
      have eX : (xv_T a).2.1 (zf j) = (xv_K a0 (m j), xv_V a0 (m j)) := by
        show (xv_K a (zf j), xv_V a (zf j)) = _
        rw [← xv_HK z48, ← xv_HV z48, (K0 j hj).1, (K0 j hj).2]
      have eY : (yv_T s).2.1 (zf j) = (xv_K a0 (m j), xv_V a0 (m j)) := by
        show (if zf j < 48 then (yv_k s (zf j), s (96 + zf j)) else (0, 0)) = _
        rw [if_pos z48]
        have : yv_k s (zf j) = yv_k s0 w := by
          unfold yv_k
          rw [q1, q3, q4]
        rw [this, yk, q2, yv]
      refine ⟨by rw [eX, eY], fun k hk => ?_⟩
      rw [eX] at hk
      have hk' : k < ma_ct (xv_K a0 (m j)) := hk
      have k3 : k < 3 := Nat.lt_of_lt_of_le hk' (ma_ct_le _)
      have i1 := hx j hj k hk'
      have zz := (hz _ i1).1
      have pX : (xv_T a).2.2 (zf j) k = zf (ix (xv_L a0 (xv_P a0 (m j) k))) := by
        have e' : xv_P a (zf j) k = (a (192 + 3 * zf j + k)).toNatClampNeg := if_pos ⟨z48, k3⟩
        show xv_P a (zf j) k = _
        rw [e', (G2 j hj).2.2.2 k hk', nI_clamp (by omega)]
      have pY : (yv_T s).2.2 (zf j) k = zf (ix (xv_L a0 (xv_P a0 (m j) k))) := by
        show yv_P s (zf j) k = _
        unfold yv_P
        rw [if_pos ⟨z48, k3⟩, q5 k hk', nI_clamp (by omega)]
      rw [pX, pY]
      exact ⟨rfl, zz, (G1 _ i1).1⟩
