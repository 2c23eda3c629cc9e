def dq_R (s : Nat → Int32) (n v : Nat) : Prop := v < 48 ∧ ys_h s n v ∧ s (48 + ys_f s n v) = 2
def dq_S (s : Nat → Int32) (n v d : Nat) : Prop := ∃ k, k < ma_ct ((yv_T s).2.1 (ys_f s n v)).1 ∧ d = yv_P s (ys_f s n v) k
theorem yw_deeper_31 {g_trials g_drafted g_found : Int32} {b_s b_saved b_draft b_who b_met b_stack b_fresh b_deep : Nat → Int32} {b_alike b_meets : Nat → Int64} {D : Nat → Nat} {M w : Nat} (h : yv_H b_s) (hw : w < 48) (w0 : b_s (48 + w) ≠ 0) (hV : dp_V D b_deep M) (hM : M < 100000) : ∀ d j m, j + d = ma_ct ((yv_T b_s).2.1 w).1 → m ≤ M → (∀ k, k < j → D (yv_P b_s w k) ≤ m) → (m = 0 ∨ ∃ k, k < j ∧ D (yv_P b_s w k) = m) → ∃ m', m' ≤ M ∧ (∀ k, k < ma_ct ((yv_T b_s).2.1 w).1 → D (yv_P b_s w k) ≤ m') ∧ (m' = 0 ∨ ∃ k, k < ma_ct ((yv_T b_s).2.1 w).1 ∧ D (yv_P b_s w k) = m') ∧ ∀ post : Int32 → Prop, post (nI (m' + 1)) → wY_deeper_31 post (nI w) g_trials g_drafted g_found b_s b_saved b_draft b_who b_met b_stack b_fresh b_deep b_alike b_meets (d + 1) (nI m) (nI j) := by
  have eu : (yv_T b_s).2.1 w = (yv_k b_s w, b_s (96 + w)) := if_pos hw
  have ct3 := ma_ct_le ((yv_T b_s).2.1 w).1
  have ec : b_s (192 + w) = nI (ma_ct ((yv_T b_s).2.1 w).1) := by
    rw [eu]; exact (yv_HC h hw w0).1
  intro d
  induction d with
  | zero =>
    intro j m hj hm h1 h2
    refine ⟨m, hm, fun k hk => h1 k (by omega), ?_, fun post hp => ?_⟩
    · rcases h2 with q | ⟨k, hk, q⟩
      · exact Or.inl q
      · exact Or.inr ⟨k, by omega, q⟩
    · unfold wY_deeper_31
      simp (disch := omega) only [forall_eq, true_and, and_true, Nat.zero_add, nI_clamp, li_vin, nI_add, nI_eq, nI_leI, nI_ltI, li_0le, li_lt0, li_nn1, li_e0, not_true_eq_false, not_false_eq_true, false_implies, true_implies, forall_const, li_a0, li_b0, li_a1, li_b1, li_a2, li_b2, li_a3, li_b3, li_a7, li_b7, li_a8, li_b8, li_a16, li_b16, li_a48, li_b48, li_a584, li_b584, li_a572, li_b572, li_a96, li_b96, li_a144, li_b144, li_a192, li_b192, li_a240, li_b240, li_a336, li_b336, li_a384, li_b384, li_a432, li_b432, li_a480, li_b480, li_a488, li_b488, li_a496, li_b496, li_a504, li_b504, li_a512, li_b512, li_a520, li_b520, li_a524, li_b524, li_a528, li_b528, li_a536, li_b536, li_a544, li_b544, li_a552, li_b552, li_a560, li_b560, li_a568, li_b568, li_a573, li_b573, li_a585, li_b585, li_a633, li_b633, li_m3, li_n3, li_m4, li_n4, li_m48, li_n48, li_m50, li_n50, li_m585, li_n585, li_m633, li_n633, li_lt2, li_ge2, li_le2, li_gt2, li_lt1, li_ge1, li_le1, li_gt1, li_lt3, li_ge3, li_le3, li_gt3, li_lt4, li_ge4, li_le4, li_gt4, li_lt7, li_ge7, li_le7, li_gt7, li_lt8, li_ge8, li_le8, li_gt8, li_lt40, li_ge40, li_le40, li_gt40, li_lt240, li_ge240, li_le240, li_gt240, li_lt41, li_ge41, li_le41, li_gt41, li_lt48, li_ge48, li_le48, li_gt48, li_lt49, li_ge49, li_le49, li_gt49, li_lt60, li_ge60, li_le60, li_gt60, li_lt144, li_ge144, li_le144, li_gt144, li_lt145, li_ge145, li_le145, li_gt145, li_lt160, li_ge160, li_le160, li_gt160, li_lt336, li_ge336, li_le336, li_gt336, li_lt585, li_ge585, li_le585, li_gt585, li_lt633, li_ge633, li_le633, li_gt633, li_lt1000000, li_ge1000000, li_le1000000, li_gt1000000, li_lt2304, li_ge2304, li_le2304, li_gt2304, li_lt50, li_ge50, li_le50, li_gt50, li_le0, li_gt0, ec]
      exact ⟨fun _ => hp, fun q => by omega⟩
  | succ d ih =>
    intro j m hj hm h1 h2
    obtain ⟨pe, pl⟩ := yv_HP h hw (k := j) (by omega)
    obtain ⟨de, dl⟩ := hV _ pl
    by_cases q : D (yv_P b_s w j) ≤ m
    · obtain ⟨m', a1, a2, a3, a4⟩ := ih (j + 1) m (by omega) hm (lt_s h1 q) (by
        rcases h2 with z | ⟨k, hk, z⟩
        · exact Or.inl z
        · exact Or.inr ⟨k, by omega, z⟩)
      refine ⟨m', a1, a2, a3, fun post hp => ?_⟩
      unfold wY_deeper_31
      simp (disch := omega) only [forall_eq, true_and, and_true, Nat.zero_add, nI_clamp, li_vin, nI_add, nI_eq, nI_leI, nI_ltI, li_0le, li_lt0, li_nn1, li_e0, not_true_eq_false, not_false_eq_true, false_implies, true_implies, forall_const, li_a0, li_b0, li_a1, li_b1, li_a2, li_b2, li_a3, li_b3, li_a7, li_b7, li_a8, li_b8, li_a16, li_b16, li_a48, li_b48, li_a584, li_b584, li_a572, li_b572, li_a96, li_b96, li_a144, li_b144, li_a192, li_b192, li_a240, li_b240, li_a336, li_b336, li_a384, li_b384, li_a432, li_b432, li_a480, li_b480, li_a488, li_b488, li_a496, li_b496, li_a504, li_b504, li_a512, li_b512, li_a520, li_b520, li_a524, li_b524, li_a528, li_b528, li_a536, li_b536, li_a544, li_b544, li_a552, li_b552, li_a560, li_b560, li_a568, li_b568, li_a573, li_b573, li_a585, li_b585, li_a633, li_b633, li_m3, li_n3, li_m4, li_n4, li_m48, li_n48, li_m50, li_n50, li_m585, li_n585, li_m633, li_n633, li_lt2, li_ge2, li_le2, li_gt2, li_lt1, li_ge1, li_le1, li_gt1, li_lt3, li_ge3, li_le3, li_gt3, li_lt4, li_ge4, li_le4, li_gt4, li_lt7, li_ge7, li_le7, li_gt7, li_lt8, li_ge8, li_le8, li_gt8, li_lt40, li_ge40, li_le40, li_gt40, li_lt240, li_ge240, li_le240, li_gt240, li_lt41, li_ge41, li_le41, li_gt41, li_lt48, li_ge48, li_le48, li_gt48, li_lt49, li_ge49, li_le49, li_gt49, li_lt60, li_ge60, li_le60, li_gt60, li_lt144, li_ge144, li_le144, li_gt144, li_lt145, li_ge145, li_le145, li_gt145, li_lt160, li_ge160, li_le160, li_gt160, li_lt336, li_ge336, li_le336, li_gt336, li_lt585, li_ge585, li_le585, li_gt585, li_lt633, li_ge633, li_le633, li_gt633, li_lt1000000, li_ge1000000, li_le1000000, li_gt1000000, li_lt2304, li_ge2304, li_le2304, li_gt2304, li_lt50, li_ge50, li_le50, li_gt50, li_le0, li_gt0, ec, pe, de]
      exact ⟨fun q => by omega, fun _ => ⟨fun _ => a4 post hp, fun z => absurd q z⟩⟩
    · obtain ⟨m', a1, a2, a3, a4⟩ := ih (j + 1) (D (yv_P b_s w j)) (by omega) dl (lt_s (fun k hk => by have := h1 k hk; omega) (Nat.le_refl _)) (Or.inr ⟨j, by omega, rfl⟩)
      refine ⟨m', a1, a2, a3, fun post hp => ?_⟩
      unfold wY_deeper_31
      simp (disch := omega) only [forall_eq, true_and, and_true, Nat.zero_add, nI_clamp, li_vin, nI_add, nI_eq, nI_leI, nI_ltI, li_0le, li_lt0, li_nn1, li_e0, not_true_eq_false, not_false_eq_true, false_implies, true_implies, forall_const, li_a0, li_b0, li_a1, li_b1, li_a2, li_b2, li_a3, li_b3, li_a7, li_b7, li_a8, li_b8, li_a16, li_b16, li_a48, li_b48, li_a584, li_b584, li_a572, li_b572, li_a96, li_b96, li_a144, li_b144, li_a192, li_b192, li_a240, li_b240, li_a336, li_b336, li_a384, li_b384, li_a432, li_b432, li_a480, li_b480, li_a488, li_b488, li_a496, li_b496, li_a504, li_b504, li_a512, li_b512, li_a520, li_b520, li_a524, li_b524, li_a528, li_b528, li_a536, li_b536, li_a544, li_b544, li_a552, li_b552, li_a560, li_b560, li_a568, li_b568, li_a573, li_b573, li_a585, li_b585, li_a633, li_b633, li_m3, li_n3, li_m4, li_n4, li_m48, li_n48, li_m50, li_n50, li_m585, li_n585, li_m633, li_n633, li_lt2, li_ge2, li_le2, li_gt2, li_lt1, li_ge1, li_le1, li_gt1, li_lt3, li_ge3, li_le3, li_gt3, li_lt4, li_ge4, li_le4, li_gt4, li_lt7, li_ge7, li_le7, li_gt7, li_lt8, li_ge8, li_le8, li_gt8, li_lt40, li_ge40, li_le40, li_gt40, li_lt240, li_ge240, li_le240, li_gt240, li_lt41, li_ge41, li_le41, li_gt41, li_lt48, li_ge48, li_le48, li_gt48, li_lt49, li_ge49, li_le49, li_gt49, li_lt60, li_ge60, li_le60, li_gt60, li_lt144, li_ge144, li_le144, li_gt144, li_lt145, li_ge145, li_le145, li_gt145, li_lt160, li_ge160, li_le160, li_gt160, li_lt336, li_ge336, li_le336, li_gt336, li_lt585, li_ge585, li_le585, li_gt585, li_lt633, li_ge633, li_le633, li_gt633, li_lt1000000, li_ge1000000, li_le1000000, li_gt1000000, li_lt2304, li_ge2304, li_le2304, li_gt2304, li_lt50, li_ge50, li_le50, li_gt50, li_le0, li_gt0, ec, pe, de]
      exact ⟨fun q => by omega, fun _ => ⟨fun z => absurd z q, fun _ => a4 post hp⟩⟩
theorem yw_deeper {g_trials g_drafted g_found : Int32} {b_s b_saved b_draft b_who b_met b_stack b_fresh b_deep : Nat → Int32} {b_alike b_meets : Nat → Int64} {D : Nat → Nat} {M n v : Nat} (h : yv_H b_s) (hn : n ≤ 48) (hW : ∀ v, v < 48 → b_who v = ys_wh b_s (b_s v) n) (hv : v < 48) (hV : dp_V D b_deep M) (hM : M < 100000) : ∃ e, e ≤ M + 1 ∧ ((¬ dq_R b_s n v ∧ e = 0) ∨ (dq_R b_s n v ∧ ∃ m, e = m + 1 ∧ (∀ d, dq_S b_s n v d → D d ≤ m) ∧ (m = 0 ∨ ∃ d, dq_S b_s n v d ∧ D d = m))) ∧ ∀ post : Int32 → Prop, post (nI e) → wpY_deeper post (g_trials, g_drafted, g_found, b_s, b_saved, b_draft, b_who, b_met, b_stack, b_fresh, b_deep, b_alike, b_meets) (nI v) := by
  by_cases a : ys_h b_s n v
  · obtain ⟨a1, a2, a3, a4⟩ := ys_hf hn a
    by_cases b : b_s (48 + ys_f b_s n v) = 2
    · obtain ⟨m', b1, b2, b3, b4⟩ := yw_deeper_31 (g_trials := g_trials) (g_drafted := g_drafted) (g_found := g_found) (b_s := b_s) (b_saved := b_saved) (b_draft := b_draft) (b_who := b_who) (b_met := b_met) (b_stack := b_stack) (b_fresh := b_fresh) (b_deep := b_deep) (b_alike := b_alike) (b_meets := b_meets) h (w := ys_f b_s n v) (by omega) a4 hV hM (ma_ct ((yv_T b_s).2.1 (ys_f b_s n v)).1) 0 0 (by omega) (by omega) (fun k hk => by omega) (Or.inl rfl)
      refine ⟨m' + 1, by omega, Or.inr ⟨⟨hv, a, b⟩, m', rfl, ?_, ?_⟩, fun post hp => ?_⟩
      · intro d ⟨k, hk, e⟩
        rw [e]; exact b2 k hk
      · rcases b3 with z | ⟨k, hk, z⟩
        · exact Or.inl z
        · exact Or.inr ⟨_, ⟨k, hk, rfl⟩, z⟩
      · unfold wpY_deeper
        simp (disch := omega) only [forall_eq, true_and, and_true, Nat.zero_add, nI_clamp, li_vin, nI_add, nI_eq, nI_leI, nI_ltI, li_0le, li_lt0, li_nn1, li_e0, not_true_eq_false, not_false_eq_true, false_implies, true_implies, forall_const, li_a0, li_b0, li_a1, li_b1, li_a2, li_b2, li_a3, li_b3, li_a7, li_b7, li_a8, li_b8, li_a16, li_b16, li_a48, li_b48, li_a584, li_b584, li_a572, li_b572, li_a96, li_b96, li_a144, li_b144, li_a192, li_b192, li_a240, li_b240, li_a336, li_b336, li_a384, li_b384, li_a432, li_b432, li_a480, li_b480, li_a488, li_b488, li_a496, li_b496, li_a504, li_b504, li_a512, li_b512, li_a520, li_b520, li_a524, li_b524, li_a528, li_b528, li_a536, li_b536, li_a544, li_b544, li_a552, li_b552, li_a560, li_b560, li_a568, li_b568, li_a573, li_b573, li_a585, li_b585, li_a633, li_b633, li_m3, li_n3, li_m4, li_n4, li_m48, li_n48, li_m50, li_n50, li_m585, li_n585, li_m633, li_n633, li_lt2, li_ge2, li_le2, li_gt2, li_lt1, li_ge1, li_le1, li_gt1, li_lt3, li_ge3, li_le3, li_gt3, li_lt4, li_ge4, li_le4, li_gt4, li_lt7, li_ge7, li_le7, li_gt7, li_lt8, li_ge8, li_le8, li_gt8, li_lt40, li_ge40, li_le40, li_gt40, li_lt240, li_ge240, li_le240, li_gt240, li_lt41, li_ge41, li_le41, li_gt41, li_lt48, li_ge48, li_le48, li_gt48, li_lt49, li_ge49, li_le49, li_gt49, li_lt60, li_ge60, li_le60, li_gt60, li_lt144, li_ge144, li_le144, li_gt144, li_lt145, li_ge145, li_le145, li_gt145, li_lt160, li_ge160, li_le160, li_gt160, li_lt336, li_ge336, li_le336, li_gt336, li_lt585, li_ge585, li_le585, li_gt585, li_lt633, li_ge633, li_le633, li_gt633, li_lt1000000, li_ge1000000, li_le1000000, li_gt1000000, li_lt2304, li_ge2304, li_le2304, li_gt2304, li_lt50, li_ge50, li_le50, li_gt50, li_le0, li_gt0, hW v hv, a1]
        exact br_t b ⟨_, b4 post hp⟩
    · refine ⟨0, by omega, Or.inl ⟨fun q => b q.2.2, rfl⟩, fun post hp => ?_⟩
      unfold wpY_deeper
      simp (disch := omega) only [forall_eq, true_and, and_true, Nat.zero_add, nI_clamp, li_vin, nI_add, nI_eq, nI_leI, nI_ltI, li_0le, li_lt0, li_nn1, li_e0, not_true_eq_false, not_false_eq_true, false_implies, true_implies, forall_const, li_a0, li_b0, li_a1, li_b1, li_a2, li_b2, li_a3, li_b3, li_a7, li_b7, li_a8, li_b8, li_a16, li_b16, li_a48, li_b48, li_a584, li_b584, li_a572, li_b572, li_a96, li_b96, li_a144, li_b144, li_a192, li_b192, li_a240, li_b240, li_a336, li_b336, li_a384, li_b384, li_a432, li_b432, li_a480, li_b480, li_a488, li_b488, li_a496, li_b496, li_a504, li_b504, li_a512, li_b512, li_a520, li_b520, li_a524, li_b524, li_a528, li_b528, li_a536, li_b536, li_a544, li_b544, li_a552, li_b552, li_a560, li_b560, li_a568, li_b568, li_a573, li_b573, li_a585, li_b585, li_a633, li_b633, li_m3, li_n3, li_m4, li_n4, li_m48, li_n48, li_m50, li_n50, li_m585, li_n585, li_m633, li_n633, li_lt2, li_ge2, li_le2, li_gt2, li_lt1, li_ge1, li_le1, li_gt1, li_lt3, li_ge3, li_le3, li_gt3, li_lt4, li_ge4, li_le4, li_gt4, li_lt7, li_ge7, li_le7, li_gt7, li_lt8, li_ge8, li_le8, li_gt8, li_lt40, li_ge40, li_le40, li_gt40, li_lt240, li_ge240, li_le240, li_gt240, li_lt41, li_ge41, li_le41, li_gt41, li_lt48, li_ge48, li_le48, li_gt48, li_lt49, li_ge49, li_le49, li_gt49, li_lt60, li_ge60, li_le60, li_gt60, li_lt144, li_ge144, li_le144, li_gt144, li_lt145, li_ge145, li_le145, li_gt145, li_lt160, li_ge160, li_le160, li_gt160, li_lt336, li_ge336, li_le336, li_gt336, li_lt585, li_ge585, li_le585, li_gt585, li_lt633, li_ge633, li_le633, li_gt633, li_lt1000000, li_ge1000000, li_le1000000, li_gt1000000, li_lt2304, li_ge2304, li_le2304, li_gt2304, li_lt50, li_ge50, li_le50, li_gt50, li_le0, li_gt0, hW v hv, a1]
      exact br_f b hp
  · have a' : ys_wh b_s (b_s v) n = -1 := Classical.byContradiction a
    refine ⟨0, by omega, Or.inl ⟨fun q => a q.2.1, rfl⟩, fun post hp => ?_⟩
    unfold wpY_deeper
    simp (disch := omega) only [forall_eq, true_and, and_true, Nat.zero_add, nI_clamp, li_vin, nI_add, nI_eq, nI_leI, nI_ltI, li_0le, li_lt0, li_nn1, li_e0, not_true_eq_false, not_false_eq_true, false_implies, true_implies, forall_const, li_a0, li_b0, li_a1, li_b1, li_a2, li_b2, li_a3, li_b3, li_a7, li_b7, li_a8, li_b8, li_a16, li_b16, li_a48, li_b48, li_a584, li_b584, li_a572, li_b572, li_a96, li_b96, li_a144, li_b144, li_a192, li_b192, li_a240, li_b240, li_a336, li_b336, li_a384, li_b384, li_a432, li_b432, li_a480, li_b480, li_a488, li_b488, li_a496, li_b496, li_a504, li_b504, li_a512, li_b512, li_a520, li_b520, li_a524, li_b524, li_a528, li_b528, li_a536, li_b536, li_a544, li_b544, li_a552, li_b552, li_a560, li_b560, li_a568, li_b568, li_a573, li_b573, li_a585, li_b585, li_a633, li_b633, li_m3, li_n3, li_m4, li_n4, li_m48, li_n48, li_m50, li_n50, li_m585, li_n585, li_m633, li_n633, li_lt2, li_ge2, li_le2, li_gt2, li_lt1, li_ge1, li_le1, li_gt1, li_lt3, li_ge3, li_le3, li_gt3, li_lt4, li_ge4, li_le4, li_gt4, li_lt7, li_ge7, li_le7, li_gt7, li_lt8, li_ge8, li_le8, li_gt8, li_lt40, li_ge40, li_le40, li_gt40, li_lt240, li_ge240, li_le240, li_gt240, li_lt41, li_ge41, li_le41, li_gt41, li_lt48, li_ge48, li_le48, li_gt48, li_lt49, li_ge49, li_le49, li_gt49, li_lt60, li_ge60, li_le60, li_gt60, li_lt144, li_ge144, li_le144, li_gt144, li_lt145, li_ge145, li_le145, li_gt145, li_lt160, li_ge160, li_le160, li_gt160, li_lt336, li_ge336, li_le336, li_gt336, li_lt585, li_ge585, li_le585, li_gt585, li_lt633, li_ge633, li_le633, li_gt633, li_lt1000000, li_ge1000000, li_le1000000, li_gt1000000, li_lt2304, li_ge2304, li_le2304, li_gt2304, li_lt50, li_ge50, li_le50, li_gt50, li_le0, li_gt0, hW v hv, a']
    exact br_t (by decide) hp
theorem yw_depth_42 {g_trials g_drafted g_found : Int32} {b_s b_saved b_draft b_who b_met b_stack b_fresh b_deep : Nat → Int32} {b_alike b_meets : Nat → Int64} {n n' x : Nat} (h : yv_H b_s) (hn : n ≤ 48) (hW : ∀ v, v < 48 → b_who v = ys_wh b_s (b_s v) n) (hn' : n' ≤ 48) (n0 : 0 < n') (hRn : ∀ v, dq_R b_s n v → v < n') (hx : x < 48) : ∀ d r j (D : Nat → Nat) (b_deep : Nat → Int32), r * n' + j + d = 50 * n' → j < n' → dp_I (dq_R b_s n) (dq_S b_s n) D r j → dp_V D b_deep (r * n' + j) → ∃ (D' : Nat) (dep : Nat → Int32) (a : Int32), ma_pt (dq_R b_s n) (dq_S b_s n) D' x ∧ (∀ q, q ≤ 49 → ma_pt (dq_R b_s n) (dq_S b_s n) q x → q ≤ D') ∧ dp_A D' a ∧ ∀ post : Int32 → SY → Prop, post a (g_trials, g_drafted, g_found, b_s, b_saved, b_draft, b_who, b_met, b_stack, b_fresh, dep, b_alike, b_meets) → wY_depth_42 post (nI x) (nI n') g_trials g_drafted g_found (d + 1) (nI (r * n' + j)) b_s b_saved b_draft b_who b_met b_stack b_fresh b_deep b_alike b_meets := by
  have n50 : 50 * n' ≤ 2400 := by omega
  intro d
  induction d with
  | zero =>
    intro r j D dep hk hj hI hV
    have er : r = 50 ∧ j = 0 := by
      obtain ⟨d1, d2⟩ := dv_u (u := r) hj
      have e : r * n' + j = 50 * n' := by omega
      rw [e, Nat.mul_div_cancel _ n0] at d1
      rw [e, Nat.mul_mod_left] at d2
      exact ⟨d1.symm, d2.symm⟩
    obtain ⟨er, ej⟩ := er
    obtain ⟨de, dl⟩ := hV x hx
    have lim : r * n' + j = 50 * n' := by omega
    by_cases q : D x ≤ 48
    · refine ⟨D x, dep, nI (D x), hI.1 _, fun q hq p => hI.2 _ q p (Or.inl (by omega)), Or.inl ⟨q, rfl⟩, fun post hp => ?_⟩
      unfold wY_depth_42
      simp (disch := omega) only [forall_eq, true_and, and_true, Nat.zero_add, nI_clamp, li_vin, nI_add, nI_eq, nI_leI, nI_ltI, li_0le, li_lt0, li_nn1, li_e0, not_true_eq_false, not_false_eq_true, false_implies, true_implies, forall_const, li_a0, li_b0, li_a1, li_b1, li_a2, li_b2, li_a3, li_b3, li_a7, li_b7, li_a8, li_b8, li_a16, li_b16, li_a48, li_b48, li_a584, li_b584, li_a572, li_b572, li_a96, li_b96, li_a144, li_b144, li_a192, li_b192, li_a240, li_b240, li_a336, li_b336, li_a384, li_b384, li_a432, li_b432, li_a480, li_b480, li_a488, li_b488, li_a496, li_b496, li_a504, li_b504, li_a512, li_b512, li_a520, li_b520, li_a524, li_b524, li_a528, li_b528, li_a536, li_b536, li_a544, li_b544, li_a552, li_b552, li_a560, li_b560, li_a568, li_b568, li_a573, li_b573, li_a585, li_b585, li_a633, li_b633, li_m3, li_n3, li_m4, li_n4, li_m48, li_n48, li_m50, li_n50, li_m585, li_n585, li_m633, li_n633, li_lt2, li_ge2, li_le2, li_gt2, li_lt1, li_ge1, li_le1, li_gt1, li_lt3, li_ge3, li_le3, li_gt3, li_lt4, li_ge4, li_le4, li_gt4, li_lt7, li_ge7, li_le7, li_gt7, li_lt8, li_ge8, li_le8, li_gt8, li_lt40, li_ge40, li_le40, li_gt40, li_lt240, li_ge240, li_le240, li_gt240, li_lt41, li_ge41, li_le41, li_gt41, li_lt48, li_ge48, li_le48, li_gt48, li_lt49, li_ge49, li_le49, li_gt49, li_lt60, li_ge60, li_le60, li_gt60, li_lt144, li_ge144, li_le144, li_gt144, li_lt145, li_ge145, li_le145, li_gt145, li_lt160, li_ge160, li_le160, li_gt160, li_lt336, li_ge336, li_le336, li_gt336, li_lt585, li_ge585, li_le585, li_gt585, li_lt633, li_ge633, li_le633, li_gt633, li_lt1000000, li_ge1000000, li_le1000000, li_gt1000000, li_lt2304, li_ge2304, li_le2304, li_gt2304, li_lt50, li_ge50, li_le50, li_gt50, li_le0, li_gt0, de, lim]
      exact ⟨fun _ => ⟨fun _ => hp, fun z => absurd q z⟩, fun q => absurd (Nat.le_refl _) q⟩
    · refine ⟨D x, dep, -3, hI.1 _, fun q hq p => hI.2 _ q p (Or.inl (by omega)), Or.inr ⟨by omega, rfl⟩, fun post hp => ?_⟩
      unfold wY_depth_42
      simp (disch := omega) only [forall_eq, true_and, and_true, Nat.zero_add, nI_clamp, li_vin, nI_add, nI_eq, nI_leI, nI_ltI, li_0le, li_lt0, li_nn1, li_e0, not_true_eq_false, not_false_eq_true, false_implies, true_implies, forall_const, li_a0, li_b0, li_a1, li_b1, li_a2, li_b2, li_a3, li_b3, li_a7, li_b7, li_a8, li_b8, li_a16, li_b16, li_a48, li_b48, li_a584, li_b584, li_a572, li_b572, li_a96, li_b96, li_a144, li_b144, li_a192, li_b192, li_a240, li_b240, li_a336, li_b336, li_a384, li_b384, li_a432, li_b432, li_a480, li_b480, li_a488, li_b488, li_a496, li_b496, li_a504, li_b504, li_a512, li_b512, li_a520, li_b520, li_a524, li_b524, li_a528, li_b528, li_a536, li_b536, li_a544, li_b544, li_a552, li_b552, li_a560, li_b560, li_a568, li_b568, li_a573, li_b573, li_a585, li_b585, li_a633, li_b633, li_m3, li_n3, li_m4, li_n4, li_m48, li_n48, li_m50, li_n50, li_m585, li_n585, li_m633, li_n633, li_lt2, li_ge2, li_le2, li_gt2, li_lt1, li_ge1, li_le1, li_gt1, li_lt3, li_ge3, li_le3, li_gt3, li_lt4, li_ge4, li_le4, li_gt4, li_lt7, li_ge7, li_le7, li_gt7, li_lt8, li_ge8, li_le8, li_gt8, li_lt40, li_ge40, li_le40, li_gt40, li_lt240, li_ge240, li_le240, li_gt240, li_lt41, li_ge41, li_le41, li_gt41, li_lt48, li_ge48, li_le48, li_gt48, li_lt49, li_ge49, li_le49, li_gt49, li_lt60, li_ge60, li_le60, li_gt60, li_lt144, li_ge144, li_le144, li_gt144, li_lt145, li_ge145, li_le145, li_gt145, li_lt160, li_ge160, li_le160, li_gt160, li_lt336, li_ge336, li_le336, li_gt336, li_lt585, li_ge585, li_le585, li_gt585, li_lt633, li_ge633, li_le633, li_gt633, li_lt1000000, li_ge1000000, li_le1000000, li_gt1000000, li_lt2304, li_ge2304, li_le2304, li_gt2304, li_lt50, li_ge50, li_le50, li_gt50, li_le0, li_gt0, de, lim]
      exact ⟨fun _ => ⟨fun z => absurd z q, fun _ => hp⟩, fun q => absurd (Nat.le_refl _) q⟩
  | succ d ih =>
    intro r j D dep hk hj hI hV
    have kb : r * n' + j < 50 * n' := by omega
    obtain ⟨d1, d2⟩ := dv_u (u := r) hj
    have er : nI (r * n' + j) - nI (r * n' + j) / nI n' * nI n' = nI j := by
      rw [pk_rem (by omega) n0 (by omega), d2]
    have en : (nI n' = 0) ↔ False := ⟨fun z => by have := (li_e0 (by omega)).mp z; omega, fun z => z.elim⟩
    obtain ⟨e, e1, e2, e3⟩ := yw_deeper (g_trials := g_trials) (g_drafted := g_drafted) (g_found := g_found) (b_s := b_s) (b_saved := b_saved) (b_draft := b_draft) (b_who := b_who) (b_met := b_met) (b_stack := b_stack) (b_fresh := b_fresh) (b_deep := dep) (b_alike := b_alike) (b_meets := b_meets) h hn hW (v := j) (by omega) hV (by omega)
    have hI' : dp_I (dq_R b_s n) (dq_S b_s n) (fun c => if c = j then e else D c) r (j + 1) := by
      rcases e2 with ⟨z1, z2⟩ | ⟨z1, m, z2, z3, z4⟩
      · have d0 : D j = 0 := by
          have := hI.1 j
          cases hD : D j with
          | zero => rfl
          | succ q =>
            rw [hD] at this
            exact absurd this.1 z1
        have eD : (fun c => if c = j then e else D c) = D := by
          funext c
          by_cases q : c = j
          · rw [if_pos q, q, d0, z2]
          · rw [if_neg q]
        rw [eD]
        exact dp_no hI z1
      · exact dp_step hI z1 (by show (if j = j then e else D j) = m + 1; rw [if_pos rfl, z2]) z3 z4 (fun c hc => if_neg hc)
    have hV' : dp_V (fun c => if c = j then e else D c) (upd dep j (nI e)) (r * n' + (j + 1)) := by
      intro c hc
      by_cases z : c = j
      · rw [z, pk_us]
        show nI e = nI (if j = j then e else D j) ∧ (if j = j then e else D j) ≤ _
        rw [if_pos rfl]
        exact ⟨rfl, by omega⟩
      · rw [pk_un z]
        show dep c = nI (if c = j then e else D c) ∧ (if c = j then e else D c) ≤ _
        rw [if_neg z]
        have := hV c hc
        exact ⟨this.1, by omega⟩
    have go : ∃ r' j' , r' * n' + j' = r * n' + j + 1 ∧ j' < n' ∧ dp_I (dq_R b_s n) (dq_S b_s n) (fun c => if c = j then e else D c) r' j' := by
      by_cases z : j + 1 < n'
      · exact ⟨r, j + 1, by omega, z, hI'⟩
      · refine ⟨r + 1, 0, ?_, n0, ?_⟩
        · rw [Nat.add_mul, Nat.one_mul]; omega
        · have ej : j + 1 = n' := by omega
          rw [ej] at hI'
          exact dp_next hI' hRn
    obtain ⟨r', j', g1, g2, g3⟩ := go
    obtain ⟨D', dep', a, f1, f2, f3, f4⟩ := ih r' j' _ (upd dep j (nI e)) (by omega) g2 g3 (by
      intro c hc
      have := hV' c hc
      exact ⟨this.1, by omega⟩)
    refine ⟨D', dep', a, f1, f2, f3, fun post hp => ?_⟩
    have f4' := f4 post hp
    rw [g1] at f4'
    rw [wY_depth_42]
    dsimp only
    rw [er]
    simp (disch := omega) only [forall_eq, true_and, and_true, Nat.zero_add, nI_clamp, li_vin, nI_add, nI_eq, nI_leI, nI_ltI, li_0le, li_lt0, li_nn1, li_e0, not_true_eq_false, not_false_eq_true, false_implies, true_implies, forall_const, li_a0, li_b0, li_a1, li_b1, li_a2, li_b2, li_a3, li_b3, li_a7, li_b7, li_a8, li_b8, li_a16, li_b16, li_a48, li_b48, li_a584, li_b584, li_a572, li_b572, li_a96, li_b96, li_a144, li_b144, li_a192, li_b192, li_a240, li_b240, li_a336, li_b336, li_a384, li_b384, li_a432, li_b432, li_a480, li_b480, li_a488, li_b488, li_a496, li_b496, li_a504, li_b504, li_a512, li_b512, li_a520, li_b520, li_a524, li_b524, li_a528, li_b528, li_a536, li_b536, li_a544, li_b544, li_a552, li_b552, li_a560, li_b560, li_a568, li_b568, li_a573, li_b573, li_a585, li_b585, li_a633, li_b633, li_m3, li_n3, li_m4, li_n4, li_m48, li_n48, li_m50, li_n50, li_m585, li_n585, li_m633, li_n633, li_lt2, li_ge2, li_le2, li_gt2, li_lt1, li_ge1, li_le1, li_gt1, li_lt3, li_ge3, li_le3, li_gt3, li_lt4, li_ge4, li_le4, li_gt4, li_lt7, li_ge7, li_le7, li_gt7, li_lt8, li_ge8, li_le8, li_gt8, li_lt40, li_ge40, li_le40, li_gt40, li_lt240, li_ge240, li_le240, li_gt240, li_lt41, li_ge41, li_le41, li_gt41, li_lt48, li_ge48, li_le48, li_gt48, li_lt49, li_ge49, li_le49, li_gt49, li_lt60, li_ge60, li_le60, li_gt60, li_lt144, li_ge144, li_le144, li_gt144, li_lt145, li_ge145, li_le145, li_gt145, li_lt160, li_ge160, li_le160, li_gt160, li_lt336, li_ge336, li_le336, li_gt336, li_lt585, li_ge585, li_le585, li_gt585, li_lt633, li_ge633, li_le633, li_gt633, li_lt1000000, li_ge1000000, li_le1000000, li_gt1000000, li_lt2304, li_ge2304, li_le2304, li_gt2304, li_lt50, li_ge50, li_le50, li_gt50, li_le0, li_gt0, en]
    refine ⟨fun q => by omega, fun _ => e3 _ ?_⟩
    exact f4'
theorem yw_depth_16 {g_trials g_drafted g_found : Int32} {b_s b_saved b_draft b_who b_met b_stack b_fresh b_deep : Nat → Int32} {b_alike b_meets : Nat → Int64} {n x : Nat} (h : yv_H b_s) (hn : n ≤ 48) (hW : ∀ v, v < 48 → b_who v = ys_wh b_s (b_s v) n) (hRU : ∀ v, dq_R b_s n v → yv_U b_s v) (ux : yv_U b_s x) : ∀ d j (b_deep : Nat → Int32), j + d = 48 → (∀ c, c < j → b_deep c = 0) → ∃ (D' : Nat) (dep : Nat → Int32) (a : Int32), ma_pt (dq_R b_s n) (dq_S b_s n) D' x ∧ (∀ q, q ≤ 49 → ma_pt (dq_R b_s n) (dq_S b_s n) q x → q ≤ D') ∧ dp_A D' a ∧ ∀ post : Int32 → SY → Prop, post a (g_trials, g_drafted, g_found, b_s, b_saved, b_draft, b_who, b_met, b_stack, b_fresh, dep, b_alike, b_meets) → wY_depth_16 post (nI x) g_trials g_drafted g_found (d + 1) (nI j) b_s b_saved b_draft b_who b_met b_stack b_fresh b_deep b_alike b_meets := by
  intro d
  induction d with
  | zero =>
    intro j dep hj h0
    obtain ⟨n', n1, n2, n3⟩ := yw_bound (g_trials := g_trials) (g_drafted := g_drafted) (g_found := g_found) (b_s := b_s) (b_saved := b_saved) (b_draft := b_draft) (b_who := b_who) (b_met := b_met) (b_stack := b_stack) (b_fresh := b_fresh) (b_deep := dep) (b_alike := b_alike) (b_meets := b_meets) h
    have n0 : 0 < n' := by have := n2 x ux; omega
    obtain ⟨D', dep', r, e1, e2, e3, e4⟩ := yw_depth_42 (g_trials := g_trials) (g_drafted := g_drafted) (g_found := g_found) (b_s := b_s) (b_saved := b_saved) (b_draft := b_draft) (b_who := b_who) (b_met := b_met) (b_stack := b_stack) (b_fresh := b_fresh) (b_deep := b_deep) (b_alike := b_alike) (b_meets := b_meets) h hn hW n1 n0 (fun v hv => n2 v (hRU v hv)) ux.1 (50 * n') 0 0 (fun _ => 0) dep (by omega) n0 dp_0 (by
      intro c hc
      exact ⟨h0 c (by omega), Nat.zero_le _⟩)
    refine ⟨D', dep', r, e1, e2, e3, fun post hp => ?_⟩
    have e4' := e4 post hp
    rw [show 0 * n' + 0 = 0 from by omega] at e4'
    unfold wY_depth_16
    simp (disch := omega) only [forall_eq, true_and, and_true, Nat.zero_add, nI_clamp, li_vin, nI_add, nI_eq, nI_leI, nI_ltI, li_0le, li_lt0, li_nn1, li_e0, not_true_eq_false, not_false_eq_true, false_implies, true_implies, forall_const, li_a0, li_b0, li_a1, li_b1, li_a2, li_b2, li_a3, li_b3, li_a7, li_b7, li_a8, li_b8, li_a16, li_b16, li_a48, li_b48, li_a584, li_b584, li_a572, li_b572, li_a96, li_b96, li_a144, li_b144, li_a192, li_b192, li_a240, li_b240, li_a336, li_b336, li_a384, li_b384, li_a432, li_b432, li_a480, li_b480, li_a488, li_b488, li_a496, li_b496, li_a504, li_b504, li_a512, li_b512, li_a520, li_b520, li_a524, li_b524, li_a528, li_b528, li_a536, li_b536, li_a544, li_b544, li_a552, li_b552, li_a560, li_b560, li_a568, li_b568, li_a573, li_b573, li_a585, li_b585, li_a633, li_b633, li_m3, li_n3, li_m4, li_n4, li_m48, li_n48, li_m50, li_n50, li_m585, li_n585, li_m633, li_n633, li_lt2, li_ge2, li_le2, li_gt2, li_lt1, li_ge1, li_le1, li_gt1, li_lt3, li_ge3, li_le3, li_gt3, li_lt4, li_ge4, li_le4, li_gt4, li_lt7, li_ge7, li_le7, li_gt7, li_lt8, li_ge8, li_le8, li_gt8, li_lt40, li_ge40, li_le40, li_gt40, li_lt240, li_ge240, li_le240, li_gt240, li_lt41, li_ge41, li_le41, li_gt41, li_lt48, li_ge48, li_le48, li_gt48, li_lt49, li_ge49, li_le49, li_gt49, li_lt60, li_ge60, li_le60, li_gt60, li_lt144, li_ge144, li_le144, li_gt144, li_lt145, li_ge145, li_le145, li_gt145, li_lt160, li_ge160, li_le160, li_gt160, li_lt336, li_ge336, li_le336, li_gt336, li_lt585, li_ge585, li_le585, li_gt585, li_lt633, li_ge633, li_le633, li_gt633, li_lt1000000, li_ge1000000, li_le1000000, li_gt1000000, li_lt2304, li_ge2304, li_le2304, li_gt2304, li_lt50, li_ge50, li_le50, li_gt50, li_le0, li_gt0]
    exact ⟨fun _ => n3 _ ⟨_, e4'⟩, fun q => by omega⟩
  | succ d ih =>
    intro j dep hj h0
    obtain ⟨D', dep', r, e1, e2, e3, e4⟩ := ih (j + 1) (upd dep j 0) (by omega) (by
      intro c hc
      by_cases q : c = j
      · rw [q, pk_us]
      · rw [pk_un q]; exact h0 c (by omega))
    refine ⟨D', dep', r, e1, e2, e3, fun post hp => ?_⟩
    unfold wY_depth_16
    simp (disch := omega) only [forall_eq, true_and, and_true, Nat.zero_add, nI_clamp, li_vin, nI_add, nI_eq, nI_leI, nI_ltI, li_0le, li_lt0, li_nn1, li_e0, not_true_eq_false, not_false_eq_true, false_implies, true_implies, forall_const, li_a0, li_b0, li_a1, li_b1, li_a2, li_b2, li_a3, li_b3, li_a7, li_b7, li_a8, li_b8, li_a16, li_b16, li_a48, li_b48, li_a584, li_b584, li_a572, li_b572, li_a96, li_b96, li_a144, li_b144, li_a192, li_b192, li_a240, li_b240, li_a336, li_b336, li_a384, li_b384, li_a432, li_b432, li_a480, li_b480, li_a488, li_b488, li_a496, li_b496, li_a504, li_b504, li_a512, li_b512, li_a520, li_b520, li_a524, li_b524, li_a528, li_b528, li_a536, li_b536, li_a544, li_b544, li_a552, li_b552, li_a560, li_b560, li_a568, li_b568, li_a573, li_b573, li_a585, li_b585, li_a633, li_b633, li_m3, li_n3, li_m4, li_n4, li_m48, li_n48, li_m50, li_n50, li_m585, li_n585, li_m633, li_n633, li_lt2, li_ge2, li_le2, li_gt2, li_lt1, li_ge1, li_le1, li_gt1, li_lt3, li_ge3, li_le3, li_gt3, li_lt4, li_ge4, li_le4, li_gt4, li_lt7, li_ge7, li_le7, li_gt7, li_lt8, li_ge8, li_le8, li_gt8, li_lt40, li_ge40, li_le40, li_gt40, li_lt240, li_ge240, li_le240, li_gt240, li_lt41, li_ge41, li_le41, li_gt41, li_lt48, li_ge48, li_le48, li_gt48, li_lt49, li_ge49, li_le49, li_gt49, li_lt60, li_ge60, li_le60, li_gt60, li_lt144, li_ge144, li_le144, li_gt144, li_lt145, li_ge145, li_le145, li_gt145, li_lt160, li_ge160, li_le160, li_gt160, li_lt336, li_ge336, li_le336, li_gt336, li_lt585, li_ge585, li_le585, li_gt585, li_lt633, li_ge633, li_le633, li_gt633, li_lt1000000, li_ge1000000, li_le1000000, li_gt1000000, li_lt2304, li_ge2304, li_le2304, li_gt2304, li_lt50, li_ge50, li_le50, li_gt50, li_le0, li_gt0]
    exact ⟨fun q => by omega, fun _ => e4 post hp⟩
/-- a code is that of a RECORD -/
theorem dp_2 {l c : Nat} (hl : l < 8) (hc : c ≤ 3) : (2 : Int32) ≤ nI (2 + 4 * l + c) := (li_ge2 (by omega)).mpr (by omega)
theorem dp_map {B : Nat} {a s : Nat → Int32} {n : Nat} (P : re_P B a s) (hn : n ≤ 48) (hU : ∀ x, xv_U a x → x < n) : ∀ q v, xv_U a v → (ma_pt (dq_R s n) (dq_S s n) q v ↔ ma_pt (dp_R a) (dp_S a) q (xv_L a v)) := by
  have h5 := P.2.2.2.2.1
  have wh := re_wh P hn hU
  have hR : ∀ v, xv_U a v → (dq_R s n v ↔ dp_R a (xv_L a v)) := by
    intro v hv
    have wl := h5.1 v hv
    have l48 := wl.2.1.1
    constructor
    · intro ⟨_, h1, h2⟩
      obtain ⟨t, l⟩ := wh.2.1 v hv h1
      obtain ⟨c1, c2, c3⟩ := ma_R_x h5 t
      rw [l] at c1 c2
      obtain ⟨_, f2, _, f4⟩ := ys_hf hn h1
      refine ⟨l48, ?_⟩
      have e1 : (yv_T s).2.1 (ys_f s n v) = (yv_k s (ys_f s n v), s (96 + ys_f s n v)) := if_pos (by omega)
      have e2 : xv_K a (xv_L a v) = yv_k s (ys_f s n v) := by
        have := congrArg Prod.fst c2
        rw [e1] at this
        exact this
      rw [xv_HK (a := a) l48, e2]
      rcases P.2.1.2.2.1 (ys_f s n v) (by omega) with z | ⟨z, _⟩ | ⟨z1, z2, l', c', hl, hc, z3, z4⟩
      · exact absurd z f4
      · rw [h2] at z; exact absurd z (by decide)
      · rw [yv_kr z1 z3 z4]; exact dp_2 hl hc
    · intro ⟨_, h1⟩
      rw [xv_HK (a := a) l48] at h1
      have k0 : xv_K a (xv_L a v) ≠ 0 := fun q => by rw [q] at h1; exact absurd h1 (by decide)
      obtain ⟨u, u1, u2, u3, _⟩ := ma_R_y h5 (c := xv_L a v) ⟨wl.2.1, wl.2.2.1, k0⟩
      have hh := wh.1 v hv ⟨u, u1, u2⟩
      obtain ⟨t, l⟩ := wh.2.1 v hv hh
      obtain ⟨c1, c2, c3⟩ := ma_R_x h5 t
      rw [l] at c1 c2
      obtain ⟨_, f2, _, f4⟩ := ys_hf hn hh
      refine ⟨hv.1, hh, ?_⟩
      have e1 : (yv_T s).2.1 (ys_f s n v) = (yv_k s (ys_f s n v), s (96 + ys_f s n v)) := if_pos (by omega)
      have e2 : xv_K a (xv_L a v) = yv_k s (ys_f s n v) := by
        have := congrArg Prod.fst c2
        rw [e1] at this
        exact this
      rcases P.2.1.2.2.1 (ys_f s n v) (by omega) with z | ⟨z, _⟩ | ⟨z1, z2, l', c', hl, hc, z3, z4⟩
      · exact absurd z f4
      · have : yv_k s (ys_f s n v) = 1 := by unfold yv_k; rw [if_pos z]
        rw [e2, this] at h1
        exact absurd h1 (by decide)
      · exact z1
  have parts : ∀ v, xv_U a v → ys_h s n v → ma_ct ((yv_T s).2.1 (ys_f s n v)).1 = ma_ct (xv_K a (xv_L a v)) ∧ ∀ k, k < ma_ct (xv_K a (xv_L a v)) → xv_U a (yv_P s (ys_f s n v) k) ∧ xv_L a (yv_P s (ys_f s n v) k) = xv_L a (xv_P a (xv_L a v) k) := by
    intro v hv hh
    obtain ⟨t, l⟩ := wh.2.1 v hv hh
    obtain ⟨c1, c2, c3⟩ := ma_R_x h5 t
    rw [l] at c1 c2 c3
    have ec : ma_ct ((yv_T s).2.1 (ys_f s n v)).1 = ma_ct (xv_K a (xv_L a v)) := by rw [← c2]; rfl
    refine ⟨ec, fun k hk => ?_⟩
    rw [← ec] at hk
    exact ⟨(h5.2.2.2.1 _ t).2 k hk, c3 k hk⟩
  refine ma_pt_map hR ?_ ?_
  · intro v d hv hR' ⟨k, hk, e⟩
    obtain ⟨p1, p2⟩ := parts v hv hR'.2.1
    rw [p1] at hk
    rw [e]
    exact ⟨(p2 k hk).1, k, hk, (p2 k hk).2⟩
  · intro v e hv hR' ⟨k, hk, e'⟩
    obtain ⟨p1, p2⟩ := parts v hv hR'.2.1
    exact ⟨yv_P s (ys_f s n v) k, (p2 k hk).1, ⟨k, by rw [p1]; exact hk, rfl⟩, by rw [(p2 k hk).2, e']⟩
theorem i_vc_depth {k : Nat} {u : SX} {v : SY} (I : i_Rel k u v) (hk : k + 4 ≤ 2048) (v1 : Int32) : wpX_depth (fun r u' => wpY_depth (fun r' v' => r' = r ∧ i_Rel (k + 4) u' v') v v1) u v1 := by
  obtain ⟨f_trials, f_drafted, f_pairs, f_metCount, f_meetingCount, a_held, a_saved, a_draft, a_toldBefore, a_pairX, a_pairY, a_stack, a_met, a_metAs, a_copies, a_meetings, a_wasMeeting, a_firstMet, a_depths, a_isKept⟩ := u
  obtain ⟨g_trials, g_drafted, g_found, b_s, b_saved, b_draft, b_who, b_met, b_stack, b_fresh, b_deep, b_alike, b_meets⟩ := v
  have P := (re_A_C I).1
  have R := re_A_up (k := k) (k' := k + 4) (by omega) I
  have yU := re_U P
  unfold wpX_depth
  by_cases hx : ∃ x, xv_U a_held x ∧ v1 = nI x
  · obtain ⟨x, ux, rfl⟩ := hx
    have x48 := ux.1
    obtain ⟨D, dep, r, x1, x2, x3, x4⟩ := xw_depth_12 (f_trials := f_trials) (f_drafted := f_drafted) (f_pairs := f_pairs) (f_metCount := f_metCount) (f_meetingCount := f_meetingCount) (a_held := a_held) (a_saved := a_saved) (a_draft := a_draft) (a_toldBefore := a_toldBefore) (a_pairX := a_pairX) (a_pairY := a_pairY) (a_stack := a_stack) (a_met := a_met) (a_metAs := a_metAs) (a_copies := a_copies) (a_meetings := a_meetings) (a_wasMeeting := a_wasMeeting) (a_firstMet := a_firstMet) (a_depths := a_depths) (a_isKept := a_isKept) P.1 x48 48 0 a_depths rfl (fun c hc => by omega)
    obtain ⟨n, wh, n1, n2, n3, n4⟩ := yw_values (g_trials := g_trials) (g_drafted := g_drafted) (g_found := g_found) (b_s := b_s) (b_saved := b_saved) (b_draft := b_draft) (b_who := b_who) (b_met := b_met) (b_stack := b_stack) (b_fresh := b_fresh) (b_deep := b_deep) (b_alike := b_alike) (b_meets := b_meets) P.2.1
    have hU : ∀ x, xv_U a_held x → x < n := fun x hx => n2 x (by rw [yU]; exact hx)
    have hRU : ∀ v, dq_R b_s n v → yv_U b_s v := by
      intro v ⟨v48, h1, _⟩
      obtain ⟨_, f2, f3, f4⟩ := ys_hf n1 h1
      have uf := re_told P (x := ys_f b_s n v) (by omega) f4
      rw [yU]
      apply Classical.byContradiction
      intro nu
      have e := re_un P v v48 nu
      obtain ⟨e2, l2⟩ := re_Ls P uf
      rw [← f3, e2] at e
      have : xv_L a_held (ys_f b_s n v) = v := (nI_eq (by omega) (by omega)).mp e
      exact nu (by rw [← this]; exact (P.2.2.2.2.1.1 _ uf).2.1)
    obtain ⟨D2, dep2, r2, y1, y2, y3, y4⟩ := yw_depth_16 (g_trials := g_trials) (g_drafted := g_drafted) (g_found := g_found) (b_s := b_s) (b_saved := b_saved) (b_draft := b_draft) (b_who := wh) (b_met := b_met) (b_stack := b_stack) (b_fresh := b_fresh) (b_deep := b_deep) (b_alike := b_alike) (b_meets := b_meets) P.2.1 n1 n3 hRU (re_pos P ux) 48 0 b_deep rfl (fun c hc => by omega)
    have mp := dp_map P n1 hU
    obtain ⟨o1, o2⟩ := ma_pt_one (P := fun q => ma_pt (dp_R a_held) (dp_S a_held) q (xv_L a_held x)) (D1 := D) (D2 := D2) (fun a r h => ma_pt_le a r h) x1 x2 ((mp D2 x ux).mp y1) (fun q hq h => y2 q hq ((mp q x ux).mpr h))
    have er : r2 = r := by
      rcases x3 with ⟨z1, z2⟩ | ⟨z1, z2⟩
      · rcases y3 with ⟨w1, w2⟩ | ⟨w1, w2⟩
        · rw [z2, w2, o2 z1]
        · omega
      · rcases y3 with ⟨w1, w2⟩ | ⟨w1, w2⟩
        · omega
        · rw [z2, w2]
    refine xw_inUse_t (f_trials := f_trials) (f_drafted := f_drafted) (f_pairs := f_pairs) (f_metCount := f_metCount) (f_meetingCount := f_meetingCount) (a_held := a_held) (a_saved := a_saved) (a_draft := a_draft) (a_toldBefore := a_toldBefore) (a_pairX := a_pairX) (a_pairY := a_pairY) (a_stack := a_stack) (a_met := a_met) (a_metAs := a_metAs) (a_copies := a_copies) (a_meetings := a_meetings) (a_wasMeeting := a_wasMeeting) (a_firstMet := a_firstMet) (a_depths := a_depths) (a_isKept := a_isKept) ux _ (br_f (by decide) ⟨_, x4 _ ?_⟩)
    unfold wpY_depth
    exact yw_isUsed_t (g_trials := g_trials) (g_drafted := g_drafted) (g_found := g_found) (b_s := b_s) (b_saved := b_saved) (b_draft := b_draft) (b_who := b_who) (b_met := b_met) (b_stack := b_stack) (b_fresh := b_fresh) (b_deep := b_deep) (b_alike := b_alike) (b_meets := b_meets) (re_pos P ux) _ (br_f (by decide) (n4 _ ⟨_, y4 _ ⟨er, R⟩⟩))
  · refine xw_inUse_f (f_trials := f_trials) (f_drafted := f_drafted) (f_pairs := f_pairs) (f_metCount := f_metCount) (f_meetingCount := f_meetingCount) (a_held := a_held) (a_saved := a_saved) (a_draft := a_draft) (a_toldBefore := a_toldBefore) (a_pairX := a_pairX) (a_pairY := a_pairY) (a_stack := a_stack) (a_met := a_met) (a_metAs := a_metAs) (a_copies := a_copies) (a_meetings := a_meetings) (a_wasMeeting := a_wasMeeting) (a_firstMet := a_firstMet) (a_depths := a_depths) (a_isKept := a_isKept) hx _ (br_t rfl ?_)
    unfold wpY_depth
    exact yw_isUsed_f (g_trials := g_trials) (g_drafted := g_drafted) (g_found := g_found) (b_s := b_s) (b_saved := b_saved) (b_draft := b_draft) (b_who := b_who) (b_met := b_met) (b_stack := b_stack) (b_fresh := b_fresh) (b_deep := b_deep) (b_alike := b_alike) (b_meets := b_meets) (re_neg P hx) _ (br_t rfl ⟨rfl, R⟩)
