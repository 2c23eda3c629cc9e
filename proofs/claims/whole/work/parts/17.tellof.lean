/-- what lies at a variable that is not told to be anything does not count -/
theorem un_P {B : Nat} {a s s' : Nat → Int32} {x : Nat} (r : re_P B a s) (x48 : x < 48) (k0 : s' (48 + x) = 0) (k1 : s (48 + x) = 0) (hp : ∀ k, k < 3 → ∃ q, q < 48 ∧ s' (240 + 3 * x + k) = nI q) (hs : ∀ i, i < 633 → i ≠ 48 + x → i ≠ 96 + x → i ≠ 144 + x → i ≠ 192 + x → (i < 240 + 3 * x ∨ 240 + 3 * x + 3 ≤ i) → s' i = s i) : re_P B a s' := by
  have yU := re_U r
  obtain ⟨h1, h2, h3, h4, h5, h6⟩ := r
  have low : ∀ v, v < 48 → s' v = s v := fun v hv => hs v (by omega) (by omega) (by omega) (by omega) (by omega) (by omega)
  have use : ∀ v, v < 48 → s' (384 + v) = s (384 + v) := fun v hv => hs _ (by omega) (by omega) (by omega) (by omega) (by omega) (by omega)
  have kd : ∀ v, v < 48 → s' (48 + v) = s (48 + v) := by
    intro v hv
    by_cases q : v = x
    · rw [q, k0, k1]
    · exact hs _ (by omega) (by omega) (by omega) (by omega) (by omega) (by omega)
  have t1 : ∀ c, (yv_T s').1 c ↔ (yv_T s).1 c := by
    intro c
    show ((c < 48 ∧ s' (384 + c) = 1) ∧ s' (48 + c) ≠ 0) ↔ ((c < 48 ∧ s (384 + c) = 1) ∧ s (48 + c) ≠ 0)
    by_cases q : c < 48
    · rw [use c q, kd c q]
    · exact ⟨fun w => absurd w.1.1 q, fun w => absurd w.1.1 q⟩
  have t2 : ∀ c, (yv_T s).1 c → (yv_T s').2.1 c = (yv_T s).2.1 c ∧ ∀ k, (yv_T s').2.2 c k = (yv_T s).2.2 c k := by
    intro c hc
    have c48 : c < 48 := (yv_T1 hc).1.1
    have q : c ≠ x := by
      intro e
      have := (yv_T1 hc).2
      rw [e] at this
      exact this k1
    constructor
    · show (if c < 48 then (yv_k s' c, s' (96 + c)) else (0, 0)) = (if c < 48 then (yv_k s c, s (96 + c)) else (0, 0))
      rw [if_pos c48, if_pos c48]
      unfold yv_k
      rw [hs (48 + c) (by omega) (by omega) (by omega) (by omega) (by omega) (by omega), hs (96 + c) (by omega) (by omega) (by omega) (by omega) (by omega) (by omega), hs (144 + c) (by omega) (by omega) (by omega) (by omega) (by omega) (by omega), hs (192 + c) (by omega) (by omega) (by omega) (by omega) (by omega) (by omega)]
    · intro k
      show yv_P s' c k = yv_P s c k
      unfold yv_P
      by_cases w : c < 48 ∧ k < 3
      · rw [if_pos w, if_pos w, hs (240 + 3 * c + k) (by omega) (by omega) (by omega) (by omega) (by omega) (by omega)]
      · rw [if_neg w, if_neg w]
  have f1 : ∀ c, (yv_T s').1 c → (yv_T s).1 c ∧ (yv_T s').2.1 c = (yv_T s).2.1 c ∧ ∀ k, (yv_T s').2.2 c k = (yv_T s).2.2 c k := fun c hc => ⟨(t1 c).mp hc, t2 c ((t1 c).mp hc)⟩
  have f2 : ∀ c, (yv_T s).1 c → (yv_T s').1 c ∧ (yv_T s').2.1 c = (yv_T s).2.1 c ∧ ∀ k, (yv_T s').2.2 c k = (yv_T s).2.2 c k := fun c hc => ⟨(t1 c).mpr hc, t2 c hc⟩
  refine ⟨h1, ?_, ?_, ?_, ?_, ?_⟩
  · obtain ⟨g1, g2, g3, g4⟩ := h2
    refine ⟨?_, ?_, ?_, ?_⟩
    · intro v hv; rw [low v hv]; exact g1 v hv
    · intro v hv; rw [low v hv, use v hv, kd v hv]; exact g2 v hv
    · intro v hv
      by_cases q : v = x
      · rw [q]; exact Or.inl k0
      · rw [hs (48 + v) (by omega) (by omega) (by omega) (by omega) (by omega) (by omega), hs (96 + v) (by omega) (by omega) (by omega) (by omega) (by omega) (by omega), hs (144 + v) (by omega) (by omega) (by omega) (by omega) (by omega) (by omega), hs (192 + v) (by omega) (by omega) (by omega) (by omega) (by omega) (by omega)]
        exact g3 v hv
    · intro v k hv hk
      by_cases q : v = x
      · rw [q]; exact hp k hk
      · rw [hs (240 + 3 * v + k) (by omega) (by omega) (by omega) (by omega) (by omega) (by omega)]; exact g4 v k hv hk
  · intro v hv; rw [use v hv]; exact h3 v hv
  · intro v hv; rw [low v hv.1]; exact h4 v hv
  · obtain ⟨w, x1, x2, y1, s1, s2⟩ := h5
    refine ⟨w, x1, x2, ?_, ma_Sub_eq (fun c hc => ⟨hc, rfl, fun _ => rfl⟩) f2 s1, ma_Sub_eq f1 (fun c hc => ⟨hc, rfl, fun _ => rfl⟩) s2⟩
    intro c hc
    obtain ⟨q1, q2, q3⟩ := f1 c hc
    refine ⟨(y1 c q1).1, fun k hk => ?_⟩
    rw [q2] at hk
    rw [q3 k]; exact (y1 c q1).2 k hk
  · exact re_N_congr (fun _ _ _ => rfl) (fun i q1 q2 => hs i q2 (by omega) (by omega) (by omega) (by omega) (by omega)) h6
/-- the outcome that leaves the classes as they are writes nothing new -/
theorem tf_same {B : Nat} {a s s1 s2 : Nat → Int32} (r : re_P B a s) (h : yc_I (xv_L a) ma_0 s s1) (o : ma_Ok (yv_U s) (xv_L a) (yv_T s) ma_0 (yv_I s1 633)) (h1 : ∀ v, v < 48 → s2 v = s1 (633 + v)) (h2 : ∀ i, 48 ≤ i → i < 633 → s2 i = s i) : re_P B a s2 := by
  have yU := re_U r
  have o1 := ma_R_Ok (K := xv_K a) (V := xv_V a) (P := xv_P a) r.2.2.2.2.1
  rw [yU] at o
  have one := ma_Ok_one o1 o
  refine re_P_congr (fun _ _ => rfl) (fun i hi => ?_) r
  by_cases q : i < 48
  · rw [h1 i q]
    by_cases u : xv_U a i
    · obtain ⟨e1, l1⟩ := yv_HI h.2.1 q
      rw [e1, ← one i u]
      exact (re_Ls r u).1.symm
    · rw [h.2.2.2.1 i q (by rw [yU]; exact u)]
      exact (re_un r i q u).symm
  · exact h2 i (by omega) hi
