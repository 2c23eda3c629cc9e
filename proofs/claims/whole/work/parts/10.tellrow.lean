theorem yv_I0 {s : Nat → Int32} {x : Nat} (hx : x < 48) : yv_I s 0 x = (s x).toNatClampNeg := by
  unfold yv_I; rw [if_pos hx, Nat.zero_add]
/-- after a merge that does not fail the rows hold the same again -/
theorem tl_P {B : Nat} {a s a' s' : Nat → Int32} {Q : Nat → Nat → Prop} {px py : Nat → Nat} {i m : Nat} {vd : Int32} (r : re_P B a s) (h : xm_I a Q a' px py i m vd) (him : m ≤ i) (o : ma_Ok (xv_U a) (xv_L a) (xv_T a) Q (yv_I s' 0)) (yh : yv_H s') (us : ∀ x, x < 48 → s' (384 + x) = s (384 + x)) (hi : ∀ i, 432 ≤ i → i < 633 → s' i = s i) (y1 : ∀ c, (yv_T s').1 c → xv_U a c ∧ ∀ k, k < ma_ct ((yv_T s').2.1 c).1 → xv_U a ((yv_T s').2.2 c k)) (t1 : ma_Sub (xv_T a) (yv_T s') (ma_K (xv_U a) (xv_L a'))) (t2 : ma_Sub (yv_T s') (xv_T a) (ma_K (xv_U a) (xv_L a'))) : re_P B a' s' := by
  obtain ⟨h1, h2, h3, h4, h5, h6⟩ := r
  obtain ⟨g1, g2, g3, g4⟩ := h
  have eU : xv_U a' = xv_U a := xj_U g2
  obtain ⟨f1, f2, f3, s1, s2⟩ := ma_MI_end g3 him
  have o' := ma_MI_Ok g3 him
  have one := ma_Ok_one o' o
  have eT : ma_X (xv_U a) (xv_L a') (xv_K a') (xv_V a') (xv_P a') = xv_T a' := by
    unfold xv_T; rw [eU]
  rw [eT] at s1 s2
  refine ⟨g1, yh, ?_, ?_, ?_, ?_⟩
  · intro x hx
    rw [g2 _ (by omega), us x hx]; exact h3 x hx
  · intro x hx
    rw [eU] at hx
    have hx48 := hx.1
    obtain ⟨e1, l1⟩ := xv_HL g1 hx48
    obtain ⟨c, hc, e2⟩ := yh.1 x hx48
    have e3 : yv_I s' 0 x = c := by rw [yv_I0 hx48, e2, nI_clamp (by omega)]
    rw [e1, one x hx, e3, e2]
  · rw [eU]
    refine ma_R_tell (TX := xv_T a) g3.1 ?_ ?_ y1 s1 s2 t1 t2
    · intro c hc
      have u : xv_U a' c := (xv_T1 hc).1
      rw [eU] at u
      exact ⟨u, (xv_T1 hc).2.1⟩
    · intro c hc k hk
      have u : xv_U a' c := (xv_T1 hc).1
      rw [eU] at u
      exact g3.2.2.1 c u (xv_T1 hc).2.1 (xv_T1 hc).2.2 k hk
  · exact re_N_congr (fun i q _ => g2 i q) hi h6
/-- the rows after a telling that left the told values of the reference as they were -/
theorem tl_E {B : Nat} {a s a' s' : Nat → Int32} {Q : Nat → Nat → Prop} {px py : Nat → Nat} {i m : Nat} {vd : Int32} (r : re_P B a s) (h : xm_I a Q a' px py i m vd) (him : m ≤ i) (o : ma_Ok (xv_U a) (xv_L a) (xv_T a) Q (yv_I s' 0)) (hb : ∀ v, v < 48 → ∃ c, c < 48 ∧ s' v = nI c) (un : ∀ v, v < 48 → ¬ xv_U a v → s' v = nI v) (hs : ∀ i, 48 ≤ i → i < 633 → s' i = s i) : re_P B a' s' := by
  have r0 := r
  have yU := re_U r
  obtain ⟨h1, h2, h3, h4, h5, h6⟩ := r
  have eT : yv_T s' = yv_T s := yv_congrT (fun i p q => hs i p (by omega))
  have sub : ∀ x y, ma_K (xv_U a) (xv_L a) x y → ma_K (xv_U a) (xv_L a') x y := by
    obtain ⟨f1, _⟩ := ma_MI_end h.2.2.1 him
    exact ma_K_sub f1.1 f1.2.1
  have yh : yv_H s' := by
    obtain ⟨g1, g2, g3, g4⟩ := h2
    refine ⟨hb, ?_, ?_, ?_⟩
    · intro x hx
      rw [hs (384 + x) (by omega) (by omega), hs (48 + x) (by omega) (by omega)]
      rcases g2 x hx with q | q
      · exact Or.inl q
      · refine Or.inr ⟨q.1, un x hx ?_, q.2.2⟩
        intro u
        have u1 := u.2
        rw [h3 x hx, q.1] at u1
        exact absurd u1 (by decide)
    · intro x hx
      rw [hs (48 + x) (by omega) (by omega), hs (96 + x) (by omega) (by omega), hs (144 + x) (by omega) (by omega), hs (192 + x) (by omega) (by omega)]
      exact g3 x hx
    · intro x k hx hk
      rw [hs _ (by omega) (by omega)]; exact g4 x k hx hk
  refine tl_P r0 h him o yh (fun x hx => hs _ (by omega) (by omega)) (fun i p q => hs i (by omega) q) ?_ ?_ ?_
  · rw [eT]; exact h5.2.2.2.1
  · rw [eT]; exact ma_Sub_mono sub h5.2.2.2.2.1
  · rw [eT]; exact ma_Sub_mono sub h5.2.2.2.2.2
/-- a telling by pairs: the outcomes of the two sides are one -/
theorem tl_tr {B : Nat} {a s : Nat → Int32} {Q : Nat → Nat → Prop} (r : re_P B a s) : (∀ L', ma_Ok (yv_U s) (xv_L a) (yv_T s) Q L' → ma_Ok (xv_U a) (xv_L a) (xv_T a) Q L') ∧ (ma_No (yv_U s) (xv_L a) (yv_T s) Q → ma_No (xv_U a) (xv_L a) (xv_T a) Q) := by
  have eU := re_U r
  have h5 := r.2.2.2.2.1
  rw [eU]
  have f : ∀ E, ma_F (xv_U a) (xv_L a) (yv_T s) Q E ↔ ma_F (xv_U a) (xv_L a) (xv_T a) Q E := fun E => (ma_R_F h5 E).symm
  have b : ∀ E, ma_F (xv_U a) (xv_L a) (yv_T s) Q E → (ma_Bad (yv_T s) E ↔ ma_Bad (xv_T a) E) := fun E hE => (ma_R_B h5 E ((f E).mp hE)).symm
  exact ⟨fun L' o => ma_Ok_tr f b o, fun o => ma_No_tr f b o⟩
/-- the start of the reference's work: the least members -/
theorem yc_00 {U : Nat → Prop} {L : Nat → Nat} {s s1 : Nat → Int32} (eU : yv_U s = U) (w : ma_W U L) (hL : ∀ x, U x → s x = nI (L x)) (hb : ∀ v, v < 48 → ∃ c, c < 48 ∧ s v = nI c) (un : ∀ v, v < 48 → ¬ U v → s v = nI v) (h1 : ∀ i, i < 633 → s1 i = s i) (h2 : ∀ v, v < 48 → s1 (633 + v) = s v) : yc_I L ma_0 s s1 := by
  have lo : ∀ v, v < 48 → ∃ c, c < 48 ∧ s1 (633 + v) = nI c := by
    intro v hv
    rw [h2 v hv]; exact hb v hv
  have eL : ∀ x, U x → yv_I s1 633 x = L x := by
    intro x hx
    have x48 := (w x hx).1
    have l48 := (w _ (w x hx).2.1).1
    unfold yv_I
    rw [if_pos x48, h2 x x48, hL x hx, nI_clamp (by omega)]
  refine ⟨h1, lo, ?_, ?_, ?_⟩
  · rw [eU]
    intro x hx
    obtain ⟨w1, w2, w3, w4⟩ := w x hx
    rw [eL x hx]
    exact ⟨w1, w2, by rw [eL _ w2, w3], w4⟩
  · rw [eU]
    intro v hv nu
    rw [h2 v hv]; exact un v hv nu
  · rw [eU]
    intro E
    constructor
    · intro ⟨e, hb, hq, pc⟩
      exact ⟨e, fun x hx => by rw [eL x hx]; exact hb x hx, hq, pc⟩
    · intro ⟨e, hb, hq, pc⟩
      exact ⟨e, fun x hx => by rw [← eL x hx]; exact hb x hx, hq, pc⟩
theorem re_un {B : Nat} {a s : Nat → Int32} (r : re_P B a s) : ∀ v, v < 48 → ¬ xv_U a v → s v = nI v := by
  intro v hv nu
  rcases r.2.1.2.1 v hv with q | q
  · exact absurd ⟨hv, by rw [r.2.2.1 v hv]; exact q⟩ nu
  · exact q.2.1
theorem yc_0 {B : Nat} {a s s1 : Nat → Int32} (r : re_P B a s) (h1 : ∀ i, i < 633 → s1 i = s i) (h2 : ∀ v, v < 48 → s1 (633 + v) = s v) : yc_I (xv_L a) ma_0 s s1 :=
  yc_00 (re_U r) r.2.2.2.2.1.1 (fun _ hx => (re_Ls r hx).1) r.2.1.1 (re_un r) h1 h2
theorem yc_more {L : Nat → Nat} {Q Q' : Nat → Nat → Prop} {s0 s s' : Nat → Int32} {x y : Nat} (h : yc_I L Q s0 s) (hx : yv_U s0 x) (hy : yv_U s0 y) (j : yj_J s s' 633 x y) (hQ : ∀ u v, Q' u v ↔ (Q u v ∨ (u = x ∧ v = y))) : yc_I L Q' s0 s' := by
  obtain ⟨h1, h2, h3, h5, h4⟩ := h
  obtain ⟨g1, g2⟩ := yj_I j h2 hx.1 hy.1
  obtain ⟨m1, m2, m3, m4, m5, m6⟩ := ma_YJ (T := yv_T s0) (Q := ma_0) h3 hx hy g2
  refine ⟨fun i hi => by rw [j.2 i (by omega)]; exact h1 i hi, g1, m1, ?_, fun E => ⟨fun q => ?_, fun q => ?_⟩⟩
  · intro v hv nu
    have e := h5 v hv nu
    have f : ∀ z, yv_U s0 z → ¬ s (633 + v) = s (633 + z) := by
      intro z hz q
      obtain ⟨e1, e2⟩ := yv_HI h2 hz.1
      rw [e, e1] at q
      have q' := (nI_eq (by omega) (by omega)).mp q
      apply nu
      rw [q']; exact (h3 z hz).2.1
    rw [j.1 v hv, if_neg (fun q => q.elim (f x hx) (f y hy))]
    exact e
  · have q1 : ma_F (yv_U s0) L (yv_T s0) Q E := ⟨q.1, q.2.1, fun u v z => q.2.2.1 u v ((hQ u v).mpr (Or.inl z)), q.2.2.2⟩
    exact m2 E ((h4 E).mp q1) (q.2.2.1 x y ((hQ x y).mpr (Or.inr ⟨rfl, rfl⟩)))
  · obtain ⟨q1, q2⟩ := m3 E q
    have q3 := (h4 E).mpr q1
    refine ⟨q3.1, q3.2.1, fun u v z => ?_, q3.2.2.2⟩
    rcases (hQ u v).mp z with z | ⟨z1, z2⟩
    · exact q3.2.2.1 u v z
    · rw [z1, z2]; exact q2
