/-- the variables that are KEPT by themselves -/
def kp_0 (a : Nat → Int32) (x : Nat) : Prop :=
  xv_U a x ∧ (a (432 + x) = 1 ∨ (∃ e, e < 4 ∧ a (520 + e) = nI x) ∨ (∃ t, t < 8 ∧ a (480 + t) = 3 ∧ (a (488 + t) = nI x ∨ a (496 + t) = nI x)) ∨ (∃ k, k < 8 ∧ (a (504 + k) = nI x ∨ a (512 + k) = nI x)))
/-- KEPT, of least members -/
def kp_K (a : Nat → Int32) (c : Nat) : Prop :=
  ∀ S : Nat → Prop, (∀ x, kp_0 a x → S (xv_L a x)) → (∀ c, S c → (xv_T a).1 c → ∀ k, k < ma_ct ((xv_T a).2.1 c).1 → S (xv_L a ((xv_T a).2.2 c k))) → S c
theorem kp_root {a : Nat → Int32} {x : Nat} (h : kp_0 a x) : kp_K a (xv_L a x) := fun _ h1 _ => h1 x h
theorem kp_part {a : Nat → Int32} {c k : Nat} (h : kp_K a c) (hc : (xv_T a).1 c) (hk : k < ma_ct ((xv_T a).2.1 c).1) : kp_K a (xv_L a ((xv_T a).2.2 c k)) := fun S h1 h2 => h2 c (h S h1 h2) hc k hk
/-- what clear leaves -/
def cl_X (Kp : Nat → Prop) (a a' : Nat → Int32) : Prop :=
  (∀ x, x < 48 → xv_U a x → ¬ Kp (xv_L a x) → a' (336 + x) = 0 ∧ a' (384 + x) = 0) ∧
  (∀ x, x < 48 → (¬ xv_U a x ∨ Kp (xv_L a x)) → a' (336 + x) = a (336 + x) ∧ a' (384 + x) = a (384 + x)) ∧
  (∀ i, (i < 336 ∨ 432 ≤ i) → a' i = a i)
def cl_Y (Kp : Nat → Prop) (a s s' : Nat → Int32) : Prop :=
  (∀ x, x < 48 → xv_U a x → ¬ Kp (xv_L a x) → s' x = nI x ∧ s' (48 + x) = 0 ∧ s' (384 + x) = 0 ∧ s' (432 + x) = 0 ∧ s' (480 + x) = 0) ∧
  (∀ x, x < 48 → (¬ xv_U a x ∨ Kp (xv_L a x)) → s' x = s x ∧ s' (48 + x) = s (48 + x) ∧ s' (384 + x) = s (384 + x) ∧ s' (432 + x) = s (432 + x) ∧ s' (480 + x) = s (480 + x)) ∧
  (∀ i, (96 ≤ i ∧ i < 384) ∨ 528 ≤ i → s' i = s i)
theorem cl_U {Kp : Nat → Prop} {a a' : Nat → Int32} (h : cl_X Kp a a') (x : Nat) : xv_U a' x ↔ (xv_U a x ∧ Kp (xv_L a x)) := by
  obtain ⟨h1, h2, h3⟩ := h
  constructor
  · intro ⟨p, q⟩
    by_cases u : xv_U a x
    · by_cases k : Kp (xv_L a x)
      · exact ⟨u, k⟩
      · rw [(h1 x p u k).1] at q
        exact absurd q (by decide)
    · rw [(h2 x p (Or.inl u)).1] at q
      exact absurd ⟨p, q⟩ u
  · intro ⟨u, k⟩
    exact ⟨u.1, by rw [(h2 x u.1 (Or.inr k)).1]; exact u.2⟩
theorem cl_L {Kp : Nat → Prop} {a a' : Nat → Int32} (h : cl_X Kp a a') : xv_L a' = xv_L a ∧ xv_K a' = xv_K a ∧ xv_V a' = xv_V a ∧ xv_P a' = xv_P a := by
  obtain ⟨h1, h2, h3⟩ := h
  refine ⟨?_, ?_, ?_, ?_⟩
  · funext x
    unfold xv_L
    by_cases q : x < 48
    · rw [if_pos q, if_pos q, h3 _ (by omega)]
    · rw [if_neg q, if_neg q]
  · funext x
    unfold xv_K
    by_cases q : x < 48
    · rw [if_pos q, if_pos q, h3 _ (by omega)]
    · rw [if_neg q, if_neg q]
  · funext x
    unfold xv_V
    by_cases q : x < 48
    · rw [if_pos q, if_pos q, h3 _ (by omega)]
    · rw [if_neg q, if_neg q]
  · funext x k
    unfold xv_P
    by_cases q : x < 48 ∧ k < 3
    · rw [if_pos q, if_pos q, h3 _ (by omega)]
    · rw [if_neg q, if_neg q]
theorem cl_XT {Kp : Nat → Prop} {a a' : Nat → Int32} (h : cl_X Kp a a') (c : Nat) : ((xv_T a').1 c ↔ ((xv_T a).1 c ∧ xv_U a' c)) ∧ (xv_T a').2 = (xv_T a).2 := by
  obtain ⟨l1, l2, l3, l4⟩ := cl_L h
  constructor
  · show (xv_U a' c ∧ xv_L a' c = c ∧ xv_K a' c ≠ 0) ↔ ((xv_U a c ∧ xv_L a c = c ∧ xv_K a c ≠ 0) ∧ xv_U a' c)
    rw [l1, l2]
    constructor
    · intro ⟨p, q, r⟩
      exact ⟨⟨((cl_U h c).mp p).1, q, r⟩, p⟩
    · intro ⟨⟨_, q, r⟩, p⟩
      exact ⟨p, q, r⟩
  · show ((fun c => (xv_K a' c, xv_V a' c), xv_P a') : (Nat → Int32 × Int32) × (Nat → Nat → Nat)) = (fun c => (xv_K a c, xv_V a c), xv_P a)
    rw [l2, l3, l4]
theorem cl_YT {Kp : Nat → Prop} {a s s' : Nat → Int32} (eU : yv_U s = xv_U a) (h : cl_Y Kp a s s') (c : Nat) : ((yv_T s').1 c ↔ ((yv_T s).1 c ∧ Kp (xv_L a c))) ∧ ((yv_T s').1 c → (yv_T s').2.1 c = (yv_T s).2.1 c ∧ ∀ k, (yv_T s').2.2 c k = (yv_T s).2.2 c k) := by
  obtain ⟨h1, h2, h3⟩ := h
  have one : (yv_T s').1 c ↔ ((yv_T s).1 c ∧ Kp (xv_L a c)) := by
    show (yv_U s' c ∧ s' (48 + c) ≠ 0) ↔ ((yv_U s c ∧ s (48 + c) ≠ 0) ∧ Kp (xv_L a c))
    rw [eU]
    constructor
    · intro ⟨⟨p, q⟩, r⟩
      by_cases u : xv_U a c
      · by_cases k : Kp (xv_L a c)
        · obtain ⟨_, e2, _, _, _⟩ := h2 c p (Or.inr k)
          rw [e2] at r
          exact ⟨⟨u, r⟩, k⟩
        · rw [(h1 c p u k).2.2.1] at q
          exact absurd q (by decide)
      · rw [(h2 c p (Or.inl u)).2.2.1] at q
        have : yv_U s c := ⟨p, q⟩
        rw [eU] at this
        exact absurd this u
    · intro ⟨⟨u, r⟩, k⟩
      obtain ⟨_, e2, e3, _, _⟩ := h2 c u.1 (Or.inr k)
      have u' : yv_U s c := by rw [eU]; exact u
      exact ⟨⟨u.1, by rw [e3]; exact u'.2⟩, by rw [e2]; exact r⟩
  refine ⟨one, fun hc => ?_⟩
  have hk := (one.mp hc).2
  have c48 : c < 48 := (yv_T1 hc).1.1
  constructor
  · show (if c < 48 then (yv_k s' c, s' (96 + c)) else (0, 0)) = (if c < 48 then (yv_k s c, s (96 + c)) else (0, 0))
    rw [if_pos c48, if_pos c48]
    unfold yv_k
    rw [(h2 c c48 (Or.inr hk)).2.1, h3 (144 + c) (by omega), h3 (192 + c) (by omega), h3 (96 + c) (by omega)]
  · intro k
    show yv_P s' c k = yv_P s c k
    unfold yv_P
    by_cases w : c < 48 ∧ k < 3
    · rw [if_pos w, if_pos w, h3 _ (by omega)]
    · rw [if_neg w, if_neg w]
theorem cl_C {B : Nat} {Kp : Nat → Prop} {a a' s s' : Nat → Int32} (hroot : ∀ x, kp_0 a x → Kp (xv_L a x)) (hpart : ∀ c, Kp c → (xv_T a).1 c → ∀ k, k < ma_ct ((xv_T a).2.1 c).1 → Kp (xv_L a ((xv_T a).2.2 c k))) (r : re_C B a s) (hX : cl_X Kp a a') (hY : cl_Y Kp a s s') : re_C B a' s' := by
  obtain ⟨p, S1, S2⟩ := r
  have eU := re_U p
  have p0 := p
  obtain ⟨h1, h2, h3, h4, h5, h6⟩ := p
  have r5 := h5
  obtain ⟨w, x1, x2, y1, s1, s2⟩ := h5
  have N := h6
  obtain ⟨l1, l2, l3, l4⟩ := cl_L hX
  have cU := cl_U hX
  have tX := cl_XT hX
  have tY := cl_YT eU hY
  have tX2 := (tX 0).2
  have kL : ∀ x, xv_U a' x → xv_U a' (xv_L a x) := by
    intro x hx
    obtain ⟨u, k⟩ := (cU x).mp hx
    obtain ⟨w1, w2, w3, w4⟩ := w x u
    exact (cU _).mpr ⟨w2, by rw [w3]; exact k⟩
  have w' : ma_W (xv_U a') (xv_L a') := by
    rw [l1]
    intro x hx
    obtain ⟨u, k⟩ := (cU x).mp hx
    obtain ⟨w1, w2, w3, w4⟩ := w x u
    exact ⟨w1, kL x hx, w3, w4⟩
  have x2' : ∀ c, (xv_T a').1 c → ∀ k, k < ma_ct ((xv_T a).2.1 c).1 → xv_U a' ((xv_T a).2.2 c k) := by
    intro c hc k hk
    obtain ⟨t1, t2⟩ := (tX c).1.mp hc
    have kc := ((cU c).mp t2).2
    rw [(x1 c t1).2] at kc
    exact (cU _).mpr ⟨x2 c t1 k hk, hpart _ kc t1 _ hk⟩
  have kpart : ∀ c, (yv_T s').1 c → ∀ k, k < ma_ct ((yv_T s).2.1 c).1 → xv_U a' ((yv_T s).2.2 c k) := by
    intro c hc k hk
    obtain ⟨t1, t2⟩ := (tY c).1.mp hc
    obtain ⟨z1, z2, z3⟩ := ma_R_x r5 t1
    refine (cU _).mpr ⟨(y1 c t1).2 k hk, ?_⟩
    rw [z3 k hk]
    exact hpart _ t2 z1 _ (by rw [z2]; exact hk)
  have K' : ∀ x y, ma_K (xv_U a) (xv_L a) x y → xv_U a' x → ma_K (xv_U a') (xv_L a') x y := by
    intro x y h ux
    rcases h with h | ⟨p, q, e⟩
    · exact Or.inl h
    · obtain ⟨_, k⟩ := (cU x).mp ux
      exact Or.inr ⟨ux, (cU y).mpr ⟨q, by rw [← e]; exact k⟩, by rw [l1]; exact e⟩
  have P' : re_P B a' s' := by
    have U' : ∀ x, x < 48 → a' (336 + x) = s' (384 + x) := by
      intro x hx
      by_cases u : xv_U a x
      · by_cases k : Kp (xv_L a x)
        · rw [(hX.2.1 x hx (Or.inr k)).1, (hY.2.1 x hx (Or.inr k)).2.2.1]; exact h3 x hx
        · rw [(hX.1 x hx u k).1, (hY.1 x hx u k).2.2.1]
      · rw [(hX.2.1 x hx (Or.inl u)).1, (hY.2.1 x hx (Or.inl u)).2.2.1]; exact h3 x hx
    refine ⟨?_, ?_, U', ?_, ⟨w', ?_, ?_, ?_, ?_, ?_⟩, ?_⟩
    · obtain ⟨g1, g2, g3, g4, g5, g6⟩ := h1
      have low := hX.2.2
      refine ⟨?_, ?_, ?_, ?_, ?_, ?_⟩
      · intro x hx; rw [low _ (by omega)]; exact g1 x hx
      · intro x hx; rw [low _ (by omega), low _ (by omega)]; exact g2 x hx
      · intro x k hx hk; rw [low _ (by omega)]; exact g3 x k hx hk
      · intro x hx
        by_cases u : xv_U a x
        · by_cases k : Kp (xv_L a x)
          · rw [(hX.2.1 x hx (Or.inr k)).1]; exact g4 x hx
          · exact Or.inl (hX.1 x hx u k).1
        · rw [(hX.2.1 x hx (Or.inl u)).1]; exact g4 x hx
      · intro x hx; rw [low _ (by omega), low _ (by omega)]; exact g5 x hx
      · intro x hx; rw [low _ (by omega)]; exact g6 x hx
    · obtain ⟨g1, g2, g3, g4⟩ := h2
      obtain ⟨q1, q2, q3⟩ := hY
      refine ⟨?_, ?_, ?_, ?_⟩
      · intro x hx
        by_cases u : xv_U a x
        · by_cases k : Kp (xv_L a x)
          · rw [(q2 x hx (Or.inr k)).1]; exact g1 x hx
          · exact ⟨x, hx, (q1 x hx u k).1⟩
        · rw [(q2 x hx (Or.inl u)).1]; exact g1 x hx
      · intro x hx
        by_cases u : xv_U a x
        · by_cases k : Kp (xv_L a x)
          · obtain ⟨e1, e2, e3, _, _⟩ := q2 x hx (Or.inr k)
            rw [e1, e2, e3]; exact g2 x hx
          · obtain ⟨e1, e2, e3, _, _⟩ := q1 x hx u k
            exact Or.inr ⟨e3, e1, e2⟩
        · obtain ⟨e1, e2, e3, _, _⟩ := q2 x hx (Or.inl u)
          rw [e1, e2, e3]; exact g2 x hx
      · intro x hx
        rw [q3 (96 + x) (by omega), q3 (144 + x) (by omega), q3 (192 + x) (by omega)]
        by_cases u : xv_U a x
        · by_cases k : Kp (xv_L a x)
          · rw [(q2 x hx (Or.inr k)).2.1]; exact g3 x hx
          · exact Or.inl (q1 x hx u k).2.1
        · rw [(q2 x hx (Or.inl u)).2.1]; exact g3 x hx
      · intro x k hx hk
        rw [q3 _ (by omega)]; exact g4 x k hx hk
    · intro x hx
      obtain ⟨u, k⟩ := (cU x).mp hx
      rw [hX.2.2 x (by have := u.1; omega), (hY.2.1 x u.1 (Or.inr k)).1]; exact h4 x u
    · intro c hc
      obtain ⟨t1, t2⟩ := (tX c).1.mp hc
      exact ⟨t2, by rw [l1]; exact (x1 c t1).2⟩
    · intro c hc k hk
      rw [tX2] at hk ⊢
      exact x2' c hc k hk
    · intro c hc
      obtain ⟨e1, e2⟩ := (tY c).2 hc
      obtain ⟨t1, t2⟩ := (tY c).1.mp hc
      refine ⟨(cU c).mpr ⟨(y1 c t1).1, t2⟩, fun k hk => ?_⟩
      rw [e1] at hk
      rw [e2 k]; exact kpart c hc k hk
    · intro c hc
      obtain ⟨t1, t2⟩ := (tX c).1.mp hc
      obtain ⟨d, d1, d2, d3, d4⟩ := s1 c t1
      have kd := K' c d d2 t2
      have ud : xv_U a' d := by
        rcases kd with q | q
        · rw [← q]; exact t2
        · exact q.2.1
      have hd : (yv_T s').1 d := (tY d).1.mpr ⟨d1, ((cU d).mp ud).2⟩
      obtain ⟨e1, e2⟩ := (tY d).2 hd
      refine ⟨d, hd, kd, ?_, fun k hk => ?_⟩
      · rw [e1, d3, tX2]
      · rw [tX2] at hk
        rw [e2 k, tX2]
        exact K' _ _ (d4 k hk) (x2' c hc k hk)
    · intro c hc
      obtain ⟨e1, e2⟩ := (tY c).2 hc
      obtain ⟨t1, t2⟩ := (tY c).1.mp hc
      obtain ⟨d, d1, d2, d3, d4⟩ := s2 c t1
      have uc : xv_U a' c := (cU c).mpr ⟨(y1 c t1).1, t2⟩
      have kd := K' c d d2 uc
      have ud : xv_U a' d := by
        rcases kd with q | q
        · rw [← q]; exact uc
        · exact q.2.1
      refine ⟨d, (tX d).1.mpr ⟨d1, ud⟩, kd, ?_, fun k hk => ?_⟩
      · rw [tX2, d3, e1]
      · rw [e1] at hk
        rw [e2 k, tX2]
        exact K' _ _ (d4 k hk) (kpart c hc k hk)
    · obtain ⟨n1, n2, n3, n4, n5, n6, n7⟩ := N
      have ca := hX.2.2
      have cs := hY.2.2
      have stay : ∀ x, kp_0 a x → xv_U a' x := fun x h => (cU x).mpr ⟨h.1, hroot _ h⟩
      refine ⟨?_, ?_, ?_, ?_, ?_, ?_, ?_⟩
      · intro x hx
        by_cases u : xv_U a x
        · by_cases k : Kp (xv_L a x)
          · rw [(hX.2.1 x hx (Or.inr k)).2, (hY.2.1 x hx (Or.inr k)).2.2.2.2]
            obtain ⟨o1, o2⟩ := n1 x hx
            refine ⟨o1, ?_⟩
            rcases o2 with o | o
            · exact Or.inl o
            · exact Or.inr ⟨o.1, (cU x).mpr ⟨u, k⟩⟩
          · rw [(hX.1 x hx u k).2, (hY.1 x hx u k).2.2.2.2]
            exact ⟨rfl, Or.inl rfl⟩
        · rw [(hX.2.1 x hx (Or.inl u)).2, (hY.2.1 x hx (Or.inl u)).2.2.2.2]
          obtain ⟨o1, o2⟩ := n1 x hx
          refine ⟨o1, ?_⟩
          rcases o2 with o | o
          · exact Or.inl o
          · exact absurd o.2 u
      · intro x hx
        rw [ca (432 + x) (by omega)]
        obtain ⟨o1, o2⟩ := n2 x hx
        by_cases u : xv_U a x
        · by_cases k : Kp (xv_L a x)
          · rw [(hY.2.1 x hx (Or.inr k)).2.2.2.1]
            refine ⟨o1, ?_⟩
            rcases o2 with o | o
            · exact Or.inl o
            · exact Or.inr ⟨o.1, (cU x).mpr ⟨u, k⟩⟩
          · rw [(hY.1 x hx u k).2.2.2.1]
            rcases o2 with o | o
            · exact ⟨o, Or.inl o⟩
            · exact absurd (hroot _ ⟨u, Or.inl o.1⟩) k
        · rw [(hY.2.1 x hx (Or.inl u)).2.2.2.1]
          refine ⟨o1, ?_⟩
          rcases o2 with o | o
          · exact Or.inl o
          · exact absurd o.2 u
      · intro t ht
        rw [ca (480 + t) (by omega), ca (488 + t) (by omega), ca (496 + t) (by omega), cs (544 + t) (by omega), cs (528 + t) (by omega), cs (536 + t) (by omega)]
        obtain ⟨o1, o2, o3, o4⟩ := n3 t ht
        refine ⟨o1, o2, o3, fun h => ?_⟩
        obtain ⟨⟨q, u, e⟩, o⟩ := o4 h
        refine ⟨⟨q, stay q ⟨u, Or.inr (Or.inr (Or.inl ⟨t, ht, h, Or.inl e⟩))⟩, e⟩, ?_⟩
        rcases o with o | ⟨q', u', e'⟩
        · exact Or.inl o
        · exact Or.inr ⟨q', stay q' ⟨u', Or.inr (Or.inr (Or.inl ⟨t, ht, h, Or.inr e'⟩))⟩, e'⟩
      · intro k hk
        rw [ca (504 + k) (by omega), ca (512 + k) (by omega), cs (552 + k) (by omega), cs (560 + k) (by omega)]
        obtain ⟨o1, o2⟩ := n4 k hk
        refine ⟨o1, ?_⟩
        rcases o2 with o | ⟨x, y, ux, uy, e1, e2, e3⟩
        · exact Or.inl o
        · exact Or.inr ⟨x, y, stay x ⟨ux, Or.inr (Or.inr (Or.inr ⟨k, hk, Or.inl e1⟩))⟩, stay y ⟨uy, Or.inr (Or.inr (Or.inr ⟨k, hk, Or.inr e2⟩))⟩, e1, e2, e3⟩
      · intro e he
        rw [ca _ (by omega), cs _ (by omega)]
        obtain ⟨o1, o2⟩ := n5 e he
        refine ⟨o1, ?_⟩
        rcases o2 with o | ⟨x, ux, ex⟩
        · exact Or.inl o
        · exact Or.inr ⟨x, stay x ⟨ux, Or.inr (Or.inl ⟨e, he, ex⟩)⟩, ex⟩
      · rw [ca _ (by omega), cs _ (by omega)]; exact n6
      · intro j hj
        rw [ca _ (by omega), cs _ (by omega)]; exact n7 j hj
  refine ⟨P', ?_⟩
  have stay : ∀ x, kp_0 a x → xv_U a' x := fun x h => (cU x).mpr ⟨h.1, hroot _ h⟩
  refine re_S_sub (xv_U a') N S1 S2 (fun i _ _ => hX.2.2 i (by omega)) ?_ ?_ ?_ ?_ ?_
  · intro t q ht h3 uq e
    exact stay q ⟨uq, Or.inr (Or.inr (Or.inl ⟨t, ht, h3, e⟩))⟩
  · intro k x hk ux e
    exact stay x ⟨ux, Or.inr (Or.inr (Or.inr ⟨k, hk, Or.inl e⟩))⟩
  · intro q _
    rw [l1, l2]
  · intro q y uq uy
    have c := ma_cut (U := xv_U a) (U' := xv_U a') (L := xv_L a) (L' := xv_L a') (T := xv_T a) (T' := xv_T a') w x1 (fun x hx => ((cU x).mp hx).1) (by
      intro x hx
      rw [cU x, cU (xv_L a x), (w x hx).2.2.1]
      exact ⟨fun q => ⟨(w x hx).2.1, q.2⟩, fun q => ⟨hx, q.2⟩⟩) (fun x _ => by rw [l1]) (fun c => (tX c).1) (fun c hc => by
      rw [tX2]
      exact ⟨rfl, fun k hk => ⟨rfl, x2' c hc k hk⟩⟩) uq uy
    exact ma_vd_eq c.1 c.2
  · intro x _ h
    rcases h with ⟨v, v1, v2, v3⟩ | ⟨t', q, t1, t2, t3, t4, t5, t6⟩
    · rw [l1] at v3
      refine Or.inl ⟨v, v1, ?_, v3⟩
      by_cases u : xv_U a v
      · by_cases k : Kp (xv_L a v)
        · rw [(hX.2.1 v v1 (Or.inr k)).2] at v2; exact v2
        · rw [(hX.1 v v1 u k).2] at v2
          exact absurd v2 (by decide)
      · rw [(hX.2.1 v v1 (Or.inl u)).2] at v2; exact v2
    · rw [hX.2.2 _ (by omega)] at t2 t3 t5
      rw [l1] at t6
      exact Or.inr ⟨t', q, t1, t2, t3, t4, t5, t6⟩
