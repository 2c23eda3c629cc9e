/-- what is SETTLED stays so where only what no TEST or TRIGGER sees has changed -/
theorem re_S_sub {B : Nat} {a a' s : Nat → Int32} (V : Nat → Prop) (N : re_N B a s) (S1 : re_S1 a) (S2 : re_S2 a) (hc : ∀ i, 480 ≤ i → i < 520 → a' i = a i) (hV : ∀ t q, t < 8 → a (480 + t) = 3 → xv_U a q → (a (488 + t) = nI q ∨ a (496 + t) = nI q) → V q) (hG : ∀ k x, k < 8 → xv_U a x → a (504 + k) = nI x → V x) (hk : ∀ q, V q → xv_K a' (xv_L a' q) = xv_K a (xv_L a q)) (hv : ∀ q y, V q → V y → ma_vd (xv_U a') (xv_L a') (xv_T a') q y = ma_vd (xv_U a) (xv_L a) (xv_T a) q y) (hn : ∀ x, V x → re_nd a' x → re_nd a x) : re_S1 a' ∧ re_S2 a' := by
  have inj : ∀ {p q : Nat}, p < 48 → q < 48 → nI p = nI q → p = q := fun hp hq e => (nI_eq (by omega) (by omega)).mp e
  constructor
  · intro t q ht h3 hq e
    rw [hc _ (by omega) (by omega)] at h3 e
    rw [hc (496 + t) (by omega) (by omega)]
    obtain ⟨_, _, n3, _⟩ := N
    obtain ⟨⟨q1, u1, e1⟩, n5⟩ := (n3 t ht).2.2.2 h3
    have q1q : q1 = q := inj u1.1 hq (by rw [← e1, e])
    rw [q1q] at u1
    have vq := hV t q ht h3 u1 (Or.inl e)
    obtain ⟨s1, s2⟩ := S1 t q ht h3 hq e
    refine ⟨fun m => by rw [hk q vq]; exact s1 m, fun y hy ey => ?_⟩
    rcases n5 with m | ⟨y1, u2, e2⟩
    · rw [ey] at m
      exact ((li_nn1 (by omega)).mp m).elim
    · have y1y : y1 = y := inj u2.1 hy (by rw [← e2, ey])
      rw [y1y] at u2
      rw [hv q y vq (hV t y ht h3 u2 (Or.inr ey))]
      exact s2 y hy ey
  · intro k x hk8 hx e
    rw [hc _ (by omega) (by omega)] at e
    obtain ⟨_, _, _, n4, _⟩ := N
    have ux : xv_U a x := by
      rcases (n4 k hk8).2 with ⟨m, _⟩ | ⟨x1, y1, u1, _, e1, _⟩
      · rw [e] at m
        exact ((li_nn1 (by omega)).mp m).elim
      · have : x1 = x := inj u1.1 hx (by rw [← e1, e])
        rw [← this]; exact u1
    have vx := hG k x hk8 ux e
    obtain ⟨s1, s2⟩ := S2 k x hk8 hx e
    exact ⟨by rw [hk x vx]; exact s1, fun z => s2 (hn x vx z)⟩
/-- the cells that take(z) and use(z) leave -/
def tk_X (a a' : Nat → Int32) (z : Nat) : Prop :=
  a' (336 + z) = 1 ∧ a' z = nI z ∧ a' (48 + z) = 0 ∧ a' (96 + z) = 0 ∧ a' (144 + z) = 0 ∧ ∀ i, i ≠ 336 + z → i ≠ z → i ≠ 48 + z → i ≠ 96 + z → i ≠ 144 + z → a' i = a i
def tk_Y (s s' : Nat → Int32) (z : Nat) : Prop :=
  s' (384 + z) = 1 ∧ s' z = nI z ∧ s' (48 + z) = 0 ∧ s' (432 + z) = 0 ∧ s' (480 + z) = 0 ∧ ∀ i, i ≠ 384 + z → i ≠ z → i ≠ 48 + z → i ≠ 432 + z → i ≠ 480 + z → s' i = s i
theorem tk_XL {a a' : Nat → Int32} {z x : Nat} (t : tk_X a a' z) (hz : z < 48) (hx : x ≠ z) : xv_L a' x = xv_L a x ∧ xv_K a' x = xv_K a x ∧ xv_V a' x = xv_V a x ∧ (∀ k, xv_P a' x k = xv_P a x k) ∧ (xv_U a' x ↔ xv_U a x) := by
  obtain ⟨t1, t2, t3, t4, t5, t6⟩ := t
  refine ⟨?_, ?_, ?_, fun k => ?_, ?_⟩
  · unfold xv_L
    by_cases q : x < 48
    · rw [if_pos q, if_pos q, t6 x (by omega) (by omega) (by omega) (by omega) (by omega)]
    · rw [if_neg q, if_neg q]
  · unfold xv_K
    by_cases q : x < 48
    · rw [if_pos q, if_pos q, t6 _ (by omega) (by omega) (by omega) (by omega) (by omega)]
    · rw [if_neg q, if_neg q]
  · unfold xv_V
    by_cases q : x < 48
    · rw [if_pos q, if_pos q, t6 _ (by omega) (by omega) (by omega) (by omega) (by omega)]
    · rw [if_neg q, if_neg q]
  · unfold xv_P
    by_cases q : x < 48 ∧ k < 3
    · rw [if_pos q, if_pos q, t6 _ (by omega) (by omega) (by omega) (by omega) (by omega)]
    · rw [if_neg q, if_neg q]
  · unfold xv_U
    by_cases q : x < 48
    · rw [t6 _ (by omega) (by omega) (by omega) (by omega) (by omega)]
    · exact ⟨fun h => absurd h.1 q, fun h => absurd h.1 q⟩
theorem tk_Xz {a a' : Nat → Int32} {z : Nat} (t : tk_X a a' z) (hz : z < 48) : xv_L a' z = z ∧ xv_K a' z = 0 ∧ xv_U a' z := by
  obtain ⟨t1, t2, t3, t4, t5, t6⟩ := t
  refine ⟨?_, ?_, hz, t1⟩
  · unfold xv_L; rw [if_pos hz, t2, nI_clamp (by omega)]
  · unfold xv_K; rw [if_pos hz, t3]
theorem tk_XT {a a' : Nat → Int32} {z c : Nat} (t : tk_X a a' z) (hz : z < 48) (nz : ¬ xv_U a z) : ((xv_T a').1 c ↔ (xv_T a).1 c) ∧ ((xv_T a).1 c → (xv_T a').2.1 c = (xv_T a).2.1 c ∧ ∀ k, (xv_T a').2.2 c k = (xv_T a).2.2 c k) := by
  by_cases q : c = z
  · refine ⟨⟨fun h => ?_, fun h => ?_⟩, fun h => ?_⟩
    · have h1 : xv_K a' c ≠ 0 := (xv_T1 h).2.2
      rw [q] at h1
      exact absurd (tk_Xz t hz).2.1 h1
    · have h1 : xv_U a c := (xv_T1 h).1
      rw [q] at h1; exact absurd h1 nz
    · have h1 : xv_U a c := (xv_T1 h).1
      rw [q] at h1; exact absurd h1 nz
  · obtain ⟨e1, e2, e3, e4, e5⟩ := tk_XL t hz q
    refine ⟨?_, fun _ => ⟨?_, e4⟩⟩
    · show (xv_U a' c ∧ xv_L a' c = c ∧ xv_K a' c ≠ 0) ↔ (xv_U a c ∧ xv_L a c = c ∧ xv_K a c ≠ 0)
      rw [e1, e2, e5]
    · show (xv_K a' c, xv_V a' c) = (xv_K a c, xv_V a c)
      rw [e2, e3]
theorem tk_XH {a a' : Nat → Int32} {z : Nat} (t : tk_X a a' z) (hz : z < 48) (h : xv_H a) : xv_H a' := by
  obtain ⟨t1, t2, t3, t4, t5, t6⟩ := t
  obtain ⟨g1, g2, g3, g4, g5, g6⟩ := h
  refine ⟨?_, ?_, ?_, ?_, ?_, ?_⟩
  · intro x hx
    by_cases q : x = z
    · rw [q]; exact ⟨z, hz, t2⟩
    · rw [t6 x (by omega) (by omega) (by omega) (by omega) (by omega)]; exact g1 x hx
  · intro x hx
    by_cases q : x = z
    · rw [q, t3, t5, ma_ct_0]; rfl
    · rw [t6 (144 + x) (by omega) (by omega) (by omega) (by omega) (by omega), t6 (48 + x) (by omega) (by omega) (by omega) (by omega) (by omega)]; exact g2 x hx
  · intro x k hx hk
    rw [t6 _ (by omega) (by omega) (by omega) (by omega) (by omega)]; exact g3 x k hx hk
  · intro x hx
    by_cases q : x = z
    · rw [q]; exact Or.inr t1
    · rw [t6 _ (by omega) (by omega) (by omega) (by omega) (by omega)]; exact g4 x hx
  · intro x hx
    by_cases q : x = z
    · rw [q]; exact Or.inr t4
    · rw [t6 (48 + x) (by omega) (by omega) (by omega) (by omega) (by omega), t6 (96 + x) (by omega) (by omega) (by omega) (by omega) (by omega)]; exact g5 x hx
  · intro x hx
    by_cases q : x = z
    · rw [q]; exact ⟨0, by omega, t3⟩
    · rw [t6 _ (by omega) (by omega) (by omega) (by omega) (by omega)]; exact g6 x hx
theorem tk_YH {s s' : Nat → Int32} {z : Nat} (t : tk_Y s s' z) (hz : z < 48) (h : yv_H s) : yv_H s' := by
  obtain ⟨t1, t2, t3, t4, t5, t6⟩ := t
  obtain ⟨g1, g2, g3, g4⟩ := h
  refine ⟨?_, ?_, ?_, ?_⟩
  · intro x hx
    by_cases q : x = z
    · rw [q]; exact ⟨z, hz, t2⟩
    · rw [t6 x (by omega) (by omega) (by omega) (by omega) (by omega)]; exact g1 x hx
  · intro x hx
    by_cases q : x = z
    · rw [q]; exact Or.inl t1
    · rw [t6 x (by omega) (by omega) (by omega) (by omega) (by omega), t6 (384 + x) (by omega) (by omega) (by omega) (by omega) (by omega), t6 (48 + x) (by omega) (by omega) (by omega) (by omega) (by omega)]; exact g2 x hx
  · intro x hx
    by_cases q : x = z
    · rw [q]; exact Or.inl t3
    · rw [t6 (48 + x) (by omega) (by omega) (by omega) (by omega) (by omega), t6 (96 + x) (by omega) (by omega) (by omega) (by omega) (by omega), t6 (144 + x) (by omega) (by omega) (by omega) (by omega) (by omega), t6 (192 + x) (by omega) (by omega) (by omega) (by omega) (by omega)]; exact g3 x hx
  · intro x k hx hk
    rw [t6 _ (by omega) (by omega) (by omega) (by omega) (by omega)]; exact g4 x k hx hk
theorem ma_K_mono {U U' : Nat → Prop} {L L' : Nat → Nat} (hU : ∀ x, U x → U' x ∧ L' x = L x) : ∀ x y, ma_K U L x y → ma_K U' L' x y := by
  intro x y h
  rcases h with h | ⟨a, b, c⟩
  · exact Or.inl h
  · exact Or.inr ⟨(hU x a).1, (hU y b).1, by rw [(hU x a).2, (hU y b).2, c]⟩
theorem ma_Sub_eq {T T' S S' : ma_T} {E : Nat → Nat → Prop} (h1 : ∀ c, T'.1 c → T.1 c ∧ T'.2.1 c = T.2.1 c ∧ ∀ k, T'.2.2 c k = T.2.2 c k) (h2 : ∀ c, S.1 c → S'.1 c ∧ S'.2.1 c = S.2.1 c ∧ ∀ k, S'.2.2 c k = S.2.2 c k) (s : ma_Sub T S E) : ma_Sub T' S' E := by
  intro c hc
  obtain ⟨a1, a2, a3⟩ := h1 c hc
  obtain ⟨d, d1, d2, d3, d4⟩ := s c a1
  obtain ⟨b1, b2, b3⟩ := h2 d d1
  refine ⟨d, b1, d2, by rw [b2, d3, a2], fun k hk => ?_⟩
  rw [a2] at hk
  rw [a3, b3]; exact d4 k hk
/-- new variables F, each by itself in its class -/
def ex_X (a a' : Nat → Int32) (F : Nat → Prop) : Prop :=
  (∀ f, F f → f < 48 ∧ a' (336 + f) = 1 ∧ a' f = nI f) ∧
  (∀ x, x < 48 → ¬ F x → a' x = a x ∧ a' (48 + x) = a (48 + x) ∧ a' (96 + x) = a (96 + x) ∧ a' (336 + x) = a (336 + x) ∧ ∀ k, k < 3 → a' (192 + 3 * x + k) = a (192 + 3 * x + k)) ∧
  (∀ i, 384 ≤ i → a' i = a i)
def ex_Y (s s' : Nat → Int32) (F : Nat → Prop) : Prop :=
  (∀ f, F f → f < 48 ∧ s' (384 + f) = 1 ∧ s' f = nI f ∧ s' (432 + f) = 0 ∧ s' (480 + f) = 0) ∧
  (∀ x, x < 48 → ¬ F x → s' x = s x ∧ s' (48 + x) = s (48 + x) ∧ s' (96 + x) = s (96 + x) ∧ s' (144 + x) = s (144 + x) ∧ s' (192 + x) = s (192 + x) ∧ s' (384 + x) = s (384 + x) ∧ s' (432 + x) = s (432 + x) ∧ s' (480 + x) = s (480 + x) ∧ ∀ k, k < 3 → s' (240 + 3 * x + k) = s (240 + 3 * x + k)) ∧
  (∀ i, 528 ≤ i → i < 633 → s' i = s i)
theorem ex_XL {a a' : Nat → Int32} {F : Nat → Prop} (h : ex_X a a' F) {x : Nat} (hx : ¬ F x) : xv_L a' x = xv_L a x ∧ xv_K a' x = xv_K a x ∧ xv_V a' x = xv_V a x ∧ (∀ k, xv_P a' x k = xv_P a x k) ∧ (xv_U a' x ↔ xv_U a x) := by
  obtain ⟨_, h2, _⟩ := h
  by_cases q : x < 48
  · obtain ⟨e1, e2, e3, e4, e5⟩ := h2 x q hx
    refine ⟨?_, ?_, ?_, fun k => ?_, ?_⟩
    · unfold xv_L; rw [e1]
    · unfold xv_K; rw [e2]
    · unfold xv_V; rw [e3]
    · unfold xv_P
      by_cases w : x < 48 ∧ k < 3
      · rw [if_pos w, if_pos w, e5 k w.2]
      · rw [if_neg w, if_neg w]
    · unfold xv_U; rw [e4]
  · refine ⟨?_, ?_, ?_, fun k => ?_, ?_⟩
    · unfold xv_L; rw [if_neg q, if_neg q]
    · unfold xv_K; rw [if_neg q, if_neg q]
    · unfold xv_V; rw [if_neg q, if_neg q]
    · unfold xv_P; rw [if_neg (fun w => q w.1), if_neg (fun w => q w.1)]
    · exact ⟨fun w => absurd w.1 q, fun w => absurd w.1 q⟩
theorem ex_XF {a a' : Nat → Int32} {F : Nat → Prop} (h : ex_X a a' F) {f : Nat} (hf : F f) : xv_U a' f ∧ xv_L a' f = f := by
  obtain ⟨e1, e2, e3⟩ := h.1 f hf
  refine ⟨⟨e1, e2⟩, ?_⟩
  unfold xv_L
  rw [if_pos e1, e3, nI_clamp (by omega)]
theorem ex_YT {s s' : Nat → Int32} {F : Nat → Prop} (h : ex_Y s s' F) {c : Nat} (hc : ¬ F c) : ((yv_T s').1 c ↔ (yv_T s).1 c) ∧ (yv_T s').2.1 c = (yv_T s).2.1 c ∧ ∀ k, (yv_T s').2.2 c k = (yv_T s).2.2 c k := by
  obtain ⟨_, h2, _⟩ := h
  refine ⟨?_, ?_, fun k => ?_⟩
  · show ((c < 48 ∧ s' (384 + c) = 1) ∧ s' (48 + c) ≠ 0) ↔ ((c < 48 ∧ s (384 + c) = 1) ∧ s (48 + c) ≠ 0)
    by_cases q : c < 48
    · obtain ⟨_, e2, _, _, _, e6, _⟩ := h2 c q hc
      rw [e2, e6]
    · exact ⟨fun w => absurd w.1.1 q, fun w => absurd w.1.1 q⟩
  · show (if c < 48 then (yv_k s' c, s' (96 + c)) else (0, 0)) = (if c < 48 then (yv_k s c, s (96 + c)) else (0, 0))
    by_cases q : c < 48
    · obtain ⟨_, e2, e3, e4, e5, _⟩ := h2 c q hc
      rw [if_pos q, if_pos q]
      unfold yv_k
      rw [e2, e3, e4, e5]
    · rw [if_neg q, if_neg q]
  · show yv_P s' c k = yv_P s c k
    unfold yv_P
    by_cases w : c < 48 ∧ k < 3
    · rw [if_pos w, if_pos w, (h2 c w.1 hc).2.2.2.2.2.2.2.2 k w.2]
    · rw [if_neg w, if_neg w]
theorem ex_P {B : Nat} {a a' s s' : Nat → Int32} {F : Nat → Prop} (r : re_P B a s) (nF : ∀ f, F f → ¬ xv_U a f) (hX : ex_X a a' F) (hY : ex_Y s s' F) (vX : xv_H a') (vY : yv_H s') (tF : ∀ f, F f → (a' (48 + f) ≠ 0 ↔ s' (48 + f) ≠ 0)) (sF : ∀ f, F f → a' (48 + f) ≠ 0 → (xv_T a').2.1 f = (yv_T s').2.1 f ∧ ∀ k, k < ma_ct ((xv_T a').2.1 f).1 → (xv_T a').2.2 f k = (yv_T s').2.2 f k ∧ xv_U a' ((xv_T a').2.2 f k)) : re_P B a' s' := by
  have r0 := r
  have eU := re_U r0
  obtain ⟨h1, h2, h3, h4, h5, h6⟩ := r
  have up : ∀ x, xv_U a x → xv_U a' x ∧ xv_L a' x = xv_L a x := by
    intro x hx
    have q : ¬ F x := fun e => nF x e hx
    obtain ⟨e1, _, _, _, e5⟩ := ex_XL hX q
    exact ⟨e5.mpr hx, e1⟩
  have dn : ∀ x, xv_U a' x → ¬ F x → xv_U a x := fun x hx q => (ex_XL hX q).2.2.2.2.mp hx
  have tX : ∀ c, ¬ F c → ((xv_T a').1 c ↔ (xv_T a).1 c) ∧ (xv_T a').2.1 c = (xv_T a).2.1 c ∧ ∀ k, (xv_T a').2.2 c k = (xv_T a).2.2 c k := by
    intro c q
    obtain ⟨e1, e2, e3, e4, e5⟩ := ex_XL hX q
    refine ⟨?_, ?_, e4⟩
    · show (xv_U a' c ∧ xv_L a' c = c ∧ xv_K a' c ≠ 0) ↔ (xv_U a c ∧ xv_L a c = c ∧ xv_K a c ≠ 0)
      rw [e1, e2, e5]
    · show (xv_K a' c, xv_V a' c) = (xv_K a c, xv_V a c)
      rw [e2, e3]
  have tY : ∀ c, ¬ F c → ((yv_T s').1 c ↔ (yv_T s).1 c) ∧ (yv_T s').2.1 c = (yv_T s).2.1 c ∧ ∀ k, (yv_T s').2.2 c k = (yv_T s).2.2 c k := fun c q => ex_YT hY q
  have fX : ∀ f, F f → ((xv_T a').1 f ↔ a' (48 + f) ≠ 0) := by
    intro f hf
    obtain ⟨u, l⟩ := ex_XF hX hf
    show (xv_U a' f ∧ xv_L a' f = f ∧ xv_K a' f ≠ 0) ↔ _
    rw [← xv_HK u.1]
    exact ⟨fun q => q.2.2, fun q => ⟨u, l, q⟩⟩
  have fY : ∀ f, F f → ((yv_T s').1 f ↔ s' (48 + f) ≠ 0) := by
    intro f hf
    obtain ⟨g1, g2, _⟩ := hY.1 f hf
    exact ⟨fun q => (yv_T1 q).2, fun q => ⟨⟨g1, g2⟩, q⟩⟩
  obtain ⟨w, x1, x2, y1, s1, s2⟩ := h5
  have km := ma_K_mono up
  have ke := ma_K_eqv (xv_U a') (xv_L a')
  refine ⟨vX, vY, ?_, ?_, ⟨?_, ?_, ?_, ?_, ?_, ?_⟩, ?_⟩
  · intro x hx
    by_cases q : F x
    · rw [(hX.1 x q).2.1, (hY.1 x q).2.1]
    · rw [(hX.2.1 x hx q).2.2.2.1, (hY.2.1 x hx q).2.2.2.2.2.1]; exact h3 x hx
  · intro x hx
    have hx48 := hx.1
    by_cases q : F x
    · rw [(hX.1 x q).2.2, (hY.1 x q).2.2.1]
    · rw [(hX.2.1 x hx48 q).1, (hY.2.1 x hx48 q).1]; exact h4 x (dn x hx q)
  · intro x hx
    by_cases q : F x
    · obtain ⟨u, l⟩ := ex_XF hX q
      rw [l]; exact ⟨u.1, u, l, Nat.le_refl _⟩
    · have ux := dn x hx q
      obtain ⟨w1, w2, w3, w4⟩ := w x ux
      rw [(up x ux).2]
      exact ⟨w1, (up _ w2).1, by rw [(up _ w2).2, w3], w4⟩
  · intro c hc
    exact ⟨(xv_T1 hc).1, (xv_T1 hc).2.1⟩
  · intro c hc k hk
    by_cases q : F c
    · exact ((sF c q ((fX c q).mp hc)).2 k hk).2
    · obtain ⟨e1, e2, e3⟩ := tX c q
      rw [e2] at hk
      rw [e3 k]; exact (up _ (x2 c (e1.mp hc) k hk)).1
  · intro c hc
    by_cases q : F c
    · have h0 := (tF c q).mpr ((fY c q).mp hc)
      obtain ⟨z1, z2⟩ := sF c q h0
      refine ⟨(ex_XF hX q).1, fun k hk => ?_⟩
      rw [← z1] at hk
      rw [← (z2 k hk).1]; exact (z2 k hk).2
    · obtain ⟨e1, e2, e3⟩ := tY c q
      have hc' := e1.mp hc
      refine ⟨(up _ (y1 c hc').1).1, fun k hk => ?_⟩
      rw [e2] at hk
      rw [e3 k]; exact (up _ ((y1 c hc').2 k hk)).1
  · intro c hc
    by_cases q : F c
    · have h0 := (fX c q).mp hc
      obtain ⟨z1, z2⟩ := sF c q h0
      refine ⟨c, (fY c q).mpr ((tF c q).mp h0), ke.1 _, z1.symm, fun k hk => ?_⟩
      rw [(z2 k hk).1]; exact ke.1 _
    · obtain ⟨e1, e2, e3⟩ := tX c q
      obtain ⟨d, d1, d2, d3, d4⟩ := s1 c (e1.mp hc)
      have nd : ¬ F d := fun z => nF d z (y1 d d1).1
      obtain ⟨g1, g2, g3⟩ := tY d nd
      refine ⟨d, g1.mpr d1, km _ _ d2, by rw [g2, d3, e2], fun k hk => ?_⟩
      rw [e2] at hk
      rw [e3 k, g3 k]; exact km _ _ (d4 k hk)
  · intro c hc
    by_cases q : F c
    · have h0 := (tF c q).mpr ((fY c q).mp hc)
      obtain ⟨z1, z2⟩ := sF c q h0
      refine ⟨c, (fX c q).mpr h0, ke.1 _, z1, fun k hk => ?_⟩
      rw [← z1] at hk
      rw [(z2 k hk).1]; exact ke.1 _
    · obtain ⟨e1, e2, e3⟩ := tY c q
      obtain ⟨d, d1, d2, d3, d4⟩ := s2 c (e1.mp hc)
      have nd : ¬ F d := fun z => nF d z (x1 d d1).1
      obtain ⟨g1, g2, g3⟩ := tX d nd
      refine ⟨d, g1.mpr d1, km _ _ d2, by rw [g2, d3, e2], fun k hk => ?_⟩
      rw [e2] at hk
      rw [e3 k, g3 k]; exact km _ _ (d4 k hk)
  · obtain ⟨n1, n2, n3, n4, n5, n6, n7⟩ := h6
    have ca := hX.2.2
    have cs := hY.2.2
    refine ⟨?_, ?_, ?_, ?_, ?_, ?_, ?_⟩
    · intro x hx
      rw [ca _ (by omega)]
      obtain ⟨p, q⟩ := n1 x hx
      by_cases e : F x
      · rw [(hY.1 x e).2.2.2.2]
        rcases q with q | q
        · exact ⟨q, Or.inl q⟩
        · exact absurd q.2 (nF x e)
      · rw [(hY.2.1 x hx e).2.2.2.2.2.2.2.1]
        refine ⟨p, ?_⟩
        rcases q with q | q
        · exact Or.inl q
        · exact Or.inr ⟨q.1, (up x q.2).1⟩
    · intro x hx
      rw [ca _ (by omega)]
      obtain ⟨p, q⟩ := n2 x hx
      by_cases e : F x
      · rw [(hY.1 x e).2.2.2.1]
        rcases q with q | q
        · exact ⟨q, Or.inl q⟩
        · exact absurd q.2 (nF x e)
      · rw [(hY.2.1 x hx e).2.2.2.2.2.2.1]
        refine ⟨p, ?_⟩
        rcases q with q | q
        · exact Or.inl q
        · exact Or.inr ⟨q.1, (up x q.2).1⟩
    · intro t ht
      rw [ca (480 + t) (by omega), ca (488 + t) (by omega), ca (496 + t) (by omega), cs (544 + t) (by omega) (by omega), cs (528 + t) (by omega) (by omega), cs (536 + t) (by omega) (by omega)]
      obtain ⟨p1, p2, p3, p4⟩ := n3 t ht
      refine ⟨p1, p2, p3, fun h => ?_⟩
      obtain ⟨⟨q, u, e⟩, o⟩ := p4 h
      refine ⟨⟨q, (up q u).1, e⟩, ?_⟩
      rcases o with o | ⟨q', u', e'⟩
      · exact Or.inl o
      · exact Or.inr ⟨q', (up q' u').1, e'⟩
    · intro k hk
      rw [ca (504 + k) (by omega), ca (512 + k) (by omega), cs (552 + k) (by omega) (by omega), cs (560 + k) (by omega) (by omega)]
      obtain ⟨p1, p2⟩ := n4 k hk
      refine ⟨p1, ?_⟩
      rcases p2 with p2 | ⟨x, y, ux, uy, e⟩
      · exact Or.inl p2
      · exact Or.inr ⟨x, y, (up x ux).1, (up y uy).1, e⟩
    · intro e he
      rw [ca _ (by omega), cs _ (by omega) (by omega)]
      obtain ⟨p1, p2⟩ := n5 e he
      refine ⟨p1, ?_⟩
      rcases p2 with p2 | ⟨x, ux, ex⟩
      · exact Or.inl p2
      · exact Or.inr ⟨x, (up x ux).1, ex⟩
    · rw [ca _ (by omega), cs _ (by omega) (by omega)]; exact n6
    · intro j hj
      rw [ca _ (by omega), cs _ (by omega) (by omega)]; exact n7 j hj
theorem tk_P {B : Nat} {a a' s s' : Nat → Int32} {z : Nat} (r : re_P B a s) (hz : z < 48) (nz : ¬ xv_U a z) (t : tk_X a a' z) (g : tk_Y s s' z) : re_P B a' s' := by
  have vX := tk_XH t hz r.1
  have vY := tk_YH g hz r.2.1
  obtain ⟨t1, t2, t3, t4, t5, t6⟩ := t
  obtain ⟨g1, g2, g3, g4, g5, g6⟩ := g
  refine ex_P (F := fun x => x = z) r (fun f e => by rw [e]; exact nz) ⟨?_, ?_, ?_⟩ ⟨?_, ?_, ?_⟩ vX vY ?_ ?_
  · intro f e
    rw [e]; exact ⟨hz, t1, t2⟩
  · intro x hx e
    have e' : x ≠ z := e
    refine ⟨t6 _ (by omega) (by omega) (by omega) (by omega) (by omega), t6 _ (by omega) (by omega) (by omega) (by omega) (by omega), t6 _ (by omega) (by omega) (by omega) (by omega) (by omega), t6 _ (by omega) (by omega) (by omega) (by omega) (by omega), fun k hk => t6 _ (by omega) (by omega) (by omega) (by omega) (by omega)⟩
  · exact fun i hi => t6 i (by omega) (by omega) (by omega) (by omega) (by omega)
  · intro f e
    rw [e]; exact ⟨hz, g1, g2, g4, g5⟩
  · intro x hx e
    have e' : x ≠ z := e
    refine ⟨g6 _ (by omega) (by omega) (by omega) (by omega) (by omega), g6 _ (by omega) (by omega) (by omega) (by omega) (by omega), g6 _ (by omega) (by omega) (by omega) (by omega) (by omega), g6 _ (by omega) (by omega) (by omega) (by omega) (by omega), g6 _ (by omega) (by omega) (by omega) (by omega) (by omega), g6 _ (by omega) (by omega) (by omega) (by omega) (by omega), g6 _ (by omega) (by omega) (by omega) (by omega) (by omega), g6 _ (by omega) (by omega) (by omega) (by omega) (by omega), fun k hk => g6 _ (by omega) (by omega) (by omega) (by omega) (by omega)⟩
  · exact fun i hi _ => g6 i (by omega) (by omega) (by omega) (by omega) (by omega)
  · intro f e
    rw [e, t3, g3]
  · intro f e h0
    rw [e] at h0
    exact absurd t3 h0
theorem tk_C {B : Nat} {a a' s s' : Nat → Int32} {z : Nat} (r : re_C B a s) (hz : z < 48) (nz : ¬ xv_U a z) (t : tk_X a a' z) (g : tk_Y s s' z) : re_C B a' s' := by
  obtain ⟨p, S1, S2⟩ := r
  have p' := tk_P p hz nz t g
  refine ⟨p', ?_⟩
  have tX : ∀ c, ((xv_T a').1 c ↔ (xv_T a).1 c) ∧ ((xv_T a).1 c → (xv_T a').2.1 c = (xv_T a).2.1 c ∧ ∀ k, (xv_T a').2.2 c k = (xv_T a).2.2 c k) := fun c => tk_XT t hz nz
  have up : ∀ x, xv_U a x → xv_U a' x ∧ xv_L a' x = xv_L a x ∧ xv_K a' x = xv_K a x := by
    intro x hx
    have q : x ≠ z := fun e => nz (by rw [← e]; exact hx)
    obtain ⟨e1, e2, _, _, e5⟩ := tk_XL t hz q
    exact ⟨e5.mpr hx, e1, e2⟩
  have dn : ∀ x, xv_U a' x → x ≠ z → xv_U a x := fun x hx q => (tk_XL t hz q).2.2.2.2.mp hx
  obtain ⟨zL, zK, zU⟩ := tk_Xz t hz
  have w := p.2.2.2.2.1.1
  have x2 := p.2.2.2.2.1.2.2.1
  have cell : ∀ i, 384 ≤ i → a' i = a i := fun i hi => t.2.2.2.2.2 i (by omega) (by omega) (by omega) (by omega) (by omega)
  have N := p.2.2.2.2.2
  refine re_S_sub (xv_U a) N S1 S2 (fun i h _ => cell i (by omega)) (fun _ _ _ _ u _ => u) (fun _ _ _ u _ => u) ?_ ?_ ?_
  · intro q uq
    rw [(up q uq).2.1, (up _ (w q uq).2.1).2.2]
  · intro q y uq uy
    have c := ma_cut (U := xv_U a') (U' := xv_U a) (L := xv_L a') (L' := xv_L a) (T := xv_T a') (T' := xv_T a) p'.2.2.2.2.1.1 p'.2.2.2.2.1.2.1 (fun x hx => (up x hx).1) (by
      intro x hx
      by_cases e : x = z
      · rw [e, zL]
      · have ux := dn x hx e
        rw [(up x ux).2.1]
        exact ⟨fun _ => (w x ux).2.1, fun _ => ux⟩) (fun x hx => (up x hx).2.1.symm) (fun c => by
      rw [(tX c).1]
      exact ⟨fun h => ⟨h, (xv_T1 h).1⟩, fun h => h.1⟩) (fun c hc => by
      obtain ⟨e1, e2⟩ := (tX c).2 hc
      refine ⟨e1.symm, fun k hk => ?_⟩
      rw [e1] at hk
      rw [e2 k]
      exact ⟨rfl, x2 c hc k hk⟩) uq uy
    exact (ma_vd_eq c.1 c.2).symm
  · intro x ux h
    rcases h with ⟨v, v1, v2, v3⟩ | ⟨t', q, t1, t2, t3, t4, t5, t6⟩
    · rw [cell _ (by omega)] at v2
      have uv : xv_U a v := by
        rcases (N.1 v v1).2 with o | o
        · rw [o] at v2; exact absurd v2 (by decide)
        · exact o.2
      rw [(up v uv).2.1, (up x ux).2.1] at v3
      exact Or.inl ⟨v, v1, v2, v3⟩
    · rw [cell _ (by omega)] at t2 t3 t5
      have uq : xv_U a q := by
        obtain ⟨⟨q1, u1, e1⟩, _⟩ := (N.2.2.1 t' t1).2.2.2 t2
        have : q1 = q := (nI_eq (by have := u1.1; omega) (by omega)).mp (by rw [← e1, t5])
        rw [← this]; exact u1
      rw [(up q uq).2.1, (up x ux).2.1] at t6
      exact Or.inr ⟨t', q, t1, t2, t3, t4, t5, t6⟩
