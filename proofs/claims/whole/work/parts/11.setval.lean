/-- a value set at the least member c -/
def sv_X (a a' : Nat → Int32) (c : Nat) (sh : Int32 × Int32) (p : Nat → Nat) : Prop :=
  a' (48 + c) = sh.1 ∧ a' (96 + c) = sh.2 ∧ a' (144 + c) = nI (ma_ct sh.1) ∧ (∀ k, k < 3 → ∃ q, q < 48 ∧ a' (192 + 3 * c + k) = nI q) ∧ (∀ k, k < ma_ct sh.1 → a' (192 + 3 * c + k) = nI (p k)) ∧
  (∀ d, d < 48 → d ≠ c → a' (48 + d) = a (48 + d) ∧ a' (96 + d) = a (96 + d) ∧ a' (144 + d) = a (144 + d) ∧ ∀ k, k < 3 → a' (192 + 3 * d + k) = a (192 + 3 * d + k)) ∧
  (∀ i, (i < 48 ∨ 336 ≤ i) → a' i = a i)
/-- a code that a value may have -/
def sv_c (sh : Int32 × Int32) : Prop := (sh.1 = 1) ∨ (sh.2 = 0 ∧ ∃ l c, l < 8 ∧ c ≤ 3 ∧ sh.1 = nI (2 + 4 * l + c))
theorem sv_ne {sh : Int32 × Int32} (h : sv_c sh) : sh.1 ≠ 0 := by
  rcases h with q | ⟨_, l, c, hl, hc, q⟩
  · rw [q]; decide
  · rw [q]
    intro z
    have := (li_e0 (by omega)).mp z
    omega
theorem sv_XL {a a' : Nat → Int32} {c : Nat} {sh : Int32 × Int32} {p : Nat → Nat} (h : sv_X a a' c sh p) : xv_U a' = xv_U a ∧ xv_L a' = xv_L a := by
  obtain ⟨_, _, _, _, _, _, h7⟩ := h
  constructor
  · exact xj_U (fun i hi => h7 i (Or.inr hi))
  · funext x
    unfold xv_L
    by_cases q : x < 48
    · rw [if_pos q, if_pos q, h7 _ (by omega)]
    · rw [if_neg q, if_neg q]
theorem sv_XH {a a' : Nat → Int32} {c : Nat} {sh : Int32 × Int32} {p : Nat → Nat} (h : sv_X a a' c sh p) (hsh : sv_c sh) (g : xv_H a) : xv_H a' := by
  obtain ⟨h1, h2, h3, h4, h5, h6, h7⟩ := h
  obtain ⟨g1, g2, g3, g4, g5, g6⟩ := g
  refine ⟨?_, ?_, ?_, ?_, ?_, ?_⟩
  · intro x hx; rw [h7 _ (by omega)]; exact g1 x hx
  · intro d hd
    by_cases q : d = c
    · rw [q, h1, h3]
    · obtain ⟨e1, e2, e3, e4⟩ := h6 d hd q
      rw [e1, e3]; exact g2 d hd
  · intro d k hd hk
    by_cases q : d = c
    · rw [q]; exact h4 k hk
    · rw [(h6 d hd q).2.2.2 k hk]; exact g3 d k hd hk
  · intro x hx; rw [h7 _ (by omega)]; exact g4 x hx
  · intro d hd
    by_cases q : d = c
    · rw [q, h1, h2]
      rcases hsh with z | z
      · exact Or.inl z
      · exact Or.inr z.1
    · obtain ⟨e1, e2, e3, e4⟩ := h6 d hd q
      rw [e1, e2]; exact g5 d hd
  · intro d hd
    by_cases q : d = c
    · rw [q, h1]
      rcases hsh with z | ⟨_, l, n, hl, hn, z⟩
      · exact ⟨1, by omega, z⟩
      · exact ⟨2 + 4 * l + n, by omega, z⟩
    · rw [(h6 d hd q).1]; exact g6 d hd
theorem sv_XT {a a' : Nat → Int32} {c : Nat} {sh : Int32 × Int32} {p : Nat → Nat} (h : sv_X a a' c sh p) (hsh : sv_c sh) (hp : ∀ k, k < ma_ct sh.1 → p k < 48) (u : xv_U a c) (l : xv_L a c = c) (n : ¬ (xv_T a).1 c) : ma_put (xv_T a) (xv_T a') c sh p := by
  obtain ⟨eU, eL⟩ := sv_XL h
  obtain ⟨h1, h2, h3, h4, h5, h6, h7⟩ := h
  have c48 := u.1
  refine ⟨?_, ?_, ?_, ?_⟩
  · intro d
    show (xv_U a' d ∧ xv_L a' d = d ∧ xv_K a' d ≠ 0) ↔ ((xv_U a d ∧ xv_L a d = d ∧ xv_K a d ≠ 0) ∨ d = c)
    rw [eU, eL]
    by_cases q : d = c
    · rw [q]
      refine ⟨fun _ => Or.inr rfl, fun _ => ⟨u, l, ?_⟩⟩
      rw [← xv_HK c48, h1]; exact sv_ne hsh
    · constructor
      · intro ⟨p1, p2, p3⟩
        have d48 := p1.1
        rw [← xv_HK d48, (h6 d d48 q).1, xv_HK (a := a) d48] at p3
        exact Or.inl ⟨p1, p2, p3⟩
      · intro z
        rcases z with ⟨p1, p2, p3⟩ | z
        · have d48 := p1.1
          refine ⟨p1, p2, ?_⟩
          rw [← xv_HK d48, (h6 d d48 q).1, xv_HK (a := a) d48]; exact p3
        · exact absurd z q
  · intro d hd
    have d48 : d < 48 := (xv_T1 hd).1.1
    have q : d ≠ c := fun e => n (by rw [← e]; exact hd)
    obtain ⟨e1, e2, e3, e4⟩ := h6 d d48 q
    constructor
    · show (xv_K a' d, xv_V a' d) = (xv_K a d, xv_V a d)
      rw [← xv_HK d48, ← xv_HV d48, ← xv_HK d48, ← xv_HV d48, e1, e2]
    · intro k hk
      have k3 : k < 3 := Nat.lt_of_lt_of_le hk (ma_ct_le _)
      show xv_P a' d k = xv_P a d k
      unfold xv_P
      rw [if_pos ⟨d48, k3⟩, if_pos ⟨d48, k3⟩, e4 k k3]
  · show (xv_K a' c, xv_V a' c) = sh
    rw [← xv_HK c48, ← xv_HV c48, h1, h2]
  · intro k hk
    have k3 : k < 3 := Nat.lt_of_lt_of_le hk (ma_ct_le _)
    show xv_P a' c k = p k
    unfold xv_P
    have := hp k hk
    rw [if_pos ⟨c48, k3⟩, h5 k hk, nI_clamp (by omega)]
/-- a value set at the variable x of the reference -/
def sv_Y (s s' : Nat → Int32) (x : Nat) (sh : Int32 × Int32) (p : Nat → Nat) : Prop :=
  ((sh.1 = 1 ∧ s' (48 + x) = 1 ∧ s' (96 + x) = sh.2 ∧ s' (144 + x) = 0 ∧ s' (192 + x) = 0) ∨ (∃ l c, l < 8 ∧ c ≤ 3 ∧ sh = (nI (2 + 4 * l + c), 0) ∧ s' (48 + x) = 2 ∧ s' (96 + x) = 0 ∧ s' (144 + x) = nI l ∧ s' (192 + x) = nI c)) ∧
  (∀ k, k < ma_ct sh.1 → s' (240 + 3 * x + k) = nI (p k)) ∧
  (∀ k, ma_ct sh.1 ≤ k → k < 3 → s' (240 + 3 * x + k) = s (240 + 3 * x + k)) ∧
  (∀ i, i < 633 → i ≠ 48 + x → i ≠ 96 + x → i ≠ 144 + x → i ≠ 192 + x → (i < 240 + 3 * x ∨ 240 + 3 * x + 3 ≤ i) → s' i = s i)
theorem sv_Yk {s s' : Nat → Int32} {x : Nat} {sh : Int32 × Int32} {p : Nat → Nat} (h : sv_Y s s' x sh p) : s' (48 + x) ≠ 0 ∧ (yv_k s' x, s' (96 + x)) = sh := by
  rcases h.1 with ⟨h0, h1, h2, h3, h4⟩ | ⟨l, c, hl, hc, e, h1, h2, h3, h4⟩
  · refine ⟨by rw [h1]; decide, ?_⟩
    unfold yv_k
    rw [if_pos h1, h2, ← h0]
  · refine ⟨by rw [h1]; decide, ?_⟩
    rw [yv_kr h1 h3 h4, h2, e]
theorem sv_YH {s s' : Nat → Int32} {x : Nat} {sh : Int32 × Int32} {p : Nat → Nat} (h : sv_Y s s' x sh p) (x48 : x < 48) (u : s (384 + x) = 1) (hp : ∀ k, k < ma_ct sh.1 → p k < 48) (g : yv_H s) : yv_H s' := by
  obtain ⟨g1, g2, g3, g4⟩ := g
  have hd := h.1
  obtain ⟨_, h2, h3, h4⟩ := h
  refine ⟨?_, ?_, ?_, ?_⟩
  · intro v hv
    rw [h4 v (by omega) (by omega) (by omega) (by omega) (by omega) (by omega)]; exact g1 v hv
  · intro v hv
    rw [h4 (384 + v) (by omega) (by omega) (by omega) (by omega) (by omega) (by omega), h4 v (by omega) (by omega) (by omega) (by omega) (by omega) (by omega)]
    by_cases q : v = x
    · rw [q]; exact Or.inl u
    · rw [h4 (48 + v) (by omega) (by omega) (by omega) (by omega) (by omega) (by omega)]; exact g2 v hv
  · intro v hv
    by_cases q : v = x
    · rw [q]
      rcases hd with ⟨_, e1, _, e3, e4⟩ | ⟨l, c, hl, hc, _, e1, e2, e3, e4⟩
      · exact Or.inr (Or.inl ⟨e1, e3, e4⟩)
      · exact Or.inr (Or.inr ⟨e1, e2, l, c, hl, hc, e3, e4⟩)
    · rw [h4 (48 + v) (by omega) (by omega) (by omega) (by omega) (by omega) (by omega), h4 (96 + v) (by omega) (by omega) (by omega) (by omega) (by omega) (by omega), h4 (144 + v) (by omega) (by omega) (by omega) (by omega) (by omega) (by omega), h4 (192 + v) (by omega) (by omega) (by omega) (by omega) (by omega) (by omega)]
      exact g3 v hv
  · intro v k hv hk
    by_cases q : v = x
    · rw [q]
      by_cases z : k < ma_ct sh.1
      · exact ⟨p k, hp k z, h2 k z⟩
      · rw [h3 k (by omega) hk]; exact g4 x k x48 hk
    · rw [h4 (240 + 3 * v + k) (by omega) (by omega) (by omega) (by omega) (by omega) (by omega)]; exact g4 v k hv hk
theorem sv_YT {s s' : Nat → Int32} {x : Nat} {sh : Int32 × Int32} {p : Nat → Nat} (h : sv_Y s s' x sh p) (u : yv_U s x) (n : ¬ (yv_T s).1 x) (hp : ∀ k, k < ma_ct sh.1 → p k < 48) : ma_put (yv_T s) (yv_T s') x sh p := by
  obtain ⟨k0, ks⟩ := sv_Yk h
  obtain ⟨h1, h2, h3, h4⟩ := h
  have x48 := u.1
  have eU : ∀ d, d < 48 → s' (384 + d) = s (384 + d) := fun d hd => h4 _ (by omega) (by omega) (by omega) (by omega) (by omega) (by omega)
  refine ⟨?_, ?_, ?_, ?_⟩
  · intro d
    show ((d < 48 ∧ s' (384 + d) = 1) ∧ s' (48 + d) ≠ 0) ↔ (((d < 48 ∧ s (384 + d) = 1) ∧ s (48 + d) ≠ 0) ∨ d = x)
    by_cases q : d = x
    · rw [q, eU x x48]
      exact ⟨fun _ => Or.inr rfl, fun _ => ⟨u, k0⟩⟩
    · constructor
      · intro ⟨⟨p1, p2⟩, p3⟩
        rw [eU d p1] at p2
        rw [h4 (48 + d) (by omega) (by omega) (by omega) (by omega) (by omega) (by omega)] at p3
        exact Or.inl ⟨⟨p1, p2⟩, p3⟩
      · intro z
        rcases z with ⟨⟨p1, p2⟩, p3⟩ | z
        · rw [eU d p1, h4 (48 + d) (by omega) (by omega) (by omega) (by omega) (by omega) (by omega)]
          exact ⟨⟨p1, p2⟩, p3⟩
        · exact absurd z q
  · intro d hd
    have d48 : d < 48 := (yv_T1 hd).1.1
    have q : d ≠ x := fun e => n (by rw [← e]; exact hd)
    constructor
    · show (if d < 48 then (yv_k s' d, s' (96 + d)) else (0, 0)) = (if d < 48 then (yv_k s d, s (96 + d)) else (0, 0))
      rw [if_pos d48, if_pos d48]
      unfold yv_k
      rw [h4 (48 + d) (by omega) (by omega) (by omega) (by omega) (by omega) (by omega), h4 (96 + d) (by omega) (by omega) (by omega) (by omega) (by omega) (by omega), h4 (144 + d) (by omega) (by omega) (by omega) (by omega) (by omega) (by omega), h4 (192 + d) (by omega) (by omega) (by omega) (by omega) (by omega) (by omega)]
    · intro k hk
      have k3 : k < 3 := Nat.lt_of_lt_of_le hk (ma_ct_le _)
      show yv_P s' d k = yv_P s d k
      unfold yv_P
      rw [if_pos ⟨d48, k3⟩, if_pos ⟨d48, k3⟩, h4 (240 + 3 * d + k) (by omega) (by omega) (by omega) (by omega) (by omega) (by omega)]
  · show (if x < 48 then (yv_k s' x, s' (96 + x)) else (0, 0)) = sh
    rw [if_pos x48]; exact ks
  · intro k hk
    have k3 : k < 3 := Nat.lt_of_lt_of_le hk (ma_ct_le _)
    have := hp k hk
    show yv_P s' x k = p k
    unfold yv_P
    rw [if_pos ⟨x48, k3⟩, h2 k hk, nI_clamp (by omega)]
/-- a value for a FREE class: the rows hold the same again -/
theorem sv_P {B : Nat} {a a' s s' : Nat → Int32} {x : Nat} {sh : Int32 × Int32} {p : Nat → Nat} (r : re_P B a s) (ux : xv_U a x) (hf : xv_K a (xv_L a x) = 0) (hsh : sv_c sh) (hp : ∀ k, k < ma_ct sh.1 → xv_U a (p k)) (hX : sv_X a a' (xv_L a x) sh p) (hY : sv_Y s s' x sh p) : re_P B a' s' := by
  have r0 := r
  have yU := re_U r
  obtain ⟨h1, h2, h3, h4, h5, h6⟩ := r
  obtain ⟨w1, w2, w3, w4⟩ := h5.1 x ux
  have p48 : ∀ k, k < ma_ct sh.1 → p k < 48 := fun k hk => (hp k hk).1
  have nX : ¬ (xv_T a).1 (xv_L a x) := fun q => (xv_T1 q).2.2 hf
  have nY : ¬ (yv_T s).1 x := fun q => nX (ma_R_x h5 q).1
  obtain ⟨eU, eL⟩ := sv_XL hX
  have tX := sv_XT hX hsh p48 w2 w3 nX
  have tY := sv_YT hY (by rw [yU]; exact ux) nY p48
  have uY : s (384 + x) = 1 := by rw [← h3 x w1]; exact ux.2
  have cX := hX.2.2.2.2.2.2
  have cY := hY.2.2.2
  refine ⟨sv_XH hX hsh h1, sv_YH hY w1 uY p48 h2, ?_, ?_, ?_, ?_⟩
  · intro v hv
    rw [cX _ (by omega), cY (384 + v) (by omega) (by omega) (by omega) (by omega) (by omega) (by omega)]; exact h3 v hv
  · intro v hv
    rw [eU] at hv
    have v48 := hv.1
    rw [cX _ (by omega), cY v (by omega) (by omega) (by omega) (by omega) (by omega) (by omega)]; exact h4 v hv
  · rw [eU, eL]
    exact ma_R_set h5 ux nX tX tY hp
  · exact re_N_congr (fun i q _ => cX i (Or.inr q)) (fun i q q2 => cY i q2 (by omega) (by omega) (by omega) (by omega) (by omega)) h6
