/-- the component's row, read -/
def xv_U (a : Nat → Int32) (x : Nat) : Prop := x < 48 ∧ a (336 + x) = 1
def xv_L (a : Nat → Int32) (x : Nat) : Nat := if x < 48 then (a x).toNatClampNeg else 0
def xv_K (a : Nat → Int32) (c : Nat) : Int32 := if c < 48 then a (48 + c) else 0
def xv_V (a : Nat → Int32) (c : Nat) : Int32 := if c < 48 then a (96 + c) else 0
def xv_P (a : Nat → Int32) (c k : Nat) : Nat := if c < 48 ∧ k < 3 then (a (192 + 3 * c + k)).toNatClampNeg else 0
def xv_T (a : Nat → Int32) : ma_T := ma_X (xv_U a) (xv_L a) (xv_K a) (xv_V a) (xv_P a)
def xv_H (a : Nat → Int32) : Prop :=
  (∀ x, x < 48 → ∃ c, c < 48 ∧ a x = nI c) ∧
  (∀ c, c < 48 → a (144 + c) = nI (ma_ct (a (48 + c)))) ∧
  (∀ c k, c < 48 → k < 3 → ∃ q, q < 48 ∧ a (192 + 3 * c + k) = nI q) ∧
  (∀ x, x < 48 → a (336 + x) = 0 ∨ a (336 + x) = 1) ∧
  (∀ c, c < 48 → a (48 + c) = 1 ∨ a (96 + c) = 0) ∧
  (∀ c, c < 48 → ∃ k, k < 40 ∧ a (48 + c) = nI k)
theorem xv_HL {a : Nat → Int32} (h : xv_H a) {x : Nat} (hx : x < 48) : a x = nI (xv_L a x) ∧ xv_L a x < 48 := by
  obtain ⟨c, hc, e⟩ := h.1 x hx
  have : xv_L a x = c := by
    unfold xv_L
    rw [if_pos hx, e, nI_clamp (by omega)]
  rw [this]; exact ⟨e, hc⟩
theorem xv_HC {a : Nat → Int32} (h : xv_H a) {c : Nat} (hc : c < 48) : a (144 + c) = nI (ma_ct (xv_K a c)) ∧ ma_ct (xv_K a c) ≤ 3 := by
  refine ⟨?_, ma_ct_le _⟩
  unfold xv_K
  rw [if_pos hc]; exact h.2.1 c hc
theorem xv_HP {a : Nat → Int32} (h : xv_H a) {c k : Nat} (hc : c < 48) (hk : k < 3) : a (192 + 3 * c + k) = nI (xv_P a c k) ∧ xv_P a c k < 48 := by
  obtain ⟨q, hq, e⟩ := h.2.2.1 c k hc hk
  have : xv_P a c k = q := by
    unfold xv_P
    rw [if_pos ⟨hc, hk⟩, e, nI_clamp (by omega)]
  rw [this]; exact ⟨e, hq⟩
theorem xv_HK {a : Nat → Int32} {c : Nat} (hc : c < 48) : a (48 + c) = xv_K a c := by
  unfold xv_K; rw [if_pos hc]
theorem xv_HV {a : Nat → Int32} {c : Nat} (hc : c < 48) : a (96 + c) = xv_V a c := by
  unfold xv_V; rw [if_pos hc]
/-- the reference's row, read -/
def yv_U (s : Nat → Int32) (x : Nat) : Prop := x < 48 ∧ s (384 + x) = 1
def yv_k (s : Nat → Int32) (u : Nat) : Int32 := if s (48 + u) = 1 then 1 else 2 + 4 * s (144 + u) + s (192 + u)
def yv_P (s : Nat → Int32) (u k : Nat) : Nat := if u < 48 ∧ k < 3 then (s (240 + 3 * u + k)).toNatClampNeg else 0
def yv_T (s : Nat → Int32) : ma_T := (fun u => yv_U s u ∧ s (48 + u) ≠ 0, fun u => if u < 48 then (yv_k s u, s (96 + u)) else (0, 0), yv_P s)
def yv_H (s : Nat → Int32) : Prop :=
  (∀ v, v < 48 → ∃ c, c < 48 ∧ s v = nI c) ∧
  (∀ v, v < 48 → s (384 + v) = 1 ∨ (s (384 + v) = 0 ∧ s v = nI v ∧ s (48 + v) = 0)) ∧
  (∀ u, u < 48 → s (48 + u) = 0 ∨ (s (48 + u) = 1 ∧ s (144 + u) = 0 ∧ s (192 + u) = 0) ∨ (s (48 + u) = 2 ∧ s (96 + u) = 0 ∧ ∃ l c, l < 8 ∧ c ≤ 3 ∧ s (144 + u) = nI l ∧ s (192 + u) = nI c)) ∧
  (∀ u k, u < 48 → k < 3 → ∃ q, q < 48 ∧ s (240 + 3 * u + k) = nI q)
theorem yv_HP {s : Nat → Int32} (h : yv_H s) {c k : Nat} (hc : c < 48) (hk : k < 3) : s (240 + 3 * c + k) = nI (yv_P s c k) ∧ yv_P s c k < 48 := by
  obtain ⟨q, hq, e⟩ := h.2.2.2 c k hc hk
  have : yv_P s c k = q := by
    unfold yv_P
    rw [if_pos ⟨hc, hk⟩, e, nI_clamp (by omega)]
  rw [this]; exact ⟨e, hq⟩
theorem ma_ct_rec {l c : Nat} (hl : l < 8) (hc : c ≤ 3) : ma_ct (nI (2 + 4 * l + c)) = c := by
  unfold ma_ct
  rw [nI_clamp (by omega), if_neg (by omega)]
  omega
theorem ma_ct_0 : ma_ct 0 = 0 := by decide
theorem ma_ct_1 : ma_ct 1 = 0 := by decide
theorem yv_kr {s : Nat → Int32} {u l c : Nat} (h2 : s (48 + u) = 2) (hl : s (144 + u) = nI l) (hc : s (192 + u) = nI c) : yv_k s u = nI (2 + 4 * l + c) := by
  unfold yv_k
  rw [h2, if_neg (by decide), hl, hc, li_m4, li_a2, nI_add]
theorem yv_HC {s : Nat → Int32} (h : yv_H s) {u : Nat} (hu : u < 48) (h0 : s (48 + u) ≠ 0) : s (192 + u) = nI (ma_ct (yv_k s u)) ∧ ma_ct (yv_k s u) ≤ 3 := by
  refine ⟨?_, ma_ct_le _⟩
  rcases h.2.2.1 u hu with q | ⟨q1, q2, q3⟩ | ⟨q1, q2, l, c, hl, hc, e1, e2⟩
  · exact absurd q h0
  · unfold yv_k
    rw [q1, if_pos rfl, q3]; decide
  · rw [yv_kr q1 e1 e2, ma_ct_rec hl hc, e2]
/-- the reference's test of two told values is that of their codes -/
theorem yv_other {s : Nat → Int32} (h : yv_H s) {u v : Nat} (hu : u < 48) (hv : v < 48) (u0 : s (48 + u) ≠ 0) (v0 : s (48 + v) ≠ 0) : (s (48 + u) = s (48 + v) ∧ s (96 + u) = s (96 + v) ∧ s (144 + u) = s (144 + v) ∧ s (192 + u) = s (192 + v)) ↔ (yv_k s u, s (96 + u)) = (yv_k s v, s (96 + v)) := by
  constructor
  · intro ⟨a, b, c, d⟩
    unfold yv_k
    rw [a, b, c, d]
  · intro q
    have q1 : yv_k s u = yv_k s v := congrArg Prod.fst q
    have q2 : s (96 + u) = s (96 + v) := congrArg Prod.snd q
    rcases h.2.2.1 u hu with z | ⟨a1, a2, a3⟩ | ⟨a1, a2, l, c, hl, hc, e1, e2⟩
    · exact absurd z u0
    · have ku : yv_k s u = 1 := by unfold yv_k; rw [if_pos a1]
      rcases h.2.2.1 v hv with z | ⟨b1, b2, b3⟩ | ⟨b1, b2, l', c', hl', hc', f1, f2⟩
      · exact absurd z v0
      · exact ⟨by rw [a1, b1], q2, by rw [a2, b2], by rw [a3, b3]⟩
      · rw [ku, yv_kr b1 f1 f2] at q1
        have := (nI_eq (a := 1) (by decide) (by omega)).mp q1
        omega
    · rcases h.2.2.1 v hv with z | ⟨b1, b2, b3⟩ | ⟨b1, b2, l', c', hl', hc', f1, f2⟩
      · exact absurd z v0
      · have kv : yv_k s v = 1 := by unfold yv_k; rw [if_pos b1]
        rw [kv, yv_kr a1 e1 e2] at q1
        have := (nI_eq (b := 1) (by omega) (by decide)).mp q1
        omega
      · rw [yv_kr a1 e1 e2, yv_kr b1 f1 f2] at q1
        have := (nI_eq (by omega) (by omega)).mp q1
        have hl2 : l = l' := by omega
        have hc2 : c = c' := by omega
        exact ⟨by rw [a1, b1], q2, by rw [e1, f1, hl2], by rw [e2, f2, hc2]⟩
theorem xv_T1 {a : Nat → Int32} {c : Nat} (h : (xv_T a).1 c) : xv_U a c ∧ xv_L a c = c ∧ xv_K a c ≠ 0 := h
theorem yv_T1 {s : Nat → Int32} {c : Nat} (h : (yv_T s).1 c) : yv_U s c ∧ s (48 + c) ≠ 0 := h
/-- all but what was told -/
def re_N (B : Nat) (a s : Nat → Int32) : Prop :=
  (∀ x, x < 48 → a (384 + x) = s (480 + x) ∧ (a (384 + x) = 0 ∨ (a (384 + x) = 1 ∧ xv_U a x))) ∧
  (∀ x, x < 48 → a (432 + x) = s (432 + x) ∧ (a (432 + x) = 0 ∨ (a (432 + x) = 1 ∧ xv_U a x))) ∧
  (∀ t, t < 8 → a (480 + t) = s (544 + t) ∧ a (488 + t) = s (528 + t) ∧ a (496 + t) = s (536 + t) ∧ (a (480 + t) = 3 → (∃ q, xv_U a q ∧ a (488 + t) = nI q) ∧ (a (496 + t) = -1 ∨ ∃ q, xv_U a q ∧ a (496 + t) = nI q))) ∧
  (∀ k, k < 8 → a (504 + k) = s (552 + k) ∧ ((a (504 + k) = -1 ∧ a (512 + k) = -1) ∨ (∃ x y, xv_U a x ∧ xv_U a y ∧ a (504 + k) = nI x ∧ a (512 + k) = nI y ∧ s (560 + k) = nI y))) ∧
  (∀ e, e < 4 → a (520 + e) = s (568 + e) ∧ (a (520 + e) = -1 ∨ ∃ x, xv_U a x ∧ a (520 + e) = nI x)) ∧
  (∃ n, n ≤ B ∧ a 584 = nI n ∧ s 572 = nI n) ∧
  (∀ j, j < 60 → a (524 + j) = s (573 + j))
/-- the two rows hold the same -/
def re_P (B : Nat) (a s : Nat → Int32) : Prop :=
  xv_H a ∧ yv_H s ∧ (∀ x, x < 48 → a (336 + x) = s (384 + x)) ∧ (∀ x, xv_U a x → a x = s x) ∧ ma_R (xv_U a) (xv_L a) (xv_T a) (yv_T s) ∧ re_N B a s
/-- NEEDED -/
def re_nd (a : Nat → Int32) (x : Nat) : Prop :=
  (∃ v, v < 48 ∧ a (384 + v) = 1 ∧ xv_L a v = xv_L a x) ∨ (∃ t q, t < 8 ∧ a (480 + t) = 3 ∧ a (496 + t) = -1 ∧ q < 48 ∧ a (488 + t) = nI q ∧ xv_L a q = xv_L a x)
/-- SETTLED -/
def re_S1 (a : Nat → Int32) : Prop :=
  ∀ t q, t < 8 → a (480 + t) = 3 → q < 48 → a (488 + t) = nI q → (a (496 + t) = -1 → xv_K a (xv_L a q) = 0) ∧ (∀ y, y < 48 → a (496 + t) = nI y → ma_vd (xv_U a) (xv_L a) (xv_T a) q y = 3)
def re_S2 (a : Nat → Int32) : Prop :=
  ∀ k x, k < 8 → x < 48 → a (504 + k) = nI x → xv_K a (xv_L a x) = 0 ∧ ¬ re_nd a x
def re_C (B : Nat) (a s : Nat → Int32) : Prop := re_P B a s ∧ re_S1 a ∧ re_S2 a
/-- only the rows' own cells count -/
theorem xv_congr {a a' : Nat → Int32} (h : ∀ i, i < 384 → a' i = a i) : xv_U a' = xv_U a ∧ xv_L a' = xv_L a ∧ xv_K a' = xv_K a ∧ xv_V a' = xv_V a ∧ xv_P a' = xv_P a := by
  refine ⟨?_, ?_, ?_, ?_, ?_⟩
  · funext x
    unfold xv_U
    apply propext
    constructor
    · intro ⟨p, q⟩
      rw [h _ (by omega)] at q; exact ⟨p, q⟩
    · intro ⟨p, q⟩
      rw [← h _ (by omega)] at q; exact ⟨p, q⟩
  · funext x
    unfold xv_L
    by_cases q : x < 48
    · rw [if_pos q, if_pos q, h _ (by omega)]
    · rw [if_neg q, if_neg q]
  · funext x
    unfold xv_K
    by_cases q : x < 48
    · rw [if_pos q, if_pos q, h _ (by omega)]
    · rw [if_neg q, if_neg q]
  · funext x
    unfold xv_V
    by_cases q : x < 48
    · rw [if_pos q, if_pos q, h _ (by omega)]
    · rw [if_neg q, if_neg q]
  · funext x k
    unfold xv_P
    by_cases q : x < 48 ∧ k < 3
    · rw [if_pos q, if_pos q, h _ (by omega)]
    · rw [if_neg q, if_neg q]
theorem xv_congrT {a a' : Nat → Int32} (h : ∀ i, i < 384 → a' i = a i) : xv_T a' = xv_T a := by
  obtain ⟨h1, h2, h3, h4, h5⟩ := xv_congr h
  unfold xv_T
  rw [h1, h2, h3, h4, h5]
theorem xv_congrH {a a' : Nat → Int32} (h : ∀ i, i < 384 → a' i = a i) (g : xv_H a) : xv_H a' := by
  obtain ⟨g1, g2, g3, g4, g5, g6⟩ := g
  refine ⟨?_, ?_, ?_, ?_, ?_, ?_⟩
  · intro x hx; rw [h _ (by omega)]; exact g1 x hx
  · intro x hx; rw [h _ (by omega), h _ (by omega)]; exact g2 x hx
  · intro x k hx hk; rw [h _ (by omega)]; exact g3 x k hx hk
  · intro x hx; rw [h _ (by omega)]; exact g4 x hx
  · intro x hx; rw [h _ (by omega), h _ (by omega)]; exact g5 x hx
  · intro x hx; rw [h _ (by omega)]; exact g6 x hx
theorem yv_congrT {s s' : Nat → Int32} (h : ∀ i, 48 ≤ i → i < 432 → s' i = s i) : yv_T s' = yv_T s := by
  have h1 : (fun u => yv_U s' u ∧ s' (48 + u) ≠ 0) = (fun u => yv_U s u ∧ s (48 + u) ≠ 0) := by
    funext u
    apply propext
    unfold yv_U
    constructor
    · intro ⟨⟨p, q⟩, r⟩
      rw [h _ (by omega) (by omega)] at q r; exact ⟨⟨p, q⟩, r⟩
    · intro ⟨⟨p, q⟩, r⟩
      rw [← h _ (by omega) (by omega)] at q r; exact ⟨⟨p, q⟩, r⟩
  have h2 : (fun u => if u < 48 then (yv_k s' u, s' (96 + u)) else (0, 0)) = (fun u => if u < 48 then (yv_k s u, s (96 + u)) else (0, 0)) := by
    funext u
    by_cases q : u < 48
    · rw [if_pos q, if_pos q]
      unfold yv_k
      rw [h (48 + u) (by omega) (by omega), h (144 + u) (by omega) (by omega), h (192 + u) (by omega) (by omega), h (96 + u) (by omega) (by omega)]
    · rw [if_neg q, if_neg q]
  have h3 : yv_P s' = yv_P s := by
    funext u k
    unfold yv_P
    by_cases q : u < 48 ∧ k < 3
    · rw [if_pos q, if_pos q, h _ (by omega) (by omega)]
    · rw [if_neg q, if_neg q]
  unfold yv_T
  rw [h1, h2, h3]
theorem yv_congrH {s s' : Nat → Int32} (h : ∀ i, i < 432 → s' i = s i) (g : yv_H s) : yv_H s' := by
  obtain ⟨g1, g2, g3, g4⟩ := g
  refine ⟨?_, ?_, ?_, ?_⟩
  · intro x hx; rw [h _ (by omega)]; exact g1 x hx
  · intro x hx; rw [h _ (by omega), h _ (by omega), h _ (by omega)]; exact g2 x hx
  · intro x hx; rw [h (48 + x) (by omega), h (96 + x) (by omega), h (144 + x) (by omega), h (192 + x) (by omega)]; exact g3 x hx
  · intro x k hx hk; rw [h _ (by omega)]; exact g4 x k hx hk
theorem re_N_congr {B : Nat} {a a' s s' : Nat → Int32} (ha : ∀ i, 336 ≤ i → i < 585 → a' i = a i) (hs : ∀ i, 432 ≤ i → i < 633 → s' i = s i) (h : re_N B a s) : re_N B a' s' := by
  have hU : xv_U a' = xv_U a := by
    funext x
    unfold xv_U
    apply propext
    constructor
    · intro ⟨p, q⟩
      rw [ha _ (by omega) (by omega)] at q; exact ⟨p, q⟩
    · intro ⟨p, q⟩
      rw [← ha _ (by omega) (by omega)] at q; exact ⟨p, q⟩
  obtain ⟨h1, h2, h3, h4, h5, h6, h7⟩ := h
  unfold re_N
  rw [hU]
  refine ⟨?_, ?_, ?_, ?_, ?_, ?_, ?_⟩
  · intro x hx; rw [ha _ (by omega) (by omega), hs _ (by omega) (by omega)]; exact h1 x hx
  · intro x hx; rw [ha _ (by omega) (by omega), hs _ (by omega) (by omega)]; exact h2 x hx
  · intro x hx
    rw [ha (480 + x) (by omega) (by omega), ha (488 + x) (by omega) (by omega), ha (496 + x) (by omega) (by omega), hs (544 + x) (by omega) (by omega), hs (528 + x) (by omega) (by omega), hs (536 + x) (by omega) (by omega)]; exact h3 x hx
  · intro x hx
    rw [ha (504 + x) (by omega) (by omega), ha (512 + x) (by omega) (by omega), hs (552 + x) (by omega) (by omega), hs (560 + x) (by omega) (by omega)]; exact h4 x hx
  · intro x hx; rw [ha _ (by omega) (by omega), hs _ (by omega) (by omega)]; exact h5 x hx
  · rw [ha _ (by omega) (by omega), hs _ (by omega) (by omega)]; exact h6
  · intro x hx; rw [ha _ (by omega) (by omega), hs _ (by omega) (by omega)]; exact h7 x hx
theorem re_N_mono {B B' : Nat} {a s : Nat → Int32} (hB : B ≤ B') (h : re_N B a s) : re_N B' a s := by
  obtain ⟨h1, h2, h3, h4, h5, ⟨n, n1, n2⟩, h7⟩ := h
  exact ⟨h1, h2, h3, h4, h5, ⟨n, by omega, n2⟩, h7⟩
theorem re_P_mono {B B' : Nat} {a s : Nat → Int32} (hB : B ≤ B') (h : re_P B a s) : re_P B' a s :=
  ⟨h.1, h.2.1, h.2.2.1, h.2.2.2.1, h.2.2.2.2.1, re_N_mono hB h.2.2.2.2.2⟩
theorem re_C_mono {B B' : Nat} {a s : Nat → Int32} (hB : B ≤ B') (h : re_C B a s) : re_C B' a s := ⟨re_P_mono hB h.1, h.2⟩
theorem re_P_congr {B : Nat} {a a' s s' : Nat → Int32} (ha : ∀ i, i < 585 → a' i = a i) (hs : ∀ i, i < 633 → s' i = s i) (h : re_P B a s) : re_P B a' s' := by
  obtain ⟨h1, h2, h3, h4, h5, h6⟩ := h
  have ha' : ∀ i, i < 384 → a' i = a i := fun i hi => ha i (by omega)
  have hs' : ∀ i, i < 432 → s' i = s i := fun i hi => hs i (by omega)
  refine ⟨xv_congrH ha' h1, yv_congrH hs' h2, ?_, ?_, ?_, re_N_congr (fun i _ q => ha i q) (fun i _ q => hs i q) h6⟩
  · intro x hx; rw [ha _ (by omega), hs _ (by omega)]; exact h3 x hx
  · intro x hx
    rw [(xv_congr ha').1] at hx
    have := hx.1
    rw [ha _ (by omega), hs _ (by omega)]; exact h4 x hx
  · rw [xv_congrT ha', yv_congrT (fun i _ hi => hs' i hi), (xv_congr ha').1, (xv_congr ha').2.1]; exact h5
theorem re_C_congr {B : Nat} {a a' s s' : Nat → Int32} (ha : ∀ i, i < 585 → a' i = a i) (hs : ∀ i, i < 633 → s' i = s i) (h : re_C B a s) : re_C B a' s' := by
  obtain ⟨h1, h2, h3⟩ := h
  have ha' : ∀ i, i < 384 → a' i = a i := fun i hi => ha i (by omega)
  obtain ⟨u, l, k, _, _⟩ := xv_congr ha'
  have t := xv_congrT ha'
  refine ⟨re_P_congr ha hs h1, ?_, ?_⟩
  · intro t' q ht h3' hq e
    rw [ha _ (by omega)] at h3' e
    rw [ha _ (by omega), u, l, k, t]
    exact h2 t' q ht h3' hq e
  · intro k' x hk hx e
    rw [ha _ (by omega)] at e
    rw [k, l]
    obtain ⟨g1, g2⟩ := h3 k' x hk hx e
    refine ⟨g1, fun n => g2 ?_⟩
    rcases n with ⟨v, v1, v2, v3⟩ | ⟨t', q, t1, t2, t3, t4, t5, t6⟩
    · rw [ha _ (by omega)] at v2
      rw [l] at v3
      exact Or.inl ⟨v, v1, v2, v3⟩
    · rw [ha _ (by omega)] at t2 t3 t5
      rw [l] at t6
      exact Or.inr ⟨t', q, t1, t2, t3, t4, t5, t6⟩
