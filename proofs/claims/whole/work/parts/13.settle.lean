theorem re_P_N {B B' : Nat} {a a' s s' : Nat → Int32} (r : re_P B a s) (ha : ∀ i, i < 384 → a' i = a i) (hs : ∀ i, i < 432 → s' i = s i) (h : re_N B' a' s') : re_P B' a' s' := by
  obtain ⟨h1, h2, h3, h4, h5, h6⟩ := r
  have ha' : ∀ i, i < 384 → a' i = a i := fun i hi => ha i (by omega)
  have hs' : ∀ i, i < 432 → s' i = s i := fun i hi => hs i (by omega)
  refine ⟨xv_congrH ha' h1, yv_congrH hs' h2, ?_, ?_, ?_, h⟩
  · intro x hx; rw [ha _ (by omega), hs _ (by omega)]; exact h3 x hx
  · intro x hx
    rw [(xv_congr ha').1] at hx
    have := hx.1
    rw [ha _ (by omega), hs _ (by omega)]; exact h4 x hx
  · rw [xv_congrT ha', yv_congrT (fun i _ hi => hs' i hi), (xv_congr ha').1, (xv_congr ha').2.1]; exact h5
/-- one more is NOTED -/
def nt_X (a a' : Nat → Int32) (w : Int32) : Prop :=
  ∃ n, n < 1000000 ∧ a 584 = nI n ∧ a' 584 = nI (n + 1) ∧ (n < 60 → a' (524 + n) = w) ∧ ∀ i, i ≠ 584 → (i ≠ 524 + n ∨ 60 ≤ n) → a' i = a i
def nt_Y (s s' : Nat → Int32) (w : Int32) : Prop :=
  ∃ n, n < 1000000 ∧ s 572 = nI n ∧ s' 572 = nI (n + 1) ∧ (n < 60 → s' (573 + n) = w) ∧ ∀ i, i ≠ 572 → (i ≠ 573 + n ∨ 60 ≤ n) → s' i = s i
theorem nt_N {B : Nat} {a a' s s' : Nat → Int32} {w : Int32} (hB : B < 1000000) (h : re_N B a s) (hX : nt_X a a' w) (hY : nt_Y s s' w) : re_N (B + 1) a' s' := by
  obtain ⟨n, nb, a1, a2, a3, a4⟩ := hX
  obtain ⟨m, mb, b1, b2, b3, b4⟩ := hY
  obtain ⟨h1, h2, h3, h4, h5, ⟨k, k1, k2, k3⟩, h7⟩ := h
  have e1 : n = k := (nI_eq (by omega) (by omega)).mp (by rw [← a1, k2])
  have e2 : m = n := (nI_eq (by omega) (by omega)).mp (by rw [← b1, k3, e1])
  rw [e2] at b2 b3 b4
  have ca : ∀ i, i < 524 → a' i = a i := fun i hi => a4 i (by omega) (Or.inl (by omega))
  have cs : ∀ i, i < 572 → s' i = s i := fun i hi => b4 i (by omega) (Or.inl (by omega))
  have hU : xv_U a' = xv_U a := by
    funext x
    unfold xv_U
    apply propext
    constructor
    · intro ⟨p, q⟩
      rw [ca _ (by omega)] at q; exact ⟨p, q⟩
    · intro ⟨p, q⟩
      rw [← ca _ (by omega)] at q; exact ⟨p, q⟩
  unfold re_N
  rw [hU]
  refine ⟨?_, ?_, ?_, ?_, ?_, ⟨n + 1, by omega, a2, b2⟩, ?_⟩
  · intro x hx; rw [ca _ (by omega), cs _ (by omega)]; exact h1 x hx
  · intro x hx; rw [ca _ (by omega), cs _ (by omega)]; exact h2 x hx
  · intro x hx
    rw [ca (480 + x) (by omega), ca (488 + x) (by omega), ca (496 + x) (by omega), cs (544 + x) (by omega), cs (528 + x) (by omega), cs (536 + x) (by omega)]; exact h3 x hx
  · intro x hx
    rw [ca (504 + x) (by omega), ca (512 + x) (by omega), cs (552 + x) (by omega), cs (560 + x) (by omega)]; exact h4 x hx
  · intro x hx; rw [ca _ (by omega), cs _ (by omega)]; exact h5 x hx
  · intro j hj
    by_cases q : j = n
    · rw [q, a3 (by omega), b3 (by omega)]
    · rw [a4 _ (by omega) (Or.inl (by omega)), b4 _ (by omega) (Or.inl (by omega))]; exact h7 j hj
/-- what TEST t comes to -/
noncomputable def dt_v (a : Nat → Int32) (t : Nat) : Int32 :=
  if a (496 + t) = -1 then (if xv_K a (xv_L a (a (488 + t)).toNatClampNeg) = 0 then 3 else 1) else ma_vd (xv_U a) (xv_L a) (xv_T a) (a (488 + t)).toNatClampNeg (a (496 + t)).toNatClampNeg
theorem dt_congr {a a' : Nat → Int32} {t : Nat} (h : ∀ i, i < 384 → a' i = a i) (h1 : a' (488 + t) = a (488 + t)) (h2 : a' (496 + t) = a (496 + t)) : dt_v a' t = dt_v a t := by
  unfold dt_v
  obtain ⟨u, l, k, _, _⟩ := xv_congr h
  rw [h1, h2, u, l, k, xv_congrT h]
theorem dt_S1 {B : Nat} {a s : Nat → Int32} (N : re_N B a s) (h : ∀ t, t < 8 → a (480 + t) = 3 → dt_v a t = 3) : re_S1 a := by
  intro t q ht h3 hq e
  have d := h t ht h3
  unfold dt_v at d
  rw [e, nI_clamp (by omega)] at d
  constructor
  · intro m
    rw [if_pos m] at d
    by_cases z : xv_K a (xv_L a q) = 0
    · exact z
    · rw [if_neg z] at d; exact absurd d (by decide)
  · intro y hy ey
    rw [ey, if_neg (fun z => (li_nn1 (by omega)).mp z), nI_clamp (by omega)] at d
    exact d
theorem dt_of {B : Nat} {a s : Nat → Int32} (N : re_N B a s) (S : re_S1 a) {t : Nat} (ht : t < 8) (h3 : a (480 + t) = 3) : dt_v a t = 3 := by
  obtain ⟨⟨q, u, e⟩, o⟩ := (N.2.2.1 t ht).2.2.2 h3
  have q48 := u.1
  obtain ⟨s1, s2⟩ := S t q ht h3 q48 e
  unfold dt_v
  rw [e, nI_clamp (by omega)]
  rcases o with m | ⟨y, uy, ey⟩
  · rw [if_pos m, if_pos (s1 m)]
  · have y48 := uy.1
    rw [ey, if_neg (fun z => (li_nn1 (by omega)).mp z), nI_clamp (by omega)]
    exact s2 y y48 ey
theorem dt_cases {a : Nat → Int32} {t : Nat} : dt_v a t = 1 ∨ dt_v a t = 2 ∨ dt_v a t = 3 := by
  unfold dt_v
  split
  · split
    · exact Or.inr (Or.inr rfl)
    · exact Or.inl rfl
  · exact ma_vd_cases _ _ _ _ _
/-- a TEST is decided -/
theorem dt_N {B : Nat} {a a1 s s1 : Nat → Int32} {t : Nat} {r : Int32} (ht : t < 8) (h : re_N B a s) (hr : r ≠ 3) (ha : a1 (480 + t) = r ∧ ∀ i, i ≠ 480 + t → a1 i = a i) (hs : s1 (544 + t) = r ∧ ∀ i, i ≠ 544 + t → s1 i = s i) : re_N B a1 s1 := by
  obtain ⟨h1, h2, h3, h4, h5, h6, h7⟩ := h
  obtain ⟨a2, a3⟩ := ha
  obtain ⟨s2, s3⟩ := hs
  have hU : xv_U a1 = xv_U a := by
    funext x
    unfold xv_U
    apply propext
    constructor
    · intro ⟨p, q⟩
      rw [a3 _ (by omega)] at q; exact ⟨p, q⟩
    · intro ⟨p, q⟩
      rw [← a3 _ (by omega)] at q; exact ⟨p, q⟩
  unfold re_N
  rw [hU]
  refine ⟨?_, ?_, ?_, ?_, ?_, ?_, ?_⟩
  · intro x hx; rw [a3 _ (by omega), s3 _ (by omega)]; exact h1 x hx
  · intro x hx; rw [a3 _ (by omega), s3 _ (by omega)]; exact h2 x hx
  · intro x hx
    rw [a3 (488 + x) (by omega), a3 (496 + x) (by omega), s3 (528 + x) (by omega), s3 (536 + x) (by omega)]
    by_cases q : x = t
    · rw [q, a2, s2]
      obtain ⟨_, p2, p3, _⟩ := h3 t ht
      exact ⟨rfl, p2, p3, fun z => absurd z hr⟩
    · rw [a3 (480 + x) (by omega), s3 (544 + x) (by omega)]; exact h3 x hx
  · intro x hx
    rw [a3 (504 + x) (by omega), a3 (512 + x) (by omega), s3 (552 + x) (by omega), s3 (560 + x) (by omega)]; exact h4 x hx
  · intro x hx; rw [a3 _ (by omega), s3 _ (by omega)]; exact h5 x hx
  · rw [a3 _ (by omega), s3 _ (by omega)]; exact h6
  · intro x hx; rw [a3 _ (by omega), s3 _ (by omega)]; exact h7 x hx
/-- a TRIGGER goes -/
theorem tg_N {B : Nat} {a a1 s s1 : Nat → Int32} {k : Nat} (hk : k < 8) (h : re_N B a s) (ha : a1 (504 + k) = -1 ∧ a1 (512 + k) = -1 ∧ ∀ i, i ≠ 504 + k → i ≠ 512 + k → a1 i = a i) (hs : s1 (552 + k) = -1 ∧ ∀ i, i ≠ 552 + k → s1 i = s i) : re_N B a1 s1 := by
  obtain ⟨h1, h2, h3, h4, h5, h6, h7⟩ := h
  obtain ⟨a2, a4, a3⟩ := ha
  obtain ⟨s2, s3⟩ := hs
  have hU : xv_U a1 = xv_U a := by
    funext x
    unfold xv_U
    apply propext
    constructor
    · intro ⟨p, q⟩
      rw [a3 _ (by omega) (by omega)] at q; exact ⟨p, q⟩
    · intro ⟨p, q⟩
      rw [← a3 _ (by omega) (by omega)] at q; exact ⟨p, q⟩
  unfold re_N
  rw [hU]
  refine ⟨?_, ?_, ?_, ?_, ?_, ?_, ?_⟩
  · intro x hx; rw [a3 _ (by omega) (by omega), s3 _ (by omega)]; exact h1 x hx
  · intro x hx; rw [a3 _ (by omega) (by omega), s3 _ (by omega)]; exact h2 x hx
  · intro x hx
    rw [a3 (480 + x) (by omega) (by omega), a3 (488 + x) (by omega) (by omega), a3 (496 + x) (by omega) (by omega), s3 (544 + x) (by omega), s3 (528 + x) (by omega), s3 (536 + x) (by omega)]; exact h3 x hx
  · intro x hx
    by_cases q : x = k
    · rw [q, a2, a4, s2]
      exact ⟨rfl, Or.inl ⟨rfl, rfl⟩⟩
    · rw [a3 (504 + x) (by omega) (by omega), a3 (512 + x) (by omega) (by omega), s3 (552 + x) (by omega), s3 (560 + x) (by omega)]; exact h4 x hx
  · intro x hx; rw [a3 _ (by omega) (by omega), s3 _ (by omega)]; exact h5 x hx
  · rw [a3 _ (by omega) (by omega), s3 _ (by omega)]; exact h6
  · intro x hx; rw [a3 _ (by omega) (by omega), s3 _ (by omega)]; exact h7 x hx
