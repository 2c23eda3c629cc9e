/-- a TEST is set -/
theorem ts_N {B : Nat} {a a1 s s1 : Nat → Int32} {t q : Nat} {yv : Int32} (ht : t < 8) (h : re_N B a s) (uq : xv_U a q) (hy : yv = -1 ∨ ∃ y, xv_U a y ∧ yv = nI y) (ha : a1 (480 + t) = 3 ∧ a1 (488 + t) = nI q ∧ a1 (496 + t) = yv ∧ ∀ i, i ≠ 480 + t → i ≠ 488 + t → i ≠ 496 + t → a1 i = a i) (hs : s1 (544 + t) = 3 ∧ s1 (528 + t) = nI q ∧ s1 (536 + t) = yv ∧ ∀ i, i ≠ 544 + t → i ≠ 528 + t → i ≠ 536 + t → s1 i = s i) : re_N B a1 s1 := by
  obtain ⟨h1, h2, h3, h4, h5, h6, h7⟩ := h
  obtain ⟨x0, x1, x2, aN⟩ := ha
  obtain ⟨y0, y1, y2, sN⟩ := hs
  have hU : xv_U a1 = xv_U a := by
    funext x
    unfold xv_U
    apply propext
    constructor
    · intro ⟨p, q⟩
      rw [aN _ (by omega) (by omega) (by omega)] at q; exact ⟨p, q⟩
    · intro ⟨p, q⟩
      rw [← aN _ (by omega) (by omega) (by omega)] at q; exact ⟨p, q⟩
  unfold re_N
  rw [hU]
  refine ⟨?_, ?_, ?_, ?_, ?_, ?_, ?_⟩
  · intro x hx; rw [aN (384 + x) (by omega) (by omega) (by omega), sN (480 + x) (by omega) (by omega) (by omega)]; exact h1 x hx
  · intro x hx; rw [aN (432 + x) (by omega) (by omega) (by omega), sN (432 + x) (by omega) (by omega) (by omega)]; exact h2 x hx
  · intro x hx
    by_cases q : x = t
    · rw [q, x0, x1, x2, y0, y1, y2]
      exact ⟨rfl, rfl, rfl, fun _ => ⟨⟨_, uq, rfl⟩, hy⟩⟩
    · rw [aN (480 + x) (by omega) (by omega) (by omega), aN (488 + x) (by omega) (by omega) (by omega), aN (496 + x) (by omega) (by omega) (by omega), sN (544 + x) (by omega) (by omega) (by omega), sN (528 + x) (by omega) (by omega) (by omega), sN (536 + x) (by omega) (by omega) (by omega)]; exact h3 x hx
  · intro x hx
    rw [aN (504 + x) (by omega) (by omega) (by omega), aN (512 + x) (by omega) (by omega) (by omega), sN (552 + x) (by omega) (by omega) (by omega), sN (560 + x) (by omega) (by omega) (by omega)]; exact h4 x hx
  · intro x hx; rw [aN (520 + x) (by omega) (by omega) (by omega), sN (568 + x) (by omega) (by omega) (by omega)]; exact h5 x hx
  · rw [aN (584) (by omega) (by omega) (by omega), sN (572) (by omega) (by omega) (by omega)]; exact h6
  · intro x hx; rw [aN (524 + x) (by omega) (by omega) (by omega), sN (573 + x) (by omega) (by omega) (by omega)]; exact h7 x hx
/-- a TRIGGER is set -/
theorem tr_N {B : Nat} {a a1 s s1 : Nat → Int32} {k x y : Nat} (hk : k < 8) (h : re_N B a s) (ux : xv_U a x) (uy : xv_U a y) (ha : a1 (504 + k) = nI x ∧ a1 (512 + k) = nI y ∧ ∀ i, i ≠ 504 + k → i ≠ 512 + k → a1 i = a i) (hs : s1 (552 + k) = nI x ∧ s1 (560 + k) = nI y ∧ ∀ i, i ≠ 552 + k → i ≠ 560 + k → s1 i = s i) : re_N B a1 s1 := by
  obtain ⟨h1, h2, h3, h4, h5, h6, h7⟩ := h
  obtain ⟨x0, x1, aN⟩ := ha
  obtain ⟨y0, y1, sN⟩ := hs
  have hU : xv_U a1 = xv_U a := by
    funext x
    unfold xv_U
    apply propext
    constructor
    · intro ⟨p, q⟩
      rw [aN _ (by omega) (by omega)] at q; exact ⟨p, q⟩
    · intro ⟨p, q⟩
      rw [← aN _ (by omega) (by omega)] at q; exact ⟨p, q⟩
  unfold re_N
  rw [hU]
  refine ⟨?_, ?_, ?_, ?_, ?_, ?_, ?_⟩
  · intro x hx; rw [aN (384 + x) (by omega) (by omega), sN (480 + x) (by omega) (by omega)]; exact h1 x hx
  · intro x hx; rw [aN (432 + x) (by omega) (by omega), sN (432 + x) (by omega) (by omega)]; exact h2 x hx
  · intro x hx
    rw [aN (480 + x) (by omega) (by omega), aN (488 + x) (by omega) (by omega), aN (496 + x) (by omega) (by omega), sN (544 + x) (by omega) (by omega), sN (528 + x) (by omega) (by omega), sN (536 + x) (by omega) (by omega)]; exact h3 x hx
  · intro j hj
    by_cases q : j = k
    · rw [q, x0, x1, y0, y1]
      exact ⟨rfl, Or.inr ⟨x, y, ux, uy, rfl, rfl, rfl⟩⟩
    · rw [aN (504 + j) (by omega) (by omega), aN (512 + j) (by omega) (by omega), sN (552 + j) (by omega) (by omega), sN (560 + j) (by omega) (by omega)]; exact h4 j hj
  · intro x hx; rw [aN (520 + x) (by omega) (by omega), sN (568 + x) (by omega) (by omega)]; exact h5 x hx
  · rw [aN (584) (by omega) (by omega), sN (572) (by omega) (by omega)]; exact h6
  · intro x hx; rw [aN (524 + x) (by omega) (by omega), sN (573 + x) (by omega) (by omega)]; exact h7 x hx
/-- one is asked for -/
theorem as_N {B : Nat} {a a1 s s1 : Nat → Int32} {z : Nat} (hz : z < 48) (h : re_N B a s) (uz : xv_U a z) (ha : a1 (384 + z) = 1 ∧ ∀ i, i ≠ 384 + z → a1 i = a i) (hs : s1 (480 + z) = 1 ∧ ∀ i, i ≠ 480 + z → s1 i = s i) : re_N B a1 s1 := by
  obtain ⟨h1, h2, h3, h4, h5, h6, h7⟩ := h
  obtain ⟨x0, aN⟩ := ha
  obtain ⟨y0, sN⟩ := hs
  have hU : xv_U a1 = xv_U a := by
    funext x
    unfold xv_U
    apply propext
    constructor
    · intro ⟨p, q⟩
      rw [aN _ (by omega)] at q; exact ⟨p, q⟩
    · intro ⟨p, q⟩
      rw [← aN _ (by omega)] at q; exact ⟨p, q⟩
  unfold re_N
  rw [hU]
  refine ⟨?_, ?_, ?_, ?_, ?_, ?_, ?_⟩
  · intro x hx
    by_cases q : x = z
    · rw [q, x0, y0]; exact ⟨rfl, Or.inr ⟨rfl, uz⟩⟩
    · rw [aN (384 + x) (by omega), sN (480 + x) (by omega)]; exact h1 x hx
  · intro x hx; rw [aN (432 + x) (by omega), sN (432 + x) (by omega)]; exact h2 x hx
  · intro x hx
    rw [aN (480 + x) (by omega), aN (488 + x) (by omega), aN (496 + x) (by omega), sN (544 + x) (by omega), sN (528 + x) (by omega), sN (536 + x) (by omega)]; exact h3 x hx
  · intro x hx
    rw [aN (504 + x) (by omega), aN (512 + x) (by omega), sN (552 + x) (by omega), sN (560 + x) (by omega)]; exact h4 x hx
  · intro x hx; rw [aN (520 + x) (by omega), sN (568 + x) (by omega)]; exact h5 x hx
  · rw [aN (584) (by omega), sN (572) (by omega)]; exact h6
  · intro x hx; rw [aN (524 + x) (by omega), sN (573 + x) (by omega)]; exact h7 x hx
/-- a ROOT -/
theorem rt_N {B : Nat} {a a1 s s1 : Nat → Int32} {z : Nat} {m : Int32} (hz : z < 48) (h : re_N B a s) (uz : xv_U a z) (hm : m = 0 ∨ m = 1) (ha : a1 (432 + z) = m ∧ ∀ i, i ≠ 432 + z → a1 i = a i) (hs : s1 (432 + z) = m ∧ ∀ i, i ≠ 432 + z → s1 i = s i) : re_N B a1 s1 := by
  obtain ⟨h1, h2, h3, h4, h5, h6, h7⟩ := h
  obtain ⟨x0, aN⟩ := ha
  obtain ⟨y0, sN⟩ := hs
  have hU : xv_U a1 = xv_U a := by
    funext x
    unfold xv_U
    apply propext
    constructor
    · intro ⟨p, q⟩
      rw [aN _ (by omega)] at q; exact ⟨p, q⟩
    · intro ⟨p, q⟩
      rw [← aN _ (by omega)] at q; exact ⟨p, q⟩
  unfold re_N
  rw [hU]
  refine ⟨?_, ?_, ?_, ?_, ?_, ?_, ?_⟩
  · intro x hx; rw [aN (384 + x) (by omega), sN (480 + x) (by omega)]; exact h1 x hx
  · intro x hx
    by_cases q : x = z
    · rw [q, x0, y0]
      refine ⟨rfl, ?_⟩
      rcases hm with hm | hm
      · exact Or.inl hm
      · exact Or.inr ⟨hm, uz⟩
    · rw [aN (432 + x) (by omega), sN (432 + x) (by omega)]; exact h2 x hx
  · intro x hx
    rw [aN (480 + x) (by omega), aN (488 + x) (by omega), aN (496 + x) (by omega), sN (544 + x) (by omega), sN (528 + x) (by omega), sN (536 + x) (by omega)]; exact h3 x hx
  · intro x hx
    rw [aN (504 + x) (by omega), aN (512 + x) (by omega), sN (552 + x) (by omega), sN (560 + x) (by omega)]; exact h4 x hx
  · intro x hx; rw [aN (520 + x) (by omega), sN (568 + x) (by omega)]; exact h5 x hx
  · rw [aN (584) (by omega), sN (572) (by omega)]; exact h6
  · intro x hx; rw [aN (524 + x) (by omega), sN (573 + x) (by omega)]; exact h7 x hx
/-- an END -/
theorem en_N {B : Nat} {a a1 s s1 : Nat → Int32} {e : Nat} {v : Int32} (he : e < 4) (h : re_N B a s) (hv : v = -1 ∨ ∃ x, xv_U a x ∧ v = nI x) (ha : a1 (520 + e) = v ∧ ∀ i, i ≠ 520 + e → a1 i = a i) (hs : s1 (568 + e) = v ∧ ∀ i, i ≠ 568 + e → s1 i = s i) : re_N B a1 s1 := by
  obtain ⟨h1, h2, h3, h4, h5, h6, h7⟩ := h
  obtain ⟨x0, aN⟩ := ha
  obtain ⟨y0, sN⟩ := hs
  have hU : xv_U a1 = xv_U a := by
    funext x
    unfold xv_U
    apply propext
    constructor
    · intro ⟨p, q⟩
      rw [aN _ (by omega)] at q; exact ⟨p, q⟩
    · intro ⟨p, q⟩
      rw [← aN _ (by omega)] at q; exact ⟨p, q⟩
  unfold re_N
  rw [hU]
  refine ⟨?_, ?_, ?_, ?_, ?_, ?_, ?_⟩
  · intro x hx; rw [aN (384 + x) (by omega), sN (480 + x) (by omega)]; exact h1 x hx
  · intro x hx; rw [aN (432 + x) (by omega), sN (432 + x) (by omega)]; exact h2 x hx
  · intro x hx
    rw [aN (480 + x) (by omega), aN (488 + x) (by omega), aN (496 + x) (by omega), sN (544 + x) (by omega), sN (528 + x) (by omega), sN (536 + x) (by omega)]; exact h3 x hx
  · intro x hx
    rw [aN (504 + x) (by omega), aN (512 + x) (by omega), sN (552 + x) (by omega), sN (560 + x) (by omega)]; exact h4 x hx
  · intro x hx
    by_cases q : x = e
    · rw [q, x0, y0]; exact ⟨rfl, hv⟩
    · rw [aN (520 + x) (by omega), sN (568 + x) (by omega)]; exact h5 x hx
  · rw [aN (584) (by omega), sN (572) (by omega)]; exact h6
  · intro x hx; rw [aN (524 + x) (by omega), sN (573 + x) (by omega)]; exact h7 x hx
theorem re_S_congr {a a' : Nat → Int32} (h1 : ∀ i, i < 432 → a' i = a i) (h2 : ∀ i, 480 ≤ i → i < 520 → a' i = a i) (S1 : re_S1 a) (S2 : re_S2 a) : re_S1 a' ∧ re_S2 a' := by
  have ha' : ∀ i, i < 384 → a' i = a i := fun i hi => h1 i (by omega)
  obtain ⟨u, l, k, _, _⟩ := xv_congr ha'
  have t := xv_congrT ha'
  constructor
  · intro t' q ht h3' hq e
    rw [h2 _ (by omega) (by omega)] at h3' e
    rw [h2 _ (by omega) (by omega), u, l, k, t]
    exact S1 t' q ht h3' hq e
  · intro k' x hk hx e
    rw [h2 _ (by omega) (by omega)] at e
    rw [k, l]
    obtain ⟨g1, g2⟩ := S2 k' x hk hx e
    refine ⟨g1, fun n => g2 ?_⟩
    rcases n with ⟨v, v1, v2, v3⟩ | ⟨t', q, t1, t2, t3, t4, t5, t6⟩
    · rw [h1 _ (by omega)] at v2
      rw [l] at v3
      exact Or.inl ⟨v, v1, v2, v3⟩
    · rw [h2 _ (by omega) (by omega)] at t2 t3 t5
      rw [l] at t6
      exact Or.inr ⟨t', q, t1, t2, t3, t4, t5, t6⟩
