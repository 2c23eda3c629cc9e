/-- the whole relation, over what counts of the two states -/
def re_A (k : Nat) (tr dr tr' dr' : Int32) (held saved draft s saved' draft' : Nat → Int32) : Prop :=
  ∃ t d : Nat, t ≤ 3 ∧ d ≤ 3 ∧ tr = nI t ∧ tr' = nI t ∧ dr = nI d ∧ dr' = nI d ∧ (∀ i, i < 3 → draft i = draft' i ∧ ∃ q, q < 48 ∧ draft i = nI q) ∧ re_C (25 * k) held s ∧ ∀ j, j < t → re_C (25 * k) (fun i => saved (585 * j + i)) (fun i => saved' (633 * j + i))
theorem re_A_up {k k' : Nat} {tr dr tr' dr' : Int32} {held saved draft s saved' draft' : Nat → Int32} (hk : k ≤ k') (h : re_A k tr dr tr' dr' held saved draft s saved' draft') : re_A k' tr dr tr' dr' held saved draft s saved' draft' := by
  obtain ⟨t, d, h1, h2, h3, h4, h5, h6, h7, h8, h9⟩ := h
  exact ⟨t, d, h1, h2, h3, h4, h5, h6, h7, re_C_mono (by omega) h8, fun j hj => re_C_mono (by omega) (h9 j hj)⟩
/-- another pair of rows in the place of the first -/
theorem re_A_row {k : Nat} {tr dr tr' dr' : Int32} {held saved draft s saved' draft' held' s' : Nat → Int32} (h : re_A k tr dr tr' dr' held saved draft s saved' draft') (hC : re_C (25 * k + 100) held' s') : re_A (k + 4) tr dr tr' dr' held' saved draft s' saved' draft' := by
  obtain ⟨t, d, h1, h2, h3, h4, h5, h6, h7, h8, h9⟩ := h
  exact ⟨t, d, h1, h2, h3, h4, h5, h6, h7, re_C_mono (by omega) hC, fun j hj => re_C_mono (by omega) (h9 j hj)⟩
theorem re_A_C {k : Nat} {tr dr tr' dr' : Int32} {held saved draft s saved' draft' : Nat → Int32} (h : re_A k tr dr tr' dr' held saved draft s saved' draft') : re_C (25 * k) held s := by
  obtain ⟨t, d, h1, h2, h3, h4, h5, h6, h7, h8, h9⟩ := h
  exact h8
/-- a row of the first object -/
def re_z (i : Nat) : Int32 := if (504 ≤ i ∧ i < 524) then -1 else 0
def re_y (i : Nat) : Int32 := if i < 48 then nI i else if (552 ≤ i ∧ i < 560) ∨ (568 ≤ i ∧ i < 572) then -1 else 0
theorem re_C_0 : re_C 0 re_z re_y := by
  have z0 : ∀ i, i < 504 → re_z i = 0 := fun i hi => if_neg (by omega)
  have z1 : ∀ i, 524 ≤ i → re_z i = 0 := fun i hi => if_neg (by omega)
  have z2 : ∀ i, 504 ≤ i → i < 524 → re_z i = -1 := fun i h1 h2 => if_pos ⟨h1, h2⟩
  have y0 : ∀ i, i < 48 → re_y i = nI i := fun i hi => if_pos hi
  have y1 : ∀ i, 48 ≤ i → i < 552 → re_y i = 0 := fun i h1 h2 => by
    unfold re_y; rw [if_neg (by omega), if_neg (by omega)]
  have y2 : ∀ i, 552 ≤ i → i < 560 → re_y i = -1 := fun i h1 h2 => by
    unfold re_y; rw [if_neg (by omega), if_pos (Or.inl ⟨h1, h2⟩)]
  have y3 : ∀ i, 568 ≤ i → i < 572 → re_y i = -1 := fun i h1 h2 => by
    unfold re_y; rw [if_neg (by omega), if_pos (Or.inr ⟨h1, h2⟩)]
  have y4 : ∀ i, 572 ≤ i → re_y i = 0 := fun i h1 => by
    unfold re_y; rw [if_neg (by omega), if_neg (by omega)]
  have nu : ∀ x, ¬ xv_U re_z x := by
    intro x ⟨h1, h2⟩
    rw [z0 _ (by omega)] at h2
    exact absurd h2 (by decide)
  have nv : ∀ x, ¬ yv_U re_y x := by
    intro x ⟨h1, h2⟩
    rw [y1 _ (by omega) (by omega)] at h2
    exact absurd h2 (by decide)
  refine ⟨⟨?_, ?_, ?_, ?_, ?_, ?_⟩, ?_, ?_⟩
  · refine ⟨?_, ?_, ?_, ?_, ?_, ?_⟩
    · intro x hx; exact ⟨0, by omega, z0 x (by omega)⟩
    · intro c hc; rw [z0 _ (by omega), z0 _ (by omega), ma_ct_0]; rfl
    · intro c k hc hk; exact ⟨0, by omega, z0 _ (by omega)⟩
    · intro x hx; exact Or.inl (z0 _ (by omega))
    · intro c hc; exact Or.inr (z0 _ (by omega))
    · intro c hc; exact ⟨0, by omega, z0 _ (by omega)⟩
  · refine ⟨?_, ?_, ?_, ?_⟩
    · intro v hv; exact ⟨v, hv, y0 v hv⟩
    · intro v hv; exact Or.inr ⟨y1 _ (by omega) (by omega), y0 v hv, y1 _ (by omega) (by omega)⟩
    · intro u hu; exact Or.inl (y1 _ (by omega) (by omega))
    · intro u k hu hk; exact ⟨0, by omega, y1 _ (by omega) (by omega)⟩
  · intro x hx; rw [z0 _ (by omega), y1 _ (by omega) (by omega)]
  · intro x hx; exact absurd hx (nu x)
  · refine ⟨fun x hx => absurd hx (nu x), fun c hc => absurd (xv_T1 hc).1 (nu c), fun c hc => absurd (xv_T1 hc).1 (nu c), fun c hc => absurd (yv_T1 hc).1 (nv c), fun c hc => absurd (xv_T1 hc).1 (nu c), fun c hc => absurd (yv_T1 hc).1 (nv c)⟩
  · refine ⟨?_, ?_, ?_, ?_, ?_, ?_, ?_⟩
    · intro x hx; rw [z0 _ (by omega), y1 _ (by omega) (by omega)]; exact ⟨rfl, Or.inl rfl⟩
    · intro x hx; rw [z0 _ (by omega), y1 _ (by omega) (by omega)]; exact ⟨rfl, Or.inl rfl⟩
    · intro t ht
      rw [z0 (480 + t) (by omega), z0 (488 + t) (by omega), z0 (496 + t) (by omega), y1 (544 + t) (by omega) (by omega), y1 (528 + t) (by omega) (by omega), y1 (536 + t) (by omega) (by omega)]
      exact ⟨rfl, rfl, rfl, fun h => absurd h (by decide)⟩
    · intro k hk
      rw [z2 (504 + k) (by omega) (by omega), z2 (512 + k) (by omega) (by omega), y2 (552 + k) (by omega) (by omega)]
      exact ⟨rfl, Or.inl ⟨rfl, rfl⟩⟩
    · intro e he
      rw [z2 (520 + e) (by omega) (by omega), y3 (568 + e) (by omega) (by omega)]
      exact ⟨rfl, Or.inl rfl⟩
    · exact ⟨0, by omega, z1 _ (by omega), y4 _ (by omega)⟩
    · intro j hj; rw [z1 _ (by omega), y4 _ (by omega)]
  · intro t q ht h3 _ _
    rw [z0 _ (by omega)] at h3
    exact absurd h3 (by decide)
  · intro k x hk hx e
    rw [z2 _ (by omega) (by omega)] at e
    exact ((li_nn1 (by omega)).mp e.symm).elim
