/-- the work of reckoning how deep: in round r, those below j are done -/
def dp_I (R : Nat → Prop) (S : Nat → Nat → Prop) (D : Nat → Nat) (r j : Nat) : Prop :=
  (∀ c, ma_pt R S (D c) c) ∧ ∀ c q, ma_pt R S q c → (q ≤ r ∨ (c < j ∧ q ≤ r + 1)) → q ≤ D c
theorem dp_0 {R : Nat → Prop} {S : Nat → Nat → Prop} : dp_I R S (fun _ => 0) 0 0 :=
  ⟨fun _ => True.intro, fun c q _ h => by omega⟩
theorem dp_no {R : Nat → Prop} {S : Nat → Nat → Prop} {D : Nat → Nat} {r j : Nat} (I : dp_I R S D r j) (h : ¬ R j) : dp_I R S D r (j + 1) := by
  refine ⟨I.1, fun c q p hq => ?_⟩
  by_cases e : c = j
  · cases q with
    | zero => omega
    | succ q =>
      rw [e] at p
      exact absurd p.1 h
  · exact I.2 c q p (by omega)
theorem dp_step {R : Nat → Prop} {S : Nat → Nat → Prop} {D D' : Nat → Nat} {r j m : Nat} (I : dp_I R S D r j) (hR : R j) (e : D' j = m + 1) (h1 : ∀ d, S j d → D d ≤ m) (h2 : m = 0 ∨ ∃ d, S j d ∧ D d = m) (ne : ∀ c, c ≠ j → D' c = D c) : dp_I R S D' r (j + 1) := by
  constructor
  · intro c
    by_cases q : c = j
    · rw [q, e]
      refine ⟨hR, ?_⟩
      rcases h2 with h2 | ⟨d, s, h2⟩
      · exact Or.inl h2
      · refine Or.inr ⟨d, s, ?_⟩
        rw [← h2]; exact I.1 d
    · rw [ne c q]; exact I.1 c
  · intro c q p hq
    by_cases z : c = j
    · rw [z, e]
      cases q with
      | zero => omega
      | succ q =>
        rw [z] at p
        rcases p.2 with p2 | ⟨d, s, p2⟩
        · omega
        · have := I.2 d q p2 (Or.inl (by omega))
          have := h1 d s
          omega
    · rw [ne c z]
      exact I.2 c q p (by omega)
theorem dp_next {R : Nat → Prop} {S : Nat → Nat → Prop} {D : Nat → Nat} {r N : Nat} (I : dp_I R S D r N) (h : ∀ c, R c → c < N) : dp_I R S D (r + 1) 0 := by
  refine ⟨I.1, fun c q p hq => ?_⟩
  cases q with
  | zero => omega
  | succ q => exact I.2 c (q + 1) p (Or.inr ⟨h c p.1, by omega⟩)
/-- the two sides' chains are the same -/
theorem ma_pt_map {U RX RY : Nat → Prop} {SX' SY' : Nat → Nat → Prop} {f : Nat → Nat} (hR : ∀ v, U v → (RY v ↔ RX (f v))) (hS : ∀ v d, U v → RY v → SY' v d → U d ∧ SX' (f v) (f d)) (hT : ∀ v e, U v → RY v → SX' (f v) e → ∃ d, U d ∧ SY' v d ∧ f d = e) : ∀ q v, U v → (ma_pt RY SY' q v ↔ ma_pt RX SX' q (f v)) := by
  intro q
  induction q with
  | zero => intro v _; exact ⟨fun _ => True.intro, fun _ => True.intro⟩
  | succ q ih =>
    intro v hv
    constructor
    · intro ⟨h1, h2⟩
      refine ⟨(hR v hv).mp h1, ?_⟩
      rcases h2 with h2 | ⟨d, s, h2⟩
      · exact Or.inl h2
      · obtain ⟨ud, sd⟩ := hS v d hv h1 s
        exact Or.inr ⟨f d, sd, (ih d ud).mp h2⟩
    · intro ⟨h1, h2⟩
      have h1' := (hR v hv).mpr h1
      refine ⟨h1', ?_⟩
      rcases h2 with h2 | ⟨e, s, h2⟩
      · exact Or.inl h2
      · obtain ⟨d, ud, sd, ed⟩ := hT v e hv h1' s
        exact Or.inr ⟨d, sd, (ih d ud).mpr (by rw [ed]; exact h2)⟩
