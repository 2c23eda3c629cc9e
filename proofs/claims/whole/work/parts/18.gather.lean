/-- the work of gathering: met ones m, the stack st, the done ones D with their places ix -/
def ga_I (a : Nat → Int32) (x : Nat) (m : Nat → Nat) (M : Nat) (st : Nat → Nat) (top i : Nat) (D : Nat → Prop) (ix : Nat → Nat) : Prop :=
  (∀ j, j < M → xv_U a (m j) ∧ xv_L a (m j) = m j) ∧ (∀ j j', j < j' → j' < M → ¬ ma_al (xv_U a) (xv_L a) (xv_T a) (m j) (m j')) ∧
  (∀ j, j < top → xv_U a (st j)) ∧ i + top ≤ 1 + 3 * M ∧
  (∀ c, D c → xv_U a c ∧ ix c < M ∧ ma_al (xv_U a) (xv_L a) (xv_T a) c (m (ix c)) ∧ ∀ j, j < ix c → ¬ ma_al (xv_U a) (xv_L a) (xv_T a) c (m j)) ∧
  (D (xv_L a x) ∨ ∃ j, j < top ∧ xv_L a (st j) = xv_L a x) ∧
  (∀ j, j < M → ∀ k, k < ma_ct (xv_K a (m j)) → D (xv_L a (xv_P a (m j) k)) ∨ ∃ j', j' < top ∧ xv_L a (st j') = xv_L a (xv_P a (m j) k)) ∧
  ((M = 0 ∧ top = 1 ∧ xv_L a (st 0) = xv_L a x) ∨ (0 < M ∧ m 0 = xv_L a x))
theorem ga_0 {a : Nat → Int32} {x : Nat} {m st ix : Nat → Nat} (ux : xv_U a x) (h : st 0 = x) : ga_I a x m 0 st 1 0 (fun _ => False) ix := by
  refine ⟨fun j hj => by omega, fun j j' _ h => by omega, ?_, by omega, fun c h => h.elim, Or.inr ⟨0, by omega, by rw [h]⟩, fun j hj => by omega, Or.inl ⟨rfl, rfl, by rw [h]⟩⟩
  intro j hj
  have : j = 0 := by omega
  rw [this, h]; exact ux
/-- there is room for one more -/
theorem ga_M {a : Nat → Int32} {x : Nat} {m : Nat → Nat} {M : Nat} {st : Nat → Nat} {top i : Nat} {D : Nat → Prop} {ix : Nat → Nat} (g : xv_G a) (h : ga_I a x m M st top i D ix) : M ≤ 48 := by
  obtain ⟨h1, h2, _⟩ := h
  refine ma_php 48 M m (fun j hj => (h1 j hj).1.1) (fun j j' hj hj' e => h2 j j' hj hj' ?_)
  rw [e]
  obtain ⟨u, l⟩ := h1 j' hj'
  exact ma_al_rf g.2.1 u u rfl
theorem ga_old {a : Nat → Int32} {x : Nat} {m : Nat → Nat} {M : Nat} {st : Nat → Nat} {top i : Nat} {D : Nat → Prop} {ix : Nat → Nat} {m0 : Nat} {ix' : Nat → Nat} (g : xv_G a) (h : ga_I a x m M st (top + 1) i D ix) (hm : m0 < M) (hal : ma_al (xv_U a) (xv_L a) (xv_T a) (xv_L a (st top)) (m m0)) (hn : ∀ j, j < m0 → ¬ ma_al (xv_U a) (xv_L a) (xv_T a) (xv_L a (st top)) (m j)) (e1 : ix' (xv_L a (st top)) = m0) (e2 : ∀ c, c ≠ xv_L a (st top) → ix' c = ix c) : ga_I a x m M st top (i + 1) (fun c => D c ∨ c = xv_L a (st top)) ix' := by
  obtain ⟨h1, h2, h3, h4, h5, h6, h7, h8⟩ := h
  have ut := h3 top (by omega)
  refine ⟨h1, h2, fun j hj => h3 j (by omega), by omega, ?_, ?_, ?_, ?_⟩
  · intro c hc
    by_cases q : c = xv_L a (st top)
    · rw [q, e1]; exact ⟨(g.2.1 _ ut).2.1, hm, hal, hn⟩
    · rw [e2 c q]
      rcases hc with hc | hc
      · exact h5 c hc
      · exact absurd hc q
  · rcases h6 with q | ⟨j, hj, q⟩
    · exact Or.inl (Or.inl q)
    · by_cases z : j = top
      · rw [z] at q; exact Or.inl (Or.inr q.symm)
      · exact Or.inr ⟨j, by omega, q⟩
  · intro j hj k hk
    rcases h7 j hj k hk with q | ⟨j', hj', q⟩
    · exact Or.inl (Or.inl q)
    · by_cases z : j' = top
      · rw [z] at q; exact Or.inl (Or.inr q.symm)
      · exact Or.inr ⟨j', by omega, q⟩
  · rcases h8 with ⟨q, _⟩ | q
    · omega
    · exact Or.inr q
theorem ga_new {a : Nat → Int32} {x : Nat} {m : Nat → Nat} {M : Nat} {st st' : Nat → Nat} {top i : Nat} {D : Nat → Prop} {ix ix' m' : Nat → Nat} (g : xv_G a) (h : ga_I a x m M st (top + 1) i D ix) (hn : ∀ j, j < M → ¬ ma_al (xv_U a) (xv_L a) (xv_T a) (xv_L a (st top)) (m j)) (e1 : ix' (xv_L a (st top)) = M) (e2 : ∀ c, c ≠ xv_L a (st top) → ix' c = ix c) (f1 : m' M = xv_L a (st top)) (f2 : ∀ j, j < M → m' j = m j) (s1 : ∀ j, j < top → st' j = st j) (s2 : ∀ k, k < ma_ct (xv_K a (xv_L a (st top))) → xv_L a (st' (top + (ma_ct (xv_K a (xv_L a (st top))) - 1 - k))) = xv_L a (xv_P a (xv_L a (st top)) k) ∧ xv_U a (st' (top + (ma_ct (xv_K a (xv_L a (st top))) - 1 - k)))) : ga_I a x m' (M + 1) st' (top + ma_ct (xv_K a (xv_L a (st top)))) (i + 1) (fun c => D c ∨ c = xv_L a (st top)) ix' := by
  obtain ⟨h1, h2, h3, h4, h5, h6, h7, h8⟩ := h
  have ut := h3 top (by omega)
  have wt := g.2.1 _ ut
  have c3 := ma_ct_le (xv_K a (xv_L a (st top)))
  refine ⟨?_, ?_, ?_, by omega, ?_, ?_, ?_, ?_⟩
  · intro j hj
    by_cases q : j = M
    · rw [q, f1]; exact ⟨wt.2.1, wt.2.2.1⟩
    · rw [f2 j (by omega)]; exact h1 j (by omega)
  · intro j j' hj hj'
    rw [f2 j (by omega)]
    by_cases q : j' = M
    · rw [q, f1]
      exact fun z => hn j (by omega) (ma_al_sym z)
    · rw [f2 j' (by omega)]; exact h2 j j' hj (by omega)
  · intro j hj
    by_cases q : j < top
    · rw [s1 j q]; exact h3 j (by omega)
    · have := (s2 (ma_ct (xv_K a (xv_L a (st top))) - 1 - (j - top)) (by omega)).2
      rw [show top + (ma_ct (xv_K a (xv_L a (st top))) - 1 - (ma_ct (xv_K a (xv_L a (st top))) - 1 - (j - top))) = j from by omega] at this
      exact this
  · intro c hc
    by_cases q : c = xv_L a (st top)
    · rw [q, e1, f1]
      refine ⟨wt.2.1, by omega, ?_, fun j hj => by rw [f2 j hj]; exact hn j hj⟩
      exact ma_al_rf g.2.1 wt.2.1 wt.2.1 rfl
    · rw [e2 c q]
      rcases hc with hc | hc
      · obtain ⟨q1, q2, q3, q4⟩ := h5 c hc
        rw [f2 _ q2]
        exact ⟨q1, by omega, q3, fun j hj => by rw [f2 j (by omega)]; exact q4 j hj⟩
      · exact absurd hc q
  · rcases h6 with q | ⟨j, hj, q⟩
    · exact Or.inl (Or.inl q)
    · by_cases z : j = top
      · rw [z] at q; exact Or.inl (Or.inr q.symm)
      · exact Or.inr ⟨j, by omega, by rw [s1 j (by omega)]; exact q⟩
  · intro j hj k hk
    by_cases z : j = M
    · rw [z, f1] at hk
      rw [z, f1]
      obtain ⟨p1, p2⟩ := s2 k hk
      exact Or.inr ⟨_, by omega, p1⟩
    · rw [f2 j (by omega)] at hk
      rw [f2 j (by omega)]
      rcases h7 j (by omega) k hk with q | ⟨j', hj', q⟩
      · exact Or.inl (Or.inl q)
      · by_cases y : j' = top
        · rw [y] at q; exact Or.inl (Or.inr q.symm)
        · exact Or.inr ⟨j', by omega, by rw [s1 j' (by omega)]; exact q⟩
  · refine Or.inr ⟨by omega, ?_⟩
    rcases h8 with ⟨q1, q2, q3⟩ | ⟨q1, q2⟩
    · have : top = 0 := by omega
      rw [this] at f1
      rw [q1] at f1
      rw [f1]; exact q3
    · rw [f2 0 q1]; exact q2
