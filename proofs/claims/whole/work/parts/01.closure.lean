/-- counting -/
def ma_cnt (p : Nat → Bool) : Nat → Nat
  | 0 => 0
  | n + 1 => ma_cnt p n + (if p n = true then 1 else 0)
theorem ma_cnt_le (p : Nat → Bool) : ∀ n, ma_cnt p n ≤ n := by
  intro n
  induction n with
  | zero => exact Nat.le_refl _
  | succ n ih =>
    show ma_cnt p n + (if p n = true then 1 else 0) ≤ n + 1
    split <;> omega
theorem ma_cnt_mono {p q : Nat → Bool} : ∀ n, (∀ i, i < n → p i = true → q i = true) → ma_cnt p n ≤ ma_cnt q n := by
  intro n
  induction n with
  | zero => intro _; exact Nat.le_refl _
  | succ n ih =>
    intro h
    have h1 := ih (fun i hi => h i (by omega))
    have h2 := h n (by omega)
    show ma_cnt p n + (if p n = true then 1 else 0) ≤ ma_cnt q n + (if q n = true then 1 else 0)
    by_cases a : p n = true
    · rw [if_pos a, if_pos (h2 a)]; omega
    · rw [if_neg a]; split <;> omega
theorem ma_cnt_lt {p q : Nat → Bool} : ∀ n, (∀ i, i < n → p i = true → q i = true) → (∃ i, i < n ∧ q i = true ∧ ¬ p i = true) → ma_cnt p n < ma_cnt q n := by
  intro n
  induction n with
  | zero => intro _ h; obtain ⟨i, hi, _⟩ := h; omega
  | succ n ih =>
    intro h hx
    have h2 := h n (by omega)
    have h1 := ma_cnt_mono n (fun i hi => h i (by omega))
    show ma_cnt p n + (if p n = true then 1 else 0) < ma_cnt q n + (if q n = true then 1 else 0)
    obtain ⟨i, hi, hq, hp⟩ := hx
    by_cases e : i = n
    · rw [e] at hq hp
      rw [if_neg hp, if_pos hq]; omega
    · have h3 := ih (fun i hi => h i (by omega)) ⟨i, by omega, hq, hp⟩
      by_cases a : p n = true
      · rw [if_pos a, if_pos (h2 a)]; omega
      · rw [if_neg a]; split <;> omega
theorem ma_cnt_congr {p q : Nat → Bool} (n : Nat) (h : ∀ i, i < n → p i = q i) : ma_cnt p n = ma_cnt q n :=
  Nat.le_antisymm (ma_cnt_mono n (fun i hi a => by rw [← h i hi]; exact a)) (ma_cnt_mono n (fun i hi a => by rw [h i hi]; exact a))
theorem ma_cnt_full {p : Nat → Bool} : ∀ n, n ≤ ma_cnt p n → ∀ i, i < n → p i = true := by
  intro n h i hi
  apply Classical.byContradiction
  intro hp
  have h1 : ma_cnt p n < ma_cnt (fun _ => true) n := ma_cnt_lt n (fun _ _ _ => rfl) ⟨i, hi, rfl, hp⟩
  have h2 := ma_cnt_le (fun _ => true) n
  omega
/-- an injective row into n places is no longer than n -/
theorem ma_php : ∀ (n m : Nat) (f : Nat → Nat), (∀ i, i < m → f i < n) → (∀ i j, i < j → j < m → f i ≠ f j) → m ≤ n := by
  intro n
  induction n with
  | zero =>
    intro m f h _
    cases m with
    | zero => exact Nat.le_refl _
    | succ m => have := h 0 (by omega); omega
  | succ n ih =>
    intro m f h hj
    cases m with
    | zero => omega
    | succ m =>
      by_cases hx : ∃ i, i < m ∧ f i = n
      · obtain ⟨i0, hi0, e0⟩ := hx
        have hm : f m ≠ n := by rw [← e0]; exact fun z => hj i0 m hi0 (by omega) z.symm
        have := ih m (fun i => if i = i0 then f m else f i) (by
          intro i hi
          show (if i = i0 then f m else f i) < n
          split
          · have := h m (by omega); omega
          · rename_i hne
            have h1 := h i (by omega)
            have h2 : f i ≠ n := by
              rw [← e0]
              rcases Nat.lt_or_gt_of_ne hne with q | q
              · exact hj i i0 q (by omega)
              · exact fun z => hj i0 i q (by omega) z.symm
            omega) (by
          intro i j hij hjm
          show (if i = i0 then f m else f i) ≠ (if j = i0 then f m else f j)
          by_cases a : i = i0
          · rw [if_pos a, if_neg (by omega)]
            exact fun z => hj j m hjm (by omega) z.symm
          · rw [if_neg a]
            by_cases b : j = i0
            · rw [if_pos b]; exact hj i m (by omega) (by omega)
            · rw [if_neg b]; exact hj i j hij (by omega))
        omega
      · have := ih m f (by
          intro i hi
          have h1 := h i (by omega)
          have h2 : f i ≠ n := fun z => hx ⟨i, hi, z⟩
          omega) (fun i j a b => hj i j a (by omega))
        omega
/-- how many PARTS a kind's code has -/
def ma_ct (k : Int32) : Nat := if k.toNatClampNeg < 2 then 0 else (k.toNatClampNeg - 2) % 4
theorem ma_ct_le (k : Int32) : ma_ct k ≤ 3 := by
  unfold ma_ct; split <;> omega
abbrev ma_0 : Nat → Nat → Prop := fun _ _ => False
/-- what was told: who has a value, its code and number, its parts -/
abbrev ma_T : Type := (Nat → Prop) × (Nat → Int32 × Int32) × (Nat → Nat → Nat)
def ma_Eqv (E : Nat → Nat → Prop) : Prop := (∀ x, E x x) ∧ (∀ x y, E x y → E y x) ∧ (∀ x y z, E x y → E y z → E x z)
def ma_PC (T : ma_T) (E : Nat → Nat → Prop) : Prop := ∀ c d, T.1 c → T.1 d → E c d → T.2.1 c = T.2.1 d → ∀ k, k < ma_ct (T.2.1 c).1 → E (T.2.2 c k) (T.2.2 d k)
def ma_Bad (T : ma_T) (E : Nat → Nat → Prop) : Prop := ∃ c d, T.1 c ∧ T.1 d ∧ E c d ∧ T.2.1 c ≠ T.2.1 d
def ma_Sub (T T' : ma_T) (E : Nat → Nat → Prop) : Prop := ∀ c, T.1 c → ∃ d, T'.1 d ∧ E c d ∧ T'.2.1 d = T.2.1 c ∧ ∀ k, k < ma_ct (T.2.1 c).1 → E (T.2.2 c k) (T'.2.2 d k)
theorem ma_PC_sub {T T' : ma_T} {E : Nat → Nat → Prop} (e : ma_Eqv E) (s : ma_Sub T T' E) (h : ma_PC T' E) : ma_PC T E := by
  intro c d hc hd hE hs k hk
  obtain ⟨c', c1, c2, c3, c4⟩ := s c hc
  obtain ⟨d', d1, d2, d3, d4⟩ := s d hd
  have hE' : E c' d' := e.2.2 _ _ _ (e.2.1 _ _ c2) (e.2.2 _ _ _ hE d2)
  have h1 := h c' d' c1 d1 hE' (by rw [c3, d3, hs]) k (by rw [c3]; exact hk)
  exact e.2.2 _ _ _ (c4 k hk) (e.2.2 _ _ _ h1 (e.2.1 _ _ (d4 k (by rw [← hs]; exact hk))))
theorem ma_Bad_sub {T T' : ma_T} {E : Nat → Nat → Prop} (e : ma_Eqv E) (s : ma_Sub T T' E) (h : ma_Bad T E) : ma_Bad T' E := by
  obtain ⟨c, d, hc, hd, hE, hs⟩ := h
  obtain ⟨c', c1, c2, c3, _⟩ := s c hc
  obtain ⟨d', d1, d2, d3, _⟩ := s d hd
  exact ⟨c', d', c1, d1, e.2.2 _ _ _ (e.2.1 _ _ c2) (e.2.2 _ _ _ hE d2), by rw [c3, d3]; exact hs⟩
theorem ma_Sub_mono {T T' : ma_T} {E E' : Nat → Nat → Prop} (h : ∀ x y, E x y → E' x y) (s : ma_Sub T T' E) : ma_Sub T T' E' := by
  intro c hc
  obtain ⟨d, d1, d2, d3, d4⟩ := s c hc
  exact ⟨d, d1, h _ _ d2, d3, fun k hk => h _ _ (d4 k hk)⟩
theorem ma_Sub_trans {T T' T'' : ma_T} {E : Nat → Nat → Prop} (e : ma_Eqv E) (s : ma_Sub T T' E) (s' : ma_Sub T' T'' E) : ma_Sub T T'' E := by
  intro c hc
  obtain ⟨d, d1, d2, d3, d4⟩ := s c hc
  obtain ⟨f, f1, f2, f3, f4⟩ := s' d d1
  exact ⟨f, f1, e.2.2 _ _ _ d2 f2, by rw [f3, d3], fun k hk => e.2.2 _ _ _ (d4 k hk) (f4 k (by rw [d3]; exact hk))⟩
theorem ma_Sub_refl {T : ma_T} {E : Nat → Nat → Prop} (e : ma_Eqv E) : ma_Sub T T E :=
  fun c hc => ⟨c, hc, e.1 _, rfl, fun _ _ => e.1 _⟩
/-- the relations that hold all that is told: SAME is the least of them -/
def ma_F (U : Nat → Prop) (L : Nat → Nat) (T : ma_T) (Q : Nat → Nat → Prop) (E : Nat → Nat → Prop) : Prop :=
  ma_Eqv E ∧ (∀ x, U x → E x (L x)) ∧ (∀ x y, Q x y → E x y) ∧ ma_PC T E
def ma_W (U : Nat → Prop) (L : Nat → Nat) : Prop := ∀ x, U x → x < 48 ∧ U (L x) ∧ L (L x) = L x ∧ L x ≤ x
def ma_K (U : Nat → Prop) (L : Nat → Nat) (x y : Nat) : Prop := x = y ∨ (U x ∧ U y ∧ L x = L y)
theorem ma_K_eqv (U : Nat → Prop) (L : Nat → Nat) : ma_Eqv (ma_K U L) := by
  refine ⟨fun x => Or.inl rfl, ?_, ?_⟩
  · intro x y h
    rcases h with h | ⟨a, b, c⟩
    · exact Or.inl h.symm
    · exact Or.inr ⟨b, a, c.symm⟩
  · intro x y z h g
    rcases h with h | ⟨a, b, c⟩
    · rw [h]; exact g
    · rcases g with g | ⟨a', b', c'⟩
      · rw [← g]; exact Or.inr ⟨a, b, c⟩
      · exact Or.inr ⟨a, b', c.trans c'⟩
theorem ma_K_sub {U : Nat → Prop} {L : Nat → Nat} {E : Nat → Nat → Prop} (e : ma_Eqv E) (h : ∀ x, U x → E x (L x)) : ∀ x y, ma_K U L x y → E x y := by
  intro x y k
  rcases k with k | ⟨a, b, c⟩
  · rw [k]; exact e.1 _
  · have h1 := h x a
    have h2 := h y b
    rw [← c] at h2
    exact e.2.2 _ _ _ h1 (e.2.1 _ _ h2)
/-- two told systems that are one up to SAME have the same relations -/
theorem ma_F_sub {U : Nat → Prop} {L : Nat → Nat} {T T' : ma_T} {Q E : Nat → Nat → Prop} (s : ma_Sub T T' (ma_K U L)) (h : ma_F U L T' Q E) : ma_F U L T Q E :=
  ⟨h.1, h.2.1, h.2.2.1, ma_PC_sub h.1 (ma_Sub_mono (ma_K_sub h.1 h.2.1) s) h.2.2.2⟩
theorem ma_Bad_subF {U : Nat → Prop} {L : Nat → Nat} {T T' : ma_T} {Q E : Nat → Nat → Prop} (s : ma_Sub T T' (ma_K U L)) (h : ma_F U L T' Q E) (b : ma_Bad T E) : ma_Bad T' E :=
  ma_Bad_sub h.1 (ma_Sub_mono (ma_K_sub h.1 h.2.1) s) b
/-- the told system of a store that keeps one value a class, at its least -/
def ma_X (U : Nat → Prop) (L : Nat → Nat) (K V : Nat → Int32) (P : Nat → Nat → Nat) : ma_T := (fun c => U c ∧ L c = c ∧ K c ≠ 0, fun c => (K c, V c), P)
theorem ma_X_fin {U : Nat → Prop} {L : Nat → Nat} {K V : Nat → Int32} {P : Nat → Nat → Nat} (w : ma_W U L) : ma_F U L (ma_X U L K V P) (fun _ _ => False) (ma_K U L) ∧ ¬ ma_Bad (ma_X U L K V P) (ma_K U L) := by
  have one : ∀ c d, (ma_X U L K V P).1 c → (ma_X U L K V P).1 d → ma_K U L c d → c = d := by
    intro c d hc hd h
    rcases h with h | ⟨_, _, h⟩
    · exact h
    · obtain ⟨_, h1, _⟩ := hc
      obtain ⟨_, h2, _⟩ := hd
      omega
  refine ⟨⟨ma_K_eqv U L, fun x hx => Or.inr ⟨hx, (w x hx).2.1, ((w x hx).2.2.1).symm⟩, fun _ _ h => h.elim, ?_⟩, ?_⟩
  · intro c d hc hd h _ k _
    rw [one c d hc hd h]
    exact Or.inl rfl
  · intro ⟨c, d, hc, hd, h, hs⟩
    exact hs (by rw [one c d hc hd h])
/-- a join of the classes lo and hi -/
def ma_J (U : Nat → Prop) (lo hi : Nat) (L L' : Nat → Nat) (K V K' V' : Nat → Int32) (P P' : Nat → Nat → Nat) : Prop :=
  (∀ x, U x → L' x = if L x = hi then lo else L x) ∧
  (K lo = 0 → K' lo = K hi ∧ V' lo = V hi ∧ ∀ k, k < 3 → P' lo k = P hi k) ∧
  (K lo ≠ 0 → K' lo = K lo ∧ V' lo = V lo ∧ ∀ k, k < 3 → P' lo k = P lo k) ∧
  (∀ c, U c → c ≠ lo → K' c = K c ∧ V' c = V c ∧ ∀ k, k < 3 → P' c k = P c k)
theorem ma_J_1 {U : Nat → Prop} {lo hi : Nat} {L L' : Nat → Nat} {K V K' V' : Nat → Int32} {P P' : Nat → Nat → Nat} {E : Nat → Nat → Prop} (j : ma_J U lo hi L L' K V K' V' P P') (hlo : U lo) (llo : L lo = lo) (lt : lo < hi) (e : ma_Eqv E) (hE : E lo hi) (hp : K lo ≠ 0 → K hi ≠ 0 → (K lo, V lo) = (K hi, V hi) ∧ ∀ k, k < ma_ct (K lo) → E (P lo k) (P hi k)) : ma_Sub (ma_X U L K V P) (ma_X U L' K' V' P') E := by
  obtain ⟨jl, j0, j1, j2⟩ := j
  intro c hc
  obtain ⟨hU, hL, hK⟩ := hc
  have lo' : L' lo = lo := by rw [jl lo hlo, llo, if_neg (by omega)]
  have c3 : ∀ k, k < ma_ct (K c) → k < 3 := fun k hk => Nat.lt_of_lt_of_le hk (ma_ct_le _)
  by_cases h1 : c = lo
  · subst h1
    obtain ⟨a, b, d⟩ := j1 hK
    refine ⟨c, ⟨hU, lo', by rw [a]; exact hK⟩, e.1 _, ?_, ?_⟩
    · show (K' c, V' c) = (K c, V c)
      rw [a, b]
    · intro k hk
      show E (P c k) (P' c k)
      rw [d k (c3 k hk)]; exact e.1 _
  · by_cases h2 : c = hi
    · subst h2
      by_cases h0 : K lo = 0
      · obtain ⟨a, b, d⟩ := j0 h0
        refine ⟨lo, ⟨hlo, lo', by rw [a]; exact hK⟩, e.2.1 _ _ hE, ?_, ?_⟩
        · show (K' lo, V' lo) = (K c, V c)
          rw [a, b]
        · intro k hk
          show E (P c k) (P' lo k)
          rw [d k (c3 k hk)]; exact e.1 _
      · obtain ⟨a, b, d⟩ := j1 h0
        obtain ⟨p1, p2⟩ := hp h0 hK
        refine ⟨lo, ⟨hlo, lo', by rw [a]; exact h0⟩, e.2.1 _ _ hE, ?_, ?_⟩
        · show (K' lo, V' lo) = (K c, V c)
          rw [a, b]; exact p1
        · intro k hk
          show E (P c k) (P' lo k)
          rw [d k (c3 k hk)]
          have q : K lo = K c := congrArg Prod.fst p1
          exact e.2.1 _ _ (p2 k (by rw [q]; exact hk))
    · obtain ⟨a, b, d⟩ := j2 c hU h1
      refine ⟨c, ⟨hU, by rw [jl c hU, hL, if_neg h2], by rw [a]; exact hK⟩, e.1 _, ?_, ?_⟩
      · show (K' c, V' c) = (K c, V c)
        rw [a, b]
      · intro k hk
        show E (P c k) (P' c k)
        rw [d k (c3 k hk)]; exact e.1 _
theorem ma_J_2 {U : Nat → Prop} {lo hi : Nat} {L L' : Nat → Nat} {K V K' V' : Nat → Int32} {P P' : Nat → Nat → Nat} {E : Nat → Nat → Prop} (j : ma_J U lo hi L L' K V K' V' P P') (hlo : U lo) (llo : L lo = lo) (hhi : U hi) (lhi : L hi = hi) (lt : lo < hi) (e : ma_Eqv E) (hE : E lo hi) : ma_Sub (ma_X U L' K' V' P') (ma_X U L K V P) E := by
  obtain ⟨jl, j0, j1, j2⟩ := j
  intro c hc
  obtain ⟨hU, hL, hK⟩ := hc
  have c3 : ∀ k, k < ma_ct (K' c) → k < 3 := fun k hk => Nat.lt_of_lt_of_le hk (ma_ct_le _)
  by_cases h1 : c = lo
  · subst h1
    by_cases h0 : K c = 0
    · obtain ⟨a, b, d⟩ := j0 h0
      refine ⟨hi, ⟨hhi, lhi, by rw [← a]; exact hK⟩, hE, ?_, ?_⟩
      · show (K hi, V hi) = (K' c, V' c)
        rw [a, b]
      · intro k hk
        show E (P' c k) (P hi k)
        rw [d k (c3 k hk)]; exact e.1 _
    · obtain ⟨a, b, d⟩ := j1 h0
      refine ⟨c, ⟨hU, llo, h0⟩, e.1 _, ?_, ?_⟩
      · show (K c, V c) = (K' c, V' c)
        rw [a, b]
      · intro k hk
        show E (P' c k) (P c k)
        rw [d k (c3 k hk)]; exact e.1 _
  · obtain ⟨a, b, d⟩ := j2 c hU h1
    have hl : L c = c := by
      have := jl c hU
      rw [hL] at this
      by_cases q : L c = hi
      · rw [if_pos q] at this; exact absurd this h1
      · rw [if_neg q] at this; exact this.symm
    refine ⟨c, ⟨hU, hl, by rw [← a]; exact hK⟩, e.1 _, ?_, ?_⟩
    · show (K c, V c) = (K' c, V' c)
      rw [a, b]
    · intro k hk
      show E (P' c k) (P c k)
      rw [d k (c3 k hk)]; exact e.1 _
theorem ma_J_W {U : Nat → Prop} {lo hi : Nat} {L L' : Nat → Nat} {K V K' V' : Nat → Int32} {P P' : Nat → Nat → Nat} (j : ma_J U lo hi L L' K V K' V' P P') (hlo : U lo) (llo : L lo = lo) (lt : lo < hi) (w : ma_W U L) : ma_W U L' := by
  obtain ⟨jl, _⟩ := j
  have lo' : L' lo = lo := by rw [jl lo hlo, llo, if_neg (by omega)]
  intro x hx
  obtain ⟨w1, w2, w3, w4⟩ := w x hx
  rw [jl x hx]
  by_cases q : L x = hi
  · rw [if_pos q]
    exact ⟨w1, hlo, lo', by omega⟩
  · rw [if_neg q]
    refine ⟨w1, w2, ?_, w4⟩
    rw [jl _ w2, w3, if_neg q]
theorem ma_J_F {U : Nat → Prop} {lo hi p q : Nat} {L L' : Nat → Nat} {K V K' V' : Nat → Int32} {P P' : Nat → Nat → Nat} {Q Q' : Nat → Nat → Prop} (w : ma_W U L) (up : U p) (uq : U q) (lpq : (L p = lo ∧ L q = hi) ∨ (L p = hi ∧ L q = lo)) (lt : lo < hi) (j : ma_J U lo hi L L' K V K' V' P P') (hq : Q p q)
    (hpq : K lo ≠ 0 → K hi ≠ 0 → (K lo, V lo) = (K hi, V hi))
    (hQ1 : ∀ x y, Q' x y → Q x y ∨ (K lo ≠ 0 ∧ K hi ≠ 0 ∧ ∃ k, k < ma_ct (K lo) ∧ ((x = P lo k ∧ y = P hi k) ∨ (x = P hi k ∧ y = P lo k))))
    (hQ2 : ∀ x y, Q x y → (x = p ∧ y = q) ∨ Q' x y)
    (hQ3 : K lo ≠ 0 → K hi ≠ 0 → ∀ k, k < ma_ct (K lo) → Q' (P lo k) (P hi k) ∨ Q' (P hi k) (P lo k)) :
    (∀ E, ma_F U L (ma_X U L K V P) Q E → ma_F U L' (ma_X U L' K' V' P') Q' E ∧ ma_Sub (ma_X U L K V P) (ma_X U L' K' V' P') E ∧ ma_Sub (ma_X U L' K' V' P') (ma_X U L K V P) E) ∧
    (∀ E, ma_F U L' (ma_X U L' K' V' P') Q' E → ma_F U L (ma_X U L K V P) Q E) := by
  have hh : U lo ∧ L lo = lo ∧ U hi ∧ L hi = hi := by
    have h1 := w p up
    have h2 := w q uq
    rcases lpq with ⟨a, b⟩ | ⟨a, b⟩
    · rw [a] at h1; rw [b] at h2
      exact ⟨h1.2.1, h1.2.2.1, h2.2.1, h2.2.2.1⟩
    · rw [a] at h1; rw [b] at h2
      exact ⟨h2.2.1, h2.2.2.1, h1.2.1, h1.2.2.1⟩
  obtain ⟨ulo, llo, uhi, lhi⟩ := hh
  have jl := j.1
  constructor
  · intro E hF
    obtain ⟨e, hb, hqs, pc⟩ := hF
    have hE : E lo hi := by
      have h0 := hqs p q hq
      have h1 := hb p up
      have h2 := hb q uq
      rcases lpq with ⟨a, b⟩ | ⟨a, b⟩
      · rw [a] at h1; rw [b] at h2
        exact e.2.2 _ _ _ (e.2.1 _ _ h1) (e.2.2 _ _ _ h0 h2)
      · rw [a] at h1; rw [b] at h2
        exact e.2.2 _ _ _ (e.2.1 _ _ h2) (e.2.2 _ _ _ (e.2.1 _ _ h0) h1)
    have hp : K lo ≠ 0 → K hi ≠ 0 → (K lo, V lo) = (K hi, V hi) ∧ ∀ k, k < ma_ct (K lo) → E (P lo k) (P hi k) :=
      fun z1 z2 => ⟨hpq z1 z2, fun k hk => pc lo hi ⟨ulo, llo, z1⟩ ⟨uhi, lhi, z2⟩ hE (hpq z1 z2) k hk⟩
    have s1 := ma_J_1 j ulo llo lt e hE hp
    have s2 := ma_J_2 j ulo llo uhi lhi lt e hE
    refine ⟨⟨e, ?_, ?_, ma_PC_sub e s2 pc⟩, s1, s2⟩
    · intro x hx
      rw [jl x hx]
      by_cases z : L x = hi
      · rw [if_pos z]
        have h1 := hb x hx
        rw [z] at h1
        exact e.2.2 _ _ _ h1 (e.2.1 _ _ hE)
      · rw [if_neg z]; exact hb x hx
    · intro x y hxy
      rcases hQ1 x y hxy with h | ⟨z1, z2, k, hk, h | h⟩
      · exact hqs x y h
      · rw [h.1, h.2]; exact (hp z1 z2).2 k hk
      · rw [h.1, h.2]; exact e.2.1 _ _ ((hp z1 z2).2 k hk)
  · intro E hF
    obtain ⟨e, hb, hqs, pc⟩ := hF
    have hE : E lo hi := by
      have h1 := hb hi uhi
      rw [jl hi uhi, lhi, if_pos rfl] at h1
      exact e.2.1 _ _ h1
    have hb' : ∀ x, U x → E x (L x) := by
      intro x hx
      have h1 := hb x hx
      rw [jl x hx] at h1
      by_cases z : L x = hi
      · rw [if_pos z] at h1
        rw [z]; exact e.2.2 _ _ _ h1 hE
      · rw [if_neg z] at h1; exact h1
    have hp : K lo ≠ 0 → K hi ≠ 0 → (K lo, V lo) = (K hi, V hi) ∧ ∀ k, k < ma_ct (K lo) → E (P lo k) (P hi k) := by
      intro z1 z2
      refine ⟨hpq z1 z2, fun k hk => ?_⟩
      rcases hQ3 z1 z2 k hk with h | h
      · exact hqs _ _ h
      · exact e.2.1 _ _ (hqs _ _ h)
    have s1 := ma_J_1 j ulo llo lt e hE hp
    refine ⟨e, hb', ?_, ma_PC_sub e s1 pc⟩
    intro x y hxy
    rcases hQ2 x y hxy with ⟨rfl, rfl⟩ | h
    · have h1 := hb' x up
      have h2 := hb' y uq
      rcases lpq with ⟨a, b⟩ | ⟨a, b⟩
      · rw [a] at h1; rw [b] at h2
        exact e.2.2 _ _ _ h1 (e.2.2 _ _ _ hE (e.2.1 _ _ h2))
      · rw [a] at h1; rw [b] at h2
        exact e.2.2 _ _ _ h1 (e.2.2 _ _ _ (e.2.1 _ _ hE) (e.2.1 _ _ h2))
    · exact hqs x y h
/-- the pairs that are still to be joined -/
def ma_Q (px py : Nat → Nat) (i m : Nat) (x y : Nat) : Prop := ∃ j, i ≤ j ∧ j < m ∧ x = px j ∧ y = py j
def ma_Vd (U : Nat → Prop) (L0 : Nat → Nat) (T0 : ma_T) (Q0 : Nat → Nat → Prop) (L : Nat → Nat) (K : Nat → Int32) (vd : Int32) : Prop :=
  (vd = 1 ∧ (∀ c, U c → L c = c → K c ≠ 0 → T0.1 c) ∧ ∀ c d, U c → U d → L0 c = c → L0 d = d → L c = L d → c = d ∨ (T0.1 c ∧ T0.1 d)) ∨
  (vd = 3 ∧ ∀ E, ma_F U L0 T0 Q0 E → ∃ a b, U a ∧ U b ∧ L0 a = a ∧ L0 b = b ∧ a ≠ b ∧ E a b ∧ ¬ T0.1 a)
/-- what holds in the work of joining -/
def ma_MI (U : Nat → Prop) (L0 : Nat → Nat) (T0 : ma_T) (Q0 : Nat → Nat → Prop) (L : Nat → Nat) (K V : Nat → Int32) (P : Nat → Nat → Nat) (px py : Nat → Nat) (i m : Nat) (vd : Int32) : Prop :=
  ma_W U L ∧
  (∀ j, j < m → U (px j) ∧ U (py j)) ∧
  (∀ c, U c → L c = c → K c ≠ 0 → ∀ k, k < ma_ct (K c) → U (P c k)) ∧
  (∀ E, ma_F U L0 T0 Q0 E → ma_F U L (ma_X U L K V P) (ma_Q px py i m) E ∧ ma_Sub T0 (ma_X U L K V P) E ∧ ma_Sub (ma_X U L K V P) T0 E) ∧
  (∀ E, ma_F U L (ma_X U L K V P) (ma_Q px py i m) E → ma_F U L0 T0 Q0 E) ∧
  (∀ c, U c → L c = c → L0 c = c) ∧
  (∀ c, U c → T0.1 c → K (L c) ≠ 0) ∧
  ma_Vd U L0 T0 Q0 L K vd
theorem ma_MI_0 {U : Nat → Prop} {L : Nat → Nat} {K V : Nat → Int32} {P : Nat → Nat → Nat} {px py : Nat → Nat} {m : Nat} (w : ma_W U L) (hp : ∀ j, j < m → U (px j) ∧ U (py j)) (hP : ∀ c, U c → L c = c → K c ≠ 0 → ∀ k, k < ma_ct (K c) → U (P c k)) : ma_MI U L (ma_X U L K V P) (ma_Q px py 0 m) L K V P px py 0 m 1 := by
  refine ⟨w, hp, hP, fun E h => ⟨h, ma_Sub_refl h.1, ma_Sub_refl h.1⟩, fun E h => h, fun c _ h => h, ?_, Or.inl ⟨rfl, fun c a b d => ⟨a, b, d⟩, ?_⟩⟩
  · intro c _ h
    obtain ⟨_, h1, h2⟩ := h
    rw [h1]; exact h2
  · intro c d _ _ h1 h2 h
    exact Or.inl (by omega)
theorem ma_MI_skip {U : Nat → Prop} {L0 L : Nat → Nat} {T0 : ma_T} {Q0 : Nat → Nat → Prop} {K V : Nat → Int32} {P : Nat → Nat → Nat} {px py : Nat → Nat} {i m : Nat} {vd : Int32} (h : ma_MI U L0 T0 Q0 L K V P px py i m vd) (hi : i < m) (he : L (px i) = L (py i)) : ma_MI U L0 T0 Q0 L K V P px py (i + 1) m vd := by
  obtain ⟨w, hp, hP, f1, f2, r1, r2, v⟩ := h
  have q1 : ∀ E, ma_F U L (ma_X U L K V P) (ma_Q px py i m) E → ma_F U L (ma_X U L K V P) (ma_Q px py (i + 1) m) E := by
    intro E hF
    refine ⟨hF.1, hF.2.1, ?_, hF.2.2.2⟩
    intro x y ⟨j, a, b, c⟩
    exact hF.2.2.1 x y ⟨j, by omega, b, c⟩
  have q2 : ∀ E, ma_F U L (ma_X U L K V P) (ma_Q px py (i + 1) m) E → ma_F U L (ma_X U L K V P) (ma_Q px py i m) E := by
    intro E hF
    refine ⟨hF.1, hF.2.1, ?_, hF.2.2.2⟩
    intro x y ⟨j, a, b, c, d⟩
    by_cases z : j = i
    · rw [c, d, z]
      have h1 := hF.2.1 _ (hp i hi).1
      have h2 := hF.2.1 _ (hp i hi).2
      rw [he] at h1
      exact hF.1.2.2 _ _ _ h1 (hF.1.2.1 _ _ h2)
    · exact hF.2.2.1 x y ⟨j, by omega, b, c, d⟩
  exact ⟨w, hp, hP, fun E hE => ⟨q1 E (f1 E hE).1, (f1 E hE).2⟩, fun E hE => f2 E (q2 E hE), r1, r2, v⟩
/-- one join: what stays of the invariant whatever the verdict -/
theorem ma_MI_join {U : Nat → Prop} {L0 L L' : Nat → Nat} {T0 : ma_T} {Q0 : Nat → Nat → Prop} {K V K' V' : Nat → Int32} {P P' : Nat → Nat → Nat} {px py px' py' : Nat → Nat} {i m m' lo hi : Nat} {vd vd' : Int32} (h : ma_MI U L0 T0 Q0 L K V P px py i m vd) (him : i < m) (lpq : (L (px i) = lo ∧ L (py i) = hi) ∨ (L (px i) = hi ∧ L (py i) = lo)) (lt : lo < hi) (j : ma_J U lo hi L L' K V K' V' P P')
    (hpq : K lo ≠ 0 → K hi ≠ 0 → (K lo, V lo) = (K hi, V hi))
    (hm : m ≤ m') (hold : ∀ j, j < m → px' j = px j ∧ py' j = py j)
    (hnew : ∀ j, m ≤ j → j < m' → K lo ≠ 0 ∧ K hi ≠ 0 ∧ ∃ k, k < ma_ct (K lo) ∧ ((px' j = P lo k ∧ py' j = P hi k) ∨ (px' j = P hi k ∧ py' j = P lo k)))
    (hall : K lo ≠ 0 → K hi ≠ 0 → ∀ k, k < ma_ct (K lo) → ∃ j, m ≤ j ∧ j < m' ∧ ((px' j = P lo k ∧ py' j = P hi k) ∨ (px' j = P hi k ∧ py' j = P lo k)))
    (hv : ma_Vd U L0 T0 Q0 L' K' vd') : ma_MI U L0 T0 Q0 L' K' V' P' px' py' (i + 1) m' vd' := by
  obtain ⟨w, hp, hP, f1, f2, r1, r2, _⟩ := h
  have hh : U lo ∧ L lo = lo ∧ U hi ∧ L hi = hi := by
    have h1 := w _ (hp i him).1
    have h2 := w _ (hp i him).2
    rcases lpq with ⟨a, b⟩ | ⟨a, b⟩
    · rw [a] at h1; rw [b] at h2
      exact ⟨h1.2.1, h1.2.2.1, h2.2.1, h2.2.2.1⟩
    · rw [a] at h1; rw [b] at h2
      exact ⟨h2.2.1, h2.2.2.1, h1.2.1, h1.2.2.1⟩
  obtain ⟨ulo, llo, uhi, lhi⟩ := hh
  obtain ⟨jl, j0, j1, j2⟩ := j
  have j : ma_J U lo hi L L' K V K' V' P P' := ⟨jl, j0, j1, j2⟩
  have upt : ∀ k, K lo ≠ 0 → k < ma_ct (K lo) → U (P lo k) := fun k z hk => hP lo ulo llo z k hk
  have g := ma_J_F (Q := ma_Q px py i m) (Q' := ma_Q px' py' (i + 1) m') w (hp i him).1 (hp i him).2 lpq lt j ⟨i, Nat.le_refl _, him, rfl, rfl⟩ hpq
    (by
      intro x y ⟨jj, a, b, c, d⟩
      by_cases z : jj < m
      · rw [(hold jj z).1] at c
        rw [(hold jj z).2] at d
        exact Or.inl ⟨jj, by omega, z, c, d⟩
      · obtain ⟨n1, n2, k, hk, n3⟩ := hnew jj (by omega) b
        rw [← c, ← d] at n3
        exact Or.inr ⟨n1, n2, k, hk, n3⟩)
    (by
      intro x y ⟨jj, a, b, c, d⟩
      by_cases z : jj = i
      · rw [z] at c d
        exact Or.inl ⟨c, d⟩
      · refine Or.inr ⟨jj, by omega, by omega, ?_, ?_⟩
        · rw [(hold jj b).1]; exact c
        · rw [(hold jj b).2]; exact d)
    (by
      intro z1 z2 k hk
      obtain ⟨jj, a, b, c | c⟩ := hall z1 z2 k hk
      · exact Or.inl ⟨jj, by omega, b, c.1.symm, c.2.symm⟩
      · exact Or.inr ⟨jj, by omega, b, c.1.symm, c.2.symm⟩)
  have rep : ∀ c, U c → L' c = c → L c = c := by
    intro c hc h1
    rw [jl c hc] at h1
    by_cases z : L c = hi
    · rw [if_pos z] at h1
      rw [← h1]; exact llo
    · rw [if_neg z] at h1; exact h1
  refine ⟨ma_J_W j ulo llo lt w, ?_, ?_, ?_, ?_, ?_, ?_, hv⟩
  · intro jj hjj
    by_cases z : jj < m
    · rw [(hold jj z).1, (hold jj z).2]; exact hp jj z
    · obtain ⟨n1, n2, k, hk, n3 | n3⟩ := hnew jj (by omega) hjj
      · rw [n3.1, n3.2]
        have q : K lo = K hi := congrArg Prod.fst (hpq n1 n2)
        exact ⟨hP lo ulo llo n1 k hk, hP hi uhi lhi n2 k (by rw [← q]; exact hk)⟩
      · rw [n3.1, n3.2]
        have q : K lo = K hi := congrArg Prod.fst (hpq n1 n2)
        exact ⟨hP hi uhi lhi n2 k (by rw [← q]; exact hk), hP lo ulo llo n1 k hk⟩
  · intro c hc hl hk k hkk
    have k3 : k < 3 := Nat.lt_of_lt_of_le hkk (ma_ct_le _)
    by_cases z : c = lo
    · subst z
      by_cases z0 : K c = 0
      · obtain ⟨a, b, d⟩ := j0 z0
        rw [d k k3]
        rw [a] at hk hkk
        exact hP hi uhi lhi hk k hkk
      · obtain ⟨a, b, d⟩ := j1 z0
        rw [d k k3]
        rw [a] at hk hkk
        exact hP c ulo llo hk k hkk
    · obtain ⟨a, b, d⟩ := j2 c hc z
      rw [d k k3]
      rw [a] at hk hkk
      exact hP c hc (rep c hc hl) hk k hkk
  · intro E hE
    obtain ⟨a, b, c⟩ := f1 E hE
    obtain ⟨a', b', c'⟩ := g.1 E a
    exact ⟨a', ma_Sub_trans hE.1 b b', ma_Sub_trans hE.1 c' c⟩
  · exact fun E hE => f2 E (g.2 E hE)
  · exact fun c hc hl => r1 c hc (rep c hc hl)
  · intro c hc h0
    have h1 := r2 c hc h0
    have wc := w c hc
    rw [jl c hc]
    by_cases z : L c = hi
    · rw [if_pos z]
      rw [z] at h1
      by_cases z0 : K lo = 0
      · rw [(j0 z0).1]; exact h1
      · rw [(j1 z0).1]; exact z0
    · rw [if_neg z]
      by_cases z2 : L c = lo
      · rw [z2] at h1 ⊢
        rw [(j1 h1).1]; exact h1
      · rw [(j2 _ wc.2.1 z2).1]; exact h1
theorem ma_MI_ab {U : Nat → Prop} {L0 L : Nat → Nat} {T0 : ma_T} {Q0 : Nat → Nat → Prop} {K V : Nat → Int32} {P : Nat → Nat → Nat} {px py : Nat → Nat} {i m : Nat} {vd : Int32} (h : ma_MI U L0 T0 Q0 L K V P px py i m vd) (him : i < m) : U (L (px i)) ∧ L (L (px i)) = L (px i) ∧ U (L (py i)) ∧ L (L (py i)) = L (py i) ∧ ∀ E, ma_F U L0 T0 Q0 E → E (L (px i)) (L (py i)) := by
  obtain ⟨w, hp, _, f1, _⟩ := h
  have h1 := w _ (hp i him).1
  have h2 := w _ (hp i him).2
  refine ⟨h1.2.1, h1.2.2.1, h2.2.1, h2.2.2.1, fun E hE => ?_⟩
  obtain ⟨⟨e, hb, hq, _⟩, _⟩ := f1 E hE
  exact e.2.2 _ _ _ (e.2.1 _ _ (hb _ (hp i him).1)) (e.2.2 _ _ _ (hq _ _ ⟨i, Nat.le_refl _, him, rfl, rfl⟩) (hb _ (hp i him).2))
theorem ma_Vd_free {U : Nat → Prop} {L0 L : Nat → Nat} {T0 : ma_T} {Q0 : Nat → Nat → Prop} {K V : Nat → Int32} {P : Nat → Nat → Nat} {px py : Nat → Nat} {i m : Nat} {vd : Int32} (L' : Nat → Nat) (K' : Nat → Int32) (h : ma_MI U L0 T0 Q0 L K V P px py i m vd) (him : i < m) (ne : L (px i) ≠ L (py i)) (hz : K (L (px i)) = 0 ∨ K (L (py i)) = 0) : ma_Vd U L0 T0 Q0 L' K' 3 := by
  obtain ⟨u1, l1, u2, l2, hE⟩ := ma_MI_ab h him
  obtain ⟨w, hp, hP, f1, f2, r1, r2, _⟩ := h
  refine Or.inr ⟨rfl, fun E hF => ?_⟩
  have no : ∀ c, U c → L c = c → K c = 0 → ¬ T0.1 c := by
    intro c hc hl hk ht
    have := r2 c hc ht
    rw [hl] at this
    exact this hk
  rcases hz with z | z
  · exact ⟨_, _, u1, u2, r1 _ u1 l1, r1 _ u2 l2, ne, hE E hF, no _ u1 l1 z⟩
  · exact ⟨_, _, u2, u1, r1 _ u2 l2, r1 _ u1 l1, fun q => ne q.symm, hF.1.2.1 _ _ (hE E hF), no _ u2 l2 z⟩
theorem ma_Vd_val {U : Nat → Prop} {L0 L L' : Nat → Nat} {T0 : ma_T} {Q0 : Nat → Nat → Prop} {K V K' V' : Nat → Int32} {P P' : Nat → Nat → Nat} {px py : Nat → Nat} {i m lo hi : Nat} {vd : Int32} (h : ma_MI U L0 T0 Q0 L K V P px py i m vd) (ulo : U lo) (llo : L lo = lo) (uhi : U hi) (lhi : L hi = hi) (klo : K lo ≠ 0) (khi : K hi ≠ 0) (j : ma_J U lo hi L L' K V K' V' P P') : ma_Vd U L0 T0 Q0 L' K' vd := by
  obtain ⟨w, hp, hP, f1, f2, r1, r2, v⟩ := h
  obtain ⟨jl, j0, j1, j2⟩ := j
  rcases v with ⟨v1, v2, v3⟩ | v
  · refine Or.inl ⟨v1, ?_, ?_⟩
    · intro c hc hl hk
      have hl' : L c = c := by
        rw [jl c hc] at hl
        by_cases z : L c = hi
        · rw [if_pos z] at hl
          rw [← hl]; exact llo
        · rw [if_neg z] at hl; exact hl
      by_cases z : c = lo
      · rw [z]; exact v2 lo ulo llo klo
      · rw [(j2 c hc z).1] at hk
        exact v2 c hc hl' hk
    · intro c d hc hd h1 h2 h3
      rw [jl c hc, jl d hd] at h3
      have tlo := v2 lo ulo llo klo
      have thi := v2 hi uhi lhi khi
      have inlo : ∀ c, U c → L0 c = c → L c = lo → T0.1 c := by
        intro c hc h1 h2
        rcases v3 c lo hc ulo h1 (r1 lo ulo llo) (by omega) with q | q
        · rw [q]; exact tlo
        · exact q.1
      have inhi : ∀ c, U c → L0 c = c → L c = hi → T0.1 c := by
        intro c hc h1 h2
        rcases v3 c hi hc uhi h1 (r1 hi uhi lhi) (by omega) with q | q
        · rw [q]; exact thi
        · exact q.1
      by_cases z1 : L c = hi
      · rw [if_pos z1] at h3
        by_cases z2 : L d = hi
        · exact v3 c d hc hd h1 h2 (by omega)
        · rw [if_neg z2] at h3
          exact Or.inr ⟨inhi c hc h1 z1, inlo d hd h2 h3.symm⟩
      · rw [if_neg z1] at h3
        by_cases z2 : L d = hi
        · rw [if_pos z2] at h3
          exact Or.inr ⟨inlo c hc h1 h3, inhi d hd h2 z2⟩
        · rw [if_neg z2] at h3
          exact v3 c d hc hd h1 h2 h3
  · exact Or.inr v
theorem ma_MI_no {U : Nat → Prop} {L0 L : Nat → Nat} {T0 : ma_T} {Q0 : Nat → Nat → Prop} {K V : Nat → Int32} {P : Nat → Nat → Nat} {px py : Nat → Nat} {i m : Nat} {vd : Int32} (h : ma_MI U L0 T0 Q0 L K V P px py i m vd) (him : i < m) (k1 : K (L (px i)) ≠ 0) (k2 : K (L (py i)) ≠ 0) (ne : (K (L (px i)), V (L (px i))) ≠ (K (L (py i)), V (L (py i)))) : ∀ E, ma_F U L0 T0 Q0 E → ma_Bad T0 E := by
  obtain ⟨u1, l1, u2, l2, hE⟩ := ma_MI_ab h him
  obtain ⟨w, hp, hP, f1, f2, r1, r2, v⟩ := h
  intro E hF
  obtain ⟨a, b, c⟩ := f1 E hF
  exact ma_Bad_sub hF.1 c ⟨_, _, ⟨u1, l1, k1⟩, ⟨u2, l2, k2⟩, hE E hF, ne⟩
theorem ma_MI_end {U : Nat → Prop} {L0 L : Nat → Nat} {T0 : ma_T} {Q0 : Nat → Nat → Prop} {K V : Nat → Int32} {P : Nat → Nat → Nat} {px py : Nat → Nat} {i m : Nat} {vd : Int32} (h : ma_MI U L0 T0 Q0 L K V P px py i m vd) (him : m ≤ i) : ma_F U L0 T0 Q0 (ma_K U L) ∧ ¬ ma_Bad T0 (ma_K U L) ∧ (∀ E, ma_F U L0 T0 Q0 E → ∀ x y, ma_K U L x y → E x y) ∧ ma_Sub T0 (ma_X U L K V P) (ma_K U L) ∧ ma_Sub (ma_X U L K V P) T0 (ma_K U L) := by
  obtain ⟨w, hp, hP, f1, f2, r1, r2, v⟩ := h
  obtain ⟨a, b⟩ := ma_X_fin (K := K) (V := V) (P := P) w
  have hF : ma_F U L0 T0 Q0 (ma_K U L) := by
    apply f2
    refine ⟨a.1, a.2.1, ?_, a.2.2.2⟩
    intro x y ⟨j, h1, h2, _⟩
    omega
  obtain ⟨_, s1, s2⟩ := f1 _ hF
  refine ⟨hF, fun q => b (ma_Bad_sub hF.1 s1 q), fun E hE x y hk => ?_, s1, s2⟩
  have := (f1 E hE).1
  exact ma_K_sub this.1 this.2.1 x y hk
/-- ALIKE, UNLIKE -/
def ma_1 (x y : Nat) : Nat → Nat → Prop := fun u v => u = x ∧ v = y
def ma_Ti (U : Nat → Prop) (L : Nat → Nat) (T : ma_T) (E : Nat → Nat → Prop) : Prop := ∀ c d, U c → U d → L c = c → L d = d → E c d → c = d ∨ (T.1 c ∧ T.1 d ∧ T.2.1 c = T.2.1 d)
def ma_al (U : Nat → Prop) (L : Nat → Nat) (T : ma_T) (x y : Nat) : Prop := ∃ E, ma_F U L T (ma_1 x y) E ∧ ma_Ti U L T E
def ma_un (U : Nat → Prop) (L : Nat → Nat) (T : ma_T) (x y : Nat) : Prop := ∀ E, ma_F U L T (ma_1 x y) E → ma_Bad T E
/-- what merging x and y ends with, by its verdict -/
theorem ma_vd_1 {U : Nat → Prop} {L0 L : Nat → Nat} {T0 : ma_T} {Q0 : Nat → Nat → Prop} {K V : Nat → Int32} {P : Nat → Nat → Nat} {px py : Nat → Nat} {i m : Nat} (h : ma_MI U L0 T0 Q0 L K V P px py i m 1) (him : m ≤ i) : ∃ E, ma_F U L0 T0 Q0 E ∧ ma_Ti U L0 T0 E := by
  obtain ⟨a, b, c, d, e⟩ := ma_MI_end h him
  obtain ⟨w, hp, hP, f1, f2, r1, r2, v⟩ := h
  refine ⟨_, a, ?_⟩
  rcases v with ⟨_, v2, v3⟩ | ⟨v1, _⟩
  · intro x y hx hy lx ly hk
    by_cases q : x = y
    · exact Or.inl q
    · rcases hk with hk | ⟨_, _, hk⟩
      · exact Or.inl hk
      · rcases v3 x y hx hy lx ly hk with z | ⟨z1, z2⟩
        · exact Or.inl z
        · refine Or.inr ⟨z1, z2, Classical.byContradiction fun ne => b ⟨x, y, z1, z2, Or.inr ⟨hx, hy, hk⟩, ne⟩⟩
  · exact absurd v1 (by decide)
theorem ma_vd_3 {U : Nat → Prop} {L0 L : Nat → Nat} {T0 : ma_T} {Q0 : Nat → Nat → Prop} {K V : Nat → Int32} {P : Nat → Nat → Nat} {px py : Nat → Nat} {i m : Nat} (h : ma_MI U L0 T0 Q0 L K V P px py i m 3) (him : m ≤ i) : (¬ ∃ E, ma_F U L0 T0 Q0 E ∧ ma_Ti U L0 T0 E) ∧ ¬ ∀ E, ma_F U L0 T0 Q0 E → ma_Bad T0 E := by
  obtain ⟨a, b, c, d, e⟩ := ma_MI_end h him
  obtain ⟨w, hp, hP, f1, f2, r1, r2, v⟩ := h
  refine ⟨?_, fun q => b (q _ a)⟩
  intro ⟨E, hF, hT⟩
  rcases v with ⟨v1, _⟩ | ⟨_, v2⟩
  · exact absurd v1 (by decide)
  · obtain ⟨x, y, ux, uy, lx, ly, ne, hE, nt⟩ := v2 E hF
    rcases hT x y ux uy lx ly hE with z | z
    · exact ne z
    · exact nt z.1
theorem ma_al_nun {U : Nat → Prop} {L : Nat → Nat} {T : ma_T} {Q : Nat → Nat → Prop} (hT : ∀ c, T.1 c → U c ∧ L c = c) (h : ∃ E, ma_F U L T Q E ∧ ma_Ti U L T E) : ¬ ∀ E, ma_F U L T Q E → ma_Bad T E := by
  obtain ⟨E, hF, hE⟩ := h
  intro q
  obtain ⟨c, d, hc, hd, e, ne⟩ := q E hF
  rcases hE c d (hT c hc).1 (hT d hd).1 (hT c hc).2 (hT d hd).2 e with z | z
  · exact ne (by rw [z])
  · exact ne z.2.2
/-- two least relations are one: the least members are one -/
theorem ma_ker {U : Nat → Prop} {L L' : Nat → Nat} (w : ma_W U L) (w' : ma_W U L') (h1 : ∀ x y, ma_K U L x y → ma_K U L' x y) (h2 : ∀ x y, ma_K U L' x y → ma_K U L x y) : ∀ x, U x → L x = L' x := by
  have key : ∀ (A B : Nat → Nat), ma_W U A → ma_W U B → (∀ x y, ma_K U A x y → ma_K U B x y) → ∀ x, U x → B x ≤ A x := by
    intro A B wa wb hab x hx
    obtain ⟨_, a2, a3, _⟩ := wa x hx
    have h := hab x (A x) (Or.inr ⟨hx, a2, a3.symm⟩)
    obtain ⟨_, _, _, b4⟩ := wb _ a2
    rcases h with h | ⟨_, _, h⟩
    · rw [← h]; exact (wb x hx).2.2.2
    · omega
  intro x hx
  exact Nat.le_antisymm (key L' L w' w h2 x hx) (key L L' w w' h1 x hx)
