/-- the last of the first n that is told to be something, of those with the least member w -/
def ys_wh (s : Nat → Int32) (w : Int32) : Nat → Int32
  | 0 => -1
  | n + 1 => if s n = w ∧ s (48 + n) ≠ 0 then nI n else ys_wh s w n
theorem ys_wh_c (s : Nat → Int32) (w : Int32) : ∀ n, (ys_wh s w n = -1 ∧ ∀ u, u < n → s u = w → s (48 + u) = 0) ∨ ∃ j, j < n ∧ ys_wh s w n = nI j ∧ s j = w ∧ s (48 + j) ≠ 0 := by
  intro n
  induction n with
  | zero => exact Or.inl ⟨rfl, fun u hu => by omega⟩
  | succ n ih =>
    show ((if s n = w ∧ s (48 + n) ≠ 0 then nI n else ys_wh s w n) = -1 ∧ _) ∨ ∃ j, j < n + 1 ∧ (if s n = w ∧ s (48 + n) ≠ 0 then nI n else ys_wh s w n) = nI j ∧ _
    by_cases q : s n = w ∧ s (48 + n) ≠ 0
    · rw [if_pos q]
      exact Or.inr ⟨n, by omega, rfl, q.1, q.2⟩
    · rw [if_neg q]
      rcases ih with ⟨h1, h2⟩ | ⟨j, h1, h2⟩
      · refine Or.inl ⟨h1, fun u hu e => ?_⟩
        by_cases z : u = n
        · apply Classical.byContradiction
          intro h0
          rw [z] at e h0
          exact q ⟨e, h0⟩
        · exact h2 u (by omega) e
      · exact Or.inr ⟨j, by omega, h2⟩
def ys_h (s : Nat → Int32) (n u : Nat) : Prop := ys_wh s (s u) n ≠ -1
def ys_f (s : Nat → Int32) (n u : Nat) : Nat := (ys_wh s (s u) n).toNatClampNeg
theorem ys_hf {s : Nat → Int32} {n u : Nat} (hn : n ≤ 48) (h : ys_h s n u) : ys_wh s (s u) n = nI (ys_f s n u) ∧ ys_f s n u < n ∧ s (ys_f s n u) = s u ∧ s (48 + ys_f s n u) ≠ 0 := by
  rcases ys_wh_c s (s u) n with ⟨q, _⟩ | ⟨j, h1, h2, h3, h4⟩
  · exact absurd q h
  · have e : ys_f s n u = j := by
      unfold ys_f
      rw [h2, nI_clamp (by omega)]
    rw [e]; exact ⟨h2, h1, h3, h4⟩
theorem re_Ls {B : Nat} {a s : Nat → Int32} (r : re_P B a s) {x : Nat} (hx : xv_U a x) : s x = nI (xv_L a x) ∧ xv_L a x < 48 := by
  obtain ⟨h1, h2, h3, h4, _⟩ := r
  have := xv_HL h1 hx.1
  rw [← h4 x hx]; exact this
theorem re_U {B : Nat} {a s : Nat → Int32} (r : re_P B a s) : yv_U s = xv_U a := by
  funext x
  apply propext
  unfold yv_U xv_U
  constructor
  · intro ⟨h, e⟩
    exact ⟨h, by rw [r.2.2.1 x h]; exact e⟩
  · intro ⟨h, e⟩
    exact ⟨h, by rw [← r.2.2.1 x h]; exact e⟩
theorem re_eqL {B : Nat} {a s : Nat → Int32} (r : re_P B a s) {x y : Nat} (hx : xv_U a x) (hy : xv_U a y) : s x = s y ↔ xv_L a x = xv_L a y := by
  obtain ⟨e1, l1⟩ := re_Ls r hx
  obtain ⟨e2, l2⟩ := re_Ls r hy
  rw [e1, e2, nI_eq (by omega) (by omega)]
/-- who an id that is told to be something belongs to is in USE -/
theorem re_told {B : Nat} {a s : Nat → Int32} (r : re_P B a s) {x : Nat} (hx : x < 48) (h : s (48 + x) ≠ 0) : xv_U a x := by
  rcases r.2.1.2.1 x hx with q | ⟨_, _, q⟩
  · exact ⟨hx, by rw [r.2.2.1 x hx]; exact q⟩
  · exact absurd q h
theorem re_wh {B : Nat} {a s : Nat → Int32} {n : Nat} (r : re_P B a s) (hn : n ≤ 48) (hU : ∀ x, xv_U a x → x < n) : ma_Wh (xv_U a) (xv_L a) (yv_T s) (ys_h s n) (ys_f s n) := by
  have eU := re_U r
  refine ⟨?_, ?_, ?_⟩
  · intro u hu ⟨b, hb, e⟩ q
    have ub : xv_U a b := by rw [← eU]; exact (yv_T1 hb).1
    rcases ys_wh_c s (s u) n with ⟨_, h2⟩ | ⟨j, h1, h2, h3, h4⟩
    · exact (yv_T1 hb).2 (h2 b (hU b ub) ((re_eqL r ub hu).mpr e))
    · rw [h2] at q
      exact (li_nn1 (by omega)).mp q
  · intro u hu h
    obtain ⟨h1, h2, h3, h4⟩ := ys_hf hn h
    have uf := re_told r (by omega) h4
    refine ⟨⟨by rw [eU]; exact uf, h4⟩, (re_eqL r uf hu).mp h3⟩
  · intro u v hu hv e
    have := (re_eqL r hu hv).mpr e
    unfold ys_f
    rw [this]
/-- the work of relate: bits that are symmetric and hold every relation that is asked for -/
def rl_I (U : Nat → Prop) (L : Nat → Nat) (T : ma_T) (h : Nat → Prop) (f : Nat → Nat) (al : Nat → Int64) : Prop :=
  (∀ u v, u < 48 → v < 48 → by_b (al u) v = by_b (al v) u) ∧ ∀ B, ma_bi U L T h f B → ∀ u v, U u → U v → B u v → by_b (al u) v = true
def rl_m (L : Nat → Nat) (T : ma_T) (h : Nat → Prop) (f : Nat → Nat) (al : Nat → Int64) (u v : Nat) : Prop :=
  L u = L v ∨ (h u ∧ h v ∧ T.2.1 (f u) = T.2.1 (f v) ∧ ∀ k, k < ma_ct (T.2.1 (f u)).1 → by_b (al (T.2.2 (f u) k)) (T.2.2 (f v) k) = true)
theorem rl_step {U : Nat → Prop} {L : Nat → Nat} {T : ma_T} {h : Nat → Prop} {f : Nat → Nat} {al al' : Nat → Int64} {u v : Nat} (hu : u < 48) (hv : v < 48) (uT : ∀ x, U x → x < 48) (wh : ma_Wh U L T h f) (hT : ∀ c, T.1 c → U c ∧ ∀ k, k < ma_ct (T.2.1 c).1 → U (T.2.2 c k)) (i : rl_I U L T h f al) (nm : U u → U v → ¬ rl_m L T h f al u v) (ha : ∀ x y, x < 48 → y < 48 → by_b (al' x) y = (by_b (al x) y && !(decide ((x = u ∧ y = v) ∨ (x = v ∧ y = u))))) : rl_I U L T h f al' := by
  obtain ⟨i1, i2⟩ := i
  have sub : ∀ B, ma_bi U L T h f B → ∀ x y, U x → U y → B x y → L x = L y ∨ (h x ∧ h y ∧ T.2.1 (f x) = T.2.1 (f y) ∧ ∀ k, k < ma_ct (T.2.1 (f x)).1 → by_b (al (T.2.2 (f x) k)) (T.2.2 (f y) k) = true) := by
    intro B hB x y hx hy hxy
    rcases hB x y hx hy hxy with z | ⟨z1, z2, z3, z4⟩
    · exact Or.inl z
    · refine Or.inr ⟨z1, z2, z3, fun k hk => ?_⟩
      have t1 := (wh.2.1 x hx z1).1
      have t2 := (wh.2.1 y hy z2).1
      exact i2 B hB _ _ ((hT _ t1).2 k hk) ((hT _ t2).2 k (by rw [← z3]; exact hk)) (z4 k hk)
  constructor
  · intro x y hx hy
    rw [ha x y hx hy, ha y x hy hx, i1 x y hx hy]
    congr 2
    apply decide_eq_decide.mpr
    constructor
    · intro q
      rcases q with ⟨a, b⟩ | ⟨a, b⟩
      · exact Or.inr ⟨b, a⟩
      · exact Or.inl ⟨b, a⟩
    · intro q
      rcases q with ⟨a, b⟩ | ⟨a, b⟩
      · exact Or.inr ⟨b, a⟩
      · exact Or.inl ⟨b, a⟩
  · intro B hB x y hx hy hxy
    rw [ha x y (uT x hx) (uT y hy), i2 B hB x y hx hy hxy, Bool.true_and]
    have : ¬ ((x = u ∧ y = v) ∨ (x = v ∧ y = u)) := by
      intro q
      have uu : U u ∧ U v := by
        rcases q with ⟨a, b⟩ | ⟨a, b⟩
        · rw [← a, ← b]; exact ⟨hx, hy⟩
        · rw [← a, ← b]; exact ⟨hy, hx⟩
      apply nm uu.1 uu.2
      rcases q with ⟨a, b⟩ | ⟨a, b⟩
      · have := sub B hB x y hx hy hxy
        rw [a, b] at this; exact this
      · rcases sub B hB x y hx hy hxy with z | ⟨z1, z2, z3, z4⟩
        · rw [a, b] at z; exact Or.inl z.symm
        · have t1 := hT _ (wh.2.1 x hx z1).1
          have t2 := hT _ (wh.2.1 y hy z2).1
          rw [a, b] at z3 z4
          rw [a] at z1 t1
          rw [b] at z2 t2
          refine Or.inr ⟨z2, z1, z3.symm, fun k hk => ?_⟩
          have hk' : k < ma_ct (T.2.1 (f v)).1 := by rw [z3]; exact hk
          have := z4 k hk'
          rw [i1 _ _ (uT _ (t1.2 k hk')) (uT _ (t2.2 k hk))] at this
          exact this
    rw [decide_eq_false this]
    rfl
theorem rl_cnt {al al' : Nat → Int64} {u v : Nat} (hu : u < 48) (hv : v < 48) (hb : by_b (al u) v = true) (ha : ∀ x y, x < 48 → y < 48 → by_b (al' x) y = (by_b (al x) y && !(decide ((x = u ∧ y = v) ∨ (x = v ∧ y = u))))) : ma_cnt (fun k => by_b (al' (k / 48)) (k % 48)) 2304 < ma_cnt (fun k => by_b (al (k / 48)) (k % 48)) 2304 := by
  refine ma_cnt_lt 2304 ?_ ⟨u * 48 + v, by omega, ?_, ?_⟩
  · intro i hi h
    rw [ha _ _ (by omega) (by omega)] at h
    exact (Bool.and_eq_true_iff.mp h).1
  · show by_b (al ((u * 48 + v) / 48)) ((u * 48 + v) % 48) = true
    rw [show (u * 48 + v) / 48 = u from by omega, show (u * 48 + v) % 48 = v from by omega]
    exact hb
  · show ¬ by_b (al' ((u * 48 + v) / 48)) ((u * 48 + v) % 48) = true
    rw [show (u * 48 + v) / 48 = u from by omega, show (u * 48 + v) % 48 = v from by omega, ha u v hu hv, decide_eq_true (Or.inl ⟨rfl, rfl⟩)]
    simp
theorem rl_fin {U : Nat → Prop} {L : Nat → Nat} {T : ma_T} {h : Nat → Prop} {f : Nat → Nat} {al : Nat → Int64} (uT : ∀ x, U x → x < 48) (wh : ma_Wh U L T h f) (hT : ∀ c, T.1 c → U c ∧ ∀ k, k < ma_ct (T.2.1 c).1 → U (T.2.2 c k)) (i : rl_I U L T h f al) (all : ∀ u v, U u → U v → u < v → by_b (al u) v = true → rl_m L T h f al u v) : ma_bi U L T h f (fun u v => by_b (al u) v = true) := by
  intro u v hu hv hb
  rcases Nat.lt_trichotomy u v with z | z | z
  · exact all u v hu hv z hb
  · exact Or.inl (by rw [z])
  · have hb' : by_b (al v) u = true := by rw [i.1 v u (uT v hv) (uT u hu)]; exact hb
    rcases all v u hv hu z hb' with q | ⟨q1, q2, q3, q4⟩
    · exact Or.inl q.symm
    · have t1 := hT _ (wh.2.1 v hv q1).1
      have t2 := hT _ (wh.2.1 u hu q2).1
      refine Or.inr ⟨q2, q1, q3.symm, fun k hk => ?_⟩
      have hk' : k < ma_ct (T.2.1 (f v)).1 := by rw [q3]; exact hk
      have := q4 k hk'
      show by_b (al (T.2.2 (f u) k)) (T.2.2 (f v) k) = true
      rw [i.1 _ _ (uT _ (t2.2 k hk)) (uT _ (t1.2 k hk'))]
      exact this
theorem rl_al {B : Nat} {a s : Nat → Int32} {n : Nat} {al : Nat → Int64} (r : re_P B a s) (hn : n ≤ 48) (hU : ∀ x, xv_U a x → x < n) (i : rl_I (xv_U a) (xv_L a) (yv_T s) (ys_h s n) (ys_f s n) al) (all : ∀ u v, xv_U a u → xv_U a v → u < v → by_b (al u) v = true → rl_m (xv_L a) (yv_T s) (ys_h s n) (ys_f s n) al u v) {x y : Nat} (hx : xv_U a x) (hy : xv_U a y) : by_b (al x) y = true ↔ ma_al (xv_U a) (xv_L a) (xv_T a) x y := by
  have wh := re_wh r hn hU
  have hT := r.2.2.2.2.1.2.2.2.1
  have uT : ∀ x, xv_U a x → x < 48 := fun x hx => hx.1
  exact ma_al_Y (A := fun u v => by_b (al u) v = true) r.2.2.2.2.1 wh (fun u v hu hv q => by
    show by_b (al v) u = true
    rw [i.1 v u (uT v hv) (uT u hu)]; exact q) (rl_fin uT wh hT i all) i.2 hx hy
