/-- what join(lo, hi) leaves, cell by cell -/
def xj_J (a a' : Nat → Int32) (lo hi : Nat) : Prop :=
  (∀ x, x < 48 → a' x = if a x = nI hi then nI lo else a x) ∧
  (a (48 + lo) = 0 → a' (48 + lo) = a (48 + hi) ∧ a' (96 + lo) = a (96 + hi) ∧ a' (144 + lo) = a (144 + hi) ∧ ∀ k, k < 3 → a' (192 + 3 * lo + k) = a (192 + 3 * hi + k)) ∧
  (a (48 + lo) ≠ 0 → a' (48 + lo) = a (48 + lo) ∧ a' (96 + lo) = a (96 + lo) ∧ a' (144 + lo) = a (144 + lo) ∧ ∀ k, k < 3 → a' (192 + 3 * lo + k) = a (192 + 3 * lo + k)) ∧
  (∀ c, c < 48 → c ≠ lo → a' (48 + c) = a (48 + c) ∧ a' (96 + c) = a (96 + c) ∧ a' (144 + c) = a (144 + c) ∧ ∀ k, k < 3 → a' (192 + 3 * c + k) = a (192 + 3 * c + k)) ∧
  (∀ i, 336 ≤ i → a' i = a i)
theorem xj_H {a a' : Nat → Int32} {lo hi : Nat} (j : xj_J a a' lo hi) (h : xv_H a) (hlo : lo < 48) (hhi : hi < 48) : xv_H a' := by
  obtain ⟨j0, j1, j2, j3, j4⟩ := j
  obtain ⟨g1, g2, g3, g4, g5, g6⟩ := h
  have src : ∀ c, c < 48 → ∃ d, d < 48 ∧ a' (48 + c) = a (48 + d) ∧ a' (96 + c) = a (96 + d) ∧ a' (144 + c) = a (144 + d) ∧ ∀ k, k < 3 → a' (192 + 3 * c + k) = a (192 + 3 * d + k) := by
    intro c hc
    by_cases q : c = lo
    · by_cases z : a (48 + lo) = 0
      · rw [q]; exact ⟨hi, hhi, j1 z⟩
      · rw [q]; exact ⟨lo, hlo, j2 z⟩
    · exact ⟨c, hc, j3 c hc q⟩
  refine ⟨?_, ?_, ?_, ?_, ?_, ?_⟩
  · intro x hx
    rw [j0 x hx]
    by_cases q : a x = nI hi
    · rw [if_pos q]; exact ⟨lo, hlo, rfl⟩
    · rw [if_neg q]; exact g1 x hx
  · intro c hc
    obtain ⟨d, hd, e1, e2, e3, e4⟩ := src c hc
    rw [e1, e3]; exact g2 d hd
  · intro c k hc hk
    obtain ⟨d, hd, e1, e2, e3, e4⟩ := src c hc
    rw [e4 k hk]; exact g3 d k hd hk
  · intro x hx
    rw [j4 _ (by omega)]; exact g4 x hx
  · intro c hc
    obtain ⟨d, hd, e1, e2, e3, e4⟩ := src c hc
    rw [e1, e2]; exact g5 d hd
  · intro c hc
    obtain ⟨d, hd, e1, e2, e3, e4⟩ := src c hc
    rw [e1]; exact g6 d hd
theorem xj_L {a a' : Nat → Int32} {lo hi : Nat} (j : xj_J a a' lo hi) (h : xv_H a) (hlo : lo < 48) (hhi : hi < 48) : ∀ x, x < 48 → xv_L a' x = if xv_L a x = hi then lo else xv_L a x := by
  intro x hx
  obtain ⟨e, l⟩ := xv_HL h hx
  have h1 := j.1 x hx
  have h2 : xv_L a' x = (a' x).toNatClampNeg := by unfold xv_L; rw [if_pos hx]
  rw [h2, h1, e]
  by_cases q : xv_L a x = hi
  · rw [if_pos q, if_pos (by rw [q]), nI_clamp (by omega)]
  · rw [if_neg q, if_neg (fun z => q ((nI_eq (by omega) (by omega)).mp z)), nI_clamp (by omega)]
theorem xj_U {a a' : Nat → Int32} (j : ∀ i, 336 ≤ i → a' i = a i) : xv_U a' = xv_U a := by
  funext x
  unfold xv_U
  rw [j _ (by omega)]
theorem xj_ma {a a' : Nat → Int32} {lo hi : Nat} (j : xj_J a a' lo hi) (h : xv_H a) (hlo : lo < 48) (hhi : hi < 48) : ma_J (xv_U a) lo hi (xv_L a) (xv_L a') (xv_K a) (xv_V a) (xv_K a') (xv_V a') (xv_P a) (xv_P a') := by
  have hL := xj_L j h hlo hhi
  obtain ⟨j0, j1, j2, j3, j4⟩ := j
  have P : ∀ c k, c < 48 → k < 3 → ∀ b, xv_P b c k = (b (192 + 3 * c + k)).toNatClampNeg := by
    intro c k hc hk b
    unfold xv_P; rw [if_pos ⟨hc, hk⟩]
  refine ⟨fun x hx => hL x hx.1, ?_, ?_, ?_⟩
  · intro z
    rw [← xv_HK hlo] at z
    obtain ⟨e1, e2, _, e4⟩ := j1 z
    refine ⟨?_, ?_, fun k hk => ?_⟩
    · rw [← xv_HK hlo, ← xv_HK hhi, e1]
    · rw [← xv_HV hlo, ← xv_HV hhi, e2]
    · rw [P lo k hlo hk, P hi k hhi hk, e4 k hk]
  · intro z
    rw [← xv_HK hlo] at z
    obtain ⟨e1, e2, _, e4⟩ := j2 z
    refine ⟨?_, ?_, fun k hk => ?_⟩
    · rw [← xv_HK hlo, ← xv_HK hlo, e1]
    · rw [← xv_HV hlo, ← xv_HV hlo, e2]
    · rw [P lo k hlo hk, P lo k hlo hk, e4 k hk]
  · intro c hc q
    obtain ⟨e1, e2, _, e4⟩ := j3 c hc.1 q
    refine ⟨?_, ?_, fun k hk => ?_⟩
    · rw [← xv_HK hc.1, ← xv_HK hc.1, e1]
    · rw [← xv_HV hc.1, ← xv_HV hc.1, e2]
    · rw [P c k hc.1 hk, P c k hc.1 hk, e4 k hk]
/-- the work of merge, at its turn i -/
def xm_I (a0 : Nat → Int32) (Q0 : Nat → Nat → Prop) (a : Nat → Int32) (px py : Nat → Nat) (i m : Nat) (vd : Int32) : Prop :=
  xv_H a ∧ (∀ j, 336 ≤ j → a j = a0 j) ∧ ma_MI (xv_U a0) (xv_L a0) (xv_T a0) Q0 (xv_L a) (xv_K a) (xv_V a) (xv_P a) px py i m vd ∧ m + 3 * ma_cnt (fun v => decide (xv_L a v = v)) 48 ≤ 147
theorem xm_rep {a0 : Nat → Int32} {Q0 : Nat → Nat → Prop} {a : Nat → Int32} {px py : Nat → Nat} {i m : Nat} {vd : Int32} (h : xm_I a0 Q0 a px py i m vd) (him : i < m) (ne : xv_L a (px i) ≠ xv_L a (py i)) : m ≤ 141 ∧ xv_L a (px i) < 48 ∧ xv_L a (py i) < 48 ∧ px i < 48 ∧ py i < 48 := by
  obtain ⟨hH, hr, hm, hc⟩ := h
  obtain ⟨u1, l1, u2, l2, _⟩ := ma_MI_ab hm him
  have w := hm.1
  have hp := hm.2.1 i him
  refine ⟨?_, u1.1, u2.1, hp.1.1, hp.2.1⟩
  have key : 2 ≤ ma_cnt (fun v => decide (xv_L a v = v)) 48 := by
    have h1 : 1 ≤ ma_cnt (fun v => decide (v = xv_L a (px i))) 48 := ma_cnt_pos u1.1 (decide_eq_true rfl)
    have h2 : ma_cnt (fun v => decide (v = xv_L a (px i))) 48 < ma_cnt (fun v => decide (xv_L a v = v)) 48 := by
      refine ma_cnt_lt 48 ?_ ⟨xv_L a (py i), u2.1, decide_eq_true l2, ?_⟩
      · intro v _ hv
        have : v = xv_L a (px i) := of_decide_eq_true hv
        rw [this]; exact decide_eq_true l1
      · intro hv
        have : xv_L a (py i) = xv_L a (px i) := of_decide_eq_true hv
        exact ne this.symm
    omega
  omega
theorem xm_skip {a0 : Nat → Int32} {Q0 : Nat → Nat → Prop} {a : Nat → Int32} {px py : Nat → Nat} {i m : Nat} {vd : Int32} (h : xm_I a0 Q0 a px py i m vd) (him : i < m) (e : xv_L a (px i) = xv_L a (py i)) : xm_I a0 Q0 a px py (i + 1) m vd :=
  ⟨h.1, h.2.1, ma_MI_skip h.2.2.1 him e, h.2.2.2⟩
theorem xm_no {a0 : Nat → Int32} {Q0 : Nat → Nat → Prop} {a : Nat → Int32} {px py : Nat → Nat} {i m : Nat} {vd : Int32} (h : xm_I a0 Q0 a px py i m vd) (him : i < m) (k1 : xv_K a (xv_L a (px i)) ≠ 0) (k2 : xv_K a (xv_L a (py i)) ≠ 0) (ne : xv_K a (xv_L a (px i)) ≠ xv_K a (xv_L a (py i)) ∨ xv_V a (xv_L a (px i)) ≠ xv_V a (xv_L a (py i))) : ma_No (xv_U a0) (xv_L a0) (xv_T a0) Q0 := by
  refine ma_MI_no h.2.2.1 him k1 k2 (fun q => ?_)
  rcases ne with z | z
  · exact z (congrArg Prod.fst q)
  · exact z (congrArg Prod.snd q)
/-- lo and hi are the two least members -/
def xm_lh (x y lo hi : Nat) : Prop := lo < hi ∧ ((x = lo ∧ y = hi) ∨ (x = hi ∧ y = lo))
theorem xm_join {a0 : Nat → Int32} {Q0 : Nat → Nat → Prop} {a a' : Nat → Int32} {px py px' py' : Nat → Nat} {i m m' lo hi : Nat} {vd vd' : Int32} (h : xm_I a0 Q0 a px py i m vd) (him : i < m) (lh : xm_lh (xv_L a (px i)) (xv_L a (py i)) lo hi) (j : xj_J a a' lo hi)
    (hpq : xv_K a lo ≠ 0 → xv_K a hi ≠ 0 → (xv_K a lo, xv_V a lo) = (xv_K a hi, xv_V a hi))
    (hm : m ≤ m') (hm3 : m' ≤ m + 3) (hold : ∀ j, j < m → px' j = px j ∧ py' j = py j)
    (hnew : ∀ j, m ≤ j → j < m' → xv_K a lo ≠ 0 ∧ xv_K a hi ≠ 0 ∧ ∃ k, k < ma_ct (xv_K a lo) ∧ ((px' j = xv_P a lo k ∧ py' j = xv_P a hi k) ∨ (px' j = xv_P a hi k ∧ py' j = xv_P a lo k)))
    (hall : xv_K a lo ≠ 0 → xv_K a hi ≠ 0 → ∀ k, k < ma_ct (xv_K a lo) → ∃ j, m ≤ j ∧ j < m' ∧ ((px' j = xv_P a lo k ∧ py' j = xv_P a hi k) ∨ (px' j = xv_P a hi k ∧ py' j = xv_P a lo k)))
    (hv : ma_Vd (xv_U a0) (xv_L a0) (xv_T a0) Q0 (xv_L a') (xv_K a') vd') : xm_I a0 Q0 a' px' py' (i + 1) m' vd' := by
  obtain ⟨lt, lpq⟩ := lh
  have ne : xv_L a (px i) ≠ xv_L a (py i) := by omega
  obtain ⟨_, b1, b2, _, _⟩ := xm_rep h him ne
  obtain ⟨hH, hr, hI, hc⟩ := h
  have hlo : lo < 48 := by omega
  have hhi : hi < 48 := by omega
  have jm := xj_ma j hH hlo hhi
  have eU : xv_U a = xv_U a0 := xj_U hr
  rw [eU] at jm
  obtain ⟨u1, l1, u2, l2, _⟩ := ma_MI_ab hI him
  refine ⟨xj_H j hH hlo hhi, fun k hk => by rw [j.2.2.2.2 k hk]; exact hr k hk, ma_MI_join hI him lpq lt jm hpq hm hold hnew hall hv, ?_⟩
  have lr : xv_L a lo = lo ∧ xv_L a hi = hi := by
    rcases lpq with ⟨p, q⟩ | ⟨p, q⟩
    · rw [p] at l1; rw [q] at l2; exact ⟨l1, l2⟩
    · rw [p] at l1; rw [q] at l2; exact ⟨l2, l1⟩
  have := ma_cnt_join lt hhi lr.1 lr.2 (xj_L j hH hlo hhi)
  omega
theorem xm_free {a0 : Nat → Int32} {Q0 : Nat → Nat → Prop} {a a' : Nat → Int32} {px py : Nat → Nat} {i m lo hi : Nat} {vd : Int32} (h : xm_I a0 Q0 a px py i m vd) (him : i < m) (lh : xm_lh (xv_L a (px i)) (xv_L a (py i)) lo hi) (j : xj_J a a' lo hi) (hz : xv_K a (xv_L a (px i)) = 0 ∨ xv_K a (xv_L a (py i)) = 0) : xm_I a0 Q0 a' px py (i + 1) m 3 := by
  have z : xv_K a lo ≠ 0 → xv_K a hi ≠ 0 → False := by
    intro p q
    obtain ⟨_, ⟨e1, e2⟩ | ⟨e1, e2⟩⟩ := lh
    · rw [e1, e2] at hz
      rcases hz with r | r
      · exact p r
      · exact q r
    · rw [e1, e2] at hz
      rcases hz with r | r
      · exact q r
      · exact p r
  have ne : xv_L a (px i) ≠ xv_L a (py i) := by
    obtain ⟨_, _⟩ := lh
    omega
  exact xm_join h him lh j (fun p q => (z p q).elim) (Nat.le_refl _) (by omega) (fun _ _ => ⟨rfl, rfl⟩) (fun _ p q => by omega) (fun p q => (z p q).elim) (ma_Vd_free _ _ h.2.2.1 him ne hz)
theorem xm_val {a0 : Nat → Int32} {Q0 : Nat → Nat → Prop} {a a' : Nat → Int32} {px py px' py' : Nat → Nat} {i m lo hi : Nat} {vd : Int32} (h : xm_I a0 Q0 a px py i m vd) (him : i < m) (lh : xm_lh (xv_L a (px i)) (xv_L a (py i)) lo hi) (j : xj_J a a' lo hi) (k1 : xv_K a (xv_L a (px i)) ≠ 0) (k2 : xv_K a (xv_L a (py i)) ≠ 0) (e1 : xv_K a (xv_L a (px i)) = xv_K a (xv_L a (py i))) (e2 : xv_V a (xv_L a (px i)) = xv_V a (xv_L a (py i)))
    (hold : ∀ j, j < m → px' j = px j ∧ py' j = py j)
    (hnew : ∀ k, k < ma_ct (xv_K a (xv_L a (px i))) → px' (m + k) = xv_P a (xv_L a (px i)) k ∧ py' (m + k) = xv_P a (xv_L a (py i)) k) : xm_I a0 Q0 a' px' py' (i + 1) (m + ma_ct (xv_K a (xv_L a (px i)))) vd := by
  have ct3 := ma_ct_le (xv_K a (xv_L a (px i)))
  obtain ⟨u1, l1, u2, l2, _⟩ := ma_MI_ab h.2.2.1 him
  have ne : xv_L a (px i) ≠ xv_L a (py i) := by
    obtain ⟨_, _⟩ := lh
    omega
  obtain ⟨_, b1, b2, _, _⟩ := xm_rep h him ne
  have eU : xv_U a = xv_U a0 := xj_U h.2.1
  have lh0 := lh
  obtain ⟨lt, lpq⟩ := lh
  rcases lpq with ⟨p, q⟩ | ⟨p, q⟩
  · rw [p] at k1 e1 e2 hnew ct3 u1 l1 ⊢
    rw [q] at k2 e1 e2 hnew u2 l2
    have jm := xj_ma j h.1 u1.1 u2.1
    rw [eU] at jm
    refine xm_join h him lh0 j (fun _ _ => by rw [e1, e2]) (by omega) (by omega) hold ?_ ?_ (ma_Vd_val h.2.2.1 u1 l1 u2 l2 k1 k2 jm)
    · intro jj h1 h2
      refine ⟨k1, k2, jj - m, by omega, Or.inl ?_⟩
      have := hnew (jj - m) (by omega)
      rw [show m + (jj - m) = jj from by omega] at this
      exact this
    · intro _ _ k hk
      exact ⟨m + k, by omega, by omega, Or.inl (hnew k hk)⟩
  · rw [p] at k1 e1 e2 hnew ct3 u1 l1 ⊢
    rw [q] at k2 e1 e2 hnew u2 l2
    have jm := xj_ma j h.1 u2.1 u1.1
    rw [eU] at jm
    refine xm_join h him lh0 j (fun _ _ => by rw [e1, e2]) (by omega) (by omega) hold ?_ ?_ (ma_Vd_val h.2.2.1 u2 l2 u1 l1 k2 k1 jm)
    · intro jj h1 h2
      refine ⟨k2, k1, jj - m, by rw [← e1]; omega, Or.inr ?_⟩
      have := hnew (jj - m) (by omega)
      rw [show m + (jj - m) = jj from by omega] at this
      exact this
    · intro _ _ k hk
      exact ⟨m + k, by omega, by rw [← e1] at hk; omega, Or.inr (hnew k (by rw [e1]; exact hk))⟩
