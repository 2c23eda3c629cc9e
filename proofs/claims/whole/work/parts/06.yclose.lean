/-- the reference's row of tried least members -/
def yv_I (s : Nat → Int32) (b x : Nat) : Nat := if x < 48 then (s (b + x)).toNatClampNeg else 0
/-- the work of close: the problem (L, Q), the row as it stands -/
def yc_I (L : Nat → Nat) (Q : Nat → Nat → Prop) (s0 s : Nat → Int32) : Prop :=
  (∀ i, i < 633 → s i = s0 i) ∧ (∀ v, v < 48 → ∃ c, c < 48 ∧ s (633 + v) = nI c) ∧ ma_W (yv_U s0) (yv_I s 633) ∧ (∀ v, v < 48 → ¬ yv_U s0 v → s (633 + v) = nI v) ∧
  (∀ E, ma_F (yv_U s0) L (yv_T s0) Q E ↔ ma_F (yv_U s0) (yv_I s 633) (yv_T s0) ma_0 E)
theorem yv_HI {s : Nat → Int32} {b v : Nat} (h : ∀ v, v < 48 → ∃ c, c < 48 ∧ s (b + v) = nI c) (hv : v < 48) : s (b + v) = nI (yv_I s b v) ∧ yv_I s b v < 48 := by
  obtain ⟨c, hc, e⟩ := h v hv
  have : yv_I s b v = c := by
    unfold yv_I
    rw [if_pos hv, e, nI_clamp (by omega)]
  rw [this]; exact ⟨e, hc⟩
/-- what join(b, x, y) leaves -/
def yj_J (s s' : Nat → Int32) (b x y : Nat) : Prop :=
  (∀ v, v < 48 → s' (b + v) = if s (b + v) = s (b + x) ∨ s (b + v) = s (b + y) then (if s (b + x) < s (b + y) then s (b + x) else s (b + y)) else s (b + v)) ∧ ∀ i, (i < b ∨ b + 48 ≤ i) → s' i = s i
theorem yj_I {s s' : Nat → Int32} {b x y : Nat} (j : yj_J s s' b x y) (h : ∀ v, v < 48 → ∃ c, c < 48 ∧ s (b + v) = nI c) (hx : x < 48) (hy : y < 48) : (∀ v, v < 48 → ∃ c, c < 48 ∧ s' (b + v) = nI c) ∧ ∀ v, v < 48 → yv_I s' b v = if yv_I s b v = yv_I s b x ∨ yv_I s b v = yv_I s b y then (if yv_I s b x < yv_I s b y then yv_I s b x else yv_I s b y) else yv_I s b v := by
  have key : ∀ v, v < 48 → s' (b + v) = nI (if yv_I s b v = yv_I s b x ∨ yv_I s b v = yv_I s b y then (if yv_I s b x < yv_I s b y then yv_I s b x else yv_I s b y) else yv_I s b v) := by
    intro v hv
    obtain ⟨ev, lv⟩ := yv_HI h hv
    obtain ⟨ex, lx⟩ := yv_HI h hx
    obtain ⟨ey, ly⟩ := yv_HI h hy
    rw [j.1 v hv, ev, ex, ey]
    have c1 : (nI (yv_I s b v) = nI (yv_I s b x) ∨ nI (yv_I s b v) = nI (yv_I s b y)) ↔ (yv_I s b v = yv_I s b x ∨ yv_I s b v = yv_I s b y) := by
      rw [nI_eq (by omega) (by omega), nI_eq (by omega) (by omega)]
    have c2 : nI (yv_I s b x) < nI (yv_I s b y) ↔ yv_I s b x < yv_I s b y := nI_ltI (by omega) (by omega)
    by_cases q : yv_I s b v = yv_I s b x ∨ yv_I s b v = yv_I s b y
    · rw [if_pos q, if_pos (c1.mpr q)]
      by_cases z : yv_I s b x < yv_I s b y
      · rw [if_pos z, if_pos (c2.mpr z)]
      · rw [if_neg z, if_neg (fun w => z (c2.mp w))]
    · rw [if_neg q, if_neg (fun w => q (c1.mp w))]
  have bd : ∀ v, v < 48 → (if yv_I s b v = yv_I s b x ∨ yv_I s b v = yv_I s b y then (if yv_I s b x < yv_I s b y then yv_I s b x else yv_I s b y) else yv_I s b v) < 48 := by
    intro v hv
    have := (yv_HI h hv).2
    have := (yv_HI h hx).2
    have := (yv_HI h hy).2
    split
    · split <;> omega
    · omega
  refine ⟨fun v hv => ⟨_, bd v hv, key v hv⟩, fun v hv => ?_⟩
  have h1 : yv_I s' b v = (s' (b + v)).toNatClampNeg := by unfold yv_I; rw [if_pos hv]
  have := bd v hv
  rw [h1, key v hv, nI_clamp (by omega)]
theorem yc_W {L : Nat → Nat} {Q : Nat → Nat → Prop} {s0 s : Nat → Int32} (h : yc_I L Q s0 s) : ∀ v, v < 48 → s (633 + v) = nI (yv_I s 633 v) ∧ yv_I s 633 v < 48 := fun _ hv => yv_HI h.2.1 hv
/-- one join more, of two that every relation asked for has -/
theorem yc_step {L : Nat → Nat} {Q : Nat → Nat → Prop} {s0 s s' : Nat → Int32} {x y : Nat} (h : yc_I L Q s0 s) (hx : yv_U s0 x) (hy : yv_U s0 y) (j : yj_J s s' 633 x y) (hE : ∀ E, ma_F (yv_U s0) (yv_I s 633) (yv_T s0) ma_0 E → E x y) : yc_I L Q s0 s' ∧ (yv_I s 633 x ≠ yv_I s 633 y → ma_cnt (fun v => decide (yv_I s' 633 v = v)) 48 < ma_cnt (fun v => decide (yv_I s 633 v = v)) 48) ∧ (∀ u v, yv_U s0 u → yv_U s0 v → yv_I s 633 u = yv_I s 633 v → yv_I s' 633 u = yv_I s' 633 v) ∧ yv_I s' 633 x = yv_I s' 633 y := by
  obtain ⟨h1, h2, h3, h5, h4⟩ := h
  obtain ⟨g1, g2⟩ := yj_I j h2 hx.1 hy.1
  obtain ⟨m1, m2, m3, m4, m5, m6⟩ := ma_YJ (T := yv_T s0) (Q := ma_0) h3 hx hy g2
  have un : ∀ v, v < 48 → ¬ yv_U s0 v → s' (633 + v) = nI v := by
    intro v hv nu
    have e := h5 v hv nu
    have f : ∀ z, yv_U s0 z → ¬ s (633 + v) = s (633 + z) := by
      intro z hz q
      obtain ⟨e1, e2⟩ := yv_HI h2 hz.1
      rw [e, e1] at q
      have q' := (nI_eq (by omega) (by omega)).mp q
      apply nu
      rw [q']; exact (h3 z hz).2.1
    rw [j.1 v hv, if_neg (fun q => q.elim (f x hx) (f y hy))]
    exact e
  refine ⟨⟨fun i hi => by rw [j.2 i (by omega)]; exact h1 i hi, g1, m1, un, fun E => ⟨fun q => ?_, fun q => ?_⟩⟩, m4, m5, m6⟩
  · have q1 := (h4 E).mp q
    exact m2 E q1 (hE E q1)
  · exact (h4 E).mpr (m3 E q).1
/-- the PARTS of two of one class and one shape -/
theorem yc_part {s0 : Nat → Int32} {I : Nat → Nat} {u v k : Nat} (hu : (yv_T s0).1 u) (hv : (yv_T s0).1 v) (e : I u = I v) (sh : (yv_T s0).2.1 u = (yv_T s0).2.1 v) (hk : k < ma_ct ((yv_T s0).2.1 u).1) : ∀ E, ma_F (yv_U s0) I (yv_T s0) ma_0 E → E ((yv_T s0).2.2 u k) ((yv_T s0).2.2 v k) := by
  intro E hF
  obtain ⟨ev, hb, _, pc⟩ := hF
  exact pc u v hu hv (ma_K_sub ev hb u v (Or.inr ⟨(yv_T1 hu).1, (yv_T1 hv).1, e⟩)) sh k hk
theorem yc_no {L : Nat → Nat} {Q : Nat → Nat → Prop} {s0 s : Nat → Int32} {u v : Nat} (h : yc_I L Q s0 s) (hu : (yv_T s0).1 u) (hv : (yv_T s0).1 v) (e : yv_I s 633 u = yv_I s 633 v) (sh : (yv_T s0).2.1 u ≠ (yv_T s0).2.1 v) : ma_No (yv_U s0) L (yv_T s0) Q := by
  intro E hF
  obtain ⟨ev, hb, _, pc⟩ := (h.2.2.2.2 E).mp hF
  exact ⟨u, v, hu, hv, ma_K_sub ev hb u v (Or.inr ⟨(yv_T1 hu).1, (yv_T1 hv).1, e⟩), sh⟩
theorem yc_ok {L : Nat → Nat} {Q : Nat → Nat → Prop} {s0 s : Nat → Int32} (h : yc_I L Q s0 s) (hT : ∀ c, (yv_T s0).1 c → yv_U s0 c ∧ ∀ k, k < ma_ct ((yv_T s0).2.1 c).1 → yv_U s0 ((yv_T s0).2.2 c k)) (hp : ∀ u v, (yv_T s0).1 u → (yv_T s0).1 v → u < v → yv_I s 633 u = yv_I s 633 v → (yv_T s0).2.1 u = (yv_T s0).2.1 v ∧ ∀ k, k < ma_ct ((yv_T s0).2.1 u).1 → yv_I s 633 ((yv_T s0).2.2 u k) = yv_I s 633 ((yv_T s0).2.2 v k)) : ma_Ok (yv_U s0) L (yv_T s0) Q (yv_I s 633) := by
  obtain ⟨h1, h2, h3, _, h4⟩ := h
  obtain ⟨f1, f2⟩ := ma_Y_fin h3 hT hp
  refine ⟨h3, (h4 _).mpr f1, f2, fun E hE x y k => ?_⟩
  have := (h4 E).mp hE
  exact ma_K_sub this.1 this.2.1 x y k
