/-- the component's row is good -/
def xv_G (a : Nat → Int32) : Prop :=
  xv_H a ∧ ma_W (xv_U a) (xv_L a) ∧ ∀ c, (xv_T a).1 c → ∀ k, k < ma_ct ((xv_T a).2.1 c).1 → xv_U a ((xv_T a).2.2 c k)
theorem re_G {B : Nat} {a s : Nat → Int32} (r : re_P B a s) : xv_G a := ⟨r.1, r.2.2.2.2.1.1, r.2.2.2.2.1.2.2.1⟩
theorem xv_congrG {a a' : Nat → Int32} (h : ∀ i, i < 384 → a' i = a i) (g : xv_G a) : xv_G a' := by
  obtain ⟨g1, g2, g3⟩ := g
  refine ⟨xv_congrH h g1, ?_, ?_⟩
  · rw [(xv_congr h).1, (xv_congr h).2.1]; exact g2
  · rw [(xv_congr h).1, xv_congrT h]; exact g3
theorem xv_Tv (a : Nat → Int32) : ∀ c, (xv_T a).1 c → xv_U a c ∧ xv_L a c = c := fun _ h => ⟨(xv_T1 h).1, (xv_T1 h).2.1⟩
theorem ma_Q1 (px py : Nat → Nat) : ma_Q px py 0 1 = ma_1 (px 0) (py 0) := by
  funext u v
  apply propext
  constructor
  · intro ⟨j, _, h2, h3, h4⟩
    have : j = 0 := by omega
    rw [this] at h3 h4
    exact ⟨h3, h4⟩
  · intro ⟨h1, h2⟩
    exact ⟨0, by omega, by omega, h1, h2⟩
theorem ma_Q2 (px py : Nat → Nat) (m : Nat) : ma_Q px py 0 m = ma_2 m px py := by
  funext u v
  apply propext
  constructor
  · intro ⟨j, _, h2, h3, h4⟩
    exact ⟨j, h2, h3, h4⟩
  · intro ⟨j, h2, h3, h4⟩
    exact ⟨j, by omega, h2, h3, h4⟩
theorem xm_0 {a : Nat → Int32} {px py : Nat → Nat} {m : Nat} (g : xv_G a) (hm : m ≤ 3) (hp : ∀ j, j < m → xv_U a (px j) ∧ xv_U a (py j)) : xm_I a (ma_Q px py 0 m) a px py 0 m 1 := by
  obtain ⟨g1, g2, g3⟩ := g
  refine ⟨g1, fun _ _ => rfl, ma_MI_0 g2 hp (fun c u l k0 k hk => g3 c ⟨u, l, k0⟩ k hk), ?_⟩
  have := ma_cnt_le (fun v => decide (xv_L a v = v)) 48
  omega
theorem lk_1 {a a' : Nat → Int32} {px py : Nat → Nat} {i m x y : Nat} (h : xm_I a (ma_1 x y) a' px py i m 1) (him : m ≤ i) : ma_vd (xv_U a) (xv_L a) (xv_T a) x y = 1 :=
  ma_vd_is1 (ma_vd_1 h.2.2.1 him)
theorem lk_3 {a a' : Nat → Int32} {px py : Nat → Nat} {i m x y : Nat} (h : xm_I a (ma_1 x y) a' px py i m 3) (him : m ≤ i) : ma_vd (xv_U a) (xv_L a) (xv_T a) x y = 3 :=
  ma_vd_is3 (ma_vd_3 h.2.2.1 him).1 (ma_vd_3 h.2.2.1 him).2
theorem lk_2 {a : Nat → Int32} {x y : Nat} (h : ma_No (xv_U a) (xv_L a) (xv_T a) (ma_1 x y)) : ma_vd (xv_U a) (xv_L a) (xv_T a) x y = 2 :=
  ma_vd_is2 (fun q => ma_al_nun (xv_Tv a) q h) h
/-- the verdict that stands in the work is 1 or 3 -/
theorem xm_vd {a0 : Nat → Int32} {Q0 : Nat → Nat → Prop} {a : Nat → Int32} {px py : Nat → Nat} {i m : Nat} {vd : Int32} (h : xm_I a0 Q0 a px py i m vd) : vd = 1 ∨ vd = 3 := by
  rcases h.2.2.1.2.2.2.2.2.2.2 with q | q
  · exact Or.inl q.1
  · exact Or.inr q.1
