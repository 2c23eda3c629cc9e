theorem ma_YJ {U : Nat → Prop} {I I' : Nat → Nat} {T : ma_T} {Q : Nat → Nat → Prop} {a b : Nat} (w : ma_W U I) (ua : U a) (ub : U b) (j : ∀ v, v < 48 → I' v = if I v = I a ∨ I v = I b then (if I a < I b then I a else I b) else I v) : ma_W U I' ∧ (∀ E, ma_F U I T Q E → E a b → ma_F U I' T Q E) ∧ (∀ E, ma_F U I' T Q E → ma_F U I T Q E ∧ E a b) ∧ (I a ≠ I b → ma_cnt (fun v => decide (I' v = v)) 48 < ma_cnt (fun v => decide (I v = v)) 48) ∧ (∀ u v, U u → U v → I u = I v → I' u = I' v) ∧ I' a = I' b := by
  obtain ⟨a1, a2, a3, a4⟩ := w a ua
  obtain ⟨b1, b2, b3, b4⟩ := w b ub
  generalize hlo : (if I a < I b then I a else I b) = lo at j
  have lo1 : (lo = I a ∨ lo = I b) ∧ lo ≤ I a ∧ lo ≤ I b := by
    rw [← hlo]
    by_cases z : I a < I b
    · rw [if_pos z]; exact ⟨Or.inl rfl, by omega, by omega⟩
    · rw [if_neg z]; exact ⟨Or.inr rfl, by omega, by omega⟩
  obtain ⟨lo2, lo3, lo4⟩ := lo1
  have ulo : U lo ∧ I lo = lo := by
    rcases lo2 with z | z
    · rw [z]; exact ⟨a2, a3⟩
    · rw [z]; exact ⟨b2, b3⟩
  have jp : ∀ v, U v → (I v = I a ∨ I v = I b) → I' v = lo := fun v hv z => by rw [j v (w v hv).1, if_pos z]
  have jn : ∀ v, U v → ¬ (I v = I a ∨ I v = I b) → I' v = I v := fun v hv z => by rw [j v (w v hv).1, if_neg z]
  have lolo : I' lo = lo := jp lo ulo.1 (by rw [ulo.2]; exact lo2)
  refine ⟨?_, ?_, ?_, ?_, ?_, ?_⟩
  · intro x hx
    obtain ⟨w1, w2, w3, w4⟩ := w x hx
    by_cases z : I x = I a ∨ I x = I b
    · rw [jp x hx z]
      exact ⟨w1, ulo.1, lolo, by rcases z with z | z <;> omega⟩
    · rw [jn x hx z]
      exact ⟨w1, w2, by rw [jn _ w2 (by rw [w3]; exact z), w3], w4⟩
  · intro E hF hab
    obtain ⟨e, hb, hq, pc⟩ := hF
    have eab : E (I a) (I b) := e.2.2 _ _ _ (e.2.1 _ _ (hb a ua)) (e.2.2 _ _ _ hab (hb b ub))
    have ela : E (I a) lo ∧ E (I b) lo := by
      rcases lo2 with z | z
      · rw [z]; exact ⟨e.1 _, e.2.1 _ _ eab⟩
      · rw [z]; exact ⟨eab, e.1 _⟩
    refine ⟨e, ?_, hq, pc⟩
    intro x hx
    by_cases z : I x = I a ∨ I x = I b
    · rw [jp x hx z]
      have h1 := hb x hx
      rcases z with z | z
      · rw [z] at h1; exact e.2.2 _ _ _ h1 ela.1
      · rw [z] at h1; exact e.2.2 _ _ _ h1 ela.2
    · rw [jn x hx z]; exact hb x hx
  · intro E hF
    obtain ⟨e, hb, hq, pc⟩ := hF
    refine ⟨⟨e, ?_, hq, pc⟩, ?_⟩
    · intro x hx
      obtain ⟨w1, w2, w3, w4⟩ := w x hx
      have h1 := hb x hx
      have h2 := hb _ w2
      have h3 : I' (I x) = I' x := by
        by_cases z : I x = I a ∨ I x = I b
        · rw [jp x hx z, jp _ w2 (by rw [w3]; exact z)]
        · rw [jn x hx z, jn _ w2 (by rw [w3]; exact z), w3]
      rw [h3] at h2
      exact e.2.2 _ _ _ h1 (e.2.1 _ _ h2)
    · have h1 := hb a ua
      have h2 := hb b ub
      rw [jp a ua (Or.inl rfl)] at h1
      rw [jp b ub (Or.inr rfl)] at h2
      exact e.2.2 _ _ _ h1 (e.2.1 _ _ h2)
  · intro ne
    have hhi : ∃ hi, U hi ∧ I hi = hi ∧ hi ≠ lo ∧ (hi = I a ∨ hi = I b) := by
      rcases lo2 with z | z
      · exact ⟨I b, b2, b3, by omega, Or.inr rfl⟩
      · exact ⟨I a, a2, a3, by omega, Or.inl rfl⟩
    obtain ⟨hi, uhi, ihi, nhi, whi⟩ := hhi
    refine ma_cnt_lt 48 ?_ ⟨hi, (w hi uhi).1, decide_eq_true ihi, ?_⟩
    · intro v hv h
      have h1 : I' v = v := of_decide_eq_true h
      refine decide_eq_true ?_
      rw [j v hv] at h1
      by_cases z : I v = I a ∨ I v = I b
      · rw [if_pos z] at h1
        rw [← h1]; exact ulo.2
      · rw [if_neg z] at h1; exact h1
    · intro h
      have h1 : I' hi = hi := of_decide_eq_true h
      rw [jp hi uhi (by rw [ihi]; exact whi)] at h1
      exact nhi h1.symm
  · intro u v hu hv huv
    by_cases z : I u = I a ∨ I u = I b
    · rw [jp u hu z, jp v hv (by rw [← huv]; exact z)]
    · rw [jn u hu z, jn v hv (by rw [← huv]; exact z), huv]
  · rw [jp a ua (Or.inl rfl), jp b ub (Or.inr rfl)]
theorem ma_cnt_join {L L' : Nat → Nat} {lo hi : Nat} (lt : lo < hi) (h48 : hi < 48) (llo : L lo = lo) (lhi : L hi = hi) (j : ∀ x, x < 48 → L' x = if L x = hi then lo else L x) : ma_cnt (fun v => decide (L' v = v)) 48 < ma_cnt (fun v => decide (L v = v)) 48 := by
  refine ma_cnt_lt 48 ?_ ⟨hi, h48, decide_eq_true lhi, ?_⟩
  · intro v hv h
    have h1 : L' v = v := of_decide_eq_true h
    refine decide_eq_true ?_
    rw [j v hv] at h1
    by_cases z : L v = hi
    · rw [if_pos z] at h1
      rw [← h1]; exact llo
    · rw [if_neg z] at h1; exact h1
  · intro h
    have h1 : L' hi = hi := of_decide_eq_true h
    rw [j hi h48, if_pos lhi] at h1
    omega
theorem ma_cnt_pos {p : Nat → Bool} {n i : Nat} (hi : i < n) (h : p i = true) : 1 ≤ ma_cnt p n := by
  have h1 : ma_cnt (fun _ => false) n < ma_cnt p n := ma_cnt_lt n (fun _ _ z => by exact absurd z (by decide)) ⟨i, hi, h, by decide⟩
  omega
/-- the outcome of a telling -/
def ma_Ok (U : Nat → Prop) (L : Nat → Nat) (T : ma_T) (Q : Nat → Nat → Prop) (L' : Nat → Nat) : Prop :=
  ma_W U L' ∧ ma_F U L T Q (ma_K U L') ∧ ¬ ma_Bad T (ma_K U L') ∧ ∀ E, ma_F U L T Q E → ∀ x y, ma_K U L' x y → E x y
def ma_No (U : Nat → Prop) (L : Nat → Nat) (T : ma_T) (Q : Nat → Nat → Prop) : Prop := ∀ E, ma_F U L T Q E → ma_Bad T E
theorem ma_Ok_no {U : Nat → Prop} {L L' : Nat → Nat} {T : ma_T} {Q : Nat → Nat → Prop} (h : ma_Ok U L T Q L') : ¬ ma_No U L T Q := fun q => h.2.2.1 (q _ h.2.1)
theorem ma_Ok_one {U : Nat → Prop} {L L1 L2 : Nat → Nat} {T : ma_T} {Q : Nat → Nat → Prop} (h : ma_Ok U L T Q L1) (g : ma_Ok U L T Q L2) : ∀ x, U x → L1 x = L2 x :=
  ma_ker h.1 g.1 (fun x y k => h.2.2.2 _ g.2.1 x y k) (fun x y k => g.2.2.2 _ h.2.1 x y k)
/-- the outcome is the same for two told systems with the same relations -/
theorem ma_Ok_tr {U : Nat → Prop} {L I L' : Nat → Nat} {T T' : ma_T} {Q Q' : Nat → Nat → Prop} (f : ∀ E, ma_F U L T Q E ↔ ma_F U I T' Q' E) (b : ∀ E, ma_F U L T Q E → (ma_Bad T E ↔ ma_Bad T' E)) (h : ma_Ok U L T Q L') : ma_Ok U I T' Q' L' :=
  ⟨h.1, (f _).mp h.2.1, fun q => h.2.2.1 ((b _ h.2.1).mpr q), fun E hE => h.2.2.2 E ((f E).mpr hE)⟩
theorem ma_No_tr {U : Nat → Prop} {L I : Nat → Nat} {T T' : ma_T} {Q Q' : Nat → Nat → Prop} (f : ∀ E, ma_F U L T Q E ↔ ma_F U I T' Q' E) (b : ∀ E, ma_F U L T Q E → (ma_Bad T E ↔ ma_Bad T' E)) (h : ma_No U L T Q) : ma_No U I T' Q' :=
  fun E hE => (b E ((f E).mpr hE)).mp (h E ((f E).mpr hE))
theorem ma_MI_Ok {U : Nat → Prop} {L0 L : Nat → Nat} {T0 : ma_T} {Q0 : Nat → Nat → Prop} {K V : Nat → Int32} {P : Nat → Nat → Nat} {px py : Nat → Nat} {i m : Nat} {vd : Int32} (h : ma_MI U L0 T0 Q0 L K V P px py i m vd) (him : m ≤ i) : ma_Ok U L0 T0 Q0 L := by
  obtain ⟨a, b, c, _⟩ := ma_MI_end h him
  exact ⟨h.1, a, b, c⟩
/-- the reference's closing: the least relation, once a pass finds nothing more -/
theorem ma_Y_fin {U : Nat → Prop} {I : Nat → Nat} {T : ma_T} (w : ma_W U I) (hT : ∀ c, T.1 c → U c ∧ ∀ k, k < ma_ct (T.2.1 c).1 → U (T.2.2 c k)) (h : ∀ u v, T.1 u → T.1 v → u < v → I u = I v → T.2.1 u = T.2.1 v ∧ ∀ k, k < ma_ct (T.2.1 u).1 → I (T.2.2 u k) = I (T.2.2 v k)) : ma_F U I T (fun _ _ => False) (ma_K U I) ∧ ¬ ma_Bad T (ma_K U I) := by
  have h' : ∀ u v, T.1 u → T.1 v → ma_K U I u v → T.2.1 u = T.2.1 v ∧ ∀ k, k < ma_ct (T.2.1 u).1 → I (T.2.2 u k) = I (T.2.2 v k) := by
    intro u v hu hv k
    rcases k with k | ⟨_, _, k⟩
    · rw [k]; exact ⟨rfl, fun _ _ => rfl⟩
    · rcases Nat.lt_trichotomy u v with z | z | z
      · exact h u v hu hv z k
      · rw [z]; exact ⟨rfl, fun _ _ => rfl⟩
      · obtain ⟨a, b⟩ := h v u hv hu z k.symm
        exact ⟨a.symm, fun k hk => (b k (by rw [a]; exact hk)).symm⟩
  refine ⟨⟨ma_K_eqv U I, fun x hx => Or.inr ⟨hx, (w x hx).2.1, ((w x hx).2.2.1).symm⟩, fun _ _ h => h.elim, ?_⟩, ?_⟩
  · intro c d hc hd hk hs k hkk
    exact Or.inr ⟨(hT c hc).2 k hkk, (hT d hd).2 k (by rw [← hs]; exact hkk), (h' c d hc hd hk).2 k hkk⟩
  · intro ⟨c, d, hc, hd, hk, hs⟩
    exact hs (h' c d hc hd hk).1
/-- who has a value in its class, and who holds it -/
def ma_Wh (U : Nat → Prop) (L : Nat → Nat) (T : ma_T) (h : Nat → Prop) (f : Nat → Nat) : Prop :=
  (∀ u, U u → ((∃ a, T.1 a ∧ L a = L u) → h u)) ∧ (∀ u, U u → h u → T.1 (f u) ∧ L (f u) = L u) ∧ (∀ u v, U u → U v → L u = L v → f u = f v)
def ma_bi (U : Nat → Prop) (L : Nat → Nat) (T : ma_T) (h : Nat → Prop) (f : Nat → Nat) (B : Nat → Nat → Prop) : Prop :=
  ∀ u v, U u → U v → B u v → L u = L v ∨ (h u ∧ h v ∧ T.2.1 (f u) = T.2.1 (f v) ∧ ∀ k, k < ma_ct (T.2.1 (f u)).1 → B (T.2.2 (f u) k) (T.2.2 (f v) k))
/-- the two stores hold the same -/
def ma_R (U : Nat → Prop) (L : Nat → Nat) (TX TY : ma_T) : Prop :=
  ma_W U L ∧ (∀ c, TX.1 c → U c ∧ L c = c) ∧ (∀ c, TX.1 c → ∀ k, k < ma_ct (TX.2.1 c).1 → U (TX.2.2 c k)) ∧ (∀ c, TY.1 c → U c ∧ ∀ k, k < ma_ct (TY.2.1 c).1 → U (TY.2.2 c k)) ∧ ma_Sub TX TY (ma_K U L) ∧ ma_Sub TY TX (ma_K U L)
theorem ma_K_L {U : Nat → Prop} {L : Nat → Nat} {x y : Nat} (h : ma_K U L x y) : L x = L y := by
  rcases h with h | h
  · rw [h]
  · exact h.2.2
theorem ma_R_x {U : Nat → Prop} {L : Nat → Nat} {TX TY : ma_T} (r : ma_R U L TX TY) {u : Nat} (hu : TY.1 u) : TX.1 (L u) ∧ TX.2.1 (L u) = TY.2.1 u ∧ ∀ k, k < ma_ct (TY.2.1 u).1 → L (TY.2.2 u k) = L (TX.2.2 (L u) k) := by
  obtain ⟨w, x1, x2, y1, s1, s2⟩ := r
  obtain ⟨d, d1, d2, d3, d4⟩ := s2 u hu
  have e : d = L u := by
    have h1 := ma_K_L d2
    have h2 := (x1 d d1).2
    omega
  rw [e] at d1 d3 d4
  exact ⟨d1, d3, fun k hk => ma_K_L (d4 k hk)⟩
theorem ma_R_y {U : Nat → Prop} {L : Nat → Nat} {TX TY : ma_T} (r : ma_R U L TX TY) {c : Nat} (hc : TX.1 c) : ∃ u, TY.1 u ∧ L u = c ∧ TY.2.1 u = TX.2.1 c ∧ ∀ k, k < ma_ct (TX.2.1 c).1 → L (TX.2.2 c k) = L (TY.2.2 u k) := by
  obtain ⟨w, x1, x2, y1, s1, s2⟩ := r
  obtain ⟨d, d1, d2, d3, d4⟩ := s1 c hc
  refine ⟨d, d1, ?_, d3, fun k hk => ma_K_L (d4 k hk)⟩
  have h1 := ma_K_L d2
  have h2 := (x1 c hc).2
  omega
/-- two with values in one class of the reference have one shape and the SAME parts -/
theorem ma_R_yy {U : Nat → Prop} {L : Nat → Nat} {TX TY : ma_T} (r : ma_R U L TX TY) {u v : Nat} (hu : TY.1 u) (hv : TY.1 v) (h : L u = L v) : TY.2.1 u = TY.2.1 v ∧ ∀ k, k < ma_ct (TY.2.1 u).1 → L (TY.2.2 u k) = L (TY.2.2 v k) := by
  obtain ⟨a1, a2, a3⟩ := ma_R_x r hu
  obtain ⟨b1, b2, b3⟩ := ma_R_x r hv
  rw [h] at a2 a3
  have e : TY.2.1 u = TY.2.1 v := by rw [← a2, b2]
  exact ⟨e, fun k hk => by rw [a3 k hk, b3 k (by rw [← e]; exact hk)]⟩
theorem ma_al_bi {U : Nat → Prop} {L : Nat → Nat} {TX TY : ma_T} {h : Nat → Prop} {f : Nat → Nat} {E : Nat → Nat → Prop} {Q : Nat → Nat → Prop} (r : ma_R U L TX TY) (wh : ma_Wh U L TY h f) (hF : ma_F U L TX Q E) (hT : ma_Ti U L TX E) : ma_bi U L TY h f E := by
  have w := r.1
  have hF' : ma_F U L TY Q E := ma_F_sub r.2.2.2.2.2 hF
  intro u v hu hv hE
  have wu := w u hu
  have wv := w v hv
  have e := hF.1
  have hcd : E (L u) (L v) := e.2.2 _ _ _ (e.2.1 _ _ (hF.2.1 u hu)) (e.2.2 _ _ _ hE (hF.2.1 v hv))
  rcases hT _ _ wu.2.1 wv.2.1 wu.2.2.1 wv.2.2.1 hcd with z | ⟨z1, z2, z3⟩
  · exact Or.inl z
  · obtain ⟨a, a1, a2, a3, _⟩ := ma_R_y r z1
    obtain ⟨b, b1, b2, b3, _⟩ := ma_R_y r z2
    have h1 := wh.1 u hu ⟨a, a1, a2⟩
    have h2 := wh.1 v hv ⟨b, b1, b2⟩
    obtain ⟨f1, f2⟩ := wh.2.1 u hu h1
    obtain ⟨g1, g2⟩ := wh.2.1 v hv h2
    obtain ⟨_, q2, _⟩ := ma_R_x r f1
    obtain ⟨_, p2, _⟩ := ma_R_x r g1
    have es : TY.2.1 (f u) = TY.2.1 (f v) := by rw [← q2, ← p2, f2, g2, z3]
    refine Or.inr ⟨h1, h2, es, fun k hk => ?_⟩
    refine hF'.2.2.2 (f u) (f v) f1 g1 ?_ es k hk
    have k1 := hF.2.1 _ (r.2.2.2.1 _ f1).1
    have k2 := hF.2.1 _ (r.2.2.2.1 _ g1).1
    rw [f2] at k1
    rw [g2] at k2
    exact e.2.2 _ _ _ k1 (e.2.2 _ _ _ hcd (e.2.1 _ _ k2))
theorem ma_bi_same {U : Nat → Prop} {L : Nat → Nat} {T : ma_T} {h : Nat → Prop} {f : Nat → Nat} {A : Nat → Nat → Prop} (mx : ∀ B, ma_bi U L T h f B → ∀ u v, U u → U v → B u v → A u v) : ∀ u v, U u → U v → L u = L v → A u v := by
  intro u v hu hv huv
  exact mx (fun u v => L u = L v) (fun u v _ _ q => Or.inl q) u v hu hv huv
theorem ma_bi_tr {U : Nat → Prop} {L : Nat → Nat} {TY : ma_T} {h : Nat → Prop} {f : Nat → Nat} {A : Nat → Nat → Prop} (yU : ∀ c, TY.1 c → U c ∧ ∀ k, k < ma_ct (TY.2.1 c).1 → U (TY.2.2 c k)) (wh : ma_Wh U L TY h f) (hA : ma_bi U L TY h f A) (mx : ∀ B, ma_bi U L TY h f B → ∀ u v, U u → U v → B u v → A u v) : ∀ u v z, U u → U v → U z → A u v → A v z → A u z := by
  have pU : ∀ u, U u → h u → ∀ k, k < ma_ct (TY.2.1 (f u)).1 → U (TY.2.2 (f u) k) := fun u hu hh => (yU _ (wh.2.1 u hu hh).1).2
  have same := ma_bi_same mx
  intro u v z hu hv hz h1 h2
  refine mx (fun u z => ∃ v, U v ∧ A u v ∧ A v z) ?_ u z hu hz ⟨v, hv, h1, h2⟩
  intro u z hu hz ⟨v, hv, h1, h2⟩
  rcases hA u v hu hv h1 with q | ⟨q1, q2, q3, q4⟩
  · rcases hA v z hv hz h2 with p | ⟨p1, p2, p3, p4⟩
    · exact Or.inl (q.trans p)
    · have e := wh.2.2 u v hu hv q
      have hu' : h u := wh.1 u hu ⟨f v, (wh.2.1 v hv p1).1, by rw [(wh.2.1 v hv p1).2, q]⟩
      rw [← e] at p3 p4
      refine Or.inr ⟨hu', p2, p3, fun k hk => ⟨_, pU u hu hu' k hk, ?_, p4 k hk⟩⟩
      exact same _ _ (pU u hu hu' k hk) (pU u hu hu' k hk) rfl
  · rcases hA v z hv hz h2 with p | ⟨p1, p2, p3, p4⟩
    · have e := wh.2.2 v z hv hz p
      have hz' : h z := wh.1 z hz ⟨f v, (wh.2.1 v hv q2).1, by rw [(wh.2.1 v hv q2).2, p]⟩
      rw [e] at q3 q4
      refine Or.inr ⟨q1, hz', q3, fun k hk => ⟨_, pU z hz hz' k (by rw [← q3]; exact hk), q4 k hk, ?_⟩⟩
      exact same _ _ (pU z hz hz' k (by rw [← q3]; exact hk)) (pU z hz hz' k (by rw [← q3]; exact hk)) rfl
    · exact Or.inr ⟨q1, p2, q3.trans p3, fun k hk => ⟨_, pU v hv q2 k (by rw [← q3]; exact hk), q4 k hk, p4 k (by rw [← q3]; exact hk)⟩⟩
theorem ma_al_Y {U : Nat → Prop} {L : Nat → Nat} {TX TY : ma_T} {h : Nat → Prop} {f : Nat → Nat} {A : Nat → Nat → Prop} (r : ma_R U L TX TY) (wh : ma_Wh U L TY h f) (hs : ∀ u v, U u → U v → A u v → A v u) (hA : ma_bi U L TY h f A) (mx : ∀ B, ma_bi U L TY h f B → ∀ u v, U u → U v → B u v → A u v) {x y : Nat} (hx : U x) (hy : U y) : A x y ↔ ma_al U L TX x y := by
  constructor
  · intro hxy
    have w := r.1
    have yU := r.2.2.2.1
    have fU : ∀ u, U u → h u → U (f u) := fun u hu hh => (yU _ (wh.2.1 u hu hh).1).1
    have pU : ∀ u, U u → h u → ∀ k, k < ma_ct (TY.2.1 (f u)).1 → U (TY.2.2 (f u) k) := fun u hu hh => (yU _ (wh.2.1 u hu hh).1).2
    have same : ∀ u v, U u → U v → L u = L v → A u v := ma_bi_same mx
    have tr : ∀ u v z, U u → U v → U z → A u v → A v z → A u z := ma_bi_tr yU wh hA mx
    have pcY : ma_PC TY (fun u v => u = v ∨ (U u ∧ U v ∧ A u v)) := by
      intro c d hc hd hE hs' k hk
      have pc := (yU c hc).2 k hk
      have pd := (yU d hd).2 k (by rw [← hs']; exact hk)
      rcases hE with q | ⟨q1, q2, q3⟩
      · rw [q]; exact Or.inl rfl
      · refine Or.inr ⟨pc, pd, ?_⟩
        rcases hA c d q1 q2 q3 with p | ⟨p1, p2, p3, p4⟩
        · exact same _ _ pc pd ((ma_R_yy r hc hd p).2 k hk)
        · obtain ⟨f1, f2⟩ := wh.2.1 c q1 p1
          obtain ⟨g1, g2⟩ := wh.2.1 d q2 p2
          obtain ⟨m1, m2⟩ := ma_R_yy r hc f1 f2.symm
          obtain ⟨n1, n2⟩ := ma_R_yy r hd g1 g2.symm
          have k1 : k < ma_ct (TY.2.1 (f c)).1 := by rw [← m1]; exact hk
          have k2 : k < ma_ct (TY.2.1 (f d)).1 := by rw [← p3]; exact k1
          have fc := pU c q1 p1 k k1
          have fd := pU d q2 p2 k k2
          exact tr _ _ _ pc fc pd (same _ _ pc fc (m2 k hk)) (tr _ _ _ fc fd pd (p4 k k1) (same _ _ fd pd (n2 k (by rw [← hs']; exact hk)).symm))
    have ev : ma_Eqv (fun u v => u = v ∨ (U u ∧ U v ∧ A u v)) := by
      refine ⟨fun _ => Or.inl rfl, ?_, ?_⟩
      · intro u v q
        rcases q with q | ⟨q1, q2, q3⟩
        · exact Or.inl q.symm
        · exact Or.inr ⟨q2, q1, hs u v q1 q2 q3⟩
      · intro u v z q p
        rcases q with q | ⟨q1, q2, q3⟩
        · rw [q]; exact p
        · rcases p with p | ⟨p1, p2, p3⟩
          · rw [← p]; exact Or.inr ⟨q1, q2, q3⟩
          · exact Or.inr ⟨q1, p2, tr u v z q1 q2 p2 q3 p3⟩
    have bs : ∀ x, U x → (fun u v => u = v ∨ (U u ∧ U v ∧ A u v)) x (L x) := by
      intro x hx
      exact Or.inr ⟨hx, (w x hx).2.1, same _ _ hx (w x hx).2.1 (w x hx).2.2.1.symm⟩
    refine ⟨fun u v => u = v ∨ (U u ∧ U v ∧ A u v), ⟨ev, bs, ?_, ?_⟩, ?_⟩
    · intro u v ⟨q1, q2⟩
      rw [q1, q2]; exact Or.inr ⟨hx, hy, hxy⟩
    · exact ma_PC_sub ev (ma_Sub_mono (ma_K_sub ev bs) r.2.2.2.2.1) pcY
    · intro c d hc hd lc ld hE
      rcases hE with q | ⟨q1, q2, q3⟩
      · exact Or.inl q
      · rcases hA c d q1 q2 q3 with p | ⟨p1, p2, p3, p4⟩
        · exact Or.inl (by omega)
        · obtain ⟨f1, f2⟩ := wh.2.1 c q1 p1
          obtain ⟨g1, g2⟩ := wh.2.1 d q2 p2
          obtain ⟨m1, m2, _⟩ := ma_R_x r f1
          obtain ⟨n1, n2, _⟩ := ma_R_x r g1
          rw [f2, lc] at m1 m2
          rw [g2, ld] at n1 n2
          exact Or.inr ⟨m1, n1, by rw [m2, n2, p3]⟩
  · intro ⟨E, hF, hT⟩
    exact mx E (ma_al_bi r wh hF hT) x y hx hy (hF.2.2.1 x y ⟨rfl, rfl⟩)
