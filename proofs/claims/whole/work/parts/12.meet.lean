/-- ALIKE turns round and joins on -/
theorem ma_al_sym {U : Nat → Prop} {L : Nat → Nat} {T : ma_T} {x y : Nat} (h : ma_al U L T x y) : ma_al U L T y x := by
  obtain ⟨E, ⟨e, hb, hq, pc⟩, ht⟩ := h
  refine ⟨E, ⟨e, hb, ?_, pc⟩, ht⟩
  intro u v ⟨p, q⟩
  rw [p, q]; exact e.2.1 _ _ (hq x y ⟨rfl, rfl⟩)
theorem ma_al_L {U : Nat → Prop} {L : Nat → Nat} {T : ma_T} {x y x' y' : Nat} (hx : U x) (hy : U y) (hx' : U x') (hy' : U y') (ex : L x = L x') (ey : L y = L y') (h : ma_al U L T x y) : ma_al U L T x' y' := by
  obtain ⟨E, ⟨e, hb, hq, pc⟩, ht⟩ := h
  refine ⟨E, ⟨e, hb, ?_, pc⟩, ht⟩
  intro u v ⟨p, q⟩
  rw [p, q]
  have k := ma_K_sub e hb
  exact e.2.2 _ _ _ (k _ _ (Or.inr ⟨hx', hx, ex.symm⟩)) (e.2.2 _ _ _ (hq x y ⟨rfl, rfl⟩) (k _ _ (Or.inr ⟨hy, hy', ey⟩)))
theorem ma_al_rf {U : Nat → Prop} {L : Nat → Nat} {K V : Nat → Int32} {P : Nat → Nat → Nat} {x y : Nat} (w : ma_W U L) (hx : U x) (hy : U y) (e : L x = L y) : ma_al U L (ma_X U L K V P) x y := by
  obtain ⟨⟨a, b, _, d⟩, _⟩ := ma_X_fin (K := K) (V := V) (P := P) w
  refine ⟨ma_K U L, ⟨a, b, ?_, d⟩, ?_⟩
  · intro u v ⟨p, q⟩
    rw [p, q]; exact Or.inr ⟨hx, hy, e⟩
  · intro c d _ _ lc ld h
    have := ma_K_L h
    exact Or.inl (by omega)
theorem ma_al_tr {U : Nat → Prop} {L : Nat → Nat} {TX TY : ma_T} {x y z : Nat} (r : ma_R U L TX TY) (hx : U x) (hy : U y) (hz : U z) (h1 : ma_al U L TX x y) (h2 : ma_al U L TX y z) : ma_al U L TX x z := by
  obtain ⟨w, x1, x2, _, _, _⟩ := r
  have r' : ma_R U L TX TX := ⟨w, x1, x2, fun c hc => ⟨(x1 c hc).1, x2 c hc⟩, ma_Sub_refl (ma_K_eqv _ _), ma_Sub_refl (ma_K_eqv _ _)⟩
  have wh : ma_Wh U L TX (fun u => TX.1 (L u)) (fun u => L u) := by
    refine ⟨?_, ?_, fun u v _ _ e => e⟩
    · intro u hu ⟨b, hb, e⟩
      rw [← e, (x1 b hb).2]; exact hb
    · intro u hu h
      exact ⟨h, (w u hu).2.2.1⟩
  have hA : ma_bi U L TX (fun u => TX.1 (L u)) (fun u => L u) (fun u v => ∃ B, ma_bi U L TX (fun u => TX.1 (L u)) (fun u => L u) B ∧ B u v) := by
    intro u v hu hv ⟨B, hB, hb⟩
    rcases hB u v hu hv hb with q | ⟨q1, q2, q3, q4⟩
    · exact Or.inl q
    · exact Or.inr ⟨q1, q2, q3, fun k hk => ⟨B, hB, q4 k hk⟩⟩
  have mx : ∀ B, ma_bi U L TX (fun u => TX.1 (L u)) (fun u => L u) B → ∀ u v, U u → U v → B u v → ∃ B, ma_bi U L TX (fun u => TX.1 (L u)) (fun u => L u) B ∧ B u v := fun B hB u v _ _ q => ⟨B, hB, q⟩
  have hs : ∀ u v, U u → U v → (∃ B, ma_bi U L TX (fun u => TX.1 (L u)) (fun u => L u) B ∧ B u v) → ∃ B, ma_bi U L TX (fun u => TX.1 (L u)) (fun u => L u) B ∧ B v u := by
    intro u v _ _ ⟨B, hB, hb⟩
    refine ⟨fun p q => B q p, ?_, hb⟩
    intro p q hp hq hh
    rcases hB q p hq hp hh with z | ⟨z1, z2, z3, z4⟩
    · exact Or.inl z.symm
    · exact Or.inr ⟨z2, z1, z3.symm, fun k hk => z4 k (by rw [z3]; exact hk)⟩
  have iff : ∀ {p q : Nat}, U p → U q → ((∃ B, ma_bi U L TX (fun u => TX.1 (L u)) (fun u => L u) B ∧ B p q) ↔ ma_al U L TX p q) := fun hp hq => ma_al_Y (A := fun u v => ∃ B, ma_bi U L TX (fun u => TX.1 (L u)) (fun u => L u) B ∧ B u v) r' wh hs hA mx hp hq
  exact (iff hx hz).mp (ma_bi_tr (A := fun u v => ∃ B, ma_bi U L TX (fun u => TX.1 (L u)) (fun u => L u) B ∧ B u v) r'.2.2.2.1 wh hA mx x y z hx hy hz ((iff hx hy).mpr h1) ((iff hy hz).mpr h2))
/-- MEETINGS, of least members -/
def mt_M (L : Nat → Nat) (T : ma_T) (x y u v : Nat) : Prop :=
  ∀ M : Nat → Nat → Prop, M (L x) (L y) → (∀ u v, M u v → T.1 u → T.1 v → T.2.1 u = T.2.1 v → ∀ k, k < ma_ct (T.2.1 u).1 → M (L (T.2.2 u k)) (L (T.2.2 v k))) → M u v
theorem mt_0 {L : Nat → Nat} {T : ma_T} {x y : Nat} : mt_M L T x y (L x) (L y) := fun _ h _ => h
theorem mt_s {L : Nat → Nat} {T : ma_T} {x y u v k : Nat} (h : mt_M L T x y u v) (hu : T.1 u) (hv : T.1 v) (e : T.2.1 u = T.2.1 v) (hk : k < ma_ct (T.2.1 u).1) : mt_M L T x y (L (T.2.2 u k)) (L (T.2.2 v k)) := fun M h1 h2 => h2 u v (h M h1 h2) hu hv e k hk
/-- matches answers YES -/
def mt_G (U : Nat → Prop) (L : Nat → Nat) (T : ma_T) (x y : Nat) : Prop :=
  (∀ u v, mt_M L T x y u v → T.1 u → T.1 v ∧ T.2.1 u = T.2.1 v) ∧ (∀ u v w, mt_M L T x y u v → mt_M L T x y u w → ¬ T.1 u → ma_al U L T v w)
theorem mt_U {U : Nat → Prop} {L : Nat → Nat} {T : ma_T} {x y u v : Nat} (w : ma_W U L) (x2 : ∀ c, T.1 c → ∀ k, k < ma_ct (T.2.1 c).1 → U (T.2.2 c k)) (hx : U x) (hy : U y) (h : mt_M L T x y u v) : U u ∧ U v ∧ L u = u ∧ L v = v := by
  refine h (fun u v => U u ∧ U v ∧ L u = u ∧ L v = v) ⟨(w x hx).2.1, (w y hy).2.1, (w x hx).2.2.1, (w y hy).2.2.1⟩ ?_
  intro u v _ hu hv e k hk
  have p := w _ (x2 u hu k hk)
  have q := w _ (x2 v hv k (by rw [← e]; exact hk))
  exact ⟨p.2.1, q.2.1, p.2.2.1, q.2.2.1⟩
