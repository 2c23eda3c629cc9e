theorem ma_R_F {U : Nat → Prop} {L : Nat → Nat} {TX TY : ma_T} {Q : Nat → Nat → Prop} (r : ma_R U L TX TY) : ∀ E, ma_F U L TX Q E ↔ ma_F U L TY Q E :=
  fun _ => ⟨ma_F_sub r.2.2.2.2.2, ma_F_sub r.2.2.2.2.1⟩
theorem ma_R_B {U : Nat → Prop} {L : Nat → Nat} {TX TY : ma_T} {Q : Nat → Nat → Prop} (r : ma_R U L TX TY) : ∀ E, ma_F U L TX Q E → (ma_Bad TX E ↔ ma_Bad TY E) :=
  fun E h => ⟨ma_Bad_subF r.2.2.2.2.1 ((ma_R_F r E).mp h), ma_Bad_subF r.2.2.2.2.2 h⟩
/-- after a telling that does not fail -/
theorem ma_R_tell {U : Nat → Prop} {L' : Nat → Nat} {TX TX' TY' : ma_T} (w' : ma_W U L') (x1 : ∀ c, TX'.1 c → U c ∧ L' c = c) (x2 : ∀ c, TX'.1 c → ∀ k, k < ma_ct (TX'.2.1 c).1 → U (TX'.2.2 c k)) (y1 : ∀ c, TY'.1 c → U c ∧ ∀ k, k < ma_ct (TY'.2.1 c).1 → U (TY'.2.2 c k)) (s1 : ma_Sub TX TX' (ma_K U L')) (s2 : ma_Sub TX' TX (ma_K U L')) (t1 : ma_Sub TX TY' (ma_K U L')) (t2 : ma_Sub TY' TX (ma_K U L')) : ma_R U L' TX' TY' :=
  ⟨w', x1, x2, y1, ma_Sub_trans (ma_K_eqv _ _) s2 t1, ma_Sub_trans (ma_K_eqv _ _) t2 s1⟩
/-- T' is T with x told to be sh with the parts p -/
def ma_put (T T' : ma_T) (x : Nat) (sh : Int32 × Int32) (p : Nat → Nat) : Prop :=
  (∀ d, T'.1 d ↔ (T.1 d ∨ d = x)) ∧ (∀ d, T.1 d → T'.2.1 d = T.2.1 d ∧ ∀ k, k < ma_ct (T.2.1 d).1 → T'.2.2 d k = T.2.2 d k) ∧ T'.2.1 x = sh ∧ ∀ k, k < ma_ct sh.1 → T'.2.2 x k = p k
theorem ma_put_sub {T T' : ma_T} {x : Nat} {sh : Int32 × Int32} {p : Nat → Nat} {E : Nat → Nat → Prop} (h : ma_put T T' x sh p) (e : ma_Eqv E) : ma_Sub T T' E := by
  obtain ⟨h1, h2, _, _⟩ := h
  intro c hc
  refine ⟨c, (h1 c).mpr (Or.inl hc), e.1 _, (h2 c hc).1, fun k hk => ?_⟩
  rw [(h2 c hc).2 k hk]; exact e.1 _
theorem ma_put_back {T T' T2 : ma_T} {x c : Nat} {sh : Int32 × Int32} {p : Nat → Nat} {E : Nat → Nat → Prop} (h : ma_put T T' x sh p) (s : ma_Sub T T2 E) (hc : T2.1 c) (hE : E x c) (hs : T2.2.1 c = sh) (hp : ∀ k, k < ma_ct sh.1 → E (p k) (T2.2.2 c k)) (n : ¬ T.1 x) : ma_Sub T' T2 E := by
  obtain ⟨h1, h2, h3, h4⟩ := h
  intro d hd
  rcases (h1 d).mp hd with z | z
  · obtain ⟨f, f1, f2, f3, f4⟩ := s d z
    obtain ⟨g1, g2⟩ := h2 d z
    refine ⟨f, f1, f2, by rw [f3, g1], fun k hk => ?_⟩
    rw [g1] at hk
    rw [g2 k hk]; exact f4 k hk
  · rw [z]
    refine ⟨c, hc, hE, by rw [hs, h3], fun k hk => ?_⟩
    rw [h3] at hk
    rw [h4 k hk]; exact hp k hk
theorem ma_put_U {U : Nat → Prop} {T T' : ma_T} {x : Nat} {sh : Int32 × Int32} {p : Nat → Nat} (h : ma_put T T' x sh p) (ux : U x) (pU : ∀ k, k < ma_ct sh.1 → U (p k)) (y : ∀ c, T.1 c → U c ∧ ∀ k, k < ma_ct (T.2.1 c).1 → U (T.2.2 c k)) : ∀ c, T'.1 c → U c ∧ ∀ k, k < ma_ct (T'.2.1 c).1 → U (T'.2.2 c k) := by
  obtain ⟨h1, h2, h3, h4⟩ := h
  intro c hc
  by_cases q : T.1 c
  · obtain ⟨g1, g2⟩ := h2 c q
    refine ⟨(y c q).1, fun k hk => ?_⟩
    rw [g1] at hk
    rw [g2 k hk]; exact (y c q).2 k hk
  · rcases (h1 c).mp hc with z | z
    · exact absurd z q
    · rw [z]
      refine ⟨ux, fun k hk => ?_⟩
      rw [h3] at hk
      rw [h4 k hk]; exact pU k hk
/-- a value for a FREE class -/
theorem ma_R_set {U : Nat → Prop} {L : Nat → Nat} {TX TX' TY TY' : ma_T} {x : Nat} {sh : Int32 × Int32} {p : Nat → Nat} (r : ma_R U L TX TY) (ux : U x) (hc : ¬ TX.1 (L x)) (hX : ma_put TX TX' (L x) sh p) (hY : ma_put TY TY' x sh p) (pU : ∀ k, k < ma_ct sh.1 → U (p k)) : ma_R U L TX' TY' := by
  have r0 := r
  obtain ⟨w, x1, x2, y1, s1, s2⟩ := r
  have e := ma_K_eqv U L
  have wx := w x ux
  have ny : ¬ TY.1 x := fun q => hc (ma_R_x r0 q).1
  have kx : ma_K U L x (L x) := Or.inr ⟨ux, wx.2.1, wx.2.2.1.symm⟩
  have px := ma_put_U (U := U) hX wx.2.1 pU (fun c q => ⟨(x1 c q).1, x2 c q⟩)
  have py := ma_put_U (U := U) hY ux pU y1
  refine ⟨w, ?_, fun c q => (px c q).2, py, ?_, ?_⟩
  · intro c q
    rcases (hX.1 c).mp q with z | z
    · exact x1 c z
    · rw [z]; exact ⟨wx.2.1, wx.2.2.1⟩
  · refine ma_put_back hX (ma_Sub_trans e s1 (ma_put_sub hY e)) ((hY.1 x).mpr (Or.inr rfl)) (e.2.1 _ _ kx) hY.2.2.1 (fun k hk => ?_) hc
    rw [hY.2.2.2 k hk]; exact e.1 _
  · refine ma_put_back hY (ma_Sub_trans e s2 (ma_put_sub hX e)) ((hX.1 (L x)).mpr (Or.inr rfl)) kx hX.2.2.1 (fun k hk => ?_) ny
    rw [hX.2.2.2 k hk]; exact e.1 _
theorem ma_R_Ok {U : Nat → Prop} {L : Nat → Nat} {K V : Nat → Int32} {P : Nat → Nat → Nat} {TY : ma_T} (r : ma_R U L (ma_X U L K V P) TY) : ma_Ok U L TY (fun _ _ => False) L := by
  obtain ⟨a, b⟩ := ma_X_fin (K := K) (V := V) (P := P) r.1
  exact ⟨r.1, (ma_R_F r _).mp a, fun q => b ((ma_R_B r _ a).mpr q), fun E hE x y k => ma_K_sub hE.1 hE.2.1 x y k⟩
/-- the pairs of a RECORD's PARTS with others -/
def ma_2 (n : Nat) (p q : Nat → Nat) : Nat → Nat → Prop := fun u v => ∃ k, k < n ∧ u = p k ∧ v = q k
/-- a second value for a class, at a variable that had none of its own -/
theorem ma_R_add {U : Nat → Prop} {L : Nat → Nat} {TX TY TY' : ma_T} {x : Nat} {sh : Int32 × Int32} {p : Nat → Nat} (r : ma_R U L TX TY) (ux : U x) (hc : TX.1 (L x)) (hs : TX.2.1 (L x) = sh) (ny : ¬ TY.1 x) (hY : ma_put TY TY' x sh p) : (∀ E, ma_F U L TX (ma_2 (ma_ct sh.1) (TX.2.2 (L x)) p) E → ma_Sub TX TY' E ∧ ma_Sub TY' TX E) ∧ ∀ E, ma_F U L TX (ma_2 (ma_ct sh.1) (TX.2.2 (L x)) p) E ↔ ma_F U L TY' (fun _ _ => False) E := by
  have r0 := r
  obtain ⟨w, x1, x2, y1, s1, s2⟩ := r
  have one : ∀ E, ma_F U L TX (ma_2 (ma_ct sh.1) (TX.2.2 (L x)) p) E → ma_Sub TX TY' E ∧ ma_Sub TY' TX E := by
    intro E hF
    obtain ⟨e, hb, hq, pc⟩ := hF
    have mk := ma_K_sub e hb
    refine ⟨ma_Sub_trans e (ma_Sub_mono mk s1) (ma_put_sub hY e), ?_⟩
    exact ma_put_back hY (ma_Sub_mono mk s2) hc (hb x ux) hs (fun k hk => e.2.1 _ _ (hq _ _ ⟨k, hk, rfl, rfl⟩)) ny
  refine ⟨one, fun E => ⟨fun hF => ?_, fun hF => ?_⟩⟩
  · obtain ⟨a, b⟩ := one E hF
    exact ⟨hF.1, hF.2.1, fun _ _ q => q.elim, ma_PC_sub hF.1 b hF.2.2.2⟩
  · obtain ⟨e, hb, hq, pc⟩ := hF
    have mk := ma_K_sub e hb
    refine ⟨e, hb, ?_, ma_PC_sub e (ma_Sub_trans e (ma_Sub_mono mk s1) (ma_put_sub hY e)) pc⟩
    intro u v ⟨k, hk, hu, hv⟩
    rw [hu, hv]
    obtain ⟨d, d1, d2, d3, d4⟩ := ma_R_y r0 hc
    rw [hs] at d4
    obtain ⟨h1, h2, h3, h4⟩ := hY
    obtain ⟨g1, g2⟩ := h2 d d1
    have ed : E d x := mk _ _ (Or.inr ⟨(y1 d d1).1, ux, d2⟩)
    have kk : k < ma_ct (TY.2.1 d).1 := by rw [d3, hs]; exact hk
    have hh := pc d x ((h1 d).mpr (Or.inl d1)) ((h1 x).mpr (Or.inr rfl)) ed (by rw [g1, d3, hs, h3]) k (by rw [g1]; exact kk)
    rw [g2 k kk, h4 k hk] at hh
    exact e.2.2 _ _ _ (mk _ _ (Or.inr ⟨x2 _ hc k (by rw [hs]; exact hk), (y1 d d1).2 k kk, d4 k hk⟩)) hh
theorem ma_R_addB {U : Nat → Prop} {L : Nat → Nat} {TX TY TY' : ma_T} {x : Nat} {sh : Int32 × Int32} {p : Nat → Nat} (r : ma_R U L TX TY) (ux : U x) (hc : TX.1 (L x)) (hs : TX.2.1 (L x) = sh) (ny : ¬ TY.1 x) (hY : ma_put TY TY' x sh p) : ∀ E, ma_F U L TX (ma_2 (ma_ct sh.1) (TX.2.2 (L x)) p) E → (ma_Bad TX E ↔ ma_Bad TY' E) := by
  intro E hF
  obtain ⟨a, b⟩ := (ma_R_add r ux hc hs ny hY).1 E hF
  exact ⟨ma_Bad_sub hF.1 a, ma_Bad_sub hF.1 b⟩
/-- a second value of another shape: it fails -/
theorem ma_R_clash {U : Nat → Prop} {L : Nat → Nat} {TX TY TY' : ma_T} {x : Nat} {sh : Int32 × Int32} {p : Nat → Nat} (r : ma_R U L TX TY) (ux : U x) (hc : TX.1 (L x)) (hs : TX.2.1 (L x) ≠ sh) (hY : ma_put TY TY' x sh p) (ny : ¬ TY.1 x) : ma_No U L TY' (fun _ _ => False) := by
  intro E hF
  obtain ⟨e, hb, hq, pc⟩ := hF
  obtain ⟨d, d1, d2, d3, d4⟩ := ma_R_y r hc
  obtain ⟨h1, h2, h3, h4⟩ := hY
  refine ⟨d, x, (h1 d).mpr (Or.inl d1), (h1 x).mpr (Or.inr rfl), ma_K_sub e hb _ _ (Or.inr ⟨(r.2.2.2.1 d d1).1, ux, d2⟩), ?_⟩
  rw [(h2 d d1).1, d3, h3]; exact hs
/-- pairs that are the SAME place by place ask for the same -/
theorem ma_F_Q {U : Nat → Prop} {L : Nat → Nat} {T : ma_T} {E : Nat → Nat → Prop} {n : Nat} {p p' q : Nat → Nat} (h : ∀ k, k < n → ma_K U L (p k) (p' k)) (hF : ma_F U L T (ma_2 n p q) E) : ma_F U L T (ma_2 n p' q) E := by
  obtain ⟨e, hb, hq, pc⟩ := hF
  refine ⟨e, hb, ?_, pc⟩
  intro u v ⟨k, hk, hu, hv⟩
  rw [hu, hv]
  exact e.2.2 _ _ _ (e.2.1 _ _ (ma_K_sub e hb _ _ (h k hk))) (hq _ _ ⟨k, hk, rfl, rfl⟩)
/-- a part of the store that nothing leaves answers for itself -/
theorem ma_cut {U U' : Nat → Prop} {L L' : Nat → Nat} {T T' : ma_T} (w : ma_W U L) (hT : ∀ c, T.1 c → U c ∧ L c = c) (sub : ∀ x, U' x → U x) (cl : ∀ x, U x → (U' x ↔ U' (L x))) (hL : ∀ x, U' x → L' x = L x) (t1 : ∀ c, T'.1 c ↔ (T.1 c ∧ U' c)) (t2 : ∀ c, T'.1 c → T'.2.1 c = T.2.1 c ∧ ∀ k, k < ma_ct (T.2.1 c).1 → T'.2.2 c k = T.2.2 c k ∧ U' (T.2.2 c k)) {x y : Nat} (hx : U' x) (hy : U' y) : (ma_al U' L' T' x y ↔ ma_al U L T x y) ∧ (ma_un U' L' T' x y ↔ ma_un U L T x y) := by
  have down : ∀ E, ma_F U L T (ma_1 x y) E → ma_F U' L' T' (ma_1 x y) E := by
    intro E ⟨e, hb, hq, pc⟩
    refine ⟨e, fun z hz => by rw [hL z hz]; exact hb z (sub z hz), hq, ?_⟩
    intro c d hc hd hE hs k hk
    obtain ⟨c1, c2⟩ := t2 c hc
    obtain ⟨d1, d2⟩ := t2 d hd
    rw [c1] at hk
    rw [c1, d1] at hs
    rw [(c2 k hk).1, (d2 k (by rw [← hs]; exact hk)).1]
    exact pc c d ((t1 c).mp hc).1 ((t1 d).mp hd).1 hE hs k hk
  have up : ∀ E, ma_F U' L' T' (ma_1 x y) E → ma_F U L T (ma_1 x y) (fun u v => (U' u ∧ U' v ∧ E u v) ∨ (¬ U' u ∧ ¬ U' v ∧ ma_K U L u v)) := by
    intro E ⟨e, hb, hq, pc⟩
    have ek := ma_K_eqv U L
    refine ⟨⟨?_, ?_, ?_⟩, ?_, ?_, ?_⟩
    · intro u
      by_cases z : U' u
      · exact Or.inl ⟨z, z, e.1 _⟩
      · exact Or.inr ⟨z, z, ek.1 _⟩
    · intro u v h
      rcases h with ⟨a, b, c⟩ | ⟨a, b, c⟩
      · exact Or.inl ⟨b, a, e.2.1 _ _ c⟩
      · exact Or.inr ⟨b, a, ek.2.1 _ _ c⟩
    · intro u v s h g
      rcases h with ⟨a, b, c⟩ | ⟨a, b, c⟩
      · rcases g with ⟨a', b', c'⟩ | ⟨a', b', c'⟩
        · exact Or.inl ⟨a, b', e.2.2 _ _ _ c c'⟩
        · exact absurd b a'
      · rcases g with ⟨a', b', c'⟩ | ⟨a', b', c'⟩
        · exact absurd a' b
        · exact Or.inr ⟨a, b', ek.2.2 _ _ _ c c'⟩
    · intro z hz
      by_cases q : U' z
      · have h1 := hb z q
        rw [hL z q] at h1
        exact Or.inl ⟨q, (cl z hz).mp q, h1⟩
      · exact Or.inr ⟨q, fun p => q ((cl z hz).mpr p), Or.inr ⟨hz, (w z hz).2.1, (w z hz).2.2.1.symm⟩⟩
    · intro u v ⟨a, b⟩
      rw [a, b]
      exact Or.inl ⟨hx, hy, hq x y ⟨rfl, rfl⟩⟩
    · intro c d hc hd hE hs k hk
      rcases hE with ⟨a, b, h⟩ | ⟨a, b, h⟩
      · have tc := (t1 c).mpr ⟨hc, a⟩
        have td := (t1 d).mpr ⟨hd, b⟩
        obtain ⟨c1, c2⟩ := t2 c tc
        obtain ⟨d1, d2⟩ := t2 d td
        have hk' : k < ma_ct (T.2.1 d).1 := by rw [← hs]; exact hk
        have h1 := pc c d tc td h (by rw [c1, d1, hs]) k (by rw [c1]; exact hk)
        rw [(c2 k hk).1, (d2 k hk').1] at h1
        exact Or.inl ⟨(c2 k hk).2, (d2 k hk').2, h1⟩
      · have e1 := ma_K_L h
        have e2 := (hT c hc).2
        have e3 := (hT d hd).2
        have e4 : c = d := by omega
        rw [e4]
        by_cases z : U' (T.2.2 d k)
        · exact Or.inl ⟨z, z, e.1 _⟩
        · exact Or.inr ⟨z, z, ek.1 _⟩
  have wl : ∀ c, U' c → (L' c = c ↔ L c = c) := fun c hc => by rw [hL c hc]
  refine ⟨⟨?_, ?_⟩, ⟨?_, ?_⟩⟩
  · intro ⟨E, hF, ht⟩
    refine ⟨_, up E hF, ?_⟩
    intro c d hc hd lc ld hE
    rcases hE with ⟨a, b, h⟩ | ⟨a, b, h⟩
    · rcases ht c d a b ((wl c a).mpr lc) ((wl d b).mpr ld) h with z | ⟨z1, z2, z3⟩
      · exact Or.inl z
      · rw [(t2 c z1).1, (t2 d z2).1] at z3
        exact Or.inr ⟨((t1 c).mp z1).1, ((t1 d).mp z2).1, z3⟩
    · have e1 := ma_K_L h
      exact Or.inl (by omega)
  · intro ⟨E, hF, ht⟩
    refine ⟨E, down E hF, ?_⟩
    intro c d hc hd lc ld hE
    rcases ht c d (sub c hc) (sub d hd) ((wl c hc).mp lc) ((wl d hd).mp ld) hE with z | ⟨z1, z2, z3⟩
    · exact Or.inl z
    · have tc := (t1 c).mpr ⟨z1, hc⟩
      have td := (t1 d).mpr ⟨z2, hd⟩
      exact Or.inr ⟨tc, td, by rw [(t2 c tc).1, (t2 d td).1]; exact z3⟩
  · intro hu E hF
    obtain ⟨c, d, hc, hd, hE, hs⟩ := hu E (down E hF)
    rw [(t2 c hc).1, (t2 d hd).1] at hs
    exact ⟨c, d, ((t1 c).mp hc).1, ((t1 d).mp hd).1, hE, hs⟩
  · intro hu E hF
    obtain ⟨c, d, hc, hd, hE, hs⟩ := hu _ (up E hF)
    rcases hE with ⟨a, b, h⟩ | ⟨a, b, h⟩
    · have tc := (t1 c).mpr ⟨hc, a⟩
      have td := (t1 d).mpr ⟨hd, b⟩
      exact ⟨c, d, tc, td, h, by rw [(t2 c tc).1, (t2 d td).1]; exact hs⟩
    · have e1 := ma_K_L h
      have e2 := (hT c hc).2
      have e3 := (hT d hd).2
      have e4 : c = d := by omega
      rw [e4] at hs
      exact absurd rfl hs
/-- the answer of a comparison -/
noncomputable def ma_vd (U : Nat → Prop) (L : Nat → Nat) (T : ma_T) (x y : Nat) : Int32 :=
  @ite _ (ma_al U L T x y) (Classical.propDecidable _) 1 (@ite _ (ma_un U L T x y) (Classical.propDecidable _) 2 3)
theorem ma_vd_is1 {U : Nat → Prop} {L : Nat → Nat} {T : ma_T} {x y : Nat} (h : ma_al U L T x y) : ma_vd U L T x y = 1 := by
  unfold ma_vd; exact if_pos h
theorem ma_vd_is2 {U : Nat → Prop} {L : Nat → Nat} {T : ma_T} {x y : Nat} (h : ¬ ma_al U L T x y) (h2 : ma_un U L T x y) : ma_vd U L T x y = 2 := by
  unfold ma_vd; rw [if_neg h]; exact if_pos h2
theorem ma_vd_is3 {U : Nat → Prop} {L : Nat → Nat} {T : ma_T} {x y : Nat} (h : ¬ ma_al U L T x y) (h2 : ¬ ma_un U L T x y) : ma_vd U L T x y = 3 := by
  unfold ma_vd; rw [if_neg h]; exact if_neg h2
theorem ma_vd_al {U : Nat → Prop} {L : Nat → Nat} {T : ma_T} {x y : Nat} : ma_vd U L T x y = 1 ↔ ma_al U L T x y := by
  constructor
  · intro h
    apply Classical.byContradiction
    intro n
    by_cases u : ma_un U L T x y
    · rw [ma_vd_is2 n u] at h; exact absurd h (by decide)
    · rw [ma_vd_is3 n u] at h; exact absurd h (by decide)
  · exact ma_vd_is1
theorem ma_vd_eq {U U' : Nat → Prop} {L L' : Nat → Nat} {T T' : ma_T} {x y : Nat} (h1 : ma_al U' L' T' x y ↔ ma_al U L T x y) (h2 : ma_un U' L' T' x y ↔ ma_un U L T x y) : ma_vd U' L' T' x y = ma_vd U L T x y := by
  by_cases a : ma_al U L T x y
  · rw [ma_vd_is1 a, ma_vd_is1 (h1.mpr a)]
  · by_cases b : ma_un U L T x y
    · rw [ma_vd_is2 a b, ma_vd_is2 (fun q => a (h1.mp q)) (h2.mpr b)]
    · rw [ma_vd_is3 a b, ma_vd_is3 (fun q => a (h1.mp q)) (fun q => b (h2.mp q))]
theorem ma_vd_cases (U : Nat → Prop) (L : Nat → Nat) (T : ma_T) (x y : Nat) : ma_vd U L T x y = 1 ∨ ma_vd U L T x y = 2 ∨ ma_vd U L T x y = 3 := by
  by_cases a : ma_al U L T x y
  · exact Or.inl (ma_vd_is1 a)
  · by_cases b : ma_un U L T x y
    · exact Or.inr (Or.inl (ma_vd_is2 a b))
    · exact Or.inr (Or.inr (ma_vd_is3 a b))
/-- RECORDS within each other -/
def ma_pt (R : Nat → Prop) (S : Nat → Nat → Prop) : Nat → Nat → Prop
  | 0, _ => True
  | r + 1, c => R c ∧ (r = 0 ∨ ∃ d, S c d ∧ ma_pt R S r d)
theorem ma_pt_dn {R : Nat → Prop} {S : Nat → Nat → Prop} : ∀ r c, ma_pt R S (r + 1) c → ma_pt R S r c := by
  intro r
  induction r with
  | zero => intro c _; exact True.intro
  | succ r ih =>
    intro c h
    obtain ⟨h1, h2⟩ := h
    rcases h2 with h2 | ⟨d, h3, h4⟩
    · exact absurd h2 (by omega)
    · exact ⟨h1, Or.inr ⟨d, h3, ih d h4⟩⟩
theorem ma_pt_le {R : Nat → Prop} {S : Nat → Nat → Prop} {c : Nat} : ∀ a r, ma_pt R S (r + a) c → ma_pt R S r c := by
  intro a
  induction a with
  | zero => intro r h; exact h
  | succ a ih => intro r h; exact ih r (ma_pt_dn (r + a) c h)
/-- an iteration's value at the end: at least what 49 rounds see, never more than there is -/
theorem ma_pt_one {P : Nat → Prop} (dn : ∀ a r, P (r + a) → P r) {D1 D2 : Nat} (a1 : P D1) (a2 : ∀ r, r ≤ 49 → P r → r ≤ D1) (b1 : P D2) (b2 : ∀ r, r ≤ 49 → P r → r ≤ D2) : (48 < D1 ↔ 48 < D2) ∧ (D1 ≤ 48 → D1 = D2) := by
  have g : ∀ D, P D → 48 < D → P 49 := fun D h q => dn (D - 49) 49 (by rw [show 49 + (D - 49) = D from by omega]; exact h)
  have i1 : 48 < D1 ↔ 48 < D2 := by
    constructor
    · intro h; have := b2 49 (by omega) (g D1 a1 h); omega
    · intro h; have := a2 49 (by omega) (g D2 b1 h); omega
  refine ⟨i1, fun h => ?_⟩
  have h2 : D2 ≤ 48 := by omega
  have := a2 D2 (by omega) b1
  have := b2 D1 (by omega) a1
  omega
