theorem tv_2 {a a' : Nat → Int32} {x : Nat} {sh : Int32 × Int32} {p : Nat → Nat} (h : tv_X a a' x sh p 2) : a' = a := by
  rcases h with ⟨_, _, q⟩ | ⟨_, _, q⟩ | ⟨_, _, _, q⟩
  · exact absurd q (by decide)
  · rcases q with q | q
    · exact q.2.1
    · exact absurd q.1 (by decide)
  · exact q
theorem tv_up {a a' : Nat → Int32} {x i : Nat} {v : Int32} {sh : Int32 × Int32} {p : Nat → Nat} {r : Int32} (hi : 384 ≤ i) (lc : xv_L a x < 48) (h : tv_X a a' x sh p r) : tv_X (upd a i v) (upd a' i v) x sh p r := by
  have ca : ∀ j, j < 384 → upd a i v j = a j := fun j hj => pk_un (by omega)
  have ca' : ∀ j, j < 384 → upd a' i v j = a' j := fun j hj => pk_un (by omega)
  obtain ⟨e1, e2, e3, e4, e5⟩ := xv_congr ca
  obtain ⟨f1, f2, f3, f4, f5⟩ := xv_congr ca'
  have eT := xv_congrT ca
  unfold tv_X
  rw [e2, e3, e4, e5]
  rcases h with ⟨h1, h2, h3⟩ | ⟨h1, h2, h3⟩ | ⟨h1, h2, h3, h4⟩
  · refine Or.inl ⟨h1, ?_, h3⟩
    · obtain ⟨g1, g2, g3, g4, g5, g6, g7⟩ := h2
      refine ⟨?_, ?_, ?_, fun k hk => ?_, fun k hk => ?_, fun d hd ne => ?_, fun j hj => ?_⟩
      · rw [ca' _ (by omega)]; exact g1
      · rw [ca' _ (by omega)]; exact g2
      · rw [ca' _ (by omega)]; exact g3
      · rw [ca' _ (by omega)]; exact g4 k hk
      · have : k < 3 := Nat.lt_of_lt_of_le hk (ma_ct_le _)
        rw [ca' _ (by omega)]; exact g5 k hk
      · rw [ca' (48 + d) (by omega), ca' (96 + d) (by omega), ca' (144 + d) (by omega), ca (48 + d) (by omega), ca (96 + d) (by omega), ca (144 + d) (by omega)]
        refine ⟨(g6 d hd ne).1, (g6 d hd ne).2.1, (g6 d hd ne).2.2.1, fun k hk => ?_⟩
        rw [ca' _ (by omega), ca _ (by omega)]; exact (g6 d hd ne).2.2.2 k hk
      · by_cases q : j = i
        · rw [q, pk_us, pk_us]
        · rw [pk_un q, pk_un q]; exact g7 j hj
  · refine Or.inr (Or.inl ⟨h1, h2, ?_⟩)
    rcases h3 with ⟨z1, z2, z3⟩ | ⟨z1, px, py, j, m, vd, z2, z3⟩
    · refine Or.inl ⟨z1, by rw [z2], ?_⟩
      rw [e1, e2, eT]; exact z3
    · refine Or.inr ⟨z1, px, py, j, m, vd, z2, ?_⟩
      obtain ⟨w1, w2, w3, w4⟩ := z3
      refine ⟨xv_congrH ca' w1, fun j hj => ?_, ?_, ?_⟩
      · by_cases q : j = i
        · rw [q, pk_us, pk_us]
        · rw [pk_un q, pk_un q]; exact w2 j hj
      · rw [e1, e2, eT, f2, f3, f4, f5]; exact w3
      · rw [f2]; exact w4
  · exact Or.inr (Or.inr ⟨h1, h2, h3, by rw [h4]⟩)
/-- a variable that nothing knows goes again -/
theorem rm_C {B : Nat} {a a1 s s1 : Nat → Int32} {z : Nat} (C : re_C B a s) (hz : z < 48) (nz : ¬ xv_U a z) (t : tk_X a a1 z) (g : tk_Y s s1 z) : re_C B (upd (upd a1 (336 + z) 0) (384 + z) 0) (upd s1 (384 + z) 0) := by
  have C1 := tk_C C hz nz t g
  obtain ⟨zL, zK, zU⟩ := tk_Xz t hz
  have N := C.1.2.2.2.2.2
  have w := C.1.2.2.2.2.1.1
  have x2 := C.1.2.2.2.2.1.2.2.1
  have inj : ∀ {q : Nat}, q < 48 → nI q = nI z → q = z := fun hq e => (nI_eq (by omega) (by omega)).mp e
  have cell : ∀ i, 384 ≤ i → a1 i = a i := fun i hi => t.2.2.2.2.2 i (by omega) (by omega) (by omega) (by omega) (by omega)
  have old : ∀ x, xv_U a x → x ≠ z := fun x u e => nz (by rw [← e]; exact u)
  have Lz : ∀ x, xv_U a1 x → xv_L a1 x = z → x = z := by
    intro x ux e
    apply Classical.byContradiction
    intro ne
    obtain ⟨e1, _, _, _, e5⟩ := tk_XL t hz ne
    have u := e5.mp ux
    rw [e1] at e
    exact old _ (w x u).2.1 e
  have hroot : ∀ x, kp_0 a1 x → xv_L a1 x ≠ z := by
    intro x hx e
    have ex := Lz x hx.1 e
    rw [ex] at hx
    rcases hx.2 with q | ⟨e', he, q⟩ | ⟨t', ht, q3, q⟩ | ⟨k', hk, q⟩
    · rw [cell _ (by omega)] at q
      rcases (N.2.1 z hz).2 with o | o
      · rw [o] at q; exact absurd q (by decide)
      · exact nz o.2
    · rw [cell _ (by omega)] at q
      rcases (N.2.2.2.2.1 e' he).2 with o | ⟨y, uy, o⟩
      · rw [o] at q; exact (li_nn1 (by omega)).mp q.symm
      · rw [o] at q; exact old y uy (inj uy.1 q)
    · rw [cell _ (by omega)] at q3
      rw [cell _ (by omega), cell _ (by omega)] at q
      obtain ⟨⟨y, uy, o⟩, o2⟩ := (N.2.2.1 t' ht).2.2.2 q3
      rcases q with q | q
      · rw [o] at q; exact old y uy (inj uy.1 q)
      · rcases o2 with o2 | ⟨y2, uy2, o2⟩
        · rw [o2] at q; exact (li_nn1 (by omega)).mp q.symm
        · rw [o2] at q; exact old y2 uy2 (inj uy2.1 q)
    · rw [cell _ (by omega), cell _ (by omega)] at q
      rcases (N.2.2.2.1 k' hk).2 with ⟨o1, o2⟩ | ⟨x', y', ux', uy', o1, o2, _⟩
      · rcases q with q | q
        · rw [o1] at q; exact (li_nn1 (by omega)).mp q.symm
        · rw [o2] at q; exact (li_nn1 (by omega)).mp q.symm
      · rcases q with q | q
        · rw [o1] at q; exact old x' ux' (inj ux'.1 q)
        · rw [o2] at q; exact old y' uy' (inj uy'.1 q)
  have hpart : ∀ c, c ≠ z → (xv_T a1).1 c → ∀ k, k < ma_ct ((xv_T a1).2.1 c).1 → xv_L a1 ((xv_T a1).2.2 c k) ≠ z := by
    intro c _ hc k hk e
    obtain ⟨i1, i2⟩ := tk_XT (c := c) t hz nz
    have hc' := i1.mp hc
    obtain ⟨j1, j2⟩ := i2 hc'
    rw [j1] at hk
    rw [j2 k] at e
    have u := x2 c hc' k hk
    obtain ⟨e1, _, _, _, e5⟩ := tk_XL t hz (old _ u)
    rw [e1] at e
    exact old _ (w _ u).2.1 e
  refine cl_C (Kp := fun c => c ≠ z) hroot hpart C1 ⟨?_, ?_, ?_⟩ ⟨?_, ?_, ?_⟩
  · intro x hx ux nk
    have ex : x = z := Lz x ux (Classical.byContradiction nk)
    rw [ex, pk_un (by omega), pk_us, pk_us]
    exact ⟨rfl, rfl⟩
  · intro x hx o
    have ne : x ≠ z := by
      intro e
      rw [e] at o
      rcases o with o | o
      · exact o zU
      · exact o zL
    rw [pk_un (by omega), pk_un (by omega), pk_un (by omega), pk_un (by omega)]
    exact ⟨rfl, rfl⟩
  · intro i hi
    rw [pk_un (by omega), pk_un (by omega)]
  · intro x hx ux nk
    have ex : x = z := Lz x ux (Classical.byContradiction nk)
    obtain ⟨g1, g2, g3, g4, g5, g6⟩ := g
    rw [ex, pk_un (by omega), pk_un (by omega), pk_us, pk_un (by omega), pk_un (by omega)]
    exact ⟨g2, g3, rfl, g4, g5⟩
  · intro x hx o
    have ne : x ≠ z := by
      intro e
      rw [e] at o
      rcases o with o | o
      · exact o zU
      · exact o zL
    rw [pk_un (by omega), pk_un (by omega), pk_un (by omega), pk_un (by omega), pk_un (by omega)]
    exact ⟨rfl, rfl, rfl, rfl, rfl⟩
  · intro i hi
    exact pk_un (by omega)
