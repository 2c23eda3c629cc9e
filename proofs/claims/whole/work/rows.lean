section
theorem pk_us {f : Nat → Int32} {k : Nat} {x : Int32} : upd f k x k = x := if_pos rfl
theorem pk_un {f : Nat → Int32} {k j : Nat} {x : Int32} (h : j ≠ k) : upd f k x j = f j := if_neg h
theorem pk_uLs {f : Nat → Int64} {k : Nat} {x : Int64} : vp_updL f k x k = x := if_pos rfl
theorem pk_uLn {f : Nat → Int64} {k j : Nat} {x : Int64} (h : j ≠ k) : vp_updL f k x j = f j := if_neg h
theorem pk_sub {a b : Nat} (h : b ≤ a) : nI a - nI b = nI (a - b) := by
  obtain ⟨c, rfl⟩ : ∃ c, a = c + b := ⟨a - b, by omega⟩
  rw [← nI_add, Int32.add_sub_cancel, Nat.add_sub_cancel]
theorem pk_m1 (n : Nat) : nI (n + 1) + (-1) = nI n := by
  rw [← nI_1, Int32.add_assoc, show (1 : Int32) + (-1) = 0 from rfl, Int32.add_zero]
theorem pk_mul (a b : Nat) : nI a * nI b = nI (a * b) := (Int32.ofNat_mul a b).symm
theorem pk_div {a d : Nat} (ha : a < 2 ^ 31) (h0 : 0 < d) (hd : d < 2 ^ 31) : nI a / nI d = nI (a / d) := by
  apply Int32.toInt_inj.mp
  rw [lg_idiv_nonneg (by rw [nI_toInt ha]; omega) (by rw [nI_toInt hd]; omega), nI_toInt ha, nI_toInt hd, nI_toInt (Nat.lt_of_le_of_lt (Nat.div_le_self a d) ha)]
  first | rfl | exact (Int.natCast_ediv _ _).symm
theorem pk_rem {a d : Nat} (ha : a < 2 ^ 31) (h0 : 0 < d) (hd : d < 2 ^ 31) : nI a - nI a / nI d * nI d = nI (a % d) := by
  rw [pk_div ha h0 hd, pk_mul, pk_sub (Nat.div_mul_le_self a d)]
  exact congrArg nI (by have := Nat.div_add_mod' a d; omega)
theorem pk_ix (x : Int32) {n : Nat} (hn : n < 2 ^ 31) : x < 0 ∨ nI n ≤ x ∨ ∃ j : Nat, j < n ∧ x = nI j := by
  by_cases h : x < 0
  · exact Or.inl h
  · obtain ⟨j, hj, rfl⟩ := nI_of h
    by_cases h2 : j < n
    · exact Or.inr (Or.inr ⟨j, h2, rfl⟩)
    · exact Or.inr (Or.inl (nI_le (by omega) hj))
theorem pk_le {x y : Int32} {A B : Prop} (a b : Nat) (f : a ≤ b → A) (g : b < a → B) (hx : x = nI a := by rfl) (hy : y = nI b := by rfl) (ha : a < 2 ^ 31 := by omega) (hb : b < 2 ^ 31 := by omega) : (x ≤ y → A) ∧ (¬ x ≤ y → B) := by
  subst hx hy
  rw [nI_leI ha hb]
  exact ⟨f, fun z => g (by omega)⟩
theorem pk_lt {x y : Int32} {A B : Prop} (a b : Nat) (f : a < b → A) (g : b ≤ a → B) (hx : x = nI a := by rfl) (hy : y = nI b := by rfl) (ha : a < 2 ^ 31 := by omega) (hb : b < 2 ^ 31 := by omega) : (x < y → A) ∧ (¬ x < y → B) := by
  subst hx hy
  rw [nI_ltI ha hb]
  exact ⟨f, fun z => g (by omega)⟩
theorem pk_eq {x y : Int32} {A B : Prop} (a b : Nat) (f : a = b → A) (g : a ≠ b → B) (hx : x = nI a := by rfl) (hy : y = nI b := by rfl) (ha : a < 2 ^ 31 := by omega) (hb : b < 2 ^ 31 := by omega) : (x = y → A) ∧ (¬ x = y → B) := by
  subst hx hy
  rw [nI_eq ha hb]
  exact ⟨f, g⟩
theorem pk_in {x : Int32} (n N : Nat) (h : n < N) (hx : x = nI n := by rfl) (hN : N < 2 ^ 31 := by omega) : vp_in x N := by
  subst hx
  exact vp_in_nI h hN
theorem pk_cl {x : Int32} (n : Nat) (hx : x = nI n := by rfl) (h : n < 2 ^ 31 := by omega) : x.toNatClampNeg = n := by
  subst hx
  exact nI_clamp h
theorem pk_loop {σ : Type} (W : Nat → Nat → σ → Prop) (I : Nat → σ → Prop) (e i0 : Nat) (s : σ) (hi : i0 ≤ e) (h0 : I i0 s) (hx : ∀ n s, I e s → W (n + 1) e s)
    (hs : ∀ n i s, i < e → I i s → (∀ s', I (i + 1) s' → W n (i + 1) s') → W (n + 1) i s) : ∃ n, W n i0 s :=
  ⟨e + 1, loop_i W I e hx hs (e + 1) i0 s hi (by omega) h0⟩
theorem pk_loopD {σ : Type} (W : Nat → Nat → σ → Prop) (I : Nat → σ → Prop) (hx : ∀ n s, I 0 s → W (n + 1) 0 s)
    (hs : ∀ n i s, I (i + 1) s → (∀ s', I i s' → W n i s') → W (n + 1) (i + 1) s) : ∀ (e : Nat) (s : σ), I e s → W (e + 1) e s := by
  intro e
  induction e with
  | zero => exact fun s h => hx 0 s h
  | succ e ih => exact fun s h => hs (e + 1) e s h (fun s' h' => ih s' h')
theorem lp1 {A1 : Type} (W : Nat → A1 → Prop) (I : A1 → Prop) (μ : A1 → Nat) (hs : ∀ (n : Nat) (a1 : A1), I a1 → (∀ (b1 : A1), I b1 → μ b1 < μ a1 → W n b1) → W (n + 1) a1) (a1 : A1) (h : I a1) : ∃ n, W n a1 :=
  loop_m (σ := A1) (fun n s => W n s) (fun s => I s) (fun s => μ s) (fun n s hI hk => hs n s hI (fun b1 h9 hm => hk b1 h9 hm)) a1 h
theorem lp2 {A1 A2 : Type} (W : Nat → A1 → A2 → Prop) (I : A1 → A2 → Prop) (μ : A1 → A2 → Nat) (hs : ∀ (n : Nat) (a1 : A1) (a2 : A2), I a1 a2 → (∀ (b1 : A1) (b2 : A2), I b1 b2 → μ b1 b2 < μ a1 a2 → W n b1 b2) → W (n + 1) a1 a2) (a1 : A1) (a2 : A2) (h : I a1 a2) : ∃ n, W n a1 a2 :=
  loop_m (σ := A1 × A2) (fun n s => W n s.1 s.2) (fun s => I s.1 s.2) (fun s => μ s.1 s.2) (fun n s hI hk => hs n s.1 s.2 hI (fun b1 b2 h9 hm => hk (b1, b2) h9 hm)) (a1, a2) h
theorem lp3 {A1 A2 A3 : Type} (W : Nat → A1 → A2 → A3 → Prop) (I : A1 → A2 → A3 → Prop) (μ : A1 → A2 → A3 → Nat) (hs : ∀ (n : Nat) (a1 : A1) (a2 : A2) (a3 : A3), I a1 a2 a3 → (∀ (b1 : A1) (b2 : A2) (b3 : A3), I b1 b2 b3 → μ b1 b2 b3 < μ a1 a2 a3 → W n b1 b2 b3) → W (n + 1) a1 a2 a3) (a1 : A1) (a2 : A2) (a3 : A3) (h : I a1 a2 a3) : ∃ n, W n a1 a2 a3 :=
  loop_m (σ := A1 × A2 × A3) (fun n s => W n s.1 s.2.1 s.2.2) (fun s => I s.1 s.2.1 s.2.2) (fun s => μ s.1 s.2.1 s.2.2) (fun n s hI hk => hs n s.1 s.2.1 s.2.2 hI (fun b1 b2 b3 h9 hm => hk (b1, b2, b3) h9 hm)) (a1, a2, a3) h
theorem lp4 {A1 A2 A3 A4 : Type} (W : Nat → A1 → A2 → A3 → A4 → Prop) (I : A1 → A2 → A3 → A4 → Prop) (μ : A1 → A2 → A3 → A4 → Nat) (hs : ∀ (n : Nat) (a1 : A1) (a2 : A2) (a3 : A3) (a4 : A4), I a1 a2 a3 a4 → (∀ (b1 : A1) (b2 : A2) (b3 : A3) (b4 : A4), I b1 b2 b3 b4 → μ b1 b2 b3 b4 < μ a1 a2 a3 a4 → W n b1 b2 b3 b4) → W (n + 1) a1 a2 a3 a4) (a1 : A1) (a2 : A2) (a3 : A3) (a4 : A4) (h : I a1 a2 a3 a4) : ∃ n, W n a1 a2 a3 a4 :=
  loop_m (σ := A1 × A2 × A3 × A4) (fun n s => W n s.1 s.2.1 s.2.2.1 s.2.2.2) (fun s => I s.1 s.2.1 s.2.2.1 s.2.2.2) (fun s => μ s.1 s.2.1 s.2.2.1 s.2.2.2) (fun n s hI hk => hs n s.1 s.2.1 s.2.2.1 s.2.2.2 hI (fun b1 b2 b3 b4 h9 hm => hk (b1, b2, b3, b4) h9 hm)) (a1, a2, a3, a4) h
theorem pk_least (P : Nat → Prop) (h : ∃ k, P k) : ∃ k, P k ∧ ∀ j, j < k → ¬ P j := by
  obtain ⟨k, hk⟩ := h
  induction k using Nat.strongRecOn with
  | ind k ih =>
    by_cases e : ∃ j, j < k ∧ P j
    · obtain ⟨j, hj, pj⟩ := e
      exact ih j hj pj
    · exact ⟨k, hk, fun j hj pj => e ⟨j, hj, pj⟩⟩
theorem wb_tb (n : Nat) : (lN n).toBitVec = BitVec.ofNat 64 n := rfl
theorem wb_inj {a b : Int64} (h : a.toBitVec = b.toBitVec) : a = b := Int64.toBitVec_inj.mp h
theorem wb_c : ∀ k, k < 64 → ((nI k).toInt64 &&& 63) = lN k := by decide +kernel
theorem li_a0 (n : Nat) : (0 : Int32) + nI n = nI (0 + n) := nI_add 0 n
theorem li_b0 (n : Nat) : nI n + (0 : Int32) = nI (n + 0) := nI_add n 0
theorem li_a1 (n : Nat) : (1 : Int32) + nI n = nI (1 + n) := nI_add 1 n
theorem li_b1 (n : Nat) : nI n + (1 : Int32) = nI (n + 1) := nI_add n 1
theorem li_a2 (n : Nat) : (2 : Int32) + nI n = nI (2 + n) := nI_add 2 n
theorem li_b2 (n : Nat) : nI n + (2 : Int32) = nI (n + 2) := nI_add n 2
theorem li_a3 (n : Nat) : (3 : Int32) + nI n = nI (3 + n) := nI_add 3 n
theorem li_b3 (n : Nat) : nI n + (3 : Int32) = nI (n + 3) := nI_add n 3
theorem li_a7 (n : Nat) : (7 : Int32) + nI n = nI (7 + n) := nI_add 7 n
theorem li_b7 (n : Nat) : nI n + (7 : Int32) = nI (n + 7) := nI_add n 7
theorem li_a8 (n : Nat) : (8 : Int32) + nI n = nI (8 + n) := nI_add 8 n
theorem li_b8 (n : Nat) : nI n + (8 : Int32) = nI (n + 8) := nI_add n 8
theorem li_a16 (n : Nat) : (16 : Int32) + nI n = nI (16 + n) := nI_add 16 n
theorem li_b16 (n : Nat) : nI n + (16 : Int32) = nI (n + 16) := nI_add n 16
theorem li_a48 (n : Nat) : (48 : Int32) + nI n = nI (48 + n) := nI_add 48 n
theorem li_b48 (n : Nat) : nI n + (48 : Int32) = nI (n + 48) := nI_add n 48
theorem li_a584 (n : Nat) : (584 : Int32) + nI n = nI (584 + n) := nI_add 584 n
theorem li_b584 (n : Nat) : nI n + (584 : Int32) = nI (n + 584) := nI_add n 584
theorem li_a572 (n : Nat) : (572 : Int32) + nI n = nI (572 + n) := nI_add 572 n
theorem li_b572 (n : Nat) : nI n + (572 : Int32) = nI (n + 572) := nI_add n 572
theorem li_a96 (n : Nat) : (96 : Int32) + nI n = nI (96 + n) := nI_add 96 n
theorem li_b96 (n : Nat) : nI n + (96 : Int32) = nI (n + 96) := nI_add n 96
theorem li_a144 (n : Nat) : (144 : Int32) + nI n = nI (144 + n) := nI_add 144 n
theorem li_b144 (n : Nat) : nI n + (144 : Int32) = nI (n + 144) := nI_add n 144
theorem li_a192 (n : Nat) : (192 : Int32) + nI n = nI (192 + n) := nI_add 192 n
theorem li_b192 (n : Nat) : nI n + (192 : Int32) = nI (n + 192) := nI_add n 192
theorem li_a240 (n : Nat) : (240 : Int32) + nI n = nI (240 + n) := nI_add 240 n
theorem li_b240 (n : Nat) : nI n + (240 : Int32) = nI (n + 240) := nI_add n 240
theorem li_a336 (n : Nat) : (336 : Int32) + nI n = nI (336 + n) := nI_add 336 n
theorem li_b336 (n : Nat) : nI n + (336 : Int32) = nI (n + 336) := nI_add n 336
theorem li_a384 (n : Nat) : (384 : Int32) + nI n = nI (384 + n) := nI_add 384 n
theorem li_b384 (n : Nat) : nI n + (384 : Int32) = nI (n + 384) := nI_add n 384
theorem li_a432 (n : Nat) : (432 : Int32) + nI n = nI (432 + n) := nI_add 432 n
theorem li_b432 (n : Nat) : nI n + (432 : Int32) = nI (n + 432) := nI_add n 432
theorem li_a480 (n : Nat) : (480 : Int32) + nI n = nI (480 + n) := nI_add 480 n
theorem li_b480 (n : Nat) : nI n + (480 : Int32) = nI (n + 480) := nI_add n 480
theorem li_a488 (n : Nat) : (488 : Int32) + nI n = nI (488 + n) := nI_add 488 n
theorem li_b488 (n : Nat) : nI n + (488 : Int32) = nI (n + 488) := nI_add n 488
theorem li_a496 (n : Nat) : (496 : Int32) + nI n = nI (496 + n) := nI_add 496 n
theorem li_b496 (n : Nat) : nI n + (496 : Int32) = nI (n + 496) := nI_add n 496
theorem li_a504 (n : Nat) : (504 : Int32) + nI n = nI (504 + n) := nI_add 504 n
theorem li_b504 (n : Nat) : nI n + (504 : Int32) = nI (n + 504) := nI_add n 504
theorem li_a512 (n : Nat) : (512 : Int32) + nI n = nI (512 + n) := nI_add 512 n
theorem li_b512 (n : Nat) : nI n + (512 : Int32) = nI (n + 512) := nI_add n 512
theorem li_a520 (n : Nat) : (520 : Int32) + nI n = nI (520 + n) := nI_add 520 n
theorem li_b520 (n : Nat) : nI n + (520 : Int32) = nI (n + 520) := nI_add n 520
theorem li_a524 (n : Nat) : (524 : Int32) + nI n = nI (524 + n) := nI_add 524 n
theorem li_b524 (n : Nat) : nI n + (524 : Int32) = nI (n + 524) := nI_add n 524
theorem li_a528 (n : Nat) : (528 : Int32) + nI n = nI (528 + n) := nI_add 528 n
theorem li_b528 (n : Nat) : nI n + (528 : Int32) = nI (n + 528) := nI_add n 528
theorem li_a536 (n : Nat) : (536 : Int32) + nI n = nI (536 + n) := nI_add 536 n
theorem li_b536 (n : Nat) : nI n + (536 : Int32) = nI (n + 536) := nI_add n 536
theorem li_a544 (n : Nat) : (544 : Int32) + nI n = nI (544 + n) := nI_add 544 n
theorem li_b544 (n : Nat) : nI n + (544 : Int32) = nI (n + 544) := nI_add n 544
theorem li_a552 (n : Nat) : (552 : Int32) + nI n = nI (552 + n) := nI_add 552 n
theorem li_b552 (n : Nat) : nI n + (552 : Int32) = nI (n + 552) := nI_add n 552
theorem li_a560 (n : Nat) : (560 : Int32) + nI n = nI (560 + n) := nI_add 560 n
theorem li_b560 (n : Nat) : nI n + (560 : Int32) = nI (n + 560) := nI_add n 560
theorem li_a568 (n : Nat) : (568 : Int32) + nI n = nI (568 + n) := nI_add 568 n
theorem li_b568 (n : Nat) : nI n + (568 : Int32) = nI (n + 568) := nI_add n 568
theorem li_a573 (n : Nat) : (573 : Int32) + nI n = nI (573 + n) := nI_add 573 n
theorem li_b573 (n : Nat) : nI n + (573 : Int32) = nI (n + 573) := nI_add n 573
theorem li_a585 (n : Nat) : (585 : Int32) + nI n = nI (585 + n) := nI_add 585 n
theorem li_b585 (n : Nat) : nI n + (585 : Int32) = nI (n + 585) := nI_add n 585
theorem li_a633 (n : Nat) : (633 : Int32) + nI n = nI (633 + n) := nI_add 633 n
theorem li_b633 (n : Nat) : nI n + (633 : Int32) = nI (n + 633) := nI_add n 633
theorem li_m3 (n : Nat) : (3 : Int32) * nI n = nI (3 * n) := pk_mul 3 n
theorem li_n3 (n : Nat) : nI n * (3 : Int32) = nI (n * 3) := pk_mul n 3
theorem li_m4 (n : Nat) : (4 : Int32) * nI n = nI (4 * n) := pk_mul 4 n
theorem li_n4 (n : Nat) : nI n * (4 : Int32) = nI (n * 4) := pk_mul n 4
theorem li_m48 (n : Nat) : (48 : Int32) * nI n = nI (48 * n) := pk_mul 48 n
theorem li_n48 (n : Nat) : nI n * (48 : Int32) = nI (n * 48) := pk_mul n 48
theorem li_m50 (n : Nat) : (50 : Int32) * nI n = nI (50 * n) := pk_mul 50 n
theorem li_n50 (n : Nat) : nI n * (50 : Int32) = nI (n * 50) := pk_mul n 50
theorem li_m585 (n : Nat) : (585 : Int32) * nI n = nI (585 * n) := pk_mul 585 n
theorem li_n585 (n : Nat) : nI n * (585 : Int32) = nI (n * 585) := pk_mul n 585
theorem li_m633 (n : Nat) : (633 : Int32) * nI n = nI (633 * n) := pk_mul 633 n
theorem li_n633 (n : Nat) : nI n * (633 : Int32) = nI (n * 633) := pk_mul n 633
theorem li_lt2 {n : Nat} (h : n < 2 ^ 31) : nI n < (2 : Int32) ↔ n < 2 := nI_ltI (b := 2) h (by decide)
theorem li_ge2 {n : Nat} (h : n < 2 ^ 31) : (2 : Int32) ≤ nI n ↔ 2 ≤ n := nI_leI (a := 2) (by decide) h
theorem li_le2 {n : Nat} (h : n < 2 ^ 31) : nI n ≤ (2 : Int32) ↔ n ≤ 2 := nI_leI (b := 2) h (by decide)
theorem li_gt2 {n : Nat} (h : n < 2 ^ 31) : (2 : Int32) < nI n ↔ 2 < n := nI_ltI (a := 2) (by decide) h
theorem li_lt1 {n : Nat} (h : n < 2 ^ 31) : nI n < (1 : Int32) ↔ n < 1 := nI_ltI (b := 1) h (by decide)
theorem li_ge1 {n : Nat} (h : n < 2 ^ 31) : (1 : Int32) ≤ nI n ↔ 1 ≤ n := nI_leI (a := 1) (by decide) h
theorem li_le1 {n : Nat} (h : n < 2 ^ 31) : nI n ≤ (1 : Int32) ↔ n ≤ 1 := nI_leI (b := 1) h (by decide)
theorem li_gt1 {n : Nat} (h : n < 2 ^ 31) : (1 : Int32) < nI n ↔ 1 < n := nI_ltI (a := 1) (by decide) h
theorem li_lt3 {n : Nat} (h : n < 2 ^ 31) : nI n < (3 : Int32) ↔ n < 3 := nI_ltI (b := 3) h (by decide)
theorem li_ge3 {n : Nat} (h : n < 2 ^ 31) : (3 : Int32) ≤ nI n ↔ 3 ≤ n := nI_leI (a := 3) (by decide) h
theorem li_le3 {n : Nat} (h : n < 2 ^ 31) : nI n ≤ (3 : Int32) ↔ n ≤ 3 := nI_leI (b := 3) h (by decide)
theorem li_gt3 {n : Nat} (h : n < 2 ^ 31) : (3 : Int32) < nI n ↔ 3 < n := nI_ltI (a := 3) (by decide) h
theorem li_lt4 {n : Nat} (h : n < 2 ^ 31) : nI n < (4 : Int32) ↔ n < 4 := nI_ltI (b := 4) h (by decide)
theorem li_ge4 {n : Nat} (h : n < 2 ^ 31) : (4 : Int32) ≤ nI n ↔ 4 ≤ n := nI_leI (a := 4) (by decide) h
theorem li_le4 {n : Nat} (h : n < 2 ^ 31) : nI n ≤ (4 : Int32) ↔ n ≤ 4 := nI_leI (b := 4) h (by decide)
theorem li_gt4 {n : Nat} (h : n < 2 ^ 31) : (4 : Int32) < nI n ↔ 4 < n := nI_ltI (a := 4) (by decide) h
theorem li_lt7 {n : Nat} (h : n < 2 ^ 31) : nI n < (7 : Int32) ↔ n < 7 := nI_ltI (b := 7) h (by decide)
theorem li_ge7 {n : Nat} (h : n < 2 ^ 31) : (7 : Int32) ≤ nI n ↔ 7 ≤ n := nI_leI (a := 7) (by decide) h
theorem li_le7 {n : Nat} (h : n < 2 ^ 31) : nI n ≤ (7 : Int32) ↔ n ≤ 7 := nI_leI (b := 7) h (by decide)
theorem li_gt7 {n : Nat} (h : n < 2 ^ 31) : (7 : Int32) < nI n ↔ 7 < n := nI_ltI (a := 7) (by decide) h
theorem li_lt8 {n : Nat} (h : n < 2 ^ 31) : nI n < (8 : Int32) ↔ n < 8 := nI_ltI (b := 8) h (by decide)
theorem li_ge8 {n : Nat} (h : n < 2 ^ 31) : (8 : Int32) ≤ nI n ↔ 8 ≤ n := nI_leI (a := 8) (by decide) h
theorem li_le8 {n : Nat} (h : n < 2 ^ 31) : nI n ≤ (8 : Int32) ↔ n ≤ 8 := nI_leI (b := 8) h (by decide)
theorem li_gt8 {n : Nat} (h : n < 2 ^ 31) : (8 : Int32) < nI n ↔ 8 < n := nI_ltI (a := 8) (by decide) h
theorem li_lt40 {n : Nat} (h : n < 2 ^ 31) : nI n < (40 : Int32) ↔ n < 40 := nI_ltI (b := 40) h (by decide)
theorem li_ge40 {n : Nat} (h : n < 2 ^ 31) : (40 : Int32) ≤ nI n ↔ 40 ≤ n := nI_leI (a := 40) (by decide) h
theorem li_le40 {n : Nat} (h : n < 2 ^ 31) : nI n ≤ (40 : Int32) ↔ n ≤ 40 := nI_leI (b := 40) h (by decide)
theorem li_gt40 {n : Nat} (h : n < 2 ^ 31) : (40 : Int32) < nI n ↔ 40 < n := nI_ltI (a := 40) (by decide) h
theorem li_lt240 {n : Nat} (h : n < 2 ^ 31) : nI n < (240 : Int32) ↔ n < 240 := nI_ltI (b := 240) h (by decide)
theorem li_ge240 {n : Nat} (h : n < 2 ^ 31) : (240 : Int32) ≤ nI n ↔ 240 ≤ n := nI_leI (a := 240) (by decide) h
theorem li_le240 {n : Nat} (h : n < 2 ^ 31) : nI n ≤ (240 : Int32) ↔ n ≤ 240 := nI_leI (b := 240) h (by decide)
theorem li_gt240 {n : Nat} (h : n < 2 ^ 31) : (240 : Int32) < nI n ↔ 240 < n := nI_ltI (a := 240) (by decide) h
theorem li_lt41 {n : Nat} (h : n < 2 ^ 31) : nI n < (41 : Int32) ↔ n < 41 := nI_ltI (b := 41) h (by decide)
theorem li_ge41 {n : Nat} (h : n < 2 ^ 31) : (41 : Int32) ≤ nI n ↔ 41 ≤ n := nI_leI (a := 41) (by decide) h
theorem li_le41 {n : Nat} (h : n < 2 ^ 31) : nI n ≤ (41 : Int32) ↔ n ≤ 41 := nI_leI (b := 41) h (by decide)
theorem li_gt41 {n : Nat} (h : n < 2 ^ 31) : (41 : Int32) < nI n ↔ 41 < n := nI_ltI (a := 41) (by decide) h
theorem li_lt48 {n : Nat} (h : n < 2 ^ 31) : nI n < (48 : Int32) ↔ n < 48 := nI_ltI (b := 48) h (by decide)
theorem li_ge48 {n : Nat} (h : n < 2 ^ 31) : (48 : Int32) ≤ nI n ↔ 48 ≤ n := nI_leI (a := 48) (by decide) h
theorem li_le48 {n : Nat} (h : n < 2 ^ 31) : nI n ≤ (48 : Int32) ↔ n ≤ 48 := nI_leI (b := 48) h (by decide)
theorem li_gt48 {n : Nat} (h : n < 2 ^ 31) : (48 : Int32) < nI n ↔ 48 < n := nI_ltI (a := 48) (by decide) h
theorem li_lt49 {n : Nat} (h : n < 2 ^ 31) : nI n < (49 : Int32) ↔ n < 49 := nI_ltI (b := 49) h (by decide)
theorem li_ge49 {n : Nat} (h : n < 2 ^ 31) : (49 : Int32) ≤ nI n ↔ 49 ≤ n := nI_leI (a := 49) (by decide) h
theorem li_le49 {n : Nat} (h : n < 2 ^ 31) : nI n ≤ (49 : Int32) ↔ n ≤ 49 := nI_leI (b := 49) h (by decide)
theorem li_gt49 {n : Nat} (h : n < 2 ^ 31) : (49 : Int32) < nI n ↔ 49 < n := nI_ltI (a := 49) (by decide) h
theorem li_lt60 {n : Nat} (h : n < 2 ^ 31) : nI n < (60 : Int32) ↔ n < 60 := nI_ltI (b := 60) h (by decide)
theorem li_ge60 {n : Nat} (h : n < 2 ^ 31) : (60 : Int32) ≤ nI n ↔ 60 ≤ n := nI_leI (a := 60) (by decide) h
theorem li_le60 {n : Nat} (h : n < 2 ^ 31) : nI n ≤ (60 : Int32) ↔ n ≤ 60 := nI_leI (b := 60) h (by decide)
theorem li_gt60 {n : Nat} (h : n < 2 ^ 31) : (60 : Int32) < nI n ↔ 60 < n := nI_ltI (a := 60) (by decide) h
theorem li_lt144 {n : Nat} (h : n < 2 ^ 31) : nI n < (144 : Int32) ↔ n < 144 := nI_ltI (b := 144) h (by decide)
theorem li_ge144 {n : Nat} (h : n < 2 ^ 31) : (144 : Int32) ≤ nI n ↔ 144 ≤ n := nI_leI (a := 144) (by decide) h
theorem li_le144 {n : Nat} (h : n < 2 ^ 31) : nI n ≤ (144 : Int32) ↔ n ≤ 144 := nI_leI (b := 144) h (by decide)
theorem li_gt144 {n : Nat} (h : n < 2 ^ 31) : (144 : Int32) < nI n ↔ 144 < n := nI_ltI (a := 144) (by decide) h
theorem li_lt145 {n : Nat} (h : n < 2 ^ 31) : nI n < (145 : Int32) ↔ n < 145 := nI_ltI (b := 145) h (by decide)
theorem li_ge145 {n : Nat} (h : n < 2 ^ 31) : (145 : Int32) ≤ nI n ↔ 145 ≤ n := nI_leI (a := 145) (by decide) h
theorem li_le145 {n : Nat} (h : n < 2 ^ 31) : nI n ≤ (145 : Int32) ↔ n ≤ 145 := nI_leI (b := 145) h (by decide)
theorem li_gt145 {n : Nat} (h : n < 2 ^ 31) : (145 : Int32) < nI n ↔ 145 < n := nI_ltI (a := 145) (by decide) h
theorem li_lt160 {n : Nat} (h : n < 2 ^ 31) : nI n < (160 : Int32) ↔ n < 160 := nI_ltI (b := 160) h (by decide)
theorem li_ge160 {n : Nat} (h : n < 2 ^ 31) : (160 : Int32) ≤ nI n ↔ 160 ≤ n := nI_leI (a := 160) (by decide) h
theorem li_le160 {n : Nat} (h : n < 2 ^ 31) : nI n ≤ (160 : Int32) ↔ n ≤ 160 := nI_leI (b := 160) h (by decide)
theorem li_gt160 {n : Nat} (h : n < 2 ^ 31) : (160 : Int32) < nI n ↔ 160 < n := nI_ltI (a := 160) (by decide) h
theorem li_lt336 {n : Nat} (h : n < 2 ^ 31) : nI n < (336 : Int32) ↔ n < 336 := nI_ltI (b := 336) h (by decide)
theorem li_ge336 {n : Nat} (h : n < 2 ^ 31) : (336 : Int32) ≤ nI n ↔ 336 ≤ n := nI_leI (a := 336) (by decide) h
theorem li_le336 {n : Nat} (h : n < 2 ^ 31) : nI n ≤ (336 : Int32) ↔ n ≤ 336 := nI_leI (b := 336) h (by decide)
theorem li_gt336 {n : Nat} (h : n < 2 ^ 31) : (336 : Int32) < nI n ↔ 336 < n := nI_ltI (a := 336) (by decide) h
theorem li_lt585 {n : Nat} (h : n < 2 ^ 31) : nI n < (585 : Int32) ↔ n < 585 := nI_ltI (b := 585) h (by decide)
theorem li_ge585 {n : Nat} (h : n < 2 ^ 31) : (585 : Int32) ≤ nI n ↔ 585 ≤ n := nI_leI (a := 585) (by decide) h
theorem li_le585 {n : Nat} (h : n < 2 ^ 31) : nI n ≤ (585 : Int32) ↔ n ≤ 585 := nI_leI (b := 585) h (by decide)
theorem li_gt585 {n : Nat} (h : n < 2 ^ 31) : (585 : Int32) < nI n ↔ 585 < n := nI_ltI (a := 585) (by decide) h
theorem li_lt633 {n : Nat} (h : n < 2 ^ 31) : nI n < (633 : Int32) ↔ n < 633 := nI_ltI (b := 633) h (by decide)
theorem li_ge633 {n : Nat} (h : n < 2 ^ 31) : (633 : Int32) ≤ nI n ↔ 633 ≤ n := nI_leI (a := 633) (by decide) h
theorem li_le633 {n : Nat} (h : n < 2 ^ 31) : nI n ≤ (633 : Int32) ↔ n ≤ 633 := nI_leI (b := 633) h (by decide)
theorem li_gt633 {n : Nat} (h : n < 2 ^ 31) : (633 : Int32) < nI n ↔ 633 < n := nI_ltI (a := 633) (by decide) h
theorem li_lt1000000 {n : Nat} (h : n < 2 ^ 31) : nI n < (1000000 : Int32) ↔ n < 1000000 := nI_ltI (b := 1000000) h (by decide)
theorem li_ge1000000 {n : Nat} (h : n < 2 ^ 31) : (1000000 : Int32) ≤ nI n ↔ 1000000 ≤ n := nI_leI (a := 1000000) (by decide) h
theorem li_le1000000 {n : Nat} (h : n < 2 ^ 31) : nI n ≤ (1000000 : Int32) ↔ n ≤ 1000000 := nI_leI (b := 1000000) h (by decide)
theorem li_gt1000000 {n : Nat} (h : n < 2 ^ 31) : (1000000 : Int32) < nI n ↔ 1000000 < n := nI_ltI (a := 1000000) (by decide) h
theorem li_lt2304 {n : Nat} (h : n < 2 ^ 31) : nI n < (2304 : Int32) ↔ n < 2304 := nI_ltI (b := 2304) h (by decide)
theorem li_ge2304 {n : Nat} (h : n < 2 ^ 31) : (2304 : Int32) ≤ nI n ↔ 2304 ≤ n := nI_leI (a := 2304) (by decide) h
theorem li_le2304 {n : Nat} (h : n < 2 ^ 31) : nI n ≤ (2304 : Int32) ↔ n ≤ 2304 := nI_leI (b := 2304) h (by decide)
theorem li_gt2304 {n : Nat} (h : n < 2 ^ 31) : (2304 : Int32) < nI n ↔ 2304 < n := nI_ltI (a := 2304) (by decide) h
theorem li_lt50 {n : Nat} (h : n < 2 ^ 31) : nI n < (50 : Int32) ↔ n < 50 := nI_ltI (b := 50) h (by decide)
theorem li_ge50 {n : Nat} (h : n < 2 ^ 31) : (50 : Int32) ≤ nI n ↔ 50 ≤ n := nI_leI (a := 50) (by decide) h
theorem li_le50 {n : Nat} (h : n < 2 ^ 31) : nI n ≤ (50 : Int32) ↔ n ≤ 50 := nI_leI (b := 50) h (by decide)
theorem li_gt50 {n : Nat} (h : n < 2 ^ 31) : (50 : Int32) < nI n ↔ 50 < n := nI_ltI (a := 50) (by decide) h
theorem li_0le {n : Nat} (h : n < 2 ^ 31) : (0 : Int32) ≤ nI n ↔ True := ⟨fun _ => True.intro, fun _ => nI_pos' h⟩
theorem li_lt0 {n : Nat} (h : n < 2 ^ 31) : nI n < (0 : Int32) ↔ False := ⟨fun q => nI_pos h q, fun q => q.elim⟩
theorem li_le0 {n : Nat} (h : n < 2 ^ 31) : nI n ≤ (0 : Int32) ↔ n ≤ 0 := nI_leI (b := 0) h (by decide)
theorem li_gt0 {n : Nat} (h : n < 2 ^ 31) : (0 : Int32) < nI n ↔ 0 < n := nI_ltI (a := 0) (by decide) h
theorem li_nn1 {n : Nat} (h : n < 2 ^ 31) : nI n = (-1 : Int32) ↔ False := by
  refine ⟨fun q => ?_, fun q => q.elim⟩
  have h1 := nI_toInt h
  rw [q] at h1
  have h2 : (-1 : Int32).toInt = -1 := by decide
  omega
theorem li_e0 {n : Nat} (h : n < 2 ^ 31) : nI n = (0 : Int32) ↔ n = 0 := nI_eq (b := 0) h (by decide)
theorem li_vin {n N : Nat} (h : n < N) (hN : N < 2 ^ 31) : vp_in (nI n) N ↔ True := ⟨fun _ => True.intro, fun _ => vp_in_nI h hN⟩
theorem li_us {f : Nat → Int32} {k j : Nat} {x : Int32} (h : j = k) : upd f k x j = x := if_pos h
/-- a long by its bits -/
def by_b (w : Int64) (i : Nat) : Bool := w.toBitVec.getLsbD i
theorem by_ext {x y : Int64} (h : ∀ i, i < 64 → by_b x i = by_b y i) : x = y := Int64.toBitVec_inj.mp (BitVec.eq_of_getLsbD_eq (fun i hi => h i hi))
theorem by_or (x y : Int64) (i : Nat) : by_b (x ||| y) i = (by_b x i || by_b y i) := by unfold by_b; rw [Int64.toBitVec_or, BitVec.getLsbD_or]
theorem by_and (x y : Int64) (i : Nat) : by_b (x &&& y) i = (by_b x i && by_b y i) := by unfold by_b; rw [Int64.toBitVec_and, BitVec.getLsbD_and]
theorem by_not (x : Int64) {i : Nat} (hi : i < 64) : by_b (x ^^^ (-1)) i = !(by_b x i) := by
  have ha : (-1 : Int64).toBitVec = BitVec.allOnes 64 := by decide
  unfold by_b
  rw [Int64.toBitVec_xor, ha, BitVec.getLsbD_xor, BitVec.getLsbD_allOnes, decide_eq_true hi, Bool.xor_true]
theorem by_0 (i : Nat) : by_b 0 i = false := BitVec.getLsbD_zero
theorem by_s : ∀ n, n < 64 → (((nI n).toInt64 &&& 63).toBitVec.smod 64).toNat = n := by decide +kernel
theorem by_one {k : Nat} (hk : k < 64) : ((1 : Int64) <<< ((nI k).toInt64 &&& 63)).toBitVec = BitVec.twoPow 64 k := by
  rw [Int64.toBitVec_shiftLeft]
  show (1#64 <<< (((nI k).toInt64 &&& 63).toBitVec.smod 64).toNat) = _
  rw [by_s k hk]
  rfl
theorem by_shl {k i : Nat} (hk : k < 64) : by_b ((1 : Int64) <<< ((nI k).toInt64 &&& 63)) i = decide (k = i) := by
  unfold by_b
  rw [by_one hk, BitVec.getLsbD_twoPow]
  simp [hk]
theorem by_full {i : Nat} (hi : i < 64) : by_b 281474976710655 i = decide (i < 48) :=
  (by decide +kernel : ∀ i, i < 64 → by_b 281474976710655 i = decide (i < 48)) i hi
theorem by_shr (w : Int64) {k : Nat} (hk : k < 64) : (w >>> ((nI k).toInt64 &&& 63)).toBitVec.getLsbD 0 = by_b w k := by
  rw [Int64.toBitVec_shiftRight]
  show (w.toBitVec.sshiftRight (((nI k).toInt64 &&& 63).toBitVec.smod 64).toNat).getLsbD 0 = _
  rw [by_s k hk, BitVec.getLsbD_sshiftRight]
  unfold by_b
  simp [hk]
theorem by_t1 (w : Int64) : (w &&& 1) = 1 ↔ w.toBitVec.getLsbD 0 = true := by
  rw [← Int64.toBitVec_inj, Int64.toBitVec_and]
  show w.toBitVec &&& 1#64 = 1#64 ↔ _
  constructor
  · intro h
    have t := congrArg (fun x => x.getLsbD 0) h
    simpa using t
  · intro h
    apply BitVec.eq_of_getLsbD_eq
    intro i hi
    cases i with
    | zero => simp [h]
    | succ i => simp
theorem by_t0 (w : Int64) : (w &&& 1) = 0 ↔ w.toBitVec.getLsbD 0 = false := by
  rw [← Int64.toBitVec_inj, Int64.toBitVec_and]
  show w.toBitVec &&& 1#64 = 0#64 ↔ _
  constructor
  · intro h
    have t := congrArg (fun x => x.getLsbD 0) h
    simpa using t
  · intro h
    apply BitVec.eq_of_getLsbD_eq
    intro i hi
    cases i with
    | zero =>
      have h' : w.toBitVec[0] = false := by simpa using h
      simp [h']
    | succ i => simp
theorem by_is1 (w : Int64) {k : Nat} (hk : k < 64) : ((w >>> ((nI k).toInt64 &&& 63)) &&& 1) = 1 ↔ by_b w k = true := by
  rw [by_t1, by_shr w hk]
theorem by_is0 (w : Int64) {k : Nat} (hk : k < 64) : ((w >>> ((nI k).toInt64 &&& 63)) &&& 1) = 0 ↔ by_b w k = false := by
  rw [by_t0, by_shr w hk]
end
section
/-- counting -/
def ma_cnt (p : Nat → Bool) : Nat → Nat
  | 0 => 0
  | n + 1 => ma_cnt p n + (if p n = true then 1 else 0)
theorem ma_cnt_le (p : Nat → Bool) : ∀ n, ma_cnt p n ≤ n := by
  intro n
  induction n with
  | zero => exact Nat.le_refl _
  | succ n ih =>
    show ma_cnt p n + (if p n = true then 1 else 0) ≤ n + 1
    split <;> omega
theorem ma_cnt_mono {p q : Nat → Bool} : ∀ n, (∀ i, i < n → p i = true → q i = true) → ma_cnt p n ≤ ma_cnt q n := by
  intro n
  induction n with
  | zero => intro _; exact Nat.le_refl _
  | succ n ih =>
    intro h
    have h1 := ih (fun i hi => h i (by omega))
    have h2 := h n (by omega)
    show ma_cnt p n + (if p n = true then 1 else 0) ≤ ma_cnt q n + (if q n = true then 1 else 0)
    by_cases a : p n = true
    · rw [if_pos a, if_pos (h2 a)]; omega
    · rw [if_neg a]; split <;> omega
theorem ma_cnt_lt {p q : Nat → Bool} : ∀ n, (∀ i, i < n → p i = true → q i = true) → (∃ i, i < n ∧ q i = true ∧ ¬ p i = true) → ma_cnt p n < ma_cnt q n := by
  intro n
  induction n with
  | zero => intro _ h; obtain ⟨i, hi, _⟩ := h; omega
  | succ n ih =>
    intro h hx
    have h2 := h n (by omega)
    have h1 := ma_cnt_mono n (fun i hi => h i (by omega))
    show ma_cnt p n + (if p n = true then 1 else 0) < ma_cnt q n + (if q n = true then 1 else 0)
    obtain ⟨i, hi, hq, hp⟩ := hx
    by_cases e : i = n
    · rw [e] at hq hp
      rw [if_neg hp, if_pos hq]; omega
    · have h3 := ih (fun i hi => h i (by omega)) ⟨i, by omega, hq, hp⟩
      by_cases a : p n = true
      · rw [if_pos a, if_pos (h2 a)]; omega
      · rw [if_neg a]; split <;> omega
theorem ma_cnt_congr {p q : Nat → Bool} (n : Nat) (h : ∀ i, i < n → p i = q i) : ma_cnt p n = ma_cnt q n :=
  Nat.le_antisymm (ma_cnt_mono n (fun i hi a => by rw [← h i hi]; exact a)) (ma_cnt_mono n (fun i hi a => by rw [h i hi]; exact a))
theorem ma_cnt_full {p : Nat → Bool} : ∀ n, n ≤ ma_cnt p n → ∀ i, i < n → p i = true := by
  intro n h i hi
  apply Classical.byContradiction
  intro hp
  have h1 : ma_cnt p n < ma_cnt (fun _ => true) n := ma_cnt_lt n (fun _ _ _ => rfl) ⟨i, hi, rfl, hp⟩
  have h2 := ma_cnt_le (fun _ => true) n
  omega
/-- an injective row into n places is no longer than n -/
theorem ma_php : ∀ (n m : Nat) (f : Nat → Nat), (∀ i, i < m → f i < n) → (∀ i j, i < j → j < m → f i ≠ f j) → m ≤ n := by
  intro n
  induction n with
  | zero =>
    intro m f h _
    cases m with
    | zero => exact Nat.le_refl _
    | succ m => have := h 0 (by omega); omega
  | succ n ih =>
    intro m f h hj
    cases m with
    | zero => omega
    | succ m =>
      by_cases hx : ∃ i, i < m ∧ f i = n
      · obtain ⟨i0, hi0, e0⟩ := hx
        have hm : f m ≠ n := by rw [← e0]; exact fun z => hj i0 m hi0 (by omega) z.symm
        have := ih m (fun i => if i = i0 then f m else f i) (by
          intro i hi
          show (if i = i0 then f m else f i) < n
          split
          · have := h m (by omega); omega
          · rename_i hne
            have h1 := h i (by omega)
            have h2 : f i ≠ n := by
              rw [← e0]
              rcases Nat.lt_or_gt_of_ne hne with q | q
              · exact hj i i0 q (by omega)
              · exact fun z => hj i0 i q (by omega) z.symm
            omega) (by
          intro i j hij hjm
          show (if i = i0 then f m else f i) ≠ (if j = i0 then f m else f j)
          by_cases a : i = i0
          · rw [if_pos a, if_neg (by omega)]
            exact fun z => hj j m hjm (by omega) z.symm
          · rw [if_neg a]
            by_cases b : j = i0
            · rw [if_pos b]; exact hj i m (by omega) (by omega)
            · rw [if_neg b]; exact hj i j hij (by omega))
        omega
      · have := ih m f (by
          intro i hi
          have h1 := h i (by omega)
          have h2 : f i ≠ n := fun z => hx ⟨i, hi, z⟩
          omega) (fun i j a b => hj i j a (by omega))
        omega
/-- how many PARTS a kind's code has -/
def ma_ct (k : Int32) : Nat := if k.toNatClampNeg < 2 then 0 else (k.toNatClampNeg - 2) % 4
theorem ma_ct_le (k : Int32) : ma_ct k ≤ 3 := by
  unfold ma_ct; split <;> omega
abbrev ma_0 : Nat → Nat → Prop := fun _ _ => False
/-- what was told: who has a value, its code and number, its parts -/
abbrev ma_T : Type := (Nat → Prop) × (Nat → Int32 × Int32) × (Nat → Nat → Nat)
def ma_Eqv (E : Nat → Nat → Prop) : Prop := (∀ x, E x x) ∧ (∀ x y, E x y → E y x) ∧ (∀ x y z, E x y → E y z → E x z)
def ma_PC (T : ma_T) (E : Nat → Nat → Prop) : Prop := ∀ c d, T.1 c → T.1 d → E c d → T.2.1 c = T.2.1 d → ∀ k, k < ma_ct (T.2.1 c).1 → E (T.2.2 c k) (T.2.2 d k)
def ma_Bad (T : ma_T) (E : Nat → Nat → Prop) : Prop := ∃ c d, T.1 c ∧ T.1 d ∧ E c d ∧ T.2.1 c ≠ T.2.1 d
def ma_Sub (T T' : ma_T) (E : Nat → Nat → Prop) : Prop := ∀ c, T.1 c → ∃ d, T'.1 d ∧ E c d ∧ T'.2.1 d = T.2.1 c ∧ ∀ k, k < ma_ct (T.2.1 c).1 → E (T.2.2 c k) (T'.2.2 d k)
theorem ma_PC_sub {T T' : ma_T} {E : Nat → Nat → Prop} (e : ma_Eqv E) (s : ma_Sub T T' E) (h : ma_PC T' E) : ma_PC T E := by
  intro c d hc hd hE hs k hk
  obtain ⟨c', c1, c2, c3, c4⟩ := s c hc
  obtain ⟨d', d1, d2, d3, d4⟩ := s d hd
  have hE' : E c' d' := e.2.2 _ _ _ (e.2.1 _ _ c2) (e.2.2 _ _ _ hE d2)
  have h1 := h c' d' c1 d1 hE' (by rw [c3, d3, hs]) k (by rw [c3]; exact hk)
  exact e.2.2 _ _ _ (c4 k hk) (e.2.2 _ _ _ h1 (e.2.1 _ _ (d4 k (by rw [← hs]; exact hk))))
theorem ma_Bad_sub {T T' : ma_T} {E : Nat → Nat → Prop} (e : ma_Eqv E) (s : ma_Sub T T' E) (h : ma_Bad T E) : ma_Bad T' E := by
  obtain ⟨c, d, hc, hd, hE, hs⟩ := h
  obtain ⟨c', c1, c2, c3, _⟩ := s c hc
  obtain ⟨d', d1, d2, d3, _⟩ := s d hd
  exact ⟨c', d', c1, d1, e.2.2 _ _ _ (e.2.1 _ _ c2) (e.2.2 _ _ _ hE d2), by rw [c3, d3]; exact hs⟩
theorem ma_Sub_mono {T T' : ma_T} {E E' : Nat → Nat → Prop} (h : ∀ x y, E x y → E' x y) (s : ma_Sub T T' E) : ma_Sub T T' E' := by
  intro c hc
  obtain ⟨d, d1, d2, d3, d4⟩ := s c hc
  exact ⟨d, d1, h _ _ d2, d3, fun k hk => h _ _ (d4 k hk)⟩
theorem ma_Sub_trans {T T' T'' : ma_T} {E : Nat → Nat → Prop} (e : ma_Eqv E) (s : ma_Sub T T' E) (s' : ma_Sub T' T'' E) : ma_Sub T T'' E := by
  intro c hc
  obtain ⟨d, d1, d2, d3, d4⟩ := s c hc
  obtain ⟨f, f1, f2, f3, f4⟩ := s' d d1
  exact ⟨f, f1, e.2.2 _ _ _ d2 f2, by rw [f3, d3], fun k hk => e.2.2 _ _ _ (d4 k hk) (f4 k (by rw [d3]; exact hk))⟩
theorem ma_Sub_refl {T : ma_T} {E : Nat → Nat → Prop} (e : ma_Eqv E) : ma_Sub T T E :=
  fun c hc => ⟨c, hc, e.1 _, rfl, fun _ _ => e.1 _⟩
/-- the relations that hold all that is told: SAME is the least of them -/
def ma_F (U : Nat → Prop) (L : Nat → Nat) (T : ma_T) (Q : Nat → Nat → Prop) (E : Nat → Nat → Prop) : Prop :=
  ma_Eqv E ∧ (∀ x, U x → E x (L x)) ∧ (∀ x y, Q x y → E x y) ∧ ma_PC T E
def ma_W (U : Nat → Prop) (L : Nat → Nat) : Prop := ∀ x, U x → x < 48 ∧ U (L x) ∧ L (L x) = L x ∧ L x ≤ x
def ma_K (U : Nat → Prop) (L : Nat → Nat) (x y : Nat) : Prop := x = y ∨ (U x ∧ U y ∧ L x = L y)
theorem ma_K_eqv (U : Nat → Prop) (L : Nat → Nat) : ma_Eqv (ma_K U L) := by
  refine ⟨fun x => Or.inl rfl, ?_, ?_⟩
  · intro x y h
    rcases h with h | ⟨a, b, c⟩
    · exact Or.inl h.symm
    · exact Or.inr ⟨b, a, c.symm⟩
  · intro x y z h g
    rcases h with h | ⟨a, b, c⟩
    · rw [h]; exact g
    · rcases g with g | ⟨a', b', c'⟩
      · rw [← g]; exact Or.inr ⟨a, b, c⟩
      · exact Or.inr ⟨a, b', c.trans c'⟩
theorem ma_K_sub {U : Nat → Prop} {L : Nat → Nat} {E : Nat → Nat → Prop} (e : ma_Eqv E) (h : ∀ x, U x → E x (L x)) : ∀ x y, ma_K U L x y → E x y := by
  intro x y k
  rcases k with k | ⟨a, b, c⟩
  · rw [k]; exact e.1 _
  · have h1 := h x a
    have h2 := h y b
    rw [← c] at h2
    exact e.2.2 _ _ _ h1 (e.2.1 _ _ h2)
/-- two told systems that are one up to SAME have the same relations -/
theorem ma_F_sub {U : Nat → Prop} {L : Nat → Nat} {T T' : ma_T} {Q E : Nat → Nat → Prop} (s : ma_Sub T T' (ma_K U L)) (h : ma_F U L T' Q E) : ma_F U L T Q E :=
  ⟨h.1, h.2.1, h.2.2.1, ma_PC_sub h.1 (ma_Sub_mono (ma_K_sub h.1 h.2.1) s) h.2.2.2⟩
theorem ma_Bad_subF {U : Nat → Prop} {L : Nat → Nat} {T T' : ma_T} {Q E : Nat → Nat → Prop} (s : ma_Sub T T' (ma_K U L)) (h : ma_F U L T' Q E) (b : ma_Bad T E) : ma_Bad T' E :=
  ma_Bad_sub h.1 (ma_Sub_mono (ma_K_sub h.1 h.2.1) s) b
/-- the told system of a store that keeps one value a class, at its least -/
def ma_X (U : Nat → Prop) (L : Nat → Nat) (K V : Nat → Int32) (P : Nat → Nat → Nat) : ma_T := (fun c => U c ∧ L c = c ∧ K c ≠ 0, fun c => (K c, V c), P)
theorem ma_X_fin {U : Nat → Prop} {L : Nat → Nat} {K V : Nat → Int32} {P : Nat → Nat → Nat} (w : ma_W U L) : ma_F U L (ma_X U L K V P) (fun _ _ => False) (ma_K U L) ∧ ¬ ma_Bad (ma_X U L K V P) (ma_K U L) := by
  have one : ∀ c d, (ma_X U L K V P).1 c → (ma_X U L K V P).1 d → ma_K U L c d → c = d := by
    intro c d hc hd h
    rcases h with h | ⟨_, _, h⟩
    · exact h
    · obtain ⟨_, h1, _⟩ := hc
      obtain ⟨_, h2, _⟩ := hd
      omega
  refine ⟨⟨ma_K_eqv U L, fun x hx => Or.inr ⟨hx, (w x hx).2.1, ((w x hx).2.2.1).symm⟩, fun _ _ h => h.elim, ?_⟩, ?_⟩
  · intro c d hc hd h _ k _
    rw [one c d hc hd h]
    exact Or.inl rfl
  · intro ⟨c, d, hc, hd, h, hs⟩
    exact hs (by rw [one c d hc hd h])
/-- a join of the classes lo and hi -/
def ma_J (U : Nat → Prop) (lo hi : Nat) (L L' : Nat → Nat) (K V K' V' : Nat → Int32) (P P' : Nat → Nat → Nat) : Prop :=
  (∀ x, U x → L' x = if L x = hi then lo else L x) ∧
  (K lo = 0 → K' lo = K hi ∧ V' lo = V hi ∧ ∀ k, k < 3 → P' lo k = P hi k) ∧
  (K lo ≠ 0 → K' lo = K lo ∧ V' lo = V lo ∧ ∀ k, k < 3 → P' lo k = P lo k) ∧
  (∀ c, U c → c ≠ lo → K' c = K c ∧ V' c = V c ∧ ∀ k, k < 3 → P' c k = P c k)
theorem ma_J_1 {U : Nat → Prop} {lo hi : Nat} {L L' : Nat → Nat} {K V K' V' : Nat → Int32} {P P' : Nat → Nat → Nat} {E : Nat → Nat → Prop} (j : ma_J U lo hi L L' K V K' V' P P') (hlo : U lo) (llo : L lo = lo) (lt : lo < hi) (e : ma_Eqv E) (hE : E lo hi) (hp : K lo ≠ 0 → K hi ≠ 0 → (K lo, V lo) = (K hi, V hi) ∧ ∀ k, k < ma_ct (K lo) → E (P lo k) (P hi k)) : ma_Sub (ma_X U L K V P) (ma_X U L' K' V' P') E := by
  obtain ⟨jl, j0, j1, j2⟩ := j
  intro c hc
  obtain ⟨hU, hL, hK⟩ := hc
  have lo' : L' lo = lo := by rw [jl lo hlo, llo, if_neg (by omega)]
  have c3 : ∀ k, k < ma_ct (K c) → k < 3 := fun k hk => Nat.lt_of_lt_of_le hk (ma_ct_le _)
  by_cases h1 : c = lo
  · subst h1
    obtain ⟨a, b, d⟩ := j1 hK
    refine ⟨c, ⟨hU, lo', by rw [a]; exact hK⟩, e.1 _, ?_, ?_⟩
    · show (K' c, V' c) = (K c, V c)
      rw [a, b]
    · intro k hk
      show E (P c k) (P' c k)
      rw [d k (c3 k hk)]; exact e.1 _
  · by_cases h2 : c = hi
    · subst h2
      by_cases h0 : K lo = 0
      · obtain ⟨a, b, d⟩ := j0 h0
        refine ⟨lo, ⟨hlo, lo', by rw [a]; exact hK⟩, e.2.1 _ _ hE, ?_, ?_⟩
        · show (K' lo, V' lo) = (K c, V c)
          rw [a, b]
        · intro k hk
          show E (P c k) (P' lo k)
          rw [d k (c3 k hk)]; exact e.1 _
      · obtain ⟨a, b, d⟩ := j1 h0
        obtain ⟨p1, p2⟩ := hp h0 hK
        refine ⟨lo, ⟨hlo, lo', by rw [a]; exact h0⟩, e.2.1 _ _ hE, ?_, ?_⟩
        · show (K' lo, V' lo) = (K c, V c)
          rw [a, b]; exact p1
        · intro k hk
          show E (P c k) (P' lo k)
          rw [d k (c3 k hk)]
          have q : K lo = K c := congrArg Prod.fst p1
          exact e.2.1 _ _ (p2 k (by rw [q]; exact hk))
    · obtain ⟨a, b, d⟩ := j2 c hU h1
      refine ⟨c, ⟨hU, by rw [jl c hU, hL, if_neg h2], by rw [a]; exact hK⟩, e.1 _, ?_, ?_⟩
      · show (K' c, V' c) = (K c, V c)
        rw [a, b]
      · intro k hk
        show E (P c k) (P' c k)
        rw [d k (c3 k hk)]; exact e.1 _
theorem ma_J_2 {U : Nat → Prop} {lo hi : Nat} {L L' : Nat → Nat} {K V K' V' : Nat → Int32} {P P' : Nat → Nat → Nat} {E : Nat → Nat → Prop} (j : ma_J U lo hi L L' K V K' V' P P') (hlo : U lo) (llo : L lo = lo) (hhi : U hi) (lhi : L hi = hi) (lt : lo < hi) (e : ma_Eqv E) (hE : E lo hi) : ma_Sub (ma_X U L' K' V' P') (ma_X U L K V P) E := by
  obtain ⟨jl, j0, j1, j2⟩ := j
  intro c hc
  obtain ⟨hU, hL, hK⟩ := hc
  have c3 : ∀ k, k < ma_ct (K' c) → k < 3 := fun k hk => Nat.lt_of_lt_of_le hk (ma_ct_le _)
  by_cases h1 : c = lo
  · subst h1
    by_cases h0 : K c = 0
    · obtain ⟨a, b, d⟩ := j0 h0
      refine ⟨hi, ⟨hhi, lhi, by rw [← a]; exact hK⟩, hE, ?_, ?_⟩
      · show (K hi, V hi) = (K' c, V' c)
        rw [a, b]
      · intro k hk
        show E (P' c k) (P hi k)
        rw [d k (c3 k hk)]; exact e.1 _
    · obtain ⟨a, b, d⟩ := j1 h0
      refine ⟨c, ⟨hU, llo, h0⟩, e.1 _, ?_, ?_⟩
      · show (K c, V c) = (K' c, V' c)
        rw [a, b]
      · intro k hk
        show E (P' c k) (P c k)
        rw [d k (c3 k hk)]; exact e.1 _
  · obtain ⟨a, b, d⟩ := j2 c hU h1
    have hl : L c = c := by
      have := jl c hU
      rw [hL] at this
      by_cases q : L c = hi
      · rw [if_pos q] at this; exact absurd this h1
      · rw [if_neg q] at this; exact this.symm
    refine ⟨c, ⟨hU, hl, by rw [← a]; exact hK⟩, e.1 _, ?_, ?_⟩
    · show (K c, V c) = (K' c, V' c)
      rw [a, b]
    · intro k hk
      show E (P' c k) (P c k)
      rw [d k (c3 k hk)]; exact e.1 _
theorem ma_J_W {U : Nat → Prop} {lo hi : Nat} {L L' : Nat → Nat} {K V K' V' : Nat → Int32} {P P' : Nat → Nat → Nat} (j : ma_J U lo hi L L' K V K' V' P P') (hlo : U lo) (llo : L lo = lo) (lt : lo < hi) (w : ma_W U L) : ma_W U L' := by
  obtain ⟨jl, _⟩ := j
  have lo' : L' lo = lo := by rw [jl lo hlo, llo, if_neg (by omega)]
  intro x hx
  obtain ⟨w1, w2, w3, w4⟩ := w x hx
  rw [jl x hx]
  by_cases q : L x = hi
  · rw [if_pos q]
    exact ⟨w1, hlo, lo', by omega⟩
  · rw [if_neg q]
    refine ⟨w1, w2, ?_, w4⟩
    rw [jl _ w2, w3, if_neg q]
theorem ma_J_F {U : Nat → Prop} {lo hi p q : Nat} {L L' : Nat → Nat} {K V K' V' : Nat → Int32} {P P' : Nat → Nat → Nat} {Q Q' : Nat → Nat → Prop} (w : ma_W U L) (up : U p) (uq : U q) (lpq : (L p = lo ∧ L q = hi) ∨ (L p = hi ∧ L q = lo)) (lt : lo < hi) (j : ma_J U lo hi L L' K V K' V' P P') (hq : Q p q)
    (hpq : K lo ≠ 0 → K hi ≠ 0 → (K lo, V lo) = (K hi, V hi))
    (hQ1 : ∀ x y, Q' x y → Q x y ∨ (K lo ≠ 0 ∧ K hi ≠ 0 ∧ ∃ k, k < ma_ct (K lo) ∧ ((x = P lo k ∧ y = P hi k) ∨ (x = P hi k ∧ y = P lo k))))
    (hQ2 : ∀ x y, Q x y → (x = p ∧ y = q) ∨ Q' x y)
    (hQ3 : K lo ≠ 0 → K hi ≠ 0 → ∀ k, k < ma_ct (K lo) → Q' (P lo k) (P hi k) ∨ Q' (P hi k) (P lo k)) :
    (∀ E, ma_F U L (ma_X U L K V P) Q E → ma_F U L' (ma_X U L' K' V' P') Q' E ∧ ma_Sub (ma_X U L K V P) (ma_X U L' K' V' P') E ∧ ma_Sub (ma_X U L' K' V' P') (ma_X U L K V P) E) ∧
    (∀ E, ma_F U L' (ma_X U L' K' V' P') Q' E → ma_F U L (ma_X U L K V P) Q E) := by
  have hh : U lo ∧ L lo = lo ∧ U hi ∧ L hi = hi := by
    have h1 := w p up
    have h2 := w q uq
    rcases lpq with ⟨a, b⟩ | ⟨a, b⟩
    · rw [a] at h1; rw [b] at h2
      exact ⟨h1.2.1, h1.2.2.1, h2.2.1, h2.2.2.1⟩
    · rw [a] at h1; rw [b] at h2
      exact ⟨h2.2.1, h2.2.2.1, h1.2.1, h1.2.2.1⟩
  obtain ⟨ulo, llo, uhi, lhi⟩ := hh
  have jl := j.1
  constructor
  · intro E hF
    obtain ⟨e, hb, hqs, pc⟩ := hF
    have hE : E lo hi := by
      have h0 := hqs p q hq
      have h1 := hb p up
      have h2 := hb q uq
      rcases lpq with ⟨a, b⟩ | ⟨a, b⟩
      · rw [a] at h1; rw [b] at h2
        exact e.2.2 _ _ _ (e.2.1 _ _ h1) (e.2.2 _ _ _ h0 h2)
      · rw [a] at h1; rw [b] at h2
        exact e.2.2 _ _ _ (e.2.1 _ _ h2) (e.2.2 _ _ _ (e.2.1 _ _ h0) h1)
    have hp : K lo ≠ 0 → K hi ≠ 0 → (K lo, V lo) = (K hi, V hi) ∧ ∀ k, k < ma_ct (K lo) → E (P lo k) (P hi k) :=
      fun z1 z2 => ⟨hpq z1 z2, fun k hk => pc lo hi ⟨ulo, llo, z1⟩ ⟨uhi, lhi, z2⟩ hE (hpq z1 z2) k hk⟩
    have s1 := ma_J_1 j ulo llo lt e hE hp
    have s2 := ma_J_2 j ulo llo uhi lhi lt e hE
    refine ⟨⟨e, ?_, ?_, ma_PC_sub e s2 pc⟩, s1, s2⟩
    · intro x hx
      rw [jl x hx]
      by_cases z : L x = hi
      · rw [if_pos z]
        have h1 := hb x hx
        rw [z] at h1
        exact e.2.2 _ _ _ h1 (e.2.1 _ _ hE)
      · rw [if_neg z]; exact hb x hx
    · intro x y hxy
      rcases hQ1 x y hxy with h | ⟨z1, z2, k, hk, h | h⟩
      · exact hqs x y h
      · rw [h.1, h.2]; exact (hp z1 z2).2 k hk
      · rw [h.1, h.2]; exact e.2.1 _ _ ((hp z1 z2).2 k hk)
  · intro E hF
    obtain ⟨e, hb, hqs, pc⟩ := hF
    have hE : E lo hi := by
      have h1 := hb hi uhi
      rw [jl hi uhi, lhi, if_pos rfl] at h1
      exact e.2.1 _ _ h1
    have hb' : ∀ x, U x → E x (L x) := by
      intro x hx
      have h1 := hb x hx
      rw [jl x hx] at h1
      by_cases z : L x = hi
      · rw [if_pos z] at h1
        rw [z]; exact e.2.2 _ _ _ h1 hE
      · rw [if_neg z] at h1; exact h1
    have hp : K lo ≠ 0 → K hi ≠ 0 → (K lo, V lo) = (K hi, V hi) ∧ ∀ k, k < ma_ct (K lo) → E (P lo k) (P hi k) := by
      intro z1 z2
      refine ⟨hpq z1 z2, fun k hk => ?_⟩
      rcases hQ3 z1 z2 k hk with h | h
      · exact hqs _ _ h
      · exact e.2.1 _ _ (hqs _ _ h)
    have s1 := ma_J_1 j ulo llo lt e hE hp
    refine ⟨e, hb', ?_, ma_PC_sub e s1 pc⟩
    intro x y hxy
    rcases hQ2 x y hxy with ⟨rfl, rfl⟩ | h
    · have h1 := hb' x up
      have h2 := hb' y uq
      rcases lpq with ⟨a, b⟩ | ⟨a, b⟩
      · rw [a] at h1; rw [b] at h2
        exact e.2.2 _ _ _ h1 (e.2.2 _ _ _ hE (e.2.1 _ _ h2))
      · rw [a] at h1; rw [b] at h2
        exact e.2.2 _ _ _ h1 (e.2.2 _ _ _ (e.2.1 _ _ hE) (e.2.1 _ _ h2))
    · exact hqs x y h
/-- the pairs that are still to be joined -/
def ma_Q (px py : Nat → Nat) (i m : Nat) (x y : Nat) : Prop := ∃ j, i ≤ j ∧ j < m ∧ x = px j ∧ y = py j
def ma_Vd (U : Nat → Prop) (L0 : Nat → Nat) (T0 : ma_T) (Q0 : Nat → Nat → Prop) (L : Nat → Nat) (K : Nat → Int32) (vd : Int32) : Prop :=
  (vd = 1 ∧ (∀ c, U c → L c = c → K c ≠ 0 → T0.1 c) ∧ ∀ c d, U c → U d → L0 c = c → L0 d = d → L c = L d → c = d ∨ (T0.1 c ∧ T0.1 d)) ∨
  (vd = 3 ∧ ∀ E, ma_F U L0 T0 Q0 E → ∃ a b, U a ∧ U b ∧ L0 a = a ∧ L0 b = b ∧ a ≠ b ∧ E a b ∧ ¬ T0.1 a)
/-- what holds in the work of joining -/
def ma_MI (U : Nat → Prop) (L0 : Nat → Nat) (T0 : ma_T) (Q0 : Nat → Nat → Prop) (L : Nat → Nat) (K V : Nat → Int32) (P : Nat → Nat → Nat) (px py : Nat → Nat) (i m : Nat) (vd : Int32) : Prop :=
  ma_W U L ∧
  (∀ j, j < m → U (px j) ∧ U (py j)) ∧
  (∀ c, U c → L c = c → K c ≠ 0 → ∀ k, k < ma_ct (K c) → U (P c k)) ∧
  (∀ E, ma_F U L0 T0 Q0 E → ma_F U L (ma_X U L K V P) (ma_Q px py i m) E ∧ ma_Sub T0 (ma_X U L K V P) E ∧ ma_Sub (ma_X U L K V P) T0 E) ∧
  (∀ E, ma_F U L (ma_X U L K V P) (ma_Q px py i m) E → ma_F U L0 T0 Q0 E) ∧
  (∀ c, U c → L c = c → L0 c = c) ∧
  (∀ c, U c → T0.1 c → K (L c) ≠ 0) ∧
  ma_Vd U L0 T0 Q0 L K vd
theorem ma_MI_0 {U : Nat → Prop} {L : Nat → Nat} {K V : Nat → Int32} {P : Nat → Nat → Nat} {px py : Nat → Nat} {m : Nat} (w : ma_W U L) (hp : ∀ j, j < m → U (px j) ∧ U (py j)) (hP : ∀ c, U c → L c = c → K c ≠ 0 → ∀ k, k < ma_ct (K c) → U (P c k)) : ma_MI U L (ma_X U L K V P) (ma_Q px py 0 m) L K V P px py 0 m 1 := by
  refine ⟨w, hp, hP, fun E h => ⟨h, ma_Sub_refl h.1, ma_Sub_refl h.1⟩, fun E h => h, fun c _ h => h, ?_, Or.inl ⟨rfl, fun c a b d => ⟨a, b, d⟩, ?_⟩⟩
  · intro c _ h
    obtain ⟨_, h1, h2⟩ := h
    rw [h1]; exact h2
  · intro c d _ _ h1 h2 h
    exact Or.inl (by omega)
theorem ma_MI_skip {U : Nat → Prop} {L0 L : Nat → Nat} {T0 : ma_T} {Q0 : Nat → Nat → Prop} {K V : Nat → Int32} {P : Nat → Nat → Nat} {px py : Nat → Nat} {i m : Nat} {vd : Int32} (h : ma_MI U L0 T0 Q0 L K V P px py i m vd) (hi : i < m) (he : L (px i) = L (py i)) : ma_MI U L0 T0 Q0 L K V P px py (i + 1) m vd := by
  obtain ⟨w, hp, hP, f1, f2, r1, r2, v⟩ := h
  have q1 : ∀ E, ma_F U L (ma_X U L K V P) (ma_Q px py i m) E → ma_F U L (ma_X U L K V P) (ma_Q px py (i + 1) m) E := by
    intro E hF
    refine ⟨hF.1, hF.2.1, ?_, hF.2.2.2⟩
    intro x y ⟨j, a, b, c⟩
    exact hF.2.2.1 x y ⟨j, by omega, b, c⟩
  have q2 : ∀ E, ma_F U L (ma_X U L K V P) (ma_Q px py (i + 1) m) E → ma_F U L (ma_X U L K V P) (ma_Q px py i m) E := by
    intro E hF
    refine ⟨hF.1, hF.2.1, ?_, hF.2.2.2⟩
    intro x y ⟨j, a, b, c, d⟩
    by_cases z : j = i
    · rw [c, d, z]
      have h1 := hF.2.1 _ (hp i hi).1
      have h2 := hF.2.1 _ (hp i hi).2
      rw [he] at h1
      exact hF.1.2.2 _ _ _ h1 (hF.1.2.1 _ _ h2)
    · exact hF.2.2.1 x y ⟨j, by omega, b, c, d⟩
  exact ⟨w, hp, hP, fun E hE => ⟨q1 E (f1 E hE).1, (f1 E hE).2⟩, fun E hE => f2 E (q2 E hE), r1, r2, v⟩
/-- one join: what stays of the invariant whatever the verdict -/
theorem ma_MI_join {U : Nat → Prop} {L0 L L' : Nat → Nat} {T0 : ma_T} {Q0 : Nat → Nat → Prop} {K V K' V' : Nat → Int32} {P P' : Nat → Nat → Nat} {px py px' py' : Nat → Nat} {i m m' lo hi : Nat} {vd vd' : Int32} (h : ma_MI U L0 T0 Q0 L K V P px py i m vd) (him : i < m) (lpq : (L (px i) = lo ∧ L (py i) = hi) ∨ (L (px i) = hi ∧ L (py i) = lo)) (lt : lo < hi) (j : ma_J U lo hi L L' K V K' V' P P')
    (hpq : K lo ≠ 0 → K hi ≠ 0 → (K lo, V lo) = (K hi, V hi))
    (hm : m ≤ m') (hold : ∀ j, j < m → px' j = px j ∧ py' j = py j)
    (hnew : ∀ j, m ≤ j → j < m' → K lo ≠ 0 ∧ K hi ≠ 0 ∧ ∃ k, k < ma_ct (K lo) ∧ ((px' j = P lo k ∧ py' j = P hi k) ∨ (px' j = P hi k ∧ py' j = P lo k)))
    (hall : K lo ≠ 0 → K hi ≠ 0 → ∀ k, k < ma_ct (K lo) → ∃ j, m ≤ j ∧ j < m' ∧ ((px' j = P lo k ∧ py' j = P hi k) ∨ (px' j = P hi k ∧ py' j = P lo k)))
    (hv : ma_Vd U L0 T0 Q0 L' K' vd') : ma_MI U L0 T0 Q0 L' K' V' P' px' py' (i + 1) m' vd' := by
  obtain ⟨w, hp, hP, f1, f2, r1, r2, _⟩ := h
  have hh : U lo ∧ L lo = lo ∧ U hi ∧ L hi = hi := by
    have h1 := w _ (hp i him).1
    have h2 := w _ (hp i him).2
    rcases lpq with ⟨a, b⟩ | ⟨a, b⟩
    · rw [a] at h1; rw [b] at h2
      exact ⟨h1.2.1, h1.2.2.1, h2.2.1, h2.2.2.1⟩
    · rw [a] at h1; rw [b] at h2
      exact ⟨h2.2.1, h2.2.2.1, h1.2.1, h1.2.2.1⟩
  obtain ⟨ulo, llo, uhi, lhi⟩ := hh
  obtain ⟨jl, j0, j1, j2⟩ := j
  have j : ma_J U lo hi L L' K V K' V' P P' := ⟨jl, j0, j1, j2⟩
  have upt : ∀ k, K lo ≠ 0 → k < ma_ct (K lo) → U (P lo k) := fun k z hk => hP lo ulo llo z k hk
  have g := ma_J_F (Q := ma_Q px py i m) (Q' := ma_Q px' py' (i + 1) m') w (hp i him).1 (hp i him).2 lpq lt j ⟨i, Nat.le_refl _, him, rfl, rfl⟩ hpq
    (by
      intro x y ⟨jj, a, b, c, d⟩
      by_cases z : jj < m
      · rw [(hold jj z).1] at c
        rw [(hold jj z).2] at d
        exact Or.inl ⟨jj, by omega, z, c, d⟩
      · obtain ⟨n1, n2, k, hk, n3⟩ := hnew jj (by omega) b
        rw [← c, ← d] at n3
        exact Or.inr ⟨n1, n2, k, hk, n3⟩)
    (by
      intro x y ⟨jj, a, b, c, d⟩
      by_cases z : jj = i
      · rw [z] at c d
        exact Or.inl ⟨c, d⟩
      · refine Or.inr ⟨jj, by omega, by omega, ?_, ?_⟩
        · rw [(hold jj b).1]; exact c
        · rw [(hold jj b).2]; exact d)
    (by
      intro z1 z2 k hk
      obtain ⟨jj, a, b, c | c⟩ := hall z1 z2 k hk
      · exact Or.inl ⟨jj, by omega, b, c.1.symm, c.2.symm⟩
      · exact Or.inr ⟨jj, by omega, b, c.1.symm, c.2.symm⟩)
  have rep : ∀ c, U c → L' c = c → L c = c := by
    intro c hc h1
    rw [jl c hc] at h1
    by_cases z : L c = hi
    · rw [if_pos z] at h1
      rw [← h1]; exact llo
    · rw [if_neg z] at h1; exact h1
  refine ⟨ma_J_W j ulo llo lt w, ?_, ?_, ?_, ?_, ?_, ?_, hv⟩
  · intro jj hjj
    by_cases z : jj < m
    · rw [(hold jj z).1, (hold jj z).2]; exact hp jj z
    · obtain ⟨n1, n2, k, hk, n3 | n3⟩ := hnew jj (by omega) hjj
      · rw [n3.1, n3.2]
        have q : K lo = K hi := congrArg Prod.fst (hpq n1 n2)
        exact ⟨hP lo ulo llo n1 k hk, hP hi uhi lhi n2 k (by rw [← q]; exact hk)⟩
      · rw [n3.1, n3.2]
        have q : K lo = K hi := congrArg Prod.fst (hpq n1 n2)
        exact ⟨hP hi uhi lhi n2 k (by rw [← q]; exact hk), hP lo ulo llo n1 k hk⟩
  · intro c hc hl hk k hkk
    have k3 : k < 3 := Nat.lt_of_lt_of_le hkk (ma_ct_le _)
    by_cases z : c = lo
    · subst z
      by_cases z0 : K c = 0
      · obtain ⟨a, b, d⟩ := j0 z0
        rw [d k k3]
        rw [a] at hk hkk
        exact hP hi uhi lhi hk k hkk
      · obtain ⟨a, b, d⟩ := j1 z0
        rw [d k k3]
        rw [a] at hk hkk
        exact hP c ulo llo hk k hkk
    · obtain ⟨a, b, d⟩ := j2 c hc z
      rw [d k k3]
      rw [a] at hk hkk
      exact hP c hc (rep c hc hl) hk k hkk
  · intro E hE
    obtain ⟨a, b, c⟩ := f1 E hE
    obtain ⟨a', b', c'⟩ := g.1 E a
    exact ⟨a', ma_Sub_trans hE.1 b b', ma_Sub_trans hE.1 c' c⟩
  · exact fun E hE => f2 E (g.2 E hE)
  · exact fun c hc hl => r1 c hc (rep c hc hl)
  · intro c hc h0
    have h1 := r2 c hc h0
    have wc := w c hc
    rw [jl c hc]
    by_cases z : L c = hi
    · rw [if_pos z]
      rw [z] at h1
      by_cases z0 : K lo = 0
      · rw [(j0 z0).1]; exact h1
      · rw [(j1 z0).1]; exact z0
    · rw [if_neg z]
      by_cases z2 : L c = lo
      · rw [z2] at h1 ⊢
        rw [(j1 h1).1]; exact h1
      · rw [(j2 _ wc.2.1 z2).1]; exact h1
theorem ma_MI_ab {U : Nat → Prop} {L0 L : Nat → Nat} {T0 : ma_T} {Q0 : Nat → Nat → Prop} {K V : Nat → Int32} {P : Nat → Nat → Nat} {px py : Nat → Nat} {i m : Nat} {vd : Int32} (h : ma_MI U L0 T0 Q0 L K V P px py i m vd) (him : i < m) : U (L (px i)) ∧ L (L (px i)) = L (px i) ∧ U (L (py i)) ∧ L (L (py i)) = L (py i) ∧ ∀ E, ma_F U L0 T0 Q0 E → E (L (px i)) (L (py i)) := by
  obtain ⟨w, hp, _, f1, _⟩ := h
  have h1 := w _ (hp i him).1
  have h2 := w _ (hp i him).2
  refine ⟨h1.2.1, h1.2.2.1, h2.2.1, h2.2.2.1, fun E hE => ?_⟩
  obtain ⟨⟨e, hb, hq, _⟩, _⟩ := f1 E hE
  exact e.2.2 _ _ _ (e.2.1 _ _ (hb _ (hp i him).1)) (e.2.2 _ _ _ (hq _ _ ⟨i, Nat.le_refl _, him, rfl, rfl⟩) (hb _ (hp i him).2))
theorem ma_Vd_free {U : Nat → Prop} {L0 L : Nat → Nat} {T0 : ma_T} {Q0 : Nat → Nat → Prop} {K V : Nat → Int32} {P : Nat → Nat → Nat} {px py : Nat → Nat} {i m : Nat} {vd : Int32} (L' : Nat → Nat) (K' : Nat → Int32) (h : ma_MI U L0 T0 Q0 L K V P px py i m vd) (him : i < m) (ne : L (px i) ≠ L (py i)) (hz : K (L (px i)) = 0 ∨ K (L (py i)) = 0) : ma_Vd U L0 T0 Q0 L' K' 3 := by
  obtain ⟨u1, l1, u2, l2, hE⟩ := ma_MI_ab h him
  obtain ⟨w, hp, hP, f1, f2, r1, r2, _⟩ := h
  refine Or.inr ⟨rfl, fun E hF => ?_⟩
  have no : ∀ c, U c → L c = c → K c = 0 → ¬ T0.1 c := by
    intro c hc hl hk ht
    have := r2 c hc ht
    rw [hl] at this
    exact this hk
  rcases hz with z | z
  · exact ⟨_, _, u1, u2, r1 _ u1 l1, r1 _ u2 l2, ne, hE E hF, no _ u1 l1 z⟩
  · exact ⟨_, _, u2, u1, r1 _ u2 l2, r1 _ u1 l1, fun q => ne q.symm, hF.1.2.1 _ _ (hE E hF), no _ u2 l2 z⟩
theorem ma_Vd_val {U : Nat → Prop} {L0 L L' : Nat → Nat} {T0 : ma_T} {Q0 : Nat → Nat → Prop} {K V K' V' : Nat → Int32} {P P' : Nat → Nat → Nat} {px py : Nat → Nat} {i m lo hi : Nat} {vd : Int32} (h : ma_MI U L0 T0 Q0 L K V P px py i m vd) (ulo : U lo) (llo : L lo = lo) (uhi : U hi) (lhi : L hi = hi) (klo : K lo ≠ 0) (khi : K hi ≠ 0) (j : ma_J U lo hi L L' K V K' V' P P') : ma_Vd U L0 T0 Q0 L' K' vd := by
  obtain ⟨w, hp, hP, f1, f2, r1, r2, v⟩ := h
  obtain ⟨jl, j0, j1, j2⟩ := j
  rcases v with ⟨v1, v2, v3⟩ | v
  · refine Or.inl ⟨v1, ?_, ?_⟩
    · intro c hc hl hk
      have hl' : L c = c := by
        rw [jl c hc] at hl
        by_cases z : L c = hi
        · rw [if_pos z] at hl
          rw [← hl]; exact llo
        · rw [if_neg z] at hl; exact hl
      by_cases z : c = lo
      · rw [z]; exact v2 lo ulo llo klo
      · rw [(j2 c hc z).1] at hk
        exact v2 c hc hl' hk
    · intro c d hc hd h1 h2 h3
      rw [jl c hc, jl d hd] at h3
      have tlo := v2 lo ulo llo klo
      have thi := v2 hi uhi lhi khi
      have inlo : ∀ c, U c → L0 c = c → L c = lo → T0.1 c := by
        intro c hc h1 h2
        rcases v3 c lo hc ulo h1 (r1 lo ulo llo) (by omega) with q | q
        · rw [q]; exact tlo
        · exact q.1
      have inhi : ∀ c, U c → L0 c = c → L c = hi → T0.1 c := by
        intro c hc h1 h2
        rcases v3 c hi hc uhi h1 (r1 hi uhi lhi) (by omega) with q | q
        · rw [q]; exact thi
        · exact q.1
      by_cases z1 : L c = hi
      · rw [if_pos z1] at h3
        by_cases z2 : L d = hi
        · exact v3 c d hc hd h1 h2 (by omega)
        · rw [if_neg z2] at h3
          exact Or.inr ⟨inhi c hc h1 z1, inlo d hd h2 h3.symm⟩
      · rw [if_neg z1] at h3
        by_cases z2 : L d = hi
        · rw [if_pos z2] at h3
          exact Or.inr ⟨inlo c hc h1 h3, inhi d hd h2 z2⟩
        · rw [if_neg z2] at h3
          exact v3 c d hc hd h1 h2 h3
  · exact Or.inr v
theorem ma_MI_no {U : Nat → Prop} {L0 L : Nat → Nat} {T0 : ma_T} {Q0 : Nat → Nat → Prop} {K V : Nat → Int32} {P : Nat → Nat → Nat} {px py : Nat → Nat} {i m : Nat} {vd : Int32} (h : ma_MI U L0 T0 Q0 L K V P px py i m vd) (him : i < m) (k1 : K (L (px i)) ≠ 0) (k2 : K (L (py i)) ≠ 0) (ne : (K (L (px i)), V (L (px i))) ≠ (K (L (py i)), V (L (py i)))) : ∀ E, ma_F U L0 T0 Q0 E → ma_Bad T0 E := by
  obtain ⟨u1, l1, u2, l2, hE⟩ := ma_MI_ab h him
  obtain ⟨w, hp, hP, f1, f2, r1, r2, v⟩ := h
  intro E hF
  obtain ⟨a, b, c⟩ := f1 E hF
  exact ma_Bad_sub hF.1 c ⟨_, _, ⟨u1, l1, k1⟩, ⟨u2, l2, k2⟩, hE E hF, ne⟩
theorem ma_MI_end {U : Nat → Prop} {L0 L : Nat → Nat} {T0 : ma_T} {Q0 : Nat → Nat → Prop} {K V : Nat → Int32} {P : Nat → Nat → Nat} {px py : Nat → Nat} {i m : Nat} {vd : Int32} (h : ma_MI U L0 T0 Q0 L K V P px py i m vd) (him : m ≤ i) : ma_F U L0 T0 Q0 (ma_K U L) ∧ ¬ ma_Bad T0 (ma_K U L) ∧ (∀ E, ma_F U L0 T0 Q0 E → ∀ x y, ma_K U L x y → E x y) ∧ ma_Sub T0 (ma_X U L K V P) (ma_K U L) ∧ ma_Sub (ma_X U L K V P) T0 (ma_K U L) := by
  obtain ⟨w, hp, hP, f1, f2, r1, r2, v⟩ := h
  obtain ⟨a, b⟩ := ma_X_fin (K := K) (V := V) (P := P) w
  have hF : ma_F U L0 T0 Q0 (ma_K U L) := by
    apply f2
    refine ⟨a.1, a.2.1, ?_, a.2.2.2⟩
    intro x y ⟨j, h1, h2, _⟩
    omega
  obtain ⟨_, s1, s2⟩ := f1 _ hF
  refine ⟨hF, fun q => b (ma_Bad_sub hF.1 s1 q), fun E hE x y hk => ?_, s1, s2⟩
  have := (f1 E hE).1
  exact ma_K_sub this.1 this.2.1 x y hk
/-- ALIKE, UNLIKE -/
def ma_1 (x y : Nat) : Nat → Nat → Prop := fun u v => u = x ∧ v = y
def ma_Ti (U : Nat → Prop) (L : Nat → Nat) (T : ma_T) (E : Nat → Nat → Prop) : Prop := ∀ c d, U c → U d → L c = c → L d = d → E c d → c = d ∨ (T.1 c ∧ T.1 d ∧ T.2.1 c = T.2.1 d)
def ma_al (U : Nat → Prop) (L : Nat → Nat) (T : ma_T) (x y : Nat) : Prop := ∃ E, ma_F U L T (ma_1 x y) E ∧ ma_Ti U L T E
def ma_un (U : Nat → Prop) (L : Nat → Nat) (T : ma_T) (x y : Nat) : Prop := ∀ E, ma_F U L T (ma_1 x y) E → ma_Bad T E
/-- what merging x and y ends with, by its verdict -/
theorem ma_vd_1 {U : Nat → Prop} {L0 L : Nat → Nat} {T0 : ma_T} {Q0 : Nat → Nat → Prop} {K V : Nat → Int32} {P : Nat → Nat → Nat} {px py : Nat → Nat} {i m : Nat} (h : ma_MI U L0 T0 Q0 L K V P px py i m 1) (him : m ≤ i) : ∃ E, ma_F U L0 T0 Q0 E ∧ ma_Ti U L0 T0 E := by
  obtain ⟨a, b, c, d, e⟩ := ma_MI_end h him
  obtain ⟨w, hp, hP, f1, f2, r1, r2, v⟩ := h
  refine ⟨_, a, ?_⟩
  rcases v with ⟨_, v2, v3⟩ | ⟨v1, _⟩
  · intro x y hx hy lx ly hk
    by_cases q : x = y
    · exact Or.inl q
    · rcases hk with hk | ⟨_, _, hk⟩
      · exact Or.inl hk
      · rcases v3 x y hx hy lx ly hk with z | ⟨z1, z2⟩
        · exact Or.inl z
        · refine Or.inr ⟨z1, z2, Classical.byContradiction fun ne => b ⟨x, y, z1, z2, Or.inr ⟨hx, hy, hk⟩, ne⟩⟩
  · exact absurd v1 (by decide)
theorem ma_vd_3 {U : Nat → Prop} {L0 L : Nat → Nat} {T0 : ma_T} {Q0 : Nat → Nat → Prop} {K V : Nat → Int32} {P : Nat → Nat → Nat} {px py : Nat → Nat} {i m : Nat} (h : ma_MI U L0 T0 Q0 L K V P px py i m 3) (him : m ≤ i) : (¬ ∃ E, ma_F U L0 T0 Q0 E ∧ ma_Ti U L0 T0 E) ∧ ¬ ∀ E, ma_F U L0 T0 Q0 E → ma_Bad T0 E := by
  obtain ⟨a, b, c, d, e⟩ := ma_MI_end h him
  obtain ⟨w, hp, hP, f1, f2, r1, r2, v⟩ := h
  refine ⟨?_, fun q => b (q _ a)⟩
  intro ⟨E, hF, hT⟩
  rcases v with ⟨v1, _⟩ | ⟨_, v2⟩
  · exact absurd v1 (by decide)
  · obtain ⟨x, y, ux, uy, lx, ly, ne, hE, nt⟩ := v2 E hF
    rcases hT x y ux uy lx ly hE with z | z
    · exact ne z
    · exact nt z.1
theorem ma_al_nun {U : Nat → Prop} {L : Nat → Nat} {T : ma_T} {Q : Nat → Nat → Prop} (hT : ∀ c, T.1 c → U c ∧ L c = c) (h : ∃ E, ma_F U L T Q E ∧ ma_Ti U L T E) : ¬ ∀ E, ma_F U L T Q E → ma_Bad T E := by
  obtain ⟨E, hF, hE⟩ := h
  intro q
  obtain ⟨c, d, hc, hd, e, ne⟩ := q E hF
  rcases hE c d (hT c hc).1 (hT d hd).1 (hT c hc).2 (hT d hd).2 e with z | z
  · exact ne (by rw [z])
  · exact ne z.2.2
/-- two least relations are one: the least members are one -/
theorem ma_ker {U : Nat → Prop} {L L' : Nat → Nat} (w : ma_W U L) (w' : ma_W U L') (h1 : ∀ x y, ma_K U L x y → ma_K U L' x y) (h2 : ∀ x y, ma_K U L' x y → ma_K U L x y) : ∀ x, U x → L x = L' x := by
  have key : ∀ (A B : Nat → Nat), ma_W U A → ma_W U B → (∀ x y, ma_K U A x y → ma_K U B x y) → ∀ x, U x → B x ≤ A x := by
    intro A B wa wb hab x hx
    obtain ⟨_, a2, a3, _⟩ := wa x hx
    have h := hab x (A x) (Or.inr ⟨hx, a2, a3.symm⟩)
    obtain ⟨_, _, _, b4⟩ := wb _ a2
    rcases h with h | ⟨_, _, h⟩
    · rw [← h]; exact (wb x hx).2.2.2
    · omega
  intro x hx
  exact Nat.le_antisymm (key L' L w' w h2 x hx) (key L L' w w' h1 x hx)
end
section
theorem ma_YJ {U : Nat → Prop} {I I' : Nat → Nat} {T : ma_T} {Q : Nat → Nat → Prop} {a b : Nat} (w : ma_W U I) (ua : U a) (ub : U b) (j : ∀ v, v < 48 → I' v = if I v = I a ∨ I v = I b then (if I a < I b then I a else I b) else I v) : ma_W U I' ∧ (∀ E, ma_F U I T Q E → E a b → ma_F U I' T Q E) ∧ (∀ E, ma_F U I' T Q E → ma_F U I T Q E ∧ E a b) ∧ (I a ≠ I b → ma_cnt (fun v => decide (I' v = v)) 48 < ma_cnt (fun v => decide (I v = v)) 48) ∧ (∀ u v, U u → U v → I u = I v → I' u = I' v) ∧ I' a = I' b := by
  obtain ⟨a1, a2, a3, a4⟩ := w a ua
  obtain ⟨b1, b2, b3, b4⟩ := w b ub
  generalize hlo : (if I a < I b then I a else I b) = lo at j
  have lo1 : (lo = I a ∨ lo = I b) ∧ lo ≤ I a ∧ lo ≤ I b := by
    rw [← hlo]
    by_cases z : I a < I b
    · rw [if_pos z]; exact ⟨Or.inl rfl, by omega, by omega⟩
    · rw [if_neg z]; exact ⟨Or.inr rfl, by omega, by omega⟩
  obtain ⟨lo2, lo3, lo4⟩ := lo1
  have ulo : U lo ∧ I lo = lo := by
    rcases lo2 with z | z
    · rw [z]; exact ⟨a2, a3⟩
    · rw [z]; exact ⟨b2, b3⟩
  have jp : ∀ v, U v → (I v = I a ∨ I v = I b) → I' v = lo := fun v hv z => by rw [j v (w v hv).1, if_pos z]
  have jn : ∀ v, U v → ¬ (I v = I a ∨ I v = I b) → I' v = I v := fun v hv z => by rw [j v (w v hv).1, if_neg z]
  have lolo : I' lo = lo := jp lo ulo.1 (by rw [ulo.2]; exact lo2)
  refine ⟨?_, ?_, ?_, ?_, ?_, ?_⟩
  · intro x hx
    obtain ⟨w1, w2, w3, w4⟩ := w x hx
    by_cases z : I x = I a ∨ I x = I b
    · rw [jp x hx z]
      exact ⟨w1, ulo.1, lolo, by rcases z with z | z <;> omega⟩
    · rw [jn x hx z]
      exact ⟨w1, w2, by rw [jn _ w2 (by rw [w3]; exact z), w3], w4⟩
  · intro E hF hab
    obtain ⟨e, hb, hq, pc⟩ := hF
    have eab : E (I a) (I b) := e.2.2 _ _ _ (e.2.1 _ _ (hb a ua)) (e.2.2 _ _ _ hab (hb b ub))
    have ela : E (I a) lo ∧ E (I b) lo := by
      rcases lo2 with z | z
      · rw [z]; exact ⟨e.1 _, e.2.1 _ _ eab⟩
      · rw [z]; exact ⟨eab, e.1 _⟩
    refine ⟨e, ?_, hq, pc⟩
    intro x hx
    by_cases z : I x = I a ∨ I x = I b
    · rw [jp x hx z]
      have h1 := hb x hx
      rcases z with z | z
      · rw [z] at h1; exact e.2.2 _ _ _ h1 ela.1
      · rw [z] at h1; exact e.2.2 _ _ _ h1 ela.2
    · rw [jn x hx z]; exact hb x hx
  · intro E hF
    obtain ⟨e, hb, hq, pc⟩ := hF
    refine ⟨⟨e, ?_, hq, pc⟩, ?_⟩
    · intro x hx
      obtain ⟨w1, w2, w3, w4⟩ := w x hx
      have h1 := hb x hx
      have h2 := hb _ w2
      have h3 : I' (I x) = I' x := by
        by_cases z : I x = I a ∨ I x = I b
        · rw [jp x hx z, jp _ w2 (by rw [w3]; exact z)]
        · rw [jn x hx z, jn _ w2 (by rw [w3]; exact z), w3]
      rw [h3] at h2
      exact e.2.2 _ _ _ h1 (e.2.1 _ _ h2)
    · have h1 := hb a ua
      have h2 := hb b ub
      rw [jp a ua (Or.inl rfl)] at h1
      rw [jp b ub (Or.inr rfl)] at h2
      exact e.2.2 _ _ _ h1 (e.2.1 _ _ h2)
  · intro ne
    have hhi : ∃ hi, U hi ∧ I hi = hi ∧ hi ≠ lo ∧ (hi = I a ∨ hi = I b) := by
      rcases lo2 with z | z
      · exact ⟨I b, b2, b3, by omega, Or.inr rfl⟩
      · exact ⟨I a, a2, a3, by omega, Or.inl rfl⟩
    obtain ⟨hi, uhi, ihi, nhi, whi⟩ := hhi
    refine ma_cnt_lt 48 ?_ ⟨hi, (w hi uhi).1, decide_eq_true ihi, ?_⟩
    · intro v hv h
      have h1 : I' v = v := of_decide_eq_true h
      refine decide_eq_true ?_
      rw [j v hv] at h1
      by_cases z : I v = I a ∨ I v = I b
      · rw [if_pos z] at h1
        rw [← h1]; exact ulo.2
      · rw [if_neg z] at h1; exact h1
    · intro h
      have h1 : I' hi = hi := of_decide_eq_true h
      rw [jp hi uhi (by rw [ihi]; exact whi)] at h1
      exact nhi h1.symm
  · intro u v hu hv huv
    by_cases z : I u = I a ∨ I u = I b
    · rw [jp u hu z, jp v hv (by rw [← huv]; exact z)]
    · rw [jn u hu z, jn v hv (by rw [← huv]; exact z), huv]
  · rw [jp a ua (Or.inl rfl), jp b ub (Or.inr rfl)]
theorem ma_cnt_join {L L' : Nat → Nat} {lo hi : Nat} (lt : lo < hi) (h48 : hi < 48) (llo : L lo = lo) (lhi : L hi = hi) (j : ∀ x, x < 48 → L' x = if L x = hi then lo else L x) : ma_cnt (fun v => decide (L' v = v)) 48 < ma_cnt (fun v => decide (L v = v)) 48 := by
  refine ma_cnt_lt 48 ?_ ⟨hi, h48, decide_eq_true lhi, ?_⟩
  · intro v hv h
    have h1 : L' v = v := of_decide_eq_true h
    refine decide_eq_true ?_
    rw [j v hv] at h1
    by_cases z : L v = hi
    · rw [if_pos z] at h1
      rw [← h1]; exact llo
    · rw [if_neg z] at h1; exact h1
  · intro h
    have h1 : L' hi = hi := of_decide_eq_true h
    rw [j hi h48, if_pos lhi] at h1
    omega
theorem ma_cnt_pos {p : Nat → Bool} {n i : Nat} (hi : i < n) (h : p i = true) : 1 ≤ ma_cnt p n := by
  have h1 : ma_cnt (fun _ => false) n < ma_cnt p n := ma_cnt_lt n (fun _ _ z => by exact absurd z (by decide)) ⟨i, hi, h, by decide⟩
  omega
/-- the outcome of a telling -/
def ma_Ok (U : Nat → Prop) (L : Nat → Nat) (T : ma_T) (Q : Nat → Nat → Prop) (L' : Nat → Nat) : Prop :=
  ma_W U L' ∧ ma_F U L T Q (ma_K U L') ∧ ¬ ma_Bad T (ma_K U L') ∧ ∀ E, ma_F U L T Q E → ∀ x y, ma_K U L' x y → E x y
def ma_No (U : Nat → Prop) (L : Nat → Nat) (T : ma_T) (Q : Nat → Nat → Prop) : Prop := ∀ E, ma_F U L T Q E → ma_Bad T E
theorem ma_Ok_no {U : Nat → Prop} {L L' : Nat → Nat} {T : ma_T} {Q : Nat → Nat → Prop} (h : ma_Ok U L T Q L') : ¬ ma_No U L T Q := fun q => h.2.2.1 (q _ h.2.1)
theorem ma_Ok_one {U : Nat → Prop} {L L1 L2 : Nat → Nat} {T : ma_T} {Q : Nat → Nat → Prop} (h : ma_Ok U L T Q L1) (g : ma_Ok U L T Q L2) : ∀ x, U x → L1 x = L2 x :=
  ma_ker h.1 g.1 (fun x y k => h.2.2.2 _ g.2.1 x y k) (fun x y k => g.2.2.2 _ h.2.1 x y k)
/-- the outcome is the same for two told systems with the same relations -/
theorem ma_Ok_tr {U : Nat → Prop} {L I L' : Nat → Nat} {T T' : ma_T} {Q Q' : Nat → Nat → Prop} (f : ∀ E, ma_F U L T Q E ↔ ma_F U I T' Q' E) (b : ∀ E, ma_F U L T Q E → (ma_Bad T E ↔ ma_Bad T' E)) (h : ma_Ok U L T Q L') : ma_Ok U I T' Q' L' :=
  ⟨h.1, (f _).mp h.2.1, fun q => h.2.2.1 ((b _ h.2.1).mpr q), fun E hE => h.2.2.2 E ((f E).mpr hE)⟩
theorem ma_No_tr {U : Nat → Prop} {L I : Nat → Nat} {T T' : ma_T} {Q Q' : Nat → Nat → Prop} (f : ∀ E, ma_F U L T Q E ↔ ma_F U I T' Q' E) (b : ∀ E, ma_F U L T Q E → (ma_Bad T E ↔ ma_Bad T' E)) (h : ma_No U L T Q) : ma_No U I T' Q' :=
  fun E hE => (b E ((f E).mpr hE)).mp (h E ((f E).mpr hE))
theorem ma_MI_Ok {U : Nat → Prop} {L0 L : Nat → Nat} {T0 : ma_T} {Q0 : Nat → Nat → Prop} {K V : Nat → Int32} {P : Nat → Nat → Nat} {px py : Nat → Nat} {i m : Nat} {vd : Int32} (h : ma_MI U L0 T0 Q0 L K V P px py i m vd) (him : m ≤ i) : ma_Ok U L0 T0 Q0 L := by
  obtain ⟨a, b, c, _⟩ := ma_MI_end h him
  exact ⟨h.1, a, b, c⟩
/-- the reference's closing: the least relation, once a pass finds nothing more -/
theorem ma_Y_fin {U : Nat → Prop} {I : Nat → Nat} {T : ma_T} (w : ma_W U I) (hT : ∀ c, T.1 c → U c ∧ ∀ k, k < ma_ct (T.2.1 c).1 → U (T.2.2 c k)) (h : ∀ u v, T.1 u → T.1 v → u < v → I u = I v → T.2.1 u = T.2.1 v ∧ ∀ k, k < ma_ct (T.2.1 u).1 → I (T.2.2 u k) = I (T.2.2 v k)) : ma_F U I T (fun _ _ => False) (ma_K U I) ∧ ¬ ma_Bad T (ma_K U I) := by
  have h' : ∀ u v, T.1 u → T.1 v → ma_K U I u v → T.2.1 u = T.2.1 v ∧ ∀ k, k < ma_ct (T.2.1 u).1 → I (T.2.2 u k) = I (T.2.2 v k) := by
    intro u v hu hv k
    rcases k with k | ⟨_, _, k⟩
    · rw [k]; exact ⟨rfl, fun _ _ => rfl⟩
    · rcases Nat.lt_trichotomy u v with z | z | z
      · exact h u v hu hv z k
      · rw [z]; exact ⟨rfl, fun _ _ => rfl⟩
      · obtain ⟨a, b⟩ := h v u hv hu z k.symm
        exact ⟨a.symm, fun k hk => (b k (by rw [a]; exact hk)).symm⟩
  refine ⟨⟨ma_K_eqv U I, fun x hx => Or.inr ⟨hx, (w x hx).2.1, ((w x hx).2.2.1).symm⟩, fun _ _ h => h.elim, ?_⟩, ?_⟩
  · intro c d hc hd hk hs k hkk
    exact Or.inr ⟨(hT c hc).2 k hkk, (hT d hd).2 k (by rw [← hs]; exact hkk), (h' c d hc hd hk).2 k hkk⟩
  · intro ⟨c, d, hc, hd, hk, hs⟩
    exact hs (h' c d hc hd hk).1
/-- who has a value in its class, and who holds it -/
def ma_Wh (U : Nat → Prop) (L : Nat → Nat) (T : ma_T) (h : Nat → Prop) (f : Nat → Nat) : Prop :=
  (∀ u, U u → ((∃ a, T.1 a ∧ L a = L u) → h u)) ∧ (∀ u, U u → h u → T.1 (f u) ∧ L (f u) = L u) ∧ (∀ u v, U u → U v → L u = L v → f u = f v)
def ma_bi (U : Nat → Prop) (L : Nat → Nat) (T : ma_T) (h : Nat → Prop) (f : Nat → Nat) (B : Nat → Nat → Prop) : Prop :=
  ∀ u v, U u → U v → B u v → L u = L v ∨ (h u ∧ h v ∧ T.2.1 (f u) = T.2.1 (f v) ∧ ∀ k, k < ma_ct (T.2.1 (f u)).1 → B (T.2.2 (f u) k) (T.2.2 (f v) k))
/-- the two stores hold the same -/
def ma_R (U : Nat → Prop) (L : Nat → Nat) (TX TY : ma_T) : Prop :=
  ma_W U L ∧ (∀ c, TX.1 c → U c ∧ L c = c) ∧ (∀ c, TX.1 c → ∀ k, k < ma_ct (TX.2.1 c).1 → U (TX.2.2 c k)) ∧ (∀ c, TY.1 c → U c ∧ ∀ k, k < ma_ct (TY.2.1 c).1 → U (TY.2.2 c k)) ∧ ma_Sub TX TY (ma_K U L) ∧ ma_Sub TY TX (ma_K U L)
theorem ma_K_L {U : Nat → Prop} {L : Nat → Nat} {x y : Nat} (h : ma_K U L x y) : L x = L y := by
  rcases h with h | h
  · rw [h]
  · exact h.2.2
theorem ma_R_x {U : Nat → Prop} {L : Nat → Nat} {TX TY : ma_T} (r : ma_R U L TX TY) {u : Nat} (hu : TY.1 u) : TX.1 (L u) ∧ TX.2.1 (L u) = TY.2.1 u ∧ ∀ k, k < ma_ct (TY.2.1 u).1 → L (TY.2.2 u k) = L (TX.2.2 (L u) k) := by
  obtain ⟨w, x1, x2, y1, s1, s2⟩ := r
  obtain ⟨d, d1, d2, d3, d4⟩ := s2 u hu
  have e : d = L u := by
    have h1 := ma_K_L d2
    have h2 := (x1 d d1).2
    omega
  rw [e] at d1 d3 d4
  exact ⟨d1, d3, fun k hk => ma_K_L (d4 k hk)⟩
theorem ma_R_y {U : Nat → Prop} {L : Nat → Nat} {TX TY : ma_T} (r : ma_R U L TX TY) {c : Nat} (hc : TX.1 c) : ∃ u, TY.1 u ∧ L u = c ∧ TY.2.1 u = TX.2.1 c ∧ ∀ k, k < ma_ct (TX.2.1 c).1 → L (TX.2.2 c k) = L (TY.2.2 u k) := by
  obtain ⟨w, x1, x2, y1, s1, s2⟩ := r
  obtain ⟨d, d1, d2, d3, d4⟩ := s1 c hc
  refine ⟨d, d1, ?_, d3, fun k hk => ma_K_L (d4 k hk)⟩
  have h1 := ma_K_L d2
  have h2 := (x1 c hc).2
  omega
/-- two with values in one class of the reference have one shape and the SAME parts -/
theorem ma_R_yy {U : Nat → Prop} {L : Nat → Nat} {TX TY : ma_T} (r : ma_R U L TX TY) {u v : Nat} (hu : TY.1 u) (hv : TY.1 v) (h : L u = L v) : TY.2.1 u = TY.2.1 v ∧ ∀ k, k < ma_ct (TY.2.1 u).1 → L (TY.2.2 u k) = L (TY.2.2 v k) := by
  obtain ⟨a1, a2, a3⟩ := ma_R_x r hu
  obtain ⟨b1, b2, b3⟩ := ma_R_x r hv
  rw [h] at a2 a3
  have e : TY.2.1 u = TY.2.1 v := by rw [← a2, b2]
  exact ⟨e, fun k hk => by rw [a3 k hk, b3 k (by rw [← e]; exact hk)]⟩
theorem ma_al_bi {U : Nat → Prop} {L : Nat → Nat} {TX TY : ma_T} {h : Nat → Prop} {f : Nat → Nat} {E : Nat → Nat → Prop} {Q : Nat → Nat → Prop} (r : ma_R U L TX TY) (wh : ma_Wh U L TY h f) (hF : ma_F U L TX Q E) (hT : ma_Ti U L TX E) : ma_bi U L TY h f E := by
  have w := r.1
  have hF' : ma_F U L TY Q E := ma_F_sub r.2.2.2.2.2 hF
  intro u v hu hv hE
  have wu := w u hu
  have wv := w v hv
  have e := hF.1
  have hcd : E (L u) (L v) := e.2.2 _ _ _ (e.2.1 _ _ (hF.2.1 u hu)) (e.2.2 _ _ _ hE (hF.2.1 v hv))
  rcases hT _ _ wu.2.1 wv.2.1 wu.2.2.1 wv.2.2.1 hcd with z | ⟨z1, z2, z3⟩
  · exact Or.inl z
  · obtain ⟨a, a1, a2, a3, _⟩ := ma_R_y r z1
    obtain ⟨b, b1, b2, b3, _⟩ := ma_R_y r z2
    have h1 := wh.1 u hu ⟨a, a1, a2⟩
    have h2 := wh.1 v hv ⟨b, b1, b2⟩
    obtain ⟨f1, f2⟩ := wh.2.1 u hu h1
    obtain ⟨g1, g2⟩ := wh.2.1 v hv h2
    obtain ⟨_, q2, _⟩ := ma_R_x r f1
    obtain ⟨_, p2, _⟩ := ma_R_x r g1
    have es : TY.2.1 (f u) = TY.2.1 (f v) := by rw [← q2, ← p2, f2, g2, z3]
    refine Or.inr ⟨h1, h2, es, fun k hk => ?_⟩
    refine hF'.2.2.2 (f u) (f v) f1 g1 ?_ es k hk
    have k1 := hF.2.1 _ (r.2.2.2.1 _ f1).1
    have k2 := hF.2.1 _ (r.2.2.2.1 _ g1).1
    rw [f2] at k1
    rw [g2] at k2
    exact e.2.2 _ _ _ k1 (e.2.2 _ _ _ hcd (e.2.1 _ _ k2))
theorem ma_bi_same {U : Nat → Prop} {L : Nat → Nat} {T : ma_T} {h : Nat → Prop} {f : Nat → Nat} {A : Nat → Nat → Prop} (mx : ∀ B, ma_bi U L T h f B → ∀ u v, U u → U v → B u v → A u v) : ∀ u v, U u → U v → L u = L v → A u v := by
  intro u v hu hv huv
  exact mx (fun u v => L u = L v) (fun u v _ _ q => Or.inl q) u v hu hv huv
theorem ma_bi_tr {U : Nat → Prop} {L : Nat → Nat} {TY : ma_T} {h : Nat → Prop} {f : Nat → Nat} {A : Nat → Nat → Prop} (yU : ∀ c, TY.1 c → U c ∧ ∀ k, k < ma_ct (TY.2.1 c).1 → U (TY.2.2 c k)) (wh : ma_Wh U L TY h f) (hA : ma_bi U L TY h f A) (mx : ∀ B, ma_bi U L TY h f B → ∀ u v, U u → U v → B u v → A u v) : ∀ u v z, U u → U v → U z → A u v → A v z → A u z := by
  have pU : ∀ u, U u → h u → ∀ k, k < ma_ct (TY.2.1 (f u)).1 → U (TY.2.2 (f u) k) := fun u hu hh => (yU _ (wh.2.1 u hu hh).1).2
  have same := ma_bi_same mx
  intro u v z hu hv hz h1 h2
  refine mx (fun u z => ∃ v, U v ∧ A u v ∧ A v z) ?_ u z hu hz ⟨v, hv, h1, h2⟩
  intro u z hu hz ⟨v, hv, h1, h2⟩
  rcases hA u v hu hv h1 with q | ⟨q1, q2, q3, q4⟩
  · rcases hA v z hv hz h2 with p | ⟨p1, p2, p3, p4⟩
    · exact Or.inl (q.trans p)
    · have e := wh.2.2 u v hu hv q
      have hu' : h u := wh.1 u hu ⟨f v, (wh.2.1 v hv p1).1, by rw [(wh.2.1 v hv p1).2, q]⟩
      rw [← e] at p3 p4
      refine Or.inr ⟨hu', p2, p3, fun k hk => ⟨_, pU u hu hu' k hk, ?_, p4 k hk⟩⟩
      exact same _ _ (pU u hu hu' k hk) (pU u hu hu' k hk) rfl
  · rcases hA v z hv hz h2 with p | ⟨p1, p2, p3, p4⟩
    · have e := wh.2.2 v z hv hz p
      have hz' : h z := wh.1 z hz ⟨f v, (wh.2.1 v hv q2).1, by rw [(wh.2.1 v hv q2).2, p]⟩
      rw [e] at q3 q4
      refine Or.inr ⟨q1, hz', q3, fun k hk => ⟨_, pU z hz hz' k (by rw [← q3]; exact hk), q4 k hk, ?_⟩⟩
      exact same _ _ (pU z hz hz' k (by rw [← q3]; exact hk)) (pU z hz hz' k (by rw [← q3]; exact hk)) rfl
    · exact Or.inr ⟨q1, p2, q3.trans p3, fun k hk => ⟨_, pU v hv q2 k (by rw [← q3]; exact hk), q4 k hk, p4 k (by rw [← q3]; exact hk)⟩⟩
theorem ma_al_Y {U : Nat → Prop} {L : Nat → Nat} {TX TY : ma_T} {h : Nat → Prop} {f : Nat → Nat} {A : Nat → Nat → Prop} (r : ma_R U L TX TY) (wh : ma_Wh U L TY h f) (hs : ∀ u v, U u → U v → A u v → A v u) (hA : ma_bi U L TY h f A) (mx : ∀ B, ma_bi U L TY h f B → ∀ u v, U u → U v → B u v → A u v) {x y : Nat} (hx : U x) (hy : U y) : A x y ↔ ma_al U L TX x y := by
  constructor
  · intro hxy
    have w := r.1
    have yU := r.2.2.2.1
    have fU : ∀ u, U u → h u → U (f u) := fun u hu hh => (yU _ (wh.2.1 u hu hh).1).1
    have pU : ∀ u, U u → h u → ∀ k, k < ma_ct (TY.2.1 (f u)).1 → U (TY.2.2 (f u) k) := fun u hu hh => (yU _ (wh.2.1 u hu hh).1).2
    have same : ∀ u v, U u → U v → L u = L v → A u v := ma_bi_same mx
    have tr : ∀ u v z, U u → U v → U z → A u v → A v z → A u z := ma_bi_tr yU wh hA mx
    have pcY : ma_PC TY (fun u v => u = v ∨ (U u ∧ U v ∧ A u v)) := by
      intro c d hc hd hE hs' k hk
      have pc := (yU c hc).2 k hk
      have pd := (yU d hd).2 k (by rw [← hs']; exact hk)
      rcases hE with q | ⟨q1, q2, q3⟩
      · rw [q]; exact Or.inl rfl
      · refine Or.inr ⟨pc, pd, ?_⟩
        rcases hA c d q1 q2 q3 with p | ⟨p1, p2, p3, p4⟩
        · exact same _ _ pc pd ((ma_R_yy r hc hd p).2 k hk)
        · obtain ⟨f1, f2⟩ := wh.2.1 c q1 p1
          obtain ⟨g1, g2⟩ := wh.2.1 d q2 p2
          obtain ⟨m1, m2⟩ := ma_R_yy r hc f1 f2.symm
          obtain ⟨n1, n2⟩ := ma_R_yy r hd g1 g2.symm
          have k1 : k < ma_ct (TY.2.1 (f c)).1 := by rw [← m1]; exact hk
          have k2 : k < ma_ct (TY.2.1 (f d)).1 := by rw [← p3]; exact k1
          have fc := pU c q1 p1 k k1
          have fd := pU d q2 p2 k k2
          exact tr _ _ _ pc fc pd (same _ _ pc fc (m2 k hk)) (tr _ _ _ fc fd pd (p4 k k1) (same _ _ fd pd (n2 k (by rw [← hs']; exact hk)).symm))
    have ev : ma_Eqv (fun u v => u = v ∨ (U u ∧ U v ∧ A u v)) := by
      refine ⟨fun _ => Or.inl rfl, ?_, ?_⟩
      · intro u v q
        rcases q with q | ⟨q1, q2, q3⟩
        · exact Or.inl q.symm
        · exact Or.inr ⟨q2, q1, hs u v q1 q2 q3⟩
      · intro u v z q p
        rcases q with q | ⟨q1, q2, q3⟩
        · rw [q]; exact p
        · rcases p with p | ⟨p1, p2, p3⟩
          · rw [← p]; exact Or.inr ⟨q1, q2, q3⟩
          · exact Or.inr ⟨q1, p2, tr u v z q1 q2 p2 q3 p3⟩
    have bs : ∀ x, U x → (fun u v => u = v ∨ (U u ∧ U v ∧ A u v)) x (L x) := by
      intro x hx
      exact Or.inr ⟨hx, (w x hx).2.1, same _ _ hx (w x hx).2.1 (w x hx).2.2.1.symm⟩
    refine ⟨fun u v => u = v ∨ (U u ∧ U v ∧ A u v), ⟨ev, bs, ?_, ?_⟩, ?_⟩
    · intro u v ⟨q1, q2⟩
      rw [q1, q2]; exact Or.inr ⟨hx, hy, hxy⟩
    · exact ma_PC_sub ev (ma_Sub_mono (ma_K_sub ev bs) r.2.2.2.2.1) pcY
    · intro c d hc hd lc ld hE
      rcases hE with q | ⟨q1, q2, q3⟩
      · exact Or.inl q
      · rcases hA c d q1 q2 q3 with p | ⟨p1, p2, p3, p4⟩
        · exact Or.inl (by omega)
        · obtain ⟨f1, f2⟩ := wh.2.1 c q1 p1
          obtain ⟨g1, g2⟩ := wh.2.1 d q2 p2
          obtain ⟨m1, m2, _⟩ := ma_R_x r f1
          obtain ⟨n1, n2, _⟩ := ma_R_x r g1
          rw [f2, lc] at m1 m2
          rw [g2, ld] at n1 n2
          exact Or.inr ⟨m1, n1, by rw [m2, n2, p3]⟩
  · intro ⟨E, hF, hT⟩
    exact mx E (ma_al_bi r wh hF hT) x y hx hy (hF.2.2.1 x y ⟨rfl, rfl⟩)
end
section
theorem ma_R_F {U : Nat → Prop} {L : Nat → Nat} {TX TY : ma_T} {Q : Nat → Nat → Prop} (r : ma_R U L TX TY) : ∀ E, ma_F U L TX Q E ↔ ma_F U L TY Q E :=
  fun _ => ⟨ma_F_sub r.2.2.2.2.2, ma_F_sub r.2.2.2.2.1⟩
theorem ma_R_B {U : Nat → Prop} {L : Nat → Nat} {TX TY : ma_T} {Q : Nat → Nat → Prop} (r : ma_R U L TX TY) : ∀ E, ma_F U L TX Q E → (ma_Bad TX E ↔ ma_Bad TY E) :=
  fun E h => ⟨ma_Bad_subF r.2.2.2.2.1 ((ma_R_F r E).mp h), ma_Bad_subF r.2.2.2.2.2 h⟩
/-- after a telling that does not fail -/
theorem ma_R_tell {U : Nat → Prop} {L' : Nat → Nat} {TX TX' TY' : ma_T} (w' : ma_W U L') (x1 : ∀ c, TX'.1 c → U c ∧ L' c = c) (x2 : ∀ c, TX'.1 c → ∀ k, k < ma_ct (TX'.2.1 c).1 → U (TX'.2.2 c k)) (y1 : ∀ c, TY'.1 c → U c ∧ ∀ k, k < ma_ct (TY'.2.1 c).1 → U (TY'.2.2 c k)) (s1 : ma_Sub TX TX' (ma_K U L')) (s2 : ma_Sub TX' TX (ma_K U L')) (t1 : ma_Sub TX TY' (ma_K U L')) (t2 : ma_Sub TY' TX (ma_K U L')) : ma_R U L' TX' TY' :=
  ⟨w', x1, x2, y1, ma_Sub_trans (ma_K_eqv _ _) s2 t1, ma_Sub_trans (ma_K_eqv _ _) t2 s1⟩
/-- T' is T with x told to be sh with the parts p -/
def ma_put (T T' : ma_T) (x : Nat) (sh : Int32 × Int32) (p : Nat → Nat) : Prop :=
  (∀ d, T'.1 d ↔ (T.1 d ∨ d = x)) ∧ (∀ d, T.1 d → T'.2.1 d = T.2.1 d ∧ ∀ k, k < ma_ct (T.2.1 d).1 → T'.2.2 d k = T.2.2 d k) ∧ T'.2.1 x = sh ∧ ∀ k, k < ma_ct sh.1 → T'.2.2 x k = p k
theorem ma_put_sub {T T' : ma_T} {x : Nat} {sh : Int32 × Int32} {p : Nat → Nat} {E : Nat → Nat → Prop} (h : ma_put T T' x sh p) (e : ma_Eqv E) : ma_Sub T T' E := by
  obtain ⟨h1, h2, _, _⟩ := h
  intro c hc
  refine ⟨c, (h1 c).mpr (Or.inl hc), e.1 _, (h2 c hc).1, fun k hk => ?_⟩
  rw [(h2 c hc).2 k hk]; exact e.1 _
theorem ma_put_back {T T' T2 : ma_T} {x c : Nat} {sh : Int32 × Int32} {p : Nat → Nat} {E : Nat → Nat → Prop} (h : ma_put T T' x sh p) (s : ma_Sub T T2 E) (hc : T2.1 c) (hE : E x c) (hs : T2.2.1 c = sh) (hp : ∀ k, k < ma_ct sh.1 → E (p k) (T2.2.2 c k)) (n : ¬ T.1 x) : ma_Sub T' T2 E := by
  obtain ⟨h1, h2, h3, h4⟩ := h
  intro d hd
  rcases (h1 d).mp hd with z | z
  · obtain ⟨f, f1, f2, f3, f4⟩ := s d z
    obtain ⟨g1, g2⟩ := h2 d z
    refine ⟨f, f1, f2, by rw [f3, g1], fun k hk => ?_⟩
    rw [g1] at hk
    rw [g2 k hk]; exact f4 k hk
  · rw [z]
    refine ⟨c, hc, hE, by rw [hs, h3], fun k hk => ?_⟩
    rw [h3] at hk
    rw [h4 k hk]; exact hp k hk
theorem ma_put_U {U : Nat → Prop} {T T' : ma_T} {x : Nat} {sh : Int32 × Int32} {p : Nat → Nat} (h : ma_put T T' x sh p) (ux : U x) (pU : ∀ k, k < ma_ct sh.1 → U (p k)) (y : ∀ c, T.1 c → U c ∧ ∀ k, k < ma_ct (T.2.1 c).1 → U (T.2.2 c k)) : ∀ c, T'.1 c → U c ∧ ∀ k, k < ma_ct (T'.2.1 c).1 → U (T'.2.2 c k) := by
  obtain ⟨h1, h2, h3, h4⟩ := h
  intro c hc
  by_cases q : T.1 c
  · obtain ⟨g1, g2⟩ := h2 c q
    refine ⟨(y c q).1, fun k hk => ?_⟩
    rw [g1] at hk
    rw [g2 k hk]; exact (y c q).2 k hk
  · rcases (h1 c).mp hc with z | z
    · exact absurd z q
    · rw [z]
      refine ⟨ux, fun k hk => ?_⟩
      rw [h3] at hk
      rw [h4 k hk]; exact pU k hk
/-- a value for a FREE class -/
theorem ma_R_set {U : Nat → Prop} {L : Nat → Nat} {TX TX' TY TY' : ma_T} {x : Nat} {sh : Int32 × Int32} {p : Nat → Nat} (r : ma_R U L TX TY) (ux : U x) (hc : ¬ TX.1 (L x)) (hX : ma_put TX TX' (L x) sh p) (hY : ma_put TY TY' x sh p) (pU : ∀ k, k < ma_ct sh.1 → U (p k)) : ma_R U L TX' TY' := by
  have r0 := r
  obtain ⟨w, x1, x2, y1, s1, s2⟩ := r
  have e := ma_K_eqv U L
  have wx := w x ux
  have ny : ¬ TY.1 x := fun q => hc (ma_R_x r0 q).1
  have kx : ma_K U L x (L x) := Or.inr ⟨ux, wx.2.1, wx.2.2.1.symm⟩
  have px := ma_put_U (U := U) hX wx.2.1 pU (fun c q => ⟨(x1 c q).1, x2 c q⟩)
  have py := ma_put_U (U := U) hY ux pU y1
  refine ⟨w, ?_, fun c q => (px c q).2, py, ?_, ?_⟩
  · intro c q
    rcases (hX.1 c).mp q with z | z
    · exact x1 c z
    · rw [z]; exact ⟨wx.2.1, wx.2.2.1⟩
  · refine ma_put_back hX (ma_Sub_trans e s1 (ma_put_sub hY e)) ((hY.1 x).mpr (Or.inr rfl)) (e.2.1 _ _ kx) hY.2.2.1 (fun k hk => ?_) hc
    rw [hY.2.2.2 k hk]; exact e.1 _
  · refine ma_put_back hY (ma_Sub_trans e s2 (ma_put_sub hX e)) ((hX.1 (L x)).mpr (Or.inr rfl)) kx hX.2.2.1 (fun k hk => ?_) ny
    rw [hX.2.2.2 k hk]; exact e.1 _
theorem ma_R_Ok {U : Nat → Prop} {L : Nat → Nat} {K V : Nat → Int32} {P : Nat → Nat → Nat} {TY : ma_T} (r : ma_R U L (ma_X U L K V P) TY) : ma_Ok U L TY (fun _ _ => False) L := by
  obtain ⟨a, b⟩ := ma_X_fin (K := K) (V := V) (P := P) r.1
  exact ⟨r.1, (ma_R_F r _).mp a, fun q => b ((ma_R_B r _ a).mpr q), fun E hE x y k => ma_K_sub hE.1 hE.2.1 x y k⟩
/-- the pairs of a RECORD's PARTS with others -/
def ma_2 (n : Nat) (p q : Nat → Nat) : Nat → Nat → Prop := fun u v => ∃ k, k < n ∧ u = p k ∧ v = q k
/-- a second value for a class, at a variable that had none of its own -/
theorem ma_R_add {U : Nat → Prop} {L : Nat → Nat} {TX TY TY' : ma_T} {x : Nat} {sh : Int32 × Int32} {p : Nat → Nat} (r : ma_R U L TX TY) (ux : U x) (hc : TX.1 (L x)) (hs : TX.2.1 (L x) = sh) (ny : ¬ TY.1 x) (hY : ma_put TY TY' x sh p) : (∀ E, ma_F U L TX (ma_2 (ma_ct sh.1) (TX.2.2 (L x)) p) E → ma_Sub TX TY' E ∧ ma_Sub TY' TX E) ∧ ∀ E, ma_F U L TX (ma_2 (ma_ct sh.1) (TX.2.2 (L x)) p) E ↔ ma_F U L TY' (fun _ _ => False) E := by
  have r0 := r
  obtain ⟨w, x1, x2, y1, s1, s2⟩ := r
  have one : ∀ E, ma_F U L TX (ma_2 (ma_ct sh.1) (TX.2.2 (L x)) p) E → ma_Sub TX TY' E ∧ ma_Sub TY' TX E := by
    intro E hF
    obtain ⟨e, hb, hq, pc⟩ := hF
    have mk := ma_K_sub e hb
    refine ⟨ma_Sub_trans e (ma_Sub_mono mk s1) (ma_put_sub hY e), ?_⟩
    exact ma_put_back hY (ma_Sub_mono mk s2) hc (hb x ux) hs (fun k hk => e.2.1 _ _ (hq _ _ ⟨k, hk, rfl, rfl⟩)) ny
  refine ⟨one, fun E => ⟨fun hF => ?_, fun hF => ?_⟩⟩
  · obtain ⟨a, b⟩ := one E hF
    exact ⟨hF.1, hF.2.1, fun _ _ q => q.elim, ma_PC_sub hF.1 b hF.2.2.2⟩
  · obtain ⟨e, hb, hq, pc⟩ := hF
    have mk := ma_K_sub e hb
    refine ⟨e, hb, ?_, ma_PC_sub e (ma_Sub_trans e (ma_Sub_mono mk s1) (ma_put_sub hY e)) pc⟩
    intro u v ⟨k, hk, hu, hv⟩
    rw [hu, hv]
    obtain ⟨d, d1, d2, d3, d4⟩ := ma_R_y r0 hc
    rw [hs] at d4
    obtain ⟨h1, h2, h3, h4⟩ := hY
    obtain ⟨g1, g2⟩ := h2 d d1
    have ed : E d x := mk _ _ (Or.inr ⟨(y1 d d1).1, ux, d2⟩)
    have kk : k < ma_ct (TY.2.1 d).1 := by rw [d3, hs]; exact hk
    have hh := pc d x ((h1 d).mpr (Or.inl d1)) ((h1 x).mpr (Or.inr rfl)) ed (by rw [g1, d3, hs, h3]) k (by rw [g1]; exact kk)
    rw [g2 k kk, h4 k hk] at hh
    exact e.2.2 _ _ _ (mk _ _ (Or.inr ⟨x2 _ hc k (by rw [hs]; exact hk), (y1 d d1).2 k kk, d4 k hk⟩)) hh
theorem ma_R_addB {U : Nat → Prop} {L : Nat → Nat} {TX TY TY' : ma_T} {x : Nat} {sh : Int32 × Int32} {p : Nat → Nat} (r : ma_R U L TX TY) (ux : U x) (hc : TX.1 (L x)) (hs : TX.2.1 (L x) = sh) (ny : ¬ TY.1 x) (hY : ma_put TY TY' x sh p) : ∀ E, ma_F U L TX (ma_2 (ma_ct sh.1) (TX.2.2 (L x)) p) E → (ma_Bad TX E ↔ ma_Bad TY' E) := by
  intro E hF
  obtain ⟨a, b⟩ := (ma_R_add r ux hc hs ny hY).1 E hF
  exact ⟨ma_Bad_sub hF.1 a, ma_Bad_sub hF.1 b⟩
/-- a second value of another shape: it fails -/
theorem ma_R_clash {U : Nat → Prop} {L : Nat → Nat} {TX TY TY' : ma_T} {x : Nat} {sh : Int32 × Int32} {p : Nat → Nat} (r : ma_R U L TX TY) (ux : U x) (hc : TX.1 (L x)) (hs : TX.2.1 (L x) ≠ sh) (hY : ma_put TY TY' x sh p) (ny : ¬ TY.1 x) : ma_No U L TY' (fun _ _ => False) := by
  intro E hF
  obtain ⟨e, hb, hq, pc⟩ := hF
  obtain ⟨d, d1, d2, d3, d4⟩ := ma_R_y r hc
  obtain ⟨h1, h2, h3, h4⟩ := hY
  refine ⟨d, x, (h1 d).mpr (Or.inl d1), (h1 x).mpr (Or.inr rfl), ma_K_sub e hb _ _ (Or.inr ⟨(r.2.2.2.1 d d1).1, ux, d2⟩), ?_⟩
  rw [(h2 d d1).1, d3, h3]; exact hs
/-- pairs that are the SAME place by place ask for the same -/
theorem ma_F_Q {U : Nat → Prop} {L : Nat → Nat} {T : ma_T} {E : Nat → Nat → Prop} {n : Nat} {p p' q : Nat → Nat} (h : ∀ k, k < n → ma_K U L (p k) (p' k)) (hF : ma_F U L T (ma_2 n p q) E) : ma_F U L T (ma_2 n p' q) E := by
  obtain ⟨e, hb, hq, pc⟩ := hF
  refine ⟨e, hb, ?_, pc⟩
  intro u v ⟨k, hk, hu, hv⟩
  rw [hu, hv]
  exact e.2.2 _ _ _ (e.2.1 _ _ (ma_K_sub e hb _ _ (h k hk))) (hq _ _ ⟨k, hk, rfl, rfl⟩)
/-- a part of the store that nothing leaves answers for itself -/
theorem ma_cut {U U' : Nat → Prop} {L L' : Nat → Nat} {T T' : ma_T} (w : ma_W U L) (hT : ∀ c, T.1 c → U c ∧ L c = c) (sub : ∀ x, U' x → U x) (cl : ∀ x, U x → (U' x ↔ U' (L x))) (hL : ∀ x, U' x → L' x = L x) (t1 : ∀ c, T'.1 c ↔ (T.1 c ∧ U' c)) (t2 : ∀ c, T'.1 c → T'.2.1 c = T.2.1 c ∧ ∀ k, k < ma_ct (T.2.1 c).1 → T'.2.2 c k = T.2.2 c k ∧ U' (T.2.2 c k)) {x y : Nat} (hx : U' x) (hy : U' y) : (ma_al U' L' T' x y ↔ ma_al U L T x y) ∧ (ma_un U' L' T' x y ↔ ma_un U L T x y) := by
  have down : ∀ E, ma_F U L T (ma_1 x y) E → ma_F U' L' T' (ma_1 x y) E := by
    intro E ⟨e, hb, hq, pc⟩
    refine ⟨e, fun z hz => by rw [hL z hz]; exact hb z (sub z hz), hq, ?_⟩
    intro c d hc hd hE hs k hk
    obtain ⟨c1, c2⟩ := t2 c hc
    obtain ⟨d1, d2⟩ := t2 d hd
    rw [c1] at hk
    rw [c1, d1] at hs
    rw [(c2 k hk).1, (d2 k (by rw [← hs]; exact hk)).1]
    exact pc c d ((t1 c).mp hc).1 ((t1 d).mp hd).1 hE hs k hk
  have up : ∀ E, ma_F U' L' T' (ma_1 x y) E → ma_F U L T (ma_1 x y) (fun u v => (U' u ∧ U' v ∧ E u v) ∨ (¬ U' u ∧ ¬ U' v ∧ ma_K U L u v)) := by
    intro E ⟨e, hb, hq, pc⟩
    have ek := ma_K_eqv U L
    refine ⟨⟨?_, ?_, ?_⟩, ?_, ?_, ?_⟩
    · intro u
      by_cases z : U' u
      · exact Or.inl ⟨z, z, e.1 _⟩
      · exact Or.inr ⟨z, z, ek.1 _⟩
    · intro u v h
      rcases h with ⟨a, b, c⟩ | ⟨a, b, c⟩
      · exact Or.inl ⟨b, a, e.2.1 _ _ c⟩
      · exact Or.inr ⟨b, a, ek.2.1 _ _ c⟩
    · intro u v s h g
      rcases h with ⟨a, b, c⟩ | ⟨a, b, c⟩
      · rcases g with ⟨a', b', c'⟩ | ⟨a', b', c'⟩
        · exact Or.inl ⟨a, b', e.2.2 _ _ _ c c'⟩
        · exact absurd b a'
      · rcases g with ⟨a', b', c'⟩ | ⟨a', b', c'⟩
        · exact absurd a' b
        · exact Or.inr ⟨a, b', ek.2.2 _ _ _ c c'⟩
    · intro z hz
      by_cases q : U' z
      · have h1 := hb z q
        rw [hL z q] at h1
        exact Or.inl ⟨q, (cl z hz).mp q, h1⟩
      · exact Or.inr ⟨q, fun p => q ((cl z hz).mpr p), Or.inr ⟨hz, (w z hz).2.1, (w z hz).2.2.1.symm⟩⟩
    · intro u v ⟨a, b⟩
      rw [a, b]
      exact Or.inl ⟨hx, hy, hq x y ⟨rfl, rfl⟩⟩
    · intro c d hc hd hE hs k hk
      rcases hE with ⟨a, b, h⟩ | ⟨a, b, h⟩
      · have tc := (t1 c).mpr ⟨hc, a⟩
        have td := (t1 d).mpr ⟨hd, b⟩
        obtain ⟨c1, c2⟩ := t2 c tc
        obtain ⟨d1, d2⟩ := t2 d td
        have hk' : k < ma_ct (T.2.1 d).1 := by rw [← hs]; exact hk
        have h1 := pc c d tc td h (by rw [c1, d1, hs]) k (by rw [c1]; exact hk)
        rw [(c2 k hk).1, (d2 k hk').1] at h1
        exact Or.inl ⟨(c2 k hk).2, (d2 k hk').2, h1⟩
      · have e1 := ma_K_L h
        have e2 := (hT c hc).2
        have e3 := (hT d hd).2
        have e4 : c = d := by omega
        rw [e4]
        by_cases z : U' (T.2.2 d k)
        · exact Or.inl ⟨z, z, e.1 _⟩
        · exact Or.inr ⟨z, z, ek.1 _⟩
  have wl : ∀ c, U' c → (L' c = c ↔ L c = c) := fun c hc => by rw [hL c hc]
  refine ⟨⟨?_, ?_⟩, ⟨?_, ?_⟩⟩
  · intro ⟨E, hF, ht⟩
    refine ⟨_, up E hF, ?_⟩
    intro c d hc hd lc ld hE
    rcases hE with ⟨a, b, h⟩ | ⟨a, b, h⟩
    · rcases ht c d a b ((wl c a).mpr lc) ((wl d b).mpr ld) h with z | ⟨z1, z2, z3⟩
      · exact Or.inl z
      · rw [(t2 c z1).1, (t2 d z2).1] at z3
        exact Or.inr ⟨((t1 c).mp z1).1, ((t1 d).mp z2).1, z3⟩
    · have e1 := ma_K_L h
      exact Or.inl (by omega)
  · intro ⟨E, hF, ht⟩
    refine ⟨E, down E hF, ?_⟩
    intro c d hc hd lc ld hE
    rcases ht c d (sub c hc) (sub d hd) ((wl c hc).mp lc) ((wl d hd).mp ld) hE with z | ⟨z1, z2, z3⟩
    · exact Or.inl z
    · have tc := (t1 c).mpr ⟨z1, hc⟩
      have td := (t1 d).mpr ⟨z2, hd⟩
      exact Or.inr ⟨tc, td, by rw [(t2 c tc).1, (t2 d td).1]; exact z3⟩
  · intro hu E hF
    obtain ⟨c, d, hc, hd, hE, hs⟩ := hu E (down E hF)
    rw [(t2 c hc).1, (t2 d hd).1] at hs
    exact ⟨c, d, ((t1 c).mp hc).1, ((t1 d).mp hd).1, hE, hs⟩
  · intro hu E hF
    obtain ⟨c, d, hc, hd, hE, hs⟩ := hu _ (up E hF)
    rcases hE with ⟨a, b, h⟩ | ⟨a, b, h⟩
    · have tc := (t1 c).mpr ⟨hc, a⟩
      have td := (t1 d).mpr ⟨hd, b⟩
      exact ⟨c, d, tc, td, h, by rw [(t2 c tc).1, (t2 d td).1]; exact hs⟩
    · have e1 := ma_K_L h
      have e2 := (hT c hc).2
      have e3 := (hT d hd).2
      have e4 : c = d := by omega
      rw [e4] at hs
      exact absurd rfl hs
/-- the answer of a comparison -/
noncomputable def ma_vd (U : Nat → Prop) (L : Nat → Nat) (T : ma_T) (x y : Nat) : Int32 :=
  @ite _ (ma_al U L T x y) (Classical.propDecidable _) 1 (@ite _ (ma_un U L T x y) (Classical.propDecidable _) 2 3)
theorem ma_vd_is1 {U : Nat → Prop} {L : Nat → Nat} {T : ma_T} {x y : Nat} (h : ma_al U L T x y) : ma_vd U L T x y = 1 := by
  unfold ma_vd; exact if_pos h
theorem ma_vd_is2 {U : Nat → Prop} {L : Nat → Nat} {T : ma_T} {x y : Nat} (h : ¬ ma_al U L T x y) (h2 : ma_un U L T x y) : ma_vd U L T x y = 2 := by
  unfold ma_vd; rw [if_neg h]; exact if_pos h2
theorem ma_vd_is3 {U : Nat → Prop} {L : Nat → Nat} {T : ma_T} {x y : Nat} (h : ¬ ma_al U L T x y) (h2 : ¬ ma_un U L T x y) : ma_vd U L T x y = 3 := by
  unfold ma_vd; rw [if_neg h]; exact if_neg h2
theorem ma_vd_al {U : Nat → Prop} {L : Nat → Nat} {T : ma_T} {x y : Nat} : ma_vd U L T x y = 1 ↔ ma_al U L T x y := by
  constructor
  · intro h
    apply Classical.byContradiction
    intro n
    by_cases u : ma_un U L T x y
    · rw [ma_vd_is2 n u] at h; exact absurd h (by decide)
    · rw [ma_vd_is3 n u] at h; exact absurd h (by decide)
  · exact ma_vd_is1
theorem ma_vd_eq {U U' : Nat → Prop} {L L' : Nat → Nat} {T T' : ma_T} {x y : Nat} (h1 : ma_al U' L' T' x y ↔ ma_al U L T x y) (h2 : ma_un U' L' T' x y ↔ ma_un U L T x y) : ma_vd U' L' T' x y = ma_vd U L T x y := by
  by_cases a : ma_al U L T x y
  · rw [ma_vd_is1 a, ma_vd_is1 (h1.mpr a)]
  · by_cases b : ma_un U L T x y
    · rw [ma_vd_is2 a b, ma_vd_is2 (fun q => a (h1.mp q)) (h2.mpr b)]
    · rw [ma_vd_is3 a b, ma_vd_is3 (fun q => a (h1.mp q)) (fun q => b (h2.mp q))]
theorem ma_vd_cases (U : Nat → Prop) (L : Nat → Nat) (T : ma_T) (x y : Nat) : ma_vd U L T x y = 1 ∨ ma_vd U L T x y = 2 ∨ ma_vd U L T x y = 3 := by
  by_cases a : ma_al U L T x y
  · exact Or.inl (ma_vd_is1 a)
  · by_cases b : ma_un U L T x y
    · exact Or.inr (Or.inl (ma_vd_is2 a b))
    · exact Or.inr (Or.inr (ma_vd_is3 a b))
/-- RECORDS within each other -/
def ma_pt (R : Nat → Prop) (S : Nat → Nat → Prop) : Nat → Nat → Prop
  | 0, _ => True
  | r + 1, c => R c ∧ (r = 0 ∨ ∃ d, S c d ∧ ma_pt R S r d)
theorem ma_pt_dn {R : Nat → Prop} {S : Nat → Nat → Prop} : ∀ r c, ma_pt R S (r + 1) c → ma_pt R S r c := by
  intro r
  induction r with
  | zero => intro c _; exact True.intro
  | succ r ih =>
    intro c h
    obtain ⟨h1, h2⟩ := h
    rcases h2 with h2 | ⟨d, h3, h4⟩
    · exact absurd h2 (by omega)
    · exact ⟨h1, Or.inr ⟨d, h3, ih d h4⟩⟩
theorem ma_pt_le {R : Nat → Prop} {S : Nat → Nat → Prop} {c : Nat} : ∀ a r, ma_pt R S (r + a) c → ma_pt R S r c := by
  intro a
  induction a with
  | zero => intro r h; exact h
  | succ a ih => intro r h; exact ih r (ma_pt_dn (r + a) c h)
/-- an iteration's value at the end: at least what 49 rounds see, never more than there is -/
theorem ma_pt_one {P : Nat → Prop} (dn : ∀ a r, P (r + a) → P r) {D1 D2 : Nat} (a1 : P D1) (a2 : ∀ r, r ≤ 49 → P r → r ≤ D1) (b1 : P D2) (b2 : ∀ r, r ≤ 49 → P r → r ≤ D2) : (48 < D1 ↔ 48 < D2) ∧ (D1 ≤ 48 → D1 = D2) := by
  have g : ∀ D, P D → 48 < D → P 49 := fun D h q => dn (D - 49) 49 (by rw [show 49 + (D - 49) = D from by omega]; exact h)
  have i1 : 48 < D1 ↔ 48 < D2 := by
    constructor
    · intro h; have := b2 49 (by omega) (g D1 a1 h); omega
    · intro h; have := a2 49 (by omega) (g D2 b1 h); omega
  refine ⟨i1, fun h => ?_⟩
  have h2 : D2 ≤ 48 := by omega
  have := a2 D2 (by omega) b1
  have := b2 D1 (by omega) a1
  omega
end
section
/-- the component's row, read -/
def xv_U (a : Nat → Int32) (x : Nat) : Prop := x < 48 ∧ a (336 + x) = 1
def xv_L (a : Nat → Int32) (x : Nat) : Nat := if x < 48 then (a x).toNatClampNeg else 0
def xv_K (a : Nat → Int32) (c : Nat) : Int32 := if c < 48 then a (48 + c) else 0
def xv_V (a : Nat → Int32) (c : Nat) : Int32 := if c < 48 then a (96 + c) else 0
def xv_P (a : Nat → Int32) (c k : Nat) : Nat := if c < 48 ∧ k < 3 then (a (192 + 3 * c + k)).toNatClampNeg else 0
def xv_T (a : Nat → Int32) : ma_T := ma_X (xv_U a) (xv_L a) (xv_K a) (xv_V a) (xv_P a)
def xv_H (a : Nat → Int32) : Prop :=
  (∀ x, x < 48 → ∃ c, c < 48 ∧ a x = nI c) ∧
  (∀ c, c < 48 → a (144 + c) = nI (ma_ct (a (48 + c)))) ∧
  (∀ c k, c < 48 → k < 3 → ∃ q, q < 48 ∧ a (192 + 3 * c + k) = nI q) ∧
  (∀ x, x < 48 → a (336 + x) = 0 ∨ a (336 + x) = 1) ∧
  (∀ c, c < 48 → a (48 + c) = 1 ∨ a (96 + c) = 0) ∧
  (∀ c, c < 48 → ∃ k, k < 40 ∧ a (48 + c) = nI k)
theorem xv_HL {a : Nat → Int32} (h : xv_H a) {x : Nat} (hx : x < 48) : a x = nI (xv_L a x) ∧ xv_L a x < 48 := by
  obtain ⟨c, hc, e⟩ := h.1 x hx
  have : xv_L a x = c := by
    unfold xv_L
    rw [if_pos hx, e, nI_clamp (by omega)]
  rw [this]; exact ⟨e, hc⟩
theorem xv_HC {a : Nat → Int32} (h : xv_H a) {c : Nat} (hc : c < 48) : a (144 + c) = nI (ma_ct (xv_K a c)) ∧ ma_ct (xv_K a c) ≤ 3 := by
  refine ⟨?_, ma_ct_le _⟩
  unfold xv_K
  rw [if_pos hc]; exact h.2.1 c hc
theorem xv_HP {a : Nat → Int32} (h : xv_H a) {c k : Nat} (hc : c < 48) (hk : k < 3) : a (192 + 3 * c + k) = nI (xv_P a c k) ∧ xv_P a c k < 48 := by
  obtain ⟨q, hq, e⟩ := h.2.2.1 c k hc hk
  have : xv_P a c k = q := by
    unfold xv_P
    rw [if_pos ⟨hc, hk⟩, e, nI_clamp (by omega)]
  rw [this]; exact ⟨e, hq⟩
theorem xv_HK {a : Nat → Int32} {c : Nat} (hc : c < 48) : a (48 + c) = xv_K a c := by
  unfold xv_K; rw [if_pos hc]
theorem xv_HV {a : Nat → Int32} {c : Nat} (hc : c < 48) : a (96 + c) = xv_V a c := by
  unfold xv_V; rw [if_pos hc]
/-- the reference's row, read -/
def yv_U (s : Nat → Int32) (x : Nat) : Prop := x < 48 ∧ s (384 + x) = 1
def yv_k (s : Nat → Int32) (u : Nat) : Int32 := if s (48 + u) = 1 then 1 else 2 + 4 * s (144 + u) + s (192 + u)
def yv_P (s : Nat → Int32) (u k : Nat) : Nat := if u < 48 ∧ k < 3 then (s (240 + 3 * u + k)).toNatClampNeg else 0
def yv_T (s : Nat → Int32) : ma_T := (fun u => yv_U s u ∧ s (48 + u) ≠ 0, fun u => if u < 48 then (yv_k s u, s (96 + u)) else (0, 0), yv_P s)
def yv_H (s : Nat → Int32) : Prop :=
  (∀ v, v < 48 → ∃ c, c < 48 ∧ s v = nI c) ∧
  (∀ v, v < 48 → s (384 + v) = 1 ∨ (s (384 + v) = 0 ∧ s v = nI v ∧ s (48 + v) = 0)) ∧
  (∀ u, u < 48 → s (48 + u) = 0 ∨ (s (48 + u) = 1 ∧ s (144 + u) = 0 ∧ s (192 + u) = 0) ∨ (s (48 + u) = 2 ∧ s (96 + u) = 0 ∧ ∃ l c, l < 8 ∧ c ≤ 3 ∧ s (144 + u) = nI l ∧ s (192 + u) = nI c)) ∧
  (∀ u k, u < 48 → k < 3 → ∃ q, q < 48 ∧ s (240 + 3 * u + k) = nI q)
theorem yv_HP {s : Nat → Int32} (h : yv_H s) {c k : Nat} (hc : c < 48) (hk : k < 3) : s (240 + 3 * c + k) = nI (yv_P s c k) ∧ yv_P s c k < 48 := by
  obtain ⟨q, hq, e⟩ := h.2.2.2 c k hc hk
  have : yv_P s c k = q := by
    unfold yv_P
    rw [if_pos ⟨hc, hk⟩, e, nI_clamp (by omega)]
  rw [this]; exact ⟨e, hq⟩
theorem ma_ct_rec {l c : Nat} (hl : l < 8) (hc : c ≤ 3) : ma_ct (nI (2 + 4 * l + c)) = c := by
  unfold ma_ct
  rw [nI_clamp (by omega), if_neg (by omega)]
  omega
theorem ma_ct_0 : ma_ct 0 = 0 := by decide
theorem ma_ct_1 : ma_ct 1 = 0 := by decide
theorem yv_kr {s : Nat → Int32} {u l c : Nat} (h2 : s (48 + u) = 2) (hl : s (144 + u) = nI l) (hc : s (192 + u) = nI c) : yv_k s u = nI (2 + 4 * l + c) := by
  unfold yv_k
  rw [h2, if_neg (by decide), hl, hc, li_m4, li_a2, nI_add]
theorem yv_HC {s : Nat → Int32} (h : yv_H s) {u : Nat} (hu : u < 48) (h0 : s (48 + u) ≠ 0) : s (192 + u) = nI (ma_ct (yv_k s u)) ∧ ma_ct (yv_k s u) ≤ 3 := by
  refine ⟨?_, ma_ct_le _⟩
  rcases h.2.2.1 u hu with q | ⟨q1, q2, q3⟩ | ⟨q1, q2, l, c, hl, hc, e1, e2⟩
  · exact absurd q h0
  · unfold yv_k
    rw [q1, if_pos rfl, q3]; decide
  · rw [yv_kr q1 e1 e2, ma_ct_rec hl hc, e2]
/-- the reference's test of two told values is that of their codes -/
theorem yv_other {s : Nat → Int32} (h : yv_H s) {u v : Nat} (hu : u < 48) (hv : v < 48) (u0 : s (48 + u) ≠ 0) (v0 : s (48 + v) ≠ 0) : (s (48 + u) = s (48 + v) ∧ s (96 + u) = s (96 + v) ∧ s (144 + u) = s (144 + v) ∧ s (192 + u) = s (192 + v)) ↔ (yv_k s u, s (96 + u)) = (yv_k s v, s (96 + v)) := by
  constructor
  · intro ⟨a, b, c, d⟩
    unfold yv_k
    rw [a, b, c, d]
  · intro q
    have q1 : yv_k s u = yv_k s v := congrArg Prod.fst q
    have q2 : s (96 + u) = s (96 + v) := congrArg Prod.snd q
    rcases h.2.2.1 u hu with z | ⟨a1, a2, a3⟩ | ⟨a1, a2, l, c, hl, hc, e1, e2⟩
    · exact absurd z u0
    · have ku : yv_k s u = 1 := by unfold yv_k; rw [if_pos a1]
      rcases h.2.2.1 v hv with z | ⟨b1, b2, b3⟩ | ⟨b1, b2, l', c', hl', hc', f1, f2⟩
      · exact absurd z v0
      · exact ⟨by rw [a1, b1], q2, by rw [a2, b2], by rw [a3, b3]⟩
      · rw [ku, yv_kr b1 f1 f2] at q1
        have := (nI_eq (a := 1) (by decide) (by omega)).mp q1
        omega
    · rcases h.2.2.1 v hv with z | ⟨b1, b2, b3⟩ | ⟨b1, b2, l', c', hl', hc', f1, f2⟩
      · exact absurd z v0
      · have kv : yv_k s v = 1 := by unfold yv_k; rw [if_pos b1]
        rw [kv, yv_kr a1 e1 e2] at q1
        have := (nI_eq (b := 1) (by omega) (by decide)).mp q1
        omega
      · rw [yv_kr a1 e1 e2, yv_kr b1 f1 f2] at q1
        have := (nI_eq (by omega) (by omega)).mp q1
        have hl2 : l = l' := by omega
        have hc2 : c = c' := by omega
        exact ⟨by rw [a1, b1], q2, by rw [e1, f1, hl2], by rw [e2, f2, hc2]⟩
theorem xv_T1 {a : Nat → Int32} {c : Nat} (h : (xv_T a).1 c) : xv_U a c ∧ xv_L a c = c ∧ xv_K a c ≠ 0 := h
theorem yv_T1 {s : Nat → Int32} {c : Nat} (h : (yv_T s).1 c) : yv_U s c ∧ s (48 + c) ≠ 0 := h
/-- all but what was told -/
def re_N (B : Nat) (a s : Nat → Int32) : Prop :=
  (∀ x, x < 48 → a (384 + x) = s (480 + x) ∧ (a (384 + x) = 0 ∨ (a (384 + x) = 1 ∧ xv_U a x))) ∧
  (∀ x, x < 48 → a (432 + x) = s (432 + x) ∧ (a (432 + x) = 0 ∨ (a (432 + x) = 1 ∧ xv_U a x))) ∧
  (∀ t, t < 8 → a (480 + t) = s (544 + t) ∧ a (488 + t) = s (528 + t) ∧ a (496 + t) = s (536 + t) ∧ (a (480 + t) = 3 → (∃ q, xv_U a q ∧ a (488 + t) = nI q) ∧ (a (496 + t) = -1 ∨ ∃ q, xv_U a q ∧ a (496 + t) = nI q))) ∧
  (∀ k, k < 8 → a (504 + k) = s (552 + k) ∧ ((a (504 + k) = -1 ∧ a (512 + k) = -1) ∨ (∃ x y, xv_U a x ∧ xv_U a y ∧ a (504 + k) = nI x ∧ a (512 + k) = nI y ∧ s (560 + k) = nI y))) ∧
  (∀ e, e < 4 → a (520 + e) = s (568 + e) ∧ (a (520 + e) = -1 ∨ ∃ x, xv_U a x ∧ a (520 + e) = nI x)) ∧
  (∃ n, n ≤ B ∧ a 584 = nI n ∧ s 572 = nI n) ∧
  (∀ j, j < 60 → a (524 + j) = s (573 + j))
/-- the two rows hold the same -/
def re_P (B : Nat) (a s : Nat → Int32) : Prop :=
  xv_H a ∧ yv_H s ∧ (∀ x, x < 48 → a (336 + x) = s (384 + x)) ∧ (∀ x, xv_U a x → a x = s x) ∧ ma_R (xv_U a) (xv_L a) (xv_T a) (yv_T s) ∧ re_N B a s
/-- NEEDED -/
def re_nd (a : Nat → Int32) (x : Nat) : Prop :=
  (∃ v, v < 48 ∧ a (384 + v) = 1 ∧ xv_L a v = xv_L a x) ∨ (∃ t q, t < 8 ∧ a (480 + t) = 3 ∧ a (496 + t) = -1 ∧ q < 48 ∧ a (488 + t) = nI q ∧ xv_L a q = xv_L a x)
/-- SETTLED -/
def re_S1 (a : Nat → Int32) : Prop :=
  ∀ t q, t < 8 → a (480 + t) = 3 → q < 48 → a (488 + t) = nI q → (a (496 + t) = -1 → xv_K a (xv_L a q) = 0) ∧ (∀ y, y < 48 → a (496 + t) = nI y → ma_vd (xv_U a) (xv_L a) (xv_T a) q y = 3)
def re_S2 (a : Nat → Int32) : Prop :=
  ∀ k x, k < 8 → x < 48 → a (504 + k) = nI x → xv_K a (xv_L a x) = 0 ∧ ¬ re_nd a x
def re_C (B : Nat) (a s : Nat → Int32) : Prop := re_P B a s ∧ re_S1 a ∧ re_S2 a
/-- only the rows' own cells count -/
theorem xv_congr {a a' : Nat → Int32} (h : ∀ i, i < 384 → a' i = a i) : xv_U a' = xv_U a ∧ xv_L a' = xv_L a ∧ xv_K a' = xv_K a ∧ xv_V a' = xv_V a ∧ xv_P a' = xv_P a := by
  refine ⟨?_, ?_, ?_, ?_, ?_⟩
  · funext x
    unfold xv_U
    apply propext
    constructor
    · intro ⟨p, q⟩
      rw [h _ (by omega)] at q; exact ⟨p, q⟩
    · intro ⟨p, q⟩
      rw [← h _ (by omega)] at q; exact ⟨p, q⟩
  · funext x
    unfold xv_L
    by_cases q : x < 48
    · rw [if_pos q, if_pos q, h _ (by omega)]
    · rw [if_neg q, if_neg q]
  · funext x
    unfold xv_K
    by_cases q : x < 48
    · rw [if_pos q, if_pos q, h _ (by omega)]
    · rw [if_neg q, if_neg q]
  · funext x
    unfold xv_V
    by_cases q : x < 48
    · rw [if_pos q, if_pos q, h _ (by omega)]
    · rw [if_neg q, if_neg q]
  · funext x k
    unfold xv_P
    by_cases q : x < 48 ∧ k < 3
    · rw [if_pos q, if_pos q, h _ (by omega)]
    · rw [if_neg q, if_neg q]
theorem xv_congrT {a a' : Nat → Int32} (h : ∀ i, i < 384 → a' i = a i) : xv_T a' = xv_T a := by
  obtain ⟨h1, h2, h3, h4, h5⟩ := xv_congr h
  unfold xv_T
  rw [h1, h2, h3, h4, h5]
theorem xv_congrH {a a' : Nat → Int32} (h : ∀ i, i < 384 → a' i = a i) (g : xv_H a) : xv_H a' := by
  obtain ⟨g1, g2, g3, g4, g5, g6⟩ := g
  refine ⟨?_, ?_, ?_, ?_, ?_, ?_⟩
  · intro x hx; rw [h _ (by omega)]; exact g1 x hx
  · intro x hx; rw [h _ (by omega), h _ (by omega)]; exact g2 x hx
  · intro x k hx hk; rw [h _ (by omega)]; exact g3 x k hx hk
  · intro x hx; rw [h _ (by omega)]; exact g4 x hx
  · intro x hx; rw [h _ (by omega), h _ (by omega)]; exact g5 x hx
  · intro x hx; rw [h _ (by omega)]; exact g6 x hx
theorem yv_congrT {s s' : Nat → Int32} (h : ∀ i, 48 ≤ i → i < 432 → s' i = s i) : yv_T s' = yv_T s := by
  have h1 : (fun u => yv_U s' u ∧ s' (48 + u) ≠ 0) = (fun u => yv_U s u ∧ s (48 + u) ≠ 0) := by
    funext u
    apply propext
    unfold yv_U
    constructor
    · intro ⟨⟨p, q⟩, r⟩
      rw [h _ (by omega) (by omega)] at q r; exact ⟨⟨p, q⟩, r⟩
    · intro ⟨⟨p, q⟩, r⟩
      rw [← h _ (by omega) (by omega)] at q r; exact ⟨⟨p, q⟩, r⟩
  have h2 : (fun u => if u < 48 then (yv_k s' u, s' (96 + u)) else (0, 0)) = (fun u => if u < 48 then (yv_k s u, s (96 + u)) else (0, 0)) := by
    funext u
    by_cases q : u < 48
    · rw [if_pos q, if_pos q]
      unfold yv_k
      rw [h (48 + u) (by omega) (by omega), h (144 + u) (by omega) (by omega), h (192 + u) (by omega) (by omega), h (96 + u) (by omega) (by omega)]
    · rw [if_neg q, if_neg q]
  have h3 : yv_P s' = yv_P s := by
    funext u k
    unfold yv_P
    by_cases q : u < 48 ∧ k < 3
    · rw [if_pos q, if_pos q, h _ (by omega) (by omega)]
    · rw [if_neg q, if_neg q]
  unfold yv_T
  rw [h1, h2, h3]
theorem yv_congrH {s s' : Nat → Int32} (h : ∀ i, i < 432 → s' i = s i) (g : yv_H s) : yv_H s' := by
  obtain ⟨g1, g2, g3, g4⟩ := g
  refine ⟨?_, ?_, ?_, ?_⟩
  · intro x hx; rw [h _ (by omega)]; exact g1 x hx
  · intro x hx; rw [h _ (by omega), h _ (by omega), h _ (by omega)]; exact g2 x hx
  · intro x hx; rw [h (48 + x) (by omega), h (96 + x) (by omega), h (144 + x) (by omega), h (192 + x) (by omega)]; exact g3 x hx
  · intro x k hx hk; rw [h _ (by omega)]; exact g4 x k hx hk
theorem re_N_congr {B : Nat} {a a' s s' : Nat → Int32} (ha : ∀ i, 336 ≤ i → i < 585 → a' i = a i) (hs : ∀ i, 432 ≤ i → i < 633 → s' i = s i) (h : re_N B a s) : re_N B a' s' := by
  have hU : xv_U a' = xv_U a := by
    funext x
    unfold xv_U
    apply propext
    constructor
    · intro ⟨p, q⟩
      rw [ha _ (by omega) (by omega)] at q; exact ⟨p, q⟩
    · intro ⟨p, q⟩
      rw [← ha _ (by omega) (by omega)] at q; exact ⟨p, q⟩
  obtain ⟨h1, h2, h3, h4, h5, h6, h7⟩ := h
  unfold re_N
  rw [hU]
  refine ⟨?_, ?_, ?_, ?_, ?_, ?_, ?_⟩
  · intro x hx; rw [ha _ (by omega) (by omega), hs _ (by omega) (by omega)]; exact h1 x hx
  · intro x hx; rw [ha _ (by omega) (by omega), hs _ (by omega) (by omega)]; exact h2 x hx
  · intro x hx
    rw [ha (480 + x) (by omega) (by omega), ha (488 + x) (by omega) (by omega), ha (496 + x) (by omega) (by omega), hs (544 + x) (by omega) (by omega), hs (528 + x) (by omega) (by omega), hs (536 + x) (by omega) (by omega)]; exact h3 x hx
  · intro x hx
    rw [ha (504 + x) (by omega) (by omega), ha (512 + x) (by omega) (by omega), hs (552 + x) (by omega) (by omega), hs (560 + x) (by omega) (by omega)]; exact h4 x hx
  · intro x hx; rw [ha _ (by omega) (by omega), hs _ (by omega) (by omega)]; exact h5 x hx
  · rw [ha _ (by omega) (by omega), hs _ (by omega) (by omega)]; exact h6
  · intro x hx; rw [ha _ (by omega) (by omega), hs _ (by omega) (by omega)]; exact h7 x hx
theorem re_N_mono {B B' : Nat} {a s : Nat → Int32} (hB : B ≤ B') (h : re_N B a s) : re_N B' a s := by
  obtain ⟨h1, h2, h3, h4, h5, ⟨n, n1, n2⟩, h7⟩ := h
  exact ⟨h1, h2, h3, h4, h5, ⟨n, by omega, n2⟩, h7⟩
theorem re_P_mono {B B' : Nat} {a s : Nat → Int32} (hB : B ≤ B') (h : re_P B a s) : re_P B' a s :=
  ⟨h.1, h.2.1, h.2.2.1, h.2.2.2.1, h.2.2.2.2.1, re_N_mono hB h.2.2.2.2.2⟩
theorem re_C_mono {B B' : Nat} {a s : Nat → Int32} (hB : B ≤ B') (h : re_C B a s) : re_C B' a s := ⟨re_P_mono hB h.1, h.2⟩
theorem re_P_congr {B : Nat} {a a' s s' : Nat → Int32} (ha : ∀ i, i < 585 → a' i = a i) (hs : ∀ i, i < 633 → s' i = s i) (h : re_P B a s) : re_P B a' s' := by
  obtain ⟨h1, h2, h3, h4, h5, h6⟩ := h
  have ha' : ∀ i, i < 384 → a' i = a i := fun i hi => ha i (by omega)
  have hs' : ∀ i, i < 432 → s' i = s i := fun i hi => hs i (by omega)
  refine ⟨xv_congrH ha' h1, yv_congrH hs' h2, ?_, ?_, ?_, re_N_congr (fun i _ q => ha i q) (fun i _ q => hs i q) h6⟩
  · intro x hx; rw [ha _ (by omega), hs _ (by omega)]; exact h3 x hx
  · intro x hx
    rw [(xv_congr ha').1] at hx
    have := hx.1
    rw [ha _ (by omega), hs _ (by omega)]; exact h4 x hx
  · rw [xv_congrT ha', yv_congrT (fun i _ hi => hs' i hi), (xv_congr ha').1, (xv_congr ha').2.1]; exact h5
theorem re_C_congr {B : Nat} {a a' s s' : Nat → Int32} (ha : ∀ i, i < 585 → a' i = a i) (hs : ∀ i, i < 633 → s' i = s i) (h : re_C B a s) : re_C B a' s' := by
  obtain ⟨h1, h2, h3⟩ := h
  have ha' : ∀ i, i < 384 → a' i = a i := fun i hi => ha i (by omega)
  obtain ⟨u, l, k, _, _⟩ := xv_congr ha'
  have t := xv_congrT ha'
  refine ⟨re_P_congr ha hs h1, ?_, ?_⟩
  · intro t' q ht h3' hq e
    rw [ha _ (by omega)] at h3' e
    rw [ha _ (by omega), u, l, k, t]
    exact h2 t' q ht h3' hq e
  · intro k' x hk hx e
    rw [ha _ (by omega)] at e
    rw [k, l]
    obtain ⟨g1, g2⟩ := h3 k' x hk hx e
    refine ⟨g1, fun n => g2 ?_⟩
    rcases n with ⟨v, v1, v2, v3⟩ | ⟨t', q, t1, t2, t3, t4, t5, t6⟩
    · rw [ha _ (by omega)] at v2
      rw [l] at v3
      exact Or.inl ⟨v, v1, v2, v3⟩
    · rw [ha _ (by omega)] at t2 t3 t5
      rw [l] at t6
      exact Or.inr ⟨t', q, t1, t2, t3, t4, t5, t6⟩
end
section
/-- what join(lo, hi) leaves, cell by cell -/
def xj_J (a a' : Nat → Int32) (lo hi : Nat) : Prop :=
  (∀ x, x < 48 → a' x = if a x = nI hi then nI lo else a x) ∧
  (a (48 + lo) = 0 → a' (48 + lo) = a (48 + hi) ∧ a' (96 + lo) = a (96 + hi) ∧ a' (144 + lo) = a (144 + hi) ∧ ∀ k, k < 3 → a' (192 + 3 * lo + k) = a (192 + 3 * hi + k)) ∧
  (a (48 + lo) ≠ 0 → a' (48 + lo) = a (48 + lo) ∧ a' (96 + lo) = a (96 + lo) ∧ a' (144 + lo) = a (144 + lo) ∧ ∀ k, k < 3 → a' (192 + 3 * lo + k) = a (192 + 3 * lo + k)) ∧
  (∀ c, c < 48 → c ≠ lo → a' (48 + c) = a (48 + c) ∧ a' (96 + c) = a (96 + c) ∧ a' (144 + c) = a (144 + c) ∧ ∀ k, k < 3 → a' (192 + 3 * c + k) = a (192 + 3 * c + k)) ∧
  (∀ i, 336 ≤ i → a' i = a i)
theorem xj_H {a a' : Nat → Int32} {lo hi : Nat} (j : xj_J a a' lo hi) (h : xv_H a) (hlo : lo < 48) (hhi : hi < 48) : xv_H a' := by
  obtain ⟨j0, j1, j2, j3, j4⟩ := j
  obtain ⟨g1, g2, g3, g4, g5, g6⟩ := h
  have src : ∀ c, c < 48 → ∃ d, d < 48 ∧ a' (48 + c) = a (48 + d) ∧ a' (96 + c) = a (96 + d) ∧ a' (144 + c) = a (144 + d) ∧ ∀ k, k < 3 → a' (192 + 3 * c + k) = a (192 + 3 * d + k) := by
    intro c hc
    by_cases q : c = lo
    · by_cases z : a (48 + lo) = 0
      · rw [q]; exact ⟨hi, hhi, j1 z⟩
      · rw [q]; exact ⟨lo, hlo, j2 z⟩
    · exact ⟨c, hc, j3 c hc q⟩
  refine ⟨?_, ?_, ?_, ?_, ?_, ?_⟩
  · intro x hx
    rw [j0 x hx]
    by_cases q : a x = nI hi
    · rw [if_pos q]; exact ⟨lo, hlo, rfl⟩
    · rw [if_neg q]; exact g1 x hx
  · intro c hc
    obtain ⟨d, hd, e1, e2, e3, e4⟩ := src c hc
    rw [e1, e3]; exact g2 d hd
  · intro c k hc hk
    obtain ⟨d, hd, e1, e2, e3, e4⟩ := src c hc
    rw [e4 k hk]; exact g3 d k hd hk
  · intro x hx
    rw [j4 _ (by omega)]; exact g4 x hx
  · intro c hc
    obtain ⟨d, hd, e1, e2, e3, e4⟩ := src c hc
    rw [e1, e2]; exact g5 d hd
  · intro c hc
    obtain ⟨d, hd, e1, e2, e3, e4⟩ := src c hc
    rw [e1]; exact g6 d hd
theorem xj_L {a a' : Nat → Int32} {lo hi : Nat} (j : xj_J a a' lo hi) (h : xv_H a) (hlo : lo < 48) (hhi : hi < 48) : ∀ x, x < 48 → xv_L a' x = if xv_L a x = hi then lo else xv_L a x := by
  intro x hx
  obtain ⟨e, l⟩ := xv_HL h hx
  have h1 := j.1 x hx
  have h2 : xv_L a' x = (a' x).toNatClampNeg := by unfold xv_L; rw [if_pos hx]
  rw [h2, h1, e]
  by_cases q : xv_L a x = hi
  · rw [if_pos q, if_pos (by rw [q]), nI_clamp (by omega)]
  · rw [if_neg q, if_neg (fun z => q ((nI_eq (by omega) (by omega)).mp z)), nI_clamp (by omega)]
theorem xj_U {a a' : Nat → Int32} (j : ∀ i, 336 ≤ i → a' i = a i) : xv_U a' = xv_U a := by
  funext x
  unfold xv_U
  rw [j _ (by omega)]
theorem xj_ma {a a' : Nat → Int32} {lo hi : Nat} (j : xj_J a a' lo hi) (h : xv_H a) (hlo : lo < 48) (hhi : hi < 48) : ma_J (xv_U a) lo hi (xv_L a) (xv_L a') (xv_K a) (xv_V a) (xv_K a') (xv_V a') (xv_P a) (xv_P a') := by
  have hL := xj_L j h hlo hhi
  obtain ⟨j0, j1, j2, j3, j4⟩ := j
  have P : ∀ c k, c < 48 → k < 3 → ∀ b, xv_P b c k = (b (192 + 3 * c + k)).toNatClampNeg := by
    intro c k hc hk b
    unfold xv_P; rw [if_pos ⟨hc, hk⟩]
  refine ⟨fun x hx => hL x hx.1, ?_, ?_, ?_⟩
  · intro z
    rw [← xv_HK hlo] at z
    obtain ⟨e1, e2, _, e4⟩ := j1 z
    refine ⟨?_, ?_, fun k hk => ?_⟩
    · rw [← xv_HK hlo, ← xv_HK hhi, e1]
    · rw [← xv_HV hlo, ← xv_HV hhi, e2]
    · rw [P lo k hlo hk, P hi k hhi hk, e4 k hk]
  · intro z
    rw [← xv_HK hlo] at z
    obtain ⟨e1, e2, _, e4⟩ := j2 z
    refine ⟨?_, ?_, fun k hk => ?_⟩
    · rw [← xv_HK hlo, ← xv_HK hlo, e1]
    · rw [← xv_HV hlo, ← xv_HV hlo, e2]
    · rw [P lo k hlo hk, P lo k hlo hk, e4 k hk]
  · intro c hc q
    obtain ⟨e1, e2, _, e4⟩ := j3 c hc.1 q
    refine ⟨?_, ?_, fun k hk => ?_⟩
    · rw [← xv_HK hc.1, ← xv_HK hc.1, e1]
    · rw [← xv_HV hc.1, ← xv_HV hc.1, e2]
    · rw [P c k hc.1 hk, P c k hc.1 hk, e4 k hk]
/-- the work of merge, at its turn i -/
def xm_I (a0 : Nat → Int32) (Q0 : Nat → Nat → Prop) (a : Nat → Int32) (px py : Nat → Nat) (i m : Nat) (vd : Int32) : Prop :=
  xv_H a ∧ (∀ j, 336 ≤ j → a j = a0 j) ∧ ma_MI (xv_U a0) (xv_L a0) (xv_T a0) Q0 (xv_L a) (xv_K a) (xv_V a) (xv_P a) px py i m vd ∧ m + 3 * ma_cnt (fun v => decide (xv_L a v = v)) 48 ≤ 147
theorem xm_rep {a0 : Nat → Int32} {Q0 : Nat → Nat → Prop} {a : Nat → Int32} {px py : Nat → Nat} {i m : Nat} {vd : Int32} (h : xm_I a0 Q0 a px py i m vd) (him : i < m) (ne : xv_L a (px i) ≠ xv_L a (py i)) : m ≤ 141 ∧ xv_L a (px i) < 48 ∧ xv_L a (py i) < 48 ∧ px i < 48 ∧ py i < 48 := by
  obtain ⟨hH, hr, hm, hc⟩ := h
  obtain ⟨u1, l1, u2, l2, _⟩ := ma_MI_ab hm him
  have w := hm.1
  have hp := hm.2.1 i him
  refine ⟨?_, u1.1, u2.1, hp.1.1, hp.2.1⟩
  have key : 2 ≤ ma_cnt (fun v => decide (xv_L a v = v)) 48 := by
    have h1 : 1 ≤ ma_cnt (fun v => decide (v = xv_L a (px i))) 48 := ma_cnt_pos u1.1 (decide_eq_true rfl)
    have h2 : ma_cnt (fun v => decide (v = xv_L a (px i))) 48 < ma_cnt (fun v => decide (xv_L a v = v)) 48 := by
      refine ma_cnt_lt 48 ?_ ⟨xv_L a (py i), u2.1, decide_eq_true l2, ?_⟩
      · intro v _ hv
        have : v = xv_L a (px i) := of_decide_eq_true hv
        rw [this]; exact decide_eq_true l1
      · intro hv
        have : xv_L a (py i) = xv_L a (px i) := of_decide_eq_true hv
        exact ne this.symm
    omega
  omega
theorem xm_skip {a0 : Nat → Int32} {Q0 : Nat → Nat → Prop} {a : Nat → Int32} {px py : Nat → Nat} {i m : Nat} {vd : Int32} (h : xm_I a0 Q0 a px py i m vd) (him : i < m) (e : xv_L a (px i) = xv_L a (py i)) : xm_I a0 Q0 a px py (i + 1) m vd :=
  ⟨h.1, h.2.1, ma_MI_skip h.2.2.1 him e, h.2.2.2⟩
theorem xm_no {a0 : Nat → Int32} {Q0 : Nat → Nat → Prop} {a : Nat → Int32} {px py : Nat → Nat} {i m : Nat} {vd : Int32} (h : xm_I a0 Q0 a px py i m vd) (him : i < m) (k1 : xv_K a (xv_L a (px i)) ≠ 0) (k2 : xv_K a (xv_L a (py i)) ≠ 0) (ne : xv_K a (xv_L a (px i)) ≠ xv_K a (xv_L a (py i)) ∨ xv_V a (xv_L a (px i)) ≠ xv_V a (xv_L a (py i))) : ma_No (xv_U a0) (xv_L a0) (xv_T a0) Q0 := by
  refine ma_MI_no h.2.2.1 him k1 k2 (fun q => ?_)
  rcases ne with z | z
  · exact z (congrArg Prod.fst q)
  · exact z (congrArg Prod.snd q)
/-- lo and hi are the two least members -/
def xm_lh (x y lo hi : Nat) : Prop := lo < hi ∧ ((x = lo ∧ y = hi) ∨ (x = hi ∧ y = lo))
theorem xm_join {a0 : Nat → Int32} {Q0 : Nat → Nat → Prop} {a a' : Nat → Int32} {px py px' py' : Nat → Nat} {i m m' lo hi : Nat} {vd vd' : Int32} (h : xm_I a0 Q0 a px py i m vd) (him : i < m) (lh : xm_lh (xv_L a (px i)) (xv_L a (py i)) lo hi) (j : xj_J a a' lo hi)
    (hpq : xv_K a lo ≠ 0 → xv_K a hi ≠ 0 → (xv_K a lo, xv_V a lo) = (xv_K a hi, xv_V a hi))
    (hm : m ≤ m') (hm3 : m' ≤ m + 3) (hold : ∀ j, j < m → px' j = px j ∧ py' j = py j)
    (hnew : ∀ j, m ≤ j → j < m' → xv_K a lo ≠ 0 ∧ xv_K a hi ≠ 0 ∧ ∃ k, k < ma_ct (xv_K a lo) ∧ ((px' j = xv_P a lo k ∧ py' j = xv_P a hi k) ∨ (px' j = xv_P a hi k ∧ py' j = xv_P a lo k)))
    (hall : xv_K a lo ≠ 0 → xv_K a hi ≠ 0 → ∀ k, k < ma_ct (xv_K a lo) → ∃ j, m ≤ j ∧ j < m' ∧ ((px' j = xv_P a lo k ∧ py' j = xv_P a hi k) ∨ (px' j = xv_P a hi k ∧ py' j = xv_P a lo k)))
    (hv : ma_Vd (xv_U a0) (xv_L a0) (xv_T a0) Q0 (xv_L a') (xv_K a') vd') : xm_I a0 Q0 a' px' py' (i + 1) m' vd' := by
  obtain ⟨lt, lpq⟩ := lh
  have ne : xv_L a (px i) ≠ xv_L a (py i) := by omega
  obtain ⟨_, b1, b2, _, _⟩ := xm_rep h him ne
  obtain ⟨hH, hr, hI, hc⟩ := h
  have hlo : lo < 48 := by omega
  have hhi : hi < 48 := by omega
  have jm := xj_ma j hH hlo hhi
  have eU : xv_U a = xv_U a0 := xj_U hr
  rw [eU] at jm
  obtain ⟨u1, l1, u2, l2, _⟩ := ma_MI_ab hI him
  refine ⟨xj_H j hH hlo hhi, fun k hk => by rw [j.2.2.2.2 k hk]; exact hr k hk, ma_MI_join hI him lpq lt jm hpq hm hold hnew hall hv, ?_⟩
  have lr : xv_L a lo = lo ∧ xv_L a hi = hi := by
    rcases lpq with ⟨p, q⟩ | ⟨p, q⟩
    · rw [p] at l1; rw [q] at l2; exact ⟨l1, l2⟩
    · rw [p] at l1; rw [q] at l2; exact ⟨l2, l1⟩
  have := ma_cnt_join lt hhi lr.1 lr.2 (xj_L j hH hlo hhi)
  omega
theorem xm_free {a0 : Nat → Int32} {Q0 : Nat → Nat → Prop} {a a' : Nat → Int32} {px py : Nat → Nat} {i m lo hi : Nat} {vd : Int32} (h : xm_I a0 Q0 a px py i m vd) (him : i < m) (lh : xm_lh (xv_L a (px i)) (xv_L a (py i)) lo hi) (j : xj_J a a' lo hi) (hz : xv_K a (xv_L a (px i)) = 0 ∨ xv_K a (xv_L a (py i)) = 0) : xm_I a0 Q0 a' px py (i + 1) m 3 := by
  have z : xv_K a lo ≠ 0 → xv_K a hi ≠ 0 → False := by
    intro p q
    obtain ⟨_, ⟨e1, e2⟩ | ⟨e1, e2⟩⟩ := lh
    · rw [e1, e2] at hz
      rcases hz with r | r
      · exact p r
      · exact q r
    · rw [e1, e2] at hz
      rcases hz with r | r
      · exact q r
      · exact p r
  have ne : xv_L a (px i) ≠ xv_L a (py i) := by
    obtain ⟨_, _⟩ := lh
    omega
  exact xm_join h him lh j (fun p q => (z p q).elim) (Nat.le_refl _) (by omega) (fun _ _ => ⟨rfl, rfl⟩) (fun _ p q => by omega) (fun p q => (z p q).elim) (ma_Vd_free _ _ h.2.2.1 him ne hz)
theorem xm_val {a0 : Nat → Int32} {Q0 : Nat → Nat → Prop} {a a' : Nat → Int32} {px py px' py' : Nat → Nat} {i m lo hi : Nat} {vd : Int32} (h : xm_I a0 Q0 a px py i m vd) (him : i < m) (lh : xm_lh (xv_L a (px i)) (xv_L a (py i)) lo hi) (j : xj_J a a' lo hi) (k1 : xv_K a (xv_L a (px i)) ≠ 0) (k2 : xv_K a (xv_L a (py i)) ≠ 0) (e1 : xv_K a (xv_L a (px i)) = xv_K a (xv_L a (py i))) (e2 : xv_V a (xv_L a (px i)) = xv_V a (xv_L a (py i)))
    (hold : ∀ j, j < m → px' j = px j ∧ py' j = py j)
    (hnew : ∀ k, k < ma_ct (xv_K a (xv_L a (px i))) → px' (m + k) = xv_P a (xv_L a (px i)) k ∧ py' (m + k) = xv_P a (xv_L a (py i)) k) : xm_I a0 Q0 a' px' py' (i + 1) (m + ma_ct (xv_K a (xv_L a (px i)))) vd := by
  have ct3 := ma_ct_le (xv_K a (xv_L a (px i)))
  obtain ⟨u1, l1, u2, l2, _⟩ := ma_MI_ab h.2.2.1 him
  have ne : xv_L a (px i) ≠ xv_L a (py i) := by
    obtain ⟨_, _⟩ := lh
    omega
  obtain ⟨_, b1, b2, _, _⟩ := xm_rep h him ne
  have eU : xv_U a = xv_U a0 := xj_U h.2.1
  have lh0 := lh
  obtain ⟨lt, lpq⟩ := lh
  rcases lpq with ⟨p, q⟩ | ⟨p, q⟩
  · rw [p] at k1 e1 e2 hnew ct3 u1 l1 ⊢
    rw [q] at k2 e1 e2 hnew u2 l2
    have jm := xj_ma j h.1 u1.1 u2.1
    rw [eU] at jm
    refine xm_join h him lh0 j (fun _ _ => by rw [e1, e2]) (by omega) (by omega) hold ?_ ?_ (ma_Vd_val h.2.2.1 u1 l1 u2 l2 k1 k2 jm)
    · intro jj h1 h2
      refine ⟨k1, k2, jj - m, by omega, Or.inl ?_⟩
      have := hnew (jj - m) (by omega)
      rw [show m + (jj - m) = jj from by omega] at this
      exact this
    · intro _ _ k hk
      exact ⟨m + k, by omega, by omega, Or.inl (hnew k hk)⟩
  · rw [p] at k1 e1 e2 hnew ct3 u1 l1 ⊢
    rw [q] at k2 e1 e2 hnew u2 l2
    have jm := xj_ma j h.1 u2.1 u1.1
    rw [eU] at jm
    refine xm_join h him lh0 j (fun _ _ => by rw [e1, e2]) (by omega) (by omega) hold ?_ ?_ (ma_Vd_val h.2.2.1 u2 l2 u1 l1 k2 k1 jm)
    · intro jj h1 h2
      refine ⟨k2, k1, jj - m, by rw [← e1]; omega, Or.inr ?_⟩
      have := hnew (jj - m) (by omega)
      rw [show m + (jj - m) = jj from by omega] at this
      exact this
    · intro _ _ k hk
      exact ⟨m + k, by omega, by rw [← e1] at hk; omega, Or.inr (hnew k (by rw [e1]; exact hk))⟩
end
section
/-- the reference's row of tried least members -/
def yv_I (s : Nat → Int32) (b x : Nat) : Nat := if x < 48 then (s (b + x)).toNatClampNeg else 0
/-- the work of close: the problem (L, Q), the row as it stands -/
def yc_I (L : Nat → Nat) (Q : Nat → Nat → Prop) (s0 s : Nat → Int32) : Prop :=
  (∀ i, i < 633 → s i = s0 i) ∧ (∀ v, v < 48 → ∃ c, c < 48 ∧ s (633 + v) = nI c) ∧ ma_W (yv_U s0) (yv_I s 633) ∧ (∀ v, v < 48 → ¬ yv_U s0 v → s (633 + v) = nI v) ∧
  (∀ E, ma_F (yv_U s0) L (yv_T s0) Q E ↔ ma_F (yv_U s0) (yv_I s 633) (yv_T s0) ma_0 E)
theorem yv_HI {s : Nat → Int32} {b v : Nat} (h : ∀ v, v < 48 → ∃ c, c < 48 ∧ s (b + v) = nI c) (hv : v < 48) : s (b + v) = nI (yv_I s b v) ∧ yv_I s b v < 48 := by
  obtain ⟨c, hc, e⟩ := h v hv
  have : yv_I s b v = c := by
    unfold yv_I
    rw [if_pos hv, e, nI_clamp (by omega)]
  rw [this]; exact ⟨e, hc⟩
/-- what join(b, x, y) leaves -/
def yj_J (s s' : Nat → Int32) (b x y : Nat) : Prop :=
  (∀ v, v < 48 → s' (b + v) = if s (b + v) = s (b + x) ∨ s (b + v) = s (b + y) then (if s (b + x) < s (b + y) then s (b + x) else s (b + y)) else s (b + v)) ∧ ∀ i, (i < b ∨ b + 48 ≤ i) → s' i = s i
theorem yj_I {s s' : Nat → Int32} {b x y : Nat} (j : yj_J s s' b x y) (h : ∀ v, v < 48 → ∃ c, c < 48 ∧ s (b + v) = nI c) (hx : x < 48) (hy : y < 48) : (∀ v, v < 48 → ∃ c, c < 48 ∧ s' (b + v) = nI c) ∧ ∀ v, v < 48 → yv_I s' b v = if yv_I s b v = yv_I s b x ∨ yv_I s b v = yv_I s b y then (if yv_I s b x < yv_I s b y then yv_I s b x else yv_I s b y) else yv_I s b v := by
  have key : ∀ v, v < 48 → s' (b + v) = nI (if yv_I s b v = yv_I s b x ∨ yv_I s b v = yv_I s b y then (if yv_I s b x < yv_I s b y then yv_I s b x else yv_I s b y) else yv_I s b v) := by
    intro v hv
    obtain ⟨ev, lv⟩ := yv_HI h hv
    obtain ⟨ex, lx⟩ := yv_HI h hx
    obtain ⟨ey, ly⟩ := yv_HI h hy
    rw [j.1 v hv, ev, ex, ey]
    have c1 : (nI (yv_I s b v) = nI (yv_I s b x) ∨ nI (yv_I s b v) = nI (yv_I s b y)) ↔ (yv_I s b v = yv_I s b x ∨ yv_I s b v = yv_I s b y) := by
      rw [nI_eq (by omega) (by omega), nI_eq (by omega) (by omega)]
    have c2 : nI (yv_I s b x) < nI (yv_I s b y) ↔ yv_I s b x < yv_I s b y := nI_ltI (by omega) (by omega)
    by_cases q : yv_I s b v = yv_I s b x ∨ yv_I s b v = yv_I s b y
    · rw [if_pos q, if_pos (c1.mpr q)]
      by_cases z : yv_I s b x < yv_I s b y
      · rw [if_pos z, if_pos (c2.mpr z)]
      · rw [if_neg z, if_neg (fun w => z (c2.mp w))]
    · rw [if_neg q, if_neg (fun w => q (c1.mp w))]
  have bd : ∀ v, v < 48 → (if yv_I s b v = yv_I s b x ∨ yv_I s b v = yv_I s b y then (if yv_I s b x < yv_I s b y then yv_I s b x else yv_I s b y) else yv_I s b v) < 48 := by
    intro v hv
    have := (yv_HI h hv).2
    have := (yv_HI h hx).2
    have := (yv_HI h hy).2
    split
    · split <;> omega
    · omega
  refine ⟨fun v hv => ⟨_, bd v hv, key v hv⟩, fun v hv => ?_⟩
  have h1 : yv_I s' b v = (s' (b + v)).toNatClampNeg := by unfold yv_I; rw [if_pos hv]
  have := bd v hv
  rw [h1, key v hv, nI_clamp (by omega)]
theorem yc_W {L : Nat → Nat} {Q : Nat → Nat → Prop} {s0 s : Nat → Int32} (h : yc_I L Q s0 s) : ∀ v, v < 48 → s (633 + v) = nI (yv_I s 633 v) ∧ yv_I s 633 v < 48 := fun _ hv => yv_HI h.2.1 hv
/-- one join more, of two that every relation asked for has -/
theorem yc_step {L : Nat → Nat} {Q : Nat → Nat → Prop} {s0 s s' : Nat → Int32} {x y : Nat} (h : yc_I L Q s0 s) (hx : yv_U s0 x) (hy : yv_U s0 y) (j : yj_J s s' 633 x y) (hE : ∀ E, ma_F (yv_U s0) (yv_I s 633) (yv_T s0) ma_0 E → E x y) : yc_I L Q s0 s' ∧ (yv_I s 633 x ≠ yv_I s 633 y → ma_cnt (fun v => decide (yv_I s' 633 v = v)) 48 < ma_cnt (fun v => decide (yv_I s 633 v = v)) 48) ∧ (∀ u v, yv_U s0 u → yv_U s0 v → yv_I s 633 u = yv_I s 633 v → yv_I s' 633 u = yv_I s' 633 v) ∧ yv_I s' 633 x = yv_I s' 633 y := by
  obtain ⟨h1, h2, h3, h5, h4⟩ := h
  obtain ⟨g1, g2⟩ := yj_I j h2 hx.1 hy.1
  obtain ⟨m1, m2, m3, m4, m5, m6⟩ := ma_YJ (T := yv_T s0) (Q := ma_0) h3 hx hy g2
  have un : ∀ v, v < 48 → ¬ yv_U s0 v → s' (633 + v) = nI v := by
    intro v hv nu
    have e := h5 v hv nu
    have f : ∀ z, yv_U s0 z → ¬ s (633 + v) = s (633 + z) := by
      intro z hz q
      obtain ⟨e1, e2⟩ := yv_HI h2 hz.1
      rw [e, e1] at q
      have q' := (nI_eq (by omega) (by omega)).mp q
      apply nu
      rw [q']; exact (h3 z hz).2.1
    rw [j.1 v hv, if_neg (fun q => q.elim (f x hx) (f y hy))]
    exact e
  refine ⟨⟨fun i hi => by rw [j.2 i (by omega)]; exact h1 i hi, g1, m1, un, fun E => ⟨fun q => ?_, fun q => ?_⟩⟩, m4, m5, m6⟩
  · have q1 := (h4 E).mp q
    exact m2 E q1 (hE E q1)
  · exact (h4 E).mpr (m3 E q).1
/-- the PARTS of two of one class and one shape -/
theorem yc_part {s0 : Nat → Int32} {I : Nat → Nat} {u v k : Nat} (hu : (yv_T s0).1 u) (hv : (yv_T s0).1 v) (e : I u = I v) (sh : (yv_T s0).2.1 u = (yv_T s0).2.1 v) (hk : k < ma_ct ((yv_T s0).2.1 u).1) : ∀ E, ma_F (yv_U s0) I (yv_T s0) ma_0 E → E ((yv_T s0).2.2 u k) ((yv_T s0).2.2 v k) := by
  intro E hF
  obtain ⟨ev, hb, _, pc⟩ := hF
  exact pc u v hu hv (ma_K_sub ev hb u v (Or.inr ⟨(yv_T1 hu).1, (yv_T1 hv).1, e⟩)) sh k hk
theorem yc_no {L : Nat → Nat} {Q : Nat → Nat → Prop} {s0 s : Nat → Int32} {u v : Nat} (h : yc_I L Q s0 s) (hu : (yv_T s0).1 u) (hv : (yv_T s0).1 v) (e : yv_I s 633 u = yv_I s 633 v) (sh : (yv_T s0).2.1 u ≠ (yv_T s0).2.1 v) : ma_No (yv_U s0) L (yv_T s0) Q := by
  intro E hF
  obtain ⟨ev, hb, _, pc⟩ := (h.2.2.2.2 E).mp hF
  exact ⟨u, v, hu, hv, ma_K_sub ev hb u v (Or.inr ⟨(yv_T1 hu).1, (yv_T1 hv).1, e⟩), sh⟩
theorem yc_ok {L : Nat → Nat} {Q : Nat → Nat → Prop} {s0 s : Nat → Int32} (h : yc_I L Q s0 s) (hT : ∀ c, (yv_T s0).1 c → yv_U s0 c ∧ ∀ k, k < ma_ct ((yv_T s0).2.1 c).1 → yv_U s0 ((yv_T s0).2.2 c k)) (hp : ∀ u v, (yv_T s0).1 u → (yv_T s0).1 v → u < v → yv_I s 633 u = yv_I s 633 v → (yv_T s0).2.1 u = (yv_T s0).2.1 v ∧ ∀ k, k < ma_ct ((yv_T s0).2.1 u).1 → yv_I s 633 ((yv_T s0).2.2 u k) = yv_I s 633 ((yv_T s0).2.2 v k)) : ma_Ok (yv_U s0) L (yv_T s0) Q (yv_I s 633) := by
  obtain ⟨h1, h2, h3, _, h4⟩ := h
  obtain ⟨f1, f2⟩ := ma_Y_fin h3 hT hp
  refine ⟨h3, (h4 _).mpr f1, f2, fun E hE x y k => ?_⟩
  have := (h4 E).mp hE
  exact ma_K_sub this.1 this.2.1 x y k
end
section
/-- the last of the first n that is told to be something, of those with the least member w -/
def ys_wh (s : Nat → Int32) (w : Int32) : Nat → Int32
  | 0 => -1
  | n + 1 => if s n = w ∧ s (48 + n) ≠ 0 then nI n else ys_wh s w n
theorem ys_wh_c (s : Nat → Int32) (w : Int32) : ∀ n, (ys_wh s w n = -1 ∧ ∀ u, u < n → s u = w → s (48 + u) = 0) ∨ ∃ j, j < n ∧ ys_wh s w n = nI j ∧ s j = w ∧ s (48 + j) ≠ 0 := by
  intro n
  induction n with
  | zero => exact Or.inl ⟨rfl, fun u hu => by omega⟩
  | succ n ih =>
    show ((if s n = w ∧ s (48 + n) ≠ 0 then nI n else ys_wh s w n) = -1 ∧ _) ∨ ∃ j, j < n + 1 ∧ (if s n = w ∧ s (48 + n) ≠ 0 then nI n else ys_wh s w n) = nI j ∧ _
    by_cases q : s n = w ∧ s (48 + n) ≠ 0
    · rw [if_pos q]
      exact Or.inr ⟨n, by omega, rfl, q.1, q.2⟩
    · rw [if_neg q]
      rcases ih with ⟨h1, h2⟩ | ⟨j, h1, h2⟩
      · refine Or.inl ⟨h1, fun u hu e => ?_⟩
        by_cases z : u = n
        · apply Classical.byContradiction
          intro h0
          rw [z] at e h0
          exact q ⟨e, h0⟩
        · exact h2 u (by omega) e
      · exact Or.inr ⟨j, by omega, h2⟩
def ys_h (s : Nat → Int32) (n u : Nat) : Prop := ys_wh s (s u) n ≠ -1
def ys_f (s : Nat → Int32) (n u : Nat) : Nat := (ys_wh s (s u) n).toNatClampNeg
theorem ys_hf {s : Nat → Int32} {n u : Nat} (hn : n ≤ 48) (h : ys_h s n u) : ys_wh s (s u) n = nI (ys_f s n u) ∧ ys_f s n u < n ∧ s (ys_f s n u) = s u ∧ s (48 + ys_f s n u) ≠ 0 := by
  rcases ys_wh_c s (s u) n with ⟨q, _⟩ | ⟨j, h1, h2, h3, h4⟩
  · exact absurd q h
  · have e : ys_f s n u = j := by
      unfold ys_f
      rw [h2, nI_clamp (by omega)]
    rw [e]; exact ⟨h2, h1, h3, h4⟩
theorem re_Ls {B : Nat} {a s : Nat → Int32} (r : re_P B a s) {x : Nat} (hx : xv_U a x) : s x = nI (xv_L a x) ∧ xv_L a x < 48 := by
  obtain ⟨h1, h2, h3, h4, _⟩ := r
  have := xv_HL h1 hx.1
  rw [← h4 x hx]; exact this
theorem re_U {B : Nat} {a s : Nat → Int32} (r : re_P B a s) : yv_U s = xv_U a := by
  funext x
  apply propext
  unfold yv_U xv_U
  constructor
  · intro ⟨h, e⟩
    exact ⟨h, by rw [r.2.2.1 x h]; exact e⟩
  · intro ⟨h, e⟩
    exact ⟨h, by rw [← r.2.2.1 x h]; exact e⟩
theorem re_eqL {B : Nat} {a s : Nat → Int32} (r : re_P B a s) {x y : Nat} (hx : xv_U a x) (hy : xv_U a y) : s x = s y ↔ xv_L a x = xv_L a y := by
  obtain ⟨e1, l1⟩ := re_Ls r hx
  obtain ⟨e2, l2⟩ := re_Ls r hy
  rw [e1, e2, nI_eq (by omega) (by omega)]
/-- who an id that is told to be something belongs to is in USE -/
theorem re_told {B : Nat} {a s : Nat → Int32} (r : re_P B a s) {x : Nat} (hx : x < 48) (h : s (48 + x) ≠ 0) : xv_U a x := by
  rcases r.2.1.2.1 x hx with q | ⟨_, _, q⟩
  · exact ⟨hx, by rw [r.2.2.1 x hx]; exact q⟩
  · exact absurd q h
theorem re_wh {B : Nat} {a s : Nat → Int32} {n : Nat} (r : re_P B a s) (hn : n ≤ 48) (hU : ∀ x, xv_U a x → x < n) : ma_Wh (xv_U a) (xv_L a) (yv_T s) (ys_h s n) (ys_f s n) := by
  have eU := re_U r
  refine ⟨?_, ?_, ?_⟩
  · intro u hu ⟨b, hb, e⟩ q
    have ub : xv_U a b := by rw [← eU]; exact (yv_T1 hb).1
    rcases ys_wh_c s (s u) n with ⟨_, h2⟩ | ⟨j, h1, h2, h3, h4⟩
    · exact (yv_T1 hb).2 (h2 b (hU b ub) ((re_eqL r ub hu).mpr e))
    · rw [h2] at q
      exact (li_nn1 (by omega)).mp q
  · intro u hu h
    obtain ⟨h1, h2, h3, h4⟩ := ys_hf hn h
    have uf := re_told r (by omega) h4
    refine ⟨⟨by rw [eU]; exact uf, h4⟩, (re_eqL r uf hu).mp h3⟩
  · intro u v hu hv e
    have := (re_eqL r hu hv).mpr e
    unfold ys_f
    rw [this]
/-- the work of relate: bits that are symmetric and hold every relation that is asked for -/
def rl_I (U : Nat → Prop) (L : Nat → Nat) (T : ma_T) (h : Nat → Prop) (f : Nat → Nat) (al : Nat → Int64) : Prop :=
  (∀ u v, u < 48 → v < 48 → by_b (al u) v = by_b (al v) u) ∧ ∀ B, ma_bi U L T h f B → ∀ u v, U u → U v → B u v → by_b (al u) v = true
def rl_m (L : Nat → Nat) (T : ma_T) (h : Nat → Prop) (f : Nat → Nat) (al : Nat → Int64) (u v : Nat) : Prop :=
  L u = L v ∨ (h u ∧ h v ∧ T.2.1 (f u) = T.2.1 (f v) ∧ ∀ k, k < ma_ct (T.2.1 (f u)).1 → by_b (al (T.2.2 (f u) k)) (T.2.2 (f v) k) = true)
theorem rl_step {U : Nat → Prop} {L : Nat → Nat} {T : ma_T} {h : Nat → Prop} {f : Nat → Nat} {al al' : Nat → Int64} {u v : Nat} (hu : u < 48) (hv : v < 48) (uT : ∀ x, U x → x < 48) (wh : ma_Wh U L T h f) (hT : ∀ c, T.1 c → U c ∧ ∀ k, k < ma_ct (T.2.1 c).1 → U (T.2.2 c k)) (i : rl_I U L T h f al) (nm : U u → U v → ¬ rl_m L T h f al u v) (ha : ∀ x y, x < 48 → y < 48 → by_b (al' x) y = (by_b (al x) y && !(decide ((x = u ∧ y = v) ∨ (x = v ∧ y = u))))) : rl_I U L T h f al' := by
  obtain ⟨i1, i2⟩ := i
  have sub : ∀ B, ma_bi U L T h f B → ∀ x y, U x → U y → B x y → L x = L y ∨ (h x ∧ h y ∧ T.2.1 (f x) = T.2.1 (f y) ∧ ∀ k, k < ma_ct (T.2.1 (f x)).1 → by_b (al (T.2.2 (f x) k)) (T.2.2 (f y) k) = true) := by
    intro B hB x y hx hy hxy
    rcases hB x y hx hy hxy with z | ⟨z1, z2, z3, z4⟩
    · exact Or.inl z
    · refine Or.inr ⟨z1, z2, z3, fun k hk => ?_⟩
      have t1 := (wh.2.1 x hx z1).1
      have t2 := (wh.2.1 y hy z2).1
      exact i2 B hB _ _ ((hT _ t1).2 k hk) ((hT _ t2).2 k (by rw [← z3]; exact hk)) (z4 k hk)
  constructor
  · intro x y hx hy
    rw [ha x y hx hy, ha y x hy hx, i1 x y hx hy]
    congr 2
    apply decide_eq_decide.mpr
    constructor
    · intro q
      rcases q with ⟨a, b⟩ | ⟨a, b⟩
      · exact Or.inr ⟨b, a⟩
      · exact Or.inl ⟨b, a⟩
    · intro q
      rcases q with ⟨a, b⟩ | ⟨a, b⟩
      · exact Or.inr ⟨b, a⟩
      · exact Or.inl ⟨b, a⟩
  · intro B hB x y hx hy hxy
    rw [ha x y (uT x hx) (uT y hy), i2 B hB x y hx hy hxy, Bool.true_and]
    have : ¬ ((x = u ∧ y = v) ∨ (x = v ∧ y = u)) := by
      intro q
      have uu : U u ∧ U v := by
        rcases q with ⟨a, b⟩ | ⟨a, b⟩
        · rw [← a, ← b]; exact ⟨hx, hy⟩
        · rw [← a, ← b]; exact ⟨hy, hx⟩
      apply nm uu.1 uu.2
      rcases q with ⟨a, b⟩ | ⟨a, b⟩
      · have := sub B hB x y hx hy hxy
        rw [a, b] at this; exact this
      · rcases sub B hB x y hx hy hxy with z | ⟨z1, z2, z3, z4⟩
        · rw [a, b] at z; exact Or.inl z.symm
        · have t1 := hT _ (wh.2.1 x hx z1).1
          have t2 := hT _ (wh.2.1 y hy z2).1
          rw [a, b] at z3 z4
          rw [a] at z1 t1
          rw [b] at z2 t2
          refine Or.inr ⟨z2, z1, z3.symm, fun k hk => ?_⟩
          have hk' : k < ma_ct (T.2.1 (f v)).1 := by rw [z3]; exact hk
          have := z4 k hk'
          rw [i1 _ _ (uT _ (t1.2 k hk')) (uT _ (t2.2 k hk))] at this
          exact this
    rw [decide_eq_false this]
    rfl
theorem rl_cnt {al al' : Nat → Int64} {u v : Nat} (hu : u < 48) (hv : v < 48) (hb : by_b (al u) v = true) (ha : ∀ x y, x < 48 → y < 48 → by_b (al' x) y = (by_b (al x) y && !(decide ((x = u ∧ y = v) ∨ (x = v ∧ y = u))))) : ma_cnt (fun k => by_b (al' (k / 48)) (k % 48)) 2304 < ma_cnt (fun k => by_b (al (k / 48)) (k % 48)) 2304 := by
  refine ma_cnt_lt 2304 ?_ ⟨u * 48 + v, by omega, ?_, ?_⟩
  · intro i hi h
    rw [ha _ _ (by omega) (by omega)] at h
    exact (Bool.and_eq_true_iff.mp h).1
  · show by_b (al ((u * 48 + v) / 48)) ((u * 48 + v) % 48) = true
    rw [show (u * 48 + v) / 48 = u from by omega, show (u * 48 + v) % 48 = v from by omega]
    exact hb
  · show ¬ by_b (al' ((u * 48 + v) / 48)) ((u * 48 + v) % 48) = true
    rw [show (u * 48 + v) / 48 = u from by omega, show (u * 48 + v) % 48 = v from by omega, ha u v hu hv, decide_eq_true (Or.inl ⟨rfl, rfl⟩)]
    simp
theorem rl_fin {U : Nat → Prop} {L : Nat → Nat} {T : ma_T} {h : Nat → Prop} {f : Nat → Nat} {al : Nat → Int64} (uT : ∀ x, U x → x < 48) (wh : ma_Wh U L T h f) (hT : ∀ c, T.1 c → U c ∧ ∀ k, k < ma_ct (T.2.1 c).1 → U (T.2.2 c k)) (i : rl_I U L T h f al) (all : ∀ u v, U u → U v → u < v → by_b (al u) v = true → rl_m L T h f al u v) : ma_bi U L T h f (fun u v => by_b (al u) v = true) := by
  intro u v hu hv hb
  rcases Nat.lt_trichotomy u v with z | z | z
  · exact all u v hu hv z hb
  · exact Or.inl (by rw [z])
  · have hb' : by_b (al v) u = true := by rw [i.1 v u (uT v hv) (uT u hu)]; exact hb
    rcases all v u hv hu z hb' with q | ⟨q1, q2, q3, q4⟩
    · exact Or.inl q.symm
    · have t1 := hT _ (wh.2.1 v hv q1).1
      have t2 := hT _ (wh.2.1 u hu q2).1
      refine Or.inr ⟨q2, q1, q3.symm, fun k hk => ?_⟩
      have hk' : k < ma_ct (T.2.1 (f v)).1 := by rw [q3]; exact hk
      have := q4 k hk'
      show by_b (al (T.2.2 (f u) k)) (T.2.2 (f v) k) = true
      rw [i.1 _ _ (uT _ (t2.2 k hk)) (uT _ (t1.2 k hk'))]
      exact this
theorem rl_al {B : Nat} {a s : Nat → Int32} {n : Nat} {al : Nat → Int64} (r : re_P B a s) (hn : n ≤ 48) (hU : ∀ x, xv_U a x → x < n) (i : rl_I (xv_U a) (xv_L a) (yv_T s) (ys_h s n) (ys_f s n) al) (all : ∀ u v, xv_U a u → xv_U a v → u < v → by_b (al u) v = true → rl_m (xv_L a) (yv_T s) (ys_h s n) (ys_f s n) al u v) {x y : Nat} (hx : xv_U a x) (hy : xv_U a y) : by_b (al x) y = true ↔ ma_al (xv_U a) (xv_L a) (xv_T a) x y := by
  have wh := re_wh r hn hU
  have hT := r.2.2.2.2.1.2.2.2.1
  have uT : ∀ x, xv_U a x → x < 48 := fun x hx => hx.1
  exact ma_al_Y (A := fun u v => by_b (al u) v = true) r.2.2.2.2.1 wh (fun u v hu hv q => by
    show by_b (al v) u = true
    rw [i.1 v u (uT v hv) (uT u hu)]; exact q) (rl_fin uT wh hT i all) i.2 hx hy
end
section
/-- what is SETTLED stays so where only what no TEST or TRIGGER sees has changed -/
theorem re_S_sub {B : Nat} {a a' s : Nat → Int32} (V : Nat → Prop) (N : re_N B a s) (S1 : re_S1 a) (S2 : re_S2 a) (hc : ∀ i, 480 ≤ i → i < 520 → a' i = a i) (hV : ∀ t q, t < 8 → a (480 + t) = 3 → xv_U a q → (a (488 + t) = nI q ∨ a (496 + t) = nI q) → V q) (hG : ∀ k x, k < 8 → xv_U a x → a (504 + k) = nI x → V x) (hk : ∀ q, V q → xv_K a' (xv_L a' q) = xv_K a (xv_L a q)) (hv : ∀ q y, V q → V y → ma_vd (xv_U a') (xv_L a') (xv_T a') q y = ma_vd (xv_U a) (xv_L a) (xv_T a) q y) (hn : ∀ x, V x → re_nd a' x → re_nd a x) : re_S1 a' ∧ re_S2 a' := by
  have inj : ∀ {p q : Nat}, p < 48 → q < 48 → nI p = nI q → p = q := fun hp hq e => (nI_eq (by omega) (by omega)).mp e
  constructor
  · intro t q ht h3 hq e
    rw [hc _ (by omega) (by omega)] at h3 e
    rw [hc (496 + t) (by omega) (by omega)]
    obtain ⟨_, _, n3, _⟩ := N
    obtain ⟨⟨q1, u1, e1⟩, n5⟩ := (n3 t ht).2.2.2 h3
    have q1q : q1 = q := inj u1.1 hq (by rw [← e1, e])
    rw [q1q] at u1
    have vq := hV t q ht h3 u1 (Or.inl e)
    obtain ⟨s1, s2⟩ := S1 t q ht h3 hq e
    refine ⟨fun m => by rw [hk q vq]; exact s1 m, fun y hy ey => ?_⟩
    rcases n5 with m | ⟨y1, u2, e2⟩
    · rw [ey] at m
      exact ((li_nn1 (by omega)).mp m).elim
    · have y1y : y1 = y := inj u2.1 hy (by rw [← e2, ey])
      rw [y1y] at u2
      rw [hv q y vq (hV t y ht h3 u2 (Or.inr ey))]
      exact s2 y hy ey
  · intro k x hk8 hx e
    rw [hc _ (by omega) (by omega)] at e
    obtain ⟨_, _, _, n4, _⟩ := N
    have ux : xv_U a x := by
      rcases (n4 k hk8).2 with ⟨m, _⟩ | ⟨x1, y1, u1, _, e1, _⟩
      · rw [e] at m
        exact ((li_nn1 (by omega)).mp m).elim
      · have : x1 = x := inj u1.1 hx (by rw [← e1, e])
        rw [← this]; exact u1
    have vx := hG k x hk8 ux e
    obtain ⟨s1, s2⟩ := S2 k x hk8 hx e
    exact ⟨by rw [hk x vx]; exact s1, fun z => s2 (hn x vx z)⟩
/-- the cells that take(z) and use(z) leave -/
def tk_X (a a' : Nat → Int32) (z : Nat) : Prop :=
  a' (336 + z) = 1 ∧ a' z = nI z ∧ a' (48 + z) = 0 ∧ a' (96 + z) = 0 ∧ a' (144 + z) = 0 ∧ ∀ i, i ≠ 336 + z → i ≠ z → i ≠ 48 + z → i ≠ 96 + z → i ≠ 144 + z → a' i = a i
def tk_Y (s s' : Nat → Int32) (z : Nat) : Prop :=
  s' (384 + z) = 1 ∧ s' z = nI z ∧ s' (48 + z) = 0 ∧ s' (432 + z) = 0 ∧ s' (480 + z) = 0 ∧ ∀ i, i ≠ 384 + z → i ≠ z → i ≠ 48 + z → i ≠ 432 + z → i ≠ 480 + z → s' i = s i
theorem tk_XL {a a' : Nat → Int32} {z x : Nat} (t : tk_X a a' z) (hz : z < 48) (hx : x ≠ z) : xv_L a' x = xv_L a x ∧ xv_K a' x = xv_K a x ∧ xv_V a' x = xv_V a x ∧ (∀ k, xv_P a' x k = xv_P a x k) ∧ (xv_U a' x ↔ xv_U a x) := by
  obtain ⟨t1, t2, t3, t4, t5, t6⟩ := t
  refine ⟨?_, ?_, ?_, fun k => ?_, ?_⟩
  · unfold xv_L
    by_cases q : x < 48
    · rw [if_pos q, if_pos q, t6 x (by omega) (by omega) (by omega) (by omega) (by omega)]
    · rw [if_neg q, if_neg q]
  · unfold xv_K
    by_cases q : x < 48
    · rw [if_pos q, if_pos q, t6 _ (by omega) (by omega) (by omega) (by omega) (by omega)]
    · rw [if_neg q, if_neg q]
  · unfold xv_V
    by_cases q : x < 48
    · rw [if_pos q, if_pos q, t6 _ (by omega) (by omega) (by omega) (by omega) (by omega)]
    · rw [if_neg q, if_neg q]
  · unfold xv_P
    by_cases q : x < 48 ∧ k < 3
    · rw [if_pos q, if_pos q, t6 _ (by omega) (by omega) (by omega) (by omega) (by omega)]
    · rw [if_neg q, if_neg q]
  · unfold xv_U
    by_cases q : x < 48
    · rw [t6 _ (by omega) (by omega) (by omega) (by omega) (by omega)]
    · exact ⟨fun h => absurd h.1 q, fun h => absurd h.1 q⟩
theorem tk_Xz {a a' : Nat → Int32} {z : Nat} (t : tk_X a a' z) (hz : z < 48) : xv_L a' z = z ∧ xv_K a' z = 0 ∧ xv_U a' z := by
  obtain ⟨t1, t2, t3, t4, t5, t6⟩ := t
  refine ⟨?_, ?_, hz, t1⟩
  · unfold xv_L; rw [if_pos hz, t2, nI_clamp (by omega)]
  · unfold xv_K; rw [if_pos hz, t3]
theorem tk_XT {a a' : Nat → Int32} {z c : Nat} (t : tk_X a a' z) (hz : z < 48) (nz : ¬ xv_U a z) : ((xv_T a').1 c ↔ (xv_T a).1 c) ∧ ((xv_T a).1 c → (xv_T a').2.1 c = (xv_T a).2.1 c ∧ ∀ k, (xv_T a').2.2 c k = (xv_T a).2.2 c k) := by
  by_cases q : c = z
  · refine ⟨⟨fun h => ?_, fun h => ?_⟩, fun h => ?_⟩
    · have h1 : xv_K a' c ≠ 0 := (xv_T1 h).2.2
      rw [q] at h1
      exact absurd (tk_Xz t hz).2.1 h1
    · have h1 : xv_U a c := (xv_T1 h).1
      rw [q] at h1; exact absurd h1 nz
    · have h1 : xv_U a c := (xv_T1 h).1
      rw [q] at h1; exact absurd h1 nz
  · obtain ⟨e1, e2, e3, e4, e5⟩ := tk_XL t hz q
    refine ⟨?_, fun _ => ⟨?_, e4⟩⟩
    · show (xv_U a' c ∧ xv_L a' c = c ∧ xv_K a' c ≠ 0) ↔ (xv_U a c ∧ xv_L a c = c ∧ xv_K a c ≠ 0)
      rw [e1, e2, e5]
    · show (xv_K a' c, xv_V a' c) = (xv_K a c, xv_V a c)
      rw [e2, e3]
theorem tk_XH {a a' : Nat → Int32} {z : Nat} (t : tk_X a a' z) (hz : z < 48) (h : xv_H a) : xv_H a' := by
  obtain ⟨t1, t2, t3, t4, t5, t6⟩ := t
  obtain ⟨g1, g2, g3, g4, g5, g6⟩ := h
  refine ⟨?_, ?_, ?_, ?_, ?_, ?_⟩
  · intro x hx
    by_cases q : x = z
    · rw [q]; exact ⟨z, hz, t2⟩
    · rw [t6 x (by omega) (by omega) (by omega) (by omega) (by omega)]; exact g1 x hx
  · intro x hx
    by_cases q : x = z
    · rw [q, t3, t5, ma_ct_0]; rfl
    · rw [t6 (144 + x) (by omega) (by omega) (by omega) (by omega) (by omega), t6 (48 + x) (by omega) (by omega) (by omega) (by omega) (by omega)]; exact g2 x hx
  · intro x k hx hk
    rw [t6 _ (by omega) (by omega) (by omega) (by omega) (by omega)]; exact g3 x k hx hk
  · intro x hx
    by_cases q : x = z
    · rw [q]; exact Or.inr t1
    · rw [t6 _ (by omega) (by omega) (by omega) (by omega) (by omega)]; exact g4 x hx
  · intro x hx
    by_cases q : x = z
    · rw [q]; exact Or.inr t4
    · rw [t6 (48 + x) (by omega) (by omega) (by omega) (by omega) (by omega), t6 (96 + x) (by omega) (by omega) (by omega) (by omega) (by omega)]; exact g5 x hx
  · intro x hx
    by_cases q : x = z
    · rw [q]; exact ⟨0, by omega, t3⟩
    · rw [t6 _ (by omega) (by omega) (by omega) (by omega) (by omega)]; exact g6 x hx
theorem tk_YH {s s' : Nat → Int32} {z : Nat} (t : tk_Y s s' z) (hz : z < 48) (h : yv_H s) : yv_H s' := by
  obtain ⟨t1, t2, t3, t4, t5, t6⟩ := t
  obtain ⟨g1, g2, g3, g4⟩ := h
  refine ⟨?_, ?_, ?_, ?_⟩
  · intro x hx
    by_cases q : x = z
    · rw [q]; exact ⟨z, hz, t2⟩
    · rw [t6 x (by omega) (by omega) (by omega) (by omega) (by omega)]; exact g1 x hx
  · intro x hx
    by_cases q : x = z
    · rw [q]; exact Or.inl t1
    · rw [t6 x (by omega) (by omega) (by omega) (by omega) (by omega), t6 (384 + x) (by omega) (by omega) (by omega) (by omega) (by omega), t6 (48 + x) (by omega) (by omega) (by omega) (by omega) (by omega)]; exact g2 x hx
  · intro x hx
    by_cases q : x = z
    · rw [q]; exact Or.inl t3
    · rw [t6 (48 + x) (by omega) (by omega) (by omega) (by omega) (by omega), t6 (96 + x) (by omega) (by omega) (by omega) (by omega) (by omega), t6 (144 + x) (by omega) (by omega) (by omega) (by omega) (by omega), t6 (192 + x) (by omega) (by omega) (by omega) (by omega) (by omega)]; exact g3 x hx
  · intro x k hx hk
    rw [t6 _ (by omega) (by omega) (by omega) (by omega) (by omega)]; exact g4 x k hx hk
theorem ma_K_mono {U U' : Nat → Prop} {L L' : Nat → Nat} (hU : ∀ x, U x → U' x ∧ L' x = L x) : ∀ x y, ma_K U L x y → ma_K U' L' x y := by
  intro x y h
  rcases h with h | ⟨a, b, c⟩
  · exact Or.inl h
  · exact Or.inr ⟨(hU x a).1, (hU y b).1, by rw [(hU x a).2, (hU y b).2, c]⟩
theorem ma_Sub_eq {T T' S S' : ma_T} {E : Nat → Nat → Prop} (h1 : ∀ c, T'.1 c → T.1 c ∧ T'.2.1 c = T.2.1 c ∧ ∀ k, T'.2.2 c k = T.2.2 c k) (h2 : ∀ c, S.1 c → S'.1 c ∧ S'.2.1 c = S.2.1 c ∧ ∀ k, S'.2.2 c k = S.2.2 c k) (s : ma_Sub T S E) : ma_Sub T' S' E := by
  intro c hc
  obtain ⟨a1, a2, a3⟩ := h1 c hc
  obtain ⟨d, d1, d2, d3, d4⟩ := s c a1
  obtain ⟨b1, b2, b3⟩ := h2 d d1
  refine ⟨d, b1, d2, by rw [b2, d3, a2], fun k hk => ?_⟩
  rw [a2] at hk
  rw [a3, b3]; exact d4 k hk
/-- new variables F, each by itself in its class -/
def ex_X (a a' : Nat → Int32) (F : Nat → Prop) : Prop :=
  (∀ f, F f → f < 48 ∧ a' (336 + f) = 1 ∧ a' f = nI f) ∧
  (∀ x, x < 48 → ¬ F x → a' x = a x ∧ a' (48 + x) = a (48 + x) ∧ a' (96 + x) = a (96 + x) ∧ a' (336 + x) = a (336 + x) ∧ ∀ k, k < 3 → a' (192 + 3 * x + k) = a (192 + 3 * x + k)) ∧
  (∀ i, 384 ≤ i → a' i = a i)
def ex_Y (s s' : Nat → Int32) (F : Nat → Prop) : Prop :=
  (∀ f, F f → f < 48 ∧ s' (384 + f) = 1 ∧ s' f = nI f ∧ s' (432 + f) = 0 ∧ s' (480 + f) = 0) ∧
  (∀ x, x < 48 → ¬ F x → s' x = s x ∧ s' (48 + x) = s (48 + x) ∧ s' (96 + x) = s (96 + x) ∧ s' (144 + x) = s (144 + x) ∧ s' (192 + x) = s (192 + x) ∧ s' (384 + x) = s (384 + x) ∧ s' (432 + x) = s (432 + x) ∧ s' (480 + x) = s (480 + x) ∧ ∀ k, k < 3 → s' (240 + 3 * x + k) = s (240 + 3 * x + k)) ∧
  (∀ i, 528 ≤ i → i < 633 → s' i = s i)
theorem ex_XL {a a' : Nat → Int32} {F : Nat → Prop} (h : ex_X a a' F) {x : Nat} (hx : ¬ F x) : xv_L a' x = xv_L a x ∧ xv_K a' x = xv_K a x ∧ xv_V a' x = xv_V a x ∧ (∀ k, xv_P a' x k = xv_P a x k) ∧ (xv_U a' x ↔ xv_U a x) := by
  obtain ⟨_, h2, _⟩ := h
  by_cases q : x < 48
  · obtain ⟨e1, e2, e3, e4, e5⟩ := h2 x q hx
    refine ⟨?_, ?_, ?_, fun k => ?_, ?_⟩
    · unfold xv_L; rw [e1]
    · unfold xv_K; rw [e2]
    · unfold xv_V; rw [e3]
    · unfold xv_P
      by_cases w : x < 48 ∧ k < 3
      · rw [if_pos w, if_pos w, e5 k w.2]
      · rw [if_neg w, if_neg w]
    · unfold xv_U; rw [e4]
  · refine ⟨?_, ?_, ?_, fun k => ?_, ?_⟩
    · unfold xv_L; rw [if_neg q, if_neg q]
    · unfold xv_K; rw [if_neg q, if_neg q]
    · unfold xv_V; rw [if_neg q, if_neg q]
    · unfold xv_P; rw [if_neg (fun w => q w.1), if_neg (fun w => q w.1)]
    · exact ⟨fun w => absurd w.1 q, fun w => absurd w.1 q⟩
theorem ex_XF {a a' : Nat → Int32} {F : Nat → Prop} (h : ex_X a a' F) {f : Nat} (hf : F f) : xv_U a' f ∧ xv_L a' f = f := by
  obtain ⟨e1, e2, e3⟩ := h.1 f hf
  refine ⟨⟨e1, e2⟩, ?_⟩
  unfold xv_L
  rw [if_pos e1, e3, nI_clamp (by omega)]
theorem ex_YT {s s' : Nat → Int32} {F : Nat → Prop} (h : ex_Y s s' F) {c : Nat} (hc : ¬ F c) : ((yv_T s').1 c ↔ (yv_T s).1 c) ∧ (yv_T s').2.1 c = (yv_T s).2.1 c ∧ ∀ k, (yv_T s').2.2 c k = (yv_T s).2.2 c k := by
  obtain ⟨_, h2, _⟩ := h
  refine ⟨?_, ?_, fun k => ?_⟩
  · show ((c < 48 ∧ s' (384 + c) = 1) ∧ s' (48 + c) ≠ 0) ↔ ((c < 48 ∧ s (384 + c) = 1) ∧ s (48 + c) ≠ 0)
    by_cases q : c < 48
    · obtain ⟨_, e2, _, _, _, e6, _⟩ := h2 c q hc
      rw [e2, e6]
    · exact ⟨fun w => absurd w.1.1 q, fun w => absurd w.1.1 q⟩
  · show (if c < 48 then (yv_k s' c, s' (96 + c)) else (0, 0)) = (if c < 48 then (yv_k s c, s (96 + c)) else (0, 0))
    by_cases q : c < 48
    · obtain ⟨_, e2, e3, e4, e5, _⟩ := h2 c q hc
      rw [if_pos q, if_pos q]
      unfold yv_k
      rw [e2, e3, e4, e5]
    · rw [if_neg q, if_neg q]
  · show yv_P s' c k = yv_P s c k
    unfold yv_P
    by_cases w : c < 48 ∧ k < 3
    · rw [if_pos w, if_pos w, (h2 c w.1 hc).2.2.2.2.2.2.2.2 k w.2]
    · rw [if_neg w, if_neg w]
theorem ex_P {B : Nat} {a a' s s' : Nat → Int32} {F : Nat → Prop} (r : re_P B a s) (nF : ∀ f, F f → ¬ xv_U a f) (hX : ex_X a a' F) (hY : ex_Y s s' F) (vX : xv_H a') (vY : yv_H s') (tF : ∀ f, F f → (a' (48 + f) ≠ 0 ↔ s' (48 + f) ≠ 0)) (sF : ∀ f, F f → a' (48 + f) ≠ 0 → (xv_T a').2.1 f = (yv_T s').2.1 f ∧ ∀ k, k < ma_ct ((xv_T a').2.1 f).1 → (xv_T a').2.2 f k = (yv_T s').2.2 f k ∧ xv_U a' ((xv_T a').2.2 f k)) : re_P B a' s' := by
  have r0 := r
  have eU := re_U r0
  obtain ⟨h1, h2, h3, h4, h5, h6⟩ := r
  have up : ∀ x, xv_U a x → xv_U a' x ∧ xv_L a' x = xv_L a x := by
    intro x hx
    have q : ¬ F x := fun e => nF x e hx
    obtain ⟨e1, _, _, _, e5⟩ := ex_XL hX q
    exact ⟨e5.mpr hx, e1⟩
  have dn : ∀ x, xv_U a' x → ¬ F x → xv_U a x := fun x hx q => (ex_XL hX q).2.2.2.2.mp hx
  have tX : ∀ c, ¬ F c → ((xv_T a').1 c ↔ (xv_T a).1 c) ∧ (xv_T a').2.1 c = (xv_T a).2.1 c ∧ ∀ k, (xv_T a').2.2 c k = (xv_T a).2.2 c k := by
    intro c q
    obtain ⟨e1, e2, e3, e4, e5⟩ := ex_XL hX q
    refine ⟨?_, ?_, e4⟩
    · show (xv_U a' c ∧ xv_L a' c = c ∧ xv_K a' c ≠ 0) ↔ (xv_U a c ∧ xv_L a c = c ∧ xv_K a c ≠ 0)
      rw [e1, e2, e5]
    · show (xv_K a' c, xv_V a' c) = (xv_K a c, xv_V a c)
      rw [e2, e3]
  have tY : ∀ c, ¬ F c → ((yv_T s').1 c ↔ (yv_T s).1 c) ∧ (yv_T s').2.1 c = (yv_T s).2.1 c ∧ ∀ k, (yv_T s').2.2 c k = (yv_T s).2.2 c k := fun c q => ex_YT hY q
  have fX : ∀ f, F f → ((xv_T a').1 f ↔ a' (48 + f) ≠ 0) := by
    intro f hf
    obtain ⟨u, l⟩ := ex_XF hX hf
    show (xv_U a' f ∧ xv_L a' f = f ∧ xv_K a' f ≠ 0) ↔ _
    rw [← xv_HK u.1]
    exact ⟨fun q => q.2.2, fun q => ⟨u, l, q⟩⟩
  have fY : ∀ f, F f → ((yv_T s').1 f ↔ s' (48 + f) ≠ 0) := by
    intro f hf
    obtain ⟨g1, g2, _⟩ := hY.1 f hf
    exact ⟨fun q => (yv_T1 q).2, fun q => ⟨⟨g1, g2⟩, q⟩⟩
  obtain ⟨w, x1, x2, y1, s1, s2⟩ := h5
  have km := ma_K_mono up
  have ke := ma_K_eqv (xv_U a') (xv_L a')
  refine ⟨vX, vY, ?_, ?_, ⟨?_, ?_, ?_, ?_, ?_, ?_⟩, ?_⟩
  · intro x hx
    by_cases q : F x
    · rw [(hX.1 x q).2.1, (hY.1 x q).2.1]
    · rw [(hX.2.1 x hx q).2.2.2.1, (hY.2.1 x hx q).2.2.2.2.2.1]; exact h3 x hx
  · intro x hx
    have hx48 := hx.1
    by_cases q : F x
    · rw [(hX.1 x q).2.2, (hY.1 x q).2.2.1]
    · rw [(hX.2.1 x hx48 q).1, (hY.2.1 x hx48 q).1]; exact h4 x (dn x hx q)
  · intro x hx
    by_cases q : F x
    · obtain ⟨u, l⟩ := ex_XF hX q
      rw [l]; exact ⟨u.1, u, l, Nat.le_refl _⟩
    · have ux := dn x hx q
      obtain ⟨w1, w2, w3, w4⟩ := w x ux
      rw [(up x ux).2]
      exact ⟨w1, (up _ w2).1, by rw [(up _ w2).2, w3], w4⟩
  · intro c hc
    exact ⟨(xv_T1 hc).1, (xv_T1 hc).2.1⟩
  · intro c hc k hk
    by_cases q : F c
    · exact ((sF c q ((fX c q).mp hc)).2 k hk).2
    · obtain ⟨e1, e2, e3⟩ := tX c q
      rw [e2] at hk
      rw [e3 k]; exact (up _ (x2 c (e1.mp hc) k hk)).1
  · intro c hc
    by_cases q : F c
    · have h0 := (tF c q).mpr ((fY c q).mp hc)
      obtain ⟨z1, z2⟩ := sF c q h0
      refine ⟨(ex_XF hX q).1, fun k hk => ?_⟩
      rw [← z1] at hk
      rw [← (z2 k hk).1]; exact (z2 k hk).2
    · obtain ⟨e1, e2, e3⟩ := tY c q
      have hc' := e1.mp hc
      refine ⟨(up _ (y1 c hc').1).1, fun k hk => ?_⟩
      rw [e2] at hk
      rw [e3 k]; exact (up _ ((y1 c hc').2 k hk)).1
  · intro c hc
    by_cases q : F c
    · have h0 := (fX c q).mp hc
      obtain ⟨z1, z2⟩ := sF c q h0
      refine ⟨c, (fY c q).mpr ((tF c q).mp h0), ke.1 _, z1.symm, fun k hk => ?_⟩
      rw [(z2 k hk).1]; exact ke.1 _
    · obtain ⟨e1, e2, e3⟩ := tX c q
      obtain ⟨d, d1, d2, d3, d4⟩ := s1 c (e1.mp hc)
      have nd : ¬ F d := fun z => nF d z (y1 d d1).1
      obtain ⟨g1, g2, g3⟩ := tY d nd
      refine ⟨d, g1.mpr d1, km _ _ d2, by rw [g2, d3, e2], fun k hk => ?_⟩
      rw [e2] at hk
      rw [e3 k, g3 k]; exact km _ _ (d4 k hk)
  · intro c hc
    by_cases q : F c
    · have h0 := (tF c q).mpr ((fY c q).mp hc)
      obtain ⟨z1, z2⟩ := sF c q h0
      refine ⟨c, (fX c q).mpr h0, ke.1 _, z1, fun k hk => ?_⟩
      rw [← z1] at hk
      rw [(z2 k hk).1]; exact ke.1 _
    · obtain ⟨e1, e2, e3⟩ := tY c q
      obtain ⟨d, d1, d2, d3, d4⟩ := s2 c (e1.mp hc)
      have nd : ¬ F d := fun z => nF d z (x1 d d1).1
      obtain ⟨g1, g2, g3⟩ := tX d nd
      refine ⟨d, g1.mpr d1, km _ _ d2, by rw [g2, d3, e2], fun k hk => ?_⟩
      rw [e2] at hk
      rw [e3 k, g3 k]; exact km _ _ (d4 k hk)
  · obtain ⟨n1, n2, n3, n4, n5, n6, n7⟩ := h6
    have ca := hX.2.2
    have cs := hY.2.2
    refine ⟨?_, ?_, ?_, ?_, ?_, ?_, ?_⟩
    · intro x hx
      rw [ca _ (by omega)]
      obtain ⟨p, q⟩ := n1 x hx
      by_cases e : F x
      · rw [(hY.1 x e).2.2.2.2]
        rcases q with q | q
        · exact ⟨q, Or.inl q⟩
        · exact absurd q.2 (nF x e)
      · rw [(hY.2.1 x hx e).2.2.2.2.2.2.2.1]
        refine ⟨p, ?_⟩
        rcases q with q | q
        · exact Or.inl q
        · exact Or.inr ⟨q.1, (up x q.2).1⟩
    · intro x hx
      rw [ca _ (by omega)]
      obtain ⟨p, q⟩ := n2 x hx
      by_cases e : F x
      · rw [(hY.1 x e).2.2.2.1]
        rcases q with q | q
        · exact ⟨q, Or.inl q⟩
        · exact absurd q.2 (nF x e)
      · rw [(hY.2.1 x hx e).2.2.2.2.2.2.1]
        refine ⟨p, ?_⟩
        rcases q with q | q
        · exact Or.inl q
        · exact Or.inr ⟨q.1, (up x q.2).1⟩
    · intro t ht
      rw [ca (480 + t) (by omega), ca (488 + t) (by omega), ca (496 + t) (by omega), cs (544 + t) (by omega) (by omega), cs (528 + t) (by omega) (by omega), cs (536 + t) (by omega) (by omega)]
      obtain ⟨p1, p2, p3, p4⟩ := n3 t ht
      refine ⟨p1, p2, p3, fun h => ?_⟩
      obtain ⟨⟨q, u, e⟩, o⟩ := p4 h
      refine ⟨⟨q, (up q u).1, e⟩, ?_⟩
      rcases o with o | ⟨q', u', e'⟩
      · exact Or.inl o
      · exact Or.inr ⟨q', (up q' u').1, e'⟩
    · intro k hk
      rw [ca (504 + k) (by omega), ca (512 + k) (by omega), cs (552 + k) (by omega) (by omega), cs (560 + k) (by omega) (by omega)]
      obtain ⟨p1, p2⟩ := n4 k hk
      refine ⟨p1, ?_⟩
      rcases p2 with p2 | ⟨x, y, ux, uy, e⟩
      · exact Or.inl p2
      · exact Or.inr ⟨x, y, (up x ux).1, (up y uy).1, e⟩
    · intro e he
      rw [ca _ (by omega), cs _ (by omega) (by omega)]
      obtain ⟨p1, p2⟩ := n5 e he
      refine ⟨p1, ?_⟩
      rcases p2 with p2 | ⟨x, ux, ex⟩
      · exact Or.inl p2
      · exact Or.inr ⟨x, (up x ux).1, ex⟩
    · rw [ca _ (by omega), cs _ (by omega) (by omega)]; exact n6
    · intro j hj
      rw [ca _ (by omega), cs _ (by omega) (by omega)]; exact n7 j hj
theorem tk_P {B : Nat} {a a' s s' : Nat → Int32} {z : Nat} (r : re_P B a s) (hz : z < 48) (nz : ¬ xv_U a z) (t : tk_X a a' z) (g : tk_Y s s' z) : re_P B a' s' := by
  have vX := tk_XH t hz r.1
  have vY := tk_YH g hz r.2.1
  obtain ⟨t1, t2, t3, t4, t5, t6⟩ := t
  obtain ⟨g1, g2, g3, g4, g5, g6⟩ := g
  refine ex_P (F := fun x => x = z) r (fun f e => by rw [e]; exact nz) ⟨?_, ?_, ?_⟩ ⟨?_, ?_, ?_⟩ vX vY ?_ ?_
  · intro f e
    rw [e]; exact ⟨hz, t1, t2⟩
  · intro x hx e
    have e' : x ≠ z := e
    refine ⟨t6 _ (by omega) (by omega) (by omega) (by omega) (by omega), t6 _ (by omega) (by omega) (by omega) (by omega) (by omega), t6 _ (by omega) (by omega) (by omega) (by omega) (by omega), t6 _ (by omega) (by omega) (by omega) (by omega) (by omega), fun k hk => t6 _ (by omega) (by omega) (by omega) (by omega) (by omega)⟩
  · exact fun i hi => t6 i (by omega) (by omega) (by omega) (by omega) (by omega)
  · intro f e
    rw [e]; exact ⟨hz, g1, g2, g4, g5⟩
  · intro x hx e
    have e' : x ≠ z := e
    refine ⟨g6 _ (by omega) (by omega) (by omega) (by omega) (by omega), g6 _ (by omega) (by omega) (by omega) (by omega) (by omega), g6 _ (by omega) (by omega) (by omega) (by omega) (by omega), g6 _ (by omega) (by omega) (by omega) (by omega) (by omega), g6 _ (by omega) (by omega) (by omega) (by omega) (by omega), g6 _ (by omega) (by omega) (by omega) (by omega) (by omega), g6 _ (by omega) (by omega) (by omega) (by omega) (by omega), g6 _ (by omega) (by omega) (by omega) (by omega) (by omega), fun k hk => g6 _ (by omega) (by omega) (by omega) (by omega) (by omega)⟩
  · exact fun i hi _ => g6 i (by omega) (by omega) (by omega) (by omega) (by omega)
  · intro f e
    rw [e, t3, g3]
  · intro f e h0
    rw [e] at h0
    exact absurd t3 h0
theorem tk_C {B : Nat} {a a' s s' : Nat → Int32} {z : Nat} (r : re_C B a s) (hz : z < 48) (nz : ¬ xv_U a z) (t : tk_X a a' z) (g : tk_Y s s' z) : re_C B a' s' := by
  obtain ⟨p, S1, S2⟩ := r
  have p' := tk_P p hz nz t g
  refine ⟨p', ?_⟩
  have tX : ∀ c, ((xv_T a').1 c ↔ (xv_T a).1 c) ∧ ((xv_T a).1 c → (xv_T a').2.1 c = (xv_T a).2.1 c ∧ ∀ k, (xv_T a').2.2 c k = (xv_T a).2.2 c k) := fun c => tk_XT t hz nz
  have up : ∀ x, xv_U a x → xv_U a' x ∧ xv_L a' x = xv_L a x ∧ xv_K a' x = xv_K a x := by
    intro x hx
    have q : x ≠ z := fun e => nz (by rw [← e]; exact hx)
    obtain ⟨e1, e2, _, _, e5⟩ := tk_XL t hz q
    exact ⟨e5.mpr hx, e1, e2⟩
  have dn : ∀ x, xv_U a' x → x ≠ z → xv_U a x := fun x hx q => (tk_XL t hz q).2.2.2.2.mp hx
  obtain ⟨zL, zK, zU⟩ := tk_Xz t hz
  have w := p.2.2.2.2.1.1
  have x2 := p.2.2.2.2.1.2.2.1
  have cell : ∀ i, 384 ≤ i → a' i = a i := fun i hi => t.2.2.2.2.2 i (by omega) (by omega) (by omega) (by omega) (by omega)
  have N := p.2.2.2.2.2
  refine re_S_sub (xv_U a) N S1 S2 (fun i h _ => cell i (by omega)) (fun _ _ _ _ u _ => u) (fun _ _ _ u _ => u) ?_ ?_ ?_
  · intro q uq
    rw [(up q uq).2.1, (up _ (w q uq).2.1).2.2]
  · intro q y uq uy
    have c := ma_cut (U := xv_U a') (U' := xv_U a) (L := xv_L a') (L' := xv_L a) (T := xv_T a') (T' := xv_T a) p'.2.2.2.2.1.1 p'.2.2.2.2.1.2.1 (fun x hx => (up x hx).1) (by
      intro x hx
      by_cases e : x = z
      · rw [e, zL]
      · have ux := dn x hx e
        rw [(up x ux).2.1]
        exact ⟨fun _ => (w x ux).2.1, fun _ => ux⟩) (fun x hx => (up x hx).2.1.symm) (fun c => by
      rw [(tX c).1]
      exact ⟨fun h => ⟨h, (xv_T1 h).1⟩, fun h => h.1⟩) (fun c hc => by
      obtain ⟨e1, e2⟩ := (tX c).2 hc
      refine ⟨e1.symm, fun k hk => ?_⟩
      rw [e1] at hk
      rw [e2 k]
      exact ⟨rfl, x2 c hc k hk⟩) uq uy
    exact (ma_vd_eq c.1 c.2).symm
  · intro x ux h
    rcases h with ⟨v, v1, v2, v3⟩ | ⟨t', q, t1, t2, t3, t4, t5, t6⟩
    · rw [cell _ (by omega)] at v2
      have uv : xv_U a v := by
        rcases (N.1 v v1).2 with o | o
        · rw [o] at v2; exact absurd v2 (by decide)
        · exact o.2
      rw [(up v uv).2.1, (up x ux).2.1] at v3
      exact Or.inl ⟨v, v1, v2, v3⟩
    · rw [cell _ (by omega)] at t2 t3 t5
      have uq : xv_U a q := by
        obtain ⟨⟨q1, u1, e1⟩, _⟩ := (N.2.2.1 t' t1).2.2.2 t2
        have : q1 = q := (nI_eq (by have := u1.1; omega) (by omega)).mp (by rw [← e1, t5])
        rw [← this]; exact u1
      rw [(up q uq).2.1, (up x ux).2.1] at t6
      exact Or.inr ⟨t', q, t1, t2, t3, t4, t5, t6⟩
end
section
/-- the variables that are KEPT by themselves -/
def kp_0 (a : Nat → Int32) (x : Nat) : Prop :=
  xv_U a x ∧ (a (432 + x) = 1 ∨ (∃ e, e < 4 ∧ a (520 + e) = nI x) ∨ (∃ t, t < 8 ∧ a (480 + t) = 3 ∧ (a (488 + t) = nI x ∨ a (496 + t) = nI x)) ∨ (∃ k, k < 8 ∧ (a (504 + k) = nI x ∨ a (512 + k) = nI x)))
/-- KEPT, of least members -/
def kp_K (a : Nat → Int32) (c : Nat) : Prop :=
  ∀ S : Nat → Prop, (∀ x, kp_0 a x → S (xv_L a x)) → (∀ c, S c → (xv_T a).1 c → ∀ k, k < ma_ct ((xv_T a).2.1 c).1 → S (xv_L a ((xv_T a).2.2 c k))) → S c
theorem kp_root {a : Nat → Int32} {x : Nat} (h : kp_0 a x) : kp_K a (xv_L a x) := fun _ h1 _ => h1 x h
theorem kp_part {a : Nat → Int32} {c k : Nat} (h : kp_K a c) (hc : (xv_T a).1 c) (hk : k < ma_ct ((xv_T a).2.1 c).1) : kp_K a (xv_L a ((xv_T a).2.2 c k)) := fun S h1 h2 => h2 c (h S h1 h2) hc k hk
/-- what clear leaves -/
def cl_X (Kp : Nat → Prop) (a a' : Nat → Int32) : Prop :=
  (∀ x, x < 48 → xv_U a x → ¬ Kp (xv_L a x) → a' (336 + x) = 0 ∧ a' (384 + x) = 0) ∧
  (∀ x, x < 48 → (¬ xv_U a x ∨ Kp (xv_L a x)) → a' (336 + x) = a (336 + x) ∧ a' (384 + x) = a (384 + x)) ∧
  (∀ i, (i < 336 ∨ 432 ≤ i) → a' i = a i)
def cl_Y (Kp : Nat → Prop) (a s s' : Nat → Int32) : Prop :=
  (∀ x, x < 48 → xv_U a x → ¬ Kp (xv_L a x) → s' x = nI x ∧ s' (48 + x) = 0 ∧ s' (384 + x) = 0 ∧ s' (432 + x) = 0 ∧ s' (480 + x) = 0) ∧
  (∀ x, x < 48 → (¬ xv_U a x ∨ Kp (xv_L a x)) → s' x = s x ∧ s' (48 + x) = s (48 + x) ∧ s' (384 + x) = s (384 + x) ∧ s' (432 + x) = s (432 + x) ∧ s' (480 + x) = s (480 + x)) ∧
  (∀ i, (96 ≤ i ∧ i < 384) ∨ 528 ≤ i → s' i = s i)
theorem cl_U {Kp : Nat → Prop} {a a' : Nat → Int32} (h : cl_X Kp a a') (x : Nat) : xv_U a' x ↔ (xv_U a x ∧ Kp (xv_L a x)) := by
  obtain ⟨h1, h2, h3⟩ := h
  constructor
  · intro ⟨p, q⟩
    by_cases u : xv_U a x
    · by_cases k : Kp (xv_L a x)
      · exact ⟨u, k⟩
      · rw [(h1 x p u k).1] at q
        exact absurd q (by decide)
    · rw [(h2 x p (Or.inl u)).1] at q
      exact absurd ⟨p, q⟩ u
  · intro ⟨u, k⟩
    exact ⟨u.1, by rw [(h2 x u.1 (Or.inr k)).1]; exact u.2⟩
theorem cl_L {Kp : Nat → Prop} {a a' : Nat → Int32} (h : cl_X Kp a a') : xv_L a' = xv_L a ∧ xv_K a' = xv_K a ∧ xv_V a' = xv_V a ∧ xv_P a' = xv_P a := by
  obtain ⟨h1, h2, h3⟩ := h
  refine ⟨?_, ?_, ?_, ?_⟩
  · funext x
    unfold xv_L
    by_cases q : x < 48
    · rw [if_pos q, if_pos q, h3 _ (by omega)]
    · rw [if_neg q, if_neg q]
  · funext x
    unfold xv_K
    by_cases q : x < 48
    · rw [if_pos q, if_pos q, h3 _ (by omega)]
    · rw [if_neg q, if_neg q]
  · funext x
    unfold xv_V
    by_cases q : x < 48
    · rw [if_pos q, if_pos q, h3 _ (by omega)]
    · rw [if_neg q, if_neg q]
  · funext x k
    unfold xv_P
    by_cases q : x < 48 ∧ k < 3
    · rw [if_pos q, if_pos q, h3 _ (by omega)]
    · rw [if_neg q, if_neg q]
theorem cl_XT {Kp : Nat → Prop} {a a' : Nat → Int32} (h : cl_X Kp a a') (c : Nat) : ((xv_T a').1 c ↔ ((xv_T a).1 c ∧ xv_U a' c)) ∧ (xv_T a').2 = (xv_T a).2 := by
  obtain ⟨l1, l2, l3, l4⟩ := cl_L h
  constructor
  · show (xv_U a' c ∧ xv_L a' c = c ∧ xv_K a' c ≠ 0) ↔ ((xv_U a c ∧ xv_L a c = c ∧ xv_K a c ≠ 0) ∧ xv_U a' c)
    rw [l1, l2]
    constructor
    · intro ⟨p, q, r⟩
      exact ⟨⟨((cl_U h c).mp p).1, q, r⟩, p⟩
    · intro ⟨⟨_, q, r⟩, p⟩
      exact ⟨p, q, r⟩
  · show ((fun c => (xv_K a' c, xv_V a' c), xv_P a') : (Nat → Int32 × Int32) × (Nat → Nat → Nat)) = (fun c => (xv_K a c, xv_V a c), xv_P a)
    rw [l2, l3, l4]
theorem cl_YT {Kp : Nat → Prop} {a s s' : Nat → Int32} (eU : yv_U s = xv_U a) (h : cl_Y Kp a s s') (c : Nat) : ((yv_T s').1 c ↔ ((yv_T s).1 c ∧ Kp (xv_L a c))) ∧ ((yv_T s').1 c → (yv_T s').2.1 c = (yv_T s).2.1 c ∧ ∀ k, (yv_T s').2.2 c k = (yv_T s).2.2 c k) := by
  obtain ⟨h1, h2, h3⟩ := h
  have one : (yv_T s').1 c ↔ ((yv_T s).1 c ∧ Kp (xv_L a c)) := by
    show (yv_U s' c ∧ s' (48 + c) ≠ 0) ↔ ((yv_U s c ∧ s (48 + c) ≠ 0) ∧ Kp (xv_L a c))
    rw [eU]
    constructor
    · intro ⟨⟨p, q⟩, r⟩
      by_cases u : xv_U a c
      · by_cases k : Kp (xv_L a c)
        · obtain ⟨_, e2, _, _, _⟩ := h2 c p (Or.inr k)
          rw [e2] at r
          exact ⟨⟨u, r⟩, k⟩
        · rw [(h1 c p u k).2.2.1] at q
          exact absurd q (by decide)
      · rw [(h2 c p (Or.inl u)).2.2.1] at q
        have : yv_U s c := ⟨p, q⟩
        rw [eU] at this
        exact absurd this u
    · intro ⟨⟨u, r⟩, k⟩
      obtain ⟨_, e2, e3, _, _⟩ := h2 c u.1 (Or.inr k)
      have u' : yv_U s c := by rw [eU]; exact u
      exact ⟨⟨u.1, by rw [e3]; exact u'.2⟩, by rw [e2]; exact r⟩
  refine ⟨one, fun hc => ?_⟩
  have hk := (one.mp hc).2
  have c48 : c < 48 := (yv_T1 hc).1.1
  constructor
  · show (if c < 48 then (yv_k s' c, s' (96 + c)) else (0, 0)) = (if c < 48 then (yv_k s c, s (96 + c)) else (0, 0))
    rw [if_pos c48, if_pos c48]
    unfold yv_k
    rw [(h2 c c48 (Or.inr hk)).2.1, h3 (144 + c) (by omega), h3 (192 + c) (by omega), h3 (96 + c) (by omega)]
  · intro k
    show yv_P s' c k = yv_P s c k
    unfold yv_P
    by_cases w : c < 48 ∧ k < 3
    · rw [if_pos w, if_pos w, h3 _ (by omega)]
    · rw [if_neg w, if_neg w]
theorem cl_C {B : Nat} {Kp : Nat → Prop} {a a' s s' : Nat → Int32} (hroot : ∀ x, kp_0 a x → Kp (xv_L a x)) (hpart : ∀ c, Kp c → (xv_T a).1 c → ∀ k, k < ma_ct ((xv_T a).2.1 c).1 → Kp (xv_L a ((xv_T a).2.2 c k))) (r : re_C B a s) (hX : cl_X Kp a a') (hY : cl_Y Kp a s s') : re_C B a' s' := by
  obtain ⟨p, S1, S2⟩ := r
  have eU := re_U p
  have p0 := p
  obtain ⟨h1, h2, h3, h4, h5, h6⟩ := p
  have r5 := h5
  obtain ⟨w, x1, x2, y1, s1, s2⟩ := h5
  have N := h6
  obtain ⟨l1, l2, l3, l4⟩ := cl_L hX
  have cU := cl_U hX
  have tX := cl_XT hX
  have tY := cl_YT eU hY
  have tX2 := (tX 0).2
  have kL : ∀ x, xv_U a' x → xv_U a' (xv_L a x) := by
    intro x hx
    obtain ⟨u, k⟩ := (cU x).mp hx
    obtain ⟨w1, w2, w3, w4⟩ := w x u
    exact (cU _).mpr ⟨w2, by rw [w3]; exact k⟩
  have w' : ma_W (xv_U a') (xv_L a') := by
    rw [l1]
    intro x hx
    obtain ⟨u, k⟩ := (cU x).mp hx
    obtain ⟨w1, w2, w3, w4⟩ := w x u
    exact ⟨w1, kL x hx, w3, w4⟩
  have x2' : ∀ c, (xv_T a').1 c → ∀ k, k < ma_ct ((xv_T a).2.1 c).1 → xv_U a' ((xv_T a).2.2 c k) := by
    intro c hc k hk
    obtain ⟨t1, t2⟩ := (tX c).1.mp hc
    have kc := ((cU c).mp t2).2
    rw [(x1 c t1).2] at kc
    exact (cU _).mpr ⟨x2 c t1 k hk, hpart _ kc t1 _ hk⟩
  have kpart : ∀ c, (yv_T s').1 c → ∀ k, k < ma_ct ((yv_T s).2.1 c).1 → xv_U a' ((yv_T s).2.2 c k) := by
    intro c hc k hk
    obtain ⟨t1, t2⟩ := (tY c).1.mp hc
    obtain ⟨z1, z2, z3⟩ := ma_R_x r5 t1
    refine (cU _).mpr ⟨(y1 c t1).2 k hk, ?_⟩
    rw [z3 k hk]
    exact hpart _ t2 z1 _ (by rw [z2]; exact hk)
  have K' : ∀ x y, ma_K (xv_U a) (xv_L a) x y → xv_U a' x → ma_K (xv_U a') (xv_L a') x y := by
    intro x y h ux
    rcases h with h | ⟨p, q, e⟩
    · exact Or.inl h
    · obtain ⟨_, k⟩ := (cU x).mp ux
      exact Or.inr ⟨ux, (cU y).mpr ⟨q, by rw [← e]; exact k⟩, by rw [l1]; exact e⟩
  have P' : re_P B a' s' := by
    have U' : ∀ x, x < 48 → a' (336 + x) = s' (384 + x) := by
      intro x hx
      by_cases u : xv_U a x
      · by_cases k : Kp (xv_L a x)
        · rw [(hX.2.1 x hx (Or.inr k)).1, (hY.2.1 x hx (Or.inr k)).2.2.1]; exact h3 x hx
        · rw [(hX.1 x hx u k).1, (hY.1 x hx u k).2.2.1]
      · rw [(hX.2.1 x hx (Or.inl u)).1, (hY.2.1 x hx (Or.inl u)).2.2.1]; exact h3 x hx
    refine ⟨?_, ?_, U', ?_, ⟨w', ?_, ?_, ?_, ?_, ?_⟩, ?_⟩
    · obtain ⟨g1, g2, g3, g4, g5, g6⟩ := h1
      have low := hX.2.2
      refine ⟨?_, ?_, ?_, ?_, ?_, ?_⟩
      · intro x hx; rw [low _ (by omega)]; exact g1 x hx
      · intro x hx; rw [low _ (by omega), low _ (by omega)]; exact g2 x hx
      · intro x k hx hk; rw [low _ (by omega)]; exact g3 x k hx hk
      · intro x hx
        by_cases u : xv_U a x
        · by_cases k : Kp (xv_L a x)
          · rw [(hX.2.1 x hx (Or.inr k)).1]; exact g4 x hx
          · exact Or.inl (hX.1 x hx u k).1
        · rw [(hX.2.1 x hx (Or.inl u)).1]; exact g4 x hx
      · intro x hx; rw [low _ (by omega), low _ (by omega)]; exact g5 x hx
      · intro x hx; rw [low _ (by omega)]; exact g6 x hx
    · obtain ⟨g1, g2, g3, g4⟩ := h2
      obtain ⟨q1, q2, q3⟩ := hY
      refine ⟨?_, ?_, ?_, ?_⟩
      · intro x hx
        by_cases u : xv_U a x
        · by_cases k : Kp (xv_L a x)
          · rw [(q2 x hx (Or.inr k)).1]; exact g1 x hx
          · exact ⟨x, hx, (q1 x hx u k).1⟩
        · rw [(q2 x hx (Or.inl u)).1]; exact g1 x hx
      · intro x hx
        by_cases u : xv_U a x
        · by_cases k : Kp (xv_L a x)
          · obtain ⟨e1, e2, e3, _, _⟩ := q2 x hx (Or.inr k)
            rw [e1, e2, e3]; exact g2 x hx
          · obtain ⟨e1, e2, e3, _, _⟩ := q1 x hx u k
            exact Or.inr ⟨e3, e1, e2⟩
        · obtain ⟨e1, e2, e3, _, _⟩ := q2 x hx (Or.inl u)
          rw [e1, e2, e3]; exact g2 x hx
      · intro x hx
        rw [q3 (96 + x) (by omega), q3 (144 + x) (by omega), q3 (192 + x) (by omega)]
        by_cases u : xv_U a x
        · by_cases k : Kp (xv_L a x)
          · rw [(q2 x hx (Or.inr k)).2.1]; exact g3 x hx
          · exact Or.inl (q1 x hx u k).2.1
        · rw [(q2 x hx (Or.inl u)).2.1]; exact g3 x hx
      · intro x k hx hk
        rw [q3 _ (by omega)]; exact g4 x k hx hk
    · intro x hx
      obtain ⟨u, k⟩ := (cU x).mp hx
      rw [hX.2.2 x (by have := u.1; omega), (hY.2.1 x u.1 (Or.inr k)).1]; exact h4 x u
    · intro c hc
      obtain ⟨t1, t2⟩ := (tX c).1.mp hc
      exact ⟨t2, by rw [l1]; exact (x1 c t1).2⟩
    · intro c hc k hk
      rw [tX2] at hk ⊢
      exact x2' c hc k hk
    · intro c hc
      obtain ⟨e1, e2⟩ := (tY c).2 hc
      obtain ⟨t1, t2⟩ := (tY c).1.mp hc
      refine ⟨(cU c).mpr ⟨(y1 c t1).1, t2⟩, fun k hk => ?_⟩
      rw [e1] at hk
      rw [e2 k]; exact kpart c hc k hk
    · intro c hc
      obtain ⟨t1, t2⟩ := (tX c).1.mp hc
      obtain ⟨d, d1, d2, d3, d4⟩ := s1 c t1
      have kd := K' c d d2 t2
      have ud : xv_U a' d := by
        rcases kd with q | q
        · rw [← q]; exact t2
        · exact q.2.1
      have hd : (yv_T s').1 d := (tY d).1.mpr ⟨d1, ((cU d).mp ud).2⟩
      obtain ⟨e1, e2⟩ := (tY d).2 hd
      refine ⟨d, hd, kd, ?_, fun k hk => ?_⟩
      · rw [e1, d3, tX2]
      · rw [tX2] at hk
        rw [e2 k, tX2]
        exact K' _ _ (d4 k hk) (x2' c hc k hk)
    · intro c hc
      obtain ⟨e1, e2⟩ := (tY c).2 hc
      obtain ⟨t1, t2⟩ := (tY c).1.mp hc
      obtain ⟨d, d1, d2, d3, d4⟩ := s2 c t1
      have uc : xv_U a' c := (cU c).mpr ⟨(y1 c t1).1, t2⟩
      have kd := K' c d d2 uc
      have ud : xv_U a' d := by
        rcases kd with q | q
        · rw [← q]; exact uc
        · exact q.2.1
      refine ⟨d, (tX d).1.mpr ⟨d1, ud⟩, kd, ?_, fun k hk => ?_⟩
      · rw [tX2, d3, e1]
      · rw [e1] at hk
        rw [e2 k, tX2]
        exact K' _ _ (d4 k hk) (kpart c hc k hk)
    · obtain ⟨n1, n2, n3, n4, n5, n6, n7⟩ := N
      have ca := hX.2.2
      have cs := hY.2.2
      have stay : ∀ x, kp_0 a x → xv_U a' x := fun x h => (cU x).mpr ⟨h.1, hroot _ h⟩
      refine ⟨?_, ?_, ?_, ?_, ?_, ?_, ?_⟩
      · intro x hx
        by_cases u : xv_U a x
        · by_cases k : Kp (xv_L a x)
          · rw [(hX.2.1 x hx (Or.inr k)).2, (hY.2.1 x hx (Or.inr k)).2.2.2.2]
            obtain ⟨o1, o2⟩ := n1 x hx
            refine ⟨o1, ?_⟩
            rcases o2 with o | o
            · exact Or.inl o
            · exact Or.inr ⟨o.1, (cU x).mpr ⟨u, k⟩⟩
          · rw [(hX.1 x hx u k).2, (hY.1 x hx u k).2.2.2.2]
            exact ⟨rfl, Or.inl rfl⟩
        · rw [(hX.2.1 x hx (Or.inl u)).2, (hY.2.1 x hx (Or.inl u)).2.2.2.2]
          obtain ⟨o1, o2⟩ := n1 x hx
          refine ⟨o1, ?_⟩
          rcases o2 with o | o
          · exact Or.inl o
          · exact absurd o.2 u
      · intro x hx
        rw [ca (432 + x) (by omega)]
        obtain ⟨o1, o2⟩ := n2 x hx
        by_cases u : xv_U a x
        · by_cases k : Kp (xv_L a x)
          · rw [(hY.2.1 x hx (Or.inr k)).2.2.2.1]
            refine ⟨o1, ?_⟩
            rcases o2 with o | o
            · exact Or.inl o
            · exact Or.inr ⟨o.1, (cU x).mpr ⟨u, k⟩⟩
          · rw [(hY.1 x hx u k).2.2.2.1]
            rcases o2 with o | o
            · exact ⟨o, Or.inl o⟩
            · exact absurd (hroot _ ⟨u, Or.inl o.1⟩) k
        · rw [(hY.2.1 x hx (Or.inl u)).2.2.2.1]
          refine ⟨o1, ?_⟩
          rcases o2 with o | o
          · exact Or.inl o
          · exact absurd o.2 u
      · intro t ht
        rw [ca (480 + t) (by omega), ca (488 + t) (by omega), ca (496 + t) (by omega), cs (544 + t) (by omega), cs (528 + t) (by omega), cs (536 + t) (by omega)]
        obtain ⟨o1, o2, o3, o4⟩ := n3 t ht
        refine ⟨o1, o2, o3, fun h => ?_⟩
        obtain ⟨⟨q, u, e⟩, o⟩ := o4 h
        refine ⟨⟨q, stay q ⟨u, Or.inr (Or.inr (Or.inl ⟨t, ht, h, Or.inl e⟩))⟩, e⟩, ?_⟩
        rcases o with o | ⟨q', u', e'⟩
        · exact Or.inl o
        · exact Or.inr ⟨q', stay q' ⟨u', Or.inr (Or.inr (Or.inl ⟨t, ht, h, Or.inr e'⟩))⟩, e'⟩
      · intro k hk
        rw [ca (504 + k) (by omega), ca (512 + k) (by omega), cs (552 + k) (by omega), cs (560 + k) (by omega)]
        obtain ⟨o1, o2⟩ := n4 k hk
        refine ⟨o1, ?_⟩
        rcases o2 with o | ⟨x, y, ux, uy, e1, e2, e3⟩
        · exact Or.inl o
        · exact Or.inr ⟨x, y, stay x ⟨ux, Or.inr (Or.inr (Or.inr ⟨k, hk, Or.inl e1⟩))⟩, stay y ⟨uy, Or.inr (Or.inr (Or.inr ⟨k, hk, Or.inr e2⟩))⟩, e1, e2, e3⟩
      · intro e he
        rw [ca _ (by omega), cs _ (by omega)]
        obtain ⟨o1, o2⟩ := n5 e he
        refine ⟨o1, ?_⟩
        rcases o2 with o | ⟨x, ux, ex⟩
        · exact Or.inl o
        · exact Or.inr ⟨x, stay x ⟨ux, Or.inr (Or.inl ⟨e, he, ex⟩)⟩, ex⟩
      · rw [ca _ (by omega), cs _ (by omega)]; exact n6
      · intro j hj
        rw [ca _ (by omega), cs _ (by omega)]; exact n7 j hj
  refine ⟨P', ?_⟩
  have stay : ∀ x, kp_0 a x → xv_U a' x := fun x h => (cU x).mpr ⟨h.1, hroot _ h⟩
  refine re_S_sub (xv_U a') N S1 S2 (fun i _ _ => hX.2.2 i (by omega)) ?_ ?_ ?_ ?_ ?_
  · intro t q ht h3 uq e
    exact stay q ⟨uq, Or.inr (Or.inr (Or.inl ⟨t, ht, h3, e⟩))⟩
  · intro k x hk ux e
    exact stay x ⟨ux, Or.inr (Or.inr (Or.inr ⟨k, hk, Or.inl e⟩))⟩
  · intro q _
    rw [l1, l2]
  · intro q y uq uy
    have c := ma_cut (U := xv_U a) (U' := xv_U a') (L := xv_L a) (L' := xv_L a') (T := xv_T a) (T' := xv_T a') w x1 (fun x hx => ((cU x).mp hx).1) (by
      intro x hx
      rw [cU x, cU (xv_L a x), (w x hx).2.2.1]
      exact ⟨fun q => ⟨(w x hx).2.1, q.2⟩, fun q => ⟨hx, q.2⟩⟩) (fun x _ => by rw [l1]) (fun c => (tX c).1) (fun c hc => by
      rw [tX2]
      exact ⟨rfl, fun k hk => ⟨rfl, x2' c hc k hk⟩⟩) uq uy
    exact ma_vd_eq c.1 c.2
  · intro x _ h
    rcases h with ⟨v, v1, v2, v3⟩ | ⟨t', q, t1, t2, t3, t4, t5, t6⟩
    · rw [l1] at v3
      refine Or.inl ⟨v, v1, ?_, v3⟩
      by_cases u : xv_U a v
      · by_cases k : Kp (xv_L a v)
        · rw [(hX.2.1 v v1 (Or.inr k)).2] at v2; exact v2
        · rw [(hX.1 v v1 u k).2] at v2
          exact absurd v2 (by decide)
      · rw [(hX.2.1 v v1 (Or.inl u)).2] at v2; exact v2
    · rw [hX.2.2 _ (by omega)] at t2 t3 t5
      rw [l1] at t6
      exact Or.inr ⟨t', q, t1, t2, t3, t4, t5, t6⟩
end
section
theorem yv_I0 {s : Nat → Int32} {x : Nat} (hx : x < 48) : yv_I s 0 x = (s x).toNatClampNeg := by
  unfold yv_I; rw [if_pos hx, Nat.zero_add]
/-- after a merge that does not fail the rows hold the same again -/
theorem tl_P {B : Nat} {a s a' s' : Nat → Int32} {Q : Nat → Nat → Prop} {px py : Nat → Nat} {i m : Nat} {vd : Int32} (r : re_P B a s) (h : xm_I a Q a' px py i m vd) (him : m ≤ i) (o : ma_Ok (xv_U a) (xv_L a) (xv_T a) Q (yv_I s' 0)) (yh : yv_H s') (us : ∀ x, x < 48 → s' (384 + x) = s (384 + x)) (hi : ∀ i, 432 ≤ i → i < 633 → s' i = s i) (y1 : ∀ c, (yv_T s').1 c → xv_U a c ∧ ∀ k, k < ma_ct ((yv_T s').2.1 c).1 → xv_U a ((yv_T s').2.2 c k)) (t1 : ma_Sub (xv_T a) (yv_T s') (ma_K (xv_U a) (xv_L a'))) (t2 : ma_Sub (yv_T s') (xv_T a) (ma_K (xv_U a) (xv_L a'))) : re_P B a' s' := by
  obtain ⟨h1, h2, h3, h4, h5, h6⟩ := r
  obtain ⟨g1, g2, g3, g4⟩ := h
  have eU : xv_U a' = xv_U a := xj_U g2
  obtain ⟨f1, f2, f3, s1, s2⟩ := ma_MI_end g3 him
  have o' := ma_MI_Ok g3 him
  have one := ma_Ok_one o' o
  have eT : ma_X (xv_U a) (xv_L a') (xv_K a') (xv_V a') (xv_P a') = xv_T a' := by
    unfold xv_T; rw [eU]
  rw [eT] at s1 s2
  refine ⟨g1, yh, ?_, ?_, ?_, ?_⟩
  · intro x hx
    rw [g2 _ (by omega), us x hx]; exact h3 x hx
  · intro x hx
    rw [eU] at hx
    have hx48 := hx.1
    obtain ⟨e1, l1⟩ := xv_HL g1 hx48
    obtain ⟨c, hc, e2⟩ := yh.1 x hx48
    have e3 : yv_I s' 0 x = c := by rw [yv_I0 hx48, e2, nI_clamp (by omega)]
    rw [e1, one x hx, e3, e2]
  · rw [eU]
    refine ma_R_tell (TX := xv_T a) g3.1 ?_ ?_ y1 s1 s2 t1 t2
    · intro c hc
      have u : xv_U a' c := (xv_T1 hc).1
      rw [eU] at u
      exact ⟨u, (xv_T1 hc).2.1⟩
    · intro c hc k hk
      have u : xv_U a' c := (xv_T1 hc).1
      rw [eU] at u
      exact g3.2.2.1 c u (xv_T1 hc).2.1 (xv_T1 hc).2.2 k hk
  · exact re_N_congr (fun i q _ => g2 i q) hi h6
/-- the rows after a telling that left the told values of the reference as they were -/
theorem tl_E {B : Nat} {a s a' s' : Nat → Int32} {Q : Nat → Nat → Prop} {px py : Nat → Nat} {i m : Nat} {vd : Int32} (r : re_P B a s) (h : xm_I a Q a' px py i m vd) (him : m ≤ i) (o : ma_Ok (xv_U a) (xv_L a) (xv_T a) Q (yv_I s' 0)) (hb : ∀ v, v < 48 → ∃ c, c < 48 ∧ s' v = nI c) (un : ∀ v, v < 48 → ¬ xv_U a v → s' v = nI v) (hs : ∀ i, 48 ≤ i → i < 633 → s' i = s i) : re_P B a' s' := by
  have r0 := r
  have yU := re_U r
  obtain ⟨h1, h2, h3, h4, h5, h6⟩ := r
  have eT : yv_T s' = yv_T s := yv_congrT (fun i p q => hs i p (by omega))
  have sub : ∀ x y, ma_K (xv_U a) (xv_L a) x y → ma_K (xv_U a) (xv_L a') x y := by
    obtain ⟨f1, _⟩ := ma_MI_end h.2.2.1 him
    exact ma_K_sub f1.1 f1.2.1
  have yh : yv_H s' := by
    obtain ⟨g1, g2, g3, g4⟩ := h2
    refine ⟨hb, ?_, ?_, ?_⟩
    · intro x hx
      rw [hs (384 + x) (by omega) (by omega), hs (48 + x) (by omega) (by omega)]
      rcases g2 x hx with q | q
      · exact Or.inl q
      · refine Or.inr ⟨q.1, un x hx ?_, q.2.2⟩
        intro u
        have u1 := u.2
        rw [h3 x hx, q.1] at u1
        exact absurd u1 (by decide)
    · intro x hx
      rw [hs (48 + x) (by omega) (by omega), hs (96 + x) (by omega) (by omega), hs (144 + x) (by omega) (by omega), hs (192 + x) (by omega) (by omega)]
      exact g3 x hx
    · intro x k hx hk
      rw [hs _ (by omega) (by omega)]; exact g4 x k hx hk
  refine tl_P r0 h him o yh (fun x hx => hs _ (by omega) (by omega)) (fun i p q => hs i (by omega) q) ?_ ?_ ?_
  · rw [eT]; exact h5.2.2.2.1
  · rw [eT]; exact ma_Sub_mono sub h5.2.2.2.2.1
  · rw [eT]; exact ma_Sub_mono sub h5.2.2.2.2.2
/-- a telling by pairs: the outcomes of the two sides are one -/
theorem tl_tr {B : Nat} {a s : Nat → Int32} {Q : Nat → Nat → Prop} (r : re_P B a s) : (∀ L', ma_Ok (yv_U s) (xv_L a) (yv_T s) Q L' → ma_Ok (xv_U a) (xv_L a) (xv_T a) Q L') ∧ (ma_No (yv_U s) (xv_L a) (yv_T s) Q → ma_No (xv_U a) (xv_L a) (xv_T a) Q) := by
  have eU := re_U r
  have h5 := r.2.2.2.2.1
  rw [eU]
  have f : ∀ E, ma_F (xv_U a) (xv_L a) (yv_T s) Q E ↔ ma_F (xv_U a) (xv_L a) (xv_T a) Q E := fun E => (ma_R_F h5 E).symm
  have b : ∀ E, ma_F (xv_U a) (xv_L a) (yv_T s) Q E → (ma_Bad (yv_T s) E ↔ ma_Bad (xv_T a) E) := fun E hE => (ma_R_B h5 E ((f E).mp hE)).symm
  exact ⟨fun L' o => ma_Ok_tr f b o, fun o => ma_No_tr f b o⟩
/-- the start of the reference's work: the least members -/
theorem yc_00 {U : Nat → Prop} {L : Nat → Nat} {s s1 : Nat → Int32} (eU : yv_U s = U) (w : ma_W U L) (hL : ∀ x, U x → s x = nI (L x)) (hb : ∀ v, v < 48 → ∃ c, c < 48 ∧ s v = nI c) (un : ∀ v, v < 48 → ¬ U v → s v = nI v) (h1 : ∀ i, i < 633 → s1 i = s i) (h2 : ∀ v, v < 48 → s1 (633 + v) = s v) : yc_I L ma_0 s s1 := by
  have lo : ∀ v, v < 48 → ∃ c, c < 48 ∧ s1 (633 + v) = nI c := by
    intro v hv
    rw [h2 v hv]; exact hb v hv
  have eL : ∀ x, U x → yv_I s1 633 x = L x := by
    intro x hx
    have x48 := (w x hx).1
    have l48 := (w _ (w x hx).2.1).1
    unfold yv_I
    rw [if_pos x48, h2 x x48, hL x hx, nI_clamp (by omega)]
  refine ⟨h1, lo, ?_, ?_, ?_⟩
  · rw [eU]
    intro x hx
    obtain ⟨w1, w2, w3, w4⟩ := w x hx
    rw [eL x hx]
    exact ⟨w1, w2, by rw [eL _ w2, w3], w4⟩
  · rw [eU]
    intro v hv nu
    rw [h2 v hv]; exact un v hv nu
  · rw [eU]
    intro E
    constructor
    · intro ⟨e, hb, hq, pc⟩
      exact ⟨e, fun x hx => by rw [eL x hx]; exact hb x hx, hq, pc⟩
    · intro ⟨e, hb, hq, pc⟩
      exact ⟨e, fun x hx => by rw [← eL x hx]; exact hb x hx, hq, pc⟩
theorem re_un {B : Nat} {a s : Nat → Int32} (r : re_P B a s) : ∀ v, v < 48 → ¬ xv_U a v → s v = nI v := by
  intro v hv nu
  rcases r.2.1.2.1 v hv with q | q
  · exact absurd ⟨hv, by rw [r.2.2.1 v hv]; exact q⟩ nu
  · exact q.2.1
theorem yc_0 {B : Nat} {a s s1 : Nat → Int32} (r : re_P B a s) (h1 : ∀ i, i < 633 → s1 i = s i) (h2 : ∀ v, v < 48 → s1 (633 + v) = s v) : yc_I (xv_L a) ma_0 s s1 :=
  yc_00 (re_U r) r.2.2.2.2.1.1 (fun _ hx => (re_Ls r hx).1) r.2.1.1 (re_un r) h1 h2
theorem yc_more {L : Nat → Nat} {Q Q' : Nat → Nat → Prop} {s0 s s' : Nat → Int32} {x y : Nat} (h : yc_I L Q s0 s) (hx : yv_U s0 x) (hy : yv_U s0 y) (j : yj_J s s' 633 x y) (hQ : ∀ u v, Q' u v ↔ (Q u v ∨ (u = x ∧ v = y))) : yc_I L Q' s0 s' := by
  obtain ⟨h1, h2, h3, h5, h4⟩ := h
  obtain ⟨g1, g2⟩ := yj_I j h2 hx.1 hy.1
  obtain ⟨m1, m2, m3, m4, m5, m6⟩ := ma_YJ (T := yv_T s0) (Q := ma_0) h3 hx hy g2
  refine ⟨fun i hi => by rw [j.2 i (by omega)]; exact h1 i hi, g1, m1, ?_, fun E => ⟨fun q => ?_, fun q => ?_⟩⟩
  · intro v hv nu
    have e := h5 v hv nu
    have f : ∀ z, yv_U s0 z → ¬ s (633 + v) = s (633 + z) := by
      intro z hz q
      obtain ⟨e1, e2⟩ := yv_HI h2 hz.1
      rw [e, e1] at q
      have q' := (nI_eq (by omega) (by omega)).mp q
      apply nu
      rw [q']; exact (h3 z hz).2.1
    rw [j.1 v hv, if_neg (fun q => q.elim (f x hx) (f y hy))]
    exact e
  · have q1 : ma_F (yv_U s0) L (yv_T s0) Q E := ⟨q.1, q.2.1, fun u v z => q.2.2.1 u v ((hQ u v).mpr (Or.inl z)), q.2.2.2⟩
    exact m2 E ((h4 E).mp q1) (q.2.2.1 x y ((hQ x y).mpr (Or.inr ⟨rfl, rfl⟩)))
  · obtain ⟨q1, q2⟩ := m3 E q
    have q3 := (h4 E).mpr q1
    refine ⟨q3.1, q3.2.1, fun u v z => ?_, q3.2.2.2⟩
    rcases (hQ u v).mp z with z | ⟨z1, z2⟩
    · exact q3.2.2.1 u v z
    · rw [z1, z2]; exact q2
end
section
/-- a value set at the least member c -/
def sv_X (a a' : Nat → Int32) (c : Nat) (sh : Int32 × Int32) (p : Nat → Nat) : Prop :=
  a' (48 + c) = sh.1 ∧ a' (96 + c) = sh.2 ∧ a' (144 + c) = nI (ma_ct sh.1) ∧ (∀ k, k < 3 → ∃ q, q < 48 ∧ a' (192 + 3 * c + k) = nI q) ∧ (∀ k, k < ma_ct sh.1 → a' (192 + 3 * c + k) = nI (p k)) ∧
  (∀ d, d < 48 → d ≠ c → a' (48 + d) = a (48 + d) ∧ a' (96 + d) = a (96 + d) ∧ a' (144 + d) = a (144 + d) ∧ ∀ k, k < 3 → a' (192 + 3 * d + k) = a (192 + 3 * d + k)) ∧
  (∀ i, (i < 48 ∨ 336 ≤ i) → a' i = a i)
/-- a code that a value may have -/
def sv_c (sh : Int32 × Int32) : Prop := (sh.1 = 1) ∨ (sh.2 = 0 ∧ ∃ l c, l < 8 ∧ c ≤ 3 ∧ sh.1 = nI (2 + 4 * l + c))
theorem sv_ne {sh : Int32 × Int32} (h : sv_c sh) : sh.1 ≠ 0 := by
  rcases h with q | ⟨_, l, c, hl, hc, q⟩
  · rw [q]; decide
  · rw [q]
    intro z
    have := (li_e0 (by omega)).mp z
    omega
theorem sv_XL {a a' : Nat → Int32} {c : Nat} {sh : Int32 × Int32} {p : Nat → Nat} (h : sv_X a a' c sh p) : xv_U a' = xv_U a ∧ xv_L a' = xv_L a := by
  obtain ⟨_, _, _, _, _, _, h7⟩ := h
  constructor
  · exact xj_U (fun i hi => h7 i (Or.inr hi))
  · funext x
    unfold xv_L
    by_cases q : x < 48
    · rw [if_pos q, if_pos q, h7 _ (by omega)]
    · rw [if_neg q, if_neg q]
theorem sv_XH {a a' : Nat → Int32} {c : Nat} {sh : Int32 × Int32} {p : Nat → Nat} (h : sv_X a a' c sh p) (hsh : sv_c sh) (g : xv_H a) : xv_H a' := by
  obtain ⟨h1, h2, h3, h4, h5, h6, h7⟩ := h
  obtain ⟨g1, g2, g3, g4, g5, g6⟩ := g
  refine ⟨?_, ?_, ?_, ?_, ?_, ?_⟩
  · intro x hx; rw [h7 _ (by omega)]; exact g1 x hx
  · intro d hd
    by_cases q : d = c
    · rw [q, h1, h3]
    · obtain ⟨e1, e2, e3, e4⟩ := h6 d hd q
      rw [e1, e3]; exact g2 d hd
  · intro d k hd hk
    by_cases q : d = c
    · rw [q]; exact h4 k hk
    · rw [(h6 d hd q).2.2.2 k hk]; exact g3 d k hd hk
  · intro x hx; rw [h7 _ (by omega)]; exact g4 x hx
  · intro d hd
    by_cases q : d = c
    · rw [q, h1, h2]
      rcases hsh with z | z
      · exact Or.inl z
      · exact Or.inr z.1
    · obtain ⟨e1, e2, e3, e4⟩ := h6 d hd q
      rw [e1, e2]; exact g5 d hd
  · intro d hd
    by_cases q : d = c
    · rw [q, h1]
      rcases hsh with z | ⟨_, l, n, hl, hn, z⟩
      · exact ⟨1, by omega, z⟩
      · exact ⟨2 + 4 * l + n, by omega, z⟩
    · rw [(h6 d hd q).1]; exact g6 d hd
theorem sv_XT {a a' : Nat → Int32} {c : Nat} {sh : Int32 × Int32} {p : Nat → Nat} (h : sv_X a a' c sh p) (hsh : sv_c sh) (hp : ∀ k, k < ma_ct sh.1 → p k < 48) (u : xv_U a c) (l : xv_L a c = c) (n : ¬ (xv_T a).1 c) : ma_put (xv_T a) (xv_T a') c sh p := by
  obtain ⟨eU, eL⟩ := sv_XL h
  obtain ⟨h1, h2, h3, h4, h5, h6, h7⟩ := h
  have c48 := u.1
  refine ⟨?_, ?_, ?_, ?_⟩
  · intro d
    show (xv_U a' d ∧ xv_L a' d = d ∧ xv_K a' d ≠ 0) ↔ ((xv_U a d ∧ xv_L a d = d ∧ xv_K a d ≠ 0) ∨ d = c)
    rw [eU, eL]
    by_cases q : d = c
    · rw [q]
      refine ⟨fun _ => Or.inr rfl, fun _ => ⟨u, l, ?_⟩⟩
      rw [← xv_HK c48, h1]; exact sv_ne hsh
    · constructor
      · intro ⟨p1, p2, p3⟩
        have d48 := p1.1
        rw [← xv_HK d48, (h6 d d48 q).1, xv_HK (a := a) d48] at p3
        exact Or.inl ⟨p1, p2, p3⟩
      · intro z
        rcases z with ⟨p1, p2, p3⟩ | z
        · have d48 := p1.1
          refine ⟨p1, p2, ?_⟩
          rw [← xv_HK d48, (h6 d d48 q).1, xv_HK (a := a) d48]; exact p3
        · exact absurd z q
  · intro d hd
    have d48 : d < 48 := (xv_T1 hd).1.1
    have q : d ≠ c := fun e => n (by rw [← e]; exact hd)
    obtain ⟨e1, e2, e3, e4⟩ := h6 d d48 q
    constructor
    · show (xv_K a' d, xv_V a' d) = (xv_K a d, xv_V a d)
      rw [← xv_HK d48, ← xv_HV d48, ← xv_HK d48, ← xv_HV d48, e1, e2]
    · intro k hk
      have k3 : k < 3 := Nat.lt_of_lt_of_le hk (ma_ct_le _)
      show xv_P a' d k = xv_P a d k
      unfold xv_P
      rw [if_pos ⟨d48, k3⟩, if_pos ⟨d48, k3⟩, e4 k k3]
  · show (xv_K a' c, xv_V a' c) = sh
    rw [← xv_HK c48, ← xv_HV c48, h1, h2]
  · intro k hk
    have k3 : k < 3 := Nat.lt_of_lt_of_le hk (ma_ct_le _)
    show xv_P a' c k = p k
    unfold xv_P
    have := hp k hk
    rw [if_pos ⟨c48, k3⟩, h5 k hk, nI_clamp (by omega)]
/-- a value set at the variable x of the reference -/
def sv_Y (s s' : Nat → Int32) (x : Nat) (sh : Int32 × Int32) (p : Nat → Nat) : Prop :=
  ((sh.1 = 1 ∧ s' (48 + x) = 1 ∧ s' (96 + x) = sh.2 ∧ s' (144 + x) = 0 ∧ s' (192 + x) = 0) ∨ (∃ l c, l < 8 ∧ c ≤ 3 ∧ sh = (nI (2 + 4 * l + c), 0) ∧ s' (48 + x) = 2 ∧ s' (96 + x) = 0 ∧ s' (144 + x) = nI l ∧ s' (192 + x) = nI c)) ∧
  (∀ k, k < ma_ct sh.1 → s' (240 + 3 * x + k) = nI (p k)) ∧
  (∀ k, ma_ct sh.1 ≤ k → k < 3 → s' (240 + 3 * x + k) = s (240 + 3 * x + k)) ∧
  (∀ i, i < 633 → i ≠ 48 + x → i ≠ 96 + x → i ≠ 144 + x → i ≠ 192 + x → (i < 240 + 3 * x ∨ 240 + 3 * x + 3 ≤ i) → s' i = s i)
theorem sv_Yk {s s' : Nat → Int32} {x : Nat} {sh : Int32 × Int32} {p : Nat → Nat} (h : sv_Y s s' x sh p) : s' (48 + x) ≠ 0 ∧ (yv_k s' x, s' (96 + x)) = sh := by
  rcases h.1 with ⟨h0, h1, h2, h3, h4⟩ | ⟨l, c, hl, hc, e, h1, h2, h3, h4⟩
  · refine ⟨by rw [h1]; decide, ?_⟩
    unfold yv_k
    rw [if_pos h1, h2, ← h0]
  · refine ⟨by rw [h1]; decide, ?_⟩
    rw [yv_kr h1 h3 h4, h2, e]
theorem sv_YH {s s' : Nat → Int32} {x : Nat} {sh : Int32 × Int32} {p : Nat → Nat} (h : sv_Y s s' x sh p) (x48 : x < 48) (u : s (384 + x) = 1) (hp : ∀ k, k < ma_ct sh.1 → p k < 48) (g : yv_H s) : yv_H s' := by
  obtain ⟨g1, g2, g3, g4⟩ := g
  have hd := h.1
  obtain ⟨_, h2, h3, h4⟩ := h
  refine ⟨?_, ?_, ?_, ?_⟩
  · intro v hv
    rw [h4 v (by omega) (by omega) (by omega) (by omega) (by omega) (by omega)]; exact g1 v hv
  · intro v hv
    rw [h4 (384 + v) (by omega) (by omega) (by omega) (by omega) (by omega) (by omega), h4 v (by omega) (by omega) (by omega) (by omega) (by omega) (by omega)]
    by_cases q : v = x
    · rw [q]; exact Or.inl u
    · rw [h4 (48 + v) (by omega) (by omega) (by omega) (by omega) (by omega) (by omega)]; exact g2 v hv
  · intro v hv
    by_cases q : v = x
    · rw [q]
      rcases hd with ⟨_, e1, _, e3, e4⟩ | ⟨l, c, hl, hc, _, e1, e2, e3, e4⟩
      · exact Or.inr (Or.inl ⟨e1, e3, e4⟩)
      · exact Or.inr (Or.inr ⟨e1, e2, l, c, hl, hc, e3, e4⟩)
    · rw [h4 (48 + v) (by omega) (by omega) (by omega) (by omega) (by omega) (by omega), h4 (96 + v) (by omega) (by omega) (by omega) (by omega) (by omega) (by omega), h4 (144 + v) (by omega) (by omega) (by omega) (by omega) (by omega) (by omega), h4 (192 + v) (by omega) (by omega) (by omega) (by omega) (by omega) (by omega)]
      exact g3 v hv
  · intro v k hv hk
    by_cases q : v = x
    · rw [q]
      by_cases z : k < ma_ct sh.1
      · exact ⟨p k, hp k z, h2 k z⟩
      · rw [h3 k (by omega) hk]; exact g4 x k x48 hk
    · rw [h4 (240 + 3 * v + k) (by omega) (by omega) (by omega) (by omega) (by omega) (by omega)]; exact g4 v k hv hk
theorem sv_YT {s s' : Nat → Int32} {x : Nat} {sh : Int32 × Int32} {p : Nat → Nat} (h : sv_Y s s' x sh p) (u : yv_U s x) (n : ¬ (yv_T s).1 x) (hp : ∀ k, k < ma_ct sh.1 → p k < 48) : ma_put (yv_T s) (yv_T s') x sh p := by
  obtain ⟨k0, ks⟩ := sv_Yk h
  obtain ⟨h1, h2, h3, h4⟩ := h
  have x48 := u.1
  have eU : ∀ d, d < 48 → s' (384 + d) = s (384 + d) := fun d hd => h4 _ (by omega) (by omega) (by omega) (by omega) (by omega) (by omega)
  refine ⟨?_, ?_, ?_, ?_⟩
  · intro d
    show ((d < 48 ∧ s' (384 + d) = 1) ∧ s' (48 + d) ≠ 0) ↔ (((d < 48 ∧ s (384 + d) = 1) ∧ s (48 + d) ≠ 0) ∨ d = x)
    by_cases q : d = x
    · rw [q, eU x x48]
      exact ⟨fun _ => Or.inr rfl, fun _ => ⟨u, k0⟩⟩
    · constructor
      · intro ⟨⟨p1, p2⟩, p3⟩
        rw [eU d p1] at p2
        rw [h4 (48 + d) (by omega) (by omega) (by omega) (by omega) (by omega) (by omega)] at p3
        exact Or.inl ⟨⟨p1, p2⟩, p3⟩
      · intro z
        rcases z with ⟨⟨p1, p2⟩, p3⟩ | z
        · rw [eU d p1, h4 (48 + d) (by omega) (by omega) (by omega) (by omega) (by omega) (by omega)]
          exact ⟨⟨p1, p2⟩, p3⟩
        · exact absurd z q
  · intro d hd
    have d48 : d < 48 := (yv_T1 hd).1.1
    have q : d ≠ x := fun e => n (by rw [← e]; exact hd)
    constructor
    · show (if d < 48 then (yv_k s' d, s' (96 + d)) else (0, 0)) = (if d < 48 then (yv_k s d, s (96 + d)) else (0, 0))
      rw [if_pos d48, if_pos d48]
      unfold yv_k
      rw [h4 (48 + d) (by omega) (by omega) (by omega) (by omega) (by omega) (by omega), h4 (96 + d) (by omega) (by omega) (by omega) (by omega) (by omega) (by omega), h4 (144 + d) (by omega) (by omega) (by omega) (by omega) (by omega) (by omega), h4 (192 + d) (by omega) (by omega) (by omega) (by omega) (by omega) (by omega)]
    · intro k hk
      have k3 : k < 3 := Nat.lt_of_lt_of_le hk (ma_ct_le _)
      show yv_P s' d k = yv_P s d k
      unfold yv_P
      rw [if_pos ⟨d48, k3⟩, if_pos ⟨d48, k3⟩, h4 (240 + 3 * d + k) (by omega) (by omega) (by omega) (by omega) (by omega) (by omega)]
  · show (if x < 48 then (yv_k s' x, s' (96 + x)) else (0, 0)) = sh
    rw [if_pos x48]; exact ks
  · intro k hk
    have k3 : k < 3 := Nat.lt_of_lt_of_le hk (ma_ct_le _)
    have := hp k hk
    show yv_P s' x k = p k
    unfold yv_P
    rw [if_pos ⟨x48, k3⟩, h2 k hk, nI_clamp (by omega)]
/-- a value for a FREE class: the rows hold the same again -/
theorem sv_P {B : Nat} {a a' s s' : Nat → Int32} {x : Nat} {sh : Int32 × Int32} {p : Nat → Nat} (r : re_P B a s) (ux : xv_U a x) (hf : xv_K a (xv_L a x) = 0) (hsh : sv_c sh) (hp : ∀ k, k < ma_ct sh.1 → xv_U a (p k)) (hX : sv_X a a' (xv_L a x) sh p) (hY : sv_Y s s' x sh p) : re_P B a' s' := by
  have r0 := r
  have yU := re_U r
  obtain ⟨h1, h2, h3, h4, h5, h6⟩ := r
  obtain ⟨w1, w2, w3, w4⟩ := h5.1 x ux
  have p48 : ∀ k, k < ma_ct sh.1 → p k < 48 := fun k hk => (hp k hk).1
  have nX : ¬ (xv_T a).1 (xv_L a x) := fun q => (xv_T1 q).2.2 hf
  have nY : ¬ (yv_T s).1 x := fun q => nX (ma_R_x h5 q).1
  obtain ⟨eU, eL⟩ := sv_XL hX
  have tX := sv_XT hX hsh p48 w2 w3 nX
  have tY := sv_YT hY (by rw [yU]; exact ux) nY p48
  have uY : s (384 + x) = 1 := by rw [← h3 x w1]; exact ux.2
  have cX := hX.2.2.2.2.2.2
  have cY := hY.2.2.2
  refine ⟨sv_XH hX hsh h1, sv_YH hY w1 uY p48 h2, ?_, ?_, ?_, ?_⟩
  · intro v hv
    rw [cX _ (by omega), cY (384 + v) (by omega) (by omega) (by omega) (by omega) (by omega) (by omega)]; exact h3 v hv
  · intro v hv
    rw [eU] at hv
    have v48 := hv.1
    rw [cX _ (by omega), cY v (by omega) (by omega) (by omega) (by omega) (by omega) (by omega)]; exact h4 v hv
  · rw [eU, eL]
    exact ma_R_set h5 ux nX tX tY hp
  · exact re_N_congr (fun i q _ => cX i (Or.inr q)) (fun i q q2 => cY i q2 (by omega) (by omega) (by omega) (by omega) (by omega)) h6
end
section
/-- ALIKE turns round and joins on -/
theorem ma_al_sym {U : Nat → Prop} {L : Nat → Nat} {T : ma_T} {x y : Nat} (h : ma_al U L T x y) : ma_al U L T y x := by
  obtain ⟨E, ⟨e, hb, hq, pc⟩, ht⟩ := h
  refine ⟨E, ⟨e, hb, ?_, pc⟩, ht⟩
  intro u v ⟨p, q⟩
  rw [p, q]; exact e.2.1 _ _ (hq x y ⟨rfl, rfl⟩)
theorem ma_al_L {U : Nat → Prop} {L : Nat → Nat} {T : ma_T} {x y x' y' : Nat} (hx : U x) (hy : U y) (hx' : U x') (hy' : U y') (ex : L x = L x') (ey : L y = L y') (h : ma_al U L T x y) : ma_al U L T x' y' := by
  obtain ⟨E, ⟨e, hb, hq, pc⟩, ht⟩ := h
  refine ⟨E, ⟨e, hb, ?_, pc⟩, ht⟩
  intro u v ⟨p, q⟩
  rw [p, q]
  have k := ma_K_sub e hb
  exact e.2.2 _ _ _ (k _ _ (Or.inr ⟨hx', hx, ex.symm⟩)) (e.2.2 _ _ _ (hq x y ⟨rfl, rfl⟩) (k _ _ (Or.inr ⟨hy, hy', ey⟩)))
theorem ma_al_rf {U : Nat → Prop} {L : Nat → Nat} {K V : Nat → Int32} {P : Nat → Nat → Nat} {x y : Nat} (w : ma_W U L) (hx : U x) (hy : U y) (e : L x = L y) : ma_al U L (ma_X U L K V P) x y := by
  obtain ⟨⟨a, b, _, d⟩, _⟩ := ma_X_fin (K := K) (V := V) (P := P) w
  refine ⟨ma_K U L, ⟨a, b, ?_, d⟩, ?_⟩
  · intro u v ⟨p, q⟩
    rw [p, q]; exact Or.inr ⟨hx, hy, e⟩
  · intro c d _ _ lc ld h
    have := ma_K_L h
    exact Or.inl (by omega)
theorem ma_al_tr {U : Nat → Prop} {L : Nat → Nat} {TX TY : ma_T} {x y z : Nat} (r : ma_R U L TX TY) (hx : U x) (hy : U y) (hz : U z) (h1 : ma_al U L TX x y) (h2 : ma_al U L TX y z) : ma_al U L TX x z := by
  obtain ⟨w, x1, x2, _, _, _⟩ := r
  have r' : ma_R U L TX TX := ⟨w, x1, x2, fun c hc => ⟨(x1 c hc).1, x2 c hc⟩, ma_Sub_refl (ma_K_eqv _ _), ma_Sub_refl (ma_K_eqv _ _)⟩
  have wh : ma_Wh U L TX (fun u => TX.1 (L u)) (fun u => L u) := by
    refine ⟨?_, ?_, fun u v _ _ e => e⟩
    · intro u hu ⟨b, hb, e⟩
      rw [← e, (x1 b hb).2]; exact hb
    · intro u hu h
      exact ⟨h, (w u hu).2.2.1⟩
  have hA : ma_bi U L TX (fun u => TX.1 (L u)) (fun u => L u) (fun u v => ∃ B, ma_bi U L TX (fun u => TX.1 (L u)) (fun u => L u) B ∧ B u v) := by
    intro u v hu hv ⟨B, hB, hb⟩
    rcases hB u v hu hv hb with q | ⟨q1, q2, q3, q4⟩
    · exact Or.inl q
    · exact Or.inr ⟨q1, q2, q3, fun k hk => ⟨B, hB, q4 k hk⟩⟩
  have mx : ∀ B, ma_bi U L TX (fun u => TX.1 (L u)) (fun u => L u) B → ∀ u v, U u → U v → B u v → ∃ B, ma_bi U L TX (fun u => TX.1 (L u)) (fun u => L u) B ∧ B u v := fun B hB u v _ _ q => ⟨B, hB, q⟩
  have hs : ∀ u v, U u → U v → (∃ B, ma_bi U L TX (fun u => TX.1 (L u)) (fun u => L u) B ∧ B u v) → ∃ B, ma_bi U L TX (fun u => TX.1 (L u)) (fun u => L u) B ∧ B v u := by
    intro u v _ _ ⟨B, hB, hb⟩
    refine ⟨fun p q => B q p, ?_, hb⟩
    intro p q hp hq hh
    rcases hB q p hq hp hh with z | ⟨z1, z2, z3, z4⟩
    · exact Or.inl z.symm
    · exact Or.inr ⟨z2, z1, z3.symm, fun k hk => z4 k (by rw [z3]; exact hk)⟩
  have iff : ∀ {p q : Nat}, U p → U q → ((∃ B, ma_bi U L TX (fun u => TX.1 (L u)) (fun u => L u) B ∧ B p q) ↔ ma_al U L TX p q) := fun hp hq => ma_al_Y (A := fun u v => ∃ B, ma_bi U L TX (fun u => TX.1 (L u)) (fun u => L u) B ∧ B u v) r' wh hs hA mx hp hq
  exact (iff hx hz).mp (ma_bi_tr (A := fun u v => ∃ B, ma_bi U L TX (fun u => TX.1 (L u)) (fun u => L u) B ∧ B u v) r'.2.2.2.1 wh hA mx x y z hx hy hz ((iff hx hy).mpr h1) ((iff hy hz).mpr h2))
/-- MEETINGS, of least members -/
def mt_M (L : Nat → Nat) (T : ma_T) (x y u v : Nat) : Prop :=
  ∀ M : Nat → Nat → Prop, M (L x) (L y) → (∀ u v, M u v → T.1 u → T.1 v → T.2.1 u = T.2.1 v → ∀ k, k < ma_ct (T.2.1 u).1 → M (L (T.2.2 u k)) (L (T.2.2 v k))) → M u v
theorem mt_0 {L : Nat → Nat} {T : ma_T} {x y : Nat} : mt_M L T x y (L x) (L y) := fun _ h _ => h
theorem mt_s {L : Nat → Nat} {T : ma_T} {x y u v k : Nat} (h : mt_M L T x y u v) (hu : T.1 u) (hv : T.1 v) (e : T.2.1 u = T.2.1 v) (hk : k < ma_ct (T.2.1 u).1) : mt_M L T x y (L (T.2.2 u k)) (L (T.2.2 v k)) := fun M h1 h2 => h2 u v (h M h1 h2) hu hv e k hk
/-- matches answers YES -/
def mt_G (U : Nat → Prop) (L : Nat → Nat) (T : ma_T) (x y : Nat) : Prop :=
  (∀ u v, mt_M L T x y u v → T.1 u → T.1 v ∧ T.2.1 u = T.2.1 v) ∧ (∀ u v w, mt_M L T x y u v → mt_M L T x y u w → ¬ T.1 u → ma_al U L T v w)
theorem mt_U {U : Nat → Prop} {L : Nat → Nat} {T : ma_T} {x y u v : Nat} (w : ma_W U L) (x2 : ∀ c, T.1 c → ∀ k, k < ma_ct (T.2.1 c).1 → U (T.2.2 c k)) (hx : U x) (hy : U y) (h : mt_M L T x y u v) : U u ∧ U v ∧ L u = u ∧ L v = v := by
  refine h (fun u v => U u ∧ U v ∧ L u = u ∧ L v = v) ⟨(w x hx).2.1, (w y hy).2.1, (w x hx).2.2.1, (w y hy).2.2.1⟩ ?_
  intro u v _ hu hv e k hk
  have p := w _ (x2 u hu k hk)
  have q := w _ (x2 v hv k (by rw [← e]; exact hk))
  exact ⟨p.2.1, q.2.1, p.2.2.1, q.2.2.1⟩
end
section
theorem re_P_N {B B' : Nat} {a a' s s' : Nat → Int32} (r : re_P B a s) (ha : ∀ i, i < 384 → a' i = a i) (hs : ∀ i, i < 432 → s' i = s i) (h : re_N B' a' s') : re_P B' a' s' := by
  obtain ⟨h1, h2, h3, h4, h5, h6⟩ := r
  have ha' : ∀ i, i < 384 → a' i = a i := fun i hi => ha i (by omega)
  have hs' : ∀ i, i < 432 → s' i = s i := fun i hi => hs i (by omega)
  refine ⟨xv_congrH ha' h1, yv_congrH hs' h2, ?_, ?_, ?_, h⟩
  · intro x hx; rw [ha _ (by omega), hs _ (by omega)]; exact h3 x hx
  · intro x hx
    rw [(xv_congr ha').1] at hx
    have := hx.1
    rw [ha _ (by omega), hs _ (by omega)]; exact h4 x hx
  · rw [xv_congrT ha', yv_congrT (fun i _ hi => hs' i hi), (xv_congr ha').1, (xv_congr ha').2.1]; exact h5
/-- one more is NOTED -/
def nt_X (a a' : Nat → Int32) (w : Int32) : Prop :=
  ∃ n, n < 1000000 ∧ a 584 = nI n ∧ a' 584 = nI (n + 1) ∧ (n < 60 → a' (524 + n) = w) ∧ ∀ i, i ≠ 584 → (i ≠ 524 + n ∨ 60 ≤ n) → a' i = a i
def nt_Y (s s' : Nat → Int32) (w : Int32) : Prop :=
  ∃ n, n < 1000000 ∧ s 572 = nI n ∧ s' 572 = nI (n + 1) ∧ (n < 60 → s' (573 + n) = w) ∧ ∀ i, i ≠ 572 → (i ≠ 573 + n ∨ 60 ≤ n) → s' i = s i
theorem nt_N {B : Nat} {a a' s s' : Nat → Int32} {w : Int32} (hB : B < 1000000) (h : re_N B a s) (hX : nt_X a a' w) (hY : nt_Y s s' w) : re_N (B + 1) a' s' := by
  obtain ⟨n, nb, a1, a2, a3, a4⟩ := hX
  obtain ⟨m, mb, b1, b2, b3, b4⟩ := hY
  obtain ⟨h1, h2, h3, h4, h5, ⟨k, k1, k2, k3⟩, h7⟩ := h
  have e1 : n = k := (nI_eq (by omega) (by omega)).mp (by rw [← a1, k2])
  have e2 : m = n := (nI_eq (by omega) (by omega)).mp (by rw [← b1, k3, e1])
  rw [e2] at b2 b3 b4
  have ca : ∀ i, i < 524 → a' i = a i := fun i hi => a4 i (by omega) (Or.inl (by omega))
  have cs : ∀ i, i < 572 → s' i = s i := fun i hi => b4 i (by omega) (Or.inl (by omega))
  have hU : xv_U a' = xv_U a := by
    funext x
    unfold xv_U
    apply propext
    constructor
    · intro ⟨p, q⟩
      rw [ca _ (by omega)] at q; exact ⟨p, q⟩
    · intro ⟨p, q⟩
      rw [← ca _ (by omega)] at q; exact ⟨p, q⟩
  unfold re_N
  rw [hU]
  refine ⟨?_, ?_, ?_, ?_, ?_, ⟨n + 1, by omega, a2, b2⟩, ?_⟩
  · intro x hx; rw [ca _ (by omega), cs _ (by omega)]; exact h1 x hx
  · intro x hx; rw [ca _ (by omega), cs _ (by omega)]; exact h2 x hx
  · intro x hx
    rw [ca (480 + x) (by omega), ca (488 + x) (by omega), ca (496 + x) (by omega), cs (544 + x) (by omega), cs (528 + x) (by omega), cs (536 + x) (by omega)]; exact h3 x hx
  · intro x hx
    rw [ca (504 + x) (by omega), ca (512 + x) (by omega), cs (552 + x) (by omega), cs (560 + x) (by omega)]; exact h4 x hx
  · intro x hx; rw [ca _ (by omega), cs _ (by omega)]; exact h5 x hx
  · intro j hj
    by_cases q : j = n
    · rw [q, a3 (by omega), b3 (by omega)]
    · rw [a4 _ (by omega) (Or.inl (by omega)), b4 _ (by omega) (Or.inl (by omega))]; exact h7 j hj
/-- what TEST t comes to -/
noncomputable def dt_v (a : Nat → Int32) (t : Nat) : Int32 :=
  if a (496 + t) = -1 then (if xv_K a (xv_L a (a (488 + t)).toNatClampNeg) = 0 then 3 else 1) else ma_vd (xv_U a) (xv_L a) (xv_T a) (a (488 + t)).toNatClampNeg (a (496 + t)).toNatClampNeg
theorem dt_congr {a a' : Nat → Int32} {t : Nat} (h : ∀ i, i < 384 → a' i = a i) (h1 : a' (488 + t) = a (488 + t)) (h2 : a' (496 + t) = a (496 + t)) : dt_v a' t = dt_v a t := by
  unfold dt_v
  obtain ⟨u, l, k, _, _⟩ := xv_congr h
  rw [h1, h2, u, l, k, xv_congrT h]
theorem dt_S1 {B : Nat} {a s : Nat → Int32} (N : re_N B a s) (h : ∀ t, t < 8 → a (480 + t) = 3 → dt_v a t = 3) : re_S1 a := by
  intro t q ht h3 hq e
  have d := h t ht h3
  unfold dt_v at d
  rw [e, nI_clamp (by omega)] at d
  constructor
  · intro m
    rw [if_pos m] at d
    by_cases z : xv_K a (xv_L a q) = 0
    · exact z
    · rw [if_neg z] at d; exact absurd d (by decide)
  · intro y hy ey
    rw [ey, if_neg (fun z => (li_nn1 (by omega)).mp z), nI_clamp (by omega)] at d
    exact d
theorem dt_of {B : Nat} {a s : Nat → Int32} (N : re_N B a s) (S : re_S1 a) {t : Nat} (ht : t < 8) (h3 : a (480 + t) = 3) : dt_v a t = 3 := by
  obtain ⟨⟨q, u, e⟩, o⟩ := (N.2.2.1 t ht).2.2.2 h3
  have q48 := u.1
  obtain ⟨s1, s2⟩ := S t q ht h3 q48 e
  unfold dt_v
  rw [e, nI_clamp (by omega)]
  rcases o with m | ⟨y, uy, ey⟩
  · rw [if_pos m, if_pos (s1 m)]
  · have y48 := uy.1
    rw [ey, if_neg (fun z => (li_nn1 (by omega)).mp z), nI_clamp (by omega)]
    exact s2 y y48 ey
theorem dt_cases {a : Nat → Int32} {t : Nat} : dt_v a t = 1 ∨ dt_v a t = 2 ∨ dt_v a t = 3 := by
  unfold dt_v
  split
  · split
    · exact Or.inr (Or.inr rfl)
    · exact Or.inl rfl
  · exact ma_vd_cases _ _ _ _ _
/-- a TEST is decided -/
theorem dt_N {B : Nat} {a a1 s s1 : Nat → Int32} {t : Nat} {r : Int32} (ht : t < 8) (h : re_N B a s) (hr : r ≠ 3) (ha : a1 (480 + t) = r ∧ ∀ i, i ≠ 480 + t → a1 i = a i) (hs : s1 (544 + t) = r ∧ ∀ i, i ≠ 544 + t → s1 i = s i) : re_N B a1 s1 := by
  obtain ⟨h1, h2, h3, h4, h5, h6, h7⟩ := h
  obtain ⟨a2, a3⟩ := ha
  obtain ⟨s2, s3⟩ := hs
  have hU : xv_U a1 = xv_U a := by
    funext x
    unfold xv_U
    apply propext
    constructor
    · intro ⟨p, q⟩
      rw [a3 _ (by omega)] at q; exact ⟨p, q⟩
    · intro ⟨p, q⟩
      rw [← a3 _ (by omega)] at q; exact ⟨p, q⟩
  unfold re_N
  rw [hU]
  refine ⟨?_, ?_, ?_, ?_, ?_, ?_, ?_⟩
  · intro x hx; rw [a3 _ (by omega), s3 _ (by omega)]; exact h1 x hx
  · intro x hx; rw [a3 _ (by omega), s3 _ (by omega)]; exact h2 x hx
  · intro x hx
    rw [a3 (488 + x) (by omega), a3 (496 + x) (by omega), s3 (528 + x) (by omega), s3 (536 + x) (by omega)]
    by_cases q : x = t
    · rw [q, a2, s2]
      obtain ⟨_, p2, p3, _⟩ := h3 t ht
      exact ⟨rfl, p2, p3, fun z => absurd z hr⟩
    · rw [a3 (480 + x) (by omega), s3 (544 + x) (by omega)]; exact h3 x hx
  · intro x hx
    rw [a3 (504 + x) (by omega), a3 (512 + x) (by omega), s3 (552 + x) (by omega), s3 (560 + x) (by omega)]; exact h4 x hx
  · intro x hx; rw [a3 _ (by omega), s3 _ (by omega)]; exact h5 x hx
  · rw [a3 _ (by omega), s3 _ (by omega)]; exact h6
  · intro x hx; rw [a3 _ (by omega), s3 _ (by omega)]; exact h7 x hx
/-- a TRIGGER goes -/
theorem tg_N {B : Nat} {a a1 s s1 : Nat → Int32} {k : Nat} (hk : k < 8) (h : re_N B a s) (ha : a1 (504 + k) = -1 ∧ a1 (512 + k) = -1 ∧ ∀ i, i ≠ 504 + k → i ≠ 512 + k → a1 i = a i) (hs : s1 (552 + k) = -1 ∧ ∀ i, i ≠ 552 + k → s1 i = s i) : re_N B a1 s1 := by
  obtain ⟨h1, h2, h3, h4, h5, h6, h7⟩ := h
  obtain ⟨a2, a4, a3⟩ := ha
  obtain ⟨s2, s3⟩ := hs
  have hU : xv_U a1 = xv_U a := by
    funext x
    unfold xv_U
    apply propext
    constructor
    · intro ⟨p, q⟩
      rw [a3 _ (by omega) (by omega)] at q; exact ⟨p, q⟩
    · intro ⟨p, q⟩
      rw [← a3 _ (by omega) (by omega)] at q; exact ⟨p, q⟩
  unfold re_N
  rw [hU]
  refine ⟨?_, ?_, ?_, ?_, ?_, ?_, ?_⟩
  · intro x hx; rw [a3 _ (by omega) (by omega), s3 _ (by omega)]; exact h1 x hx
  · intro x hx; rw [a3 _ (by omega) (by omega), s3 _ (by omega)]; exact h2 x hx
  · intro x hx
    rw [a3 (480 + x) (by omega) (by omega), a3 (488 + x) (by omega) (by omega), a3 (496 + x) (by omega) (by omega), s3 (544 + x) (by omega), s3 (528 + x) (by omega), s3 (536 + x) (by omega)]; exact h3 x hx
  · intro x hx
    by_cases q : x = k
    · rw [q, a2, a4, s2]
      exact ⟨rfl, Or.inl ⟨rfl, rfl⟩⟩
    · rw [a3 (504 + x) (by omega) (by omega), a3 (512 + x) (by omega) (by omega), s3 (552 + x) (by omega), s3 (560 + x) (by omega)]; exact h4 x hx
  · intro x hx; rw [a3 _ (by omega) (by omega), s3 _ (by omega)]; exact h5 x hx
  · rw [a3 _ (by omega) (by omega), s3 _ (by omega)]; exact h6
  · intro x hx; rw [a3 _ (by omega) (by omega), s3 _ (by omega)]; exact h7 x hx
end
section
/-- the whole relation, over what counts of the two states -/
def re_A (k : Nat) (tr dr tr' dr' : Int32) (held saved draft s saved' draft' : Nat → Int32) : Prop :=
  ∃ t d : Nat, t ≤ 3 ∧ d ≤ 3 ∧ tr = nI t ∧ tr' = nI t ∧ dr = nI d ∧ dr' = nI d ∧ (∀ i, i < 3 → draft i = draft' i ∧ ∃ q, q < 48 ∧ draft i = nI q) ∧ re_C (25 * k) held s ∧ ∀ j, j < t → re_C (25 * k) (fun i => saved (585 * j + i)) (fun i => saved' (633 * j + i))
theorem re_A_up {k k' : Nat} {tr dr tr' dr' : Int32} {held saved draft s saved' draft' : Nat → Int32} (hk : k ≤ k') (h : re_A k tr dr tr' dr' held saved draft s saved' draft') : re_A k' tr dr tr' dr' held saved draft s saved' draft' := by
  obtain ⟨t, d, h1, h2, h3, h4, h5, h6, h7, h8, h9⟩ := h
  exact ⟨t, d, h1, h2, h3, h4, h5, h6, h7, re_C_mono (by omega) h8, fun j hj => re_C_mono (by omega) (h9 j hj)⟩
/-- another pair of rows in the place of the first -/
theorem re_A_row {k : Nat} {tr dr tr' dr' : Int32} {held saved draft s saved' draft' held' s' : Nat → Int32} (h : re_A k tr dr tr' dr' held saved draft s saved' draft') (hC : re_C (25 * k + 100) held' s') : re_A (k + 4) tr dr tr' dr' held' saved draft s' saved' draft' := by
  obtain ⟨t, d, h1, h2, h3, h4, h5, h6, h7, h8, h9⟩ := h
  exact ⟨t, d, h1, h2, h3, h4, h5, h6, h7, re_C_mono (by omega) hC, fun j hj => re_C_mono (by omega) (h9 j hj)⟩
theorem re_A_C {k : Nat} {tr dr tr' dr' : Int32} {held saved draft s saved' draft' : Nat → Int32} (h : re_A k tr dr tr' dr' held saved draft s saved' draft') : re_C (25 * k) held s := by
  obtain ⟨t, d, h1, h2, h3, h4, h5, h6, h7, h8, h9⟩ := h
  exact h8
/-- a row of the first object -/
def re_z (i : Nat) : Int32 := if (504 ≤ i ∧ i < 524) then -1 else 0
def re_y (i : Nat) : Int32 := if i < 48 then nI i else if (552 ≤ i ∧ i < 560) ∨ (568 ≤ i ∧ i < 572) then -1 else 0
theorem re_C_0 : re_C 0 re_z re_y := by
  have z0 : ∀ i, i < 504 → re_z i = 0 := fun i hi => if_neg (by omega)
  have z1 : ∀ i, 524 ≤ i → re_z i = 0 := fun i hi => if_neg (by omega)
  have z2 : ∀ i, 504 ≤ i → i < 524 → re_z i = -1 := fun i h1 h2 => if_pos ⟨h1, h2⟩
  have y0 : ∀ i, i < 48 → re_y i = nI i := fun i hi => if_pos hi
  have y1 : ∀ i, 48 ≤ i → i < 552 → re_y i = 0 := fun i h1 h2 => by
    unfold re_y; rw [if_neg (by omega), if_neg (by omega)]
  have y2 : ∀ i, 552 ≤ i → i < 560 → re_y i = -1 := fun i h1 h2 => by
    unfold re_y; rw [if_neg (by omega), if_pos (Or.inl ⟨h1, h2⟩)]
  have y3 : ∀ i, 568 ≤ i → i < 572 → re_y i = -1 := fun i h1 h2 => by
    unfold re_y; rw [if_neg (by omega), if_pos (Or.inr ⟨h1, h2⟩)]
  have y4 : ∀ i, 572 ≤ i → re_y i = 0 := fun i h1 => by
    unfold re_y; rw [if_neg (by omega), if_neg (by omega)]
  have nu : ∀ x, ¬ xv_U re_z x := by
    intro x ⟨h1, h2⟩
    rw [z0 _ (by omega)] at h2
    exact absurd h2 (by decide)
  have nv : ∀ x, ¬ yv_U re_y x := by
    intro x ⟨h1, h2⟩
    rw [y1 _ (by omega) (by omega)] at h2
    exact absurd h2 (by decide)
  refine ⟨⟨?_, ?_, ?_, ?_, ?_, ?_⟩, ?_, ?_⟩
  · refine ⟨?_, ?_, ?_, ?_, ?_, ?_⟩
    · intro x hx; exact ⟨0, by omega, z0 x (by omega)⟩
    · intro c hc; rw [z0 _ (by omega), z0 _ (by omega), ma_ct_0]; rfl
    · intro c k hc hk; exact ⟨0, by omega, z0 _ (by omega)⟩
    · intro x hx; exact Or.inl (z0 _ (by omega))
    · intro c hc; exact Or.inr (z0 _ (by omega))
    · intro c hc; exact ⟨0, by omega, z0 _ (by omega)⟩
  · refine ⟨?_, ?_, ?_, ?_⟩
    · intro v hv; exact ⟨v, hv, y0 v hv⟩
    · intro v hv; exact Or.inr ⟨y1 _ (by omega) (by omega), y0 v hv, y1 _ (by omega) (by omega)⟩
    · intro u hu; exact Or.inl (y1 _ (by omega) (by omega))
    · intro u k hu hk; exact ⟨0, by omega, y1 _ (by omega) (by omega)⟩
  · intro x hx; rw [z0 _ (by omega), y1 _ (by omega) (by omega)]
  · intro x hx; exact absurd hx (nu x)
  · refine ⟨fun x hx => absurd hx (nu x), fun c hc => absurd (xv_T1 hc).1 (nu c), fun c hc => absurd (xv_T1 hc).1 (nu c), fun c hc => absurd (yv_T1 hc).1 (nv c), fun c hc => absurd (xv_T1 hc).1 (nu c), fun c hc => absurd (yv_T1 hc).1 (nv c)⟩
  · refine ⟨?_, ?_, ?_, ?_, ?_, ?_, ?_⟩
    · intro x hx; rw [z0 _ (by omega), y1 _ (by omega) (by omega)]; exact ⟨rfl, Or.inl rfl⟩
    · intro x hx; rw [z0 _ (by omega), y1 _ (by omega) (by omega)]; exact ⟨rfl, Or.inl rfl⟩
    · intro t ht
      rw [z0 (480 + t) (by omega), z0 (488 + t) (by omega), z0 (496 + t) (by omega), y1 (544 + t) (by omega) (by omega), y1 (528 + t) (by omega) (by omega), y1 (536 + t) (by omega) (by omega)]
      exact ⟨rfl, rfl, rfl, fun h => absurd h (by decide)⟩
    · intro k hk
      rw [z2 (504 + k) (by omega) (by omega), z2 (512 + k) (by omega) (by omega), y2 (552 + k) (by omega) (by omega)]
      exact ⟨rfl, Or.inl ⟨rfl, rfl⟩⟩
    · intro e he
      rw [z2 (520 + e) (by omega) (by omega), y3 (568 + e) (by omega) (by omega)]
      exact ⟨rfl, Or.inl rfl⟩
    · exact ⟨0, by omega, z1 _ (by omega), y4 _ (by omega)⟩
    · intro j hj; rw [z1 _ (by omega), y4 _ (by omega)]
  · intro t q ht h3 _ _
    rw [z0 _ (by omega)] at h3
    exact absurd h3 (by decide)
  · intro k x hk hx e
    rw [z2 _ (by omega) (by omega)] at e
    exact ((li_nn1 (by omega)).mp e.symm).elim
end
section
/-- the work of reckoning how deep: in round r, those below j are done -/
def dp_I (R : Nat → Prop) (S : Nat → Nat → Prop) (D : Nat → Nat) (r j : Nat) : Prop :=
  (∀ c, ma_pt R S (D c) c) ∧ ∀ c q, ma_pt R S q c → (q ≤ r ∨ (c < j ∧ q ≤ r + 1)) → q ≤ D c
theorem dp_0 {R : Nat → Prop} {S : Nat → Nat → Prop} : dp_I R S (fun _ => 0) 0 0 :=
  ⟨fun _ => True.intro, fun c q _ h => by omega⟩
theorem dp_no {R : Nat → Prop} {S : Nat → Nat → Prop} {D : Nat → Nat} {r j : Nat} (I : dp_I R S D r j) (h : ¬ R j) : dp_I R S D r (j + 1) := by
  refine ⟨I.1, fun c q p hq => ?_⟩
  by_cases e : c = j
  · cases q with
    | zero => omega
    | succ q =>
      rw [e] at p
      exact absurd p.1 h
  · exact I.2 c q p (by omega)
theorem dp_step {R : Nat → Prop} {S : Nat → Nat → Prop} {D D' : Nat → Nat} {r j m : Nat} (I : dp_I R S D r j) (hR : R j) (e : D' j = m + 1) (h1 : ∀ d, S j d → D d ≤ m) (h2 : m = 0 ∨ ∃ d, S j d ∧ D d = m) (ne : ∀ c, c ≠ j → D' c = D c) : dp_I R S D' r (j + 1) := by
  constructor
  · intro c
    by_cases q : c = j
    · rw [q, e]
      refine ⟨hR, ?_⟩
      rcases h2 with h2 | ⟨d, s, h2⟩
      · exact Or.inl h2
      · refine Or.inr ⟨d, s, ?_⟩
        rw [← h2]; exact I.1 d
    · rw [ne c q]; exact I.1 c
  · intro c q p hq
    by_cases z : c = j
    · rw [z, e]
      cases q with
      | zero => omega
      | succ q =>
        rw [z] at p
        rcases p.2 with p2 | ⟨d, s, p2⟩
        · omega
        · have := I.2 d q p2 (Or.inl (by omega))
          have := h1 d s
          omega
    · rw [ne c z]
      exact I.2 c q p (by omega)
theorem dp_next {R : Nat → Prop} {S : Nat → Nat → Prop} {D : Nat → Nat} {r N : Nat} (I : dp_I R S D r N) (h : ∀ c, R c → c < N) : dp_I R S D (r + 1) 0 := by
  refine ⟨I.1, fun c q p hq => ?_⟩
  cases q with
  | zero => omega
  | succ q => exact I.2 c (q + 1) p (Or.inr ⟨h c p.1, by omega⟩)
/-- the two sides' chains are the same -/
theorem ma_pt_map {U RX RY : Nat → Prop} {SX' SY' : Nat → Nat → Prop} {f : Nat → Nat} (hR : ∀ v, U v → (RY v ↔ RX (f v))) (hS : ∀ v d, U v → RY v → SY' v d → U d ∧ SX' (f v) (f d)) (hT : ∀ v e, U v → RY v → SX' (f v) e → ∃ d, U d ∧ SY' v d ∧ f d = e) : ∀ q v, U v → (ma_pt RY SY' q v ↔ ma_pt RX SX' q (f v)) := by
  intro q
  induction q with
  | zero => intro v _; exact ⟨fun _ => True.intro, fun _ => True.intro⟩
  | succ q ih =>
    intro v hv
    constructor
    · intro ⟨h1, h2⟩
      refine ⟨(hR v hv).mp h1, ?_⟩
      rcases h2 with h2 | ⟨d, s, h2⟩
      · exact Or.inl h2
      · obtain ⟨ud, sd⟩ := hS v d hv h1 s
        exact Or.inr ⟨f d, sd, (ih d ud).mp h2⟩
    · intro ⟨h1, h2⟩
      have h1' := (hR v hv).mpr h1
      refine ⟨h1', ?_⟩
      rcases h2 with h2 | ⟨e, s, h2⟩
      · exact Or.inl h2
      · obtain ⟨d, ud, sd, ed⟩ := hT v e hv h1' s
        exact Or.inr ⟨d, sd, (ih d ud).mpr (by rw [ed]; exact h2)⟩
end
section
/-- the component's row is good -/
def xv_G (a : Nat → Int32) : Prop :=
  xv_H a ∧ ma_W (xv_U a) (xv_L a) ∧ ∀ c, (xv_T a).1 c → ∀ k, k < ma_ct ((xv_T a).2.1 c).1 → xv_U a ((xv_T a).2.2 c k)
theorem re_G {B : Nat} {a s : Nat → Int32} (r : re_P B a s) : xv_G a := ⟨r.1, r.2.2.2.2.1.1, r.2.2.2.2.1.2.2.1⟩
theorem xv_congrG {a a' : Nat → Int32} (h : ∀ i, i < 384 → a' i = a i) (g : xv_G a) : xv_G a' := by
  obtain ⟨g1, g2, g3⟩ := g
  refine ⟨xv_congrH h g1, ?_, ?_⟩
  · rw [(xv_congr h).1, (xv_congr h).2.1]; exact g2
  · rw [(xv_congr h).1, xv_congrT h]; exact g3
theorem xv_Tv (a : Nat → Int32) : ∀ c, (xv_T a).1 c → xv_U a c ∧ xv_L a c = c := fun _ h => ⟨(xv_T1 h).1, (xv_T1 h).2.1⟩
theorem ma_Q1 (px py : Nat → Nat) : ma_Q px py 0 1 = ma_1 (px 0) (py 0) := by
  funext u v
  apply propext
  constructor
  · intro ⟨j, _, h2, h3, h4⟩
    have : j = 0 := by omega
    rw [this] at h3 h4
    exact ⟨h3, h4⟩
  · intro ⟨h1, h2⟩
    exact ⟨0, by omega, by omega, h1, h2⟩
theorem ma_Q2 (px py : Nat → Nat) (m : Nat) : ma_Q px py 0 m = ma_2 m px py := by
  funext u v
  apply propext
  constructor
  · intro ⟨j, _, h2, h3, h4⟩
    exact ⟨j, h2, h3, h4⟩
  · intro ⟨j, h2, h3, h4⟩
    exact ⟨j, by omega, h2, h3, h4⟩
theorem xm_0 {a : Nat → Int32} {px py : Nat → Nat} {m : Nat} (g : xv_G a) (hm : m ≤ 3) (hp : ∀ j, j < m → xv_U a (px j) ∧ xv_U a (py j)) : xm_I a (ma_Q px py 0 m) a px py 0 m 1 := by
  obtain ⟨g1, g2, g3⟩ := g
  refine ⟨g1, fun _ _ => rfl, ma_MI_0 g2 hp (fun c u l k0 k hk => g3 c ⟨u, l, k0⟩ k hk), ?_⟩
  have := ma_cnt_le (fun v => decide (xv_L a v = v)) 48
  omega
theorem lk_1 {a a' : Nat → Int32} {px py : Nat → Nat} {i m x y : Nat} (h : xm_I a (ma_1 x y) a' px py i m 1) (him : m ≤ i) : ma_vd (xv_U a) (xv_L a) (xv_T a) x y = 1 :=
  ma_vd_is1 (ma_vd_1 h.2.2.1 him)
theorem lk_3 {a a' : Nat → Int32} {px py : Nat → Nat} {i m x y : Nat} (h : xm_I a (ma_1 x y) a' px py i m 3) (him : m ≤ i) : ma_vd (xv_U a) (xv_L a) (xv_T a) x y = 3 :=
  ma_vd_is3 (ma_vd_3 h.2.2.1 him).1 (ma_vd_3 h.2.2.1 him).2
theorem lk_2 {a : Nat → Int32} {x y : Nat} (h : ma_No (xv_U a) (xv_L a) (xv_T a) (ma_1 x y)) : ma_vd (xv_U a) (xv_L a) (xv_T a) x y = 2 :=
  ma_vd_is2 (fun q => ma_al_nun (xv_Tv a) q h) h
/-- the verdict that stands in the work is 1 or 3 -/
theorem xm_vd {a0 : Nat → Int32} {Q0 : Nat → Nat → Prop} {a : Nat → Int32} {px py : Nat → Nat} {i m : Nat} {vd : Int32} (h : xm_I a0 Q0 a px py i m vd) : vd = 1 ∨ vd = 3 := by
  rcases h.2.2.1.2.2.2.2.2.2.2 with q | q
  · exact Or.inl q.1
  · exact Or.inr q.1
end
section
/-- what lies at a variable that is not told to be anything does not count -/
theorem un_P {B : Nat} {a s s' : Nat → Int32} {x : Nat} (r : re_P B a s) (x48 : x < 48) (k0 : s' (48 + x) = 0) (k1 : s (48 + x) = 0) (hp : ∀ k, k < 3 → ∃ q, q < 48 ∧ s' (240 + 3 * x + k) = nI q) (hs : ∀ i, i < 633 → i ≠ 48 + x → i ≠ 96 + x → i ≠ 144 + x → i ≠ 192 + x → (i < 240 + 3 * x ∨ 240 + 3 * x + 3 ≤ i) → s' i = s i) : re_P B a s' := by
  have yU := re_U r
  obtain ⟨h1, h2, h3, h4, h5, h6⟩ := r
  have low : ∀ v, v < 48 → s' v = s v := fun v hv => hs v (by omega) (by omega) (by omega) (by omega) (by omega) (by omega)
  have use : ∀ v, v < 48 → s' (384 + v) = s (384 + v) := fun v hv => hs _ (by omega) (by omega) (by omega) (by omega) (by omega) (by omega)
  have kd : ∀ v, v < 48 → s' (48 + v) = s (48 + v) := by
    intro v hv
    by_cases q : v = x
    · rw [q, k0, k1]
    · exact hs _ (by omega) (by omega) (by omega) (by omega) (by omega) (by omega)
  have t1 : ∀ c, (yv_T s').1 c ↔ (yv_T s).1 c := by
    intro c
    show ((c < 48 ∧ s' (384 + c) = 1) ∧ s' (48 + c) ≠ 0) ↔ ((c < 48 ∧ s (384 + c) = 1) ∧ s (48 + c) ≠ 0)
    by_cases q : c < 48
    · rw [use c q, kd c q]
    · exact ⟨fun w => absurd w.1.1 q, fun w => absurd w.1.1 q⟩
  have t2 : ∀ c, (yv_T s).1 c → (yv_T s').2.1 c = (yv_T s).2.1 c ∧ ∀ k, (yv_T s').2.2 c k = (yv_T s).2.2 c k := by
    intro c hc
    have c48 : c < 48 := (yv_T1 hc).1.1
    have q : c ≠ x := by
      intro e
      have := (yv_T1 hc).2
      rw [e] at this
      exact this k1
    constructor
    · show (if c < 48 then (yv_k s' c, s' (96 + c)) else (0, 0)) = (if c < 48 then (yv_k s c, s (96 + c)) else (0, 0))
      rw [if_pos c48, if_pos c48]
      unfold yv_k
      rw [hs (48 + c) (by omega) (by omega) (by omega) (by omega) (by omega) (by omega), hs (96 + c) (by omega) (by omega) (by omega) (by omega) (by omega) (by omega), hs (144 + c) (by omega) (by omega) (by omega) (by omega) (by omega) (by omega), hs (192 + c) (by omega) (by omega) (by omega) (by omega) (by omega) (by omega)]
    · intro k
      show yv_P s' c k = yv_P s c k
      unfold yv_P
      by_cases w : c < 48 ∧ k < 3
      · rw [if_pos w, if_pos w, hs (240 + 3 * c + k) (by omega) (by omega) (by omega) (by omega) (by omega) (by omega)]
      · rw [if_neg w, if_neg w]
  have f1 : ∀ c, (yv_T s').1 c → (yv_T s).1 c ∧ (yv_T s').2.1 c = (yv_T s).2.1 c ∧ ∀ k, (yv_T s').2.2 c k = (yv_T s).2.2 c k := fun c hc => ⟨(t1 c).mp hc, t2 c ((t1 c).mp hc)⟩
  have f2 : ∀ c, (yv_T s).1 c → (yv_T s').1 c ∧ (yv_T s').2.1 c = (yv_T s).2.1 c ∧ ∀ k, (yv_T s').2.2 c k = (yv_T s).2.2 c k := fun c hc => ⟨(t1 c).mpr hc, t2 c hc⟩
  refine ⟨h1, ?_, ?_, ?_, ?_, ?_⟩
  · obtain ⟨g1, g2, g3, g4⟩ := h2
    refine ⟨?_, ?_, ?_, ?_⟩
    · intro v hv; rw [low v hv]; exact g1 v hv
    · intro v hv; rw [low v hv, use v hv, kd v hv]; exact g2 v hv
    · intro v hv
      by_cases q : v = x
      · rw [q]; exact Or.inl k0
      · rw [hs (48 + v) (by omega) (by omega) (by omega) (by omega) (by omega) (by omega), hs (96 + v) (by omega) (by omega) (by omega) (by omega) (by omega) (by omega), hs (144 + v) (by omega) (by omega) (by omega) (by omega) (by omega) (by omega), hs (192 + v) (by omega) (by omega) (by omega) (by omega) (by omega) (by omega)]
        exact g3 v hv
    · intro v k hv hk
      by_cases q : v = x
      · rw [q]; exact hp k hk
      · rw [hs (240 + 3 * v + k) (by omega) (by omega) (by omega) (by omega) (by omega) (by omega)]; exact g4 v k hv hk
  · intro v hv; rw [use v hv]; exact h3 v hv
  · intro v hv; rw [low v hv.1]; exact h4 v hv
  · obtain ⟨w, x1, x2, y1, s1, s2⟩ := h5
    refine ⟨w, x1, x2, ?_, ma_Sub_eq (fun c hc => ⟨hc, rfl, fun _ => rfl⟩) f2 s1, ma_Sub_eq f1 (fun c hc => ⟨hc, rfl, fun _ => rfl⟩) s2⟩
    intro c hc
    obtain ⟨q1, q2, q3⟩ := f1 c hc
    refine ⟨(y1 c q1).1, fun k hk => ?_⟩
    rw [q2] at hk
    rw [q3 k]; exact (y1 c q1).2 k hk
  · exact re_N_congr (fun _ _ _ => rfl) (fun i q1 q2 => hs i q2 (by omega) (by omega) (by omega) (by omega) (by omega)) h6
/-- the outcome that leaves the classes as they are writes nothing new -/
theorem tf_same {B : Nat} {a s s1 s2 : Nat → Int32} (r : re_P B a s) (h : yc_I (xv_L a) ma_0 s s1) (o : ma_Ok (yv_U s) (xv_L a) (yv_T s) ma_0 (yv_I s1 633)) (h1 : ∀ v, v < 48 → s2 v = s1 (633 + v)) (h2 : ∀ i, 48 ≤ i → i < 633 → s2 i = s i) : re_P B a s2 := by
  have yU := re_U r
  have o1 := ma_R_Ok (K := xv_K a) (V := xv_V a) (P := xv_P a) r.2.2.2.2.1
  rw [yU] at o
  have one := ma_Ok_one o1 o
  refine re_P_congr (fun _ _ => rfl) (fun i hi => ?_) r
  by_cases q : i < 48
  · rw [h1 i q]
    by_cases u : xv_U a i
    · obtain ⟨e1, l1⟩ := yv_HI h.2.1 q
      rw [e1, ← one i u]
      exact (re_Ls r u).1.symm
    · rw [h.2.2.2.1 i q (by rw [yU]; exact u)]
      exact (re_un r i q u).symm
  · exact h2 i (by omega) hi
end
section
/-- the work of gathering: met ones m, the stack st, the done ones D with their places ix -/
def ga_I (a : Nat → Int32) (x : Nat) (m : Nat → Nat) (M : Nat) (st : Nat → Nat) (top i : Nat) (D : Nat → Prop) (ix : Nat → Nat) : Prop :=
  (∀ j, j < M → xv_U a (m j) ∧ xv_L a (m j) = m j) ∧ (∀ j j', j < j' → j' < M → ¬ ma_al (xv_U a) (xv_L a) (xv_T a) (m j) (m j')) ∧
  (∀ j, j < top → xv_U a (st j)) ∧ i + top ≤ 1 + 3 * M ∧
  (∀ c, D c → xv_U a c ∧ ix c < M ∧ ma_al (xv_U a) (xv_L a) (xv_T a) c (m (ix c)) ∧ ∀ j, j < ix c → ¬ ma_al (xv_U a) (xv_L a) (xv_T a) c (m j)) ∧
  (D (xv_L a x) ∨ ∃ j, j < top ∧ xv_L a (st j) = xv_L a x) ∧
  (∀ j, j < M → ∀ k, k < ma_ct (xv_K a (m j)) → D (xv_L a (xv_P a (m j) k)) ∨ ∃ j', j' < top ∧ xv_L a (st j') = xv_L a (xv_P a (m j) k)) ∧
  ((M = 0 ∧ top = 1 ∧ xv_L a (st 0) = xv_L a x) ∨ (0 < M ∧ m 0 = xv_L a x))
theorem ga_0 {a : Nat → Int32} {x : Nat} {m st ix : Nat → Nat} (ux : xv_U a x) (h : st 0 = x) : ga_I a x m 0 st 1 0 (fun _ => False) ix := by
  refine ⟨fun j hj => by omega, fun j j' _ h => by omega, ?_, by omega, fun c h => h.elim, Or.inr ⟨0, by omega, by rw [h]⟩, fun j hj => by omega, Or.inl ⟨rfl, rfl, by rw [h]⟩⟩
  intro j hj
  have : j = 0 := by omega
  rw [this, h]; exact ux
/-- there is room for one more -/
theorem ga_M {a : Nat → Int32} {x : Nat} {m : Nat → Nat} {M : Nat} {st : Nat → Nat} {top i : Nat} {D : Nat → Prop} {ix : Nat → Nat} (g : xv_G a) (h : ga_I a x m M st top i D ix) : M ≤ 48 := by
  obtain ⟨h1, h2, _⟩ := h
  refine ma_php 48 M m (fun j hj => (h1 j hj).1.1) (fun j j' hj hj' e => h2 j j' hj hj' ?_)
  rw [e]
  obtain ⟨u, l⟩ := h1 j' hj'
  exact ma_al_rf g.2.1 u u rfl
theorem ga_old {a : Nat → Int32} {x : Nat} {m : Nat → Nat} {M : Nat} {st : Nat → Nat} {top i : Nat} {D : Nat → Prop} {ix : Nat → Nat} {m0 : Nat} {ix' : Nat → Nat} (g : xv_G a) (h : ga_I a x m M st (top + 1) i D ix) (hm : m0 < M) (hal : ma_al (xv_U a) (xv_L a) (xv_T a) (xv_L a (st top)) (m m0)) (hn : ∀ j, j < m0 → ¬ ma_al (xv_U a) (xv_L a) (xv_T a) (xv_L a (st top)) (m j)) (e1 : ix' (xv_L a (st top)) = m0) (e2 : ∀ c, c ≠ xv_L a (st top) → ix' c = ix c) : ga_I a x m M st top (i + 1) (fun c => D c ∨ c = xv_L a (st top)) ix' := by
  obtain ⟨h1, h2, h3, h4, h5, h6, h7, h8⟩ := h
  have ut := h3 top (by omega)
  refine ⟨h1, h2, fun j hj => h3 j (by omega), by omega, ?_, ?_, ?_, ?_⟩
  · intro c hc
    by_cases q : c = xv_L a (st top)
    · rw [q, e1]; exact ⟨(g.2.1 _ ut).2.1, hm, hal, hn⟩
    · rw [e2 c q]
      rcases hc with hc | hc
      · exact h5 c hc
      · exact absurd hc q
  · rcases h6 with q | ⟨j, hj, q⟩
    · exact Or.inl (Or.inl q)
    · by_cases z : j = top
      · rw [z] at q; exact Or.inl (Or.inr q.symm)
      · exact Or.inr ⟨j, by omega, q⟩
  · intro j hj k hk
    rcases h7 j hj k hk with q | ⟨j', hj', q⟩
    · exact Or.inl (Or.inl q)
    · by_cases z : j' = top
      · rw [z] at q; exact Or.inl (Or.inr q.symm)
      · exact Or.inr ⟨j', by omega, q⟩
  · rcases h8 with ⟨q, _⟩ | q
    · omega
    · exact Or.inr q
theorem ga_new {a : Nat → Int32} {x : Nat} {m : Nat → Nat} {M : Nat} {st st' : Nat → Nat} {top i : Nat} {D : Nat → Prop} {ix ix' m' : Nat → Nat} (g : xv_G a) (h : ga_I a x m M st (top + 1) i D ix) (hn : ∀ j, j < M → ¬ ma_al (xv_U a) (xv_L a) (xv_T a) (xv_L a (st top)) (m j)) (e1 : ix' (xv_L a (st top)) = M) (e2 : ∀ c, c ≠ xv_L a (st top) → ix' c = ix c) (f1 : m' M = xv_L a (st top)) (f2 : ∀ j, j < M → m' j = m j) (s1 : ∀ j, j < top → st' j = st j) (s2 : ∀ k, k < ma_ct (xv_K a (xv_L a (st top))) → xv_L a (st' (top + (ma_ct (xv_K a (xv_L a (st top))) - 1 - k))) = xv_L a (xv_P a (xv_L a (st top)) k) ∧ xv_U a (st' (top + (ma_ct (xv_K a (xv_L a (st top))) - 1 - k)))) : ga_I a x m' (M + 1) st' (top + ma_ct (xv_K a (xv_L a (st top)))) (i + 1) (fun c => D c ∨ c = xv_L a (st top)) ix' := by
  obtain ⟨h1, h2, h3, h4, h5, h6, h7, h8⟩ := h
  have ut := h3 top (by omega)
  have wt := g.2.1 _ ut
  have c3 := ma_ct_le (xv_K a (xv_L a (st top)))
  refine ⟨?_, ?_, ?_, by omega, ?_, ?_, ?_, ?_⟩
  · intro j hj
    by_cases q : j = M
    · rw [q, f1]; exact ⟨wt.2.1, wt.2.2.1⟩
    · rw [f2 j (by omega)]; exact h1 j (by omega)
  · intro j j' hj hj'
    rw [f2 j (by omega)]
    by_cases q : j' = M
    · rw [q, f1]
      exact fun z => hn j (by omega) (ma_al_sym z)
    · rw [f2 j' (by omega)]; exact h2 j j' hj (by omega)
  · intro j hj
    by_cases q : j < top
    · rw [s1 j q]; exact h3 j (by omega)
    · have := (s2 (ma_ct (xv_K a (xv_L a (st top))) - 1 - (j - top)) (by omega)).2
      rw [show top + (ma_ct (xv_K a (xv_L a (st top))) - 1 - (ma_ct (xv_K a (xv_L a (st top))) - 1 - (j - top))) = j from by omega] at this
      exact this
  · intro c hc
    by_cases q : c = xv_L a (st top)
    · rw [q, e1, f1]
      refine ⟨wt.2.1, by omega, ?_, fun j hj => by rw [f2 j hj]; exact hn j hj⟩
      exact ma_al_rf g.2.1 wt.2.1 wt.2.1 rfl
    · rw [e2 c q]
      rcases hc with hc | hc
      · obtain ⟨q1, q2, q3, q4⟩ := h5 c hc
        rw [f2 _ q2]
        exact ⟨q1, by omega, q3, fun j hj => by rw [f2 j (by omega)]; exact q4 j hj⟩
      · exact absurd hc q
  · rcases h6 with q | ⟨j, hj, q⟩
    · exact Or.inl (Or.inl q)
    · by_cases z : j = top
      · rw [z] at q; exact Or.inl (Or.inr q.symm)
      · exact Or.inr ⟨j, by omega, by rw [s1 j (by omega)]; exact q⟩
  · intro j hj k hk
    by_cases z : j = M
    · rw [z, f1] at hk
      rw [z, f1]
      obtain ⟨p1, p2⟩ := s2 k hk
      exact Or.inr ⟨_, by omega, p1⟩
    · rw [f2 j (by omega)] at hk
      rw [f2 j (by omega)]
      rcases h7 j (by omega) k hk with q | ⟨j', hj', q⟩
      · exact Or.inl (Or.inl q)
      · by_cases y : j' = top
        · rw [y] at q; exact Or.inl (Or.inr q.symm)
        · exact Or.inr ⟨j', by omega, by rw [s1 j' (by omega)]; exact q⟩
  · refine Or.inr ⟨by omega, ?_⟩
    rcases h8 with ⟨q1, q2, q3⟩ | ⟨q1, q2⟩
    · have : top = 0 := by omega
      rw [this] at f1
      rw [q1] at f1
      rw [f1]; exact q3
    · rw [f2 0 q1]; exact q2
end
section
theorem xw_leastUnused_2 {f_trials f_drafted f_pairs f_metCount f_meetingCount : Int32} {a_held a_saved a_draft a_toldBefore a_pairX a_pairY a_stack a_met a_metAs a_copies a_meetings a_wasMeeting a_firstMet a_depths a_isKept : Nat → Int32} (h : xv_H a_held) : ∀ d j, j + d = 48 → (∀ i, i < j → xv_U a_held i) → ∃ r : Int32, ((r = -1 ∧ ∀ i, i < 48 → xv_U a_held i) ∨ (∃ z, z < 48 ∧ r = nI z ∧ ¬ xv_U a_held z ∧ ∀ i, i < z → xv_U a_held i)) ∧ ∀ post : Int32 → Prop, post r → wX_leastUnused_2 post f_trials f_drafted f_pairs f_metCount f_meetingCount a_held a_saved a_draft a_toldBefore a_pairX a_pairY a_stack a_met a_metAs a_copies a_meetings a_wasMeeting a_firstMet a_depths a_isKept (d + 1) (nI j) := by
  intro d
  induction d with
  | zero =>
    intro j hj hu
    refine ⟨-1, Or.inl ⟨rfl, fun i hi => hu i (by omega)⟩, fun post hp => ?_⟩
    unfold wX_leastUnused_2
    simp (disch := omega) only [forall_eq, true_and, and_true, Nat.zero_add, nI_clamp, li_vin, nI_add, nI_eq, nI_leI, nI_ltI, li_0le, li_lt0, li_nn1, li_e0, not_true_eq_false, not_false_eq_true, false_implies, true_implies, forall_const, li_a0, li_b0, li_a1, li_b1, li_a2, li_b2, li_a3, li_b3, li_a7, li_b7, li_a8, li_b8, li_a16, li_b16, li_a48, li_b48, li_a584, li_b584, li_a572, li_b572, li_a96, li_b96, li_a144, li_b144, li_a192, li_b192, li_a240, li_b240, li_a336, li_b336, li_a384, li_b384, li_a432, li_b432, li_a480, li_b480, li_a488, li_b488, li_a496, li_b496, li_a504, li_b504, li_a512, li_b512, li_a520, li_b520, li_a524, li_b524, li_a528, li_b528, li_a536, li_b536, li_a544, li_b544, li_a552, li_b552, li_a560, li_b560, li_a568, li_b568, li_a573, li_b573, li_a585, li_b585, li_a633, li_b633, li_m3, li_n3, li_m4, li_n4, li_m48, li_n48, li_m50, li_n50, li_m585, li_n585, li_m633, li_n633, li_lt2, li_ge2, li_le2, li_gt2, li_lt1, li_ge1, li_le1, li_gt1, li_lt3, li_ge3, li_le3, li_gt3, li_lt4, li_ge4, li_le4, li_gt4, li_lt7, li_ge7, li_le7, li_gt7, li_lt8, li_ge8, li_le8, li_gt8, li_lt40, li_ge40, li_le40, li_gt40, li_lt240, li_ge240, li_le240, li_gt240, li_lt41, li_ge41, li_le41, li_gt41, li_lt48, li_ge48, li_le48, li_gt48, li_lt49, li_ge49, li_le49, li_gt49, li_lt60, li_ge60, li_le60, li_gt60, li_lt144, li_ge144, li_le144, li_gt144, li_lt145, li_ge145, li_le145, li_gt145, li_lt160, li_ge160, li_le160, li_gt160, li_lt336, li_ge336, li_le336, li_gt336, li_lt585, li_ge585, li_le585, li_gt585, li_lt633, li_ge633, li_le633, li_gt633, li_lt1000000, li_ge1000000, li_le1000000, li_gt1000000, li_lt2304, li_ge2304, li_le2304, li_gt2304, li_lt50, li_ge50, li_le50, li_gt50, li_le0, li_gt0]
    exact ⟨fun _ => hp, fun q => by omega⟩
  | succ d ih =>
    intro j hj hu
    rcases h.2.2.2.1 j (by omega) with q | q
    · refine ⟨nI j, Or.inr ⟨j, by omega, rfl, fun u => ?_, hu⟩, fun post hp => ?_⟩
      · have := u.2
        rw [q] at this
        exact absurd this (by decide)
      · unfold wX_leastUnused_2
        simp (disch := omega) only [forall_eq, true_and, and_true, Nat.zero_add, nI_clamp, li_vin, nI_add, nI_eq, nI_leI, nI_ltI, li_0le, li_lt0, li_nn1, li_e0, not_true_eq_false, not_false_eq_true, false_implies, true_implies, forall_const, li_a0, li_b0, li_a1, li_b1, li_a2, li_b2, li_a3, li_b3, li_a7, li_b7, li_a8, li_b8, li_a16, li_b16, li_a48, li_b48, li_a584, li_b584, li_a572, li_b572, li_a96, li_b96, li_a144, li_b144, li_a192, li_b192, li_a240, li_b240, li_a336, li_b336, li_a384, li_b384, li_a432, li_b432, li_a480, li_b480, li_a488, li_b488, li_a496, li_b496, li_a504, li_b504, li_a512, li_b512, li_a520, li_b520, li_a524, li_b524, li_a528, li_b528, li_a536, li_b536, li_a544, li_b544, li_a552, li_b552, li_a560, li_b560, li_a568, li_b568, li_a573, li_b573, li_a585, li_b585, li_a633, li_b633, li_m3, li_n3, li_m4, li_n4, li_m48, li_n48, li_m50, li_n50, li_m585, li_n585, li_m633, li_n633, li_lt2, li_ge2, li_le2, li_gt2, li_lt1, li_ge1, li_le1, li_gt1, li_lt3, li_ge3, li_le3, li_gt3, li_lt4, li_ge4, li_le4, li_gt4, li_lt7, li_ge7, li_le7, li_gt7, li_lt8, li_ge8, li_le8, li_gt8, li_lt40, li_ge40, li_le40, li_gt40, li_lt240, li_ge240, li_le240, li_gt240, li_lt41, li_ge41, li_le41, li_gt41, li_lt48, li_ge48, li_le48, li_gt48, li_lt49, li_ge49, li_le49, li_gt49, li_lt60, li_ge60, li_le60, li_gt60, li_lt144, li_ge144, li_le144, li_gt144, li_lt145, li_ge145, li_le145, li_gt145, li_lt160, li_ge160, li_le160, li_gt160, li_lt336, li_ge336, li_le336, li_gt336, li_lt585, li_ge585, li_le585, li_gt585, li_lt633, li_ge633, li_le633, li_gt633, li_lt1000000, li_ge1000000, li_le1000000, li_gt1000000, li_lt2304, li_ge2304, li_le2304, li_gt2304, li_lt50, li_ge50, li_le50, li_gt50, li_le0, li_gt0, q]
        exact ⟨fun q => by omega, fun _ => hp⟩
    · obtain ⟨r, h1, h2⟩ := ih (j + 1) (by omega) (lt_s hu ⟨by omega, q⟩)
      refine ⟨r, h1, fun post hp => ?_⟩
      unfold wX_leastUnused_2
      simp (disch := omega) only [forall_eq, true_and, and_true, Nat.zero_add, nI_clamp, li_vin, nI_add, nI_eq, nI_leI, nI_ltI, li_0le, li_lt0, li_nn1, li_e0, not_true_eq_false, not_false_eq_true, false_implies, true_implies, forall_const, li_a0, li_b0, li_a1, li_b1, li_a2, li_b2, li_a3, li_b3, li_a7, li_b7, li_a8, li_b8, li_a16, li_b16, li_a48, li_b48, li_a584, li_b584, li_a572, li_b572, li_a96, li_b96, li_a144, li_b144, li_a192, li_b192, li_a240, li_b240, li_a336, li_b336, li_a384, li_b384, li_a432, li_b432, li_a480, li_b480, li_a488, li_b488, li_a496, li_b496, li_a504, li_b504, li_a512, li_b512, li_a520, li_b520, li_a524, li_b524, li_a528, li_b528, li_a536, li_b536, li_a544, li_b544, li_a552, li_b552, li_a560, li_b560, li_a568, li_b568, li_a573, li_b573, li_a585, li_b585, li_a633, li_b633, li_m3, li_n3, li_m4, li_n4, li_m48, li_n48, li_m50, li_n50, li_m585, li_n585, li_m633, li_n633, li_lt2, li_ge2, li_le2, li_gt2, li_lt1, li_ge1, li_le1, li_gt1, li_lt3, li_ge3, li_le3, li_gt3, li_lt4, li_ge4, li_le4, li_gt4, li_lt7, li_ge7, li_le7, li_gt7, li_lt8, li_ge8, li_le8, li_gt8, li_lt40, li_ge40, li_le40, li_gt40, li_lt240, li_ge240, li_le240, li_gt240, li_lt41, li_ge41, li_le41, li_gt41, li_lt48, li_ge48, li_le48, li_gt48, li_lt49, li_ge49, li_le49, li_gt49, li_lt60, li_ge60, li_le60, li_gt60, li_lt144, li_ge144, li_le144, li_gt144, li_lt145, li_ge145, li_le145, li_gt145, li_lt160, li_ge160, li_le160, li_gt160, li_lt336, li_ge336, li_le336, li_gt336, li_lt585, li_ge585, li_le585, li_gt585, li_lt633, li_ge633, li_le633, li_gt633, li_lt1000000, li_ge1000000, li_le1000000, li_gt1000000, li_lt2304, li_ge2304, li_le2304, li_gt2304, li_lt50, li_ge50, li_le50, li_gt50, li_le0, li_gt0, q]
      exact ⟨fun q => by omega, fun _ => ⟨fun z => absurd z (by decide), fun _ => h2 post hp⟩⟩
theorem xw_leastUnused {f_trials f_drafted f_pairs f_metCount f_meetingCount : Int32} {a_held a_saved a_draft a_toldBefore a_pairX a_pairY a_stack a_met a_metAs a_copies a_meetings a_wasMeeting a_firstMet a_depths a_isKept : Nat → Int32} (h : xv_H a_held) : ∃ r : Int32, ((r = -1 ∧ ∀ i, i < 48 → xv_U a_held i) ∨ (∃ z, z < 48 ∧ r = nI z ∧ ¬ xv_U a_held z ∧ ∀ i, i < z → xv_U a_held i)) ∧ ∀ post : Int32 → Prop, post r → wpX_leastUnused post (f_trials, f_drafted, f_pairs, f_metCount, f_meetingCount, a_held, a_saved, a_draft, a_toldBefore, a_pairX, a_pairY, a_stack, a_met, a_metAs, a_copies, a_meetings, a_wasMeeting, a_firstMet, a_depths, a_isKept) := by
  obtain ⟨r, h1, h2⟩ := xw_leastUnused_2 (f_trials := f_trials) (f_drafted := f_drafted) (f_pairs := f_pairs) (f_metCount := f_metCount) (f_meetingCount := f_meetingCount) (a_held := a_held) (a_saved := a_saved) (a_draft := a_draft) (a_toldBefore := a_toldBefore) (a_pairX := a_pairX) (a_pairY := a_pairY) (a_stack := a_stack) (a_met := a_met) (a_metAs := a_metAs) (a_copies := a_copies) (a_meetings := a_meetings) (a_wasMeeting := a_wasMeeting) (a_firstMet := a_firstMet) (a_depths := a_depths) (a_isKept := a_isKept) h 48 0 rfl (fun i hi => by omega)
  exact ⟨r, h1, fun post hp => ⟨_, h2 post hp⟩⟩
theorem xw_take {f_trials f_drafted f_pairs f_metCount f_meetingCount : Int32} {a_held a_saved a_draft a_toldBefore a_pairX a_pairY a_stack a_met a_metAs a_copies a_meetings a_wasMeeting a_firstMet a_depths a_isKept : Nat → Int32} {z : Nat} (hz : z < 48) : ∃ a' : Nat → Int32, tk_X a_held a' z ∧ ∀ post : SX → Prop, post (f_trials, f_drafted, f_pairs, f_metCount, f_meetingCount, a', a_saved, a_draft, a_toldBefore, a_pairX, a_pairY, a_stack, a_met, a_metAs, a_copies, a_meetings, a_wasMeeting, a_firstMet, a_depths, a_isKept) → wpX_take post (f_trials, f_drafted, f_pairs, f_metCount, f_meetingCount, a_held, a_saved, a_draft, a_toldBefore, a_pairX, a_pairY, a_stack, a_met, a_metAs, a_copies, a_meetings, a_wasMeeting, a_firstMet, a_depths, a_isKept) (nI z) := by
  refine ⟨upd (upd (upd (upd (upd a_held (336 + z) 1) z (nI z)) (48 + z) 0) (96 + z) 0) (144 + z) 0, ?_, fun post hp => ?_⟩
  · refine ⟨?_, ?_, ?_, ?_, ?_, ?_⟩
    · simp (disch := omega) only [pk_un, pk_us]
    · simp (disch := omega) only [pk_un, pk_us]
    · simp (disch := omega) only [pk_un, pk_us]
    · simp (disch := omega) only [pk_un, pk_us]
    · simp (disch := omega) only [pk_un, pk_us]
    · intro i h1 h2 h3 h4 h5
      simp (disch := assumption) only [pk_un]
  · unfold wpX_take
    simp (disch := omega) only [forall_eq, true_and, and_true, Nat.zero_add, nI_clamp, li_vin, nI_add, nI_eq, nI_leI, nI_ltI, li_0le, li_lt0, li_nn1, li_e0, not_true_eq_false, not_false_eq_true, false_implies, true_implies, forall_const, li_a0, li_b0, li_a1, li_b1, li_a2, li_b2, li_a3, li_b3, li_a7, li_b7, li_a8, li_b8, li_a16, li_b16, li_a48, li_b48, li_a584, li_b584, li_a572, li_b572, li_a96, li_b96, li_a144, li_b144, li_a192, li_b192, li_a240, li_b240, li_a336, li_b336, li_a384, li_b384, li_a432, li_b432, li_a480, li_b480, li_a488, li_b488, li_a496, li_b496, li_a504, li_b504, li_a512, li_b512, li_a520, li_b520, li_a524, li_b524, li_a528, li_b528, li_a536, li_b536, li_a544, li_b544, li_a552, li_b552, li_a560, li_b560, li_a568, li_b568, li_a573, li_b573, li_a585, li_b585, li_a633, li_b633, li_m3, li_n3, li_m4, li_n4, li_m48, li_n48, li_m50, li_n50, li_m585, li_n585, li_m633, li_n633, li_lt2, li_ge2, li_le2, li_gt2, li_lt1, li_ge1, li_le1, li_gt1, li_lt3, li_ge3, li_le3, li_gt3, li_lt4, li_ge4, li_le4, li_gt4, li_lt7, li_ge7, li_le7, li_gt7, li_lt8, li_ge8, li_le8, li_gt8, li_lt40, li_ge40, li_le40, li_gt40, li_lt240, li_ge240, li_le240, li_gt240, li_lt41, li_ge41, li_le41, li_gt41, li_lt48, li_ge48, li_le48, li_gt48, li_lt49, li_ge49, li_le49, li_gt49, li_lt60, li_ge60, li_le60, li_gt60, li_lt144, li_ge144, li_le144, li_gt144, li_lt145, li_ge145, li_le145, li_gt145, li_lt160, li_ge160, li_le160, li_gt160, li_lt336, li_ge336, li_le336, li_gt336, li_lt585, li_ge585, li_le585, li_gt585, li_lt633, li_ge633, li_le633, li_gt633, li_lt1000000, li_ge1000000, li_le1000000, li_gt1000000, li_lt2304, li_ge2304, li_le2304, li_gt2304, li_lt50, li_ge50, li_le50, li_gt50, li_le0, li_gt0]
    exact hp
theorem xw_release {f_trials f_drafted f_pairs f_metCount f_meetingCount : Int32} {a_held a_saved a_draft a_toldBefore a_pairX a_pairY a_stack a_met a_metAs a_copies a_meetings a_wasMeeting a_firstMet a_depths a_isKept : Nat → Int32} {z : Nat} (hz : z < 48) : ∀ post : SX → Prop, post (f_trials, f_drafted, f_pairs, f_metCount, f_meetingCount, upd (upd a_held (336 + z) 0) (384 + z) 0, a_saved, a_draft, a_toldBefore, a_pairX, a_pairY, a_stack, a_met, a_metAs, a_copies, a_meetings, a_wasMeeting, a_firstMet, a_depths, a_isKept) → wpX_release post (f_trials, f_drafted, f_pairs, f_metCount, f_meetingCount, a_held, a_saved, a_draft, a_toldBefore, a_pairX, a_pairY, a_stack, a_met, a_metAs, a_copies, a_meetings, a_wasMeeting, a_firstMet, a_depths, a_isKept) (nI z) := by
  intro post hp
  unfold wpX_release
  simp (disch := omega) only [forall_eq, true_and, and_true, Nat.zero_add, nI_clamp, li_vin, nI_add, nI_eq, nI_leI, nI_ltI, li_0le, li_lt0, li_nn1, li_e0, not_true_eq_false, not_false_eq_true, false_implies, true_implies, forall_const, li_a0, li_b0, li_a1, li_b1, li_a2, li_b2, li_a3, li_b3, li_a7, li_b7, li_a8, li_b8, li_a16, li_b16, li_a48, li_b48, li_a584, li_b584, li_a572, li_b572, li_a96, li_b96, li_a144, li_b144, li_a192, li_b192, li_a240, li_b240, li_a336, li_b336, li_a384, li_b384, li_a432, li_b432, li_a480, li_b480, li_a488, li_b488, li_a496, li_b496, li_a504, li_b504, li_a512, li_b512, li_a520, li_b520, li_a524, li_b524, li_a528, li_b528, li_a536, li_b536, li_a544, li_b544, li_a552, li_b552, li_a560, li_b560, li_a568, li_b568, li_a573, li_b573, li_a585, li_b585, li_a633, li_b633, li_m3, li_n3, li_m4, li_n4, li_m48, li_n48, li_m50, li_n50, li_m585, li_n585, li_m633, li_n633, li_lt2, li_ge2, li_le2, li_gt2, li_lt1, li_ge1, li_le1, li_gt1, li_lt3, li_ge3, li_le3, li_gt3, li_lt4, li_ge4, li_le4, li_gt4, li_lt7, li_ge7, li_le7, li_gt7, li_lt8, li_ge8, li_le8, li_gt8, li_lt40, li_ge40, li_le40, li_gt40, li_lt240, li_ge240, li_le240, li_gt240, li_lt41, li_ge41, li_le41, li_gt41, li_lt48, li_ge48, li_le48, li_gt48, li_lt49, li_ge49, li_le49, li_gt49, li_lt60, li_ge60, li_le60, li_gt60, li_lt144, li_ge144, li_le144, li_gt144, li_lt145, li_ge145, li_le145, li_gt145, li_lt160, li_ge160, li_le160, li_gt160, li_lt336, li_ge336, li_le336, li_gt336, li_lt585, li_ge585, li_le585, li_gt585, li_lt633, li_ge633, li_le633, li_gt633, li_lt1000000, li_ge1000000, li_le1000000, li_gt1000000, li_lt2304, li_ge2304, li_le2304, li_gt2304, li_lt50, li_ge50, li_le50, li_gt50, li_le0, li_gt0]
  exact hp
theorem xw_inUse_t {f_trials f_drafted f_pairs f_metCount f_meetingCount : Int32} {a_held a_saved a_draft a_toldBefore a_pairX a_pairY a_stack a_met a_metAs a_copies a_meetings a_wasMeeting a_firstMet a_depths a_isKept : Nat → Int32} {x : Nat} (hx : xv_U a_held x) : ∀ post : Int32 → Prop, post 1 → wpX_inUse post (f_trials, f_drafted, f_pairs, f_metCount, f_meetingCount, a_held, a_saved, a_draft, a_toldBefore, a_pairX, a_pairY, a_stack, a_met, a_metAs, a_copies, a_meetings, a_wasMeeting, a_firstMet, a_depths, a_isKept) (nI x) := by
  intro post hp
  obtain ⟨h1, h2⟩ := hx
  unfold wpX_inUse
  simp (disch := omega) only [forall_eq, true_and, and_true, Nat.zero_add, nI_clamp, li_vin, nI_add, nI_eq, nI_leI, nI_ltI, li_0le, li_lt0, li_nn1, li_e0, not_true_eq_false, not_false_eq_true, false_implies, true_implies, forall_const, li_a0, li_b0, li_a1, li_b1, li_a2, li_b2, li_a3, li_b3, li_a7, li_b7, li_a8, li_b8, li_a16, li_b16, li_a48, li_b48, li_a584, li_b584, li_a572, li_b572, li_a96, li_b96, li_a144, li_b144, li_a192, li_b192, li_a240, li_b240, li_a336, li_b336, li_a384, li_b384, li_a432, li_b432, li_a480, li_b480, li_a488, li_b488, li_a496, li_b496, li_a504, li_b504, li_a512, li_b512, li_a520, li_b520, li_a524, li_b524, li_a528, li_b528, li_a536, li_b536, li_a544, li_b544, li_a552, li_b552, li_a560, li_b560, li_a568, li_b568, li_a573, li_b573, li_a585, li_b585, li_a633, li_b633, li_m3, li_n3, li_m4, li_n4, li_m48, li_n48, li_m50, li_n50, li_m585, li_n585, li_m633, li_n633, li_lt2, li_ge2, li_le2, li_gt2, li_lt1, li_ge1, li_le1, li_gt1, li_lt3, li_ge3, li_le3, li_gt3, li_lt4, li_ge4, li_le4, li_gt4, li_lt7, li_ge7, li_le7, li_gt7, li_lt8, li_ge8, li_le8, li_gt8, li_lt40, li_ge40, li_le40, li_gt40, li_lt240, li_ge240, li_le240, li_gt240, li_lt41, li_ge41, li_le41, li_gt41, li_lt48, li_ge48, li_le48, li_gt48, li_lt49, li_ge49, li_le49, li_gt49, li_lt60, li_ge60, li_le60, li_gt60, li_lt144, li_ge144, li_le144, li_gt144, li_lt145, li_ge145, li_le145, li_gt145, li_lt160, li_ge160, li_le160, li_gt160, li_lt336, li_ge336, li_le336, li_gt336, li_lt585, li_ge585, li_le585, li_gt585, li_lt633, li_ge633, li_le633, li_gt633, li_lt1000000, li_ge1000000, li_le1000000, li_gt1000000, li_lt2304, li_ge2304, li_le2304, li_gt2304, li_lt50, li_ge50, li_le50, li_gt50, li_le0, li_gt0, h2]
  exact ⟨fun q => by omega, fun _ => hp⟩
theorem xw_inUse_f {f_trials f_drafted f_pairs f_metCount f_meetingCount : Int32} {a_held a_saved a_draft a_toldBefore a_pairX a_pairY a_stack a_met a_metAs a_copies a_meetings a_wasMeeting a_firstMet a_depths a_isKept : Nat → Int32} {v : Int32} (hx : ¬ ∃ x, xv_U a_held x ∧ v = nI x) : ∀ post : Int32 → Prop, post 0 → wpX_inUse post (f_trials, f_drafted, f_pairs, f_metCount, f_meetingCount, a_held, a_saved, a_draft, a_toldBefore, a_pairX, a_pairY, a_stack, a_met, a_metAs, a_copies, a_meetings, a_wasMeeting, a_firstMet, a_depths, a_isKept) v := by
  intro post hp
  unfold wpX_inUse
  refine br_c (fun _ => hp) (fun h0 => ?_)
  obtain ⟨x, hx2, rfl⟩ := nI_of h0
  by_cases q : x < 48
  · simp (disch := omega) only [forall_eq, true_and, and_true, Nat.zero_add, nI_clamp, li_vin, nI_add, nI_eq, nI_leI, nI_ltI, li_0le, li_lt0, li_nn1, li_e0, not_true_eq_false, not_false_eq_true, false_implies, true_implies, forall_const, li_a0, li_b0, li_a1, li_b1, li_a2, li_b2, li_a3, li_b3, li_a7, li_b7, li_a8, li_b8, li_a16, li_b16, li_a48, li_b48, li_a584, li_b584, li_a572, li_b572, li_a96, li_b96, li_a144, li_b144, li_a192, li_b192, li_a240, li_b240, li_a336, li_b336, li_a384, li_b384, li_a432, li_b432, li_a480, li_b480, li_a488, li_b488, li_a496, li_b496, li_a504, li_b504, li_a512, li_b512, li_a520, li_b520, li_a524, li_b524, li_a528, li_b528, li_a536, li_b536, li_a544, li_b544, li_a552, li_b552, li_a560, li_b560, li_a568, li_b568, li_a573, li_b573, li_a585, li_b585, li_a633, li_b633, li_m3, li_n3, li_m4, li_n4, li_m48, li_n48, li_m50, li_n50, li_m585, li_n585, li_m633, li_n633, li_lt2, li_ge2, li_le2, li_gt2, li_lt1, li_ge1, li_le1, li_gt1, li_lt3, li_ge3, li_le3, li_gt3, li_lt4, li_ge4, li_le4, li_gt4, li_lt7, li_ge7, li_le7, li_gt7, li_lt8, li_ge8, li_le8, li_gt8, li_lt40, li_ge40, li_le40, li_gt40, li_lt240, li_ge240, li_le240, li_gt240, li_lt41, li_ge41, li_le41, li_gt41, li_lt48, li_ge48, li_le48, li_gt48, li_lt49, li_ge49, li_le49, li_gt49, li_lt60, li_ge60, li_le60, li_gt60, li_lt144, li_ge144, li_le144, li_gt144, li_lt145, li_ge145, li_le145, li_gt145, li_lt160, li_ge160, li_le160, li_gt160, li_lt336, li_ge336, li_le336, li_gt336, li_lt585, li_ge585, li_le585, li_gt585, li_lt633, li_ge633, li_le633, li_gt633, li_lt1000000, li_ge1000000, li_le1000000, li_gt1000000, li_lt2304, li_ge2304, li_le2304, li_gt2304, li_lt50, li_ge50, li_le50, li_gt50, li_le0, li_gt0]
    exact ⟨fun _ => hp, fun _ => br_f (fun e => hx ⟨x, ⟨q, e⟩, rfl⟩) hp⟩
  · exact br_t ((li_ge48 (by omega)).mpr (by omega)) hp
theorem xw_isFree {f_trials f_drafted f_pairs f_metCount f_meetingCount : Int32} {a_held a_saved a_draft a_toldBefore a_pairX a_pairY a_stack a_met a_metAs a_copies a_meetings a_wasMeeting a_firstMet a_depths a_isKept : Nat → Int32} (h : xv_H a_held) {x : Nat} (hx : x < 48) : ∀ post : Int32 → Prop, (xv_K a_held (xv_L a_held x) = 0 → post 1) → (xv_K a_held (xv_L a_held x) ≠ 0 → post 0) → wpX_isFree post (f_trials, f_drafted, f_pairs, f_metCount, f_meetingCount, a_held, a_saved, a_draft, a_toldBefore, a_pairX, a_pairY, a_stack, a_met, a_metAs, a_copies, a_meetings, a_wasMeeting, a_firstMet, a_depths, a_isKept) (nI x) := by
  intro post h1 h2
  obtain ⟨e, l⟩ := xv_HL h hx
  unfold wpX_isFree
  simp (disch := omega) only [forall_eq, true_and, and_true, Nat.zero_add, nI_clamp, li_vin, nI_add, nI_eq, nI_leI, nI_ltI, li_0le, li_lt0, li_nn1, li_e0, not_true_eq_false, not_false_eq_true, false_implies, true_implies, forall_const, li_a0, li_b0, li_a1, li_b1, li_a2, li_b2, li_a3, li_b3, li_a7, li_b7, li_a8, li_b8, li_a16, li_b16, li_a48, li_b48, li_a584, li_b584, li_a572, li_b572, li_a96, li_b96, li_a144, li_b144, li_a192, li_b192, li_a240, li_b240, li_a336, li_b336, li_a384, li_b384, li_a432, li_b432, li_a480, li_b480, li_a488, li_b488, li_a496, li_b496, li_a504, li_b504, li_a512, li_b512, li_a520, li_b520, li_a524, li_b524, li_a528, li_b528, li_a536, li_b536, li_a544, li_b544, li_a552, li_b552, li_a560, li_b560, li_a568, li_b568, li_a573, li_b573, li_a585, li_b585, li_a633, li_b633, li_m3, li_n3, li_m4, li_n4, li_m48, li_n48, li_m50, li_n50, li_m585, li_n585, li_m633, li_n633, li_lt2, li_ge2, li_le2, li_gt2, li_lt1, li_ge1, li_le1, li_gt1, li_lt3, li_ge3, li_le3, li_gt3, li_lt4, li_ge4, li_le4, li_gt4, li_lt7, li_ge7, li_le7, li_gt7, li_lt8, li_ge8, li_le8, li_gt8, li_lt40, li_ge40, li_le40, li_gt40, li_lt240, li_ge240, li_le240, li_gt240, li_lt41, li_ge41, li_le41, li_gt41, li_lt48, li_ge48, li_le48, li_gt48, li_lt49, li_ge49, li_le49, li_gt49, li_lt60, li_ge60, li_le60, li_gt60, li_lt144, li_ge144, li_le144, li_gt144, li_lt145, li_ge145, li_le145, li_gt145, li_lt160, li_ge160, li_le160, li_gt160, li_lt336, li_ge336, li_le336, li_gt336, li_lt585, li_ge585, li_le585, li_gt585, li_lt633, li_ge633, li_le633, li_gt633, li_lt1000000, li_ge1000000, li_le1000000, li_gt1000000, li_lt2304, li_ge2304, li_le2304, li_gt2304, li_lt50, li_ge50, li_le50, li_gt50, li_le0, li_gt0, e]
  rw [xv_HK (a := a_held) l]
  exact ⟨h1, h2⟩
theorem xw_rememberTold_2 {f_trials f_drafted f_pairs f_metCount f_meetingCount : Int32} {a_held a_saved a_draft a_toldBefore a_pairX a_pairY a_stack a_met a_metAs a_copies a_meetings a_wasMeeting a_firstMet a_depths a_isKept : Nat → Int32} : ∀ d j (a_toldBefore : Nat → Int32), j + d = 336 → (∀ i, i < j → a_toldBefore i = a_held i) → ∃ tb : Nat → Int32, (∀ i, i < 336 → tb i = a_held i) ∧ ∀ post : SX → Prop, post (f_trials, f_drafted, f_pairs, f_metCount, f_meetingCount, a_held, a_saved, a_draft, tb, a_pairX, a_pairY, a_stack, a_met, a_metAs, a_copies, a_meetings, a_wasMeeting, a_firstMet, a_depths, a_isKept) → wX_rememberTold_2 post f_trials f_drafted f_pairs f_metCount f_meetingCount (d + 1) (nI j) a_held a_saved a_draft a_toldBefore a_pairX a_pairY a_stack a_met a_metAs a_copies a_meetings a_wasMeeting a_firstMet a_depths a_isKept := by
  intro d
  induction d with
  | zero =>
    intro j tb hj h
    refine ⟨tb, fun i hi => h i (by omega), fun post hp => ?_⟩
    unfold wX_rememberTold_2
    simp (disch := omega) only [forall_eq, true_and, and_true, Nat.zero_add, nI_clamp, li_vin, nI_add, nI_eq, nI_leI, nI_ltI, li_0le, li_lt0, li_nn1, li_e0, not_true_eq_false, not_false_eq_true, false_implies, true_implies, forall_const, li_a0, li_b0, li_a1, li_b1, li_a2, li_b2, li_a3, li_b3, li_a7, li_b7, li_a8, li_b8, li_a16, li_b16, li_a48, li_b48, li_a584, li_b584, li_a572, li_b572, li_a96, li_b96, li_a144, li_b144, li_a192, li_b192, li_a240, li_b240, li_a336, li_b336, li_a384, li_b384, li_a432, li_b432, li_a480, li_b480, li_a488, li_b488, li_a496, li_b496, li_a504, li_b504, li_a512, li_b512, li_a520, li_b520, li_a524, li_b524, li_a528, li_b528, li_a536, li_b536, li_a544, li_b544, li_a552, li_b552, li_a560, li_b560, li_a568, li_b568, li_a573, li_b573, li_a585, li_b585, li_a633, li_b633, li_m3, li_n3, li_m4, li_n4, li_m48, li_n48, li_m50, li_n50, li_m585, li_n585, li_m633, li_n633, li_lt2, li_ge2, li_le2, li_gt2, li_lt1, li_ge1, li_le1, li_gt1, li_lt3, li_ge3, li_le3, li_gt3, li_lt4, li_ge4, li_le4, li_gt4, li_lt7, li_ge7, li_le7, li_gt7, li_lt8, li_ge8, li_le8, li_gt8, li_lt40, li_ge40, li_le40, li_gt40, li_lt240, li_ge240, li_le240, li_gt240, li_lt41, li_ge41, li_le41, li_gt41, li_lt48, li_ge48, li_le48, li_gt48, li_lt49, li_ge49, li_le49, li_gt49, li_lt60, li_ge60, li_le60, li_gt60, li_lt144, li_ge144, li_le144, li_gt144, li_lt145, li_ge145, li_le145, li_gt145, li_lt160, li_ge160, li_le160, li_gt160, li_lt336, li_ge336, li_le336, li_gt336, li_lt585, li_ge585, li_le585, li_gt585, li_lt633, li_ge633, li_le633, li_gt633, li_lt1000000, li_ge1000000, li_le1000000, li_gt1000000, li_lt2304, li_ge2304, li_le2304, li_gt2304, li_lt50, li_ge50, li_le50, li_gt50, li_le0, li_gt0]
    exact ⟨fun _ => hp, fun q => by omega⟩
  | succ d ih =>
    intro j tb hj h
    obtain ⟨tb', h1, h2⟩ := ih (j + 1) (upd tb j (a_held j)) (by omega) (by
      intro i hi
      by_cases q : i = j
      · rw [q, pk_us]
      · rw [pk_un q]; exact h i (by omega))
    refine ⟨tb', h1, fun post hp => ?_⟩
    unfold wX_rememberTold_2
    simp (disch := omega) only [forall_eq, true_and, and_true, Nat.zero_add, nI_clamp, li_vin, nI_add, nI_eq, nI_leI, nI_ltI, li_0le, li_lt0, li_nn1, li_e0, not_true_eq_false, not_false_eq_true, false_implies, true_implies, forall_const, li_a0, li_b0, li_a1, li_b1, li_a2, li_b2, li_a3, li_b3, li_a7, li_b7, li_a8, li_b8, li_a16, li_b16, li_a48, li_b48, li_a584, li_b584, li_a572, li_b572, li_a96, li_b96, li_a144, li_b144, li_a192, li_b192, li_a240, li_b240, li_a336, li_b336, li_a384, li_b384, li_a432, li_b432, li_a480, li_b480, li_a488, li_b488, li_a496, li_b496, li_a504, li_b504, li_a512, li_b512, li_a520, li_b520, li_a524, li_b524, li_a528, li_b528, li_a536, li_b536, li_a544, li_b544, li_a552, li_b552, li_a560, li_b560, li_a568, li_b568, li_a573, li_b573, li_a585, li_b585, li_a633, li_b633, li_m3, li_n3, li_m4, li_n4, li_m48, li_n48, li_m50, li_n50, li_m585, li_n585, li_m633, li_n633, li_lt2, li_ge2, li_le2, li_gt2, li_lt1, li_ge1, li_le1, li_gt1, li_lt3, li_ge3, li_le3, li_gt3, li_lt4, li_ge4, li_le4, li_gt4, li_lt7, li_ge7, li_le7, li_gt7, li_lt8, li_ge8, li_le8, li_gt8, li_lt40, li_ge40, li_le40, li_gt40, li_lt240, li_ge240, li_le240, li_gt240, li_lt41, li_ge41, li_le41, li_gt41, li_lt48, li_ge48, li_le48, li_gt48, li_lt49, li_ge49, li_le49, li_gt49, li_lt60, li_ge60, li_le60, li_gt60, li_lt144, li_ge144, li_le144, li_gt144, li_lt145, li_ge145, li_le145, li_gt145, li_lt160, li_ge160, li_le160, li_gt160, li_lt336, li_ge336, li_le336, li_gt336, li_lt585, li_ge585, li_le585, li_gt585, li_lt633, li_ge633, li_le633, li_gt633, li_lt1000000, li_ge1000000, li_le1000000, li_gt1000000, li_lt2304, li_ge2304, li_le2304, li_gt2304, li_lt50, li_ge50, li_le50, li_gt50, li_le0, li_gt0]
    exact ⟨fun q => by omega, fun _ => h2 post hp⟩
theorem xw_rememberTold {f_trials f_drafted f_pairs f_metCount f_meetingCount : Int32} {a_held a_saved a_draft a_toldBefore a_pairX a_pairY a_stack a_met a_metAs a_copies a_meetings a_wasMeeting a_firstMet a_depths a_isKept : Nat → Int32} : ∃ tb : Nat → Int32, (∀ i, i < 336 → tb i = a_held i) ∧ ∀ post : SX → Prop, post (f_trials, f_drafted, f_pairs, f_metCount, f_meetingCount, a_held, a_saved, a_draft, tb, a_pairX, a_pairY, a_stack, a_met, a_metAs, a_copies, a_meetings, a_wasMeeting, a_firstMet, a_depths, a_isKept) → wpX_rememberTold post (f_trials, f_drafted, f_pairs, f_metCount, f_meetingCount, a_held, a_saved, a_draft, a_toldBefore, a_pairX, a_pairY, a_stack, a_met, a_metAs, a_copies, a_meetings, a_wasMeeting, a_firstMet, a_depths, a_isKept) := by
  obtain ⟨tb, h1, h2⟩ := xw_rememberTold_2 (f_trials := f_trials) (f_drafted := f_drafted) (f_pairs := f_pairs) (f_metCount := f_metCount) (f_meetingCount := f_meetingCount) (a_held := a_held) (a_saved := a_saved) (a_draft := a_draft) (a_toldBefore := a_toldBefore) (a_pairX := a_pairX) (a_pairY := a_pairY) (a_stack := a_stack) (a_met := a_met) (a_metAs := a_metAs) (a_copies := a_copies) (a_meetings := a_meetings) (a_wasMeeting := a_wasMeeting) (a_firstMet := a_firstMet) (a_depths := a_depths) (a_isKept := a_isKept) 336 0 a_toldBefore rfl (fun i hi => by omega)
  exact ⟨tb, h1, fun post hp => ⟨_, h2 post hp⟩⟩
theorem xw_recallTold_2 {f_trials f_drafted f_pairs f_metCount f_meetingCount : Int32} {a_held a_saved a_draft a_toldBefore a_pairX a_pairY a_stack a_met a_metAs a_copies a_meetings a_wasMeeting a_firstMet a_depths a_isKept : Nat → Int32} : ∀ d j (a_held : Nat → Int32), j + d = 336 → (∀ i, i < j → a_held i = a_toldBefore i) → ∃ a' : Nat → Int32, (∀ i, i < 336 → a' i = a_toldBefore i) ∧ (∀ i, 336 ≤ i → a' i = a_held i) ∧ ∀ post : SX → Prop, post (f_trials, f_drafted, f_pairs, f_metCount, f_meetingCount, a', a_saved, a_draft, a_toldBefore, a_pairX, a_pairY, a_stack, a_met, a_metAs, a_copies, a_meetings, a_wasMeeting, a_firstMet, a_depths, a_isKept) → wX_recallTold_2 post f_trials f_drafted f_pairs f_metCount f_meetingCount (d + 1) (nI j) a_held a_saved a_draft a_toldBefore a_pairX a_pairY a_stack a_met a_metAs a_copies a_meetings a_wasMeeting a_firstMet a_depths a_isKept := by
  intro d
  induction d with
  | zero =>
    intro j a hj h
    refine ⟨a, fun i hi => h i (by omega), fun _ _ => rfl, fun post hp => ?_⟩
    unfold wX_recallTold_2
    simp (disch := omega) only [forall_eq, true_and, and_true, Nat.zero_add, nI_clamp, li_vin, nI_add, nI_eq, nI_leI, nI_ltI, li_0le, li_lt0, li_nn1, li_e0, not_true_eq_false, not_false_eq_true, false_implies, true_implies, forall_const, li_a0, li_b0, li_a1, li_b1, li_a2, li_b2, li_a3, li_b3, li_a7, li_b7, li_a8, li_b8, li_a16, li_b16, li_a48, li_b48, li_a584, li_b584, li_a572, li_b572, li_a96, li_b96, li_a144, li_b144, li_a192, li_b192, li_a240, li_b240, li_a336, li_b336, li_a384, li_b384, li_a432, li_b432, li_a480, li_b480, li_a488, li_b488, li_a496, li_b496, li_a504, li_b504, li_a512, li_b512, li_a520, li_b520, li_a524, li_b524, li_a528, li_b528, li_a536, li_b536, li_a544, li_b544, li_a552, li_b552, li_a560, li_b560, li_a568, li_b568, li_a573, li_b573, li_a585, li_b585, li_a633, li_b633, li_m3, li_n3, li_m4, li_n4, li_m48, li_n48, li_m50, li_n50, li_m585, li_n585, li_m633, li_n633, li_lt2, li_ge2, li_le2, li_gt2, li_lt1, li_ge1, li_le1, li_gt1, li_lt3, li_ge3, li_le3, li_gt3, li_lt4, li_ge4, li_le4, li_gt4, li_lt7, li_ge7, li_le7, li_gt7, li_lt8, li_ge8, li_le8, li_gt8, li_lt40, li_ge40, li_le40, li_gt40, li_lt240, li_ge240, li_le240, li_gt240, li_lt41, li_ge41, li_le41, li_gt41, li_lt48, li_ge48, li_le48, li_gt48, li_lt49, li_ge49, li_le49, li_gt49, li_lt60, li_ge60, li_le60, li_gt60, li_lt144, li_ge144, li_le144, li_gt144, li_lt145, li_ge145, li_le145, li_gt145, li_lt160, li_ge160, li_le160, li_gt160, li_lt336, li_ge336, li_le336, li_gt336, li_lt585, li_ge585, li_le585, li_gt585, li_lt633, li_ge633, li_le633, li_gt633, li_lt1000000, li_ge1000000, li_le1000000, li_gt1000000, li_lt2304, li_ge2304, li_le2304, li_gt2304, li_lt50, li_ge50, li_le50, li_gt50, li_le0, li_gt0]
    exact ⟨fun _ => hp, fun q => by omega⟩
  | succ d ih =>
    intro j a hj h
    obtain ⟨a', h1, h3, h2⟩ := ih (j + 1) (upd a j (a_toldBefore j)) (by omega) (by
      intro i hi
      by_cases q : i = j
      · rw [q, pk_us]
      · rw [pk_un q]; exact h i (by omega))
    refine ⟨a', h1, fun i hi => by rw [h3 i hi, pk_un (by omega)], fun post hp => ?_⟩
    unfold wX_recallTold_2
    simp (disch := omega) only [forall_eq, true_and, and_true, Nat.zero_add, nI_clamp, li_vin, nI_add, nI_eq, nI_leI, nI_ltI, li_0le, li_lt0, li_nn1, li_e0, not_true_eq_false, not_false_eq_true, false_implies, true_implies, forall_const, li_a0, li_b0, li_a1, li_b1, li_a2, li_b2, li_a3, li_b3, li_a7, li_b7, li_a8, li_b8, li_a16, li_b16, li_a48, li_b48, li_a584, li_b584, li_a572, li_b572, li_a96, li_b96, li_a144, li_b144, li_a192, li_b192, li_a240, li_b240, li_a336, li_b336, li_a384, li_b384, li_a432, li_b432, li_a480, li_b480, li_a488, li_b488, li_a496, li_b496, li_a504, li_b504, li_a512, li_b512, li_a520, li_b520, li_a524, li_b524, li_a528, li_b528, li_a536, li_b536, li_a544, li_b544, li_a552, li_b552, li_a560, li_b560, li_a568, li_b568, li_a573, li_b573, li_a585, li_b585, li_a633, li_b633, li_m3, li_n3, li_m4, li_n4, li_m48, li_n48, li_m50, li_n50, li_m585, li_n585, li_m633, li_n633, li_lt2, li_ge2, li_le2, li_gt2, li_lt1, li_ge1, li_le1, li_gt1, li_lt3, li_ge3, li_le3, li_gt3, li_lt4, li_ge4, li_le4, li_gt4, li_lt7, li_ge7, li_le7, li_gt7, li_lt8, li_ge8, li_le8, li_gt8, li_lt40, li_ge40, li_le40, li_gt40, li_lt240, li_ge240, li_le240, li_gt240, li_lt41, li_ge41, li_le41, li_gt41, li_lt48, li_ge48, li_le48, li_gt48, li_lt49, li_ge49, li_le49, li_gt49, li_lt60, li_ge60, li_le60, li_gt60, li_lt144, li_ge144, li_le144, li_gt144, li_lt145, li_ge145, li_le145, li_gt145, li_lt160, li_ge160, li_le160, li_gt160, li_lt336, li_ge336, li_le336, li_gt336, li_lt585, li_ge585, li_le585, li_gt585, li_lt633, li_ge633, li_le633, li_gt633, li_lt1000000, li_ge1000000, li_le1000000, li_gt1000000, li_lt2304, li_ge2304, li_le2304, li_gt2304, li_lt50, li_ge50, li_le50, li_gt50, li_le0, li_gt0]
    exact ⟨fun q => by omega, fun _ => h2 post hp⟩
theorem xw_recallTold {f_trials f_drafted f_pairs f_metCount f_meetingCount : Int32} {a_held a_saved a_draft a_toldBefore a_pairX a_pairY a_stack a_met a_metAs a_copies a_meetings a_wasMeeting a_firstMet a_depths a_isKept : Nat → Int32} : ∃ a' : Nat → Int32, (∀ i, i < 336 → a' i = a_toldBefore i) ∧ (∀ i, 336 ≤ i → a' i = a_held i) ∧ ∀ post : SX → Prop, post (f_trials, f_drafted, f_pairs, f_metCount, f_meetingCount, a', a_saved, a_draft, a_toldBefore, a_pairX, a_pairY, a_stack, a_met, a_metAs, a_copies, a_meetings, a_wasMeeting, a_firstMet, a_depths, a_isKept) → wpX_recallTold post (f_trials, f_drafted, f_pairs, f_metCount, f_meetingCount, a_held, a_saved, a_draft, a_toldBefore, a_pairX, a_pairY, a_stack, a_met, a_metAs, a_copies, a_meetings, a_wasMeeting, a_firstMet, a_depths, a_isKept) := by
  obtain ⟨a', h1, h3, h2⟩ := xw_recallTold_2 (f_trials := f_trials) (f_drafted := f_drafted) (f_pairs := f_pairs) (f_metCount := f_metCount) (f_meetingCount := f_meetingCount) (a_held := a_held) (a_saved := a_saved) (a_draft := a_draft) (a_toldBefore := a_toldBefore) (a_pairX := a_pairX) (a_pairY := a_pairY) (a_stack := a_stack) (a_met := a_met) (a_metAs := a_metAs) (a_copies := a_copies) (a_meetings := a_meetings) (a_wasMeeting := a_wasMeeting) (a_firstMet := a_firstMet) (a_depths := a_depths) (a_isKept := a_isKept) 336 0 a_held rfl (fun i hi => by omega)
  exact ⟨a', h1, h3, fun post hp => ⟨_, h2 post hp⟩⟩
end
section
theorem xw_join_111 {f_trials f_drafted f_pairs f_metCount f_meetingCount : Int32} {a_held a_saved a_draft a_toldBefore a_pairX a_pairY a_stack a_met a_metAs a_copies a_meetings a_wasMeeting a_firstMet a_depths a_isKept : Nat → Int32} {lo hi : Nat} (hlo : lo < 48) (hhi : hi < 48) : ∀ d j (a_held : Nat → Int32), j + d = 48 → ∃ a' : Nat → Int32, (∀ i, i < j → a' i = a_held i) ∧ (∀ i, j ≤ i → i < 48 → a' i = if a_held i = nI hi then nI lo else a_held i) ∧ (∀ i, 48 ≤ i → a' i = a_held i) ∧ ∀ post : SX → Prop, post (f_trials, f_drafted, f_pairs, f_metCount, f_meetingCount, a', a_saved, a_draft, a_toldBefore, a_pairX, a_pairY, a_stack, a_met, a_metAs, a_copies, a_meetings, a_wasMeeting, a_firstMet, a_depths, a_isKept) → wX_join_111 post (nI lo) (nI hi) f_trials f_drafted f_pairs f_metCount f_meetingCount (d + 1) (nI j) a_held a_saved a_draft a_toldBefore a_pairX a_pairY a_stack a_met a_metAs a_copies a_meetings a_wasMeeting a_firstMet a_depths a_isKept := by
  intro d
  induction d with
  | zero =>
    intro j a hj
    refine ⟨a, fun _ _ => rfl, fun i h1 h2 => by omega, fun _ _ => rfl, fun post hp => ?_⟩
    unfold wX_join_111
    simp (disch := omega) only [forall_eq, true_and, and_true, Nat.zero_add, nI_clamp, li_vin, nI_add, nI_eq, nI_leI, nI_ltI, li_0le, li_lt0, li_nn1, li_e0, not_true_eq_false, not_false_eq_true, false_implies, true_implies, forall_const, li_a0, li_b0, li_a1, li_b1, li_a2, li_b2, li_a3, li_b3, li_a7, li_b7, li_a8, li_b8, li_a16, li_b16, li_a48, li_b48, li_a584, li_b584, li_a572, li_b572, li_a96, li_b96, li_a144, li_b144, li_a192, li_b192, li_a240, li_b240, li_a336, li_b336, li_a384, li_b384, li_a432, li_b432, li_a480, li_b480, li_a488, li_b488, li_a496, li_b496, li_a504, li_b504, li_a512, li_b512, li_a520, li_b520, li_a524, li_b524, li_a528, li_b528, li_a536, li_b536, li_a544, li_b544, li_a552, li_b552, li_a560, li_b560, li_a568, li_b568, li_a573, li_b573, li_a585, li_b585, li_a633, li_b633, li_m3, li_n3, li_m4, li_n4, li_m48, li_n48, li_m50, li_n50, li_m585, li_n585, li_m633, li_n633, li_lt2, li_ge2, li_le2, li_gt2, li_lt1, li_ge1, li_le1, li_gt1, li_lt3, li_ge3, li_le3, li_gt3, li_lt4, li_ge4, li_le4, li_gt4, li_lt7, li_ge7, li_le7, li_gt7, li_lt8, li_ge8, li_le8, li_gt8, li_lt40, li_ge40, li_le40, li_gt40, li_lt240, li_ge240, li_le240, li_gt240, li_lt41, li_ge41, li_le41, li_gt41, li_lt48, li_ge48, li_le48, li_gt48, li_lt49, li_ge49, li_le49, li_gt49, li_lt60, li_ge60, li_le60, li_gt60, li_lt144, li_ge144, li_le144, li_gt144, li_lt145, li_ge145, li_le145, li_gt145, li_lt160, li_ge160, li_le160, li_gt160, li_lt336, li_ge336, li_le336, li_gt336, li_lt585, li_ge585, li_le585, li_gt585, li_lt633, li_ge633, li_le633, li_gt633, li_lt1000000, li_ge1000000, li_le1000000, li_gt1000000, li_lt2304, li_ge2304, li_le2304, li_gt2304, li_lt50, li_ge50, li_le50, li_gt50, li_le0, li_gt0]
    exact ⟨fun _ => hp, fun q => by omega⟩
  | succ d ih =>
    intro j a hj
    by_cases q : a j = nI hi
    · obtain ⟨a', h1, h2, h3, h4⟩ := ih (j + 1) (upd a j (nI lo)) (by omega)
      refine ⟨a', ?_, ?_, ?_, fun post hp => ?_⟩
      · intro i hi'
        rw [h1 i (by omega), pk_un (by omega)]
      · intro i g1 g2
        by_cases z : i = j
        · rw [z, h1 j (by omega), pk_us, if_pos q]
        · rw [h2 i (by omega) g2, pk_un z]
      · intro i g
        rw [h3 i g, pk_un (by omega)]
      · unfold wX_join_111
        simp (disch := omega) only [forall_eq, true_and, and_true, Nat.zero_add, nI_clamp, li_vin, nI_add, nI_eq, nI_leI, nI_ltI, li_0le, li_lt0, li_nn1, li_e0, not_true_eq_false, not_false_eq_true, false_implies, true_implies, forall_const, li_a0, li_b0, li_a1, li_b1, li_a2, li_b2, li_a3, li_b3, li_a7, li_b7, li_a8, li_b8, li_a16, li_b16, li_a48, li_b48, li_a584, li_b584, li_a572, li_b572, li_a96, li_b96, li_a144, li_b144, li_a192, li_b192, li_a240, li_b240, li_a336, li_b336, li_a384, li_b384, li_a432, li_b432, li_a480, li_b480, li_a488, li_b488, li_a496, li_b496, li_a504, li_b504, li_a512, li_b512, li_a520, li_b520, li_a524, li_b524, li_a528, li_b528, li_a536, li_b536, li_a544, li_b544, li_a552, li_b552, li_a560, li_b560, li_a568, li_b568, li_a573, li_b573, li_a585, li_b585, li_a633, li_b633, li_m3, li_n3, li_m4, li_n4, li_m48, li_n48, li_m50, li_n50, li_m585, li_n585, li_m633, li_n633, li_lt2, li_ge2, li_le2, li_gt2, li_lt1, li_ge1, li_le1, li_gt1, li_lt3, li_ge3, li_le3, li_gt3, li_lt4, li_ge4, li_le4, li_gt4, li_lt7, li_ge7, li_le7, li_gt7, li_lt8, li_ge8, li_le8, li_gt8, li_lt40, li_ge40, li_le40, li_gt40, li_lt240, li_ge240, li_le240, li_gt240, li_lt41, li_ge41, li_le41, li_gt41, li_lt48, li_ge48, li_le48, li_gt48, li_lt49, li_ge49, li_le49, li_gt49, li_lt60, li_ge60, li_le60, li_gt60, li_lt144, li_ge144, li_le144, li_gt144, li_lt145, li_ge145, li_le145, li_gt145, li_lt160, li_ge160, li_le160, li_gt160, li_lt336, li_ge336, li_le336, li_gt336, li_lt585, li_ge585, li_le585, li_gt585, li_lt633, li_ge633, li_le633, li_gt633, li_lt1000000, li_ge1000000, li_le1000000, li_gt1000000, li_lt2304, li_ge2304, li_le2304, li_gt2304, li_lt50, li_ge50, li_le50, li_gt50, li_le0, li_gt0, q]
        exact ⟨fun q => by omega, fun _ => h4 post hp⟩
    · obtain ⟨a', h1, h2, h3, h4⟩ := ih (j + 1) a (by omega)
      refine ⟨a', fun i hi' => h1 i (by omega), ?_, h3, fun post hp => ?_⟩
      · intro i g1 g2
        by_cases z : i = j
        · rw [z, h1 j (by omega), if_neg q]
        · exact h2 i (by omega) g2
      · unfold wX_join_111
        simp (disch := omega) only [forall_eq, true_and, and_true, Nat.zero_add, nI_clamp, li_vin, nI_add, nI_eq, nI_leI, nI_ltI, li_0le, li_lt0, li_nn1, li_e0, not_true_eq_false, not_false_eq_true, false_implies, true_implies, forall_const, li_a0, li_b0, li_a1, li_b1, li_a2, li_b2, li_a3, li_b3, li_a7, li_b7, li_a8, li_b8, li_a16, li_b16, li_a48, li_b48, li_a584, li_b584, li_a572, li_b572, li_a96, li_b96, li_a144, li_b144, li_a192, li_b192, li_a240, li_b240, li_a336, li_b336, li_a384, li_b384, li_a432, li_b432, li_a480, li_b480, li_a488, li_b488, li_a496, li_b496, li_a504, li_b504, li_a512, li_b512, li_a520, li_b520, li_a524, li_b524, li_a528, li_b528, li_a536, li_b536, li_a544, li_b544, li_a552, li_b552, li_a560, li_b560, li_a568, li_b568, li_a573, li_b573, li_a585, li_b585, li_a633, li_b633, li_m3, li_n3, li_m4, li_n4, li_m48, li_n48, li_m50, li_n50, li_m585, li_n585, li_m633, li_n633, li_lt2, li_ge2, li_le2, li_gt2, li_lt1, li_ge1, li_le1, li_gt1, li_lt3, li_ge3, li_le3, li_gt3, li_lt4, li_ge4, li_le4, li_gt4, li_lt7, li_ge7, li_le7, li_gt7, li_lt8, li_ge8, li_le8, li_gt8, li_lt40, li_ge40, li_le40, li_gt40, li_lt240, li_ge240, li_le240, li_gt240, li_lt41, li_ge41, li_le41, li_gt41, li_lt48, li_ge48, li_le48, li_gt48, li_lt49, li_ge49, li_le49, li_gt49, li_lt60, li_ge60, li_le60, li_gt60, li_lt144, li_ge144, li_le144, li_gt144, li_lt145, li_ge145, li_le145, li_gt145, li_lt160, li_ge160, li_le160, li_gt160, li_lt336, li_ge336, li_le336, li_gt336, li_lt585, li_ge585, li_le585, li_gt585, li_lt633, li_ge633, li_le633, li_gt633, li_lt1000000, li_ge1000000, li_le1000000, li_gt1000000, li_lt2304, li_ge2304, li_le2304, li_gt2304, li_lt50, li_ge50, li_le50, li_gt50, li_le0, li_gt0]
        exact ⟨fun q => by omega, fun _ => ⟨fun z => absurd z q, fun _ => h4 post hp⟩⟩
theorem xw_join_70 {f_trials f_drafted f_pairs f_metCount f_meetingCount : Int32} {a_held a_saved a_draft a_toldBefore a_pairX a_pairY a_stack a_met a_metAs a_copies a_meetings a_wasMeeting a_firstMet a_depths a_isKept : Nat → Int32} {lo hi : Nat} (hlo : lo < 48) (hhi : hi < 48) (ne : lo ≠ hi) : ∀ d j (a_held : Nat → Int32), j + d = 3 → ∃ a' : Nat → Int32, (∀ i, i < 48 → a' i = if a_held i = nI hi then nI lo else a_held i) ∧ (∀ k, j ≤ k → k < 3 → a' (192 + 3 * lo + k) = a_held (192 + 3 * hi + k)) ∧ (∀ i, 48 ≤ i → (i < 192 + 3 * lo + j ∨ 192 + 3 * lo + 3 ≤ i) → a' i = a_held i) ∧ ∀ post : SX → Prop, post (f_trials, f_drafted, f_pairs, f_metCount, f_meetingCount, a', a_saved, a_draft, a_toldBefore, a_pairX, a_pairY, a_stack, a_met, a_metAs, a_copies, a_meetings, a_wasMeeting, a_firstMet, a_depths, a_isKept) → wX_join_70 post (nI lo) (nI hi) f_trials f_drafted f_pairs f_metCount f_meetingCount (d + 1) (nI j) a_held a_saved a_draft a_toldBefore a_pairX a_pairY a_stack a_met a_metAs a_copies a_meetings a_wasMeeting a_firstMet a_depths a_isKept := by
  intro d
  induction d with
  | zero =>
    intro j a hj
    obtain ⟨a', h1, h2, h3, h4⟩ := xw_join_111 (f_trials := f_trials) (f_drafted := f_drafted) (f_pairs := f_pairs) (f_metCount := f_metCount) (f_meetingCount := f_meetingCount) (a_held := a_held) (a_saved := a_saved) (a_draft := a_draft) (a_toldBefore := a_toldBefore) (a_pairX := a_pairX) (a_pairY := a_pairY) (a_stack := a_stack) (a_met := a_met) (a_metAs := a_metAs) (a_copies := a_copies) (a_meetings := a_meetings) (a_wasMeeting := a_wasMeeting) (a_firstMet := a_firstMet) (a_depths := a_depths) (a_isKept := a_isKept) hlo hhi 48 0 a rfl
    refine ⟨a', fun i hi' => h2 i (by omega) hi', fun k g1 g2 => by omega, fun i g _ => h3 i g, fun post hp => ?_⟩
    unfold wX_join_70
    simp (disch := omega) only [forall_eq, true_and, and_true, Nat.zero_add, nI_clamp, li_vin, nI_add, nI_eq, nI_leI, nI_ltI, li_0le, li_lt0, li_nn1, li_e0, not_true_eq_false, not_false_eq_true, false_implies, true_implies, forall_const, li_a0, li_b0, li_a1, li_b1, li_a2, li_b2, li_a3, li_b3, li_a7, li_b7, li_a8, li_b8, li_a16, li_b16, li_a48, li_b48, li_a584, li_b584, li_a572, li_b572, li_a96, li_b96, li_a144, li_b144, li_a192, li_b192, li_a240, li_b240, li_a336, li_b336, li_a384, li_b384, li_a432, li_b432, li_a480, li_b480, li_a488, li_b488, li_a496, li_b496, li_a504, li_b504, li_a512, li_b512, li_a520, li_b520, li_a524, li_b524, li_a528, li_b528, li_a536, li_b536, li_a544, li_b544, li_a552, li_b552, li_a560, li_b560, li_a568, li_b568, li_a573, li_b573, li_a585, li_b585, li_a633, li_b633, li_m3, li_n3, li_m4, li_n4, li_m48, li_n48, li_m50, li_n50, li_m585, li_n585, li_m633, li_n633, li_lt2, li_ge2, li_le2, li_gt2, li_lt1, li_ge1, li_le1, li_gt1, li_lt3, li_ge3, li_le3, li_gt3, li_lt4, li_ge4, li_le4, li_gt4, li_lt7, li_ge7, li_le7, li_gt7, li_lt8, li_ge8, li_le8, li_gt8, li_lt40, li_ge40, li_le40, li_gt40, li_lt240, li_ge240, li_le240, li_gt240, li_lt41, li_ge41, li_le41, li_gt41, li_lt48, li_ge48, li_le48, li_gt48, li_lt49, li_ge49, li_le49, li_gt49, li_lt60, li_ge60, li_le60, li_gt60, li_lt144, li_ge144, li_le144, li_gt144, li_lt145, li_ge145, li_le145, li_gt145, li_lt160, li_ge160, li_le160, li_gt160, li_lt336, li_ge336, li_le336, li_gt336, li_lt585, li_ge585, li_le585, li_gt585, li_lt633, li_ge633, li_le633, li_gt633, li_lt1000000, li_ge1000000, li_le1000000, li_gt1000000, li_lt2304, li_ge2304, li_le2304, li_gt2304, li_lt50, li_ge50, li_le50, li_gt50, li_le0, li_gt0]
    exact ⟨fun _ => ⟨_, h4 post hp⟩, fun q => by omega⟩
  | succ d ih =>
    intro j a hj
    obtain ⟨a', h1, h2, h3, h4⟩ := ih (j + 1) (upd a (192 + 3 * lo + j) (a (192 + 3 * hi + j))) (by omega)
    refine ⟨a', ?_, ?_, ?_, fun post hp => ?_⟩
    · intro i hi'
      rw [h1 i hi', pk_un (by omega)]
    · intro k g1 g2
      by_cases z : k = j
      · rw [z, h3 _ (by omega) (by omega), pk_us]
      · rw [h2 k (by omega) g2, pk_un (by omega)]
    · intro i g1 g2
      rw [h3 i g1 (by omega), pk_un (by omega)]
    · unfold wX_join_70
      simp (disch := omega) only [forall_eq, true_and, and_true, Nat.zero_add, nI_clamp, li_vin, nI_add, nI_eq, nI_leI, nI_ltI, li_0le, li_lt0, li_nn1, li_e0, not_true_eq_false, not_false_eq_true, false_implies, true_implies, forall_const, li_a0, li_b0, li_a1, li_b1, li_a2, li_b2, li_a3, li_b3, li_a7, li_b7, li_a8, li_b8, li_a16, li_b16, li_a48, li_b48, li_a584, li_b584, li_a572, li_b572, li_a96, li_b96, li_a144, li_b144, li_a192, li_b192, li_a240, li_b240, li_a336, li_b336, li_a384, li_b384, li_a432, li_b432, li_a480, li_b480, li_a488, li_b488, li_a496, li_b496, li_a504, li_b504, li_a512, li_b512, li_a520, li_b520, li_a524, li_b524, li_a528, li_b528, li_a536, li_b536, li_a544, li_b544, li_a552, li_b552, li_a560, li_b560, li_a568, li_b568, li_a573, li_b573, li_a585, li_b585, li_a633, li_b633, li_m3, li_n3, li_m4, li_n4, li_m48, li_n48, li_m50, li_n50, li_m585, li_n585, li_m633, li_n633, li_lt2, li_ge2, li_le2, li_gt2, li_lt1, li_ge1, li_le1, li_gt1, li_lt3, li_ge3, li_le3, li_gt3, li_lt4, li_ge4, li_le4, li_gt4, li_lt7, li_ge7, li_le7, li_gt7, li_lt8, li_ge8, li_le8, li_gt8, li_lt40, li_ge40, li_le40, li_gt40, li_lt240, li_ge240, li_le240, li_gt240, li_lt41, li_ge41, li_le41, li_gt41, li_lt48, li_ge48, li_le48, li_gt48, li_lt49, li_ge49, li_le49, li_gt49, li_lt60, li_ge60, li_le60, li_gt60, li_lt144, li_ge144, li_le144, li_gt144, li_lt145, li_ge145, li_le145, li_gt145, li_lt160, li_ge160, li_le160, li_gt160, li_lt336, li_ge336, li_le336, li_gt336, li_lt585, li_ge585, li_le585, li_gt585, li_lt633, li_ge633, li_le633, li_gt633, li_lt1000000, li_ge1000000, li_le1000000, li_gt1000000, li_lt2304, li_ge2304, li_le2304, li_gt2304, li_lt50, li_ge50, li_le50, li_gt50, li_le0, li_gt0]
      exact ⟨fun q => by omega, fun _ => h4 post hp⟩
theorem xw_join {f_trials f_drafted f_pairs f_metCount f_meetingCount : Int32} {a_held a_saved a_draft a_toldBefore a_pairX a_pairY a_stack a_met a_metAs a_copies a_meetings a_wasMeeting a_firstMet a_depths a_isKept : Nat → Int32} {lo hi : Nat} (hlo : lo < 48) (hhi : hi < 48) (ne : lo ≠ hi) : ∃ a' : Nat → Int32, xj_J a_held a' lo hi ∧ ∀ post : SX → Prop, post (f_trials, f_drafted, f_pairs, f_metCount, f_meetingCount, a', a_saved, a_draft, a_toldBefore, a_pairX, a_pairY, a_stack, a_met, a_metAs, a_copies, a_meetings, a_wasMeeting, a_firstMet, a_depths, a_isKept) → wpX_join post (f_trials, f_drafted, f_pairs, f_metCount, f_meetingCount, a_held, a_saved, a_draft, a_toldBefore, a_pairX, a_pairY, a_stack, a_met, a_metAs, a_copies, a_meetings, a_wasMeeting, a_firstMet, a_depths, a_isKept) (nI lo) (nI hi) := by
  by_cases q : a_held (48 + lo) = 0
  · obtain ⟨a', h1, h2, h3, h4⟩ := xw_join_70 (f_trials := f_trials) (f_drafted := f_drafted) (f_pairs := f_pairs) (f_metCount := f_metCount) (f_meetingCount := f_meetingCount) (a_held := a_held) (a_saved := a_saved) (a_draft := a_draft) (a_toldBefore := a_toldBefore) (a_pairX := a_pairX) (a_pairY := a_pairY) (a_stack := a_stack) (a_met := a_met) (a_metAs := a_metAs) (a_copies := a_copies) (a_meetings := a_meetings) (a_wasMeeting := a_wasMeeting) (a_firstMet := a_firstMet) (a_depths := a_depths) (a_isKept := a_isKept) hlo hhi ne 3 0 (upd (upd (upd a_held (48 + lo) (a_held (48 + hi))) (96 + lo) (a_held (96 + hi))) (144 + lo) (a_held (144 + hi))) rfl
    refine ⟨a', ⟨?_, ?_, fun z => absurd q z, ?_, ?_⟩, fun post hp => ?_⟩
    · intro x hx
      have := h1 x hx
      simp (disch := omega) only [pk_un] at this
      exact this
    · intro _
      refine ⟨?_, ?_, ?_, ?_⟩
      · rw [h3 _ (by omega) (by omega)]
        simp (disch := omega) only [pk_un, pk_us]
      · rw [h3 _ (by omega) (by omega)]
        simp (disch := omega) only [pk_un, pk_us]
      · rw [h3 _ (by omega) (by omega)]
        simp (disch := omega) only [pk_un, pk_us]
      · intro k hk
        rw [h2 k (by omega) hk]
        simp (disch := omega) only [pk_un]
    · intro c hc z
      refine ⟨?_, ?_, ?_, ?_⟩
      · rw [h3 _ (by omega) (by omega)]
        simp (disch := omega) only [pk_un]
      · rw [h3 _ (by omega) (by omega)]
        simp (disch := omega) only [pk_un]
      · rw [h3 _ (by omega) (by omega)]
        simp (disch := omega) only [pk_un]
      · intro k hk
        rw [h3 _ (by omega) (by omega)]
        simp (disch := omega) only [pk_un]
    · intro i hi'
      rw [h3 _ (by omega) (by omega)]
      simp (disch := omega) only [pk_un]
    · unfold wpX_join
      simp (disch := omega) only [forall_eq, true_and, and_true, Nat.zero_add, nI_clamp, li_vin, nI_add, nI_eq, nI_leI, nI_ltI, li_0le, li_lt0, li_nn1, li_e0, not_true_eq_false, not_false_eq_true, false_implies, true_implies, forall_const, li_a0, li_b0, li_a1, li_b1, li_a2, li_b2, li_a3, li_b3, li_a7, li_b7, li_a8, li_b8, li_a16, li_b16, li_a48, li_b48, li_a584, li_b584, li_a572, li_b572, li_a96, li_b96, li_a144, li_b144, li_a192, li_b192, li_a240, li_b240, li_a336, li_b336, li_a384, li_b384, li_a432, li_b432, li_a480, li_b480, li_a488, li_b488, li_a496, li_b496, li_a504, li_b504, li_a512, li_b512, li_a520, li_b520, li_a524, li_b524, li_a528, li_b528, li_a536, li_b536, li_a544, li_b544, li_a552, li_b552, li_a560, li_b560, li_a568, li_b568, li_a573, li_b573, li_a585, li_b585, li_a633, li_b633, li_m3, li_n3, li_m4, li_n4, li_m48, li_n48, li_m50, li_n50, li_m585, li_n585, li_m633, li_n633, li_lt2, li_ge2, li_le2, li_gt2, li_lt1, li_ge1, li_le1, li_gt1, li_lt3, li_ge3, li_le3, li_gt3, li_lt4, li_ge4, li_le4, li_gt4, li_lt7, li_ge7, li_le7, li_gt7, li_lt8, li_ge8, li_le8, li_gt8, li_lt40, li_ge40, li_le40, li_gt40, li_lt240, li_ge240, li_le240, li_gt240, li_lt41, li_ge41, li_le41, li_gt41, li_lt48, li_ge48, li_le48, li_gt48, li_lt49, li_ge49, li_le49, li_gt49, li_lt60, li_ge60, li_le60, li_gt60, li_lt144, li_ge144, li_le144, li_gt144, li_lt145, li_ge145, li_le145, li_gt145, li_lt160, li_ge160, li_le160, li_gt160, li_lt336, li_ge336, li_le336, li_gt336, li_lt585, li_ge585, li_le585, li_gt585, li_lt633, li_ge633, li_le633, li_gt633, li_lt1000000, li_ge1000000, li_le1000000, li_gt1000000, li_lt2304, li_ge2304, li_le2304, li_gt2304, li_lt50, li_ge50, li_le50, li_gt50, li_le0, li_gt0, q, pk_un]
      exact ⟨_, h4 post hp⟩
  · obtain ⟨a', h1, h2, h3, h4⟩ := xw_join_111 (f_trials := f_trials) (f_drafted := f_drafted) (f_pairs := f_pairs) (f_metCount := f_metCount) (f_meetingCount := f_meetingCount) (a_held := a_held) (a_saved := a_saved) (a_draft := a_draft) (a_toldBefore := a_toldBefore) (a_pairX := a_pairX) (a_pairY := a_pairY) (a_stack := a_stack) (a_met := a_met) (a_metAs := a_metAs) (a_copies := a_copies) (a_meetings := a_meetings) (a_wasMeeting := a_wasMeeting) (a_firstMet := a_firstMet) (a_depths := a_depths) (a_isKept := a_isKept) hlo hhi 48 0 a_held rfl
    refine ⟨a', ⟨fun x hx => h2 x (by omega) hx, fun z => absurd z q, fun _ => ⟨h3 _ (by omega), h3 _ (by omega), h3 _ (by omega), fun k hk => h3 _ (by omega)⟩, fun c hc z => ⟨h3 _ (by omega), h3 _ (by omega), h3 _ (by omega), fun k hk => h3 _ (by omega)⟩, fun i hi' => h3 i (by omega)⟩, fun post hp => ?_⟩
    unfold wpX_join
    simp (disch := omega) only [forall_eq, true_and, and_true, Nat.zero_add, nI_clamp, li_vin, nI_add, nI_eq, nI_leI, nI_ltI, li_0le, li_lt0, li_nn1, li_e0, not_true_eq_false, not_false_eq_true, false_implies, true_implies, forall_const, li_a0, li_b0, li_a1, li_b1, li_a2, li_b2, li_a3, li_b3, li_a7, li_b7, li_a8, li_b8, li_a16, li_b16, li_a48, li_b48, li_a584, li_b584, li_a572, li_b572, li_a96, li_b96, li_a144, li_b144, li_a192, li_b192, li_a240, li_b240, li_a336, li_b336, li_a384, li_b384, li_a432, li_b432, li_a480, li_b480, li_a488, li_b488, li_a496, li_b496, li_a504, li_b504, li_a512, li_b512, li_a520, li_b520, li_a524, li_b524, li_a528, li_b528, li_a536, li_b536, li_a544, li_b544, li_a552, li_b552, li_a560, li_b560, li_a568, li_b568, li_a573, li_b573, li_a585, li_b585, li_a633, li_b633, li_m3, li_n3, li_m4, li_n4, li_m48, li_n48, li_m50, li_n50, li_m585, li_n585, li_m633, li_n633, li_lt2, li_ge2, li_le2, li_gt2, li_lt1, li_ge1, li_le1, li_gt1, li_lt3, li_ge3, li_le3, li_gt3, li_lt4, li_ge4, li_le4, li_gt4, li_lt7, li_ge7, li_le7, li_gt7, li_lt8, li_ge8, li_le8, li_gt8, li_lt40, li_ge40, li_le40, li_gt40, li_lt240, li_ge240, li_le240, li_gt240, li_lt41, li_ge41, li_le41, li_gt41, li_lt48, li_ge48, li_le48, li_gt48, li_lt49, li_ge49, li_le49, li_gt49, li_lt60, li_ge60, li_le60, li_gt60, li_lt144, li_ge144, li_le144, li_gt144, li_lt145, li_ge145, li_le145, li_gt145, li_lt160, li_ge160, li_le160, li_gt160, li_lt336, li_ge336, li_le336, li_gt336, li_lt585, li_ge585, li_le585, li_gt585, li_lt633, li_ge633, li_le633, li_gt633, li_lt1000000, li_ge1000000, li_le1000000, li_gt1000000, li_lt2304, li_ge2304, li_le2304, li_gt2304, li_lt50, li_ge50, li_le50, li_gt50, li_le0, li_gt0]
    exact ⟨fun z => absurd z q, fun _ => ⟨_, h4 post hp⟩⟩
/-- the pairs that pairParts adds -/
theorem xw_pairParts_14 {f_trials f_drafted f_pairs f_metCount f_meetingCount : Int32} {a_held a_saved a_draft a_toldBefore a_pairX a_pairY a_stack a_met a_metAs a_copies a_meetings a_wasMeeting a_firstMet a_depths a_isKept : Nat → Int32} {u v c : Nat} (hu : u < 48) (hv : v < 48) (hc : c ≤ 3) : ∀ d j m (a_pairX a_pairY : Nat → Int32), j + d = c → m + d ≤ 144 → ∃ px py : Nat → Int32, (∀ i, i < m → px i = a_pairX i ∧ py i = a_pairY i) ∧ (∀ k, j ≤ k → k < c → px (m + (k - j)) = a_held (192 + 3 * u + k) ∧ py (m + (k - j)) = a_held (192 + 3 * v + k)) ∧ ∀ post : SX → Prop, post (f_trials, f_drafted, nI (m + d), f_metCount, f_meetingCount, a_held, a_saved, a_draft, a_toldBefore, px, py, a_stack, a_met, a_metAs, a_copies, a_meetings, a_wasMeeting, a_firstMet, a_depths, a_isKept) → wX_pairParts_14 post (nI u) (nI v) (nI c) f_trials f_drafted f_metCount f_meetingCount (d + 1) (nI j) (nI m) a_held a_saved a_draft a_toldBefore a_pairX a_pairY a_stack a_met a_metAs a_copies a_meetings a_wasMeeting a_firstMet a_depths a_isKept := by
  intro d
  induction d with
  | zero =>
    intro j m px py hj hm
    refine ⟨px, py, fun _ _ => ⟨rfl, rfl⟩, fun k g1 g2 => by omega, fun post hp => ?_⟩
    unfold wX_pairParts_14
    simp (disch := omega) only [forall_eq, true_and, and_true, Nat.zero_add, nI_clamp, li_vin, nI_add, nI_eq, nI_leI, nI_ltI, li_0le, li_lt0, li_nn1, li_e0, not_true_eq_false, not_false_eq_true, false_implies, true_implies, forall_const, li_a0, li_b0, li_a1, li_b1, li_a2, li_b2, li_a3, li_b3, li_a7, li_b7, li_a8, li_b8, li_a16, li_b16, li_a48, li_b48, li_a584, li_b584, li_a572, li_b572, li_a96, li_b96, li_a144, li_b144, li_a192, li_b192, li_a240, li_b240, li_a336, li_b336, li_a384, li_b384, li_a432, li_b432, li_a480, li_b480, li_a488, li_b488, li_a496, li_b496, li_a504, li_b504, li_a512, li_b512, li_a520, li_b520, li_a524, li_b524, li_a528, li_b528, li_a536, li_b536, li_a544, li_b544, li_a552, li_b552, li_a560, li_b560, li_a568, li_b568, li_a573, li_b573, li_a585, li_b585, li_a633, li_b633, li_m3, li_n3, li_m4, li_n4, li_m48, li_n48, li_m50, li_n50, li_m585, li_n585, li_m633, li_n633, li_lt2, li_ge2, li_le2, li_gt2, li_lt1, li_ge1, li_le1, li_gt1, li_lt3, li_ge3, li_le3, li_gt3, li_lt4, li_ge4, li_le4, li_gt4, li_lt7, li_ge7, li_le7, li_gt7, li_lt8, li_ge8, li_le8, li_gt8, li_lt40, li_ge40, li_le40, li_gt40, li_lt240, li_ge240, li_le240, li_gt240, li_lt41, li_ge41, li_le41, li_gt41, li_lt48, li_ge48, li_le48, li_gt48, li_lt49, li_ge49, li_le49, li_gt49, li_lt60, li_ge60, li_le60, li_gt60, li_lt144, li_ge144, li_le144, li_gt144, li_lt145, li_ge145, li_le145, li_gt145, li_lt160, li_ge160, li_le160, li_gt160, li_lt336, li_ge336, li_le336, li_gt336, li_lt585, li_ge585, li_le585, li_gt585, li_lt633, li_ge633, li_le633, li_gt633, li_lt1000000, li_ge1000000, li_le1000000, li_gt1000000, li_lt2304, li_ge2304, li_le2304, li_gt2304, li_lt50, li_ge50, li_le50, li_gt50, li_le0, li_gt0]
    exact ⟨fun _ => hp, fun q => by omega⟩
  | succ d ih =>
    intro j m px py hj hm
    obtain ⟨px', py', h1, h2, h3⟩ := ih (j + 1) (m + 1) (upd px m (a_held (192 + 3 * u + j))) (upd py m (a_held (192 + 3 * v + j))) (by omega) (by omega)
    refine ⟨px', py', ?_, ?_, fun post hp => ?_⟩
    · intro i hi
      obtain ⟨e1, e2⟩ := h1 i (by omega)
      rw [e1, e2, pk_un (by omega), pk_un (by omega)]
      exact ⟨rfl, rfl⟩
    · intro k g1 g2
      by_cases z : k = j
      · obtain ⟨e1, e2⟩ := h1 m (by omega)
        rw [z, show m + (j - j) = m from by omega, e1, e2, pk_us, pk_us]
        exact ⟨rfl, rfl⟩
      · have := h2 k (by omega) g2
        rw [show m + 1 + (k - (j + 1)) = m + (k - j) from by omega] at this
        exact this
    · unfold wX_pairParts_14
      simp (disch := omega) only [forall_eq, true_and, and_true, Nat.zero_add, nI_clamp, li_vin, nI_add, nI_eq, nI_leI, nI_ltI, li_0le, li_lt0, li_nn1, li_e0, not_true_eq_false, not_false_eq_true, false_implies, true_implies, forall_const, li_a0, li_b0, li_a1, li_b1, li_a2, li_b2, li_a3, li_b3, li_a7, li_b7, li_a8, li_b8, li_a16, li_b16, li_a48, li_b48, li_a584, li_b584, li_a572, li_b572, li_a96, li_b96, li_a144, li_b144, li_a192, li_b192, li_a240, li_b240, li_a336, li_b336, li_a384, li_b384, li_a432, li_b432, li_a480, li_b480, li_a488, li_b488, li_a496, li_b496, li_a504, li_b504, li_a512, li_b512, li_a520, li_b520, li_a524, li_b524, li_a528, li_b528, li_a536, li_b536, li_a544, li_b544, li_a552, li_b552, li_a560, li_b560, li_a568, li_b568, li_a573, li_b573, li_a585, li_b585, li_a633, li_b633, li_m3, li_n3, li_m4, li_n4, li_m48, li_n48, li_m50, li_n50, li_m585, li_n585, li_m633, li_n633, li_lt2, li_ge2, li_le2, li_gt2, li_lt1, li_ge1, li_le1, li_gt1, li_lt3, li_ge3, li_le3, li_gt3, li_lt4, li_ge4, li_le4, li_gt4, li_lt7, li_ge7, li_le7, li_gt7, li_lt8, li_ge8, li_le8, li_gt8, li_lt40, li_ge40, li_le40, li_gt40, li_lt240, li_ge240, li_le240, li_gt240, li_lt41, li_ge41, li_le41, li_gt41, li_lt48, li_ge48, li_le48, li_gt48, li_lt49, li_ge49, li_le49, li_gt49, li_lt60, li_ge60, li_le60, li_gt60, li_lt144, li_ge144, li_le144, li_gt144, li_lt145, li_ge145, li_le145, li_gt145, li_lt160, li_ge160, li_le160, li_gt160, li_lt336, li_ge336, li_le336, li_gt336, li_lt585, li_ge585, li_le585, li_gt585, li_lt633, li_ge633, li_le633, li_gt633, li_lt1000000, li_ge1000000, li_le1000000, li_gt1000000, li_lt2304, li_ge2304, li_le2304, li_gt2304, li_lt50, li_ge50, li_le50, li_gt50, li_le0, li_gt0]
      refine ⟨fun q => by omega, fun _ => ⟨fun q => by omega, fun _ => ?_⟩⟩
      have e : m + 1 + d = m + (d + 1) := by omega
      rw [e] at h3
      exact h3 post hp
theorem xw_pairParts {f_trials f_drafted f_pairs f_metCount f_meetingCount : Int32} {a_held a_saved a_draft a_toldBefore a_pairX a_pairY a_stack a_met a_metAs a_copies a_meetings a_wasMeeting a_firstMet a_depths a_isKept : Nat → Int32} (h : xv_H a_held) {u v m : Nat} (hu : u < 48) (hv : v < 48) (hm : m ≤ 141) (e : f_pairs = nI m) : ∃ px py : Nat → Int32, (∀ i, i < m → px i = a_pairX i ∧ py i = a_pairY i) ∧ (∀ k, k < ma_ct (xv_K a_held u) → px (m + k) = nI (xv_P a_held u k) ∧ py (m + k) = nI (xv_P a_held v k)) ∧ ∀ post : SX → Prop, post (f_trials, f_drafted, nI (m + ma_ct (xv_K a_held u)), f_metCount, f_meetingCount, a_held, a_saved, a_draft, a_toldBefore, px, py, a_stack, a_met, a_metAs, a_copies, a_meetings, a_wasMeeting, a_firstMet, a_depths, a_isKept) → wpX_pairParts post (f_trials, f_drafted, f_pairs, f_metCount, f_meetingCount, a_held, a_saved, a_draft, a_toldBefore, a_pairX, a_pairY, a_stack, a_met, a_metAs, a_copies, a_meetings, a_wasMeeting, a_firstMet, a_depths, a_isKept) (nI u) (nI v) := by
  obtain ⟨e1, l1⟩ := xv_HC h hu
  obtain ⟨px, py, h1, h2, h3⟩ := xw_pairParts_14 (f_trials := f_trials) (f_drafted := f_drafted) (f_pairs := f_pairs) (f_metCount := f_metCount) (f_meetingCount := f_meetingCount) (a_held := a_held) (a_saved := a_saved) (a_draft := a_draft) (a_toldBefore := a_toldBefore) (a_pairX := a_pairX) (a_pairY := a_pairY) (a_stack := a_stack) (a_met := a_met) (a_metAs := a_metAs) (a_copies := a_copies) (a_meetings := a_meetings) (a_wasMeeting := a_wasMeeting) (a_firstMet := a_firstMet) (a_depths := a_depths) (a_isKept := a_isKept) hu hv l1 (ma_ct (xv_K a_held u)) 0 m a_pairX a_pairY (by omega) (by omega)
  refine ⟨px, py, h1, ?_, fun post hp => ?_⟩
  · intro k hk
    obtain ⟨g1, g2⟩ := h2 k (by omega) hk
    rw [Nat.sub_zero] at g1 g2
    rw [g1, g2, (xv_HP h hu (by omega)).1, (xv_HP h hv (by omega)).1]
    exact ⟨rfl, rfl⟩
  · unfold wpX_pairParts
    simp (disch := omega) only [forall_eq, true_and, and_true, Nat.zero_add, nI_clamp, li_vin, nI_add, nI_eq, nI_leI, nI_ltI, li_0le, li_lt0, li_nn1, li_e0, not_true_eq_false, not_false_eq_true, false_implies, true_implies, forall_const, li_a0, li_b0, li_a1, li_b1, li_a2, li_b2, li_a3, li_b3, li_a7, li_b7, li_a8, li_b8, li_a16, li_b16, li_a48, li_b48, li_a584, li_b584, li_a572, li_b572, li_a96, li_b96, li_a144, li_b144, li_a192, li_b192, li_a240, li_b240, li_a336, li_b336, li_a384, li_b384, li_a432, li_b432, li_a480, li_b480, li_a488, li_b488, li_a496, li_b496, li_a504, li_b504, li_a512, li_b512, li_a520, li_b520, li_a524, li_b524, li_a528, li_b528, li_a536, li_b536, li_a544, li_b544, li_a552, li_b552, li_a560, li_b560, li_a568, li_b568, li_a573, li_b573, li_a585, li_b585, li_a633, li_b633, li_m3, li_n3, li_m4, li_n4, li_m48, li_n48, li_m50, li_n50, li_m585, li_n585, li_m633, li_n633, li_lt2, li_ge2, li_le2, li_gt2, li_lt1, li_ge1, li_le1, li_gt1, li_lt3, li_ge3, li_le3, li_gt3, li_lt4, li_ge4, li_le4, li_gt4, li_lt7, li_ge7, li_le7, li_gt7, li_lt8, li_ge8, li_le8, li_gt8, li_lt40, li_ge40, li_le40, li_gt40, li_lt240, li_ge240, li_le240, li_gt240, li_lt41, li_ge41, li_le41, li_gt41, li_lt48, li_ge48, li_le48, li_gt48, li_lt49, li_ge49, li_le49, li_gt49, li_lt60, li_ge60, li_le60, li_gt60, li_lt144, li_ge144, li_le144, li_gt144, li_lt145, li_ge145, li_le145, li_gt145, li_lt160, li_ge160, li_le160, li_gt160, li_lt336, li_ge336, li_le336, li_gt336, li_lt585, li_ge585, li_le585, li_gt585, li_lt633, li_ge633, li_le633, li_gt633, li_lt1000000, li_ge1000000, li_le1000000, li_gt1000000, li_lt2304, li_ge2304, li_le2304, li_gt2304, li_lt50, li_ge50, li_le50, li_gt50, li_le0, li_gt0, e1, e]
    exact ⟨_, h3 post hp⟩
end
section
def xm_p (f : Nat → Int32) (j : Nat) : Nat := (f j).toNatClampNeg
theorem xm_p_nI {f : Nat → Int32} {j x : Nat} (h : f j = nI x) (hx : x < 48) : xm_p f j = x := by
  unfold xm_p; rw [h, nI_clamp (by omega)]
theorem xm_m {a0 : Nat → Int32} {Q0 : Nat → Nat → Prop} {a : Nat → Int32} {px py : Nat → Nat} {i m : Nat} {vd : Int32} (h : xm_I a0 Q0 a px py i m vd) : m ≤ 144 := by
  by_cases z : m = 0
  · omega
  · have u := (h.2.2.1.2.1 0 (by omega)).1
    have w := h.2.2.1.1 _ u
    have := ma_cnt_pos (p := fun v => decide (xv_L a v = v)) (n := 48) (i := xv_L a (px 0)) w.2.1.1 (decide_eq_true w.2.2.1)
    have := h.2.2.2
    omega
theorem xw_merge_140 {f_trials f_drafted f_pairs f_metCount f_meetingCount : Int32} {a_held a_saved a_draft a_toldBefore a_pairX a_pairY a_stack a_met a_metAs a_copies a_meetings a_wasMeeting a_firstMet a_depths a_isKept : Nat → Int32} {u v i : Nat} {x1 : Int32} (hu : u < 48) (hv : v < 48) (ne : u ≠ v) : ∃ (a' : Nat → Int32) (lo hi : Nat), xm_lh u v lo hi ∧ xj_J a_held a' lo hi ∧ ∀ (post : Int32 → SX → Prop) (J4 : Int32 → Int32 → Int32 → Int32 → Int32 → Int32 → Int32 → (Nat → Int32) → (Nat → Int32) → (Nat → Int32) → (Nat → Int32) → (Nat → Int32) → (Nat → Int32) → (Nat → Int32) → (Nat → Int32) → (Nat → Int32) → (Nat → Int32) → (Nat → Int32) → (Nat → Int32) → (Nat → Int32) → (Nat → Int32) → (Nat → Int32) → Prop), J4 x1 (nI (i + 1)) f_trials f_drafted f_pairs f_metCount f_meetingCount a' a_saved a_draft a_toldBefore a_pairX a_pairY a_stack a_met a_metAs a_copies a_meetings a_wasMeeting a_firstMet a_depths a_isKept → wX_merge_140 post J4 x1 (nI i) (nI u) (nI v) f_trials f_drafted f_pairs f_metCount f_meetingCount a_held a_saved a_draft a_toldBefore a_pairX a_pairY a_stack a_met a_metAs a_copies a_meetings a_wasMeeting a_firstMet a_depths a_isKept := by
  by_cases q : v ≤ u
  · obtain ⟨a', h1, h2⟩ := xw_join (f_trials := f_trials) (f_drafted := f_drafted) (f_pairs := f_pairs) (f_metCount := f_metCount) (f_meetingCount := f_meetingCount) (a_held := a_held) (a_saved := a_saved) (a_draft := a_draft) (a_toldBefore := a_toldBefore) (a_pairX := a_pairX) (a_pairY := a_pairY) (a_stack := a_stack) (a_met := a_met) (a_metAs := a_metAs) (a_copies := a_copies) (a_meetings := a_meetings) (a_wasMeeting := a_wasMeeting) (a_firstMet := a_firstMet) (a_depths := a_depths) (a_isKept := a_isKept) hv hu (fun e => ne e.symm)
    refine ⟨a', v, u, ⟨by omega, Or.inr ⟨rfl, rfl⟩⟩, h1, fun post J4 hp => ?_⟩
    unfold wX_merge_140
    simp (disch := omega) only [forall_eq, true_and, and_true, Nat.zero_add, nI_clamp, li_vin, nI_add, nI_eq, nI_leI, nI_ltI, li_0le, li_lt0, li_nn1, li_e0, not_true_eq_false, not_false_eq_true, false_implies, true_implies, forall_const, li_a0, li_b0, li_a1, li_b1, li_a2, li_b2, li_a3, li_b3, li_a7, li_b7, li_a8, li_b8, li_a16, li_b16, li_a48, li_b48, li_a584, li_b584, li_a572, li_b572, li_a96, li_b96, li_a144, li_b144, li_a192, li_b192, li_a240, li_b240, li_a336, li_b336, li_a384, li_b384, li_a432, li_b432, li_a480, li_b480, li_a488, li_b488, li_a496, li_b496, li_a504, li_b504, li_a512, li_b512, li_a520, li_b520, li_a524, li_b524, li_a528, li_b528, li_a536, li_b536, li_a544, li_b544, li_a552, li_b552, li_a560, li_b560, li_a568, li_b568, li_a573, li_b573, li_a585, li_b585, li_a633, li_b633, li_m3, li_n3, li_m4, li_n4, li_m48, li_n48, li_m50, li_n50, li_m585, li_n585, li_m633, li_n633, li_lt2, li_ge2, li_le2, li_gt2, li_lt1, li_ge1, li_le1, li_gt1, li_lt3, li_ge3, li_le3, li_gt3, li_lt4, li_ge4, li_le4, li_gt4, li_lt7, li_ge7, li_le7, li_gt7, li_lt8, li_ge8, li_le8, li_gt8, li_lt40, li_ge40, li_le40, li_gt40, li_lt240, li_ge240, li_le240, li_gt240, li_lt41, li_ge41, li_le41, li_gt41, li_lt48, li_ge48, li_le48, li_gt48, li_lt49, li_ge49, li_le49, li_gt49, li_lt60, li_ge60, li_le60, li_gt60, li_lt144, li_ge144, li_le144, li_gt144, li_lt145, li_ge145, li_le145, li_gt145, li_lt160, li_ge160, li_le160, li_gt160, li_lt336, li_ge336, li_le336, li_gt336, li_lt585, li_ge585, li_le585, li_gt585, li_lt633, li_ge633, li_le633, li_gt633, li_lt1000000, li_ge1000000, li_le1000000, li_gt1000000, li_lt2304, li_ge2304, li_le2304, li_gt2304, li_lt50, li_ge50, li_le50, li_gt50, li_le0, li_gt0]
    exact ⟨fun _ => h2 _ hp, fun z => absurd q z⟩
  · obtain ⟨a', h1, h2⟩ := xw_join (f_trials := f_trials) (f_drafted := f_drafted) (f_pairs := f_pairs) (f_metCount := f_metCount) (f_meetingCount := f_meetingCount) (a_held := a_held) (a_saved := a_saved) (a_draft := a_draft) (a_toldBefore := a_toldBefore) (a_pairX := a_pairX) (a_pairY := a_pairY) (a_stack := a_stack) (a_met := a_met) (a_metAs := a_metAs) (a_copies := a_copies) (a_meetings := a_meetings) (a_wasMeeting := a_wasMeeting) (a_firstMet := a_firstMet) (a_depths := a_depths) (a_isKept := a_isKept) hu hv ne
    refine ⟨a', u, v, ⟨by omega, Or.inl ⟨rfl, rfl⟩⟩, h1, fun post J4 hp => ?_⟩
    unfold wX_merge_140
    simp (disch := omega) only [forall_eq, true_and, and_true, Nat.zero_add, nI_clamp, li_vin, nI_add, nI_eq, nI_leI, nI_ltI, li_0le, li_lt0, li_nn1, li_e0, not_true_eq_false, not_false_eq_true, false_implies, true_implies, forall_const, li_a0, li_b0, li_a1, li_b1, li_a2, li_b2, li_a3, li_b3, li_a7, li_b7, li_a8, li_b8, li_a16, li_b16, li_a48, li_b48, li_a584, li_b584, li_a572, li_b572, li_a96, li_b96, li_a144, li_b144, li_a192, li_b192, li_a240, li_b240, li_a336, li_b336, li_a384, li_b384, li_a432, li_b432, li_a480, li_b480, li_a488, li_b488, li_a496, li_b496, li_a504, li_b504, li_a512, li_b512, li_a520, li_b520, li_a524, li_b524, li_a528, li_b528, li_a536, li_b536, li_a544, li_b544, li_a552, li_b552, li_a560, li_b560, li_a568, li_b568, li_a573, li_b573, li_a585, li_b585, li_a633, li_b633, li_m3, li_n3, li_m4, li_n4, li_m48, li_n48, li_m50, li_n50, li_m585, li_n585, li_m633, li_n633, li_lt2, li_ge2, li_le2, li_gt2, li_lt1, li_ge1, li_le1, li_gt1, li_lt3, li_ge3, li_le3, li_gt3, li_lt4, li_ge4, li_le4, li_gt4, li_lt7, li_ge7, li_le7, li_gt7, li_lt8, li_ge8, li_le8, li_gt8, li_lt40, li_ge40, li_le40, li_gt40, li_lt240, li_ge240, li_le240, li_gt240, li_lt41, li_ge41, li_le41, li_gt41, li_lt48, li_ge48, li_le48, li_gt48, li_lt49, li_ge49, li_le49, li_gt49, li_lt60, li_ge60, li_le60, li_gt60, li_lt144, li_ge144, li_le144, li_gt144, li_lt145, li_ge145, li_le145, li_gt145, li_lt160, li_ge160, li_le160, li_gt160, li_lt336, li_ge336, li_le336, li_gt336, li_lt585, li_ge585, li_le585, li_gt585, li_lt633, li_ge633, li_le633, li_gt633, li_lt1000000, li_ge1000000, li_le1000000, li_gt1000000, li_lt2304, li_ge2304, li_le2304, li_gt2304, li_lt50, li_ge50, li_le50, li_gt50, li_le0, li_gt0]
    exact ⟨fun z => absurd z q, fun _ => h2 _ hp⟩
theorem xw_merge_4 {f_trials f_drafted f_pairs f_metCount f_meetingCount : Int32} {a_held a_saved a_draft a_toldBefore a_pairX a_pairY a_stack a_met a_metAs a_copies a_meetings a_wasMeeting a_firstMet a_depths a_isKept : Nat → Int32} {a0 : Nat → Int32} {Q0 : Nat → Nat → Prop} : ∀ d i m (vd : Int32) (a_held a_pairX a_pairY : Nat → Int32), i + d = 144 → i ≤ m → (∀ j, j < m → a_pairX j = nI (xm_p a_pairX j) ∧ a_pairY j = nI (xm_p a_pairY j)) → xm_I a0 Q0 a_held (xm_p a_pairX) (xm_p a_pairY) i m vd → ∃ (r : Int32) (m' : Nat) (a' px' py' : Nat → Int32), ((r = 2 ∧ ma_No (xv_U a0) (xv_L a0) (xv_T a0) Q0) ∨ (∃ i', m' ≤ i' ∧ xm_I a0 Q0 a' (xm_p px') (xm_p py') i' m' r)) ∧ (∀ j, 336 ≤ j → a' j = a0 j) ∧ ∀ post : Int32 → SX → Prop, post r (f_trials, f_drafted, nI m', f_metCount, f_meetingCount, a', a_saved, a_draft, a_toldBefore, px', py', a_stack, a_met, a_metAs, a_copies, a_meetings, a_wasMeeting, a_firstMet, a_depths, a_isKept) → wX_merge_4 post (d + 1) vd (nI i) f_trials f_drafted (nI m) f_metCount f_meetingCount a_held a_saved a_draft a_toldBefore a_pairX a_pairY a_stack a_met a_metAs a_copies a_meetings a_wasMeeting a_firstMet a_depths a_isKept := by
  intro d
  induction d with
  | zero =>
    intro i m vd a px py hd him hp hI
    have hm := xm_m hI
    refine ⟨vd, m, a, px, py, Or.inr ⟨i, by omega, hI⟩, hI.2.1, fun post hpo => ?_⟩
    unfold wX_merge_4
    simp (disch := omega) only [forall_eq, true_and, and_true, Nat.zero_add, nI_clamp, li_vin, nI_add, nI_eq, nI_leI, nI_ltI, li_0le, li_lt0, li_nn1, li_e0, not_true_eq_false, not_false_eq_true, false_implies, true_implies, forall_const, li_a0, li_b0, li_a1, li_b1, li_a2, li_b2, li_a3, li_b3, li_a7, li_b7, li_a8, li_b8, li_a16, li_b16, li_a48, li_b48, li_a584, li_b584, li_a572, li_b572, li_a96, li_b96, li_a144, li_b144, li_a192, li_b192, li_a240, li_b240, li_a336, li_b336, li_a384, li_b384, li_a432, li_b432, li_a480, li_b480, li_a488, li_b488, li_a496, li_b496, li_a504, li_b504, li_a512, li_b512, li_a520, li_b520, li_a524, li_b524, li_a528, li_b528, li_a536, li_b536, li_a544, li_b544, li_a552, li_b552, li_a560, li_b560, li_a568, li_b568, li_a573, li_b573, li_a585, li_b585, li_a633, li_b633, li_m3, li_n3, li_m4, li_n4, li_m48, li_n48, li_m50, li_n50, li_m585, li_n585, li_m633, li_n633, li_lt2, li_ge2, li_le2, li_gt2, li_lt1, li_ge1, li_le1, li_gt1, li_lt3, li_ge3, li_le3, li_gt3, li_lt4, li_ge4, li_le4, li_gt4, li_lt7, li_ge7, li_le7, li_gt7, li_lt8, li_ge8, li_le8, li_gt8, li_lt40, li_ge40, li_le40, li_gt40, li_lt240, li_ge240, li_le240, li_gt240, li_lt41, li_ge41, li_le41, li_gt41, li_lt48, li_ge48, li_le48, li_gt48, li_lt49, li_ge49, li_le49, li_gt49, li_lt60, li_ge60, li_le60, li_gt60, li_lt144, li_ge144, li_le144, li_gt144, li_lt145, li_ge145, li_le145, li_gt145, li_lt160, li_ge160, li_le160, li_gt160, li_lt336, li_ge336, li_le336, li_gt336, li_lt585, li_ge585, li_le585, li_gt585, li_lt633, li_ge633, li_le633, li_gt633, li_lt1000000, li_ge1000000, li_le1000000, li_gt1000000, li_lt2304, li_ge2304, li_le2304, li_gt2304, li_lt50, li_ge50, li_le50, li_gt50, li_le0, li_gt0]
    exact ⟨fun _ => hpo, fun q => by omega⟩
  | succ d ih =>
    intro i m vd a px py hd him hp hI
    have hm := xm_m hI
    by_cases z : m ≤ i
    · refine ⟨vd, m, a, px, py, Or.inr ⟨i, z, hI⟩, hI.2.1, fun post hpo => ?_⟩
      unfold wX_merge_4
      simp (disch := omega) only [forall_eq, true_and, and_true, Nat.zero_add, nI_clamp, li_vin, nI_add, nI_eq, nI_leI, nI_ltI, li_0le, li_lt0, li_nn1, li_e0, not_true_eq_false, not_false_eq_true, false_implies, true_implies, forall_const, li_a0, li_b0, li_a1, li_b1, li_a2, li_b2, li_a3, li_b3, li_a7, li_b7, li_a8, li_b8, li_a16, li_b16, li_a48, li_b48, li_a584, li_b584, li_a572, li_b572, li_a96, li_b96, li_a144, li_b144, li_a192, li_b192, li_a240, li_b240, li_a336, li_b336, li_a384, li_b384, li_a432, li_b432, li_a480, li_b480, li_a488, li_b488, li_a496, li_b496, li_a504, li_b504, li_a512, li_b512, li_a520, li_b520, li_a524, li_b524, li_a528, li_b528, li_a536, li_b536, li_a544, li_b544, li_a552, li_b552, li_a560, li_b560, li_a568, li_b568, li_a573, li_b573, li_a585, li_b585, li_a633, li_b633, li_m3, li_n3, li_m4, li_n4, li_m48, li_n48, li_m50, li_n50, li_m585, li_n585, li_m633, li_n633, li_lt2, li_ge2, li_le2, li_gt2, li_lt1, li_ge1, li_le1, li_gt1, li_lt3, li_ge3, li_le3, li_gt3, li_lt4, li_ge4, li_le4, li_gt4, li_lt7, li_ge7, li_le7, li_gt7, li_lt8, li_ge8, li_le8, li_gt8, li_lt40, li_ge40, li_le40, li_gt40, li_lt240, li_ge240, li_le240, li_gt240, li_lt41, li_ge41, li_le41, li_gt41, li_lt48, li_ge48, li_le48, li_gt48, li_lt49, li_ge49, li_le49, li_gt49, li_lt60, li_ge60, li_le60, li_gt60, li_lt144, li_ge144, li_le144, li_gt144, li_lt145, li_ge145, li_le145, li_gt145, li_lt160, li_ge160, li_le160, li_gt160, li_lt336, li_ge336, li_le336, li_gt336, li_lt585, li_ge585, li_le585, li_gt585, li_lt633, li_ge633, li_le633, li_gt633, li_lt1000000, li_ge1000000, li_le1000000, li_gt1000000, li_lt2304, li_ge2304, li_le2304, li_gt2304, li_lt50, li_ge50, li_le50, li_gt50, li_le0, li_gt0]
      exact ⟨fun q => by omega, fun _ => ⟨fun _ => hpo, fun q => by omega⟩⟩
    · have im : i < m := by omega
      obtain ⟨pX, pY⟩ := hp i im
      have uxy := hI.2.2.1.2.1 i im
      have x48 : xm_p px i < 48 := uxy.1.1
      have y48 : xm_p py i < 48 := uxy.2.1
      obtain ⟨eA, lA⟩ := xv_HL hI.1 x48
      obtain ⟨eB, lB⟩ := xv_HL hI.1 y48
      have kA := xv_HK (a := a) lA
      have kB := xv_HK (a := a) lB
      have vA := xv_HV (a := a) lA
      have vB := xv_HV (a := a) lB
      by_cases e : xv_L a (xm_p px i) = xv_L a (xm_p py i)
      · obtain ⟨r, m', a', px', py', h1, h2, h3⟩ := ih (i + 1) m vd a px py (by omega) (by omega) hp (xm_skip hI im e)
        refine ⟨r, m', a', px', py', h1, h2, fun post hpo => ?_⟩
        unfold wX_merge_4
        simp (disch := omega) only [forall_eq, true_and, and_true, Nat.zero_add, nI_clamp, li_vin, nI_add, nI_eq, nI_leI, nI_ltI, li_0le, li_lt0, li_nn1, li_e0, not_true_eq_false, not_false_eq_true, false_implies, true_implies, forall_const, li_a0, li_b0, li_a1, li_b1, li_a2, li_b2, li_a3, li_b3, li_a7, li_b7, li_a8, li_b8, li_a16, li_b16, li_a48, li_b48, li_a584, li_b584, li_a572, li_b572, li_a96, li_b96, li_a144, li_b144, li_a192, li_b192, li_a240, li_b240, li_a336, li_b336, li_a384, li_b384, li_a432, li_b432, li_a480, li_b480, li_a488, li_b488, li_a496, li_b496, li_a504, li_b504, li_a512, li_b512, li_a520, li_b520, li_a524, li_b524, li_a528, li_b528, li_a536, li_b536, li_a544, li_b544, li_a552, li_b552, li_a560, li_b560, li_a568, li_b568, li_a573, li_b573, li_a585, li_b585, li_a633, li_b633, li_m3, li_n3, li_m4, li_n4, li_m48, li_n48, li_m50, li_n50, li_m585, li_n585, li_m633, li_n633, li_lt2, li_ge2, li_le2, li_gt2, li_lt1, li_ge1, li_le1, li_gt1, li_lt3, li_ge3, li_le3, li_gt3, li_lt4, li_ge4, li_le4, li_gt4, li_lt7, li_ge7, li_le7, li_gt7, li_lt8, li_ge8, li_le8, li_gt8, li_lt40, li_ge40, li_le40, li_gt40, li_lt240, li_ge240, li_le240, li_gt240, li_lt41, li_ge41, li_le41, li_gt41, li_lt48, li_ge48, li_le48, li_gt48, li_lt49, li_ge49, li_le49, li_gt49, li_lt60, li_ge60, li_le60, li_gt60, li_lt144, li_ge144, li_le144, li_gt144, li_lt145, li_ge145, li_le145, li_gt145, li_lt160, li_ge160, li_le160, li_gt160, li_lt336, li_ge336, li_le336, li_gt336, li_lt585, li_ge585, li_le585, li_gt585, li_lt633, li_ge633, li_le633, li_gt633, li_lt1000000, li_ge1000000, li_le1000000, li_gt1000000, li_lt2304, li_ge2304, li_le2304, li_gt2304, li_lt50, li_ge50, li_le50, li_gt50, li_le0, li_gt0, pX, pY, eA, eB]
        exact ⟨fun q => by omega, fun _ => ⟨fun q => by omega, fun _ => ⟨fun _ => h3 post hpo, fun q => absurd e q⟩⟩⟩
      · obtain ⟨m141, _⟩ := xm_rep hI im e
        by_cases f : xv_K a (xv_L a (xm_p px i)) = 0 ∨ xv_K a (xv_L a (xm_p py i)) = 0
        · obtain ⟨a1, lo, hi, lh, j, hw⟩ := xw_merge_140 (f_trials := f_trials) (f_drafted := f_drafted) (f_pairs := nI m) (f_metCount := f_metCount) (f_meetingCount := f_meetingCount) (a_held := a) (a_saved := a_saved) (a_draft := a_draft) (a_toldBefore := a_toldBefore) (a_pairX := px) (a_pairY := py) (a_stack := a_stack) (a_met := a_met) (a_metAs := a_metAs) (a_copies := a_copies) (a_meetings := a_meetings) (a_wasMeeting := a_wasMeeting) (a_firstMet := a_firstMet) (a_depths := a_depths) (a_isKept := a_isKept) (i := i) (x1 := 3) lA lB e
          obtain ⟨r, m', a', px', py', h1, h2, h3⟩ := ih (i + 1) m 3 a1 px py (by omega) (by omega) hp (xm_free hI im lh j f)
          refine ⟨r, m', a', px', py', h1, h2, fun post hpo => ?_⟩
          unfold wX_merge_4
          simp (disch := omega) only [forall_eq, true_and, and_true, Nat.zero_add, nI_clamp, li_vin, nI_add, nI_eq, nI_leI, nI_ltI, li_0le, li_lt0, li_nn1, li_e0, not_true_eq_false, not_false_eq_true, false_implies, true_implies, forall_const, li_a0, li_b0, li_a1, li_b1, li_a2, li_b2, li_a3, li_b3, li_a7, li_b7, li_a8, li_b8, li_a16, li_b16, li_a48, li_b48, li_a584, li_b584, li_a572, li_b572, li_a96, li_b96, li_a144, li_b144, li_a192, li_b192, li_a240, li_b240, li_a336, li_b336, li_a384, li_b384, li_a432, li_b432, li_a480, li_b480, li_a488, li_b488, li_a496, li_b496, li_a504, li_b504, li_a512, li_b512, li_a520, li_b520, li_a524, li_b524, li_a528, li_b528, li_a536, li_b536, li_a544, li_b544, li_a552, li_b552, li_a560, li_b560, li_a568, li_b568, li_a573, li_b573, li_a585, li_b585, li_a633, li_b633, li_m3, li_n3, li_m4, li_n4, li_m48, li_n48, li_m50, li_n50, li_m585, li_n585, li_m633, li_n633, li_lt2, li_ge2, li_le2, li_gt2, li_lt1, li_ge1, li_le1, li_gt1, li_lt3, li_ge3, li_le3, li_gt3, li_lt4, li_ge4, li_le4, li_gt4, li_lt7, li_ge7, li_le7, li_gt7, li_lt8, li_ge8, li_le8, li_gt8, li_lt40, li_ge40, li_le40, li_gt40, li_lt240, li_ge240, li_le240, li_gt240, li_lt41, li_ge41, li_le41, li_gt41, li_lt48, li_ge48, li_le48, li_gt48, li_lt49, li_ge49, li_le49, li_gt49, li_lt60, li_ge60, li_le60, li_gt60, li_lt144, li_ge144, li_le144, li_gt144, li_lt145, li_ge145, li_le145, li_gt145, li_lt160, li_ge160, li_le160, li_gt160, li_lt336, li_ge336, li_le336, li_gt336, li_lt585, li_ge585, li_le585, li_gt585, li_lt633, li_ge633, li_le633, li_gt633, li_lt1000000, li_ge1000000, li_le1000000, li_gt1000000, li_lt2304, li_ge2304, li_le2304, li_gt2304, li_lt50, li_ge50, li_le50, li_gt50, li_le0, li_gt0, pX, pY, eA, eB, kA, kB]
          refine ⟨fun q => by omega, fun _ => ⟨fun q => by omega, fun _ => ⟨fun q => absurd q e, fun _ => ⟨fun _ => hw _ _ (h3 post hpo), fun k1 => ⟨fun _ => hw _ _ (h3 post hpo), fun k2 => ?_⟩⟩⟩⟩⟩
          exact absurd f (fun f => f.elim k1 k2)
        · have k1 : xv_K a (xv_L a (xm_p px i)) ≠ 0 := fun q => f (Or.inl q)
          have k2 : xv_K a (xv_L a (xm_p py i)) ≠ 0 := fun q => f (Or.inr q)
          by_cases s : xv_K a (xv_L a (xm_p px i)) = xv_K a (xv_L a (xm_p py i)) ∧ xv_V a (xv_L a (xm_p px i)) = xv_V a (xv_L a (xm_p py i))
          · obtain ⟨px1, py1, g1, g2, g3⟩ := xw_pairParts (f_trials := f_trials) (f_drafted := f_drafted) (f_pairs := nI m) (f_metCount := f_metCount) (f_meetingCount := f_meetingCount) (a_held := a) (a_saved := a_saved) (a_draft := a_draft) (a_toldBefore := a_toldBefore) (a_pairX := px) (a_pairY := py) (a_stack := a_stack) (a_met := a_met) (a_metAs := a_metAs) (a_copies := a_copies) (a_meetings := a_meetings) (a_wasMeeting := a_wasMeeting) (a_firstMet := a_firstMet) (a_depths := a_depths) (a_isKept := a_isKept) hI.1 lA lB m141 rfl
            obtain ⟨a1, lo, hi, lh, j, hw⟩ := xw_merge_140 (f_trials := f_trials) (f_drafted := f_drafted) (f_pairs := nI (m + ma_ct (xv_K a (xv_L a (xm_p px i))))) (f_metCount := f_metCount) (f_meetingCount := f_meetingCount) (a_held := a) (a_saved := a_saved) (a_draft := a_draft) (a_toldBefore := a_toldBefore) (a_pairX := px1) (a_pairY := py1) (a_stack := a_stack) (a_met := a_met) (a_metAs := a_metAs) (a_copies := a_copies) (a_meetings := a_meetings) (a_wasMeeting := a_wasMeeting) (a_firstMet := a_firstMet) (a_depths := a_depths) (a_isKept := a_isKept) (i := i) (x1 := vd) lA lB e
            have c3 := ma_ct_le (xv_K a (xv_L a (xm_p px i)))
            have eP : ∀ j, j < m → xm_p px1 j = xm_p px j ∧ xm_p py1 j = xm_p py j := by
              intro j hj
              unfold xm_p
              rw [(g1 j hj).1, (g1 j hj).2]
              exact ⟨rfl, rfl⟩
            have nP : ∀ k, k < ma_ct (xv_K a (xv_L a (xm_p px i))) → xm_p px1 (m + k) = xv_P a (xv_L a (xm_p px i)) k ∧ xm_p py1 (m + k) = xv_P a (xv_L a (xm_p py i)) k := by
              intro k hk
              exact ⟨xm_p_nI (g2 k hk).1 (xv_HP hI.1 lA (by omega)).2, xm_p_nI (g2 k hk).2 (xv_HP hI.1 lB (by omega)).2⟩
            have hI' := xm_val hI im lh j k1 k2 s.1 s.2 eP nP
            obtain ⟨r, m', a', px', py', h1, h2, h3⟩ := ih (i + 1) (m + ma_ct (xv_K a (xv_L a (xm_p px i)))) vd a1 px1 py1 (by omega) (by omega) (by
              intro j hj
              by_cases w : j < m
              · rw [(eP j w).1, (eP j w).2, (g1 j w).1, (g1 j w).2]; exact hp j w
              · obtain ⟨n1, n2⟩ := nP (j - m) (by omega)
                obtain ⟨o1, o2⟩ := g2 (j - m) (by omega)
                rw [show m + (j - m) = j from by omega] at n1 n2 o1 o2
                rw [n1, n2, o1, o2]; exact ⟨rfl, rfl⟩) hI'
            refine ⟨r, m', a', px', py', h1, h2, fun post hpo => ?_⟩
            unfold wX_merge_4
            simp (disch := omega) only [forall_eq, true_and, and_true, Nat.zero_add, nI_clamp, li_vin, nI_add, nI_eq, nI_leI, nI_ltI, li_0le, li_lt0, li_nn1, li_e0, not_true_eq_false, not_false_eq_true, false_implies, true_implies, forall_const, li_a0, li_b0, li_a1, li_b1, li_a2, li_b2, li_a3, li_b3, li_a7, li_b7, li_a8, li_b8, li_a16, li_b16, li_a48, li_b48, li_a584, li_b584, li_a572, li_b572, li_a96, li_b96, li_a144, li_b144, li_a192, li_b192, li_a240, li_b240, li_a336, li_b336, li_a384, li_b384, li_a432, li_b432, li_a480, li_b480, li_a488, li_b488, li_a496, li_b496, li_a504, li_b504, li_a512, li_b512, li_a520, li_b520, li_a524, li_b524, li_a528, li_b528, li_a536, li_b536, li_a544, li_b544, li_a552, li_b552, li_a560, li_b560, li_a568, li_b568, li_a573, li_b573, li_a585, li_b585, li_a633, li_b633, li_m3, li_n3, li_m4, li_n4, li_m48, li_n48, li_m50, li_n50, li_m585, li_n585, li_m633, li_n633, li_lt2, li_ge2, li_le2, li_gt2, li_lt1, li_ge1, li_le1, li_gt1, li_lt3, li_ge3, li_le3, li_gt3, li_lt4, li_ge4, li_le4, li_gt4, li_lt7, li_ge7, li_le7, li_gt7, li_lt8, li_ge8, li_le8, li_gt8, li_lt40, li_ge40, li_le40, li_gt40, li_lt240, li_ge240, li_le240, li_gt240, li_lt41, li_ge41, li_le41, li_gt41, li_lt48, li_ge48, li_le48, li_gt48, li_lt49, li_ge49, li_le49, li_gt49, li_lt60, li_ge60, li_le60, li_gt60, li_lt144, li_ge144, li_le144, li_gt144, li_lt145, li_ge145, li_le145, li_gt145, li_lt160, li_ge160, li_le160, li_gt160, li_lt336, li_ge336, li_le336, li_gt336, li_lt585, li_ge585, li_le585, li_gt585, li_lt633, li_ge633, li_le633, li_gt633, li_lt1000000, li_ge1000000, li_le1000000, li_gt1000000, li_lt2304, li_ge2304, li_le2304, li_gt2304, li_lt50, li_ge50, li_le50, li_gt50, li_le0, li_gt0, pX, pY, eA, eB, kA, kB, vA, vB]
            exact ⟨fun q => by omega, fun _ => ⟨fun q => by omega, fun _ => ⟨fun q => absurd q e, fun _ => ⟨fun q => absurd q k1, fun _ => ⟨fun q => absurd q k2, fun _ => ⟨fun _ => ⟨fun _ => g3 _ (hw _ _ (h3 post hpo)), fun q => absurd s.2 q⟩, fun q => absurd s.1 q⟩⟩⟩⟩⟩⟩
          · refine ⟨2, m, a, px, py, Or.inl ⟨rfl, xm_no hI im k1 k2 ?_⟩, hI.2.1, fun post hpo => ?_⟩
            · by_cases s1 : xv_K a (xv_L a (xm_p px i)) = xv_K a (xv_L a (xm_p py i))
              · exact Or.inr (fun q => s ⟨s1, q⟩)
              · exact Or.inl s1
            · unfold wX_merge_4
              simp (disch := omega) only [forall_eq, true_and, and_true, Nat.zero_add, nI_clamp, li_vin, nI_add, nI_eq, nI_leI, nI_ltI, li_0le, li_lt0, li_nn1, li_e0, not_true_eq_false, not_false_eq_true, false_implies, true_implies, forall_const, li_a0, li_b0, li_a1, li_b1, li_a2, li_b2, li_a3, li_b3, li_a7, li_b7, li_a8, li_b8, li_a16, li_b16, li_a48, li_b48, li_a584, li_b584, li_a572, li_b572, li_a96, li_b96, li_a144, li_b144, li_a192, li_b192, li_a240, li_b240, li_a336, li_b336, li_a384, li_b384, li_a432, li_b432, li_a480, li_b480, li_a488, li_b488, li_a496, li_b496, li_a504, li_b504, li_a512, li_b512, li_a520, li_b520, li_a524, li_b524, li_a528, li_b528, li_a536, li_b536, li_a544, li_b544, li_a552, li_b552, li_a560, li_b560, li_a568, li_b568, li_a573, li_b573, li_a585, li_b585, li_a633, li_b633, li_m3, li_n3, li_m4, li_n4, li_m48, li_n48, li_m50, li_n50, li_m585, li_n585, li_m633, li_n633, li_lt2, li_ge2, li_le2, li_gt2, li_lt1, li_ge1, li_le1, li_gt1, li_lt3, li_ge3, li_le3, li_gt3, li_lt4, li_ge4, li_le4, li_gt4, li_lt7, li_ge7, li_le7, li_gt7, li_lt8, li_ge8, li_le8, li_gt8, li_lt40, li_ge40, li_le40, li_gt40, li_lt240, li_ge240, li_le240, li_gt240, li_lt41, li_ge41, li_le41, li_gt41, li_lt48, li_ge48, li_le48, li_gt48, li_lt49, li_ge49, li_le49, li_gt49, li_lt60, li_ge60, li_le60, li_gt60, li_lt144, li_ge144, li_le144, li_gt144, li_lt145, li_ge145, li_le145, li_gt145, li_lt160, li_ge160, li_le160, li_gt160, li_lt336, li_ge336, li_le336, li_gt336, li_lt585, li_ge585, li_le585, li_gt585, li_lt633, li_ge633, li_le633, li_gt633, li_lt1000000, li_ge1000000, li_le1000000, li_gt1000000, li_lt2304, li_ge2304, li_le2304, li_gt2304, li_lt50, li_ge50, li_le50, li_gt50, li_le0, li_gt0, pX, pY, eA, eB, kA, kB, vA, vB]
              exact ⟨fun q => by omega, fun _ => ⟨fun q => by omega, fun _ => ⟨fun q => absurd q e, fun _ => ⟨fun q => absurd q k1, fun _ => ⟨fun q => absurd q k2, fun _ => ⟨fun s1 => ⟨fun s2 => absurd ⟨s1, s2⟩ s, fun _ => hpo⟩, fun _ => hpo⟩⟩⟩⟩⟩⟩
theorem xw_merge {f_trials f_drafted f_pairs f_metCount f_meetingCount : Int32} {a_held a_saved a_draft a_toldBefore a_pairX a_pairY a_stack a_met a_metAs a_copies a_meetings a_wasMeeting a_firstMet a_depths a_isKept : Nat → Int32} (g : xv_G a_held) {m : Nat} (hm : m ≤ 3) (hf : f_pairs = nI m) (hp : ∀ j, j < m → (a_pairX j = nI (xm_p a_pairX j) ∧ xv_U a_held (xm_p a_pairX j)) ∧ a_pairY j = nI (xm_p a_pairY j) ∧ xv_U a_held (xm_p a_pairY j)) : ∃ (r : Int32) (m' : Nat) (a' px' py' : Nat → Int32), ((r = 2 ∧ ma_No (xv_U a_held) (xv_L a_held) (xv_T a_held) (ma_Q (xm_p a_pairX) (xm_p a_pairY) 0 m)) ∨ (∃ i', m' ≤ i' ∧ xm_I a_held (ma_Q (xm_p a_pairX) (xm_p a_pairY) 0 m) a' (xm_p px') (xm_p py') i' m' r)) ∧ (∀ j, 336 ≤ j → a' j = a_held j) ∧ ∀ post : Int32 → SX → Prop, post r (f_trials, f_drafted, nI m', f_metCount, f_meetingCount, a', a_saved, a_draft, a_toldBefore, px', py', a_stack, a_met, a_metAs, a_copies, a_meetings, a_wasMeeting, a_firstMet, a_depths, a_isKept) → wpX_merge post (f_trials, f_drafted, f_pairs, f_metCount, f_meetingCount, a_held, a_saved, a_draft, a_toldBefore, a_pairX, a_pairY, a_stack, a_met, a_metAs, a_copies, a_meetings, a_wasMeeting, a_firstMet, a_depths, a_isKept) := by
  obtain ⟨r, m', a', px', py', h1, h2, h3⟩ := xw_merge_4 (f_trials := f_trials) (f_drafted := f_drafted) (f_pairs := f_pairs) (f_metCount := f_metCount) (f_meetingCount := f_meetingCount) (a_held := a_held) (a_saved := a_saved) (a_draft := a_draft) (a_toldBefore := a_toldBefore) (a_pairX := a_pairX) (a_pairY := a_pairY) (a_stack := a_stack) (a_met := a_met) (a_metAs := a_metAs) (a_copies := a_copies) (a_meetings := a_meetings) (a_wasMeeting := a_wasMeeting) (a_firstMet := a_firstMet) (a_depths := a_depths) (a_isKept := a_isKept) (a0 := a_held) (Q0 := ma_Q (xm_p a_pairX) (xm_p a_pairY) 0 m) 144 0 m 1 a_held a_pairX a_pairY rfl (by omega) (fun j hj => ⟨(hp j hj).1.1, (hp j hj).2.1⟩) (xm_0 g hm (fun j hj => ⟨(hp j hj).1.2, (hp j hj).2.2⟩))
  refine ⟨r, m', a', px', py', h1, h2, fun post hpo => ?_⟩
  subst hf
  exact ⟨_, h3 post hpo⟩
end
section
theorem xm_Q1 {f g : Nat → Int32} {x y : Nat} (hx : x < 48) (hy : y < 48) : ma_Q (xm_p (upd f 0 (nI x))) (xm_p (upd g 0 (nI y))) 0 1 = ma_1 x y := by
  rw [ma_Q1, xm_p_nI (pk_us (f := f)) hx, xm_p_nI (pk_us (f := g)) hy]
theorem xm_hp1 {a f g : Nat → Int32} {x y : Nat} (hx : xv_U a x) (hy : xv_U a y) : ∀ j, j < 1 → (upd f 0 (nI x) j = nI (xm_p (upd f 0 (nI x)) j) ∧ xv_U a (xm_p (upd f 0 (nI x)) j)) ∧ upd g 0 (nI y) j = nI (xm_p (upd g 0 (nI y)) j) ∧ xv_U a (xm_p (upd g 0 (nI y)) j) := by
  intro j hj
  have e : j = 0 := by omega
  rw [e, xm_p_nI (pk_us (f := f)) hx.1, xm_p_nI (pk_us (f := g)) hy.1, pk_us, pk_us]
  exact ⟨⟨rfl, hx⟩, rfl, hy⟩
theorem xw_likeness {f_trials f_drafted f_pairs f_metCount f_meetingCount : Int32} {a_held a_saved a_draft a_toldBefore a_pairX a_pairY a_stack a_met a_metAs a_copies a_meetings a_wasMeeting a_firstMet a_depths a_isKept : Nat → Int32} (g : xv_G a_held) {x y : Nat} (hx : xv_U a_held x) (hy : xv_U a_held y) : ∃ (m' : Nat) (tb px' py' : Nat → Int32), ∀ post : Int32 → SX → Prop, post (ma_vd (xv_U a_held) (xv_L a_held) (xv_T a_held) x y) (f_trials, f_drafted, nI m', f_metCount, f_meetingCount, a_held, a_saved, a_draft, tb, px', py', a_stack, a_met, a_metAs, a_copies, a_meetings, a_wasMeeting, a_firstMet, a_depths, a_isKept) → wpX_likeness post (f_trials, f_drafted, f_pairs, f_metCount, f_meetingCount, a_held, a_saved, a_draft, a_toldBefore, a_pairX, a_pairY, a_stack, a_met, a_metAs, a_copies, a_meetings, a_wasMeeting, a_firstMet, a_depths, a_isKept) (nI x) (nI y) := by
  obtain ⟨tb, t1, t2⟩ := xw_rememberTold (f_trials := f_trials) (f_drafted := f_drafted) (f_pairs := f_pairs) (f_metCount := f_metCount) (f_meetingCount := f_meetingCount) (a_held := a_held) (a_saved := a_saved) (a_draft := a_draft) (a_toldBefore := a_toldBefore) (a_pairX := a_pairX) (a_pairY := a_pairY) (a_stack := a_stack) (a_met := a_met) (a_metAs := a_metAs) (a_copies := a_copies) (a_meetings := a_meetings) (a_wasMeeting := a_wasMeeting) (a_firstMet := a_firstMet) (a_depths := a_depths) (a_isKept := a_isKept)
  obtain ⟨r, m', a', px', py', h1, h2, h3⟩ := xw_merge (f_trials := f_trials) (f_drafted := f_drafted) (f_pairs := 1) (f_metCount := f_metCount) (f_meetingCount := f_meetingCount) (a_held := a_held) (a_saved := a_saved) (a_draft := a_draft) (a_toldBefore := tb) (a_pairX := upd a_pairX 0 (nI x)) (a_pairY := upd a_pairY 0 (nI y)) (a_stack := a_stack) (a_met := a_met) (a_metAs := a_metAs) (a_copies := a_copies) (a_meetings := a_meetings) (a_wasMeeting := a_wasMeeting) (a_firstMet := a_firstMet) (a_depths := a_depths) (a_isKept := a_isKept) g (m := 1) (by omega) rfl (xm_hp1 hx hy)
  obtain ⟨a'', c1, c2, c3⟩ := xw_recallTold (f_trials := f_trials) (f_drafted := f_drafted) (f_pairs := nI m') (f_metCount := f_metCount) (f_meetingCount := f_meetingCount) (a_held := a') (a_saved := a_saved) (a_draft := a_draft) (a_toldBefore := tb) (a_pairX := px') (a_pairY := py') (a_stack := a_stack) (a_met := a_met) (a_metAs := a_metAs) (a_copies := a_copies) (a_meetings := a_meetings) (a_wasMeeting := a_wasMeeting) (a_firstMet := a_firstMet) (a_depths := a_depths) (a_isKept := a_isKept)
  have e : a'' = a_held := by
    funext i
    by_cases q : i < 336
    · rw [c1 i q, t1 i q]
    · rw [c2 i (by omega), h2 i (by omega)]
  have er : r = ma_vd (xv_U a_held) (xv_L a_held) (xv_T a_held) x y := by
    rw [xm_Q1 hx.1 hy.1] at h1
    rcases h1 with ⟨q1, q2⟩ | ⟨i', q1, q2⟩
    · rw [q1, lk_2 q2]
    · rcases xm_vd q2 with z | z
      · rw [z] at q2 ⊢
        rw [lk_1 q2 q1]
      · rw [z] at q2 ⊢
        rw [lk_3 q2 q1]
  refine ⟨m', tb, px', py', fun post hp => ?_⟩
  unfold wpX_likeness
  refine t2 _ ?_
  intro _ e1 _ e2
  subst e1 e2
  refine h3 _ (c3 _ ?_)
  rw [e, er]
  exact hp
theorem xw_undone_no {f_trials f_drafted f_pairs f_metCount f_meetingCount : Int32} {a_held a_saved a_draft a_toldBefore a_pairX a_pairY a_stack a_met a_metAs a_copies a_meetings a_wasMeeting a_firstMet a_depths a_isKept : Nat → Int32} : ∃ a' : Nat → Int32, (∀ i, i < 336 → a' i = a_toldBefore i) ∧ (∀ i, 336 ≤ i → a' i = a_held i) ∧ ∀ post : Int32 → SX → Prop, post 2 (f_trials, f_drafted, f_pairs, f_metCount, f_meetingCount, a', a_saved, a_draft, a_toldBefore, a_pairX, a_pairY, a_stack, a_met, a_metAs, a_copies, a_meetings, a_wasMeeting, a_firstMet, a_depths, a_isKept) → wpX_undoneIfFailed post (f_trials, f_drafted, f_pairs, f_metCount, f_meetingCount, a_held, a_saved, a_draft, a_toldBefore, a_pairX, a_pairY, a_stack, a_met, a_metAs, a_copies, a_meetings, a_wasMeeting, a_firstMet, a_depths, a_isKept) 2 := by
  obtain ⟨a', c1, c2, c3⟩ := xw_recallTold (f_trials := f_trials) (f_drafted := f_drafted) (f_pairs := f_pairs) (f_metCount := f_metCount) (f_meetingCount := f_meetingCount) (a_held := a_held) (a_saved := a_saved) (a_draft := a_draft) (a_toldBefore := a_toldBefore) (a_pairX := a_pairX) (a_pairY := a_pairY) (a_stack := a_stack) (a_met := a_met) (a_metAs := a_metAs) (a_copies := a_copies) (a_meetings := a_meetings) (a_wasMeeting := a_wasMeeting) (a_firstMet := a_firstMet) (a_depths := a_depths) (a_isKept := a_isKept)
  refine ⟨a', c1, c2, fun post hp => ?_⟩
  unfold wpX_undoneIfFailed
  exact br_t rfl (c3 _ hp)
theorem xw_undone_ok {f_trials f_drafted f_pairs f_metCount f_meetingCount : Int32} {a_held a_saved a_draft a_toldBefore a_pairX a_pairY a_stack a_met a_metAs a_copies a_meetings a_wasMeeting a_firstMet a_depths a_isKept : Nat → Int32} {r : Int32} (hr : r ≠ 2) : ∀ post : Int32 → SX → Prop, post 1 (f_trials, f_drafted, f_pairs, f_metCount, f_meetingCount, a_held, a_saved, a_draft, a_toldBefore, a_pairX, a_pairY, a_stack, a_met, a_metAs, a_copies, a_meetings, a_wasMeeting, a_firstMet, a_depths, a_isKept) → wpX_undoneIfFailed post (f_trials, f_drafted, f_pairs, f_metCount, f_meetingCount, a_held, a_saved, a_draft, a_toldBefore, a_pairX, a_pairY, a_stack, a_met, a_metAs, a_copies, a_meetings, a_wasMeeting, a_firstMet, a_depths, a_isKept) r := by
  intro post hp
  unfold wpX_undoneIfFailed
  exact br_f hr hp
/-- what a telling by pairs leaves -/
def xt_R (a a' : Nat → Int32) (Q : Nat → Nat → Prop) (r : Int32) : Prop :=
  (r = 2 ∧ a' = a ∧ ma_No (xv_U a) (xv_L a) (xv_T a) Q) ∨ (r = 1 ∧ ∃ (px py : Nat → Nat) (i m : Nat) (vd : Int32), m ≤ i ∧ xm_I a Q a' px py i m vd)
theorem xw_tellEqual {f_trials f_drafted f_pairs f_metCount f_meetingCount : Int32} {a_held a_saved a_draft a_toldBefore a_pairX a_pairY a_stack a_met a_metAs a_copies a_meetings a_wasMeeting a_firstMet a_depths a_isKept : Nat → Int32} (g : xv_G a_held) {x y : Nat} (hx : xv_U a_held x) (hy : xv_U a_held y) : ∃ (r : Int32) (m' : Nat) (a' tb px' py' : Nat → Int32), xt_R a_held a' (ma_1 x y) r ∧ ∀ post : Int32 → SX → Prop, post r (f_trials, f_drafted, nI m', f_metCount, f_meetingCount, a', a_saved, a_draft, tb, px', py', a_stack, a_met, a_metAs, a_copies, a_meetings, a_wasMeeting, a_firstMet, a_depths, a_isKept) → wpX_tellEqual post (f_trials, f_drafted, f_pairs, f_metCount, f_meetingCount, a_held, a_saved, a_draft, a_toldBefore, a_pairX, a_pairY, a_stack, a_met, a_metAs, a_copies, a_meetings, a_wasMeeting, a_firstMet, a_depths, a_isKept) (nI x) (nI y) := by
  obtain ⟨tb, t1, t2⟩ := xw_rememberTold (f_trials := f_trials) (f_drafted := f_drafted) (f_pairs := f_pairs) (f_metCount := f_metCount) (f_meetingCount := f_meetingCount) (a_held := a_held) (a_saved := a_saved) (a_draft := a_draft) (a_toldBefore := a_toldBefore) (a_pairX := a_pairX) (a_pairY := a_pairY) (a_stack := a_stack) (a_met := a_met) (a_metAs := a_metAs) (a_copies := a_copies) (a_meetings := a_meetings) (a_wasMeeting := a_wasMeeting) (a_firstMet := a_firstMet) (a_depths := a_depths) (a_isKept := a_isKept)
  obtain ⟨r, m', a', px', py', h1, h2, h3⟩ := xw_merge (f_trials := f_trials) (f_drafted := f_drafted) (f_pairs := 1) (f_metCount := f_metCount) (f_meetingCount := f_meetingCount) (a_held := a_held) (a_saved := a_saved) (a_draft := a_draft) (a_toldBefore := tb) (a_pairX := upd a_pairX 0 (nI x)) (a_pairY := upd a_pairY 0 (nI y)) (a_stack := a_stack) (a_met := a_met) (a_metAs := a_metAs) (a_copies := a_copies) (a_meetings := a_meetings) (a_wasMeeting := a_wasMeeting) (a_firstMet := a_firstMet) (a_depths := a_depths) (a_isKept := a_isKept) g (m := 1) (by omega) rfl (xm_hp1 hx hy)
  rw [xm_Q1 hx.1 hy.1] at h1
  rcases h1 with ⟨q1, q2⟩ | ⟨i', q1, q2⟩
  · obtain ⟨a'', c1, c2, c3⟩ := xw_undone_no (f_trials := f_trials) (f_drafted := f_drafted) (f_pairs := nI m') (f_metCount := f_metCount) (f_meetingCount := f_meetingCount) (a_held := a') (a_saved := a_saved) (a_draft := a_draft) (a_toldBefore := tb) (a_pairX := px') (a_pairY := py') (a_stack := a_stack) (a_met := a_met) (a_metAs := a_metAs) (a_copies := a_copies) (a_meetings := a_meetings) (a_wasMeeting := a_wasMeeting) (a_firstMet := a_firstMet) (a_depths := a_depths) (a_isKept := a_isKept)
    have e : a'' = a_held := by
      funext i
      by_cases q : i < 336
      · rw [c1 i q, t1 i q]
      · rw [c2 i (by omega), h2 i (by omega)]
    refine ⟨2, m', a_held, tb, px', py', Or.inl ⟨rfl, rfl, q2⟩, fun post hp => ?_⟩
    unfold wpX_tellEqual
    refine t2 _ ?_
    intro _ e1 _ e2
    subst e1 e2
    refine h3 _ ?_
    rw [q1]
    refine c3 _ ?_
    rw [e]
    exact hp
  · refine ⟨1, m', a', tb, px', py', Or.inr ⟨rfl, xm_p px', xm_p py', i', m', r, q1, q2⟩, fun post hp => ?_⟩
    have hr : r ≠ 2 := by
      rcases xm_vd q2 with z | z
      · rw [z]; decide
      · rw [z]; decide
    unfold wpX_tellEqual
    refine t2 _ ?_
    intro _ e1 _ e2
    subst e1 e2
    exact h3 _ (xw_undone_ok (f_trials := f_trials) (f_drafted := f_drafted) (f_pairs := nI m') (f_metCount := f_metCount) (f_meetingCount := f_meetingCount) (a_held := a') (a_saved := a_saved) (a_draft := a_draft) (a_toldBefore := tb) (a_pairX := px') (a_pairY := py') (a_stack := a_stack) (a_met := a_met) (a_metAs := a_metAs) (a_copies := a_copies) (a_meetings := a_meetings) (a_wasMeeting := a_wasMeeting) (a_firstMet := a_firstMet) (a_depths := a_depths) (a_isKept := a_isKept) hr _ hp)
theorem xw_note_26 {f_trials f_drafted f_pairs f_metCount f_meetingCount : Int32} {a_held a_saved a_draft a_toldBefore a_pairX a_pairY a_stack a_met a_metAs a_copies a_meetings a_wasMeeting a_firstMet a_depths a_isKept : Nat → Int32} {n : Nat} (hn : n < 1000000) : ∀ post : SX → Prop, post (f_trials, f_drafted, f_pairs, f_metCount, f_meetingCount, upd a_held 584 (nI (n + 1)), a_saved, a_draft, a_toldBefore, a_pairX, a_pairY, a_stack, a_met, a_metAs, a_copies, a_meetings, a_wasMeeting, a_firstMet, a_depths, a_isKept) → wX_note_26 post (nI n) f_trials f_drafted f_pairs f_metCount f_meetingCount a_held a_saved a_draft a_toldBefore a_pairX a_pairY a_stack a_met a_metAs a_copies a_meetings a_wasMeeting a_firstMet a_depths a_isKept := by
  intro post hp
  unfold wX_note_26
  simp (disch := omega) only [forall_eq, true_and, and_true, Nat.zero_add, nI_clamp, li_vin, nI_add, nI_eq, nI_leI, nI_ltI, li_0le, li_lt0, li_nn1, li_e0, not_true_eq_false, not_false_eq_true, false_implies, true_implies, forall_const, li_a0, li_b0, li_a1, li_b1, li_a2, li_b2, li_a3, li_b3, li_a7, li_b7, li_a8, li_b8, li_a16, li_b16, li_a48, li_b48, li_a584, li_b584, li_a572, li_b572, li_a96, li_b96, li_a144, li_b144, li_a192, li_b192, li_a240, li_b240, li_a336, li_b336, li_a384, li_b384, li_a432, li_b432, li_a480, li_b480, li_a488, li_b488, li_a496, li_b496, li_a504, li_b504, li_a512, li_b512, li_a520, li_b520, li_a524, li_b524, li_a528, li_b528, li_a536, li_b536, li_a544, li_b544, li_a552, li_b552, li_a560, li_b560, li_a568, li_b568, li_a573, li_b573, li_a585, li_b585, li_a633, li_b633, li_m3, li_n3, li_m4, li_n4, li_m48, li_n48, li_m50, li_n50, li_m585, li_n585, li_m633, li_n633, li_lt2, li_ge2, li_le2, li_gt2, li_lt1, li_ge1, li_le1, li_gt1, li_lt3, li_ge3, li_le3, li_gt3, li_lt4, li_ge4, li_le4, li_gt4, li_lt7, li_ge7, li_le7, li_gt7, li_lt8, li_ge8, li_le8, li_gt8, li_lt40, li_ge40, li_le40, li_gt40, li_lt240, li_ge240, li_le240, li_gt240, li_lt41, li_ge41, li_le41, li_gt41, li_lt48, li_ge48, li_le48, li_gt48, li_lt49, li_ge49, li_le49, li_gt49, li_lt60, li_ge60, li_le60, li_gt60, li_lt144, li_ge144, li_le144, li_gt144, li_lt145, li_ge145, li_le145, li_gt145, li_lt160, li_ge160, li_le160, li_gt160, li_lt336, li_ge336, li_le336, li_gt336, li_lt585, li_ge585, li_le585, li_gt585, li_lt633, li_ge633, li_le633, li_gt633, li_lt1000000, li_ge1000000, li_le1000000, li_gt1000000, li_lt2304, li_ge2304, li_le2304, li_gt2304, li_lt50, li_ge50, li_le50, li_gt50, li_le0, li_gt0]
  exact ⟨fun q => by omega, fun _ => hp⟩
theorem xw_note {f_trials f_drafted f_pairs f_metCount f_meetingCount : Int32} {a_held a_saved a_draft a_toldBefore a_pairX a_pairY a_stack a_met a_metAs a_copies a_meetings a_wasMeeting a_firstMet a_depths a_isKept : Nat → Int32} {n : Nat} {w : Int32} (hn : n < 1000000) (e : a_held 584 = nI n) : ∃ a' : Nat → Int32, nt_X a_held a' w ∧ ∀ post : SX → Prop, post (f_trials, f_drafted, f_pairs, f_metCount, f_meetingCount, a', a_saved, a_draft, a_toldBefore, a_pairX, a_pairY, a_stack, a_met, a_metAs, a_copies, a_meetings, a_wasMeeting, a_firstMet, a_depths, a_isKept) → wpX_note post (f_trials, f_drafted, f_pairs, f_metCount, f_meetingCount, a_held, a_saved, a_draft, a_toldBefore, a_pairX, a_pairY, a_stack, a_met, a_metAs, a_copies, a_meetings, a_wasMeeting, a_firstMet, a_depths, a_isKept) w := by
  by_cases q : n < 60
  · refine ⟨upd (upd a_held (524 + n) w) 584 (nI (n + 1)), ⟨n, hn, e, pk_us, fun _ => ?_, fun i h1 h2 => ?_⟩, fun post hp => ?_⟩
    · rw [pk_un (by omega), pk_us]
    · rw [pk_un h1, pk_un (by omega)]
    · unfold wpX_note
      simp (disch := omega) only [forall_eq, true_and, and_true, Nat.zero_add, nI_clamp, li_vin, nI_add, nI_eq, nI_leI, nI_ltI, li_0le, li_lt0, li_nn1, li_e0, not_true_eq_false, not_false_eq_true, false_implies, true_implies, forall_const, li_a0, li_b0, li_a1, li_b1, li_a2, li_b2, li_a3, li_b3, li_a7, li_b7, li_a8, li_b8, li_a16, li_b16, li_a48, li_b48, li_a584, li_b584, li_a572, li_b572, li_a96, li_b96, li_a144, li_b144, li_a192, li_b192, li_a240, li_b240, li_a336, li_b336, li_a384, li_b384, li_a432, li_b432, li_a480, li_b480, li_a488, li_b488, li_a496, li_b496, li_a504, li_b504, li_a512, li_b512, li_a520, li_b520, li_a524, li_b524, li_a528, li_b528, li_a536, li_b536, li_a544, li_b544, li_a552, li_b552, li_a560, li_b560, li_a568, li_b568, li_a573, li_b573, li_a585, li_b585, li_a633, li_b633, li_m3, li_n3, li_m4, li_n4, li_m48, li_n48, li_m50, li_n50, li_m585, li_n585, li_m633, li_n633, li_lt2, li_ge2, li_le2, li_gt2, li_lt1, li_ge1, li_le1, li_gt1, li_lt3, li_ge3, li_le3, li_gt3, li_lt4, li_ge4, li_le4, li_gt4, li_lt7, li_ge7, li_le7, li_gt7, li_lt8, li_ge8, li_le8, li_gt8, li_lt40, li_ge40, li_le40, li_gt40, li_lt240, li_ge240, li_le240, li_gt240, li_lt41, li_ge41, li_le41, li_gt41, li_lt48, li_ge48, li_le48, li_gt48, li_lt49, li_ge49, li_le49, li_gt49, li_lt60, li_ge60, li_le60, li_gt60, li_lt144, li_ge144, li_le144, li_gt144, li_lt145, li_ge145, li_le145, li_gt145, li_lt160, li_ge160, li_le160, li_gt160, li_lt336, li_ge336, li_le336, li_gt336, li_lt585, li_ge585, li_le585, li_gt585, li_lt633, li_ge633, li_le633, li_gt633, li_lt1000000, li_ge1000000, li_le1000000, li_gt1000000, li_lt2304, li_ge2304, li_le2304, li_gt2304, li_lt50, li_ge50, li_le50, li_gt50, li_le0, li_gt0, e]
      exact ⟨fun z => by omega, fun _ => xw_note_26 (f_trials := f_trials) (f_drafted := f_drafted) (f_pairs := f_pairs) (f_metCount := f_metCount) (f_meetingCount := f_meetingCount) (a_held := upd a_held (524 + n) w) (a_saved := a_saved) (a_draft := a_draft) (a_toldBefore := a_toldBefore) (a_pairX := a_pairX) (a_pairY := a_pairY) (a_stack := a_stack) (a_met := a_met) (a_metAs := a_metAs) (a_copies := a_copies) (a_meetings := a_meetings) (a_wasMeeting := a_wasMeeting) (a_firstMet := a_firstMet) (a_depths := a_depths) (a_isKept := a_isKept) hn post hp⟩
  · refine ⟨upd a_held 584 (nI (n + 1)), ⟨n, hn, e, pk_us, fun z => absurd z q, fun i h1 h2 => pk_un h1⟩, fun post hp => ?_⟩
    unfold wpX_note
    simp (disch := omega) only [forall_eq, true_and, and_true, Nat.zero_add, nI_clamp, li_vin, nI_add, nI_eq, nI_leI, nI_ltI, li_0le, li_lt0, li_nn1, li_e0, not_true_eq_false, not_false_eq_true, false_implies, true_implies, forall_const, li_a0, li_b0, li_a1, li_b1, li_a2, li_b2, li_a3, li_b3, li_a7, li_b7, li_a8, li_b8, li_a16, li_b16, li_a48, li_b48, li_a584, li_b584, li_a572, li_b572, li_a96, li_b96, li_a144, li_b144, li_a192, li_b192, li_a240, li_b240, li_a336, li_b336, li_a384, li_b384, li_a432, li_b432, li_a480, li_b480, li_a488, li_b488, li_a496, li_b496, li_a504, li_b504, li_a512, li_b512, li_a520, li_b520, li_a524, li_b524, li_a528, li_b528, li_a536, li_b536, li_a544, li_b544, li_a552, li_b552, li_a560, li_b560, li_a568, li_b568, li_a573, li_b573, li_a585, li_b585, li_a633, li_b633, li_m3, li_n3, li_m4, li_n4, li_m48, li_n48, li_m50, li_n50, li_m585, li_n585, li_m633, li_n633, li_lt2, li_ge2, li_le2, li_gt2, li_lt1, li_ge1, li_le1, li_gt1, li_lt3, li_ge3, li_le3, li_gt3, li_lt4, li_ge4, li_le4, li_gt4, li_lt7, li_ge7, li_le7, li_gt7, li_lt8, li_ge8, li_le8, li_gt8, li_lt40, li_ge40, li_le40, li_gt40, li_lt240, li_ge240, li_le240, li_gt240, li_lt41, li_ge41, li_le41, li_gt41, li_lt48, li_ge48, li_le48, li_gt48, li_lt49, li_ge49, li_le49, li_gt49, li_lt60, li_ge60, li_le60, li_gt60, li_lt144, li_ge144, li_le144, li_gt144, li_lt145, li_ge145, li_le145, li_gt145, li_lt160, li_ge160, li_le160, li_gt160, li_lt336, li_ge336, li_le336, li_gt336, li_lt585, li_ge585, li_le585, li_gt585, li_lt633, li_ge633, li_le633, li_gt633, li_lt1000000, li_ge1000000, li_le1000000, li_gt1000000, li_lt2304, li_ge2304, li_le2304, li_gt2304, li_lt50, li_ge50, li_le50, li_gt50, li_le0, li_gt0, e]
    exact ⟨fun _ => xw_note_26 (f_trials := f_trials) (f_drafted := f_drafted) (f_pairs := f_pairs) (f_metCount := f_metCount) (f_meetingCount := f_meetingCount) (a_held := a_held) (a_saved := a_saved) (a_draft := a_draft) (a_toldBefore := a_toldBefore) (a_pairX := a_pairX) (a_pairY := a_pairY) (a_stack := a_stack) (a_met := a_met) (a_metAs := a_metAs) (a_copies := a_copies) (a_meetings := a_meetings) (a_wasMeeting := a_wasMeeting) (a_firstMet := a_firstMet) (a_depths := a_depths) (a_isKept := a_isKept) hn post hp, fun z => by omega⟩
end
section
def nd_1 (a : Nat → Int32) (c v : Nat) : Prop := a (384 + v) = 1 ∧ xv_L a v = c
def nd_2 (a : Nat → Int32) (c t : Nat) : Prop := a (480 + t) = 3 ∧ a (496 + t) = -1 ∧ ∃ q, q < 48 ∧ a (488 + t) = nI q ∧ xv_L a q = c
theorem nd_or {a : Nat → Int32} {x : Nat} : re_nd a x ↔ ((∃ v, v < 48 ∧ nd_1 a (xv_L a x) v) ∨ ∃ t, t < 8 ∧ nd_2 a (xv_L a x) t) := by
  constructor
  · intro h
    rcases h with ⟨v, h1, h2, h3⟩ | ⟨t, q, h1, h2, h3, h4, h5, h6⟩
    · exact Or.inl ⟨v, h1, h2, h3⟩
    · exact Or.inr ⟨t, h1, h2, h3, q, h4, h5, h6⟩
  · intro h
    rcases h with ⟨v, h1, h2, h3⟩ | ⟨t, h1, h2, h3, q, h4, h5, h6⟩
    · exact Or.inl ⟨v, h1, h2, h3⟩
    · exact Or.inr ⟨t, q, h1, h2, h3, h4, h5, h6⟩
/-- the variables of TESTS that WAIT are in USE -/
def re_T (a : Nat → Int32) : Prop := ∀ t, t < 8 → a (480 + t) = 3 → ∃ q, xv_U a q ∧ a (488 + t) = nI q
theorem re_NT {B : Nat} {a s : Nat → Int32} (h : re_N B a s) : re_T a := fun t ht h3 => ((h.2.2.1 t ht).2.2.2 h3).1
theorem xw_isNeeded_53 {f_trials f_drafted f_pairs f_metCount f_meetingCount : Int32} {a_held a_saved a_draft a_toldBefore a_pairX a_pairY a_stack a_met a_metAs a_copies a_meetings a_wasMeeting a_firstMet a_depths a_isKept : Nat → Int32} (h : xv_H a_held) (hT : re_T a_held) {c : Nat} (hc : c < 48) : ∀ d j, j + d = 8 → (∀ t, t < j → ¬ nd_2 a_held c t) → ∀ post : Int32 → Prop, ((∃ t, t < 8 ∧ nd_2 a_held c t) → post 1) → ((¬ ∃ t, t < 8 ∧ nd_2 a_held c t) → post 0) → wX_isNeeded_53 post (nI c) f_trials f_drafted f_pairs f_metCount f_meetingCount a_held a_saved a_draft a_toldBefore a_pairX a_pairY a_stack a_met a_metAs a_copies a_meetings a_wasMeeting a_firstMet a_depths a_isKept (d + 1) (nI j) := by
  intro d
  induction d with
  | zero =>
    intro j hj hn post h1 h0
    unfold wX_isNeeded_53
    simp (disch := omega) only [forall_eq, true_and, and_true, Nat.zero_add, nI_clamp, li_vin, nI_add, nI_eq, nI_leI, nI_ltI, li_0le, li_lt0, li_nn1, li_e0, not_true_eq_false, not_false_eq_true, false_implies, true_implies, forall_const, li_a0, li_b0, li_a1, li_b1, li_a2, li_b2, li_a3, li_b3, li_a7, li_b7, li_a8, li_b8, li_a16, li_b16, li_a48, li_b48, li_a584, li_b584, li_a572, li_b572, li_a96, li_b96, li_a144, li_b144, li_a192, li_b192, li_a240, li_b240, li_a336, li_b336, li_a384, li_b384, li_a432, li_b432, li_a480, li_b480, li_a488, li_b488, li_a496, li_b496, li_a504, li_b504, li_a512, li_b512, li_a520, li_b520, li_a524, li_b524, li_a528, li_b528, li_a536, li_b536, li_a544, li_b544, li_a552, li_b552, li_a560, li_b560, li_a568, li_b568, li_a573, li_b573, li_a585, li_b585, li_a633, li_b633, li_m3, li_n3, li_m4, li_n4, li_m48, li_n48, li_m50, li_n50, li_m585, li_n585, li_m633, li_n633, li_lt2, li_ge2, li_le2, li_gt2, li_lt1, li_ge1, li_le1, li_gt1, li_lt3, li_ge3, li_le3, li_gt3, li_lt4, li_ge4, li_le4, li_gt4, li_lt7, li_ge7, li_le7, li_gt7, li_lt8, li_ge8, li_le8, li_gt8, li_lt40, li_ge40, li_le40, li_gt40, li_lt240, li_ge240, li_le240, li_gt240, li_lt41, li_ge41, li_le41, li_gt41, li_lt48, li_ge48, li_le48, li_gt48, li_lt49, li_ge49, li_le49, li_gt49, li_lt60, li_ge60, li_le60, li_gt60, li_lt144, li_ge144, li_le144, li_gt144, li_lt145, li_ge145, li_le145, li_gt145, li_lt160, li_ge160, li_le160, li_gt160, li_lt336, li_ge336, li_le336, li_gt336, li_lt585, li_ge585, li_le585, li_gt585, li_lt633, li_ge633, li_le633, li_gt633, li_lt1000000, li_ge1000000, li_le1000000, li_gt1000000, li_lt2304, li_ge2304, li_le2304, li_gt2304, li_lt50, li_ge50, li_le50, li_gt50, li_le0, li_gt0]
    exact ⟨fun _ => h0 (fun ⟨t, ht, q⟩ => hn t (by omega) q), fun q => by omega⟩
  | succ d ih =>
    intro j hj hn post h1 h0
    have go : ¬ nd_2 a_held c j → wX_isNeeded_53 post (nI c) f_trials f_drafted f_pairs f_metCount f_meetingCount a_held a_saved a_draft a_toldBefore a_pairX a_pairY a_stack a_met a_metAs a_copies a_meetings a_wasMeeting a_firstMet a_depths a_isKept (d + 1) (nI (j + 1)) := fun q => ih (j + 1) (by omega) (lt_s hn q) post h1 h0
    rw [wX_isNeeded_53]
    dsimp only
    by_cases a : a_held (480 + j) = 3
    · obtain ⟨q, uq, eq⟩ := hT j (by omega) a
      obtain ⟨el, ll⟩ := xv_HL h uq.1
      have q48 := uq.1
      by_cases b : a_held (496 + j) = -1
      · simp (disch := omega) only [forall_eq, true_and, and_true, Nat.zero_add, nI_clamp, li_vin, nI_add, nI_eq, nI_leI, nI_ltI, li_0le, li_lt0, li_nn1, li_e0, not_true_eq_false, not_false_eq_true, false_implies, true_implies, forall_const, li_a0, li_b0, li_a1, li_b1, li_a2, li_b2, li_a3, li_b3, li_a7, li_b7, li_a8, li_b8, li_a16, li_b16, li_a48, li_b48, li_a584, li_b584, li_a572, li_b572, li_a96, li_b96, li_a144, li_b144, li_a192, li_b192, li_a240, li_b240, li_a336, li_b336, li_a384, li_b384, li_a432, li_b432, li_a480, li_b480, li_a488, li_b488, li_a496, li_b496, li_a504, li_b504, li_a512, li_b512, li_a520, li_b520, li_a524, li_b524, li_a528, li_b528, li_a536, li_b536, li_a544, li_b544, li_a552, li_b552, li_a560, li_b560, li_a568, li_b568, li_a573, li_b573, li_a585, li_b585, li_a633, li_b633, li_m3, li_n3, li_m4, li_n4, li_m48, li_n48, li_m50, li_n50, li_m585, li_n585, li_m633, li_n633, li_lt2, li_ge2, li_le2, li_gt2, li_lt1, li_ge1, li_le1, li_gt1, li_lt3, li_ge3, li_le3, li_gt3, li_lt4, li_ge4, li_le4, li_gt4, li_lt7, li_ge7, li_le7, li_gt7, li_lt8, li_ge8, li_le8, li_gt8, li_lt40, li_ge40, li_le40, li_gt40, li_lt240, li_ge240, li_le240, li_gt240, li_lt41, li_ge41, li_le41, li_gt41, li_lt48, li_ge48, li_le48, li_gt48, li_lt49, li_ge49, li_le49, li_gt49, li_lt60, li_ge60, li_le60, li_gt60, li_lt144, li_ge144, li_le144, li_gt144, li_lt145, li_ge145, li_le145, li_gt145, li_lt160, li_ge160, li_le160, li_gt160, li_lt336, li_ge336, li_le336, li_gt336, li_lt585, li_ge585, li_le585, li_gt585, li_lt633, li_ge633, li_le633, li_gt633, li_lt1000000, li_ge1000000, li_le1000000, li_gt1000000, li_lt2304, li_ge2304, li_le2304, li_gt2304, li_lt50, li_ge50, li_le50, li_gt50, li_le0, li_gt0, a, b, eq, el]
        refine ⟨fun q => by omega, fun _ => ⟨fun e => h1 ⟨j, by omega, a, b, q, q48, eq, e⟩, fun ne => go (fun z => ?_)⟩⟩
        obtain ⟨_, _, q', z1, z2, z3⟩ := z
        have : q' = q := (nI_eq (by omega) (by omega)).mp (by rw [← z2, eq])
        rw [this] at z3
        exact ne z3
      · simp (disch := omega) only [forall_eq, true_and, and_true, Nat.zero_add, nI_clamp, li_vin, nI_add, nI_eq, nI_leI, nI_ltI, li_0le, li_lt0, li_nn1, li_e0, not_true_eq_false, not_false_eq_true, false_implies, true_implies, forall_const, li_a0, li_b0, li_a1, li_b1, li_a2, li_b2, li_a3, li_b3, li_a7, li_b7, li_a8, li_b8, li_a16, li_b16, li_a48, li_b48, li_a584, li_b584, li_a572, li_b572, li_a96, li_b96, li_a144, li_b144, li_a192, li_b192, li_a240, li_b240, li_a336, li_b336, li_a384, li_b384, li_a432, li_b432, li_a480, li_b480, li_a488, li_b488, li_a496, li_b496, li_a504, li_b504, li_a512, li_b512, li_a520, li_b520, li_a524, li_b524, li_a528, li_b528, li_a536, li_b536, li_a544, li_b544, li_a552, li_b552, li_a560, li_b560, li_a568, li_b568, li_a573, li_b573, li_a585, li_b585, li_a633, li_b633, li_m3, li_n3, li_m4, li_n4, li_m48, li_n48, li_m50, li_n50, li_m585, li_n585, li_m633, li_n633, li_lt2, li_ge2, li_le2, li_gt2, li_lt1, li_ge1, li_le1, li_gt1, li_lt3, li_ge3, li_le3, li_gt3, li_lt4, li_ge4, li_le4, li_gt4, li_lt7, li_ge7, li_le7, li_gt7, li_lt8, li_ge8, li_le8, li_gt8, li_lt40, li_ge40, li_le40, li_gt40, li_lt240, li_ge240, li_le240, li_gt240, li_lt41, li_ge41, li_le41, li_gt41, li_lt48, li_ge48, li_le48, li_gt48, li_lt49, li_ge49, li_le49, li_gt49, li_lt60, li_ge60, li_le60, li_gt60, li_lt144, li_ge144, li_le144, li_gt144, li_lt145, li_ge145, li_le145, li_gt145, li_lt160, li_ge160, li_le160, li_gt160, li_lt336, li_ge336, li_le336, li_gt336, li_lt585, li_ge585, li_le585, li_gt585, li_lt633, li_ge633, li_le633, li_gt633, li_lt1000000, li_ge1000000, li_le1000000, li_gt1000000, li_lt2304, li_ge2304, li_le2304, li_gt2304, li_lt50, li_ge50, li_le50, li_gt50, li_le0, li_gt0, a]
        exact ⟨fun q => by omega, fun _ => br_f b (go (fun z => b z.2.1))⟩
    · simp (disch := omega) only [forall_eq, true_and, and_true, Nat.zero_add, nI_clamp, li_vin, nI_add, nI_eq, nI_leI, nI_ltI, li_0le, li_lt0, li_nn1, li_e0, not_true_eq_false, not_false_eq_true, false_implies, true_implies, forall_const, li_a0, li_b0, li_a1, li_b1, li_a2, li_b2, li_a3, li_b3, li_a7, li_b7, li_a8, li_b8, li_a16, li_b16, li_a48, li_b48, li_a584, li_b584, li_a572, li_b572, li_a96, li_b96, li_a144, li_b144, li_a192, li_b192, li_a240, li_b240, li_a336, li_b336, li_a384, li_b384, li_a432, li_b432, li_a480, li_b480, li_a488, li_b488, li_a496, li_b496, li_a504, li_b504, li_a512, li_b512, li_a520, li_b520, li_a524, li_b524, li_a528, li_b528, li_a536, li_b536, li_a544, li_b544, li_a552, li_b552, li_a560, li_b560, li_a568, li_b568, li_a573, li_b573, li_a585, li_b585, li_a633, li_b633, li_m3, li_n3, li_m4, li_n4, li_m48, li_n48, li_m50, li_n50, li_m585, li_n585, li_m633, li_n633, li_lt2, li_ge2, li_le2, li_gt2, li_lt1, li_ge1, li_le1, li_gt1, li_lt3, li_ge3, li_le3, li_gt3, li_lt4, li_ge4, li_le4, li_gt4, li_lt7, li_ge7, li_le7, li_gt7, li_lt8, li_ge8, li_le8, li_gt8, li_lt40, li_ge40, li_le40, li_gt40, li_lt240, li_ge240, li_le240, li_gt240, li_lt41, li_ge41, li_le41, li_gt41, li_lt48, li_ge48, li_le48, li_gt48, li_lt49, li_ge49, li_le49, li_gt49, li_lt60, li_ge60, li_le60, li_gt60, li_lt144, li_ge144, li_le144, li_gt144, li_lt145, li_ge145, li_le145, li_gt145, li_lt160, li_ge160, li_le160, li_gt160, li_lt336, li_ge336, li_le336, li_gt336, li_lt585, li_ge585, li_le585, li_gt585, li_lt633, li_ge633, li_le633, li_gt633, li_lt1000000, li_ge1000000, li_le1000000, li_gt1000000, li_lt2304, li_ge2304, li_le2304, li_gt2304, li_lt50, li_ge50, li_le50, li_gt50, li_le0, li_gt0]
      exact ⟨fun q => by omega, fun _ => br_f a (go (fun z => a z.1))⟩
theorem xw_isNeeded_11 {f_trials f_drafted f_pairs f_metCount f_meetingCount : Int32} {a_held a_saved a_draft a_toldBefore a_pairX a_pairY a_stack a_met a_metAs a_copies a_meetings a_wasMeeting a_firstMet a_depths a_isKept : Nat → Int32} (h : xv_H a_held) (hT : re_T a_held) {c : Nat} (hc : c < 48) : ∀ d j, j + d = 48 → (∀ v, v < j → ¬ nd_1 a_held c v) → ∀ post : Int32 → Prop, (((∃ v, v < 48 ∧ nd_1 a_held c v) ∨ ∃ t, t < 8 ∧ nd_2 a_held c t) → post 1) → ((¬ ((∃ v, v < 48 ∧ nd_1 a_held c v) ∨ ∃ t, t < 8 ∧ nd_2 a_held c t)) → post 0) → wX_isNeeded_11 post (nI c) f_trials f_drafted f_pairs f_metCount f_meetingCount a_held a_saved a_draft a_toldBefore a_pairX a_pairY a_stack a_met a_metAs a_copies a_meetings a_wasMeeting a_firstMet a_depths a_isKept (d + 1) (nI j) := by
  intro d
  induction d with
  | zero =>
    intro j hj hn post h1 h0
    unfold wX_isNeeded_11
    simp (disch := omega) only [forall_eq, true_and, and_true, Nat.zero_add, nI_clamp, li_vin, nI_add, nI_eq, nI_leI, nI_ltI, li_0le, li_lt0, li_nn1, li_e0, not_true_eq_false, not_false_eq_true, false_implies, true_implies, forall_const, li_a0, li_b0, li_a1, li_b1, li_a2, li_b2, li_a3, li_b3, li_a7, li_b7, li_a8, li_b8, li_a16, li_b16, li_a48, li_b48, li_a584, li_b584, li_a572, li_b572, li_a96, li_b96, li_a144, li_b144, li_a192, li_b192, li_a240, li_b240, li_a336, li_b336, li_a384, li_b384, li_a432, li_b432, li_a480, li_b480, li_a488, li_b488, li_a496, li_b496, li_a504, li_b504, li_a512, li_b512, li_a520, li_b520, li_a524, li_b524, li_a528, li_b528, li_a536, li_b536, li_a544, li_b544, li_a552, li_b552, li_a560, li_b560, li_a568, li_b568, li_a573, li_b573, li_a585, li_b585, li_a633, li_b633, li_m3, li_n3, li_m4, li_n4, li_m48, li_n48, li_m50, li_n50, li_m585, li_n585, li_m633, li_n633, li_lt2, li_ge2, li_le2, li_gt2, li_lt1, li_ge1, li_le1, li_gt1, li_lt3, li_ge3, li_le3, li_gt3, li_lt4, li_ge4, li_le4, li_gt4, li_lt7, li_ge7, li_le7, li_gt7, li_lt8, li_ge8, li_le8, li_gt8, li_lt40, li_ge40, li_le40, li_gt40, li_lt240, li_ge240, li_le240, li_gt240, li_lt41, li_ge41, li_le41, li_gt41, li_lt48, li_ge48, li_le48, li_gt48, li_lt49, li_ge49, li_le49, li_gt49, li_lt60, li_ge60, li_le60, li_gt60, li_lt144, li_ge144, li_le144, li_gt144, li_lt145, li_ge145, li_le145, li_gt145, li_lt160, li_ge160, li_le160, li_gt160, li_lt336, li_ge336, li_le336, li_gt336, li_lt585, li_ge585, li_le585, li_gt585, li_lt633, li_ge633, li_le633, li_gt633, li_lt1000000, li_ge1000000, li_le1000000, li_gt1000000, li_lt2304, li_ge2304, li_le2304, li_gt2304, li_lt50, li_ge50, li_le50, li_gt50, li_le0, li_gt0]
    refine ⟨fun _ => ⟨9, ?_⟩, fun q => by omega⟩
    refine xw_isNeeded_53 (f_trials := f_trials) (f_drafted := f_drafted) (f_pairs := f_pairs) (f_metCount := f_metCount) (f_meetingCount := f_meetingCount) (a_held := a_held) (a_saved := a_saved) (a_draft := a_draft) (a_toldBefore := a_toldBefore) (a_pairX := a_pairX) (a_pairY := a_pairY) (a_stack := a_stack) (a_met := a_met) (a_metAs := a_metAs) (a_copies := a_copies) (a_meetings := a_meetings) (a_wasMeeting := a_wasMeeting) (a_firstMet := a_firstMet) (a_depths := a_depths) (a_isKept := a_isKept) h hT hc 8 0 rfl (fun t ht => by omega) post (fun q => h1 (Or.inr q)) (fun q => h0 (fun z => ?_))
    rcases z with ⟨v, hv, z⟩ | z
    · exact hn v (by omega) z
    · exact q z
  | succ d ih =>
    intro j hj hn post h1 h0
    have go : ¬ nd_1 a_held c j → wX_isNeeded_11 post (nI c) f_trials f_drafted f_pairs f_metCount f_meetingCount a_held a_saved a_draft a_toldBefore a_pairX a_pairY a_stack a_met a_metAs a_copies a_meetings a_wasMeeting a_firstMet a_depths a_isKept (d + 1) (nI (j + 1)) := fun q => ih (j + 1) (by omega) (lt_s hn q) post h1 h0
    obtain ⟨el, ll⟩ := xv_HL h (x := j) (by omega)
    rw [wX_isNeeded_11]
    dsimp only
    by_cases a : a_held (384 + j) = 1
    · simp (disch := omega) only [forall_eq, true_and, and_true, Nat.zero_add, nI_clamp, li_vin, nI_add, nI_eq, nI_leI, nI_ltI, li_0le, li_lt0, li_nn1, li_e0, not_true_eq_false, not_false_eq_true, false_implies, true_implies, forall_const, li_a0, li_b0, li_a1, li_b1, li_a2, li_b2, li_a3, li_b3, li_a7, li_b7, li_a8, li_b8, li_a16, li_b16, li_a48, li_b48, li_a584, li_b584, li_a572, li_b572, li_a96, li_b96, li_a144, li_b144, li_a192, li_b192, li_a240, li_b240, li_a336, li_b336, li_a384, li_b384, li_a432, li_b432, li_a480, li_b480, li_a488, li_b488, li_a496, li_b496, li_a504, li_b504, li_a512, li_b512, li_a520, li_b520, li_a524, li_b524, li_a528, li_b528, li_a536, li_b536, li_a544, li_b544, li_a552, li_b552, li_a560, li_b560, li_a568, li_b568, li_a573, li_b573, li_a585, li_b585, li_a633, li_b633, li_m3, li_n3, li_m4, li_n4, li_m48, li_n48, li_m50, li_n50, li_m585, li_n585, li_m633, li_n633, li_lt2, li_ge2, li_le2, li_gt2, li_lt1, li_ge1, li_le1, li_gt1, li_lt3, li_ge3, li_le3, li_gt3, li_lt4, li_ge4, li_le4, li_gt4, li_lt7, li_ge7, li_le7, li_gt7, li_lt8, li_ge8, li_le8, li_gt8, li_lt40, li_ge40, li_le40, li_gt40, li_lt240, li_ge240, li_le240, li_gt240, li_lt41, li_ge41, li_le41, li_gt41, li_lt48, li_ge48, li_le48, li_gt48, li_lt49, li_ge49, li_le49, li_gt49, li_lt60, li_ge60, li_le60, li_gt60, li_lt144, li_ge144, li_le144, li_gt144, li_lt145, li_ge145, li_le145, li_gt145, li_lt160, li_ge160, li_le160, li_gt160, li_lt336, li_ge336, li_le336, li_gt336, li_lt585, li_ge585, li_le585, li_gt585, li_lt633, li_ge633, li_le633, li_gt633, li_lt1000000, li_ge1000000, li_le1000000, li_gt1000000, li_lt2304, li_ge2304, li_le2304, li_gt2304, li_lt50, li_ge50, li_le50, li_gt50, li_le0, li_gt0, a, el]
      exact ⟨fun q => by omega, fun _ => ⟨fun e => h1 (Or.inl ⟨j, by omega, a, e⟩), fun ne => go (fun z => ne z.2)⟩⟩
    · simp (disch := omega) only [forall_eq, true_and, and_true, Nat.zero_add, nI_clamp, li_vin, nI_add, nI_eq, nI_leI, nI_ltI, li_0le, li_lt0, li_nn1, li_e0, not_true_eq_false, not_false_eq_true, false_implies, true_implies, forall_const, li_a0, li_b0, li_a1, li_b1, li_a2, li_b2, li_a3, li_b3, li_a7, li_b7, li_a8, li_b8, li_a16, li_b16, li_a48, li_b48, li_a584, li_b584, li_a572, li_b572, li_a96, li_b96, li_a144, li_b144, li_a192, li_b192, li_a240, li_b240, li_a336, li_b336, li_a384, li_b384, li_a432, li_b432, li_a480, li_b480, li_a488, li_b488, li_a496, li_b496, li_a504, li_b504, li_a512, li_b512, li_a520, li_b520, li_a524, li_b524, li_a528, li_b528, li_a536, li_b536, li_a544, li_b544, li_a552, li_b552, li_a560, li_b560, li_a568, li_b568, li_a573, li_b573, li_a585, li_b585, li_a633, li_b633, li_m3, li_n3, li_m4, li_n4, li_m48, li_n48, li_m50, li_n50, li_m585, li_n585, li_m633, li_n633, li_lt2, li_ge2, li_le2, li_gt2, li_lt1, li_ge1, li_le1, li_gt1, li_lt3, li_ge3, li_le3, li_gt3, li_lt4, li_ge4, li_le4, li_gt4, li_lt7, li_ge7, li_le7, li_gt7, li_lt8, li_ge8, li_le8, li_gt8, li_lt40, li_ge40, li_le40, li_gt40, li_lt240, li_ge240, li_le240, li_gt240, li_lt41, li_ge41, li_le41, li_gt41, li_lt48, li_ge48, li_le48, li_gt48, li_lt49, li_ge49, li_le49, li_gt49, li_lt60, li_ge60, li_le60, li_gt60, li_lt144, li_ge144, li_le144, li_gt144, li_lt145, li_ge145, li_le145, li_gt145, li_lt160, li_ge160, li_le160, li_gt160, li_lt336, li_ge336, li_le336, li_gt336, li_lt585, li_ge585, li_le585, li_gt585, li_lt633, li_ge633, li_le633, li_gt633, li_lt1000000, li_ge1000000, li_le1000000, li_gt1000000, li_lt2304, li_ge2304, li_le2304, li_gt2304, li_lt50, li_ge50, li_le50, li_gt50, li_le0, li_gt0]
      exact ⟨fun q => by omega, fun _ => br_f a (go (fun z => a z.1))⟩
theorem xw_isNeeded {f_trials f_drafted f_pairs f_metCount f_meetingCount : Int32} {a_held a_saved a_draft a_toldBefore a_pairX a_pairY a_stack a_met a_metAs a_copies a_meetings a_wasMeeting a_firstMet a_depths a_isKept : Nat → Int32} (h : xv_H a_held) (hT : re_T a_held) {x : Nat} (hx : x < 48) : ∀ post : Int32 → Prop, (re_nd a_held x → post 1) → (¬ re_nd a_held x → post 0) → wpX_isNeeded post (f_trials, f_drafted, f_pairs, f_metCount, f_meetingCount, a_held, a_saved, a_draft, a_toldBefore, a_pairX, a_pairY, a_stack, a_met, a_metAs, a_copies, a_meetings, a_wasMeeting, a_firstMet, a_depths, a_isKept) (nI x) := by
  intro post h1 h0
  obtain ⟨el, ll⟩ := xv_HL h hx
  unfold wpX_isNeeded
  simp (disch := omega) only [forall_eq, true_and, and_true, Nat.zero_add, nI_clamp, li_vin, nI_add, nI_eq, nI_leI, nI_ltI, li_0le, li_lt0, li_nn1, li_e0, not_true_eq_false, not_false_eq_true, false_implies, true_implies, forall_const, li_a0, li_b0, li_a1, li_b1, li_a2, li_b2, li_a3, li_b3, li_a7, li_b7, li_a8, li_b8, li_a16, li_b16, li_a48, li_b48, li_a584, li_b584, li_a572, li_b572, li_a96, li_b96, li_a144, li_b144, li_a192, li_b192, li_a240, li_b240, li_a336, li_b336, li_a384, li_b384, li_a432, li_b432, li_a480, li_b480, li_a488, li_b488, li_a496, li_b496, li_a504, li_b504, li_a512, li_b512, li_a520, li_b520, li_a524, li_b524, li_a528, li_b528, li_a536, li_b536, li_a544, li_b544, li_a552, li_b552, li_a560, li_b560, li_a568, li_b568, li_a573, li_b573, li_a585, li_b585, li_a633, li_b633, li_m3, li_n3, li_m4, li_n4, li_m48, li_n48, li_m50, li_n50, li_m585, li_n585, li_m633, li_n633, li_lt2, li_ge2, li_le2, li_gt2, li_lt1, li_ge1, li_le1, li_gt1, li_lt3, li_ge3, li_le3, li_gt3, li_lt4, li_ge4, li_le4, li_gt4, li_lt7, li_ge7, li_le7, li_gt7, li_lt8, li_ge8, li_le8, li_gt8, li_lt40, li_ge40, li_le40, li_gt40, li_lt240, li_ge240, li_le240, li_gt240, li_lt41, li_ge41, li_le41, li_gt41, li_lt48, li_ge48, li_le48, li_gt48, li_lt49, li_ge49, li_le49, li_gt49, li_lt60, li_ge60, li_le60, li_gt60, li_lt144, li_ge144, li_le144, li_gt144, li_lt145, li_ge145, li_le145, li_gt145, li_lt160, li_ge160, li_le160, li_gt160, li_lt336, li_ge336, li_le336, li_gt336, li_lt585, li_ge585, li_le585, li_gt585, li_lt633, li_ge633, li_le633, li_gt633, li_lt1000000, li_ge1000000, li_le1000000, li_gt1000000, li_lt2304, li_ge2304, li_le2304, li_gt2304, li_lt50, li_ge50, li_le50, li_gt50, li_le0, li_gt0, el]
  refine ⟨49, ?_⟩
  exact xw_isNeeded_11 (f_trials := f_trials) (f_drafted := f_drafted) (f_pairs := f_pairs) (f_metCount := f_metCount) (f_meetingCount := f_meetingCount) (a_held := a_held) (a_saved := a_saved) (a_draft := a_draft) (a_toldBefore := a_toldBefore) (a_pairX := a_pairX) (a_pairY := a_pairY) (a_stack := a_stack) (a_met := a_met) (a_metAs := a_metAs) (a_copies := a_copies) (a_meetings := a_meetings) (a_wasMeeting := a_wasMeeting) (a_firstMet := a_firstMet) (a_depths := a_depths) (a_isKept := a_isKept) h hT ll 48 0 rfl (fun t ht => by omega) post (fun q => h1 (nd_or.mpr q)) (fun q => h0 (fun z => q (nd_or.mp z)))
/-- the first of eight -/
def fk_1 (P : Nat → Prop) (r : Int32) : Prop := (r = -1 ∧ ∀ k, k < 8 → ¬ P k) ∨ (∃ k, k < 8 ∧ r = nI k ∧ P k ∧ ∀ j, j < k → ¬ P j)
theorem fk_one {P : Nat → Prop} {r r' : Int32} (h : fk_1 P r) (h' : fk_1 P r') : r = r' := by
  rcases h with ⟨a, b⟩ | ⟨k, a, b, c, d⟩
  · rcases h' with ⟨a', b'⟩ | ⟨k', a', b', c', d'⟩
    · rw [a, a']
    · exact absurd c' (b k' a')
  · rcases h' with ⟨a', b'⟩ | ⟨k', a', b', c', d'⟩
    · exact absurd c (b' k a)
    · rcases Nat.lt_trichotomy k k' with q | q | q
      · exact absurd c (d' k q)
      · rw [b, b', q]
      · exact absurd c' (d k' q)
/-- the TRIGGERS' variables are in USE, or they are not set -/
def re_G8 (a : Nat → Int32) : Prop := ∀ k, k < 8 → a (504 + k) = -1 ∨ ∃ x, xv_U a x ∧ a (504 + k) = nI x
theorem re_NG {B : Nat} {a s : Nat → Int32} (h : re_N B a s) : re_G8 a := by
  intro k hk
  rcases (h.2.2.2.1 k hk).2 with q | ⟨x, y, ux, _, e, _⟩
  · exact Or.inl q.1
  · exact Or.inr ⟨x, ux, e⟩
def tg_v (a : Nat → Int32) (k : Nat) : Prop := ∃ x, x < 48 ∧ a (504 + k) = nI x ∧ xv_K a (xv_L a x) ≠ 0
def tg_n (a : Nat → Int32) (k : Nat) : Prop := ∃ x, x < 48 ∧ a (504 + k) = nI x ∧ re_nd a x
theorem tg_un {a : Nat → Int32} {k x x' : Nat} (hx : x < 48) (hx' : x' < 48) (e : a (504 + k) = nI x) (e' : a (504 + k) = nI x') : x' = x := (nI_eq (by omega) (by omega)).mp (by rw [← e', e])
theorem xw_triggerWithValue {f_trials f_drafted f_pairs f_metCount f_meetingCount : Int32} {a_held a_saved a_draft a_toldBefore a_pairX a_pairY a_stack a_met a_metAs a_copies a_meetings a_wasMeeting a_firstMet a_depths a_isKept : Nat → Int32} (h : xv_H a_held) (hG : re_G8 a_held) : ∃ r, fk_1 (tg_v a_held) r ∧ ∀ post : Int32 → Prop, post r → wpX_triggerWithValue post (f_trials, f_drafted, f_pairs, f_metCount, f_meetingCount, a_held, a_saved, a_draft, a_toldBefore, a_pairX, a_pairY, a_stack, a_met, a_metAs, a_copies, a_meetings, a_wasMeeting, a_firstMet, a_depths, a_isKept) := by
  have lp : ∀ d j, j + d = 8 → (∀ t, t < j → ¬ tg_v a_held t) → ∃ r, fk_1 (tg_v a_held) r ∧ ∀ post : Int32 → Prop, post r → wX_triggerWithValue_2 post f_trials f_drafted f_pairs f_metCount f_meetingCount a_held a_saved a_draft a_toldBefore a_pairX a_pairY a_stack a_met a_metAs a_copies a_meetings a_wasMeeting a_firstMet a_depths a_isKept (d + 1) (nI j) := by
    intro d
    induction d with
    | zero =>
      intro j hj hn
      refine ⟨-1, Or.inl ⟨rfl, fun k hk => hn k (by omega)⟩, fun post hp => ?_⟩
      unfold wX_triggerWithValue_2
      simp (disch := omega) only [forall_eq, true_and, and_true, Nat.zero_add, nI_clamp, li_vin, nI_add, nI_eq, nI_leI, nI_ltI, li_0le, li_lt0, li_nn1, li_e0, not_true_eq_false, not_false_eq_true, false_implies, true_implies, forall_const, li_a0, li_b0, li_a1, li_b1, li_a2, li_b2, li_a3, li_b3, li_a7, li_b7, li_a8, li_b8, li_a16, li_b16, li_a48, li_b48, li_a584, li_b584, li_a572, li_b572, li_a96, li_b96, li_a144, li_b144, li_a192, li_b192, li_a240, li_b240, li_a336, li_b336, li_a384, li_b384, li_a432, li_b432, li_a480, li_b480, li_a488, li_b488, li_a496, li_b496, li_a504, li_b504, li_a512, li_b512, li_a520, li_b520, li_a524, li_b524, li_a528, li_b528, li_a536, li_b536, li_a544, li_b544, li_a552, li_b552, li_a560, li_b560, li_a568, li_b568, li_a573, li_b573, li_a585, li_b585, li_a633, li_b633, li_m3, li_n3, li_m4, li_n4, li_m48, li_n48, li_m50, li_n50, li_m585, li_n585, li_m633, li_n633, li_lt2, li_ge2, li_le2, li_gt2, li_lt1, li_ge1, li_le1, li_gt1, li_lt3, li_ge3, li_le3, li_gt3, li_lt4, li_ge4, li_le4, li_gt4, li_lt7, li_ge7, li_le7, li_gt7, li_lt8, li_ge8, li_le8, li_gt8, li_lt40, li_ge40, li_le40, li_gt40, li_lt240, li_ge240, li_le240, li_gt240, li_lt41, li_ge41, li_le41, li_gt41, li_lt48, li_ge48, li_le48, li_gt48, li_lt49, li_ge49, li_le49, li_gt49, li_lt60, li_ge60, li_le60, li_gt60, li_lt144, li_ge144, li_le144, li_gt144, li_lt145, li_ge145, li_le145, li_gt145, li_lt160, li_ge160, li_le160, li_gt160, li_lt336, li_ge336, li_le336, li_gt336, li_lt585, li_ge585, li_le585, li_gt585, li_lt633, li_ge633, li_le633, li_gt633, li_lt1000000, li_ge1000000, li_le1000000, li_gt1000000, li_lt2304, li_ge2304, li_le2304, li_gt2304, li_lt50, li_ge50, li_le50, li_gt50, li_le0, li_gt0]
      exact ⟨fun _ => hp, fun q => by omega⟩
    | succ d ih =>
      intro j hj hn
      rcases hG j (by omega) with a | ⟨x, ux, e⟩
      · obtain ⟨r, r1, r2⟩ := ih (j + 1) (by omega) (lt_s hn (fun ⟨x, z1, z2, _⟩ => by rw [a] at z2; exact (li_nn1 (by omega)).mp z2.symm))
        refine ⟨r, r1, fun post hp => ?_⟩
        rw [wX_triggerWithValue_2]
        dsimp only
        simp (disch := omega) only [forall_eq, true_and, and_true, Nat.zero_add, nI_clamp, li_vin, nI_add, nI_eq, nI_leI, nI_ltI, li_0le, li_lt0, li_nn1, li_e0, not_true_eq_false, not_false_eq_true, false_implies, true_implies, forall_const, li_a0, li_b0, li_a1, li_b1, li_a2, li_b2, li_a3, li_b3, li_a7, li_b7, li_a8, li_b8, li_a16, li_b16, li_a48, li_b48, li_a584, li_b584, li_a572, li_b572, li_a96, li_b96, li_a144, li_b144, li_a192, li_b192, li_a240, li_b240, li_a336, li_b336, li_a384, li_b384, li_a432, li_b432, li_a480, li_b480, li_a488, li_b488, li_a496, li_b496, li_a504, li_b504, li_a512, li_b512, li_a520, li_b520, li_a524, li_b524, li_a528, li_b528, li_a536, li_b536, li_a544, li_b544, li_a552, li_b552, li_a560, li_b560, li_a568, li_b568, li_a573, li_b573, li_a585, li_b585, li_a633, li_b633, li_m3, li_n3, li_m4, li_n4, li_m48, li_n48, li_m50, li_n50, li_m585, li_n585, li_m633, li_n633, li_lt2, li_ge2, li_le2, li_gt2, li_lt1, li_ge1, li_le1, li_gt1, li_lt3, li_ge3, li_le3, li_gt3, li_lt4, li_ge4, li_le4, li_gt4, li_lt7, li_ge7, li_le7, li_gt7, li_lt8, li_ge8, li_le8, li_gt8, li_lt40, li_ge40, li_le40, li_gt40, li_lt240, li_ge240, li_le240, li_gt240, li_lt41, li_ge41, li_le41, li_gt41, li_lt48, li_ge48, li_le48, li_gt48, li_lt49, li_ge49, li_le49, li_gt49, li_lt60, li_ge60, li_le60, li_gt60, li_lt144, li_ge144, li_le144, li_gt144, li_lt145, li_ge145, li_le145, li_gt145, li_lt160, li_ge160, li_le160, li_gt160, li_lt336, li_ge336, li_le336, li_gt336, li_lt585, li_ge585, li_le585, li_gt585, li_lt633, li_ge633, li_le633, li_gt633, li_lt1000000, li_ge1000000, li_le1000000, li_gt1000000, li_lt2304, li_ge2304, li_le2304, li_gt2304, li_lt50, li_ge50, li_le50, li_gt50, li_le0, li_gt0, a]
        exact ⟨fun q => by omega, fun _ => r2 post hp⟩
      · have x48 := ux.1
        by_cases k0 : xv_K a_held (xv_L a_held x) = 0
        · obtain ⟨r, r1, r2⟩ := ih (j + 1) (by omega) (lt_s hn (fun ⟨x', z1, z2, z3⟩ => by rw [tg_un x48 z1 e z2] at z3; exact z3 k0))
          refine ⟨r, r1, fun post hp => ?_⟩
          rw [wX_triggerWithValue_2]
          dsimp only
          simp (disch := omega) only [forall_eq, true_and, and_true, Nat.zero_add, nI_clamp, li_vin, nI_add, nI_eq, nI_leI, nI_ltI, li_0le, li_lt0, li_nn1, li_e0, not_true_eq_false, not_false_eq_true, false_implies, true_implies, forall_const, li_a0, li_b0, li_a1, li_b1, li_a2, li_b2, li_a3, li_b3, li_a7, li_b7, li_a8, li_b8, li_a16, li_b16, li_a48, li_b48, li_a584, li_b584, li_a572, li_b572, li_a96, li_b96, li_a144, li_b144, li_a192, li_b192, li_a240, li_b240, li_a336, li_b336, li_a384, li_b384, li_a432, li_b432, li_a480, li_b480, li_a488, li_b488, li_a496, li_b496, li_a504, li_b504, li_a512, li_b512, li_a520, li_b520, li_a524, li_b524, li_a528, li_b528, li_a536, li_b536, li_a544, li_b544, li_a552, li_b552, li_a560, li_b560, li_a568, li_b568, li_a573, li_b573, li_a585, li_b585, li_a633, li_b633, li_m3, li_n3, li_m4, li_n4, li_m48, li_n48, li_m50, li_n50, li_m585, li_n585, li_m633, li_n633, li_lt2, li_ge2, li_le2, li_gt2, li_lt1, li_ge1, li_le1, li_gt1, li_lt3, li_ge3, li_le3, li_gt3, li_lt4, li_ge4, li_le4, li_gt4, li_lt7, li_ge7, li_le7, li_gt7, li_lt8, li_ge8, li_le8, li_gt8, li_lt40, li_ge40, li_le40, li_gt40, li_lt240, li_ge240, li_le240, li_gt240, li_lt41, li_ge41, li_le41, li_gt41, li_lt48, li_ge48, li_le48, li_gt48, li_lt49, li_ge49, li_le49, li_gt49, li_lt60, li_ge60, li_le60, li_gt60, li_lt144, li_ge144, li_le144, li_gt144, li_lt145, li_ge145, li_le145, li_gt145, li_lt160, li_ge160, li_le160, li_gt160, li_lt336, li_ge336, li_le336, li_gt336, li_lt585, li_ge585, li_le585, li_gt585, li_lt633, li_ge633, li_le633, li_gt633, li_lt1000000, li_ge1000000, li_le1000000, li_gt1000000, li_lt2304, li_ge2304, li_le2304, li_gt2304, li_lt50, li_ge50, li_le50, li_gt50, li_le0, li_gt0, e]
          exact ⟨fun q => by omega, fun _ => xw_isFree (f_trials := f_trials) (f_drafted := f_drafted) (f_pairs := f_pairs) (f_metCount := f_metCount) (f_meetingCount := f_meetingCount) (a_held := a_held) (a_saved := a_saved) (a_draft := a_draft) (a_toldBefore := a_toldBefore) (a_pairX := a_pairX) (a_pairY := a_pairY) (a_stack := a_stack) (a_met := a_met) (a_metAs := a_metAs) (a_copies := a_copies) (a_meetings := a_meetings) (a_wasMeeting := a_wasMeeting) (a_firstMet := a_firstMet) (a_depths := a_depths) (a_isKept := a_isKept) h x48 _ (fun _ => br_f (by decide) (r2 post hp)) (fun z => absurd k0 z)⟩
        · refine ⟨nI j, Or.inr ⟨j, by omega, rfl, ⟨x, x48, e, k0⟩, hn⟩, fun post hp => ?_⟩
          rw [wX_triggerWithValue_2]
          dsimp only
          simp (disch := omega) only [forall_eq, true_and, and_true, Nat.zero_add, nI_clamp, li_vin, nI_add, nI_eq, nI_leI, nI_ltI, li_0le, li_lt0, li_nn1, li_e0, not_true_eq_false, not_false_eq_true, false_implies, true_implies, forall_const, li_a0, li_b0, li_a1, li_b1, li_a2, li_b2, li_a3, li_b3, li_a7, li_b7, li_a8, li_b8, li_a16, li_b16, li_a48, li_b48, li_a584, li_b584, li_a572, li_b572, li_a96, li_b96, li_a144, li_b144, li_a192, li_b192, li_a240, li_b240, li_a336, li_b336, li_a384, li_b384, li_a432, li_b432, li_a480, li_b480, li_a488, li_b488, li_a496, li_b496, li_a504, li_b504, li_a512, li_b512, li_a520, li_b520, li_a524, li_b524, li_a528, li_b528, li_a536, li_b536, li_a544, li_b544, li_a552, li_b552, li_a560, li_b560, li_a568, li_b568, li_a573, li_b573, li_a585, li_b585, li_a633, li_b633, li_m3, li_n3, li_m4, li_n4, li_m48, li_n48, li_m50, li_n50, li_m585, li_n585, li_m633, li_n633, li_lt2, li_ge2, li_le2, li_gt2, li_lt1, li_ge1, li_le1, li_gt1, li_lt3, li_ge3, li_le3, li_gt3, li_lt4, li_ge4, li_le4, li_gt4, li_lt7, li_ge7, li_le7, li_gt7, li_lt8, li_ge8, li_le8, li_gt8, li_lt40, li_ge40, li_le40, li_gt40, li_lt240, li_ge240, li_le240, li_gt240, li_lt41, li_ge41, li_le41, li_gt41, li_lt48, li_ge48, li_le48, li_gt48, li_lt49, li_ge49, li_le49, li_gt49, li_lt60, li_ge60, li_le60, li_gt60, li_lt144, li_ge144, li_le144, li_gt144, li_lt145, li_ge145, li_le145, li_gt145, li_lt160, li_ge160, li_le160, li_gt160, li_lt336, li_ge336, li_le336, li_gt336, li_lt585, li_ge585, li_le585, li_gt585, li_lt633, li_ge633, li_le633, li_gt633, li_lt1000000, li_ge1000000, li_le1000000, li_gt1000000, li_lt2304, li_ge2304, li_le2304, li_gt2304, li_lt50, li_ge50, li_le50, li_gt50, li_le0, li_gt0, e]
          exact ⟨fun q => by omega, fun _ => xw_isFree (f_trials := f_trials) (f_drafted := f_drafted) (f_pairs := f_pairs) (f_metCount := f_metCount) (f_meetingCount := f_meetingCount) (a_held := a_held) (a_saved := a_saved) (a_draft := a_draft) (a_toldBefore := a_toldBefore) (a_pairX := a_pairX) (a_pairY := a_pairY) (a_stack := a_stack) (a_met := a_met) (a_metAs := a_metAs) (a_copies := a_copies) (a_meetings := a_meetings) (a_wasMeeting := a_wasMeeting) (a_firstMet := a_firstMet) (a_depths := a_depths) (a_isKept := a_isKept) h x48 _ (fun z => absurd z k0) (fun _ => br_t rfl hp)⟩
  obtain ⟨r, r1, r2⟩ := lp 8 0 rfl (fun t ht => by omega)
  exact ⟨r, r1, fun post hp => ⟨_, r2 post hp⟩⟩
theorem xw_neededTrigger {f_trials f_drafted f_pairs f_metCount f_meetingCount : Int32} {a_held a_saved a_draft a_toldBefore a_pairX a_pairY a_stack a_met a_metAs a_copies a_meetings a_wasMeeting a_firstMet a_depths a_isKept : Nat → Int32} (h : xv_H a_held) (hT : re_T a_held) (hG : re_G8 a_held) : ∃ r, fk_1 (tg_n a_held) r ∧ ∀ post : Int32 → Prop, post r → wpX_neededTrigger post (f_trials, f_drafted, f_pairs, f_metCount, f_meetingCount, a_held, a_saved, a_draft, a_toldBefore, a_pairX, a_pairY, a_stack, a_met, a_metAs, a_copies, a_meetings, a_wasMeeting, a_firstMet, a_depths, a_isKept) := by
  have lp : ∀ d j, j + d = 8 → (∀ t, t < j → ¬ tg_n a_held t) → ∃ r, fk_1 (tg_n a_held) r ∧ ∀ post : Int32 → Prop, post r → wX_neededTrigger_2 post f_trials f_drafted f_pairs f_metCount f_meetingCount a_held a_saved a_draft a_toldBefore a_pairX a_pairY a_stack a_met a_metAs a_copies a_meetings a_wasMeeting a_firstMet a_depths a_isKept (d + 1) (nI j) := by
    intro d
    induction d with
    | zero =>
      intro j hj hn
      refine ⟨-1, Or.inl ⟨rfl, fun k hk => hn k (by omega)⟩, fun post hp => ?_⟩
      unfold wX_neededTrigger_2
      simp (disch := omega) only [forall_eq, true_and, and_true, Nat.zero_add, nI_clamp, li_vin, nI_add, nI_eq, nI_leI, nI_ltI, li_0le, li_lt0, li_nn1, li_e0, not_true_eq_false, not_false_eq_true, false_implies, true_implies, forall_const, li_a0, li_b0, li_a1, li_b1, li_a2, li_b2, li_a3, li_b3, li_a7, li_b7, li_a8, li_b8, li_a16, li_b16, li_a48, li_b48, li_a584, li_b584, li_a572, li_b572, li_a96, li_b96, li_a144, li_b144, li_a192, li_b192, li_a240, li_b240, li_a336, li_b336, li_a384, li_b384, li_a432, li_b432, li_a480, li_b480, li_a488, li_b488, li_a496, li_b496, li_a504, li_b504, li_a512, li_b512, li_a520, li_b520, li_a524, li_b524, li_a528, li_b528, li_a536, li_b536, li_a544, li_b544, li_a552, li_b552, li_a560, li_b560, li_a568, li_b568, li_a573, li_b573, li_a585, li_b585, li_a633, li_b633, li_m3, li_n3, li_m4, li_n4, li_m48, li_n48, li_m50, li_n50, li_m585, li_n585, li_m633, li_n633, li_lt2, li_ge2, li_le2, li_gt2, li_lt1, li_ge1, li_le1, li_gt1, li_lt3, li_ge3, li_le3, li_gt3, li_lt4, li_ge4, li_le4, li_gt4, li_lt7, li_ge7, li_le7, li_gt7, li_lt8, li_ge8, li_le8, li_gt8, li_lt40, li_ge40, li_le40, li_gt40, li_lt240, li_ge240, li_le240, li_gt240, li_lt41, li_ge41, li_le41, li_gt41, li_lt48, li_ge48, li_le48, li_gt48, li_lt49, li_ge49, li_le49, li_gt49, li_lt60, li_ge60, li_le60, li_gt60, li_lt144, li_ge144, li_le144, li_gt144, li_lt145, li_ge145, li_le145, li_gt145, li_lt160, li_ge160, li_le160, li_gt160, li_lt336, li_ge336, li_le336, li_gt336, li_lt585, li_ge585, li_le585, li_gt585, li_lt633, li_ge633, li_le633, li_gt633, li_lt1000000, li_ge1000000, li_le1000000, li_gt1000000, li_lt2304, li_ge2304, li_le2304, li_gt2304, li_lt50, li_ge50, li_le50, li_gt50, li_le0, li_gt0]
      exact ⟨fun _ => hp, fun q => by omega⟩
    | succ d ih =>
      intro j hj hn
      rcases hG j (by omega) with a | ⟨x, ux, e⟩
      · obtain ⟨r, r1, r2⟩ := ih (j + 1) (by omega) (lt_s hn (fun ⟨x, z1, z2, _⟩ => by rw [a] at z2; exact (li_nn1 (by omega)).mp z2.symm))
        refine ⟨r, r1, fun post hp => ?_⟩
        rw [wX_neededTrigger_2]
        dsimp only
        simp (disch := omega) only [forall_eq, true_and, and_true, Nat.zero_add, nI_clamp, li_vin, nI_add, nI_eq, nI_leI, nI_ltI, li_0le, li_lt0, li_nn1, li_e0, not_true_eq_false, not_false_eq_true, false_implies, true_implies, forall_const, li_a0, li_b0, li_a1, li_b1, li_a2, li_b2, li_a3, li_b3, li_a7, li_b7, li_a8, li_b8, li_a16, li_b16, li_a48, li_b48, li_a584, li_b584, li_a572, li_b572, li_a96, li_b96, li_a144, li_b144, li_a192, li_b192, li_a240, li_b240, li_a336, li_b336, li_a384, li_b384, li_a432, li_b432, li_a480, li_b480, li_a488, li_b488, li_a496, li_b496, li_a504, li_b504, li_a512, li_b512, li_a520, li_b520, li_a524, li_b524, li_a528, li_b528, li_a536, li_b536, li_a544, li_b544, li_a552, li_b552, li_a560, li_b560, li_a568, li_b568, li_a573, li_b573, li_a585, li_b585, li_a633, li_b633, li_m3, li_n3, li_m4, li_n4, li_m48, li_n48, li_m50, li_n50, li_m585, li_n585, li_m633, li_n633, li_lt2, li_ge2, li_le2, li_gt2, li_lt1, li_ge1, li_le1, li_gt1, li_lt3, li_ge3, li_le3, li_gt3, li_lt4, li_ge4, li_le4, li_gt4, li_lt7, li_ge7, li_le7, li_gt7, li_lt8, li_ge8, li_le8, li_gt8, li_lt40, li_ge40, li_le40, li_gt40, li_lt240, li_ge240, li_le240, li_gt240, li_lt41, li_ge41, li_le41, li_gt41, li_lt48, li_ge48, li_le48, li_gt48, li_lt49, li_ge49, li_le49, li_gt49, li_lt60, li_ge60, li_le60, li_gt60, li_lt144, li_ge144, li_le144, li_gt144, li_lt145, li_ge145, li_le145, li_gt145, li_lt160, li_ge160, li_le160, li_gt160, li_lt336, li_ge336, li_le336, li_gt336, li_lt585, li_ge585, li_le585, li_gt585, li_lt633, li_ge633, li_le633, li_gt633, li_lt1000000, li_ge1000000, li_le1000000, li_gt1000000, li_lt2304, li_ge2304, li_le2304, li_gt2304, li_lt50, li_ge50, li_le50, li_gt50, li_le0, li_gt0, a]
        exact ⟨fun q => by omega, fun _ => r2 post hp⟩
      · have x48 := ux.1
        by_cases k0 : re_nd a_held x
        · refine ⟨nI j, Or.inr ⟨j, by omega, rfl, ⟨x, x48, e, k0⟩, hn⟩, fun post hp => ?_⟩
          rw [wX_neededTrigger_2]
          dsimp only
          simp (disch := omega) only [forall_eq, true_and, and_true, Nat.zero_add, nI_clamp, li_vin, nI_add, nI_eq, nI_leI, nI_ltI, li_0le, li_lt0, li_nn1, li_e0, not_true_eq_false, not_false_eq_true, false_implies, true_implies, forall_const, li_a0, li_b0, li_a1, li_b1, li_a2, li_b2, li_a3, li_b3, li_a7, li_b7, li_a8, li_b8, li_a16, li_b16, li_a48, li_b48, li_a584, li_b584, li_a572, li_b572, li_a96, li_b96, li_a144, li_b144, li_a192, li_b192, li_a240, li_b240, li_a336, li_b336, li_a384, li_b384, li_a432, li_b432, li_a480, li_b480, li_a488, li_b488, li_a496, li_b496, li_a504, li_b504, li_a512, li_b512, li_a520, li_b520, li_a524, li_b524, li_a528, li_b528, li_a536, li_b536, li_a544, li_b544, li_a552, li_b552, li_a560, li_b560, li_a568, li_b568, li_a573, li_b573, li_a585, li_b585, li_a633, li_b633, li_m3, li_n3, li_m4, li_n4, li_m48, li_n48, li_m50, li_n50, li_m585, li_n585, li_m633, li_n633, li_lt2, li_ge2, li_le2, li_gt2, li_lt1, li_ge1, li_le1, li_gt1, li_lt3, li_ge3, li_le3, li_gt3, li_lt4, li_ge4, li_le4, li_gt4, li_lt7, li_ge7, li_le7, li_gt7, li_lt8, li_ge8, li_le8, li_gt8, li_lt40, li_ge40, li_le40, li_gt40, li_lt240, li_ge240, li_le240, li_gt240, li_lt41, li_ge41, li_le41, li_gt41, li_lt48, li_ge48, li_le48, li_gt48, li_lt49, li_ge49, li_le49, li_gt49, li_lt60, li_ge60, li_le60, li_gt60, li_lt144, li_ge144, li_le144, li_gt144, li_lt145, li_ge145, li_le145, li_gt145, li_lt160, li_ge160, li_le160, li_gt160, li_lt336, li_ge336, li_le336, li_gt336, li_lt585, li_ge585, li_le585, li_gt585, li_lt633, li_ge633, li_le633, li_gt633, li_lt1000000, li_ge1000000, li_le1000000, li_gt1000000, li_lt2304, li_ge2304, li_le2304, li_gt2304, li_lt50, li_ge50, li_le50, li_gt50, li_le0, li_gt0, e]
          exact ⟨fun q => by omega, fun _ => xw_isNeeded (f_trials := f_trials) (f_drafted := f_drafted) (f_pairs := f_pairs) (f_metCount := f_metCount) (f_meetingCount := f_meetingCount) (a_held := a_held) (a_saved := a_saved) (a_draft := a_draft) (a_toldBefore := a_toldBefore) (a_pairX := a_pairX) (a_pairY := a_pairY) (a_stack := a_stack) (a_met := a_met) (a_metAs := a_metAs) (a_copies := a_copies) (a_meetings := a_meetings) (a_wasMeeting := a_wasMeeting) (a_firstMet := a_firstMet) (a_depths := a_depths) (a_isKept := a_isKept) h hT x48 _ (fun _ => br_f (by decide) hp) (fun z => absurd k0 z)⟩
        · obtain ⟨r, r1, r2⟩ := ih (j + 1) (by omega) (lt_s hn (fun ⟨x', z1, z2, z3⟩ => by rw [tg_un x48 z1 e z2] at z3; exact k0 z3))
          refine ⟨r, r1, fun post hp => ?_⟩
          rw [wX_neededTrigger_2]
          dsimp only
          simp (disch := omega) only [forall_eq, true_and, and_true, Nat.zero_add, nI_clamp, li_vin, nI_add, nI_eq, nI_leI, nI_ltI, li_0le, li_lt0, li_nn1, li_e0, not_true_eq_false, not_false_eq_true, false_implies, true_implies, forall_const, li_a0, li_b0, li_a1, li_b1, li_a2, li_b2, li_a3, li_b3, li_a7, li_b7, li_a8, li_b8, li_a16, li_b16, li_a48, li_b48, li_a584, li_b584, li_a572, li_b572, li_a96, li_b96, li_a144, li_b144, li_a192, li_b192, li_a240, li_b240, li_a336, li_b336, li_a384, li_b384, li_a432, li_b432, li_a480, li_b480, li_a488, li_b488, li_a496, li_b496, li_a504, li_b504, li_a512, li_b512, li_a520, li_b520, li_a524, li_b524, li_a528, li_b528, li_a536, li_b536, li_a544, li_b544, li_a552, li_b552, li_a560, li_b560, li_a568, li_b568, li_a573, li_b573, li_a585, li_b585, li_a633, li_b633, li_m3, li_n3, li_m4, li_n4, li_m48, li_n48, li_m50, li_n50, li_m585, li_n585, li_m633, li_n633, li_lt2, li_ge2, li_le2, li_gt2, li_lt1, li_ge1, li_le1, li_gt1, li_lt3, li_ge3, li_le3, li_gt3, li_lt4, li_ge4, li_le4, li_gt4, li_lt7, li_ge7, li_le7, li_gt7, li_lt8, li_ge8, li_le8, li_gt8, li_lt40, li_ge40, li_le40, li_gt40, li_lt240, li_ge240, li_le240, li_gt240, li_lt41, li_ge41, li_le41, li_gt41, li_lt48, li_ge48, li_le48, li_gt48, li_lt49, li_ge49, li_le49, li_gt49, li_lt60, li_ge60, li_le60, li_gt60, li_lt144, li_ge144, li_le144, li_gt144, li_lt145, li_ge145, li_le145, li_gt145, li_lt160, li_ge160, li_le160, li_gt160, li_lt336, li_ge336, li_le336, li_gt336, li_lt585, li_ge585, li_le585, li_gt585, li_lt633, li_ge633, li_le633, li_gt633, li_lt1000000, li_ge1000000, li_le1000000, li_gt1000000, li_lt2304, li_ge2304, li_le2304, li_gt2304, li_lt50, li_ge50, li_le50, li_gt50, li_le0, li_gt0, e]
          exact ⟨fun q => by omega, fun _ => xw_isNeeded (f_trials := f_trials) (f_drafted := f_drafted) (f_pairs := f_pairs) (f_metCount := f_metCount) (f_meetingCount := f_meetingCount) (a_held := a_held) (a_saved := a_saved) (a_draft := a_draft) (a_toldBefore := a_toldBefore) (a_pairX := a_pairX) (a_pairY := a_pairY) (a_stack := a_stack) (a_met := a_met) (a_metAs := a_metAs) (a_copies := a_copies) (a_meetings := a_meetings) (a_wasMeeting := a_wasMeeting) (a_firstMet := a_firstMet) (a_depths := a_depths) (a_isKept := a_isKept) h hT x48 _ (fun z => absurd z k0) (fun _ => br_t rfl (r2 post hp))⟩
  obtain ⟨r, r1, r2⟩ := lp 8 0 rfl (fun t ht => by omega)
  exact ⟨r, r1, fun post hp => ⟨_, r2 post hp⟩⟩
theorem xw_removeTrigger {f_trials f_drafted f_pairs f_metCount f_meetingCount : Int32} {a_held a_saved a_draft a_toldBefore a_pairX a_pairY a_stack a_met a_metAs a_copies a_meetings a_wasMeeting a_firstMet a_depths a_isKept : Nat → Int32} {k : Nat} (hk : k < 8) : ∀ post : SX → Prop, post (f_trials, f_drafted, f_pairs, f_metCount, f_meetingCount, upd (upd a_held (504 + k) (-1)) (512 + k) (-1), a_saved, a_draft, a_toldBefore, a_pairX, a_pairY, a_stack, a_met, a_metAs, a_copies, a_meetings, a_wasMeeting, a_firstMet, a_depths, a_isKept) → wpX_removeTrigger post (f_trials, f_drafted, f_pairs, f_metCount, f_meetingCount, a_held, a_saved, a_draft, a_toldBefore, a_pairX, a_pairY, a_stack, a_met, a_metAs, a_copies, a_meetings, a_wasMeeting, a_firstMet, a_depths, a_isKept) (nI k) := by
  intro post hp
  unfold wpX_removeTrigger
  simp (disch := omega) only [forall_eq, true_and, and_true, Nat.zero_add, nI_clamp, li_vin, nI_add, nI_eq, nI_leI, nI_ltI, li_0le, li_lt0, li_nn1, li_e0, not_true_eq_false, not_false_eq_true, false_implies, true_implies, forall_const, li_a0, li_b0, li_a1, li_b1, li_a2, li_b2, li_a3, li_b3, li_a7, li_b7, li_a8, li_b8, li_a16, li_b16, li_a48, li_b48, li_a584, li_b584, li_a572, li_b572, li_a96, li_b96, li_a144, li_b144, li_a192, li_b192, li_a240, li_b240, li_a336, li_b336, li_a384, li_b384, li_a432, li_b432, li_a480, li_b480, li_a488, li_b488, li_a496, li_b496, li_a504, li_b504, li_a512, li_b512, li_a520, li_b520, li_a524, li_b524, li_a528, li_b528, li_a536, li_b536, li_a544, li_b544, li_a552, li_b552, li_a560, li_b560, li_a568, li_b568, li_a573, li_b573, li_a585, li_b585, li_a633, li_b633, li_m3, li_n3, li_m4, li_n4, li_m48, li_n48, li_m50, li_n50, li_m585, li_n585, li_m633, li_n633, li_lt2, li_ge2, li_le2, li_gt2, li_lt1, li_ge1, li_le1, li_gt1, li_lt3, li_ge3, li_le3, li_gt3, li_lt4, li_ge4, li_le4, li_gt4, li_lt7, li_ge7, li_le7, li_gt7, li_lt8, li_ge8, li_le8, li_gt8, li_lt40, li_ge40, li_le40, li_gt40, li_lt240, li_ge240, li_le240, li_gt240, li_lt41, li_ge41, li_le41, li_gt41, li_lt48, li_ge48, li_le48, li_gt48, li_lt49, li_ge49, li_le49, li_gt49, li_lt60, li_ge60, li_le60, li_gt60, li_lt144, li_ge144, li_le144, li_gt144, li_lt145, li_ge145, li_le145, li_gt145, li_lt160, li_ge160, li_le160, li_gt160, li_lt336, li_ge336, li_le336, li_gt336, li_lt585, li_ge585, li_le585, li_gt585, li_lt633, li_ge633, li_le633, li_gt633, li_lt1000000, li_ge1000000, li_le1000000, li_gt1000000, li_lt2304, li_ge2304, li_le2304, li_gt2304, li_lt50, li_ge50, li_le50, li_gt50, li_le0, li_gt0]
  exact hp
end
section
theorem nb_0 : narrow .boolean (.int 0) = .int 0 := rfl
theorem nb_1 : narrow .boolean (.int 1) = .int 1 := rfl
theorem yw_isUsed_t {g_trials g_drafted g_found : Int32} {b_s b_saved b_draft b_who b_met b_stack b_fresh b_deep : Nat → Int32} {b_alike b_meets : Nat → Int64} {x : Nat} (hx : yv_U b_s x) : ∀ post : Int32 → Prop, post 1 → wpY_isUsed post (g_trials, g_drafted, g_found, b_s, b_saved, b_draft, b_who, b_met, b_stack, b_fresh, b_deep, b_alike, b_meets) (nI x) := by
  intro post hp
  obtain ⟨h1, h2⟩ := hx
  unfold wpY_isUsed
  simp (disch := omega) only [forall_eq, true_and, and_true, Nat.zero_add, nI_clamp, li_vin, nI_add, nI_eq, nI_leI, nI_ltI, li_0le, li_lt0, li_nn1, li_e0, not_true_eq_false, not_false_eq_true, false_implies, true_implies, forall_const, li_a0, li_b0, li_a1, li_b1, li_a2, li_b2, li_a3, li_b3, li_a7, li_b7, li_a8, li_b8, li_a16, li_b16, li_a48, li_b48, li_a584, li_b584, li_a572, li_b572, li_a96, li_b96, li_a144, li_b144, li_a192, li_b192, li_a240, li_b240, li_a336, li_b336, li_a384, li_b384, li_a432, li_b432, li_a480, li_b480, li_a488, li_b488, li_a496, li_b496, li_a504, li_b504, li_a512, li_b512, li_a520, li_b520, li_a524, li_b524, li_a528, li_b528, li_a536, li_b536, li_a544, li_b544, li_a552, li_b552, li_a560, li_b560, li_a568, li_b568, li_a573, li_b573, li_a585, li_b585, li_a633, li_b633, li_m3, li_n3, li_m4, li_n4, li_m48, li_n48, li_m50, li_n50, li_m585, li_n585, li_m633, li_n633, li_lt2, li_ge2, li_le2, li_gt2, li_lt1, li_ge1, li_le1, li_gt1, li_lt3, li_ge3, li_le3, li_gt3, li_lt4, li_ge4, li_le4, li_gt4, li_lt7, li_ge7, li_le7, li_gt7, li_lt8, li_ge8, li_le8, li_gt8, li_lt40, li_ge40, li_le40, li_gt40, li_lt240, li_ge240, li_le240, li_gt240, li_lt41, li_ge41, li_le41, li_gt41, li_lt48, li_ge48, li_le48, li_gt48, li_lt49, li_ge49, li_le49, li_gt49, li_lt60, li_ge60, li_le60, li_gt60, li_lt144, li_ge144, li_le144, li_gt144, li_lt145, li_ge145, li_le145, li_gt145, li_lt160, li_ge160, li_le160, li_gt160, li_lt336, li_ge336, li_le336, li_gt336, li_lt585, li_ge585, li_le585, li_gt585, li_lt633, li_ge633, li_le633, li_gt633, li_lt1000000, li_ge1000000, li_le1000000, li_gt1000000, li_lt2304, li_ge2304, li_le2304, li_gt2304, li_lt50, li_ge50, li_le50, li_gt50, li_le0, li_gt0, h2]
  exact ⟨fun q => by omega, fun _ => hp⟩
theorem yw_isUsed_f {g_trials g_drafted g_found : Int32} {b_s b_saved b_draft b_who b_met b_stack b_fresh b_deep : Nat → Int32} {b_alike b_meets : Nat → Int64} {v : Int32} (hx : ¬ ∃ x, yv_U b_s x ∧ v = nI x) : ∀ post : Int32 → Prop, post 0 → wpY_isUsed post (g_trials, g_drafted, g_found, b_s, b_saved, b_draft, b_who, b_met, b_stack, b_fresh, b_deep, b_alike, b_meets) v := by
  intro post hp
  unfold wpY_isUsed
  refine br_c (fun _ => hp) (fun h0 => ?_)
  obtain ⟨x, hx2, rfl⟩ := nI_of h0
  by_cases q : x < 48
  · simp (disch := omega) only [forall_eq, true_and, and_true, Nat.zero_add, nI_clamp, li_vin, nI_add, nI_eq, nI_leI, nI_ltI, li_0le, li_lt0, li_nn1, li_e0, not_true_eq_false, not_false_eq_true, false_implies, true_implies, forall_const, li_a0, li_b0, li_a1, li_b1, li_a2, li_b2, li_a3, li_b3, li_a7, li_b7, li_a8, li_b8, li_a16, li_b16, li_a48, li_b48, li_a584, li_b584, li_a572, li_b572, li_a96, li_b96, li_a144, li_b144, li_a192, li_b192, li_a240, li_b240, li_a336, li_b336, li_a384, li_b384, li_a432, li_b432, li_a480, li_b480, li_a488, li_b488, li_a496, li_b496, li_a504, li_b504, li_a512, li_b512, li_a520, li_b520, li_a524, li_b524, li_a528, li_b528, li_a536, li_b536, li_a544, li_b544, li_a552, li_b552, li_a560, li_b560, li_a568, li_b568, li_a573, li_b573, li_a585, li_b585, li_a633, li_b633, li_m3, li_n3, li_m4, li_n4, li_m48, li_n48, li_m50, li_n50, li_m585, li_n585, li_m633, li_n633, li_lt2, li_ge2, li_le2, li_gt2, li_lt1, li_ge1, li_le1, li_gt1, li_lt3, li_ge3, li_le3, li_gt3, li_lt4, li_ge4, li_le4, li_gt4, li_lt7, li_ge7, li_le7, li_gt7, li_lt8, li_ge8, li_le8, li_gt8, li_lt40, li_ge40, li_le40, li_gt40, li_lt240, li_ge240, li_le240, li_gt240, li_lt41, li_ge41, li_le41, li_gt41, li_lt48, li_ge48, li_le48, li_gt48, li_lt49, li_ge49, li_le49, li_gt49, li_lt60, li_ge60, li_le60, li_gt60, li_lt144, li_ge144, li_le144, li_gt144, li_lt145, li_ge145, li_le145, li_gt145, li_lt160, li_ge160, li_le160, li_gt160, li_lt336, li_ge336, li_le336, li_gt336, li_lt585, li_ge585, li_le585, li_gt585, li_lt633, li_ge633, li_le633, li_gt633, li_lt1000000, li_ge1000000, li_le1000000, li_gt1000000, li_lt2304, li_ge2304, li_le2304, li_gt2304, li_lt50, li_ge50, li_le50, li_gt50, li_le0, li_gt0]
    exact ⟨fun _ => hp, fun _ => br_f (fun e => hx ⟨x, ⟨q, e⟩, rfl⟩) hp⟩
  · exact br_t ((li_ge48 (by omega)).mpr (by omega)) hp
theorem yw_join_39 {g_trials g_drafted g_found : Int32} {b_s b_saved b_draft b_who b_met b_stack b_fresh b_deep : Nat → Int32} {b_alike b_meets : Nat → Int64} {b : Nat} {x4 x5 x6 : Int32} (hb : b + 48 ≤ 681) : ∀ d j (b_s : Nat → Int32), j + d = 48 → ∃ s' : Nat → Int32, (∀ v, v < j → s' (b + v) = b_s (b + v)) ∧ (∀ v, j ≤ v → v < 48 → s' (b + v) = if b_s (b + v) = x4 ∨ b_s (b + v) = x5 then x6 else b_s (b + v)) ∧ (∀ i, (i < b ∨ b + 48 ≤ i) → s' i = b_s i) ∧ ∀ post : SY → Prop, post (g_trials, g_drafted, g_found, s', b_saved, b_draft, b_who, b_met, b_stack, b_fresh, b_deep, b_alike, b_meets) → wY_join_39 post (nI b) x4 x5 x6 g_trials g_drafted g_found (d + 1) (nI (b + j)) b_s b_saved b_draft b_who b_met b_stack b_fresh b_deep b_alike b_meets := by
  intro d
  induction d with
  | zero =>
    intro j s hj
    refine ⟨s, fun _ _ => rfl, fun v h1 h2 => by omega, fun _ _ => rfl, fun post hp => ?_⟩
    unfold wY_join_39
    simp (disch := omega) only [forall_eq, true_and, and_true, Nat.zero_add, nI_clamp, li_vin, nI_add, nI_eq, nI_leI, nI_ltI, li_0le, li_lt0, li_nn1, li_e0, not_true_eq_false, not_false_eq_true, false_implies, true_implies, forall_const, li_a0, li_b0, li_a1, li_b1, li_a2, li_b2, li_a3, li_b3, li_a7, li_b7, li_a8, li_b8, li_a16, li_b16, li_a48, li_b48, li_a584, li_b584, li_a572, li_b572, li_a96, li_b96, li_a144, li_b144, li_a192, li_b192, li_a240, li_b240, li_a336, li_b336, li_a384, li_b384, li_a432, li_b432, li_a480, li_b480, li_a488, li_b488, li_a496, li_b496, li_a504, li_b504, li_a512, li_b512, li_a520, li_b520, li_a524, li_b524, li_a528, li_b528, li_a536, li_b536, li_a544, li_b544, li_a552, li_b552, li_a560, li_b560, li_a568, li_b568, li_a573, li_b573, li_a585, li_b585, li_a633, li_b633, li_m3, li_n3, li_m4, li_n4, li_m48, li_n48, li_m50, li_n50, li_m585, li_n585, li_m633, li_n633, li_lt2, li_ge2, li_le2, li_gt2, li_lt1, li_ge1, li_le1, li_gt1, li_lt3, li_ge3, li_le3, li_gt3, li_lt4, li_ge4, li_le4, li_gt4, li_lt7, li_ge7, li_le7, li_gt7, li_lt8, li_ge8, li_le8, li_gt8, li_lt40, li_ge40, li_le40, li_gt40, li_lt240, li_ge240, li_le240, li_gt240, li_lt41, li_ge41, li_le41, li_gt41, li_lt48, li_ge48, li_le48, li_gt48, li_lt49, li_ge49, li_le49, li_gt49, li_lt60, li_ge60, li_le60, li_gt60, li_lt144, li_ge144, li_le144, li_gt144, li_lt145, li_ge145, li_le145, li_gt145, li_lt160, li_ge160, li_le160, li_gt160, li_lt336, li_ge336, li_le336, li_gt336, li_lt585, li_ge585, li_le585, li_gt585, li_lt633, li_ge633, li_le633, li_gt633, li_lt1000000, li_ge1000000, li_le1000000, li_gt1000000, li_lt2304, li_ge2304, li_le2304, li_gt2304, li_lt50, li_ge50, li_le50, li_gt50, li_le0, li_gt0]
    exact ⟨fun _ => hp, fun q => by omega⟩
  | succ d ih =>
    intro j s hj
    by_cases q : s (b + j) = x4 ∨ s (b + j) = x5
    · obtain ⟨s', h1, h2, h3, h4⟩ := ih (j + 1) (upd s (b + j) x6) (by omega)
      refine ⟨s', ?_, ?_, ?_, fun post hp => ?_⟩
      · intro v hv
        rw [h1 v (by omega), pk_un (by omega)]
      · intro v g1 g2
        by_cases z : v = j
        · rw [z, h1 j (by omega), pk_us, if_pos q]
        · rw [h2 v (by omega) g2, pk_un (by omega)]
      · intro i g
        rw [h3 i g, pk_un (by omega)]
      · unfold wY_join_39
        simp (disch := omega) only [forall_eq, true_and, and_true, Nat.zero_add, nI_clamp, li_vin, nI_add, nI_eq, nI_leI, nI_ltI, li_0le, li_lt0, li_nn1, li_e0, not_true_eq_false, not_false_eq_true, false_implies, true_implies, forall_const, li_a0, li_b0, li_a1, li_b1, li_a2, li_b2, li_a3, li_b3, li_a7, li_b7, li_a8, li_b8, li_a16, li_b16, li_a48, li_b48, li_a584, li_b584, li_a572, li_b572, li_a96, li_b96, li_a144, li_b144, li_a192, li_b192, li_a240, li_b240, li_a336, li_b336, li_a384, li_b384, li_a432, li_b432, li_a480, li_b480, li_a488, li_b488, li_a496, li_b496, li_a504, li_b504, li_a512, li_b512, li_a520, li_b520, li_a524, li_b524, li_a528, li_b528, li_a536, li_b536, li_a544, li_b544, li_a552, li_b552, li_a560, li_b560, li_a568, li_b568, li_a573, li_b573, li_a585, li_b585, li_a633, li_b633, li_m3, li_n3, li_m4, li_n4, li_m48, li_n48, li_m50, li_n50, li_m585, li_n585, li_m633, li_n633, li_lt2, li_ge2, li_le2, li_gt2, li_lt1, li_ge1, li_le1, li_gt1, li_lt3, li_ge3, li_le3, li_gt3, li_lt4, li_ge4, li_le4, li_gt4, li_lt7, li_ge7, li_le7, li_gt7, li_lt8, li_ge8, li_le8, li_gt8, li_lt40, li_ge40, li_le40, li_gt40, li_lt240, li_ge240, li_le240, li_gt240, li_lt41, li_ge41, li_le41, li_gt41, li_lt48, li_ge48, li_le48, li_gt48, li_lt49, li_ge49, li_le49, li_gt49, li_lt60, li_ge60, li_le60, li_gt60, li_lt144, li_ge144, li_le144, li_gt144, li_lt145, li_ge145, li_le145, li_gt145, li_lt160, li_ge160, li_le160, li_gt160, li_lt336, li_ge336, li_le336, li_gt336, li_lt585, li_ge585, li_le585, li_gt585, li_lt633, li_ge633, li_le633, li_gt633, li_lt1000000, li_ge1000000, li_le1000000, li_gt1000000, li_lt2304, li_ge2304, li_le2304, li_gt2304, li_lt50, li_ge50, li_le50, li_gt50, li_le0, li_gt0]
        refine ⟨fun q => by omega, fun _ => ?_⟩
        by_cases w : s (b + j) = x4
        · exact br_t w (h4 post hp)
        · refine br_f w ?_
          rcases q with q | q
          · exact absurd q w
          · exact br_t q (h4 post hp)
    · obtain ⟨s', h1, h2, h3, h4⟩ := ih (j + 1) s (by omega)
      refine ⟨s', fun v hv => h1 v (by omega), ?_, h3, fun post hp => ?_⟩
      · intro v g1 g2
        by_cases z : v = j
        · rw [z, h1 j (by omega), if_neg q]
        · exact h2 v (by omega) g2
      · unfold wY_join_39
        simp (disch := omega) only [forall_eq, true_and, and_true, Nat.zero_add, nI_clamp, li_vin, nI_add, nI_eq, nI_leI, nI_ltI, li_0le, li_lt0, li_nn1, li_e0, not_true_eq_false, not_false_eq_true, false_implies, true_implies, forall_const, li_a0, li_b0, li_a1, li_b1, li_a2, li_b2, li_a3, li_b3, li_a7, li_b7, li_a8, li_b8, li_a16, li_b16, li_a48, li_b48, li_a584, li_b584, li_a572, li_b572, li_a96, li_b96, li_a144, li_b144, li_a192, li_b192, li_a240, li_b240, li_a336, li_b336, li_a384, li_b384, li_a432, li_b432, li_a480, li_b480, li_a488, li_b488, li_a496, li_b496, li_a504, li_b504, li_a512, li_b512, li_a520, li_b520, li_a524, li_b524, li_a528, li_b528, li_a536, li_b536, li_a544, li_b544, li_a552, li_b552, li_a560, li_b560, li_a568, li_b568, li_a573, li_b573, li_a585, li_b585, li_a633, li_b633, li_m3, li_n3, li_m4, li_n4, li_m48, li_n48, li_m50, li_n50, li_m585, li_n585, li_m633, li_n633, li_lt2, li_ge2, li_le2, li_gt2, li_lt1, li_ge1, li_le1, li_gt1, li_lt3, li_ge3, li_le3, li_gt3, li_lt4, li_ge4, li_le4, li_gt4, li_lt7, li_ge7, li_le7, li_gt7, li_lt8, li_ge8, li_le8, li_gt8, li_lt40, li_ge40, li_le40, li_gt40, li_lt240, li_ge240, li_le240, li_gt240, li_lt41, li_ge41, li_le41, li_gt41, li_lt48, li_ge48, li_le48, li_gt48, li_lt49, li_ge49, li_le49, li_gt49, li_lt60, li_ge60, li_le60, li_gt60, li_lt144, li_ge144, li_le144, li_gt144, li_lt145, li_ge145, li_le145, li_gt145, li_lt160, li_ge160, li_le160, li_gt160, li_lt336, li_ge336, li_le336, li_gt336, li_lt585, li_ge585, li_le585, li_gt585, li_lt633, li_ge633, li_le633, li_gt633, li_lt1000000, li_ge1000000, li_le1000000, li_gt1000000, li_lt2304, li_ge2304, li_le2304, li_gt2304, li_lt50, li_ge50, li_le50, li_gt50, li_le0, li_gt0]
        exact ⟨fun q => by omega, fun _ => br_f (fun w => q (Or.inl w)) (br_f (fun w => q (Or.inr w)) (h4 post hp))⟩
theorem yw_join {g_trials g_drafted g_found : Int32} {b_s b_saved b_draft b_who b_met b_stack b_fresh b_deep : Nat → Int32} {b_alike b_meets : Nat → Int64} {b x y : Nat} (hb : b + 48 ≤ 681) (hx : x < 48) (hy : y < 48) : ∃ s' : Nat → Int32, yj_J b_s s' b x y ∧ ∀ post : SY → Prop, post (g_trials, g_drafted, g_found, s', b_saved, b_draft, b_who, b_met, b_stack, b_fresh, b_deep, b_alike, b_meets) → wpY_join post (g_trials, g_drafted, g_found, b_s, b_saved, b_draft, b_who, b_met, b_stack, b_fresh, b_deep, b_alike, b_meets) (nI b) (nI x) (nI y) := by
  by_cases q : b_s (b + y) ≤ b_s (b + x)
  · obtain ⟨s', h1, h2, h3, h4⟩ := yw_join_39 (g_trials := g_trials) (g_drafted := g_drafted) (g_found := g_found) (b_s := b_s) (b_saved := b_saved) (b_draft := b_draft) (b_who := b_who) (b_met := b_met) (b_stack := b_stack) (b_fresh := b_fresh) (b_deep := b_deep) (b_alike := b_alike) (b_meets := b_meets) (x4 := b_s (b + x)) (x5 := b_s (b + y)) (x6 := b_s (b + y)) hb 48 0 b_s rfl
    refine ⟨s', ⟨fun v hv => ?_, h3⟩, fun post hp => ?_⟩
    · rw [h2 v (by omega) hv, if_neg (Int32.not_lt.mpr q)]
    · unfold wpY_join
      simp (disch := omega) only [forall_eq, true_and, and_true, Nat.zero_add, nI_clamp, li_vin, nI_add, nI_eq, nI_leI, nI_ltI, li_0le, li_lt0, li_nn1, li_e0, not_true_eq_false, not_false_eq_true, false_implies, true_implies, forall_const, li_a0, li_b0, li_a1, li_b1, li_a2, li_b2, li_a3, li_b3, li_a7, li_b7, li_a8, li_b8, li_a16, li_b16, li_a48, li_b48, li_a584, li_b584, li_a572, li_b572, li_a96, li_b96, li_a144, li_b144, li_a192, li_b192, li_a240, li_b240, li_a336, li_b336, li_a384, li_b384, li_a432, li_b432, li_a480, li_b480, li_a488, li_b488, li_a496, li_b496, li_a504, li_b504, li_a512, li_b512, li_a520, li_b520, li_a524, li_b524, li_a528, li_b528, li_a536, li_b536, li_a544, li_b544, li_a552, li_b552, li_a560, li_b560, li_a568, li_b568, li_a573, li_b573, li_a585, li_b585, li_a633, li_b633, li_m3, li_n3, li_m4, li_n4, li_m48, li_n48, li_m50, li_n50, li_m585, li_n585, li_m633, li_n633, li_lt2, li_ge2, li_le2, li_gt2, li_lt1, li_ge1, li_le1, li_gt1, li_lt3, li_ge3, li_le3, li_gt3, li_lt4, li_ge4, li_le4, li_gt4, li_lt7, li_ge7, li_le7, li_gt7, li_lt8, li_ge8, li_le8, li_gt8, li_lt40, li_ge40, li_le40, li_gt40, li_lt240, li_ge240, li_le240, li_gt240, li_lt41, li_ge41, li_le41, li_gt41, li_lt48, li_ge48, li_le48, li_gt48, li_lt49, li_ge49, li_le49, li_gt49, li_lt60, li_ge60, li_le60, li_gt60, li_lt144, li_ge144, li_le144, li_gt144, li_lt145, li_ge145, li_le145, li_gt145, li_lt160, li_ge160, li_le160, li_gt160, li_lt336, li_ge336, li_le336, li_gt336, li_lt585, li_ge585, li_le585, li_gt585, li_lt633, li_ge633, li_le633, li_gt633, li_lt1000000, li_ge1000000, li_le1000000, li_gt1000000, li_lt2304, li_ge2304, li_le2304, li_gt2304, li_lt50, li_ge50, li_le50, li_gt50, li_le0, li_gt0]
      exact br_t q ⟨_, h4 post hp⟩
  · obtain ⟨s', h1, h2, h3, h4⟩ := yw_join_39 (g_trials := g_trials) (g_drafted := g_drafted) (g_found := g_found) (b_s := b_s) (b_saved := b_saved) (b_draft := b_draft) (b_who := b_who) (b_met := b_met) (b_stack := b_stack) (b_fresh := b_fresh) (b_deep := b_deep) (b_alike := b_alike) (b_meets := b_meets) (x4 := b_s (b + x)) (x5 := b_s (b + y)) (x6 := b_s (b + x)) hb 48 0 b_s rfl
    refine ⟨s', ⟨fun v hv => ?_, h3⟩, fun post hp => ?_⟩
    · rw [h2 v (by omega) hv, if_pos (Int32.not_le.mp q)]
    · unfold wpY_join
      simp (disch := omega) only [forall_eq, true_and, and_true, Nat.zero_add, nI_clamp, li_vin, nI_add, nI_eq, nI_leI, nI_ltI, li_0le, li_lt0, li_nn1, li_e0, not_true_eq_false, not_false_eq_true, false_implies, true_implies, forall_const, li_a0, li_b0, li_a1, li_b1, li_a2, li_b2, li_a3, li_b3, li_a7, li_b7, li_a8, li_b8, li_a16, li_b16, li_a48, li_b48, li_a584, li_b584, li_a572, li_b572, li_a96, li_b96, li_a144, li_b144, li_a192, li_b192, li_a240, li_b240, li_a336, li_b336, li_a384, li_b384, li_a432, li_b432, li_a480, li_b480, li_a488, li_b488, li_a496, li_b496, li_a504, li_b504, li_a512, li_b512, li_a520, li_b520, li_a524, li_b524, li_a528, li_b528, li_a536, li_b536, li_a544, li_b544, li_a552, li_b552, li_a560, li_b560, li_a568, li_b568, li_a573, li_b573, li_a585, li_b585, li_a633, li_b633, li_m3, li_n3, li_m4, li_n4, li_m48, li_n48, li_m50, li_n50, li_m585, li_n585, li_m633, li_n633, li_lt2, li_ge2, li_le2, li_gt2, li_lt1, li_ge1, li_le1, li_gt1, li_lt3, li_ge3, li_le3, li_gt3, li_lt4, li_ge4, li_le4, li_gt4, li_lt7, li_ge7, li_le7, li_gt7, li_lt8, li_ge8, li_le8, li_gt8, li_lt40, li_ge40, li_le40, li_gt40, li_lt240, li_ge240, li_le240, li_gt240, li_lt41, li_ge41, li_le41, li_gt41, li_lt48, li_ge48, li_le48, li_gt48, li_lt49, li_ge49, li_le49, li_gt49, li_lt60, li_ge60, li_le60, li_gt60, li_lt144, li_ge144, li_le144, li_gt144, li_lt145, li_ge145, li_le145, li_gt145, li_lt160, li_ge160, li_le160, li_gt160, li_lt336, li_ge336, li_le336, li_gt336, li_lt585, li_ge585, li_le585, li_gt585, li_lt633, li_ge633, li_le633, li_gt633, li_lt1000000, li_ge1000000, li_le1000000, li_gt1000000, li_lt2304, li_ge2304, li_le2304, li_gt2304, li_lt50, li_ge50, li_le50, li_gt50, li_le0, li_gt0]
      exact br_f q ⟨_, h4 post hp⟩
theorem li_384p (j : Nat) : (384 : Int32) + nI (j + 1) - 1 = nI (384 + j) := by
  rw [li_a384]; exact nI_pred (384 + j)
theorem yw_bound_3 {g_trials g_drafted g_found : Int32} {b_s b_saved b_draft b_who b_met b_stack b_fresh b_deep : Nat → Int32} {b_alike b_meets : Nat → Int64} (h : yv_H b_s) : ∀ j, j ≤ 48 → (∀ x, yv_U b_s x → x < j) → ∃ n, n ≤ 48 ∧ (∀ x, yv_U b_s x → x < n) ∧ ∀ post : Int32 → Prop, post (nI n) → wY_bound_3 post g_trials g_drafted g_found b_s b_saved b_draft b_who b_met b_stack b_fresh b_deep b_alike b_meets (j + 1) (nI j) := by
  intro j
  induction j with
  | zero =>
    intro hj hu
    refine ⟨0, by omega, hu, fun post hp => ?_⟩
    unfold wY_bound_3
    simp (disch := omega) only [forall_eq, true_and, and_true, Nat.zero_add, nI_clamp, li_vin, nI_add, nI_eq, nI_leI, nI_ltI, li_0le, li_lt0, li_nn1, li_e0, not_true_eq_false, not_false_eq_true, false_implies, true_implies, forall_const, li_a0, li_b0, li_a1, li_b1, li_a2, li_b2, li_a3, li_b3, li_a7, li_b7, li_a8, li_b8, li_a16, li_b16, li_a48, li_b48, li_a584, li_b584, li_a572, li_b572, li_a96, li_b96, li_a144, li_b144, li_a192, li_b192, li_a240, li_b240, li_a336, li_b336, li_a384, li_b384, li_a432, li_b432, li_a480, li_b480, li_a488, li_b488, li_a496, li_b496, li_a504, li_b504, li_a512, li_b512, li_a520, li_b520, li_a524, li_b524, li_a528, li_b528, li_a536, li_b536, li_a544, li_b544, li_a552, li_b552, li_a560, li_b560, li_a568, li_b568, li_a573, li_b573, li_a585, li_b585, li_a633, li_b633, li_m3, li_n3, li_m4, li_n4, li_m48, li_n48, li_m50, li_n50, li_m585, li_n585, li_m633, li_n633, li_lt2, li_ge2, li_le2, li_gt2, li_lt1, li_ge1, li_le1, li_gt1, li_lt3, li_ge3, li_le3, li_gt3, li_lt4, li_ge4, li_le4, li_gt4, li_lt7, li_ge7, li_le7, li_gt7, li_lt8, li_ge8, li_le8, li_gt8, li_lt40, li_ge40, li_le40, li_gt40, li_lt240, li_ge240, li_le240, li_gt240, li_lt41, li_ge41, li_le41, li_gt41, li_lt48, li_ge48, li_le48, li_gt48, li_lt49, li_ge49, li_le49, li_gt49, li_lt60, li_ge60, li_le60, li_gt60, li_lt144, li_ge144, li_le144, li_gt144, li_lt145, li_ge145, li_le145, li_gt145, li_lt160, li_ge160, li_le160, li_gt160, li_lt336, li_ge336, li_le336, li_gt336, li_lt585, li_ge585, li_le585, li_gt585, li_lt633, li_ge633, li_le633, li_gt633, li_lt1000000, li_ge1000000, li_le1000000, li_gt1000000, li_lt2304, li_ge2304, li_le2304, li_gt2304, li_lt50, li_ge50, li_le50, li_gt50, li_le0, li_gt0]
    exact ⟨fun _ => hp, fun q => by omega⟩
  | succ j ih =>
    intro hj hu
    rcases h.2.1 j (by omega) with q | ⟨q, _⟩
    · refine ⟨j + 1, hj, hu, fun post hp => ?_⟩
      unfold wY_bound_3
      rw [li_384p]
      simp (disch := omega) only [forall_eq, true_and, and_true, Nat.zero_add, nI_clamp, li_vin, nI_add, nI_eq, nI_leI, nI_ltI, li_0le, li_lt0, li_nn1, li_e0, not_true_eq_false, not_false_eq_true, false_implies, true_implies, forall_const, li_a0, li_b0, li_a1, li_b1, li_a2, li_b2, li_a3, li_b3, li_a7, li_b7, li_a8, li_b8, li_a16, li_b16, li_a48, li_b48, li_a584, li_b584, li_a572, li_b572, li_a96, li_b96, li_a144, li_b144, li_a192, li_b192, li_a240, li_b240, li_a336, li_b336, li_a384, li_b384, li_a432, li_b432, li_a480, li_b480, li_a488, li_b488, li_a496, li_b496, li_a504, li_b504, li_a512, li_b512, li_a520, li_b520, li_a524, li_b524, li_a528, li_b528, li_a536, li_b536, li_a544, li_b544, li_a552, li_b552, li_a560, li_b560, li_a568, li_b568, li_a573, li_b573, li_a585, li_b585, li_a633, li_b633, li_m3, li_n3, li_m4, li_n4, li_m48, li_n48, li_m50, li_n50, li_m585, li_n585, li_m633, li_n633, li_lt2, li_ge2, li_le2, li_gt2, li_lt1, li_ge1, li_le1, li_gt1, li_lt3, li_ge3, li_le3, li_gt3, li_lt4, li_ge4, li_le4, li_gt4, li_lt7, li_ge7, li_le7, li_gt7, li_lt8, li_ge8, li_le8, li_gt8, li_lt40, li_ge40, li_le40, li_gt40, li_lt240, li_ge240, li_le240, li_gt240, li_lt41, li_ge41, li_le41, li_gt41, li_lt48, li_ge48, li_le48, li_gt48, li_lt49, li_ge49, li_le49, li_gt49, li_lt60, li_ge60, li_le60, li_gt60, li_lt144, li_ge144, li_le144, li_gt144, li_lt145, li_ge145, li_le145, li_gt145, li_lt160, li_ge160, li_le160, li_gt160, li_lt336, li_ge336, li_le336, li_gt336, li_lt585, li_ge585, li_le585, li_gt585, li_lt633, li_ge633, li_le633, li_gt633, li_lt1000000, li_ge1000000, li_le1000000, li_gt1000000, li_lt2304, li_ge2304, li_le2304, li_gt2304, li_lt50, li_ge50, li_le50, li_gt50, li_le0, li_gt0, q]
      exact ⟨fun q => by omega, fun _ => br_f (by decide) hp⟩
    · obtain ⟨n, h1, h2, h3⟩ := ih (by omega) (by
        intro x hx
        have h1 := hu x hx
        have h2 : x ≠ j := by
          intro e
          have h3 := hx.2
          rw [e, q] at h3
          exact absurd h3 (by decide)
        omega)
      refine ⟨n, h1, h2, fun post hp => ?_⟩
      unfold wY_bound_3
      rw [li_384p]
      simp (disch := omega) only [forall_eq, true_and, and_true, Nat.zero_add, nI_clamp, li_vin, nI_add, nI_eq, nI_leI, nI_ltI, li_0le, li_lt0, li_nn1, li_e0, not_true_eq_false, not_false_eq_true, false_implies, true_implies, forall_const, li_a0, li_b0, li_a1, li_b1, li_a2, li_b2, li_a3, li_b3, li_a7, li_b7, li_a8, li_b8, li_a16, li_b16, li_a48, li_b48, li_a584, li_b584, li_a572, li_b572, li_a96, li_b96, li_a144, li_b144, li_a192, li_b192, li_a240, li_b240, li_a336, li_b336, li_a384, li_b384, li_a432, li_b432, li_a480, li_b480, li_a488, li_b488, li_a496, li_b496, li_a504, li_b504, li_a512, li_b512, li_a520, li_b520, li_a524, li_b524, li_a528, li_b528, li_a536, li_b536, li_a544, li_b544, li_a552, li_b552, li_a560, li_b560, li_a568, li_b568, li_a573, li_b573, li_a585, li_b585, li_a633, li_b633, li_m3, li_n3, li_m4, li_n4, li_m48, li_n48, li_m50, li_n50, li_m585, li_n585, li_m633, li_n633, li_lt2, li_ge2, li_le2, li_gt2, li_lt1, li_ge1, li_le1, li_gt1, li_lt3, li_ge3, li_le3, li_gt3, li_lt4, li_ge4, li_le4, li_gt4, li_lt7, li_ge7, li_le7, li_gt7, li_lt8, li_ge8, li_le8, li_gt8, li_lt40, li_ge40, li_le40, li_gt40, li_lt240, li_ge240, li_le240, li_gt240, li_lt41, li_ge41, li_le41, li_gt41, li_lt48, li_ge48, li_le48, li_gt48, li_lt49, li_ge49, li_le49, li_gt49, li_lt60, li_ge60, li_le60, li_gt60, li_lt144, li_ge144, li_le144, li_gt144, li_lt145, li_ge145, li_le145, li_gt145, li_lt160, li_ge160, li_le160, li_gt160, li_lt336, li_ge336, li_le336, li_gt336, li_lt585, li_ge585, li_le585, li_gt585, li_lt633, li_ge633, li_le633, li_gt633, li_lt1000000, li_ge1000000, li_le1000000, li_gt1000000, li_lt2304, li_ge2304, li_le2304, li_gt2304, li_lt50, li_ge50, li_le50, li_gt50, li_le0, li_gt0, q, pk_m1]
      exact ⟨fun q => by omega, fun _ => h3 post hp⟩
theorem yw_bound {g_trials g_drafted g_found : Int32} {b_s b_saved b_draft b_who b_met b_stack b_fresh b_deep : Nat → Int32} {b_alike b_meets : Nat → Int64} (h : yv_H b_s) : ∃ n, n ≤ 48 ∧ (∀ x, yv_U b_s x → x < n) ∧ ∀ post : Int32 → Prop, post (nI n) → wpY_bound post (g_trials, g_drafted, g_found, b_s, b_saved, b_draft, b_who, b_met, b_stack, b_fresh, b_deep, b_alike, b_meets) := by
  obtain ⟨n, h1, h2, h3⟩ := yw_bound_3 (g_trials := g_trials) (g_drafted := g_drafted) (g_found := g_found) (b_s := b_s) (b_saved := b_saved) (b_draft := b_draft) (b_who := b_who) (b_met := b_met) (b_stack := b_stack) (b_fresh := b_fresh) (b_deep := b_deep) (b_alike := b_alike) (b_meets := b_meets) h 48 (by omega) (fun x hx => hx.1)
  exact ⟨n, h1, h2, fun post hp => ⟨_, h3 post hp⟩⟩
theorem yw_isOther {g_trials g_drafted g_found : Int32} {b_s b_saved b_draft b_who b_met b_stack b_fresh b_deep : Nat → Int32} {b_alike b_meets : Nat → Int64} (h : yv_H b_s) {u v : Nat} (hu : u < 48) (hv : v < 48) (u0 : b_s (48 + u) ≠ 0) (v0 : b_s (48 + v) ≠ 0) : ∀ post : Int32 → Prop, ((yv_T b_s).2.1 u = (yv_T b_s).2.1 v → post 0) → ((yv_T b_s).2.1 u ≠ (yv_T b_s).2.1 v → post 1) → wpY_isOther post (g_trials, g_drafted, g_found, b_s, b_saved, b_draft, b_who, b_met, b_stack, b_fresh, b_deep, b_alike, b_meets) (nI u) (nI v) := by
  intro post h0 h1
  have iff := yv_other h hu hv u0 v0
  have eu : (yv_T b_s).2.1 u = (yv_k b_s u, b_s (96 + u)) := if_pos hu
  have ev : (yv_T b_s).2.1 v = (yv_k b_s v, b_s (96 + v)) := if_pos hv
  rw [eu, ev] at h0 h1
  unfold wpY_isOther
  simp (disch := omega) only [forall_eq, true_and, and_true, Nat.zero_add, nI_clamp, li_vin, nI_add, nI_eq, nI_leI, nI_ltI, li_0le, li_lt0, li_nn1, li_e0, not_true_eq_false, not_false_eq_true, false_implies, true_implies, forall_const, li_a0, li_b0, li_a1, li_b1, li_a2, li_b2, li_a3, li_b3, li_a7, li_b7, li_a8, li_b8, li_a16, li_b16, li_a48, li_b48, li_a584, li_b584, li_a572, li_b572, li_a96, li_b96, li_a144, li_b144, li_a192, li_b192, li_a240, li_b240, li_a336, li_b336, li_a384, li_b384, li_a432, li_b432, li_a480, li_b480, li_a488, li_b488, li_a496, li_b496, li_a504, li_b504, li_a512, li_b512, li_a520, li_b520, li_a524, li_b524, li_a528, li_b528, li_a536, li_b536, li_a544, li_b544, li_a552, li_b552, li_a560, li_b560, li_a568, li_b568, li_a573, li_b573, li_a585, li_b585, li_a633, li_b633, li_m3, li_n3, li_m4, li_n4, li_m48, li_n48, li_m50, li_n50, li_m585, li_n585, li_m633, li_n633, li_lt2, li_ge2, li_le2, li_gt2, li_lt1, li_ge1, li_le1, li_gt1, li_lt3, li_ge3, li_le3, li_gt3, li_lt4, li_ge4, li_le4, li_gt4, li_lt7, li_ge7, li_le7, li_gt7, li_lt8, li_ge8, li_le8, li_gt8, li_lt40, li_ge40, li_le40, li_gt40, li_lt240, li_ge240, li_le240, li_gt240, li_lt41, li_ge41, li_le41, li_gt41, li_lt48, li_ge48, li_le48, li_gt48, li_lt49, li_ge49, li_le49, li_gt49, li_lt60, li_ge60, li_le60, li_gt60, li_lt144, li_ge144, li_le144, li_gt144, li_lt145, li_ge145, li_le145, li_gt145, li_lt160, li_ge160, li_le160, li_gt160, li_lt336, li_ge336, li_le336, li_gt336, li_lt585, li_ge585, li_le585, li_gt585, li_lt633, li_ge633, li_le633, li_gt633, li_lt1000000, li_ge1000000, li_le1000000, li_gt1000000, li_lt2304, li_ge2304, li_le2304, li_gt2304, li_lt50, li_ge50, li_le50, li_gt50, li_le0, li_gt0]
  refine br_c (fun e1 => br_c (fun e2 => br_c (fun e3 => br_c (fun e4 => h0 (iff.mp ⟨e1, e2, e3, e4⟩)) (fun n => h1 (fun q => n (iff.mpr q).2.2.2))) (fun n => h1 (fun q => n (iff.mpr q).2.2.1))) (fun n => h1 (fun q => n (iff.mpr q).2.1))) (fun n => h1 (fun q => n (iff.mpr q).1))
theorem yw_tryIds_2 {g_trials g_drafted g_found : Int32} {b_s b_saved b_draft b_who b_met b_stack b_fresh b_deep : Nat → Int32} {b_alike b_meets : Nat → Int64} : ∀ d j (b_s : Nat → Int32), j + d = 48 → ∃ s' : Nat → Int32, (∀ v, j ≤ v → v < 48 → s' (633 + v) = b_s v) ∧ (∀ i, i < 633 + j → s' i = b_s i) ∧ ∀ post : SY → Prop, post (g_trials, g_drafted, g_found, s', b_saved, b_draft, b_who, b_met, b_stack, b_fresh, b_deep, b_alike, b_meets) → wY_tryIds_2 post g_trials g_drafted g_found (d + 1) (nI j) b_s b_saved b_draft b_who b_met b_stack b_fresh b_deep b_alike b_meets := by
  intro d
  induction d with
  | zero =>
    intro j s hj
    refine ⟨s, fun v h1 h2 => by omega, fun _ _ => rfl, fun post hp => ?_⟩
    unfold wY_tryIds_2
    simp (disch := omega) only [forall_eq, true_and, and_true, Nat.zero_add, nI_clamp, li_vin, nI_add, nI_eq, nI_leI, nI_ltI, li_0le, li_lt0, li_nn1, li_e0, not_true_eq_false, not_false_eq_true, false_implies, true_implies, forall_const, li_a0, li_b0, li_a1, li_b1, li_a2, li_b2, li_a3, li_b3, li_a7, li_b7, li_a8, li_b8, li_a16, li_b16, li_a48, li_b48, li_a584, li_b584, li_a572, li_b572, li_a96, li_b96, li_a144, li_b144, li_a192, li_b192, li_a240, li_b240, li_a336, li_b336, li_a384, li_b384, li_a432, li_b432, li_a480, li_b480, li_a488, li_b488, li_a496, li_b496, li_a504, li_b504, li_a512, li_b512, li_a520, li_b520, li_a524, li_b524, li_a528, li_b528, li_a536, li_b536, li_a544, li_b544, li_a552, li_b552, li_a560, li_b560, li_a568, li_b568, li_a573, li_b573, li_a585, li_b585, li_a633, li_b633, li_m3, li_n3, li_m4, li_n4, li_m48, li_n48, li_m50, li_n50, li_m585, li_n585, li_m633, li_n633, li_lt2, li_ge2, li_le2, li_gt2, li_lt1, li_ge1, li_le1, li_gt1, li_lt3, li_ge3, li_le3, li_gt3, li_lt4, li_ge4, li_le4, li_gt4, li_lt7, li_ge7, li_le7, li_gt7, li_lt8, li_ge8, li_le8, li_gt8, li_lt40, li_ge40, li_le40, li_gt40, li_lt240, li_ge240, li_le240, li_gt240, li_lt41, li_ge41, li_le41, li_gt41, li_lt48, li_ge48, li_le48, li_gt48, li_lt49, li_ge49, li_le49, li_gt49, li_lt60, li_ge60, li_le60, li_gt60, li_lt144, li_ge144, li_le144, li_gt144, li_lt145, li_ge145, li_le145, li_gt145, li_lt160, li_ge160, li_le160, li_gt160, li_lt336, li_ge336, li_le336, li_gt336, li_lt585, li_ge585, li_le585, li_gt585, li_lt633, li_ge633, li_le633, li_gt633, li_lt1000000, li_ge1000000, li_le1000000, li_gt1000000, li_lt2304, li_ge2304, li_le2304, li_gt2304, li_lt50, li_ge50, li_le50, li_gt50, li_le0, li_gt0]
    exact ⟨fun _ => hp, fun q => by omega⟩
  | succ d ih =>
    intro j s hj
    obtain ⟨s', h1, h2, h3⟩ := ih (j + 1) (upd s (633 + j) (s j)) (by omega)
    refine ⟨s', ?_, ?_, fun post hp => ?_⟩
    · intro v g1 g2
      by_cases z : v = j
      · rw [z, h2 _ (by omega), pk_us]
      · rw [h1 v (by omega) g2, pk_un (by omega)]
    · intro i hi
      rw [h2 i (by omega), pk_un (by omega)]
    · unfold wY_tryIds_2
      simp (disch := omega) only [forall_eq, true_and, and_true, Nat.zero_add, nI_clamp, li_vin, nI_add, nI_eq, nI_leI, nI_ltI, li_0le, li_lt0, li_nn1, li_e0, not_true_eq_false, not_false_eq_true, false_implies, true_implies, forall_const, li_a0, li_b0, li_a1, li_b1, li_a2, li_b2, li_a3, li_b3, li_a7, li_b7, li_a8, li_b8, li_a16, li_b16, li_a48, li_b48, li_a584, li_b584, li_a572, li_b572, li_a96, li_b96, li_a144, li_b144, li_a192, li_b192, li_a240, li_b240, li_a336, li_b336, li_a384, li_b384, li_a432, li_b432, li_a480, li_b480, li_a488, li_b488, li_a496, li_b496, li_a504, li_b504, li_a512, li_b512, li_a520, li_b520, li_a524, li_b524, li_a528, li_b528, li_a536, li_b536, li_a544, li_b544, li_a552, li_b552, li_a560, li_b560, li_a568, li_b568, li_a573, li_b573, li_a585, li_b585, li_a633, li_b633, li_m3, li_n3, li_m4, li_n4, li_m48, li_n48, li_m50, li_n50, li_m585, li_n585, li_m633, li_n633, li_lt2, li_ge2, li_le2, li_gt2, li_lt1, li_ge1, li_le1, li_gt1, li_lt3, li_ge3, li_le3, li_gt3, li_lt4, li_ge4, li_le4, li_gt4, li_lt7, li_ge7, li_le7, li_gt7, li_lt8, li_ge8, li_le8, li_gt8, li_lt40, li_ge40, li_le40, li_gt40, li_lt240, li_ge240, li_le240, li_gt240, li_lt41, li_ge41, li_le41, li_gt41, li_lt48, li_ge48, li_le48, li_gt48, li_lt49, li_ge49, li_le49, li_gt49, li_lt60, li_ge60, li_le60, li_gt60, li_lt144, li_ge144, li_le144, li_gt144, li_lt145, li_ge145, li_le145, li_gt145, li_lt160, li_ge160, li_le160, li_gt160, li_lt336, li_ge336, li_le336, li_gt336, li_lt585, li_ge585, li_le585, li_gt585, li_lt633, li_ge633, li_le633, li_gt633, li_lt1000000, li_ge1000000, li_le1000000, li_gt1000000, li_lt2304, li_ge2304, li_le2304, li_gt2304, li_lt50, li_ge50, li_le50, li_gt50, li_le0, li_gt0]
      exact ⟨fun q => by omega, fun _ => h3 post hp⟩
theorem yw_tryIds {g_trials g_drafted g_found : Int32} {b_s b_saved b_draft b_who b_met b_stack b_fresh b_deep : Nat → Int32} {b_alike b_meets : Nat → Int64} : ∃ s' : Nat → Int32, (∀ v, v < 48 → s' (633 + v) = b_s v) ∧ (∀ i, i < 633 → s' i = b_s i) ∧ ∀ post : SY → Prop, post (g_trials, g_drafted, g_found, s', b_saved, b_draft, b_who, b_met, b_stack, b_fresh, b_deep, b_alike, b_meets) → wpY_tryIds post (g_trials, g_drafted, g_found, b_s, b_saved, b_draft, b_who, b_met, b_stack, b_fresh, b_deep, b_alike, b_meets) := by
  obtain ⟨s', h1, h2, h3⟩ := yw_tryIds_2 (g_trials := g_trials) (g_drafted := g_drafted) (g_found := g_found) (b_s := b_s) (b_saved := b_saved) (b_draft := b_draft) (b_who := b_who) (b_met := b_met) (b_stack := b_stack) (b_fresh := b_fresh) (b_deep := b_deep) (b_alike := b_alike) (b_meets := b_meets) 48 0 b_s rfl
  exact ⟨s', fun v hv => h1 v (by omega) hv, h2, fun post hp => ⟨_, h3 post hp⟩⟩
end
section
theorem dv_u {n u v : Nat} (hv : v < n) : (u * n + v) / n = u ∧ (u * n + v) % n = v := by
  have hn : 0 < n := by omega
  rw [Nat.mul_comm u n, Nat.mul_add_div hn, Nat.mul_add_mod, Nat.div_eq_of_lt hv, Nat.mod_eq_of_lt hv]
  exact ⟨by omega, rfl⟩
theorem dv_k {n k : Nat} (hk : k < n * n) : k / n < n ∧ k % n < n ∧ 0 < n ∧ k / n * n + k % n = k := by
  have hn : 0 < n := by
    cases n with
    | zero => omega
    | succ n => omega
  exact ⟨Nat.div_lt_of_lt_mul hk, Nat.mod_lt _ hn, hn, Nat.div_add_mod' k n⟩
def yc_c (s : Nat → Int32) : Nat := ma_cnt (fun v => decide (yv_I s 633 v = v)) 48
theorem yw_joinParts_6 {g_trials g_drafted g_found : Int32} {b_s b_saved b_draft b_who b_met b_stack b_fresh b_deep : Nat → Int32} {b_alike b_meets : Nat → Int64} {L : Nat → Nat} {Q : Nat → Nat → Prop} {s0 : Nat → Int32} {u v : Nat} (h0 : yv_H s0) (hT : ∀ c, (yv_T s0).1 c → yv_U s0 c ∧ ∀ k, k < ma_ct ((yv_T s0).2.1 c).1 → yv_U s0 ((yv_T s0).2.2 c k)) (hu : (yv_T s0).1 u) (hv : (yv_T s0).1 v) (sh : (yv_T s0).2.1 u = (yv_T s0).2.1 v) : ∀ d j (any : Int32) (b_s : Nat → Int32), j + d = ma_ct ((yv_T s0).2.1 u).1 → yc_I L Q s0 b_s → yv_I b_s 633 u = yv_I b_s 633 v → (any = 0 ∨ any = 1) → ∃ (any' : Int32) (s' : Nat → Int32), yc_I L Q s0 s' ∧ (any' = 0 ∨ any' = 1) ∧ ((any' = any ∧ s' = b_s ∧ ∀ k, j ≤ k → k < ma_ct ((yv_T s0).2.1 u).1 → yv_I b_s 633 ((yv_T s0).2.2 u k) = yv_I b_s 633 ((yv_T s0).2.2 v k)) ∨ (any' = 1 ∧ yc_c s' < yc_c b_s)) ∧ ∀ post : Int32 → SY → Prop, post any' (g_trials, g_drafted, g_found, s', b_saved, b_draft, b_who, b_met, b_stack, b_fresh, b_deep, b_alike, b_meets) → wY_joinParts_6 post (nI 633) (nI u) (nI v) (d + 1) any (nI j) g_trials g_drafted g_found b_s b_saved b_draft b_who b_met b_stack b_fresh b_deep b_alike b_meets := by
  have u48 : u < 48 := (yv_T1 hu).1.1
  have v48 : v < 48 := (yv_T1 hv).1.1
  have eu : (yv_T s0).2.1 u = (yv_k s0 u, s0 (96 + u)) := if_pos u48
  have ct3 := ma_ct_le ((yv_T s0).2.1 u).1
  have ec : s0 (192 + u) = nI (ma_ct ((yv_T s0).2.1 u).1) := by
    rw [eu]; exact (yv_HC h0 u48 (yv_T1 hu).2).1
  intro d
  induction d with
  | zero =>
    intro j any s hj hI e ha
    have ec' : s (192 + u) = nI (ma_ct ((yv_T s0).2.1 u).1) := by rw [hI.1 _ (by omega)]; exact ec
    refine ⟨any, s, hI, ha, Or.inl ⟨rfl, rfl, fun k g1 g2 => by omega⟩, fun post hp => ?_⟩
    unfold wY_joinParts_6
    simp (disch := omega) only [forall_eq, true_and, and_true, Nat.zero_add, nI_clamp, li_vin, nI_add, nI_eq, nI_leI, nI_ltI, li_0le, li_lt0, li_nn1, li_e0, not_true_eq_false, not_false_eq_true, false_implies, true_implies, forall_const, li_a0, li_b0, li_a1, li_b1, li_a2, li_b2, li_a3, li_b3, li_a7, li_b7, li_a8, li_b8, li_a16, li_b16, li_a48, li_b48, li_a584, li_b584, li_a572, li_b572, li_a96, li_b96, li_a144, li_b144, li_a192, li_b192, li_a240, li_b240, li_a336, li_b336, li_a384, li_b384, li_a432, li_b432, li_a480, li_b480, li_a488, li_b488, li_a496, li_b496, li_a504, li_b504, li_a512, li_b512, li_a520, li_b520, li_a524, li_b524, li_a528, li_b528, li_a536, li_b536, li_a544, li_b544, li_a552, li_b552, li_a560, li_b560, li_a568, li_b568, li_a573, li_b573, li_a585, li_b585, li_a633, li_b633, li_m3, li_n3, li_m4, li_n4, li_m48, li_n48, li_m50, li_n50, li_m585, li_n585, li_m633, li_n633, li_lt2, li_ge2, li_le2, li_gt2, li_lt1, li_ge1, li_le1, li_gt1, li_lt3, li_ge3, li_le3, li_gt3, li_lt4, li_ge4, li_le4, li_gt4, li_lt7, li_ge7, li_le7, li_gt7, li_lt8, li_ge8, li_le8, li_gt8, li_lt40, li_ge40, li_le40, li_gt40, li_lt240, li_ge240, li_le240, li_gt240, li_lt41, li_ge41, li_le41, li_gt41, li_lt48, li_ge48, li_le48, li_gt48, li_lt49, li_ge49, li_le49, li_gt49, li_lt60, li_ge60, li_le60, li_gt60, li_lt144, li_ge144, li_le144, li_gt144, li_lt145, li_ge145, li_le145, li_gt145, li_lt160, li_ge160, li_le160, li_gt160, li_lt336, li_ge336, li_le336, li_gt336, li_lt585, li_ge585, li_le585, li_gt585, li_lt633, li_ge633, li_le633, li_gt633, li_lt1000000, li_ge1000000, li_le1000000, li_gt1000000, li_lt2304, li_ge2304, li_le2304, li_gt2304, li_lt50, li_ge50, li_le50, li_gt50, li_le0, li_gt0, ec']
    refine ⟨fun _ => ⟨?_, hp⟩, fun q => by omega⟩
    rcases ha with z | z
    · rw [z]; exact nb_0
    · rw [z]; exact nb_1
  | succ d ih =>
    intro j any s hj hI e ha
    have ec' : s (192 + u) = nI (ma_ct ((yv_T s0).2.1 u).1) := by rw [hI.1 _ (by omega)]; exact ec
    have j3 : j < 3 := by omega
    have pu : s (240 + 3 * u + j) = nI ((yv_T s0).2.2 u j) ∧ (yv_T s0).2.2 u j < 48 := by
      rw [hI.1 _ (by omega)]; exact yv_HP h0 u48 j3
    have pv : s (240 + 3 * v + j) = nI ((yv_T s0).2.2 v j) ∧ (yv_T s0).2.2 v j < 48 := by
      rw [hI.1 _ (by omega)]; exact yv_HP h0 v48 j3
    obtain ⟨pu1, pu2⟩ := pu
    obtain ⟨pv1, pv2⟩ := pv
    obtain ⟨iu1, iu2⟩ := yc_W hI _ pu2
    obtain ⟨iv1, iv2⟩ := yc_W hI _ pv2
    have Uu := (hT u hu).2 j (by omega)
    have Uv := (hT v hv).2 j (by rw [← sh]; omega)
    by_cases q : yv_I s 633 ((yv_T s0).2.2 u j) = yv_I s 633 ((yv_T s0).2.2 v j)
    · obtain ⟨any', s', h1, h2, h3, h4⟩ := ih (j + 1) any s (by omega) hI e ha
      refine ⟨any', s', h1, h2, ?_, fun post hp => ?_⟩
      · rcases h3 with ⟨z1, z2, z3⟩ | z
        · refine Or.inl ⟨z1, z2, fun k g1 g2 => ?_⟩
          by_cases w : k = j
          · rw [w]; exact q
          · exact z3 k (by omega) g2
        · exact Or.inr z
      · unfold wY_joinParts_6
        simp (disch := omega) only [forall_eq, true_and, and_true, Nat.zero_add, nI_clamp, li_vin, nI_add, nI_eq, nI_leI, nI_ltI, li_0le, li_lt0, li_nn1, li_e0, not_true_eq_false, not_false_eq_true, false_implies, true_implies, forall_const, li_a0, li_b0, li_a1, li_b1, li_a2, li_b2, li_a3, li_b3, li_a7, li_b7, li_a8, li_b8, li_a16, li_b16, li_a48, li_b48, li_a584, li_b584, li_a572, li_b572, li_a96, li_b96, li_a144, li_b144, li_a192, li_b192, li_a240, li_b240, li_a336, li_b336, li_a384, li_b384, li_a432, li_b432, li_a480, li_b480, li_a488, li_b488, li_a496, li_b496, li_a504, li_b504, li_a512, li_b512, li_a520, li_b520, li_a524, li_b524, li_a528, li_b528, li_a536, li_b536, li_a544, li_b544, li_a552, li_b552, li_a560, li_b560, li_a568, li_b568, li_a573, li_b573, li_a585, li_b585, li_a633, li_b633, li_m3, li_n3, li_m4, li_n4, li_m48, li_n48, li_m50, li_n50, li_m585, li_n585, li_m633, li_n633, li_lt2, li_ge2, li_le2, li_gt2, li_lt1, li_ge1, li_le1, li_gt1, li_lt3, li_ge3, li_le3, li_gt3, li_lt4, li_ge4, li_le4, li_gt4, li_lt7, li_ge7, li_le7, li_gt7, li_lt8, li_ge8, li_le8, li_gt8, li_lt40, li_ge40, li_le40, li_gt40, li_lt240, li_ge240, li_le240, li_gt240, li_lt41, li_ge41, li_le41, li_gt41, li_lt48, li_ge48, li_le48, li_gt48, li_lt49, li_ge49, li_le49, li_gt49, li_lt60, li_ge60, li_le60, li_gt60, li_lt144, li_ge144, li_le144, li_gt144, li_lt145, li_ge145, li_le145, li_gt145, li_lt160, li_ge160, li_le160, li_gt160, li_lt336, li_ge336, li_le336, li_gt336, li_lt585, li_ge585, li_le585, li_gt585, li_lt633, li_ge633, li_le633, li_gt633, li_lt1000000, li_ge1000000, li_le1000000, li_gt1000000, li_lt2304, li_ge2304, li_le2304, li_gt2304, li_lt50, li_ge50, li_le50, li_gt50, li_le0, li_gt0, ec', pu1, pv1, iu1, iv1]
        exact ⟨fun q => by omega, fun _ => ⟨fun _ => h4 post hp, fun z => absurd q z⟩⟩
    · obtain ⟨s1, j1, j2⟩ := yw_join (g_trials := g_trials) (g_drafted := g_drafted) (g_found := g_found) (b_s := s) (b_saved := b_saved) (b_draft := b_draft) (b_who := b_who) (b_met := b_met) (b_stack := b_stack) (b_fresh := b_fresh) (b_deep := b_deep) (b_alike := b_alike) (b_meets := b_meets) (b := 633) (by omega) pu2 pv2
      obtain ⟨n1, n2, n3, n4⟩ := yc_step hI Uu Uv j1 (yc_part hu hv e sh (by omega))
      obtain ⟨any', s', h1, h2, h3, h4⟩ := ih (j + 1) 1 s1 (by omega) n1 (n3 u v (hT u hu).1 (hT v hv).1 e) (Or.inr rfl)
      have lt : yc_c s1 < yc_c s := n2 q
      refine ⟨any', s', h1, h2, ?_, fun post hp => ?_⟩
      · rcases h3 with ⟨z1, z2, z3⟩ | ⟨z1, z2⟩
        · rw [z2]; exact Or.inr ⟨z1, lt⟩
        · exact Or.inr ⟨z1, by omega⟩
      · unfold wY_joinParts_6
        simp (disch := omega) only [forall_eq, true_and, and_true, Nat.zero_add, nI_clamp, li_vin, nI_add, nI_eq, nI_leI, nI_ltI, li_0le, li_lt0, li_nn1, li_e0, not_true_eq_false, not_false_eq_true, false_implies, true_implies, forall_const, li_a0, li_b0, li_a1, li_b1, li_a2, li_b2, li_a3, li_b3, li_a7, li_b7, li_a8, li_b8, li_a16, li_b16, li_a48, li_b48, li_a584, li_b584, li_a572, li_b572, li_a96, li_b96, li_a144, li_b144, li_a192, li_b192, li_a240, li_b240, li_a336, li_b336, li_a384, li_b384, li_a432, li_b432, li_a480, li_b480, li_a488, li_b488, li_a496, li_b496, li_a504, li_b504, li_a512, li_b512, li_a520, li_b520, li_a524, li_b524, li_a528, li_b528, li_a536, li_b536, li_a544, li_b544, li_a552, li_b552, li_a560, li_b560, li_a568, li_b568, li_a573, li_b573, li_a585, li_b585, li_a633, li_b633, li_m3, li_n3, li_m4, li_n4, li_m48, li_n48, li_m50, li_n50, li_m585, li_n585, li_m633, li_n633, li_lt2, li_ge2, li_le2, li_gt2, li_lt1, li_ge1, li_le1, li_gt1, li_lt3, li_ge3, li_le3, li_gt3, li_lt4, li_ge4, li_le4, li_gt4, li_lt7, li_ge7, li_le7, li_gt7, li_lt8, li_ge8, li_le8, li_gt8, li_lt40, li_ge40, li_le40, li_gt40, li_lt240, li_ge240, li_le240, li_gt240, li_lt41, li_ge41, li_le41, li_gt41, li_lt48, li_ge48, li_le48, li_gt48, li_lt49, li_ge49, li_le49, li_gt49, li_lt60, li_ge60, li_le60, li_gt60, li_lt144, li_ge144, li_le144, li_gt144, li_lt145, li_ge145, li_le145, li_gt145, li_lt160, li_ge160, li_le160, li_gt160, li_lt336, li_ge336, li_le336, li_gt336, li_lt585, li_ge585, li_le585, li_gt585, li_lt633, li_ge633, li_le633, li_gt633, li_lt1000000, li_ge1000000, li_le1000000, li_gt1000000, li_lt2304, li_ge2304, li_le2304, li_gt2304, li_lt50, li_ge50, li_le50, li_gt50, li_le0, li_gt0, ec', pu1, pv1, iu1, iv1]
        exact ⟨fun q => by omega, fun _ => ⟨fun z => absurd z q, fun _ => j2 _ (h4 post hp)⟩⟩
def yc_p (s0 s : Nat → Int32) (n k : Nat) : Prop :=
  ∀ u v, (yv_T s0).1 u → (yv_T s0).1 v → u < v → v < n → u * n + v < k → yv_I s 633 u = yv_I s 633 v → (yv_T s0).2.1 u = (yv_T s0).2.1 v ∧ ∀ j, j < ma_ct ((yv_T s0).2.1 u).1 → yv_I s 633 ((yv_T s0).2.2 u j) = yv_I s 633 ((yv_T s0).2.2 v j)
theorem yc_p1 {s0 s : Nat → Int32} {n k : Nat} (h : yc_p s0 s n k) (hk : ∀ u v, (yv_T s0).1 u → (yv_T s0).1 v → u < v → u = k / n → v = k % n → yv_I s 633 u = yv_I s 633 v → (yv_T s0).2.1 u = (yv_T s0).2.1 v ∧ ∀ j, j < ma_ct ((yv_T s0).2.1 u).1 → yv_I s 633 ((yv_T s0).2.2 u j) = yv_I s 633 ((yv_T s0).2.2 v j)) : yc_p s0 s n (k + 1) := by
  intro u v hu hv lt vn lk e
  by_cases q : u * n + v < k
  · exact h u v hu hv lt vn q e
  · have e2 : u * n + v = k := by omega
    obtain ⟨d1, d2⟩ := dv_u (u := u) vn
    rw [e2] at d1 d2
    exact hk u v hu hv lt d1.symm d2.symm e
theorem yw_close_16 {g_trials g_drafted g_found : Int32} {b_s b_saved b_draft b_who b_met b_stack b_fresh b_deep : Nat → Int32} {b_alike b_meets : Nat → Int64} {L : Nat → Nat} {Q : Nat → Nat → Prop} {s0 : Nat → Int32} {n : Nat} (hn : n ≤ 48) (h0 : yv_H s0) (hT : ∀ c, (yv_T s0).1 c → yv_U s0 c ∧ ∀ k, k < ma_ct ((yv_T s0).2.1 c).1 → yv_U s0 ((yv_T s0).2.2 c k)) : ∀ d k (more : Int32) (b_s : Nat → Int32), k + d = n * n → yc_I L Q s0 b_s → (more = 0 ∨ more = 1) → (more = 0 → yc_p s0 b_s n k) →
    (∃ s' : Nat → Int32, ma_No (yv_U s0) L (yv_T s0) Q ∧ (∀ i, i < 633 → s' i = s0 i) ∧ ∀ (post : Int32 → SY → Prop) (J7 : Int32 → Int32 → Int32 → Int32 → (Nat → Int32) → (Nat → Int32) → (Nat → Int32) → (Nat → Int32) → (Nat → Int32) → (Nat → Int32) → (Nat → Int32) → (Nat → Int32) → (Nat → Int64) → (Nat → Int64) → Prop), post 0 (g_trials, g_drafted, g_found, s', b_saved, b_draft, b_who, b_met, b_stack, b_fresh, b_deep, b_alike, b_meets) → wY_close_16 post J7 (nI 633) (nI n) (d + 1) more (nI k) g_trials g_drafted g_found b_s b_saved b_draft b_who b_met b_stack b_fresh b_deep b_alike b_meets) ∨
    (∃ (more' : Int32) (s' : Nat → Int32), yc_I L Q s0 s' ∧ (more' = 0 ∨ more' = 1) ∧ (more' = 0 → yc_p s0 s' n (n * n)) ∧ yc_c s' ≤ yc_c b_s ∧ (more' = 1 → more = 1 ∨ yc_c s' < yc_c b_s) ∧ ∀ (post : Int32 → SY → Prop) (J7 : Int32 → Int32 → Int32 → Int32 → (Nat → Int32) → (Nat → Int32) → (Nat → Int32) → (Nat → Int32) → (Nat → Int32) → (Nat → Int32) → (Nat → Int32) → (Nat → Int32) → (Nat → Int64) → (Nat → Int64) → Prop), J7 more' g_trials g_drafted g_found s' b_saved b_draft b_who b_met b_stack b_fresh b_deep b_alike b_meets → wY_close_16 post J7 (nI 633) (nI n) (d + 1) more (nI k) g_trials g_drafted g_found b_s b_saved b_draft b_who b_met b_stack b_fresh b_deep b_alike b_meets) := by
  have nn : n * n ≤ 2304 := Nat.mul_le_mul hn hn
  have emul : nI n * nI n = nI (n * n) := pk_mul n n
  intro d
  induction d with
  | zero =>
    intro k more s hk hI hm hp
    refine Or.inr ⟨more, s, hI, hm, fun z => ?_, Nat.le_refl _, fun z => Or.inl z, fun post J7 hj => ?_⟩
    · rw [show n * n = k from by omega]; exact hp z
    · unfold wY_close_16
      rw [emul]
      simp (disch := omega) only [forall_eq, true_and, and_true, Nat.zero_add, nI_clamp, li_vin, nI_add, nI_eq, nI_leI, nI_ltI, li_0le, li_lt0, li_nn1, li_e0, not_true_eq_false, not_false_eq_true, false_implies, true_implies, forall_const, li_a0, li_b0, li_a1, li_b1, li_a2, li_b2, li_a3, li_b3, li_a7, li_b7, li_a8, li_b8, li_a16, li_b16, li_a48, li_b48, li_a584, li_b584, li_a572, li_b572, li_a96, li_b96, li_a144, li_b144, li_a192, li_b192, li_a240, li_b240, li_a336, li_b336, li_a384, li_b384, li_a432, li_b432, li_a480, li_b480, li_a488, li_b488, li_a496, li_b496, li_a504, li_b504, li_a512, li_b512, li_a520, li_b520, li_a524, li_b524, li_a528, li_b528, li_a536, li_b536, li_a544, li_b544, li_a552, li_b552, li_a560, li_b560, li_a568, li_b568, li_a573, li_b573, li_a585, li_b585, li_a633, li_b633, li_m3, li_n3, li_m4, li_n4, li_m48, li_n48, li_m50, li_n50, li_m585, li_n585, li_m633, li_n633, li_lt2, li_ge2, li_le2, li_gt2, li_lt1, li_ge1, li_le1, li_gt1, li_lt3, li_ge3, li_le3, li_gt3, li_lt4, li_ge4, li_le4, li_gt4, li_lt7, li_ge7, li_le7, li_gt7, li_lt8, li_ge8, li_le8, li_gt8, li_lt40, li_ge40, li_le40, li_gt40, li_lt240, li_ge240, li_le240, li_gt240, li_lt41, li_ge41, li_le41, li_gt41, li_lt48, li_ge48, li_le48, li_gt48, li_lt49, li_ge49, li_le49, li_gt49, li_lt60, li_ge60, li_le60, li_gt60, li_lt144, li_ge144, li_le144, li_gt144, li_lt145, li_ge145, li_le145, li_gt145, li_lt160, li_ge160, li_le160, li_gt160, li_lt336, li_ge336, li_le336, li_gt336, li_lt585, li_ge585, li_le585, li_gt585, li_lt633, li_ge633, li_le633, li_gt633, li_lt1000000, li_ge1000000, li_le1000000, li_gt1000000, li_lt2304, li_ge2304, li_le2304, li_gt2304, li_lt50, li_ge50, li_le50, li_gt50, li_le0, li_gt0]
      exact ⟨fun _ => hj, fun q => by omega⟩
  | succ d ih =>
    intro k more s hk hI hm hp
    obtain ⟨un, vn, n0, _⟩ := dv_k (n := n) (k := k) (by omega)
    have er : nI k - nI k / nI n * nI n = nI (k % n) := pk_rem (by omega) n0 (by omega)
    have ed : nI k / nI n = nI (k / n) := pk_div (by omega) n0 (by omega)
    have en : (nI n = 0) ↔ False := ⟨fun z => by have := (li_e0 (by omega)).mp z; omega, fun z => z.elim⟩
    generalize hu : k / n = u at *
    generalize hv : k % n = v at *
    have step : ∀ (more1 : Int32) (s1 : Nat → Int32), yc_I L Q s0 s1 → (more1 = 0 ∨ more1 = 1) → (more1 = 0 → yc_p s0 s1 n (k + 1)) → yc_c s1 ≤ yc_c s → (more1 = 1 → more = 1 ∨ yc_c s1 < yc_c s) → (∀ (post : Int32 → SY → Prop) (J7 : Int32 → Int32 → Int32 → Int32 → (Nat → Int32) → (Nat → Int32) → (Nat → Int32) → (Nat → Int32) → (Nat → Int32) → (Nat → Int32) → (Nat → Int32) → (Nat → Int32) → (Nat → Int64) → (Nat → Int64) → Prop), wY_close_16 post J7 (nI 633) (nI n) (d + 1) more1 (nI (k + 1)) g_trials g_drafted g_found s1 b_saved b_draft b_who b_met b_stack b_fresh b_deep b_alike b_meets → wY_close_16 post J7 (nI 633) (nI n) (d + 1 + 1) more (nI k) g_trials g_drafted g_found s b_saved b_draft b_who b_met b_stack b_fresh b_deep b_alike b_meets) →
      (∃ s' : Nat → Int32, ma_No (yv_U s0) L (yv_T s0) Q ∧ (∀ i, i < 633 → s' i = s0 i) ∧ ∀ (post : Int32 → SY → Prop) (J7 : Int32 → Int32 → Int32 → Int32 → (Nat → Int32) → (Nat → Int32) → (Nat → Int32) → (Nat → Int32) → (Nat → Int32) → (Nat → Int32) → (Nat → Int32) → (Nat → Int32) → (Nat → Int64) → (Nat → Int64) → Prop), post 0 (g_trials, g_drafted, g_found, s', b_saved, b_draft, b_who, b_met, b_stack, b_fresh, b_deep, b_alike, b_meets) → wY_close_16 post J7 (nI 633) (nI n) (d + 1 + 1) more (nI k) g_trials g_drafted g_found s b_saved b_draft b_who b_met b_stack b_fresh b_deep b_alike b_meets) ∨
      (∃ (more' : Int32) (s' : Nat → Int32), yc_I L Q s0 s' ∧ (more' = 0 ∨ more' = 1) ∧ (more' = 0 → yc_p s0 s' n (n * n)) ∧ yc_c s' ≤ yc_c s ∧ (more' = 1 → more = 1 ∨ yc_c s' < yc_c s) ∧ ∀ (post : Int32 → SY → Prop) (J7 : Int32 → Int32 → Int32 → Int32 → (Nat → Int32) → (Nat → Int32) → (Nat → Int32) → (Nat → Int32) → (Nat → Int32) → (Nat → Int32) → (Nat → Int32) → (Nat → Int32) → (Nat → Int64) → (Nat → Int64) → Prop), J7 more' g_trials g_drafted g_found s' b_saved b_draft b_who b_met b_stack b_fresh b_deep b_alike b_meets → wY_close_16 post J7 (nI 633) (nI n) (d + 1 + 1) more (nI k) g_trials g_drafted g_found s b_saved b_draft b_who b_met b_stack b_fresh b_deep b_alike b_meets) := by
      intro more1 s1 i1 i2 i3 i4 i5 hw
      rcases ih (k + 1) more1 s1 (by omega) i1 i2 i3 with ⟨s', a1, a2, a3⟩ | ⟨more', s', a1, a2, a3, a4, a5, a6⟩
      · exact Or.inl ⟨s', a1, a2, fun post J7 q => hw post J7 (a3 post J7 q)⟩
      · refine Or.inr ⟨more', s', a1, a2, a3, by omega, fun z => ?_, fun post J7 q => hw post J7 (a6 post J7 q)⟩
        rcases a5 z with z1 | z1
        · rcases i5 z1 with z2 | z2
          · exact Or.inl z2
          · exact Or.inr (by omega)
        · exact Or.inr (by omega)
    have skip : (¬ ((yv_T s0).1 u ∧ (yv_T s0).1 v ∧ u < v ∧ yv_I s 633 u = yv_I s 633 v)) → (more = 0 → yc_p s0 s n (k + 1)) := by
      intro z m0
      refine yc_p1 (hp m0) (fun u' v' a1 a2 a3 a4 a5 a6 => ?_)
      rw [hu] at a4
      rw [hv] at a5
      rw [a4, a5] at a3 a6
      rw [a4] at a1
      rw [a5] at a2
      exact absurd ⟨a1, a2, a3, a6⟩ z
    obtain ⟨iu1, iu2⟩ := yc_W hI u (by omega)
    obtain ⟨iv1, iv2⟩ := yc_W hI v (by omega)
    have low : ∀ i, i < 633 → s i = s0 i := hI.1
    have ku : s (48 + u) = s0 (48 + u) := low _ (by omega)
    have kv : s (48 + v) = s0 (48 + v) := low _ (by omega)
    by_cases q1 : v ≤ u
    · refine step more s hI hm (skip (fun z => by omega)) (Nat.le_refl _) (fun z => Or.inl z) (fun post J7 hj => ?_)
      rw [wY_close_16]
      dsimp only
      rw [er, emul, ed]
      simp (disch := omega) only [forall_eq, true_and, and_true, Nat.zero_add, nI_clamp, li_vin, nI_add, nI_eq, nI_leI, nI_ltI, li_0le, li_lt0, li_nn1, li_e0, not_true_eq_false, not_false_eq_true, false_implies, true_implies, forall_const, li_a0, li_b0, li_a1, li_b1, li_a2, li_b2, li_a3, li_b3, li_a7, li_b7, li_a8, li_b8, li_a16, li_b16, li_a48, li_b48, li_a584, li_b584, li_a572, li_b572, li_a96, li_b96, li_a144, li_b144, li_a192, li_b192, li_a240, li_b240, li_a336, li_b336, li_a384, li_b384, li_a432, li_b432, li_a480, li_b480, li_a488, li_b488, li_a496, li_b496, li_a504, li_b504, li_a512, li_b512, li_a520, li_b520, li_a524, li_b524, li_a528, li_b528, li_a536, li_b536, li_a544, li_b544, li_a552, li_b552, li_a560, li_b560, li_a568, li_b568, li_a573, li_b573, li_a585, li_b585, li_a633, li_b633, li_m3, li_n3, li_m4, li_n4, li_m48, li_n48, li_m50, li_n50, li_m585, li_n585, li_m633, li_n633, li_lt2, li_ge2, li_le2, li_gt2, li_lt1, li_ge1, li_le1, li_gt1, li_lt3, li_ge3, li_le3, li_gt3, li_lt4, li_ge4, li_le4, li_gt4, li_lt7, li_ge7, li_le7, li_gt7, li_lt8, li_ge8, li_le8, li_gt8, li_lt40, li_ge40, li_le40, li_gt40, li_lt240, li_ge240, li_le240, li_gt240, li_lt41, li_ge41, li_le41, li_gt41, li_lt48, li_ge48, li_le48, li_gt48, li_lt49, li_ge49, li_le49, li_gt49, li_lt60, li_ge60, li_le60, li_gt60, li_lt144, li_ge144, li_le144, li_gt144, li_lt145, li_ge145, li_le145, li_gt145, li_lt160, li_ge160, li_le160, li_gt160, li_lt336, li_ge336, li_le336, li_gt336, li_lt585, li_ge585, li_le585, li_gt585, li_lt633, li_ge633, li_le633, li_gt633, li_lt1000000, li_ge1000000, li_le1000000, li_gt1000000, li_lt2304, li_ge2304, li_le2304, li_gt2304, li_lt50, li_ge50, li_le50, li_gt50, li_le0, li_gt0, en]
      exact ⟨fun q => by omega, fun _ => ⟨fun _ => hj, fun z => absurd q1 z⟩⟩
    · by_cases q2 : yv_I s 633 u = yv_I s 633 v
      · by_cases q3 : s0 (48 + u) = 0
        · refine step more s hI hm (skip (fun z => (yv_T1 z.1).2 q3)) (Nat.le_refl _) (fun z => Or.inl z) (fun post J7 hj => ?_)
          rw [wY_close_16]
          dsimp only
          rw [er, emul, ed]
          simp (disch := omega) only [forall_eq, true_and, and_true, Nat.zero_add, nI_clamp, li_vin, nI_add, nI_eq, nI_leI, nI_ltI, li_0le, li_lt0, li_nn1, li_e0, not_true_eq_false, not_false_eq_true, false_implies, true_implies, forall_const, li_a0, li_b0, li_a1, li_b1, li_a2, li_b2, li_a3, li_b3, li_a7, li_b7, li_a8, li_b8, li_a16, li_b16, li_a48, li_b48, li_a584, li_b584, li_a572, li_b572, li_a96, li_b96, li_a144, li_b144, li_a192, li_b192, li_a240, li_b240, li_a336, li_b336, li_a384, li_b384, li_a432, li_b432, li_a480, li_b480, li_a488, li_b488, li_a496, li_b496, li_a504, li_b504, li_a512, li_b512, li_a520, li_b520, li_a524, li_b524, li_a528, li_b528, li_a536, li_b536, li_a544, li_b544, li_a552, li_b552, li_a560, li_b560, li_a568, li_b568, li_a573, li_b573, li_a585, li_b585, li_a633, li_b633, li_m3, li_n3, li_m4, li_n4, li_m48, li_n48, li_m50, li_n50, li_m585, li_n585, li_m633, li_n633, li_lt2, li_ge2, li_le2, li_gt2, li_lt1, li_ge1, li_le1, li_gt1, li_lt3, li_ge3, li_le3, li_gt3, li_lt4, li_ge4, li_le4, li_gt4, li_lt7, li_ge7, li_le7, li_gt7, li_lt8, li_ge8, li_le8, li_gt8, li_lt40, li_ge40, li_le40, li_gt40, li_lt240, li_ge240, li_le240, li_gt240, li_lt41, li_ge41, li_le41, li_gt41, li_lt48, li_ge48, li_le48, li_gt48, li_lt49, li_ge49, li_le49, li_gt49, li_lt60, li_ge60, li_le60, li_gt60, li_lt144, li_ge144, li_le144, li_gt144, li_lt145, li_ge145, li_le145, li_gt145, li_lt160, li_ge160, li_le160, li_gt160, li_lt336, li_ge336, li_le336, li_gt336, li_lt585, li_ge585, li_le585, li_gt585, li_lt633, li_ge633, li_le633, li_gt633, li_lt1000000, li_ge1000000, li_le1000000, li_gt1000000, li_lt2304, li_ge2304, li_le2304, li_gt2304, li_lt50, li_ge50, li_le50, li_gt50, li_le0, li_gt0, en, iu1, iv1, ku, kv]
          exact ⟨fun q => by omega, fun _ => ⟨fun z => absurd z q1, fun _ => ⟨fun _ => ⟨fun _ => hj, fun z => absurd q3 z⟩, fun z => absurd q2 z⟩⟩⟩
        · by_cases q4 : s0 (48 + v) = 0
          · refine step more s hI hm (skip (fun z => (yv_T1 z.2.1).2 q4)) (Nat.le_refl _) (fun z => Or.inl z) (fun post J7 hj => ?_)
            rw [wY_close_16]
            dsimp only
            rw [er, emul, ed]
            simp (disch := omega) only [forall_eq, true_and, and_true, Nat.zero_add, nI_clamp, li_vin, nI_add, nI_eq, nI_leI, nI_ltI, li_0le, li_lt0, li_nn1, li_e0, not_true_eq_false, not_false_eq_true, false_implies, true_implies, forall_const, li_a0, li_b0, li_a1, li_b1, li_a2, li_b2, li_a3, li_b3, li_a7, li_b7, li_a8, li_b8, li_a16, li_b16, li_a48, li_b48, li_a584, li_b584, li_a572, li_b572, li_a96, li_b96, li_a144, li_b144, li_a192, li_b192, li_a240, li_b240, li_a336, li_b336, li_a384, li_b384, li_a432, li_b432, li_a480, li_b480, li_a488, li_b488, li_a496, li_b496, li_a504, li_b504, li_a512, li_b512, li_a520, li_b520, li_a524, li_b524, li_a528, li_b528, li_a536, li_b536, li_a544, li_b544, li_a552, li_b552, li_a560, li_b560, li_a568, li_b568, li_a573, li_b573, li_a585, li_b585, li_a633, li_b633, li_m3, li_n3, li_m4, li_n4, li_m48, li_n48, li_m50, li_n50, li_m585, li_n585, li_m633, li_n633, li_lt2, li_ge2, li_le2, li_gt2, li_lt1, li_ge1, li_le1, li_gt1, li_lt3, li_ge3, li_le3, li_gt3, li_lt4, li_ge4, li_le4, li_gt4, li_lt7, li_ge7, li_le7, li_gt7, li_lt8, li_ge8, li_le8, li_gt8, li_lt40, li_ge40, li_le40, li_gt40, li_lt240, li_ge240, li_le240, li_gt240, li_lt41, li_ge41, li_le41, li_gt41, li_lt48, li_ge48, li_le48, li_gt48, li_lt49, li_ge49, li_le49, li_gt49, li_lt60, li_ge60, li_le60, li_gt60, li_lt144, li_ge144, li_le144, li_gt144, li_lt145, li_ge145, li_le145, li_gt145, li_lt160, li_ge160, li_le160, li_gt160, li_lt336, li_ge336, li_le336, li_gt336, li_lt585, li_ge585, li_le585, li_gt585, li_lt633, li_ge633, li_le633, li_gt633, li_lt1000000, li_ge1000000, li_le1000000, li_gt1000000, li_lt2304, li_ge2304, li_le2304, li_gt2304, li_lt50, li_ge50, li_le50, li_gt50, li_le0, li_gt0, en, iu1, iv1, ku, kv]
            exact ⟨fun q => by omega, fun _ => ⟨fun z => absurd z q1, fun _ => ⟨fun _ => ⟨fun z => absurd z q3, fun _ => ⟨fun _ => hj, fun z => absurd q4 z⟩⟩, fun z => absurd q2 z⟩⟩⟩
          · have tu : (yv_T s0).1 u := by
              rcases h0.2.1 u (by omega) with z | z
              · exact ⟨⟨by omega, z⟩, q3⟩
              · exact absurd z.2.2 q3
            have tv : (yv_T s0).1 v := by
              rcases h0.2.1 v (by omega) with z | z
              · exact ⟨⟨by omega, z⟩, q4⟩
              · exact absurd z.2.2 q4
            have eT : yv_T s = yv_T s0 := yv_congrT (fun i _ hi => low i (by omega))
            have hs : yv_H s := yv_congrH (fun i hi => low i (by omega)) h0
            have wo := yw_isOther (g_trials := g_trials) (g_drafted := g_drafted) (g_found := g_found) (b_s := s) (b_saved := b_saved) (b_draft := b_draft) (b_who := b_who) (b_met := b_met) (b_stack := b_stack) (b_fresh := b_fresh) (b_deep := b_deep) (b_alike := b_alike) (b_meets := b_meets) hs (u := u) (v := v) (by omega) (by omega) (by rw [ku]; exact q3) (by rw [kv]; exact q4)
            rw [eT] at wo
            by_cases q5 : (yv_T s0).2.1 u = (yv_T s0).2.1 v
            · obtain ⟨any', s1, b1, b2, b3, b4⟩ := yw_joinParts_6 (g_trials := g_trials) (g_drafted := g_drafted) (g_found := g_found) (b_s := b_s) (b_saved := b_saved) (b_draft := b_draft) (b_who := b_who) (b_met := b_met) (b_stack := b_stack) (b_fresh := b_fresh) (b_deep := b_deep) (b_alike := b_alike) (b_meets := b_meets) (L := L) (Q := Q) h0 hT tu tv q5 (ma_ct ((yv_T s0).2.1 u).1) 0 0 s (by omega) hI q2 (Or.inl rfl)
              have or01 : (more ||| any' = 0 ∧ more = 0 ∧ any' = 0) ∨ (more ||| any' = 1 ∧ (more = 1 ∨ any' = 1)) := by
                rcases hm with z | z <;> rcases b2 with w | w <;> rw [z, w]
                · exact Or.inl ⟨by decide, rfl, rfl⟩
                · exact Or.inr ⟨by decide, Or.inr rfl⟩
                · exact Or.inr ⟨by decide, Or.inl rfl⟩
                · exact Or.inr ⟨by decide, Or.inl rfl⟩
              refine step (more ||| any') s1 b1 ?_ ?_ ?_ ?_ (fun post J7 hj => ?_)
              · rcases or01 with z | z
                · exact Or.inl z.1
                · exact Or.inr z.1
              · intro m0
                rcases or01 with z | z
                · rcases b3 with ⟨c1, c2, c3⟩ | ⟨c1, c2⟩
                  · rw [c2]
                    refine yc_p1 (hp z.2.1) (fun u' v' a1 a2 a3 a4 a5 a6 => ?_)
                    rw [hu] at a4
                    rw [hv] at a5
                    rw [a4, a5]
                    exact ⟨q5, fun j hj => c3 j (by omega) hj⟩
                  · rw [c1] at z
                    exact absurd z.2.2 (by decide)
                · rw [z.1] at m0
                  exact absurd m0 (by decide)
              · rcases b3 with ⟨c1, c2, c3⟩ | ⟨c1, c2⟩
                · rw [c2]; exact Nat.le_refl _
                · omega
              · intro m1
                rcases b3 with ⟨c1, c2, c3⟩ | ⟨c1, c2⟩
                · rcases or01 with z | z
                  · rw [z.1] at m1
                    exact absurd m1 (by decide)
                  · rcases z.2 with z | z
                    · exact Or.inl z
                    · rw [c1] at z
                      exact absurd z (by decide)
                · exact Or.inr c2
              · rw [wY_close_16]
                dsimp only
                rw [er, emul, ed]
                simp (disch := omega) only [forall_eq, true_and, and_true, Nat.zero_add, nI_clamp, li_vin, nI_add, nI_eq, nI_leI, nI_ltI, li_0le, li_lt0, li_nn1, li_e0, not_true_eq_false, not_false_eq_true, false_implies, true_implies, forall_const, li_a0, li_b0, li_a1, li_b1, li_a2, li_b2, li_a3, li_b3, li_a7, li_b7, li_a8, li_b8, li_a16, li_b16, li_a48, li_b48, li_a584, li_b584, li_a572, li_b572, li_a96, li_b96, li_a144, li_b144, li_a192, li_b192, li_a240, li_b240, li_a336, li_b336, li_a384, li_b384, li_a432, li_b432, li_a480, li_b480, li_a488, li_b488, li_a496, li_b496, li_a504, li_b504, li_a512, li_b512, li_a520, li_b520, li_a524, li_b524, li_a528, li_b528, li_a536, li_b536, li_a544, li_b544, li_a552, li_b552, li_a560, li_b560, li_a568, li_b568, li_a573, li_b573, li_a585, li_b585, li_a633, li_b633, li_m3, li_n3, li_m4, li_n4, li_m48, li_n48, li_m50, li_n50, li_m585, li_n585, li_m633, li_n633, li_lt2, li_ge2, li_le2, li_gt2, li_lt1, li_ge1, li_le1, li_gt1, li_lt3, li_ge3, li_le3, li_gt3, li_lt4, li_ge4, li_le4, li_gt4, li_lt7, li_ge7, li_le7, li_gt7, li_lt8, li_ge8, li_le8, li_gt8, li_lt40, li_ge40, li_le40, li_gt40, li_lt240, li_ge240, li_le240, li_gt240, li_lt41, li_ge41, li_le41, li_gt41, li_lt48, li_ge48, li_le48, li_gt48, li_lt49, li_ge49, li_le49, li_gt49, li_lt60, li_ge60, li_le60, li_gt60, li_lt144, li_ge144, li_le144, li_gt144, li_lt145, li_ge145, li_le145, li_gt145, li_lt160, li_ge160, li_le160, li_gt160, li_lt336, li_ge336, li_le336, li_gt336, li_lt585, li_ge585, li_le585, li_gt585, li_lt633, li_ge633, li_le633, li_gt633, li_lt1000000, li_ge1000000, li_le1000000, li_gt1000000, li_lt2304, li_ge2304, li_le2304, li_gt2304, li_lt50, li_ge50, li_le50, li_gt50, li_le0, li_gt0, en, iu1, iv1, ku, kv]
                refine ⟨fun q => by omega, fun _ => ⟨fun z => absurd z q1, fun _ => ⟨fun _ => ⟨fun z => absurd z q3, fun _ => ⟨fun z => absurd z q4, fun _ => ?_⟩⟩, fun z => absurd q2 z⟩⟩⟩
                refine wo _ (fun _ => br_t rfl ?_) (fun z => absurd q5 z)
                exact ⟨_, b4 _ hj⟩
            · refine Or.inl ⟨s, yc_no hI tu tv q2 q5, low, fun post J7 hpo => ?_⟩
              rw [wY_close_16]
              dsimp only
              rw [er, emul, ed]
              simp (disch := omega) only [forall_eq, true_and, and_true, Nat.zero_add, nI_clamp, li_vin, nI_add, nI_eq, nI_leI, nI_ltI, li_0le, li_lt0, li_nn1, li_e0, not_true_eq_false, not_false_eq_true, false_implies, true_implies, forall_const, li_a0, li_b0, li_a1, li_b1, li_a2, li_b2, li_a3, li_b3, li_a7, li_b7, li_a8, li_b8, li_a16, li_b16, li_a48, li_b48, li_a584, li_b584, li_a572, li_b572, li_a96, li_b96, li_a144, li_b144, li_a192, li_b192, li_a240, li_b240, li_a336, li_b336, li_a384, li_b384, li_a432, li_b432, li_a480, li_b480, li_a488, li_b488, li_a496, li_b496, li_a504, li_b504, li_a512, li_b512, li_a520, li_b520, li_a524, li_b524, li_a528, li_b528, li_a536, li_b536, li_a544, li_b544, li_a552, li_b552, li_a560, li_b560, li_a568, li_b568, li_a573, li_b573, li_a585, li_b585, li_a633, li_b633, li_m3, li_n3, li_m4, li_n4, li_m48, li_n48, li_m50, li_n50, li_m585, li_n585, li_m633, li_n633, li_lt2, li_ge2, li_le2, li_gt2, li_lt1, li_ge1, li_le1, li_gt1, li_lt3, li_ge3, li_le3, li_gt3, li_lt4, li_ge4, li_le4, li_gt4, li_lt7, li_ge7, li_le7, li_gt7, li_lt8, li_ge8, li_le8, li_gt8, li_lt40, li_ge40, li_le40, li_gt40, li_lt240, li_ge240, li_le240, li_gt240, li_lt41, li_ge41, li_le41, li_gt41, li_lt48, li_ge48, li_le48, li_gt48, li_lt49, li_ge49, li_le49, li_gt49, li_lt60, li_ge60, li_le60, li_gt60, li_lt144, li_ge144, li_le144, li_gt144, li_lt145, li_ge145, li_le145, li_gt145, li_lt160, li_ge160, li_le160, li_gt160, li_lt336, li_ge336, li_le336, li_gt336, li_lt585, li_ge585, li_le585, li_gt585, li_lt633, li_ge633, li_le633, li_gt633, li_lt1000000, li_ge1000000, li_le1000000, li_gt1000000, li_lt2304, li_ge2304, li_le2304, li_gt2304, li_lt50, li_ge50, li_le50, li_gt50, li_le0, li_gt0, en, iu1, iv1, ku, kv]
              refine ⟨fun q => by omega, fun _ => ⟨fun z => absurd z q1, fun _ => ⟨fun _ => ⟨fun z => absurd z q3, fun _ => ⟨fun z => absurd z q4, fun _ => ?_⟩⟩, fun z => absurd q2 z⟩⟩⟩
              exact wo _ (fun z => absurd z q5) (fun _ => br_f (by decide) hpo)
      · refine step more s hI hm (skip (fun z => q2 z.2.2.2)) (Nat.le_refl _) (fun z => Or.inl z) (fun post J7 hj => ?_)
        rw [wY_close_16]
        dsimp only
        rw [er, emul, ed]
        simp (disch := omega) only [forall_eq, true_and, and_true, Nat.zero_add, nI_clamp, li_vin, nI_add, nI_eq, nI_leI, nI_ltI, li_0le, li_lt0, li_nn1, li_e0, not_true_eq_false, not_false_eq_true, false_implies, true_implies, forall_const, li_a0, li_b0, li_a1, li_b1, li_a2, li_b2, li_a3, li_b3, li_a7, li_b7, li_a8, li_b8, li_a16, li_b16, li_a48, li_b48, li_a584, li_b584, li_a572, li_b572, li_a96, li_b96, li_a144, li_b144, li_a192, li_b192, li_a240, li_b240, li_a336, li_b336, li_a384, li_b384, li_a432, li_b432, li_a480, li_b480, li_a488, li_b488, li_a496, li_b496, li_a504, li_b504, li_a512, li_b512, li_a520, li_b520, li_a524, li_b524, li_a528, li_b528, li_a536, li_b536, li_a544, li_b544, li_a552, li_b552, li_a560, li_b560, li_a568, li_b568, li_a573, li_b573, li_a585, li_b585, li_a633, li_b633, li_m3, li_n3, li_m4, li_n4, li_m48, li_n48, li_m50, li_n50, li_m585, li_n585, li_m633, li_n633, li_lt2, li_ge2, li_le2, li_gt2, li_lt1, li_ge1, li_le1, li_gt1, li_lt3, li_ge3, li_le3, li_gt3, li_lt4, li_ge4, li_le4, li_gt4, li_lt7, li_ge7, li_le7, li_gt7, li_lt8, li_ge8, li_le8, li_gt8, li_lt40, li_ge40, li_le40, li_gt40, li_lt240, li_ge240, li_le240, li_gt240, li_lt41, li_ge41, li_le41, li_gt41, li_lt48, li_ge48, li_le48, li_gt48, li_lt49, li_ge49, li_le49, li_gt49, li_lt60, li_ge60, li_le60, li_gt60, li_lt144, li_ge144, li_le144, li_gt144, li_lt145, li_ge145, li_le145, li_gt145, li_lt160, li_ge160, li_le160, li_gt160, li_lt336, li_ge336, li_le336, li_gt336, li_lt585, li_ge585, li_le585, li_gt585, li_lt633, li_ge633, li_le633, li_gt633, li_lt1000000, li_ge1000000, li_le1000000, li_gt1000000, li_lt2304, li_ge2304, li_le2304, li_gt2304, li_lt50, li_ge50, li_le50, li_gt50, li_le0, li_gt0, en, iu1, iv1, ku, kv]
        exact ⟨fun q => by omega, fun _ => ⟨fun z => absurd z q1, fun _ => ⟨fun z => absurd z q2, fun _ => hj⟩⟩⟩
end
section
theorem yw_close_7 {g_trials g_drafted g_found : Int32} {b_s b_saved b_draft b_who b_met b_stack b_fresh b_deep : Nat → Int32} {b_alike b_meets : Nat → Int64} {L : Nat → Nat} {Q : Nat → Nat → Prop} {s0 : Nat → Int32} {n : Nat} (hn : n ≤ 48) (hU : ∀ x, yv_U s0 x → x < n) (h0 : yv_H s0) (hT : ∀ c, (yv_T s0).1 c → yv_U s0 c ∧ ∀ k, k < ma_ct ((yv_T s0).2.1 c).1 → yv_U s0 ((yv_T s0).2.2 c k)) : ∀ c (b_s : Nat → Int32), yc_c b_s ≤ c → yc_I L Q s0 b_s → ∃ (r : Int32) (s' : Nat → Int32), ((r = 1 ∧ ma_Ok (yv_U s0) L (yv_T s0) Q (yv_I s' 633) ∧ yc_I L Q s0 s') ∨ (r = 0 ∧ ma_No (yv_U s0) L (yv_T s0) Q ∧ ∀ i, i < 633 → s' i = s0 i)) ∧ ∀ post : Int32 → SY → Prop, post r (g_trials, g_drafted, g_found, s', b_saved, b_draft, b_who, b_met, b_stack, b_fresh, b_deep, b_alike, b_meets) → wY_close_7 post (nI 633) (nI n) (c + 2) 1 g_trials g_drafted g_found b_s b_saved b_draft b_who b_met b_stack b_fresh b_deep b_alike b_meets := by
  intro c
  induction c with
  | zero =>
    intro s hc hI
    rcases yw_close_16 (g_trials := g_trials) (g_drafted := g_drafted) (g_found := g_found) (b_s := b_s) (b_saved := b_saved) (b_draft := b_draft) (b_who := b_who) (b_met := b_met) (b_stack := b_stack) (b_fresh := b_fresh) (b_deep := b_deep) (b_alike := b_alike) (b_meets := b_meets) (L := L) (Q := Q) hn h0 hT (n * n) 0 0 s (by omega) hI (Or.inl rfl) (fun _ u v _ _ _ _ q => by omega) with ⟨s', a1, a2, a3⟩ | ⟨more', s', a1, a2, a3, a4, a5, a6⟩
    · refine ⟨0, s', Or.inr ⟨rfl, a1, a2⟩, fun post hp => ?_⟩
      rw [wY_close_7]
      exact br_f (by decide) ⟨_, a3 post _ hp⟩
    · rcases a2 with z | z
      · refine ⟨1, s', Or.inl ⟨rfl, yc_ok a1 hT (fun u v hu hv lt e => ?_), a1⟩, fun post hp => ?_⟩
        · have vn := hU v (hT v hv).1
          refine a3 z u v hu hv lt vn ?_ e
          have : u * n + n ≤ n * n := by
            have : (u + 1) * n ≤ n * n := Nat.mul_le_mul_right n (by omega)
            rw [Nat.add_mul, Nat.one_mul] at this
            exact this
          omega
        · rw [wY_close_7]
          refine br_f (by decide) ⟨_, a6 post _ ?_⟩
          rw [z]
          rw [wY_close_7]
          exact br_t rfl hp
      · have := a5 z
        rcases this with w | w
        · exact absurd w (by decide)
        · omega
  | succ c ih =>
    intro s hc hI
    rcases yw_close_16 (g_trials := g_trials) (g_drafted := g_drafted) (g_found := g_found) (b_s := b_s) (b_saved := b_saved) (b_draft := b_draft) (b_who := b_who) (b_met := b_met) (b_stack := b_stack) (b_fresh := b_fresh) (b_deep := b_deep) (b_alike := b_alike) (b_meets := b_meets) (L := L) (Q := Q) hn h0 hT (n * n) 0 0 s (by omega) hI (Or.inl rfl) (fun _ u v _ _ _ _ q => by omega) with ⟨s', a1, a2, a3⟩ | ⟨more', s', a1, a2, a3, a4, a5, a6⟩
    · refine ⟨0, s', Or.inr ⟨rfl, a1, a2⟩, fun post hp => ?_⟩
      rw [wY_close_7]
      exact br_f (by decide) ⟨_, a3 post _ hp⟩
    · rcases a2 with z | z
      · refine ⟨1, s', Or.inl ⟨rfl, yc_ok a1 hT (fun u v hu hv lt e => ?_), a1⟩, fun post hp => ?_⟩
        · have vn := hU v (hT v hv).1
          refine a3 z u v hu hv lt vn ?_ e
          have : u * n + n ≤ n * n := by
            have : (u + 1) * n ≤ n * n := Nat.mul_le_mul_right n (by omega)
            rw [Nat.add_mul, Nat.one_mul] at this
            exact this
          omega
        · rw [wY_close_7]
          refine br_f (by decide) ⟨_, a6 post _ ?_⟩
          rw [z]
          rw [wY_close_7]
          exact br_t rfl hp
      · have := a5 z
        rcases this with w | w
        · exact absurd w (by decide)
        · obtain ⟨r, s2, b1, b2⟩ := ih s' (by omega) a1
          refine ⟨r, s2, b1, fun post hp => ?_⟩
          rw [wY_close_7]
          refine br_f (by decide) ⟨_, a6 post _ ?_⟩
          rw [z]
          exact b2 post hp
theorem yw_close {g_trials g_drafted g_found : Int32} {b_s b_saved b_draft b_who b_met b_stack b_fresh b_deep : Nat → Int32} {b_alike b_meets : Nat → Int64} {L : Nat → Nat} {Q : Nat → Nat → Prop} {s0 : Nat → Int32} (h0 : yv_H s0) (hT : ∀ c, (yv_T s0).1 c → yv_U s0 c ∧ ∀ k, k < ma_ct ((yv_T s0).2.1 c).1 → yv_U s0 ((yv_T s0).2.2 c k)) (hI : yc_I L Q s0 b_s) : ∃ (r : Int32) (s' : Nat → Int32), ((r = 1 ∧ ma_Ok (yv_U s0) L (yv_T s0) Q (yv_I s' 633) ∧ yc_I L Q s0 s') ∨ (r = 0 ∧ ma_No (yv_U s0) L (yv_T s0) Q ∧ ∀ i, i < 633 → s' i = s0 i)) ∧ ∀ post : Int32 → SY → Prop, post r (g_trials, g_drafted, g_found, s', b_saved, b_draft, b_who, b_met, b_stack, b_fresh, b_deep, b_alike, b_meets) → wpY_close post (g_trials, g_drafted, g_found, b_s, b_saved, b_draft, b_who, b_met, b_stack, b_fresh, b_deep, b_alike, b_meets) 633 := by
  have hs : yv_H b_s := yv_congrH (fun i hi => hI.1 i (by omega)) h0
  obtain ⟨n, n1, n2, n3⟩ := yw_bound (g_trials := g_trials) (g_drafted := g_drafted) (g_found := g_found) (b_s := b_s) (b_saved := b_saved) (b_draft := b_draft) (b_who := b_who) (b_met := b_met) (b_stack := b_stack) (b_fresh := b_fresh) (b_deep := b_deep) (b_alike := b_alike) (b_meets := b_meets) hs
  have hU : ∀ x, yv_U s0 x → x < n := by
    intro x hx
    have x48 := hx.1
    exact n2 x ⟨x48, by rw [hI.1 _ (by omega)]; exact hx.2⟩
  obtain ⟨r, s', h1, h2⟩ := yw_close_7 (g_trials := g_trials) (g_drafted := g_drafted) (g_found := g_found) (b_s := b_s) (b_saved := b_saved) (b_draft := b_draft) (b_who := b_who) (b_met := b_met) (b_stack := b_stack) (b_fresh := b_fresh) (b_deep := b_deep) (b_alike := b_alike) (b_meets := b_meets) (L := L) (Q := Q) n1 hU h0 hT (yc_c b_s) b_s (Nat.le_refl _) hI
  refine ⟨r, s', h1, fun post hp => ?_⟩
  unfold wpY_close
  exact n3 _ ⟨_, h2 post hp⟩
theorem yw_keepTried_10 {g_trials g_drafted g_found : Int32} {b_s b_saved b_draft b_who b_met b_stack b_fresh b_deep : Nat → Int32} {b_alike b_meets : Nat → Int64} : ∀ d j (b_s : Nat → Int32), j + d = 48 → ∃ s' : Nat → Int32, (∀ v, j ≤ v → v < 48 → s' v = b_s (633 + v)) ∧ (∀ i, (i < j ∨ 48 ≤ i) → s' i = b_s i) ∧ ∀ post : Int32 → SY → Prop, post 1 (g_trials, g_drafted, g_found, s', b_saved, b_draft, b_who, b_met, b_stack, b_fresh, b_deep, b_alike, b_meets) → wY_keepTried_10 post 1 g_trials g_drafted g_found (d + 1) (nI j) b_s b_saved b_draft b_who b_met b_stack b_fresh b_deep b_alike b_meets := by
  intro d
  induction d with
  | zero =>
    intro j s hj
    refine ⟨s, fun v h1 h2 => by omega, fun _ _ => rfl, fun post hp => ?_⟩
    unfold wY_keepTried_10
    simp (disch := omega) only [forall_eq, true_and, and_true, Nat.zero_add, nI_clamp, li_vin, nI_add, nI_eq, nI_leI, nI_ltI, li_0le, li_lt0, li_nn1, li_e0, not_true_eq_false, not_false_eq_true, false_implies, true_implies, forall_const, li_a0, li_b0, li_a1, li_b1, li_a2, li_b2, li_a3, li_b3, li_a7, li_b7, li_a8, li_b8, li_a16, li_b16, li_a48, li_b48, li_a584, li_b584, li_a572, li_b572, li_a96, li_b96, li_a144, li_b144, li_a192, li_b192, li_a240, li_b240, li_a336, li_b336, li_a384, li_b384, li_a432, li_b432, li_a480, li_b480, li_a488, li_b488, li_a496, li_b496, li_a504, li_b504, li_a512, li_b512, li_a520, li_b520, li_a524, li_b524, li_a528, li_b528, li_a536, li_b536, li_a544, li_b544, li_a552, li_b552, li_a560, li_b560, li_a568, li_b568, li_a573, li_b573, li_a585, li_b585, li_a633, li_b633, li_m3, li_n3, li_m4, li_n4, li_m48, li_n48, li_m50, li_n50, li_m585, li_n585, li_m633, li_n633, li_lt2, li_ge2, li_le2, li_gt2, li_lt1, li_ge1, li_le1, li_gt1, li_lt3, li_ge3, li_le3, li_gt3, li_lt4, li_ge4, li_le4, li_gt4, li_lt7, li_ge7, li_le7, li_gt7, li_lt8, li_ge8, li_le8, li_gt8, li_lt40, li_ge40, li_le40, li_gt40, li_lt240, li_ge240, li_le240, li_gt240, li_lt41, li_ge41, li_le41, li_gt41, li_lt48, li_ge48, li_le48, li_gt48, li_lt49, li_ge49, li_le49, li_gt49, li_lt60, li_ge60, li_le60, li_gt60, li_lt144, li_ge144, li_le144, li_gt144, li_lt145, li_ge145, li_le145, li_gt145, li_lt160, li_ge160, li_le160, li_gt160, li_lt336, li_ge336, li_le336, li_gt336, li_lt585, li_ge585, li_le585, li_gt585, li_lt633, li_ge633, li_le633, li_gt633, li_lt1000000, li_ge1000000, li_le1000000, li_gt1000000, li_lt2304, li_ge2304, li_le2304, li_gt2304, li_lt50, li_ge50, li_le50, li_gt50, li_le0, li_gt0]
    exact ⟨fun _ => ⟨nb_1, hp⟩, fun q => by omega⟩
  | succ d ih =>
    intro j s hj
    obtain ⟨s', h1, h2, h3⟩ := ih (j + 1) (upd s j (s (633 + j))) (by omega)
    refine ⟨s', ?_, ?_, fun post hp => ?_⟩
    · intro v g1 g2
      by_cases z : v = j
      · rw [z, h2 _ (by omega), pk_us]
      · rw [h1 v (by omega) g2, pk_un (by omega)]
    · intro i hi
      rw [h2 i (by omega), pk_un (by omega)]
    · unfold wY_keepTried_10
      simp (disch := omega) only [forall_eq, true_and, and_true, Nat.zero_add, nI_clamp, li_vin, nI_add, nI_eq, nI_leI, nI_ltI, li_0le, li_lt0, li_nn1, li_e0, not_true_eq_false, not_false_eq_true, false_implies, true_implies, forall_const, li_a0, li_b0, li_a1, li_b1, li_a2, li_b2, li_a3, li_b3, li_a7, li_b7, li_a8, li_b8, li_a16, li_b16, li_a48, li_b48, li_a584, li_b584, li_a572, li_b572, li_a96, li_b96, li_a144, li_b144, li_a192, li_b192, li_a240, li_b240, li_a336, li_b336, li_a384, li_b384, li_a432, li_b432, li_a480, li_b480, li_a488, li_b488, li_a496, li_b496, li_a504, li_b504, li_a512, li_b512, li_a520, li_b520, li_a524, li_b524, li_a528, li_b528, li_a536, li_b536, li_a544, li_b544, li_a552, li_b552, li_a560, li_b560, li_a568, li_b568, li_a573, li_b573, li_a585, li_b585, li_a633, li_b633, li_m3, li_n3, li_m4, li_n4, li_m48, li_n48, li_m50, li_n50, li_m585, li_n585, li_m633, li_n633, li_lt2, li_ge2, li_le2, li_gt2, li_lt1, li_ge1, li_le1, li_gt1, li_lt3, li_ge3, li_le3, li_gt3, li_lt4, li_ge4, li_le4, li_gt4, li_lt7, li_ge7, li_le7, li_gt7, li_lt8, li_ge8, li_le8, li_gt8, li_lt40, li_ge40, li_le40, li_gt40, li_lt240, li_ge240, li_le240, li_gt240, li_lt41, li_ge41, li_le41, li_gt41, li_lt48, li_ge48, li_le48, li_gt48, li_lt49, li_ge49, li_le49, li_gt49, li_lt60, li_ge60, li_le60, li_gt60, li_lt144, li_ge144, li_le144, li_gt144, li_lt145, li_ge145, li_le145, li_gt145, li_lt160, li_ge160, li_le160, li_gt160, li_lt336, li_ge336, li_le336, li_gt336, li_lt585, li_ge585, li_le585, li_gt585, li_lt633, li_ge633, li_le633, li_gt633, li_lt1000000, li_ge1000000, li_le1000000, li_gt1000000, li_lt2304, li_ge2304, li_le2304, li_gt2304, li_lt50, li_ge50, li_le50, li_gt50, li_le0, li_gt0]
      exact ⟨fun q => by omega, fun _ => br_f (by decide) (h3 post hp)⟩
/-- what keepTried leaves: the tried least members are kept, or nothing but the tried ones has changed -/
theorem yw_keepTried {g_trials g_drafted g_found : Int32} {b_s b_saved b_draft b_who b_met b_stack b_fresh b_deep : Nat → Int32} {b_alike b_meets : Nat → Int64} {L : Nat → Nat} {Q : Nat → Nat → Prop} {s0 : Nat → Int32} (h0 : yv_H s0) (hT : ∀ c, (yv_T s0).1 c → yv_U s0 c ∧ ∀ k, k < ma_ct ((yv_T s0).2.1 c).1 → yv_U s0 ((yv_T s0).2.2 c k)) (hI : yc_I L Q s0 b_s) : ∃ (r : Int32) (s' : Nat → Int32), ((r = 1 ∧ ∃ s1, ma_Ok (yv_U s0) L (yv_T s0) Q (yv_I s1 633) ∧ yc_I L Q s0 s1 ∧ (∀ v, v < 48 → s' v = s1 (633 + v)) ∧ ∀ i, 48 ≤ i → i < 633 → s' i = s0 i) ∨ (r = 0 ∧ ma_No (yv_U s0) L (yv_T s0) Q ∧ ∀ i, i < 633 → s' i = s0 i)) ∧ ∀ post : Int32 → SY → Prop, post r (g_trials, g_drafted, g_found, s', b_saved, b_draft, b_who, b_met, b_stack, b_fresh, b_deep, b_alike, b_meets) → wpY_keepTried post (g_trials, g_drafted, g_found, b_s, b_saved, b_draft, b_who, b_met, b_stack, b_fresh, b_deep, b_alike, b_meets) := by
  obtain ⟨r, s1, h1, h2⟩ := yw_close (g_trials := g_trials) (g_drafted := g_drafted) (g_found := g_found) (b_s := b_s) (b_saved := b_saved) (b_draft := b_draft) (b_who := b_who) (b_met := b_met) (b_stack := b_stack) (b_fresh := b_fresh) (b_deep := b_deep) (b_alike := b_alike) (b_meets := b_meets) h0 hT hI
  rcases h1 with ⟨z1, z2, z3⟩ | ⟨z1, z2, z3⟩
  · obtain ⟨s', k1, k2, k3⟩ := yw_keepTried_10 (g_trials := g_trials) (g_drafted := g_drafted) (g_found := g_found) (b_s := b_s) (b_saved := b_saved) (b_draft := b_draft) (b_who := b_who) (b_met := b_met) (b_stack := b_stack) (b_fresh := b_fresh) (b_deep := b_deep) (b_alike := b_alike) (b_meets := b_meets) 48 0 s1 rfl
    refine ⟨1, s', Or.inl ⟨rfl, s1, z2, z3, fun v hv => k1 v (by omega) hv, fun i g1 g2 => by rw [k2 i (by omega)]; exact z3.1 i g2⟩, fun post hp => ?_⟩
    unfold wpY_keepTried
    refine h2 _ ?_
    rw [z1]
    exact ⟨_, k3 post hp⟩
  · refine ⟨0, s1, Or.inr ⟨rfl, z2, z3⟩, fun post hp => ?_⟩
    unfold wpY_keepTried
    refine h2 _ ?_
    rw [z1]
    refine ⟨1, ?_⟩
    unfold wY_keepTried_10
    exact br_f (by decide) (br_t rfl ⟨nb_0, hp⟩)
/-- what a telling of pairs leaves with the reference -/
def yt_R (a s s' : Nat → Int32) (Q : Nat → Nat → Prop) (r : Int32) : Prop :=
  (r = 1 ∧ ma_Ok (xv_U a) (xv_L a) (xv_T a) Q (yv_I s' 0) ∧ (∀ v, v < 48 → ∃ c, c < 48 ∧ s' v = nI c) ∧ (∀ v, v < 48 → ¬ xv_U a v → s' v = nI v) ∧ ∀ i, 48 ≤ i → i < 633 → s' i = s i) ∨ (r = 0 ∧ ma_No (xv_U a) (xv_L a) (xv_T a) Q ∧ ∀ i, i < 633 → s' i = s i)
theorem yt_of {B : Nat} {a s s' : Nat → Int32} {Q : Nat → Nat → Prop} {r : Int32} (hr : re_P B a s) (h : (r = 1 ∧ ∃ s1, ma_Ok (yv_U s) (xv_L a) (yv_T s) Q (yv_I s1 633) ∧ yc_I (xv_L a) Q s s1 ∧ (∀ v, v < 48 → s' v = s1 (633 + v)) ∧ ∀ i, 48 ≤ i → i < 633 → s' i = s i) ∨ (r = 0 ∧ ma_No (yv_U s) (xv_L a) (yv_T s) Q ∧ ∀ i, i < 633 → s' i = s i)) : yt_R a s s' Q r := by
  have yU := re_U hr
  obtain ⟨t1, t2⟩ := tl_tr (Q := Q) hr
  rcases h with ⟨z1, s1, z2, z3, z4, z5⟩ | ⟨z1, z2, z3⟩
  · refine Or.inl ⟨z1, ?_, ?_, ?_, z5⟩
    · have e : yv_I s' 0 = yv_I s1 633 := by
        funext x
        unfold yv_I
        by_cases q : x < 48
        · rw [if_pos q, if_pos q, Nat.zero_add, z4 x q]
        · rw [if_neg q, if_neg q]
      rw [e]; exact t1 _ z2
    · intro v hv
      rw [z4 v hv]; exact z3.2.1 v hv
    · intro v hv nu
      rw [z4 v hv]; exact z3.2.2.2.1 v hv (by rw [yU]; exact nu)
  · exact Or.inr ⟨z1, t2 z2, z3⟩
theorem re_yT {B : Nat} {a s : Nat → Int32} (r : re_P B a s) : ∀ c, (yv_T s).1 c → yv_U s c ∧ ∀ k, k < ma_ct ((yv_T s).2.1 c).1 → yv_U s ((yv_T s).2.2 c k) := by
  rw [re_U r]; exact r.2.2.2.2.1.2.2.2.1
theorem yw_tell {g_trials g_drafted g_found : Int32} {b_s b_saved b_draft b_who b_met b_stack b_fresh b_deep : Nat → Int32} {b_alike b_meets : Nat → Int64} {B : Nat} {a : Nat → Int32} (hr : re_P B a b_s) {x y : Nat} (hx : xv_U a x) (hy : xv_U a y) : ∃ (r : Int32) (s' : Nat → Int32), yt_R a b_s s' (ma_1 x y) r ∧ ∀ post : Int32 → SY → Prop, post r (g_trials, g_drafted, g_found, s', b_saved, b_draft, b_who, b_met, b_stack, b_fresh, b_deep, b_alike, b_meets) → wpY_tell post (g_trials, g_drafted, g_found, b_s, b_saved, b_draft, b_who, b_met, b_stack, b_fresh, b_deep, b_alike, b_meets) (nI x) (nI y) := by
  have yU := re_U hr
  obtain ⟨s1, a1, a2, a3⟩ := yw_tryIds (g_trials := g_trials) (g_drafted := g_drafted) (g_found := g_found) (b_s := b_s) (b_saved := b_saved) (b_draft := b_draft) (b_who := b_who) (b_met := b_met) (b_stack := b_stack) (b_fresh := b_fresh) (b_deep := b_deep) (b_alike := b_alike) (b_meets := b_meets)
  obtain ⟨s2, j1, j2⟩ := yw_join (g_trials := g_trials) (g_drafted := g_drafted) (g_found := g_found) (b_s := s1) (b_saved := b_saved) (b_draft := b_draft) (b_who := b_who) (b_met := b_met) (b_stack := b_stack) (b_fresh := b_fresh) (b_deep := b_deep) (b_alike := b_alike) (b_meets := b_meets) (b := 633) (by omega) hx.1 hy.1
  have i2 : yc_I (xv_L a) (ma_1 x y) b_s s2 := yc_more (yc_0 hr a2 a1) (by rw [yU]; exact hx) (by rw [yU]; exact hy) j1 (fun u v => ⟨fun q => Or.inr q, fun q => q.elim (fun z => z.elim) (fun z => z)⟩)
  obtain ⟨r, s', h1, h2⟩ := yw_keepTried (g_trials := g_trials) (g_drafted := g_drafted) (g_found := g_found) (b_s := s2) (b_saved := b_saved) (b_draft := b_draft) (b_who := b_who) (b_met := b_met) (b_stack := b_stack) (b_fresh := b_fresh) (b_deep := b_deep) (b_alike := b_alike) (b_meets := b_meets) hr.2.1 (re_yT hr) i2
  refine ⟨r, s', yt_of hr h1, fun post hp => ?_⟩
  unfold wpY_tell
  refine a3 _ (j2 _ (h2 _ ⟨?_, hp⟩))
  rcases h1 with z | z
  · rw [z.1]; exact nb_1
  · rw [z.1]; exact nb_0
/-- the two tellings of x = y -/
theorem tl_eq {B : Nat} {a s a' s' : Nat → Int32} {Q : Nat → Nat → Prop} {r r' : Int32} (hr : re_P B a s) (hX : xt_R a a' Q r) (hY : yt_R a s s' Q r') : re_P B a' s' ∧ ((r = 1 ∧ r' = 1) ∨ (r = 2 ∧ r' = 0 ∧ a' = a)) := by
  rcases hX with ⟨x1, x2, x3⟩ | ⟨x1, px, py, i, m, vd, x2, x3⟩
  · rcases hY with ⟨y1, y2, _⟩ | ⟨y1, y2, y3⟩
    · exact absurd x3 (ma_Ok_no y2)
    · rw [x2]
      exact ⟨re_P_congr (fun _ _ => rfl) y3 hr, Or.inr ⟨x1, y1, rfl⟩⟩
  · rcases hY with ⟨y1, y2, y3, y4, y5⟩ | ⟨y1, y2, y3⟩
    · exact ⟨tl_E hr x3 x2 y2 y3 y4 y5, Or.inl ⟨x1, y1⟩⟩
    · exact absurd y2 (ma_Ok_no (ma_MI_Ok x3.2.2.1 x2))
end
section
theorem yw_values_22 {g_trials g_drafted g_found : Int32} {b_s b_saved b_draft b_who b_met b_stack b_fresh b_deep : Nat → Int32} {b_alike b_meets : Nat → Int64} {n v : Nat} (hn : n ≤ 48) (hv : v < 48) : ∀ d j (b_who : Nat → Int32), j + d = n → b_who v = ys_wh b_s (b_s v) j → ∃ wh' : Nat → Int32, wh' v = ys_wh b_s (b_s v) n ∧ (∀ i, i ≠ v → wh' i = b_who i) ∧ ∀ (post : SY → Prop) (J7 : Int32 → (Nat → Int32) → (Nat → Int32) → (Nat → Int32) → (Nat → Int32) → (Nat → Int32) → (Nat → Int32) → (Nat → Int32) → (Nat → Int32) → (Nat → Int64) → (Nat → Int64) → Prop), J7 (nI (v + 1)) b_s b_saved b_draft wh' b_met b_stack b_fresh b_deep b_alike b_meets → wY_values_22 post J7 (nI n) (nI v) g_trials g_drafted g_found (d + 1) (nI j) b_s b_saved b_draft b_who b_met b_stack b_fresh b_deep b_alike b_meets := by
  intro d
  induction d with
  | zero =>
    intro j wh hj h
    have e : j = n := by omega
    refine ⟨wh, by rw [← e]; exact h, fun _ _ => rfl, fun post J7 hp => ?_⟩
    unfold wY_values_22
    simp (disch := omega) only [forall_eq, true_and, and_true, Nat.zero_add, nI_clamp, li_vin, nI_add, nI_eq, nI_leI, nI_ltI, li_0le, li_lt0, li_nn1, li_e0, not_true_eq_false, not_false_eq_true, false_implies, true_implies, forall_const, li_a0, li_b0, li_a1, li_b1, li_a2, li_b2, li_a3, li_b3, li_a7, li_b7, li_a8, li_b8, li_a16, li_b16, li_a48, li_b48, li_a584, li_b584, li_a572, li_b572, li_a96, li_b96, li_a144, li_b144, li_a192, li_b192, li_a240, li_b240, li_a336, li_b336, li_a384, li_b384, li_a432, li_b432, li_a480, li_b480, li_a488, li_b488, li_a496, li_b496, li_a504, li_b504, li_a512, li_b512, li_a520, li_b520, li_a524, li_b524, li_a528, li_b528, li_a536, li_b536, li_a544, li_b544, li_a552, li_b552, li_a560, li_b560, li_a568, li_b568, li_a573, li_b573, li_a585, li_b585, li_a633, li_b633, li_m3, li_n3, li_m4, li_n4, li_m48, li_n48, li_m50, li_n50, li_m585, li_n585, li_m633, li_n633, li_lt2, li_ge2, li_le2, li_gt2, li_lt1, li_ge1, li_le1, li_gt1, li_lt3, li_ge3, li_le3, li_gt3, li_lt4, li_ge4, li_le4, li_gt4, li_lt7, li_ge7, li_le7, li_gt7, li_lt8, li_ge8, li_le8, li_gt8, li_lt40, li_ge40, li_le40, li_gt40, li_lt240, li_ge240, li_le240, li_gt240, li_lt41, li_ge41, li_le41, li_gt41, li_lt48, li_ge48, li_le48, li_gt48, li_lt49, li_ge49, li_le49, li_gt49, li_lt60, li_ge60, li_le60, li_gt60, li_lt144, li_ge144, li_le144, li_gt144, li_lt145, li_ge145, li_le145, li_gt145, li_lt160, li_ge160, li_le160, li_gt160, li_lt336, li_ge336, li_le336, li_gt336, li_lt585, li_ge585, li_le585, li_gt585, li_lt633, li_ge633, li_le633, li_gt633, li_lt1000000, li_ge1000000, li_le1000000, li_gt1000000, li_lt2304, li_ge2304, li_le2304, li_gt2304, li_lt50, li_ge50, li_le50, li_gt50, li_le0, li_gt0]
    exact ⟨fun _ => hp, fun q => by omega⟩
  | succ d ih =>
    intro j wh hj h
    have st : ys_wh b_s (b_s v) (j + 1) = if b_s j = b_s v ∧ b_s (48 + j) ≠ 0 then nI j else ys_wh b_s (b_s v) j := rfl
    by_cases q : b_s j = b_s v ∧ b_s (48 + j) ≠ 0
    · obtain ⟨wh', h1, h2, h3⟩ := ih (j + 1) (upd wh v (nI j)) (by omega) (by rw [pk_us, st, if_pos q])
      refine ⟨wh', h1, fun i hi => by rw [h2 i hi, pk_un hi], fun post J7 hp => ?_⟩
      unfold wY_values_22
      simp (disch := omega) only [forall_eq, true_and, and_true, Nat.zero_add, nI_clamp, li_vin, nI_add, nI_eq, nI_leI, nI_ltI, li_0le, li_lt0, li_nn1, li_e0, not_true_eq_false, not_false_eq_true, false_implies, true_implies, forall_const, li_a0, li_b0, li_a1, li_b1, li_a2, li_b2, li_a3, li_b3, li_a7, li_b7, li_a8, li_b8, li_a16, li_b16, li_a48, li_b48, li_a584, li_b584, li_a572, li_b572, li_a96, li_b96, li_a144, li_b144, li_a192, li_b192, li_a240, li_b240, li_a336, li_b336, li_a384, li_b384, li_a432, li_b432, li_a480, li_b480, li_a488, li_b488, li_a496, li_b496, li_a504, li_b504, li_a512, li_b512, li_a520, li_b520, li_a524, li_b524, li_a528, li_b528, li_a536, li_b536, li_a544, li_b544, li_a552, li_b552, li_a560, li_b560, li_a568, li_b568, li_a573, li_b573, li_a585, li_b585, li_a633, li_b633, li_m3, li_n3, li_m4, li_n4, li_m48, li_n48, li_m50, li_n50, li_m585, li_n585, li_m633, li_n633, li_lt2, li_ge2, li_le2, li_gt2, li_lt1, li_ge1, li_le1, li_gt1, li_lt3, li_ge3, li_le3, li_gt3, li_lt4, li_ge4, li_le4, li_gt4, li_lt7, li_ge7, li_le7, li_gt7, li_lt8, li_ge8, li_le8, li_gt8, li_lt40, li_ge40, li_le40, li_gt40, li_lt240, li_ge240, li_le240, li_gt240, li_lt41, li_ge41, li_le41, li_gt41, li_lt48, li_ge48, li_le48, li_gt48, li_lt49, li_ge49, li_le49, li_gt49, li_lt60, li_ge60, li_le60, li_gt60, li_lt144, li_ge144, li_le144, li_gt144, li_lt145, li_ge145, li_le145, li_gt145, li_lt160, li_ge160, li_le160, li_gt160, li_lt336, li_ge336, li_le336, li_gt336, li_lt585, li_ge585, li_le585, li_gt585, li_lt633, li_ge633, li_le633, li_gt633, li_lt1000000, li_ge1000000, li_le1000000, li_gt1000000, li_lt2304, li_ge2304, li_le2304, li_gt2304, li_lt50, li_ge50, li_le50, li_gt50, li_le0, li_gt0]
      exact ⟨fun q => by omega, fun _ => br_t q.1 (br_f q.2 (h3 post J7 hp))⟩
    · obtain ⟨wh', h1, h2, h3⟩ := ih (j + 1) wh (by omega) (by rw [st, if_neg q]; exact h)
      refine ⟨wh', h1, h2, fun post J7 hp => ?_⟩
      unfold wY_values_22
      simp (disch := omega) only [forall_eq, true_and, and_true, Nat.zero_add, nI_clamp, li_vin, nI_add, nI_eq, nI_leI, nI_ltI, li_0le, li_lt0, li_nn1, li_e0, not_true_eq_false, not_false_eq_true, false_implies, true_implies, forall_const, li_a0, li_b0, li_a1, li_b1, li_a2, li_b2, li_a3, li_b3, li_a7, li_b7, li_a8, li_b8, li_a16, li_b16, li_a48, li_b48, li_a584, li_b584, li_a572, li_b572, li_a96, li_b96, li_a144, li_b144, li_a192, li_b192, li_a240, li_b240, li_a336, li_b336, li_a384, li_b384, li_a432, li_b432, li_a480, li_b480, li_a488, li_b488, li_a496, li_b496, li_a504, li_b504, li_a512, li_b512, li_a520, li_b520, li_a524, li_b524, li_a528, li_b528, li_a536, li_b536, li_a544, li_b544, li_a552, li_b552, li_a560, li_b560, li_a568, li_b568, li_a573, li_b573, li_a585, li_b585, li_a633, li_b633, li_m3, li_n3, li_m4, li_n4, li_m48, li_n48, li_m50, li_n50, li_m585, li_n585, li_m633, li_n633, li_lt2, li_ge2, li_le2, li_gt2, li_lt1, li_ge1, li_le1, li_gt1, li_lt3, li_ge3, li_le3, li_gt3, li_lt4, li_ge4, li_le4, li_gt4, li_lt7, li_ge7, li_le7, li_gt7, li_lt8, li_ge8, li_le8, li_gt8, li_lt40, li_ge40, li_le40, li_gt40, li_lt240, li_ge240, li_le240, li_gt240, li_lt41, li_ge41, li_le41, li_gt41, li_lt48, li_ge48, li_le48, li_gt48, li_lt49, li_ge49, li_le49, li_gt49, li_lt60, li_ge60, li_le60, li_gt60, li_lt144, li_ge144, li_le144, li_gt144, li_lt145, li_ge145, li_le145, li_gt145, li_lt160, li_ge160, li_le160, li_gt160, li_lt336, li_ge336, li_le336, li_gt336, li_lt585, li_ge585, li_le585, li_gt585, li_lt633, li_ge633, li_le633, li_gt633, li_lt1000000, li_ge1000000, li_le1000000, li_gt1000000, li_lt2304, li_ge2304, li_le2304, li_gt2304, li_lt50, li_ge50, li_le50, li_gt50, li_le0, li_gt0]
      refine ⟨fun q => by omega, fun _ => br_c (fun e => ?_) (fun _ => h3 post J7 hp)⟩
      exact br_c (fun _ => h3 post J7 hp) (fun z => absurd ⟨e, z⟩ q)
theorem yw_values_7 {g_trials g_drafted g_found : Int32} {b_s b_saved b_draft b_who b_met b_stack b_fresh b_deep : Nat → Int32} {b_alike b_meets : Nat → Int64} {n : Nat} (hn : n ≤ 48) : ∀ d j (b_who : Nat → Int32), j + d = 48 → ∃ wh' : Nat → Int32, (∀ v, j ≤ v → v < 48 → wh' v = ys_wh b_s (b_s v) n) ∧ (∀ i, i < j → wh' i = b_who i) ∧ ∀ post : SY → Prop, post (g_trials, g_drafted, g_found, b_s, b_saved, b_draft, wh', b_met, b_stack, b_fresh, b_deep, b_alike, b_meets) → wY_values_7 post (nI n) g_trials g_drafted g_found (d + 1) (nI j) b_s b_saved b_draft b_who b_met b_stack b_fresh b_deep b_alike b_meets := by
  intro d
  induction d with
  | zero =>
    intro j wh hj
    refine ⟨wh, fun v h1 h2 => by omega, fun _ _ => rfl, fun post hp => ?_⟩
    unfold wY_values_7
    simp (disch := omega) only [forall_eq, true_and, and_true, Nat.zero_add, nI_clamp, li_vin, nI_add, nI_eq, nI_leI, nI_ltI, li_0le, li_lt0, li_nn1, li_e0, not_true_eq_false, not_false_eq_true, false_implies, true_implies, forall_const, li_a0, li_b0, li_a1, li_b1, li_a2, li_b2, li_a3, li_b3, li_a7, li_b7, li_a8, li_b8, li_a16, li_b16, li_a48, li_b48, li_a584, li_b584, li_a572, li_b572, li_a96, li_b96, li_a144, li_b144, li_a192, li_b192, li_a240, li_b240, li_a336, li_b336, li_a384, li_b384, li_a432, li_b432, li_a480, li_b480, li_a488, li_b488, li_a496, li_b496, li_a504, li_b504, li_a512, li_b512, li_a520, li_b520, li_a524, li_b524, li_a528, li_b528, li_a536, li_b536, li_a544, li_b544, li_a552, li_b552, li_a560, li_b560, li_a568, li_b568, li_a573, li_b573, li_a585, li_b585, li_a633, li_b633, li_m3, li_n3, li_m4, li_n4, li_m48, li_n48, li_m50, li_n50, li_m585, li_n585, li_m633, li_n633, li_lt2, li_ge2, li_le2, li_gt2, li_lt1, li_ge1, li_le1, li_gt1, li_lt3, li_ge3, li_le3, li_gt3, li_lt4, li_ge4, li_le4, li_gt4, li_lt7, li_ge7, li_le7, li_gt7, li_lt8, li_ge8, li_le8, li_gt8, li_lt40, li_ge40, li_le40, li_gt40, li_lt240, li_ge240, li_le240, li_gt240, li_lt41, li_ge41, li_le41, li_gt41, li_lt48, li_ge48, li_le48, li_gt48, li_lt49, li_ge49, li_le49, li_gt49, li_lt60, li_ge60, li_le60, li_gt60, li_lt144, li_ge144, li_le144, li_gt144, li_lt145, li_ge145, li_le145, li_gt145, li_lt160, li_ge160, li_le160, li_gt160, li_lt336, li_ge336, li_le336, li_gt336, li_lt585, li_ge585, li_le585, li_gt585, li_lt633, li_ge633, li_le633, li_gt633, li_lt1000000, li_ge1000000, li_le1000000, li_gt1000000, li_lt2304, li_ge2304, li_le2304, li_gt2304, li_lt50, li_ge50, li_le50, li_gt50, li_le0, li_gt0]
    exact ⟨fun _ => hp, fun q => by omega⟩
  | succ d ih =>
    intro j wh hj
    obtain ⟨w1, a1, a2, a3⟩ := yw_values_22 (g_trials := g_trials) (g_drafted := g_drafted) (g_found := g_found) (b_s := b_s) (b_saved := b_saved) (b_draft := b_draft) (b_who := b_who) (b_met := b_met) (b_stack := b_stack) (b_fresh := b_fresh) (b_deep := b_deep) (b_alike := b_alike) (b_meets := b_meets) hn (v := j) (by omega) n 0 (upd wh j (-1)) (by omega) pk_us
    obtain ⟨wh', h1, h2, h3⟩ := ih (j + 1) w1 (by omega)
    refine ⟨wh', ?_, ?_, fun post hp => ?_⟩
    · intro v g1 g2
      by_cases z : v = j
      · rw [z, h2 j (by omega), a1]
      · exact h1 v (by omega) g2
    · intro i hi
      rw [h2 i (by omega), a2 i (by omega), pk_un (by omega)]
    · unfold wY_values_7
      simp (disch := omega) only [forall_eq, true_and, and_true, Nat.zero_add, nI_clamp, li_vin, nI_add, nI_eq, nI_leI, nI_ltI, li_0le, li_lt0, li_nn1, li_e0, not_true_eq_false, not_false_eq_true, false_implies, true_implies, forall_const, li_a0, li_b0, li_a1, li_b1, li_a2, li_b2, li_a3, li_b3, li_a7, li_b7, li_a8, li_b8, li_a16, li_b16, li_a48, li_b48, li_a584, li_b584, li_a572, li_b572, li_a96, li_b96, li_a144, li_b144, li_a192, li_b192, li_a240, li_b240, li_a336, li_b336, li_a384, li_b384, li_a432, li_b432, li_a480, li_b480, li_a488, li_b488, li_a496, li_b496, li_a504, li_b504, li_a512, li_b512, li_a520, li_b520, li_a524, li_b524, li_a528, li_b528, li_a536, li_b536, li_a544, li_b544, li_a552, li_b552, li_a560, li_b560, li_a568, li_b568, li_a573, li_b573, li_a585, li_b585, li_a633, li_b633, li_m3, li_n3, li_m4, li_n4, li_m48, li_n48, li_m50, li_n50, li_m585, li_n585, li_m633, li_n633, li_lt2, li_ge2, li_le2, li_gt2, li_lt1, li_ge1, li_le1, li_gt1, li_lt3, li_ge3, li_le3, li_gt3, li_lt4, li_ge4, li_le4, li_gt4, li_lt7, li_ge7, li_le7, li_gt7, li_lt8, li_ge8, li_le8, li_gt8, li_lt40, li_ge40, li_le40, li_gt40, li_lt240, li_ge240, li_le240, li_gt240, li_lt41, li_ge41, li_le41, li_gt41, li_lt48, li_ge48, li_le48, li_gt48, li_lt49, li_ge49, li_le49, li_gt49, li_lt60, li_ge60, li_le60, li_gt60, li_lt144, li_ge144, li_le144, li_gt144, li_lt145, li_ge145, li_le145, li_gt145, li_lt160, li_ge160, li_le160, li_gt160, li_lt336, li_ge336, li_le336, li_gt336, li_lt585, li_ge585, li_le585, li_gt585, li_lt633, li_ge633, li_le633, li_gt633, li_lt1000000, li_ge1000000, li_le1000000, li_gt1000000, li_lt2304, li_ge2304, li_le2304, li_gt2304, li_lt50, li_ge50, li_le50, li_gt50, li_le0, li_gt0]
      exact ⟨fun q => by omega, fun _ => ⟨_, a3 post _ (h3 post hp)⟩⟩
theorem yw_values {g_trials g_drafted g_found : Int32} {b_s b_saved b_draft b_who b_met b_stack b_fresh b_deep : Nat → Int32} {b_alike b_meets : Nat → Int64} (h : yv_H b_s) : ∃ (n : Nat) (wh' : Nat → Int32), n ≤ 48 ∧ (∀ x, yv_U b_s x → x < n) ∧ (∀ v, v < 48 → wh' v = ys_wh b_s (b_s v) n) ∧ ∀ post : SY → Prop, post (g_trials, g_drafted, g_found, b_s, b_saved, b_draft, wh', b_met, b_stack, b_fresh, b_deep, b_alike, b_meets) → wpY_values post (g_trials, g_drafted, g_found, b_s, b_saved, b_draft, b_who, b_met, b_stack, b_fresh, b_deep, b_alike, b_meets) := by
  obtain ⟨n, n1, n2, n3⟩ := yw_bound (g_trials := g_trials) (g_drafted := g_drafted) (g_found := g_found) (b_s := b_s) (b_saved := b_saved) (b_draft := b_draft) (b_who := b_who) (b_met := b_met) (b_stack := b_stack) (b_fresh := b_fresh) (b_deep := b_deep) (b_alike := b_alike) (b_meets := b_meets) h
  obtain ⟨wh', h1, h2, h3⟩ := yw_values_7 (g_trials := g_trials) (g_drafted := g_drafted) (g_found := g_found) (b_s := b_s) (b_saved := b_saved) (b_draft := b_draft) (b_who := b_who) (b_met := b_met) (b_stack := b_stack) (b_fresh := b_fresh) (b_deep := b_deep) (b_alike := b_alike) (b_meets := b_meets) n1 48 0 b_who rfl
  refine ⟨n, wh', n1, n2, fun v hv => h1 v (by omega) hv, fun post hp => ?_⟩
  unfold wpY_values
  exact n3 _ ⟨_, h3 post hp⟩
theorem yw_areAlike {g_trials g_drafted g_found : Int32} {b_s b_saved b_draft b_who b_met b_stack b_fresh b_deep : Nat → Int32} {b_alike b_meets : Nat → Int64} {u v : Nat} (hu : u < 48) (hv : v < 48) : ∀ post : Int32 → Prop, (by_b (b_alike u) v = true → post 1) → (by_b (b_alike u) v = false → post 0) → wpY_areAlike post (g_trials, g_drafted, g_found, b_s, b_saved, b_draft, b_who, b_met, b_stack, b_fresh, b_deep, b_alike, b_meets) (nI u) (nI v) := by
  intro post h1 h0
  unfold wpY_areAlike
  simp (disch := omega) only [forall_eq, true_and, and_true, Nat.zero_add, nI_clamp, li_vin, nI_add, nI_eq, nI_leI, nI_ltI, li_0le, li_lt0, li_nn1, li_e0, not_true_eq_false, not_false_eq_true, false_implies, true_implies, forall_const, li_a0, li_b0, li_a1, li_b1, li_a2, li_b2, li_a3, li_b3, li_a7, li_b7, li_a8, li_b8, li_a16, li_b16, li_a48, li_b48, li_a584, li_b584, li_a572, li_b572, li_a96, li_b96, li_a144, li_b144, li_a192, li_b192, li_a240, li_b240, li_a336, li_b336, li_a384, li_b384, li_a432, li_b432, li_a480, li_b480, li_a488, li_b488, li_a496, li_b496, li_a504, li_b504, li_a512, li_b512, li_a520, li_b520, li_a524, li_b524, li_a528, li_b528, li_a536, li_b536, li_a544, li_b544, li_a552, li_b552, li_a560, li_b560, li_a568, li_b568, li_a573, li_b573, li_a585, li_b585, li_a633, li_b633, li_m3, li_n3, li_m4, li_n4, li_m48, li_n48, li_m50, li_n50, li_m585, li_n585, li_m633, li_n633, li_lt2, li_ge2, li_le2, li_gt2, li_lt1, li_ge1, li_le1, li_gt1, li_lt3, li_ge3, li_le3, li_gt3, li_lt4, li_ge4, li_le4, li_gt4, li_lt7, li_ge7, li_le7, li_gt7, li_lt8, li_ge8, li_le8, li_gt8, li_lt40, li_ge40, li_le40, li_gt40, li_lt240, li_ge240, li_le240, li_gt240, li_lt41, li_ge41, li_le41, li_gt41, li_lt48, li_ge48, li_le48, li_gt48, li_lt49, li_ge49, li_le49, li_gt49, li_lt60, li_ge60, li_le60, li_gt60, li_lt144, li_ge144, li_le144, li_gt144, li_lt145, li_ge145, li_le145, li_gt145, li_lt160, li_ge160, li_le160, li_gt160, li_lt336, li_ge336, li_le336, li_gt336, li_lt585, li_ge585, li_le585, li_gt585, li_lt633, li_ge633, li_le633, li_gt633, li_lt1000000, li_ge1000000, li_le1000000, li_gt1000000, li_lt2304, li_ge2304, li_le2304, li_gt2304, li_lt50, li_ge50, li_le50, li_gt50, li_le0, li_gt0]
  rw [by_is1 _ (by omega)]
  refine ⟨h1, fun q => h0 ?_⟩
  cases z : by_b (b_alike u) v
  · rfl
  · exact absurd z q
/-- what mayBe looks at -/
def yr_m (s : Nat → Int32) (n : Nat) (al : Nat → Int64) (u v : Nat) : Prop :=
  s u = s v ∨ (ys_h s n u ∧ ys_h s n v ∧ (yv_T s).2.1 (ys_f s n u) = (yv_T s).2.1 (ys_f s n v) ∧ ∀ k, k < ma_ct ((yv_T s).2.1 (ys_f s n u)).1 → by_b (al ((yv_T s).2.2 (ys_f s n u) k)) ((yv_T s).2.2 (ys_f s n v) k) = true)
theorem yw_mayBe_60 {g_trials g_drafted g_found : Int32} {b_s b_saved b_draft b_who b_met b_stack b_fresh b_deep : Nat → Int32} {b_alike b_meets : Nat → Int64} (h : yv_H b_s) {u v : Nat} (hu : u < 48) (hv : v < 48) (u0 : b_s (48 + u) ≠ 0) : ∀ d j, j + d = ma_ct ((yv_T b_s).2.1 u).1 → (∀ k, k < j → by_b (b_alike ((yv_T b_s).2.2 u k)) ((yv_T b_s).2.2 v k) = true) → ∀ post : Int32 → Prop, ((∀ k, k < ma_ct ((yv_T b_s).2.1 u).1 → by_b (b_alike ((yv_T b_s).2.2 u k)) ((yv_T b_s).2.2 v k) = true) → post 1) → ((¬ ∀ k, k < ma_ct ((yv_T b_s).2.1 u).1 → by_b (b_alike ((yv_T b_s).2.2 u k)) ((yv_T b_s).2.2 v k) = true) → post 0) → wY_mayBe_60 post (nI u) (nI v) g_trials g_drafted g_found b_s b_saved b_draft b_who b_met b_stack b_fresh b_deep b_alike b_meets (d + 1) (nI j) := by
  have eu : (yv_T b_s).2.1 u = (yv_k b_s u, b_s (96 + u)) := if_pos hu
  have ct3 := ma_ct_le ((yv_T b_s).2.1 u).1
  have ec : b_s (192 + u) = nI (ma_ct ((yv_T b_s).2.1 u).1) := by
    rw [eu]; exact (yv_HC h hu u0).1
  intro d
  induction d with
  | zero =>
    intro j hj hk post h1 h0
    unfold wY_mayBe_60
    simp (disch := omega) only [forall_eq, true_and, and_true, Nat.zero_add, nI_clamp, li_vin, nI_add, nI_eq, nI_leI, nI_ltI, li_0le, li_lt0, li_nn1, li_e0, not_true_eq_false, not_false_eq_true, false_implies, true_implies, forall_const, li_a0, li_b0, li_a1, li_b1, li_a2, li_b2, li_a3, li_b3, li_a7, li_b7, li_a8, li_b8, li_a16, li_b16, li_a48, li_b48, li_a584, li_b584, li_a572, li_b572, li_a96, li_b96, li_a144, li_b144, li_a192, li_b192, li_a240, li_b240, li_a336, li_b336, li_a384, li_b384, li_a432, li_b432, li_a480, li_b480, li_a488, li_b488, li_a496, li_b496, li_a504, li_b504, li_a512, li_b512, li_a520, li_b520, li_a524, li_b524, li_a528, li_b528, li_a536, li_b536, li_a544, li_b544, li_a552, li_b552, li_a560, li_b560, li_a568, li_b568, li_a573, li_b573, li_a585, li_b585, li_a633, li_b633, li_m3, li_n3, li_m4, li_n4, li_m48, li_n48, li_m50, li_n50, li_m585, li_n585, li_m633, li_n633, li_lt2, li_ge2, li_le2, li_gt2, li_lt1, li_ge1, li_le1, li_gt1, li_lt3, li_ge3, li_le3, li_gt3, li_lt4, li_ge4, li_le4, li_gt4, li_lt7, li_ge7, li_le7, li_gt7, li_lt8, li_ge8, li_le8, li_gt8, li_lt40, li_ge40, li_le40, li_gt40, li_lt240, li_ge240, li_le240, li_gt240, li_lt41, li_ge41, li_le41, li_gt41, li_lt48, li_ge48, li_le48, li_gt48, li_lt49, li_ge49, li_le49, li_gt49, li_lt60, li_ge60, li_le60, li_gt60, li_lt144, li_ge144, li_le144, li_gt144, li_lt145, li_ge145, li_le145, li_gt145, li_lt160, li_ge160, li_le160, li_gt160, li_lt336, li_ge336, li_le336, li_gt336, li_lt585, li_ge585, li_le585, li_gt585, li_lt633, li_ge633, li_le633, li_gt633, li_lt1000000, li_ge1000000, li_le1000000, li_gt1000000, li_lt2304, li_ge2304, li_le2304, li_gt2304, li_lt50, li_ge50, li_le50, li_gt50, li_le0, li_gt0, ec]
    exact ⟨fun _ => h1 (fun k g => hk k (by omega)), fun q => by omega⟩
  | succ d ih =>
    intro j hj hk post h1 h0
    have pu : b_s (240 + 3 * u + j) = nI ((yv_T b_s).2.2 u j) ∧ (yv_T b_s).2.2 u j < 48 := yv_HP h hu (by omega)
    have pv : b_s (240 + 3 * v + j) = nI ((yv_T b_s).2.2 v j) ∧ (yv_T b_s).2.2 v j < 48 := yv_HP h hv (by omega)
    obtain ⟨pu1, pu2⟩ := pu
    obtain ⟨pv1, pv2⟩ := pv
    unfold wY_mayBe_60
    simp (disch := omega) only [forall_eq, true_and, and_true, Nat.zero_add, nI_clamp, li_vin, nI_add, nI_eq, nI_leI, nI_ltI, li_0le, li_lt0, li_nn1, li_e0, not_true_eq_false, not_false_eq_true, false_implies, true_implies, forall_const, li_a0, li_b0, li_a1, li_b1, li_a2, li_b2, li_a3, li_b3, li_a7, li_b7, li_a8, li_b8, li_a16, li_b16, li_a48, li_b48, li_a584, li_b584, li_a572, li_b572, li_a96, li_b96, li_a144, li_b144, li_a192, li_b192, li_a240, li_b240, li_a336, li_b336, li_a384, li_b384, li_a432, li_b432, li_a480, li_b480, li_a488, li_b488, li_a496, li_b496, li_a504, li_b504, li_a512, li_b512, li_a520, li_b520, li_a524, li_b524, li_a528, li_b528, li_a536, li_b536, li_a544, li_b544, li_a552, li_b552, li_a560, li_b560, li_a568, li_b568, li_a573, li_b573, li_a585, li_b585, li_a633, li_b633, li_m3, li_n3, li_m4, li_n4, li_m48, li_n48, li_m50, li_n50, li_m585, li_n585, li_m633, li_n633, li_lt2, li_ge2, li_le2, li_gt2, li_lt1, li_ge1, li_le1, li_gt1, li_lt3, li_ge3, li_le3, li_gt3, li_lt4, li_ge4, li_le4, li_gt4, li_lt7, li_ge7, li_le7, li_gt7, li_lt8, li_ge8, li_le8, li_gt8, li_lt40, li_ge40, li_le40, li_gt40, li_lt240, li_ge240, li_le240, li_gt240, li_lt41, li_ge41, li_le41, li_gt41, li_lt48, li_ge48, li_le48, li_gt48, li_lt49, li_ge49, li_le49, li_gt49, li_lt60, li_ge60, li_le60, li_gt60, li_lt144, li_ge144, li_le144, li_gt144, li_lt145, li_ge145, li_le145, li_gt145, li_lt160, li_ge160, li_le160, li_gt160, li_lt336, li_ge336, li_le336, li_gt336, li_lt585, li_ge585, li_le585, li_gt585, li_lt633, li_ge633, li_le633, li_gt633, li_lt1000000, li_ge1000000, li_le1000000, li_gt1000000, li_lt2304, li_ge2304, li_le2304, li_gt2304, li_lt50, li_ge50, li_le50, li_gt50, li_le0, li_gt0, ec, pu1, pv1]
    refine ⟨fun q => by omega, fun _ => ?_⟩
    refine yw_areAlike (g_trials := g_trials) (g_drafted := g_drafted) (g_found := g_found) (b_s := b_s) (b_saved := b_saved) (b_draft := b_draft) (b_who := b_who) (b_met := b_met) (b_stack := b_stack) (b_fresh := b_fresh) (b_deep := b_deep) (b_alike := b_alike) (b_meets := b_meets) pu2 pv2 _ (fun b => br_f (by decide) ?_) (fun b => br_t rfl (h0 (fun q => ?_)))
    · exact ih (j + 1) (by omega) (lt_s hk b) post h1 h0
    · rw [q j (by omega)] at b
      exact absurd b (by decide)
theorem yw_mayBe {g_trials g_drafted g_found : Int32} {b_s b_saved b_draft b_who b_met b_stack b_fresh b_deep : Nat → Int32} {b_alike b_meets : Nat → Int64} (h : yv_H b_s) {n u v : Nat} (hn : n ≤ 48) (hw : ∀ v, v < 48 → b_who v = ys_wh b_s (b_s v) n) (hu : u < 48) (hv : v < 48) : ∀ post : Int32 → Prop, (yr_m b_s n b_alike u v → post 1) → (¬ yr_m b_s n b_alike u v → post 0) → wpY_mayBe post (g_trials, g_drafted, g_found, b_s, b_saved, b_draft, b_who, b_met, b_stack, b_fresh, b_deep, b_alike, b_meets) (nI u) (nI v) := by
  intro post h1 h0
  unfold wpY_mayBe
  simp (disch := omega) only [forall_eq, true_and, and_true, Nat.zero_add, nI_clamp, li_vin, nI_add, nI_eq, nI_leI, nI_ltI, li_0le, li_lt0, li_nn1, li_e0, not_true_eq_false, not_false_eq_true, false_implies, true_implies, forall_const, li_a0, li_b0, li_a1, li_b1, li_a2, li_b2, li_a3, li_b3, li_a7, li_b7, li_a8, li_b8, li_a16, li_b16, li_a48, li_b48, li_a584, li_b584, li_a572, li_b572, li_a96, li_b96, li_a144, li_b144, li_a192, li_b192, li_a240, li_b240, li_a336, li_b336, li_a384, li_b384, li_a432, li_b432, li_a480, li_b480, li_a488, li_b488, li_a496, li_b496, li_a504, li_b504, li_a512, li_b512, li_a520, li_b520, li_a524, li_b524, li_a528, li_b528, li_a536, li_b536, li_a544, li_b544, li_a552, li_b552, li_a560, li_b560, li_a568, li_b568, li_a573, li_b573, li_a585, li_b585, li_a633, li_b633, li_m3, li_n3, li_m4, li_n4, li_m48, li_n48, li_m50, li_n50, li_m585, li_n585, li_m633, li_n633, li_lt2, li_ge2, li_le2, li_gt2, li_lt1, li_ge1, li_le1, li_gt1, li_lt3, li_ge3, li_le3, li_gt3, li_lt4, li_ge4, li_le4, li_gt4, li_lt7, li_ge7, li_le7, li_gt7, li_lt8, li_ge8, li_le8, li_gt8, li_lt40, li_ge40, li_le40, li_gt40, li_lt240, li_ge240, li_le240, li_gt240, li_lt41, li_ge41, li_le41, li_gt41, li_lt48, li_ge48, li_le48, li_gt48, li_lt49, li_ge49, li_le49, li_gt49, li_lt60, li_ge60, li_le60, li_gt60, li_lt144, li_ge144, li_le144, li_gt144, li_lt145, li_ge145, li_le145, li_gt145, li_lt160, li_ge160, li_le160, li_gt160, li_lt336, li_ge336, li_le336, li_gt336, li_lt585, li_ge585, li_le585, li_gt585, li_lt633, li_ge633, li_le633, li_gt633, li_lt1000000, li_ge1000000, li_le1000000, li_gt1000000, li_lt2304, li_ge2304, li_le2304, li_gt2304, li_lt50, li_ge50, li_le50, li_gt50, li_le0, li_gt0]
  refine br_c (fun e => h1 (Or.inl e)) (fun ne => ?_)
  rw [hw u hu, hw v hv]
  by_cases a : ys_h b_s n u
  · obtain ⟨a1, a2, a3, a4⟩ := ys_hf hn a
    rw [a1]
    refine br_f (nI_pos (by omega)) ?_
    by_cases b : ys_h b_s n v
    · obtain ⟨b1, b2, b3, b4⟩ := ys_hf hn b
      rw [b1]
      refine br_f (nI_pos (by omega)) ?_
      refine yw_isOther (g_trials := g_trials) (g_drafted := g_drafted) (g_found := g_found) (b_s := b_s) (b_saved := b_saved) (b_draft := b_draft) (b_who := b_who) (b_met := b_met) (b_stack := b_stack) (b_fresh := b_fresh) (b_deep := b_deep) (b_alike := b_alike) (b_meets := b_meets) h (by omega) (by omega) a4 b4 _ (fun e => br_t rfl ⟨ma_ct ((yv_T b_s).2.1 (ys_f b_s n u)).1 + 1, ?_⟩) (fun e => br_f (by decide) (h0 (fun q => ?_)))
      · refine yw_mayBe_60 (g_trials := g_trials) (g_drafted := g_drafted) (g_found := g_found) (b_s := b_s) (b_saved := b_saved) (b_draft := b_draft) (b_who := b_who) (b_met := b_met) (b_stack := b_stack) (b_fresh := b_fresh) (b_deep := b_deep) (b_alike := b_alike) (b_meets := b_meets) h (by omega) (by omega) a4 (ma_ct ((yv_T b_s).2.1 (ys_f b_s n u)).1) 0 (by omega) (fun k hk => by omega) post (fun q => h1 (Or.inr ⟨a, b, e, q⟩)) (fun q => h0 (fun z => ?_))
        rcases z with z | z
        · exact ne z
        · exact q z.2.2.2
      · rcases q with q | q
        · exact ne q
        · exact e q.2.2.1
    · have b' : ys_wh b_s (b_s v) n = -1 := Classical.byContradiction b
      rw [b']
      refine br_t (by decide) (h0 (fun q => ?_))
      rcases q with q | q
      · exact ne q
      · exact b q.2.1
  · have a' : ys_wh b_s (b_s u) n = -1 := Classical.byContradiction a
    rw [a']
    refine br_t (by decide) (h0 (fun q => ?_))
    rcases q with q | q
    · exact ne q
    · exact a q.1
def rl_c (al : Nat → Int64) : Nat := ma_cnt (fun k => by_b (al (k / 48)) (k % 48)) 2304
def rl_p (U : Nat → Prop) (L : Nat → Nat) (T : ma_T) (h : Nat → Prop) (f : Nat → Nat) (al : Nat → Int64) (n k : Nat) : Prop :=
  ∀ u v, U u → U v → u < v → v < n → u * n + v < k → by_b (al u) v = true → rl_m L T h f al u v
theorem rl_p1 {U : Nat → Prop} {L : Nat → Nat} {T : ma_T} {h : Nat → Prop} {f : Nat → Nat} {al : Nat → Int64} {n k : Nat} (hp : rl_p U L T h f al n k) (hk : ∀ u v, U u → U v → u < v → u = k / n → v = k % n → by_b (al u) v = true → rl_m L T h f al u v) : rl_p U L T h f al n (k + 1) := by
  intro u v hu hv lt vn lk e
  by_cases q : u * n + v < k
  · exact hp u v hu hv lt vn q e
  · have e2 : u * n + v = k := by omega
    obtain ⟨d1, d2⟩ := dv_u (u := u) vn
    rw [e2] at d1 d2
    exact hk u v hu hv lt d1.symm d2.symm e
theorem rl_bits {al : Nat → Int64} {u v : Nat} (hu : u < 48) (hv : v < 48) (ne : u ≠ v) : ∀ x y, x < 48 → y < 48 → by_b (vp_updL (vp_updL al u (al u &&& (((1 : Int64) <<< ((nI v).toInt64 &&& 63)) ^^^ (-1)))) v (vp_updL al u (al u &&& (((1 : Int64) <<< ((nI v).toInt64 &&& 63)) ^^^ (-1))) v &&& (((1 : Int64) <<< ((nI u).toInt64 &&& 63)) ^^^ (-1))) x) y = (by_b (al x) y && !(decide ((x = u ∧ y = v) ∨ (x = v ∧ y = u)))) := by
  intro x y hx hy
  rw [pk_uLn (fun z => ne z.symm)]
  by_cases a : x = v
  · rw [a, pk_uLs, by_and, by_not _ (by omega), by_shl (by omega)]
    congr 2
    apply decide_eq_decide.mpr
    constructor
    · intro q; exact Or.inr ⟨rfl, q.symm⟩
    · intro q
      rcases q with q | q
      · exact absurd q.1.symm ne
      · exact q.2.symm
  · rw [pk_uLn a]
    by_cases b : x = u
    · rw [b, pk_uLs, by_and, by_not _ (by omega), by_shl (by omega)]
      congr 2
      apply decide_eq_decide.mpr
      constructor
      · intro q; exact Or.inl ⟨rfl, q.symm⟩
      · intro q
        rcases q with q | q
        · exact q.2.symm
        · exact absurd q.1 ne
    · rw [pk_uLn b, decide_eq_false (fun q => q.elim (fun z => b z.1) (fun z => a z.1))]
      simp
theorem yw_relate_42 {g_trials g_drafted g_found : Int32} {b_s b_saved b_draft b_who b_met b_stack b_fresh b_deep : Nat → Int32} {b_alike b_meets : Nat → Int64} {B : Nat} {a : Nat → Int32} {n n' : Nat} (hr : re_P B a b_s) (hn : n ≤ 48) (hU : ∀ x, xv_U a x → x < n) (hw : ∀ v, v < 48 → b_who v = ys_wh b_s (b_s v) n) (hn' : n' ≤ 48) : ∀ d k (more : Int32) (b_alike : Nat → Int64), k + d = n' * n' → rl_I (xv_U a) (xv_L a) (yv_T b_s) (ys_h b_s n) (ys_f b_s n) b_alike → (more = 0 ∨ more = 1) → (more = 0 → rl_p (xv_U a) (xv_L a) (yv_T b_s) (ys_h b_s n) (ys_f b_s n) b_alike n' k) → ∃ (more' : Int32) (al' : Nat → Int64), rl_I (xv_U a) (xv_L a) (yv_T b_s) (ys_h b_s n) (ys_f b_s n) al' ∧ (more' = 0 ∨ more' = 1) ∧ (more' = 0 → rl_p (xv_U a) (xv_L a) (yv_T b_s) (ys_h b_s n) (ys_f b_s n) al' n' (n' * n')) ∧ rl_c al' ≤ rl_c b_alike ∧ (more' = 1 → more = 1 ∨ rl_c al' < rl_c b_alike) ∧ ∀ (post : SY → Prop) (J34 : Int32 → (Nat → Int32) → (Nat → Int32) → (Nat → Int32) → (Nat → Int32) → (Nat → Int32) → (Nat → Int32) → (Nat → Int32) → (Nat → Int32) → (Nat → Int64) → (Nat → Int64) → Prop), J34 more' b_s b_saved b_draft b_who b_met b_stack b_fresh b_deep al' b_meets → wY_relate_42 post J34 (nI n') g_trials g_drafted g_found (d + 1) more (nI k) b_s b_saved b_draft b_who b_met b_stack b_fresh b_deep b_alike b_meets := by
  have nn : n' * n' ≤ 2304 := Nat.mul_le_mul hn' hn'
  have emul : nI n' * nI n' = nI (n' * n') := pk_mul n' n'
  have wh := re_wh hr hn hU
  have hT := hr.2.2.2.2.1.2.2.2.1
  have uT : ∀ x, xv_U a x → x < 48 := fun x hx => hx.1
  have iffm : ∀ (al : Nat → Int64) u v, xv_U a u → xv_U a v → (yr_m b_s n al u v ↔ rl_m (xv_L a) (yv_T b_s) (ys_h b_s n) (ys_f b_s n) al u v) := by
    intro al u v hu hv
    unfold yr_m rl_m
    rw [re_eqL hr hu hv]
  intro d
  induction d with
  | zero =>
    intro k more al hk hI hm hp
    refine ⟨more, al, hI, hm, fun z => ?_, Nat.le_refl _, fun z => Or.inl z, fun post J34 hj => ?_⟩
    · rw [show n' * n' = k from by omega]; exact hp z
    · unfold wY_relate_42
      rw [emul]
      simp (disch := omega) only [forall_eq, true_and, and_true, Nat.zero_add, nI_clamp, li_vin, nI_add, nI_eq, nI_leI, nI_ltI, li_0le, li_lt0, li_nn1, li_e0, not_true_eq_false, not_false_eq_true, false_implies, true_implies, forall_const, li_a0, li_b0, li_a1, li_b1, li_a2, li_b2, li_a3, li_b3, li_a7, li_b7, li_a8, li_b8, li_a16, li_b16, li_a48, li_b48, li_a584, li_b584, li_a572, li_b572, li_a96, li_b96, li_a144, li_b144, li_a192, li_b192, li_a240, li_b240, li_a336, li_b336, li_a384, li_b384, li_a432, li_b432, li_a480, li_b480, li_a488, li_b488, li_a496, li_b496, li_a504, li_b504, li_a512, li_b512, li_a520, li_b520, li_a524, li_b524, li_a528, li_b528, li_a536, li_b536, li_a544, li_b544, li_a552, li_b552, li_a560, li_b560, li_a568, li_b568, li_a573, li_b573, li_a585, li_b585, li_a633, li_b633, li_m3, li_n3, li_m4, li_n4, li_m48, li_n48, li_m50, li_n50, li_m585, li_n585, li_m633, li_n633, li_lt2, li_ge2, li_le2, li_gt2, li_lt1, li_ge1, li_le1, li_gt1, li_lt3, li_ge3, li_le3, li_gt3, li_lt4, li_ge4, li_le4, li_gt4, li_lt7, li_ge7, li_le7, li_gt7, li_lt8, li_ge8, li_le8, li_gt8, li_lt40, li_ge40, li_le40, li_gt40, li_lt240, li_ge240, li_le240, li_gt240, li_lt41, li_ge41, li_le41, li_gt41, li_lt48, li_ge48, li_le48, li_gt48, li_lt49, li_ge49, li_le49, li_gt49, li_lt60, li_ge60, li_le60, li_gt60, li_lt144, li_ge144, li_le144, li_gt144, li_lt145, li_ge145, li_le145, li_gt145, li_lt160, li_ge160, li_le160, li_gt160, li_lt336, li_ge336, li_le336, li_gt336, li_lt585, li_ge585, li_le585, li_gt585, li_lt633, li_ge633, li_le633, li_gt633, li_lt1000000, li_ge1000000, li_le1000000, li_gt1000000, li_lt2304, li_ge2304, li_le2304, li_gt2304, li_lt50, li_ge50, li_le50, li_gt50, li_le0, li_gt0]
      exact ⟨fun _ => hj, fun q => by omega⟩
  | succ d ih =>
    intro k more al hk hI hm hp
    obtain ⟨un, vn, n0, _⟩ := dv_k (n := n') (k := k) (by omega)
    have er : nI k - nI k / nI n' * nI n' = nI (k % n') := pk_rem (by omega) n0 (by omega)
    have ed : nI k / nI n' = nI (k / n') := pk_div (by omega) n0 (by omega)
    have en : (nI n' = 0) ↔ False := ⟨fun z => by have := (li_e0 (by omega)).mp z; omega, fun z => z.elim⟩
    generalize hu : k / n' = u at *
    generalize hv : k % n' = v at *
    have skip : (¬ (xv_U a u ∧ xv_U a v ∧ u < v ∧ by_b (al u) v = true ∧ ¬ rl_m (xv_L a) (yv_T b_s) (ys_h b_s n) (ys_f b_s n) al u v)) → (more = 0 → rl_p (xv_U a) (xv_L a) (yv_T b_s) (ys_h b_s n) (ys_f b_s n) al n' (k + 1)) := by
      intro z m0
      refine rl_p1 (hp m0) (fun u' v' a1 a2 a3 a4 a5 a6 => ?_)
      rw [hu] at a4
      rw [hv] at a5
      rw [a4, a5] at a3 a6 ⊢
      rw [a4] at a1
      rw [a5] at a2
      exact Classical.byContradiction (fun w => z ⟨a1, a2, a3, a6, w⟩)
    have same : (more = 0 → rl_p (xv_U a) (xv_L a) (yv_T b_s) (ys_h b_s n) (ys_f b_s n) al n' (k + 1)) → (∀ (post : SY → Prop) (J34 : Int32 → (Nat → Int32) → (Nat → Int32) → (Nat → Int32) → (Nat → Int32) → (Nat → Int32) → (Nat → Int32) → (Nat → Int32) → (Nat → Int32) → (Nat → Int64) → (Nat → Int64) → Prop), wY_relate_42 post J34 (nI n') g_trials g_drafted g_found (d + 1) more (nI (k + 1)) b_s b_saved b_draft b_who b_met b_stack b_fresh b_deep al b_meets → wY_relate_42 post J34 (nI n') g_trials g_drafted g_found (d + 1 + 1) more (nI k) b_s b_saved b_draft b_who b_met b_stack b_fresh b_deep al b_meets) → ∃ (more' : Int32) (al' : Nat → Int64), rl_I (xv_U a) (xv_L a) (yv_T b_s) (ys_h b_s n) (ys_f b_s n) al' ∧ (more' = 0 ∨ more' = 1) ∧ (more' = 0 → rl_p (xv_U a) (xv_L a) (yv_T b_s) (ys_h b_s n) (ys_f b_s n) al' n' (n' * n')) ∧ rl_c al' ≤ rl_c al ∧ (more' = 1 → more = 1 ∨ rl_c al' < rl_c al) ∧ ∀ (post : SY → Prop) (J34 : Int32 → (Nat → Int32) → (Nat → Int32) → (Nat → Int32) → (Nat → Int32) → (Nat → Int32) → (Nat → Int32) → (Nat → Int32) → (Nat → Int32) → (Nat → Int64) → (Nat → Int64) → Prop), J34 more' b_s b_saved b_draft b_who b_met b_stack b_fresh b_deep al' b_meets → wY_relate_42 post J34 (nI n') g_trials g_drafted g_found (d + 1 + 1) more (nI k) b_s b_saved b_draft b_who b_met b_stack b_fresh b_deep al b_meets := by
      intro z hw
      obtain ⟨more', al', a1, a2, a3, a4, a5, a6⟩ := ih (k + 1) more al (by omega) hI hm z
      exact ⟨more', al', a1, a2, a3, a4, a5, fun post J34 q => hw post J34 (a6 post J34 q)⟩
    by_cases q1 : v ≤ u
    · refine same (skip (fun z => by omega)) (fun post J34 hj => ?_)
      rw [wY_relate_42]
      dsimp only
      rw [er, emul, ed]
      simp (disch := omega) only [forall_eq, true_and, and_true, Nat.zero_add, nI_clamp, li_vin, nI_add, nI_eq, nI_leI, nI_ltI, li_0le, li_lt0, li_nn1, li_e0, not_true_eq_false, not_false_eq_true, false_implies, true_implies, forall_const, li_a0, li_b0, li_a1, li_b1, li_a2, li_b2, li_a3, li_b3, li_a7, li_b7, li_a8, li_b8, li_a16, li_b16, li_a48, li_b48, li_a584, li_b584, li_a572, li_b572, li_a96, li_b96, li_a144, li_b144, li_a192, li_b192, li_a240, li_b240, li_a336, li_b336, li_a384, li_b384, li_a432, li_b432, li_a480, li_b480, li_a488, li_b488, li_a496, li_b496, li_a504, li_b504, li_a512, li_b512, li_a520, li_b520, li_a524, li_b524, li_a528, li_b528, li_a536, li_b536, li_a544, li_b544, li_a552, li_b552, li_a560, li_b560, li_a568, li_b568, li_a573, li_b573, li_a585, li_b585, li_a633, li_b633, li_m3, li_n3, li_m4, li_n4, li_m48, li_n48, li_m50, li_n50, li_m585, li_n585, li_m633, li_n633, li_lt2, li_ge2, li_le2, li_gt2, li_lt1, li_ge1, li_le1, li_gt1, li_lt3, li_ge3, li_le3, li_gt3, li_lt4, li_ge4, li_le4, li_gt4, li_lt7, li_ge7, li_le7, li_gt7, li_lt8, li_ge8, li_le8, li_gt8, li_lt40, li_ge40, li_le40, li_gt40, li_lt240, li_ge240, li_le240, li_gt240, li_lt41, li_ge41, li_le41, li_gt41, li_lt48, li_ge48, li_le48, li_gt48, li_lt49, li_ge49, li_le49, li_gt49, li_lt60, li_ge60, li_le60, li_gt60, li_lt144, li_ge144, li_le144, li_gt144, li_lt145, li_ge145, li_le145, li_gt145, li_lt160, li_ge160, li_le160, li_gt160, li_lt336, li_ge336, li_le336, li_gt336, li_lt585, li_ge585, li_le585, li_gt585, li_lt633, li_ge633, li_le633, li_gt633, li_lt1000000, li_ge1000000, li_le1000000, li_gt1000000, li_lt2304, li_ge2304, li_le2304, li_gt2304, li_lt50, li_ge50, li_le50, li_gt50, li_le0, li_gt0, en]
      exact ⟨fun q => by omega, fun _ => ⟨fun _ => hj, fun z => absurd q1 z⟩⟩
    · by_cases q2 : by_b (al u) v = true
      · by_cases q3 : yr_m b_s n al u v
        · refine same (skip (fun z => z.2.2.2.2 ((iffm al u v z.1 z.2.1).mp q3))) (fun post J34 hj => ?_)
          rw [wY_relate_42]
          dsimp only
          rw [er, emul, ed]
          simp (disch := omega) only [forall_eq, true_and, and_true, Nat.zero_add, nI_clamp, li_vin, nI_add, nI_eq, nI_leI, nI_ltI, li_0le, li_lt0, li_nn1, li_e0, not_true_eq_false, not_false_eq_true, false_implies, true_implies, forall_const, li_a0, li_b0, li_a1, li_b1, li_a2, li_b2, li_a3, li_b3, li_a7, li_b7, li_a8, li_b8, li_a16, li_b16, li_a48, li_b48, li_a584, li_b584, li_a572, li_b572, li_a96, li_b96, li_a144, li_b144, li_a192, li_b192, li_a240, li_b240, li_a336, li_b336, li_a384, li_b384, li_a432, li_b432, li_a480, li_b480, li_a488, li_b488, li_a496, li_b496, li_a504, li_b504, li_a512, li_b512, li_a520, li_b520, li_a524, li_b524, li_a528, li_b528, li_a536, li_b536, li_a544, li_b544, li_a552, li_b552, li_a560, li_b560, li_a568, li_b568, li_a573, li_b573, li_a585, li_b585, li_a633, li_b633, li_m3, li_n3, li_m4, li_n4, li_m48, li_n48, li_m50, li_n50, li_m585, li_n585, li_m633, li_n633, li_lt2, li_ge2, li_le2, li_gt2, li_lt1, li_ge1, li_le1, li_gt1, li_lt3, li_ge3, li_le3, li_gt3, li_lt4, li_ge4, li_le4, li_gt4, li_lt7, li_ge7, li_le7, li_gt7, li_lt8, li_ge8, li_le8, li_gt8, li_lt40, li_ge40, li_le40, li_gt40, li_lt240, li_ge240, li_le240, li_gt240, li_lt41, li_ge41, li_le41, li_gt41, li_lt48, li_ge48, li_le48, li_gt48, li_lt49, li_ge49, li_le49, li_gt49, li_lt60, li_ge60, li_le60, li_gt60, li_lt144, li_ge144, li_le144, li_gt144, li_lt145, li_ge145, li_le145, li_gt145, li_lt160, li_ge160, li_le160, li_gt160, li_lt336, li_ge336, li_le336, li_gt336, li_lt585, li_ge585, li_le585, li_gt585, li_lt633, li_ge633, li_le633, li_gt633, li_lt1000000, li_ge1000000, li_le1000000, li_gt1000000, li_lt2304, li_ge2304, li_le2304, li_gt2304, li_lt50, li_ge50, li_le50, li_gt50, li_le0, li_gt0, en]
          refine ⟨fun q => by omega, fun _ => ⟨fun z => absurd z q1, fun _ => ?_⟩⟩
          refine yw_areAlike (g_trials := g_trials) (g_drafted := g_drafted) (g_found := g_found) (b_s := b_s) (b_saved := b_saved) (b_draft := b_draft) (b_who := b_who) (b_met := b_met) (b_stack := b_stack) (b_fresh := b_fresh) (b_deep := b_deep) (b_alike := al) (b_meets := b_meets) (by omega) (by omega) _ (fun _ => br_f (by decide) ?_) (fun z => absurd (z.symm.trans q2) (by decide))
          exact yw_mayBe (g_trials := g_trials) (g_drafted := g_drafted) (g_found := g_found) (b_s := b_s) (b_saved := b_saved) (b_draft := b_draft) (b_who := b_who) (b_met := b_met) (b_stack := b_stack) (b_fresh := b_fresh) (b_deep := b_deep) (b_alike := al) (b_meets := b_meets) hr.2.1 hn hw (by omega) (by omega) _ (fun _ => br_f (by decide) hj) (fun z => absurd q3 z)
        · have bits := rl_bits (al := al) (u := u) (v := v) (by omega) (by omega) (by omega)
          have hI' := rl_step (by omega) (by omega) uT wh hT hI (fun a1 a2 z => q3 ((iffm al u v a1 a2).mpr z)) bits
          have lt := rl_cnt (u := u) (v := v) (by omega) (by omega) q2 bits
          obtain ⟨more', al', a1, a2, a3, a4, a5, a6⟩ := ih (k + 1) 1 _ (by omega) hI' (Or.inr rfl) (fun z => absurd z (by decide))
          refine ⟨more', al', a1, a2, a3, Nat.le_of_lt (Nat.lt_of_le_of_lt a4 lt), fun _ => Or.inr (Nat.lt_of_le_of_lt a4 lt), fun post J34 hj => ?_⟩
          rw [wY_relate_42]
          dsimp only
          rw [er, emul, ed]
          simp (disch := omega) only [forall_eq, true_and, and_true, Nat.zero_add, nI_clamp, li_vin, nI_add, nI_eq, nI_leI, nI_ltI, li_0le, li_lt0, li_nn1, li_e0, not_true_eq_false, not_false_eq_true, false_implies, true_implies, forall_const, li_a0, li_b0, li_a1, li_b1, li_a2, li_b2, li_a3, li_b3, li_a7, li_b7, li_a8, li_b8, li_a16, li_b16, li_a48, li_b48, li_a584, li_b584, li_a572, li_b572, li_a96, li_b96, li_a144, li_b144, li_a192, li_b192, li_a240, li_b240, li_a336, li_b336, li_a384, li_b384, li_a432, li_b432, li_a480, li_b480, li_a488, li_b488, li_a496, li_b496, li_a504, li_b504, li_a512, li_b512, li_a520, li_b520, li_a524, li_b524, li_a528, li_b528, li_a536, li_b536, li_a544, li_b544, li_a552, li_b552, li_a560, li_b560, li_a568, li_b568, li_a573, li_b573, li_a585, li_b585, li_a633, li_b633, li_m3, li_n3, li_m4, li_n4, li_m48, li_n48, li_m50, li_n50, li_m585, li_n585, li_m633, li_n633, li_lt2, li_ge2, li_le2, li_gt2, li_lt1, li_ge1, li_le1, li_gt1, li_lt3, li_ge3, li_le3, li_gt3, li_lt4, li_ge4, li_le4, li_gt4, li_lt7, li_ge7, li_le7, li_gt7, li_lt8, li_ge8, li_le8, li_gt8, li_lt40, li_ge40, li_le40, li_gt40, li_lt240, li_ge240, li_le240, li_gt240, li_lt41, li_ge41, li_le41, li_gt41, li_lt48, li_ge48, li_le48, li_gt48, li_lt49, li_ge49, li_le49, li_gt49, li_lt60, li_ge60, li_le60, li_gt60, li_lt144, li_ge144, li_le144, li_gt144, li_lt145, li_ge145, li_le145, li_gt145, li_lt160, li_ge160, li_le160, li_gt160, li_lt336, li_ge336, li_le336, li_gt336, li_lt585, li_ge585, li_le585, li_gt585, li_lt633, li_ge633, li_le633, li_gt633, li_lt1000000, li_ge1000000, li_le1000000, li_gt1000000, li_lt2304, li_ge2304, li_le2304, li_gt2304, li_lt50, li_ge50, li_le50, li_gt50, li_le0, li_gt0, en]
          refine ⟨fun q => by omega, fun _ => ⟨fun z => absurd z q1, fun _ => ?_⟩⟩
          refine yw_areAlike (g_trials := g_trials) (g_drafted := g_drafted) (g_found := g_found) (b_s := b_s) (b_saved := b_saved) (b_draft := b_draft) (b_who := b_who) (b_met := b_met) (b_stack := b_stack) (b_fresh := b_fresh) (b_deep := b_deep) (b_alike := al) (b_meets := b_meets) (by omega) (by omega) _ (fun _ => br_f (by decide) ?_) (fun z => absurd (z.symm.trans q2) (by decide))
          refine yw_mayBe (g_trials := g_trials) (g_drafted := g_drafted) (g_found := g_found) (b_s := b_s) (b_saved := b_saved) (b_draft := b_draft) (b_who := b_who) (b_met := b_met) (b_stack := b_stack) (b_fresh := b_fresh) (b_deep := b_deep) (b_alike := al) (b_meets := b_meets) hr.2.1 hn hw (by omega) (by omega) _ (fun z => absurd z q3) (fun _ => br_t rfl ?_)
          exact a6 post J34 hj
      · refine same (skip (fun z => q2 z.2.2.2.1)) (fun post J34 hj => ?_)
        rw [wY_relate_42]
        dsimp only
        rw [er, emul, ed]
        simp (disch := omega) only [forall_eq, true_and, and_true, Nat.zero_add, nI_clamp, li_vin, nI_add, nI_eq, nI_leI, nI_ltI, li_0le, li_lt0, li_nn1, li_e0, not_true_eq_false, not_false_eq_true, false_implies, true_implies, forall_const, li_a0, li_b0, li_a1, li_b1, li_a2, li_b2, li_a3, li_b3, li_a7, li_b7, li_a8, li_b8, li_a16, li_b16, li_a48, li_b48, li_a584, li_b584, li_a572, li_b572, li_a96, li_b96, li_a144, li_b144, li_a192, li_b192, li_a240, li_b240, li_a336, li_b336, li_a384, li_b384, li_a432, li_b432, li_a480, li_b480, li_a488, li_b488, li_a496, li_b496, li_a504, li_b504, li_a512, li_b512, li_a520, li_b520, li_a524, li_b524, li_a528, li_b528, li_a536, li_b536, li_a544, li_b544, li_a552, li_b552, li_a560, li_b560, li_a568, li_b568, li_a573, li_b573, li_a585, li_b585, li_a633, li_b633, li_m3, li_n3, li_m4, li_n4, li_m48, li_n48, li_m50, li_n50, li_m585, li_n585, li_m633, li_n633, li_lt2, li_ge2, li_le2, li_gt2, li_lt1, li_ge1, li_le1, li_gt1, li_lt3, li_ge3, li_le3, li_gt3, li_lt4, li_ge4, li_le4, li_gt4, li_lt7, li_ge7, li_le7, li_gt7, li_lt8, li_ge8, li_le8, li_gt8, li_lt40, li_ge40, li_le40, li_gt40, li_lt240, li_ge240, li_le240, li_gt240, li_lt41, li_ge41, li_le41, li_gt41, li_lt48, li_ge48, li_le48, li_gt48, li_lt49, li_ge49, li_le49, li_gt49, li_lt60, li_ge60, li_le60, li_gt60, li_lt144, li_ge144, li_le144, li_gt144, li_lt145, li_ge145, li_le145, li_gt145, li_lt160, li_ge160, li_le160, li_gt160, li_lt336, li_ge336, li_le336, li_gt336, li_lt585, li_ge585, li_le585, li_gt585, li_lt633, li_ge633, li_le633, li_gt633, li_lt1000000, li_ge1000000, li_le1000000, li_gt1000000, li_lt2304, li_ge2304, li_le2304, li_gt2304, li_lt50, li_ge50, li_le50, li_gt50, li_le0, li_gt0, en]
        refine ⟨fun q => by omega, fun _ => ⟨fun z => absurd z q1, fun _ => ?_⟩⟩
        exact yw_areAlike (g_trials := g_trials) (g_drafted := g_drafted) (g_found := g_found) (b_s := b_s) (b_saved := b_saved) (b_draft := b_draft) (b_who := b_who) (b_met := b_met) (b_stack := b_stack) (b_fresh := b_fresh) (b_deep := b_deep) (b_alike := al) (b_meets := b_meets) (by omega) (by omega) _ (fun z => absurd z q2) (fun _ => br_t rfl hj)
end
section
/-- what relate leaves: who holds the values, who are ALIKE -/
def yr_R (a s : Nat → Int32) (wh : Nat → Int32) (al : Nat → Int64) : Prop :=
  (∃ n, n ≤ 48 ∧ (∀ x, xv_U a x → x < n) ∧ ∀ v, v < 48 → wh v = ys_wh s (s v) n) ∧ ∀ x y, xv_U a x → xv_U a y → (by_b (al x) y = true ↔ ma_al (xv_U a) (xv_L a) (xv_T a) x y)
theorem yw_relate_34 {g_trials g_drafted g_found : Int32} {b_s b_saved b_draft b_who b_met b_stack b_fresh b_deep : Nat → Int32} {b_alike b_meets : Nat → Int64} {B : Nat} {a : Nat → Int32} {n n' : Nat} (hr : re_P B a b_s) (hn : n ≤ 48) (hU : ∀ x, xv_U a x → x < n) (hw : ∀ v, v < 48 → b_who v = ys_wh b_s (b_s v) n) (hn' : n' ≤ 48) : ∀ c (b_alike : Nat → Int64), rl_c b_alike ≤ c → rl_I (xv_U a) (xv_L a) (yv_T b_s) (ys_h b_s n) (ys_f b_s n) b_alike → ∃ al' : Nat → Int64, rl_I (xv_U a) (xv_L a) (yv_T b_s) (ys_h b_s n) (ys_f b_s n) al' ∧ rl_p (xv_U a) (xv_L a) (yv_T b_s) (ys_h b_s n) (ys_f b_s n) al' n' (n' * n') ∧ ∀ post : SY → Prop, post (g_trials, g_drafted, g_found, b_s, b_saved, b_draft, b_who, b_met, b_stack, b_fresh, b_deep, al', b_meets) → wY_relate_34 post (nI n') g_trials g_drafted g_found (c + 2) 1 b_s b_saved b_draft b_who b_met b_stack b_fresh b_deep b_alike b_meets := by
  intro c
  induction c with
  | zero =>
    intro al hc hI
    obtain ⟨more', al', a1, a2, a3, a4, a5, a6⟩ := yw_relate_42 (g_trials := g_trials) (g_drafted := g_drafted) (g_found := g_found) (b_s := b_s) (b_saved := b_saved) (b_draft := b_draft) (b_who := b_who) (b_met := b_met) (b_stack := b_stack) (b_fresh := b_fresh) (b_deep := b_deep) (b_alike := b_alike) (b_meets := b_meets) hr hn hU hw hn' (n' * n') 0 0 al (by omega) hI (Or.inl rfl) (fun _ u v _ _ _ _ q => by omega)
    rcases a2 with z | z
    · refine ⟨al', a1, a3 z, fun post hp => ?_⟩
      rw [wY_relate_34]
      refine br_f (by decide) ⟨_, a6 post _ ?_⟩
      rw [z, wY_relate_34]
      exact br_t rfl hp
    · rcases a5 z with w | w
      · exact absurd w (by decide)
      · omega
  | succ c ih =>
    intro al hc hI
    obtain ⟨more', al', a1, a2, a3, a4, a5, a6⟩ := yw_relate_42 (g_trials := g_trials) (g_drafted := g_drafted) (g_found := g_found) (b_s := b_s) (b_saved := b_saved) (b_draft := b_draft) (b_who := b_who) (b_met := b_met) (b_stack := b_stack) (b_fresh := b_fresh) (b_deep := b_deep) (b_alike := b_alike) (b_meets := b_meets) hr hn hU hw hn' (n' * n') 0 0 al (by omega) hI (Or.inl rfl) (fun _ u v _ _ _ _ q => by omega)
    rcases a2 with z | z
    · refine ⟨al', a1, a3 z, fun post hp => ?_⟩
      rw [wY_relate_34]
      refine br_f (by decide) ⟨_, a6 post _ ?_⟩
      rw [z, wY_relate_34]
      exact br_t rfl hp
    · rcases a5 z with w | w
      · exact absurd w (by decide)
      · obtain ⟨al2, b1, b2, b3⟩ := ih al' (by omega) a1
        refine ⟨al2, b1, b2, fun post hp => ?_⟩
        rw [wY_relate_34]
        refine br_f (by decide) ⟨_, a6 post _ ?_⟩
        rw [z]
        exact b3 post hp
theorem yw_relate_6 {g_trials g_drafted g_found : Int32} {b_s b_saved b_draft b_who b_met b_stack b_fresh b_deep : Nat → Int32} {b_alike b_meets : Nat → Int64} {B : Nat} {a : Nat → Int32} {n : Nat} (hr : re_P B a b_s) (hn : n ≤ 48) (hU : ∀ x, xv_U a x → x < n) (hw : ∀ v, v < 48 → b_who v = ys_wh b_s (b_s v) n) : ∀ d j (b_alike : Nat → Int64), j + d = 48 → (∀ i, i < j → b_alike i = 281474976710655) → ∃ al' : Nat → Int64, yr_R a b_s b_who al' ∧ ∀ post : SY → Prop, post (g_trials, g_drafted, g_found, b_s, b_saved, b_draft, b_who, b_met, b_stack, b_fresh, b_deep, al', b_meets) → wY_relate_6 post g_trials g_drafted g_found (d + 1) (nI j) b_s b_saved b_draft b_who b_met b_stack b_fresh b_deep b_alike b_meets := by
  intro d
  induction d with
  | zero =>
    intro j al hj h
    obtain ⟨n', n1, n2, n3⟩ := yw_bound (g_trials := g_trials) (g_drafted := g_drafted) (g_found := g_found) (b_s := b_s) (b_saved := b_saved) (b_draft := b_draft) (b_who := b_who) (b_met := b_met) (b_stack := b_stack) (b_fresh := b_fresh) (b_deep := b_deep) (b_alike := al) (b_meets := b_meets) hr.2.1
    have hI : rl_I (xv_U a) (xv_L a) (yv_T b_s) (ys_h b_s n) (ys_f b_s n) al := by
      constructor
      · intro u v hu hv
        rw [h u (by omega), h v (by omega), by_full (by omega), by_full (by omega), decide_eq_true hu, decide_eq_true hv]
      · intro B _ u v hu hv _
        rw [h u (by have := hu.1; omega), by_full (by have := hv.1; omega), decide_eq_true hv.1]
    obtain ⟨al', b1, b2, b3⟩ := yw_relate_34 (g_trials := g_trials) (g_drafted := g_drafted) (g_found := g_found) (b_s := b_s) (b_saved := b_saved) (b_draft := b_draft) (b_who := b_who) (b_met := b_met) (b_stack := b_stack) (b_fresh := b_fresh) (b_deep := b_deep) (b_alike := b_alike) (b_meets := b_meets) hr hn hU hw n1 (rl_c al) al (Nat.le_refl _) hI
    refine ⟨al', ⟨⟨n, hn, hU, hw⟩, fun x y hx hy => ?_⟩, fun post hp => ?_⟩
    · refine rl_al hr hn hU b1 (fun u v hu hv lt q => ?_) hx hy
      have yU := re_U hr
      have vn := n2 v (by rw [yU]; exact hv)
      refine b2 u v hu hv lt vn ?_ q
      have : u * n' + n' ≤ n' * n' := by
        have : (u + 1) * n' ≤ n' * n' := Nat.mul_le_mul_right n' (by omega)
        rw [Nat.add_mul, Nat.one_mul] at this
        exact this
      omega
    · unfold wY_relate_6
      simp (disch := omega) only [forall_eq, true_and, and_true, Nat.zero_add, nI_clamp, li_vin, nI_add, nI_eq, nI_leI, nI_ltI, li_0le, li_lt0, li_nn1, li_e0, not_true_eq_false, not_false_eq_true, false_implies, true_implies, forall_const, li_a0, li_b0, li_a1, li_b1, li_a2, li_b2, li_a3, li_b3, li_a7, li_b7, li_a8, li_b8, li_a16, li_b16, li_a48, li_b48, li_a584, li_b584, li_a572, li_b572, li_a96, li_b96, li_a144, li_b144, li_a192, li_b192, li_a240, li_b240, li_a336, li_b336, li_a384, li_b384, li_a432, li_b432, li_a480, li_b480, li_a488, li_b488, li_a496, li_b496, li_a504, li_b504, li_a512, li_b512, li_a520, li_b520, li_a524, li_b524, li_a528, li_b528, li_a536, li_b536, li_a544, li_b544, li_a552, li_b552, li_a560, li_b560, li_a568, li_b568, li_a573, li_b573, li_a585, li_b585, li_a633, li_b633, li_m3, li_n3, li_m4, li_n4, li_m48, li_n48, li_m50, li_n50, li_m585, li_n585, li_m633, li_n633, li_lt2, li_ge2, li_le2, li_gt2, li_lt1, li_ge1, li_le1, li_gt1, li_lt3, li_ge3, li_le3, li_gt3, li_lt4, li_ge4, li_le4, li_gt4, li_lt7, li_ge7, li_le7, li_gt7, li_lt8, li_ge8, li_le8, li_gt8, li_lt40, li_ge40, li_le40, li_gt40, li_lt240, li_ge240, li_le240, li_gt240, li_lt41, li_ge41, li_le41, li_gt41, li_lt48, li_ge48, li_le48, li_gt48, li_lt49, li_ge49, li_le49, li_gt49, li_lt60, li_ge60, li_le60, li_gt60, li_lt144, li_ge144, li_le144, li_gt144, li_lt145, li_ge145, li_le145, li_gt145, li_lt160, li_ge160, li_le160, li_gt160, li_lt336, li_ge336, li_le336, li_gt336, li_lt585, li_ge585, li_le585, li_gt585, li_lt633, li_ge633, li_le633, li_gt633, li_lt1000000, li_ge1000000, li_le1000000, li_gt1000000, li_lt2304, li_ge2304, li_le2304, li_gt2304, li_lt50, li_ge50, li_le50, li_gt50, li_le0, li_gt0]
      exact ⟨fun _ => n3 _ ⟨_, b3 post hp⟩, fun q => by omega⟩
  | succ d ih =>
    intro j al hj h
    obtain ⟨al', b1, b2⟩ := ih (j + 1) (vp_updL al j 281474976710655) (by omega) (by
      intro i hi
      by_cases q : i = j
      · rw [q, pk_uLs]
      · rw [pk_uLn q]; exact h i (by omega))
    refine ⟨al', b1, fun post hp => ?_⟩
    unfold wY_relate_6
    simp (disch := omega) only [forall_eq, true_and, and_true, Nat.zero_add, nI_clamp, li_vin, nI_add, nI_eq, nI_leI, nI_ltI, li_0le, li_lt0, li_nn1, li_e0, not_true_eq_false, not_false_eq_true, false_implies, true_implies, forall_const, li_a0, li_b0, li_a1, li_b1, li_a2, li_b2, li_a3, li_b3, li_a7, li_b7, li_a8, li_b8, li_a16, li_b16, li_a48, li_b48, li_a584, li_b584, li_a572, li_b572, li_a96, li_b96, li_a144, li_b144, li_a192, li_b192, li_a240, li_b240, li_a336, li_b336, li_a384, li_b384, li_a432, li_b432, li_a480, li_b480, li_a488, li_b488, li_a496, li_b496, li_a504, li_b504, li_a512, li_b512, li_a520, li_b520, li_a524, li_b524, li_a528, li_b528, li_a536, li_b536, li_a544, li_b544, li_a552, li_b552, li_a560, li_b560, li_a568, li_b568, li_a573, li_b573, li_a585, li_b585, li_a633, li_b633, li_m3, li_n3, li_m4, li_n4, li_m48, li_n48, li_m50, li_n50, li_m585, li_n585, li_m633, li_n633, li_lt2, li_ge2, li_le2, li_gt2, li_lt1, li_ge1, li_le1, li_gt1, li_lt3, li_ge3, li_le3, li_gt3, li_lt4, li_ge4, li_le4, li_gt4, li_lt7, li_ge7, li_le7, li_gt7, li_lt8, li_ge8, li_le8, li_gt8, li_lt40, li_ge40, li_le40, li_gt40, li_lt240, li_ge240, li_le240, li_gt240, li_lt41, li_ge41, li_le41, li_gt41, li_lt48, li_ge48, li_le48, li_gt48, li_lt49, li_ge49, li_le49, li_gt49, li_lt60, li_ge60, li_le60, li_gt60, li_lt144, li_ge144, li_le144, li_gt144, li_lt145, li_ge145, li_le145, li_gt145, li_lt160, li_ge160, li_le160, li_gt160, li_lt336, li_ge336, li_le336, li_gt336, li_lt585, li_ge585, li_le585, li_gt585, li_lt633, li_ge633, li_le633, li_gt633, li_lt1000000, li_ge1000000, li_le1000000, li_gt1000000, li_lt2304, li_ge2304, li_le2304, li_gt2304, li_lt50, li_ge50, li_le50, li_gt50, li_le0, li_gt0]
    exact ⟨fun q => by omega, fun _ => b2 post hp⟩
theorem yw_relate {g_trials g_drafted g_found : Int32} {b_s b_saved b_draft b_who b_met b_stack b_fresh b_deep : Nat → Int32} {b_alike b_meets : Nat → Int64} {B : Nat} {a : Nat → Int32} (hr : re_P B a b_s) : ∃ (wh : Nat → Int32) (al : Nat → Int64), yr_R a b_s wh al ∧ ∀ post : SY → Prop, post (g_trials, g_drafted, g_found, b_s, b_saved, b_draft, wh, b_met, b_stack, b_fresh, b_deep, al, b_meets) → wpY_relate post (g_trials, g_drafted, g_found, b_s, b_saved, b_draft, b_who, b_met, b_stack, b_fresh, b_deep, b_alike, b_meets) := by
  have yU := re_U hr
  obtain ⟨n, wh, n1, n2, n3, n4⟩ := yw_values (g_trials := g_trials) (g_drafted := g_drafted) (g_found := g_found) (b_s := b_s) (b_saved := b_saved) (b_draft := b_draft) (b_who := b_who) (b_met := b_met) (b_stack := b_stack) (b_fresh := b_fresh) (b_deep := b_deep) (b_alike := b_alike) (b_meets := b_meets) hr.2.1
  obtain ⟨al, b1, b2⟩ := yw_relate_6 (g_trials := g_trials) (g_drafted := g_drafted) (g_found := g_found) (b_s := b_s) (b_saved := b_saved) (b_draft := b_draft) (b_who := wh) (b_met := b_met) (b_stack := b_stack) (b_fresh := b_fresh) (b_deep := b_deep) (b_alike := b_alike) (b_meets := b_meets) hr n1 (fun x hx => n2 x (by rw [yU]; exact hx)) n3 48 0 b_alike rfl (fun i hi => by omega)
  refine ⟨wh, al, b1, fun post hp => ?_⟩
  unfold wpY_relate
  exact n4 _ ⟨_, b2 post hp⟩
/-- judge answers as compare does -/
theorem yw_judge {g_trials g_drafted g_found : Int32} {b_s b_saved b_draft b_who b_met b_stack b_fresh b_deep : Nat → Int32} {b_alike b_meets : Nat → Int64} {B : Nat} {a : Nat → Int32} (hr : re_P B a b_s) (hR : yr_R a b_s b_who b_alike) {x y : Nat} (hx : xv_U a x) (hy : xv_U a y) : ∃ s' : Nat → Int32, (∀ i, i < 633 → s' i = b_s i) ∧ ∀ post : Int32 → SY → Prop, post (ma_vd (xv_U a) (xv_L a) (xv_T a) x y) (g_trials, g_drafted, g_found, s', b_saved, b_draft, b_who, b_met, b_stack, b_fresh, b_deep, b_alike, b_meets) → wpY_judge post (g_trials, g_drafted, g_found, b_s, b_saved, b_draft, b_who, b_met, b_stack, b_fresh, b_deep, b_alike, b_meets) (nI x) (nI y) := by
  have yU := re_U hr
  have iff := hR.2 x y hx hy
  by_cases q : by_b (b_alike x) y = true
  · refine ⟨b_s, fun _ _ => rfl, fun post hp => ?_⟩
    unfold wpY_judge
    refine yw_areAlike (g_trials := g_trials) (g_drafted := g_drafted) (g_found := g_found) (b_s := b_s) (b_saved := b_saved) (b_draft := b_draft) (b_who := b_who) (b_met := b_met) (b_stack := b_stack) (b_fresh := b_fresh) (b_deep := b_deep) (b_alike := b_alike) (b_meets := b_meets) hx.1 hy.1 _ (fun _ => br_f (by decide) ?_) (fun z => absurd (z.symm.trans q) (by decide))
    rw [ma_vd_is1 (iff.mp q)] at hp
    exact hp
  · have na : ¬ ma_al (xv_U a) (xv_L a) (xv_T a) x y := fun z => q (iff.mpr z)
    obtain ⟨s1, a1, a2, a3⟩ := yw_tryIds (g_trials := g_trials) (g_drafted := g_drafted) (g_found := g_found) (b_s := b_s) (b_saved := b_saved) (b_draft := b_draft) (b_who := b_who) (b_met := b_met) (b_stack := b_stack) (b_fresh := b_fresh) (b_deep := b_deep) (b_alike := b_alike) (b_meets := b_meets)
    obtain ⟨s2, j1, j2⟩ := yw_join (g_trials := g_trials) (g_drafted := g_drafted) (g_found := g_found) (b_s := s1) (b_saved := b_saved) (b_draft := b_draft) (b_who := b_who) (b_met := b_met) (b_stack := b_stack) (b_fresh := b_fresh) (b_deep := b_deep) (b_alike := b_alike) (b_meets := b_meets) (b := 633) (by omega) hx.1 hy.1
    have i2 : yc_I (xv_L a) (ma_1 x y) b_s s2 := yc_more (yc_0 hr a2 a1) (by rw [yU]; exact hx) (by rw [yU]; exact hy) j1 (fun u v => ⟨fun q => Or.inr q, fun q => q.elim (fun z => z.elim) (fun z => z)⟩)
    obtain ⟨r, s', h1, h2⟩ := yw_close (g_trials := g_trials) (g_drafted := g_drafted) (g_found := g_found) (b_s := s2) (b_saved := b_saved) (b_draft := b_draft) (b_who := b_who) (b_met := b_met) (b_stack := b_stack) (b_fresh := b_fresh) (b_deep := b_deep) (b_alike := b_alike) (b_meets := b_meets) hr.2.1 (re_yT hr) i2
    obtain ⟨t1, t2⟩ := tl_tr (Q := ma_1 x y) hr
    refine ⟨s', ?_, fun post hp => ?_⟩
    · rcases h1 with z | z
      · exact z.2.2.1
      · exact z.2.2
    · unfold wpY_judge
      refine yw_areAlike (g_trials := g_trials) (g_drafted := g_drafted) (g_found := g_found) (b_s := b_s) (b_saved := b_saved) (b_draft := b_draft) (b_who := b_who) (b_met := b_met) (b_stack := b_stack) (b_fresh := b_fresh) (b_deep := b_deep) (b_alike := b_alike) (b_meets := b_meets) hx.1 hy.1 _ (fun z => absurd z q) (fun _ => br_t rfl ?_)
      refine a3 _ (j2 _ (h2 _ ?_))
      rcases h1 with z | z
      · rw [z.1]
        refine br_f (by decide) ?_
        rw [ma_vd_is3 na (fun w => ma_Ok_no (t1 _ z.2.1) w)] at hp
        exact hp
      · rw [z.1]
        refine br_t rfl ?_
        rw [ma_vd_is2 na (t2 z.2.1)] at hp
        exact hp
end
section
theorem yw_note_31 {g_trials g_drafted g_found : Int32} {b_s b_saved b_draft b_who b_met b_stack b_fresh b_deep : Nat → Int32} {b_alike b_meets : Nat → Int64} {n : Nat} (e : b_s 572 = nI n) : ∀ post : SY → Prop, post (g_trials, g_drafted, g_found, upd b_s 572 (nI (n + 1)), b_saved, b_draft, b_who, b_met, b_stack, b_fresh, b_deep, b_alike, b_meets) → wY_note_31 post g_trials g_drafted g_found b_s b_saved b_draft b_who b_met b_stack b_fresh b_deep b_alike b_meets := by
  intro post hp
  unfold wY_note_31
  simp (disch := omega) only [forall_eq, true_and, and_true, Nat.zero_add, nI_clamp, li_vin, nI_add, nI_eq, nI_leI, nI_ltI, li_0le, li_lt0, li_nn1, li_e0, not_true_eq_false, not_false_eq_true, false_implies, true_implies, forall_const, li_a0, li_b0, li_a1, li_b1, li_a2, li_b2, li_a3, li_b3, li_a7, li_b7, li_a8, li_b8, li_a16, li_b16, li_a48, li_b48, li_a584, li_b584, li_a572, li_b572, li_a96, li_b96, li_a144, li_b144, li_a192, li_b192, li_a240, li_b240, li_a336, li_b336, li_a384, li_b384, li_a432, li_b432, li_a480, li_b480, li_a488, li_b488, li_a496, li_b496, li_a504, li_b504, li_a512, li_b512, li_a520, li_b520, li_a524, li_b524, li_a528, li_b528, li_a536, li_b536, li_a544, li_b544, li_a552, li_b552, li_a560, li_b560, li_a568, li_b568, li_a573, li_b573, li_a585, li_b585, li_a633, li_b633, li_m3, li_n3, li_m4, li_n4, li_m48, li_n48, li_m50, li_n50, li_m585, li_n585, li_m633, li_n633, li_lt2, li_ge2, li_le2, li_gt2, li_lt1, li_ge1, li_le1, li_gt1, li_lt3, li_ge3, li_le3, li_gt3, li_lt4, li_ge4, li_le4, li_gt4, li_lt7, li_ge7, li_le7, li_gt7, li_lt8, li_ge8, li_le8, li_gt8, li_lt40, li_ge40, li_le40, li_gt40, li_lt240, li_ge240, li_le240, li_gt240, li_lt41, li_ge41, li_le41, li_gt41, li_lt48, li_ge48, li_le48, li_gt48, li_lt49, li_ge49, li_le49, li_gt49, li_lt60, li_ge60, li_le60, li_gt60, li_lt144, li_ge144, li_le144, li_gt144, li_lt145, li_ge145, li_le145, li_gt145, li_lt160, li_ge160, li_le160, li_gt160, li_lt336, li_ge336, li_le336, li_gt336, li_lt585, li_ge585, li_le585, li_gt585, li_lt633, li_ge633, li_le633, li_gt633, li_lt1000000, li_ge1000000, li_le1000000, li_gt1000000, li_lt2304, li_ge2304, li_le2304, li_gt2304, li_lt50, li_ge50, li_le50, li_gt50, li_le0, li_gt0, e]
  exact hp
theorem yw_note {g_trials g_drafted g_found : Int32} {b_s b_saved b_draft b_who b_met b_stack b_fresh b_deep : Nat → Int32} {b_alike b_meets : Nat → Int64} {n : Nat} {w : Int32} (hn : n < 1000000) (e : b_s 572 = nI n) : ∃ s' : Nat → Int32, nt_Y b_s s' w ∧ ∀ post : SY → Prop, post (g_trials, g_drafted, g_found, s', b_saved, b_draft, b_who, b_met, b_stack, b_fresh, b_deep, b_alike, b_meets) → wpY_note post (g_trials, g_drafted, g_found, b_s, b_saved, b_draft, b_who, b_met, b_stack, b_fresh, b_deep, b_alike, b_meets) w := by
  by_cases q : n < 60
  · refine ⟨upd (upd b_s (573 + n) w) 572 (nI (n + 1)), ⟨n, hn, e, pk_us, fun _ => ?_, fun i h1 h2 => ?_⟩, fun post hp => ?_⟩
    · rw [pk_un (by omega), pk_us]
    · rw [pk_un h1, pk_un (by omega)]
    · unfold wpY_note
      simp (disch := omega) only [forall_eq, true_and, and_true, Nat.zero_add, nI_clamp, li_vin, nI_add, nI_eq, nI_leI, nI_ltI, li_0le, li_lt0, li_nn1, li_e0, not_true_eq_false, not_false_eq_true, false_implies, true_implies, forall_const, li_a0, li_b0, li_a1, li_b1, li_a2, li_b2, li_a3, li_b3, li_a7, li_b7, li_a8, li_b8, li_a16, li_b16, li_a48, li_b48, li_a584, li_b584, li_a572, li_b572, li_a96, li_b96, li_a144, li_b144, li_a192, li_b192, li_a240, li_b240, li_a336, li_b336, li_a384, li_b384, li_a432, li_b432, li_a480, li_b480, li_a488, li_b488, li_a496, li_b496, li_a504, li_b504, li_a512, li_b512, li_a520, li_b520, li_a524, li_b524, li_a528, li_b528, li_a536, li_b536, li_a544, li_b544, li_a552, li_b552, li_a560, li_b560, li_a568, li_b568, li_a573, li_b573, li_a585, li_b585, li_a633, li_b633, li_m3, li_n3, li_m4, li_n4, li_m48, li_n48, li_m50, li_n50, li_m585, li_n585, li_m633, li_n633, li_lt2, li_ge2, li_le2, li_gt2, li_lt1, li_ge1, li_le1, li_gt1, li_lt3, li_ge3, li_le3, li_gt3, li_lt4, li_ge4, li_le4, li_gt4, li_lt7, li_ge7, li_le7, li_gt7, li_lt8, li_ge8, li_le8, li_gt8, li_lt40, li_ge40, li_le40, li_gt40, li_lt240, li_ge240, li_le240, li_gt240, li_lt41, li_ge41, li_le41, li_gt41, li_lt48, li_ge48, li_le48, li_gt48, li_lt49, li_ge49, li_le49, li_gt49, li_lt60, li_ge60, li_le60, li_gt60, li_lt144, li_ge144, li_le144, li_gt144, li_lt145, li_ge145, li_le145, li_gt145, li_lt160, li_ge160, li_le160, li_gt160, li_lt336, li_ge336, li_le336, li_gt336, li_lt585, li_ge585, li_le585, li_gt585, li_lt633, li_ge633, li_le633, li_gt633, li_lt1000000, li_ge1000000, li_le1000000, li_gt1000000, li_lt2304, li_ge2304, li_le2304, li_gt2304, li_lt50, li_ge50, li_le50, li_gt50, li_le0, li_gt0, e]
      refine ⟨fun z => by omega, fun _ => yw_note_31 (g_trials := g_trials) (g_drafted := g_drafted) (g_found := g_found) (b_s := upd b_s (573 + n) w) (b_saved := b_saved) (b_draft := b_draft) (b_who := b_who) (b_met := b_met) (b_stack := b_stack) (b_fresh := b_fresh) (b_deep := b_deep) (b_alike := b_alike) (b_meets := b_meets) ?_ post hp⟩
      rw [pk_un (by omega)]; exact e
  · refine ⟨upd b_s 572 (nI (n + 1)), ⟨n, hn, e, pk_us, fun z => absurd z q, fun i h1 h2 => pk_un h1⟩, fun post hp => ?_⟩
    unfold wpY_note
    simp (disch := omega) only [forall_eq, true_and, and_true, Nat.zero_add, nI_clamp, li_vin, nI_add, nI_eq, nI_leI, nI_ltI, li_0le, li_lt0, li_nn1, li_e0, not_true_eq_false, not_false_eq_true, false_implies, true_implies, forall_const, li_a0, li_b0, li_a1, li_b1, li_a2, li_b2, li_a3, li_b3, li_a7, li_b7, li_a8, li_b8, li_a16, li_b16, li_a48, li_b48, li_a584, li_b584, li_a572, li_b572, li_a96, li_b96, li_a144, li_b144, li_a192, li_b192, li_a240, li_b240, li_a336, li_b336, li_a384, li_b384, li_a432, li_b432, li_a480, li_b480, li_a488, li_b488, li_a496, li_b496, li_a504, li_b504, li_a512, li_b512, li_a520, li_b520, li_a524, li_b524, li_a528, li_b528, li_a536, li_b536, li_a544, li_b544, li_a552, li_b552, li_a560, li_b560, li_a568, li_b568, li_a573, li_b573, li_a585, li_b585, li_a633, li_b633, li_m3, li_n3, li_m4, li_n4, li_m48, li_n48, li_m50, li_n50, li_m585, li_n585, li_m633, li_n633, li_lt2, li_ge2, li_le2, li_gt2, li_lt1, li_ge1, li_le1, li_gt1, li_lt3, li_ge3, li_le3, li_gt3, li_lt4, li_ge4, li_le4, li_gt4, li_lt7, li_ge7, li_le7, li_gt7, li_lt8, li_ge8, li_le8, li_gt8, li_lt40, li_ge40, li_le40, li_gt40, li_lt240, li_ge240, li_le240, li_gt240, li_lt41, li_ge41, li_le41, li_gt41, li_lt48, li_ge48, li_le48, li_gt48, li_lt49, li_ge49, li_le49, li_gt49, li_lt60, li_ge60, li_le60, li_gt60, li_lt144, li_ge144, li_le144, li_gt144, li_lt145, li_ge145, li_le145, li_gt145, li_lt160, li_ge160, li_le160, li_gt160, li_lt336, li_ge336, li_le336, li_gt336, li_lt585, li_ge585, li_le585, li_gt585, li_lt633, li_ge633, li_le633, li_gt633, li_lt1000000, li_ge1000000, li_le1000000, li_gt1000000, li_lt2304, li_ge2304, li_le2304, li_gt2304, li_lt50, li_ge50, li_le50, li_gt50, li_le0, li_gt0, e]
    exact ⟨fun _ => yw_note_31 (g_trials := g_trials) (g_drafted := g_drafted) (g_found := g_found) (b_s := b_s) (b_saved := b_saved) (b_draft := b_draft) (b_who := b_who) (b_met := b_met) (b_stack := b_stack) (b_fresh := b_fresh) (b_deep := b_deep) (b_alike := b_alike) (b_meets := b_meets) e post hp, fun z => by omega⟩
theorem yw_isNeeded {g_trials g_drafted g_found : Int32} {b_s b_saved b_draft b_who b_met b_stack b_fresh b_deep : Nat → Int32} {b_alike b_meets : Nat → Int64} {B : Nat} {a : Nat → Int32} (hr : re_P B a b_s) {x : Nat} (hx : xv_U a x) : ∀ post : Int32 → Prop, (re_nd a x → post 1) → (¬ re_nd a x → post 0) → wpY_isNeeded post (g_trials, g_drafted, g_found, b_s, b_saved, b_draft, b_who, b_met, b_stack, b_fresh, b_deep, b_alike, b_meets) (nI x) := by
  have N := hr.2.2.2.2.2
  have x48 := hx.1
  have lp2 : ∀ d j, j + d = 8 → (∀ t, t < j → ¬ nd_2 a (xv_L a x) t) → ∀ post : Int32 → Prop, ((∃ t, t < 8 ∧ nd_2 a (xv_L a x) t) → post 1) → ((¬ ∃ t, t < 8 ∧ nd_2 a (xv_L a x) t) → post 0) → wY_isNeeded_51 post (nI x) g_trials g_drafted g_found b_s b_saved b_draft b_who b_met b_stack b_fresh b_deep b_alike b_meets (d + 1) (nI j) := by
    intro d
    induction d with
    | zero =>
      intro j hj hn post h1 h0
      unfold wY_isNeeded_51
      simp (disch := omega) only [forall_eq, true_and, and_true, Nat.zero_add, nI_clamp, li_vin, nI_add, nI_eq, nI_leI, nI_ltI, li_0le, li_lt0, li_nn1, li_e0, not_true_eq_false, not_false_eq_true, false_implies, true_implies, forall_const, li_a0, li_b0, li_a1, li_b1, li_a2, li_b2, li_a3, li_b3, li_a7, li_b7, li_a8, li_b8, li_a16, li_b16, li_a48, li_b48, li_a584, li_b584, li_a572, li_b572, li_a96, li_b96, li_a144, li_b144, li_a192, li_b192, li_a240, li_b240, li_a336, li_b336, li_a384, li_b384, li_a432, li_b432, li_a480, li_b480, li_a488, li_b488, li_a496, li_b496, li_a504, li_b504, li_a512, li_b512, li_a520, li_b520, li_a524, li_b524, li_a528, li_b528, li_a536, li_b536, li_a544, li_b544, li_a552, li_b552, li_a560, li_b560, li_a568, li_b568, li_a573, li_b573, li_a585, li_b585, li_a633, li_b633, li_m3, li_n3, li_m4, li_n4, li_m48, li_n48, li_m50, li_n50, li_m585, li_n585, li_m633, li_n633, li_lt2, li_ge2, li_le2, li_gt2, li_lt1, li_ge1, li_le1, li_gt1, li_lt3, li_ge3, li_le3, li_gt3, li_lt4, li_ge4, li_le4, li_gt4, li_lt7, li_ge7, li_le7, li_gt7, li_lt8, li_ge8, li_le8, li_gt8, li_lt40, li_ge40, li_le40, li_gt40, li_lt240, li_ge240, li_le240, li_gt240, li_lt41, li_ge41, li_le41, li_gt41, li_lt48, li_ge48, li_le48, li_gt48, li_lt49, li_ge49, li_le49, li_gt49, li_lt60, li_ge60, li_le60, li_gt60, li_lt144, li_ge144, li_le144, li_gt144, li_lt145, li_ge145, li_le145, li_gt145, li_lt160, li_ge160, li_le160, li_gt160, li_lt336, li_ge336, li_le336, li_gt336, li_lt585, li_ge585, li_le585, li_gt585, li_lt633, li_ge633, li_le633, li_gt633, li_lt1000000, li_ge1000000, li_le1000000, li_gt1000000, li_lt2304, li_ge2304, li_le2304, li_gt2304, li_lt50, li_ge50, li_le50, li_gt50, li_le0, li_gt0]
      exact ⟨fun _ => h0 (fun ⟨t, ht, q⟩ => hn t (by omega) q), fun q => by omega⟩
    | succ d ih =>
      intro j hj hn post h1 h0
      have go : ¬ nd_2 a (xv_L a x) j → wY_isNeeded_51 post (nI x) g_trials g_drafted g_found b_s b_saved b_draft b_who b_met b_stack b_fresh b_deep b_alike b_meets (d + 1) (nI (j + 1)) := fun q => ih (j + 1) (by omega) (lt_s hn q) post h1 h0
      obtain ⟨t1, t2, t3, t4⟩ := N.2.2.1 j (by omega)
      rw [wY_isNeeded_51]
      dsimp only
      by_cases w : a (480 + j) = 3
      · have w' : b_s (544 + j) = 3 := by rw [← t1]; exact w
        obtain ⟨⟨q, uq, eq⟩, o⟩ := t4 w
        have q48 := uq.1
        rcases o with b | ⟨y, uy, ey⟩
        · have eq' : b_s (528 + j) = nI q := by rw [← t2]; exact eq
          have b' : b_s (536 + j) = -1 := by rw [← t3]; exact b
          simp (disch := omega) only [forall_eq, true_and, and_true, Nat.zero_add, nI_clamp, li_vin, nI_add, nI_eq, nI_leI, nI_ltI, li_0le, li_lt0, li_nn1, li_e0, not_true_eq_false, not_false_eq_true, false_implies, true_implies, forall_const, li_a0, li_b0, li_a1, li_b1, li_a2, li_b2, li_a3, li_b3, li_a7, li_b7, li_a8, li_b8, li_a16, li_b16, li_a48, li_b48, li_a584, li_b584, li_a572, li_b572, li_a96, li_b96, li_a144, li_b144, li_a192, li_b192, li_a240, li_b240, li_a336, li_b336, li_a384, li_b384, li_a432, li_b432, li_a480, li_b480, li_a488, li_b488, li_a496, li_b496, li_a504, li_b504, li_a512, li_b512, li_a520, li_b520, li_a524, li_b524, li_a528, li_b528, li_a536, li_b536, li_a544, li_b544, li_a552, li_b552, li_a560, li_b560, li_a568, li_b568, li_a573, li_b573, li_a585, li_b585, li_a633, li_b633, li_m3, li_n3, li_m4, li_n4, li_m48, li_n48, li_m50, li_n50, li_m585, li_n585, li_m633, li_n633, li_lt2, li_ge2, li_le2, li_gt2, li_lt1, li_ge1, li_le1, li_gt1, li_lt3, li_ge3, li_le3, li_gt3, li_lt4, li_ge4, li_le4, li_gt4, li_lt7, li_ge7, li_le7, li_gt7, li_lt8, li_ge8, li_le8, li_gt8, li_lt40, li_ge40, li_le40, li_gt40, li_lt240, li_ge240, li_le240, li_gt240, li_lt41, li_ge41, li_le41, li_gt41, li_lt48, li_ge48, li_le48, li_gt48, li_lt49, li_ge49, li_le49, li_gt49, li_lt60, li_ge60, li_le60, li_gt60, li_lt144, li_ge144, li_le144, li_gt144, li_lt145, li_ge145, li_le145, li_gt145, li_lt160, li_ge160, li_le160, li_gt160, li_lt336, li_ge336, li_le336, li_gt336, li_lt585, li_ge585, li_le585, li_gt585, li_lt633, li_ge633, li_le633, li_gt633, li_lt1000000, li_ge1000000, li_le1000000, li_gt1000000, li_lt2304, li_ge2304, li_le2304, li_gt2304, li_lt50, li_ge50, li_le50, li_gt50, li_le0, li_gt0, w', eq', b']
          refine ⟨fun q => by omega, fun _ => br_f (by decide) (br_c (fun e => h1 ⟨j, by omega, w, b, q, q48, eq, (re_eqL hr uq hx).mp e⟩) (fun ne => go (fun z => ?_)))⟩
          obtain ⟨_, _, q', z1, z2, z3⟩ := z
          have : q' = q := (nI_eq (by omega) (by omega)).mp (by rw [← z2, eq])
          rw [this] at z3
          exact ne ((re_eqL hr uq hx).mpr z3)
        · have y48 := uy.1
          have ey' : b_s (536 + j) = nI y := by rw [← t3]; exact ey
          simp (disch := omega) only [forall_eq, true_and, and_true, Nat.zero_add, nI_clamp, li_vin, nI_add, nI_eq, nI_leI, nI_ltI, li_0le, li_lt0, li_nn1, li_e0, not_true_eq_false, not_false_eq_true, false_implies, true_implies, forall_const, li_a0, li_b0, li_a1, li_b1, li_a2, li_b2, li_a3, li_b3, li_a7, li_b7, li_a8, li_b8, li_a16, li_b16, li_a48, li_b48, li_a584, li_b584, li_a572, li_b572, li_a96, li_b96, li_a144, li_b144, li_a192, li_b192, li_a240, li_b240, li_a336, li_b336, li_a384, li_b384, li_a432, li_b432, li_a480, li_b480, li_a488, li_b488, li_a496, li_b496, li_a504, li_b504, li_a512, li_b512, li_a520, li_b520, li_a524, li_b524, li_a528, li_b528, li_a536, li_b536, li_a544, li_b544, li_a552, li_b552, li_a560, li_b560, li_a568, li_b568, li_a573, li_b573, li_a585, li_b585, li_a633, li_b633, li_m3, li_n3, li_m4, li_n4, li_m48, li_n48, li_m50, li_n50, li_m585, li_n585, li_m633, li_n633, li_lt2, li_ge2, li_le2, li_gt2, li_lt1, li_ge1, li_le1, li_gt1, li_lt3, li_ge3, li_le3, li_gt3, li_lt4, li_ge4, li_le4, li_gt4, li_lt7, li_ge7, li_le7, li_gt7, li_lt8, li_ge8, li_le8, li_gt8, li_lt40, li_ge40, li_le40, li_gt40, li_lt240, li_ge240, li_le240, li_gt240, li_lt41, li_ge41, li_le41, li_gt41, li_lt48, li_ge48, li_le48, li_gt48, li_lt49, li_ge49, li_le49, li_gt49, li_lt60, li_ge60, li_le60, li_gt60, li_lt144, li_ge144, li_le144, li_gt144, li_lt145, li_ge145, li_le145, li_gt145, li_lt160, li_ge160, li_le160, li_gt160, li_lt336, li_ge336, li_le336, li_gt336, li_lt585, li_ge585, li_le585, li_gt585, li_lt633, li_ge633, li_le633, li_gt633, li_lt1000000, li_ge1000000, li_le1000000, li_gt1000000, li_lt2304, li_ge2304, li_le2304, li_gt2304, li_lt50, li_ge50, li_le50, li_gt50, li_le0, li_gt0, w', ey']
          refine ⟨fun q => by omega, fun _ => go (fun z => ?_)⟩
          have := z.2.1
          rw [ey] at this
          exact (li_nn1 (by omega)).mp this
      · have w' : ¬ b_s (544 + j) = 3 := by rw [← t1]; exact w
        simp (disch := omega) only [forall_eq, true_and, and_true, Nat.zero_add, nI_clamp, li_vin, nI_add, nI_eq, nI_leI, nI_ltI, li_0le, li_lt0, li_nn1, li_e0, not_true_eq_false, not_false_eq_true, false_implies, true_implies, forall_const, li_a0, li_b0, li_a1, li_b1, li_a2, li_b2, li_a3, li_b3, li_a7, li_b7, li_a8, li_b8, li_a16, li_b16, li_a48, li_b48, li_a584, li_b584, li_a572, li_b572, li_a96, li_b96, li_a144, li_b144, li_a192, li_b192, li_a240, li_b240, li_a336, li_b336, li_a384, li_b384, li_a432, li_b432, li_a480, li_b480, li_a488, li_b488, li_a496, li_b496, li_a504, li_b504, li_a512, li_b512, li_a520, li_b520, li_a524, li_b524, li_a528, li_b528, li_a536, li_b536, li_a544, li_b544, li_a552, li_b552, li_a560, li_b560, li_a568, li_b568, li_a573, li_b573, li_a585, li_b585, li_a633, li_b633, li_m3, li_n3, li_m4, li_n4, li_m48, li_n48, li_m50, li_n50, li_m585, li_n585, li_m633, li_n633, li_lt2, li_ge2, li_le2, li_gt2, li_lt1, li_ge1, li_le1, li_gt1, li_lt3, li_ge3, li_le3, li_gt3, li_lt4, li_ge4, li_le4, li_gt4, li_lt7, li_ge7, li_le7, li_gt7, li_lt8, li_ge8, li_le8, li_gt8, li_lt40, li_ge40, li_le40, li_gt40, li_lt240, li_ge240, li_le240, li_gt240, li_lt41, li_ge41, li_le41, li_gt41, li_lt48, li_ge48, li_le48, li_gt48, li_lt49, li_ge49, li_le49, li_gt49, li_lt60, li_ge60, li_le60, li_gt60, li_lt144, li_ge144, li_le144, li_gt144, li_lt145, li_ge145, li_le145, li_gt145, li_lt160, li_ge160, li_le160, li_gt160, li_lt336, li_ge336, li_le336, li_gt336, li_lt585, li_ge585, li_le585, li_gt585, li_lt633, li_ge633, li_le633, li_gt633, li_lt1000000, li_ge1000000, li_le1000000, li_gt1000000, li_lt2304, li_ge2304, li_le2304, li_gt2304, li_lt50, li_ge50, li_le50, li_gt50, li_le0, li_gt0]
        exact ⟨fun q => by omega, fun _ => br_f w' (go (fun z => w z.1))⟩
  have lp1 : ∀ d j, j + d = 48 → (∀ v, v < j → ¬ nd_1 a (xv_L a x) v) → ∀ post : Int32 → Prop, (((∃ v, v < 48 ∧ nd_1 a (xv_L a x) v) ∨ ∃ t, t < 8 ∧ nd_2 a (xv_L a x) t) → post 1) → ((¬ ((∃ v, v < 48 ∧ nd_1 a (xv_L a x) v) ∨ ∃ t, t < 8 ∧ nd_2 a (xv_L a x) t)) → post 0) → wY_isNeeded_2 post (nI x) g_trials g_drafted g_found b_s b_saved b_draft b_who b_met b_stack b_fresh b_deep b_alike b_meets (d + 1) (nI j) := by
    intro d
    induction d with
    | zero =>
      intro j hj hn post h1 h0
      unfold wY_isNeeded_2
      simp (disch := omega) only [forall_eq, true_and, and_true, Nat.zero_add, nI_clamp, li_vin, nI_add, nI_eq, nI_leI, nI_ltI, li_0le, li_lt0, li_nn1, li_e0, not_true_eq_false, not_false_eq_true, false_implies, true_implies, forall_const, li_a0, li_b0, li_a1, li_b1, li_a2, li_b2, li_a3, li_b3, li_a7, li_b7, li_a8, li_b8, li_a16, li_b16, li_a48, li_b48, li_a584, li_b584, li_a572, li_b572, li_a96, li_b96, li_a144, li_b144, li_a192, li_b192, li_a240, li_b240, li_a336, li_b336, li_a384, li_b384, li_a432, li_b432, li_a480, li_b480, li_a488, li_b488, li_a496, li_b496, li_a504, li_b504, li_a512, li_b512, li_a520, li_b520, li_a524, li_b524, li_a528, li_b528, li_a536, li_b536, li_a544, li_b544, li_a552, li_b552, li_a560, li_b560, li_a568, li_b568, li_a573, li_b573, li_a585, li_b585, li_a633, li_b633, li_m3, li_n3, li_m4, li_n4, li_m48, li_n48, li_m50, li_n50, li_m585, li_n585, li_m633, li_n633, li_lt2, li_ge2, li_le2, li_gt2, li_lt1, li_ge1, li_le1, li_gt1, li_lt3, li_ge3, li_le3, li_gt3, li_lt4, li_ge4, li_le4, li_gt4, li_lt7, li_ge7, li_le7, li_gt7, li_lt8, li_ge8, li_le8, li_gt8, li_lt40, li_ge40, li_le40, li_gt40, li_lt240, li_ge240, li_le240, li_gt240, li_lt41, li_ge41, li_le41, li_gt41, li_lt48, li_ge48, li_le48, li_gt48, li_lt49, li_ge49, li_le49, li_gt49, li_lt60, li_ge60, li_le60, li_gt60, li_lt144, li_ge144, li_le144, li_gt144, li_lt145, li_ge145, li_le145, li_gt145, li_lt160, li_ge160, li_le160, li_gt160, li_lt336, li_ge336, li_le336, li_gt336, li_lt585, li_ge585, li_le585, li_gt585, li_lt633, li_ge633, li_le633, li_gt633, li_lt1000000, li_ge1000000, li_le1000000, li_gt1000000, li_lt2304, li_ge2304, li_le2304, li_gt2304, li_lt50, li_ge50, li_le50, li_gt50, li_le0, li_gt0]
      refine ⟨fun _ => ⟨9, ?_⟩, fun q => by omega⟩
      refine lp2 8 0 rfl (fun t ht => by omega) post (fun q => h1 (Or.inr q)) (fun q => h0 (fun z => ?_))
      rcases z with ⟨v, hv, z⟩ | z
      · exact hn v (by omega) z
      · exact q z
    | succ d ih =>
      intro j hj hn post h1 h0
      have go : ¬ nd_1 a (xv_L a x) j → wY_isNeeded_2 post (nI x) g_trials g_drafted g_found b_s b_saved b_draft b_who b_met b_stack b_fresh b_deep b_alike b_meets (d + 1) (nI (j + 1)) := fun q => ih (j + 1) (by omega) (lt_s hn q) post h1 h0
      obtain ⟨t1, t2⟩ := N.1 j (by omega)
      rw [wY_isNeeded_2]
      dsimp only
      simp (disch := omega) only [forall_eq, true_and, and_true, Nat.zero_add, nI_clamp, li_vin, nI_add, nI_eq, nI_leI, nI_ltI, li_0le, li_lt0, li_nn1, li_e0, not_true_eq_false, not_false_eq_true, false_implies, true_implies, forall_const, li_a0, li_b0, li_a1, li_b1, li_a2, li_b2, li_a3, li_b3, li_a7, li_b7, li_a8, li_b8, li_a16, li_b16, li_a48, li_b48, li_a584, li_b584, li_a572, li_b572, li_a96, li_b96, li_a144, li_b144, li_a192, li_b192, li_a240, li_b240, li_a336, li_b336, li_a384, li_b384, li_a432, li_b432, li_a480, li_b480, li_a488, li_b488, li_a496, li_b496, li_a504, li_b504, li_a512, li_b512, li_a520, li_b520, li_a524, li_b524, li_a528, li_b528, li_a536, li_b536, li_a544, li_b544, li_a552, li_b552, li_a560, li_b560, li_a568, li_b568, li_a573, li_b573, li_a585, li_b585, li_a633, li_b633, li_m3, li_n3, li_m4, li_n4, li_m48, li_n48, li_m50, li_n50, li_m585, li_n585, li_m633, li_n633, li_lt2, li_ge2, li_le2, li_gt2, li_lt1, li_ge1, li_le1, li_gt1, li_lt3, li_ge3, li_le3, li_gt3, li_lt4, li_ge4, li_le4, li_gt4, li_lt7, li_ge7, li_le7, li_gt7, li_lt8, li_ge8, li_le8, li_gt8, li_lt40, li_ge40, li_le40, li_gt40, li_lt240, li_ge240, li_le240, li_gt240, li_lt41, li_ge41, li_le41, li_gt41, li_lt48, li_ge48, li_le48, li_gt48, li_lt49, li_ge49, li_le49, li_gt49, li_lt60, li_ge60, li_le60, li_gt60, li_lt144, li_ge144, li_le144, li_gt144, li_lt145, li_ge145, li_le145, li_gt145, li_lt160, li_ge160, li_le160, li_gt160, li_lt336, li_ge336, li_le336, li_gt336, li_lt585, li_ge585, li_le585, li_gt585, li_lt633, li_ge633, li_le633, li_gt633, li_lt1000000, li_ge1000000, li_le1000000, li_gt1000000, li_lt2304, li_ge2304, li_le2304, li_gt2304, li_lt50, li_ge50, li_le50, li_gt50, li_le0, li_gt0]
      refine ⟨fun q => by omega, fun _ => br_c (fun e => br_c (fun w => ?_) (fun w => go (fun z => w ?_))) (fun ne => go (fun z => ?_))⟩
      · rw [← t1] at w
        rcases t2 with t2 | t2
        · rw [t2] at w; exact absurd w (by decide)
        · exact h1 (Or.inl ⟨j, by omega, w, (re_eqL hr t2.2 hx).mp e⟩)
      · rw [← t1]; exact z.1
      · rcases t2 with t2 | t2
        · have := z.1
          rw [t2] at this
          exact absurd this (by decide)
        · exact ne ((re_eqL hr t2.2 hx).mpr z.2)
  intro post h1 h0
  unfold wpY_isNeeded
  exact ⟨49, lp1 48 0 rfl (fun t ht => by omega) post (fun q => h1 (nd_or.mpr q)) (fun q => h0 (fun z => q (nd_or.mp z)))⟩
theorem yr_h {B : Nat} {a s wh : Nat → Int32} {al : Nat → Int64} (hr : re_P B a s) (hR : yr_R a s wh al) {x : Nat} (hx : xv_U a x) : (xv_K a (xv_L a x) = 0 ∧ wh x = -1) ∨ (xv_K a (xv_L a x) ≠ 0 ∧ ∃ j, j < 48 ∧ wh x = nI j) := by
  obtain ⟨⟨n, n1, n2, n3⟩, _⟩ := hR
  have h5 := hr.2.2.2.2.1
  have wl := h5.1 x hx
  have w := re_wh hr n1 n2
  by_cases q : ys_h s n x
  · right
    obtain ⟨t, l⟩ := w.2.1 x hx q
    obtain ⟨c1, _⟩ := ma_R_x h5 t
    rw [l] at c1
    obtain ⟨e1, e2, _⟩ := ys_hf n1 q
    refine ⟨(xv_T1 c1).2.2, ys_f s n x, by omega, ?_⟩
    rw [n3 x hx.1, e1]
  · left
    have q' : ys_wh s (s x) n = -1 := Classical.byContradiction q
    refine ⟨Classical.byContradiction (fun k0 => q ?_), by rw [n3 x hx.1, q']⟩
    obtain ⟨u, u1, u2, _⟩ := ma_R_y h5 (c := xv_L a x) ⟨wl.2.1, wl.2.2.1, k0⟩
    exact w.1 x hx ⟨u, u1, u2⟩
theorem yw_next_f {g_trials g_drafted g_found : Int32} {b_s b_saved b_draft b_who b_met b_stack b_fresh b_deep : Nat → Int32} {b_alike b_meets : Nat → Int64} {B : Nat} {a : Nat → Int32} (hr : re_P B a b_s) (hR : yr_R a b_s b_who b_alike) : ∃ r, fk_1 (tg_v a) r ∧ ∀ post : Int32 → Prop, post r → wpY_next post (g_trials, g_drafted, g_found, b_s, b_saved, b_draft, b_who, b_met, b_stack, b_fresh, b_deep, b_alike, b_meets) 0 := by
  have N := hr.2.2.2.2.2
  have hG := re_NG N
  have lp : ∀ d j, j + d = 8 → (∀ t, t < j → ¬ tg_v a t) → ∃ r, fk_1 (tg_v a) r ∧ ∀ post : Int32 → Prop, post r → wY_next_2 post 0 g_trials g_drafted g_found b_s b_saved b_draft b_who b_met b_stack b_fresh b_deep b_alike b_meets (d + 1) (nI j) := by
    intro d
    induction d with
    | zero =>
      intro j hj hn
      refine ⟨-1, Or.inl ⟨rfl, fun k hk => hn k (by omega)⟩, fun post hp => ?_⟩
      unfold wY_next_2
      simp (disch := omega) only [forall_eq, true_and, and_true, Nat.zero_add, nI_clamp, li_vin, nI_add, nI_eq, nI_leI, nI_ltI, li_0le, li_lt0, li_nn1, li_e0, not_true_eq_false, not_false_eq_true, false_implies, true_implies, forall_const, li_a0, li_b0, li_a1, li_b1, li_a2, li_b2, li_a3, li_b3, li_a7, li_b7, li_a8, li_b8, li_a16, li_b16, li_a48, li_b48, li_a584, li_b584, li_a572, li_b572, li_a96, li_b96, li_a144, li_b144, li_a192, li_b192, li_a240, li_b240, li_a336, li_b336, li_a384, li_b384, li_a432, li_b432, li_a480, li_b480, li_a488, li_b488, li_a496, li_b496, li_a504, li_b504, li_a512, li_b512, li_a520, li_b520, li_a524, li_b524, li_a528, li_b528, li_a536, li_b536, li_a544, li_b544, li_a552, li_b552, li_a560, li_b560, li_a568, li_b568, li_a573, li_b573, li_a585, li_b585, li_a633, li_b633, li_m3, li_n3, li_m4, li_n4, li_m48, li_n48, li_m50, li_n50, li_m585, li_n585, li_m633, li_n633, li_lt2, li_ge2, li_le2, li_gt2, li_lt1, li_ge1, li_le1, li_gt1, li_lt3, li_ge3, li_le3, li_gt3, li_lt4, li_ge4, li_le4, li_gt4, li_lt7, li_ge7, li_le7, li_gt7, li_lt8, li_ge8, li_le8, li_gt8, li_lt40, li_ge40, li_le40, li_gt40, li_lt240, li_ge240, li_le240, li_gt240, li_lt41, li_ge41, li_le41, li_gt41, li_lt48, li_ge48, li_le48, li_gt48, li_lt49, li_ge49, li_le49, li_gt49, li_lt60, li_ge60, li_le60, li_gt60, li_lt144, li_ge144, li_le144, li_gt144, li_lt145, li_ge145, li_le145, li_gt145, li_lt160, li_ge160, li_le160, li_gt160, li_lt336, li_ge336, li_le336, li_gt336, li_lt585, li_ge585, li_le585, li_gt585, li_lt633, li_ge633, li_le633, li_gt633, li_lt1000000, li_ge1000000, li_le1000000, li_gt1000000, li_lt2304, li_ge2304, li_le2304, li_gt2304, li_lt50, li_ge50, li_le50, li_gt50, li_le0, li_gt0]
      exact ⟨fun _ => hp, fun q => by omega⟩
    | succ d ih =>
      intro j hj hn
      have ej := (N.2.2.2.1 j (by omega)).1
      rcases hG j (by omega) with q | ⟨x, ux, e⟩
      · obtain ⟨r, r1, r2⟩ := ih (j + 1) (by omega) (lt_s hn (fun ⟨x, z1, z2, _⟩ => by rw [q] at z2; exact (li_nn1 (by omega)).mp z2.symm))
        refine ⟨r, r1, fun post hp => ?_⟩
        rw [q] at ej
        rw [wY_next_2]
        dsimp only
        simp (disch := omega) only [forall_eq, true_and, and_true, Nat.zero_add, nI_clamp, li_vin, nI_add, nI_eq, nI_leI, nI_ltI, li_0le, li_lt0, li_nn1, li_e0, not_true_eq_false, not_false_eq_true, false_implies, true_implies, forall_const, li_a0, li_b0, li_a1, li_b1, li_a2, li_b2, li_a3, li_b3, li_a7, li_b7, li_a8, li_b8, li_a16, li_b16, li_a48, li_b48, li_a584, li_b584, li_a572, li_b572, li_a96, li_b96, li_a144, li_b144, li_a192, li_b192, li_a240, li_b240, li_a336, li_b336, li_a384, li_b384, li_a432, li_b432, li_a480, li_b480, li_a488, li_b488, li_a496, li_b496, li_a504, li_b504, li_a512, li_b512, li_a520, li_b520, li_a524, li_b524, li_a528, li_b528, li_a536, li_b536, li_a544, li_b544, li_a552, li_b552, li_a560, li_b560, li_a568, li_b568, li_a573, li_b573, li_a585, li_b585, li_a633, li_b633, li_m3, li_n3, li_m4, li_n4, li_m48, li_n48, li_m50, li_n50, li_m585, li_n585, li_m633, li_n633, li_lt2, li_ge2, li_le2, li_gt2, li_lt1, li_ge1, li_le1, li_gt1, li_lt3, li_ge3, li_le3, li_gt3, li_lt4, li_ge4, li_le4, li_gt4, li_lt7, li_ge7, li_le7, li_gt7, li_lt8, li_ge8, li_le8, li_gt8, li_lt40, li_ge40, li_le40, li_gt40, li_lt240, li_ge240, li_le240, li_gt240, li_lt41, li_ge41, li_le41, li_gt41, li_lt48, li_ge48, li_le48, li_gt48, li_lt49, li_ge49, li_le49, li_gt49, li_lt60, li_ge60, li_le60, li_gt60, li_lt144, li_ge144, li_le144, li_gt144, li_lt145, li_ge145, li_le145, li_gt145, li_lt160, li_ge160, li_le160, li_gt160, li_lt336, li_ge336, li_le336, li_gt336, li_lt585, li_ge585, li_le585, li_gt585, li_lt633, li_ge633, li_le633, li_gt633, li_lt1000000, li_ge1000000, li_le1000000, li_gt1000000, li_lt2304, li_ge2304, li_le2304, li_gt2304, li_lt50, li_ge50, li_le50, li_gt50, li_le0, li_gt0, ej.symm]
        exact ⟨fun q => by omega, fun _ => br_t (by decide) (r2 post hp)⟩
      · have x48 := ux.1
        rw [e] at ej
        rcases yr_h hr hR ux with ⟨k0, w⟩ | ⟨k0, i, hi, w⟩
        · obtain ⟨r, r1, r2⟩ := ih (j + 1) (by omega) (lt_s hn (fun ⟨x', z1, z2, z3⟩ => by rw [tg_un x48 z1 e z2] at z3; exact z3 k0))
          refine ⟨r, r1, fun post hp => ?_⟩
          rw [wY_next_2]
          dsimp only
          simp (disch := omega) only [forall_eq, true_and, and_true, Nat.zero_add, nI_clamp, li_vin, nI_add, nI_eq, nI_leI, nI_ltI, li_0le, li_lt0, li_nn1, li_e0, not_true_eq_false, not_false_eq_true, false_implies, true_implies, forall_const, li_a0, li_b0, li_a1, li_b1, li_a2, li_b2, li_a3, li_b3, li_a7, li_b7, li_a8, li_b8, li_a16, li_b16, li_a48, li_b48, li_a584, li_b584, li_a572, li_b572, li_a96, li_b96, li_a144, li_b144, li_a192, li_b192, li_a240, li_b240, li_a336, li_b336, li_a384, li_b384, li_a432, li_b432, li_a480, li_b480, li_a488, li_b488, li_a496, li_b496, li_a504, li_b504, li_a512, li_b512, li_a520, li_b520, li_a524, li_b524, li_a528, li_b528, li_a536, li_b536, li_a544, li_b544, li_a552, li_b552, li_a560, li_b560, li_a568, li_b568, li_a573, li_b573, li_a585, li_b585, li_a633, li_b633, li_m3, li_n3, li_m4, li_n4, li_m48, li_n48, li_m50, li_n50, li_m585, li_n585, li_m633, li_n633, li_lt2, li_ge2, li_le2, li_gt2, li_lt1, li_ge1, li_le1, li_gt1, li_lt3, li_ge3, li_le3, li_gt3, li_lt4, li_ge4, li_le4, li_gt4, li_lt7, li_ge7, li_le7, li_gt7, li_lt8, li_ge8, li_le8, li_gt8, li_lt40, li_ge40, li_le40, li_gt40, li_lt240, li_ge240, li_le240, li_gt240, li_lt41, li_ge41, li_le41, li_gt41, li_lt48, li_ge48, li_le48, li_gt48, li_lt49, li_ge49, li_le49, li_gt49, li_lt60, li_ge60, li_le60, li_gt60, li_lt144, li_ge144, li_le144, li_gt144, li_lt145, li_ge145, li_le145, li_gt145, li_lt160, li_ge160, li_le160, li_gt160, li_lt336, li_ge336, li_le336, li_gt336, li_lt585, li_ge585, li_le585, li_gt585, li_lt633, li_ge633, li_le633, li_gt633, li_lt1000000, li_ge1000000, li_le1000000, li_gt1000000, li_lt2304, li_ge2304, li_le2304, li_gt2304, li_lt50, li_ge50, li_le50, li_gt50, li_le0, li_gt0, ej.symm, w]
          refine ⟨fun q => by omega, fun _ => br_f (by decide) ?_⟩
          unfold wY_next_37
          exact br_f (by decide) (nm_r (nI_1 j) (r2 post hp))
        · refine ⟨nI j, Or.inr ⟨j, by omega, rfl, ⟨x, x48, e, k0⟩, hn⟩, fun post hp => ?_⟩
          rw [wY_next_2]
          dsimp only
          simp (disch := omega) only [forall_eq, true_and, and_true, Nat.zero_add, nI_clamp, li_vin, nI_add, nI_eq, nI_leI, nI_ltI, li_0le, li_lt0, li_nn1, li_e0, not_true_eq_false, not_false_eq_true, false_implies, true_implies, forall_const, li_a0, li_b0, li_a1, li_b1, li_a2, li_b2, li_a3, li_b3, li_a7, li_b7, li_a8, li_b8, li_a16, li_b16, li_a48, li_b48, li_a584, li_b584, li_a572, li_b572, li_a96, li_b96, li_a144, li_b144, li_a192, li_b192, li_a240, li_b240, li_a336, li_b336, li_a384, li_b384, li_a432, li_b432, li_a480, li_b480, li_a488, li_b488, li_a496, li_b496, li_a504, li_b504, li_a512, li_b512, li_a520, li_b520, li_a524, li_b524, li_a528, li_b528, li_a536, li_b536, li_a544, li_b544, li_a552, li_b552, li_a560, li_b560, li_a568, li_b568, li_a573, li_b573, li_a585, li_b585, li_a633, li_b633, li_m3, li_n3, li_m4, li_n4, li_m48, li_n48, li_m50, li_n50, li_m585, li_n585, li_m633, li_n633, li_lt2, li_ge2, li_le2, li_gt2, li_lt1, li_ge1, li_le1, li_gt1, li_lt3, li_ge3, li_le3, li_gt3, li_lt4, li_ge4, li_le4, li_gt4, li_lt7, li_ge7, li_le7, li_gt7, li_lt8, li_ge8, li_le8, li_gt8, li_lt40, li_ge40, li_le40, li_gt40, li_lt240, li_ge240, li_le240, li_gt240, li_lt41, li_ge41, li_le41, li_gt41, li_lt48, li_ge48, li_le48, li_gt48, li_lt49, li_ge49, li_le49, li_gt49, li_lt60, li_ge60, li_le60, li_gt60, li_lt144, li_ge144, li_le144, li_gt144, li_lt145, li_ge145, li_le145, li_gt145, li_lt160, li_ge160, li_le160, li_gt160, li_lt336, li_ge336, li_le336, li_gt336, li_lt585, li_ge585, li_le585, li_gt585, li_lt633, li_ge633, li_le633, li_gt633, li_lt1000000, li_ge1000000, li_le1000000, li_gt1000000, li_lt2304, li_ge2304, li_le2304, li_gt2304, li_lt50, li_ge50, li_le50, li_gt50, li_le0, li_gt0, ej.symm, w]
          refine ⟨fun q => by omega, fun _ => ?_⟩
          unfold wY_next_37 wY_next_56 wY_next_61
          exact br_t rfl (br_t rfl (br_f (by decide) hp))
  obtain ⟨r, r1, r2⟩ := lp 8 0 rfl (fun t ht => by omega)
  exact ⟨r, r1, fun post hp => ⟨_, r2 post hp⟩⟩
theorem yw_next_t {g_trials g_drafted g_found : Int32} {b_s b_saved b_draft b_who b_met b_stack b_fresh b_deep : Nat → Int32} {b_alike b_meets : Nat → Int64} {B : Nat} {a : Nat → Int32} (hr : re_P B a b_s) (hR : yr_R a b_s b_who b_alike) (hv : ∀ k, k < 8 → ¬ tg_v a k) : ∃ r, fk_1 (tg_n a) r ∧ ∀ post : Int32 → Prop, post r → wpY_next post (g_trials, g_drafted, g_found, b_s, b_saved, b_draft, b_who, b_met, b_stack, b_fresh, b_deep, b_alike, b_meets) 1 := by
  have N := hr.2.2.2.2.2
  have hG := re_NG N
  have lp : ∀ d j, j + d = 8 → (∀ t, t < j → ¬ tg_n a t) → ∃ r, fk_1 (tg_n a) r ∧ ∀ post : Int32 → Prop, post r → wY_next_2 post 1 g_trials g_drafted g_found b_s b_saved b_draft b_who b_met b_stack b_fresh b_deep b_alike b_meets (d + 1) (nI j) := by
    intro d
    induction d with
    | zero =>
      intro j hj hn
      refine ⟨-1, Or.inl ⟨rfl, fun k hk => hn k (by omega)⟩, fun post hp => ?_⟩
      unfold wY_next_2
      simp (disch := omega) only [forall_eq, true_and, and_true, Nat.zero_add, nI_clamp, li_vin, nI_add, nI_eq, nI_leI, nI_ltI, li_0le, li_lt0, li_nn1, li_e0, not_true_eq_false, not_false_eq_true, false_implies, true_implies, forall_const, li_a0, li_b0, li_a1, li_b1, li_a2, li_b2, li_a3, li_b3, li_a7, li_b7, li_a8, li_b8, li_a16, li_b16, li_a48, li_b48, li_a584, li_b584, li_a572, li_b572, li_a96, li_b96, li_a144, li_b144, li_a192, li_b192, li_a240, li_b240, li_a336, li_b336, li_a384, li_b384, li_a432, li_b432, li_a480, li_b480, li_a488, li_b488, li_a496, li_b496, li_a504, li_b504, li_a512, li_b512, li_a520, li_b520, li_a524, li_b524, li_a528, li_b528, li_a536, li_b536, li_a544, li_b544, li_a552, li_b552, li_a560, li_b560, li_a568, li_b568, li_a573, li_b573, li_a585, li_b585, li_a633, li_b633, li_m3, li_n3, li_m4, li_n4, li_m48, li_n48, li_m50, li_n50, li_m585, li_n585, li_m633, li_n633, li_lt2, li_ge2, li_le2, li_gt2, li_lt1, li_ge1, li_le1, li_gt1, li_lt3, li_ge3, li_le3, li_gt3, li_lt4, li_ge4, li_le4, li_gt4, li_lt7, li_ge7, li_le7, li_gt7, li_lt8, li_ge8, li_le8, li_gt8, li_lt40, li_ge40, li_le40, li_gt40, li_lt240, li_ge240, li_le240, li_gt240, li_lt41, li_ge41, li_le41, li_gt41, li_lt48, li_ge48, li_le48, li_gt48, li_lt49, li_ge49, li_le49, li_gt49, li_lt60, li_ge60, li_le60, li_gt60, li_lt144, li_ge144, li_le144, li_gt144, li_lt145, li_ge145, li_le145, li_gt145, li_lt160, li_ge160, li_le160, li_gt160, li_lt336, li_ge336, li_le336, li_gt336, li_lt585, li_ge585, li_le585, li_gt585, li_lt633, li_ge633, li_le633, li_gt633, li_lt1000000, li_ge1000000, li_le1000000, li_gt1000000, li_lt2304, li_ge2304, li_le2304, li_gt2304, li_lt50, li_ge50, li_le50, li_gt50, li_le0, li_gt0]
      exact ⟨fun _ => hp, fun q => by omega⟩
    | succ d ih =>
      intro j hj hn
      have ej := (N.2.2.2.1 j (by omega)).1
      rcases hG j (by omega) with q | ⟨x, ux, e⟩
      · obtain ⟨r, r1, r2⟩ := ih (j + 1) (by omega) (lt_s hn (fun ⟨x, z1, z2, _⟩ => by rw [q] at z2; exact (li_nn1 (by omega)).mp z2.symm))
        refine ⟨r, r1, fun post hp => ?_⟩
        rw [q] at ej
        rw [wY_next_2]
        dsimp only
        simp (disch := omega) only [forall_eq, true_and, and_true, Nat.zero_add, nI_clamp, li_vin, nI_add, nI_eq, nI_leI, nI_ltI, li_0le, li_lt0, li_nn1, li_e0, not_true_eq_false, not_false_eq_true, false_implies, true_implies, forall_const, li_a0, li_b0, li_a1, li_b1, li_a2, li_b2, li_a3, li_b3, li_a7, li_b7, li_a8, li_b8, li_a16, li_b16, li_a48, li_b48, li_a584, li_b584, li_a572, li_b572, li_a96, li_b96, li_a144, li_b144, li_a192, li_b192, li_a240, li_b240, li_a336, li_b336, li_a384, li_b384, li_a432, li_b432, li_a480, li_b480, li_a488, li_b488, li_a496, li_b496, li_a504, li_b504, li_a512, li_b512, li_a520, li_b520, li_a524, li_b524, li_a528, li_b528, li_a536, li_b536, li_a544, li_b544, li_a552, li_b552, li_a560, li_b560, li_a568, li_b568, li_a573, li_b573, li_a585, li_b585, li_a633, li_b633, li_m3, li_n3, li_m4, li_n4, li_m48, li_n48, li_m50, li_n50, li_m585, li_n585, li_m633, li_n633, li_lt2, li_ge2, li_le2, li_gt2, li_lt1, li_ge1, li_le1, li_gt1, li_lt3, li_ge3, li_le3, li_gt3, li_lt4, li_ge4, li_le4, li_gt4, li_lt7, li_ge7, li_le7, li_gt7, li_lt8, li_ge8, li_le8, li_gt8, li_lt40, li_ge40, li_le40, li_gt40, li_lt240, li_ge240, li_le240, li_gt240, li_lt41, li_ge41, li_le41, li_gt41, li_lt48, li_ge48, li_le48, li_gt48, li_lt49, li_ge49, li_le49, li_gt49, li_lt60, li_ge60, li_le60, li_gt60, li_lt144, li_ge144, li_le144, li_gt144, li_lt145, li_ge145, li_le145, li_gt145, li_lt160, li_ge160, li_le160, li_gt160, li_lt336, li_ge336, li_le336, li_gt336, li_lt585, li_ge585, li_le585, li_gt585, li_lt633, li_ge633, li_le633, li_gt633, li_lt1000000, li_ge1000000, li_le1000000, li_gt1000000, li_lt2304, li_ge2304, li_le2304, li_gt2304, li_lt50, li_ge50, li_le50, li_gt50, li_le0, li_gt0, ej.symm]
        exact ⟨fun q => by omega, fun _ => br_t (by decide) (r2 post hp)⟩
      · have x48 := ux.1
        rw [e] at ej
        rcases yr_h hr hR ux with ⟨k0, w⟩ | ⟨k0, i, hi, w⟩
        · by_cases nd : re_nd a x
          · refine ⟨nI j, Or.inr ⟨j, by omega, rfl, ⟨x, x48, e, nd⟩, hn⟩, fun post hp => ?_⟩
            rw [wY_next_2]
            dsimp only
            simp (disch := omega) only [forall_eq, true_and, and_true, Nat.zero_add, nI_clamp, li_vin, nI_add, nI_eq, nI_leI, nI_ltI, li_0le, li_lt0, li_nn1, li_e0, not_true_eq_false, not_false_eq_true, false_implies, true_implies, forall_const, li_a0, li_b0, li_a1, li_b1, li_a2, li_b2, li_a3, li_b3, li_a7, li_b7, li_a8, li_b8, li_a16, li_b16, li_a48, li_b48, li_a584, li_b584, li_a572, li_b572, li_a96, li_b96, li_a144, li_b144, li_a192, li_b192, li_a240, li_b240, li_a336, li_b336, li_a384, li_b384, li_a432, li_b432, li_a480, li_b480, li_a488, li_b488, li_a496, li_b496, li_a504, li_b504, li_a512, li_b512, li_a520, li_b520, li_a524, li_b524, li_a528, li_b528, li_a536, li_b536, li_a544, li_b544, li_a552, li_b552, li_a560, li_b560, li_a568, li_b568, li_a573, li_b573, li_a585, li_b585, li_a633, li_b633, li_m3, li_n3, li_m4, li_n4, li_m48, li_n48, li_m50, li_n50, li_m585, li_n585, li_m633, li_n633, li_lt2, li_ge2, li_le2, li_gt2, li_lt1, li_ge1, li_le1, li_gt1, li_lt3, li_ge3, li_le3, li_gt3, li_lt4, li_ge4, li_le4, li_gt4, li_lt7, li_ge7, li_le7, li_gt7, li_lt8, li_ge8, li_le8, li_gt8, li_lt40, li_ge40, li_le40, li_gt40, li_lt240, li_ge240, li_le240, li_gt240, li_lt41, li_ge41, li_le41, li_gt41, li_lt48, li_ge48, li_le48, li_gt48, li_lt49, li_ge49, li_le49, li_gt49, li_lt60, li_ge60, li_le60, li_gt60, li_lt144, li_ge144, li_le144, li_gt144, li_lt145, li_ge145, li_le145, li_gt145, li_lt160, li_ge160, li_le160, li_gt160, li_lt336, li_ge336, li_le336, li_gt336, li_lt585, li_ge585, li_le585, li_gt585, li_lt633, li_ge633, li_le633, li_gt633, li_lt1000000, li_ge1000000, li_le1000000, li_gt1000000, li_lt2304, li_ge2304, li_le2304, li_gt2304, li_lt50, li_ge50, li_le50, li_gt50, li_le0, li_gt0, ej.symm, w]
            refine ⟨fun q => by omega, fun _ => br_f (by decide) ?_⟩
            unfold wY_next_37
            refine br_t rfl (br_f (by decide) (yw_isNeeded (g_trials := g_trials) (g_drafted := g_drafted) (g_found := g_found) (b_s := b_s) (b_saved := b_saved) (b_draft := b_draft) (b_who := b_who) (b_met := b_met) (b_stack := b_stack) (b_fresh := b_fresh) (b_deep := b_deep) (b_alike := b_alike) (b_meets := b_meets) hr ux _ (fun _ => br_f (by decide) ?_) (fun z => absurd nd z)))
            unfold wY_next_56 wY_next_61
            exact br_f (by decide) hp
          · obtain ⟨r, r1, r2⟩ := ih (j + 1) (by omega) (lt_s hn (fun ⟨x', z1, z2, z3⟩ => by rw [tg_un x48 z1 e z2] at z3; exact nd z3))
            refine ⟨r, r1, fun post hp => ?_⟩
            rw [wY_next_2]
            dsimp only
            simp (disch := omega) only [forall_eq, true_and, and_true, Nat.zero_add, nI_clamp, li_vin, nI_add, nI_eq, nI_leI, nI_ltI, li_0le, li_lt0, li_nn1, li_e0, not_true_eq_false, not_false_eq_true, false_implies, true_implies, forall_const, li_a0, li_b0, li_a1, li_b1, li_a2, li_b2, li_a3, li_b3, li_a7, li_b7, li_a8, li_b8, li_a16, li_b16, li_a48, li_b48, li_a584, li_b584, li_a572, li_b572, li_a96, li_b96, li_a144, li_b144, li_a192, li_b192, li_a240, li_b240, li_a336, li_b336, li_a384, li_b384, li_a432, li_b432, li_a480, li_b480, li_a488, li_b488, li_a496, li_b496, li_a504, li_b504, li_a512, li_b512, li_a520, li_b520, li_a524, li_b524, li_a528, li_b528, li_a536, li_b536, li_a544, li_b544, li_a552, li_b552, li_a560, li_b560, li_a568, li_b568, li_a573, li_b573, li_a585, li_b585, li_a633, li_b633, li_m3, li_n3, li_m4, li_n4, li_m48, li_n48, li_m50, li_n50, li_m585, li_n585, li_m633, li_n633, li_lt2, li_ge2, li_le2, li_gt2, li_lt1, li_ge1, li_le1, li_gt1, li_lt3, li_ge3, li_le3, li_gt3, li_lt4, li_ge4, li_le4, li_gt4, li_lt7, li_ge7, li_le7, li_gt7, li_lt8, li_ge8, li_le8, li_gt8, li_lt40, li_ge40, li_le40, li_gt40, li_lt240, li_ge240, li_le240, li_gt240, li_lt41, li_ge41, li_le41, li_gt41, li_lt48, li_ge48, li_le48, li_gt48, li_lt49, li_ge49, li_le49, li_gt49, li_lt60, li_ge60, li_le60, li_gt60, li_lt144, li_ge144, li_le144, li_gt144, li_lt145, li_ge145, li_le145, li_gt145, li_lt160, li_ge160, li_le160, li_gt160, li_lt336, li_ge336, li_le336, li_gt336, li_lt585, li_ge585, li_le585, li_gt585, li_lt633, li_ge633, li_le633, li_gt633, li_lt1000000, li_ge1000000, li_le1000000, li_gt1000000, li_lt2304, li_ge2304, li_le2304, li_gt2304, li_lt50, li_ge50, li_le50, li_gt50, li_le0, li_gt0, ej.symm, w]
            refine ⟨fun q => by omega, fun _ => br_f (by decide) ?_⟩
            unfold wY_next_37
            refine br_t rfl (br_f (by decide) (yw_isNeeded (g_trials := g_trials) (g_drafted := g_drafted) (g_found := g_found) (b_s := b_s) (b_saved := b_saved) (b_draft := b_draft) (b_who := b_who) (b_met := b_met) (b_stack := b_stack) (b_fresh := b_fresh) (b_deep := b_deep) (b_alike := b_alike) (b_meets := b_meets) hr ux _ (fun z => absurd z nd) (fun _ => br_t rfl ?_)))
            unfold wY_next_61
            exact br_t rfl (nm_r (nI_1 j) (r2 post hp))
        · exact absurd ⟨x, x48, e, k0⟩ (hv j (by omega))
  obtain ⟨r, r1, r2⟩ := lp 8 0 rfl (fun t ht => by omega)
  exact ⟨r, r1, fun post hp => ⟨_, r2 post hp⟩⟩
end
section
theorem yw_spare {g_trials g_drafted g_found : Int32} {b_s b_saved b_draft b_who b_met b_stack b_fresh b_deep : Nat → Int32} {b_alike b_meets : Nat → Int64} (h : yv_H b_s) : ∃ r : Int32, ((r = -2 ∧ ∀ i, i < 48 → yv_U b_s i) ∨ (∃ z, z < 48 ∧ r = nI z ∧ ¬ yv_U b_s z ∧ ∀ i, i < z → yv_U b_s i)) ∧ ∀ post : Int32 → Prop, post r → wpY_spare post (g_trials, g_drafted, g_found, b_s, b_saved, b_draft, b_who, b_met, b_stack, b_fresh, b_deep, b_alike, b_meets) := by
  have lp : ∀ d j, j + d = 48 → (∀ i, i < j → yv_U b_s i) → ∃ r : Int32, ((r = -2 ∧ ∀ i, i < 48 → yv_U b_s i) ∨ (∃ z, z < 48 ∧ r = nI z ∧ ¬ yv_U b_s z ∧ ∀ i, i < z → yv_U b_s i)) ∧ ∀ post : Int32 → Prop, post r → wY_spare_2 post g_trials g_drafted g_found b_s b_saved b_draft b_who b_met b_stack b_fresh b_deep b_alike b_meets (d + 1) (nI j) := by
    intro d
    induction d with
    | zero =>
      intro j hj hu
      refine ⟨-2, Or.inl ⟨rfl, fun i hi => hu i (by omega)⟩, fun post hp => ?_⟩
      unfold wY_spare_2
      simp (disch := omega) only [forall_eq, true_and, and_true, Nat.zero_add, nI_clamp, li_vin, nI_add, nI_eq, nI_leI, nI_ltI, li_0le, li_lt0, li_nn1, li_e0, not_true_eq_false, not_false_eq_true, false_implies, true_implies, forall_const, li_a0, li_b0, li_a1, li_b1, li_a2, li_b2, li_a3, li_b3, li_a7, li_b7, li_a8, li_b8, li_a16, li_b16, li_a48, li_b48, li_a584, li_b584, li_a572, li_b572, li_a96, li_b96, li_a144, li_b144, li_a192, li_b192, li_a240, li_b240, li_a336, li_b336, li_a384, li_b384, li_a432, li_b432, li_a480, li_b480, li_a488, li_b488, li_a496, li_b496, li_a504, li_b504, li_a512, li_b512, li_a520, li_b520, li_a524, li_b524, li_a528, li_b528, li_a536, li_b536, li_a544, li_b544, li_a552, li_b552, li_a560, li_b560, li_a568, li_b568, li_a573, li_b573, li_a585, li_b585, li_a633, li_b633, li_m3, li_n3, li_m4, li_n4, li_m48, li_n48, li_m50, li_n50, li_m585, li_n585, li_m633, li_n633, li_lt2, li_ge2, li_le2, li_gt2, li_lt1, li_ge1, li_le1, li_gt1, li_lt3, li_ge3, li_le3, li_gt3, li_lt4, li_ge4, li_le4, li_gt4, li_lt7, li_ge7, li_le7, li_gt7, li_lt8, li_ge8, li_le8, li_gt8, li_lt40, li_ge40, li_le40, li_gt40, li_lt240, li_ge240, li_le240, li_gt240, li_lt41, li_ge41, li_le41, li_gt41, li_lt48, li_ge48, li_le48, li_gt48, li_lt49, li_ge49, li_le49, li_gt49, li_lt60, li_ge60, li_le60, li_gt60, li_lt144, li_ge144, li_le144, li_gt144, li_lt145, li_ge145, li_le145, li_gt145, li_lt160, li_ge160, li_le160, li_gt160, li_lt336, li_ge336, li_le336, li_gt336, li_lt585, li_ge585, li_le585, li_gt585, li_lt633, li_ge633, li_le633, li_gt633, li_lt1000000, li_ge1000000, li_le1000000, li_gt1000000, li_lt2304, li_ge2304, li_le2304, li_gt2304, li_lt50, li_ge50, li_le50, li_gt50, li_le0, li_gt0]
      exact ⟨fun _ => hp, fun q => by omega⟩
    | succ d ih =>
      intro j hj hu
      rcases h.2.1 j (by omega) with q | ⟨q, _⟩
      · obtain ⟨r, h1, h2⟩ := ih (j + 1) (by omega) (lt_s hu ⟨by omega, q⟩)
        refine ⟨r, h1, fun post hp => ?_⟩
        unfold wY_spare_2
        simp (disch := omega) only [forall_eq, true_and, and_true, Nat.zero_add, nI_clamp, li_vin, nI_add, nI_eq, nI_leI, nI_ltI, li_0le, li_lt0, li_nn1, li_e0, not_true_eq_false, not_false_eq_true, false_implies, true_implies, forall_const, li_a0, li_b0, li_a1, li_b1, li_a2, li_b2, li_a3, li_b3, li_a7, li_b7, li_a8, li_b8, li_a16, li_b16, li_a48, li_b48, li_a584, li_b584, li_a572, li_b572, li_a96, li_b96, li_a144, li_b144, li_a192, li_b192, li_a240, li_b240, li_a336, li_b336, li_a384, li_b384, li_a432, li_b432, li_a480, li_b480, li_a488, li_b488, li_a496, li_b496, li_a504, li_b504, li_a512, li_b512, li_a520, li_b520, li_a524, li_b524, li_a528, li_b528, li_a536, li_b536, li_a544, li_b544, li_a552, li_b552, li_a560, li_b560, li_a568, li_b568, li_a573, li_b573, li_a585, li_b585, li_a633, li_b633, li_m3, li_n3, li_m4, li_n4, li_m48, li_n48, li_m50, li_n50, li_m585, li_n585, li_m633, li_n633, li_lt2, li_ge2, li_le2, li_gt2, li_lt1, li_ge1, li_le1, li_gt1, li_lt3, li_ge3, li_le3, li_gt3, li_lt4, li_ge4, li_le4, li_gt4, li_lt7, li_ge7, li_le7, li_gt7, li_lt8, li_ge8, li_le8, li_gt8, li_lt40, li_ge40, li_le40, li_gt40, li_lt240, li_ge240, li_le240, li_gt240, li_lt41, li_ge41, li_le41, li_gt41, li_lt48, li_ge48, li_le48, li_gt48, li_lt49, li_ge49, li_le49, li_gt49, li_lt60, li_ge60, li_le60, li_gt60, li_lt144, li_ge144, li_le144, li_gt144, li_lt145, li_ge145, li_le145, li_gt145, li_lt160, li_ge160, li_le160, li_gt160, li_lt336, li_ge336, li_le336, li_gt336, li_lt585, li_ge585, li_le585, li_gt585, li_lt633, li_ge633, li_le633, li_gt633, li_lt1000000, li_ge1000000, li_le1000000, li_gt1000000, li_lt2304, li_ge2304, li_le2304, li_gt2304, li_lt50, li_ge50, li_le50, li_gt50, li_le0, li_gt0, q]
        exact ⟨fun q => by omega, fun _ => ⟨fun z => absurd z (by decide), fun _ => h2 post hp⟩⟩
      · refine ⟨nI j, Or.inr ⟨j, by omega, rfl, fun u => ?_, hu⟩, fun post hp => ?_⟩
        · have := u.2
          rw [q] at this
          exact absurd this (by decide)
        · unfold wY_spare_2
          simp (disch := omega) only [forall_eq, true_and, and_true, Nat.zero_add, nI_clamp, li_vin, nI_add, nI_eq, nI_leI, nI_ltI, li_0le, li_lt0, li_nn1, li_e0, not_true_eq_false, not_false_eq_true, false_implies, true_implies, forall_const, li_a0, li_b0, li_a1, li_b1, li_a2, li_b2, li_a3, li_b3, li_a7, li_b7, li_a8, li_b8, li_a16, li_b16, li_a48, li_b48, li_a584, li_b584, li_a572, li_b572, li_a96, li_b96, li_a144, li_b144, li_a192, li_b192, li_a240, li_b240, li_a336, li_b336, li_a384, li_b384, li_a432, li_b432, li_a480, li_b480, li_a488, li_b488, li_a496, li_b496, li_a504, li_b504, li_a512, li_b512, li_a520, li_b520, li_a524, li_b524, li_a528, li_b528, li_a536, li_b536, li_a544, li_b544, li_a552, li_b552, li_a560, li_b560, li_a568, li_b568, li_a573, li_b573, li_a585, li_b585, li_a633, li_b633, li_m3, li_n3, li_m4, li_n4, li_m48, li_n48, li_m50, li_n50, li_m585, li_n585, li_m633, li_n633, li_lt2, li_ge2, li_le2, li_gt2, li_lt1, li_ge1, li_le1, li_gt1, li_lt3, li_ge3, li_le3, li_gt3, li_lt4, li_ge4, li_le4, li_gt4, li_lt7, li_ge7, li_le7, li_gt7, li_lt8, li_ge8, li_le8, li_gt8, li_lt40, li_ge40, li_le40, li_gt40, li_lt240, li_ge240, li_le240, li_gt240, li_lt41, li_ge41, li_le41, li_gt41, li_lt48, li_ge48, li_le48, li_gt48, li_lt49, li_ge49, li_le49, li_gt49, li_lt60, li_ge60, li_le60, li_gt60, li_lt144, li_ge144, li_le144, li_gt144, li_lt145, li_ge145, li_le145, li_gt145, li_lt160, li_ge160, li_le160, li_gt160, li_lt336, li_ge336, li_le336, li_gt336, li_lt585, li_ge585, li_le585, li_gt585, li_lt633, li_ge633, li_le633, li_gt633, li_lt1000000, li_ge1000000, li_le1000000, li_gt1000000, li_lt2304, li_ge2304, li_le2304, li_gt2304, li_lt50, li_ge50, li_le50, li_gt50, li_le0, li_gt0, q]
          exact ⟨fun q => by omega, fun _ => hp⟩
  obtain ⟨r, h1, h2⟩ := lp 48 0 rfl (fun i hi => by omega)
  exact ⟨r, h1, fun post hp => ⟨_, h2 post hp⟩⟩
theorem yw_use {g_trials g_drafted g_found : Int32} {b_s b_saved b_draft b_who b_met b_stack b_fresh b_deep : Nat → Int32} {b_alike b_meets : Nat → Int64} {z : Nat} (hz : z < 48) : ∃ s' : Nat → Int32, tk_Y b_s s' z ∧ ∀ post : SY → Prop, post (g_trials, g_drafted, g_found, s', b_saved, b_draft, b_who, b_met, b_stack, b_fresh, b_deep, b_alike, b_meets) → wpY_use post (g_trials, g_drafted, g_found, b_s, b_saved, b_draft, b_who, b_met, b_stack, b_fresh, b_deep, b_alike, b_meets) (nI z) := by
  refine ⟨upd (upd (upd (upd (upd b_s (384 + z) 1) z (nI z)) (48 + z) 0) (432 + z) 0) (480 + z) 0, ?_, fun post hp => ?_⟩
  · refine ⟨?_, ?_, ?_, ?_, ?_, ?_⟩
    · simp (disch := omega) only [pk_un, pk_us]
    · simp (disch := omega) only [pk_un, pk_us]
    · simp (disch := omega) only [pk_un, pk_us]
    · simp (disch := omega) only [pk_un, pk_us]
    · simp (disch := omega) only [pk_un, pk_us]
    · intro i h1 h2 h3 h4 h5
      simp (disch := assumption) only [pk_un]
  · unfold wpY_use
    simp (disch := omega) only [forall_eq, true_and, and_true, Nat.zero_add, nI_clamp, li_vin, nI_add, nI_eq, nI_leI, nI_ltI, li_0le, li_lt0, li_nn1, li_e0, not_true_eq_false, not_false_eq_true, false_implies, true_implies, forall_const, li_a0, li_b0, li_a1, li_b1, li_a2, li_b2, li_a3, li_b3, li_a7, li_b7, li_a8, li_b8, li_a16, li_b16, li_a48, li_b48, li_a584, li_b584, li_a572, li_b572, li_a96, li_b96, li_a144, li_b144, li_a192, li_b192, li_a240, li_b240, li_a336, li_b336, li_a384, li_b384, li_a432, li_b432, li_a480, li_b480, li_a488, li_b488, li_a496, li_b496, li_a504, li_b504, li_a512, li_b512, li_a520, li_b520, li_a524, li_b524, li_a528, li_b528, li_a536, li_b536, li_a544, li_b544, li_a552, li_b552, li_a560, li_b560, li_a568, li_b568, li_a573, li_b573, li_a585, li_b585, li_a633, li_b633, li_m3, li_n3, li_m4, li_n4, li_m48, li_n48, li_m50, li_n50, li_m585, li_n585, li_m633, li_n633, li_lt2, li_ge2, li_le2, li_gt2, li_lt1, li_ge1, li_le1, li_gt1, li_lt3, li_ge3, li_le3, li_gt3, li_lt4, li_ge4, li_le4, li_gt4, li_lt7, li_ge7, li_le7, li_gt7, li_lt8, li_ge8, li_le8, li_gt8, li_lt40, li_ge40, li_le40, li_gt40, li_lt240, li_ge240, li_le240, li_gt240, li_lt41, li_ge41, li_le41, li_gt41, li_lt48, li_ge48, li_le48, li_gt48, li_lt49, li_ge49, li_le49, li_gt49, li_lt60, li_ge60, li_le60, li_gt60, li_lt144, li_ge144, li_le144, li_gt144, li_lt145, li_ge145, li_le145, li_gt145, li_lt160, li_ge160, li_le160, li_gt160, li_lt336, li_ge336, li_le336, li_gt336, li_lt585, li_ge585, li_le585, li_gt585, li_lt633, li_ge633, li_le633, li_gt633, li_lt1000000, li_ge1000000, li_le1000000, li_gt1000000, li_lt2304, li_ge2304, li_le2304, li_gt2304, li_lt50, li_ge50, li_le50, li_gt50, li_le0, li_gt0]
    exact hp
end
section
theorem ys_wh_congr {s s' : Nat → Int32} (h : ∀ i, i < 96 → s' i = s i) (w : Int32) : ∀ n, n ≤ 48 → ys_wh s' w n = ys_wh s w n := by
  intro n
  induction n with
  | zero => intro _; rfl
  | succ n ih =>
    intro hn
    show (if s' n = w ∧ s' (48 + n) ≠ 0 then nI n else ys_wh s' w n) = (if s n = w ∧ s (48 + n) ≠ 0 then nI n else ys_wh s w n)
    rw [h n (by omega), h (48 + n) (by omega), ih (by omega)]
theorem yr_congr {a a' s s' wh : Nat → Int32} {al : Nat → Int64} (ha : ∀ i, i < 384 → a' i = a i) (hs : ∀ i, i < 96 → s' i = s i) (h : yr_R a s wh al) : yr_R a' s' wh al := by
  obtain ⟨⟨n, n1, n2, n3⟩, h2⟩ := h
  unfold yr_R
  rw [(xv_congr ha).1, (xv_congr ha).2.1, xv_congrT ha]
  refine ⟨⟨n, n1, n2, fun v hv => ?_⟩, h2⟩
  rw [n3 v hv, hs v (by omega), ys_wh_congr hs _ n n1]
theorem xw_dec1 {f_trials f_drafted f_pairs f_metCount f_meetingCount : Int32} {a_held a_saved a_draft a_toldBefore a_pairX a_pairY a_stack a_met a_metAs a_copies a_meetings a_wasMeeting a_firstMet a_depths a_isKept : Nat → Int32} (g : xv_G a_held) {t q : Nat} (ht : t < 8) (h3 : a_held (480 + t) = 3) (uq : xv_U a_held q) (eq : a_held (488 + t) = nI q) (o : a_held (496 + t) = -1 ∨ ∃ y, xv_U a_held y ∧ a_held (496 + t) = nI y) : ∃ (m1 : Int32) (tb px py : Nat → Int32), ∀ (post : SX → Prop) (n : Nat), wX_decideTests_77 post (wX_decideTests_2 post n) (nI t) (dt_v a_held t) f_trials f_drafted m1 f_metCount f_meetingCount a_held a_saved a_draft tb px py a_stack a_met a_metAs a_copies a_meetings a_wasMeeting a_firstMet a_depths a_isKept → wX_decideTests_2 post (n + 1) (nI t) f_trials f_drafted f_pairs f_metCount f_meetingCount a_held a_saved a_draft a_toldBefore a_pairX a_pairY a_stack a_met a_metAs a_copies a_meetings a_wasMeeting a_firstMet a_depths a_isKept := by
  have q48 := uq.1
  have c488 : (a_held (488 + t)).toNatClampNeg = q := by rw [eq, nI_clamp (by omega)]
  rcases o with o | ⟨y, uy, ey⟩
  · refine ⟨f_pairs, a_toldBefore, a_pairX, a_pairY, fun post n hp => ?_⟩
    rw [wX_decideTests_2]
    dsimp only
    simp (disch := omega) only [forall_eq, true_and, and_true, Nat.zero_add, nI_clamp, li_vin, nI_add, nI_eq, nI_leI, nI_ltI, li_0le, li_lt0, li_nn1, li_e0, not_true_eq_false, not_false_eq_true, false_implies, true_implies, forall_const, li_a0, li_b0, li_a1, li_b1, li_a2, li_b2, li_a3, li_b3, li_a7, li_b7, li_a8, li_b8, li_a16, li_b16, li_a48, li_b48, li_a584, li_b584, li_a572, li_b572, li_a96, li_b96, li_a144, li_b144, li_a192, li_b192, li_a240, li_b240, li_a336, li_b336, li_a384, li_b384, li_a432, li_b432, li_a480, li_b480, li_a488, li_b488, li_a496, li_b496, li_a504, li_b504, li_a512, li_b512, li_a520, li_b520, li_a524, li_b524, li_a528, li_b528, li_a536, li_b536, li_a544, li_b544, li_a552, li_b552, li_a560, li_b560, li_a568, li_b568, li_a573, li_b573, li_a585, li_b585, li_a633, li_b633, li_m3, li_n3, li_m4, li_n4, li_m48, li_n48, li_m50, li_n50, li_m585, li_n585, li_m633, li_n633, li_lt2, li_ge2, li_le2, li_gt2, li_lt1, li_ge1, li_le1, li_gt1, li_lt3, li_ge3, li_le3, li_gt3, li_lt4, li_ge4, li_le4, li_gt4, li_lt7, li_ge7, li_le7, li_gt7, li_lt8, li_ge8, li_le8, li_gt8, li_lt40, li_ge40, li_le40, li_gt40, li_lt240, li_ge240, li_le240, li_gt240, li_lt41, li_ge41, li_le41, li_gt41, li_lt48, li_ge48, li_le48, li_gt48, li_lt49, li_ge49, li_le49, li_gt49, li_lt60, li_ge60, li_le60, li_gt60, li_lt144, li_ge144, li_le144, li_gt144, li_lt145, li_ge145, li_le145, li_gt145, li_lt160, li_ge160, li_le160, li_gt160, li_lt336, li_ge336, li_le336, li_gt336, li_lt585, li_ge585, li_le585, li_gt585, li_lt633, li_ge633, li_le633, li_gt633, li_lt1000000, li_ge1000000, li_le1000000, li_gt1000000, li_lt2304, li_ge2304, li_le2304, li_gt2304, li_lt50, li_ge50, li_le50, li_gt50, li_le0, li_gt0, h3, eq, o]
    refine ⟨fun q => by omega, fun _ => ?_⟩
    unfold dt_v at hp
    rw [if_pos o, c488] at hp
    refine xw_isFree (f_trials := f_trials) (f_drafted := f_drafted) (f_pairs := f_pairs) (f_metCount := f_metCount) (f_meetingCount := f_meetingCount) (a_held := a_held) (a_saved := a_saved) (a_draft := a_draft) (a_toldBefore := a_toldBefore) (a_pairX := a_pairX) (a_pairY := a_pairY) (a_stack := a_stack) (a_met := a_met) (a_metAs := a_metAs) (a_copies := a_copies) (a_meetings := a_meetings) (a_wasMeeting := a_wasMeeting) (a_firstMet := a_firstMet) (a_depths := a_depths) (a_isKept := a_isKept) g.1 q48 _ (fun k0 => br_f (by decide) ?_) (fun k0 => br_t rfl ?_)
    · rw [if_pos k0] at hp; exact hp
    · rw [if_neg k0] at hp; exact hp
  · have y48 := uy.1
    have c496 : (a_held (496 + t)).toNatClampNeg = y := by rw [ey, nI_clamp (by omega)]
    have ny : ¬ a_held (496 + t) = -1 := fun z => by rw [ey] at z; exact (li_nn1 (by omega)).mp z
    obtain ⟨m', tb, px, py, hw⟩ := xw_likeness (f_trials := f_trials) (f_drafted := f_drafted) (f_pairs := f_pairs) (f_metCount := f_metCount) (f_meetingCount := f_meetingCount) (a_held := a_held) (a_saved := a_saved) (a_draft := a_draft) (a_toldBefore := a_toldBefore) (a_pairX := a_pairX) (a_pairY := a_pairY) (a_stack := a_stack) (a_met := a_met) (a_metAs := a_metAs) (a_copies := a_copies) (a_meetings := a_meetings) (a_wasMeeting := a_wasMeeting) (a_firstMet := a_firstMet) (a_depths := a_depths) (a_isKept := a_isKept) g uq uy
    refine ⟨nI m', tb, px, py, fun post n hp => ?_⟩
    rw [wX_decideTests_2]
    dsimp only
    simp (disch := omega) only [forall_eq, true_and, and_true, Nat.zero_add, nI_clamp, li_vin, nI_add, nI_eq, nI_leI, nI_ltI, li_0le, li_lt0, li_nn1, li_e0, not_true_eq_false, not_false_eq_true, false_implies, true_implies, forall_const, li_a0, li_b0, li_a1, li_b1, li_a2, li_b2, li_a3, li_b3, li_a7, li_b7, li_a8, li_b8, li_a16, li_b16, li_a48, li_b48, li_a584, li_b584, li_a572, li_b572, li_a96, li_b96, li_a144, li_b144, li_a192, li_b192, li_a240, li_b240, li_a336, li_b336, li_a384, li_b384, li_a432, li_b432, li_a480, li_b480, li_a488, li_b488, li_a496, li_b496, li_a504, li_b504, li_a512, li_b512, li_a520, li_b520, li_a524, li_b524, li_a528, li_b528, li_a536, li_b536, li_a544, li_b544, li_a552, li_b552, li_a560, li_b560, li_a568, li_b568, li_a573, li_b573, li_a585, li_b585, li_a633, li_b633, li_m3, li_n3, li_m4, li_n4, li_m48, li_n48, li_m50, li_n50, li_m585, li_n585, li_m633, li_n633, li_lt2, li_ge2, li_le2, li_gt2, li_lt1, li_ge1, li_le1, li_gt1, li_lt3, li_ge3, li_le3, li_gt3, li_lt4, li_ge4, li_le4, li_gt4, li_lt7, li_ge7, li_le7, li_gt7, li_lt8, li_ge8, li_le8, li_gt8, li_lt40, li_ge40, li_le40, li_gt40, li_lt240, li_ge240, li_le240, li_gt240, li_lt41, li_ge41, li_le41, li_gt41, li_lt48, li_ge48, li_le48, li_gt48, li_lt49, li_ge49, li_le49, li_gt49, li_lt60, li_ge60, li_le60, li_gt60, li_lt144, li_ge144, li_le144, li_gt144, li_lt145, li_ge145, li_le145, li_gt145, li_lt160, li_ge160, li_le160, li_gt160, li_lt336, li_ge336, li_le336, li_gt336, li_lt585, li_ge585, li_le585, li_gt585, li_lt633, li_ge633, li_le633, li_gt633, li_lt1000000, li_ge1000000, li_le1000000, li_gt1000000, li_lt2304, li_ge2304, li_le2304, li_gt2304, li_lt50, li_ge50, li_le50, li_gt50, li_le0, li_gt0, h3, eq, ey]
    refine ⟨fun q => by omega, fun _ => ?_⟩
    unfold dt_v at hp
    rw [if_neg ny, c488, c496] at hp
    exact hw _ hp
theorem xw_77 {f_trials f_drafted f_pairs f_metCount f_meetingCount : Int32} {a_held a_saved a_draft a_toldBefore a_pairX a_pairY a_stack a_met a_metAs a_copies a_meetings a_wasMeeting a_firstMet a_depths a_isKept : Nat → Int32} {t n : Nat} {v : Int32} (ht : t < 8) (hn : n < 1000000) (e : a_held 584 = nI n) (hv : v = 1 ∨ v = 2) : ∃ a' : Nat → Int32, nt_X (upd a_held (480 + t) v) a' (if v = 1 then nI t else nI (8 + t)) ∧ ∀ (post : SX → Prop) (J2 : Int32 → Int32 → Int32 → Int32 → Int32 → Int32 → (Nat → Int32) → (Nat → Int32) → (Nat → Int32) → (Nat → Int32) → (Nat → Int32) → (Nat → Int32) → (Nat → Int32) → (Nat → Int32) → (Nat → Int32) → (Nat → Int32) → (Nat → Int32) → (Nat → Int32) → (Nat → Int32) → (Nat → Int32) → (Nat → Int32) → Prop), J2 (nI (t + 1)) f_trials f_drafted f_pairs f_metCount f_meetingCount a' a_saved a_draft a_toldBefore a_pairX a_pairY a_stack a_met a_metAs a_copies a_meetings a_wasMeeting a_firstMet a_depths a_isKept → wX_decideTests_77 post J2 (nI t) v f_trials f_drafted f_pairs f_metCount f_meetingCount a_held a_saved a_draft a_toldBefore a_pairX a_pairY a_stack a_met a_metAs a_copies a_meetings a_wasMeeting a_firstMet a_depths a_isKept := by
  have e' : upd a_held (480 + t) v 584 = nI n := by rw [pk_un (by omega)]; exact e
  obtain ⟨a', h1, h2⟩ := xw_note (f_trials := f_trials) (f_drafted := f_drafted) (f_pairs := f_pairs) (f_metCount := f_metCount) (f_meetingCount := f_meetingCount) (a_held := upd a_held (480 + t) v) (a_saved := a_saved) (a_draft := a_draft) (a_toldBefore := a_toldBefore) (a_pairX := a_pairX) (a_pairY := a_pairY) (a_stack := a_stack) (a_met := a_met) (a_metAs := a_metAs) (a_copies := a_copies) (a_meetings := a_meetings) (a_wasMeeting := a_wasMeeting) (a_firstMet := a_firstMet) (a_depths := a_depths) (a_isKept := a_isKept) (w := if v = 1 then nI t else nI (8 + t)) hn e'
  refine ⟨a', h1, fun post J2 hp => ?_⟩
  unfold wX_decideTests_77 wX_decideTests_112
  rcases hv with z | z
  · subst z
    rw [if_pos rfl] at h2
    simp (disch := omega) only [forall_eq, true_and, and_true, Nat.zero_add, nI_clamp, li_vin, nI_add, nI_eq, nI_leI, nI_ltI, li_0le, li_lt0, li_nn1, li_e0, not_true_eq_false, not_false_eq_true, false_implies, true_implies, forall_const, li_a0, li_b0, li_a1, li_b1, li_a2, li_b2, li_a3, li_b3, li_a7, li_b7, li_a8, li_b8, li_a16, li_b16, li_a48, li_b48, li_a584, li_b584, li_a572, li_b572, li_a96, li_b96, li_a144, li_b144, li_a192, li_b192, li_a240, li_b240, li_a336, li_b336, li_a384, li_b384, li_a432, li_b432, li_a480, li_b480, li_a488, li_b488, li_a496, li_b496, li_a504, li_b504, li_a512, li_b512, li_a520, li_b520, li_a524, li_b524, li_a528, li_b528, li_a536, li_b536, li_a544, li_b544, li_a552, li_b552, li_a560, li_b560, li_a568, li_b568, li_a573, li_b573, li_a585, li_b585, li_a633, li_b633, li_m3, li_n3, li_m4, li_n4, li_m48, li_n48, li_m50, li_n50, li_m585, li_n585, li_m633, li_n633, li_lt2, li_ge2, li_le2, li_gt2, li_lt1, li_ge1, li_le1, li_gt1, li_lt3, li_ge3, li_le3, li_gt3, li_lt4, li_ge4, li_le4, li_gt4, li_lt7, li_ge7, li_le7, li_gt7, li_lt8, li_ge8, li_le8, li_gt8, li_lt40, li_ge40, li_le40, li_gt40, li_lt240, li_ge240, li_le240, li_gt240, li_lt41, li_ge41, li_le41, li_gt41, li_lt48, li_ge48, li_le48, li_gt48, li_lt49, li_ge49, li_le49, li_gt49, li_lt60, li_ge60, li_le60, li_gt60, li_lt144, li_ge144, li_le144, li_gt144, li_lt145, li_ge145, li_le145, li_gt145, li_lt160, li_ge160, li_le160, li_gt160, li_lt336, li_ge336, li_le336, li_gt336, li_lt585, li_ge585, li_le585, li_gt585, li_lt633, li_ge633, li_le633, li_gt633, li_lt1000000, li_ge1000000, li_le1000000, li_gt1000000, li_lt2304, li_ge2304, li_le2304, li_gt2304, li_lt50, li_ge50, li_le50, li_gt50, li_le0, li_gt0]
    exact br_f (by decide) (h2 _ hp)
  · subst z
    rw [if_neg (by decide)] at h2
    simp (disch := omega) only [forall_eq, true_and, and_true, Nat.zero_add, nI_clamp, li_vin, nI_add, nI_eq, nI_leI, nI_ltI, li_0le, li_lt0, li_nn1, li_e0, not_true_eq_false, not_false_eq_true, false_implies, true_implies, forall_const, li_a0, li_b0, li_a1, li_b1, li_a2, li_b2, li_a3, li_b3, li_a7, li_b7, li_a8, li_b8, li_a16, li_b16, li_a48, li_b48, li_a584, li_b584, li_a572, li_b572, li_a96, li_b96, li_a144, li_b144, li_a192, li_b192, li_a240, li_b240, li_a336, li_b336, li_a384, li_b384, li_a432, li_b432, li_a480, li_b480, li_a488, li_b488, li_a496, li_b496, li_a504, li_b504, li_a512, li_b512, li_a520, li_b520, li_a524, li_b524, li_a528, li_b528, li_a536, li_b536, li_a544, li_b544, li_a552, li_b552, li_a560, li_b560, li_a568, li_b568, li_a573, li_b573, li_a585, li_b585, li_a633, li_b633, li_m3, li_n3, li_m4, li_n4, li_m48, li_n48, li_m50, li_n50, li_m585, li_n585, li_m633, li_n633, li_lt2, li_ge2, li_le2, li_gt2, li_lt1, li_ge1, li_le1, li_gt1, li_lt3, li_ge3, li_le3, li_gt3, li_lt4, li_ge4, li_le4, li_gt4, li_lt7, li_ge7, li_le7, li_gt7, li_lt8, li_ge8, li_le8, li_gt8, li_lt40, li_ge40, li_le40, li_gt40, li_lt240, li_ge240, li_le240, li_gt240, li_lt41, li_ge41, li_le41, li_gt41, li_lt48, li_ge48, li_le48, li_gt48, li_lt49, li_ge49, li_le49, li_gt49, li_lt60, li_ge60, li_le60, li_gt60, li_lt144, li_ge144, li_le144, li_gt144, li_lt145, li_ge145, li_le145, li_gt145, li_lt160, li_ge160, li_le160, li_gt160, li_lt336, li_ge336, li_le336, li_gt336, li_lt585, li_ge585, li_le585, li_gt585, li_lt633, li_ge633, li_le633, li_gt633, li_lt1000000, li_ge1000000, li_le1000000, li_gt1000000, li_lt2304, li_ge2304, li_le2304, li_gt2304, li_lt50, li_ge50, li_le50, li_gt50, li_le0, li_gt0]
    exact br_f (by decide) (br_f (by decide) (h2 _ hp))
theorem yw_dec1 {g_trials g_drafted g_found : Int32} {b_s b_saved b_draft b_who b_met b_stack b_fresh b_deep : Nat → Int32} {b_alike b_meets : Nat → Int64} {B : Nat} {a : Nat → Int32} (hr : re_P B a b_s) (hR : yr_R a b_s b_who b_alike) {t : Nat} (ht : t < 8) (h3 : a (480 + t) = 3) : ∃ s1 : Nat → Int32, (∀ i, i < 633 → s1 i = b_s i) ∧ ∀ post : SY → Prop, wY_decide_56 post (nI t) (dt_v a t) g_trials g_drafted g_found s1 b_saved b_draft b_who b_met b_stack b_fresh b_deep b_alike b_meets → wpY_decide post (g_trials, g_drafted, g_found, b_s, b_saved, b_draft, b_who, b_met, b_stack, b_fresh, b_deep, b_alike, b_meets) (nI t) := by
  have N := hr.2.2.2.2.2
  obtain ⟨t1, t2, t3, t4⟩ := N.2.2.1 t ht
  obtain ⟨⟨q, uq, eq⟩, o⟩ := t4 h3
  have q48 := uq.1
  have c488 : (a (488 + t)).toNatClampNeg = q := by rw [eq, nI_clamp (by omega)]
  have eq' : b_s (528 + t) = nI q := by rw [← t2]; exact eq
  rcases o with o | ⟨y, uy, ey⟩
  · have o' : b_s (536 + t) = -1 := by rw [← t3]; exact o
    refine ⟨b_s, fun _ _ => rfl, fun post hp => ?_⟩
    unfold wpY_decide
    simp (disch := omega) only [forall_eq, true_and, and_true, Nat.zero_add, nI_clamp, li_vin, nI_add, nI_eq, nI_leI, nI_ltI, li_0le, li_lt0, li_nn1, li_e0, not_true_eq_false, not_false_eq_true, false_implies, true_implies, forall_const, li_a0, li_b0, li_a1, li_b1, li_a2, li_b2, li_a3, li_b3, li_a7, li_b7, li_a8, li_b8, li_a16, li_b16, li_a48, li_b48, li_a584, li_b584, li_a572, li_b572, li_a96, li_b96, li_a144, li_b144, li_a192, li_b192, li_a240, li_b240, li_a336, li_b336, li_a384, li_b384, li_a432, li_b432, li_a480, li_b480, li_a488, li_b488, li_a496, li_b496, li_a504, li_b504, li_a512, li_b512, li_a520, li_b520, li_a524, li_b524, li_a528, li_b528, li_a536, li_b536, li_a544, li_b544, li_a552, li_b552, li_a560, li_b560, li_a568, li_b568, li_a573, li_b573, li_a585, li_b585, li_a633, li_b633, li_m3, li_n3, li_m4, li_n4, li_m48, li_n48, li_m50, li_n50, li_m585, li_n585, li_m633, li_n633, li_lt2, li_ge2, li_le2, li_gt2, li_lt1, li_ge1, li_le1, li_gt1, li_lt3, li_ge3, li_le3, li_gt3, li_lt4, li_ge4, li_le4, li_gt4, li_lt7, li_ge7, li_le7, li_gt7, li_lt8, li_ge8, li_le8, li_gt8, li_lt40, li_ge40, li_le40, li_gt40, li_lt240, li_ge240, li_le240, li_gt240, li_lt41, li_ge41, li_le41, li_gt41, li_lt48, li_ge48, li_le48, li_gt48, li_lt49, li_ge49, li_le49, li_gt49, li_lt60, li_ge60, li_le60, li_gt60, li_lt144, li_ge144, li_le144, li_gt144, li_lt145, li_ge145, li_le145, li_gt145, li_lt160, li_ge160, li_le160, li_gt160, li_lt336, li_ge336, li_le336, li_gt336, li_lt585, li_ge585, li_le585, li_gt585, li_lt633, li_ge633, li_le633, li_gt633, li_lt1000000, li_ge1000000, li_le1000000, li_gt1000000, li_lt2304, li_ge2304, li_le2304, li_gt2304, li_lt50, li_ge50, li_le50, li_gt50, li_le0, li_gt0, eq', o']
    refine br_t (by decide) ?_
    unfold dt_v at hp
    rw [if_pos o, c488] at hp
    rcases yr_h hr hR uq with ⟨k0, w⟩ | ⟨k0, i, hi, w⟩
    · rw [w]
      rw [if_pos k0] at hp
      exact br_f (by decide) hp
    · rw [w]
      rw [if_neg k0] at hp
      exact br_t (nI_pos' (by omega)) hp
  · have y48 := uy.1
    have c496 : (a (496 + t)).toNatClampNeg = y := by rw [ey, nI_clamp (by omega)]
    have ny : ¬ a (496 + t) = -1 := fun z => by rw [ey] at z; exact (li_nn1 (by omega)).mp z
    have ey' : b_s (536 + t) = nI y := by rw [← t3]; exact ey
    obtain ⟨s1, h1, h2⟩ := yw_judge (g_trials := g_trials) (g_drafted := g_drafted) (g_found := g_found) (b_s := b_s) (b_saved := b_saved) (b_draft := b_draft) (b_who := b_who) (b_met := b_met) (b_stack := b_stack) (b_fresh := b_fresh) (b_deep := b_deep) (b_alike := b_alike) (b_meets := b_meets) hr hR uq uy
    refine ⟨s1, h1, fun post hp => ?_⟩
    unfold wpY_decide
    simp (disch := omega) only [forall_eq, true_and, and_true, Nat.zero_add, nI_clamp, li_vin, nI_add, nI_eq, nI_leI, nI_ltI, li_0le, li_lt0, li_nn1, li_e0, not_true_eq_false, not_false_eq_true, false_implies, true_implies, forall_const, li_a0, li_b0, li_a1, li_b1, li_a2, li_b2, li_a3, li_b3, li_a7, li_b7, li_a8, li_b8, li_a16, li_b16, li_a48, li_b48, li_a584, li_b584, li_a572, li_b572, li_a96, li_b96, li_a144, li_b144, li_a192, li_b192, li_a240, li_b240, li_a336, li_b336, li_a384, li_b384, li_a432, li_b432, li_a480, li_b480, li_a488, li_b488, li_a496, li_b496, li_a504, li_b504, li_a512, li_b512, li_a520, li_b520, li_a524, li_b524, li_a528, li_b528, li_a536, li_b536, li_a544, li_b544, li_a552, li_b552, li_a560, li_b560, li_a568, li_b568, li_a573, li_b573, li_a585, li_b585, li_a633, li_b633, li_m3, li_n3, li_m4, li_n4, li_m48, li_n48, li_m50, li_n50, li_m585, li_n585, li_m633, li_n633, li_lt2, li_ge2, li_le2, li_gt2, li_lt1, li_ge1, li_le1, li_gt1, li_lt3, li_ge3, li_le3, li_gt3, li_lt4, li_ge4, li_le4, li_gt4, li_lt7, li_ge7, li_le7, li_gt7, li_lt8, li_ge8, li_le8, li_gt8, li_lt40, li_ge40, li_le40, li_gt40, li_lt240, li_ge240, li_le240, li_gt240, li_lt41, li_ge41, li_le41, li_gt41, li_lt48, li_ge48, li_le48, li_gt48, li_lt49, li_ge49, li_le49, li_gt49, li_lt60, li_ge60, li_le60, li_gt60, li_lt144, li_ge144, li_le144, li_gt144, li_lt145, li_ge145, li_le145, li_gt145, li_lt160, li_ge160, li_le160, li_gt160, li_lt336, li_ge336, li_le336, li_gt336, li_lt585, li_ge585, li_le585, li_gt585, li_lt633, li_ge633, li_le633, li_gt633, li_lt1000000, li_ge1000000, li_le1000000, li_gt1000000, li_lt2304, li_ge2304, li_le2304, li_gt2304, li_lt50, li_ge50, li_le50, li_gt50, li_le0, li_gt0, eq', ey']
    unfold dt_v at hp
    rw [if_neg ny, c488, c496] at hp
    exact h2 _ hp
theorem yw_56 {g_trials g_drafted g_found : Int32} {b_s b_saved b_draft b_who b_met b_stack b_fresh b_deep : Nat → Int32} {b_alike b_meets : Nat → Int64} {t n : Nat} {v : Int32} (ht : t < 8) (hn : n < 1000000) (e : b_s 572 = nI n) (hv : v = 1 ∨ v = 2) : ∃ s' : Nat → Int32, nt_Y (upd b_s (544 + t) v) s' (if v = 1 then nI t else nI (8 + t)) ∧ ∀ post : SY → Prop, post (g_trials, g_drafted, g_found, s', b_saved, b_draft, b_who, b_met, b_stack, b_fresh, b_deep, b_alike, b_meets) → wY_decide_56 post (nI t) v g_trials g_drafted g_found b_s b_saved b_draft b_who b_met b_stack b_fresh b_deep b_alike b_meets := by
  have e' : upd b_s (544 + t) v 572 = nI n := by rw [pk_un (by omega)]; exact e
  obtain ⟨s', h1, h2⟩ := yw_note (g_trials := g_trials) (g_drafted := g_drafted) (g_found := g_found) (b_s := upd b_s (544 + t) v) (b_saved := b_saved) (b_draft := b_draft) (b_who := b_who) (b_met := b_met) (b_stack := b_stack) (b_fresh := b_fresh) (b_deep := b_deep) (b_alike := b_alike) (b_meets := b_meets) (w := if v = 1 then nI t else nI (8 + t)) hn e'
  refine ⟨s', h1, fun post hp => ?_⟩
  unfold wY_decide_56 wY_decide_88
  rcases hv with z | z
  · subst z
    rw [if_pos rfl] at h2
    simp (disch := omega) only [forall_eq, true_and, and_true, Nat.zero_add, nI_clamp, li_vin, nI_add, nI_eq, nI_leI, nI_ltI, li_0le, li_lt0, li_nn1, li_e0, not_true_eq_false, not_false_eq_true, false_implies, true_implies, forall_const, li_a0, li_b0, li_a1, li_b1, li_a2, li_b2, li_a3, li_b3, li_a7, li_b7, li_a8, li_b8, li_a16, li_b16, li_a48, li_b48, li_a584, li_b584, li_a572, li_b572, li_a96, li_b96, li_a144, li_b144, li_a192, li_b192, li_a240, li_b240, li_a336, li_b336, li_a384, li_b384, li_a432, li_b432, li_a480, li_b480, li_a488, li_b488, li_a496, li_b496, li_a504, li_b504, li_a512, li_b512, li_a520, li_b520, li_a524, li_b524, li_a528, li_b528, li_a536, li_b536, li_a544, li_b544, li_a552, li_b552, li_a560, li_b560, li_a568, li_b568, li_a573, li_b573, li_a585, li_b585, li_a633, li_b633, li_m3, li_n3, li_m4, li_n4, li_m48, li_n48, li_m50, li_n50, li_m585, li_n585, li_m633, li_n633, li_lt2, li_ge2, li_le2, li_gt2, li_lt1, li_ge1, li_le1, li_gt1, li_lt3, li_ge3, li_le3, li_gt3, li_lt4, li_ge4, li_le4, li_gt4, li_lt7, li_ge7, li_le7, li_gt7, li_lt8, li_ge8, li_le8, li_gt8, li_lt40, li_ge40, li_le40, li_gt40, li_lt240, li_ge240, li_le240, li_gt240, li_lt41, li_ge41, li_le41, li_gt41, li_lt48, li_ge48, li_le48, li_gt48, li_lt49, li_ge49, li_le49, li_gt49, li_lt60, li_ge60, li_le60, li_gt60, li_lt144, li_ge144, li_le144, li_gt144, li_lt145, li_ge145, li_le145, li_gt145, li_lt160, li_ge160, li_le160, li_gt160, li_lt336, li_ge336, li_le336, li_gt336, li_lt585, li_ge585, li_le585, li_gt585, li_lt633, li_ge633, li_le633, li_gt633, li_lt1000000, li_ge1000000, li_le1000000, li_gt1000000, li_lt2304, li_ge2304, li_le2304, li_gt2304, li_lt50, li_ge50, li_le50, li_gt50, li_le0, li_gt0]
    exact br_f (by decide) (h2 _ hp)
  · subst z
    rw [if_neg (by decide)] at h2
    simp (disch := omega) only [forall_eq, true_and, and_true, Nat.zero_add, nI_clamp, li_vin, nI_add, nI_eq, nI_leI, nI_ltI, li_0le, li_lt0, li_nn1, li_e0, not_true_eq_false, not_false_eq_true, false_implies, true_implies, forall_const, li_a0, li_b0, li_a1, li_b1, li_a2, li_b2, li_a3, li_b3, li_a7, li_b7, li_a8, li_b8, li_a16, li_b16, li_a48, li_b48, li_a584, li_b584, li_a572, li_b572, li_a96, li_b96, li_a144, li_b144, li_a192, li_b192, li_a240, li_b240, li_a336, li_b336, li_a384, li_b384, li_a432, li_b432, li_a480, li_b480, li_a488, li_b488, li_a496, li_b496, li_a504, li_b504, li_a512, li_b512, li_a520, li_b520, li_a524, li_b524, li_a528, li_b528, li_a536, li_b536, li_a544, li_b544, li_a552, li_b552, li_a560, li_b560, li_a568, li_b568, li_a573, li_b573, li_a585, li_b585, li_a633, li_b633, li_m3, li_n3, li_m4, li_n4, li_m48, li_n48, li_m50, li_n50, li_m585, li_n585, li_m633, li_n633, li_lt2, li_ge2, li_le2, li_gt2, li_lt1, li_ge1, li_le1, li_gt1, li_lt3, li_ge3, li_le3, li_gt3, li_lt4, li_ge4, li_le4, li_gt4, li_lt7, li_ge7, li_le7, li_gt7, li_lt8, li_ge8, li_le8, li_gt8, li_lt40, li_ge40, li_le40, li_gt40, li_lt240, li_ge240, li_le240, li_gt240, li_lt41, li_ge41, li_le41, li_gt41, li_lt48, li_ge48, li_le48, li_gt48, li_lt49, li_ge49, li_le49, li_gt49, li_lt60, li_ge60, li_le60, li_gt60, li_lt144, li_ge144, li_le144, li_gt144, li_lt145, li_ge145, li_le145, li_gt145, li_lt160, li_ge160, li_le160, li_gt160, li_lt336, li_ge336, li_le336, li_gt336, li_lt585, li_ge585, li_le585, li_gt585, li_lt633, li_ge633, li_le633, li_gt633, li_lt1000000, li_ge1000000, li_le1000000, li_gt1000000, li_lt2304, li_ge2304, li_le2304, li_gt2304, li_lt50, li_ge50, li_le50, li_gt50, li_le0, li_gt0]
    exact br_f (by decide) (br_f (by decide) (h2 _ hp))
theorem nt_lowX {a a' : Nat → Int32} {w : Int32} (h : nt_X a a' w) : ∀ i, i < 524 → a' i = a i := by
  obtain ⟨n, _, _, _, _, h5⟩ := h
  exact fun i hi => h5 i (by omega) (Or.inl (by omega))
theorem nt_lowY {s s' : Nat → Int32} {w : Int32} (h : nt_Y s s' w) : ∀ i, i < 572 → s' i = s i := by
  obtain ⟨n, _, _, _, _, h5⟩ := h
  exact fun i hi => h5 i (by omega) (Or.inl (by omega))
theorem st_tests {f_trials f_drafted f_pairs f_metCount f_meetingCount : Int32} {a_held a_saved a_draft a_toldBefore a_pairX a_pairY a_stack a_met a_metAs a_copies a_meetings a_wasMeeting a_firstMet a_depths a_isKept : Nat → Int32} {g_trials g_drafted g_found : Int32} {b_s b_saved b_draft b_who b_met b_stack b_fresh b_deep : Nat → Int32} {b_alike b_meets : Nat → Int64} : ∀ d t B (f_pairs : Int32) (a_held a_toldBefore a_pairX a_pairY b_s : Nat → Int32), t + d = 8 → B + d < 1000000 → re_P B a_held b_s → yr_R a_held b_s b_who b_alike → (∀ j, j < t → a_held (480 + j) = 3 → dt_v a_held j = 3) → ∃ (m' : Int32) (a' tb px py s' : Nat → Int32), re_P (B + d) a' s' ∧ yr_R a' s' b_who b_alike ∧ (∀ j, j < 8 → a' (480 + j) = 3 → dt_v a' j = 3) ∧ (∀ i, 504 ≤ i → i < 520 → a' i = a_held i) ∧ (∀ post : SX → Prop, post (f_trials, f_drafted, m', f_metCount, f_meetingCount, a', a_saved, a_draft, tb, px, py, a_stack, a_met, a_metAs, a_copies, a_meetings, a_wasMeeting, a_firstMet, a_depths, a_isKept) → wX_decideTests_2 post (d + 1) (nI t) f_trials f_drafted f_pairs f_metCount f_meetingCount a_held a_saved a_draft a_toldBefore a_pairX a_pairY a_stack a_met a_metAs a_copies a_meetings a_wasMeeting a_firstMet a_depths a_isKept) ∧ (∀ (post : SY → Prop) (J51 : Int32 → Int32 → Int32 → Int32 → (Nat → Int32) → (Nat → Int32) → (Nat → Int32) → (Nat → Int32) → (Nat → Int32) → (Nat → Int32) → (Nat → Int32) → (Nat → Int32) → (Nat → Int64) → (Nat → Int64) → Prop), wY_settle_61 post J51 1 (nI 8) g_trials g_drafted g_found s' b_saved b_draft b_who b_met b_stack b_fresh b_deep b_alike b_meets → wY_settle_61 post J51 (d + 1) (nI t) g_trials g_drafted g_found b_s b_saved b_draft b_who b_met b_stack b_fresh b_deep b_alike b_meets) := by
  intro d
  induction d with
  | zero =>
    intro t B fp a tb px py s ht hB hr hR hd
    have e : t = 8 := by omega
    refine ⟨fp, a, tb, px, py, s, hr, hR, fun j hj => hd j (by omega), fun _ _ _ => rfl, fun post hp => ?_, fun post J51 hp => ?_⟩
    · unfold wX_decideTests_2
      simp (disch := omega) only [forall_eq, true_and, and_true, Nat.zero_add, nI_clamp, li_vin, nI_add, nI_eq, nI_leI, nI_ltI, li_0le, li_lt0, li_nn1, li_e0, not_true_eq_false, not_false_eq_true, false_implies, true_implies, forall_const, li_a0, li_b0, li_a1, li_b1, li_a2, li_b2, li_a3, li_b3, li_a7, li_b7, li_a8, li_b8, li_a16, li_b16, li_a48, li_b48, li_a584, li_b584, li_a572, li_b572, li_a96, li_b96, li_a144, li_b144, li_a192, li_b192, li_a240, li_b240, li_a336, li_b336, li_a384, li_b384, li_a432, li_b432, li_a480, li_b480, li_a488, li_b488, li_a496, li_b496, li_a504, li_b504, li_a512, li_b512, li_a520, li_b520, li_a524, li_b524, li_a528, li_b528, li_a536, li_b536, li_a544, li_b544, li_a552, li_b552, li_a560, li_b560, li_a568, li_b568, li_a573, li_b573, li_a585, li_b585, li_a633, li_b633, li_m3, li_n3, li_m4, li_n4, li_m48, li_n48, li_m50, li_n50, li_m585, li_n585, li_m633, li_n633, li_lt2, li_ge2, li_le2, li_gt2, li_lt1, li_ge1, li_le1, li_gt1, li_lt3, li_ge3, li_le3, li_gt3, li_lt4, li_ge4, li_le4, li_gt4, li_lt7, li_ge7, li_le7, li_gt7, li_lt8, li_ge8, li_le8, li_gt8, li_lt40, li_ge40, li_le40, li_gt40, li_lt240, li_ge240, li_le240, li_gt240, li_lt41, li_ge41, li_le41, li_gt41, li_lt48, li_ge48, li_le48, li_gt48, li_lt49, li_ge49, li_le49, li_gt49, li_lt60, li_ge60, li_le60, li_gt60, li_lt144, li_ge144, li_le144, li_gt144, li_lt145, li_ge145, li_le145, li_gt145, li_lt160, li_ge160, li_le160, li_gt160, li_lt336, li_ge336, li_le336, li_gt336, li_lt585, li_ge585, li_le585, li_gt585, li_lt633, li_ge633, li_le633, li_gt633, li_lt1000000, li_ge1000000, li_le1000000, li_gt1000000, li_lt2304, li_ge2304, li_le2304, li_gt2304, li_lt50, li_ge50, li_le50, li_gt50, li_le0, li_gt0]
      exact ⟨fun _ => hp, fun q => by omega⟩
    · rw [e]; exact hp
  | succ d ih =>
    intro t B fp a tb px py s ht hB hr hR hd
    have N := hr.2.2.2.2.2
    obtain ⟨t1, t2, t3, t4⟩ := N.2.2.1 t (by omega)
    by_cases w : a (480 + t) = 3
    · have w' : s (544 + t) = 3 := by rw [← t1]; exact w
      obtain ⟨⟨q, uq, eq⟩, o⟩ := t4 w
      obtain ⟨m1, tb1, px1, py1, hX⟩ := xw_dec1 (f_trials := f_trials) (f_drafted := f_drafted) (f_pairs := fp) (f_metCount := f_metCount) (f_meetingCount := f_meetingCount) (a_held := a) (a_saved := a_saved) (a_draft := a_draft) (a_toldBefore := tb) (a_pairX := px) (a_pairY := py) (a_stack := a_stack) (a_met := a_met) (a_metAs := a_metAs) (a_copies := a_copies) (a_meetings := a_meetings) (a_wasMeeting := a_wasMeeting) (a_firstMet := a_firstMet) (a_depths := a_depths) (a_isKept := a_isKept) (re_G hr) (by omega) w uq eq o
      obtain ⟨s1, z1, hY⟩ := yw_dec1 (g_trials := g_trials) (g_drafted := g_drafted) (g_found := g_found) (b_s := s) (b_saved := b_saved) (b_draft := b_draft) (b_who := b_who) (b_met := b_met) (b_stack := b_stack) (b_fresh := b_fresh) (b_deep := b_deep) (b_alike := b_alike) (b_meets := b_meets) hr hR (by omega) w
      have hr1 : re_P B a s1 := re_P_congr (fun _ _ => rfl) z1 hr
      have hR1 : yr_R a s1 b_who b_alike := yr_congr (fun _ _ => rfl) (fun i hi => z1 i (by omega)) hR
      by_cases v3 : dt_v a t = 3
      · obtain ⟨m', a', tb', px', py', s', b1, b2, b3, b4, b5, b6⟩ := ih (t + 1) B m1 a tb1 px1 py1 s1 (by omega) (by omega) hr1 hR1 (lt_s hd (fun _ => v3))
        refine ⟨m', a', tb', px', py', s', re_P_mono (by omega) b1, b2, b3, b4, fun post hp => ?_, fun post J51 hp => ?_⟩
        · refine hX post _ ?_
          rw [v3]
          unfold wX_decideTests_77
          exact br_t rfl (nm_r (nI_1 t) (b5 post hp))
        · rw [wY_settle_61]
          dsimp only
          simp (disch := omega) only [forall_eq, true_and, and_true, Nat.zero_add, nI_clamp, li_vin, nI_add, nI_eq, nI_leI, nI_ltI, li_0le, li_lt0, li_nn1, li_e0, not_true_eq_false, not_false_eq_true, false_implies, true_implies, forall_const, li_a0, li_b0, li_a1, li_b1, li_a2, li_b2, li_a3, li_b3, li_a7, li_b7, li_a8, li_b8, li_a16, li_b16, li_a48, li_b48, li_a584, li_b584, li_a572, li_b572, li_a96, li_b96, li_a144, li_b144, li_a192, li_b192, li_a240, li_b240, li_a336, li_b336, li_a384, li_b384, li_a432, li_b432, li_a480, li_b480, li_a488, li_b488, li_a496, li_b496, li_a504, li_b504, li_a512, li_b512, li_a520, li_b520, li_a524, li_b524, li_a528, li_b528, li_a536, li_b536, li_a544, li_b544, li_a552, li_b552, li_a560, li_b560, li_a568, li_b568, li_a573, li_b573, li_a585, li_b585, li_a633, li_b633, li_m3, li_n3, li_m4, li_n4, li_m48, li_n48, li_m50, li_n50, li_m585, li_n585, li_m633, li_n633, li_lt2, li_ge2, li_le2, li_gt2, li_lt1, li_ge1, li_le1, li_gt1, li_lt3, li_ge3, li_le3, li_gt3, li_lt4, li_ge4, li_le4, li_gt4, li_lt7, li_ge7, li_le7, li_gt7, li_lt8, li_ge8, li_le8, li_gt8, li_lt40, li_ge40, li_le40, li_gt40, li_lt240, li_ge240, li_le240, li_gt240, li_lt41, li_ge41, li_le41, li_gt41, li_lt48, li_ge48, li_le48, li_gt48, li_lt49, li_ge49, li_le49, li_gt49, li_lt60, li_ge60, li_le60, li_gt60, li_lt144, li_ge144, li_le144, li_gt144, li_lt145, li_ge145, li_le145, li_gt145, li_lt160, li_ge160, li_le160, li_gt160, li_lt336, li_ge336, li_le336, li_gt336, li_lt585, li_ge585, li_le585, li_gt585, li_lt633, li_ge633, li_le633, li_gt633, li_lt1000000, li_ge1000000, li_le1000000, li_gt1000000, li_lt2304, li_ge2304, li_le2304, li_gt2304, li_lt50, li_ge50, li_le50, li_gt50, li_le0, li_gt0, w']
          refine ⟨fun q => by omega, fun _ => hY _ ?_⟩
          rw [v3]
          unfold wY_decide_56
          exact br_t rfl (b6 post J51 hp)
      · have v12 : dt_v a t = 1 ∨ dt_v a t = 2 := by
          rcases dt_cases (a := a) (t := t) with z | z | z
          · exact Or.inl z
          · exact Or.inr z
          · exact absurd z v3
        obtain ⟨n, n1, n2, n3⟩ := N.2.2.2.2.2.1
        obtain ⟨a2, x1, x2⟩ := xw_77 (f_trials := f_trials) (f_drafted := f_drafted) (f_pairs := m1) (f_metCount := f_metCount) (f_meetingCount := f_meetingCount) (a_held := a) (a_saved := a_saved) (a_draft := a_draft) (a_toldBefore := tb1) (a_pairX := px1) (a_pairY := py1) (a_stack := a_stack) (a_met := a_met) (a_metAs := a_metAs) (a_copies := a_copies) (a_meetings := a_meetings) (a_wasMeeting := a_wasMeeting) (a_firstMet := a_firstMet) (a_depths := a_depths) (a_isKept := a_isKept) (t := t) (n := n) (by omega) (by omega) n2 v12
        obtain ⟨s2, y1, y2⟩ := yw_56 (g_trials := g_trials) (g_drafted := g_drafted) (g_found := g_found) (b_s := s1) (b_saved := b_saved) (b_draft := b_draft) (b_who := b_who) (b_met := b_met) (b_stack := b_stack) (b_fresh := b_fresh) (b_deep := b_deep) (b_alike := b_alike) (b_meets := b_meets) (t := t) (n := n) (by omega) (by omega) (by rw [z1 _ (by omega)]; exact n3) v12
        have N2 : re_N (B + 1) a2 s2 := nt_N (by omega) (dt_N (by omega) hr1.2.2.2.2.2 v3 ⟨pk_us, fun i hi => pk_un hi⟩ ⟨pk_us, fun i hi => pk_un hi⟩) x1 y1
        have lowa : ∀ i, i < 480 → a2 i = a i := fun i hi => by rw [nt_lowX x1 i (by omega), pk_un (by omega)]
        have lows : ∀ i, i < 528 → s2 i = s1 i := fun i hi => by rw [nt_lowY y1 i (by omega), pk_un (by omega)]
        have hr2 : re_P (B + 1) a2 s2 := re_P_N hr1 (fun i hi => lowa i (by omega)) (fun i hi => lows i (by omega)) N2
        have hR2 : yr_R a2 s2 b_who b_alike := yr_congr (fun i hi => lowa i (by omega)) (fun i hi => lows i (by omega)) hR1
        have mid : ∀ i, 488 ≤ i → i < 520 → a2 i = a i := fun i h1 h2 => by rw [nt_lowX x1 i (by omega), pk_un (by omega)]
        have hd2 : ∀ j, j < t + 1 → a2 (480 + j) = 3 → dt_v a2 j = 3 := by
          intro j hj h
          by_cases z : j = t
          · rw [z, nt_lowX x1 _ (by omega), pk_us] at h
            exact absurd h v3
          · rw [nt_lowX x1 _ (by omega), pk_un (by omega)] at h
            rw [dt_congr (fun i hi => lowa i (by omega)) (mid _ (by omega) (by omega)) (mid _ (by omega) (by omega))]
            exact hd j (by omega) h
        obtain ⟨m', a', tb', px', py', s', b1, b2, b3, b4, b5, b6⟩ := ih (t + 1) (B + 1) m1 a2 tb1 px1 py1 s2 (by omega) (by omega) hr2 hR2 hd2
        refine ⟨m', a', tb', px', py', s', re_P_mono (by omega) b1, b2, b3, fun i h1 h2 => by rw [b4 i h1 h2]; exact mid i (by omega) h2, fun post hp => ?_, fun post J51 hp => ?_⟩
        · exact hX post _ (x2 post _ (b5 post hp))
        · rw [wY_settle_61]
          dsimp only
          simp (disch := omega) only [forall_eq, true_and, and_true, Nat.zero_add, nI_clamp, li_vin, nI_add, nI_eq, nI_leI, nI_ltI, li_0le, li_lt0, li_nn1, li_e0, not_true_eq_false, not_false_eq_true, false_implies, true_implies, forall_const, li_a0, li_b0, li_a1, li_b1, li_a2, li_b2, li_a3, li_b3, li_a7, li_b7, li_a8, li_b8, li_a16, li_b16, li_a48, li_b48, li_a584, li_b584, li_a572, li_b572, li_a96, li_b96, li_a144, li_b144, li_a192, li_b192, li_a240, li_b240, li_a336, li_b336, li_a384, li_b384, li_a432, li_b432, li_a480, li_b480, li_a488, li_b488, li_a496, li_b496, li_a504, li_b504, li_a512, li_b512, li_a520, li_b520, li_a524, li_b524, li_a528, li_b528, li_a536, li_b536, li_a544, li_b544, li_a552, li_b552, li_a560, li_b560, li_a568, li_b568, li_a573, li_b573, li_a585, li_b585, li_a633, li_b633, li_m3, li_n3, li_m4, li_n4, li_m48, li_n48, li_m50, li_n50, li_m585, li_n585, li_m633, li_n633, li_lt2, li_ge2, li_le2, li_gt2, li_lt1, li_ge1, li_le1, li_gt1, li_lt3, li_ge3, li_le3, li_gt3, li_lt4, li_ge4, li_le4, li_gt4, li_lt7, li_ge7, li_le7, li_gt7, li_lt8, li_ge8, li_le8, li_gt8, li_lt40, li_ge40, li_le40, li_gt40, li_lt240, li_ge240, li_le240, li_gt240, li_lt41, li_ge41, li_le41, li_gt41, li_lt48, li_ge48, li_le48, li_gt48, li_lt49, li_ge49, li_le49, li_gt49, li_lt60, li_ge60, li_le60, li_gt60, li_lt144, li_ge144, li_le144, li_gt144, li_lt145, li_ge145, li_le145, li_gt145, li_lt160, li_ge160, li_le160, li_gt160, li_lt336, li_ge336, li_le336, li_gt336, li_lt585, li_ge585, li_le585, li_gt585, li_lt633, li_ge633, li_le633, li_gt633, li_lt1000000, li_ge1000000, li_le1000000, li_gt1000000, li_lt2304, li_ge2304, li_le2304, li_gt2304, li_lt50, li_ge50, li_le50, li_gt50, li_le0, li_gt0, w']
          exact ⟨fun q => by omega, fun _ => hY _ (y2 _ (b6 post J51 hp))⟩
    · have w' : ¬ s (544 + t) = 3 := by rw [← t1]; exact w
      obtain ⟨m', a', tb', px', py', s', b1, b2, b3, b4, b5, b6⟩ := ih (t + 1) B fp a tb px py s (by omega) (by omega) hr hR (lt_s hd (fun z => absurd z w))
      refine ⟨m', a', tb', px', py', s', re_P_mono (by omega) b1, b2, b3, b4, fun post hp => ?_, fun post J51 hp => ?_⟩
      · rw [wX_decideTests_2]
        dsimp only
        simp (disch := omega) only [forall_eq, true_and, and_true, Nat.zero_add, nI_clamp, li_vin, nI_add, nI_eq, nI_leI, nI_ltI, li_0le, li_lt0, li_nn1, li_e0, not_true_eq_false, not_false_eq_true, false_implies, true_implies, forall_const, li_a0, li_b0, li_a1, li_b1, li_a2, li_b2, li_a3, li_b3, li_a7, li_b7, li_a8, li_b8, li_a16, li_b16, li_a48, li_b48, li_a584, li_b584, li_a572, li_b572, li_a96, li_b96, li_a144, li_b144, li_a192, li_b192, li_a240, li_b240, li_a336, li_b336, li_a384, li_b384, li_a432, li_b432, li_a480, li_b480, li_a488, li_b488, li_a496, li_b496, li_a504, li_b504, li_a512, li_b512, li_a520, li_b520, li_a524, li_b524, li_a528, li_b528, li_a536, li_b536, li_a544, li_b544, li_a552, li_b552, li_a560, li_b560, li_a568, li_b568, li_a573, li_b573, li_a585, li_b585, li_a633, li_b633, li_m3, li_n3, li_m4, li_n4, li_m48, li_n48, li_m50, li_n50, li_m585, li_n585, li_m633, li_n633, li_lt2, li_ge2, li_le2, li_gt2, li_lt1, li_ge1, li_le1, li_gt1, li_lt3, li_ge3, li_le3, li_gt3, li_lt4, li_ge4, li_le4, li_gt4, li_lt7, li_ge7, li_le7, li_gt7, li_lt8, li_ge8, li_le8, li_gt8, li_lt40, li_ge40, li_le40, li_gt40, li_lt240, li_ge240, li_le240, li_gt240, li_lt41, li_ge41, li_le41, li_gt41, li_lt48, li_ge48, li_le48, li_gt48, li_lt49, li_ge49, li_le49, li_gt49, li_lt60, li_ge60, li_le60, li_gt60, li_lt144, li_ge144, li_le144, li_gt144, li_lt145, li_ge145, li_le145, li_gt145, li_lt160, li_ge160, li_le160, li_gt160, li_lt336, li_ge336, li_le336, li_gt336, li_lt585, li_ge585, li_le585, li_gt585, li_lt633, li_ge633, li_le633, li_gt633, li_lt1000000, li_ge1000000, li_le1000000, li_gt1000000, li_lt2304, li_ge2304, li_le2304, li_gt2304, li_lt50, li_ge50, li_le50, li_gt50, li_le0, li_gt0]
        exact ⟨fun q => by omega, fun _ => br_f w (b5 post hp)⟩
      · rw [wY_settle_61]
        dsimp only
        simp (disch := omega) only [forall_eq, true_and, and_true, Nat.zero_add, nI_clamp, li_vin, nI_add, nI_eq, nI_leI, nI_ltI, li_0le, li_lt0, li_nn1, li_e0, not_true_eq_false, not_false_eq_true, false_implies, true_implies, forall_const, li_a0, li_b0, li_a1, li_b1, li_a2, li_b2, li_a3, li_b3, li_a7, li_b7, li_a8, li_b8, li_a16, li_b16, li_a48, li_b48, li_a584, li_b584, li_a572, li_b572, li_a96, li_b96, li_a144, li_b144, li_a192, li_b192, li_a240, li_b240, li_a336, li_b336, li_a384, li_b384, li_a432, li_b432, li_a480, li_b480, li_a488, li_b488, li_a496, li_b496, li_a504, li_b504, li_a512, li_b512, li_a520, li_b520, li_a524, li_b524, li_a528, li_b528, li_a536, li_b536, li_a544, li_b544, li_a552, li_b552, li_a560, li_b560, li_a568, li_b568, li_a573, li_b573, li_a585, li_b585, li_a633, li_b633, li_m3, li_n3, li_m4, li_n4, li_m48, li_n48, li_m50, li_n50, li_m585, li_n585, li_m633, li_n633, li_lt2, li_ge2, li_le2, li_gt2, li_lt1, li_ge1, li_le1, li_gt1, li_lt3, li_ge3, li_le3, li_gt3, li_lt4, li_ge4, li_le4, li_gt4, li_lt7, li_ge7, li_le7, li_gt7, li_lt8, li_ge8, li_le8, li_gt8, li_lt40, li_ge40, li_le40, li_gt40, li_lt240, li_ge240, li_le240, li_gt240, li_lt41, li_ge41, li_le41, li_gt41, li_lt48, li_ge48, li_le48, li_gt48, li_lt49, li_ge49, li_le49, li_gt49, li_lt60, li_ge60, li_le60, li_gt60, li_lt144, li_ge144, li_le144, li_gt144, li_lt145, li_ge145, li_le145, li_gt145, li_lt160, li_ge160, li_le160, li_gt160, li_lt336, li_ge336, li_le336, li_gt336, li_lt585, li_ge585, li_le585, li_gt585, li_lt633, li_ge633, li_le633, li_gt633, li_lt1000000, li_ge1000000, li_le1000000, li_gt1000000, li_lt2304, li_ge2304, li_le2304, li_gt2304, li_lt50, li_ge50, li_le50, li_gt50, li_le0, li_gt0]
        exact ⟨fun q => by omega, fun _ => br_f w' (b6 post J51 hp)⟩
end
section
def tc_8 (a : Nat → Int32) : Nat := ma_cnt (fun k => decide (¬ a (504 + k) = -1)) 8
theorem tc_le (a : Nat → Int32) : tc_8 a ≤ 8 := ma_cnt_le _ _
theorem tc_lt {a a' : Nat → Int32} {k x : Nat} (hk : k < 8) (hx : x < 48) (e : a (504 + k) = nI x) (e' : a' (504 + k) = -1) (o : ∀ j, j < 8 → j ≠ k → a' (504 + j) = a (504 + j)) : tc_8 a' < tc_8 a := by
  refine ma_cnt_lt 8 ?_ ⟨k, hk, ?_, ?_⟩
  · intro j hj h
    have h1 : ¬ a' (504 + j) = -1 := of_decide_eq_true h
    by_cases q : j = k
    · rw [q] at h1; exact absurd e' h1
    · rw [o j hj q] at h1; exact decide_eq_true h1
  · refine decide_eq_true (fun z => ?_)
    rw [e] at z
    exact (li_nn1 (by omega)).mp z
  · intro h
    have h1 : ¬ a' (504 + k) = -1 := of_decide_eq_true h
    exact h1 e'
/-- a round of settling -/
theorem st_round {f_trials f_drafted f_pairs f_metCount f_meetingCount : Int32} {a_held a_saved a_draft a_toldBefore a_pairX a_pairY a_stack a_met a_metAs a_copies a_meetings a_wasMeeting a_firstMet a_depths a_isKept : Nat → Int32} {g_trials g_drafted g_found : Int32} {b_s b_saved b_draft b_who b_met b_stack b_fresh b_deep : Nat → Int32} {b_alike b_meets : Nat → Int64} {B rd : Nat} (hB : B + 9 < 1000000) (hrd : rd ≤ 8) (hr : re_P B a_held b_s) :
    (∃ (m' : Int32) (a' tb px py s' wh : Nat → Int32) (al : Nat → Int64), re_C (B + 8) a' s' ∧ (∀ (post : SX → Prop) (n : Nat), post (f_trials, f_drafted, m', f_metCount, f_meetingCount, a', a_saved, a_draft, tb, px, py, a_stack, a_met, a_metAs, a_copies, a_meetings, a_wasMeeting, a_firstMet, a_depths, a_isKept) → wX_settle_2 post (n + 1) (nI rd) f_trials f_drafted f_pairs f_metCount f_meetingCount a_held a_saved a_draft a_toldBefore a_pairX a_pairY a_stack a_met a_metAs a_copies a_meetings a_wasMeeting a_firstMet a_depths a_isKept) ∧ (∀ (post : SY → Prop) (n : Nat), post (g_trials, g_drafted, g_found, s', b_saved, b_draft, wh, b_met, b_stack, b_fresh, b_deep, al, b_meets) → wY_settle_51 post (n + 1) 1 g_trials g_drafted g_found b_s b_saved b_draft b_who b_met b_stack b_fresh b_deep b_alike b_meets)) ∨
    (∃ (m' : Int32) (a' tb px py s' wh : Nat → Int32) (al : Nat → Int64), re_P (B + 9) a' s' ∧ tc_8 a' < tc_8 a_held ∧ (∀ (post : SX → Prop) (n : Nat), wX_settle_2 post n (nI (rd + 1)) f_trials f_drafted m' f_metCount f_meetingCount a' a_saved a_draft tb px py a_stack a_met a_metAs a_copies a_meetings a_wasMeeting a_firstMet a_depths a_isKept → wX_settle_2 post (n + 1) (nI rd) f_trials f_drafted f_pairs f_metCount f_meetingCount a_held a_saved a_draft a_toldBefore a_pairX a_pairY a_stack a_met a_metAs a_copies a_meetings a_wasMeeting a_firstMet a_depths a_isKept) ∧ (∀ (post : SY → Prop) (n : Nat), wY_settle_51 post n 1 g_trials g_drafted g_found s' b_saved b_draft wh b_met b_stack b_fresh b_deep al b_meets → wY_settle_51 post (n + 1) 1 g_trials g_drafted g_found b_s b_saved b_draft b_who b_met b_stack b_fresh b_deep b_alike b_meets)) := by
  have nlt : ¬ (8 : Int32) < nI rd := fun q => by have := (li_gt8 (by omega)).mp q; omega
  obtain ⟨wh, al, hR, rY⟩ := yw_relate (g_trials := g_trials) (g_drafted := g_drafted) (g_found := g_found) (b_s := b_s) (b_saved := b_saved) (b_draft := b_draft) (b_who := b_who) (b_met := b_met) (b_stack := b_stack) (b_fresh := b_fresh) (b_deep := b_deep) (b_alike := b_alike) (b_meets := b_meets) hr
  obtain ⟨m1, a1, tb1, px1, py1, s1, b1, b2, b3, b4, b5, b6⟩ := st_tests (f_trials := f_trials) (f_drafted := f_drafted) (f_pairs := f_pairs) (f_metCount := f_metCount) (f_meetingCount := f_meetingCount) (a_held := a_held) (a_saved := a_saved) (a_draft := a_draft) (a_toldBefore := a_toldBefore) (a_pairX := a_pairX) (a_pairY := a_pairY) (a_stack := a_stack) (a_met := a_met) (a_metAs := a_metAs) (a_copies := a_copies) (a_meetings := a_meetings) (a_wasMeeting := a_wasMeeting) (a_firstMet := a_firstMet) (a_depths := a_depths) (a_isKept := a_isKept) (g_trials := g_trials) (g_drafted := g_drafted) (g_found := g_found) (b_s := b_s) (b_saved := b_saved) (b_draft := b_draft) (b_who := wh) (b_met := b_met) (b_stack := b_stack) (b_fresh := b_fresh) (b_deep := b_deep) (b_alike := al) (b_meets := b_meets) 8 0 B f_pairs a_held a_toldBefore a_pairX a_pairY b_s rfl (by omega) hr hR (fun j hj => by omega)
  have N := b1.2.2.2.2.2
  have xH := b1.1
  have hT := re_NT N
  have hG := re_NG N
  obtain ⟨rv, v1, vX⟩ := xw_triggerWithValue (f_trials := f_trials) (f_drafted := f_drafted) (f_pairs := m1) (f_metCount := f_metCount) (f_meetingCount := f_meetingCount) (a_held := a1) (a_saved := a_saved) (a_draft := a_draft) (a_toldBefore := tb1) (a_pairX := px1) (a_pairY := py1) (a_stack := a_stack) (a_met := a_met) (a_metAs := a_metAs) (a_copies := a_copies) (a_meetings := a_meetings) (a_wasMeeting := a_wasMeeting) (a_firstMet := a_firstMet) (a_depths := a_depths) (a_isKept := a_isKept) xH hG
  obtain ⟨rv', v1', vY⟩ := yw_next_f (g_trials := g_trials) (g_drafted := g_drafted) (g_found := g_found) (b_s := s1) (b_saved := b_saved) (b_draft := b_draft) (b_who := wh) (b_met := b_met) (b_stack := b_stack) (b_fresh := b_fresh) (b_deep := b_deep) (b_alike := al) (b_meets := b_meets) b1 b2
  have erv := fk_one v1' v1
  subst erv
  have topX : ∀ (post : SX → Prop) (n : Nat), wpX_goTrigger (fun r_23 u => match u with | (f_trials, f_drafted, f_pairs, f_metCount, f_meetingCount, a_held, a_saved, a_draft, a_toldBefore, a_pairX, a_pairY, a_stack, a_met, a_metAs, a_copies, a_meetings, a_wasMeeting, a_firstMet, a_depths, a_isKept) => (((r_23 = 0 → post (f_trials, f_drafted, f_pairs, f_metCount, f_meetingCount, a_held, a_saved, a_draft, a_toldBefore, a_pairX, a_pairY, a_stack, a_met, a_metAs, a_copies, a_meetings, a_wasMeeting, a_firstMet, a_depths, a_isKept)) ∧ (¬ r_23 = 0 → (∀ x1_45 : Int32, x1_45 = nI rd + 1 → wX_settle_2 post n x1_45 f_trials f_drafted f_pairs f_metCount f_meetingCount a_held a_saved a_draft a_toldBefore a_pairX a_pairY a_stack a_met a_metAs a_copies a_meetings a_wasMeeting a_firstMet a_depths a_isKept))))) (f_trials, f_drafted, m1, f_metCount, f_meetingCount, a1, a_saved, a_draft, tb1, px1, py1, a_stack, a_met, a_metAs, a_copies, a_meetings, a_wasMeeting, a_firstMet, a_depths, a_isKept) → wX_settle_2 post (n + 1) (nI rd) f_trials f_drafted f_pairs f_metCount f_meetingCount a_held a_saved a_draft a_toldBefore a_pairX a_pairY a_stack a_met a_metAs a_copies a_meetings a_wasMeeting a_firstMet a_depths a_isKept := by
    intro post n h
    rw [wX_settle_2]
    refine br_f nlt ?_
    unfold wpX_decideTests
    exact ⟨_, b5 _ h⟩
  have topY : ∀ (post : SY → Prop) (n : Nat), wY_settle_61 post (wY_settle_51 post n) 1 (nI 8) g_trials g_drafted g_found s1 b_saved b_draft wh b_met b_stack b_fresh b_deep al b_meets → wY_settle_51 post (n + 1) 1 g_trials g_drafted g_found b_s b_saved b_draft b_who b_met b_stack b_fresh b_deep b_alike b_meets := by
    intro post n h
    rw [wY_settle_51]
    refine br_f (by decide) (rY _ ?_)
    exact ⟨_, b6 post _ h⟩
  rcases v1 with ⟨z1, z2⟩ | ⟨k, hk, z1, z2, z3⟩
  · obtain ⟨rn, n1, nX⟩ := xw_neededTrigger (f_trials := f_trials) (f_drafted := f_drafted) (f_pairs := m1) (f_metCount := f_metCount) (f_meetingCount := f_meetingCount) (a_held := a1) (a_saved := a_saved) (a_draft := a_draft) (a_toldBefore := tb1) (a_pairX := px1) (a_pairY := py1) (a_stack := a_stack) (a_met := a_met) (a_metAs := a_metAs) (a_copies := a_copies) (a_meetings := a_meetings) (a_wasMeeting := a_wasMeeting) (a_firstMet := a_firstMet) (a_depths := a_depths) (a_isKept := a_isKept) xH hT hG
    obtain ⟨rn', n1', nY⟩ := yw_next_t (g_trials := g_trials) (g_drafted := g_drafted) (g_found := g_found) (b_s := s1) (b_saved := b_saved) (b_draft := b_draft) (b_who := wh) (b_met := b_met) (b_stack := b_stack) (b_fresh := b_fresh) (b_deep := b_deep) (b_alike := al) (b_meets := b_meets) b1 b2 z2
    have ern := fk_one n1' n1
    subst ern
    subst z1
    rcases n1 with ⟨w1, w2⟩ | ⟨k, hk, w1, ⟨x, x48, ex, nd⟩, w3⟩
    · subst w1
      refine Or.inl ⟨m1, a1, tb1, px1, py1, s1, wh, al, ⟨b1, dt_S1 N b3, ?_⟩, fun post n hp => topX post n ?_, fun post n hp => topY post n ?_⟩
      · intro k x hk hx e
        refine ⟨Classical.byContradiction (fun q => z2 k hk ⟨x, hx, e, q⟩), fun q => w2 k hk ⟨x, hx, e, q⟩⟩
      · unfold wpX_goTrigger
        exact vX _ (br_t rfl (nX _ (br_t rfl (br_t rfl hp))))
      · rw [wY_settle_61]
        refine br_t (by decide) (vY _ (br_f (by decide) (nY _ ?_)))
        unfold wY_settle_111 wY_settle_121
        exact br_t (by decide) (br_t rfl hp)
    · subst w1
      obtain ⟨g1, g2⟩ := N.2.2.2.1 k hk
      have g2' : ∃ y, xv_U a1 x ∧ xv_U a1 y ∧ a1 (512 + k) = nI y ∧ s1 (560 + k) = nI y := by
        rcases g2 with ⟨q, _⟩ | ⟨x', y, ux, uy, e1, e2, e3⟩
        · rw [ex] at q
          exact ((li_nn1 (by omega)).mp q).elim
        · have : x' = x := tg_un x48 ux.1 ex e1
          rw [this] at ux
          exact ⟨y, ux, uy, e2, e3⟩
      obtain ⟨y, ux, uy, ey, ey'⟩ := g2'
      have ex' : s1 (552 + k) = nI x := by rw [← g1]; exact ex
      obtain ⟨n, nb, na, ns⟩ := N.2.2.2.2.2.1
      obtain ⟨a3, t1, tX⟩ := xw_note (f_trials := f_trials) (f_drafted := f_drafted) (f_pairs := m1) (f_metCount := f_metCount) (f_meetingCount := f_meetingCount) (a_held := upd (upd a1 (504 + k) (-1)) (512 + k) (-1)) (a_saved := a_saved) (a_draft := a_draft) (a_toldBefore := tb1) (a_pairX := px1) (a_pairY := py1) (a_stack := a_stack) (a_met := a_met) (a_metAs := a_metAs) (a_copies := a_copies) (a_meetings := a_meetings) (a_wasMeeting := a_wasMeeting) (a_firstMet := a_firstMet) (a_depths := a_depths) (a_isKept := a_isKept) (n := n) (w := nI (16 + k)) (by omega) (by rw [pk_un (by omega), pk_un (by omega)]; exact na)
      obtain ⟨s3, u1, uY⟩ := yw_note (g_trials := g_trials) (g_drafted := g_drafted) (g_found := g_found) (b_s := upd s1 (552 + k) (-1)) (b_saved := b_saved) (b_draft := b_draft) (b_who := wh) (b_met := b_met) (b_stack := b_stack) (b_fresh := b_fresh) (b_deep := b_deep) (b_alike := al) (b_meets := b_meets) (n := n) (w := nI (16 + k)) (by omega) (by rw [pk_un (by omega)]; exact ns)
      have N2 : re_N (B + 8) (upd (upd a1 (504 + k) (-1)) (512 + k) (-1)) (upd s1 (552 + k) (-1)) := by
        refine tg_N hk N ⟨?_, pk_us, fun i h1 h2 => ?_⟩ ⟨pk_us, fun i h1 => pk_un h1⟩
        · rw [pk_un (by omega), pk_us]
        · rw [pk_un h2, pk_un h1]
      have N3 : re_N (B + 9) a3 s3 := nt_N (by omega) N2 t1 u1
      have lowa : ∀ i, i < 504 → a3 i = a1 i := fun i hi => by rw [nt_lowX t1 i (by omega), pk_un (by omega), pk_un (by omega)]
      have lows : ∀ i, i < 552 → s3 i = s1 i := fun i hi => by rw [nt_lowY u1 i (by omega), pk_un (by omega)]
      have r3 : re_P (B + 9) a3 s3 := re_P_N b1 (fun i hi => lowa i (by omega)) (fun i hi => lows i (by omega)) N3
      have eU3 : xv_U a3 = xv_U a1 := (xv_congr (fun i hi => lowa i (by omega))).1
      obtain ⟨rt, m4, a4, tb4, px4, py4, e1, eX⟩ := xw_tellEqual (f_trials := f_trials) (f_drafted := f_drafted) (f_pairs := m1) (f_metCount := f_metCount) (f_meetingCount := f_meetingCount) (a_held := a3) (a_saved := a_saved) (a_draft := a_draft) (a_toldBefore := tb1) (a_pairX := px1) (a_pairY := py1) (a_stack := a_stack) (a_met := a_met) (a_metAs := a_metAs) (a_copies := a_copies) (a_meetings := a_meetings) (a_wasMeeting := a_wasMeeting) (a_firstMet := a_firstMet) (a_depths := a_depths) (a_isKept := a_isKept) (re_G r3) (x := x) (y := y) (by rw [eU3]; exact ux) (by rw [eU3]; exact uy)
      obtain ⟨rt', s4, f1, fY⟩ := yw_tell (g_trials := g_trials) (g_drafted := g_drafted) (g_found := g_found) (b_s := s3) (b_saved := b_saved) (b_draft := b_draft) (b_who := wh) (b_met := b_met) (b_stack := b_stack) (b_fresh := b_fresh) (b_deep := b_deep) (b_alike := al) (b_meets := b_meets) r3 (x := x) (y := y) (by rw [eU3]; exact ux) (by rw [eU3]; exact uy)
      obtain ⟨r4, _⟩ := tl_eq r3 e1 f1
      have hi4 : ∀ i, 336 ≤ i → a4 i = a3 i := by
        rcases e1 with q | ⟨_, px, py, i, m, vd, _, q⟩
        · rw [q.2.1]; exact fun _ _ => rfl
        · exact q.2.1
      refine Or.inr ⟨nI m4, a4, tb4, px4, py4, s4, wh, al, r4, ?_, fun post n hp => topX post n ?_, fun post n hp => topY post n ?_⟩
      · refine tc_lt hk x48 (e := by rw [← b4 (504 + k) (by omega) (by omega)]; exact ex) ?_ (fun j hj ne => ?_)
        · rw [hi4 _ (by omega), nt_lowX t1 _ (by omega), pk_un (by omega), pk_us]
        · rw [hi4 _ (by omega), nt_lowX t1 _ (by omega), pk_un (by omega), pk_un (by omega), b4 _ (by omega) (by omega)]
      · unfold wpX_goTrigger
        refine vX _ (br_t rfl (nX _ (br_f (fun q => (li_nn1 (by omega)).mp q) ?_)))
        simp (disch := omega) only [forall_eq, true_and, and_true, Nat.zero_add, nI_clamp, li_vin, nI_add, nI_eq, nI_leI, nI_ltI, li_0le, li_lt0, li_nn1, li_e0, not_true_eq_false, not_false_eq_true, false_implies, true_implies, forall_const, li_a0, li_b0, li_a1, li_b1, li_a2, li_b2, li_a3, li_b3, li_a7, li_b7, li_a8, li_b8, li_a16, li_b16, li_a48, li_b48, li_a584, li_b584, li_a572, li_b572, li_a96, li_b96, li_a144, li_b144, li_a192, li_b192, li_a240, li_b240, li_a336, li_b336, li_a384, li_b384, li_a432, li_b432, li_a480, li_b480, li_a488, li_b488, li_a496, li_b496, li_a504, li_b504, li_a512, li_b512, li_a520, li_b520, li_a524, li_b524, li_a528, li_b528, li_a536, li_b536, li_a544, li_b544, li_a552, li_b552, li_a560, li_b560, li_a568, li_b568, li_a573, li_b573, li_a585, li_b585, li_a633, li_b633, li_m3, li_n3, li_m4, li_n4, li_m48, li_n48, li_m50, li_n50, li_m585, li_n585, li_m633, li_n633, li_lt2, li_ge2, li_le2, li_gt2, li_lt1, li_ge1, li_le1, li_gt1, li_lt3, li_ge3, li_le3, li_gt3, li_lt4, li_ge4, li_le4, li_gt4, li_lt7, li_ge7, li_le7, li_gt7, li_lt8, li_ge8, li_le8, li_gt8, li_lt40, li_ge40, li_le40, li_gt40, li_lt240, li_ge240, li_le240, li_gt240, li_lt41, li_ge41, li_le41, li_gt41, li_lt48, li_ge48, li_le48, li_gt48, li_lt49, li_ge49, li_le49, li_gt49, li_lt60, li_ge60, li_le60, li_gt60, li_lt144, li_ge144, li_le144, li_gt144, li_lt145, li_ge145, li_le145, li_gt145, li_lt160, li_ge160, li_le160, li_gt160, li_lt336, li_ge336, li_le336, li_gt336, li_lt585, li_ge585, li_le585, li_gt585, li_lt633, li_ge633, li_le633, li_gt633, li_lt1000000, li_ge1000000, li_le1000000, li_gt1000000, li_lt2304, li_ge2304, li_le2304, li_gt2304, li_lt50, li_ge50, li_le50, li_gt50, li_le0, li_gt0, ex, ey]
        refine xw_removeTrigger (f_trials := f_trials) (f_drafted := f_drafted) (f_pairs := m1) (f_metCount := f_metCount) (f_meetingCount := f_meetingCount) (a_held := a1) (a_saved := a_saved) (a_draft := a_draft) (a_toldBefore := tb1) (a_pairX := px1) (a_pairY := py1) (a_stack := a_stack) (a_met := a_met) (a_metAs := a_metAs) (a_copies := a_copies) (a_meetings := a_meetings) (a_wasMeeting := a_wasMeeting) (a_firstMet := a_firstMet) (a_depths := a_depths) (a_isKept := a_isKept) hk _ (tX _ (eX _ ?_))
        exact br_f (by decide) hp
      · rw [wY_settle_61]
        refine br_t (by decide) (vY _ (br_f (by decide) (nY _ ?_)))
        unfold wY_settle_111 wY_settle_121
        refine br_f (nI_pos (by omega)) (br_f (by decide) ?_)
        have ey3 : s3 (560 + k) = nI y := by rw [nt_lowY u1 _ (by omega), pk_un (by omega)]; exact ey'
        simp (disch := omega) only [forall_eq, true_and, and_true, Nat.zero_add, nI_clamp, li_vin, nI_add, nI_eq, nI_leI, nI_ltI, li_0le, li_lt0, li_nn1, li_e0, not_true_eq_false, not_false_eq_true, false_implies, true_implies, forall_const, li_a0, li_b0, li_a1, li_b1, li_a2, li_b2, li_a3, li_b3, li_a7, li_b7, li_a8, li_b8, li_a16, li_b16, li_a48, li_b48, li_a584, li_b584, li_a572, li_b572, li_a96, li_b96, li_a144, li_b144, li_a192, li_b192, li_a240, li_b240, li_a336, li_b336, li_a384, li_b384, li_a432, li_b432, li_a480, li_b480, li_a488, li_b488, li_a496, li_b496, li_a504, li_b504, li_a512, li_b512, li_a520, li_b520, li_a524, li_b524, li_a528, li_b528, li_a536, li_b536, li_a544, li_b544, li_a552, li_b552, li_a560, li_b560, li_a568, li_b568, li_a573, li_b573, li_a585, li_b585, li_a633, li_b633, li_m3, li_n3, li_m4, li_n4, li_m48, li_n48, li_m50, li_n50, li_m585, li_n585, li_m633, li_n633, li_lt2, li_ge2, li_le2, li_gt2, li_lt1, li_ge1, li_le1, li_gt1, li_lt3, li_ge3, li_le3, li_gt3, li_lt4, li_ge4, li_le4, li_gt4, li_lt7, li_ge7, li_le7, li_gt7, li_lt8, li_ge8, li_le8, li_gt8, li_lt40, li_ge40, li_le40, li_gt40, li_lt240, li_ge240, li_le240, li_gt240, li_lt41, li_ge41, li_le41, li_gt41, li_lt48, li_ge48, li_le48, li_gt48, li_lt49, li_ge49, li_le49, li_gt49, li_lt60, li_ge60, li_le60, li_gt60, li_lt144, li_ge144, li_le144, li_gt144, li_lt145, li_ge145, li_le145, li_gt145, li_lt160, li_ge160, li_le160, li_gt160, li_lt336, li_ge336, li_le336, li_gt336, li_lt585, li_ge585, li_le585, li_gt585, li_lt633, li_ge633, li_le633, li_gt633, li_lt1000000, li_ge1000000, li_le1000000, li_gt1000000, li_lt2304, li_ge2304, li_le2304, li_gt2304, li_lt50, li_ge50, li_le50, li_gt50, li_le0, li_gt0, ex']
        refine br_t (by decide) (uY _ ?_)
        simp (disch := omega) only [forall_eq, true_and, and_true, Nat.zero_add, nI_clamp, li_vin, nI_add, nI_eq, nI_leI, nI_ltI, li_0le, li_lt0, li_nn1, li_e0, not_true_eq_false, not_false_eq_true, false_implies, true_implies, forall_const, li_a0, li_b0, li_a1, li_b1, li_a2, li_b2, li_a3, li_b3, li_a7, li_b7, li_a8, li_b8, li_a16, li_b16, li_a48, li_b48, li_a584, li_b584, li_a572, li_b572, li_a96, li_b96, li_a144, li_b144, li_a192, li_b192, li_a240, li_b240, li_a336, li_b336, li_a384, li_b384, li_a432, li_b432, li_a480, li_b480, li_a488, li_b488, li_a496, li_b496, li_a504, li_b504, li_a512, li_b512, li_a520, li_b520, li_a524, li_b524, li_a528, li_b528, li_a536, li_b536, li_a544, li_b544, li_a552, li_b552, li_a560, li_b560, li_a568, li_b568, li_a573, li_b573, li_a585, li_b585, li_a633, li_b633, li_m3, li_n3, li_m4, li_n4, li_m48, li_n48, li_m50, li_n50, li_m585, li_n585, li_m633, li_n633, li_lt2, li_ge2, li_le2, li_gt2, li_lt1, li_ge1, li_le1, li_gt1, li_lt3, li_ge3, li_le3, li_gt3, li_lt4, li_ge4, li_le4, li_gt4, li_lt7, li_ge7, li_le7, li_gt7, li_lt8, li_ge8, li_le8, li_gt8, li_lt40, li_ge40, li_le40, li_gt40, li_lt240, li_ge240, li_le240, li_gt240, li_lt41, li_ge41, li_le41, li_gt41, li_lt48, li_ge48, li_le48, li_gt48, li_lt49, li_ge49, li_le49, li_gt49, li_lt60, li_ge60, li_le60, li_gt60, li_lt144, li_ge144, li_le144, li_gt144, li_lt145, li_ge145, li_le145, li_gt145, li_lt160, li_ge160, li_le160, li_gt160, li_lt336, li_ge336, li_le336, li_gt336, li_lt585, li_ge585, li_le585, li_gt585, li_lt633, li_ge633, li_le633, li_gt633, li_lt1000000, li_ge1000000, li_le1000000, li_gt1000000, li_lt2304, li_ge2304, li_le2304, li_gt2304, li_lt50, li_ge50, li_le50, li_gt50, li_le0, li_gt0, ey3]
        exact fY _ hp
  · subst z1
    obtain ⟨x, x48, ex, k0⟩ := z2
    have g1 := (N.2.2.2.1 k hk).1
    have ex' : s1 (552 + k) = nI x := by rw [← g1]; exact ex
    have N2 : re_N (B + 8) (upd (upd a1 (504 + k) (-1)) (512 + k) (-1)) (upd s1 (552 + k) (-1)) := by
      refine tg_N hk N ⟨?_, pk_us, fun i h1 h2 => ?_⟩ ⟨pk_us, fun i h1 => pk_un h1⟩
      · rw [pk_un (by omega), pk_us]
      · rw [pk_un h2, pk_un h1]
    have r3 : re_P (B + 8) (upd (upd a1 (504 + k) (-1)) (512 + k) (-1)) (upd s1 (552 + k) (-1)) := re_P_N b1 (fun i hi => by rw [pk_un (by omega), pk_un (by omega)]) (fun i hi => pk_un (by omega)) N2
    refine Or.inr ⟨m1, _, tb1, px1, py1, _, wh, al, re_P_mono (by omega) r3, ?_, fun post n hp => topX post n ?_, fun post n hp => topY post n ?_⟩
    · refine tc_lt hk x48 (e := by rw [← b4 (504 + k) (by omega) (by omega)]; exact ex) ?_ (fun j hj ne => ?_)
      · rw [pk_un (by omega), pk_us]
      · rw [pk_un (by omega), pk_un (by omega), b4 _ (by omega) (by omega)]
    · unfold wpX_goTrigger
      refine vX _ (br_f (fun q => (li_nn1 (by omega)).mp q) ?_)
      refine xw_removeTrigger (f_trials := f_trials) (f_drafted := f_drafted) (f_pairs := m1) (f_metCount := f_metCount) (f_meetingCount := f_meetingCount) (a_held := a1) (a_saved := a_saved) (a_draft := a_draft) (a_toldBefore := tb1) (a_pairX := px1) (a_pairY := py1) (a_stack := a_stack) (a_met := a_met) (a_metAs := a_metAs) (a_copies := a_copies) (a_meetings := a_meetings) (a_wasMeeting := a_wasMeeting) (a_firstMet := a_firstMet) (a_depths := a_depths) (a_isKept := a_isKept) hk _ ?_
      exact br_f (by decide) (nm_r (nI_1 rd) hp)
    · rw [wY_settle_61]
      refine br_t (by decide) (vY _ (br_t (nI_pos' (by omega)) ?_))
      unfold wY_settle_111 wY_settle_121
      refine br_f (nI_pos (by omega)) (br_f (by decide) ?_)
      simp (disch := omega) only [forall_eq, true_and, and_true, Nat.zero_add, nI_clamp, li_vin, nI_add, nI_eq, nI_leI, nI_ltI, li_0le, li_lt0, li_nn1, li_e0, not_true_eq_false, not_false_eq_true, false_implies, true_implies, forall_const, li_a0, li_b0, li_a1, li_b1, li_a2, li_b2, li_a3, li_b3, li_a7, li_b7, li_a8, li_b8, li_a16, li_b16, li_a48, li_b48, li_a584, li_b584, li_a572, li_b572, li_a96, li_b96, li_a144, li_b144, li_a192, li_b192, li_a240, li_b240, li_a336, li_b336, li_a384, li_b384, li_a432, li_b432, li_a480, li_b480, li_a488, li_b488, li_a496, li_b496, li_a504, li_b504, li_a512, li_b512, li_a520, li_b520, li_a524, li_b524, li_a528, li_b528, li_a536, li_b536, li_a544, li_b544, li_a552, li_b552, li_a560, li_b560, li_a568, li_b568, li_a573, li_b573, li_a585, li_b585, li_a633, li_b633, li_m3, li_n3, li_m4, li_n4, li_m48, li_n48, li_m50, li_n50, li_m585, li_n585, li_m633, li_n633, li_lt2, li_ge2, li_le2, li_gt2, li_lt1, li_ge1, li_le1, li_gt1, li_lt3, li_ge3, li_le3, li_gt3, li_lt4, li_ge4, li_le4, li_gt4, li_lt7, li_ge7, li_le7, li_gt7, li_lt8, li_ge8, li_le8, li_gt8, li_lt40, li_ge40, li_le40, li_gt40, li_lt240, li_ge240, li_le240, li_gt240, li_lt41, li_ge41, li_le41, li_gt41, li_lt48, li_ge48, li_le48, li_gt48, li_lt49, li_ge49, li_le49, li_gt49, li_lt60, li_ge60, li_le60, li_gt60, li_lt144, li_ge144, li_le144, li_gt144, li_lt145, li_ge145, li_le145, li_gt145, li_lt160, li_ge160, li_le160, li_gt160, li_lt336, li_ge336, li_le336, li_gt336, li_lt585, li_ge585, li_le585, li_gt585, li_lt633, li_ge633, li_le633, li_gt633, li_lt1000000, li_ge1000000, li_le1000000, li_gt1000000, li_lt2304, li_ge2304, li_le2304, li_gt2304, li_lt50, li_ge50, li_le50, li_gt50, li_le0, li_gt0, ex']
      exact hp
theorem st_loop {f_trials f_drafted f_pairs f_metCount f_meetingCount : Int32} {a_held a_saved a_draft a_toldBefore a_pairX a_pairY a_stack a_met a_metAs a_copies a_meetings a_wasMeeting a_firstMet a_depths a_isKept : Nat → Int32} {g_trials g_drafted g_found : Int32} {b_s b_saved b_draft b_who b_met b_stack b_fresh b_deep : Nat → Int32} {b_alike b_meets : Nat → Int64} : ∀ c rd B (f_pairs : Int32) (a_held a_toldBefore a_pairX a_pairY b_s b_who : Nat → Int32) (b_alike : Nat → Int64), tc_8 a_held ≤ c → rd + c ≤ 8 → B + 9 * (c + 1) < 1000000 → re_P B a_held b_s → ∃ (m' : Int32) (a' tb px py s' wh : Nat → Int32) (al : Nat → Int64), re_C (B + 9 * (c + 1)) a' s' ∧ (∀ post : SX → Prop, post (f_trials, f_drafted, m', f_metCount, f_meetingCount, a', a_saved, a_draft, tb, px, py, a_stack, a_met, a_metAs, a_copies, a_meetings, a_wasMeeting, a_firstMet, a_depths, a_isKept) → wX_settle_2 post (c + 1) (nI rd) f_trials f_drafted f_pairs f_metCount f_meetingCount a_held a_saved a_draft a_toldBefore a_pairX a_pairY a_stack a_met a_metAs a_copies a_meetings a_wasMeeting a_firstMet a_depths a_isKept) ∧ (∀ post : SY → Prop, post (g_trials, g_drafted, g_found, s', b_saved, b_draft, wh, b_met, b_stack, b_fresh, b_deep, al, b_meets) → wY_settle_51 post (c + 1) 1 g_trials g_drafted g_found b_s b_saved b_draft b_who b_met b_stack b_fresh b_deep b_alike b_meets) := by
  intro c
  induction c with
  | zero =>
    intro rd B fp a tb px py s wh al hc hrd hB hr
    rcases st_round (f_trials := f_trials) (f_drafted := f_drafted) (f_pairs := fp) (f_metCount := f_metCount) (f_meetingCount := f_meetingCount) (a_held := a) (a_saved := a_saved) (a_draft := a_draft) (a_toldBefore := tb) (a_pairX := px) (a_pairY := py) (a_stack := a_stack) (a_met := a_met) (a_metAs := a_metAs) (a_copies := a_copies) (a_meetings := a_meetings) (a_wasMeeting := a_wasMeeting) (a_firstMet := a_firstMet) (a_depths := a_depths) (a_isKept := a_isKept) (g_trials := g_trials) (g_drafted := g_drafted) (g_found := g_found) (b_s := s) (b_saved := b_saved) (b_draft := b_draft) (b_who := wh) (b_met := b_met) (b_stack := b_stack) (b_fresh := b_fresh) (b_deep := b_deep) (b_alike := al) (b_meets := b_meets) (rd := rd) (by omega) (by omega) hr with ⟨m', a', tb', px', py', s', wh', al', h1, h2, h3⟩ | ⟨m', a', tb', px', py', s', wh', al', h1, h2, h3, h4⟩
    · exact ⟨m', a', tb', px', py', s', wh', al', re_C_mono (by omega) h1, fun post hp => h2 post 0 hp, fun post hp => h3 post 0 hp⟩
    · omega
  | succ c ih =>
    intro rd B fp a tb px py s wh al hc hrd hB hr
    rcases st_round (f_trials := f_trials) (f_drafted := f_drafted) (f_pairs := fp) (f_metCount := f_metCount) (f_meetingCount := f_meetingCount) (a_held := a) (a_saved := a_saved) (a_draft := a_draft) (a_toldBefore := tb) (a_pairX := px) (a_pairY := py) (a_stack := a_stack) (a_met := a_met) (a_metAs := a_metAs) (a_copies := a_copies) (a_meetings := a_meetings) (a_wasMeeting := a_wasMeeting) (a_firstMet := a_firstMet) (a_depths := a_depths) (a_isKept := a_isKept) (g_trials := g_trials) (g_drafted := g_drafted) (g_found := g_found) (b_s := s) (b_saved := b_saved) (b_draft := b_draft) (b_who := wh) (b_met := b_met) (b_stack := b_stack) (b_fresh := b_fresh) (b_deep := b_deep) (b_alike := al) (b_meets := b_meets) (rd := rd) (by omega) (by omega) hr with ⟨m', a', tb', px', py', s', wh', al', h1, h2, h3⟩ | ⟨m', a', tb', px', py', s', wh', al', h1, h2, h3, h4⟩
    · exact ⟨m', a', tb', px', py', s', wh', al', re_C_mono (by omega) h1, fun post hp => h2 post _ hp, fun post hp => h3 post _ hp⟩
    · obtain ⟨m2, a2, tb2, px2, py2, s2, wh2, al2, g1, g2, g3⟩ := ih (rd + 1) (B + 9) m' a' tb' px' py' s' wh' al' (by omega) (by omega) (by omega) h1
      exact ⟨m2, a2, tb2, px2, py2, s2, wh2, al2, re_C_mono (by omega) g1, fun post hp => h3 post _ (g2 post hp), fun post hp => h4 post _ (g3 post hp)⟩
end
section
/-- the component's settling of what is settled changes nothing that counts -/
theorem xs_tests {f_trials f_drafted f_pairs f_metCount f_meetingCount : Int32} {a_held a_saved a_draft a_toldBefore a_pairX a_pairY a_stack a_met a_metAs a_copies a_meetings a_wasMeeting a_firstMet a_depths a_isKept : Nat → Int32} (g : xv_G a_held) (hN : ∀ t, t < 8 → a_held (480 + t) = 3 → (∃ q, xv_U a_held q ∧ a_held (488 + t) = nI q) ∧ (a_held (496 + t) = -1 ∨ ∃ q, xv_U a_held q ∧ a_held (496 + t) = nI q)) (hd : ∀ t, t < 8 → a_held (480 + t) = 3 → dt_v a_held t = 3) : ∀ d t (f_pairs : Int32) (a_toldBefore a_pairX a_pairY : Nat → Int32), t + d = 8 → ∃ (m' : Int32) (tb px py : Nat → Int32), ∀ post : SX → Prop, post (f_trials, f_drafted, m', f_metCount, f_meetingCount, a_held, a_saved, a_draft, tb, px, py, a_stack, a_met, a_metAs, a_copies, a_meetings, a_wasMeeting, a_firstMet, a_depths, a_isKept) → wX_decideTests_2 post (d + 1) (nI t) f_trials f_drafted f_pairs f_metCount f_meetingCount a_held a_saved a_draft a_toldBefore a_pairX a_pairY a_stack a_met a_metAs a_copies a_meetings a_wasMeeting a_firstMet a_depths a_isKept := by
  intro d
  induction d with
  | zero =>
    intro t fp tb px py ht
    refine ⟨fp, tb, px, py, fun post hp => ?_⟩
    unfold wX_decideTests_2
    simp (disch := omega) only [forall_eq, true_and, and_true, Nat.zero_add, nI_clamp, li_vin, nI_add, nI_eq, nI_leI, nI_ltI, li_0le, li_lt0, li_nn1, li_e0, not_true_eq_false, not_false_eq_true, false_implies, true_implies, forall_const, li_a0, li_b0, li_a1, li_b1, li_a2, li_b2, li_a3, li_b3, li_a7, li_b7, li_a8, li_b8, li_a16, li_b16, li_a48, li_b48, li_a584, li_b584, li_a572, li_b572, li_a96, li_b96, li_a144, li_b144, li_a192, li_b192, li_a240, li_b240, li_a336, li_b336, li_a384, li_b384, li_a432, li_b432, li_a480, li_b480, li_a488, li_b488, li_a496, li_b496, li_a504, li_b504, li_a512, li_b512, li_a520, li_b520, li_a524, li_b524, li_a528, li_b528, li_a536, li_b536, li_a544, li_b544, li_a552, li_b552, li_a560, li_b560, li_a568, li_b568, li_a573, li_b573, li_a585, li_b585, li_a633, li_b633, li_m3, li_n3, li_m4, li_n4, li_m48, li_n48, li_m50, li_n50, li_m585, li_n585, li_m633, li_n633, li_lt2, li_ge2, li_le2, li_gt2, li_lt1, li_ge1, li_le1, li_gt1, li_lt3, li_ge3, li_le3, li_gt3, li_lt4, li_ge4, li_le4, li_gt4, li_lt7, li_ge7, li_le7, li_gt7, li_lt8, li_ge8, li_le8, li_gt8, li_lt40, li_ge40, li_le40, li_gt40, li_lt240, li_ge240, li_le240, li_gt240, li_lt41, li_ge41, li_le41, li_gt41, li_lt48, li_ge48, li_le48, li_gt48, li_lt49, li_ge49, li_le49, li_gt49, li_lt60, li_ge60, li_le60, li_gt60, li_lt144, li_ge144, li_le144, li_gt144, li_lt145, li_ge145, li_le145, li_gt145, li_lt160, li_ge160, li_le160, li_gt160, li_lt336, li_ge336, li_le336, li_gt336, li_lt585, li_ge585, li_le585, li_gt585, li_lt633, li_ge633, li_le633, li_gt633, li_lt1000000, li_ge1000000, li_le1000000, li_gt1000000, li_lt2304, li_ge2304, li_le2304, li_gt2304, li_lt50, li_ge50, li_le50, li_gt50, li_le0, li_gt0]
    exact ⟨fun _ => hp, fun q => by omega⟩
  | succ d ih =>
    intro t fp tb px py ht
    by_cases w : a_held (480 + t) = 3
    · obtain ⟨⟨q, uq, eq⟩, o⟩ := hN t (by omega) w
      obtain ⟨m1, tb1, px1, py1, hX⟩ := xw_dec1 (f_trials := f_trials) (f_drafted := f_drafted) (f_pairs := fp) (f_metCount := f_metCount) (f_meetingCount := f_meetingCount) (a_held := a_held) (a_saved := a_saved) (a_draft := a_draft) (a_toldBefore := tb) (a_pairX := px) (a_pairY := py) (a_stack := a_stack) (a_met := a_met) (a_metAs := a_metAs) (a_copies := a_copies) (a_meetings := a_meetings) (a_wasMeeting := a_wasMeeting) (a_firstMet := a_firstMet) (a_depths := a_depths) (a_isKept := a_isKept) g (by omega) w uq eq o
      obtain ⟨m2, tb2, px2, py2, h2⟩ := ih (t + 1) m1 tb1 px1 py1 (by omega)
      refine ⟨m2, tb2, px2, py2, fun post hp => hX post _ ?_⟩
      rw [hd t (by omega) w]
      unfold wX_decideTests_77
      exact br_t rfl (nm_r (nI_1 t) (h2 post hp))
    · obtain ⟨m2, tb2, px2, py2, h2⟩ := ih (t + 1) fp tb px py (by omega)
      refine ⟨m2, tb2, px2, py2, fun post hp => ?_⟩
      rw [wX_decideTests_2]
      dsimp only
      simp (disch := omega) only [forall_eq, true_and, and_true, Nat.zero_add, nI_clamp, li_vin, nI_add, nI_eq, nI_leI, nI_ltI, li_0le, li_lt0, li_nn1, li_e0, not_true_eq_false, not_false_eq_true, false_implies, true_implies, forall_const, li_a0, li_b0, li_a1, li_b1, li_a2, li_b2, li_a3, li_b3, li_a7, li_b7, li_a8, li_b8, li_a16, li_b16, li_a48, li_b48, li_a584, li_b584, li_a572, li_b572, li_a96, li_b96, li_a144, li_b144, li_a192, li_b192, li_a240, li_b240, li_a336, li_b336, li_a384, li_b384, li_a432, li_b432, li_a480, li_b480, li_a488, li_b488, li_a496, li_b496, li_a504, li_b504, li_a512, li_b512, li_a520, li_b520, li_a524, li_b524, li_a528, li_b528, li_a536, li_b536, li_a544, li_b544, li_a552, li_b552, li_a560, li_b560, li_a568, li_b568, li_a573, li_b573, li_a585, li_b585, li_a633, li_b633, li_m3, li_n3, li_m4, li_n4, li_m48, li_n48, li_m50, li_n50, li_m585, li_n585, li_m633, li_n633, li_lt2, li_ge2, li_le2, li_gt2, li_lt1, li_ge1, li_le1, li_gt1, li_lt3, li_ge3, li_le3, li_gt3, li_lt4, li_ge4, li_le4, li_gt4, li_lt7, li_ge7, li_le7, li_gt7, li_lt8, li_ge8, li_le8, li_gt8, li_lt40, li_ge40, li_le40, li_gt40, li_lt240, li_ge240, li_le240, li_gt240, li_lt41, li_ge41, li_le41, li_gt41, li_lt48, li_ge48, li_le48, li_gt48, li_lt49, li_ge49, li_le49, li_gt49, li_lt60, li_ge60, li_le60, li_gt60, li_lt144, li_ge144, li_le144, li_gt144, li_lt145, li_ge145, li_le145, li_gt145, li_lt160, li_ge160, li_le160, li_gt160, li_lt336, li_ge336, li_le336, li_gt336, li_lt585, li_ge585, li_le585, li_gt585, li_lt633, li_ge633, li_le633, li_gt633, li_lt1000000, li_ge1000000, li_le1000000, li_gt1000000, li_lt2304, li_ge2304, li_le2304, li_gt2304, li_lt50, li_ge50, li_le50, li_gt50, li_le0, li_gt0]
      exact ⟨fun q => by omega, fun _ => br_f w (h2 post hp)⟩
theorem xs_idle {f_trials f_drafted f_pairs f_metCount f_meetingCount : Int32} {a_held a_saved a_draft a_toldBefore a_pairX a_pairY a_stack a_met a_metAs a_copies a_meetings a_wasMeeting a_firstMet a_depths a_isKept : Nat → Int32} {B : Nat} {s : Nat → Int32} (hC : re_C B a_held s) : ∃ (m' : Int32) (tb px py : Nat → Int32), ∀ post : SX → Prop, post (f_trials, f_drafted, m', f_metCount, f_meetingCount, a_held, a_saved, a_draft, tb, px, py, a_stack, a_met, a_metAs, a_copies, a_meetings, a_wasMeeting, a_firstMet, a_depths, a_isKept) → wpX_settle post (f_trials, f_drafted, f_pairs, f_metCount, f_meetingCount, a_held, a_saved, a_draft, a_toldBefore, a_pairX, a_pairY, a_stack, a_met, a_metAs, a_copies, a_meetings, a_wasMeeting, a_firstMet, a_depths, a_isKept) := by
  obtain ⟨hr, S1, S2⟩ := hC
  have N := hr.2.2.2.2.2
  obtain ⟨m', tb, px, py, h1⟩ := xs_tests (f_trials := f_trials) (f_drafted := f_drafted) (f_pairs := f_pairs) (f_metCount := f_metCount) (f_meetingCount := f_meetingCount) (a_held := a_held) (a_saved := a_saved) (a_draft := a_draft) (a_toldBefore := a_toldBefore) (a_pairX := a_pairX) (a_pairY := a_pairY) (a_stack := a_stack) (a_met := a_met) (a_metAs := a_metAs) (a_copies := a_copies) (a_meetings := a_meetings) (a_wasMeeting := a_wasMeeting) (a_firstMet := a_firstMet) (a_depths := a_depths) (a_isKept := a_isKept) (re_G hr) (fun t ht h3 => (N.2.2.1 t ht).2.2.2 h3) (fun t ht h3 => dt_of N S1 ht h3) 8 0 f_pairs a_toldBefore a_pairX a_pairY rfl
  obtain ⟨rv, v1, vX⟩ := xw_triggerWithValue (f_trials := f_trials) (f_drafted := f_drafted) (f_pairs := m') (f_metCount := f_metCount) (f_meetingCount := f_meetingCount) (a_held := a_held) (a_saved := a_saved) (a_draft := a_draft) (a_toldBefore := tb) (a_pairX := px) (a_pairY := py) (a_stack := a_stack) (a_met := a_met) (a_metAs := a_metAs) (a_copies := a_copies) (a_meetings := a_meetings) (a_wasMeeting := a_wasMeeting) (a_firstMet := a_firstMet) (a_depths := a_depths) (a_isKept := a_isKept) hr.1 (re_NG N)
  obtain ⟨rn, n1, nX⟩ := xw_neededTrigger (f_trials := f_trials) (f_drafted := f_drafted) (f_pairs := m') (f_metCount := f_metCount) (f_meetingCount := f_meetingCount) (a_held := a_held) (a_saved := a_saved) (a_draft := a_draft) (a_toldBefore := tb) (a_pairX := px) (a_pairY := py) (a_stack := a_stack) (a_met := a_met) (a_metAs := a_metAs) (a_copies := a_copies) (a_meetings := a_meetings) (a_wasMeeting := a_wasMeeting) (a_firstMet := a_firstMet) (a_depths := a_depths) (a_isKept := a_isKept) hr.1 (re_NT N) (re_NG N)
  have ev : rv = -1 := by
    rcases v1 with q | ⟨k, hk, _, ⟨x, hx, ex, k0⟩, _⟩
    · exact q.1
    · exact absurd (S2 k x hk hx ex).1 k0
  have en : rn = -1 := by
    rcases n1 with q | ⟨k, hk, _, ⟨x, hx, ex, nd⟩, _⟩
    · exact q.1
    · exact absurd nd (S2 k x hk hx ex).2
  subst ev en
  refine ⟨m', tb, px, py, fun post hp => ?_⟩
  unfold wpX_settle
  refine ⟨1, ?_⟩
  rw [wX_settle_2]
  refine br_f (by decide) ?_
  unfold wpX_decideTests
  refine ⟨_, h1 _ ?_⟩
  unfold wpX_goTrigger
  exact vX _ (br_t rfl (nX _ (br_t rfl (br_t rfl hp))))
theorem yw_settle_4 {g_trials g_drafted g_found : Int32} {b_s b_saved b_draft b_who b_met b_stack b_fresh b_deep : Nat → Int32} {b_alike b_meets : Nat → Int64} : ∀ d j (x1 : Int32), j + d = 8 → (x1 = 0 ∨ x1 = 1) → (x1 = 0 → ∀ i, i < j → ¬ b_s (544 + i) = 3 ∧ b_s (552 + i) < 0) → ∃ x1' : Int32, ((x1' = 0 ∧ ∀ i, i < 8 → ¬ b_s (544 + i) = 3 ∧ b_s (552 + i) < 0) ∨ x1' = 1) ∧ ∀ post : SY → Prop, (∃ n51 : Nat, wY_settle_51 post n51 x1' g_trials g_drafted g_found b_s b_saved b_draft b_who b_met b_stack b_fresh b_deep b_alike b_meets) → wY_settle_4 post g_trials g_drafted g_found b_s b_saved b_draft b_who b_met b_stack b_fresh b_deep b_alike b_meets (d + 1) x1 (nI j) := by
  intro d
  induction d with
  | zero =>
    intro j x1 hj hx h
    refine ⟨x1, ?_, fun post hp => ?_⟩
    · rcases hx with q | q
      · exact Or.inl ⟨q, fun i hi => h q i (by omega)⟩
      · exact Or.inr q
    · unfold wY_settle_4
      simp (disch := omega) only [forall_eq, true_and, and_true, Nat.zero_add, nI_clamp, li_vin, nI_add, nI_eq, nI_leI, nI_ltI, li_0le, li_lt0, li_nn1, li_e0, not_true_eq_false, not_false_eq_true, false_implies, true_implies, forall_const, li_a0, li_b0, li_a1, li_b1, li_a2, li_b2, li_a3, li_b3, li_a7, li_b7, li_a8, li_b8, li_a16, li_b16, li_a48, li_b48, li_a584, li_b584, li_a572, li_b572, li_a96, li_b96, li_a144, li_b144, li_a192, li_b192, li_a240, li_b240, li_a336, li_b336, li_a384, li_b384, li_a432, li_b432, li_a480, li_b480, li_a488, li_b488, li_a496, li_b496, li_a504, li_b504, li_a512, li_b512, li_a520, li_b520, li_a524, li_b524, li_a528, li_b528, li_a536, li_b536, li_a544, li_b544, li_a552, li_b552, li_a560, li_b560, li_a568, li_b568, li_a573, li_b573, li_a585, li_b585, li_a633, li_b633, li_m3, li_n3, li_m4, li_n4, li_m48, li_n48, li_m50, li_n50, li_m585, li_n585, li_m633, li_n633, li_lt2, li_ge2, li_le2, li_gt2, li_lt1, li_ge1, li_le1, li_gt1, li_lt3, li_ge3, li_le3, li_gt3, li_lt4, li_ge4, li_le4, li_gt4, li_lt7, li_ge7, li_le7, li_gt7, li_lt8, li_ge8, li_le8, li_gt8, li_lt40, li_ge40, li_le40, li_gt40, li_lt240, li_ge240, li_le240, li_gt240, li_lt41, li_ge41, li_le41, li_gt41, li_lt48, li_ge48, li_le48, li_gt48, li_lt49, li_ge49, li_le49, li_gt49, li_lt60, li_ge60, li_le60, li_gt60, li_lt144, li_ge144, li_le144, li_gt144, li_lt145, li_ge145, li_le145, li_gt145, li_lt160, li_ge160, li_le160, li_gt160, li_lt336, li_ge336, li_le336, li_gt336, li_lt585, li_ge585, li_le585, li_gt585, li_lt633, li_ge633, li_le633, li_gt633, li_lt1000000, li_ge1000000, li_le1000000, li_gt1000000, li_lt2304, li_ge2304, li_le2304, li_gt2304, li_lt50, li_ge50, li_le50, li_gt50, li_le0, li_gt0]
      exact ⟨fun _ => hp, fun q => by omega⟩
  | succ d ih =>
    intro j x1 hj hx h
    have o1 : x1 ||| 1 = 1 := by
      rcases hx with q | q <;> rw [q] <;> decide
    have o0 : x1 ||| 0 = x1 := by
      rcases hx with q | q <;> rw [q] <;> decide
    by_cases a : b_s (544 + j) = 3
    · obtain ⟨x1', h1, h2⟩ := ih (j + 1) 1 (by omega) (Or.inr rfl) (fun z => absurd z (by decide))
      refine ⟨x1', h1, fun post hp => ?_⟩
      rw [wY_settle_4]
      dsimp only
      simp (disch := omega) only [forall_eq, true_and, and_true, Nat.zero_add, nI_clamp, li_vin, nI_add, nI_eq, nI_leI, nI_ltI, li_0le, li_lt0, li_nn1, li_e0, not_true_eq_false, not_false_eq_true, false_implies, true_implies, forall_const, li_a0, li_b0, li_a1, li_b1, li_a2, li_b2, li_a3, li_b3, li_a7, li_b7, li_a8, li_b8, li_a16, li_b16, li_a48, li_b48, li_a584, li_b584, li_a572, li_b572, li_a96, li_b96, li_a144, li_b144, li_a192, li_b192, li_a240, li_b240, li_a336, li_b336, li_a384, li_b384, li_a432, li_b432, li_a480, li_b480, li_a488, li_b488, li_a496, li_b496, li_a504, li_b504, li_a512, li_b512, li_a520, li_b520, li_a524, li_b524, li_a528, li_b528, li_a536, li_b536, li_a544, li_b544, li_a552, li_b552, li_a560, li_b560, li_a568, li_b568, li_a573, li_b573, li_a585, li_b585, li_a633, li_b633, li_m3, li_n3, li_m4, li_n4, li_m48, li_n48, li_m50, li_n50, li_m585, li_n585, li_m633, li_n633, li_lt2, li_ge2, li_le2, li_gt2, li_lt1, li_ge1, li_le1, li_gt1, li_lt3, li_ge3, li_le3, li_gt3, li_lt4, li_ge4, li_le4, li_gt4, li_lt7, li_ge7, li_le7, li_gt7, li_lt8, li_ge8, li_le8, li_gt8, li_lt40, li_ge40, li_le40, li_gt40, li_lt240, li_ge240, li_le240, li_gt240, li_lt41, li_ge41, li_le41, li_gt41, li_lt48, li_ge48, li_le48, li_gt48, li_lt49, li_ge49, li_le49, li_gt49, li_lt60, li_ge60, li_le60, li_gt60, li_lt144, li_ge144, li_le144, li_gt144, li_lt145, li_ge145, li_le145, li_gt145, li_lt160, li_ge160, li_le160, li_gt160, li_lt336, li_ge336, li_le336, li_gt336, li_lt585, li_ge585, li_le585, li_gt585, li_lt633, li_ge633, li_le633, li_gt633, li_lt1000000, li_ge1000000, li_le1000000, li_gt1000000, li_lt2304, li_ge2304, li_le2304, li_gt2304, li_lt50, li_ge50, li_le50, li_gt50, li_le0, li_gt0, a, o1]
      exact ⟨fun q => by omega, fun _ => h2 post hp⟩
    · by_cases b : b_s (552 + j) < 0
      · obtain ⟨x1', h1, h2⟩ := ih (j + 1) x1 (by omega) hx (fun z => lt_s (h z) ⟨a, b⟩)
        refine ⟨x1', h1, fun post hp => ?_⟩
        rw [wY_settle_4]
        dsimp only
        simp (disch := omega) only [forall_eq, true_and, and_true, Nat.zero_add, nI_clamp, li_vin, nI_add, nI_eq, nI_leI, nI_ltI, li_0le, li_lt0, li_nn1, li_e0, not_true_eq_false, not_false_eq_true, false_implies, true_implies, forall_const, li_a0, li_b0, li_a1, li_b1, li_a2, li_b2, li_a3, li_b3, li_a7, li_b7, li_a8, li_b8, li_a16, li_b16, li_a48, li_b48, li_a584, li_b584, li_a572, li_b572, li_a96, li_b96, li_a144, li_b144, li_a192, li_b192, li_a240, li_b240, li_a336, li_b336, li_a384, li_b384, li_a432, li_b432, li_a480, li_b480, li_a488, li_b488, li_a496, li_b496, li_a504, li_b504, li_a512, li_b512, li_a520, li_b520, li_a524, li_b524, li_a528, li_b528, li_a536, li_b536, li_a544, li_b544, li_a552, li_b552, li_a560, li_b560, li_a568, li_b568, li_a573, li_b573, li_a585, li_b585, li_a633, li_b633, li_m3, li_n3, li_m4, li_n4, li_m48, li_n48, li_m50, li_n50, li_m585, li_n585, li_m633, li_n633, li_lt2, li_ge2, li_le2, li_gt2, li_lt1, li_ge1, li_le1, li_gt1, li_lt3, li_ge3, li_le3, li_gt3, li_lt4, li_ge4, li_le4, li_gt4, li_lt7, li_ge7, li_le7, li_gt7, li_lt8, li_ge8, li_le8, li_gt8, li_lt40, li_ge40, li_le40, li_gt40, li_lt240, li_ge240, li_le240, li_gt240, li_lt41, li_ge41, li_le41, li_gt41, li_lt48, li_ge48, li_le48, li_gt48, li_lt49, li_ge49, li_le49, li_gt49, li_lt60, li_ge60, li_le60, li_gt60, li_lt144, li_ge144, li_le144, li_gt144, li_lt145, li_ge145, li_le145, li_gt145, li_lt160, li_ge160, li_le160, li_gt160, li_lt336, li_ge336, li_le336, li_gt336, li_lt585, li_ge585, li_le585, li_gt585, li_lt633, li_ge633, li_le633, li_gt633, li_lt1000000, li_ge1000000, li_le1000000, li_gt1000000, li_lt2304, li_ge2304, li_le2304, li_gt2304, li_lt50, li_ge50, li_le50, li_gt50, li_le0, li_gt0, o1, o0]
        exact ⟨fun q => by omega, fun _ => br_f a (br_t b (h2 post hp))⟩
      · obtain ⟨x1', h1, h2⟩ := ih (j + 1) 1 (by omega) (Or.inr rfl) (fun z => absurd z (by decide))
        refine ⟨x1', h1, fun post hp => ?_⟩
        rw [wY_settle_4]
        dsimp only
        simp (disch := omega) only [forall_eq, true_and, and_true, Nat.zero_add, nI_clamp, li_vin, nI_add, nI_eq, nI_leI, nI_ltI, li_0le, li_lt0, li_nn1, li_e0, not_true_eq_false, not_false_eq_true, false_implies, true_implies, forall_const, li_a0, li_b0, li_a1, li_b1, li_a2, li_b2, li_a3, li_b3, li_a7, li_b7, li_a8, li_b8, li_a16, li_b16, li_a48, li_b48, li_a584, li_b584, li_a572, li_b572, li_a96, li_b96, li_a144, li_b144, li_a192, li_b192, li_a240, li_b240, li_a336, li_b336, li_a384, li_b384, li_a432, li_b432, li_a480, li_b480, li_a488, li_b488, li_a496, li_b496, li_a504, li_b504, li_a512, li_b512, li_a520, li_b520, li_a524, li_b524, li_a528, li_b528, li_a536, li_b536, li_a544, li_b544, li_a552, li_b552, li_a560, li_b560, li_a568, li_b568, li_a573, li_b573, li_a585, li_b585, li_a633, li_b633, li_m3, li_n3, li_m4, li_n4, li_m48, li_n48, li_m50, li_n50, li_m585, li_n585, li_m633, li_n633, li_lt2, li_ge2, li_le2, li_gt2, li_lt1, li_ge1, li_le1, li_gt1, li_lt3, li_ge3, li_le3, li_gt3, li_lt4, li_ge4, li_le4, li_gt4, li_lt7, li_ge7, li_le7, li_gt7, li_lt8, li_ge8, li_le8, li_gt8, li_lt40, li_ge40, li_le40, li_gt40, li_lt240, li_ge240, li_le240, li_gt240, li_lt41, li_ge41, li_le41, li_gt41, li_lt48, li_ge48, li_le48, li_gt48, li_lt49, li_ge49, li_le49, li_gt49, li_lt60, li_ge60, li_le60, li_gt60, li_lt144, li_ge144, li_le144, li_gt144, li_lt145, li_ge145, li_le145, li_gt145, li_lt160, li_ge160, li_le160, li_gt160, li_lt336, li_ge336, li_le336, li_gt336, li_lt585, li_ge585, li_le585, li_gt585, li_lt633, li_ge633, li_le633, li_gt633, li_lt1000000, li_ge1000000, li_le1000000, li_gt1000000, li_lt2304, li_ge2304, li_le2304, li_gt2304, li_lt50, li_ge50, li_le50, li_gt50, li_le0, li_gt0, o1, o0]
        exact ⟨fun q => by omega, fun _ => br_f a (br_f b (h2 post hp))⟩
/-- both settle, and hold the same again -/
theorem st_settle {f_trials f_drafted f_pairs f_metCount f_meetingCount : Int32} {a_held a_saved a_draft a_toldBefore a_pairX a_pairY a_stack a_met a_metAs a_copies a_meetings a_wasMeeting a_firstMet a_depths a_isKept : Nat → Int32} {g_trials g_drafted g_found : Int32} {b_s b_saved b_draft b_who b_met b_stack b_fresh b_deep : Nat → Int32} {b_alike b_meets : Nat → Int64} {B : Nat} (hB : B + 81 < 1000000) (hr : re_P B a_held b_s) : ∃ (m' : Int32) (a' tb px py s' wh : Nat → Int32) (al : Nat → Int64), re_C (B + 81) a' s' ∧ (∀ post : SX → Prop, post (f_trials, f_drafted, m', f_metCount, f_meetingCount, a', a_saved, a_draft, tb, px, py, a_stack, a_met, a_metAs, a_copies, a_meetings, a_wasMeeting, a_firstMet, a_depths, a_isKept) → wpX_settle post (f_trials, f_drafted, f_pairs, f_metCount, f_meetingCount, a_held, a_saved, a_draft, a_toldBefore, a_pairX, a_pairY, a_stack, a_met, a_metAs, a_copies, a_meetings, a_wasMeeting, a_firstMet, a_depths, a_isKept)) ∧ (∀ post : SY → Prop, post (g_trials, g_drafted, g_found, s', b_saved, b_draft, wh, b_met, b_stack, b_fresh, b_deep, al, b_meets) → wpY_settle post (g_trials, g_drafted, g_found, b_s, b_saved, b_draft, b_who, b_met, b_stack, b_fresh, b_deep, b_alike, b_meets)) := by
  obtain ⟨x1', h1, h2⟩ := yw_settle_4 (g_trials := g_trials) (g_drafted := g_drafted) (g_found := g_found) (b_s := b_s) (b_saved := b_saved) (b_draft := b_draft) (b_who := b_who) (b_met := b_met) (b_stack := b_stack) (b_fresh := b_fresh) (b_deep := b_deep) (b_alike := b_alike) (b_meets := b_meets) 8 0 0 rfl (Or.inl rfl) (fun _ i hi => by omega)
  rcases h1 with ⟨z1, z2⟩ | z1
  · have N := hr.2.2.2.2.2
    have hC : re_C B a_held b_s := by
      refine ⟨hr, ?_, ?_⟩
      · intro t q ht h3 hq e
        have := (N.2.2.1 t ht).1
        rw [h3] at this
        exact absurd this.symm (z2 t ht).1
      · intro k x hk hx e
        have h4 := (N.2.2.2.1 k hk).1
        have h5 := (z2 k hk).2
        rw [← h4, e] at h5
        exact absurd h5 (nI_pos (by omega))
    obtain ⟨m', tb, px, py, hX⟩ := xs_idle (f_trials := f_trials) (f_drafted := f_drafted) (f_pairs := f_pairs) (f_metCount := f_metCount) (f_meetingCount := f_meetingCount) (a_held := a_held) (a_saved := a_saved) (a_draft := a_draft) (a_toldBefore := a_toldBefore) (a_pairX := a_pairX) (a_pairY := a_pairY) (a_stack := a_stack) (a_met := a_met) (a_metAs := a_metAs) (a_copies := a_copies) (a_meetings := a_meetings) (a_wasMeeting := a_wasMeeting) (a_firstMet := a_firstMet) (a_depths := a_depths) (a_isKept := a_isKept) hC
    refine ⟨m', a_held, tb, px, py, b_s, b_who, b_alike, re_C_mono (by omega) hC, hX, fun post hp => ?_⟩
    unfold wpY_settle
    refine ⟨_, h2 post ⟨1, ?_⟩⟩
    rw [z1, wY_settle_51]
    exact br_t rfl hp
  · obtain ⟨m', a', tb, px, py, s', wh, al, g1, g2, g3⟩ := st_loop (f_trials := f_trials) (f_drafted := f_drafted) (f_pairs := f_pairs) (f_metCount := f_metCount) (f_meetingCount := f_meetingCount) (a_held := a_held) (a_saved := a_saved) (a_draft := a_draft) (a_toldBefore := a_toldBefore) (a_pairX := a_pairX) (a_pairY := a_pairY) (a_stack := a_stack) (a_met := a_met) (a_metAs := a_metAs) (a_copies := a_copies) (a_meetings := a_meetings) (a_wasMeeting := a_wasMeeting) (a_firstMet := a_firstMet) (a_depths := a_depths) (a_isKept := a_isKept) (g_trials := g_trials) (g_drafted := g_drafted) (g_found := g_found) (b_s := b_s) (b_saved := b_saved) (b_draft := b_draft) (b_who := b_who) (b_met := b_met) (b_stack := b_stack) (b_fresh := b_fresh) (b_deep := b_deep) (b_alike := b_alike) (b_meets := b_meets) 8 0 B f_pairs a_held a_toldBefore a_pairX a_pairY b_s b_who b_alike (tc_le _) (by omega) (by omega) hr
    refine ⟨m', a', tb, px, py, s', wh, al, re_C_mono (by omega) g1, fun post hp => ⟨_, g2 post hp⟩, fun post hp => ?_⟩
    unfold wpY_settle
    refine ⟨_, h2 post ⟨9, ?_⟩⟩
    rw [z1]
    exact g3 post hp
end
section
/-- a TEST is set -/
theorem ts_N {B : Nat} {a a1 s s1 : Nat → Int32} {t q : Nat} {yv : Int32} (ht : t < 8) (h : re_N B a s) (uq : xv_U a q) (hy : yv = -1 ∨ ∃ y, xv_U a y ∧ yv = nI y) (ha : a1 (480 + t) = 3 ∧ a1 (488 + t) = nI q ∧ a1 (496 + t) = yv ∧ ∀ i, i ≠ 480 + t → i ≠ 488 + t → i ≠ 496 + t → a1 i = a i) (hs : s1 (544 + t) = 3 ∧ s1 (528 + t) = nI q ∧ s1 (536 + t) = yv ∧ ∀ i, i ≠ 544 + t → i ≠ 528 + t → i ≠ 536 + t → s1 i = s i) : re_N B a1 s1 := by
  obtain ⟨h1, h2, h3, h4, h5, h6, h7⟩ := h
  obtain ⟨x0, x1, x2, aN⟩ := ha
  obtain ⟨y0, y1, y2, sN⟩ := hs
  have hU : xv_U a1 = xv_U a := by
    funext x
    unfold xv_U
    apply propext
    constructor
    · intro ⟨p, q⟩
      rw [aN _ (by omega) (by omega) (by omega)] at q; exact ⟨p, q⟩
    · intro ⟨p, q⟩
      rw [← aN _ (by omega) (by omega) (by omega)] at q; exact ⟨p, q⟩
  unfold re_N
  rw [hU]
  refine ⟨?_, ?_, ?_, ?_, ?_, ?_, ?_⟩
  · intro x hx; rw [aN (384 + x) (by omega) (by omega) (by omega), sN (480 + x) (by omega) (by omega) (by omega)]; exact h1 x hx
  · intro x hx; rw [aN (432 + x) (by omega) (by omega) (by omega), sN (432 + x) (by omega) (by omega) (by omega)]; exact h2 x hx
  · intro x hx
    by_cases q : x = t
    · rw [q, x0, x1, x2, y0, y1, y2]
      exact ⟨rfl, rfl, rfl, fun _ => ⟨⟨_, uq, rfl⟩, hy⟩⟩
    · rw [aN (480 + x) (by omega) (by omega) (by omega), aN (488 + x) (by omega) (by omega) (by omega), aN (496 + x) (by omega) (by omega) (by omega), sN (544 + x) (by omega) (by omega) (by omega), sN (528 + x) (by omega) (by omega) (by omega), sN (536 + x) (by omega) (by omega) (by omega)]; exact h3 x hx
  · intro x hx
    rw [aN (504 + x) (by omega) (by omega) (by omega), aN (512 + x) (by omega) (by omega) (by omega), sN (552 + x) (by omega) (by omega) (by omega), sN (560 + x) (by omega) (by omega) (by omega)]; exact h4 x hx
  · intro x hx; rw [aN (520 + x) (by omega) (by omega) (by omega), sN (568 + x) (by omega) (by omega) (by omega)]; exact h5 x hx
  · rw [aN (584) (by omega) (by omega) (by omega), sN (572) (by omega) (by omega) (by omega)]; exact h6
  · intro x hx; rw [aN (524 + x) (by omega) (by omega) (by omega), sN (573 + x) (by omega) (by omega) (by omega)]; exact h7 x hx
/-- a TRIGGER is set -/
theorem tr_N {B : Nat} {a a1 s s1 : Nat → Int32} {k x y : Nat} (hk : k < 8) (h : re_N B a s) (ux : xv_U a x) (uy : xv_U a y) (ha : a1 (504 + k) = nI x ∧ a1 (512 + k) = nI y ∧ ∀ i, i ≠ 504 + k → i ≠ 512 + k → a1 i = a i) (hs : s1 (552 + k) = nI x ∧ s1 (560 + k) = nI y ∧ ∀ i, i ≠ 552 + k → i ≠ 560 + k → s1 i = s i) : re_N B a1 s1 := by
  obtain ⟨h1, h2, h3, h4, h5, h6, h7⟩ := h
  obtain ⟨x0, x1, aN⟩ := ha
  obtain ⟨y0, y1, sN⟩ := hs
  have hU : xv_U a1 = xv_U a := by
    funext x
    unfold xv_U
    apply propext
    constructor
    · intro ⟨p, q⟩
      rw [aN _ (by omega) (by omega)] at q; exact ⟨p, q⟩
    · intro ⟨p, q⟩
      rw [← aN _ (by omega) (by omega)] at q; exact ⟨p, q⟩
  unfold re_N
  rw [hU]
  refine ⟨?_, ?_, ?_, ?_, ?_, ?_, ?_⟩
  · intro x hx; rw [aN (384 + x) (by omega) (by omega), sN (480 + x) (by omega) (by omega)]; exact h1 x hx
  · intro x hx; rw [aN (432 + x) (by omega) (by omega), sN (432 + x) (by omega) (by omega)]; exact h2 x hx
  · intro x hx
    rw [aN (480 + x) (by omega) (by omega), aN (488 + x) (by omega) (by omega), aN (496 + x) (by omega) (by omega), sN (544 + x) (by omega) (by omega), sN (528 + x) (by omega) (by omega), sN (536 + x) (by omega) (by omega)]; exact h3 x hx
  · intro j hj
    by_cases q : j = k
    · rw [q, x0, x1, y0, y1]
      exact ⟨rfl, Or.inr ⟨x, y, ux, uy, rfl, rfl, rfl⟩⟩
    · rw [aN (504 + j) (by omega) (by omega), aN (512 + j) (by omega) (by omega), sN (552 + j) (by omega) (by omega), sN (560 + j) (by omega) (by omega)]; exact h4 j hj
  · intro x hx; rw [aN (520 + x) (by omega) (by omega), sN (568 + x) (by omega) (by omega)]; exact h5 x hx
  · rw [aN (584) (by omega) (by omega), sN (572) (by omega) (by omega)]; exact h6
  · intro x hx; rw [aN (524 + x) (by omega) (by omega), sN (573 + x) (by omega) (by omega)]; exact h7 x hx
/-- one is asked for -/
theorem as_N {B : Nat} {a a1 s s1 : Nat → Int32} {z : Nat} (hz : z < 48) (h : re_N B a s) (uz : xv_U a z) (ha : a1 (384 + z) = 1 ∧ ∀ i, i ≠ 384 + z → a1 i = a i) (hs : s1 (480 + z) = 1 ∧ ∀ i, i ≠ 480 + z → s1 i = s i) : re_N B a1 s1 := by
  obtain ⟨h1, h2, h3, h4, h5, h6, h7⟩ := h
  obtain ⟨x0, aN⟩ := ha
  obtain ⟨y0, sN⟩ := hs
  have hU : xv_U a1 = xv_U a := by
    funext x
    unfold xv_U
    apply propext
    constructor
    · intro ⟨p, q⟩
      rw [aN _ (by omega)] at q; exact ⟨p, q⟩
    · intro ⟨p, q⟩
      rw [← aN _ (by omega)] at q; exact ⟨p, q⟩
  unfold re_N
  rw [hU]
  refine ⟨?_, ?_, ?_, ?_, ?_, ?_, ?_⟩
  · intro x hx
    by_cases q : x = z
    · rw [q, x0, y0]; exact ⟨rfl, Or.inr ⟨rfl, uz⟩⟩
    · rw [aN (384 + x) (by omega), sN (480 + x) (by omega)]; exact h1 x hx
  · intro x hx; rw [aN (432 + x) (by omega), sN (432 + x) (by omega)]; exact h2 x hx
  · intro x hx
    rw [aN (480 + x) (by omega), aN (488 + x) (by omega), aN (496 + x) (by omega), sN (544 + x) (by omega), sN (528 + x) (by omega), sN (536 + x) (by omega)]; exact h3 x hx
  · intro x hx
    rw [aN (504 + x) (by omega), aN (512 + x) (by omega), sN (552 + x) (by omega), sN (560 + x) (by omega)]; exact h4 x hx
  · intro x hx; rw [aN (520 + x) (by omega), sN (568 + x) (by omega)]; exact h5 x hx
  · rw [aN (584) (by omega), sN (572) (by omega)]; exact h6
  · intro x hx; rw [aN (524 + x) (by omega), sN (573 + x) (by omega)]; exact h7 x hx
/-- a ROOT -/
theorem rt_N {B : Nat} {a a1 s s1 : Nat → Int32} {z : Nat} {m : Int32} (hz : z < 48) (h : re_N B a s) (uz : xv_U a z) (hm : m = 0 ∨ m = 1) (ha : a1 (432 + z) = m ∧ ∀ i, i ≠ 432 + z → a1 i = a i) (hs : s1 (432 + z) = m ∧ ∀ i, i ≠ 432 + z → s1 i = s i) : re_N B a1 s1 := by
  obtain ⟨h1, h2, h3, h4, h5, h6, h7⟩ := h
  obtain ⟨x0, aN⟩ := ha
  obtain ⟨y0, sN⟩ := hs
  have hU : xv_U a1 = xv_U a := by
    funext x
    unfold xv_U
    apply propext
    constructor
    · intro ⟨p, q⟩
      rw [aN _ (by omega)] at q; exact ⟨p, q⟩
    · intro ⟨p, q⟩
      rw [← aN _ (by omega)] at q; exact ⟨p, q⟩
  unfold re_N
  rw [hU]
  refine ⟨?_, ?_, ?_, ?_, ?_, ?_, ?_⟩
  · intro x hx; rw [aN (384 + x) (by omega), sN (480 + x) (by omega)]; exact h1 x hx
  · intro x hx
    by_cases q : x = z
    · rw [q, x0, y0]
      refine ⟨rfl, ?_⟩
      rcases hm with hm | hm
      · exact Or.inl hm
      · exact Or.inr ⟨hm, uz⟩
    · rw [aN (432 + x) (by omega), sN (432 + x) (by omega)]; exact h2 x hx
  · intro x hx
    rw [aN (480 + x) (by omega), aN (488 + x) (by omega), aN (496 + x) (by omega), sN (544 + x) (by omega), sN (528 + x) (by omega), sN (536 + x) (by omega)]; exact h3 x hx
  · intro x hx
    rw [aN (504 + x) (by omega), aN (512 + x) (by omega), sN (552 + x) (by omega), sN (560 + x) (by omega)]; exact h4 x hx
  · intro x hx; rw [aN (520 + x) (by omega), sN (568 + x) (by omega)]; exact h5 x hx
  · rw [aN (584) (by omega), sN (572) (by omega)]; exact h6
  · intro x hx; rw [aN (524 + x) (by omega), sN (573 + x) (by omega)]; exact h7 x hx
/-- an END -/
theorem en_N {B : Nat} {a a1 s s1 : Nat → Int32} {e : Nat} {v : Int32} (he : e < 4) (h : re_N B a s) (hv : v = -1 ∨ ∃ x, xv_U a x ∧ v = nI x) (ha : a1 (520 + e) = v ∧ ∀ i, i ≠ 520 + e → a1 i = a i) (hs : s1 (568 + e) = v ∧ ∀ i, i ≠ 568 + e → s1 i = s i) : re_N B a1 s1 := by
  obtain ⟨h1, h2, h3, h4, h5, h6, h7⟩ := h
  obtain ⟨x0, aN⟩ := ha
  obtain ⟨y0, sN⟩ := hs
  have hU : xv_U a1 = xv_U a := by
    funext x
    unfold xv_U
    apply propext
    constructor
    · intro ⟨p, q⟩
      rw [aN _ (by omega)] at q; exact ⟨p, q⟩
    · intro ⟨p, q⟩
      rw [← aN _ (by omega)] at q; exact ⟨p, q⟩
  unfold re_N
  rw [hU]
  refine ⟨?_, ?_, ?_, ?_, ?_, ?_, ?_⟩
  · intro x hx; rw [aN (384 + x) (by omega), sN (480 + x) (by omega)]; exact h1 x hx
  · intro x hx; rw [aN (432 + x) (by omega), sN (432 + x) (by omega)]; exact h2 x hx
  · intro x hx
    rw [aN (480 + x) (by omega), aN (488 + x) (by omega), aN (496 + x) (by omega), sN (544 + x) (by omega), sN (528 + x) (by omega), sN (536 + x) (by omega)]; exact h3 x hx
  · intro x hx
    rw [aN (504 + x) (by omega), aN (512 + x) (by omega), sN (552 + x) (by omega), sN (560 + x) (by omega)]; exact h4 x hx
  · intro x hx
    by_cases q : x = e
    · rw [q, x0, y0]; exact ⟨rfl, hv⟩
    · rw [aN (520 + x) (by omega), sN (568 + x) (by omega)]; exact h5 x hx
  · rw [aN (584) (by omega), sN (572) (by omega)]; exact h6
  · intro x hx; rw [aN (524 + x) (by omega), sN (573 + x) (by omega)]; exact h7 x hx
theorem re_S_congr {a a' : Nat → Int32} (h1 : ∀ i, i < 432 → a' i = a i) (h2 : ∀ i, 480 ≤ i → i < 520 → a' i = a i) (S1 : re_S1 a) (S2 : re_S2 a) : re_S1 a' ∧ re_S2 a' := by
  have ha' : ∀ i, i < 384 → a' i = a i := fun i hi => h1 i (by omega)
  obtain ⟨u, l, k, _, _⟩ := xv_congr ha'
  have t := xv_congrT ha'
  constructor
  · intro t' q ht h3' hq e
    rw [h2 _ (by omega) (by omega)] at h3' e
    rw [h2 _ (by omega) (by omega), u, l, k, t]
    exact S1 t' q ht h3' hq e
  · intro k' x hk hx e
    rw [h2 _ (by omega) (by omega)] at e
    rw [k, l]
    obtain ⟨g1, g2⟩ := S2 k' x hk hx e
    refine ⟨g1, fun n => g2 ?_⟩
    rcases n with ⟨v, v1, v2, v3⟩ | ⟨t', q, t1, t2, t3, t4, t5, t6⟩
    · rw [h1 _ (by omega)] at v2
      rw [l] at v3
      exact Or.inl ⟨v, v1, v2, v3⟩
    · rw [h2 _ (by omega) (by omega)] at t2 t3 t5
      rw [l] at t6
      exact Or.inr ⟨t', q, t1, t2, t3, t4, t5, t6⟩
end
section
/-- what a telling of a value leaves with the component -/
def tv_X (a a' : Nat → Int32) (x : Nat) (sh : Int32 × Int32) (p : Nat → Nat) (r : Int32) : Prop :=
  (xv_K a (xv_L a x) = 0 ∧ sv_X a a' (xv_L a x) sh p ∧ r = 1) ∨
  (xv_K a (xv_L a x) ≠ 0 ∧ (xv_K a (xv_L a x), xv_V a (xv_L a x)) = sh ∧ xt_R a a' (ma_2 (ma_ct sh.1) (xv_P a (xv_L a x)) p) r) ∨
  (xv_K a (xv_L a x) ≠ 0 ∧ (xv_K a (xv_L a x), xv_V a (xv_L a x)) ≠ sh ∧ r = 2 ∧ a' = a)
theorem ma_2_congr {n : Nat} {p p' q q' : Nat → Nat} (h1 : ∀ k, k < n → p k = p' k) (h2 : ∀ k, k < n → q k = q' k) : ma_2 n p q = ma_2 n p' q' := by
  funext u v
  apply propext
  constructor
  · intro ⟨k, hk, a, b⟩
    exact ⟨k, hk, by rw [a, h1 k hk], by rw [b, h2 k hk]⟩
  · intro ⟨k, hk, a, b⟩
    exact ⟨k, hk, by rw [a, h1 k hk], by rw [b, h2 k hk]⟩
theorem xt_0 {a : Nat → Int32} (g : xv_G a) (px py : Nat → Nat) : xt_R a a (ma_2 0 px py) 1 := by
  refine Or.inr ⟨rfl, px, py, 0, 0, 1, Nat.le_refl _, ?_⟩
  rw [← ma_Q2]
  exact xm_0 g (by omega) (fun j hj => by omega)
theorem xw_tellNumber {f_trials f_drafted f_pairs f_metCount f_meetingCount : Int32} {a_held a_saved a_draft a_toldBefore a_pairX a_pairY a_stack a_met a_metAs a_copies a_meetings a_wasMeeting a_firstMet a_depths a_isKept : Nat → Int32} (g : xv_G a_held) {x : Nat} {v : Int32} (ux : xv_U a_held x) : ∃ (r : Int32) (a' : Nat → Int32), tv_X a_held a' x (1, v) (fun _ => 0) r ∧ ∀ post : Int32 → SX → Prop, post r (f_trials, f_drafted, f_pairs, f_metCount, f_meetingCount, a', a_saved, a_draft, a_toldBefore, a_pairX, a_pairY, a_stack, a_met, a_metAs, a_copies, a_meetings, a_wasMeeting, a_firstMet, a_depths, a_isKept) → wpX_tellNumber post (f_trials, f_drafted, f_pairs, f_metCount, f_meetingCount, a_held, a_saved, a_draft, a_toldBefore, a_pairX, a_pairY, a_stack, a_met, a_metAs, a_copies, a_meetings, a_wasMeeting, a_firstMet, a_depths, a_isKept) (nI x) v := by
  have x48 := ux.1
  obtain ⟨eL, lL⟩ := xv_HL g.1 x48
  have kc := xv_HK (a := a_held) lL
  have vc := xv_HV (a := a_held) lL
  generalize hc : xv_L a_held x = c at *
  by_cases k0 : xv_K a_held c = 0
  · refine ⟨1, upd (upd a_held (48 + c) 1) (96 + c) v, Or.inl ⟨by rw [hc]; exact k0, ?_, rfl⟩, fun post hp => ?_⟩
    · rw [hc]
      refine ⟨?_, pk_us, ?_, fun k hk => ?_, fun k hk => ?_, fun d hd ne => ⟨?_, ?_, ?_, fun k hk => ?_⟩, fun i hi => ?_⟩
      · rw [pk_un (by omega), pk_us]
      · rw [pk_un (by omega), pk_un (by omega)]
        have := (xv_HC g.1 lL).1
        rw [k0, ma_ct_0] at this
        rw [this]; rfl
      · rw [pk_un (by omega), pk_un (by omega)]; exact g.1.2.2.1 c k lL hk
      · exact absurd hk (by rw [show ma_ct ((1 : Int32), v).1 = 0 from ma_ct_1]; omega)
      · rw [pk_un (by omega), pk_un (by omega)]
      · rw [pk_un (by omega), pk_un (by omega)]
      · rw [pk_un (by omega), pk_un (by omega)]
      · rw [pk_un (by omega), pk_un (by omega)]
      · rw [pk_un (by omega), pk_un (by omega)]
    · unfold wpX_tellNumber
      simp (disch := omega) only [forall_eq, true_and, and_true, Nat.zero_add, nI_clamp, li_vin, nI_add, nI_eq, nI_leI, nI_ltI, li_0le, li_lt0, li_nn1, li_e0, not_true_eq_false, not_false_eq_true, false_implies, true_implies, forall_const, li_a0, li_b0, li_a1, li_b1, li_a2, li_b2, li_a3, li_b3, li_a7, li_b7, li_a8, li_b8, li_a16, li_b16, li_a48, li_b48, li_a584, li_b584, li_a572, li_b572, li_a96, li_b96, li_a144, li_b144, li_a192, li_b192, li_a240, li_b240, li_a336, li_b336, li_a384, li_b384, li_a432, li_b432, li_a480, li_b480, li_a488, li_b488, li_a496, li_b496, li_a504, li_b504, li_a512, li_b512, li_a520, li_b520, li_a524, li_b524, li_a528, li_b528, li_a536, li_b536, li_a544, li_b544, li_a552, li_b552, li_a560, li_b560, li_a568, li_b568, li_a573, li_b573, li_a585, li_b585, li_a633, li_b633, li_m3, li_n3, li_m4, li_n4, li_m48, li_n48, li_m50, li_n50, li_m585, li_n585, li_m633, li_n633, li_lt2, li_ge2, li_le2, li_gt2, li_lt1, li_ge1, li_le1, li_gt1, li_lt3, li_ge3, li_le3, li_gt3, li_lt4, li_ge4, li_le4, li_gt4, li_lt7, li_ge7, li_le7, li_gt7, li_lt8, li_ge8, li_le8, li_gt8, li_lt40, li_ge40, li_le40, li_gt40, li_lt240, li_ge240, li_le240, li_gt240, li_lt41, li_ge41, li_le41, li_gt41, li_lt48, li_ge48, li_le48, li_gt48, li_lt49, li_ge49, li_le49, li_gt49, li_lt60, li_ge60, li_le60, li_gt60, li_lt144, li_ge144, li_le144, li_gt144, li_lt145, li_ge145, li_le145, li_gt145, li_lt160, li_ge160, li_le160, li_gt160, li_lt336, li_ge336, li_le336, li_gt336, li_lt585, li_ge585, li_le585, li_gt585, li_lt633, li_ge633, li_le633, li_gt633, li_lt1000000, li_ge1000000, li_le1000000, li_gt1000000, li_lt2304, li_ge2304, li_le2304, li_gt2304, li_lt50, li_ge50, li_le50, li_gt50, li_le0, li_gt0, eL, kc, k0]
      exact hp
  · by_cases e : xv_K a_held c = 1 ∧ xv_V a_held c = v
    · refine ⟨1, a_held, Or.inr (Or.inl ⟨by rw [hc]; exact k0, by rw [hc, e.1, e.2], ?_⟩), fun post hp => ?_⟩
      · rw [show ma_ct ((1 : Int32), v).1 = 0 from ma_ct_1]
        exact xt_0 g _ _
      · unfold wpX_tellNumber
        simp (disch := omega) only [forall_eq, true_and, and_true, Nat.zero_add, nI_clamp, li_vin, nI_add, nI_eq, nI_leI, nI_ltI, li_0le, li_lt0, li_nn1, li_e0, not_true_eq_false, not_false_eq_true, false_implies, true_implies, forall_const, li_a0, li_b0, li_a1, li_b1, li_a2, li_b2, li_a3, li_b3, li_a7, li_b7, li_a8, li_b8, li_a16, li_b16, li_a48, li_b48, li_a584, li_b584, li_a572, li_b572, li_a96, li_b96, li_a144, li_b144, li_a192, li_b192, li_a240, li_b240, li_a336, li_b336, li_a384, li_b384, li_a432, li_b432, li_a480, li_b480, li_a488, li_b488, li_a496, li_b496, li_a504, li_b504, li_a512, li_b512, li_a520, li_b520, li_a524, li_b524, li_a528, li_b528, li_a536, li_b536, li_a544, li_b544, li_a552, li_b552, li_a560, li_b560, li_a568, li_b568, li_a573, li_b573, li_a585, li_b585, li_a633, li_b633, li_m3, li_n3, li_m4, li_n4, li_m48, li_n48, li_m50, li_n50, li_m585, li_n585, li_m633, li_n633, li_lt2, li_ge2, li_le2, li_gt2, li_lt1, li_ge1, li_le1, li_gt1, li_lt3, li_ge3, li_le3, li_gt3, li_lt4, li_ge4, li_le4, li_gt4, li_lt7, li_ge7, li_le7, li_gt7, li_lt8, li_ge8, li_le8, li_gt8, li_lt40, li_ge40, li_le40, li_gt40, li_lt240, li_ge240, li_le240, li_gt240, li_lt41, li_ge41, li_le41, li_gt41, li_lt48, li_ge48, li_le48, li_gt48, li_lt49, li_ge49, li_le49, li_gt49, li_lt60, li_ge60, li_le60, li_gt60, li_lt144, li_ge144, li_le144, li_gt144, li_lt145, li_ge145, li_le145, li_gt145, li_lt160, li_ge160, li_le160, li_gt160, li_lt336, li_ge336, li_le336, li_gt336, li_lt585, li_ge585, li_le585, li_gt585, li_lt633, li_ge633, li_le633, li_gt633, li_lt1000000, li_ge1000000, li_le1000000, li_gt1000000, li_lt2304, li_ge2304, li_le2304, li_gt2304, li_lt50, li_ge50, li_le50, li_gt50, li_le0, li_gt0, eL, kc, vc]
        exact br_f k0 (br_t e.1 (br_t e.2 hp))
    · refine ⟨2, a_held, Or.inr (Or.inr ⟨by rw [hc]; exact k0, fun q => e ?_, rfl, rfl⟩), fun post hp => ?_⟩
      · rw [hc] at q
        exact ⟨congrArg Prod.fst q, congrArg Prod.snd q⟩
      · unfold wpX_tellNumber
        simp (disch := omega) only [forall_eq, true_and, and_true, Nat.zero_add, nI_clamp, li_vin, nI_add, nI_eq, nI_leI, nI_ltI, li_0le, li_lt0, li_nn1, li_e0, not_true_eq_false, not_false_eq_true, false_implies, true_implies, forall_const, li_a0, li_b0, li_a1, li_b1, li_a2, li_b2, li_a3, li_b3, li_a7, li_b7, li_a8, li_b8, li_a16, li_b16, li_a48, li_b48, li_a584, li_b584, li_a572, li_b572, li_a96, li_b96, li_a144, li_b144, li_a192, li_b192, li_a240, li_b240, li_a336, li_b336, li_a384, li_b384, li_a432, li_b432, li_a480, li_b480, li_a488, li_b488, li_a496, li_b496, li_a504, li_b504, li_a512, li_b512, li_a520, li_b520, li_a524, li_b524, li_a528, li_b528, li_a536, li_b536, li_a544, li_b544, li_a552, li_b552, li_a560, li_b560, li_a568, li_b568, li_a573, li_b573, li_a585, li_b585, li_a633, li_b633, li_m3, li_n3, li_m4, li_n4, li_m48, li_n48, li_m50, li_n50, li_m585, li_n585, li_m633, li_n633, li_lt2, li_ge2, li_le2, li_gt2, li_lt1, li_ge1, li_le1, li_gt1, li_lt3, li_ge3, li_le3, li_gt3, li_lt4, li_ge4, li_le4, li_gt4, li_lt7, li_ge7, li_le7, li_gt7, li_lt8, li_ge8, li_le8, li_gt8, li_lt40, li_ge40, li_le40, li_gt40, li_lt240, li_ge240, li_le240, li_gt240, li_lt41, li_ge41, li_le41, li_gt41, li_lt48, li_ge48, li_le48, li_gt48, li_lt49, li_ge49, li_le49, li_gt49, li_lt60, li_ge60, li_le60, li_gt60, li_lt144, li_ge144, li_le144, li_gt144, li_lt145, li_ge145, li_le145, li_gt145, li_lt160, li_ge160, li_le160, li_gt160, li_lt336, li_ge336, li_le336, li_gt336, li_lt585, li_ge585, li_le585, li_gt585, li_lt633, li_ge633, li_le633, li_gt633, li_lt1000000, li_ge1000000, li_le1000000, li_gt1000000, li_lt2304, li_ge2304, li_le2304, li_gt2304, li_lt50, li_ge50, li_le50, li_gt50, li_le0, li_gt0, eL, kc, vc]
        exact br_f k0 (br_c (fun e1 => br_f (fun e2 => e ⟨e1, e2⟩) hp) (fun _ => hp))
theorem xw_tellRecord_123 {f_trials f_drafted f_pairs f_metCount f_meetingCount : Int32} {a_held a_saved a_draft a_toldBefore a_pairX a_pairY a_stack a_met a_metAs a_copies a_meetings a_wasMeeting a_firstMet a_depths a_isKept : Nat → Int32} {x3 x4 x5 x6 : Int32} {b : Nat} (hb : b + 3 ≤ 585) : ∀ d j (a_pairX : Nat → Int32), j + d = 3 → ∃ px : Nat → Int32, (∀ k, j ≤ k → k < 3 → px k = a_held (b + k)) ∧ (∀ k, k < j → px k = a_pairX k) ∧ ∀ post : Int32 → SX → Prop, wpX_merge (fun r u => match u with | (f_trials, f_drafted, f_pairs, f_metCount, f_meetingCount, a_held, a_saved, a_draft, a_toldBefore, a_pairX, a_pairY, a_stack, a_met, a_metAs, a_copies, a_meetings, a_wasMeeting, a_firstMet, a_depths, a_isKept) => wpX_undoneIfFailed (fun r u => match u with | (f_trials, f_drafted, f_pairs, f_metCount, f_meetingCount, a_held, a_saved, a_draft, a_toldBefore, a_pairX, a_pairY, a_stack, a_met, a_metAs, a_copies, a_meetings, a_wasMeeting, a_firstMet, a_depths, a_isKept) => post r (f_trials, f_drafted, f_pairs, f_metCount, f_meetingCount, a_held, a_saved, a_draft, a_toldBefore, a_pairX, a_pairY, a_stack, a_met, a_metAs, a_copies, a_meetings, a_wasMeeting, a_firstMet, a_depths, a_isKept)) (f_trials, f_drafted, f_pairs, f_metCount, f_meetingCount, a_held, a_saved, a_draft, a_toldBefore, a_pairX, a_pairY, a_stack, a_met, a_metAs, a_copies, a_meetings, a_wasMeeting, a_firstMet, a_depths, a_isKept) r) (f_trials, f_drafted, x3, f_metCount, f_meetingCount, a_held, a_saved, a_draft, a_toldBefore, px, upd (upd (upd a_pairY 0 x4) 1 x5) 2 x6, a_stack, a_met, a_metAs, a_copies, a_meetings, a_wasMeeting, a_firstMet, a_depths, a_isKept) → wX_tellRecord_123 post x3 x4 x5 x6 (nI b) f_trials f_drafted f_pairs f_metCount f_meetingCount (d + 1) (nI j) a_held a_saved a_draft a_toldBefore a_pairX a_pairY a_stack a_met a_metAs a_copies a_meetings a_wasMeeting a_firstMet a_depths a_isKept := by
  intro d
  induction d with
  | zero =>
    intro j px hj
    refine ⟨px, fun k h1 h2 => by omega, fun _ _ => rfl, fun post hp => ?_⟩
    unfold wX_tellRecord_123
    simp (disch := omega) only [forall_eq, true_and, and_true, Nat.zero_add, nI_clamp, li_vin, nI_add, nI_eq, nI_leI, nI_ltI, li_0le, li_lt0, li_nn1, li_e0, not_true_eq_false, not_false_eq_true, false_implies, true_implies, forall_const, li_a0, li_b0, li_a1, li_b1, li_a2, li_b2, li_a3, li_b3, li_a7, li_b7, li_a8, li_b8, li_a16, li_b16, li_a48, li_b48, li_a584, li_b584, li_a572, li_b572, li_a96, li_b96, li_a144, li_b144, li_a192, li_b192, li_a240, li_b240, li_a336, li_b336, li_a384, li_b384, li_a432, li_b432, li_a480, li_b480, li_a488, li_b488, li_a496, li_b496, li_a504, li_b504, li_a512, li_b512, li_a520, li_b520, li_a524, li_b524, li_a528, li_b528, li_a536, li_b536, li_a544, li_b544, li_a552, li_b552, li_a560, li_b560, li_a568, li_b568, li_a573, li_b573, li_a585, li_b585, li_a633, li_b633, li_m3, li_n3, li_m4, li_n4, li_m48, li_n48, li_m50, li_n50, li_m585, li_n585, li_m633, li_n633, li_lt2, li_ge2, li_le2, li_gt2, li_lt1, li_ge1, li_le1, li_gt1, li_lt3, li_ge3, li_le3, li_gt3, li_lt4, li_ge4, li_le4, li_gt4, li_lt7, li_ge7, li_le7, li_gt7, li_lt8, li_ge8, li_le8, li_gt8, li_lt40, li_ge40, li_le40, li_gt40, li_lt240, li_ge240, li_le240, li_gt240, li_lt41, li_ge41, li_le41, li_gt41, li_lt48, li_ge48, li_le48, li_gt48, li_lt49, li_ge49, li_le49, li_gt49, li_lt60, li_ge60, li_le60, li_gt60, li_lt144, li_ge144, li_le144, li_gt144, li_lt145, li_ge145, li_le145, li_gt145, li_lt160, li_ge160, li_le160, li_gt160, li_lt336, li_ge336, li_le336, li_gt336, li_lt585, li_ge585, li_le585, li_gt585, li_lt633, li_ge633, li_le633, li_gt633, li_lt1000000, li_ge1000000, li_le1000000, li_gt1000000, li_lt2304, li_ge2304, li_le2304, li_gt2304, li_lt50, li_ge50, li_le50, li_gt50, li_le0, li_gt0]
    exact ⟨fun _ => hp, fun q => by omega⟩
  | succ d ih =>
    intro j px hj
    obtain ⟨px', h1, h2, h3⟩ := ih (j + 1) (upd px j (a_held (b + j))) (by omega)
    refine ⟨px', ?_, ?_, fun post hp => ?_⟩
    · intro k g1 g2
      by_cases q : k = j
      · rw [q, h2 _ (by omega), pk_us]
      · exact h1 k (by omega) g2
    · intro k hk
      rw [h2 k (by omega), pk_un (by omega)]
    · unfold wX_tellRecord_123
      simp (disch := omega) only [forall_eq, true_and, and_true, Nat.zero_add, nI_clamp, li_vin, nI_add, nI_eq, nI_leI, nI_ltI, li_0le, li_lt0, li_nn1, li_e0, not_true_eq_false, not_false_eq_true, false_implies, true_implies, forall_const, li_a0, li_b0, li_a1, li_b1, li_a2, li_b2, li_a3, li_b3, li_a7, li_b7, li_a8, li_b8, li_a16, li_b16, li_a48, li_b48, li_a584, li_b584, li_a572, li_b572, li_a96, li_b96, li_a144, li_b144, li_a192, li_b192, li_a240, li_b240, li_a336, li_b336, li_a384, li_b384, li_a432, li_b432, li_a480, li_b480, li_a488, li_b488, li_a496, li_b496, li_a504, li_b504, li_a512, li_b512, li_a520, li_b520, li_a524, li_b524, li_a528, li_b528, li_a536, li_b536, li_a544, li_b544, li_a552, li_b552, li_a560, li_b560, li_a568, li_b568, li_a573, li_b573, li_a585, li_b585, li_a633, li_b633, li_m3, li_n3, li_m4, li_n4, li_m48, li_n48, li_m50, li_n50, li_m585, li_n585, li_m633, li_n633, li_lt2, li_ge2, li_le2, li_gt2, li_lt1, li_ge1, li_le1, li_gt1, li_lt3, li_ge3, li_le3, li_gt3, li_lt4, li_ge4, li_le4, li_gt4, li_lt7, li_ge7, li_le7, li_gt7, li_lt8, li_ge8, li_le8, li_gt8, li_lt40, li_ge40, li_le40, li_gt40, li_lt240, li_ge240, li_le240, li_gt240, li_lt41, li_ge41, li_le41, li_gt41, li_lt48, li_ge48, li_le48, li_gt48, li_lt49, li_ge49, li_le49, li_gt49, li_lt60, li_ge60, li_le60, li_gt60, li_lt144, li_ge144, li_le144, li_gt144, li_lt145, li_ge145, li_le145, li_gt145, li_lt160, li_ge160, li_le160, li_gt160, li_lt336, li_ge336, li_le336, li_gt336, li_lt585, li_ge585, li_le585, li_gt585, li_lt633, li_ge633, li_le633, li_gt633, li_lt1000000, li_ge1000000, li_le1000000, li_gt1000000, li_lt2304, li_ge2304, li_le2304, li_gt2304, li_lt50, li_ge50, li_le50, li_gt50, li_le0, li_gt0]
      exact ⟨fun q => by omega, fun _ => h3 post hp⟩
theorem xw_tellRecord {f_trials f_drafted f_pairs f_metCount f_meetingCount : Int32} {a_held a_saved a_draft a_toldBefore a_pairX a_pairY a_stack a_met a_metAs a_copies a_meetings a_wasMeeting a_firstMet a_depths a_isKept : Nat → Int32} (g : xv_G a_held) {x l c p0 p1 p2 : Nat} {p : Nat → Nat} (ux : xv_U a_held x) (hl : l < 8) (hc3 : c ≤ 3) (h0 : p0 < 48) (h1 : p1 < 48) (h2 : p2 < 48) (e0 : p 0 = p0) (e1 : p 1 = p1) (e2 : p 2 = p2) (hU : ∀ k, k < c → xv_U a_held (p k)) : ∃ (r m' : Int32) (a' tb px py : Nat → Int32), tv_X a_held a' x (nI (2 + 4 * l + c), 0) p r ∧ ∀ post : Int32 → SX → Prop, post r (f_trials, f_drafted, m', f_metCount, f_meetingCount, a', a_saved, a_draft, tb, px, py, a_stack, a_met, a_metAs, a_copies, a_meetings, a_wasMeeting, a_firstMet, a_depths, a_isKept) → wpX_tellRecord post (f_trials, f_drafted, f_pairs, f_metCount, f_meetingCount, a_held, a_saved, a_draft, a_toldBefore, a_pairX, a_pairY, a_stack, a_met, a_metAs, a_copies, a_meetings, a_wasMeeting, a_firstMet, a_depths, a_isKept) (nI x) (nI l) (nI c) (nI p0) (nI p1) (nI p2) := by
  have x48 := ux.1
  have wx := g.2.1 x ux
  obtain ⟨eL, lL⟩ := xv_HL g.1 x48
  have kc := xv_HK (a := a_held) lL
  have ect : ma_ct (nI (2 + 4 * l + c)) = c := ma_ct_rec hl hc3
  generalize hcc : xv_L a_held x = cc at *
  by_cases k0 : xv_K a_held cc = 0
  · refine ⟨1, f_pairs, upd (upd (upd (upd (upd a_held (48 + cc) (nI (2 + 4 * l + c))) (144 + cc) (nI c)) (192 + 3 * cc) (nI p0)) (192 + 3 * cc + 1) (nI p1)) (192 + 3 * cc + 2) (nI p2), a_toldBefore, a_pairX, a_pairY, Or.inl ⟨by rw [hcc]; exact k0, ?_, rfl⟩, fun post hp => ?_⟩
    · rw [hcc]
      have part : ∀ k, k < 3 → upd (upd (upd (upd (upd a_held (48 + cc) (nI (2 + 4 * l + c))) (144 + cc) (nI c)) (192 + 3 * cc) (nI p0)) (192 + 3 * cc + 1) (nI p1)) (192 + 3 * cc + 2) (nI p2) (192 + 3 * cc + k) = nI (p k) ∧ p k < 48 := by
        intro k hk
        have : k = 0 ∨ k = 1 ∨ k = 2 := by omega
        rcases this with z | z | z
        · rw [z, e0, pk_un (by omega), pk_un (by omega), Nat.add_zero, pk_us]; exact ⟨rfl, h0⟩
        · rw [z, e1, pk_un (by omega), pk_us]; exact ⟨rfl, h1⟩
        · rw [z, e2, pk_us]; exact ⟨rfl, h2⟩
      refine ⟨?_, ?_, ?_, fun k hk => ⟨p k, (part k hk).2, (part k hk).1⟩, fun k hk => ?_, fun d hd ne => ⟨?_, ?_, ?_, fun k hk => ?_⟩, fun i hi => ?_⟩
      · simp (disch := omega) only [pk_un, pk_us]
      · simp (disch := omega) only [pk_un]
        rcases g.1.2.2.2.2.1 cc lL with z | z
        · rw [kc, k0] at z; exact absurd z (by decide)
        · exact z
      · simp (disch := omega) only [pk_un, pk_us]
        show nI c = nI (ma_ct (nI (2 + 4 * l + c)))
        rw [ect]
      · have : k < 3 := Nat.lt_of_lt_of_le hk (ma_ct_le _)
        exact (part k this).1
      · simp (disch := omega) only [pk_un]
      · simp (disch := omega) only [pk_un]
      · simp (disch := omega) only [pk_un]
      · simp (disch := omega) only [pk_un]
      · rcases hi with hi | hi
        · simp (disch := omega) only [pk_un]
        · simp (disch := omega) only [pk_un]
    · unfold wpX_tellRecord
      simp (disch := omega) only [forall_eq, true_and, and_true, Nat.zero_add, nI_clamp, li_vin, nI_add, nI_eq, nI_leI, nI_ltI, li_0le, li_lt0, li_nn1, li_e0, not_true_eq_false, not_false_eq_true, false_implies, true_implies, forall_const, li_a0, li_b0, li_a1, li_b1, li_a2, li_b2, li_a3, li_b3, li_a7, li_b7, li_a8, li_b8, li_a16, li_b16, li_a48, li_b48, li_a584, li_b584, li_a572, li_b572, li_a96, li_b96, li_a144, li_b144, li_a192, li_b192, li_a240, li_b240, li_a336, li_b336, li_a384, li_b384, li_a432, li_b432, li_a480, li_b480, li_a488, li_b488, li_a496, li_b496, li_a504, li_b504, li_a512, li_b512, li_a520, li_b520, li_a524, li_b524, li_a528, li_b528, li_a536, li_b536, li_a544, li_b544, li_a552, li_b552, li_a560, li_b560, li_a568, li_b568, li_a573, li_b573, li_a585, li_b585, li_a633, li_b633, li_m3, li_n3, li_m4, li_n4, li_m48, li_n48, li_m50, li_n50, li_m585, li_n585, li_m633, li_n633, li_lt2, li_ge2, li_le2, li_gt2, li_lt1, li_ge1, li_le1, li_gt1, li_lt3, li_ge3, li_le3, li_gt3, li_lt4, li_ge4, li_le4, li_gt4, li_lt7, li_ge7, li_le7, li_gt7, li_lt8, li_ge8, li_le8, li_gt8, li_lt40, li_ge40, li_le40, li_gt40, li_lt240, li_ge240, li_le240, li_gt240, li_lt41, li_ge41, li_le41, li_gt41, li_lt48, li_ge48, li_le48, li_gt48, li_lt49, li_ge49, li_le49, li_gt49, li_lt60, li_ge60, li_le60, li_gt60, li_lt144, li_ge144, li_le144, li_gt144, li_lt145, li_ge145, li_le145, li_gt145, li_lt160, li_ge160, li_le160, li_gt160, li_lt336, li_ge336, li_le336, li_gt336, li_lt585, li_ge585, li_le585, li_gt585, li_lt633, li_ge633, li_le633, li_gt633, li_lt1000000, li_ge1000000, li_le1000000, li_gt1000000, li_lt2304, li_ge2304, li_le2304, li_gt2304, li_lt50, li_ge50, li_le50, li_gt50, li_le0, li_gt0, eL, kc, k0]
      exact hp
  · by_cases e : xv_K a_held cc = nI (2 + 4 * l + c)
    · have V0 : xv_V a_held cc = 0 := by
        rw [← xv_HV lL]
        rcases g.1.2.2.2.2.1 cc lL with z | z
        · rw [kc, e] at z
          have := (nI_eq (b := 1) (by omega) (by decide)).mp z
          omega
        · exact z
      have Ucc : xv_U a_held cc := wx.2.1
      have Lcc : xv_L a_held cc = cc := wx.2.2.1
      obtain ⟨tb, t1, t2⟩ := xw_rememberTold (f_trials := f_trials) (f_drafted := f_drafted) (f_pairs := f_pairs) (f_metCount := f_metCount) (f_meetingCount := f_meetingCount) (a_held := a_held) (a_saved := a_saved) (a_draft := a_draft) (a_toldBefore := a_toldBefore) (a_pairX := a_pairX) (a_pairY := a_pairY) (a_stack := a_stack) (a_met := a_met) (a_metAs := a_metAs) (a_copies := a_copies) (a_meetings := a_meetings) (a_wasMeeting := a_wasMeeting) (a_firstMet := a_firstMet) (a_depths := a_depths) (a_isKept := a_isKept)
      obtain ⟨px, q1, q2, q3⟩ := xw_tellRecord_123 (f_trials := f_trials) (f_drafted := f_drafted) (f_pairs := f_pairs) (f_metCount := f_metCount) (f_meetingCount := f_meetingCount) (a_held := a_held) (a_saved := a_saved) (a_draft := a_draft) (a_toldBefore := tb) (a_pairX := a_pairX) (a_pairY := a_pairY) (a_stack := a_stack) (a_met := a_met) (a_metAs := a_metAs) (a_copies := a_copies) (a_meetings := a_meetings) (a_wasMeeting := a_wasMeeting) (a_firstMet := a_firstMet) (a_depths := a_depths) (a_isKept := a_isKept) (x3 := nI c) (x4 := nI p0) (x5 := nI p1) (x6 := nI p2) (b := 192 + 3 * cc) (by omega) 3 0 a_pairX rfl
      have pX : ∀ k, k < 3 → px k = nI (xv_P a_held cc k) ∧ xv_P a_held cc k < 48 := by
        intro k hk
        rw [q1 k (by omega) hk]; exact xv_HP g.1 lL hk
      have pY : ∀ k, k < 3 → upd (upd (upd a_pairY 0 (nI p0)) 1 (nI p1)) 2 (nI p2) k = nI (p k) ∧ p k < 48 := by
        intro k hk
        have : k = 0 ∨ k = 1 ∨ k = 2 := by omega
        rcases this with z | z | z
        · rw [z, e0, pk_un (by omega), pk_un (by omega), pk_us]; exact ⟨rfl, h0⟩
        · rw [z, e1, pk_un (by omega), pk_us]; exact ⟨rfl, h1⟩
        · rw [z, e2, pk_us]; exact ⟨rfl, h2⟩
      have mX : ∀ k, k < 3 → xm_p px k = xv_P a_held cc k := fun k hk => xm_p_nI (pX k hk).1 (pX k hk).2
      have mY : ∀ k, k < 3 → xm_p (upd (upd (upd a_pairY 0 (nI p0)) 1 (nI p1)) 2 (nI p2)) k = p k := fun k hk => xm_p_nI (pY k hk).1 (pY k hk).2
      have UP : ∀ k, k < c → xv_U a_held (xv_P a_held cc k) := by
        intro k hk
        refine g.2.2 cc ⟨Ucc, Lcc, k0⟩ k ?_
        show k < ma_ct (xv_K a_held cc)
        rw [e, ect]; exact hk
      obtain ⟨r, m', a', px', py', w1, w2, w3⟩ := xw_merge (f_trials := f_trials) (f_drafted := f_drafted) (f_pairs := nI c) (f_metCount := f_metCount) (f_meetingCount := f_meetingCount) (a_held := a_held) (a_saved := a_saved) (a_draft := a_draft) (a_toldBefore := tb) (a_pairX := px) (a_pairY := upd (upd (upd a_pairY 0 (nI p0)) 1 (nI p1)) 2 (nI p2)) (a_stack := a_stack) (a_met := a_met) (a_metAs := a_metAs) (a_copies := a_copies) (a_meetings := a_meetings) (a_wasMeeting := a_wasMeeting) (a_firstMet := a_firstMet) (a_depths := a_depths) (a_isKept := a_isKept) g (m := c) hc3 rfl (by
        intro j hj
        rw [mX j (by omega), mY j (by omega)]
        exact ⟨⟨(pX j (by omega)).1, UP j hj⟩, (pY j (by omega)).1, hU j hj⟩)
      have eQ : ma_Q (xm_p px) (xm_p (upd (upd (upd a_pairY 0 (nI p0)) 1 (nI p1)) 2 (nI p2))) 0 c = ma_2 (ma_ct (nI (2 + 4 * l + c), (0 : Int32)).1) (xv_P a_held cc) p := by
        rw [ma_Q2]
        show ma_2 c _ _ = ma_2 (ma_ct (nI (2 + 4 * l + c))) _ _
        rw [ect]
        exact ma_2_congr (fun k hk => mX k (by omega)) (fun k hk => mY k (by omega))
      rw [eQ] at w1
      rcases w1 with ⟨z1, z2⟩ | ⟨i', z1, z2⟩
      · obtain ⟨a'', c1, c2, c3⟩ := xw_undone_no (f_trials := f_trials) (f_drafted := f_drafted) (f_pairs := nI m') (f_metCount := f_metCount) (f_meetingCount := f_meetingCount) (a_held := a') (a_saved := a_saved) (a_draft := a_draft) (a_toldBefore := tb) (a_pairX := px') (a_pairY := py') (a_stack := a_stack) (a_met := a_met) (a_metAs := a_metAs) (a_copies := a_copies) (a_meetings := a_meetings) (a_wasMeeting := a_wasMeeting) (a_firstMet := a_firstMet) (a_depths := a_depths) (a_isKept := a_isKept)
        have ea : a'' = a_held := by
          funext i
          by_cases q : i < 336
          · rw [c1 i q, t1 i q]
          · rw [c2 i (by omega), w2 i (by omega)]
        refine ⟨2, nI m', a_held, tb, px', py', Or.inr (Or.inl ⟨by rw [hcc]; exact k0, by rw [hcc, e, V0], ?_⟩), fun post hp => ?_⟩
        · rw [hcc]; exact Or.inl ⟨rfl, rfl, z2⟩
        · unfold wpX_tellRecord
          simp (disch := omega) only [forall_eq, true_and, and_true, Nat.zero_add, nI_clamp, li_vin, nI_add, nI_eq, nI_leI, nI_ltI, li_0le, li_lt0, li_nn1, li_e0, not_true_eq_false, not_false_eq_true, false_implies, true_implies, forall_const, li_a0, li_b0, li_a1, li_b1, li_a2, li_b2, li_a3, li_b3, li_a7, li_b7, li_a8, li_b8, li_a16, li_b16, li_a48, li_b48, li_a584, li_b584, li_a572, li_b572, li_a96, li_b96, li_a144, li_b144, li_a192, li_b192, li_a240, li_b240, li_a336, li_b336, li_a384, li_b384, li_a432, li_b432, li_a480, li_b480, li_a488, li_b488, li_a496, li_b496, li_a504, li_b504, li_a512, li_b512, li_a520, li_b520, li_a524, li_b524, li_a528, li_b528, li_a536, li_b536, li_a544, li_b544, li_a552, li_b552, li_a560, li_b560, li_a568, li_b568, li_a573, li_b573, li_a585, li_b585, li_a633, li_b633, li_m3, li_n3, li_m4, li_n4, li_m48, li_n48, li_m50, li_n50, li_m585, li_n585, li_m633, li_n633, li_lt2, li_ge2, li_le2, li_gt2, li_lt1, li_ge1, li_le1, li_gt1, li_lt3, li_ge3, li_le3, li_gt3, li_lt4, li_ge4, li_le4, li_gt4, li_lt7, li_ge7, li_le7, li_gt7, li_lt8, li_ge8, li_le8, li_gt8, li_lt40, li_ge40, li_le40, li_gt40, li_lt240, li_ge240, li_le240, li_gt240, li_lt41, li_ge41, li_le41, li_gt41, li_lt48, li_ge48, li_le48, li_gt48, li_lt49, li_ge49, li_le49, li_gt49, li_lt60, li_ge60, li_le60, li_gt60, li_lt144, li_ge144, li_le144, li_gt144, li_lt145, li_ge145, li_le145, li_gt145, li_lt160, li_ge160, li_le160, li_gt160, li_lt336, li_ge336, li_le336, li_gt336, li_lt585, li_ge585, li_le585, li_gt585, li_lt633, li_ge633, li_le633, li_gt633, li_lt1000000, li_ge1000000, li_le1000000, li_gt1000000, li_lt2304, li_ge2304, li_le2304, li_gt2304, li_lt50, li_ge50, li_le50, li_gt50, li_le0, li_gt0, eL, kc]
          refine br_f k0 (br_t e (t2 _ ⟨_, q3 post (w3 _ ?_)⟩))
          rw [z1]
          refine c3 _ ?_
          rw [ea]; exact hp
      · have hr : r ≠ 2 := by
          rcases xm_vd z2 with z | z
          · rw [z]; decide
          · rw [z]; decide
        refine ⟨1, nI m', a', tb, px', py', Or.inr (Or.inl ⟨by rw [hcc]; exact k0, by rw [hcc, e, V0], ?_⟩), fun post hp => ?_⟩
        · rw [hcc]; exact Or.inr ⟨rfl, xm_p px', xm_p py', i', m', r, z1, z2⟩
        · unfold wpX_tellRecord
          simp (disch := omega) only [forall_eq, true_and, and_true, Nat.zero_add, nI_clamp, li_vin, nI_add, nI_eq, nI_leI, nI_ltI, li_0le, li_lt0, li_nn1, li_e0, not_true_eq_false, not_false_eq_true, false_implies, true_implies, forall_const, li_a0, li_b0, li_a1, li_b1, li_a2, li_b2, li_a3, li_b3, li_a7, li_b7, li_a8, li_b8, li_a16, li_b16, li_a48, li_b48, li_a584, li_b584, li_a572, li_b572, li_a96, li_b96, li_a144, li_b144, li_a192, li_b192, li_a240, li_b240, li_a336, li_b336, li_a384, li_b384, li_a432, li_b432, li_a480, li_b480, li_a488, li_b488, li_a496, li_b496, li_a504, li_b504, li_a512, li_b512, li_a520, li_b520, li_a524, li_b524, li_a528, li_b528, li_a536, li_b536, li_a544, li_b544, li_a552, li_b552, li_a560, li_b560, li_a568, li_b568, li_a573, li_b573, li_a585, li_b585, li_a633, li_b633, li_m3, li_n3, li_m4, li_n4, li_m48, li_n48, li_m50, li_n50, li_m585, li_n585, li_m633, li_n633, li_lt2, li_ge2, li_le2, li_gt2, li_lt1, li_ge1, li_le1, li_gt1, li_lt3, li_ge3, li_le3, li_gt3, li_lt4, li_ge4, li_le4, li_gt4, li_lt7, li_ge7, li_le7, li_gt7, li_lt8, li_ge8, li_le8, li_gt8, li_lt40, li_ge40, li_le40, li_gt40, li_lt240, li_ge240, li_le240, li_gt240, li_lt41, li_ge41, li_le41, li_gt41, li_lt48, li_ge48, li_le48, li_gt48, li_lt49, li_ge49, li_le49, li_gt49, li_lt60, li_ge60, li_le60, li_gt60, li_lt144, li_ge144, li_le144, li_gt144, li_lt145, li_ge145, li_le145, li_gt145, li_lt160, li_ge160, li_le160, li_gt160, li_lt336, li_ge336, li_le336, li_gt336, li_lt585, li_ge585, li_le585, li_gt585, li_lt633, li_ge633, li_le633, li_gt633, li_lt1000000, li_ge1000000, li_le1000000, li_gt1000000, li_lt2304, li_ge2304, li_le2304, li_gt2304, li_lt50, li_ge50, li_le50, li_gt50, li_le0, li_gt0, eL, kc]
          exact br_f k0 (br_t e (t2 _ ⟨_, q3 post (w3 _ (xw_undone_ok (f_trials := f_trials) (f_drafted := f_drafted) (f_pairs := nI m') (f_metCount := f_metCount) (f_meetingCount := f_meetingCount) (a_held := a') (a_saved := a_saved) (a_draft := a_draft) (a_toldBefore := tb) (a_pairX := px') (a_pairY := py') (a_stack := a_stack) (a_met := a_met) (a_metAs := a_metAs) (a_copies := a_copies) (a_meetings := a_meetings) (a_wasMeeting := a_wasMeeting) (a_firstMet := a_firstMet) (a_depths := a_depths) (a_isKept := a_isKept) hr _ hp))⟩))
    · refine ⟨2, f_pairs, a_held, a_toldBefore, a_pairX, a_pairY, Or.inr (Or.inr ⟨by rw [hcc]; exact k0, fun q => e ?_, rfl, rfl⟩), fun post hp => ?_⟩
      · rw [hcc] at q
        exact congrArg Prod.fst q
      · unfold wpX_tellRecord
        simp (disch := omega) only [forall_eq, true_and, and_true, Nat.zero_add, nI_clamp, li_vin, nI_add, nI_eq, nI_leI, nI_ltI, li_0le, li_lt0, li_nn1, li_e0, not_true_eq_false, not_false_eq_true, false_implies, true_implies, forall_const, li_a0, li_b0, li_a1, li_b1, li_a2, li_b2, li_a3, li_b3, li_a7, li_b7, li_a8, li_b8, li_a16, li_b16, li_a48, li_b48, li_a584, li_b584, li_a572, li_b572, li_a96, li_b96, li_a144, li_b144, li_a192, li_b192, li_a240, li_b240, li_a336, li_b336, li_a384, li_b384, li_a432, li_b432, li_a480, li_b480, li_a488, li_b488, li_a496, li_b496, li_a504, li_b504, li_a512, li_b512, li_a520, li_b520, li_a524, li_b524, li_a528, li_b528, li_a536, li_b536, li_a544, li_b544, li_a552, li_b552, li_a560, li_b560, li_a568, li_b568, li_a573, li_b573, li_a585, li_b585, li_a633, li_b633, li_m3, li_n3, li_m4, li_n4, li_m48, li_n48, li_m50, li_n50, li_m585, li_n585, li_m633, li_n633, li_lt2, li_ge2, li_le2, li_gt2, li_lt1, li_ge1, li_le1, li_gt1, li_lt3, li_ge3, li_le3, li_gt3, li_lt4, li_ge4, li_le4, li_gt4, li_lt7, li_ge7, li_le7, li_gt7, li_lt8, li_ge8, li_le8, li_gt8, li_lt40, li_ge40, li_le40, li_gt40, li_lt240, li_ge240, li_le240, li_gt240, li_lt41, li_ge41, li_le41, li_gt41, li_lt48, li_ge48, li_le48, li_gt48, li_lt49, li_ge49, li_le49, li_gt49, li_lt60, li_ge60, li_le60, li_gt60, li_lt144, li_ge144, li_le144, li_gt144, li_lt145, li_ge145, li_le145, li_gt145, li_lt160, li_ge160, li_le160, li_gt160, li_lt336, li_ge336, li_le336, li_gt336, li_lt585, li_ge585, li_le585, li_gt585, li_lt633, li_ge633, li_le633, li_gt633, li_lt1000000, li_ge1000000, li_le1000000, li_gt1000000, li_lt2304, li_ge2304, li_le2304, li_gt2304, li_lt50, li_ge50, li_le50, li_gt50, li_le0, li_gt0, eL, kc]
        exact br_f k0 (br_f e hp)
end
section
/-- the reference's arguments for a value -/
def tf_A (sh : Int32 × Int32) (kind num label count : Int32) : Prop :=
  (sh.1 = 1 ∧ kind = 1 ∧ num = sh.2 ∧ label = 0 ∧ count = 0) ∨ (∃ l c, l < 8 ∧ c ≤ 3 ∧ sh = (nI (2 + 4 * l + c), 0) ∧ kind = 2 ∧ num = 0 ∧ label = nI l ∧ count = nI c)
theorem tf_c {sh : Int32 × Int32} {kind num label count : Int32} (h : tf_A sh kind num label count) : sv_c sh ∧ count = nI (ma_ct sh.1) ∧ kind ≠ 0 := by
  rcases h with ⟨h1, h2, h3, h4, h5⟩ | ⟨l, c, hl, hc, h1, h2, h3, h4, h5⟩
  · refine ⟨Or.inl h1, ?_, by rw [h2]; decide⟩
    rw [h5, h1, ma_ct_1]; rfl
  · subst h1
    refine ⟨Or.inr ⟨rfl, l, c, hl, hc, rfl⟩, ?_, by rw [h2]; decide⟩
    show count = nI (ma_ct (nI (2 + 4 * l + c)))
    rw [h5, ma_ct_rec hl hc]
theorem tf_own {s : Nat → Int32} {x : Nat} {sh : Int32 × Int32} {kind num label count : Int32} (h : yv_H s) (hx : x < 48) (x0 : s (48 + x) ≠ 0) (hA : tf_A sh kind num label count) : (s (48 + x) = kind ∧ s (96 + x) = num ∧ s (144 + x) = label ∧ s (192 + x) = count) ↔ (yv_k s x, s (96 + x)) = sh := by
  rcases hA with ⟨h1, h2, h3, h4, h5⟩ | ⟨l, c, hl, hc, h1, h2, h3, h4, h5⟩
  · constructor
    · intro ⟨a, b, _, _⟩
      unfold yv_k
      rw [if_pos (by rw [a, h2]), b, h3, ← h1]
    · intro q
      have q1 : yv_k s x = 1 := by rw [← h1, ← q]
      have q2 : s (96 + x) = num := by rw [h3, ← q]
      rcases h.2.2.1 x hx with z | ⟨a1, a2, a3⟩ | ⟨a1, a2, l, c, hl, hc, e1, e2⟩
      · exact absurd z x0
      · exact ⟨by rw [a1, h2], q2, by rw [a2, h4], by rw [a3, h5]⟩
      · rw [yv_kr a1 e1 e2] at q1
        have := (nI_eq (b := 1) (by omega) (by decide)).mp q1
        omega
  · subst h1
    constructor
    · intro ⟨a, b, d, e⟩
      rw [yv_kr (by rw [a, h2]) (by rw [d, h4]) (by rw [e, h5]), b, h3]
    · intro q
      have q1 : yv_k s x = nI (2 + 4 * l + c) := congrArg Prod.fst q
      have q2 : s (96 + x) = 0 := congrArg Prod.snd q
      rcases h.2.2.1 x hx with z | ⟨a1, a2, a3⟩ | ⟨a1, a2, l', c', hl', hc', e1, e2⟩
      · exact absurd z x0
      · have : yv_k s x = 1 := by unfold yv_k; rw [if_pos a1]
        rw [this] at q1
        have := (nI_eq (a := 1) (by decide) (by omega)).mp q1
        omega
      · rw [yv_kr a1 e1 e2] at q1
        have := (nI_eq (by omega) (by omega)).mp q1
        have hl2 : l' = l := by omega
        have hc2 : c' = c := by omega
        exact ⟨by rw [a1, h2], by rw [q2, h3], by rw [e1, h4, hl2], by rw [e2, h5, hc2]⟩
theorem yw_188 {g_trials g_drafted g_found : Int32} {b_s b_saved b_draft b_who b_met b_stack b_fresh b_deep : Nat → Int32} {b_alike b_meets : Nat → Int64} {x c : Nat} {x6 : Int32} (hx : x < 48) (hc : c ≤ 3) : ∀ d j (b_s : Nat → Int32), j + d = c → ∃ s' : Nat → Int32, (∀ k, j ≤ k → k < c → s' (240 + 3 * x + k) = b_draft k) ∧ (∀ i, (i < 240 + 3 * x + j ∨ 240 + 3 * x + c ≤ i) → s' i = b_s i) ∧ ∀ post : Int32 → SY → Prop, wY_tellOf_223 post (nI x) x6 g_trials g_drafted g_found s' b_saved b_draft b_who b_met b_stack b_fresh b_deep b_alike b_meets → wY_tellOf_188 post (nI x) (nI c) x6 g_trials g_drafted g_found (d + 1) (nI j) b_s b_saved b_draft b_who b_met b_stack b_fresh b_deep b_alike b_meets := by
  intro d
  induction d with
  | zero =>
    intro j s hj
    refine ⟨s, fun k h1 h2 => by omega, fun _ _ => rfl, fun post hp => ?_⟩
    unfold wY_tellOf_188
    simp (disch := omega) only [forall_eq, true_and, and_true, Nat.zero_add, nI_clamp, li_vin, nI_add, nI_eq, nI_leI, nI_ltI, li_0le, li_lt0, li_nn1, li_e0, not_true_eq_false, not_false_eq_true, false_implies, true_implies, forall_const, li_a0, li_b0, li_a1, li_b1, li_a2, li_b2, li_a3, li_b3, li_a7, li_b7, li_a8, li_b8, li_a16, li_b16, li_a48, li_b48, li_a584, li_b584, li_a572, li_b572, li_a96, li_b96, li_a144, li_b144, li_a192, li_b192, li_a240, li_b240, li_a336, li_b336, li_a384, li_b384, li_a432, li_b432, li_a480, li_b480, li_a488, li_b488, li_a496, li_b496, li_a504, li_b504, li_a512, li_b512, li_a520, li_b520, li_a524, li_b524, li_a528, li_b528, li_a536, li_b536, li_a544, li_b544, li_a552, li_b552, li_a560, li_b560, li_a568, li_b568, li_a573, li_b573, li_a585, li_b585, li_a633, li_b633, li_m3, li_n3, li_m4, li_n4, li_m48, li_n48, li_m50, li_n50, li_m585, li_n585, li_m633, li_n633, li_lt2, li_ge2, li_le2, li_gt2, li_lt1, li_ge1, li_le1, li_gt1, li_lt3, li_ge3, li_le3, li_gt3, li_lt4, li_ge4, li_le4, li_gt4, li_lt7, li_ge7, li_le7, li_gt7, li_lt8, li_ge8, li_le8, li_gt8, li_lt40, li_ge40, li_le40, li_gt40, li_lt240, li_ge240, li_le240, li_gt240, li_lt41, li_ge41, li_le41, li_gt41, li_lt48, li_ge48, li_le48, li_gt48, li_lt49, li_ge49, li_le49, li_gt49, li_lt60, li_ge60, li_le60, li_gt60, li_lt144, li_ge144, li_le144, li_gt144, li_lt145, li_ge145, li_le145, li_gt145, li_lt160, li_ge160, li_le160, li_gt160, li_lt336, li_ge336, li_le336, li_gt336, li_lt585, li_ge585, li_le585, li_gt585, li_lt633, li_ge633, li_le633, li_gt633, li_lt1000000, li_ge1000000, li_le1000000, li_gt1000000, li_lt2304, li_ge2304, li_le2304, li_gt2304, li_lt50, li_ge50, li_le50, li_gt50, li_le0, li_gt0]
    exact ⟨fun _ => hp, fun q => by omega⟩
  | succ d ih =>
    intro j s hj
    obtain ⟨s', h1, h2, h3⟩ := ih (j + 1) (upd s (240 + 3 * x + j) (b_draft j)) (by omega)
    refine ⟨s', ?_, ?_, fun post hp => ?_⟩
    · intro k g1 g2
      by_cases q : k = j
      · rw [q, h2 _ (by omega), pk_us]
      · exact h1 k (by omega) g2
    · intro i hi
      rw [h2 i (by omega), pk_un (by omega)]
    · unfold wY_tellOf_188
      simp (disch := omega) only [forall_eq, true_and, and_true, Nat.zero_add, nI_clamp, li_vin, nI_add, nI_eq, nI_leI, nI_ltI, li_0le, li_lt0, li_nn1, li_e0, not_true_eq_false, not_false_eq_true, false_implies, true_implies, forall_const, li_a0, li_b0, li_a1, li_b1, li_a2, li_b2, li_a3, li_b3, li_a7, li_b7, li_a8, li_b8, li_a16, li_b16, li_a48, li_b48, li_a584, li_b584, li_a572, li_b572, li_a96, li_b96, li_a144, li_b144, li_a192, li_b192, li_a240, li_b240, li_a336, li_b336, li_a384, li_b384, li_a432, li_b432, li_a480, li_b480, li_a488, li_b488, li_a496, li_b496, li_a504, li_b504, li_a512, li_b512, li_a520, li_b520, li_a524, li_b524, li_a528, li_b528, li_a536, li_b536, li_a544, li_b544, li_a552, li_b552, li_a560, li_b560, li_a568, li_b568, li_a573, li_b573, li_a585, li_b585, li_a633, li_b633, li_m3, li_n3, li_m4, li_n4, li_m48, li_n48, li_m50, li_n50, li_m585, li_n585, li_m633, li_n633, li_lt2, li_ge2, li_le2, li_gt2, li_lt1, li_ge1, li_le1, li_gt1, li_lt3, li_ge3, li_le3, li_gt3, li_lt4, li_ge4, li_le4, li_gt4, li_lt7, li_ge7, li_le7, li_gt7, li_lt8, li_ge8, li_le8, li_gt8, li_lt40, li_ge40, li_le40, li_gt40, li_lt240, li_ge240, li_le240, li_gt240, li_lt41, li_ge41, li_le41, li_gt41, li_lt48, li_ge48, li_le48, li_gt48, li_lt49, li_ge49, li_le49, li_gt49, li_lt60, li_ge60, li_le60, li_gt60, li_lt144, li_ge144, li_le144, li_gt144, li_lt145, li_ge145, li_le145, li_gt145, li_lt160, li_ge160, li_le160, li_gt160, li_lt336, li_ge336, li_le336, li_gt336, li_lt585, li_ge585, li_le585, li_gt585, li_lt633, li_ge633, li_le633, li_gt633, li_lt1000000, li_ge1000000, li_le1000000, li_gt1000000, li_lt2304, li_ge2304, li_le2304, li_gt2304, li_lt50, li_ge50, li_le50, li_gt50, li_le0, li_gt0]
      exact ⟨fun q => by omega, fun _ => h3 post hp⟩
/-- a variable without a value of its own gets one, and the work of closing begins -/
theorem yw_new {g_trials g_drafted g_found : Int32} {b_s b_saved b_draft b_who b_met b_stack b_fresh b_deep : Nat → Int32} {b_alike b_meets : Nat → Int64} {x : Nat} {sh : Int32 × Int32} {p : Nat → Nat} {kind num label count : Int32} (hx : x < 48) (hA : tf_A sh kind num label count) (k0 : b_s (48 + x) = 0) (hd : ∀ k, k < ma_ct sh.1 → b_draft k = nI (p k)) : ∃ s0 s2 : Nat → Int32, sv_Y b_s s0 x sh p ∧ (∀ i, i < 633 → s2 i = s0 i) ∧ (∀ v, v < 48 → s2 (633 + v) = s0 v) ∧ ∀ post : Int32 → SY → Prop, wY_tellOf_223 post (nI x) 0 g_trials g_drafted g_found s2 b_saved b_draft b_who b_met b_stack b_fresh b_deep b_alike b_meets → wpY_tellOf post (g_trials, g_drafted, g_found, b_s, b_saved, b_draft, b_who, b_met, b_stack, b_fresh, b_deep, b_alike, b_meets) (nI x) kind num label count := by
  obtain ⟨c1, c2, c3⟩ := tf_c hA
  have ct3 := ma_ct_le sh.1
  obtain ⟨s1, t1, t2, t3⟩ := yw_tryIds (g_trials := g_trials) (g_drafted := g_drafted) (g_found := g_found) (b_s := b_s) (b_saved := b_saved) (b_draft := b_draft) (b_who := b_who) (b_met := b_met) (b_stack := b_stack) (b_fresh := b_fresh) (b_deep := b_deep) (b_alike := b_alike) (b_meets := b_meets)
  obtain ⟨s2, p1, p2, p3⟩ := yw_188 (g_trials := g_trials) (g_drafted := g_drafted) (g_found := g_found) (b_s := b_s) (b_saved := b_saved) (b_draft := b_draft) (b_who := b_who) (b_met := b_met) (b_stack := b_stack) (b_fresh := b_fresh) (b_deep := b_deep) (b_alike := b_alike) (b_meets := b_meets) (x := x) (c := ma_ct sh.1) (x6 := 0) hx ct3 (ma_ct sh.1) 0 (upd (upd (upd (upd s1 (48 + x) kind) (96 + x) num) (144 + x) label) (192 + x) count) (by omega)
  have cell : ∀ i, i < 681 → (i < 240 + 3 * x ∨ 240 + 3 * x + ma_ct sh.1 ≤ i) → i ≠ 48 + x → i ≠ 96 + x → i ≠ 144 + x → i ≠ 192 + x → s2 i = s1 i := by
    intro i _ h h1 h2 h3 h4
    rw [p2 i (by omega), pk_un h4, pk_un h3, pk_un h2, pk_un h1]
  have k48 : s2 (48 + x) = kind := by
    rw [p2 _ (by omega)]; simp (disch := omega) only [pk_un, pk_us]
  have k96 : s2 (96 + x) = num := by
    rw [p2 _ (by omega)]; simp (disch := omega) only [pk_un, pk_us]
  have k144 : s2 (144 + x) = label := by
    rw [p2 _ (by omega)]; simp (disch := omega) only [pk_un, pk_us]
  have k192 : s2 (192 + x) = count := by
    rw [p2 _ (by omega)]; simp (disch := omega) only [pk_un, pk_us]
  have g0 : ∀ i, i < 633 → (fun i => if i < 633 then s2 i else b_s i) i = s2 i := fun i hi => if_pos hi
  refine ⟨fun i => if i < 633 then s2 i else b_s i, s2, ⟨?_, ?_, ?_, ?_⟩, fun i hi => (g0 i hi).symm, ?_, fun post hp => ?_⟩
  · rw [g0 (48 + x) (by omega), g0 (96 + x) (by omega), g0 (144 + x) (by omega), g0 (192 + x) (by omega), k48, k96, k144, k192]
    rcases hA with ⟨h1, h2, h3, h4, h5⟩ | ⟨l, c, hl, hc, h1, h2, h3, h4, h5⟩
    · exact Or.inl ⟨h1, h2, h3, h4, h5⟩
    · exact Or.inr ⟨l, c, hl, hc, h1, h2, h3, h4, h5⟩
  · intro k hk
    rw [g0 _ (by omega), p1 k (by omega) hk]; exact hd k hk
  · intro k h1 h2
    rw [g0 _ (by omega), cell _ (by omega) (by omega) (by omega) (by omega) (by omega) (by omega), t2 _ (by omega)]
  · intro i hi h1 h2 h3 h4 h5
    rw [g0 _ hi, cell i (by omega) (by omega) h1 h2 h3 h4, t2 i hi]
  · intro v hv
    rw [g0 _ (by omega), cell _ (by omega) (by omega) (by omega) (by omega) (by omega) (by omega), cell v (by omega) (by omega) (by omega) (by omega) (by omega) (by omega), t1 v hv, t2 v (by omega)]
  · have h136 : wY_tellOf_136 post (nI x) kind num label (nI (ma_ct sh.1)) 0 g_trials g_drafted g_found s1 b_saved b_draft b_who b_met b_stack b_fresh b_deep b_alike b_meets := by
      rw [c2] at p3
      unfold wY_tellOf_136
      simp (disch := omega) only [forall_eq, true_and, and_true, Nat.zero_add, nI_clamp, li_vin, nI_add, nI_eq, nI_leI, nI_ltI, li_0le, li_lt0, li_nn1, li_e0, not_true_eq_false, not_false_eq_true, false_implies, true_implies, forall_const, li_a0, li_b0, li_a1, li_b1, li_a2, li_b2, li_a3, li_b3, li_a7, li_b7, li_a8, li_b8, li_a16, li_b16, li_a48, li_b48, li_a584, li_b584, li_a572, li_b572, li_a96, li_b96, li_a144, li_b144, li_a192, li_b192, li_a240, li_b240, li_a336, li_b336, li_a384, li_b384, li_a432, li_b432, li_a480, li_b480, li_a488, li_b488, li_a496, li_b496, li_a504, li_b504, li_a512, li_b512, li_a520, li_b520, li_a524, li_b524, li_a528, li_b528, li_a536, li_b536, li_a544, li_b544, li_a552, li_b552, li_a560, li_b560, li_a568, li_b568, li_a573, li_b573, li_a585, li_b585, li_a633, li_b633, li_m3, li_n3, li_m4, li_n4, li_m48, li_n48, li_m50, li_n50, li_m585, li_n585, li_m633, li_n633, li_lt2, li_ge2, li_le2, li_gt2, li_lt1, li_ge1, li_le1, li_gt1, li_lt3, li_ge3, li_le3, li_gt3, li_lt4, li_ge4, li_le4, li_gt4, li_lt7, li_ge7, li_le7, li_gt7, li_lt8, li_ge8, li_le8, li_gt8, li_lt40, li_ge40, li_le40, li_gt40, li_lt240, li_ge240, li_le240, li_gt240, li_lt41, li_ge41, li_le41, li_gt41, li_lt48, li_ge48, li_le48, li_gt48, li_lt49, li_ge49, li_le49, li_gt49, li_lt60, li_ge60, li_le60, li_gt60, li_lt144, li_ge144, li_le144, li_gt144, li_lt145, li_ge145, li_le145, li_gt145, li_lt160, li_ge160, li_le160, li_gt160, li_lt336, li_ge336, li_le336, li_gt336, li_lt585, li_ge585, li_le585, li_gt585, li_lt633, li_ge633, li_le633, li_gt633, li_lt1000000, li_ge1000000, li_le1000000, li_gt1000000, li_lt2304, li_ge2304, li_le2304, li_gt2304, li_lt50, li_ge50, li_le50, li_gt50, li_le0, li_gt0]
      exact ⟨_, p3 post hp⟩
    unfold wpY_tellOf
    simp (disch := omega) only [forall_eq, true_and, and_true, Nat.zero_add, nI_clamp, li_vin, nI_add, nI_eq, nI_leI, nI_ltI, li_0le, li_lt0, li_nn1, li_e0, not_true_eq_false, not_false_eq_true, false_implies, true_implies, forall_const, li_a0, li_b0, li_a1, li_b1, li_a2, li_b2, li_a3, li_b3, li_a7, li_b7, li_a8, li_b8, li_a16, li_b16, li_a48, li_b48, li_a584, li_b584, li_a572, li_b572, li_a96, li_b96, li_a144, li_b144, li_a192, li_b192, li_a240, li_b240, li_a336, li_b336, li_a384, li_b384, li_a432, li_b432, li_a480, li_b480, li_a488, li_b488, li_a496, li_b496, li_a504, li_b504, li_a512, li_b512, li_a520, li_b520, li_a524, li_b524, li_a528, li_b528, li_a536, li_b536, li_a544, li_b544, li_a552, li_b552, li_a560, li_b560, li_a568, li_b568, li_a573, li_b573, li_a585, li_b585, li_a633, li_b633, li_m3, li_n3, li_m4, li_n4, li_m48, li_n48, li_m50, li_n50, li_m585, li_n585, li_m633, li_n633, li_lt2, li_ge2, li_le2, li_gt2, li_lt1, li_ge1, li_le1, li_gt1, li_lt3, li_ge3, li_le3, li_gt3, li_lt4, li_ge4, li_le4, li_gt4, li_lt7, li_ge7, li_le7, li_gt7, li_lt8, li_ge8, li_le8, li_gt8, li_lt40, li_ge40, li_le40, li_gt40, li_lt240, li_ge240, li_le240, li_gt240, li_lt41, li_ge41, li_le41, li_gt41, li_lt48, li_ge48, li_le48, li_gt48, li_lt49, li_ge49, li_le49, li_gt49, li_lt60, li_ge60, li_le60, li_gt60, li_lt144, li_ge144, li_le144, li_gt144, li_lt145, li_ge145, li_le145, li_gt145, li_lt160, li_ge160, li_le160, li_gt160, li_lt336, li_ge336, li_le336, li_gt336, li_lt585, li_ge585, li_le585, li_gt585, li_lt633, li_ge633, li_le633, li_gt633, li_lt1000000, li_ge1000000, li_le1000000, li_gt1000000, li_lt2304, li_ge2304, li_le2304, li_gt2304, li_lt50, li_ge50, li_le50, li_gt50, li_le0, li_gt0, k0]
    unfold wY_tellOf_17
    refine br_t rfl ?_
    unfold wY_tellOf_82
    refine t3 _ ⟨1, ?_⟩
    unfold wY_tellOf_89
    rw [c2]
    exact br_c (fun _ => h136) (fun _ => br_t rfl h136)
theorem yw_89 {g_trials g_drafted g_found : Int32} {b_s b_saved b_draft b_who b_met b_stack b_fresh b_deep : Nat → Int32} {b_alike b_meets : Nat → Int64} {x c : Nat} {L : Nat → Nat} {s0 : Nat → Int32} {p : Nat → Nat} {kind num label : Int32} (h0 : yv_H s0) (hx : x < 48) (hc : c ≤ 3) (hd : ∀ k, k < c → b_draft k = nI (p k) ∧ yv_U s0 (p k)) (hU : ∀ k, k < c → yv_U s0 (yv_P s0 x k)) : ∀ d j (b_s : Nat → Int32), j + d = c → yc_I L (ma_2 j (yv_P s0 x) p) s0 b_s → ∃ s' : Nat → Int32, yc_I L (ma_2 c (yv_P s0 x) p) s0 s' ∧ ∀ post : Int32 → SY → Prop, wY_tellOf_223 post (nI x) 1 g_trials g_drafted g_found s' b_saved b_draft b_who b_met b_stack b_fresh b_deep b_alike b_meets → wY_tellOf_89 post (nI x) kind num label (nI c) 1 (d + 1) (nI j) g_trials g_drafted g_found b_s b_saved b_draft b_who b_met b_stack b_fresh b_deep b_alike b_meets := by
  intro d
  induction d with
  | zero =>
    intro j s hj hI
    refine ⟨s, by rw [show c = j from by omega]; exact hI, fun post hp => ?_⟩
    unfold wY_tellOf_89
    simp (disch := omega) only [forall_eq, true_and, and_true, Nat.zero_add, nI_clamp, li_vin, nI_add, nI_eq, nI_leI, nI_ltI, li_0le, li_lt0, li_nn1, li_e0, not_true_eq_false, not_false_eq_true, false_implies, true_implies, forall_const, li_a0, li_b0, li_a1, li_b1, li_a2, li_b2, li_a3, li_b3, li_a7, li_b7, li_a8, li_b8, li_a16, li_b16, li_a48, li_b48, li_a584, li_b584, li_a572, li_b572, li_a96, li_b96, li_a144, li_b144, li_a192, li_b192, li_a240, li_b240, li_a336, li_b336, li_a384, li_b384, li_a432, li_b432, li_a480, li_b480, li_a488, li_b488, li_a496, li_b496, li_a504, li_b504, li_a512, li_b512, li_a520, li_b520, li_a524, li_b524, li_a528, li_b528, li_a536, li_b536, li_a544, li_b544, li_a552, li_b552, li_a560, li_b560, li_a568, li_b568, li_a573, li_b573, li_a585, li_b585, li_a633, li_b633, li_m3, li_n3, li_m4, li_n4, li_m48, li_n48, li_m50, li_n50, li_m585, li_n585, li_m633, li_n633, li_lt2, li_ge2, li_le2, li_gt2, li_lt1, li_ge1, li_le1, li_gt1, li_lt3, li_ge3, li_le3, li_gt3, li_lt4, li_ge4, li_le4, li_gt4, li_lt7, li_ge7, li_le7, li_gt7, li_lt8, li_ge8, li_le8, li_gt8, li_lt40, li_ge40, li_le40, li_gt40, li_lt240, li_ge240, li_le240, li_gt240, li_lt41, li_ge41, li_le41, li_gt41, li_lt48, li_ge48, li_le48, li_gt48, li_lt49, li_ge49, li_le49, li_gt49, li_lt60, li_ge60, li_le60, li_gt60, li_lt144, li_ge144, li_le144, li_gt144, li_lt145, li_ge145, li_le145, li_gt145, li_lt160, li_ge160, li_le160, li_gt160, li_lt336, li_ge336, li_le336, li_gt336, li_lt585, li_ge585, li_le585, li_gt585, li_lt633, li_ge633, li_le633, li_gt633, li_lt1000000, li_ge1000000, li_le1000000, li_gt1000000, li_lt2304, li_ge2304, li_le2304, li_gt2304, li_lt50, li_ge50, li_le50, li_gt50, li_le0, li_gt0]
    refine ⟨fun _ => ?_, fun q => by omega⟩
    unfold wY_tellOf_136
    exact br_f (by decide) hp
  | succ d ih =>
    intro j s hj hI
    obtain ⟨d1, d2⟩ := hd j (by omega)
    have px : s (240 + 3 * x + j) = nI (yv_P s0 x j) ∧ yv_P s0 x j < 48 := by
      rw [hI.1 _ (by omega)]; exact yv_HP h0 hx (by omega)
    obtain ⟨px1, px2⟩ := px
    obtain ⟨s1, j1, j2⟩ := yw_join (g_trials := g_trials) (g_drafted := g_drafted) (g_found := g_found) (b_s := s) (b_saved := b_saved) (b_draft := b_draft) (b_who := b_who) (b_met := b_met) (b_stack := b_stack) (b_fresh := b_fresh) (b_deep := b_deep) (b_alike := b_alike) (b_meets := b_meets) (b := 633) (by omega) px2 d2.1
    have hI1 : yc_I L (ma_2 (j + 1) (yv_P s0 x) p) s0 s1 := by
      refine yc_more hI (hU j (by omega)) d2 j1 (fun u v => ?_)
      constructor
      · intro ⟨k, hk, a, b⟩
        by_cases q : k = j
        · rw [q] at a b; exact Or.inr ⟨a, b⟩
        · exact Or.inl ⟨k, by omega, a, b⟩
      · intro q
        rcases q with ⟨k, hk, a, b⟩ | ⟨a, b⟩
        · exact ⟨k, by omega, a, b⟩
        · exact ⟨j, by omega, a, b⟩
    obtain ⟨s', h1, h2⟩ := ih (j + 1) s1 (by omega) hI1
    refine ⟨s', h1, fun post hp => ?_⟩
    rw [wY_tellOf_89]
    dsimp only
    simp (disch := omega) only [forall_eq, true_and, and_true, Nat.zero_add, nI_clamp, li_vin, nI_add, nI_eq, nI_leI, nI_ltI, li_0le, li_lt0, li_nn1, li_e0, not_true_eq_false, not_false_eq_true, false_implies, true_implies, forall_const, li_a0, li_b0, li_a1, li_b1, li_a2, li_b2, li_a3, li_b3, li_a7, li_b7, li_a8, li_b8, li_a16, li_b16, li_a48, li_b48, li_a584, li_b584, li_a572, li_b572, li_a96, li_b96, li_a144, li_b144, li_a192, li_b192, li_a240, li_b240, li_a336, li_b336, li_a384, li_b384, li_a432, li_b432, li_a480, li_b480, li_a488, li_b488, li_a496, li_b496, li_a504, li_b504, li_a512, li_b512, li_a520, li_b520, li_a524, li_b524, li_a528, li_b528, li_a536, li_b536, li_a544, li_b544, li_a552, li_b552, li_a560, li_b560, li_a568, li_b568, li_a573, li_b573, li_a585, li_b585, li_a633, li_b633, li_m3, li_n3, li_m4, li_n4, li_m48, li_n48, li_m50, li_n50, li_m585, li_n585, li_m633, li_n633, li_lt2, li_ge2, li_le2, li_gt2, li_lt1, li_ge1, li_le1, li_gt1, li_lt3, li_ge3, li_le3, li_gt3, li_lt4, li_ge4, li_le4, li_gt4, li_lt7, li_ge7, li_le7, li_gt7, li_lt8, li_ge8, li_le8, li_gt8, li_lt40, li_ge40, li_le40, li_gt40, li_lt240, li_ge240, li_le240, li_gt240, li_lt41, li_ge41, li_le41, li_gt41, li_lt48, li_ge48, li_le48, li_gt48, li_lt49, li_ge49, li_le49, li_gt49, li_lt60, li_ge60, li_le60, li_gt60, li_lt144, li_ge144, li_le144, li_gt144, li_lt145, li_ge145, li_le145, li_gt145, li_lt160, li_ge160, li_le160, li_gt160, li_lt336, li_ge336, li_le336, li_gt336, li_lt585, li_ge585, li_le585, li_gt585, li_lt633, li_ge633, li_le633, li_gt633, li_lt1000000, li_ge1000000, li_le1000000, li_gt1000000, li_lt2304, li_ge2304, li_le2304, li_gt2304, li_lt50, li_ge50, li_le50, li_gt50, li_le0, li_gt0, px1, d1]
    exact ⟨fun q => by omega, fun _ => br_f (by decide) (j2 _ (h2 post hp))⟩
theorem yw_told0 {g_trials g_drafted g_found : Int32} {b_s b_saved b_draft b_who b_met b_stack b_fresh b_deep : Nat → Int32} {b_alike b_meets : Nat → Int64} : ∀ post : Int32 → SY → Prop, post 2 (g_trials, g_drafted, g_found, b_s, b_saved, b_draft, b_who, b_met, b_stack, b_fresh, b_deep, b_alike, b_meets) → wY_tellOf_249 post 0 g_trials g_drafted g_found b_s b_saved b_draft b_who b_met b_stack b_fresh b_deep b_alike b_meets := by
  intro post hp
  unfold wY_tellOf_249 wpY_told
  exact br_t rfl hp
theorem yw_told1 {g_trials g_drafted g_found : Int32} {b_s b_saved b_draft b_who b_met b_stack b_fresh b_deep : Nat → Int32} {b_alike b_meets : Nat → Int64} : ∀ post : Int32 → SY → Prop, wpY_settle (fun u => match u with | (g_trials, g_drafted, g_found, b_s, b_saved, b_draft, b_who, b_met, b_stack, b_fresh, b_deep, b_alike, b_meets) => post 1 (g_trials, g_drafted, g_found, b_s, b_saved, b_draft, b_who, b_met, b_stack, b_fresh, b_deep, b_alike, b_meets)) (g_trials, g_drafted, g_found, b_s, b_saved, b_draft, b_who, b_met, b_stack, b_fresh, b_deep, b_alike, b_meets) → wY_tellOf_249 post 1 g_trials g_drafted g_found b_s b_saved b_draft b_who b_met b_stack b_fresh b_deep b_alike b_meets := by
  intro post hp
  unfold wY_tellOf_249 wpY_told
  exact br_f (by decide) hp
theorem yt_Q {a s s' : Nat → Int32} {Q Q' : Nat → Nat → Prop} {r : Int32} (f : ∀ E, ma_F (xv_U a) (xv_L a) (xv_T a) Q E ↔ ma_F (xv_U a) (xv_L a) (xv_T a) Q' E) (h : yt_R a s s' Q r) : yt_R a s s' Q' r := by
  rcases h with ⟨h1, h2, h3⟩ | ⟨h1, h2, h3⟩
  · exact Or.inl ⟨h1, ma_Ok_tr f (fun _ _ => Iff.rfl) h2, h3⟩
  · exact Or.inr ⟨h1, ma_No_tr f (fun _ _ => Iff.rfl) h2, h3⟩
/-- what a telling that fails leaves of the reference's row -/
def tf_F (s s' : Nat → Int32) (x : Nat) : Prop :=
  (∀ i, i < 633 → s' i = s i) ∨ (s (48 + x) = 0 ∧ s' (48 + x) = 0 ∧ (∀ k, k < 3 → ∃ q, q < 48 ∧ s' (240 + 3 * x + k) = nI q) ∧ ∀ i, i < 633 → i ≠ 48 + x → i ≠ 96 + x → i ≠ 144 + x → i ≠ 192 + x → (i < 240 + 3 * x ∨ 240 + 3 * x + 3 ≤ i) → s' i = s i)
theorem tf_P {B : Nat} {a s s' : Nat → Int32} {x : Nat} (r : re_P B a s) (hx : x < 48) (h : tf_F s s' x) : re_P B a s' := by
  rcases h with h | ⟨h1, h2, h3, h4⟩
  · exact re_P_congr (fun _ _ => rfl) h r
  · exact un_P r hx h2 h1 h3 h4
end
section
/-- the two tellings of a value -/
theorem tf_all {g_trials g_drafted g_found : Int32} {b_s b_saved b_draft b_who b_met b_stack b_fresh b_deep : Nat → Int32} {b_alike b_meets : Nat → Int64} {B : Nat} {a a' : Nat → Int32} {x : Nat} {sh : Int32 × Int32} {p : Nat → Nat} {r kind num label count : Int32} (hr : re_P B a b_s) (ux : xv_U a x) (hA : tf_A sh kind num label count) (hd : ∀ k, k < ma_ct sh.1 → b_draft k = nI (p k) ∧ xv_U a (p k)) (hX : tv_X a a' x sh p r) :
    (r = 2 ∧ a' = a ∧ ∃ s' : Nat → Int32, tf_F b_s s' x ∧ ∀ post : Int32 → SY → Prop, post 2 (g_trials, g_drafted, g_found, s', b_saved, b_draft, b_who, b_met, b_stack, b_fresh, b_deep, b_alike, b_meets) → wpY_tellOf post (g_trials, g_drafted, g_found, b_s, b_saved, b_draft, b_who, b_met, b_stack, b_fresh, b_deep, b_alike, b_meets) (nI x) kind num label count) ∨
    (r = 1 ∧ ∃ s' : Nat → Int32, re_P B a' s' ∧ ∀ post : Int32 → SY → Prop, wpY_settle (fun u => match u with | (g_trials, g_drafted, g_found, b_s, b_saved, b_draft, b_who, b_met, b_stack, b_fresh, b_deep, b_alike, b_meets) => post 1 (g_trials, g_drafted, g_found, b_s, b_saved, b_draft, b_who, b_met, b_stack, b_fresh, b_deep, b_alike, b_meets)) (g_trials, g_drafted, g_found, s', b_saved, b_draft, b_who, b_met, b_stack, b_fresh, b_deep, b_alike, b_meets) → wpY_tellOf post (g_trials, g_drafted, g_found, b_s, b_saved, b_draft, b_who, b_met, b_stack, b_fresh, b_deep, b_alike, b_meets) (nI x) kind num label count) := by
  have yU := re_U hr
  have h5 := hr.2.2.2.2.1
  have x48 := ux.1
  obtain ⟨wx1, wx2, wx3, wx4⟩ := h5.1 x ux
  obtain ⟨c1, c2, c3⟩ := tf_c hA
  have ct3 := ma_ct_le sh.1
  have uy : yv_U b_s x := by rw [yU]; exact ux
  have p48 : ∀ k, k < ma_ct sh.1 → p k < 48 := fun k hk => (hd k hk).2.1
  by_cases own : b_s (48 + x) = 0
  · -- no value of its own
    have ny : ¬ (yv_T b_s).1 x := fun q => (yv_T1 q).2 own
    obtain ⟨s0, s2, v1, v2, v3, v4⟩ := yw_new (g_trials := g_trials) (g_drafted := g_drafted) (g_found := g_found) (b_s := b_s) (b_saved := b_saved) (b_draft := b_draft) (b_who := b_who) (b_met := b_met) (b_stack := b_stack) (b_fresh := b_fresh) (b_deep := b_deep) (b_alike := b_alike) (b_meets := b_meets) x48 hA own (fun k hk => (hd k hk).1)
    have tY := sv_YT v1 uy ny p48
    have yH0 := sv_YH v1 x48 uy.2 p48 hr.2.1
    have cY := v1.2.2.2
    have fail : ∀ s' : Nat → Int32, (∀ i, i < 633 → s' i = s0 i) → tf_F b_s (upd s' (48 + x) 0) x := by
      intro s' hs
      refine Or.inr ⟨own, pk_us, fun k hk => ?_, fun i h1 h2 h3 h4 h5 h6 => ?_⟩
      · rw [pk_un (by omega), hs _ (by omega)]; exact yH0.2.2.2 x k x48 hk
      · rw [pk_un h2, hs i h1]; exact cY i h1 h2 h3 h4 h5 h6
    have w0 : ∀ (s' : Nat → Int32) (post : Int32 → SY → Prop), post 2 (g_trials, g_drafted, g_found, upd s' (48 + x) 0, b_saved, b_draft, b_who, b_met, b_stack, b_fresh, b_deep, b_alike, b_meets) → ((0 : Int32) = 0 → (((0 : Int32) = 0 → (vp_in (48 + nI x) 681 ∧ ∀ a_s_51 : Nat → Int32, a_s_51 = upd s' (48 + nI x).toNatClampNeg 0 → wY_tellOf_249 post 0 g_trials g_drafted g_found a_s_51 b_saved b_draft b_who b_met b_stack b_fresh b_deep b_alike b_meets)) ∧ (¬ (0 : Int32) = 0 → wY_tellOf_249 post 0 g_trials g_drafted g_found s' b_saved b_draft b_who b_met b_stack b_fresh b_deep b_alike b_meets))) ∧ (¬ (0 : Int32) = 0 → wY_tellOf_249 post 0 g_trials g_drafted g_found s' b_saved b_draft b_who b_met b_stack b_fresh b_deep b_alike b_meets) := by
      intro s' post hp
      refine br_t rfl (br_t rfl ?_)
      simp (disch := omega) only [forall_eq, true_and, and_true, Nat.zero_add, nI_clamp, li_vin, nI_add, nI_eq, nI_leI, nI_ltI, li_0le, li_lt0, li_nn1, li_e0, not_true_eq_false, not_false_eq_true, false_implies, true_implies, forall_const, li_a0, li_b0, li_a1, li_b1, li_a2, li_b2, li_a3, li_b3, li_a7, li_b7, li_a8, li_b8, li_a16, li_b16, li_a48, li_b48, li_a584, li_b584, li_a572, li_b572, li_a96, li_b96, li_a144, li_b144, li_a192, li_b192, li_a240, li_b240, li_a336, li_b336, li_a384, li_b384, li_a432, li_b432, li_a480, li_b480, li_a488, li_b488, li_a496, li_b496, li_a504, li_b504, li_a512, li_b512, li_a520, li_b520, li_a524, li_b524, li_a528, li_b528, li_a536, li_b536, li_a544, li_b544, li_a552, li_b552, li_a560, li_b560, li_a568, li_b568, li_a573, li_b573, li_a585, li_b585, li_a633, li_b633, li_m3, li_n3, li_m4, li_n4, li_m48, li_n48, li_m50, li_n50, li_m585, li_n585, li_m633, li_n633, li_lt2, li_ge2, li_le2, li_gt2, li_lt1, li_ge1, li_le1, li_gt1, li_lt3, li_ge3, li_le3, li_gt3, li_lt4, li_ge4, li_le4, li_gt4, li_lt7, li_ge7, li_le7, li_gt7, li_lt8, li_ge8, li_le8, li_gt8, li_lt40, li_ge40, li_le40, li_gt40, li_lt240, li_ge240, li_le240, li_gt240, li_lt41, li_ge41, li_le41, li_gt41, li_lt48, li_ge48, li_le48, li_gt48, li_lt49, li_ge49, li_le49, li_gt49, li_lt60, li_ge60, li_le60, li_gt60, li_lt144, li_ge144, li_le144, li_gt144, li_lt145, li_ge145, li_le145, li_gt145, li_lt160, li_ge160, li_le160, li_gt160, li_lt336, li_ge336, li_le336, li_gt336, li_lt585, li_ge585, li_le585, li_gt585, li_lt633, li_ge633, li_le633, li_gt633, li_lt1000000, li_ge1000000, li_le1000000, li_gt1000000, li_lt2304, li_ge2304, li_le2304, li_gt2304, li_lt50, li_ge50, li_le50, li_gt50, li_le0, li_gt0]
      exact yw_told0 (g_trials := g_trials) (g_drafted := g_drafted) (g_found := g_found) (b_s := upd s' (48 + x) 0) (b_saved := b_saved) (b_draft := b_draft) (b_who := b_who) (b_met := b_met) (b_stack := b_stack) (b_fresh := b_fresh) (b_deep := b_deep) (b_alike := b_alike) (b_meets := b_meets) post hp
    rcases hX with ⟨k0, X1, X2⟩ | ⟨k0, X1, X2⟩ | ⟨k0, X1, X2, X3⟩
    · -- a FREE class
      have r0 : re_P B a' s0 := sv_P hr ux k0 c1 (fun k hk => (hd k hk).2) X1 v1
      have hI := yc_0 r0 v2 v3
      obtain ⟨rk, s', o, hw⟩ := yw_keepTried (g_trials := g_trials) (g_drafted := g_drafted) (g_found := g_found) (b_s := s2) (b_saved := b_saved) (b_draft := b_draft) (b_who := b_who) (b_met := b_met) (b_stack := b_stack) (b_fresh := b_fresh) (b_deep := b_deep) (b_alike := b_alike) (b_meets := b_meets) r0.2.1 (re_yT r0) hI
      rcases o with ⟨z1, s1, z2, z3, z4, z5⟩ | ⟨z1, z2, z3⟩
      · refine Or.inr ⟨X2, s', tf_same r0 z3 z2 z4 z5, fun post hp => v4 post ?_⟩
        unfold wY_tellOf_223
        refine hw _ ?_
        subst z1
        exact br_f (by decide) (yw_told1 (g_trials := g_trials) (g_drafted := g_drafted) (g_found := g_found) (b_s := s') (b_saved := b_saved) (b_draft := b_draft) (b_who := b_who) (b_met := b_met) (b_stack := b_stack) (b_fresh := b_fresh) (b_deep := b_deep) (b_alike := b_alike) (b_meets := b_meets) post hp)
      · exfalso
        have o1 := ma_R_Ok (K := xv_K a') (V := xv_V a') (P := xv_P a') r0.2.2.2.2.1
        rw [re_U r0] at z2
        exact ma_Ok_no o1 z2
    · -- a value of the same shape in the class
      have tc : (xv_T a).1 (xv_L a x) := ⟨wx2, wx3, k0⟩
      have hs : (xv_T a).2.1 (xv_L a x) = sh := X1
      have eU0 : yv_U s0 = xv_U a := by
        funext y
        apply propext
        have := re_U hr
        constructor
        · intro ⟨q1, q2⟩
          rw [cY (384 + y) (by omega) (by omega) (by omega) (by omega) (by omega) (by omega)] at q2
          rw [← this]; exact ⟨q1, q2⟩
        · intro q
          rw [← this] at q
          refine ⟨q.1, ?_⟩
          have := q.1
          rw [cY (384 + y) (by omega) (by omega) (by omega) (by omega) (by omega) (by omega)]; exact q.2
      have low : ∀ y, y < 48 → s0 y = b_s y := fun y hy => cY y (by omega) (by omega) (by omega) (by omega) (by omega) (by omega)
      have yT0 := ma_put_U (U := xv_U a) tY ux (fun k hk => (hd k hk).2) h5.2.2.2.1
      have hI : yc_I (xv_L a) ma_0 s0 s2 := yc_00 eU0 h5.1 (fun y hy => by rw [low y hy.1]; exact (re_Ls hr hy).1) (fun y hy => by rw [low y hy]; exact hr.2.1.1 y hy) (fun y hy n => by rw [low y hy]; exact re_un hr y hy n) v2 v3
      obtain ⟨rk, s', o, hw⟩ := yw_keepTried (g_trials := g_trials) (g_drafted := g_drafted) (g_found := g_found) (b_s := s2) (b_saved := b_saved) (b_draft := b_draft) (b_who := b_who) (b_met := b_met) (b_stack := b_stack) (b_fresh := b_fresh) (b_deep := b_deep) (b_alike := b_alike) (b_meets := b_meets) yH0 (by rw [eU0]; exact yT0) hI
      obtain ⟨ad1, ad2⟩ := ma_R_add h5 ux tc hs ny tY
      have adB := ma_R_addB h5 ux tc hs ny tY
      rw [eU0] at o
      have f : ∀ E, ma_F (xv_U a) (xv_L a) (yv_T s0) ma_0 E ↔ ma_F (xv_U a) (xv_L a) (xv_T a) (ma_2 (ma_ct sh.1) (xv_P a (xv_L a x)) p) E := fun E => (ad2 E).symm
      have b : ∀ E, ma_F (xv_U a) (xv_L a) (yv_T s0) ma_0 E → (ma_Bad (yv_T s0) E ↔ ma_Bad (xv_T a) E) := fun E hE => (adB E ((f E).mp hE)).symm
      rcases o with ⟨z1, s1, z2, z3, z4, z5⟩ | ⟨z1, z2, z3⟩
      · have ok := ma_Ok_tr f b z2
        rcases X2 with ⟨x1, x2, x3⟩ | ⟨x1, px, py, i, m, vd, x2, x3⟩
        · exact absurd x3 (ma_Ok_no ok)
        · have eI : yv_I s' 0 = yv_I s1 633 := by
            funext y
            unfold yv_I
            by_cases q : y < 48
            · rw [if_pos q, if_pos q, Nat.zero_add, z4 y q]
            · rw [if_neg q, if_neg q]
          have eT : yv_T s' = yv_T s0 := yv_congrT (fun i p q => z5 i p (by omega))
          obtain ⟨e1, _, _, _, _⟩ := ma_MI_end x3.2.2.1 x2
          obtain ⟨t1, t2⟩ := ad1 _ e1
          have yH' : yv_H s' := by
            obtain ⟨g1, g2, g3, g4⟩ := yH0
            refine ⟨fun y hy => by rw [z4 y hy]; exact z3.2.1 y hy, ?_, ?_, ?_⟩
            · intro y hy
              rw [z5 (384 + y) (by omega) (by omega), z5 (48 + y) (by omega) (by omega)]
              rcases g2 y hy with q | q
              · exact Or.inl q
              · refine Or.inr ⟨q.1, ?_, q.2.2⟩
                rw [z4 y hy]
                refine z3.2.2.2.1 y hy (fun u => ?_)
                have := u.2
                rw [q.1] at this
                exact absurd this (by decide)
            · intro y hy
              rw [z5 (48 + y) (by omega) (by omega), z5 (96 + y) (by omega) (by omega), z5 (144 + y) (by omega) (by omega), z5 (192 + y) (by omega) (by omega)]; exact g3 y hy
            · intro y k hy hk
              rw [z5 _ (by omega) (by omega)]; exact g4 y k hy hk
          refine Or.inr ⟨x1, s', ?_, fun post hp => v4 post ?_⟩
          · refine tl_P hr x3 x2 (by rw [eI]; exact ok) yH' (fun y hy => ?_) (fun i h1 h2 => ?_) (by rw [eT]; exact yT0) (by rw [eT]; exact t1) (by rw [eT]; exact t2)
            · rw [z5 _ (by omega) (by omega)]; exact cY (384 + y) (by omega) (by omega) (by omega) (by omega) (by omega) (by omega)
            · rw [z5 i (by omega) h2]; exact cY i h2 (by omega) (by omega) (by omega) (by omega) (by omega)
          · unfold wY_tellOf_223
            refine hw _ ?_
            subst z1
            exact br_f (by decide) (yw_told1 (g_trials := g_trials) (g_drafted := g_drafted) (g_found := g_found) (b_s := s') (b_saved := b_saved) (b_draft := b_draft) (b_who := b_who) (b_met := b_met) (b_stack := b_stack) (b_fresh := b_fresh) (b_deep := b_deep) (b_alike := b_alike) (b_meets := b_meets) post hp)
      · have no := ma_No_tr f b z2
        rcases X2 with ⟨x1, x2, x3⟩ | ⟨x1, px, py, i, m, vd, x2, x3⟩
        · refine Or.inl ⟨x1, x2, upd s' (48 + x) 0, fail s' z3, fun post hp => v4 post ?_⟩
          unfold wY_tellOf_223
          refine hw _ ?_
          subst z1
          exact w0 s' post hp
        · exact absurd no (ma_Ok_no (ma_MI_Ok x3.2.2.1 x2))
    · -- a value of another shape in the class
      have tc : (xv_T a).1 (xv_L a x) := ⟨wx2, wx3, k0⟩
      have eU0 : yv_U s0 = xv_U a := by
        funext y
        apply propext
        have := re_U hr
        constructor
        · intro ⟨q1, q2⟩
          rw [cY (384 + y) (by omega) (by omega) (by omega) (by omega) (by omega) (by omega)] at q2
          rw [← this]; exact ⟨q1, q2⟩
        · intro q
          rw [← this] at q
          refine ⟨q.1, ?_⟩
          have := q.1
          rw [cY (384 + y) (by omega) (by omega) (by omega) (by omega) (by omega) (by omega)]; exact q.2
      have low : ∀ y, y < 48 → s0 y = b_s y := fun y hy => cY y (by omega) (by omega) (by omega) (by omega) (by omega) (by omega)
      have yT0 := ma_put_U (U := xv_U a) tY ux (fun k hk => (hd k hk).2) h5.2.2.2.1
      have hI : yc_I (xv_L a) ma_0 s0 s2 := yc_00 eU0 h5.1 (fun y hy => by rw [low y hy.1]; exact (re_Ls hr hy).1) (fun y hy => by rw [low y hy]; exact hr.2.1.1 y hy) (fun y hy n => by rw [low y hy]; exact re_un hr y hy n) v2 v3
      obtain ⟨rk, s', o, hw⟩ := yw_keepTried (g_trials := g_trials) (g_drafted := g_drafted) (g_found := g_found) (b_s := s2) (b_saved := b_saved) (b_draft := b_draft) (b_who := b_who) (b_met := b_met) (b_stack := b_stack) (b_fresh := b_fresh) (b_deep := b_deep) (b_alike := b_alike) (b_meets := b_meets) yH0 (by rw [eU0]; exact yT0) hI
      have no := ma_R_clash h5 ux tc X1 tY ny
      rw [eU0] at o
      rcases o with ⟨z1, s1, z2, z3, z4, z5⟩ | ⟨z1, z2, z3⟩
      · exact absurd no (ma_Ok_no z2)
      · refine Or.inl ⟨X2, X3, upd s' (48 + x) 0, fail s' z3, fun post hp => v4 post ?_⟩
        unfold wY_tellOf_223
        refine hw _ ?_
        subst z1
        exact w0 s' post hp
  · -- a value of its own
    have ty : (yv_T b_s).1 x := ⟨uy, own⟩
    obtain ⟨m1, m2, m3⟩ := ma_R_x h5 ty
    have e2 : (yv_T b_s).2.1 x = (yv_k b_s x, b_s (96 + x)) := if_pos x48
    have k0 : xv_K a (xv_L a x) ≠ 0 := (xv_T1 m1).2.2
    have iff := tf_own hr.2.1 x48 own hA
    have eq : ((xv_K a (xv_L a x), xv_V a (xv_L a x)) = sh) ↔ (yv_k b_s x, b_s (96 + x)) = sh := by
      rw [← e2, ← m2]; exact Iff.rfl
    rcases hX with ⟨q, _⟩ | ⟨_, X1, X2⟩ | ⟨_, X1, X2, X3⟩
    · exact absurd q k0
    · obtain ⟨i1, i2, i3, i4⟩ := iff.mpr (eq.mp X1)
      have cs : ma_ct ((yv_T b_s).2.1 x).1 = ma_ct sh.1 := by rw [e2, eq.mp X1]
      have UP : ∀ k, k < ma_ct sh.1 → yv_U b_s (yv_P b_s x k) := by
        intro k hk
        rw [yU]
        exact (h5.2.2.2.1 x ty).2 k (by rw [cs]; exact hk)
      obtain ⟨s1, t1, t2, t3⟩ := yw_tryIds (g_trials := g_trials) (g_drafted := g_drafted) (g_found := g_found) (b_s := b_s) (b_saved := b_saved) (b_draft := b_draft) (b_who := b_who) (b_met := b_met) (b_stack := b_stack) (b_fresh := b_fresh) (b_deep := b_deep) (b_alike := b_alike) (b_meets := b_meets)
      have hI1 : yc_I (xv_L a) (ma_2 0 (yv_P b_s x) p) b_s s1 := by
        have h := yc_0 hr t2 t1
        refine ⟨h.1, h.2.1, h.2.2.1, h.2.2.2.1, fun E => ?_⟩
        rw [← h.2.2.2.2 E]
        constructor
        · intro q
          exact ⟨q.1, q.2.1, fun _ _ z => z.elim, q.2.2.2⟩
        · intro q
          exact ⟨q.1, q.2.1, fun u v ⟨k, hk, _⟩ => by omega, q.2.2.2⟩
      obtain ⟨s2, hI2, w2⟩ := yw_89 (g_trials := g_trials) (g_drafted := g_drafted) (g_found := g_found) (b_s := b_s) (b_saved := b_saved) (b_draft := b_draft) (b_who := b_who) (b_met := b_met) (b_stack := b_stack) (b_fresh := b_fresh) (b_deep := b_deep) (b_alike := b_alike) (b_meets := b_meets) (L := xv_L a) (p := p) (kind := kind) (num := num) (label := label) hr.2.1 x48 ct3 (fun k hk => ⟨(hd k hk).1, by rw [yU]; exact (hd k hk).2⟩) UP (ma_ct sh.1) 0 s1 (by omega) hI1
      obtain ⟨rk, s', o, hw⟩ := yw_keepTried (g_trials := g_trials) (g_drafted := g_drafted) (g_found := g_found) (b_s := s2) (b_saved := b_saved) (b_draft := b_draft) (b_who := b_who) (b_met := b_met) (b_stack := b_stack) (b_fresh := b_fresh) (b_deep := b_deep) (b_alike := b_alike) (b_meets := b_meets) hr.2.1 (re_yT hr) hI2
      have o' := yt_of hr o
      have same : ∀ k, k < ma_ct sh.1 → ma_K (xv_U a) (xv_L a) (yv_P b_s x k) (xv_P a (xv_L a x) k) := by
        intro k hk
        refine Or.inr ⟨by rw [← yU]; exact UP k hk, h5.2.2.1 _ m1 k (by rw [m2, cs]; exact hk), m3 k (by rw [cs]; exact hk)⟩
      have o2 : yt_R a b_s s' (ma_2 (ma_ct sh.1) (xv_P a (xv_L a x)) p) rk := yt_Q (fun E => ⟨ma_F_Q same, ma_F_Q (fun k hk => (ma_K_eqv _ _).2.1 _ _ (same k hk))⟩) o'
      obtain ⟨P', q⟩ := tl_eq hr X2 o2
      have top : ∀ post : Int32 → SY → Prop, wY_tellOf_223 post (nI x) 1 g_trials g_drafted g_found s2 b_saved b_draft b_who b_met b_stack b_fresh b_deep b_alike b_meets → wpY_tellOf post (g_trials, g_drafted, g_found, b_s, b_saved, b_draft, b_who, b_met, b_stack, b_fresh, b_deep, b_alike, b_meets) (nI x) kind num label count := by
        intro post hp
        unfold wpY_tellOf
        simp (disch := omega) only [forall_eq, true_and, and_true, Nat.zero_add, nI_clamp, li_vin, nI_add, nI_eq, nI_leI, nI_ltI, li_0le, li_lt0, li_nn1, li_e0, not_true_eq_false, not_false_eq_true, false_implies, true_implies, forall_const, li_a0, li_b0, li_a1, li_b1, li_a2, li_b2, li_a3, li_b3, li_a7, li_b7, li_a8, li_b8, li_a16, li_b16, li_a48, li_b48, li_a584, li_b584, li_a572, li_b572, li_a96, li_b96, li_a144, li_b144, li_a192, li_b192, li_a240, li_b240, li_a336, li_b336, li_a384, li_b384, li_a432, li_b432, li_a480, li_b480, li_a488, li_b488, li_a496, li_b496, li_a504, li_b504, li_a512, li_b512, li_a520, li_b520, li_a524, li_b524, li_a528, li_b528, li_a536, li_b536, li_a544, li_b544, li_a552, li_b552, li_a560, li_b560, li_a568, li_b568, li_a573, li_b573, li_a585, li_b585, li_a633, li_b633, li_m3, li_n3, li_m4, li_n4, li_m48, li_n48, li_m50, li_n50, li_m585, li_n585, li_m633, li_n633, li_lt2, li_ge2, li_le2, li_gt2, li_lt1, li_ge1, li_le1, li_gt1, li_lt3, li_ge3, li_le3, li_gt3, li_lt4, li_ge4, li_le4, li_gt4, li_lt7, li_ge7, li_le7, li_gt7, li_lt8, li_ge8, li_le8, li_gt8, li_lt40, li_ge40, li_le40, li_gt40, li_lt240, li_ge240, li_le240, li_gt240, li_lt41, li_ge41, li_le41, li_gt41, li_lt48, li_ge48, li_le48, li_gt48, li_lt49, li_ge49, li_le49, li_gt49, li_lt60, li_ge60, li_le60, li_gt60, li_lt144, li_ge144, li_le144, li_gt144, li_lt145, li_ge145, li_le145, li_gt145, li_lt160, li_ge160, li_le160, li_gt160, li_lt336, li_ge336, li_le336, li_gt336, li_lt585, li_ge585, li_le585, li_gt585, li_lt633, li_ge633, li_le633, li_gt633, li_lt1000000, li_ge1000000, li_le1000000, li_gt1000000, li_lt2304, li_ge2304, li_le2304, li_gt2304, li_lt50, li_ge50, li_le50, li_gt50, li_le0, li_gt0]
        refine br_f own ?_
        unfold wY_tellOf_17
        refine br_f (by decide) ?_
        simp (disch := omega) only [forall_eq, true_and, and_true, Nat.zero_add, nI_clamp, li_vin, nI_add, nI_eq, nI_leI, nI_ltI, li_0le, li_lt0, li_nn1, li_e0, not_true_eq_false, not_false_eq_true, false_implies, true_implies, forall_const, li_a0, li_b0, li_a1, li_b1, li_a2, li_b2, li_a3, li_b3, li_a7, li_b7, li_a8, li_b8, li_a16, li_b16, li_a48, li_b48, li_a584, li_b584, li_a572, li_b572, li_a96, li_b96, li_a144, li_b144, li_a192, li_b192, li_a240, li_b240, li_a336, li_b336, li_a384, li_b384, li_a432, li_b432, li_a480, li_b480, li_a488, li_b488, li_a496, li_b496, li_a504, li_b504, li_a512, li_b512, li_a520, li_b520, li_a524, li_b524, li_a528, li_b528, li_a536, li_b536, li_a544, li_b544, li_a552, li_b552, li_a560, li_b560, li_a568, li_b568, li_a573, li_b573, li_a585, li_b585, li_a633, li_b633, li_m3, li_n3, li_m4, li_n4, li_m48, li_n48, li_m50, li_n50, li_m585, li_n585, li_m633, li_n633, li_lt2, li_ge2, li_le2, li_gt2, li_lt1, li_ge1, li_le1, li_gt1, li_lt3, li_ge3, li_le3, li_gt3, li_lt4, li_ge4, li_le4, li_gt4, li_lt7, li_ge7, li_le7, li_gt7, li_lt8, li_ge8, li_le8, li_gt8, li_lt40, li_ge40, li_le40, li_gt40, li_lt240, li_ge240, li_le240, li_gt240, li_lt41, li_ge41, li_le41, li_gt41, li_lt48, li_ge48, li_le48, li_gt48, li_lt49, li_ge49, li_le49, li_gt49, li_lt60, li_ge60, li_le60, li_gt60, li_lt144, li_ge144, li_le144, li_gt144, li_lt145, li_ge145, li_le145, li_gt145, li_lt160, li_ge160, li_le160, li_gt160, li_lt336, li_ge336, li_le336, li_gt336, li_lt585, li_ge585, li_le585, li_gt585, li_lt633, li_ge633, li_le633, li_gt633, li_lt1000000, li_ge1000000, li_le1000000, li_gt1000000, li_lt2304, li_ge2304, li_le2304, li_gt2304, li_lt50, li_ge50, li_le50, li_gt50, li_le0, li_gt0]
        refine br_t i1 (br_t i2 (br_t i3 (br_t i4 ?_)))
        unfold wY_tellOf_82
        rw [c2]
        exact t3 _ ⟨_, w2 post hp⟩
      rcases q with ⟨q1, q2⟩ | ⟨q1, q2, q3⟩
      · refine Or.inr ⟨q1, s', P', fun post hp => top post ?_⟩
        unfold wY_tellOf_223
        refine hw _ ?_
        subst q2
        exact br_f (by decide) (yw_told1 (g_trials := g_trials) (g_drafted := g_drafted) (g_found := g_found) (b_s := s') (b_saved := b_saved) (b_draft := b_draft) (b_who := b_who) (b_met := b_met) (b_stack := b_stack) (b_fresh := b_fresh) (b_deep := b_deep) (b_alike := b_alike) (b_meets := b_meets) post hp)
      · refine Or.inl ⟨q1, q3, s', Or.inl ?_, fun post hp => top post ?_⟩
        · rcases o' with z | z
          · rw [q2] at z; exact absurd z.1 (by decide)
          · exact z.2.2
        · unfold wY_tellOf_223
          refine hw _ ?_
          subst q2
          exact br_t rfl (br_f (by decide) (yw_told0 (g_trials := g_trials) (g_drafted := g_drafted) (g_found := g_found) (b_s := s') (b_saved := b_saved) (b_draft := b_draft) (b_who := b_who) (b_met := b_met) (b_stack := b_stack) (b_fresh := b_fresh) (b_deep := b_deep) (b_alike := b_alike) (b_meets := b_meets) post hp))
    · refine Or.inl ⟨X2, X3, b_s, Or.inl (fun _ _ => rfl), fun post hp => ?_⟩
      have nall : ¬ (b_s (48 + x) = kind ∧ b_s (96 + x) = num ∧ b_s (144 + x) = label ∧ b_s (192 + x) = count) := fun q => X1 (eq.mpr (iff.mp q))
      unfold wpY_tellOf
      simp (disch := omega) only [forall_eq, true_and, and_true, Nat.zero_add, nI_clamp, li_vin, nI_add, nI_eq, nI_leI, nI_ltI, li_0le, li_lt0, li_nn1, li_e0, not_true_eq_false, not_false_eq_true, false_implies, true_implies, forall_const, li_a0, li_b0, li_a1, li_b1, li_a2, li_b2, li_a3, li_b3, li_a7, li_b7, li_a8, li_b8, li_a16, li_b16, li_a48, li_b48, li_a584, li_b584, li_a572, li_b572, li_a96, li_b96, li_a144, li_b144, li_a192, li_b192, li_a240, li_b240, li_a336, li_b336, li_a384, li_b384, li_a432, li_b432, li_a480, li_b480, li_a488, li_b488, li_a496, li_b496, li_a504, li_b504, li_a512, li_b512, li_a520, li_b520, li_a524, li_b524, li_a528, li_b528, li_a536, li_b536, li_a544, li_b544, li_a552, li_b552, li_a560, li_b560, li_a568, li_b568, li_a573, li_b573, li_a585, li_b585, li_a633, li_b633, li_m3, li_n3, li_m4, li_n4, li_m48, li_n48, li_m50, li_n50, li_m585, li_n585, li_m633, li_n633, li_lt2, li_ge2, li_le2, li_gt2, li_lt1, li_ge1, li_le1, li_gt1, li_lt3, li_ge3, li_le3, li_gt3, li_lt4, li_ge4, li_le4, li_gt4, li_lt7, li_ge7, li_le7, li_gt7, li_lt8, li_ge8, li_le8, li_gt8, li_lt40, li_ge40, li_le40, li_gt40, li_lt240, li_ge240, li_le240, li_gt240, li_lt41, li_ge41, li_le41, li_gt41, li_lt48, li_ge48, li_le48, li_gt48, li_lt49, li_ge49, li_le49, li_gt49, li_lt60, li_ge60, li_le60, li_gt60, li_lt144, li_ge144, li_le144, li_gt144, li_lt145, li_ge145, li_le145, li_gt145, li_lt160, li_ge160, li_le160, li_gt160, li_lt336, li_ge336, li_le336, li_gt336, li_lt585, li_ge585, li_le585, li_gt585, li_lt633, li_ge633, li_le633, li_gt633, li_lt1000000, li_ge1000000, li_le1000000, li_gt1000000, li_lt2304, li_ge2304, li_le2304, li_gt2304, li_lt50, li_ge50, li_le50, li_gt50, li_le0, li_gt0]
      refine br_f own ?_
      unfold wY_tellOf_17
      refine br_f (by decide) ?_
      simp (disch := omega) only [forall_eq, true_and, and_true, Nat.zero_add, nI_clamp, li_vin, nI_add, nI_eq, nI_leI, nI_ltI, li_0le, li_lt0, li_nn1, li_e0, not_true_eq_false, not_false_eq_true, false_implies, true_implies, forall_const, li_a0, li_b0, li_a1, li_b1, li_a2, li_b2, li_a3, li_b3, li_a7, li_b7, li_a8, li_b8, li_a16, li_b16, li_a48, li_b48, li_a584, li_b584, li_a572, li_b572, li_a96, li_b96, li_a144, li_b144, li_a192, li_b192, li_a240, li_b240, li_a336, li_b336, li_a384, li_b384, li_a432, li_b432, li_a480, li_b480, li_a488, li_b488, li_a496, li_b496, li_a504, li_b504, li_a512, li_b512, li_a520, li_b520, li_a524, li_b524, li_a528, li_b528, li_a536, li_b536, li_a544, li_b544, li_a552, li_b552, li_a560, li_b560, li_a568, li_b568, li_a573, li_b573, li_a585, li_b585, li_a633, li_b633, li_m3, li_n3, li_m4, li_n4, li_m48, li_n48, li_m50, li_n50, li_m585, li_n585, li_m633, li_n633, li_lt2, li_ge2, li_le2, li_gt2, li_lt1, li_ge1, li_le1, li_gt1, li_lt3, li_ge3, li_le3, li_gt3, li_lt4, li_ge4, li_le4, li_gt4, li_lt7, li_ge7, li_le7, li_gt7, li_lt8, li_ge8, li_le8, li_gt8, li_lt40, li_ge40, li_le40, li_gt40, li_lt240, li_ge240, li_le240, li_gt240, li_lt41, li_ge41, li_le41, li_gt41, li_lt48, li_ge48, li_le48, li_gt48, li_lt49, li_ge49, li_le49, li_gt49, li_lt60, li_ge60, li_le60, li_gt60, li_lt144, li_ge144, li_le144, li_gt144, li_lt145, li_ge145, li_le145, li_gt145, li_lt160, li_ge160, li_le160, li_gt160, li_lt336, li_ge336, li_le336, li_gt336, li_lt585, li_ge585, li_le585, li_gt585, li_lt633, li_ge633, li_le633, li_gt633, li_lt1000000, li_ge1000000, li_le1000000, li_gt1000000, li_lt2304, li_ge2304, li_le2304, li_gt2304, li_lt50, li_ge50, li_le50, li_gt50, li_le0, li_gt0]
      exact br_c (fun q1 => br_c (fun q2 => br_c (fun q3 => br_f (fun q4 => nall ⟨q1, q2, q3, q4⟩) hp) (fun _ => hp)) (fun _ => hp)) (fun _ => hp)
end
section
def i_Rel (k : Nat) (u : SX) (v : SY) : Prop := match u with
  | (f_trials, f_drafted, f_pairs, f_metCount, f_meetingCount, a_held, a_saved, a_draft, a_toldBefore, a_pairX, a_pairY, a_stack, a_met, a_metAs, a_copies, a_meetings, a_wasMeeting, a_firstMet, a_depths, a_isKept) => match v with
    | (g_trials, g_drafted, g_found, b_s, b_saved, b_draft, b_who, b_met, b_stack, b_fresh, b_deep, b_alike, b_meets) => re_A k f_trials f_drafted g_trials g_drafted a_held a_saved a_draft b_s b_saved b_draft
theorem i_up {k : Nat} {u : SX} {v : SY} (h : i_Rel k u v) : i_Rel (k + 4) u v := by
  obtain ⟨f_trials, f_drafted, f_pairs, f_metCount, f_meetingCount, a_held, a_saved, a_draft, a_toldBefore, a_pairX, a_pairY, a_stack, a_met, a_metAs, a_copies, a_meetings, a_wasMeeting, a_firstMet, a_depths, a_isKept⟩ := u
  obtain ⟨g_trials, g_drafted, g_found, b_s, b_saved, b_draft, b_who, b_met, b_stack, b_fresh, b_deep, b_alike, b_meets⟩ := v
  exact re_A_up (k := k) (by omega) h
theorem re_neg {B : Nat} {a s : Nat → Int32} (r : re_P B a s) {v : Int32} (h : ¬ ∃ x, xv_U a x ∧ v = nI x) : ¬ ∃ x, yv_U s x ∧ v = nI x := by
  rw [re_U r]; exact h
theorem re_pos {B : Nat} {a s : Nat → Int32} (r : re_P B a s) {x : Nat} (h : xv_U a x) : yv_U s x := by
  rw [re_U r]; exact h
/-- the least that is not in USE is one -/
theorem lu_one {U : Nat → Prop} {z z' : Nat} (h1 : ¬ U z) (h2 : ∀ i, i < z → U i) (h1' : ¬ U z') (h2' : ∀ i, i < z' → U i) : z = z' := by
  rcases Nat.lt_trichotomy z z' with q | q | q
  · exact absurd (h2' z q) h1
  · exact q
  · exact absurd (h2 z' q) h1'
theorem i_vc_variable {k : Nat} {u : SX} {v : SY} (I : i_Rel k u v) (hk : k + 4 ≤ 2048) : wpX_variable (fun r u' => wpY_variable (fun r' v' => r' = r ∧ i_Rel (k + 4) u' v') v) u := by
  obtain ⟨f_trials, f_drafted, f_pairs, f_metCount, f_meetingCount, a_held, a_saved, a_draft, a_toldBefore, a_pairX, a_pairY, a_stack, a_met, a_metAs, a_copies, a_meetings, a_wasMeeting, a_firstMet, a_depths, a_isKept⟩ := u
  obtain ⟨g_trials, g_drafted, g_found, b_s, b_saved, b_draft, b_who, b_met, b_stack, b_fresh, b_deep, b_alike, b_meets⟩ := v
  have C := re_A_C I
  have P := C.1
  have yU := re_U P
  obtain ⟨r, h1, h2⟩ := xw_leastUnused (f_trials := f_trials) (f_drafted := f_drafted) (f_pairs := f_pairs) (f_metCount := f_metCount) (f_meetingCount := f_meetingCount) (a_held := a_held) (a_saved := a_saved) (a_draft := a_draft) (a_toldBefore := a_toldBefore) (a_pairX := a_pairX) (a_pairY := a_pairY) (a_stack := a_stack) (a_met := a_met) (a_metAs := a_metAs) (a_copies := a_copies) (a_meetings := a_meetings) (a_wasMeeting := a_wasMeeting) (a_firstMet := a_firstMet) (a_depths := a_depths) (a_isKept := a_isKept) P.1
  obtain ⟨r', h1', h2'⟩ := yw_spare (g_trials := g_trials) (g_drafted := g_drafted) (g_found := g_found) (b_s := b_s) (b_saved := b_saved) (b_draft := b_draft) (b_who := b_who) (b_met := b_met) (b_stack := b_stack) (b_fresh := b_fresh) (b_deep := b_deep) (b_alike := b_alike) (b_meets := b_meets) P.2.1
  rw [yU] at h1'
  rcases h1 with ⟨e, all⟩ | ⟨z, hz, e, nz, lz⟩
  · have e' : r' = -2 := by
      rcases h1' with q | ⟨z, hz, _, nz, _⟩
      · exact q.1
      · exact absurd (all z hz) nz
    subst e e'
    unfold wpX_variable
    refine h2 _ (br_t rfl ?_)
    unfold wpY_variable
    exact h2' _ (br_t (by decide) ⟨rfl, re_A_up (k := k) (by omega) I⟩)
  · have e' : r' = nI z := by
      rcases h1' with q | ⟨z', hz', e', nz', lz'⟩
      · exact absurd (q.2 z hz) nz
      · rw [e', lu_one nz lz nz' lz']
    subst e e'
    obtain ⟨a', t1, t2⟩ := xw_take (f_trials := f_trials) (f_drafted := f_drafted) (f_pairs := f_pairs) (f_metCount := f_metCount) (f_meetingCount := f_meetingCount) (a_held := a_held) (a_saved := a_saved) (a_draft := a_draft) (a_toldBefore := a_toldBefore) (a_pairX := a_pairX) (a_pairY := a_pairY) (a_stack := a_stack) (a_met := a_met) (a_metAs := a_metAs) (a_copies := a_copies) (a_meetings := a_meetings) (a_wasMeeting := a_wasMeeting) (a_firstMet := a_firstMet) (a_depths := a_depths) (a_isKept := a_isKept) hz
    obtain ⟨s', u1, u2⟩ := yw_use (g_trials := g_trials) (g_drafted := g_drafted) (g_found := g_found) (b_s := b_s) (b_saved := b_saved) (b_draft := b_draft) (b_who := b_who) (b_met := b_met) (b_stack := b_stack) (b_fresh := b_fresh) (b_deep := b_deep) (b_alike := b_alike) (b_meets := b_meets) hz
    unfold wpX_variable
    refine h2 _ (br_f (fun q => (li_nn1 (by omega)).mp q) (t2 _ ?_))
    unfold wpY_variable
    refine h2' _ (br_f (nI_pos (by omega)) (u2 _ ⟨rfl, ?_⟩))
    exact re_A_row (k := k) I (re_C_mono (by omega) (tk_C C hz nz t1 u1))
theorem i_vc_equal {k : Nat} {u : SX} {v : SY} (I : i_Rel k u v) (hk : k + 4 ≤ 2048) (v1 : Int32) (v2 : Int32) : wpX_equal (fun r u' => wpY_equal (fun r' v' => r' = r ∧ i_Rel (k + 4) u' v') v v1 v2) u v1 v2 := by
  obtain ⟨f_trials, f_drafted, f_pairs, f_metCount, f_meetingCount, a_held, a_saved, a_draft, a_toldBefore, a_pairX, a_pairY, a_stack, a_met, a_metAs, a_copies, a_meetings, a_wasMeeting, a_firstMet, a_depths, a_isKept⟩ := u
  obtain ⟨g_trials, g_drafted, g_found, b_s, b_saved, b_draft, b_who, b_met, b_stack, b_fresh, b_deep, b_alike, b_meets⟩ := v
  have C := re_A_C I
  have P := C.1
  by_cases hx : ∃ x, xv_U a_held x ∧ v1 = nI x
  · obtain ⟨x, ux, rfl⟩ := hx
    by_cases hy : ∃ x, xv_U a_held x ∧ v2 = nI x
    · obtain ⟨y, uy, rfl⟩ := hy
      obtain ⟨r, m', a', tb, px, py, e1, e2⟩ := xw_tellEqual (f_trials := f_trials) (f_drafted := f_drafted) (f_pairs := f_pairs) (f_metCount := f_metCount) (f_meetingCount := f_meetingCount) (a_held := a_held) (a_saved := a_saved) (a_draft := a_draft) (a_toldBefore := a_toldBefore) (a_pairX := a_pairX) (a_pairY := a_pairY) (a_stack := a_stack) (a_met := a_met) (a_metAs := a_metAs) (a_copies := a_copies) (a_meetings := a_meetings) (a_wasMeeting := a_wasMeeting) (a_firstMet := a_firstMet) (a_depths := a_depths) (a_isKept := a_isKept) (re_G P) ux uy
      obtain ⟨r', s', f1, f2⟩ := yw_tell (g_trials := g_trials) (g_drafted := g_drafted) (g_found := g_found) (b_s := b_s) (b_saved := b_saved) (b_draft := b_draft) (b_who := b_who) (b_met := b_met) (b_stack := b_stack) (b_fresh := b_fresh) (b_deep := b_deep) (b_alike := b_alike) (b_meets := b_meets) P ux uy
      obtain ⟨P', o⟩ := tl_eq P e1 f1
      unfold wpX_equal
      refine xw_inUse_t (f_trials := f_trials) (f_drafted := f_drafted) (f_pairs := f_pairs) (f_metCount := f_metCount) (f_meetingCount := f_meetingCount) (a_held := a_held) (a_saved := a_saved) (a_draft := a_draft) (a_toldBefore := a_toldBefore) (a_pairX := a_pairX) (a_pairY := a_pairY) (a_stack := a_stack) (a_met := a_met) (a_metAs := a_metAs) (a_copies := a_copies) (a_meetings := a_meetings) (a_wasMeeting := a_wasMeeting) (a_firstMet := a_firstMet) (a_depths := a_depths) (a_isKept := a_isKept) ux _ (br_f (by decide) (xw_inUse_t (f_trials := f_trials) (f_drafted := f_drafted) (f_pairs := f_pairs) (f_metCount := f_metCount) (f_meetingCount := f_meetingCount) (a_held := a_held) (a_saved := a_saved) (a_draft := a_draft) (a_toldBefore := a_toldBefore) (a_pairX := a_pairX) (a_pairY := a_pairY) (a_stack := a_stack) (a_met := a_met) (a_metAs := a_metAs) (a_copies := a_copies) (a_meetings := a_meetings) (a_wasMeeting := a_wasMeeting) (a_firstMet := a_firstMet) (a_depths := a_depths) (a_isKept := a_isKept) uy _ (br_f (by decide) (e2 _ ?_))))
      rcases o with ⟨o1, o2⟩ | ⟨o1, o2, o3⟩
      · subst o1 o2
        obtain ⟨m2, a2, tb2, px2, py2, s2, wh, al, g1, g2, g3⟩ := st_settle (f_trials := f_trials) (f_drafted := f_drafted) (f_pairs := nI m') (f_metCount := f_metCount) (f_meetingCount := f_meetingCount) (a_held := a') (a_saved := a_saved) (a_draft := a_draft) (a_toldBefore := tb) (a_pairX := px) (a_pairY := py) (a_stack := a_stack) (a_met := a_met) (a_metAs := a_metAs) (a_copies := a_copies) (a_meetings := a_meetings) (a_wasMeeting := a_wasMeeting) (a_firstMet := a_firstMet) (a_depths := a_depths) (a_isKept := a_isKept) (g_trials := g_trials) (g_drafted := g_drafted) (g_found := g_found) (b_s := s') (b_saved := b_saved) (b_draft := b_draft) (b_who := b_who) (b_met := b_met) (b_stack := b_stack) (b_fresh := b_fresh) (b_deep := b_deep) (b_alike := b_alike) (b_meets := b_meets) (by omega) P'
        refine g2 _ ?_
        unfold wpY_equal
        refine yw_isUsed_t (g_trials := g_trials) (g_drafted := g_drafted) (g_found := g_found) (b_s := b_s) (b_saved := b_saved) (b_draft := b_draft) (b_who := b_who) (b_met := b_met) (b_stack := b_stack) (b_fresh := b_fresh) (b_deep := b_deep) (b_alike := b_alike) (b_meets := b_meets) (re_pos P ux) _ (br_f (by decide) (yw_isUsed_t (g_trials := g_trials) (g_drafted := g_drafted) (g_found := g_found) (b_s := b_s) (b_saved := b_saved) (b_draft := b_draft) (b_who := b_who) (b_met := b_met) (b_stack := b_stack) (b_fresh := b_fresh) (b_deep := b_deep) (b_alike := b_alike) (b_meets := b_meets) (re_pos P uy) _ (br_f (by decide) (f2 _ ?_))))
        unfold wpY_told
        refine br_f (by decide) (g3 _ ⟨rfl, ?_⟩)
        exact re_A_row (k := k) I (re_C_mono (by omega) g1)
      · subst o1 o2
        rw [o3] at P' ⊢
        obtain ⟨m2, tb2, px2, py2, g2⟩ := xs_idle (f_trials := f_trials) (f_drafted := f_drafted) (f_pairs := nI m') (f_metCount := f_metCount) (f_meetingCount := f_meetingCount) (a_held := a_held) (a_saved := a_saved) (a_draft := a_draft) (a_toldBefore := tb) (a_pairX := px) (a_pairY := py) (a_stack := a_stack) (a_met := a_met) (a_metAs := a_metAs) (a_copies := a_copies) (a_meetings := a_meetings) (a_wasMeeting := a_wasMeeting) (a_firstMet := a_firstMet) (a_depths := a_depths) (a_isKept := a_isKept) C
        refine g2 _ ?_
        unfold wpY_equal
        refine yw_isUsed_t (g_trials := g_trials) (g_drafted := g_drafted) (g_found := g_found) (b_s := b_s) (b_saved := b_saved) (b_draft := b_draft) (b_who := b_who) (b_met := b_met) (b_stack := b_stack) (b_fresh := b_fresh) (b_deep := b_deep) (b_alike := b_alike) (b_meets := b_meets) (re_pos P ux) _ (br_f (by decide) (yw_isUsed_t (g_trials := g_trials) (g_drafted := g_drafted) (g_found := g_found) (b_s := b_s) (b_saved := b_saved) (b_draft := b_draft) (b_who := b_who) (b_met := b_met) (b_stack := b_stack) (b_fresh := b_fresh) (b_deep := b_deep) (b_alike := b_alike) (b_meets := b_meets) (re_pos P uy) _ (br_f (by decide) (f2 _ ?_))))
        unfold wpY_told
        refine br_t rfl ⟨rfl, ?_⟩
        exact re_A_row (k := k) I (re_C_mono (by omega) ⟨P', C.2⟩)
    · unfold wpX_equal
      refine xw_inUse_t (f_trials := f_trials) (f_drafted := f_drafted) (f_pairs := f_pairs) (f_metCount := f_metCount) (f_meetingCount := f_meetingCount) (a_held := a_held) (a_saved := a_saved) (a_draft := a_draft) (a_toldBefore := a_toldBefore) (a_pairX := a_pairX) (a_pairY := a_pairY) (a_stack := a_stack) (a_met := a_met) (a_metAs := a_metAs) (a_copies := a_copies) (a_meetings := a_meetings) (a_wasMeeting := a_wasMeeting) (a_firstMet := a_firstMet) (a_depths := a_depths) (a_isKept := a_isKept) ux _ (br_f (by decide) (xw_inUse_f (f_trials := f_trials) (f_drafted := f_drafted) (f_pairs := f_pairs) (f_metCount := f_metCount) (f_meetingCount := f_meetingCount) (a_held := a_held) (a_saved := a_saved) (a_draft := a_draft) (a_toldBefore := a_toldBefore) (a_pairX := a_pairX) (a_pairY := a_pairY) (a_stack := a_stack) (a_met := a_met) (a_metAs := a_metAs) (a_copies := a_copies) (a_meetings := a_meetings) (a_wasMeeting := a_wasMeeting) (a_firstMet := a_firstMet) (a_depths := a_depths) (a_isKept := a_isKept) hy _ (br_t rfl ?_)))
      unfold wpY_equal
      exact yw_isUsed_t (g_trials := g_trials) (g_drafted := g_drafted) (g_found := g_found) (b_s := b_s) (b_saved := b_saved) (b_draft := b_draft) (b_who := b_who) (b_met := b_met) (b_stack := b_stack) (b_fresh := b_fresh) (b_deep := b_deep) (b_alike := b_alike) (b_meets := b_meets) (re_pos P ux) _ (br_f (by decide) (yw_isUsed_f (g_trials := g_trials) (g_drafted := g_drafted) (g_found := g_found) (b_s := b_s) (b_saved := b_saved) (b_draft := b_draft) (b_who := b_who) (b_met := b_met) (b_stack := b_stack) (b_fresh := b_fresh) (b_deep := b_deep) (b_alike := b_alike) (b_meets := b_meets) (re_neg P hy) _ (br_t rfl ⟨rfl, re_A_up (k := k) (by omega) I⟩)))
  · unfold wpX_equal
    refine xw_inUse_f (f_trials := f_trials) (f_drafted := f_drafted) (f_pairs := f_pairs) (f_metCount := f_metCount) (f_meetingCount := f_meetingCount) (a_held := a_held) (a_saved := a_saved) (a_draft := a_draft) (a_toldBefore := a_toldBefore) (a_pairX := a_pairX) (a_pairY := a_pairY) (a_stack := a_stack) (a_met := a_met) (a_metAs := a_metAs) (a_copies := a_copies) (a_meetings := a_meetings) (a_wasMeeting := a_wasMeeting) (a_firstMet := a_firstMet) (a_depths := a_depths) (a_isKept := a_isKept) hx _ (br_t rfl ?_)
    unfold wpY_equal
    exact yw_isUsed_f (g_trials := g_trials) (g_drafted := g_drafted) (g_found := g_found) (b_s := b_s) (b_saved := b_saved) (b_draft := b_draft) (b_who := b_who) (b_met := b_met) (b_stack := b_stack) (b_fresh := b_fresh) (b_deep := b_deep) (b_alike := b_alike) (b_meets := b_meets) (re_neg P hx) _ (br_t rfl ⟨rfl, re_A_up (k := k) (by omega) I⟩)
end
section
theorem i_vc_part {k : Nat} {u : SX} {v : SY} (I : i_Rel k u v) (hk : k + 4 ≤ 2048) (v1 : Int32) : wpX_part (fun r u' => wpY_part (fun r' v' => r' = r ∧ i_Rel (k + 4) u' v') v v1) u v1 := by
  obtain ⟨f_trials, f_drafted, f_pairs, f_metCount, f_meetingCount, a_held, a_saved, a_draft, a_toldBefore, a_pairX, a_pairY, a_stack, a_met, a_metAs, a_copies, a_meetings, a_wasMeeting, a_firstMet, a_depths, a_isKept⟩ := u
  obtain ⟨g_trials, g_drafted, g_found, b_s, b_saved, b_draft, b_who, b_met, b_stack, b_fresh, b_deep, b_alike, b_meets⟩ := v
  have C := re_A_C I
  have P := C.1
  obtain ⟨t, d, t3, d3, eT, eT', eD, eD', hDr, hC, hS⟩ := id I
  by_cases hx : ∃ x, xv_U a_held x ∧ v1 = nI x
  · obtain ⟨x, ux, rfl⟩ := hx
    by_cases d2 : d = 3
    · unfold wpX_part
      refine br_t (by rw [eD]; exact (li_ge3 (by omega)).mpr (by omega)) ?_
      unfold wpY_part
      exact yw_isUsed_t (g_trials := g_trials) (g_drafted := g_drafted) (g_found := g_found) (b_s := b_s) (b_saved := b_saved) (b_draft := b_draft) (b_who := b_who) (b_met := b_met) (b_stack := b_stack) (b_fresh := b_fresh) (b_deep := b_deep) (b_alike := b_alike) (b_meets := b_meets) (re_pos P ux) _ (br_f (by decide) (br_t (by rw [eD', d2]; rfl) ⟨rfl, re_A_up (k := k) (by omega) I⟩))
    · have x48 := ux.1
      unfold wpX_part
      refine br_f (by rw [eD]; exact fun q => by have := (li_ge3 (by omega)).mp q; omega) (xw_inUse_t (f_trials := f_trials) (f_drafted := f_drafted) (f_pairs := f_pairs) (f_metCount := f_metCount) (f_meetingCount := f_meetingCount) (a_held := a_held) (a_saved := a_saved) (a_draft := a_draft) (a_toldBefore := a_toldBefore) (a_pairX := a_pairX) (a_pairY := a_pairY) (a_stack := a_stack) (a_met := a_met) (a_metAs := a_metAs) (a_copies := a_copies) (a_meetings := a_meetings) (a_wasMeeting := a_wasMeeting) (a_firstMet := a_firstMet) (a_depths := a_depths) (a_isKept := a_isKept) ux _ (br_f (by decide) ?_))
      simp (disch := omega) only [forall_eq, true_and, and_true, Nat.zero_add, nI_clamp, li_vin, nI_add, nI_eq, nI_leI, nI_ltI, li_0le, li_lt0, li_nn1, li_e0, not_true_eq_false, not_false_eq_true, false_implies, true_implies, forall_const, li_a0, li_b0, li_a1, li_b1, li_a2, li_b2, li_a3, li_b3, li_a7, li_b7, li_a8, li_b8, li_a16, li_b16, li_a48, li_b48, li_a584, li_b584, li_a572, li_b572, li_a96, li_b96, li_a144, li_b144, li_a192, li_b192, li_a240, li_b240, li_a336, li_b336, li_a384, li_b384, li_a432, li_b432, li_a480, li_b480, li_a488, li_b488, li_a496, li_b496, li_a504, li_b504, li_a512, li_b512, li_a520, li_b520, li_a524, li_b524, li_a528, li_b528, li_a536, li_b536, li_a544, li_b544, li_a552, li_b552, li_a560, li_b560, li_a568, li_b568, li_a573, li_b573, li_a585, li_b585, li_a633, li_b633, li_m3, li_n3, li_m4, li_n4, li_m48, li_n48, li_m50, li_n50, li_m585, li_n585, li_m633, li_n633, li_lt2, li_ge2, li_le2, li_gt2, li_lt1, li_ge1, li_le1, li_gt1, li_lt3, li_ge3, li_le3, li_gt3, li_lt4, li_ge4, li_le4, li_gt4, li_lt7, li_ge7, li_le7, li_gt7, li_lt8, li_ge8, li_le8, li_gt8, li_lt40, li_ge40, li_le40, li_gt40, li_lt240, li_ge240, li_le240, li_gt240, li_lt41, li_ge41, li_le41, li_gt41, li_lt48, li_ge48, li_le48, li_gt48, li_lt49, li_ge49, li_le49, li_gt49, li_lt60, li_ge60, li_le60, li_gt60, li_lt144, li_ge144, li_le144, li_gt144, li_lt145, li_ge145, li_le145, li_gt145, li_lt160, li_ge160, li_le160, li_gt160, li_lt336, li_ge336, li_le336, li_gt336, li_lt585, li_ge585, li_le585, li_gt585, li_lt633, li_ge633, li_le633, li_gt633, li_lt1000000, li_ge1000000, li_le1000000, li_gt1000000, li_lt2304, li_ge2304, li_le2304, li_gt2304, li_lt50, li_ge50, li_le50, li_gt50, li_le0, li_gt0, eD]
      unfold wpY_part
      refine yw_isUsed_t (g_trials := g_trials) (g_drafted := g_drafted) (g_found := g_found) (b_s := b_s) (b_saved := b_saved) (b_draft := b_draft) (b_who := b_who) (b_met := b_met) (b_stack := b_stack) (b_fresh := b_fresh) (b_deep := b_deep) (b_alike := b_alike) (b_meets := b_meets) (re_pos P ux) _ (br_f (by decide) (br_f (by rw [eD']; exact fun q => d2 ((nI_eq (b := 3) (by omega) (by decide)).mp q)) ?_))
      simp (disch := omega) only [forall_eq, true_and, and_true, Nat.zero_add, nI_clamp, li_vin, nI_add, nI_eq, nI_leI, nI_ltI, li_0le, li_lt0, li_nn1, li_e0, not_true_eq_false, not_false_eq_true, false_implies, true_implies, forall_const, li_a0, li_b0, li_a1, li_b1, li_a2, li_b2, li_a3, li_b3, li_a7, li_b7, li_a8, li_b8, li_a16, li_b16, li_a48, li_b48, li_a584, li_b584, li_a572, li_b572, li_a96, li_b96, li_a144, li_b144, li_a192, li_b192, li_a240, li_b240, li_a336, li_b336, li_a384, li_b384, li_a432, li_b432, li_a480, li_b480, li_a488, li_b488, li_a496, li_b496, li_a504, li_b504, li_a512, li_b512, li_a520, li_b520, li_a524, li_b524, li_a528, li_b528, li_a536, li_b536, li_a544, li_b544, li_a552, li_b552, li_a560, li_b560, li_a568, li_b568, li_a573, li_b573, li_a585, li_b585, li_a633, li_b633, li_m3, li_n3, li_m4, li_n4, li_m48, li_n48, li_m50, li_n50, li_m585, li_n585, li_m633, li_n633, li_lt2, li_ge2, li_le2, li_gt2, li_lt1, li_ge1, li_le1, li_gt1, li_lt3, li_ge3, li_le3, li_gt3, li_lt4, li_ge4, li_le4, li_gt4, li_lt7, li_ge7, li_le7, li_gt7, li_lt8, li_ge8, li_le8, li_gt8, li_lt40, li_ge40, li_le40, li_gt40, li_lt240, li_ge240, li_le240, li_gt240, li_lt41, li_ge41, li_le41, li_gt41, li_lt48, li_ge48, li_le48, li_gt48, li_lt49, li_ge49, li_le49, li_gt49, li_lt60, li_ge60, li_le60, li_gt60, li_lt144, li_ge144, li_le144, li_gt144, li_lt145, li_ge145, li_le145, li_gt145, li_lt160, li_ge160, li_le160, li_gt160, li_lt336, li_ge336, li_le336, li_gt336, li_lt585, li_ge585, li_le585, li_gt585, li_lt633, li_ge633, li_le633, li_gt633, li_lt1000000, li_ge1000000, li_le1000000, li_gt1000000, li_lt2304, li_ge2304, li_le2304, li_gt2304, li_lt50, li_ge50, li_le50, li_gt50, li_le0, li_gt0, eD']
      refine ⟨t, d + 1, t3, by omega, eT, eT', rfl, rfl, ?_, re_C_mono (by omega) hC, fun j hj => re_C_mono (by omega) (hS j hj)⟩
      intro i hi
      by_cases q : i = d
      · rw [q, pk_us, pk_us]; exact ⟨rfl, x, x48, rfl⟩
      · rw [pk_un q, pk_un q]; exact hDr i hi
  · have neg : wpY_part (fun r' v' => r' = (-1 : Int32) ∧ i_Rel (k + 4) (f_trials, f_drafted, f_pairs, f_metCount, f_meetingCount, a_held, a_saved, a_draft, a_toldBefore, a_pairX, a_pairY, a_stack, a_met, a_metAs, a_copies, a_meetings, a_wasMeeting, a_firstMet, a_depths, a_isKept) v') (g_trials, g_drafted, g_found, b_s, b_saved, b_draft, b_who, b_met, b_stack, b_fresh, b_deep, b_alike, b_meets) v1 := by
      unfold wpY_part
      exact yw_isUsed_f (g_trials := g_trials) (g_drafted := g_drafted) (g_found := g_found) (b_s := b_s) (b_saved := b_saved) (b_draft := b_draft) (b_who := b_who) (b_met := b_met) (b_stack := b_stack) (b_fresh := b_fresh) (b_deep := b_deep) (b_alike := b_alike) (b_meets := b_meets) (re_neg P hx) _ (br_t rfl ⟨rfl, re_A_up (k := k) (by omega) I⟩)
    unfold wpX_part
    exact br_c (fun _ => neg) (fun _ => xw_inUse_f (f_trials := f_trials) (f_drafted := f_drafted) (f_pairs := f_pairs) (f_metCount := f_metCount) (f_meetingCount := f_meetingCount) (a_held := a_held) (a_saved := a_saved) (a_draft := a_draft) (a_toldBefore := a_toldBefore) (a_pairX := a_pairX) (a_pairY := a_pairY) (a_stack := a_stack) (a_met := a_met) (a_metAs := a_metAs) (a_copies := a_copies) (a_meetings := a_meetings) (a_wasMeeting := a_wasMeeting) (a_firstMet := a_firstMet) (a_depths := a_depths) (a_isKept := a_isKept) hx _ (br_t rfl neg))
theorem i_vc_undraft {k : Nat} {u : SX} {v : SY} (I : i_Rel k u v) (hk : k + 4 ≤ 2048) : wpX_undraft (fun r u' => wpY_undraft (fun r' v' => r' = r ∧ i_Rel (k + 4) u' v') v) u := by
  obtain ⟨f_trials, f_drafted, f_pairs, f_metCount, f_meetingCount, a_held, a_saved, a_draft, a_toldBefore, a_pairX, a_pairY, a_stack, a_met, a_metAs, a_copies, a_meetings, a_wasMeeting, a_firstMet, a_depths, a_isKept⟩ := u
  obtain ⟨g_trials, g_drafted, g_found, b_s, b_saved, b_draft, b_who, b_met, b_stack, b_fresh, b_deep, b_alike, b_meets⟩ := v
  obtain ⟨t, d, t3, d3, eT, eT', eD, eD', hDr, hC, hS⟩ := id I
  unfold wpX_undraft wpY_undraft
  refine ⟨by rw [eD, eD'], ?_⟩
  exact ⟨t, 0, t3, by omega, eT, eT', rfl, rfl, hDr, re_C_mono (by omega) hC, fun j hj => re_C_mono (by omega) (hS j hj)⟩
theorem i_vc_compare {k : Nat} {u : SX} {v : SY} (I : i_Rel k u v) (hk : k + 4 ≤ 2048) (v1 : Int32) (v2 : Int32) : wpX_compare (fun r u' => wpY_compare (fun r' v' => r' = r ∧ i_Rel (k + 4) u' v') v v1 v2) u v1 v2 := by
  obtain ⟨f_trials, f_drafted, f_pairs, f_metCount, f_meetingCount, a_held, a_saved, a_draft, a_toldBefore, a_pairX, a_pairY, a_stack, a_met, a_metAs, a_copies, a_meetings, a_wasMeeting, a_firstMet, a_depths, a_isKept⟩ := u
  obtain ⟨g_trials, g_drafted, g_found, b_s, b_saved, b_draft, b_who, b_met, b_stack, b_fresh, b_deep, b_alike, b_meets⟩ := v
  have C := re_A_C I
  have P := C.1
  by_cases hx : ∃ x, xv_U a_held x ∧ v1 = nI x
  · obtain ⟨x, ux, rfl⟩ := hx
    by_cases hy : ∃ x, xv_U a_held x ∧ v2 = nI x
    · obtain ⟨y, uy, rfl⟩ := hy
      obtain ⟨m', tb, px, py, e2⟩ := xw_likeness (f_trials := f_trials) (f_drafted := f_drafted) (f_pairs := f_pairs) (f_metCount := f_metCount) (f_meetingCount := f_meetingCount) (a_held := a_held) (a_saved := a_saved) (a_draft := a_draft) (a_toldBefore := a_toldBefore) (a_pairX := a_pairX) (a_pairY := a_pairY) (a_stack := a_stack) (a_met := a_met) (a_metAs := a_metAs) (a_copies := a_copies) (a_meetings := a_meetings) (a_wasMeeting := a_wasMeeting) (a_firstMet := a_firstMet) (a_depths := a_depths) (a_isKept := a_isKept) (re_G P) ux uy
      obtain ⟨wh, al, hR, rY⟩ := yw_relate (g_trials := g_trials) (g_drafted := g_drafted) (g_found := g_found) (b_s := b_s) (b_saved := b_saved) (b_draft := b_draft) (b_who := b_who) (b_met := b_met) (b_stack := b_stack) (b_fresh := b_fresh) (b_deep := b_deep) (b_alike := b_alike) (b_meets := b_meets) P
      obtain ⟨s', f1, f2⟩ := yw_judge (g_trials := g_trials) (g_drafted := g_drafted) (g_found := g_found) (b_s := b_s) (b_saved := b_saved) (b_draft := b_draft) (b_who := wh) (b_met := b_met) (b_stack := b_stack) (b_fresh := b_fresh) (b_deep := b_deep) (b_alike := al) (b_meets := b_meets) P hR ux uy
      unfold wpX_compare
      refine xw_inUse_t (f_trials := f_trials) (f_drafted := f_drafted) (f_pairs := f_pairs) (f_metCount := f_metCount) (f_meetingCount := f_meetingCount) (a_held := a_held) (a_saved := a_saved) (a_draft := a_draft) (a_toldBefore := a_toldBefore) (a_pairX := a_pairX) (a_pairY := a_pairY) (a_stack := a_stack) (a_met := a_met) (a_metAs := a_metAs) (a_copies := a_copies) (a_meetings := a_meetings) (a_wasMeeting := a_wasMeeting) (a_firstMet := a_firstMet) (a_depths := a_depths) (a_isKept := a_isKept) ux _ (br_f (by decide) (xw_inUse_t (f_trials := f_trials) (f_drafted := f_drafted) (f_pairs := f_pairs) (f_metCount := f_metCount) (f_meetingCount := f_meetingCount) (a_held := a_held) (a_saved := a_saved) (a_draft := a_draft) (a_toldBefore := a_toldBefore) (a_pairX := a_pairX) (a_pairY := a_pairY) (a_stack := a_stack) (a_met := a_met) (a_metAs := a_metAs) (a_copies := a_copies) (a_meetings := a_meetings) (a_wasMeeting := a_wasMeeting) (a_firstMet := a_firstMet) (a_depths := a_depths) (a_isKept := a_isKept) uy _ (br_f (by decide) (e2 _ ?_))))
      unfold wpY_compare
      refine yw_isUsed_t (g_trials := g_trials) (g_drafted := g_drafted) (g_found := g_found) (b_s := b_s) (b_saved := b_saved) (b_draft := b_draft) (b_who := b_who) (b_met := b_met) (b_stack := b_stack) (b_fresh := b_fresh) (b_deep := b_deep) (b_alike := b_alike) (b_meets := b_meets) (re_pos P ux) _ (br_f (by decide) (yw_isUsed_t (g_trials := g_trials) (g_drafted := g_drafted) (g_found := g_found) (b_s := b_s) (b_saved := b_saved) (b_draft := b_draft) (b_who := b_who) (b_met := b_met) (b_stack := b_stack) (b_fresh := b_fresh) (b_deep := b_deep) (b_alike := b_alike) (b_meets := b_meets) (re_pos P uy) _ (br_f (by decide) (rY _ (f2 _ ⟨rfl, ?_⟩)))))
      exact re_A_row (k := k) I (re_C_mono (by omega) (re_C_congr (fun _ _ => rfl) f1 C))
    · unfold wpX_compare
      refine xw_inUse_t (f_trials := f_trials) (f_drafted := f_drafted) (f_pairs := f_pairs) (f_metCount := f_metCount) (f_meetingCount := f_meetingCount) (a_held := a_held) (a_saved := a_saved) (a_draft := a_draft) (a_toldBefore := a_toldBefore) (a_pairX := a_pairX) (a_pairY := a_pairY) (a_stack := a_stack) (a_met := a_met) (a_metAs := a_metAs) (a_copies := a_copies) (a_meetings := a_meetings) (a_wasMeeting := a_wasMeeting) (a_firstMet := a_firstMet) (a_depths := a_depths) (a_isKept := a_isKept) ux _ (br_f (by decide) (xw_inUse_f (f_trials := f_trials) (f_drafted := f_drafted) (f_pairs := f_pairs) (f_metCount := f_metCount) (f_meetingCount := f_meetingCount) (a_held := a_held) (a_saved := a_saved) (a_draft := a_draft) (a_toldBefore := a_toldBefore) (a_pairX := a_pairX) (a_pairY := a_pairY) (a_stack := a_stack) (a_met := a_met) (a_metAs := a_metAs) (a_copies := a_copies) (a_meetings := a_meetings) (a_wasMeeting := a_wasMeeting) (a_firstMet := a_firstMet) (a_depths := a_depths) (a_isKept := a_isKept) hy _ (br_t rfl ?_)))
      unfold wpY_compare
      exact yw_isUsed_t (g_trials := g_trials) (g_drafted := g_drafted) (g_found := g_found) (b_s := b_s) (b_saved := b_saved) (b_draft := b_draft) (b_who := b_who) (b_met := b_met) (b_stack := b_stack) (b_fresh := b_fresh) (b_deep := b_deep) (b_alike := b_alike) (b_meets := b_meets) (re_pos P ux) _ (br_f (by decide) (yw_isUsed_f (g_trials := g_trials) (g_drafted := g_drafted) (g_found := g_found) (b_s := b_s) (b_saved := b_saved) (b_draft := b_draft) (b_who := b_who) (b_met := b_met) (b_stack := b_stack) (b_fresh := b_fresh) (b_deep := b_deep) (b_alike := b_alike) (b_meets := b_meets) (re_neg P hy) _ (br_t rfl ⟨rfl, re_A_up (k := k) (by omega) I⟩)))
  · unfold wpX_compare
    refine xw_inUse_f (f_trials := f_trials) (f_drafted := f_drafted) (f_pairs := f_pairs) (f_metCount := f_metCount) (f_meetingCount := f_meetingCount) (a_held := a_held) (a_saved := a_saved) (a_draft := a_draft) (a_toldBefore := a_toldBefore) (a_pairX := a_pairX) (a_pairY := a_pairY) (a_stack := a_stack) (a_met := a_met) (a_metAs := a_metAs) (a_copies := a_copies) (a_meetings := a_meetings) (a_wasMeeting := a_wasMeeting) (a_firstMet := a_firstMet) (a_depths := a_depths) (a_isKept := a_isKept) hx _ (br_t rfl ?_)
    unfold wpY_compare
    exact yw_isUsed_f (g_trials := g_trials) (g_drafted := g_drafted) (g_found := g_found) (b_s := b_s) (b_saved := b_saved) (b_draft := b_draft) (b_who := b_who) (b_met := b_met) (b_stack := b_stack) (b_fresh := b_fresh) (b_deep := b_deep) (b_alike := b_alike) (b_meets := b_meets) (re_neg P hx) _ (br_t rfl ⟨rfl, re_A_up (k := k) (by omega) I⟩)
theorem i_vc_tested {k : Nat} {u : SX} {v : SY} (I : i_Rel k u v) (hk : k + 4 ≤ 2048) (v1 : Int32) : wpX_tested (fun r => wpY_tested (fun r' => r' = r ∧ i_Rel (k + 4) u v) v v1) u v1 := by
  obtain ⟨f_trials, f_drafted, f_pairs, f_metCount, f_meetingCount, a_held, a_saved, a_draft, a_toldBefore, a_pairX, a_pairY, a_stack, a_met, a_metAs, a_copies, a_meetings, a_wasMeeting, a_firstMet, a_depths, a_isKept⟩ := u
  obtain ⟨g_trials, g_drafted, g_found, b_s, b_saved, b_draft, b_who, b_met, b_stack, b_fresh, b_deep, b_alike, b_meets⟩ := v
  have P := (re_A_C I).1
  have R := re_A_up (k := k) (k' := k + 4) (by omega) I
  unfold wpX_tested wpY_tested
  by_cases h0 : v1 < 0
  · exact br_t h0 (br_t h0 ⟨rfl, R⟩)
  · obtain ⟨t, ht, rfl⟩ := nI_of h0
    refine br_f h0 ?_
    by_cases h8 : t < 8
    · refine br_t ((li_lt8 (by omega)).mpr h8) ?_
      simp (disch := omega) only [forall_eq, true_and, and_true, Nat.zero_add, nI_clamp, li_vin, nI_add, nI_eq, nI_leI, nI_ltI, li_0le, li_lt0, li_nn1, li_e0, not_true_eq_false, not_false_eq_true, false_implies, true_implies, forall_const, li_a0, li_b0, li_a1, li_b1, li_a2, li_b2, li_a3, li_b3, li_a7, li_b7, li_a8, li_b8, li_a16, li_b16, li_a48, li_b48, li_a584, li_b584, li_a572, li_b572, li_a96, li_b96, li_a144, li_b144, li_a192, li_b192, li_a240, li_b240, li_a336, li_b336, li_a384, li_b384, li_a432, li_b432, li_a480, li_b480, li_a488, li_b488, li_a496, li_b496, li_a504, li_b504, li_a512, li_b512, li_a520, li_b520, li_a524, li_b524, li_a528, li_b528, li_a536, li_b536, li_a544, li_b544, li_a552, li_b552, li_a560, li_b560, li_a568, li_b568, li_a573, li_b573, li_a585, li_b585, li_a633, li_b633, li_m3, li_n3, li_m4, li_n4, li_m48, li_n48, li_m50, li_n50, li_m585, li_n585, li_m633, li_n633, li_lt2, li_ge2, li_le2, li_gt2, li_lt1, li_ge1, li_le1, li_gt1, li_lt3, li_ge3, li_le3, li_gt3, li_lt4, li_ge4, li_le4, li_gt4, li_lt7, li_ge7, li_le7, li_gt7, li_lt8, li_ge8, li_le8, li_gt8, li_lt40, li_ge40, li_le40, li_gt40, li_lt240, li_ge240, li_le240, li_gt240, li_lt41, li_ge41, li_le41, li_gt41, li_lt48, li_ge48, li_le48, li_gt48, li_lt49, li_ge49, li_le49, li_gt49, li_lt60, li_ge60, li_le60, li_gt60, li_lt144, li_ge144, li_le144, li_gt144, li_lt145, li_ge145, li_le145, li_gt145, li_lt160, li_ge160, li_le160, li_gt160, li_lt336, li_ge336, li_le336, li_gt336, li_lt585, li_ge585, li_le585, li_gt585, li_lt633, li_ge633, li_le633, li_gt633, li_lt1000000, li_ge1000000, li_le1000000, li_gt1000000, li_lt2304, li_ge2304, li_le2304, li_gt2304, li_lt50, li_ge50, li_le50, li_gt50, li_le0, li_gt0]
      refine ⟨fun _ => ⟨((P.2.2.2.2.2.2.2.1 t h8).1).symm, R⟩, fun q => by omega⟩
    · refine br_f (fun q => h8 ((li_lt8 (by omega)).mp q)) (br_f h0 (br_f (fun q => h8 (by have := (li_le7 (by omega)).mp q; omega)) ⟨rfl, R⟩))
theorem i_vc_noted {k : Nat} {u : SX} {v : SY} (I : i_Rel k u v) (hk : k + 4 ≤ 2048) (v1 : Int32) : wpX_noted (fun r => wpY_noted (fun r' => r' = r ∧ i_Rel (k + 4) u v) v v1) u v1 := by
  obtain ⟨f_trials, f_drafted, f_pairs, f_metCount, f_meetingCount, a_held, a_saved, a_draft, a_toldBefore, a_pairX, a_pairY, a_stack, a_met, a_metAs, a_copies, a_meetings, a_wasMeeting, a_firstMet, a_depths, a_isKept⟩ := u
  obtain ⟨g_trials, g_drafted, g_found, b_s, b_saved, b_draft, b_who, b_met, b_stack, b_fresh, b_deep, b_alike, b_meets⟩ := v
  have P := (re_A_C I).1
  have R := re_A_up (k := k) (k' := k + 4) (by omega) I
  obtain ⟨n, nb, na, ns⟩ := P.2.2.2.2.2.2.2.2.2.2.1
  have h7 := P.2.2.2.2.2.2.2.2.2.2.2
  unfold wpX_noted wpY_noted
  dsimp only
  rw [na, ns]
  refine nm_e ?_
  by_cases hm : v1 = -1
  · exact br_t hm (br_t hm ⟨rfl, R⟩)
  · refine br_f hm ?_
    by_cases h0 : v1 < 0
    · exact br_t h0 (br_f hm (br_t h0 ⟨rfl, R⟩))
    · obtain ⟨j, hj, rfl⟩ := nI_of h0
      refine br_f h0 ?_
      by_cases h60 : 60 ≤ j
      · refine br_t ((li_ge60 (by omega)).mpr h60) (br_f hm (br_f h0 ?_))
        exact br_c (fun _ => ⟨rfl, R⟩) (fun _ => br_t ((li_ge60 (by omega)).mpr h60) ⟨rfl, R⟩)
      · refine br_f (fun q => h60 ((li_ge60 (by omega)).mp q)) ?_
        by_cases hn : j < n
        · refine br_t ((nI_ltI (by omega) (by omega)).mpr hn) ?_
          simp (disch := omega) only [forall_eq, true_and, and_true, Nat.zero_add, nI_clamp, li_vin, nI_add, nI_eq, nI_leI, nI_ltI, li_0le, li_lt0, li_nn1, li_e0, not_true_eq_false, not_false_eq_true, false_implies, true_implies, forall_const, li_a0, li_b0, li_a1, li_b1, li_a2, li_b2, li_a3, li_b3, li_a7, li_b7, li_a8, li_b8, li_a16, li_b16, li_a48, li_b48, li_a584, li_b584, li_a572, li_b572, li_a96, li_b96, li_a144, li_b144, li_a192, li_b192, li_a240, li_b240, li_a336, li_b336, li_a384, li_b384, li_a432, li_b432, li_a480, li_b480, li_a488, li_b488, li_a496, li_b496, li_a504, li_b504, li_a512, li_b512, li_a520, li_b520, li_a524, li_b524, li_a528, li_b528, li_a536, li_b536, li_a544, li_b544, li_a552, li_b552, li_a560, li_b560, li_a568, li_b568, li_a573, li_b573, li_a585, li_b585, li_a633, li_b633, li_m3, li_n3, li_m4, li_n4, li_m48, li_n48, li_m50, li_n50, li_m585, li_n585, li_m633, li_n633, li_lt2, li_ge2, li_le2, li_gt2, li_lt1, li_ge1, li_le1, li_gt1, li_lt3, li_ge3, li_le3, li_gt3, li_lt4, li_ge4, li_le4, li_gt4, li_lt7, li_ge7, li_le7, li_gt7, li_lt8, li_ge8, li_le8, li_gt8, li_lt40, li_ge40, li_le40, li_gt40, li_lt240, li_ge240, li_le240, li_gt240, li_lt41, li_ge41, li_le41, li_gt41, li_lt48, li_ge48, li_le48, li_gt48, li_lt49, li_ge49, li_le49, li_gt49, li_lt60, li_ge60, li_le60, li_gt60, li_lt144, li_ge144, li_le144, li_gt144, li_lt145, li_ge145, li_le145, li_gt145, li_lt160, li_ge160, li_le160, li_gt160, li_lt336, li_ge336, li_le336, li_gt336, li_lt585, li_ge585, li_le585, li_gt585, li_lt633, li_ge633, li_le633, li_gt633, li_lt1000000, li_ge1000000, li_le1000000, li_gt1000000, li_lt2304, li_ge2304, li_le2304, li_gt2304, li_lt50, li_ge50, li_le50, li_gt50, li_le0, li_gt0]
          exact ⟨fun q => by omega, fun _ => ⟨fun q => by omega, fun _ => ⟨(h7 j (by omega)).symm, R⟩⟩⟩
        · refine br_f (fun q => hn ((nI_ltI (by omega) (by omega)).mp q)) (br_f hm (br_f h0 (br_t ((nI_leI (by omega) (by omega)).mpr (by omega)) ⟨rfl, R⟩)))
theorem i_vc_need {k : Nat} {u : SX} {v : SY} (I : i_Rel k u v) (hk : k + 4 ≤ 2048) (v1 : Int32) : wpX_need (fun r u' => wpY_need (fun r' v' => r' = r ∧ i_Rel (k + 4) u' v') v v1) u v1 := by
  obtain ⟨f_trials, f_drafted, f_pairs, f_metCount, f_meetingCount, a_held, a_saved, a_draft, a_toldBefore, a_pairX, a_pairY, a_stack, a_met, a_metAs, a_copies, a_meetings, a_wasMeeting, a_firstMet, a_depths, a_isKept⟩ := u
  obtain ⟨g_trials, g_drafted, g_found, b_s, b_saved, b_draft, b_who, b_met, b_stack, b_fresh, b_deep, b_alike, b_meets⟩ := v
  have C := re_A_C I
  have P := C.1
  by_cases hx : ∃ x, xv_U a_held x ∧ v1 = nI x
  · obtain ⟨x, ux, rfl⟩ := hx
    have x48 := ux.1
    have N' : re_N (25 * k) (upd a_held (384 + x) 1) (upd b_s (480 + x) 1) := as_N x48 P.2.2.2.2.2 ux ⟨pk_us, fun i hi => pk_un hi⟩ ⟨pk_us, fun i hi => pk_un hi⟩
    have P' : re_P (25 * k) (upd a_held (384 + x) 1) (upd b_s (480 + x) 1) := by
      obtain ⟨h1, h2, h3, h4, h5, _⟩ := P
      have ha' : ∀ i, i < 384 → upd a_held (384 + x) 1 i = a_held i := fun i hi => pk_un (by omega)
      have hs' : ∀ i, i < 432 → upd b_s (480 + x) 1 i = b_s i := fun i hi => pk_un (by omega)
      refine ⟨xv_congrH ha' h1, yv_congrH hs' h2, ?_, ?_, ?_, N'⟩
      · intro y hy; rw [ha' _ (by omega), hs' _ (by omega)]; exact h3 y hy
      · intro y hy
        rw [(xv_congr ha').1] at hy
        have := hy.1
        rw [ha' _ (by omega), hs' _ (by omega)]; exact h4 y hy
      · rw [xv_congrT ha', yv_congrT (fun i _ hi => hs' i hi), (xv_congr ha').1, (xv_congr ha').2.1]; exact h5
    obtain ⟨m2, a2, tb2, px2, py2, s2, wh, al, g1, g2, g3⟩ := st_settle (f_trials := f_trials) (f_drafted := f_drafted) (f_pairs := f_pairs) (f_metCount := f_metCount) (f_meetingCount := f_meetingCount) (a_held := upd a_held (384 + x) 1) (a_saved := a_saved) (a_draft := a_draft) (a_toldBefore := a_toldBefore) (a_pairX := a_pairX) (a_pairY := a_pairY) (a_stack := a_stack) (a_met := a_met) (a_metAs := a_metAs) (a_copies := a_copies) (a_meetings := a_meetings) (a_wasMeeting := a_wasMeeting) (a_firstMet := a_firstMet) (a_depths := a_depths) (a_isKept := a_isKept) (g_trials := g_trials) (g_drafted := g_drafted) (g_found := g_found) (b_s := upd b_s (480 + x) 1) (b_saved := b_saved) (b_draft := b_draft) (b_who := b_who) (b_met := b_met) (b_stack := b_stack) (b_fresh := b_fresh) (b_deep := b_deep) (b_alike := b_alike) (b_meets := b_meets) (by omega) P'
    unfold wpX_need
    refine xw_inUse_t (f_trials := f_trials) (f_drafted := f_drafted) (f_pairs := f_pairs) (f_metCount := f_metCount) (f_meetingCount := f_meetingCount) (a_held := a_held) (a_saved := a_saved) (a_draft := a_draft) (a_toldBefore := a_toldBefore) (a_pairX := a_pairX) (a_pairY := a_pairY) (a_stack := a_stack) (a_met := a_met) (a_metAs := a_metAs) (a_copies := a_copies) (a_meetings := a_meetings) (a_wasMeeting := a_wasMeeting) (a_firstMet := a_firstMet) (a_depths := a_depths) (a_isKept := a_isKept) ux _ (br_f (by decide) ?_)
    simp (disch := omega) only [forall_eq, true_and, and_true, Nat.zero_add, nI_clamp, li_vin, nI_add, nI_eq, nI_leI, nI_ltI, li_0le, li_lt0, li_nn1, li_e0, not_true_eq_false, not_false_eq_true, false_implies, true_implies, forall_const, li_a0, li_b0, li_a1, li_b1, li_a2, li_b2, li_a3, li_b3, li_a7, li_b7, li_a8, li_b8, li_a16, li_b16, li_a48, li_b48, li_a584, li_b584, li_a572, li_b572, li_a96, li_b96, li_a144, li_b144, li_a192, li_b192, li_a240, li_b240, li_a336, li_b336, li_a384, li_b384, li_a432, li_b432, li_a480, li_b480, li_a488, li_b488, li_a496, li_b496, li_a504, li_b504, li_a512, li_b512, li_a520, li_b520, li_a524, li_b524, li_a528, li_b528, li_a536, li_b536, li_a544, li_b544, li_a552, li_b552, li_a560, li_b560, li_a568, li_b568, li_a573, li_b573, li_a585, li_b585, li_a633, li_b633, li_m3, li_n3, li_m4, li_n4, li_m48, li_n48, li_m50, li_n50, li_m585, li_n585, li_m633, li_n633, li_lt2, li_ge2, li_le2, li_gt2, li_lt1, li_ge1, li_le1, li_gt1, li_lt3, li_ge3, li_le3, li_gt3, li_lt4, li_ge4, li_le4, li_gt4, li_lt7, li_ge7, li_le7, li_gt7, li_lt8, li_ge8, li_le8, li_gt8, li_lt40, li_ge40, li_le40, li_gt40, li_lt240, li_ge240, li_le240, li_gt240, li_lt41, li_ge41, li_le41, li_gt41, li_lt48, li_ge48, li_le48, li_gt48, li_lt49, li_ge49, li_le49, li_gt49, li_lt60, li_ge60, li_le60, li_gt60, li_lt144, li_ge144, li_le144, li_gt144, li_lt145, li_ge145, li_le145, li_gt145, li_lt160, li_ge160, li_le160, li_gt160, li_lt336, li_ge336, li_le336, li_gt336, li_lt585, li_ge585, li_le585, li_gt585, li_lt633, li_ge633, li_le633, li_gt633, li_lt1000000, li_ge1000000, li_le1000000, li_gt1000000, li_lt2304, li_ge2304, li_le2304, li_gt2304, li_lt50, li_ge50, li_le50, li_gt50, li_le0, li_gt0]
    refine g2 _ ?_
    unfold wpY_need
    refine yw_isUsed_t (g_trials := g_trials) (g_drafted := g_drafted) (g_found := g_found) (b_s := b_s) (b_saved := b_saved) (b_draft := b_draft) (b_who := b_who) (b_met := b_met) (b_stack := b_stack) (b_fresh := b_fresh) (b_deep := b_deep) (b_alike := b_alike) (b_meets := b_meets) (re_pos P ux) _ (br_f (by decide) ?_)
    simp (disch := omega) only [forall_eq, true_and, and_true, Nat.zero_add, nI_clamp, li_vin, nI_add, nI_eq, nI_leI, nI_ltI, li_0le, li_lt0, li_nn1, li_e0, not_true_eq_false, not_false_eq_true, false_implies, true_implies, forall_const, li_a0, li_b0, li_a1, li_b1, li_a2, li_b2, li_a3, li_b3, li_a7, li_b7, li_a8, li_b8, li_a16, li_b16, li_a48, li_b48, li_a584, li_b584, li_a572, li_b572, li_a96, li_b96, li_a144, li_b144, li_a192, li_b192, li_a240, li_b240, li_a336, li_b336, li_a384, li_b384, li_a432, li_b432, li_a480, li_b480, li_a488, li_b488, li_a496, li_b496, li_a504, li_b504, li_a512, li_b512, li_a520, li_b520, li_a524, li_b524, li_a528, li_b528, li_a536, li_b536, li_a544, li_b544, li_a552, li_b552, li_a560, li_b560, li_a568, li_b568, li_a573, li_b573, li_a585, li_b585, li_a633, li_b633, li_m3, li_n3, li_m4, li_n4, li_m48, li_n48, li_m50, li_n50, li_m585, li_n585, li_m633, li_n633, li_lt2, li_ge2, li_le2, li_gt2, li_lt1, li_ge1, li_le1, li_gt1, li_lt3, li_ge3, li_le3, li_gt3, li_lt4, li_ge4, li_le4, li_gt4, li_lt7, li_ge7, li_le7, li_gt7, li_lt8, li_ge8, li_le8, li_gt8, li_lt40, li_ge40, li_le40, li_gt40, li_lt240, li_ge240, li_le240, li_gt240, li_lt41, li_ge41, li_le41, li_gt41, li_lt48, li_ge48, li_le48, li_gt48, li_lt49, li_ge49, li_le49, li_gt49, li_lt60, li_ge60, li_le60, li_gt60, li_lt144, li_ge144, li_le144, li_gt144, li_lt145, li_ge145, li_le145, li_gt145, li_lt160, li_ge160, li_le160, li_gt160, li_lt336, li_ge336, li_le336, li_gt336, li_lt585, li_ge585, li_le585, li_gt585, li_lt633, li_ge633, li_le633, li_gt633, li_lt1000000, li_ge1000000, li_le1000000, li_gt1000000, li_lt2304, li_ge2304, li_le2304, li_gt2304, li_lt50, li_ge50, li_le50, li_gt50, li_le0, li_gt0]
    refine g3 _ ?_
    exact re_A_row (k := k) I (re_C_mono (by omega) g1)
  · unfold wpX_need
    refine xw_inUse_f (f_trials := f_trials) (f_drafted := f_drafted) (f_pairs := f_pairs) (f_metCount := f_metCount) (f_meetingCount := f_meetingCount) (a_held := a_held) (a_saved := a_saved) (a_draft := a_draft) (a_toldBefore := a_toldBefore) (a_pairX := a_pairX) (a_pairY := a_pairY) (a_stack := a_stack) (a_met := a_met) (a_metAs := a_metAs) (a_copies := a_copies) (a_meetings := a_meetings) (a_wasMeeting := a_wasMeeting) (a_firstMet := a_firstMet) (a_depths := a_depths) (a_isKept := a_isKept) hx _ (br_t rfl ?_)
    unfold wpY_need
    exact yw_isUsed_f (g_trials := g_trials) (g_drafted := g_drafted) (g_found := g_found) (b_s := b_s) (b_saved := b_saved) (b_draft := b_draft) (b_who := b_who) (b_met := b_met) (b_stack := b_stack) (b_fresh := b_fresh) (b_deep := b_deep) (b_alike := b_alike) (b_meets := b_meets) (re_neg P hx) _ (br_t rfl ⟨rfl, re_A_up (k := k) (by omega) I⟩)
theorem i_vc_end {k : Nat} {u : SX} {v : SY} (I : i_Rel k u v) (hk : k + 4 ≤ 2048) (v1 : Int32) : wpX_end (fun r => wpY_end (fun r' => r' = r ∧ i_Rel (k + 4) u v) v v1) u v1 := by
  obtain ⟨f_trials, f_drafted, f_pairs, f_metCount, f_meetingCount, a_held, a_saved, a_draft, a_toldBefore, a_pairX, a_pairY, a_stack, a_met, a_metAs, a_copies, a_meetings, a_wasMeeting, a_firstMet, a_depths, a_isKept⟩ := u
  obtain ⟨g_trials, g_drafted, g_found, b_s, b_saved, b_draft, b_who, b_met, b_stack, b_fresh, b_deep, b_alike, b_meets⟩ := v
  have P := (re_A_C I).1
  have R := re_A_up (k := k) (k' := k + 4) (by omega) I
  unfold wpX_end wpX_isStream wpY_end
  by_cases h0 : v1 < 0
  · exact br_t h0 (br_t rfl (br_t h0 ⟨rfl, R⟩))
  · obtain ⟨e, he, rfl⟩ := nI_of h0
    refine br_f h0 ?_
    by_cases h4 : 4 ≤ e
    · refine br_t ((li_ge4 (by omega)).mpr h4) (br_t rfl (br_f h0 (br_f (fun q => by have := (li_le3 (by omega)).mp q; omega) ⟨rfl, R⟩)))
    · refine br_f (fun q => h4 ((li_ge4 (by omega)).mp q)) ?_
      obtain ⟨e1, e2⟩ := P.2.2.2.2.2.2.2.2.2.1 e (by omega)
      simp (disch := omega) only [forall_eq, true_and, and_true, Nat.zero_add, nI_clamp, li_vin, nI_add, nI_eq, nI_leI, nI_ltI, li_0le, li_lt0, li_nn1, li_e0, not_true_eq_false, not_false_eq_true, false_implies, true_implies, forall_const, li_a0, li_b0, li_a1, li_b1, li_a2, li_b2, li_a3, li_b3, li_a7, li_b7, li_a8, li_b8, li_a16, li_b16, li_a48, li_b48, li_a584, li_b584, li_a572, li_b572, li_a96, li_b96, li_a144, li_b144, li_a192, li_b192, li_a240, li_b240, li_a336, li_b336, li_a384, li_b384, li_a432, li_b432, li_a480, li_b480, li_a488, li_b488, li_a496, li_b496, li_a504, li_b504, li_a512, li_b512, li_a520, li_b520, li_a524, li_b524, li_a528, li_b528, li_a536, li_b536, li_a544, li_b544, li_a552, li_b552, li_a560, li_b560, li_a568, li_b568, li_a573, li_b573, li_a585, li_b585, li_a633, li_b633, li_m3, li_n3, li_m4, li_n4, li_m48, li_n48, li_m50, li_n50, li_m585, li_n585, li_m633, li_n633, li_lt2, li_ge2, li_le2, li_gt2, li_lt1, li_ge1, li_le1, li_gt1, li_lt3, li_ge3, li_le3, li_gt3, li_lt4, li_ge4, li_le4, li_gt4, li_lt7, li_ge7, li_le7, li_gt7, li_lt8, li_ge8, li_le8, li_gt8, li_lt40, li_ge40, li_le40, li_gt40, li_lt240, li_ge240, li_le240, li_gt240, li_lt41, li_ge41, li_le41, li_gt41, li_lt48, li_ge48, li_le48, li_gt48, li_lt49, li_ge49, li_le49, li_gt49, li_lt60, li_ge60, li_le60, li_gt60, li_lt144, li_ge144, li_le144, li_gt144, li_lt145, li_ge145, li_le145, li_gt145, li_lt160, li_ge160, li_le160, li_gt160, li_lt336, li_ge336, li_le336, li_gt336, li_lt585, li_ge585, li_le585, li_gt585, li_lt633, li_ge633, li_le633, li_gt633, li_lt1000000, li_ge1000000, li_le1000000, li_gt1000000, li_lt2304, li_ge2304, li_le2304, li_gt2304, li_lt50, li_ge50, li_le50, li_gt50, li_le0, li_gt0]
      refine br_c (fun q => ⟨fun _ => ⟨by rw [← e1, q], R⟩, fun z => by omega⟩) (fun q => ⟨fun z => absurd z (by decide), fun _ => ⟨fun _ => ⟨e1.symm, R⟩, fun z => by omega⟩⟩)
end
section
theorem i_vc_test {k : Nat} {u : SX} {v : SY} (I : i_Rel k u v) (hk : k + 4 ≤ 2048) (v1 : Int32) (v2 : Int32) (v3 : Int32) : wpX_test (fun r u' => wpY_test (fun r' v' => r' = r ∧ i_Rel (k + 4) u' v') v v1 v2 v3) u v1 v2 v3 := by
  obtain ⟨f_trials, f_drafted, f_pairs, f_metCount, f_meetingCount, a_held, a_saved, a_draft, a_toldBefore, a_pairX, a_pairY, a_stack, a_met, a_metAs, a_copies, a_meetings, a_wasMeeting, a_firstMet, a_depths, a_isKept⟩ := u
  obtain ⟨g_trials, g_drafted, g_found, b_s, b_saved, b_draft, b_who, b_met, b_stack, b_fresh, b_deep, b_alike, b_meets⟩ := v
  have C := re_A_C I
  have P := C.1
  have R := re_A_up (k := k) (k' := k + 4) (by omega) I
  unfold wpX_test
  by_cases h0 : v1 < 0
  · refine br_t h0 ?_
    unfold wpY_test
    exact br_t h0 ⟨rfl, R⟩
  · obtain ⟨t, ht, rfl⟩ := nI_of h0
    refine br_f h0 ?_
    by_cases h8 : 8 ≤ t
    · refine br_t ((li_ge8 (by omega)).mpr h8) ?_
      unfold wpY_test
      exact br_f h0 (br_t ((li_gt7 (by omega)).mpr (by omega)) ⟨rfl, R⟩)
    · refine br_f (fun q => h8 ((li_ge8 (by omega)).mp q)) ?_
      have h7 : ¬ (7 : Int32) < nI t := fun q => by have := (li_gt7 (by omega)).mp q; omega
      by_cases hx : ∃ x, xv_U a_held x ∧ v2 = nI x
      · obtain ⟨x, ux, rfl⟩ := hx
        have key : (v3 = -1 ∨ ∃ y, xv_U a_held y ∧ v3 = nI y) → (∀ postY : Int32 → SY → Prop, wY_test_33 postY (nI t) (nI x) v3 g_trials g_drafted g_found b_s b_saved b_draft b_who b_met b_stack b_fresh b_deep b_alike b_meets → wpY_test postY (g_trials, g_drafted, g_found, b_s, b_saved, b_draft, b_who, b_met, b_stack, b_fresh, b_deep, b_alike, b_meets) (nI t) (nI x) v3) → wX_test_35 (fun r u' => wpY_test (fun r' v' => r' = r ∧ i_Rel (k + 4) u' v') (g_trials, g_drafted, g_found, b_s, b_saved, b_draft, b_who, b_met, b_stack, b_fresh, b_deep, b_alike, b_meets) (nI t) (nI x) v3) (nI t) (nI x) v3 f_trials f_drafted f_pairs f_metCount f_meetingCount a_held a_saved a_draft a_toldBefore a_pairX a_pairY a_stack a_met a_metAs a_copies a_meetings a_wasMeeting a_firstMet a_depths a_isKept := by
          intro hy hw
          have N' : re_N (25 * k) (upd (upd (upd a_held (480 + t) 3) (488 + t) (nI x)) (496 + t) v3) (upd (upd (upd b_s (528 + t) (nI x)) (536 + t) v3) (544 + t) 3) := by
            refine ts_N (by omega) P.2.2.2.2.2 ux hy ⟨?_, ?_, pk_us, fun i a1 a2 a3 => ?_⟩ ⟨pk_us, ?_, ?_, fun i a1 a2 a3 => ?_⟩
            · rw [pk_un (by omega), pk_un (by omega), pk_us]
            · rw [pk_un (by omega), pk_us]
            · rw [pk_un a3, pk_un a2, pk_un a1]
            · rw [pk_un (by omega), pk_un (by omega), pk_us]
            · rw [pk_un (by omega), pk_us]
            · rw [pk_un a1, pk_un a3, pk_un a2]
          have P' := re_P_N P (a' := upd (upd (upd a_held (480 + t) 3) (488 + t) (nI x)) (496 + t) v3) (s' := upd (upd (upd b_s (528 + t) (nI x)) (536 + t) v3) (544 + t) 3) (fun i hi => by rw [pk_un (by omega), pk_un (by omega), pk_un (by omega)]) (fun i hi => by rw [pk_un (by omega), pk_un (by omega), pk_un (by omega)]) N'
          obtain ⟨m2, a2, tb2, px2, py2, s2, wh, al, g1, g2, g3⟩ := st_settle (f_trials := f_trials) (f_drafted := f_drafted) (f_pairs := f_pairs) (f_metCount := f_metCount) (f_meetingCount := f_meetingCount) (a_held := upd (upd (upd a_held (480 + t) 3) (488 + t) (nI x)) (496 + t) v3) (a_saved := a_saved) (a_draft := a_draft) (a_toldBefore := a_toldBefore) (a_pairX := a_pairX) (a_pairY := a_pairY) (a_stack := a_stack) (a_met := a_met) (a_metAs := a_metAs) (a_copies := a_copies) (a_meetings := a_meetings) (a_wasMeeting := a_wasMeeting) (a_firstMet := a_firstMet) (a_depths := a_depths) (a_isKept := a_isKept) (g_trials := g_trials) (g_drafted := g_drafted) (g_found := g_found) (b_s := upd (upd (upd b_s (528 + t) (nI x)) (536 + t) v3) (544 + t) 3) (b_saved := b_saved) (b_draft := b_draft) (b_who := b_who) (b_met := b_met) (b_stack := b_stack) (b_fresh := b_fresh) (b_deep := b_deep) (b_alike := b_alike) (b_meets := b_meets) (by omega) P'
          unfold wX_test_35
          simp (disch := omega) only [forall_eq, true_and, and_true, Nat.zero_add, nI_clamp, li_vin, nI_add, nI_eq, nI_leI, nI_ltI, li_0le, li_lt0, li_nn1, li_e0, not_true_eq_false, not_false_eq_true, false_implies, true_implies, forall_const, li_a0, li_b0, li_a1, li_b1, li_a2, li_b2, li_a3, li_b3, li_a7, li_b7, li_a8, li_b8, li_a16, li_b16, li_a48, li_b48, li_a584, li_b584, li_a572, li_b572, li_a96, li_b96, li_a144, li_b144, li_a192, li_b192, li_a240, li_b240, li_a336, li_b336, li_a384, li_b384, li_a432, li_b432, li_a480, li_b480, li_a488, li_b488, li_a496, li_b496, li_a504, li_b504, li_a512, li_b512, li_a520, li_b520, li_a524, li_b524, li_a528, li_b528, li_a536, li_b536, li_a544, li_b544, li_a552, li_b552, li_a560, li_b560, li_a568, li_b568, li_a573, li_b573, li_a585, li_b585, li_a633, li_b633, li_m3, li_n3, li_m4, li_n4, li_m48, li_n48, li_m50, li_n50, li_m585, li_n585, li_m633, li_n633, li_lt2, li_ge2, li_le2, li_gt2, li_lt1, li_ge1, li_le1, li_gt1, li_lt3, li_ge3, li_le3, li_gt3, li_lt4, li_ge4, li_le4, li_gt4, li_lt7, li_ge7, li_le7, li_gt7, li_lt8, li_ge8, li_le8, li_gt8, li_lt40, li_ge40, li_le40, li_gt40, li_lt240, li_ge240, li_le240, li_gt240, li_lt41, li_ge41, li_le41, li_gt41, li_lt48, li_ge48, li_le48, li_gt48, li_lt49, li_ge49, li_le49, li_gt49, li_lt60, li_ge60, li_le60, li_gt60, li_lt144, li_ge144, li_le144, li_gt144, li_lt145, li_ge145, li_le145, li_gt145, li_lt160, li_ge160, li_le160, li_gt160, li_lt336, li_ge336, li_le336, li_gt336, li_lt585, li_ge585, li_le585, li_gt585, li_lt633, li_ge633, li_le633, li_gt633, li_lt1000000, li_ge1000000, li_le1000000, li_gt1000000, li_lt2304, li_ge2304, li_le2304, li_gt2304, li_lt50, li_ge50, li_le50, li_gt50, li_le0, li_gt0]
          refine g2 _ ?_
          simp (disch := omega) only [forall_eq, true_and, and_true, Nat.zero_add, nI_clamp, li_vin, nI_add, nI_eq, nI_leI, nI_ltI, li_0le, li_lt0, li_nn1, li_e0, not_true_eq_false, not_false_eq_true, false_implies, true_implies, forall_const, li_a0, li_b0, li_a1, li_b1, li_a2, li_b2, li_a3, li_b3, li_a7, li_b7, li_a8, li_b8, li_a16, li_b16, li_a48, li_b48, li_a584, li_b584, li_a572, li_b572, li_a96, li_b96, li_a144, li_b144, li_a192, li_b192, li_a240, li_b240, li_a336, li_b336, li_a384, li_b384, li_a432, li_b432, li_a480, li_b480, li_a488, li_b488, li_a496, li_b496, li_a504, li_b504, li_a512, li_b512, li_a520, li_b520, li_a524, li_b524, li_a528, li_b528, li_a536, li_b536, li_a544, li_b544, li_a552, li_b552, li_a560, li_b560, li_a568, li_b568, li_a573, li_b573, li_a585, li_b585, li_a633, li_b633, li_m3, li_n3, li_m4, li_n4, li_m48, li_n48, li_m50, li_n50, li_m585, li_n585, li_m633, li_n633, li_lt2, li_ge2, li_le2, li_gt2, li_lt1, li_ge1, li_le1, li_gt1, li_lt3, li_ge3, li_le3, li_gt3, li_lt4, li_ge4, li_le4, li_gt4, li_lt7, li_ge7, li_le7, li_gt7, li_lt8, li_ge8, li_le8, li_gt8, li_lt40, li_ge40, li_le40, li_gt40, li_lt240, li_ge240, li_le240, li_gt240, li_lt41, li_ge41, li_le41, li_gt41, li_lt48, li_ge48, li_le48, li_gt48, li_lt49, li_ge49, li_le49, li_gt49, li_lt60, li_ge60, li_le60, li_gt60, li_lt144, li_ge144, li_le144, li_gt144, li_lt145, li_ge145, li_le145, li_gt145, li_lt160, li_ge160, li_le160, li_gt160, li_lt336, li_ge336, li_le336, li_gt336, li_lt585, li_ge585, li_le585, li_gt585, li_lt633, li_ge633, li_le633, li_gt633, li_lt1000000, li_ge1000000, li_le1000000, li_gt1000000, li_lt2304, li_ge2304, li_le2304, li_gt2304, li_lt50, li_ge50, li_le50, li_gt50, li_le0, li_gt0]
          refine hw _ ?_
          unfold wY_test_33
          simp (disch := omega) only [forall_eq, true_and, and_true, Nat.zero_add, nI_clamp, li_vin, nI_add, nI_eq, nI_leI, nI_ltI, li_0le, li_lt0, li_nn1, li_e0, not_true_eq_false, not_false_eq_true, false_implies, true_implies, forall_const, li_a0, li_b0, li_a1, li_b1, li_a2, li_b2, li_a3, li_b3, li_a7, li_b7, li_a8, li_b8, li_a16, li_b16, li_a48, li_b48, li_a584, li_b584, li_a572, li_b572, li_a96, li_b96, li_a144, li_b144, li_a192, li_b192, li_a240, li_b240, li_a336, li_b336, li_a384, li_b384, li_a432, li_b432, li_a480, li_b480, li_a488, li_b488, li_a496, li_b496, li_a504, li_b504, li_a512, li_b512, li_a520, li_b520, li_a524, li_b524, li_a528, li_b528, li_a536, li_b536, li_a544, li_b544, li_a552, li_b552, li_a560, li_b560, li_a568, li_b568, li_a573, li_b573, li_a585, li_b585, li_a633, li_b633, li_m3, li_n3, li_m4, li_n4, li_m48, li_n48, li_m50, li_n50, li_m585, li_n585, li_m633, li_n633, li_lt2, li_ge2, li_le2, li_gt2, li_lt1, li_ge1, li_le1, li_gt1, li_lt3, li_ge3, li_le3, li_gt3, li_lt4, li_ge4, li_le4, li_gt4, li_lt7, li_ge7, li_le7, li_gt7, li_lt8, li_ge8, li_le8, li_gt8, li_lt40, li_ge40, li_le40, li_gt40, li_lt240, li_ge240, li_le240, li_gt240, li_lt41, li_ge41, li_le41, li_gt41, li_lt48, li_ge48, li_le48, li_gt48, li_lt49, li_ge49, li_le49, li_gt49, li_lt60, li_ge60, li_le60, li_gt60, li_lt144, li_ge144, li_le144, li_gt144, li_lt145, li_ge145, li_le145, li_gt145, li_lt160, li_ge160, li_le160, li_gt160, li_lt336, li_ge336, li_le336, li_gt336, li_lt585, li_ge585, li_le585, li_gt585, li_lt633, li_ge633, li_le633, li_gt633, li_lt1000000, li_ge1000000, li_le1000000, li_gt1000000, li_lt2304, li_ge2304, li_le2304, li_gt2304, li_lt50, li_ge50, li_le50, li_gt50, li_le0, li_gt0]
          refine g3 _ ?_
          simp (disch := omega) only [forall_eq, true_and, and_true, Nat.zero_add, nI_clamp, li_vin, nI_add, nI_eq, nI_leI, nI_ltI, li_0le, li_lt0, li_nn1, li_e0, not_true_eq_false, not_false_eq_true, false_implies, true_implies, forall_const, li_a0, li_b0, li_a1, li_b1, li_a2, li_b2, li_a3, li_b3, li_a7, li_b7, li_a8, li_b8, li_a16, li_b16, li_a48, li_b48, li_a584, li_b584, li_a572, li_b572, li_a96, li_b96, li_a144, li_b144, li_a192, li_b192, li_a240, li_b240, li_a336, li_b336, li_a384, li_b384, li_a432, li_b432, li_a480, li_b480, li_a488, li_b488, li_a496, li_b496, li_a504, li_b504, li_a512, li_b512, li_a520, li_b520, li_a524, li_b524, li_a528, li_b528, li_a536, li_b536, li_a544, li_b544, li_a552, li_b552, li_a560, li_b560, li_a568, li_b568, li_a573, li_b573, li_a585, li_b585, li_a633, li_b633, li_m3, li_n3, li_m4, li_n4, li_m48, li_n48, li_m50, li_n50, li_m585, li_n585, li_m633, li_n633, li_lt2, li_ge2, li_le2, li_gt2, li_lt1, li_ge1, li_le1, li_gt1, li_lt3, li_ge3, li_le3, li_gt3, li_lt4, li_ge4, li_le4, li_gt4, li_lt7, li_ge7, li_le7, li_gt7, li_lt8, li_ge8, li_le8, li_gt8, li_lt40, li_ge40, li_le40, li_gt40, li_lt240, li_ge240, li_le240, li_gt240, li_lt41, li_ge41, li_le41, li_gt41, li_lt48, li_ge48, li_le48, li_gt48, li_lt49, li_ge49, li_le49, li_gt49, li_lt60, li_ge60, li_le60, li_gt60, li_lt144, li_ge144, li_le144, li_gt144, li_lt145, li_ge145, li_le145, li_gt145, li_lt160, li_ge160, li_le160, li_gt160, li_lt336, li_ge336, li_le336, li_gt336, li_lt585, li_ge585, li_le585, li_gt585, li_lt633, li_ge633, li_le633, li_gt633, li_lt1000000, li_ge1000000, li_le1000000, li_gt1000000, li_lt2304, li_ge2304, li_le2304, li_gt2304, li_lt50, li_ge50, li_le50, li_gt50, li_le0, li_gt0]
          exact ⟨((g1.1.2.2.2.2.2.2.2.1 t (by omega)).1).symm, re_A_row (k := k) I (re_C_mono (by omega) g1)⟩
        refine xw_inUse_t (f_trials := f_trials) (f_drafted := f_drafted) (f_pairs := f_pairs) (f_metCount := f_metCount) (f_meetingCount := f_meetingCount) (a_held := a_held) (a_saved := a_saved) (a_draft := a_draft) (a_toldBefore := a_toldBefore) (a_pairX := a_pairX) (a_pairY := a_pairY) (a_stack := a_stack) (a_met := a_met) (a_metAs := a_metAs) (a_copies := a_copies) (a_meetings := a_meetings) (a_wasMeeting := a_wasMeeting) (a_firstMet := a_firstMet) (a_depths := a_depths) (a_isKept := a_isKept) ux _ (br_f (by decide) ?_)
        by_cases hm : v3 = -1
        · refine br_t hm (key (Or.inl hm) (fun postY hp => ?_))
          unfold wpY_test
          exact br_f h0 (br_f h7 (yw_isUsed_t (g_trials := g_trials) (g_drafted := g_drafted) (g_found := g_found) (b_s := b_s) (b_saved := b_saved) (b_draft := b_draft) (b_who := b_who) (b_met := b_met) (b_stack := b_stack) (b_fresh := b_fresh) (b_deep := b_deep) (b_alike := b_alike) (b_meets := b_meets) (re_pos P ux) _ (br_f (by decide) (br_t hm hp))))
        · refine br_f hm ?_
          by_cases hy : ∃ y, xv_U a_held y ∧ v3 = nI y
          · obtain ⟨y, uy, rfl⟩ := hy
            refine xw_inUse_t (f_trials := f_trials) (f_drafted := f_drafted) (f_pairs := f_pairs) (f_metCount := f_metCount) (f_meetingCount := f_meetingCount) (a_held := a_held) (a_saved := a_saved) (a_draft := a_draft) (a_toldBefore := a_toldBefore) (a_pairX := a_pairX) (a_pairY := a_pairY) (a_stack := a_stack) (a_met := a_met) (a_metAs := a_metAs) (a_copies := a_copies) (a_meetings := a_meetings) (a_wasMeeting := a_wasMeeting) (a_firstMet := a_firstMet) (a_depths := a_depths) (a_isKept := a_isKept) uy _ (br_f (by decide) (key (Or.inr ⟨y, uy, rfl⟩) (fun postY hp => ?_)))
            unfold wpY_test
            exact br_f h0 (br_f h7 (yw_isUsed_t (g_trials := g_trials) (g_drafted := g_drafted) (g_found := g_found) (b_s := b_s) (b_saved := b_saved) (b_draft := b_draft) (b_who := b_who) (b_met := b_met) (b_stack := b_stack) (b_fresh := b_fresh) (b_deep := b_deep) (b_alike := b_alike) (b_meets := b_meets) (re_pos P ux) _ (br_f (by decide) (br_f hm (yw_isUsed_t (g_trials := g_trials) (g_drafted := g_drafted) (g_found := g_found) (b_s := b_s) (b_saved := b_saved) (b_draft := b_draft) (b_who := b_who) (b_met := b_met) (b_stack := b_stack) (b_fresh := b_fresh) (b_deep := b_deep) (b_alike := b_alike) (b_meets := b_meets) (re_pos P uy) _ (br_f (by decide) hp))))))
          · refine xw_inUse_f (f_trials := f_trials) (f_drafted := f_drafted) (f_pairs := f_pairs) (f_metCount := f_metCount) (f_meetingCount := f_meetingCount) (a_held := a_held) (a_saved := a_saved) (a_draft := a_draft) (a_toldBefore := a_toldBefore) (a_pairX := a_pairX) (a_pairY := a_pairY) (a_stack := a_stack) (a_met := a_met) (a_metAs := a_metAs) (a_copies := a_copies) (a_meetings := a_meetings) (a_wasMeeting := a_wasMeeting) (a_firstMet := a_firstMet) (a_depths := a_depths) (a_isKept := a_isKept) hy _ (br_t rfl ?_)
            unfold wpY_test
            exact br_f h0 (br_f h7 (yw_isUsed_t (g_trials := g_trials) (g_drafted := g_drafted) (g_found := g_found) (b_s := b_s) (b_saved := b_saved) (b_draft := b_draft) (b_who := b_who) (b_met := b_met) (b_stack := b_stack) (b_fresh := b_fresh) (b_deep := b_deep) (b_alike := b_alike) (b_meets := b_meets) (re_pos P ux) _ (br_f (by decide) (br_f hm (yw_isUsed_f (g_trials := g_trials) (g_drafted := g_drafted) (g_found := g_found) (b_s := b_s) (b_saved := b_saved) (b_draft := b_draft) (b_who := b_who) (b_met := b_met) (b_stack := b_stack) (b_fresh := b_fresh) (b_deep := b_deep) (b_alike := b_alike) (b_meets := b_meets) (re_neg P hy) _ (br_t rfl ⟨rfl, R⟩))))))
      · refine xw_inUse_f (f_trials := f_trials) (f_drafted := f_drafted) (f_pairs := f_pairs) (f_metCount := f_metCount) (f_meetingCount := f_meetingCount) (a_held := a_held) (a_saved := a_saved) (a_draft := a_draft) (a_toldBefore := a_toldBefore) (a_pairX := a_pairX) (a_pairY := a_pairY) (a_stack := a_stack) (a_met := a_met) (a_metAs := a_metAs) (a_copies := a_copies) (a_meetings := a_meetings) (a_wasMeeting := a_wasMeeting) (a_firstMet := a_firstMet) (a_depths := a_depths) (a_isKept := a_isKept) hx _ (br_t rfl ?_)
        unfold wpY_test
        exact br_f h0 (br_f h7 (yw_isUsed_f (g_trials := g_trials) (g_drafted := g_drafted) (g_found := g_found) (b_s := b_s) (b_saved := b_saved) (b_draft := b_draft) (b_who := b_who) (b_met := b_met) (b_stack := b_stack) (b_fresh := b_fresh) (b_deep := b_deep) (b_alike := b_alike) (b_meets := b_meets) (re_neg P hx) _ (br_t rfl ⟨rfl, R⟩)))
theorem i_vc_trigger {k : Nat} {u : SX} {v : SY} (I : i_Rel k u v) (hk : k + 4 ≤ 2048) (v1 : Int32) (v2 : Int32) (v3 : Int32) : wpX_trigger (fun r u' => wpY_trigger (fun r' v' => r' = r ∧ i_Rel (k + 4) u' v') v v1 v2 v3) u v1 v2 v3 := by
  obtain ⟨f_trials, f_drafted, f_pairs, f_metCount, f_meetingCount, a_held, a_saved, a_draft, a_toldBefore, a_pairX, a_pairY, a_stack, a_met, a_metAs, a_copies, a_meetings, a_wasMeeting, a_firstMet, a_depths, a_isKept⟩ := u
  obtain ⟨g_trials, g_drafted, g_found, b_s, b_saved, b_draft, b_who, b_met, b_stack, b_fresh, b_deep, b_alike, b_meets⟩ := v
  have C := re_A_C I
  have P := C.1
  have R := re_A_up (k := k) (k' := k + 4) (by omega) I
  unfold wpX_trigger
  by_cases h0 : v1 < 0
  · refine br_t h0 ?_
    unfold wpY_trigger
    exact br_t h0 ⟨rfl, R⟩
  · obtain ⟨t, ht, rfl⟩ := nI_of h0
    refine br_f h0 ?_
    by_cases h8 : 8 ≤ t
    · refine br_t ((li_ge8 (by omega)).mpr h8) ?_
      unfold wpY_trigger
      exact br_f h0 (br_t ((li_gt7 (by omega)).mpr (by omega)) ⟨rfl, R⟩)
    · refine br_f (fun q => h8 ((li_ge8 (by omega)).mp q)) ?_
      have h7 : ¬ (7 : Int32) < nI t := fun q => by have := (li_gt7 (by omega)).mp q; omega
      by_cases hx : ∃ x, xv_U a_held x ∧ v2 = nI x
      · obtain ⟨x, ux, rfl⟩ := hx
        refine xw_inUse_t (f_trials := f_trials) (f_drafted := f_drafted) (f_pairs := f_pairs) (f_metCount := f_metCount) (f_meetingCount := f_meetingCount) (a_held := a_held) (a_saved := a_saved) (a_draft := a_draft) (a_toldBefore := a_toldBefore) (a_pairX := a_pairX) (a_pairY := a_pairY) (a_stack := a_stack) (a_met := a_met) (a_metAs := a_metAs) (a_copies := a_copies) (a_meetings := a_meetings) (a_wasMeeting := a_wasMeeting) (a_firstMet := a_firstMet) (a_depths := a_depths) (a_isKept := a_isKept) ux _ (br_f (by decide) ?_)
        by_cases hy : ∃ y, xv_U a_held y ∧ v3 = nI y
        · obtain ⟨y, uy, rfl⟩ := hy
          have N' : re_N (25 * k) (upd (upd a_held (504 + t) (nI x)) (512 + t) (nI y)) (upd (upd b_s (552 + t) (nI x)) (560 + t) (nI y)) := by
            refine tr_N (by omega) P.2.2.2.2.2 ux uy ⟨?_, pk_us, fun i a1 a2 => ?_⟩ ⟨?_, pk_us, fun i a1 a2 => ?_⟩
            · rw [pk_un (by omega), pk_us]
            · rw [pk_un a2, pk_un a1]
            · rw [pk_un (by omega), pk_us]
            · rw [pk_un a2, pk_un a1]
          have P' := re_P_N P (a' := upd (upd a_held (504 + t) (nI x)) (512 + t) (nI y)) (s' := upd (upd b_s (552 + t) (nI x)) (560 + t) (nI y)) (fun i hi => by rw [pk_un (by omega), pk_un (by omega)]) (fun i hi => by rw [pk_un (by omega), pk_un (by omega)]) N'
          obtain ⟨m2, a2, tb2, px2, py2, s2, wh, al, g1, g2, g3⟩ := st_settle (f_trials := f_trials) (f_drafted := f_drafted) (f_pairs := f_pairs) (f_metCount := f_metCount) (f_meetingCount := f_meetingCount) (a_held := upd (upd a_held (504 + t) (nI x)) (512 + t) (nI y)) (a_saved := a_saved) (a_draft := a_draft) (a_toldBefore := a_toldBefore) (a_pairX := a_pairX) (a_pairY := a_pairY) (a_stack := a_stack) (a_met := a_met) (a_metAs := a_metAs) (a_copies := a_copies) (a_meetings := a_meetings) (a_wasMeeting := a_wasMeeting) (a_firstMet := a_firstMet) (a_depths := a_depths) (a_isKept := a_isKept) (g_trials := g_trials) (g_drafted := g_drafted) (g_found := g_found) (b_s := upd (upd b_s (552 + t) (nI x)) (560 + t) (nI y)) (b_saved := b_saved) (b_draft := b_draft) (b_who := b_who) (b_met := b_met) (b_stack := b_stack) (b_fresh := b_fresh) (b_deep := b_deep) (b_alike := b_alike) (b_meets := b_meets) (by omega) P'
          refine xw_inUse_t (f_trials := f_trials) (f_drafted := f_drafted) (f_pairs := f_pairs) (f_metCount := f_metCount) (f_meetingCount := f_meetingCount) (a_held := a_held) (a_saved := a_saved) (a_draft := a_draft) (a_toldBefore := a_toldBefore) (a_pairX := a_pairX) (a_pairY := a_pairY) (a_stack := a_stack) (a_met := a_met) (a_metAs := a_metAs) (a_copies := a_copies) (a_meetings := a_meetings) (a_wasMeeting := a_wasMeeting) (a_firstMet := a_firstMet) (a_depths := a_depths) (a_isKept := a_isKept) uy _ (br_f (by decide) ?_)
          simp (disch := omega) only [forall_eq, true_and, and_true, Nat.zero_add, nI_clamp, li_vin, nI_add, nI_eq, nI_leI, nI_ltI, li_0le, li_lt0, li_nn1, li_e0, not_true_eq_false, not_false_eq_true, false_implies, true_implies, forall_const, li_a0, li_b0, li_a1, li_b1, li_a2, li_b2, li_a3, li_b3, li_a7, li_b7, li_a8, li_b8, li_a16, li_b16, li_a48, li_b48, li_a584, li_b584, li_a572, li_b572, li_a96, li_b96, li_a144, li_b144, li_a192, li_b192, li_a240, li_b240, li_a336, li_b336, li_a384, li_b384, li_a432, li_b432, li_a480, li_b480, li_a488, li_b488, li_a496, li_b496, li_a504, li_b504, li_a512, li_b512, li_a520, li_b520, li_a524, li_b524, li_a528, li_b528, li_a536, li_b536, li_a544, li_b544, li_a552, li_b552, li_a560, li_b560, li_a568, li_b568, li_a573, li_b573, li_a585, li_b585, li_a633, li_b633, li_m3, li_n3, li_m4, li_n4, li_m48, li_n48, li_m50, li_n50, li_m585, li_n585, li_m633, li_n633, li_lt2, li_ge2, li_le2, li_gt2, li_lt1, li_ge1, li_le1, li_gt1, li_lt3, li_ge3, li_le3, li_gt3, li_lt4, li_ge4, li_le4, li_gt4, li_lt7, li_ge7, li_le7, li_gt7, li_lt8, li_ge8, li_le8, li_gt8, li_lt40, li_ge40, li_le40, li_gt40, li_lt240, li_ge240, li_le240, li_gt240, li_lt41, li_ge41, li_le41, li_gt41, li_lt48, li_ge48, li_le48, li_gt48, li_lt49, li_ge49, li_le49, li_gt49, li_lt60, li_ge60, li_le60, li_gt60, li_lt144, li_ge144, li_le144, li_gt144, li_lt145, li_ge145, li_le145, li_gt145, li_lt160, li_ge160, li_le160, li_gt160, li_lt336, li_ge336, li_le336, li_gt336, li_lt585, li_ge585, li_le585, li_gt585, li_lt633, li_ge633, li_le633, li_gt633, li_lt1000000, li_ge1000000, li_le1000000, li_gt1000000, li_lt2304, li_ge2304, li_le2304, li_gt2304, li_lt50, li_ge50, li_le50, li_gt50, li_le0, li_gt0]
          refine g2 _ ?_
          unfold wpY_trigger
          refine br_f h0 (br_f h7 (yw_isUsed_t (g_trials := g_trials) (g_drafted := g_drafted) (g_found := g_found) (b_s := b_s) (b_saved := b_saved) (b_draft := b_draft) (b_who := b_who) (b_met := b_met) (b_stack := b_stack) (b_fresh := b_fresh) (b_deep := b_deep) (b_alike := b_alike) (b_meets := b_meets) (re_pos P ux) _ (br_f (by decide) (yw_isUsed_t (g_trials := g_trials) (g_drafted := g_drafted) (g_found := g_found) (b_s := b_s) (b_saved := b_saved) (b_draft := b_draft) (b_who := b_who) (b_met := b_met) (b_stack := b_stack) (b_fresh := b_fresh) (b_deep := b_deep) (b_alike := b_alike) (b_meets := b_meets) (re_pos P uy) _ (br_f (by decide) ?_)))))
          simp (disch := omega) only [forall_eq, true_and, and_true, Nat.zero_add, nI_clamp, li_vin, nI_add, nI_eq, nI_leI, nI_ltI, li_0le, li_lt0, li_nn1, li_e0, not_true_eq_false, not_false_eq_true, false_implies, true_implies, forall_const, li_a0, li_b0, li_a1, li_b1, li_a2, li_b2, li_a3, li_b3, li_a7, li_b7, li_a8, li_b8, li_a16, li_b16, li_a48, li_b48, li_a584, li_b584, li_a572, li_b572, li_a96, li_b96, li_a144, li_b144, li_a192, li_b192, li_a240, li_b240, li_a336, li_b336, li_a384, li_b384, li_a432, li_b432, li_a480, li_b480, li_a488, li_b488, li_a496, li_b496, li_a504, li_b504, li_a512, li_b512, li_a520, li_b520, li_a524, li_b524, li_a528, li_b528, li_a536, li_b536, li_a544, li_b544, li_a552, li_b552, li_a560, li_b560, li_a568, li_b568, li_a573, li_b573, li_a585, li_b585, li_a633, li_b633, li_m3, li_n3, li_m4, li_n4, li_m48, li_n48, li_m50, li_n50, li_m585, li_n585, li_m633, li_n633, li_lt2, li_ge2, li_le2, li_gt2, li_lt1, li_ge1, li_le1, li_gt1, li_lt3, li_ge3, li_le3, li_gt3, li_lt4, li_ge4, li_le4, li_gt4, li_lt7, li_ge7, li_le7, li_gt7, li_lt8, li_ge8, li_le8, li_gt8, li_lt40, li_ge40, li_le40, li_gt40, li_lt240, li_ge240, li_le240, li_gt240, li_lt41, li_ge41, li_le41, li_gt41, li_lt48, li_ge48, li_le48, li_gt48, li_lt49, li_ge49, li_le49, li_gt49, li_lt60, li_ge60, li_le60, li_gt60, li_lt144, li_ge144, li_le144, li_gt144, li_lt145, li_ge145, li_le145, li_gt145, li_lt160, li_ge160, li_le160, li_gt160, li_lt336, li_ge336, li_le336, li_gt336, li_lt585, li_ge585, li_le585, li_gt585, li_lt633, li_ge633, li_le633, li_gt633, li_lt1000000, li_ge1000000, li_le1000000, li_gt1000000, li_lt2304, li_ge2304, li_le2304, li_gt2304, li_lt50, li_ge50, li_le50, li_gt50, li_le0, li_gt0]
          refine g3 _ ?_
          exact re_A_row (k := k) I (re_C_mono (by omega) g1)
        · refine xw_inUse_f (f_trials := f_trials) (f_drafted := f_drafted) (f_pairs := f_pairs) (f_metCount := f_metCount) (f_meetingCount := f_meetingCount) (a_held := a_held) (a_saved := a_saved) (a_draft := a_draft) (a_toldBefore := a_toldBefore) (a_pairX := a_pairX) (a_pairY := a_pairY) (a_stack := a_stack) (a_met := a_met) (a_metAs := a_metAs) (a_copies := a_copies) (a_meetings := a_meetings) (a_wasMeeting := a_wasMeeting) (a_firstMet := a_firstMet) (a_depths := a_depths) (a_isKept := a_isKept) hy _ (br_t rfl ?_)
          unfold wpY_trigger
          exact br_f h0 (br_f h7 (yw_isUsed_t (g_trials := g_trials) (g_drafted := g_drafted) (g_found := g_found) (b_s := b_s) (b_saved := b_saved) (b_draft := b_draft) (b_who := b_who) (b_met := b_met) (b_stack := b_stack) (b_fresh := b_fresh) (b_deep := b_deep) (b_alike := b_alike) (b_meets := b_meets) (re_pos P ux) _ (br_f (by decide) (yw_isUsed_f (g_trials := g_trials) (g_drafted := g_drafted) (g_found := g_found) (b_s := b_s) (b_saved := b_saved) (b_draft := b_draft) (b_who := b_who) (b_met := b_met) (b_stack := b_stack) (b_fresh := b_fresh) (b_deep := b_deep) (b_alike := b_alike) (b_meets := b_meets) (re_neg P hy) _ (br_t rfl ⟨rfl, R⟩)))))
      · refine xw_inUse_f (f_trials := f_trials) (f_drafted := f_drafted) (f_pairs := f_pairs) (f_metCount := f_metCount) (f_meetingCount := f_meetingCount) (a_held := a_held) (a_saved := a_saved) (a_draft := a_draft) (a_toldBefore := a_toldBefore) (a_pairX := a_pairX) (a_pairY := a_pairY) (a_stack := a_stack) (a_met := a_met) (a_metAs := a_metAs) (a_copies := a_copies) (a_meetings := a_meetings) (a_wasMeeting := a_wasMeeting) (a_firstMet := a_firstMet) (a_depths := a_depths) (a_isKept := a_isKept) hx _ (br_t rfl ?_)
        unfold wpY_trigger
        exact br_f h0 (br_f h7 (yw_isUsed_f (g_trials := g_trials) (g_drafted := g_drafted) (g_found := g_found) (b_s := b_s) (b_saved := b_saved) (b_draft := b_draft) (b_who := b_who) (b_met := b_met) (b_stack := b_stack) (b_fresh := b_fresh) (b_deep := b_deep) (b_alike := b_alike) (b_meets := b_meets) (re_neg P hx) _ (br_t rfl ⟨rfl, R⟩)))
theorem i_vc_stream {k : Nat} {u : SX} {v : SY} (I : i_Rel k u v) (hk : k + 4 ≤ 2048) (v1 : Int32) (v2 : Int32) : wpX_stream (fun r u' => wpY_stream (fun r' v' => r' = r ∧ i_Rel (k + 4) u' v') v v1 v2) u v1 v2 := by
  obtain ⟨f_trials, f_drafted, f_pairs, f_metCount, f_meetingCount, a_held, a_saved, a_draft, a_toldBefore, a_pairX, a_pairY, a_stack, a_met, a_metAs, a_copies, a_meetings, a_wasMeeting, a_firstMet, a_depths, a_isKept⟩ := u
  obtain ⟨g_trials, g_drafted, g_found, b_s, b_saved, b_draft, b_who, b_met, b_stack, b_fresh, b_deep, b_alike, b_meets⟩ := v
  have C := re_A_C I
  have P := C.1
  have R := re_A_up (k := k) (k' := k + 4) (by omega) I
  unfold wpX_stream
  by_cases h0 : v1 < 0
  · refine br_t h0 ?_
    unfold wpY_stream
    exact br_t h0 ⟨rfl, R⟩
  · obtain ⟨t, ht, rfl⟩ := nI_of h0
    refine br_f h0 ?_
    by_cases h4 : t < 4
    · refine br_t ((li_lt4 (by omega)).mpr h4) ?_
      have h3 : ¬ (3 : Int32) < nI t := fun q => by have := (li_gt3 (by omega)).mp q; omega
      have key : (v2 = -1 ∨ ∃ y, xv_U a_held y ∧ v2 = nI y) → (∀ postY : Int32 → SY → Prop, wY_stream_24 postY (nI t) v2 g_trials g_drafted g_found b_s b_saved b_draft b_who b_met b_stack b_fresh b_deep b_alike b_meets → wpY_stream postY (g_trials, g_drafted, g_found, b_s, b_saved, b_draft, b_who, b_met, b_stack, b_fresh, b_deep, b_alike, b_meets) (nI t) v2) → wX_stream_26 (fun r u' => wpY_stream (fun r' v' => r' = r ∧ i_Rel (k + 4) u' v') (g_trials, g_drafted, g_found, b_s, b_saved, b_draft, b_who, b_met, b_stack, b_fresh, b_deep, b_alike, b_meets) (nI t) v2) (nI t) v2 f_trials f_drafted f_pairs f_metCount f_meetingCount a_held a_saved a_draft a_toldBefore a_pairX a_pairY a_stack a_met a_metAs a_copies a_meetings a_wasMeeting a_firstMet a_depths a_isKept := by
        intro hy hw
        have N' : re_N (25 * k) (upd a_held (520 + t) v2) (upd b_s (568 + t) v2) := en_N h4 P.2.2.2.2.2 hy ⟨pk_us, fun i a1 => pk_un a1⟩ ⟨pk_us, fun i a1 => pk_un a1⟩
        have P' := re_P_N P (a' := upd a_held (520 + t) v2) (s' := upd b_s (568 + t) v2) (fun i hi => pk_un (by omega)) (fun i hi => pk_un (by omega)) N'
        have S' := re_S_congr (a := a_held) (a' := upd a_held (520 + t) v2) (fun i hi => pk_un (by omega)) (fun i h1 h2 => pk_un (by omega)) C.2.1 C.2.2
        unfold wX_stream_26
        simp (disch := omega) only [forall_eq, true_and, and_true, Nat.zero_add, nI_clamp, li_vin, nI_add, nI_eq, nI_leI, nI_ltI, li_0le, li_lt0, li_nn1, li_e0, not_true_eq_false, not_false_eq_true, false_implies, true_implies, forall_const, li_a0, li_b0, li_a1, li_b1, li_a2, li_b2, li_a3, li_b3, li_a7, li_b7, li_a8, li_b8, li_a16, li_b16, li_a48, li_b48, li_a584, li_b584, li_a572, li_b572, li_a96, li_b96, li_a144, li_b144, li_a192, li_b192, li_a240, li_b240, li_a336, li_b336, li_a384, li_b384, li_a432, li_b432, li_a480, li_b480, li_a488, li_b488, li_a496, li_b496, li_a504, li_b504, li_a512, li_b512, li_a520, li_b520, li_a524, li_b524, li_a528, li_b528, li_a536, li_b536, li_a544, li_b544, li_a552, li_b552, li_a560, li_b560, li_a568, li_b568, li_a573, li_b573, li_a585, li_b585, li_a633, li_b633, li_m3, li_n3, li_m4, li_n4, li_m48, li_n48, li_m50, li_n50, li_m585, li_n585, li_m633, li_n633, li_lt2, li_ge2, li_le2, li_gt2, li_lt1, li_ge1, li_le1, li_gt1, li_lt3, li_ge3, li_le3, li_gt3, li_lt4, li_ge4, li_le4, li_gt4, li_lt7, li_ge7, li_le7, li_gt7, li_lt8, li_ge8, li_le8, li_gt8, li_lt40, li_ge40, li_le40, li_gt40, li_lt240, li_ge240, li_le240, li_gt240, li_lt41, li_ge41, li_le41, li_gt41, li_lt48, li_ge48, li_le48, li_gt48, li_lt49, li_ge49, li_le49, li_gt49, li_lt60, li_ge60, li_le60, li_gt60, li_lt144, li_ge144, li_le144, li_gt144, li_lt145, li_ge145, li_le145, li_gt145, li_lt160, li_ge160, li_le160, li_gt160, li_lt336, li_ge336, li_le336, li_gt336, li_lt585, li_ge585, li_le585, li_gt585, li_lt633, li_ge633, li_le633, li_gt633, li_lt1000000, li_ge1000000, li_le1000000, li_gt1000000, li_lt2304, li_ge2304, li_le2304, li_gt2304, li_lt50, li_ge50, li_le50, li_gt50, li_le0, li_gt0]
        refine hw _ ?_
        unfold wY_stream_24
        simp (disch := omega) only [forall_eq, true_and, and_true, Nat.zero_add, nI_clamp, li_vin, nI_add, nI_eq, nI_leI, nI_ltI, li_0le, li_lt0, li_nn1, li_e0, not_true_eq_false, not_false_eq_true, false_implies, true_implies, forall_const, li_a0, li_b0, li_a1, li_b1, li_a2, li_b2, li_a3, li_b3, li_a7, li_b7, li_a8, li_b8, li_a16, li_b16, li_a48, li_b48, li_a584, li_b584, li_a572, li_b572, li_a96, li_b96, li_a144, li_b144, li_a192, li_b192, li_a240, li_b240, li_a336, li_b336, li_a384, li_b384, li_a432, li_b432, li_a480, li_b480, li_a488, li_b488, li_a496, li_b496, li_a504, li_b504, li_a512, li_b512, li_a520, li_b520, li_a524, li_b524, li_a528, li_b528, li_a536, li_b536, li_a544, li_b544, li_a552, li_b552, li_a560, li_b560, li_a568, li_b568, li_a573, li_b573, li_a585, li_b585, li_a633, li_b633, li_m3, li_n3, li_m4, li_n4, li_m48, li_n48, li_m50, li_n50, li_m585, li_n585, li_m633, li_n633, li_lt2, li_ge2, li_le2, li_gt2, li_lt1, li_ge1, li_le1, li_gt1, li_lt3, li_ge3, li_le3, li_gt3, li_lt4, li_ge4, li_le4, li_gt4, li_lt7, li_ge7, li_le7, li_gt7, li_lt8, li_ge8, li_le8, li_gt8, li_lt40, li_ge40, li_le40, li_gt40, li_lt240, li_ge240, li_le240, li_gt240, li_lt41, li_ge41, li_le41, li_gt41, li_lt48, li_ge48, li_le48, li_gt48, li_lt49, li_ge49, li_le49, li_gt49, li_lt60, li_ge60, li_le60, li_gt60, li_lt144, li_ge144, li_le144, li_gt144, li_lt145, li_ge145, li_le145, li_gt145, li_lt160, li_ge160, li_le160, li_gt160, li_lt336, li_ge336, li_le336, li_gt336, li_lt585, li_ge585, li_le585, li_gt585, li_lt633, li_ge633, li_le633, li_gt633, li_lt1000000, li_ge1000000, li_le1000000, li_gt1000000, li_lt2304, li_ge2304, li_le2304, li_gt2304, li_lt50, li_ge50, li_le50, li_gt50, li_le0, li_gt0]
        exact re_A_row (k := k) I (re_C_mono (by omega) ⟨P', S'⟩)
      by_cases hm : v2 = -1
      · refine br_t hm (key (Or.inl hm) (fun postY hp => ?_))
        unfold wpY_stream
        exact br_f h0 (br_f h3 (br_t hm hp))
      · refine br_f hm ?_
        by_cases hy : ∃ y, xv_U a_held y ∧ v2 = nI y
        · obtain ⟨y, uy, rfl⟩ := hy
          refine xw_inUse_t (f_trials := f_trials) (f_drafted := f_drafted) (f_pairs := f_pairs) (f_metCount := f_metCount) (f_meetingCount := f_meetingCount) (a_held := a_held) (a_saved := a_saved) (a_draft := a_draft) (a_toldBefore := a_toldBefore) (a_pairX := a_pairX) (a_pairY := a_pairY) (a_stack := a_stack) (a_met := a_met) (a_metAs := a_metAs) (a_copies := a_copies) (a_meetings := a_meetings) (a_wasMeeting := a_wasMeeting) (a_firstMet := a_firstMet) (a_depths := a_depths) (a_isKept := a_isKept) uy _ (br_f (by decide) (key (Or.inr ⟨y, uy, rfl⟩) (fun postY hp => ?_)))
          unfold wpY_stream
          exact br_f h0 (br_f h3 (br_f hm (yw_isUsed_t (g_trials := g_trials) (g_drafted := g_drafted) (g_found := g_found) (b_s := b_s) (b_saved := b_saved) (b_draft := b_draft) (b_who := b_who) (b_met := b_met) (b_stack := b_stack) (b_fresh := b_fresh) (b_deep := b_deep) (b_alike := b_alike) (b_meets := b_meets) (re_pos P uy) _ (br_f (by decide) hp))))
        · refine xw_inUse_f (f_trials := f_trials) (f_drafted := f_drafted) (f_pairs := f_pairs) (f_metCount := f_metCount) (f_meetingCount := f_meetingCount) (a_held := a_held) (a_saved := a_saved) (a_draft := a_draft) (a_toldBefore := a_toldBefore) (a_pairX := a_pairX) (a_pairY := a_pairY) (a_stack := a_stack) (a_met := a_met) (a_metAs := a_metAs) (a_copies := a_copies) (a_meetings := a_meetings) (a_wasMeeting := a_wasMeeting) (a_firstMet := a_firstMet) (a_depths := a_depths) (a_isKept := a_isKept) hy _ (br_t rfl ?_)
          unfold wpY_stream
          exact br_f h0 (br_f h3 (br_f hm (yw_isUsed_f (g_trials := g_trials) (g_drafted := g_drafted) (g_found := g_found) (b_s := b_s) (b_saved := b_saved) (b_draft := b_draft) (b_who := b_who) (b_met := b_met) (b_stack := b_stack) (b_fresh := b_fresh) (b_deep := b_deep) (b_alike := b_alike) (b_meets := b_meets) (re_neg P hy) _ (br_t rfl ⟨rfl, R⟩))))
    · refine br_f (fun q => h4 ((li_lt4 (by omega)).mp q)) ?_
      unfold wpY_stream
      exact br_f h0 (br_t ((li_gt3 (by omega)).mpr (by omega)) ⟨rfl, R⟩)
theorem i_vc_same {k : Nat} {u : SX} {v : SY} (I : i_Rel k u v) (hk : k + 4 ≤ 2048) (v1 : Int32) : wpX_same (fun r => wpY_same (fun r' => r' = r ∧ i_Rel (k + 4) u v) v v1) u v1 := by
  obtain ⟨f_trials, f_drafted, f_pairs, f_metCount, f_meetingCount, a_held, a_saved, a_draft, a_toldBefore, a_pairX, a_pairY, a_stack, a_met, a_metAs, a_copies, a_meetings, a_wasMeeting, a_firstMet, a_depths, a_isKept⟩ := u
  obtain ⟨g_trials, g_drafted, g_found, b_s, b_saved, b_draft, b_who, b_met, b_stack, b_fresh, b_deep, b_alike, b_meets⟩ := v
  have P := (re_A_C I).1
  have R := re_A_up (k := k) (k' := k + 4) (by omega) I
  unfold wpX_same
  by_cases hx : ∃ x, xv_U a_held x ∧ v1 = nI x
  · obtain ⟨x, ux, rfl⟩ := hx
    have x48 := ux.1
    refine xw_inUse_t (f_trials := f_trials) (f_drafted := f_drafted) (f_pairs := f_pairs) (f_metCount := f_metCount) (f_meetingCount := f_meetingCount) (a_held := a_held) (a_saved := a_saved) (a_draft := a_draft) (a_toldBefore := a_toldBefore) (a_pairX := a_pairX) (a_pairY := a_pairY) (a_stack := a_stack) (a_met := a_met) (a_metAs := a_metAs) (a_copies := a_copies) (a_meetings := a_meetings) (a_wasMeeting := a_wasMeeting) (a_firstMet := a_firstMet) (a_depths := a_depths) (a_isKept := a_isKept) ux _ (br_f (by decide) ?_)
    simp (disch := omega) only [forall_eq, true_and, and_true, Nat.zero_add, nI_clamp, li_vin, nI_add, nI_eq, nI_leI, nI_ltI, li_0le, li_lt0, li_nn1, li_e0, not_true_eq_false, not_false_eq_true, false_implies, true_implies, forall_const, li_a0, li_b0, li_a1, li_b1, li_a2, li_b2, li_a3, li_b3, li_a7, li_b7, li_a8, li_b8, li_a16, li_b16, li_a48, li_b48, li_a584, li_b584, li_a572, li_b572, li_a96, li_b96, li_a144, li_b144, li_a192, li_b192, li_a240, li_b240, li_a336, li_b336, li_a384, li_b384, li_a432, li_b432, li_a480, li_b480, li_a488, li_b488, li_a496, li_b496, li_a504, li_b504, li_a512, li_b512, li_a520, li_b520, li_a524, li_b524, li_a528, li_b528, li_a536, li_b536, li_a544, li_b544, li_a552, li_b552, li_a560, li_b560, li_a568, li_b568, li_a573, li_b573, li_a585, li_b585, li_a633, li_b633, li_m3, li_n3, li_m4, li_n4, li_m48, li_n48, li_m50, li_n50, li_m585, li_n585, li_m633, li_n633, li_lt2, li_ge2, li_le2, li_gt2, li_lt1, li_ge1, li_le1, li_gt1, li_lt3, li_ge3, li_le3, li_gt3, li_lt4, li_ge4, li_le4, li_gt4, li_lt7, li_ge7, li_le7, li_gt7, li_lt8, li_ge8, li_le8, li_gt8, li_lt40, li_ge40, li_le40, li_gt40, li_lt240, li_ge240, li_le240, li_gt240, li_lt41, li_ge41, li_le41, li_gt41, li_lt48, li_ge48, li_le48, li_gt48, li_lt49, li_ge49, li_le49, li_gt49, li_lt60, li_ge60, li_le60, li_gt60, li_lt144, li_ge144, li_le144, li_gt144, li_lt145, li_ge145, li_le145, li_gt145, li_lt160, li_ge160, li_le160, li_gt160, li_lt336, li_ge336, li_le336, li_gt336, li_lt585, li_ge585, li_le585, li_gt585, li_lt633, li_ge633, li_le633, li_gt633, li_lt1000000, li_ge1000000, li_le1000000, li_gt1000000, li_lt2304, li_ge2304, li_le2304, li_gt2304, li_lt50, li_ge50, li_le50, li_gt50, li_le0, li_gt0]
    unfold wpY_same
    refine yw_isUsed_t (g_trials := g_trials) (g_drafted := g_drafted) (g_found := g_found) (b_s := b_s) (b_saved := b_saved) (b_draft := b_draft) (b_who := b_who) (b_met := b_met) (b_stack := b_stack) (b_fresh := b_fresh) (b_deep := b_deep) (b_alike := b_alike) (b_meets := b_meets) (re_pos P ux) _ (br_f (by decide) ?_)
    simp (disch := omega) only [forall_eq, true_and, and_true, Nat.zero_add, nI_clamp, li_vin, nI_add, nI_eq, nI_leI, nI_ltI, li_0le, li_lt0, li_nn1, li_e0, not_true_eq_false, not_false_eq_true, false_implies, true_implies, forall_const, li_a0, li_b0, li_a1, li_b1, li_a2, li_b2, li_a3, li_b3, li_a7, li_b7, li_a8, li_b8, li_a16, li_b16, li_a48, li_b48, li_a584, li_b584, li_a572, li_b572, li_a96, li_b96, li_a144, li_b144, li_a192, li_b192, li_a240, li_b240, li_a336, li_b336, li_a384, li_b384, li_a432, li_b432, li_a480, li_b480, li_a488, li_b488, li_a496, li_b496, li_a504, li_b504, li_a512, li_b512, li_a520, li_b520, li_a524, li_b524, li_a528, li_b528, li_a536, li_b536, li_a544, li_b544, li_a552, li_b552, li_a560, li_b560, li_a568, li_b568, li_a573, li_b573, li_a585, li_b585, li_a633, li_b633, li_m3, li_n3, li_m4, li_n4, li_m48, li_n48, li_m50, li_n50, li_m585, li_n585, li_m633, li_n633, li_lt2, li_ge2, li_le2, li_gt2, li_lt1, li_ge1, li_le1, li_gt1, li_lt3, li_ge3, li_le3, li_gt3, li_lt4, li_ge4, li_le4, li_gt4, li_lt7, li_ge7, li_le7, li_gt7, li_lt8, li_ge8, li_le8, li_gt8, li_lt40, li_ge40, li_le40, li_gt40, li_lt240, li_ge240, li_le240, li_gt240, li_lt41, li_ge41, li_le41, li_gt41, li_lt48, li_ge48, li_le48, li_gt48, li_lt49, li_ge49, li_le49, li_gt49, li_lt60, li_ge60, li_le60, li_gt60, li_lt144, li_ge144, li_le144, li_gt144, li_lt145, li_ge145, li_le145, li_gt145, li_lt160, li_ge160, li_le160, li_gt160, li_lt336, li_ge336, li_le336, li_gt336, li_lt585, li_ge585, li_le585, li_gt585, li_lt633, li_ge633, li_le633, li_gt633, li_lt1000000, li_ge1000000, li_le1000000, li_gt1000000, li_lt2304, li_ge2304, li_le2304, li_gt2304, li_lt50, li_ge50, li_le50, li_gt50, li_le0, li_gt0]
    exact ⟨(P.2.2.2.1 x ux).symm, R⟩
  · refine xw_inUse_f (f_trials := f_trials) (f_drafted := f_drafted) (f_pairs := f_pairs) (f_metCount := f_metCount) (f_meetingCount := f_meetingCount) (a_held := a_held) (a_saved := a_saved) (a_draft := a_draft) (a_toldBefore := a_toldBefore) (a_pairX := a_pairX) (a_pairY := a_pairY) (a_stack := a_stack) (a_met := a_met) (a_metAs := a_metAs) (a_copies := a_copies) (a_meetings := a_meetings) (a_wasMeeting := a_wasMeeting) (a_firstMet := a_firstMet) (a_depths := a_depths) (a_isKept := a_isKept) hx _ (br_t rfl ?_)
    unfold wpY_same
    exact yw_isUsed_f (g_trials := g_trials) (g_drafted := g_drafted) (g_found := g_found) (b_s := b_s) (b_saved := b_saved) (b_draft := b_draft) (b_who := b_who) (b_met := b_met) (b_stack := b_stack) (b_fresh := b_fresh) (b_deep := b_deep) (b_alike := b_alike) (b_meets := b_meets) (re_neg P hx) _ (br_t rfl ⟨rfl, R⟩)
theorem i_vc_root {k : Nat} {u : SX} {v : SY} (I : i_Rel k u v) (hk : k + 4 ≤ 2048) (v1 : Int32) (v2 : Int32) : wpX_root (fun r u' => wpY_root (fun r' v' => r' = r ∧ i_Rel (k + 4) u' v') v v1 (lw_bz v2)) u v1 (lw_bz v2) := by
  obtain ⟨f_trials, f_drafted, f_pairs, f_metCount, f_meetingCount, a_held, a_saved, a_draft, a_toldBefore, a_pairX, a_pairY, a_stack, a_met, a_metAs, a_copies, a_meetings, a_wasMeeting, a_firstMet, a_depths, a_isKept⟩ := u
  obtain ⟨g_trials, g_drafted, g_found, b_s, b_saved, b_draft, b_who, b_met, b_stack, b_fresh, b_deep, b_alike, b_meets⟩ := v
  have C := re_A_C I
  have P := C.1
  have R := re_A_up (k := k) (k' := k + 4) (by omega) I
  have key : ∀ m : Int32, (m = 0 ∨ m = 1) → wX_root_9 (fun r u' => wpY_root (fun r' v' => r' = r ∧ i_Rel (k + 4) u' v') (g_trials, g_drafted, g_found, b_s, b_saved, b_draft, b_who, b_met, b_stack, b_fresh, b_deep, b_alike, b_meets) v1 m) v1 m f_trials f_drafted f_pairs f_metCount f_meetingCount a_held a_saved a_draft a_toldBefore a_pairX a_pairY a_stack a_met a_metAs a_copies a_meetings a_wasMeeting a_firstMet a_depths a_isKept := by
    intro m hm
    unfold wX_root_9
    by_cases hx : ∃ x, xv_U a_held x ∧ v1 = nI x
    · obtain ⟨x, ux, rfl⟩ := hx
      have x48 := ux.1
      obtain ⟨e1, e2⟩ := P.2.2.2.2.2.2.1 x x48
      have N' : re_N (25 * k) (upd a_held (432 + x) m) (upd b_s (432 + x) m) := rt_N x48 P.2.2.2.2.2 ux hm ⟨pk_us, fun i a1 => pk_un a1⟩ ⟨pk_us, fun i a1 => pk_un a1⟩
      have P' := re_P_N P (a' := upd a_held (432 + x) m) (s' := upd b_s (432 + x) m) (fun i hi => pk_un (by omega)) (fun i hi => pk_un (by omega)) N'
      have S' := re_S_congr (a := a_held) (a' := upd a_held (432 + x) m) (fun i hi => pk_un (by omega)) (fun i h1 h2 => pk_un (by omega)) C.2.1 C.2.2
      have R' := re_A_row (k := k) I (re_C_mono (B' := 25 * k + 100) (by omega) ⟨P', S'⟩)
      refine xw_inUse_t (f_trials := f_trials) (f_drafted := f_drafted) (f_pairs := f_pairs) (f_metCount := f_metCount) (f_meetingCount := f_meetingCount) (a_held := a_held) (a_saved := a_saved) (a_draft := a_draft) (a_toldBefore := a_toldBefore) (a_pairX := a_pairX) (a_pairY := a_pairY) (a_stack := a_stack) (a_met := a_met) (a_metAs := a_metAs) (a_copies := a_copies) (a_meetings := a_meetings) (a_wasMeeting := a_wasMeeting) (a_firstMet := a_firstMet) (a_depths := a_depths) (a_isKept := a_isKept) ux _ (br_f (by decide) ?_)
      simp (disch := omega) only [forall_eq, true_and, and_true, Nat.zero_add, nI_clamp, li_vin, nI_add, nI_eq, nI_leI, nI_ltI, li_0le, li_lt0, li_nn1, li_e0, not_true_eq_false, not_false_eq_true, false_implies, true_implies, forall_const, li_a0, li_b0, li_a1, li_b1, li_a2, li_b2, li_a3, li_b3, li_a7, li_b7, li_a8, li_b8, li_a16, li_b16, li_a48, li_b48, li_a584, li_b584, li_a572, li_b572, li_a96, li_b96, li_a144, li_b144, li_a192, li_b192, li_a240, li_b240, li_a336, li_b336, li_a384, li_b384, li_a432, li_b432, li_a480, li_b480, li_a488, li_b488, li_a496, li_b496, li_a504, li_b504, li_a512, li_b512, li_a520, li_b520, li_a524, li_b524, li_a528, li_b528, li_a536, li_b536, li_a544, li_b544, li_a552, li_b552, li_a560, li_b560, li_a568, li_b568, li_a573, li_b573, li_a585, li_b585, li_a633, li_b633, li_m3, li_n3, li_m4, li_n4, li_m48, li_n48, li_m50, li_n50, li_m585, li_n585, li_m633, li_n633, li_lt2, li_ge2, li_le2, li_gt2, li_lt1, li_ge1, li_le1, li_gt1, li_lt3, li_ge3, li_le3, li_gt3, li_lt4, li_ge4, li_le4, li_gt4, li_lt7, li_ge7, li_le7, li_gt7, li_lt8, li_ge8, li_le8, li_gt8, li_lt40, li_ge40, li_le40, li_gt40, li_lt240, li_ge240, li_le240, li_gt240, li_lt41, li_ge41, li_le41, li_gt41, li_lt48, li_ge48, li_le48, li_gt48, li_lt49, li_ge49, li_le49, li_gt49, li_lt60, li_ge60, li_le60, li_gt60, li_lt144, li_ge144, li_le144, li_gt144, li_lt145, li_ge145, li_le145, li_gt145, li_lt160, li_ge160, li_le160, li_gt160, li_lt336, li_ge336, li_le336, li_gt336, li_lt585, li_ge585, li_le585, li_gt585, li_lt633, li_ge633, li_le633, li_gt633, li_lt1000000, li_ge1000000, li_le1000000, li_gt1000000, li_lt2304, li_ge2304, li_le2304, li_gt2304, li_lt50, li_ge50, li_le50, li_gt50, li_le0, li_gt0]
      refine br_c (fun q => ?_) (fun q => ?_)
      · unfold wpY_root
        refine yw_isUsed_t (g_trials := g_trials) (g_drafted := g_drafted) (g_found := g_found) (b_s := b_s) (b_saved := b_saved) (b_draft := b_draft) (b_who := b_who) (b_met := b_met) (b_stack := b_stack) (b_fresh := b_fresh) (b_deep := b_deep) (b_alike := b_alike) (b_meets := b_meets) (re_pos P ux) _ (br_f (by decide) ?_)
        simp (disch := omega) only [forall_eq, true_and, and_true, Nat.zero_add, nI_clamp, li_vin, nI_add, nI_eq, nI_leI, nI_ltI, li_0le, li_lt0, li_nn1, li_e0, not_true_eq_false, not_false_eq_true, false_implies, true_implies, forall_const, li_a0, li_b0, li_a1, li_b1, li_a2, li_b2, li_a3, li_b3, li_a7, li_b7, li_a8, li_b8, li_a16, li_b16, li_a48, li_b48, li_a584, li_b584, li_a572, li_b572, li_a96, li_b96, li_a144, li_b144, li_a192, li_b192, li_a240, li_b240, li_a336, li_b336, li_a384, li_b384, li_a432, li_b432, li_a480, li_b480, li_a488, li_b488, li_a496, li_b496, li_a504, li_b504, li_a512, li_b512, li_a520, li_b520, li_a524, li_b524, li_a528, li_b528, li_a536, li_b536, li_a544, li_b544, li_a552, li_b552, li_a560, li_b560, li_a568, li_b568, li_a573, li_b573, li_a585, li_b585, li_a633, li_b633, li_m3, li_n3, li_m4, li_n4, li_m48, li_n48, li_m50, li_n50, li_m585, li_n585, li_m633, li_n633, li_lt2, li_ge2, li_le2, li_gt2, li_lt1, li_ge1, li_le1, li_gt1, li_lt3, li_ge3, li_le3, li_gt3, li_lt4, li_ge4, li_le4, li_gt4, li_lt7, li_ge7, li_le7, li_gt7, li_lt8, li_ge8, li_le8, li_gt8, li_lt40, li_ge40, li_le40, li_gt40, li_lt240, li_ge240, li_le240, li_gt240, li_lt41, li_ge41, li_le41, li_gt41, li_lt48, li_ge48, li_le48, li_gt48, li_lt49, li_ge49, li_le49, li_gt49, li_lt60, li_ge60, li_le60, li_gt60, li_lt144, li_ge144, li_le144, li_gt144, li_lt145, li_ge145, li_le145, li_gt145, li_lt160, li_ge160, li_le160, li_gt160, li_lt336, li_ge336, li_le336, li_gt336, li_lt585, li_ge585, li_le585, li_gt585, li_lt633, li_ge633, li_le633, li_gt633, li_lt1000000, li_ge1000000, li_le1000000, li_gt1000000, li_lt2304, li_ge2304, li_le2304, li_gt2304, li_lt50, li_ge50, li_le50, li_gt50, li_le0, li_gt0]
        rw [← e1, q]
        unfold wY_root_27
        rcases hm with z | z
        · subst z
          exact br_f (by decide) (br_t rfl ⟨rfl, R⟩)
        · subst z
          exact br_t rfl (br_t rfl ⟨rfl, R⟩)
      · unfold wpY_root
        refine yw_isUsed_t (g_trials := g_trials) (g_drafted := g_drafted) (g_found := g_found) (b_s := b_s) (b_saved := b_saved) (b_draft := b_draft) (b_who := b_who) (b_met := b_met) (b_stack := b_stack) (b_fresh := b_fresh) (b_deep := b_deep) (b_alike := b_alike) (b_meets := b_meets) (re_pos P ux) _ (br_f (by decide) ?_)
        simp (disch := omega) only [forall_eq, true_and, and_true, Nat.zero_add, nI_clamp, li_vin, nI_add, nI_eq, nI_leI, nI_ltI, li_0le, li_lt0, li_nn1, li_e0, not_true_eq_false, not_false_eq_true, false_implies, true_implies, forall_const, li_a0, li_b0, li_a1, li_b1, li_a2, li_b2, li_a3, li_b3, li_a7, li_b7, li_a8, li_b8, li_a16, li_b16, li_a48, li_b48, li_a584, li_b584, li_a572, li_b572, li_a96, li_b96, li_a144, li_b144, li_a192, li_b192, li_a240, li_b240, li_a336, li_b336, li_a384, li_b384, li_a432, li_b432, li_a480, li_b480, li_a488, li_b488, li_a496, li_b496, li_a504, li_b504, li_a512, li_b512, li_a520, li_b520, li_a524, li_b524, li_a528, li_b528, li_a536, li_b536, li_a544, li_b544, li_a552, li_b552, li_a560, li_b560, li_a568, li_b568, li_a573, li_b573, li_a585, li_b585, li_a633, li_b633, li_m3, li_n3, li_m4, li_n4, li_m48, li_n48, li_m50, li_n50, li_m585, li_n585, li_m633, li_n633, li_lt2, li_ge2, li_le2, li_gt2, li_lt1, li_ge1, li_le1, li_gt1, li_lt3, li_ge3, li_le3, li_gt3, li_lt4, li_ge4, li_le4, li_gt4, li_lt7, li_ge7, li_le7, li_gt7, li_lt8, li_ge8, li_le8, li_gt8, li_lt40, li_ge40, li_le40, li_gt40, li_lt240, li_ge240, li_le240, li_gt240, li_lt41, li_ge41, li_le41, li_gt41, li_lt48, li_ge48, li_le48, li_gt48, li_lt49, li_ge49, li_le49, li_gt49, li_lt60, li_ge60, li_le60, li_gt60, li_lt144, li_ge144, li_le144, li_gt144, li_lt145, li_ge145, li_le145, li_gt145, li_lt160, li_ge160, li_le160, li_gt160, li_lt336, li_ge336, li_le336, li_gt336, li_lt585, li_ge585, li_le585, li_gt585, li_lt633, li_ge633, li_le633, li_gt633, li_lt1000000, li_ge1000000, li_le1000000, li_gt1000000, li_lt2304, li_ge2304, li_le2304, li_gt2304, li_lt50, li_ge50, li_le50, li_gt50, li_le0, li_gt0]
        rw [← e1]
        unfold wY_root_27
        rcases hm with z | z
        · subst z
          have : a_held (432 + x) = 1 := by
            rcases e2 with e2 | e2
            · exact absurd e2 q
            · exact e2.1
          rw [this]
          refine br_t rfl (br_f (by decide) (br_t rfl ?_))
          simp (disch := omega) only [forall_eq, true_and, and_true, Nat.zero_add, nI_clamp, li_vin, nI_add, nI_eq, nI_leI, nI_ltI, li_0le, li_lt0, li_nn1, li_e0, not_true_eq_false, not_false_eq_true, false_implies, true_implies, forall_const, li_a0, li_b0, li_a1, li_b1, li_a2, li_b2, li_a3, li_b3, li_a7, li_b7, li_a8, li_b8, li_a16, li_b16, li_a48, li_b48, li_a584, li_b584, li_a572, li_b572, li_a96, li_b96, li_a144, li_b144, li_a192, li_b192, li_a240, li_b240, li_a336, li_b336, li_a384, li_b384, li_a432, li_b432, li_a480, li_b480, li_a488, li_b488, li_a496, li_b496, li_a504, li_b504, li_a512, li_b512, li_a520, li_b520, li_a524, li_b524, li_a528, li_b528, li_a536, li_b536, li_a544, li_b544, li_a552, li_b552, li_a560, li_b560, li_a568, li_b568, li_a573, li_b573, li_a585, li_b585, li_a633, li_b633, li_m3, li_n3, li_m4, li_n4, li_m48, li_n48, li_m50, li_n50, li_m585, li_n585, li_m633, li_n633, li_lt2, li_ge2, li_le2, li_gt2, li_lt1, li_ge1, li_le1, li_gt1, li_lt3, li_ge3, li_le3, li_gt3, li_lt4, li_ge4, li_le4, li_gt4, li_lt7, li_ge7, li_le7, li_gt7, li_lt8, li_ge8, li_le8, li_gt8, li_lt40, li_ge40, li_le40, li_gt40, li_lt240, li_ge240, li_le240, li_gt240, li_lt41, li_ge41, li_le41, li_gt41, li_lt48, li_ge48, li_le48, li_gt48, li_lt49, li_ge49, li_le49, li_gt49, li_lt60, li_ge60, li_le60, li_gt60, li_lt144, li_ge144, li_le144, li_gt144, li_lt145, li_ge145, li_le145, li_gt145, li_lt160, li_ge160, li_le160, li_gt160, li_lt336, li_ge336, li_le336, li_gt336, li_lt585, li_ge585, li_le585, li_gt585, li_lt633, li_ge633, li_le633, li_gt633, li_lt1000000, li_ge1000000, li_le1000000, li_gt1000000, li_lt2304, li_ge2304, li_le2304, li_gt2304, li_lt50, li_ge50, li_le50, li_gt50, li_le0, li_gt0]
          exact R'
        · subst z
          have : a_held (432 + x) = 0 := by
            rcases e2 with e2 | e2
            · exact e2
            · exact absurd e2.1 q
          rw [this]
          refine br_f (by decide) (br_f (by decide) (br_f (by decide) ?_))
          simp (disch := omega) only [forall_eq, true_and, and_true, Nat.zero_add, nI_clamp, li_vin, nI_add, nI_eq, nI_leI, nI_ltI, li_0le, li_lt0, li_nn1, li_e0, not_true_eq_false, not_false_eq_true, false_implies, true_implies, forall_const, li_a0, li_b0, li_a1, li_b1, li_a2, li_b2, li_a3, li_b3, li_a7, li_b7, li_a8, li_b8, li_a16, li_b16, li_a48, li_b48, li_a584, li_b584, li_a572, li_b572, li_a96, li_b96, li_a144, li_b144, li_a192, li_b192, li_a240, li_b240, li_a336, li_b336, li_a384, li_b384, li_a432, li_b432, li_a480, li_b480, li_a488, li_b488, li_a496, li_b496, li_a504, li_b504, li_a512, li_b512, li_a520, li_b520, li_a524, li_b524, li_a528, li_b528, li_a536, li_b536, li_a544, li_b544, li_a552, li_b552, li_a560, li_b560, li_a568, li_b568, li_a573, li_b573, li_a585, li_b585, li_a633, li_b633, li_m3, li_n3, li_m4, li_n4, li_m48, li_n48, li_m50, li_n50, li_m585, li_n585, li_m633, li_n633, li_lt2, li_ge2, li_le2, li_gt2, li_lt1, li_ge1, li_le1, li_gt1, li_lt3, li_ge3, li_le3, li_gt3, li_lt4, li_ge4, li_le4, li_gt4, li_lt7, li_ge7, li_le7, li_gt7, li_lt8, li_ge8, li_le8, li_gt8, li_lt40, li_ge40, li_le40, li_gt40, li_lt240, li_ge240, li_le240, li_gt240, li_lt41, li_ge41, li_le41, li_gt41, li_lt48, li_ge48, li_le48, li_gt48, li_lt49, li_ge49, li_le49, li_gt49, li_lt60, li_ge60, li_le60, li_gt60, li_lt144, li_ge144, li_le144, li_gt144, li_lt145, li_ge145, li_le145, li_gt145, li_lt160, li_ge160, li_le160, li_gt160, li_lt336, li_ge336, li_le336, li_gt336, li_lt585, li_ge585, li_le585, li_gt585, li_lt633, li_ge633, li_le633, li_gt633, li_lt1000000, li_ge1000000, li_le1000000, li_gt1000000, li_lt2304, li_ge2304, li_le2304, li_gt2304, li_lt50, li_ge50, li_le50, li_gt50, li_le0, li_gt0]
          exact R'
    · refine xw_inUse_f (f_trials := f_trials) (f_drafted := f_drafted) (f_pairs := f_pairs) (f_metCount := f_metCount) (f_meetingCount := f_meetingCount) (a_held := a_held) (a_saved := a_saved) (a_draft := a_draft) (a_toldBefore := a_toldBefore) (a_pairX := a_pairX) (a_pairY := a_pairY) (a_stack := a_stack) (a_met := a_met) (a_metAs := a_metAs) (a_copies := a_copies) (a_meetings := a_meetings) (a_wasMeeting := a_wasMeeting) (a_firstMet := a_firstMet) (a_depths := a_depths) (a_isKept := a_isKept) hx _ (br_t rfl ?_)
      unfold wpY_root
      exact yw_isUsed_f (g_trials := g_trials) (g_drafted := g_drafted) (g_found := g_found) (b_s := b_s) (b_saved := b_saved) (b_draft := b_draft) (b_who := b_who) (b_met := b_met) (b_stack := b_stack) (b_fresh := b_fresh) (b_deep := b_deep) (b_alike := b_alike) (b_meets := b_meets) (re_neg P hx) _ (br_t rfl ⟨rfl, R⟩)
  unfold wpX_root
  rcases lw_bz_01 v2 with z | z
  · rw [z]; exact br_t rfl (key 0 (Or.inl rfl))
  · rw [z]; exact br_f (by decide) (key 1 (Or.inr rfl))
end
section
theorem xi_177 {f_trials f_drafted f_pairs f_metCount f_meetingCount : Int32} {a_held a_saved a_draft a_toldBefore a_pairX a_pairY a_stack a_met a_metAs a_copies a_meetings a_wasMeeting a_firstMet a_depths a_isKept : Nat → Int32} : ∀ d j (a_held : Nat → Int32), j + d = 4 → (∀ i, a_held i = if 504 ≤ i ∧ i < 520 + j then -1 else 0) → ∃ a' : Nat → Int32, (∀ i, a' i = re_z i) ∧ ∀ post : SX → Prop, post (f_trials, f_drafted, f_pairs, f_metCount, f_meetingCount, a', a_saved, a_draft, a_toldBefore, a_pairX, a_pairY, a_stack, a_met, a_metAs, a_copies, a_meetings, a_wasMeeting, a_firstMet, a_depths, a_isKept) → wX_init_177 post f_trials f_drafted f_pairs f_metCount f_meetingCount (d + 1) (nI j) a_held a_saved a_draft a_toldBefore a_pairX a_pairY a_stack a_met a_metAs a_copies a_meetings a_wasMeeting a_firstMet a_depths a_isKept := by
  intro d
  induction d with
  | zero =>
    intro j a hj h
    refine ⟨a, fun i => ?_, fun post hp => ?_⟩
    · rw [h i, show j = 4 from by omega]; rfl
    · unfold wX_init_177
      simp (disch := omega) only [forall_eq, true_and, and_true, Nat.zero_add, nI_clamp, li_vin, nI_add, nI_eq, nI_leI, nI_ltI, li_0le, li_lt0, li_nn1, li_e0, not_true_eq_false, not_false_eq_true, false_implies, true_implies, forall_const, li_a0, li_b0, li_a1, li_b1, li_a2, li_b2, li_a3, li_b3, li_a7, li_b7, li_a8, li_b8, li_a16, li_b16, li_a48, li_b48, li_a584, li_b584, li_a572, li_b572, li_a96, li_b96, li_a144, li_b144, li_a192, li_b192, li_a240, li_b240, li_a336, li_b336, li_a384, li_b384, li_a432, li_b432, li_a480, li_b480, li_a488, li_b488, li_a496, li_b496, li_a504, li_b504, li_a512, li_b512, li_a520, li_b520, li_a524, li_b524, li_a528, li_b528, li_a536, li_b536, li_a544, li_b544, li_a552, li_b552, li_a560, li_b560, li_a568, li_b568, li_a573, li_b573, li_a585, li_b585, li_a633, li_b633, li_m3, li_n3, li_m4, li_n4, li_m48, li_n48, li_m50, li_n50, li_m585, li_n585, li_m633, li_n633, li_lt2, li_ge2, li_le2, li_gt2, li_lt1, li_ge1, li_le1, li_gt1, li_lt3, li_ge3, li_le3, li_gt3, li_lt4, li_ge4, li_le4, li_gt4, li_lt7, li_ge7, li_le7, li_gt7, li_lt8, li_ge8, li_le8, li_gt8, li_lt40, li_ge40, li_le40, li_gt40, li_lt240, li_ge240, li_le240, li_gt240, li_lt41, li_ge41, li_le41, li_gt41, li_lt48, li_ge48, li_le48, li_gt48, li_lt49, li_ge49, li_le49, li_gt49, li_lt60, li_ge60, li_le60, li_gt60, li_lt144, li_ge144, li_le144, li_gt144, li_lt145, li_ge145, li_le145, li_gt145, li_lt160, li_ge160, li_le160, li_gt160, li_lt336, li_ge336, li_le336, li_gt336, li_lt585, li_ge585, li_le585, li_gt585, li_lt633, li_ge633, li_le633, li_gt633, li_lt1000000, li_ge1000000, li_le1000000, li_gt1000000, li_lt2304, li_ge2304, li_le2304, li_gt2304, li_lt50, li_ge50, li_le50, li_gt50, li_le0, li_gt0]
      exact ⟨fun _ => hp, fun q => by omega⟩
  | succ d ih =>
    intro j a hj h
    obtain ⟨a', h1, h2⟩ := ih (j + 1) (upd a (520 + j) (-1)) (by omega) (by
      intro i
      by_cases q : i = 520 + j
      · rw [q, pk_us, if_pos (by omega)]
      · rw [pk_un q, h i]
        by_cases c : 504 ≤ i ∧ i < 520 + (j + 1)
        · rw [if_pos c, if_pos (by omega)]
        · rw [if_neg c, if_neg (by omega)])
    refine ⟨a', h1, fun post hp => ?_⟩
    unfold wX_init_177
    simp (disch := omega) only [forall_eq, true_and, and_true, Nat.zero_add, nI_clamp, li_vin, nI_add, nI_eq, nI_leI, nI_ltI, li_0le, li_lt0, li_nn1, li_e0, not_true_eq_false, not_false_eq_true, false_implies, true_implies, forall_const, li_a0, li_b0, li_a1, li_b1, li_a2, li_b2, li_a3, li_b3, li_a7, li_b7, li_a8, li_b8, li_a16, li_b16, li_a48, li_b48, li_a584, li_b584, li_a572, li_b572, li_a96, li_b96, li_a144, li_b144, li_a192, li_b192, li_a240, li_b240, li_a336, li_b336, li_a384, li_b384, li_a432, li_b432, li_a480, li_b480, li_a488, li_b488, li_a496, li_b496, li_a504, li_b504, li_a512, li_b512, li_a520, li_b520, li_a524, li_b524, li_a528, li_b528, li_a536, li_b536, li_a544, li_b544, li_a552, li_b552, li_a560, li_b560, li_a568, li_b568, li_a573, li_b573, li_a585, li_b585, li_a633, li_b633, li_m3, li_n3, li_m4, li_n4, li_m48, li_n48, li_m50, li_n50, li_m585, li_n585, li_m633, li_n633, li_lt2, li_ge2, li_le2, li_gt2, li_lt1, li_ge1, li_le1, li_gt1, li_lt3, li_ge3, li_le3, li_gt3, li_lt4, li_ge4, li_le4, li_gt4, li_lt7, li_ge7, li_le7, li_gt7, li_lt8, li_ge8, li_le8, li_gt8, li_lt40, li_ge40, li_le40, li_gt40, li_lt240, li_ge240, li_le240, li_gt240, li_lt41, li_ge41, li_le41, li_gt41, li_lt48, li_ge48, li_le48, li_gt48, li_lt49, li_ge49, li_le49, li_gt49, li_lt60, li_ge60, li_le60, li_gt60, li_lt144, li_ge144, li_le144, li_gt144, li_lt145, li_ge145, li_le145, li_gt145, li_lt160, li_ge160, li_le160, li_gt160, li_lt336, li_ge336, li_le336, li_gt336, li_lt585, li_ge585, li_le585, li_gt585, li_lt633, li_ge633, li_le633, li_gt633, li_lt1000000, li_ge1000000, li_le1000000, li_gt1000000, li_lt2304, li_ge2304, li_le2304, li_gt2304, li_lt50, li_ge50, li_le50, li_gt50, li_le0, li_gt0]
    exact ⟨fun q => by omega, fun _ => h2 post hp⟩
theorem xi_158 {f_trials f_drafted f_pairs f_metCount f_meetingCount : Int32} {a_held a_saved a_draft a_toldBefore a_pairX a_pairY a_stack a_met a_metAs a_copies a_meetings a_wasMeeting a_firstMet a_depths a_isKept : Nat → Int32} : ∀ d j (a_held : Nat → Int32), j + d = 8 → (∀ i, a_held i = if (504 ≤ i ∧ i < 504 + j) ∨ (512 ≤ i ∧ i < 512 + j) then -1 else 0) → ∃ a' : Nat → Int32, (∀ i, a' i = re_z i) ∧ ∀ post : SX → Prop, post (f_trials, f_drafted, f_pairs, f_metCount, f_meetingCount, a', a_saved, a_draft, a_toldBefore, a_pairX, a_pairY, a_stack, a_met, a_metAs, a_copies, a_meetings, a_wasMeeting, a_firstMet, a_depths, a_isKept) → wX_init_158 post (d + 1) (nI j) f_trials f_drafted f_pairs f_metCount f_meetingCount a_held a_saved a_draft a_toldBefore a_pairX a_pairY a_stack a_met a_metAs a_copies a_meetings a_wasMeeting a_firstMet a_depths a_isKept := by
  intro d
  induction d with
  | zero =>
    intro j a hj h
    obtain ⟨a', h1, h2⟩ := xi_177 (f_trials := f_trials) (f_drafted := f_drafted) (f_pairs := f_pairs) (f_metCount := f_metCount) (f_meetingCount := f_meetingCount) (a_held := a_held) (a_saved := a_saved) (a_draft := a_draft) (a_toldBefore := a_toldBefore) (a_pairX := a_pairX) (a_pairY := a_pairY) (a_stack := a_stack) (a_met := a_met) (a_metAs := a_metAs) (a_copies := a_copies) (a_meetings := a_meetings) (a_wasMeeting := a_wasMeeting) (a_firstMet := a_firstMet) (a_depths := a_depths) (a_isKept := a_isKept) 4 0 a rfl (by
      intro i
      rw [h i]
      by_cases c : 504 ≤ i ∧ i < 520 + 0
      · rw [if_pos c, if_pos (by omega)]
      · rw [if_neg c, if_neg (by omega)])
    refine ⟨a', h1, fun post hp => ?_⟩
    unfold wX_init_158
    simp (disch := omega) only [forall_eq, true_and, and_true, Nat.zero_add, nI_clamp, li_vin, nI_add, nI_eq, nI_leI, nI_ltI, li_0le, li_lt0, li_nn1, li_e0, not_true_eq_false, not_false_eq_true, false_implies, true_implies, forall_const, li_a0, li_b0, li_a1, li_b1, li_a2, li_b2, li_a3, li_b3, li_a7, li_b7, li_a8, li_b8, li_a16, li_b16, li_a48, li_b48, li_a584, li_b584, li_a572, li_b572, li_a96, li_b96, li_a144, li_b144, li_a192, li_b192, li_a240, li_b240, li_a336, li_b336, li_a384, li_b384, li_a432, li_b432, li_a480, li_b480, li_a488, li_b488, li_a496, li_b496, li_a504, li_b504, li_a512, li_b512, li_a520, li_b520, li_a524, li_b524, li_a528, li_b528, li_a536, li_b536, li_a544, li_b544, li_a552, li_b552, li_a560, li_b560, li_a568, li_b568, li_a573, li_b573, li_a585, li_b585, li_a633, li_b633, li_m3, li_n3, li_m4, li_n4, li_m48, li_n48, li_m50, li_n50, li_m585, li_n585, li_m633, li_n633, li_lt2, li_ge2, li_le2, li_gt2, li_lt1, li_ge1, li_le1, li_gt1, li_lt3, li_ge3, li_le3, li_gt3, li_lt4, li_ge4, li_le4, li_gt4, li_lt7, li_ge7, li_le7, li_gt7, li_lt8, li_ge8, li_le8, li_gt8, li_lt40, li_ge40, li_le40, li_gt40, li_lt240, li_ge240, li_le240, li_gt240, li_lt41, li_ge41, li_le41, li_gt41, li_lt48, li_ge48, li_le48, li_gt48, li_lt49, li_ge49, li_le49, li_gt49, li_lt60, li_ge60, li_le60, li_gt60, li_lt144, li_ge144, li_le144, li_gt144, li_lt145, li_ge145, li_le145, li_gt145, li_lt160, li_ge160, li_le160, li_gt160, li_lt336, li_ge336, li_le336, li_gt336, li_lt585, li_ge585, li_le585, li_gt585, li_lt633, li_ge633, li_le633, li_gt633, li_lt1000000, li_ge1000000, li_le1000000, li_gt1000000, li_lt2304, li_ge2304, li_le2304, li_gt2304, li_lt50, li_ge50, li_le50, li_gt50, li_le0, li_gt0]
    exact ⟨fun _ => ⟨_, h2 post hp⟩, fun q => by omega⟩
  | succ d ih =>
    intro j a hj h
    obtain ⟨a', h1, h2⟩ := ih (j + 1) (upd (upd a (504 + j) (-1)) (512 + j) (-1)) (by omega) (by
      intro i
      by_cases q : i = 512 + j
      · rw [q, pk_us, if_pos (by omega)]
      · rw [pk_un q]
        by_cases q2 : i = 504 + j
        · rw [q2, pk_us, if_pos (by omega)]
        · rw [pk_un q2, h i]
          by_cases c : (504 ≤ i ∧ i < 504 + (j + 1)) ∨ (512 ≤ i ∧ i < 512 + (j + 1))
          · rw [if_pos c, if_pos (by omega)]
          · rw [if_neg c, if_neg (by omega)])
    refine ⟨a', h1, fun post hp => ?_⟩
    rw [wX_init_158]
    dsimp only
    simp (disch := omega) only [forall_eq, true_and, and_true, Nat.zero_add, nI_clamp, li_vin, nI_add, nI_eq, nI_leI, nI_ltI, li_0le, li_lt0, li_nn1, li_e0, not_true_eq_false, not_false_eq_true, false_implies, true_implies, forall_const, li_a0, li_b0, li_a1, li_b1, li_a2, li_b2, li_a3, li_b3, li_a7, li_b7, li_a8, li_b8, li_a16, li_b16, li_a48, li_b48, li_a584, li_b584, li_a572, li_b572, li_a96, li_b96, li_a144, li_b144, li_a192, li_b192, li_a240, li_b240, li_a336, li_b336, li_a384, li_b384, li_a432, li_b432, li_a480, li_b480, li_a488, li_b488, li_a496, li_b496, li_a504, li_b504, li_a512, li_b512, li_a520, li_b520, li_a524, li_b524, li_a528, li_b528, li_a536, li_b536, li_a544, li_b544, li_a552, li_b552, li_a560, li_b560, li_a568, li_b568, li_a573, li_b573, li_a585, li_b585, li_a633, li_b633, li_m3, li_n3, li_m4, li_n4, li_m48, li_n48, li_m50, li_n50, li_m585, li_n585, li_m633, li_n633, li_lt2, li_ge2, li_le2, li_gt2, li_lt1, li_ge1, li_le1, li_gt1, li_lt3, li_ge3, li_le3, li_gt3, li_lt4, li_ge4, li_le4, li_gt4, li_lt7, li_ge7, li_le7, li_gt7, li_lt8, li_ge8, li_le8, li_gt8, li_lt40, li_ge40, li_le40, li_gt40, li_lt240, li_ge240, li_le240, li_gt240, li_lt41, li_ge41, li_le41, li_gt41, li_lt48, li_ge48, li_le48, li_gt48, li_lt49, li_ge49, li_le49, li_gt49, li_lt60, li_ge60, li_le60, li_gt60, li_lt144, li_ge144, li_le144, li_gt144, li_lt145, li_ge145, li_le145, li_gt145, li_lt160, li_ge160, li_le160, li_gt160, li_lt336, li_ge336, li_le336, li_gt336, li_lt585, li_ge585, li_le585, li_gt585, li_lt633, li_ge633, li_le633, li_gt633, li_lt1000000, li_ge1000000, li_le1000000, li_gt1000000, li_lt2304, li_ge2304, li_le2304, li_gt2304, li_lt50, li_ge50, li_le50, li_gt50, li_le0, li_gt0]
    exact ⟨fun q => by omega, fun _ => xw_removeTrigger (f_trials := f_trials) (f_drafted := f_drafted) (f_pairs := f_pairs) (f_metCount := f_metCount) (f_meetingCount := f_meetingCount) (a_held := a) (a_saved := a_saved) (a_draft := a_draft) (a_toldBefore := a_toldBefore) (a_pairX := a_pairX) (a_pairY := a_pairY) (a_stack := a_stack) (a_met := a_met) (a_metAs := a_metAs) (a_copies := a_copies) (a_meetings := a_meetings) (a_wasMeeting := a_wasMeeting) (a_firstMet := a_firstMet) (a_depths := a_depths) (a_isKept := a_isKept) (by omega) _ (h2 post hp)⟩
theorem yi_136 {g_trials g_drafted g_found : Int32} {b_s b_saved b_draft b_who b_met b_stack b_fresh b_deep : Nat → Int32} {b_alike b_meets : Nat → Int64} : ∀ d j (b_s : Nat → Int32), j + d = 4 → (∀ i, b_s i = if i < 48 then nI i else if (552 ≤ i ∧ i < 560) ∨ (568 ≤ i ∧ i < 568 + j) then -1 else 0) → ∃ s' : Nat → Int32, (∀ i, s' i = re_y i) ∧ ∀ post : SY → Prop, post (g_trials, g_drafted, g_found, s', b_saved, b_draft, b_who, b_met, b_stack, b_fresh, b_deep, b_alike, b_meets) → wY_init_136 post g_trials g_drafted g_found (d + 1) (nI j) b_s b_saved b_draft b_who b_met b_stack b_fresh b_deep b_alike b_meets := by
  intro d
  induction d with
  | zero =>
    intro j a hj h
    refine ⟨a, fun i => ?_, fun post hp => ?_⟩
    · rw [h i, show j = 4 from by omega]; rfl
    · unfold wY_init_136
      simp (disch := omega) only [forall_eq, true_and, and_true, Nat.zero_add, nI_clamp, li_vin, nI_add, nI_eq, nI_leI, nI_ltI, li_0le, li_lt0, li_nn1, li_e0, not_true_eq_false, not_false_eq_true, false_implies, true_implies, forall_const, li_a0, li_b0, li_a1, li_b1, li_a2, li_b2, li_a3, li_b3, li_a7, li_b7, li_a8, li_b8, li_a16, li_b16, li_a48, li_b48, li_a584, li_b584, li_a572, li_b572, li_a96, li_b96, li_a144, li_b144, li_a192, li_b192, li_a240, li_b240, li_a336, li_b336, li_a384, li_b384, li_a432, li_b432, li_a480, li_b480, li_a488, li_b488, li_a496, li_b496, li_a504, li_b504, li_a512, li_b512, li_a520, li_b520, li_a524, li_b524, li_a528, li_b528, li_a536, li_b536, li_a544, li_b544, li_a552, li_b552, li_a560, li_b560, li_a568, li_b568, li_a573, li_b573, li_a585, li_b585, li_a633, li_b633, li_m3, li_n3, li_m4, li_n4, li_m48, li_n48, li_m50, li_n50, li_m585, li_n585, li_m633, li_n633, li_lt2, li_ge2, li_le2, li_gt2, li_lt1, li_ge1, li_le1, li_gt1, li_lt3, li_ge3, li_le3, li_gt3, li_lt4, li_ge4, li_le4, li_gt4, li_lt7, li_ge7, li_le7, li_gt7, li_lt8, li_ge8, li_le8, li_gt8, li_lt40, li_ge40, li_le40, li_gt40, li_lt240, li_ge240, li_le240, li_gt240, li_lt41, li_ge41, li_le41, li_gt41, li_lt48, li_ge48, li_le48, li_gt48, li_lt49, li_ge49, li_le49, li_gt49, li_lt60, li_ge60, li_le60, li_gt60, li_lt144, li_ge144, li_le144, li_gt144, li_lt145, li_ge145, li_le145, li_gt145, li_lt160, li_ge160, li_le160, li_gt160, li_lt336, li_ge336, li_le336, li_gt336, li_lt585, li_ge585, li_le585, li_gt585, li_lt633, li_ge633, li_le633, li_gt633, li_lt1000000, li_ge1000000, li_le1000000, li_gt1000000, li_lt2304, li_ge2304, li_le2304, li_gt2304, li_lt50, li_ge50, li_le50, li_gt50, li_le0, li_gt0]
      exact ⟨fun _ => hp, fun q => by omega⟩
  | succ d ih =>
    intro j a hj h
    obtain ⟨a', h1, h2⟩ := ih (j + 1) (upd a (568 + j) (-1)) (by omega) (by
      intro i
      by_cases q : i = 568 + j
      · rw [q, pk_us, if_neg (by omega), if_pos (by omega)]
      · rw [pk_un q, h i]
        by_cases c : (552 ≤ i ∧ i < 560) ∨ (568 ≤ i ∧ i < 568 + (j + 1))
        · rw [if_pos c, if_pos (show (552 ≤ i ∧ i < 560) ∨ (568 ≤ i ∧ i < 568 + j) from by omega)]
        · rw [if_neg c, if_neg (show ¬ ((552 ≤ i ∧ i < 560) ∨ (568 ≤ i ∧ i < 568 + j)) from by omega)])
    refine ⟨a', h1, fun post hp => ?_⟩
    unfold wY_init_136
    simp (disch := omega) only [forall_eq, true_and, and_true, Nat.zero_add, nI_clamp, li_vin, nI_add, nI_eq, nI_leI, nI_ltI, li_0le, li_lt0, li_nn1, li_e0, not_true_eq_false, not_false_eq_true, false_implies, true_implies, forall_const, li_a0, li_b0, li_a1, li_b1, li_a2, li_b2, li_a3, li_b3, li_a7, li_b7, li_a8, li_b8, li_a16, li_b16, li_a48, li_b48, li_a584, li_b584, li_a572, li_b572, li_a96, li_b96, li_a144, li_b144, li_a192, li_b192, li_a240, li_b240, li_a336, li_b336, li_a384, li_b384, li_a432, li_b432, li_a480, li_b480, li_a488, li_b488, li_a496, li_b496, li_a504, li_b504, li_a512, li_b512, li_a520, li_b520, li_a524, li_b524, li_a528, li_b528, li_a536, li_b536, li_a544, li_b544, li_a552, li_b552, li_a560, li_b560, li_a568, li_b568, li_a573, li_b573, li_a585, li_b585, li_a633, li_b633, li_m3, li_n3, li_m4, li_n4, li_m48, li_n48, li_m50, li_n50, li_m585, li_n585, li_m633, li_n633, li_lt2, li_ge2, li_le2, li_gt2, li_lt1, li_ge1, li_le1, li_gt1, li_lt3, li_ge3, li_le3, li_gt3, li_lt4, li_ge4, li_le4, li_gt4, li_lt7, li_ge7, li_le7, li_gt7, li_lt8, li_ge8, li_le8, li_gt8, li_lt40, li_ge40, li_le40, li_gt40, li_lt240, li_ge240, li_le240, li_gt240, li_lt41, li_ge41, li_le41, li_gt41, li_lt48, li_ge48, li_le48, li_gt48, li_lt49, li_ge49, li_le49, li_gt49, li_lt60, li_ge60, li_le60, li_gt60, li_lt144, li_ge144, li_le144, li_gt144, li_lt145, li_ge145, li_le145, li_gt145, li_lt160, li_ge160, li_le160, li_gt160, li_lt336, li_ge336, li_le336, li_gt336, li_lt585, li_ge585, li_le585, li_gt585, li_lt633, li_ge633, li_le633, li_gt633, li_lt1000000, li_ge1000000, li_le1000000, li_gt1000000, li_lt2304, li_ge2304, li_le2304, li_gt2304, li_lt50, li_ge50, li_le50, li_gt50, li_le0, li_gt0]
    exact ⟨fun q => by omega, fun _ => h2 post hp⟩
theorem yi_111 {g_trials g_drafted g_found : Int32} {b_s b_saved b_draft b_who b_met b_stack b_fresh b_deep : Nat → Int32} {b_alike b_meets : Nat → Int64} : ∀ d j (b_s : Nat → Int32), j + d = 8 → (∀ i, b_s i = if i < 48 then nI i else if 552 ≤ i ∧ i < 552 + j then -1 else 0) → ∃ s' : Nat → Int32, (∀ i, s' i = re_y i) ∧ ∀ post : SY → Prop, post (g_trials, g_drafted, g_found, s', b_saved, b_draft, b_who, b_met, b_stack, b_fresh, b_deep, b_alike, b_meets) → wY_init_111 post g_trials g_drafted g_found (d + 1) (nI j) b_s b_saved b_draft b_who b_met b_stack b_fresh b_deep b_alike b_meets := by
  intro d
  induction d with
  | zero =>
    intro j a hj h
    obtain ⟨a', h1, h2⟩ := yi_136 (g_trials := g_trials) (g_drafted := g_drafted) (g_found := g_found) (b_s := b_s) (b_saved := b_saved) (b_draft := b_draft) (b_who := b_who) (b_met := b_met) (b_stack := b_stack) (b_fresh := b_fresh) (b_deep := b_deep) (b_alike := b_alike) (b_meets := b_meets) 4 0 a rfl (by
      intro i
      rw [h i]
      by_cases c : (552 ≤ i ∧ i < 560) ∨ (568 ≤ i ∧ i < 568 + 0)
      · rw [if_pos c, if_pos (show 552 ≤ i ∧ i < 552 + j from by omega)]
      · rw [if_neg c, if_neg (show ¬ (552 ≤ i ∧ i < 552 + j) from by omega)])
    refine ⟨a', h1, fun post hp => ?_⟩
    unfold wY_init_111
    simp (disch := omega) only [forall_eq, true_and, and_true, Nat.zero_add, nI_clamp, li_vin, nI_add, nI_eq, nI_leI, nI_ltI, li_0le, li_lt0, li_nn1, li_e0, not_true_eq_false, not_false_eq_true, false_implies, true_implies, forall_const, li_a0, li_b0, li_a1, li_b1, li_a2, li_b2, li_a3, li_b3, li_a7, li_b7, li_a8, li_b8, li_a16, li_b16, li_a48, li_b48, li_a584, li_b584, li_a572, li_b572, li_a96, li_b96, li_a144, li_b144, li_a192, li_b192, li_a240, li_b240, li_a336, li_b336, li_a384, li_b384, li_a432, li_b432, li_a480, li_b480, li_a488, li_b488, li_a496, li_b496, li_a504, li_b504, li_a512, li_b512, li_a520, li_b520, li_a524, li_b524, li_a528, li_b528, li_a536, li_b536, li_a544, li_b544, li_a552, li_b552, li_a560, li_b560, li_a568, li_b568, li_a573, li_b573, li_a585, li_b585, li_a633, li_b633, li_m3, li_n3, li_m4, li_n4, li_m48, li_n48, li_m50, li_n50, li_m585, li_n585, li_m633, li_n633, li_lt2, li_ge2, li_le2, li_gt2, li_lt1, li_ge1, li_le1, li_gt1, li_lt3, li_ge3, li_le3, li_gt3, li_lt4, li_ge4, li_le4, li_gt4, li_lt7, li_ge7, li_le7, li_gt7, li_lt8, li_ge8, li_le8, li_gt8, li_lt40, li_ge40, li_le40, li_gt40, li_lt240, li_ge240, li_le240, li_gt240, li_lt41, li_ge41, li_le41, li_gt41, li_lt48, li_ge48, li_le48, li_gt48, li_lt49, li_ge49, li_le49, li_gt49, li_lt60, li_ge60, li_le60, li_gt60, li_lt144, li_ge144, li_le144, li_gt144, li_lt145, li_ge145, li_le145, li_gt145, li_lt160, li_ge160, li_le160, li_gt160, li_lt336, li_ge336, li_le336, li_gt336, li_lt585, li_ge585, li_le585, li_gt585, li_lt633, li_ge633, li_le633, li_gt633, li_lt1000000, li_ge1000000, li_le1000000, li_gt1000000, li_lt2304, li_ge2304, li_le2304, li_gt2304, li_lt50, li_ge50, li_le50, li_gt50, li_le0, li_gt0]
    exact ⟨fun _ => ⟨_, h2 post hp⟩, fun q => by omega⟩
  | succ d ih =>
    intro j a hj h
    obtain ⟨a', h1, h2⟩ := ih (j + 1) (upd a (552 + j) (-1)) (by omega) (by
      intro i
      by_cases q : i = 552 + j
      · rw [q, pk_us, if_neg (by omega), if_pos (by omega)]
      · rw [pk_un q, h i]
        by_cases c : 552 ≤ i ∧ i < 552 + (j + 1)
        · rw [if_pos c, if_pos (show 552 ≤ i ∧ i < 552 + j from by omega)]
        · rw [if_neg c, if_neg (show ¬ (552 ≤ i ∧ i < 552 + j) from by omega)])
    refine ⟨a', h1, fun post hp => ?_⟩
    unfold wY_init_111
    simp (disch := omega) only [forall_eq, true_and, and_true, Nat.zero_add, nI_clamp, li_vin, nI_add, nI_eq, nI_leI, nI_ltI, li_0le, li_lt0, li_nn1, li_e0, not_true_eq_false, not_false_eq_true, false_implies, true_implies, forall_const, li_a0, li_b0, li_a1, li_b1, li_a2, li_b2, li_a3, li_b3, li_a7, li_b7, li_a8, li_b8, li_a16, li_b16, li_a48, li_b48, li_a584, li_b584, li_a572, li_b572, li_a96, li_b96, li_a144, li_b144, li_a192, li_b192, li_a240, li_b240, li_a336, li_b336, li_a384, li_b384, li_a432, li_b432, li_a480, li_b480, li_a488, li_b488, li_a496, li_b496, li_a504, li_b504, li_a512, li_b512, li_a520, li_b520, li_a524, li_b524, li_a528, li_b528, li_a536, li_b536, li_a544, li_b544, li_a552, li_b552, li_a560, li_b560, li_a568, li_b568, li_a573, li_b573, li_a585, li_b585, li_a633, li_b633, li_m3, li_n3, li_m4, li_n4, li_m48, li_n48, li_m50, li_n50, li_m585, li_n585, li_m633, li_n633, li_lt2, li_ge2, li_le2, li_gt2, li_lt1, li_ge1, li_le1, li_gt1, li_lt3, li_ge3, li_le3, li_gt3, li_lt4, li_ge4, li_le4, li_gt4, li_lt7, li_ge7, li_le7, li_gt7, li_lt8, li_ge8, li_le8, li_gt8, li_lt40, li_ge40, li_le40, li_gt40, li_lt240, li_ge240, li_le240, li_gt240, li_lt41, li_ge41, li_le41, li_gt41, li_lt48, li_ge48, li_le48, li_gt48, li_lt49, li_ge49, li_le49, li_gt49, li_lt60, li_ge60, li_le60, li_gt60, li_lt144, li_ge144, li_le144, li_gt144, li_lt145, li_ge145, li_le145, li_gt145, li_lt160, li_ge160, li_le160, li_gt160, li_lt336, li_ge336, li_le336, li_gt336, li_lt585, li_ge585, li_le585, li_gt585, li_lt633, li_ge633, li_le633, li_gt633, li_lt1000000, li_ge1000000, li_le1000000, li_gt1000000, li_lt2304, li_ge2304, li_le2304, li_gt2304, li_lt50, li_ge50, li_le50, li_gt50, li_le0, li_gt0]
    exact ⟨fun q => by omega, fun _ => h2 post hp⟩
theorem yi_88 {g_trials g_drafted g_found : Int32} {b_s b_saved b_draft b_who b_met b_stack b_fresh b_deep : Nat → Int32} {b_alike b_meets : Nat → Int64} : ∀ d j (b_s : Nat → Int32), j + d = 48 → (∀ i, b_s i = if i < j then nI i else 0) → ∃ s' : Nat → Int32, (∀ i, s' i = re_y i) ∧ ∀ post : SY → Prop, post (g_trials, g_drafted, g_found, s', b_saved, b_draft, b_who, b_met, b_stack, b_fresh, b_deep, b_alike, b_meets) → wY_init_88 post g_trials g_drafted g_found (d + 1) (nI j) b_s b_saved b_draft b_who b_met b_stack b_fresh b_deep b_alike b_meets := by
  intro d
  induction d with
  | zero =>
    intro j a hj h
    obtain ⟨a', h1, h2⟩ := yi_111 (g_trials := g_trials) (g_drafted := g_drafted) (g_found := g_found) (b_s := b_s) (b_saved := b_saved) (b_draft := b_draft) (b_who := b_who) (b_met := b_met) (b_stack := b_stack) (b_fresh := b_fresh) (b_deep := b_deep) (b_alike := b_alike) (b_meets := b_meets) 8 0 a rfl (by
      intro i
      rw [h i, show j = 48 from by omega]
      by_cases c : i < 48
      · rw [if_pos c, if_pos c]
      · rw [if_neg c, if_neg c, if_neg (by omega)])
    refine ⟨a', h1, fun post hp => ?_⟩
    unfold wY_init_88
    simp (disch := omega) only [forall_eq, true_and, and_true, Nat.zero_add, nI_clamp, li_vin, nI_add, nI_eq, nI_leI, nI_ltI, li_0le, li_lt0, li_nn1, li_e0, not_true_eq_false, not_false_eq_true, false_implies, true_implies, forall_const, li_a0, li_b0, li_a1, li_b1, li_a2, li_b2, li_a3, li_b3, li_a7, li_b7, li_a8, li_b8, li_a16, li_b16, li_a48, li_b48, li_a584, li_b584, li_a572, li_b572, li_a96, li_b96, li_a144, li_b144, li_a192, li_b192, li_a240, li_b240, li_a336, li_b336, li_a384, li_b384, li_a432, li_b432, li_a480, li_b480, li_a488, li_b488, li_a496, li_b496, li_a504, li_b504, li_a512, li_b512, li_a520, li_b520, li_a524, li_b524, li_a528, li_b528, li_a536, li_b536, li_a544, li_b544, li_a552, li_b552, li_a560, li_b560, li_a568, li_b568, li_a573, li_b573, li_a585, li_b585, li_a633, li_b633, li_m3, li_n3, li_m4, li_n4, li_m48, li_n48, li_m50, li_n50, li_m585, li_n585, li_m633, li_n633, li_lt2, li_ge2, li_le2, li_gt2, li_lt1, li_ge1, li_le1, li_gt1, li_lt3, li_ge3, li_le3, li_gt3, li_lt4, li_ge4, li_le4, li_gt4, li_lt7, li_ge7, li_le7, li_gt7, li_lt8, li_ge8, li_le8, li_gt8, li_lt40, li_ge40, li_le40, li_gt40, li_lt240, li_ge240, li_le240, li_gt240, li_lt41, li_ge41, li_le41, li_gt41, li_lt48, li_ge48, li_le48, li_gt48, li_lt49, li_ge49, li_le49, li_gt49, li_lt60, li_ge60, li_le60, li_gt60, li_lt144, li_ge144, li_le144, li_gt144, li_lt145, li_ge145, li_le145, li_gt145, li_lt160, li_ge160, li_le160, li_gt160, li_lt336, li_ge336, li_le336, li_gt336, li_lt585, li_ge585, li_le585, li_gt585, li_lt633, li_ge633, li_le633, li_gt633, li_lt1000000, li_ge1000000, li_le1000000, li_gt1000000, li_lt2304, li_ge2304, li_le2304, li_gt2304, li_lt50, li_ge50, li_le50, li_gt50, li_le0, li_gt0]
    exact ⟨fun _ => ⟨_, h2 post hp⟩, fun q => by omega⟩
  | succ d ih =>
    intro j a hj h
    obtain ⟨a', h1, h2⟩ := ih (j + 1) (upd a j (nI j)) (by omega) (by
      intro i
      by_cases q : i = j
      · rw [q, pk_us, if_pos (by omega)]
      · rw [pk_un q, h i]
        by_cases c : i < j + 1
        · rw [if_pos c, if_pos (by omega)]
        · rw [if_neg c, if_neg (by omega)])
    refine ⟨a', h1, fun post hp => ?_⟩
    unfold wY_init_88
    simp (disch := omega) only [forall_eq, true_and, and_true, Nat.zero_add, nI_clamp, li_vin, nI_add, nI_eq, nI_leI, nI_ltI, li_0le, li_lt0, li_nn1, li_e0, not_true_eq_false, not_false_eq_true, false_implies, true_implies, forall_const, li_a0, li_b0, li_a1, li_b1, li_a2, li_b2, li_a3, li_b3, li_a7, li_b7, li_a8, li_b8, li_a16, li_b16, li_a48, li_b48, li_a584, li_b584, li_a572, li_b572, li_a96, li_b96, li_a144, li_b144, li_a192, li_b192, li_a240, li_b240, li_a336, li_b336, li_a384, li_b384, li_a432, li_b432, li_a480, li_b480, li_a488, li_b488, li_a496, li_b496, li_a504, li_b504, li_a512, li_b512, li_a520, li_b520, li_a524, li_b524, li_a528, li_b528, li_a536, li_b536, li_a544, li_b544, li_a552, li_b552, li_a560, li_b560, li_a568, li_b568, li_a573, li_b573, li_a585, li_b585, li_a633, li_b633, li_m3, li_n3, li_m4, li_n4, li_m48, li_n48, li_m50, li_n50, li_m585, li_n585, li_m633, li_n633, li_lt2, li_ge2, li_le2, li_gt2, li_lt1, li_ge1, li_le1, li_gt1, li_lt3, li_ge3, li_le3, li_gt3, li_lt4, li_ge4, li_le4, li_gt4, li_lt7, li_ge7, li_le7, li_gt7, li_lt8, li_ge8, li_le8, li_gt8, li_lt40, li_ge40, li_le40, li_gt40, li_lt240, li_ge240, li_le240, li_gt240, li_lt41, li_ge41, li_le41, li_gt41, li_lt48, li_ge48, li_le48, li_gt48, li_lt49, li_ge49, li_le49, li_gt49, li_lt60, li_ge60, li_le60, li_gt60, li_lt144, li_ge144, li_le144, li_gt144, li_lt145, li_ge145, li_le145, li_gt145, li_lt160, li_ge160, li_le160, li_gt160, li_lt336, li_ge336, li_le336, li_gt336, li_lt585, li_ge585, li_le585, li_gt585, li_lt633, li_ge633, li_le633, li_gt633, li_lt1000000, li_ge1000000, li_le1000000, li_gt1000000, li_lt2304, li_ge2304, li_le2304, li_gt2304, li_lt50, li_ge50, li_le50, li_gt50, li_le0, li_gt0]
    exact ⟨fun q => by omega, fun _ => h2 post hp⟩
theorem i_vc0 : wpX_init (fun u => wpY_init (fun v => i_Rel 0 u v)) := by
  obtain ⟨a', h1, h2⟩ := xi_158 (f_trials := 0) (f_drafted := 0) (f_pairs := 0) (f_metCount := 0) (f_meetingCount := 0) (a_held := fun _ => 0) (a_saved := fun _ => 0) (a_draft := fun _ => 0) (a_toldBefore := fun _ => 0) (a_pairX := fun _ => 0) (a_pairY := fun _ => 0) (a_stack := fun _ => 0) (a_met := fun _ => 0) (a_metAs := fun _ => 0) (a_copies := fun _ => 0) (a_meetings := fun _ => 0) (a_wasMeeting := fun _ => 0) (a_firstMet := fun _ => 0) (a_depths := fun _ => 0) (a_isKept := fun _ => 0) 8 0 (fun _ => 0) rfl (fun i => by rw [if_neg (by omega)])
  obtain ⟨s', g1, g2⟩ := yi_88 (g_trials := 0) (g_drafted := 0) (g_found := 0) (b_s := fun _ => 0) (b_saved := fun _ => 0) (b_draft := fun _ => 0) (b_who := fun _ => 0) (b_met := fun _ => 0) (b_stack := fun _ => 0) (b_fresh := fun _ => 0) (b_deep := fun _ => 0) (b_alike := fun _ => 0) (b_meets := fun _ => 0) 48 0 (fun _ => 0) rfl (fun i => by rw [if_neg (by omega)])
  refine ⟨_, h2 _ ⟨_, g2 _ ?_⟩⟩
  refine ⟨0, 0, by omega, by omega, rfl, rfl, rfl, rfl, fun i hi => ⟨rfl, 0, by omega, rfl⟩, ?_, fun j hj => by omega⟩
  exact re_C_congr (fun i _ => h1 i) (fun i _ => g1 i) re_C_0
theorem xb_21 {f_trials f_drafted f_pairs f_metCount f_meetingCount : Int32} {a_held a_saved a_draft a_toldBefore a_pairX a_pairY a_stack a_met a_metAs a_copies a_meetings a_wasMeeting a_firstMet a_depths a_isKept : Nat → Int32} {b : Nat} (hb : b ≤ 1170) : ∀ d j (a_saved : Nat → Int32), j + d = 585 → ∃ sv : Nat → Int32, (∀ i, j ≤ i → i < 585 → sv (b + i) = a_held i) ∧ (∀ i, (i < b + j ∨ b + 585 ≤ i) → sv i = a_saved i) ∧ ∀ post : Int32 → SX → Prop, post (f_trials + 1) (f_trials + 1, f_drafted, f_pairs, f_metCount, f_meetingCount, a_held, sv, a_draft, a_toldBefore, a_pairX, a_pairY, a_stack, a_met, a_metAs, a_copies, a_meetings, a_wasMeeting, a_firstMet, a_depths, a_isKept) → wX_begin_21 post (nI b) f_trials f_drafted f_pairs f_metCount f_meetingCount (d + 1) (nI j) a_held a_saved a_draft a_toldBefore a_pairX a_pairY a_stack a_met a_metAs a_copies a_meetings a_wasMeeting a_firstMet a_depths a_isKept := by
  intro d
  induction d with
  | zero =>
    intro j sv hj
    refine ⟨sv, fun i h1 h2 => by omega, fun _ _ => rfl, fun post hp => ?_⟩
    unfold wX_begin_21
    simp (disch := omega) only [forall_eq, true_and, and_true, Nat.zero_add, nI_clamp, li_vin, nI_add, nI_eq, nI_leI, nI_ltI, li_0le, li_lt0, li_nn1, li_e0, not_true_eq_false, not_false_eq_true, false_implies, true_implies, forall_const, li_a0, li_b0, li_a1, li_b1, li_a2, li_b2, li_a3, li_b3, li_a7, li_b7, li_a8, li_b8, li_a16, li_b16, li_a48, li_b48, li_a584, li_b584, li_a572, li_b572, li_a96, li_b96, li_a144, li_b144, li_a192, li_b192, li_a240, li_b240, li_a336, li_b336, li_a384, li_b384, li_a432, li_b432, li_a480, li_b480, li_a488, li_b488, li_a496, li_b496, li_a504, li_b504, li_a512, li_b512, li_a520, li_b520, li_a524, li_b524, li_a528, li_b528, li_a536, li_b536, li_a544, li_b544, li_a552, li_b552, li_a560, li_b560, li_a568, li_b568, li_a573, li_b573, li_a585, li_b585, li_a633, li_b633, li_m3, li_n3, li_m4, li_n4, li_m48, li_n48, li_m50, li_n50, li_m585, li_n585, li_m633, li_n633, li_lt2, li_ge2, li_le2, li_gt2, li_lt1, li_ge1, li_le1, li_gt1, li_lt3, li_ge3, li_le3, li_gt3, li_lt4, li_ge4, li_le4, li_gt4, li_lt7, li_ge7, li_le7, li_gt7, li_lt8, li_ge8, li_le8, li_gt8, li_lt40, li_ge40, li_le40, li_gt40, li_lt240, li_ge240, li_le240, li_gt240, li_lt41, li_ge41, li_le41, li_gt41, li_lt48, li_ge48, li_le48, li_gt48, li_lt49, li_ge49, li_le49, li_gt49, li_lt60, li_ge60, li_le60, li_gt60, li_lt144, li_ge144, li_le144, li_gt144, li_lt145, li_ge145, li_le145, li_gt145, li_lt160, li_ge160, li_le160, li_gt160, li_lt336, li_ge336, li_le336, li_gt336, li_lt585, li_ge585, li_le585, li_gt585, li_lt633, li_ge633, li_le633, li_gt633, li_lt1000000, li_ge1000000, li_le1000000, li_gt1000000, li_lt2304, li_ge2304, li_le2304, li_gt2304, li_lt50, li_ge50, li_le50, li_gt50, li_le0, li_gt0]
    exact ⟨fun _ => hp, fun q => by omega⟩
  | succ d ih =>
    intro j sv hj
    obtain ⟨sv', h1, h2, h3⟩ := ih (j + 1) (upd sv (b + j) (a_held j)) (by omega)
    refine ⟨sv', ?_, ?_, fun post hp => ?_⟩
    · intro i g1 g2
      by_cases q : i = j
      · rw [q, h2 _ (by omega), pk_us]
      · exact h1 i (by omega) g2
    · intro i hi
      rw [h2 i (by omega), pk_un (by omega)]
    · unfold wX_begin_21
      simp (disch := omega) only [forall_eq, true_and, and_true, Nat.zero_add, nI_clamp, li_vin, nI_add, nI_eq, nI_leI, nI_ltI, li_0le, li_lt0, li_nn1, li_e0, not_true_eq_false, not_false_eq_true, false_implies, true_implies, forall_const, li_a0, li_b0, li_a1, li_b1, li_a2, li_b2, li_a3, li_b3, li_a7, li_b7, li_a8, li_b8, li_a16, li_b16, li_a48, li_b48, li_a584, li_b584, li_a572, li_b572, li_a96, li_b96, li_a144, li_b144, li_a192, li_b192, li_a240, li_b240, li_a336, li_b336, li_a384, li_b384, li_a432, li_b432, li_a480, li_b480, li_a488, li_b488, li_a496, li_b496, li_a504, li_b504, li_a512, li_b512, li_a520, li_b520, li_a524, li_b524, li_a528, li_b528, li_a536, li_b536, li_a544, li_b544, li_a552, li_b552, li_a560, li_b560, li_a568, li_b568, li_a573, li_b573, li_a585, li_b585, li_a633, li_b633, li_m3, li_n3, li_m4, li_n4, li_m48, li_n48, li_m50, li_n50, li_m585, li_n585, li_m633, li_n633, li_lt2, li_ge2, li_le2, li_gt2, li_lt1, li_ge1, li_le1, li_gt1, li_lt3, li_ge3, li_le3, li_gt3, li_lt4, li_ge4, li_le4, li_gt4, li_lt7, li_ge7, li_le7, li_gt7, li_lt8, li_ge8, li_le8, li_gt8, li_lt40, li_ge40, li_le40, li_gt40, li_lt240, li_ge240, li_le240, li_gt240, li_lt41, li_ge41, li_le41, li_gt41, li_lt48, li_ge48, li_le48, li_gt48, li_lt49, li_ge49, li_le49, li_gt49, li_lt60, li_ge60, li_le60, li_gt60, li_lt144, li_ge144, li_le144, li_gt144, li_lt145, li_ge145, li_le145, li_gt145, li_lt160, li_ge160, li_le160, li_gt160, li_lt336, li_ge336, li_le336, li_gt336, li_lt585, li_ge585, li_le585, li_gt585, li_lt633, li_ge633, li_le633, li_gt633, li_lt1000000, li_ge1000000, li_le1000000, li_gt1000000, li_lt2304, li_ge2304, li_le2304, li_gt2304, li_lt50, li_ge50, li_le50, li_gt50, li_le0, li_gt0]
      exact ⟨fun q => by omega, fun _ => h3 post hp⟩
theorem yb_12 {g_trials g_drafted g_found : Int32} {b_s b_saved b_draft b_who b_met b_stack b_fresh b_deep : Nat → Int32} {b_alike b_meets : Nat → Int64} {t : Nat} (ht : t ≤ 2) (e : g_trials = nI t) : ∀ d j (b_saved : Nat → Int32), j + d = 633 → ∃ sv : Nat → Int32, (∀ i, j ≤ i → i < 633 → sv (633 * t + i) = b_s i) ∧ (∀ i, (i < 633 * t + j ∨ 633 * t + 633 ≤ i) → sv i = b_saved i) ∧ ∀ post : Int32 → SY → Prop, post (nI (t + 1)) (nI (t + 1), g_drafted, g_found, b_s, sv, b_draft, b_who, b_met, b_stack, b_fresh, b_deep, b_alike, b_meets) → wY_begin_12 post g_trials g_drafted g_found (d + 1) (nI j) b_s b_saved b_draft b_who b_met b_stack b_fresh b_deep b_alike b_meets := by
  intro d
  induction d with
  | zero =>
    intro j sv hj
    refine ⟨sv, fun i h1 h2 => by omega, fun _ _ => rfl, fun post hp => ?_⟩
    unfold wY_begin_12
    simp (disch := omega) only [forall_eq, true_and, and_true, Nat.zero_add, nI_clamp, li_vin, nI_add, nI_eq, nI_leI, nI_ltI, li_0le, li_lt0, li_nn1, li_e0, not_true_eq_false, not_false_eq_true, false_implies, true_implies, forall_const, li_a0, li_b0, li_a1, li_b1, li_a2, li_b2, li_a3, li_b3, li_a7, li_b7, li_a8, li_b8, li_a16, li_b16, li_a48, li_b48, li_a584, li_b584, li_a572, li_b572, li_a96, li_b96, li_a144, li_b144, li_a192, li_b192, li_a240, li_b240, li_a336, li_b336, li_a384, li_b384, li_a432, li_b432, li_a480, li_b480, li_a488, li_b488, li_a496, li_b496, li_a504, li_b504, li_a512, li_b512, li_a520, li_b520, li_a524, li_b524, li_a528, li_b528, li_a536, li_b536, li_a544, li_b544, li_a552, li_b552, li_a560, li_b560, li_a568, li_b568, li_a573, li_b573, li_a585, li_b585, li_a633, li_b633, li_m3, li_n3, li_m4, li_n4, li_m48, li_n48, li_m50, li_n50, li_m585, li_n585, li_m633, li_n633, li_lt2, li_ge2, li_le2, li_gt2, li_lt1, li_ge1, li_le1, li_gt1, li_lt3, li_ge3, li_le3, li_gt3, li_lt4, li_ge4, li_le4, li_gt4, li_lt7, li_ge7, li_le7, li_gt7, li_lt8, li_ge8, li_le8, li_gt8, li_lt40, li_ge40, li_le40, li_gt40, li_lt240, li_ge240, li_le240, li_gt240, li_lt41, li_ge41, li_le41, li_gt41, li_lt48, li_ge48, li_le48, li_gt48, li_lt49, li_ge49, li_le49, li_gt49, li_lt60, li_ge60, li_le60, li_gt60, li_lt144, li_ge144, li_le144, li_gt144, li_lt145, li_ge145, li_le145, li_gt145, li_lt160, li_ge160, li_le160, li_gt160, li_lt336, li_ge336, li_le336, li_gt336, li_lt585, li_ge585, li_le585, li_gt585, li_lt633, li_ge633, li_le633, li_gt633, li_lt1000000, li_ge1000000, li_le1000000, li_gt1000000, li_lt2304, li_ge2304, li_le2304, li_gt2304, li_lt50, li_ge50, li_le50, li_gt50, li_le0, li_gt0, e]
    exact ⟨fun _ => hp, fun q => by omega⟩
  | succ d ih =>
    intro j sv hj
    obtain ⟨sv', h1, h2, h3⟩ := ih (j + 1) (upd sv (633 * t + j) (b_s j)) (by omega)
    refine ⟨sv', ?_, ?_, fun post hp => ?_⟩
    · intro i g1 g2
      by_cases q : i = j
      · rw [q, h2 _ (by omega), pk_us]
      · exact h1 i (by omega) g2
    · intro i hi
      rw [h2 i (by omega), pk_un (by omega)]
    · have h3' := h3 post hp
      rw [e] at h3'
      unfold wY_begin_12
      simp (disch := omega) only [forall_eq, true_and, and_true, Nat.zero_add, nI_clamp, li_vin, nI_add, nI_eq, nI_leI, nI_ltI, li_0le, li_lt0, li_nn1, li_e0, not_true_eq_false, not_false_eq_true, false_implies, true_implies, forall_const, li_a0, li_b0, li_a1, li_b1, li_a2, li_b2, li_a3, li_b3, li_a7, li_b7, li_a8, li_b8, li_a16, li_b16, li_a48, li_b48, li_a584, li_b584, li_a572, li_b572, li_a96, li_b96, li_a144, li_b144, li_a192, li_b192, li_a240, li_b240, li_a336, li_b336, li_a384, li_b384, li_a432, li_b432, li_a480, li_b480, li_a488, li_b488, li_a496, li_b496, li_a504, li_b504, li_a512, li_b512, li_a520, li_b520, li_a524, li_b524, li_a528, li_b528, li_a536, li_b536, li_a544, li_b544, li_a552, li_b552, li_a560, li_b560, li_a568, li_b568, li_a573, li_b573, li_a585, li_b585, li_a633, li_b633, li_m3, li_n3, li_m4, li_n4, li_m48, li_n48, li_m50, li_n50, li_m585, li_n585, li_m633, li_n633, li_lt2, li_ge2, li_le2, li_gt2, li_lt1, li_ge1, li_le1, li_gt1, li_lt3, li_ge3, li_le3, li_gt3, li_lt4, li_ge4, li_le4, li_gt4, li_lt7, li_ge7, li_le7, li_gt7, li_lt8, li_ge8, li_le8, li_gt8, li_lt40, li_ge40, li_le40, li_gt40, li_lt240, li_ge240, li_le240, li_gt240, li_lt41, li_ge41, li_le41, li_gt41, li_lt48, li_ge48, li_le48, li_gt48, li_lt49, li_ge49, li_le49, li_gt49, li_lt60, li_ge60, li_le60, li_gt60, li_lt144, li_ge144, li_le144, li_gt144, li_lt145, li_ge145, li_le145, li_gt145, li_lt160, li_ge160, li_le160, li_gt160, li_lt336, li_ge336, li_le336, li_gt336, li_lt585, li_ge585, li_le585, li_gt585, li_lt633, li_ge633, li_le633, li_gt633, li_lt1000000, li_ge1000000, li_le1000000, li_gt1000000, li_lt2304, li_ge2304, li_le2304, li_gt2304, li_lt50, li_ge50, li_le50, li_gt50, li_le0, li_gt0, e]
      exact ⟨fun q => by omega, fun _ => h3'⟩
theorem i_vc_begin {k : Nat} {u : SX} {v : SY} (I : i_Rel k u v) (hk : k + 4 ≤ 2048) : wpX_begin (fun r u' => wpY_begin (fun r' v' => r' = r ∧ i_Rel (k + 4) u' v') v) u := by
  obtain ⟨f_trials, f_drafted, f_pairs, f_metCount, f_meetingCount, a_held, a_saved, a_draft, a_toldBefore, a_pairX, a_pairY, a_stack, a_met, a_metAs, a_copies, a_meetings, a_wasMeeting, a_firstMet, a_depths, a_isKept⟩ := u
  obtain ⟨g_trials, g_drafted, g_found, b_s, b_saved, b_draft, b_who, b_met, b_stack, b_fresh, b_deep, b_alike, b_meets⟩ := v
  have R := re_A_up (k := k) (k' := k + 4) (by omega) I
  obtain ⟨t, d, t3, d3, eT, eT', eD, eD', hDr, hC, hS⟩ := id I
  unfold wpX_begin
  by_cases h3 : t = 3
  · refine br_f (by rw [eT, h3]; decide) ?_
    unfold wpY_begin
    exact br_t (by rw [eT', h3]; rfl) ⟨rfl, R⟩
  · obtain ⟨sv, x1, x2, x3⟩ := xb_21 (f_trials := f_trials) (f_drafted := f_drafted) (f_pairs := f_pairs) (f_metCount := f_metCount) (f_meetingCount := f_meetingCount) (a_held := a_held) (a_saved := a_saved) (a_draft := a_draft) (a_toldBefore := a_toldBefore) (a_pairX := a_pairX) (a_pairY := a_pairY) (a_stack := a_stack) (a_met := a_met) (a_metAs := a_metAs) (a_copies := a_copies) (a_meetings := a_meetings) (a_wasMeeting := a_wasMeeting) (a_firstMet := a_firstMet) (a_depths := a_depths) (a_isKept := a_isKept) (b := t * 585) (by omega) 585 0 a_saved rfl
    obtain ⟨sv', y1, y2, y3⟩ := yb_12 (g_trials := g_trials) (g_drafted := g_drafted) (g_found := g_found) (b_s := b_s) (b_saved := b_saved) (b_draft := b_draft) (b_who := b_who) (b_met := b_met) (b_stack := b_stack) (b_fresh := b_fresh) (b_deep := b_deep) (b_alike := b_alike) (b_meets := b_meets) (t := t) (by omega) eT' 633 0 b_saved rfl
    refine br_t (by rw [eT]; exact (li_lt3 (by omega)).mpr (by omega)) ?_
    refine nm_r (e' := nI (t * 585)) (by rw [eT]; exact li_n585 t) ⟨_, x3 _ ?_⟩
    rw [eT, nI_1]
    unfold wpY_begin
    refine br_f (by rw [eT']; exact fun q => h3 ((nI_eq (b := 3) (by omega) (by decide)).mp q)) ⟨_, y3 _ ⟨rfl, ?_⟩⟩
    refine ⟨t + 1, d, by omega, d3, rfl, rfl, eD, eD', hDr, re_C_mono (by omega) hC, fun j hj => ?_⟩
    by_cases q : j = t
    · refine re_C_congr (fun i hi => ?_) (fun i hi => ?_) (re_C_mono (B' := 25 * (k + 4)) (by omega) hC)
      · show sv (585 * j + i) = a_held i
        rw [q, Nat.mul_comm 585 t]; exact x1 i (by omega) hi
      · show sv' (633 * j + i) = b_s i
        rw [q]; exact y1 i (by omega) hi
    · refine re_C_congr (fun i hi => ?_) (fun i hi => ?_) (re_C_mono (B' := 25 * (k + 4)) (by omega) (hS j (by omega)))
      · show sv (585 * j + i) = a_saved (585 * j + i)
        exact x2 _ (by omega)
      · show sv' (633 * j + i) = b_saved (633 * j + i)
        exact y2 _ (by omega)
theorem xf_36 {f_trials f_drafted f_pairs f_metCount f_meetingCount : Int32} {a_held a_saved a_draft a_toldBefore a_pairX a_pairY a_stack a_met a_metAs a_copies a_meetings a_wasMeeting a_firstMet a_depths a_isKept : Nat → Int32} {b : Nat} (hb : b ≤ 1170) : ∀ d j (a_held : Nat → Int32), j + d = 585 → ∃ a' : Nat → Int32, (∀ i, j ≤ i → i < 585 → a' i = a_saved (b + i)) ∧ (∀ i, i < j → a' i = a_held i) ∧ ∀ post : Int32 → SX → Prop, post 1 (f_trials, f_drafted, f_pairs, f_metCount, f_meetingCount, a', a_saved, a_draft, a_toldBefore, a_pairX, a_pairY, a_stack, a_met, a_metAs, a_copies, a_meetings, a_wasMeeting, a_firstMet, a_depths, a_isKept) → wX_finish_36 post (nI b) f_trials f_drafted f_pairs f_metCount f_meetingCount (d + 1) (nI j) a_held a_saved a_draft a_toldBefore a_pairX a_pairY a_stack a_met a_metAs a_copies a_meetings a_wasMeeting a_firstMet a_depths a_isKept := by
  intro d
  induction d with
  | zero =>
    intro j a hj
    refine ⟨a, fun i h1 h2 => by omega, fun _ _ => rfl, fun post hp => ?_⟩
    unfold wX_finish_36
    simp (disch := omega) only [forall_eq, true_and, and_true, Nat.zero_add, nI_clamp, li_vin, nI_add, nI_eq, nI_leI, nI_ltI, li_0le, li_lt0, li_nn1, li_e0, not_true_eq_false, not_false_eq_true, false_implies, true_implies, forall_const, li_a0, li_b0, li_a1, li_b1, li_a2, li_b2, li_a3, li_b3, li_a7, li_b7, li_a8, li_b8, li_a16, li_b16, li_a48, li_b48, li_a584, li_b584, li_a572, li_b572, li_a96, li_b96, li_a144, li_b144, li_a192, li_b192, li_a240, li_b240, li_a336, li_b336, li_a384, li_b384, li_a432, li_b432, li_a480, li_b480, li_a488, li_b488, li_a496, li_b496, li_a504, li_b504, li_a512, li_b512, li_a520, li_b520, li_a524, li_b524, li_a528, li_b528, li_a536, li_b536, li_a544, li_b544, li_a552, li_b552, li_a560, li_b560, li_a568, li_b568, li_a573, li_b573, li_a585, li_b585, li_a633, li_b633, li_m3, li_n3, li_m4, li_n4, li_m48, li_n48, li_m50, li_n50, li_m585, li_n585, li_m633, li_n633, li_lt2, li_ge2, li_le2, li_gt2, li_lt1, li_ge1, li_le1, li_gt1, li_lt3, li_ge3, li_le3, li_gt3, li_lt4, li_ge4, li_le4, li_gt4, li_lt7, li_ge7, li_le7, li_gt7, li_lt8, li_ge8, li_le8, li_gt8, li_lt40, li_ge40, li_le40, li_gt40, li_lt240, li_ge240, li_le240, li_gt240, li_lt41, li_ge41, li_le41, li_gt41, li_lt48, li_ge48, li_le48, li_gt48, li_lt49, li_ge49, li_le49, li_gt49, li_lt60, li_ge60, li_le60, li_gt60, li_lt144, li_ge144, li_le144, li_gt144, li_lt145, li_ge145, li_le145, li_gt145, li_lt160, li_ge160, li_le160, li_gt160, li_lt336, li_ge336, li_le336, li_gt336, li_lt585, li_ge585, li_le585, li_gt585, li_lt633, li_ge633, li_le633, li_gt633, li_lt1000000, li_ge1000000, li_le1000000, li_gt1000000, li_lt2304, li_ge2304, li_le2304, li_gt2304, li_lt50, li_ge50, li_le50, li_gt50, li_le0, li_gt0]
    exact ⟨fun _ => hp, fun q => by omega⟩
  | succ d ih =>
    intro j a hj
    obtain ⟨a', h1, h2, h3⟩ := ih (j + 1) (upd a j (a_saved (b + j))) (by omega)
    refine ⟨a', ?_, ?_, fun post hp => ?_⟩
    · intro i g1 g2
      by_cases q : i = j
      · rw [q, h2 _ (by omega), pk_us]
      · exact h1 i (by omega) g2
    · intro i hi
      rw [h2 i (by omega), pk_un (by omega)]
    · unfold wX_finish_36
      simp (disch := omega) only [forall_eq, true_and, and_true, Nat.zero_add, nI_clamp, li_vin, nI_add, nI_eq, nI_leI, nI_ltI, li_0le, li_lt0, li_nn1, li_e0, not_true_eq_false, not_false_eq_true, false_implies, true_implies, forall_const, li_a0, li_b0, li_a1, li_b1, li_a2, li_b2, li_a3, li_b3, li_a7, li_b7, li_a8, li_b8, li_a16, li_b16, li_a48, li_b48, li_a584, li_b584, li_a572, li_b572, li_a96, li_b96, li_a144, li_b144, li_a192, li_b192, li_a240, li_b240, li_a336, li_b336, li_a384, li_b384, li_a432, li_b432, li_a480, li_b480, li_a488, li_b488, li_a496, li_b496, li_a504, li_b504, li_a512, li_b512, li_a520, li_b520, li_a524, li_b524, li_a528, li_b528, li_a536, li_b536, li_a544, li_b544, li_a552, li_b552, li_a560, li_b560, li_a568, li_b568, li_a573, li_b573, li_a585, li_b585, li_a633, li_b633, li_m3, li_n3, li_m4, li_n4, li_m48, li_n48, li_m50, li_n50, li_m585, li_n585, li_m633, li_n633, li_lt2, li_ge2, li_le2, li_gt2, li_lt1, li_ge1, li_le1, li_gt1, li_lt3, li_ge3, li_le3, li_gt3, li_lt4, li_ge4, li_le4, li_gt4, li_lt7, li_ge7, li_le7, li_gt7, li_lt8, li_ge8, li_le8, li_gt8, li_lt40, li_ge40, li_le40, li_gt40, li_lt240, li_ge240, li_le240, li_gt240, li_lt41, li_ge41, li_le41, li_gt41, li_lt48, li_ge48, li_le48, li_gt48, li_lt49, li_ge49, li_le49, li_gt49, li_lt60, li_ge60, li_le60, li_gt60, li_lt144, li_ge144, li_le144, li_gt144, li_lt145, li_ge145, li_le145, li_gt145, li_lt160, li_ge160, li_le160, li_gt160, li_lt336, li_ge336, li_le336, li_gt336, li_lt585, li_ge585, li_le585, li_gt585, li_lt633, li_ge633, li_le633, li_gt633, li_lt1000000, li_ge1000000, li_le1000000, li_gt1000000, li_lt2304, li_ge2304, li_le2304, li_gt2304, li_lt50, li_ge50, li_le50, li_gt50, li_le0, li_gt0]
      exact ⟨fun q => by omega, fun _ => h3 post hp⟩
theorem yf_21 {g_trials g_drafted g_found : Int32} {b_s b_saved b_draft b_who b_met b_stack b_fresh b_deep : Nat → Int32} {b_alike b_meets : Nat → Int64} {t : Nat} (ht : t ≤ 2) (e : g_trials = nI t) : ∀ d j (b_s : Nat → Int32), j + d = 633 → ∃ s' : Nat → Int32, (∀ i, j ≤ i → i < 633 → s' i = b_saved (633 * t + i)) ∧ (∀ i, i < j → s' i = b_s i) ∧ ∀ post : Int32 → SY → Prop, post 1 (g_trials, g_drafted, g_found, s', b_saved, b_draft, b_who, b_met, b_stack, b_fresh, b_deep, b_alike, b_meets) → wY_finish_21 post 0 g_trials g_drafted g_found (d + 1) (nI j) b_s b_saved b_draft b_who b_met b_stack b_fresh b_deep b_alike b_meets := by
  intro d
  induction d with
  | zero =>
    intro j a hj
    refine ⟨a, fun i h1 h2 => by omega, fun _ _ => rfl, fun post hp => ?_⟩
    unfold wY_finish_21
    simp (disch := omega) only [forall_eq, true_and, and_true, Nat.zero_add, nI_clamp, li_vin, nI_add, nI_eq, nI_leI, nI_ltI, li_0le, li_lt0, li_nn1, li_e0, not_true_eq_false, not_false_eq_true, false_implies, true_implies, forall_const, li_a0, li_b0, li_a1, li_b1, li_a2, li_b2, li_a3, li_b3, li_a7, li_b7, li_a8, li_b8, li_a16, li_b16, li_a48, li_b48, li_a584, li_b584, li_a572, li_b572, li_a96, li_b96, li_a144, li_b144, li_a192, li_b192, li_a240, li_b240, li_a336, li_b336, li_a384, li_b384, li_a432, li_b432, li_a480, li_b480, li_a488, li_b488, li_a496, li_b496, li_a504, li_b504, li_a512, li_b512, li_a520, li_b520, li_a524, li_b524, li_a528, li_b528, li_a536, li_b536, li_a544, li_b544, li_a552, li_b552, li_a560, li_b560, li_a568, li_b568, li_a573, li_b573, li_a585, li_b585, li_a633, li_b633, li_m3, li_n3, li_m4, li_n4, li_m48, li_n48, li_m50, li_n50, li_m585, li_n585, li_m633, li_n633, li_lt2, li_ge2, li_le2, li_gt2, li_lt1, li_ge1, li_le1, li_gt1, li_lt3, li_ge3, li_le3, li_gt3, li_lt4, li_ge4, li_le4, li_gt4, li_lt7, li_ge7, li_le7, li_gt7, li_lt8, li_ge8, li_le8, li_gt8, li_lt40, li_ge40, li_le40, li_gt40, li_lt240, li_ge240, li_le240, li_gt240, li_lt41, li_ge41, li_le41, li_gt41, li_lt48, li_ge48, li_le48, li_gt48, li_lt49, li_ge49, li_le49, li_gt49, li_lt60, li_ge60, li_le60, li_gt60, li_lt144, li_ge144, li_le144, li_gt144, li_lt145, li_ge145, li_le145, li_gt145, li_lt160, li_ge160, li_le160, li_gt160, li_lt336, li_ge336, li_le336, li_gt336, li_lt585, li_ge585, li_le585, li_gt585, li_lt633, li_ge633, li_le633, li_gt633, li_lt1000000, li_ge1000000, li_le1000000, li_gt1000000, li_lt2304, li_ge2304, li_le2304, li_gt2304, li_lt50, li_ge50, li_le50, li_gt50, li_le0, li_gt0]
    exact ⟨fun _ => hp, fun q => by omega⟩
  | succ d ih =>
    intro j a hj
    obtain ⟨a', h1, h2, h3⟩ := ih (j + 1) (upd a j (b_saved (633 * t + j))) (by omega)
    refine ⟨a', ?_, ?_, fun post hp => ?_⟩
    · intro i g1 g2
      by_cases q : i = j
      · rw [q, h2 _ (by omega), pk_us]
      · exact h1 i (by omega) g2
    · intro i hi
      rw [h2 i (by omega), pk_un (by omega)]
    · have h3' := h3 post hp
      rw [e] at h3'
      unfold wY_finish_21
      simp (disch := omega) only [forall_eq, true_and, and_true, Nat.zero_add, nI_clamp, li_vin, nI_add, nI_eq, nI_leI, nI_ltI, li_0le, li_lt0, li_nn1, li_e0, not_true_eq_false, not_false_eq_true, false_implies, true_implies, forall_const, li_a0, li_b0, li_a1, li_b1, li_a2, li_b2, li_a3, li_b3, li_a7, li_b7, li_a8, li_b8, li_a16, li_b16, li_a48, li_b48, li_a584, li_b584, li_a572, li_b572, li_a96, li_b96, li_a144, li_b144, li_a192, li_b192, li_a240, li_b240, li_a336, li_b336, li_a384, li_b384, li_a432, li_b432, li_a480, li_b480, li_a488, li_b488, li_a496, li_b496, li_a504, li_b504, li_a512, li_b512, li_a520, li_b520, li_a524, li_b524, li_a528, li_b528, li_a536, li_b536, li_a544, li_b544, li_a552, li_b552, li_a560, li_b560, li_a568, li_b568, li_a573, li_b573, li_a585, li_b585, li_a633, li_b633, li_m3, li_n3, li_m4, li_n4, li_m48, li_n48, li_m50, li_n50, li_m585, li_n585, li_m633, li_n633, li_lt2, li_ge2, li_le2, li_gt2, li_lt1, li_ge1, li_le1, li_gt1, li_lt3, li_ge3, li_le3, li_gt3, li_lt4, li_ge4, li_le4, li_gt4, li_lt7, li_ge7, li_le7, li_gt7, li_lt8, li_ge8, li_le8, li_gt8, li_lt40, li_ge40, li_le40, li_gt40, li_lt240, li_ge240, li_le240, li_gt240, li_lt41, li_ge41, li_le41, li_gt41, li_lt48, li_ge48, li_le48, li_gt48, li_lt49, li_ge49, li_le49, li_gt49, li_lt60, li_ge60, li_le60, li_gt60, li_lt144, li_ge144, li_le144, li_gt144, li_lt145, li_ge145, li_le145, li_gt145, li_lt160, li_ge160, li_le160, li_gt160, li_lt336, li_ge336, li_le336, li_gt336, li_lt585, li_ge585, li_le585, li_gt585, li_lt633, li_ge633, li_le633, li_gt633, li_lt1000000, li_ge1000000, li_le1000000, li_gt1000000, li_lt2304, li_ge2304, li_le2304, li_gt2304, li_lt50, li_ge50, li_le50, li_gt50, li_le0, li_gt0, e]
      exact ⟨fun q => by omega, fun _ => h3'⟩
theorem i_vc_finish {k : Nat} {u : SX} {v : SY} (I : i_Rel k u v) (hk : k + 4 ≤ 2048) (v1 : Int32) : wpX_finish (fun r u' => wpY_finish (fun r' v' => r' = r ∧ i_Rel (k + 4) u' v') v (lw_bz v1)) u (lw_bz v1) := by
  obtain ⟨f_trials, f_drafted, f_pairs, f_metCount, f_meetingCount, a_held, a_saved, a_draft, a_toldBefore, a_pairX, a_pairY, a_stack, a_met, a_metAs, a_copies, a_meetings, a_wasMeeting, a_firstMet, a_depths, a_isKept⟩ := u
  obtain ⟨g_trials, g_drafted, g_found, b_s, b_saved, b_draft, b_who, b_met, b_stack, b_fresh, b_deep, b_alike, b_meets⟩ := v
  have R := re_A_up (k := k) (k' := k + 4) (by omega) I
  obtain ⟨t, d, t3, d3, eT, eT', eD, eD', hDr, hC, hS⟩ := id I
  unfold wpX_finish
  cases t with
  | zero =>
    refine br_f (by rw [eT]; decide) ?_
    unfold wpY_finish
    exact br_t (by rw [eT']; rfl) ⟨rfl, R⟩
  | succ t =>
    refine br_t (by rw [eT]; exact (li_gt0 (by omega)).mpr (by omega)) ?_
    refine nm_r (e' := nI t) (by rw [eT]; exact nI_pred t) ?_
    have y0 : ¬ g_trials = 0 := by
      rw [eT']
      exact fun q => by have := (li_e0 (by omega)).mp q; omega
    have ep : g_trials - 1 = nI t := by rw [eT']; exact nI_pred t
    rcases lw_bz_01 v1 with z | z
    · rw [z]
      obtain ⟨a', x1, x2, x3⟩ := xf_36 (f_trials := nI t) (f_drafted := f_drafted) (f_pairs := f_pairs) (f_metCount := f_metCount) (f_meetingCount := f_meetingCount) (a_held := a_held) (a_saved := a_saved) (a_draft := a_draft) (a_toldBefore := a_toldBefore) (a_pairX := a_pairX) (a_pairY := a_pairY) (a_stack := a_stack) (a_met := a_met) (a_metAs := a_metAs) (a_copies := a_copies) (a_meetings := a_meetings) (a_wasMeeting := a_wasMeeting) (a_firstMet := a_firstMet) (a_depths := a_depths) (a_isKept := a_isKept) (b := t * 585) (by omega) 585 0 a_held rfl
      obtain ⟨s', y1, y2, y3⟩ := yf_21 (g_trials := nI t) (g_drafted := g_drafted) (g_found := g_found) (b_s := b_s) (b_saved := b_saved) (b_draft := b_draft) (b_who := b_who) (b_met := b_met) (b_stack := b_stack) (b_fresh := b_fresh) (b_deep := b_deep) (b_alike := b_alike) (b_meets := b_meets) (t := t) (by omega) rfl 633 0 b_s rfl
      refine br_t rfl (nm_r (e' := nI (t * 585)) (li_n585 t) ⟨_, x3 _ ?_⟩)
      unfold wpY_finish
      refine br_f y0 (nm_r ep ⟨_, y3 _ ⟨rfl, ?_⟩⟩)
      refine ⟨t, d, by omega, d3, rfl, rfl, eD, eD', hDr, ?_, fun j hj => re_C_mono (by omega) (hS j (by omega))⟩
      refine re_C_congr (fun i hi => ?_) (fun i hi => ?_) (re_C_mono (B' := 25 * (k + 4)) (by omega) (hS t (by omega)))
      · show a' i = a_saved (585 * t + i)
        rw [x1 i (by omega) hi, Nat.mul_comm t 585]
      · exact y1 i (by omega) hi
    · rw [z]
      refine br_f (by decide) ?_
      unfold wpY_finish
      refine br_f y0 (nm_r ep ⟨1, ?_⟩)
      unfold wY_finish_21
      refine br_f (by decide) (br_f (by decide) ⟨rfl, ?_⟩)
      exact ⟨t, d, by omega, d3, rfl, rfl, eD, eD', hDr, re_C_mono (by omega) hC, fun j hj => re_C_mono (by omega) (hS j (by omega))⟩
end
section
theorem i_vc_number {k : Nat} {u : SX} {v : SY} (I : i_Rel k u v) (hk : k + 4 ≤ 2048) (v1 : Int32) (v2 : Int32) : wpX_number (fun r u' => wpY_number (fun r' v' => r' = r ∧ i_Rel (k + 4) u' v') v v1 v2) u v1 v2 := by
  obtain ⟨f_trials, f_drafted, f_pairs, f_metCount, f_meetingCount, a_held, a_saved, a_draft, a_toldBefore, a_pairX, a_pairY, a_stack, a_met, a_metAs, a_copies, a_meetings, a_wasMeeting, a_firstMet, a_depths, a_isKept⟩ := u
  obtain ⟨g_trials, g_drafted, g_found, b_s, b_saved, b_draft, b_who, b_met, b_stack, b_fresh, b_deep, b_alike, b_meets⟩ := v
  have C := re_A_C I
  have P := C.1
  unfold wpX_number
  by_cases hx : ∃ x, xv_U a_held x ∧ v1 = nI x
  · obtain ⟨x, ux, rfl⟩ := hx
    have x48 := ux.1
    obtain ⟨r, a', e1, e2⟩ := xw_tellNumber (f_trials := f_trials) (f_drafted := f_drafted) (f_pairs := f_pairs) (f_metCount := f_metCount) (f_meetingCount := f_meetingCount) (a_held := a_held) (a_saved := a_saved) (a_draft := a_draft) (a_toldBefore := a_toldBefore) (a_pairX := a_pairX) (a_pairY := a_pairY) (a_stack := a_stack) (a_met := a_met) (a_metAs := a_metAs) (a_copies := a_copies) (a_meetings := a_meetings) (a_wasMeeting := a_wasMeeting) (a_firstMet := a_firstMet) (a_depths := a_depths) (a_isKept := a_isKept) (re_G P) (v := v2) ux
    have o := tf_all (g_trials := g_trials) (g_drafted := g_drafted) (g_found := g_found) (b_s := b_s) (b_saved := b_saved) (b_draft := b_draft) (b_who := b_who) (b_met := b_met) (b_stack := b_stack) (b_fresh := b_fresh) (b_deep := b_deep) (b_alike := b_alike) (b_meets := b_meets) (kind := 1) (num := v2) (label := 0) (count := 0) P ux (Or.inl ⟨rfl, rfl, rfl, rfl, rfl⟩) (fun k hk => absurd hk (by rw [show ma_ct ((1 : Int32), v2).1 = 0 from ma_ct_1]; omega)) e1
    refine xw_inUse_t (f_trials := f_trials) (f_drafted := f_drafted) (f_pairs := f_pairs) (f_metCount := f_metCount) (f_meetingCount := f_meetingCount) (a_held := a_held) (a_saved := a_saved) (a_draft := a_draft) (a_toldBefore := a_toldBefore) (a_pairX := a_pairX) (a_pairY := a_pairY) (a_stack := a_stack) (a_met := a_met) (a_metAs := a_metAs) (a_copies := a_copies) (a_meetings := a_meetings) (a_wasMeeting := a_wasMeeting) (a_firstMet := a_firstMet) (a_depths := a_depths) (a_isKept := a_isKept) ux _ (br_f (by decide) (e2 _ ?_))
    rcases o with ⟨o1, o2, s', f1, f2⟩ | ⟨o1, s', f1, f2⟩
    · subst o1
      rw [o2]
      obtain ⟨m2, tb2, px2, py2, g2⟩ := xs_idle (f_trials := f_trials) (f_drafted := f_drafted) (f_pairs := f_pairs) (f_metCount := f_metCount) (f_meetingCount := f_meetingCount) (a_held := a_held) (a_saved := a_saved) (a_draft := a_draft) (a_toldBefore := a_toldBefore) (a_pairX := a_pairX) (a_pairY := a_pairY) (a_stack := a_stack) (a_met := a_met) (a_metAs := a_metAs) (a_copies := a_copies) (a_meetings := a_meetings) (a_wasMeeting := a_wasMeeting) (a_firstMet := a_firstMet) (a_depths := a_depths) (a_isKept := a_isKept) C
      refine g2 _ ?_
      unfold wpY_number
      refine yw_isUsed_t (g_trials := g_trials) (g_drafted := g_drafted) (g_found := g_found) (b_s := b_s) (b_saved := b_saved) (b_draft := b_draft) (b_who := b_who) (b_met := b_met) (b_stack := b_stack) (b_fresh := b_fresh) (b_deep := b_deep) (b_alike := b_alike) (b_meets := b_meets) (re_pos P ux) _ (br_f (by decide) (f2 _ ⟨rfl, ?_⟩))
      exact re_A_row (k := k) I (re_C_mono (by omega) ⟨tf_P P x48 f1, C.2⟩)
    · subst o1
      obtain ⟨m2, a2, tb2, px2, py2, s2, wh, al, g1, g2, g3⟩ := st_settle (f_trials := f_trials) (f_drafted := f_drafted) (f_pairs := f_pairs) (f_metCount := f_metCount) (f_meetingCount := f_meetingCount) (a_held := a') (a_saved := a_saved) (a_draft := a_draft) (a_toldBefore := a_toldBefore) (a_pairX := a_pairX) (a_pairY := a_pairY) (a_stack := a_stack) (a_met := a_met) (a_metAs := a_metAs) (a_copies := a_copies) (a_meetings := a_meetings) (a_wasMeeting := a_wasMeeting) (a_firstMet := a_firstMet) (a_depths := a_depths) (a_isKept := a_isKept) (g_trials := g_trials) (g_drafted := g_drafted) (g_found := g_found) (b_s := s') (b_saved := b_saved) (b_draft := b_draft) (b_who := b_who) (b_met := b_met) (b_stack := b_stack) (b_fresh := b_fresh) (b_deep := b_deep) (b_alike := b_alike) (b_meets := b_meets) (by omega) f1
      refine g2 _ ?_
      unfold wpY_number
      refine yw_isUsed_t (g_trials := g_trials) (g_drafted := g_drafted) (g_found := g_found) (b_s := b_s) (b_saved := b_saved) (b_draft := b_draft) (b_who := b_who) (b_met := b_met) (b_stack := b_stack) (b_fresh := b_fresh) (b_deep := b_deep) (b_alike := b_alike) (b_meets := b_meets) (re_pos P ux) _ (br_f (by decide) (f2 _ (g3 _ ⟨rfl, ?_⟩)))
      exact re_A_row (k := k) I (re_C_mono (by omega) g1)
  · refine xw_inUse_f (f_trials := f_trials) (f_drafted := f_drafted) (f_pairs := f_pairs) (f_metCount := f_metCount) (f_meetingCount := f_meetingCount) (a_held := a_held) (a_saved := a_saved) (a_draft := a_draft) (a_toldBefore := a_toldBefore) (a_pairX := a_pairX) (a_pairY := a_pairY) (a_stack := a_stack) (a_met := a_met) (a_metAs := a_metAs) (a_copies := a_copies) (a_meetings := a_meetings) (a_wasMeeting := a_wasMeeting) (a_firstMet := a_firstMet) (a_depths := a_depths) (a_isKept := a_isKept) hx _ (br_t rfl ?_)
    unfold wpY_number
    exact yw_isUsed_f (g_trials := g_trials) (g_drafted := g_drafted) (g_found := g_found) (b_s := b_s) (b_saved := b_saved) (b_draft := b_draft) (b_who := b_who) (b_met := b_met) (b_stack := b_stack) (b_fresh := b_fresh) (b_deep := b_deep) (b_alike := b_alike) (b_meets := b_meets) (re_neg P hx) _ (br_t rfl ⟨rfl, re_A_up (k := k) (by omega) I⟩)
theorem xw_draftInUse {f_trials f_drafted f_pairs f_metCount f_meetingCount : Int32} {a_held a_saved a_draft a_toldBefore a_pairX a_pairY a_stack a_met a_metAs a_copies a_meetings a_wasMeeting a_firstMet a_depths a_isKept : Nat → Int32} {d : Nat} {q : Nat → Nat} (hd : d ≤ 3) (eD : f_drafted = nI d) (hq : ∀ i, i < 3 → q i < 48 ∧ a_draft i = nI (q i)) : ∀ post : Int32 → Prop, ((∀ i, i < d → xv_U a_held (q i)) → post 1) → ((¬ ∀ i, i < d → xv_U a_held (q i)) → post 0) → wpX_draftInUse post (f_trials, f_drafted, f_pairs, f_metCount, f_meetingCount, a_held, a_saved, a_draft, a_toldBefore, a_pairX, a_pairY, a_stack, a_met, a_metAs, a_copies, a_meetings, a_wasMeeting, a_firstMet, a_depths, a_isKept) := by
  have lp : ∀ m j, j + m = 3 → (∀ i, i < j → i < d → xv_U a_held (q i)) → ∀ post : Int32 → Prop, ((∀ i, i < d → xv_U a_held (q i)) → post 1) → ((¬ ∀ i, i < d → xv_U a_held (q i)) → post 0) → wX_draftInUse_2 post f_trials f_drafted f_pairs f_metCount f_meetingCount a_held a_saved a_draft a_toldBefore a_pairX a_pairY a_stack a_met a_metAs a_copies a_meetings a_wasMeeting a_firstMet a_depths a_isKept (m + 1) (nI j) := by
    intro m
    induction m with
    | zero =>
      intro j hj h post h1 h0
      unfold wX_draftInUse_2
      simp (disch := omega) only [forall_eq, true_and, and_true, Nat.zero_add, nI_clamp, li_vin, nI_add, nI_eq, nI_leI, nI_ltI, li_0le, li_lt0, li_nn1, li_e0, not_true_eq_false, not_false_eq_true, false_implies, true_implies, forall_const, li_a0, li_b0, li_a1, li_b1, li_a2, li_b2, li_a3, li_b3, li_a7, li_b7, li_a8, li_b8, li_a16, li_b16, li_a48, li_b48, li_a584, li_b584, li_a572, li_b572, li_a96, li_b96, li_a144, li_b144, li_a192, li_b192, li_a240, li_b240, li_a336, li_b336, li_a384, li_b384, li_a432, li_b432, li_a480, li_b480, li_a488, li_b488, li_a496, li_b496, li_a504, li_b504, li_a512, li_b512, li_a520, li_b520, li_a524, li_b524, li_a528, li_b528, li_a536, li_b536, li_a544, li_b544, li_a552, li_b552, li_a560, li_b560, li_a568, li_b568, li_a573, li_b573, li_a585, li_b585, li_a633, li_b633, li_m3, li_n3, li_m4, li_n4, li_m48, li_n48, li_m50, li_n50, li_m585, li_n585, li_m633, li_n633, li_lt2, li_ge2, li_le2, li_gt2, li_lt1, li_ge1, li_le1, li_gt1, li_lt3, li_ge3, li_le3, li_gt3, li_lt4, li_ge4, li_le4, li_gt4, li_lt7, li_ge7, li_le7, li_gt7, li_lt8, li_ge8, li_le8, li_gt8, li_lt40, li_ge40, li_le40, li_gt40, li_lt240, li_ge240, li_le240, li_gt240, li_lt41, li_ge41, li_le41, li_gt41, li_lt48, li_ge48, li_le48, li_gt48, li_lt49, li_ge49, li_le49, li_gt49, li_lt60, li_ge60, li_le60, li_gt60, li_lt144, li_ge144, li_le144, li_gt144, li_lt145, li_ge145, li_le145, li_gt145, li_lt160, li_ge160, li_le160, li_gt160, li_lt336, li_ge336, li_le336, li_gt336, li_lt585, li_ge585, li_le585, li_gt585, li_lt633, li_ge633, li_le633, li_gt633, li_lt1000000, li_ge1000000, li_le1000000, li_gt1000000, li_lt2304, li_ge2304, li_le2304, li_gt2304, li_lt50, li_ge50, li_le50, li_gt50, li_le0, li_gt0]
      exact ⟨fun _ => h1 (fun i hi => h i (by omega) hi), fun z => by omega⟩
    | succ m ih =>
      intro j hj h post h1 h0
      rw [wX_draftInUse_2]
      dsimp only
      obtain ⟨q1, q2⟩ := hq j (by omega)
      simp (disch := omega) only [forall_eq, true_and, and_true, Nat.zero_add, nI_clamp, li_vin, nI_add, nI_eq, nI_leI, nI_ltI, li_0le, li_lt0, li_nn1, li_e0, not_true_eq_false, not_false_eq_true, false_implies, true_implies, forall_const, li_a0, li_b0, li_a1, li_b1, li_a2, li_b2, li_a3, li_b3, li_a7, li_b7, li_a8, li_b8, li_a16, li_b16, li_a48, li_b48, li_a584, li_b584, li_a572, li_b572, li_a96, li_b96, li_a144, li_b144, li_a192, li_b192, li_a240, li_b240, li_a336, li_b336, li_a384, li_b384, li_a432, li_b432, li_a480, li_b480, li_a488, li_b488, li_a496, li_b496, li_a504, li_b504, li_a512, li_b512, li_a520, li_b520, li_a524, li_b524, li_a528, li_b528, li_a536, li_b536, li_a544, li_b544, li_a552, li_b552, li_a560, li_b560, li_a568, li_b568, li_a573, li_b573, li_a585, li_b585, li_a633, li_b633, li_m3, li_n3, li_m4, li_n4, li_m48, li_n48, li_m50, li_n50, li_m585, li_n585, li_m633, li_n633, li_lt2, li_ge2, li_le2, li_gt2, li_lt1, li_ge1, li_le1, li_gt1, li_lt3, li_ge3, li_le3, li_gt3, li_lt4, li_ge4, li_le4, li_gt4, li_lt7, li_ge7, li_le7, li_gt7, li_lt8, li_ge8, li_le8, li_gt8, li_lt40, li_ge40, li_le40, li_gt40, li_lt240, li_ge240, li_le240, li_gt240, li_lt41, li_ge41, li_le41, li_gt41, li_lt48, li_ge48, li_le48, li_gt48, li_lt49, li_ge49, li_le49, li_gt49, li_lt60, li_ge60, li_le60, li_gt60, li_lt144, li_ge144, li_le144, li_gt144, li_lt145, li_ge145, li_le145, li_gt145, li_lt160, li_ge160, li_le160, li_gt160, li_lt336, li_ge336, li_le336, li_gt336, li_lt585, li_ge585, li_le585, li_gt585, li_lt633, li_ge633, li_le633, li_gt633, li_lt1000000, li_ge1000000, li_le1000000, li_gt1000000, li_lt2304, li_ge2304, li_le2304, li_gt2304, li_lt50, li_ge50, li_le50, li_gt50, li_le0, li_gt0, q2]
      refine ⟨fun z => by omega, fun _ => br_c (fun z => h1 (fun i hi => h i ?_ hi)) (fun z => ?_)⟩
      · rw [eD, nI_leI (by omega) (by omega)] at z
        omega
      rw [eD, nI_leI (by omega) (by omega)] at z
      by_cases uj : xv_U a_held (q j)
      · refine xw_inUse_t (f_trials := f_trials) (f_drafted := f_drafted) (f_pairs := f_pairs) (f_metCount := f_metCount) (f_meetingCount := f_meetingCount) (a_held := a_held) (a_saved := a_saved) (a_draft := a_draft) (a_toldBefore := a_toldBefore) (a_pairX := a_pairX) (a_pairY := a_pairY) (a_stack := a_stack) (a_met := a_met) (a_metAs := a_metAs) (a_copies := a_copies) (a_meetings := a_meetings) (a_wasMeeting := a_wasMeeting) (a_firstMet := a_firstMet) (a_depths := a_depths) (a_isKept := a_isKept) uj _ (br_f (by decide) ?_)
        refine ih (j + 1) (by omega) (fun i hi hid => ?_) post h1 h0
        by_cases w : i = j
        · rw [w]; exact uj
        · exact h i (by omega) hid
      · refine xw_inUse_f (f_trials := f_trials) (f_drafted := f_drafted) (f_pairs := f_pairs) (f_metCount := f_metCount) (f_meetingCount := f_meetingCount) (a_held := a_held) (a_saved := a_saved) (a_draft := a_draft) (a_toldBefore := a_toldBefore) (a_pairX := a_pairX) (a_pairY := a_pairY) (a_stack := a_stack) (a_met := a_met) (a_metAs := a_metAs) (a_copies := a_copies) (a_meetings := a_meetings) (a_wasMeeting := a_wasMeeting) (a_firstMet := a_firstMet) (a_depths := a_depths) (a_isKept := a_isKept) (fun ⟨y, uy, ey⟩ => ?_) _ (br_t rfl (h0 (fun w => uj (w j (by omega)))))
        have : q j = y := (nI_eq (by omega) (by have := uy.1; omega)).mp ey
        rw [this] at uj
        exact uj uy
  intro post h1 h0
  unfold wpX_draftInUse
  exact ⟨4, lp 3 0 rfl (fun i hi => by omega) post h1 h0⟩
theorem yw_make_22 {g_trials g_drafted g_found : Int32} {b_s b_saved b_draft b_who b_met b_stack b_fresh b_deep : Nat → Int32} {b_alike b_meets : Nat → Int64} {d : Nat} {q : Nat → Nat} {x1 x2 : Int32} (hd : d ≤ 3) (eD : g_drafted = nI d) (hq : ∀ i, i < 3 → q i < 48 ∧ b_draft i = nI (q i)) : ∀ m j, j + m = d → (∀ i, i < j → yv_U b_s (q i)) → ∀ post : Int32 → SY → Prop, ((∀ i, i < d → yv_U b_s (q i)) → wpY_tellOf (fun r u => match u with | (g_trials, g_drafted, g_found, b_s, b_saved, b_draft, b_who, b_met, b_stack, b_fresh, b_deep, b_alike, b_meets) => post r (g_trials, g_drafted, g_found, b_s, b_saved, b_draft, b_who, b_met, b_stack, b_fresh, b_deep, b_alike, b_meets)) (g_trials, 0, g_found, b_s, b_saved, b_draft, b_who, b_met, b_stack, b_fresh, b_deep, b_alike, b_meets) x1 2 0 x2 (nI d)) → ((¬ ∀ i, i < d → yv_U b_s (q i)) → post (-1) (g_trials, g_drafted, g_found, b_s, b_saved, b_draft, b_who, b_met, b_stack, b_fresh, b_deep, b_alike, b_meets)) → wY_make_22 post x1 x2 g_trials g_drafted g_found b_s b_saved b_draft b_who b_met b_stack b_fresh b_deep b_alike b_meets (m + 1) (nI j) := by
  intro m
  induction m with
  | zero =>
    intro j hj h post h1 h0
    unfold wY_make_22
    simp (disch := omega) only [forall_eq, true_and, and_true, Nat.zero_add, nI_clamp, li_vin, nI_add, nI_eq, nI_leI, nI_ltI, li_0le, li_lt0, li_nn1, li_e0, not_true_eq_false, not_false_eq_true, false_implies, true_implies, forall_const, li_a0, li_b0, li_a1, li_b1, li_a2, li_b2, li_a3, li_b3, li_a7, li_b7, li_a8, li_b8, li_a16, li_b16, li_a48, li_b48, li_a584, li_b584, li_a572, li_b572, li_a96, li_b96, li_a144, li_b144, li_a192, li_b192, li_a240, li_b240, li_a336, li_b336, li_a384, li_b384, li_a432, li_b432, li_a480, li_b480, li_a488, li_b488, li_a496, li_b496, li_a504, li_b504, li_a512, li_b512, li_a520, li_b520, li_a524, li_b524, li_a528, li_b528, li_a536, li_b536, li_a544, li_b544, li_a552, li_b552, li_a560, li_b560, li_a568, li_b568, li_a573, li_b573, li_a585, li_b585, li_a633, li_b633, li_m3, li_n3, li_m4, li_n4, li_m48, li_n48, li_m50, li_n50, li_m585, li_n585, li_m633, li_n633, li_lt2, li_ge2, li_le2, li_gt2, li_lt1, li_ge1, li_le1, li_gt1, li_lt3, li_ge3, li_le3, li_gt3, li_lt4, li_ge4, li_le4, li_gt4, li_lt7, li_ge7, li_le7, li_gt7, li_lt8, li_ge8, li_le8, li_gt8, li_lt40, li_ge40, li_le40, li_gt40, li_lt240, li_ge240, li_le240, li_gt240, li_lt41, li_ge41, li_le41, li_gt41, li_lt48, li_ge48, li_le48, li_gt48, li_lt49, li_ge49, li_le49, li_gt49, li_lt60, li_ge60, li_le60, li_gt60, li_lt144, li_ge144, li_le144, li_gt144, li_lt145, li_ge145, li_le145, li_gt145, li_lt160, li_ge160, li_le160, li_gt160, li_lt336, li_ge336, li_le336, li_gt336, li_lt585, li_ge585, li_le585, li_gt585, li_lt633, li_ge633, li_le633, li_gt633, li_lt1000000, li_ge1000000, li_le1000000, li_gt1000000, li_lt2304, li_ge2304, li_le2304, li_gt2304, li_lt50, li_ge50, li_le50, li_gt50, li_le0, li_gt0, eD]
    exact ⟨fun _ => h1 (fun i hi => h i (by omega)), fun z => by omega⟩
  | succ m ih =>
    intro j hj h post h1 h0
    rw [wY_make_22]
    dsimp only
    obtain ⟨q1, q2⟩ := hq j (by omega)
    have e1 : ¬ g_drafted ≤ nI j := by
      rw [eD]
      exact fun z => by have := (nI_leI (by omega) (by omega)).mp z; omega
    refine br_f e1 ?_
    simp (disch := omega) only [forall_eq, true_and, and_true, Nat.zero_add, nI_clamp, li_vin, nI_add, nI_eq, nI_leI, nI_ltI, li_0le, li_lt0, li_nn1, li_e0, not_true_eq_false, not_false_eq_true, false_implies, true_implies, forall_const, li_a0, li_b0, li_a1, li_b1, li_a2, li_b2, li_a3, li_b3, li_a7, li_b7, li_a8, li_b8, li_a16, li_b16, li_a48, li_b48, li_a584, li_b584, li_a572, li_b572, li_a96, li_b96, li_a144, li_b144, li_a192, li_b192, li_a240, li_b240, li_a336, li_b336, li_a384, li_b384, li_a432, li_b432, li_a480, li_b480, li_a488, li_b488, li_a496, li_b496, li_a504, li_b504, li_a512, li_b512, li_a520, li_b520, li_a524, li_b524, li_a528, li_b528, li_a536, li_b536, li_a544, li_b544, li_a552, li_b552, li_a560, li_b560, li_a568, li_b568, li_a573, li_b573, li_a585, li_b585, li_a633, li_b633, li_m3, li_n3, li_m4, li_n4, li_m48, li_n48, li_m50, li_n50, li_m585, li_n585, li_m633, li_n633, li_lt2, li_ge2, li_le2, li_gt2, li_lt1, li_ge1, li_le1, li_gt1, li_lt3, li_ge3, li_le3, li_gt3, li_lt4, li_ge4, li_le4, li_gt4, li_lt7, li_ge7, li_le7, li_gt7, li_lt8, li_ge8, li_le8, li_gt8, li_lt40, li_ge40, li_le40, li_gt40, li_lt240, li_ge240, li_le240, li_gt240, li_lt41, li_ge41, li_le41, li_gt41, li_lt48, li_ge48, li_le48, li_gt48, li_lt49, li_ge49, li_le49, li_gt49, li_lt60, li_ge60, li_le60, li_gt60, li_lt144, li_ge144, li_le144, li_gt144, li_lt145, li_ge145, li_le145, li_gt145, li_lt160, li_ge160, li_le160, li_gt160, li_lt336, li_ge336, li_le336, li_gt336, li_lt585, li_ge585, li_le585, li_gt585, li_lt633, li_ge633, li_le633, li_gt633, li_lt1000000, li_ge1000000, li_le1000000, li_gt1000000, li_lt2304, li_ge2304, li_le2304, li_gt2304, li_lt50, li_ge50, li_le50, li_gt50, li_le0, li_gt0, q2]
    by_cases uj : yv_U b_s (q j)
    · refine yw_isUsed_t (g_trials := g_trials) (g_drafted := g_drafted) (g_found := g_found) (b_s := b_s) (b_saved := b_saved) (b_draft := b_draft) (b_who := b_who) (b_met := b_met) (b_stack := b_stack) (b_fresh := b_fresh) (b_deep := b_deep) (b_alike := b_alike) (b_meets := b_meets) uj _ (br_f (by decide) ?_)
      exact ih (j + 1) (by omega) (lt_s h uj) post h1 h0
    · refine yw_isUsed_f (g_trials := g_trials) (g_drafted := g_drafted) (g_found := g_found) (b_s := b_s) (b_saved := b_saved) (b_draft := b_draft) (b_who := b_who) (b_met := b_met) (b_stack := b_stack) (b_fresh := b_fresh) (b_deep := b_deep) (b_alike := b_alike) (b_meets := b_meets) (fun ⟨y, uy, ey⟩ => ?_) _ (br_t rfl (h0 (fun w => uj (w j (by omega)))))
      have : q j = y := (nI_eq (by omega) (by have := uy.1; omega)).mp ey
      rw [this] at uj
      exact uj uy
theorem i_vc_make {k : Nat} {u : SX} {v : SY} (I : i_Rel k u v) (hk : k + 4 ≤ 2048) (v1 : Int32) (v2 : Int32) : wpX_make (fun r u' => wpY_make (fun r' v' => r' = r ∧ i_Rel (k + 4) u' v') v v1 v2) u v1 v2 := by
  obtain ⟨f_trials, f_drafted, f_pairs, f_metCount, f_meetingCount, a_held, a_saved, a_draft, a_toldBefore, a_pairX, a_pairY, a_stack, a_met, a_metAs, a_copies, a_meetings, a_wasMeeting, a_firstMet, a_depths, a_isKept⟩ := u
  obtain ⟨g_trials, g_drafted, g_found, b_s, b_saved, b_draft, b_who, b_met, b_stack, b_fresh, b_deep, b_alike, b_meets⟩ := v
  have C := re_A_C I
  have P := C.1
  have R := re_A_up (k := k) (k' := k + 4) (by omega) I
  obtain ⟨t, d, t3, d3, eT, eT', eD, eD', hDr, hC, hS⟩ := id I
  have yU := re_U P
  have hq : ∀ i, i < 3 → (a_draft i).toNatClampNeg < 48 ∧ a_draft i = nI (a_draft i).toNatClampNeg := by
    intro i hi
    obtain ⟨_, q, q1, q2⟩ := hDr i hi
    rw [q2, nI_clamp (by omega)]
    exact ⟨q1, rfl⟩
  generalize hqq : (fun i => (a_draft i).toNatClampNeg) = q at *
  have hq' : ∀ i, i < 3 → q i < 48 ∧ a_draft i = nI (q i) := by
    intro i hi
    rw [← hqq]; exact hq i hi
  have hqY : ∀ i, i < 3 → q i < 48 ∧ b_draft i = nI (q i) := by
    intro i hi
    obtain ⟨z1, z2⟩ := hq' i hi
    rw [← (hDr i hi).1]; exact ⟨z1, z2⟩
  unfold wpX_make
  by_cases hx : ∃ x, xv_U a_held x ∧ v1 = nI x
  · obtain ⟨x, ux, rfl⟩ := hx
    have x48 := ux.1
    refine xw_inUse_t (f_trials := f_trials) (f_drafted := f_drafted) (f_pairs := f_pairs) (f_metCount := f_metCount) (f_meetingCount := f_meetingCount) (a_held := a_held) (a_saved := a_saved) (a_draft := a_draft) (a_toldBefore := a_toldBefore) (a_pairX := a_pairX) (a_pairY := a_pairY) (a_stack := a_stack) (a_met := a_met) (a_metAs := a_metAs) (a_copies := a_copies) (a_meetings := a_meetings) (a_wasMeeting := a_wasMeeting) (a_firstMet := a_firstMet) (a_depths := a_depths) (a_isKept := a_isKept) ux _ (br_f (by decide) ?_)
    by_cases h0 : v2 < 0
    · refine br_t h0 ?_
      unfold wpY_make
      exact yw_isUsed_t (g_trials := g_trials) (g_drafted := g_drafted) (g_found := g_found) (b_s := b_s) (b_saved := b_saved) (b_draft := b_draft) (b_who := b_who) (b_met := b_met) (b_stack := b_stack) (b_fresh := b_fresh) (b_deep := b_deep) (b_alike := b_alike) (b_meets := b_meets) (re_pos P ux) _ (br_f (by decide) (br_t h0 ⟨rfl, R⟩))
    · obtain ⟨l, hl, rfl⟩ := nI_of h0
      refine br_f h0 ?_
      by_cases h8 : 8 ≤ l
      · refine br_t ((li_ge8 (by omega)).mpr h8) ?_
        unfold wpY_make
        exact yw_isUsed_t (g_trials := g_trials) (g_drafted := g_drafted) (g_found := g_found) (b_s := b_s) (b_saved := b_saved) (b_draft := b_draft) (b_who := b_who) (b_met := b_met) (b_stack := b_stack) (b_fresh := b_fresh) (b_deep := b_deep) (b_alike := b_alike) (b_meets := b_meets) (re_pos P ux) _ (br_f (by decide) (br_f h0 (br_f (fun z => by have := (li_le7 (by omega)).mp z; omega) ⟨rfl, R⟩)))
      · refine br_f (fun z => h8 ((li_ge8 (by omega)).mp z)) ?_
        have top : ∀ postY : Int32 → SY → Prop, (∃ n22 : Nat, wY_make_22 postY (nI x) (nI l) g_trials g_drafted g_found b_s b_saved b_draft b_who b_met b_stack b_fresh b_deep b_alike b_meets n22 0) → wpY_make postY (g_trials, g_drafted, g_found, b_s, b_saved, b_draft, b_who, b_met, b_stack, b_fresh, b_deep, b_alike, b_meets) (nI x) (nI l) := by
          intro postY hp
          unfold wpY_make
          exact yw_isUsed_t (g_trials := g_trials) (g_drafted := g_drafted) (g_found := g_found) (b_s := b_s) (b_saved := b_saved) (b_draft := b_draft) (b_who := b_who) (b_met := b_met) (b_stack := b_stack) (b_fresh := b_fresh) (b_deep := b_deep) (b_alike := b_alike) (b_meets := b_meets) (re_pos P ux) _ (br_f (by decide) (br_f h0 (br_t ((li_le7 (by omega)).mpr (by omega)) hp)))
        refine xw_draftInUse (f_trials := f_trials) (f_drafted := f_drafted) (f_pairs := f_pairs) (f_metCount := f_metCount) (f_meetingCount := f_meetingCount) (a_held := a_held) (a_saved := a_saved) (a_draft := a_draft) (a_toldBefore := a_toldBefore) (a_pairX := a_pairX) (a_pairY := a_pairY) (a_stack := a_stack) (a_met := a_met) (a_metAs := a_metAs) (a_copies := a_copies) (a_meetings := a_meetings) (a_wasMeeting := a_wasMeeting) (a_firstMet := a_firstMet) (a_depths := a_depths) (a_isKept := a_isKept) d3 eD hq' _ (fun all => br_f (by decide) ?_) (fun nall => br_t rfl ?_)
        · have z0 := hq' 0 (by omega)
          have z1 := hq' 1 (by omega)
          have z2 := hq' 2 (by omega)
          obtain ⟨r, m', a', tb, px, py, e1, e2⟩ := xw_tellRecord (f_trials := f_trials) (f_drafted := f_drafted) (f_pairs := f_pairs) (f_metCount := f_metCount) (f_meetingCount := f_meetingCount) (a_held := a_held) (a_saved := a_saved) (a_draft := a_draft) (a_toldBefore := a_toldBefore) (a_pairX := a_pairX) (a_pairY := a_pairY) (a_stack := a_stack) (a_met := a_met) (a_metAs := a_metAs) (a_copies := a_copies) (a_meetings := a_meetings) (a_wasMeeting := a_wasMeeting) (a_firstMet := a_firstMet) (a_depths := a_depths) (a_isKept := a_isKept) (re_G P) (x := x) (l := l) (c := d) (p0 := q 0) (p1 := q 1) (p2 := q 2) (p := q) ux (by omega) d3 z0.1 z1.1 z2.1 rfl rfl rfl all
          have ect : ma_ct (nI (2 + 4 * l + d), (0 : Int32)).1 = d := ma_ct_rec (by omega) d3
          have o := tf_all (g_trials := g_trials) (g_drafted := 0) (g_found := g_found) (b_s := b_s) (b_saved := b_saved) (b_draft := b_draft) (b_who := b_who) (b_met := b_met) (b_stack := b_stack) (b_fresh := b_fresh) (b_deep := b_deep) (b_alike := b_alike) (b_meets := b_meets) (kind := 2) (num := 0) (label := nI l) (count := nI d) P ux (Or.inr ⟨l, d, by omega, d3, rfl, rfl, rfl, rfl, rfl⟩) (fun k hk => by
            rw [ect] at hk
            exact ⟨(hqY k (by omega)).2, all k hk⟩) e1
          rw [z0.2, z1.2, z2.2]
          rw [← eD] at e2
          refine e2 _ ?_
          have allY : ∀ i, i < d → yv_U b_s (q i) := fun i hi => by rw [yU]; exact all i hi
          have mk : ∀ postY : Int32 → SY → Prop, wpY_tellOf (fun r u => match u with | (g_trials, g_drafted, g_found, b_s, b_saved, b_draft, b_who, b_met, b_stack, b_fresh, b_deep, b_alike, b_meets) => postY r (g_trials, g_drafted, g_found, b_s, b_saved, b_draft, b_who, b_met, b_stack, b_fresh, b_deep, b_alike, b_meets)) (g_trials, 0, g_found, b_s, b_saved, b_draft, b_who, b_met, b_stack, b_fresh, b_deep, b_alike, b_meets) (nI x) 2 0 (nI l) (nI d) → wpY_make postY (g_trials, g_drafted, g_found, b_s, b_saved, b_draft, b_who, b_met, b_stack, b_fresh, b_deep, b_alike, b_meets) (nI x) (nI l) := by
            intro postY hp
            exact top postY ⟨_, yw_make_22 (g_trials := g_trials) (g_drafted := g_drafted) (g_found := g_found) (b_s := b_s) (b_saved := b_saved) (b_draft := b_draft) (b_who := b_who) (b_met := b_met) (b_stack := b_stack) (b_fresh := b_fresh) (b_deep := b_deep) (b_alike := b_alike) (b_meets := b_meets) d3 eD' hqY d 0 (by omega) (fun i hi => by omega) postY (fun _ => hp) (fun z => absurd allY z)⟩
          rcases o with ⟨o1, o2, s', f1, f2⟩ | ⟨o1, s', f1, f2⟩
          · subst o1
            rw [o2]
            obtain ⟨m2, tb2, px2, py2, g2⟩ := xs_idle (f_trials := f_trials) (f_drafted := 0) (f_pairs := m') (f_metCount := f_metCount) (f_meetingCount := f_meetingCount) (a_held := a_held) (a_saved := a_saved) (a_draft := a_draft) (a_toldBefore := tb) (a_pairX := px) (a_pairY := py) (a_stack := a_stack) (a_met := a_met) (a_metAs := a_metAs) (a_copies := a_copies) (a_meetings := a_meetings) (a_wasMeeting := a_wasMeeting) (a_firstMet := a_firstMet) (a_depths := a_depths) (a_isKept := a_isKept) C
            refine g2 _ (mk _ (f2 _ ⟨rfl, ?_⟩))
            exact ⟨t, 0, t3, by omega, eT, eT', rfl, rfl, hDr, re_C_mono (by omega) ⟨tf_P P x48 f1, C.2⟩, fun j hj => re_C_mono (by omega) (hS j hj)⟩
          · subst o1
            obtain ⟨m2, a2, tb2, px2, py2, s2, wh, al, g1, g2, g3⟩ := st_settle (f_trials := f_trials) (f_drafted := 0) (f_pairs := m') (f_metCount := f_metCount) (f_meetingCount := f_meetingCount) (a_held := a') (a_saved := a_saved) (a_draft := a_draft) (a_toldBefore := tb) (a_pairX := px) (a_pairY := py) (a_stack := a_stack) (a_met := a_met) (a_metAs := a_metAs) (a_copies := a_copies) (a_meetings := a_meetings) (a_wasMeeting := a_wasMeeting) (a_firstMet := a_firstMet) (a_depths := a_depths) (a_isKept := a_isKept) (g_trials := g_trials) (g_drafted := 0) (g_found := g_found) (b_s := s') (b_saved := b_saved) (b_draft := b_draft) (b_who := b_who) (b_met := b_met) (b_stack := b_stack) (b_fresh := b_fresh) (b_deep := b_deep) (b_alike := b_alike) (b_meets := b_meets) (by omega) f1
            refine g2 _ (mk _ (f2 _ (g3 _ ⟨rfl, ?_⟩)))
            exact ⟨t, 0, t3, by omega, eT, eT', rfl, rfl, hDr, re_C_mono (by omega) g1, fun j hj => re_C_mono (by omega) (hS j hj)⟩
        · have nallY : ¬ ∀ i, i < d → yv_U b_s (q i) := by rw [yU]; exact nall
          exact top _ ⟨_, yw_make_22 (g_trials := g_trials) (g_drafted := g_drafted) (g_found := g_found) (b_s := b_s) (b_saved := b_saved) (b_draft := b_draft) (b_who := b_who) (b_met := b_met) (b_stack := b_stack) (b_fresh := b_fresh) (b_deep := b_deep) (b_alike := b_alike) (b_meets := b_meets) d3 eD' hqY d 0 (by omega) (fun i hi => by omega) _ (fun z => absurd z nallY) (fun _ => ⟨rfl, R⟩)⟩
  · refine xw_inUse_f (f_trials := f_trials) (f_drafted := f_drafted) (f_pairs := f_pairs) (f_metCount := f_metCount) (f_meetingCount := f_meetingCount) (a_held := a_held) (a_saved := a_saved) (a_draft := a_draft) (a_toldBefore := a_toldBefore) (a_pairX := a_pairX) (a_pairY := a_pairY) (a_stack := a_stack) (a_met := a_met) (a_metAs := a_metAs) (a_copies := a_copies) (a_meetings := a_meetings) (a_wasMeeting := a_wasMeeting) (a_firstMet := a_firstMet) (a_depths := a_depths) (a_isKept := a_isKept) hx _ (br_t rfl ?_)
    unfold wpY_make
    exact yw_isUsed_f (g_trials := g_trials) (g_drafted := g_drafted) (g_found := g_found) (b_s := b_s) (b_saved := b_saved) (b_draft := b_draft) (b_who := b_who) (b_met := b_met) (b_stack := b_stack) (b_fresh := b_fresh) (b_deep := b_deep) (b_alike := b_alike) (b_meets := b_meets) (re_neg P hx) _ (br_t rfl ⟨rfl, R⟩)
end
section
theorem tv_2 {a a' : Nat → Int32} {x : Nat} {sh : Int32 × Int32} {p : Nat → Nat} (h : tv_X a a' x sh p 2) : a' = a := by
  rcases h with ⟨_, _, q⟩ | ⟨_, _, q⟩ | ⟨_, _, _, q⟩
  · exact absurd q (by decide)
  · rcases q with q | q
    · exact q.2.1
    · exact absurd q.1 (by decide)
  · exact q
theorem tv_up {a a' : Nat → Int32} {x i : Nat} {v : Int32} {sh : Int32 × Int32} {p : Nat → Nat} {r : Int32} (hi : 384 ≤ i) (lc : xv_L a x < 48) (h : tv_X a a' x sh p r) : tv_X (upd a i v) (upd a' i v) x sh p r := by
  have ca : ∀ j, j < 384 → upd a i v j = a j := fun j hj => pk_un (by omega)
  have ca' : ∀ j, j < 384 → upd a' i v j = a' j := fun j hj => pk_un (by omega)
  obtain ⟨e1, e2, e3, e4, e5⟩ := xv_congr ca
  obtain ⟨f1, f2, f3, f4, f5⟩ := xv_congr ca'
  have eT := xv_congrT ca
  unfold tv_X
  rw [e2, e3, e4, e5]
  rcases h with ⟨h1, h2, h3⟩ | ⟨h1, h2, h3⟩ | ⟨h1, h2, h3, h4⟩
  · refine Or.inl ⟨h1, ?_, h3⟩
    · obtain ⟨g1, g2, g3, g4, g5, g6, g7⟩ := h2
      refine ⟨?_, ?_, ?_, fun k hk => ?_, fun k hk => ?_, fun d hd ne => ?_, fun j hj => ?_⟩
      · rw [ca' _ (by omega)]; exact g1
      · rw [ca' _ (by omega)]; exact g2
      · rw [ca' _ (by omega)]; exact g3
      · rw [ca' _ (by omega)]; exact g4 k hk
      · have : k < 3 := Nat.lt_of_lt_of_le hk (ma_ct_le _)
        rw [ca' _ (by omega)]; exact g5 k hk
      · rw [ca' (48 + d) (by omega), ca' (96 + d) (by omega), ca' (144 + d) (by omega), ca (48 + d) (by omega), ca (96 + d) (by omega), ca (144 + d) (by omega)]
        refine ⟨(g6 d hd ne).1, (g6 d hd ne).2.1, (g6 d hd ne).2.2.1, fun k hk => ?_⟩
        rw [ca' _ (by omega), ca _ (by omega)]; exact (g6 d hd ne).2.2.2 k hk
      · by_cases q : j = i
        · rw [q, pk_us, pk_us]
        · rw [pk_un q, pk_un q]; exact g7 j hj
  · refine Or.inr (Or.inl ⟨h1, h2, ?_⟩)
    rcases h3 with ⟨z1, z2, z3⟩ | ⟨z1, px, py, j, m, vd, z2, z3⟩
    · refine Or.inl ⟨z1, by rw [z2], ?_⟩
      rw [e1, e2, eT]; exact z3
    · refine Or.inr ⟨z1, px, py, j, m, vd, z2, ?_⟩
      obtain ⟨w1, w2, w3, w4⟩ := z3
      refine ⟨xv_congrH ca' w1, fun j hj => ?_, ?_, ?_⟩
      · by_cases q : j = i
        · rw [q, pk_us, pk_us]
        · rw [pk_un q, pk_un q]; exact w2 j hj
      · rw [e1, e2, eT, f2, f3, f4, f5]; exact w3
      · rw [f2]; exact w4
  · exact Or.inr (Or.inr ⟨h1, h2, h3, by rw [h4]⟩)
/-- a variable that nothing knows goes again -/
theorem rm_C {B : Nat} {a a1 s s1 : Nat → Int32} {z : Nat} (C : re_C B a s) (hz : z < 48) (nz : ¬ xv_U a z) (t : tk_X a a1 z) (g : tk_Y s s1 z) : re_C B (upd (upd a1 (336 + z) 0) (384 + z) 0) (upd s1 (384 + z) 0) := by
  have C1 := tk_C C hz nz t g
  obtain ⟨zL, zK, zU⟩ := tk_Xz t hz
  have N := C.1.2.2.2.2.2
  have w := C.1.2.2.2.2.1.1
  have x2 := C.1.2.2.2.2.1.2.2.1
  have inj : ∀ {q : Nat}, q < 48 → nI q = nI z → q = z := fun hq e => (nI_eq (by omega) (by omega)).mp e
  have cell : ∀ i, 384 ≤ i → a1 i = a i := fun i hi => t.2.2.2.2.2 i (by omega) (by omega) (by omega) (by omega) (by omega)
  have old : ∀ x, xv_U a x → x ≠ z := fun x u e => nz (by rw [← e]; exact u)
  have Lz : ∀ x, xv_U a1 x → xv_L a1 x = z → x = z := by
    intro x ux e
    apply Classical.byContradiction
    intro ne
    obtain ⟨e1, _, _, _, e5⟩ := tk_XL t hz ne
    have u := e5.mp ux
    rw [e1] at e
    exact old _ (w x u).2.1 e
  have hroot : ∀ x, kp_0 a1 x → xv_L a1 x ≠ z := by
    intro x hx e
    have ex := Lz x hx.1 e
    rw [ex] at hx
    rcases hx.2 with q | ⟨e', he, q⟩ | ⟨t', ht, q3, q⟩ | ⟨k', hk, q⟩
    · rw [cell _ (by omega)] at q
      rcases (N.2.1 z hz).2 with o | o
      · rw [o] at q; exact absurd q (by decide)
      · exact nz o.2
    · rw [cell _ (by omega)] at q
      rcases (N.2.2.2.2.1 e' he).2 with o | ⟨y, uy, o⟩
      · rw [o] at q; exact (li_nn1 (by omega)).mp q.symm
      · rw [o] at q; exact old y uy (inj uy.1 q)
    · rw [cell _ (by omega)] at q3
      rw [cell _ (by omega), cell _ (by omega)] at q
      obtain ⟨⟨y, uy, o⟩, o2⟩ := (N.2.2.1 t' ht).2.2.2 q3
      rcases q with q | q
      · rw [o] at q; exact old y uy (inj uy.1 q)
      · rcases o2 with o2 | ⟨y2, uy2, o2⟩
        · rw [o2] at q; exact (li_nn1 (by omega)).mp q.symm
        · rw [o2] at q; exact old y2 uy2 (inj uy2.1 q)
    · rw [cell _ (by omega), cell _ (by omega)] at q
      rcases (N.2.2.2.1 k' hk).2 with ⟨o1, o2⟩ | ⟨x', y', ux', uy', o1, o2, _⟩
      · rcases q with q | q
        · rw [o1] at q; exact (li_nn1 (by omega)).mp q.symm
        · rw [o2] at q; exact (li_nn1 (by omega)).mp q.symm
      · rcases q with q | q
        · rw [o1] at q; exact old x' ux' (inj ux'.1 q)
        · rw [o2] at q; exact old y' uy' (inj uy'.1 q)
  have hpart : ∀ c, c ≠ z → (xv_T a1).1 c → ∀ k, k < ma_ct ((xv_T a1).2.1 c).1 → xv_L a1 ((xv_T a1).2.2 c k) ≠ z := by
    intro c _ hc k hk e
    obtain ⟨i1, i2⟩ := tk_XT (c := c) t hz nz
    have hc' := i1.mp hc
    obtain ⟨j1, j2⟩ := i2 hc'
    rw [j1] at hk
    rw [j2 k] at e
    have u := x2 c hc' k hk
    obtain ⟨e1, _, _, _, e5⟩ := tk_XL t hz (old _ u)
    rw [e1] at e
    exact old _ (w _ u).2.1 e
  refine cl_C (Kp := fun c => c ≠ z) hroot hpart C1 ⟨?_, ?_, ?_⟩ ⟨?_, ?_, ?_⟩
  · intro x hx ux nk
    have ex : x = z := Lz x ux (Classical.byContradiction nk)
    rw [ex, pk_un (by omega), pk_us, pk_us]
    exact ⟨rfl, rfl⟩
  · intro x hx o
    have ne : x ≠ z := by
      intro e
      rw [e] at o
      rcases o with o | o
      · exact o zU
      · exact o zL
    rw [pk_un (by omega), pk_un (by omega), pk_un (by omega), pk_un (by omega)]
    exact ⟨rfl, rfl⟩
  · intro i hi
    rw [pk_un (by omega), pk_un (by omega)]
  · intro x hx ux nk
    have ex : x = z := Lz x ux (Classical.byContradiction nk)
    obtain ⟨g1, g2, g3, g4, g5, g6⟩ := g
    rw [ex, pk_un (by omega), pk_un (by omega), pk_us, pk_un (by omega), pk_un (by omega)]
    exact ⟨g2, g3, rfl, g4, g5⟩
  · intro x hx o
    have ne : x ≠ z := by
      intro e
      rw [e] at o
      rcases o with o | o
      · exact o zU
      · exact o zL
    rw [pk_un (by omega), pk_un (by omega), pk_un (by omega), pk_un (by omega), pk_un (by omega)]
    exact ⟨rfl, rfl, rfl, rfl, rfl⟩
  · intro i hi
    exact pk_un (by omega)
end
section
theorem i_vc_put {k : Nat} {u : SX} {v : SY} (I : i_Rel k u v) (hk : k + 4 ≤ 2048) (v1 : Int32) (v2 : Int32) : wpX_put (fun r u' => wpY_put (fun r' v' => r' = r ∧ i_Rel (k + 4) u' v') v v1 v2) u v1 v2 := by
  obtain ⟨f_trials, f_drafted, f_pairs, f_metCount, f_meetingCount, a_held, a_saved, a_draft, a_toldBefore, a_pairX, a_pairY, a_stack, a_met, a_metAs, a_copies, a_meetings, a_wasMeeting, a_firstMet, a_depths, a_isKept⟩ := u
  obtain ⟨g_trials, g_drafted, g_found, b_s, b_saved, b_draft, b_who, b_met, b_stack, b_fresh, b_deep, b_alike, b_meets⟩ := v
  have C := re_A_C I
  have P := C.1
  have R := re_A_up (k := k) (k' := k + 4) (by omega) I
  obtain ⟨t, d, t3, d3, eT, eT', eD, eD', hDr, hC, hS⟩ := id I
  have yU := re_U P
  unfold wpX_put wpX_isStream
  by_cases h0 : v1 < 0
  · refine br_t h0 (br_t rfl ?_)
    unfold wpY_put
    exact br_t h0 ⟨rfl, R⟩
  · obtain ⟨e, he, rfl⟩ := nI_of h0
    refine br_f h0 ?_
    by_cases h4 : 4 ≤ e
    · refine br_t ((li_ge4 (by omega)).mpr h4) (br_t rfl ?_)
      unfold wpY_put
      exact br_f h0 (br_t ((li_gt3 (by omega)).mpr (by omega)) ⟨rfl, R⟩)
    · refine br_f (fun q => h4 ((li_ge4 (by omega)).mp q)) ?_
      have h3 : ¬ (3 : Int32) < nI e := fun q => by have := (li_gt3 (by omega)).mp q; omega
      obtain ⟨e1, e2⟩ := P.2.2.2.2.2.2.2.2.2.1 e (by omega)
      have vin : vp_in (520 + nI e) 585 := by rw [li_a520]; exact vp_in_nI (by omega) (by omega)
      have cl : (520 + nI e).toNatClampNeg = 520 + e := by rw [li_a520, nI_clamp (by omega)]
      have vinY : vp_in (568 + nI e) 681 := by rw [li_a568]; exact vp_in_nI (by omega) (by omega)
      have clY : (568 + nI e).toNatClampNeg = 568 + e := by rw [li_a568, nI_clamp (by omega)]
      refine ⟨vin, ?_⟩
      rw [cl]
      rcases e2 with e2 | ⟨w, uw, ew⟩
      · refine br_t e2 (br_t rfl ?_)
        unfold wpY_put
        refine br_f h0 (br_f h3 ⟨vinY, ?_⟩)
        rw [clY, ← e1, e2]
        exact br_t (by decide) ⟨rfl, R⟩
      · have w48 := uw.1
        refine br_f (by rw [ew]; exact fun q => (li_nn1 (by omega)).mp q) (br_f (by decide) ?_)
        have ewY : b_s (568 + e) = nI w := by rw [← e1]; exact ew
        have topY : ∀ (postY : Int32 → SY → Prop) (v2 : Int32), wpY_isUsed (fun r_5 => (((r_5 = 0 → (postY (-1) (g_trials, g_drafted, g_found, b_s, b_saved, b_draft, b_who, b_met, b_stack, b_fresh, b_deep, b_alike, b_meets))) ∧ (¬ r_5 = 0 → (wpY_spare (fun r_20 => (((0 ≤ r_20 → (wpY_use (fun u => match u with | (g_trials, g_drafted, g_found, b_s, b_saved, b_draft, b_who, b_met, b_stack, b_fresh, b_deep, b_alike, b_meets) => (∀ x4_49 : Int32, x4_49 = b_draft 0 → (∀ x5_50 : Int32, x5_50 = b_draft 1 → (∀ a_draft_52 : Nat → Int32, a_draft_52 = upd b_draft 0 v2 → (∀ a_draft_54 : Nat → Int32, a_draft_54 = upd a_draft_52 1 r_20 → (vp_in (568 + nI e) 681 ∧ (∀ x6_56 : Int32, x6_56 = b_s (568 + nI e).toNatClampNeg → (vp_in (568 + nI e) 681 ∧ ∀ a_s_58 : Nat → Int32, a_s_58 = upd b_s (568 + nI e).toNatClampNeg r_20 → (wpY_tellOf (fun r_59 u => match u with | (g_trials, g_drafted, g_found, b_s, b_saved, b_draft, b_who, b_met, b_stack, b_fresh, b_deep, b_alike, b_meets) => (∀ a_draft_74 : Nat → Int32, a_draft_74 = upd b_draft 0 x4_49 → (∀ a_draft_76 : Nat → Int32, a_draft_76 = upd a_draft_74 1 x5_50 → (((r_59 = 2 → (vp_in (568 + nI e) 681 ∧ ∀ a_s_79 : Nat → Int32, a_s_79 = upd b_s (568 + nI e).toNatClampNeg x6_56 → (vp_in (384 + r_20) 681 ∧ ∀ a_s_81 : Nat → Int32, a_s_81 = upd a_s_79 (384 + r_20).toNatClampNeg 0 → (postY r_59 (g_trials, g_drafted, g_found, a_s_81, b_saved, a_draft_76, b_who, b_met, b_stack, b_fresh, b_deep, b_alike, b_meets))))) ∧ (¬ r_59 = 2 → (postY r_59 (g_trials, g_drafted, g_found, b_s, b_saved, a_draft_76, b_who, b_met, b_stack, b_fresh, b_deep, b_alike, b_meets)))))))) (g_trials, g_drafted, g_found, a_s_58, b_saved, a_draft_54, b_who, b_met, b_stack, b_fresh, b_deep, b_alike, b_meets) x6_56 2 0 7 2))))))))) (g_trials, g_drafted, g_found, b_s, b_saved, b_draft, b_who, b_met, b_stack, b_fresh, b_deep, b_alike, b_meets) r_20)) ∧ (¬ 0 ≤ r_20 → (postY (-2) (g_trials, g_drafted, g_found, b_s, b_saved, b_draft, b_who, b_met, b_stack, b_fresh, b_deep, b_alike, b_meets)))))) (g_trials, g_drafted, g_found, b_s, b_saved, b_draft, b_who, b_met, b_stack, b_fresh, b_deep, b_alike, b_meets)))))) (g_trials, g_drafted, g_found, b_s, b_saved, b_draft, b_who, b_met, b_stack, b_fresh, b_deep, b_alike, b_meets) v2 → wpY_put postY (g_trials, g_drafted, g_found, b_s, b_saved, b_draft, b_who, b_met, b_stack, b_fresh, b_deep, b_alike, b_meets) (nI e) v2 := by
          intro postY v2 hp
          unfold wpY_put
          refine br_f h0 (br_f h3 ⟨vinY, ?_⟩)
          rw [clY, ewY]
          rw [clY] at hp
          exact br_f (nI_pos (by omega)) hp
        by_cases hx : ∃ x, xv_U a_held x ∧ v2 = nI x
        · obtain ⟨x, ux, rfl⟩ := hx
          have x48 := ux.1
          refine xw_inUse_t (f_trials := f_trials) (f_drafted := f_drafted) (f_pairs := f_pairs) (f_metCount := f_metCount) (f_meetingCount := f_meetingCount) (a_held := a_held) (a_saved := a_saved) (a_draft := a_draft) (a_toldBefore := a_toldBefore) (a_pairX := a_pairX) (a_pairY := a_pairY) (a_stack := a_stack) (a_met := a_met) (a_metAs := a_metAs) (a_copies := a_copies) (a_meetings := a_meetings) (a_wasMeeting := a_wasMeeting) (a_firstMet := a_firstMet) (a_depths := a_depths) (a_isKept := a_isKept) ux _ (br_f (by decide) ?_)
          obtain ⟨r, l1, l2⟩ := xw_leastUnused (f_trials := f_trials) (f_drafted := f_drafted) (f_pairs := f_pairs) (f_metCount := f_metCount) (f_meetingCount := f_meetingCount) (a_held := a_held) (a_saved := a_saved) (a_draft := a_draft) (a_toldBefore := a_toldBefore) (a_pairX := a_pairX) (a_pairY := a_pairY) (a_stack := a_stack) (a_met := a_met) (a_metAs := a_metAs) (a_copies := a_copies) (a_meetings := a_meetings) (a_wasMeeting := a_wasMeeting) (a_firstMet := a_firstMet) (a_depths := a_depths) (a_isKept := a_isKept) P.1
          obtain ⟨r', l1', l2'⟩ := yw_spare (g_trials := g_trials) (g_drafted := g_drafted) (g_found := g_found) (b_s := b_s) (b_saved := b_saved) (b_draft := b_draft) (b_who := b_who) (b_met := b_met) (b_stack := b_stack) (b_fresh := b_fresh) (b_deep := b_deep) (b_alike := b_alike) (b_meets := b_meets) P.2.1
          rw [yU] at l1'
          refine l2 _ ?_
          rcases l1 with ⟨er, all⟩ | ⟨z, hz, er, nz, lz⟩
          · have er' : r' = -2 := by
              rcases l1' with q | ⟨z, hz, _, nz, _⟩
              · exact q.1
              · exact absurd (all z hz) nz
            subst er er'
            refine br_t rfl (topY _ _ ?_)
            refine yw_isUsed_t (g_trials := g_trials) (g_drafted := g_drafted) (g_found := g_found) (b_s := b_s) (b_saved := b_saved) (b_draft := b_draft) (b_who := b_who) (b_met := b_met) (b_stack := b_stack) (b_fresh := b_fresh) (b_deep := b_deep) (b_alike := b_alike) (b_meets := b_meets) (re_pos P ux) _ (br_f (by decide) (l2' _ ?_))
            exact br_f (by decide) ⟨rfl, R⟩
          · have er' : r' = nI z := by
              rcases l1' with q | ⟨z', hz', e', nz', lz'⟩
              · exact absurd (q.2 z hz) nz
              · rw [e', lu_one nz lz nz' lz']
            subst er er'
            obtain ⟨a1, t1, t2⟩ := xw_take (f_trials := f_trials) (f_drafted := f_drafted) (f_pairs := f_pairs) (f_metCount := f_metCount) (f_meetingCount := f_meetingCount) (a_held := a_held) (a_saved := a_saved) (a_draft := a_draft) (a_toldBefore := a_toldBefore) (a_pairX := a_pairX) (a_pairY := a_pairY) (a_stack := a_stack) (a_met := a_met) (a_metAs := a_metAs) (a_copies := a_copies) (a_meetings := a_meetings) (a_wasMeeting := a_wasMeeting) (a_firstMet := a_firstMet) (a_depths := a_depths) (a_isKept := a_isKept) hz
            obtain ⟨s1, u1, u2⟩ := yw_use (g_trials := g_trials) (g_drafted := g_drafted) (g_found := g_found) (b_s := b_s) (b_saved := b_saved) (b_draft := b_draft) (b_who := b_who) (b_met := b_met) (b_stack := b_stack) (b_fresh := b_fresh) (b_deep := b_deep) (b_alike := b_alike) (b_meets := b_meets) hz
            have C1 := tk_C C hz nz t1 u1
            have P1 := C1.1
            obtain ⟨zL, zK, zU⟩ := tk_Xz t1 hz
            have nw : w ≠ z := fun q => nz (by rw [← q]; exact uw)
            have nx : x ≠ z := fun q => nz (by rw [← q]; exact ux)
            have uw1 : xv_U a1 w := (tk_XL t1 hz nw).2.2.2.2.mpr uw
            have ux1 : xv_U a1 x := (tk_XL t1 hz nx).2.2.2.2.mpr ux
            have ea1 : a1 (520 + e) = nI w := by
              rw [t1.2.2.2.2.2 _ (by omega) (by omega) (by omega) (by omega) (by omega)]; exact ew
            have es1 : s1 (568 + e) = nI w := by
              rw [u1.2.2.2.2.2 _ (by omega) (by omega) (by omega) (by omega) (by omega)]; exact ewY
            obtain ⟨rr, m', a2, tb, px, py, f1, f2⟩ := xw_tellRecord (f_trials := f_trials) (f_drafted := f_drafted) (f_pairs := f_pairs) (f_metCount := f_metCount) (f_meetingCount := f_meetingCount) (a_held := a1) (a_saved := a_saved) (a_draft := a_draft) (a_toldBefore := a_toldBefore) (a_pairX := a_pairX) (a_pairY := a_pairY) (a_stack := a_stack) (a_met := a_met) (a_metAs := a_metAs) (a_copies := a_copies) (a_meetings := a_meetings) (a_wasMeeting := a_wasMeeting) (a_firstMet := a_firstMet) (a_depths := a_depths) (a_isKept := a_isKept) (re_G P1) (x := w) (l := 7) (c := 2) (p0 := x) (p1 := z) (p2 := z) (p := fun i => if i = 0 then x else z) uw1 (by omega) (by omega) x48 hz hz rfl rfl rfl (by
              intro k hk
              show xv_U a1 (if k = 0 then x else z)
              by_cases q : k = 0
              · rw [if_pos q]; exact ux1
              · rw [if_neg q]; exact zU)
            have Np : re_N (25 * k) (upd a1 (520 + e) (nI z)) (upd s1 (568 + e) (nI z)) := en_N (by omega) P1.2.2.2.2.2 (Or.inr ⟨z, zU, rfl⟩) ⟨pk_us, fun i hi => pk_un hi⟩ ⟨pk_us, fun i hi => pk_un hi⟩
            have Pp := re_P_N P1 (a' := upd a1 (520 + e) (nI z)) (s' := upd s1 (568 + e) (nI z)) (fun i hi => pk_un (by omega)) (fun i hi => pk_un (by omega)) Np
            have Up : xv_U (upd a1 (520 + e) (nI z)) = xv_U a1 := (xv_congr (fun i hi => pk_un (by omega))).1
            have lw := (P1.2.2.2.2.1.1 w uw1).2.1.1
            have f1' := tv_up (i := 520 + e) (v := nI z) (by omega) lw f1
            have ect : ma_ct (nI (2 + 4 * 7 + 2), (0 : Int32)).1 = 2 := ma_ct_rec (by omega) (by omega)
            have o := tf_all (g_trials := g_trials) (g_drafted := g_drafted) (g_found := g_found) (b_s := upd s1 (568 + e) (nI z)) (b_saved := b_saved) (b_draft := upd (upd b_draft 0 (nI x)) 1 (nI z)) (b_who := b_who) (b_met := b_met) (b_stack := b_stack) (b_fresh := b_fresh) (b_deep := b_deep) (b_alike := b_alike) (b_meets := b_meets) (kind := 2) (num := 0) (label := 7) (count := 2) Pp (by rw [Up]; exact uw1) (Or.inr ⟨7, 2, by omega, by omega, rfl, rfl, rfl, rfl, rfl⟩) (by
              intro k hk
              rw [ect] at hk
              rw [Up]
              show upd (upd b_draft 0 (nI x)) 1 (nI z) k = nI (if k = 0 then x else z) ∧ xv_U a1 (if k = 0 then x else z)
              by_cases q : k = 0
              · rw [if_pos q, q, pk_un (by omega), pk_us]; exact ⟨rfl, ux1⟩
              · have q1 : k = 1 := by omega
                rw [if_neg q, q1, pk_us]; exact ⟨rfl, zU⟩) f1'
            have dr : ∀ i, i < 3 → upd (upd (upd (upd b_draft 0 (nI x)) 1 (nI z)) 0 (b_draft 0)) 1 (b_draft 1) i = b_draft i := by
              intro i hi
              by_cases q1 : i = 1
              · rw [q1, pk_us]
              · rw [pk_un q1]
                by_cases q0 : i = 0
                · rw [q0, pk_us]
                · rw [pk_un q0, pk_un q1, pk_un q0]
            have hDr' : ∀ i, i < 3 → a_draft i = upd (upd (upd (upd b_draft 0 (nI x)) 1 (nI z)) 0 (b_draft 0)) 1 (b_draft 1) i ∧ ∃ q, q < 48 ∧ a_draft i = nI q := by
              intro i hi
              rw [dr i hi]; exact hDr i hi
            refine br_f (fun q => (li_nn1 (by omega)).mp q) (t2 _ ⟨vin, ?_⟩)
            rw [ea1]
            refine f2 _ ?_
            rcases o with ⟨o1, o2, s', g1, g2⟩ | ⟨o1, s', g1, g2⟩
            · subst o1
              have ea2 := tv_2 f1
              subst ea2
              refine br_t rfl (xw_release (f_trials := f_trials) (f_drafted := f_drafted) (f_pairs := m') (f_metCount := f_metCount) (f_meetingCount := f_meetingCount) (a_held := a2) (a_saved := a_saved) (a_draft := a_draft) (a_toldBefore := tb) (a_pairX := px) (a_pairY := py) (a_stack := a_stack) (a_met := a_met) (a_metAs := a_metAs) (a_copies := a_copies) (a_meetings := a_meetings) (a_wasMeeting := a_wasMeeting) (a_firstMet := a_firstMet) (a_depths := a_depths) (a_isKept := a_isKept) hz _ (topY _ _ ?_))
              refine yw_isUsed_t (g_trials := g_trials) (g_drafted := g_drafted) (g_found := g_found) (b_s := b_s) (b_saved := b_saved) (b_draft := b_draft) (b_who := b_who) (b_met := b_met) (b_stack := b_stack) (b_fresh := b_fresh) (b_deep := b_deep) (b_alike := b_alike) (b_meets := b_meets) (re_pos P ux) _ (br_f (by decide) (l2' _ (br_t (nI_pos' (by omega)) (u2 _ ?_))))
              refine nm_e (nm_e (nm_e (nm_e ⟨vinY, ?_⟩)))
              rw [clY, es1]
              refine nm_e ⟨vinY, nm_e (g2 _ ?_)⟩
              refine nm_e (nm_e (br_t rfl ?_))
              simp (disch := omega) only [forall_eq, true_and, and_true, Nat.zero_add, nI_clamp, li_vin, nI_add, nI_eq, nI_leI, nI_ltI, li_0le, li_lt0, li_nn1, li_e0, not_true_eq_false, not_false_eq_true, false_implies, true_implies, forall_const, li_a0, li_b0, li_a1, li_b1, li_a2, li_b2, li_a3, li_b3, li_a7, li_b7, li_a8, li_b8, li_a16, li_b16, li_a48, li_b48, li_a584, li_b584, li_a572, li_b572, li_a96, li_b96, li_a144, li_b144, li_a192, li_b192, li_a240, li_b240, li_a336, li_b336, li_a384, li_b384, li_a432, li_b432, li_a480, li_b480, li_a488, li_b488, li_a496, li_b496, li_a504, li_b504, li_a512, li_b512, li_a520, li_b520, li_a524, li_b524, li_a528, li_b528, li_a536, li_b536, li_a544, li_b544, li_a552, li_b552, li_a560, li_b560, li_a568, li_b568, li_a573, li_b573, li_a585, li_b585, li_a633, li_b633, li_m3, li_n3, li_m4, li_n4, li_m48, li_n48, li_m50, li_n50, li_m585, li_n585, li_m633, li_n633, li_lt2, li_ge2, li_le2, li_gt2, li_lt1, li_ge1, li_le1, li_gt1, li_lt3, li_ge3, li_le3, li_gt3, li_lt4, li_ge4, li_le4, li_gt4, li_lt7, li_ge7, li_le7, li_gt7, li_lt8, li_ge8, li_le8, li_gt8, li_lt40, li_ge40, li_le40, li_gt40, li_lt240, li_ge240, li_le240, li_gt240, li_lt41, li_ge41, li_le41, li_gt41, li_lt48, li_ge48, li_le48, li_gt48, li_lt49, li_ge49, li_le49, li_gt49, li_lt60, li_ge60, li_le60, li_gt60, li_lt144, li_ge144, li_le144, li_gt144, li_lt145, li_ge145, li_le145, li_gt145, li_lt160, li_ge160, li_le160, li_gt160, li_lt336, li_ge336, li_le336, li_gt336, li_lt585, li_ge585, li_le585, li_gt585, li_lt633, li_ge633, li_le633, li_gt633, li_lt1000000, li_ge1000000, li_le1000000, li_gt1000000, li_lt2304, li_ge2304, li_le2304, li_gt2304, li_lt50, li_ge50, li_le50, li_gt50, li_le0, li_gt0]
              have Cr := rm_C C hz nz t1 u1
              have F : tf_F (upd s1 (384 + z) 0) (upd (upd s' (568 + e) (nI w)) (384 + z) 0) w := by
                rcases g1 with g1 | ⟨g1, g2, g3, g4⟩
                · refine Or.inl (fun i hi => ?_)
                  by_cases q1 : i = 384 + z
                  · rw [q1, pk_us, pk_us]
                  · rw [pk_un q1, pk_un q1]
                    by_cases q2 : i = 568 + e
                    · rw [q2, pk_us, es1]
                    · rw [pk_un q2, g1 i hi, pk_un q2]
                · refine Or.inr ⟨?_, ?_, fun k hk => ?_, fun i a1 a2 a3 a4 a5 a6 => ?_⟩
                  · rw [pk_un (by omega)]
                    rw [pk_un (by omega)] at g1
                    exact g1
                  · rw [pk_un (by omega), pk_un (by omega)]; exact g2
                  · rw [pk_un (by omega), pk_un (by omega)]; exact g3 k hk
                  · by_cases q1 : i = 384 + z
                    · rw [q1, pk_us, pk_us]
                    · rw [pk_un q1, pk_un q1]
                      by_cases q2 : i = 568 + e
                      · rw [q2, pk_us, es1]
                      · rw [pk_un q2, g4 i a1 a2 a3 a4 a5 a6, pk_un q2]
              exact ⟨t, d, t3, d3, eT, eT', eD, eD', hDr', re_C_mono (by omega) ⟨tf_P Cr.1 w48 F, Cr.2⟩, fun j hj => re_C_mono (by omega) (hS j hj)⟩
            · subst o1
              refine br_f (by decide) ⟨vin, ?_⟩
              obtain ⟨m2, a3, tb2, px2, py2, s2, wh, al, h1, h2, h3'⟩ := st_settle (f_trials := f_trials) (f_drafted := f_drafted) (f_pairs := m') (f_metCount := f_metCount) (f_meetingCount := f_meetingCount) (a_held := upd a2 (520 + e) (nI z)) (a_saved := a_saved) (a_draft := a_draft) (a_toldBefore := tb) (a_pairX := px) (a_pairY := py) (a_stack := a_stack) (a_met := a_met) (a_metAs := a_metAs) (a_copies := a_copies) (a_meetings := a_meetings) (a_wasMeeting := a_wasMeeting) (a_firstMet := a_firstMet) (a_depths := a_depths) (a_isKept := a_isKept) (g_trials := g_trials) (g_drafted := g_drafted) (g_found := g_found) (b_s := s') (b_saved := b_saved) (b_draft := upd (upd b_draft 0 (nI x)) 1 (nI z)) (b_who := b_who) (b_met := b_met) (b_stack := b_stack) (b_fresh := b_fresh) (b_deep := b_deep) (b_alike := b_alike) (b_meets := b_meets) (by omega) g1
              refine nm_e (h2 _ (topY _ _ ?_))
              refine yw_isUsed_t (g_trials := g_trials) (g_drafted := g_drafted) (g_found := g_found) (b_s := b_s) (b_saved := b_saved) (b_draft := b_draft) (b_who := b_who) (b_met := b_met) (b_stack := b_stack) (b_fresh := b_fresh) (b_deep := b_deep) (b_alike := b_alike) (b_meets := b_meets) (re_pos P ux) _ (br_f (by decide) (l2' _ (br_t (nI_pos' (by omega)) (u2 _ ?_))))
              refine nm_e (nm_e (nm_e (nm_e ⟨vinY, ?_⟩)))
              rw [clY, es1]
              refine nm_e ⟨vinY, nm_e (g2 _ (h3' _ ?_))⟩
              refine nm_e (nm_e (br_f (by decide) ⟨rfl, ?_⟩))
              exact ⟨t, d, t3, d3, eT, eT', eD, eD', hDr', re_C_mono (by omega) h1, fun j hj => re_C_mono (by omega) (hS j hj)⟩
        · refine xw_inUse_f (f_trials := f_trials) (f_drafted := f_drafted) (f_pairs := f_pairs) (f_metCount := f_metCount) (f_meetingCount := f_meetingCount) (a_held := a_held) (a_saved := a_saved) (a_draft := a_draft) (a_toldBefore := a_toldBefore) (a_pairX := a_pairX) (a_pairY := a_pairY) (a_stack := a_stack) (a_met := a_met) (a_metAs := a_metAs) (a_copies := a_copies) (a_meetings := a_meetings) (a_wasMeeting := a_wasMeeting) (a_firstMet := a_firstMet) (a_depths := a_depths) (a_isKept := a_isKept) hx _ (br_t rfl (topY _ _ ?_))
          exact yw_isUsed_f (g_trials := g_trials) (g_drafted := g_drafted) (g_found := g_found) (b_s := b_s) (b_saved := b_saved) (b_draft := b_draft) (b_who := b_who) (b_met := b_met) (b_stack := b_stack) (b_fresh := b_fresh) (b_deep := b_deep) (b_alike := b_alike) (b_meets := b_meets) (re_neg P hx) _ (br_t rfl ⟨rfl, R⟩)
end
section
noncomputable def sc_n (P : Nat → Prop) (n : Nat) : Nat := ma_cnt (fun x => @decide (P x) (Classical.propDecidable _)) n
theorem sc_y {P : Nat → Prop} {n : Nat} (h : P n) : sc_n P (n + 1) = sc_n P n + 1 := by
  unfold sc_n
  show ma_cnt _ n + (if _ = true then 1 else 0) = _
  rw [if_pos (@decide_eq_true _ (Classical.propDecidable _) h)]
theorem sc_no {P : Nat → Prop} {n : Nat} (h : ¬ P n) : sc_n P (n + 1) = sc_n P n := by
  unfold sc_n
  show ma_cnt _ n + (if _ = true then 1 else 0) = _
  rw [if_neg (fun q => h (@of_decide_eq_true _ (Classical.propDecidable _) q))]
  rfl
theorem sc_0 (P : Nat → Prop) : sc_n P 0 = 0 := rfl
theorem sc_congr {P Q : Nat → Prop} {n : Nat} (h : ∀ i, i < n → (P i ↔ Q i)) : sc_n P n = sc_n Q n := by
  induction n with
  | zero => rfl
  | succ n ih =>
    have e := ih (fun i hi => h i (by omega))
    by_cases q : P n
    · rw [sc_y q, sc_y ((h n (by omega)).mp q), e]
    · rw [sc_no q, sc_no (fun z => q ((h n (by omega)).mpr z)), e]
theorem xw_usedCount {f_trials f_drafted f_pairs f_metCount f_meetingCount : Int32} {a_held a_saved a_draft a_toldBefore a_pairX a_pairY a_stack a_met a_metAs a_copies a_meetings a_wasMeeting a_firstMet a_depths a_isKept : Nat → Int32} (h : xv_H a_held) : ∀ post : Int32 → Prop, post (nI (sc_n (xv_U a_held) 48)) → wpX_usedCount post (f_trials, f_drafted, f_pairs, f_metCount, f_meetingCount, a_held, a_saved, a_draft, a_toldBefore, a_pairX, a_pairY, a_stack, a_met, a_metAs, a_copies, a_meetings, a_wasMeeting, a_firstMet, a_depths, a_isKept) := by
  have lp : ∀ d j, j + d = 48 → ∀ post : Int32 → Prop, post (nI (sc_n (xv_U a_held) 48)) → wX_usedCount_4 post f_trials f_drafted f_pairs f_metCount f_meetingCount a_held a_saved a_draft a_toldBefore a_pairX a_pairY a_stack a_met a_metAs a_copies a_meetings a_wasMeeting a_firstMet a_depths a_isKept (d + 1) (nI (sc_n (xv_U a_held) j)) (nI j) := by
    intro d
    induction d with
    | zero =>
      intro j hj post hp
      unfold wX_usedCount_4
      simp (disch := omega) only [forall_eq, true_and, and_true, Nat.zero_add, nI_clamp, li_vin, nI_add, nI_eq, nI_leI, nI_ltI, li_0le, li_lt0, li_nn1, li_e0, not_true_eq_false, not_false_eq_true, false_implies, true_implies, forall_const, li_a0, li_b0, li_a1, li_b1, li_a2, li_b2, li_a3, li_b3, li_a7, li_b7, li_a8, li_b8, li_a16, li_b16, li_a48, li_b48, li_a584, li_b584, li_a572, li_b572, li_a96, li_b96, li_a144, li_b144, li_a192, li_b192, li_a240, li_b240, li_a336, li_b336, li_a384, li_b384, li_a432, li_b432, li_a480, li_b480, li_a488, li_b488, li_a496, li_b496, li_a504, li_b504, li_a512, li_b512, li_a520, li_b520, li_a524, li_b524, li_a528, li_b528, li_a536, li_b536, li_a544, li_b544, li_a552, li_b552, li_a560, li_b560, li_a568, li_b568, li_a573, li_b573, li_a585, li_b585, li_a633, li_b633, li_m3, li_n3, li_m4, li_n4, li_m48, li_n48, li_m50, li_n50, li_m585, li_n585, li_m633, li_n633, li_lt2, li_ge2, li_le2, li_gt2, li_lt1, li_ge1, li_le1, li_gt1, li_lt3, li_ge3, li_le3, li_gt3, li_lt4, li_ge4, li_le4, li_gt4, li_lt7, li_ge7, li_le7, li_gt7, li_lt8, li_ge8, li_le8, li_gt8, li_lt40, li_ge40, li_le40, li_gt40, li_lt240, li_ge240, li_le240, li_gt240, li_lt41, li_ge41, li_le41, li_gt41, li_lt48, li_ge48, li_le48, li_gt48, li_lt49, li_ge49, li_le49, li_gt49, li_lt60, li_ge60, li_le60, li_gt60, li_lt144, li_ge144, li_le144, li_gt144, li_lt145, li_ge145, li_le145, li_gt145, li_lt160, li_ge160, li_le160, li_gt160, li_lt336, li_ge336, li_le336, li_gt336, li_lt585, li_ge585, li_le585, li_gt585, li_lt633, li_ge633, li_le633, li_gt633, li_lt1000000, li_ge1000000, li_le1000000, li_gt1000000, li_lt2304, li_ge2304, li_le2304, li_gt2304, li_lt50, li_ge50, li_le50, li_gt50, li_le0, li_gt0]
      exact ⟨fun _ => by rw [show j = 48 from by omega]; exact hp, fun q => by omega⟩
    | succ d ih =>
      intro j hj post hp
      have h2 := ih (j + 1) (by omega) post hp
      rcases h.2.2.2.1 j (by omega) with q | q
      · have nu : ¬ xv_U a_held j := fun u => by have := u.2; rw [q] at this; exact absurd this (by decide)
        rw [sc_no nu] at h2
        unfold wX_usedCount_4
        simp (disch := omega) only [forall_eq, true_and, and_true, Nat.zero_add, nI_clamp, li_vin, nI_add, nI_eq, nI_leI, nI_ltI, li_0le, li_lt0, li_nn1, li_e0, not_true_eq_false, not_false_eq_true, false_implies, true_implies, forall_const, li_a0, li_b0, li_a1, li_b1, li_a2, li_b2, li_a3, li_b3, li_a7, li_b7, li_a8, li_b8, li_a16, li_b16, li_a48, li_b48, li_a584, li_b584, li_a572, li_b572, li_a96, li_b96, li_a144, li_b144, li_a192, li_b192, li_a240, li_b240, li_a336, li_b336, li_a384, li_b384, li_a432, li_b432, li_a480, li_b480, li_a488, li_b488, li_a496, li_b496, li_a504, li_b504, li_a512, li_b512, li_a520, li_b520, li_a524, li_b524, li_a528, li_b528, li_a536, li_b536, li_a544, li_b544, li_a552, li_b552, li_a560, li_b560, li_a568, li_b568, li_a573, li_b573, li_a585, li_b585, li_a633, li_b633, li_m3, li_n3, li_m4, li_n4, li_m48, li_n48, li_m50, li_n50, li_m585, li_n585, li_m633, li_n633, li_lt2, li_ge2, li_le2, li_gt2, li_lt1, li_ge1, li_le1, li_gt1, li_lt3, li_ge3, li_le3, li_gt3, li_lt4, li_ge4, li_le4, li_gt4, li_lt7, li_ge7, li_le7, li_gt7, li_lt8, li_ge8, li_le8, li_gt8, li_lt40, li_ge40, li_le40, li_gt40, li_lt240, li_ge240, li_le240, li_gt240, li_lt41, li_ge41, li_le41, li_gt41, li_lt48, li_ge48, li_le48, li_gt48, li_lt49, li_ge49, li_le49, li_gt49, li_lt60, li_ge60, li_le60, li_gt60, li_lt144, li_ge144, li_le144, li_gt144, li_lt145, li_ge145, li_le145, li_gt145, li_lt160, li_ge160, li_le160, li_gt160, li_lt336, li_ge336, li_le336, li_gt336, li_lt585, li_ge585, li_le585, li_gt585, li_lt633, li_ge633, li_le633, li_gt633, li_lt1000000, li_ge1000000, li_le1000000, li_gt1000000, li_lt2304, li_ge2304, li_le2304, li_gt2304, li_lt50, li_ge50, li_le50, li_gt50, li_le0, li_gt0, q, Int32.add_zero]
        exact ⟨fun q => by omega, fun _ => h2⟩
      · rw [sc_y (show xv_U a_held j from ⟨by omega, q⟩)] at h2
        unfold wX_usedCount_4
        simp (disch := omega) only [forall_eq, true_and, and_true, Nat.zero_add, nI_clamp, li_vin, nI_add, nI_eq, nI_leI, nI_ltI, li_0le, li_lt0, li_nn1, li_e0, not_true_eq_false, not_false_eq_true, false_implies, true_implies, forall_const, li_a0, li_b0, li_a1, li_b1, li_a2, li_b2, li_a3, li_b3, li_a7, li_b7, li_a8, li_b8, li_a16, li_b16, li_a48, li_b48, li_a584, li_b584, li_a572, li_b572, li_a96, li_b96, li_a144, li_b144, li_a192, li_b192, li_a240, li_b240, li_a336, li_b336, li_a384, li_b384, li_a432, li_b432, li_a480, li_b480, li_a488, li_b488, li_a496, li_b496, li_a504, li_b504, li_a512, li_b512, li_a520, li_b520, li_a524, li_b524, li_a528, li_b528, li_a536, li_b536, li_a544, li_b544, li_a552, li_b552, li_a560, li_b560, li_a568, li_b568, li_a573, li_b573, li_a585, li_b585, li_a633, li_b633, li_m3, li_n3, li_m4, li_n4, li_m48, li_n48, li_m50, li_n50, li_m585, li_n585, li_m633, li_n633, li_lt2, li_ge2, li_le2, li_gt2, li_lt1, li_ge1, li_le1, li_gt1, li_lt3, li_ge3, li_le3, li_gt3, li_lt4, li_ge4, li_le4, li_gt4, li_lt7, li_ge7, li_le7, li_gt7, li_lt8, li_ge8, li_le8, li_gt8, li_lt40, li_ge40, li_le40, li_gt40, li_lt240, li_ge240, li_le240, li_gt240, li_lt41, li_ge41, li_le41, li_gt41, li_lt48, li_ge48, li_le48, li_gt48, li_lt49, li_ge49, li_le49, li_gt49, li_lt60, li_ge60, li_le60, li_gt60, li_lt144, li_ge144, li_le144, li_gt144, li_lt145, li_ge145, li_le145, li_gt145, li_lt160, li_ge160, li_le160, li_gt160, li_lt336, li_ge336, li_le336, li_gt336, li_lt585, li_ge585, li_le585, li_gt585, li_lt633, li_ge633, li_le633, li_gt633, li_lt1000000, li_ge1000000, li_le1000000, li_gt1000000, li_lt2304, li_ge2304, li_le2304, li_gt2304, li_lt50, li_ge50, li_le50, li_gt50, li_le0, li_gt0, q]
        exact ⟨fun q => by omega, fun _ => h2⟩
  intro post hp
  unfold wpX_usedCount
  refine ⟨49, ?_⟩
  have := lp 48 0 rfl post hp
  rw [sc_0] at this
  exact this
/-- what classCount counts -/
def sc_P (a : Nat → Int32) (f : Prop) (x : Nat) : Prop := xv_U a x ∧ xv_L a x = x ∧ (f → xv_K a x = 0)
theorem xw_classCount {f_trials f_drafted f_pairs f_metCount f_meetingCount : Int32} {a_held a_saved a_draft a_toldBefore a_pairX a_pairY a_stack a_met a_metAs a_copies a_meetings a_wasMeeting a_firstMet a_depths a_isKept : Nat → Int32} (h : xv_H a_held) {f : Int32} (hf : f = 0 ∨ f = 1) : ∀ post : Int32 → Prop, post (nI (sc_n (sc_P a_held (f = 1)) 48)) → wpX_classCount post (f_trials, f_drafted, f_pairs, f_metCount, f_meetingCount, a_held, a_saved, a_draft, a_toldBefore, a_pairX, a_pairY, a_stack, a_met, a_metAs, a_copies, a_meetings, a_wasMeeting, a_firstMet, a_depths, a_isKept) f := by
  have lp : ∀ d j, j + d = 48 → ∀ post : Int32 → Prop, post (nI (sc_n (sc_P a_held (f = 1)) 48)) → wX_classCount_4 post f f_trials f_drafted f_pairs f_metCount f_meetingCount a_held a_saved a_draft a_toldBefore a_pairX a_pairY a_stack a_met a_metAs a_copies a_meetings a_wasMeeting a_firstMet a_depths a_isKept (d + 1) (nI (sc_n (sc_P a_held (f = 1)) j)) (nI j) := by
    intro d
    induction d with
    | zero =>
      intro j hj post hp
      unfold wX_classCount_4
      simp (disch := omega) only [forall_eq, true_and, and_true, Nat.zero_add, nI_clamp, li_vin, nI_add, nI_eq, nI_leI, nI_ltI, li_0le, li_lt0, li_nn1, li_e0, not_true_eq_false, not_false_eq_true, false_implies, true_implies, forall_const, li_a0, li_b0, li_a1, li_b1, li_a2, li_b2, li_a3, li_b3, li_a7, li_b7, li_a8, li_b8, li_a16, li_b16, li_a48, li_b48, li_a584, li_b584, li_a572, li_b572, li_a96, li_b96, li_a144, li_b144, li_a192, li_b192, li_a240, li_b240, li_a336, li_b336, li_a384, li_b384, li_a432, li_b432, li_a480, li_b480, li_a488, li_b488, li_a496, li_b496, li_a504, li_b504, li_a512, li_b512, li_a520, li_b520, li_a524, li_b524, li_a528, li_b528, li_a536, li_b536, li_a544, li_b544, li_a552, li_b552, li_a560, li_b560, li_a568, li_b568, li_a573, li_b573, li_a585, li_b585, li_a633, li_b633, li_m3, li_n3, li_m4, li_n4, li_m48, li_n48, li_m50, li_n50, li_m585, li_n585, li_m633, li_n633, li_lt2, li_ge2, li_le2, li_gt2, li_lt1, li_ge1, li_le1, li_gt1, li_lt3, li_ge3, li_le3, li_gt3, li_lt4, li_ge4, li_le4, li_gt4, li_lt7, li_ge7, li_le7, li_gt7, li_lt8, li_ge8, li_le8, li_gt8, li_lt40, li_ge40, li_le40, li_gt40, li_lt240, li_ge240, li_le240, li_gt240, li_lt41, li_ge41, li_le41, li_gt41, li_lt48, li_ge48, li_le48, li_gt48, li_lt49, li_ge49, li_le49, li_gt49, li_lt60, li_ge60, li_le60, li_gt60, li_lt144, li_ge144, li_le144, li_gt144, li_lt145, li_ge145, li_le145, li_gt145, li_lt160, li_ge160, li_le160, li_gt160, li_lt336, li_ge336, li_le336, li_gt336, li_lt585, li_ge585, li_le585, li_gt585, li_lt633, li_ge633, li_le633, li_gt633, li_lt1000000, li_ge1000000, li_le1000000, li_gt1000000, li_lt2304, li_ge2304, li_le2304, li_gt2304, li_lt50, li_ge50, li_le50, li_gt50, li_le0, li_gt0]
      exact ⟨fun _ => by rw [show j = 48 from by omega]; exact hp, fun q => by omega⟩
    | succ d ih =>
      intro j hj post hp
      have h2 := ih (j + 1) (by omega) post hp
      obtain ⟨eL, lL⟩ := xv_HL h (x := j) (by omega)
      rw [wX_classCount_4]
      dsimp only
      refine br_f (fun q => by have := (li_ge48 (by omega)).mp q; omega) ?_
      by_cases u : xv_U a_held j
      · refine xw_inUse_t (f_trials := f_trials) (f_drafted := f_drafted) (f_pairs := f_pairs) (f_metCount := f_metCount) (f_meetingCount := f_meetingCount) (a_held := a_held) (a_saved := a_saved) (a_draft := a_draft) (a_toldBefore := a_toldBefore) (a_pairX := a_pairX) (a_pairY := a_pairY) (a_stack := a_stack) (a_met := a_met) (a_metAs := a_metAs) (a_copies := a_copies) (a_meetings := a_meetings) (a_wasMeeting := a_wasMeeting) (a_firstMet := a_firstMet) (a_depths := a_depths) (a_isKept := a_isKept) u _ (br_f (by decide) ?_)
        simp (disch := omega) only [forall_eq, true_and, and_true, Nat.zero_add, nI_clamp, li_vin, nI_add, nI_eq, nI_leI, nI_ltI, li_0le, li_lt0, li_nn1, li_e0, not_true_eq_false, not_false_eq_true, false_implies, true_implies, forall_const, li_a0, li_b0, li_a1, li_b1, li_a2, li_b2, li_a3, li_b3, li_a7, li_b7, li_a8, li_b8, li_a16, li_b16, li_a48, li_b48, li_a584, li_b584, li_a572, li_b572, li_a96, li_b96, li_a144, li_b144, li_a192, li_b192, li_a240, li_b240, li_a336, li_b336, li_a384, li_b384, li_a432, li_b432, li_a480, li_b480, li_a488, li_b488, li_a496, li_b496, li_a504, li_b504, li_a512, li_b512, li_a520, li_b520, li_a524, li_b524, li_a528, li_b528, li_a536, li_b536, li_a544, li_b544, li_a552, li_b552, li_a560, li_b560, li_a568, li_b568, li_a573, li_b573, li_a585, li_b585, li_a633, li_b633, li_m3, li_n3, li_m4, li_n4, li_m48, li_n48, li_m50, li_n50, li_m585, li_n585, li_m633, li_n633, li_lt2, li_ge2, li_le2, li_gt2, li_lt1, li_ge1, li_le1, li_gt1, li_lt3, li_ge3, li_le3, li_gt3, li_lt4, li_ge4, li_le4, li_gt4, li_lt7, li_ge7, li_le7, li_gt7, li_lt8, li_ge8, li_le8, li_gt8, li_lt40, li_ge40, li_le40, li_gt40, li_lt240, li_ge240, li_le240, li_gt240, li_lt41, li_ge41, li_le41, li_gt41, li_lt48, li_ge48, li_le48, li_gt48, li_lt49, li_ge49, li_le49, li_gt49, li_lt60, li_ge60, li_le60, li_gt60, li_lt144, li_ge144, li_le144, li_gt144, li_lt145, li_ge145, li_le145, li_gt145, li_lt160, li_ge160, li_le160, li_gt160, li_lt336, li_ge336, li_le336, li_gt336, li_lt585, li_ge585, li_le585, li_gt585, li_lt633, li_ge633, li_le633, li_gt633, li_lt1000000, li_ge1000000, li_le1000000, li_gt1000000, li_lt2304, li_ge2304, li_le2304, li_gt2304, li_lt50, li_ge50, li_le50, li_gt50, li_le0, li_gt0, eL]
        by_cases l : xv_L a_held j = j
        · refine br_t l ?_
          rcases hf with z | z
          · subst z
            rw [sc_y (show sc_P a_held ((0 : Int32) = 1) j from ⟨u, l, fun q => absurd q (by decide)⟩)] at h2
            exact br_t rfl h2
          · subst z
            refine br_f (by decide) ?_
            refine xw_isFree (f_trials := f_trials) (f_drafted := f_drafted) (f_pairs := f_pairs) (f_metCount := f_metCount) (f_meetingCount := f_meetingCount) (a_held := a_held) (a_saved := a_saved) (a_draft := a_draft) (a_toldBefore := a_toldBefore) (a_pairX := a_pairX) (a_pairY := a_pairY) (a_stack := a_stack) (a_met := a_met) (a_metAs := a_metAs) (a_copies := a_copies) (a_meetings := a_meetings) (a_wasMeeting := a_wasMeeting) (a_firstMet := a_firstMet) (a_depths := a_depths) (a_isKept := a_isKept) h (by omega) _ (fun k0 => br_f (by decide) ?_) (fun k0 => br_t rfl ?_)
            · rw [l] at k0
              rw [sc_y (show sc_P a_held ((1 : Int32) = 1) j from ⟨u, l, fun _ => k0⟩)] at h2
              exact h2
            · rw [l] at k0
              rw [sc_no (show ¬ sc_P a_held ((1 : Int32) = 1) j from fun q => k0 (q.2.2 rfl))] at h2
              exact h2
        · rw [sc_no (show ¬ sc_P a_held (f = 1) j from fun q => l q.2.1)] at h2
          exact br_f l h2
      · rw [sc_no (show ¬ sc_P a_held (f = 1) j from fun q => u q.1)] at h2
        refine xw_inUse_f (f_trials := f_trials) (f_drafted := f_drafted) (f_pairs := f_pairs) (f_metCount := f_metCount) (f_meetingCount := f_meetingCount) (a_held := a_held) (a_saved := a_saved) (a_draft := a_draft) (a_toldBefore := a_toldBefore) (a_pairX := a_pairX) (a_pairY := a_pairY) (a_stack := a_stack) (a_met := a_met) (a_metAs := a_metAs) (a_copies := a_copies) (a_meetings := a_meetings) (a_wasMeeting := a_wasMeeting) (a_firstMet := a_firstMet) (a_depths := a_depths) (a_isKept := a_isKept) (fun ⟨y, uy, ey⟩ => ?_) _ (br_t rfl (nm_r (nI_1 j) h2))
        have : j = y := (nI_eq (by omega) (by have := uy.1; omega)).mp ey
        rw [this] at u
        exact u uy
  intro post hp
  unfold wpX_classCount
  refine ⟨49, ?_⟩
  have := lp 48 0 rfl post hp
  rw [sc_0] at this
  exact this
theorem yw_state_46 {g_trials g_drafted g_found : Int32} {b_s b_saved b_draft b_who b_met b_stack b_fresh b_deep : Nat → Int32} {b_alike b_meets : Nat → Int64} {B : Nat} {a : Nat → Int32} {w : Nat} {al : Nat → Int64} (hr : re_P B a b_s) (hw : w ≤ 2) (hV : ∀ x, xv_U a x → (xv_K a (xv_L a x) = 0 ∧ b_who x = -1) ∨ (xv_K a (xv_L a x) ≠ 0 ∧ ∃ j, j < 48 ∧ b_who x = nI j)) : ∀ d j, j + d = 48 → ∀ post : Int32 → SY → Prop, post (nI (sc_n (fun x => xv_U a x ∧ (w = 0 ∨ (xv_L a x = x ∧ (w = 1 ∨ xv_K a x = 0)))) 48)) (g_trials, g_drafted, g_found, b_s, b_saved, b_draft, b_who, b_met, b_stack, b_fresh, b_deep, b_alike, b_meets) → wY_state_46 post (nI w) g_trials g_drafted g_found b_s b_saved b_draft b_who b_met b_stack b_fresh b_deep b_alike b_meets (d + 1) (nI (sc_n (fun x => xv_U a x ∧ (w = 0 ∨ (xv_L a x = x ∧ (w = 1 ∨ xv_K a x = 0)))) j)) (nI j) := by
  have yU := re_U hr
  intro d
  induction d with
  | zero =>
    intro j hj post hp
    unfold wY_state_46
    simp (disch := omega) only [forall_eq, true_and, and_true, Nat.zero_add, nI_clamp, li_vin, nI_add, nI_eq, nI_leI, nI_ltI, li_0le, li_lt0, li_nn1, li_e0, not_true_eq_false, not_false_eq_true, false_implies, true_implies, forall_const, li_a0, li_b0, li_a1, li_b1, li_a2, li_b2, li_a3, li_b3, li_a7, li_b7, li_a8, li_b8, li_a16, li_b16, li_a48, li_b48, li_a584, li_b584, li_a572, li_b572, li_a96, li_b96, li_a144, li_b144, li_a192, li_b192, li_a240, li_b240, li_a336, li_b336, li_a384, li_b384, li_a432, li_b432, li_a480, li_b480, li_a488, li_b488, li_a496, li_b496, li_a504, li_b504, li_a512, li_b512, li_a520, li_b520, li_a524, li_b524, li_a528, li_b528, li_a536, li_b536, li_a544, li_b544, li_a552, li_b552, li_a560, li_b560, li_a568, li_b568, li_a573, li_b573, li_a585, li_b585, li_a633, li_b633, li_m3, li_n3, li_m4, li_n4, li_m48, li_n48, li_m50, li_n50, li_m585, li_n585, li_m633, li_n633, li_lt2, li_ge2, li_le2, li_gt2, li_lt1, li_ge1, li_le1, li_gt1, li_lt3, li_ge3, li_le3, li_gt3, li_lt4, li_ge4, li_le4, li_gt4, li_lt7, li_ge7, li_le7, li_gt7, li_lt8, li_ge8, li_le8, li_gt8, li_lt40, li_ge40, li_le40, li_gt40, li_lt240, li_ge240, li_le240, li_gt240, li_lt41, li_ge41, li_le41, li_gt41, li_lt48, li_ge48, li_le48, li_gt48, li_lt49, li_ge49, li_le49, li_gt49, li_lt60, li_ge60, li_le60, li_gt60, li_lt144, li_ge144, li_le144, li_gt144, li_lt145, li_ge145, li_le145, li_gt145, li_lt160, li_ge160, li_le160, li_gt160, li_lt336, li_ge336, li_le336, li_gt336, li_lt585, li_ge585, li_le585, li_gt585, li_lt633, li_ge633, li_le633, li_gt633, li_lt1000000, li_ge1000000, li_le1000000, li_gt1000000, li_lt2304, li_ge2304, li_le2304, li_gt2304, li_lt50, li_ge50, li_le50, li_gt50, li_le0, li_gt0]
    exact ⟨fun _ => by rw [show j = 48 from by omega]; exact hp, fun q => by omega⟩
  | succ d ih =>
    intro j hj post hp
    have h2 := ih (j + 1) (by omega) post hp
    rw [wY_state_46]
    dsimp only
    refine br_f (fun q => by have := (li_ge48 (by omega)).mp q; omega) ?_
    simp (disch := omega) only [forall_eq, true_and, and_true, Nat.zero_add, nI_clamp, li_vin, nI_add, nI_eq, nI_leI, nI_ltI, li_0le, li_lt0, li_nn1, li_e0, not_true_eq_false, not_false_eq_true, false_implies, true_implies, forall_const, li_a0, li_b0, li_a1, li_b1, li_a2, li_b2, li_a3, li_b3, li_a7, li_b7, li_a8, li_b8, li_a16, li_b16, li_a48, li_b48, li_a584, li_b584, li_a572, li_b572, li_a96, li_b96, li_a144, li_b144, li_a192, li_b192, li_a240, li_b240, li_a336, li_b336, li_a384, li_b384, li_a432, li_b432, li_a480, li_b480, li_a488, li_b488, li_a496, li_b496, li_a504, li_b504, li_a512, li_b512, li_a520, li_b520, li_a524, li_b524, li_a528, li_b528, li_a536, li_b536, li_a544, li_b544, li_a552, li_b552, li_a560, li_b560, li_a568, li_b568, li_a573, li_b573, li_a585, li_b585, li_a633, li_b633, li_m3, li_n3, li_m4, li_n4, li_m48, li_n48, li_m50, li_n50, li_m585, li_n585, li_m633, li_n633, li_lt2, li_ge2, li_le2, li_gt2, li_lt1, li_ge1, li_le1, li_gt1, li_lt3, li_ge3, li_le3, li_gt3, li_lt4, li_ge4, li_le4, li_gt4, li_lt7, li_ge7, li_le7, li_gt7, li_lt8, li_ge8, li_le8, li_gt8, li_lt40, li_ge40, li_le40, li_gt40, li_lt240, li_ge240, li_le240, li_gt240, li_lt41, li_ge41, li_le41, li_gt41, li_lt48, li_ge48, li_le48, li_gt48, li_lt49, li_ge49, li_le49, li_gt49, li_lt60, li_ge60, li_le60, li_gt60, li_lt144, li_ge144, li_le144, li_gt144, li_lt145, li_ge145, li_le145, li_gt145, li_lt160, li_ge160, li_le160, li_gt160, li_lt336, li_ge336, li_le336, li_gt336, li_lt585, li_ge585, li_le585, li_gt585, li_lt633, li_ge633, li_le633, li_gt633, li_lt1000000, li_ge1000000, li_le1000000, li_gt1000000, li_lt2304, li_ge2304, li_le2304, li_gt2304, li_lt50, li_ge50, li_le50, li_gt50, li_le0, li_gt0]
    by_cases u : xv_U a j
    · have uy : b_s (384 + j) = 1 := by
        have : yv_U b_s j := by rw [yU]; exact u
        exact this.2
      refine br_t uy ?_
      obtain ⟨eL, lL⟩ := re_Ls hr u
      by_cases w0 : w = 0
      · rw [sc_y (show (fun x => xv_U a x ∧ (w = 0 ∨ (xv_L a x = x ∧ (w = 1 ∨ xv_K a x = 0)))) j from ⟨u, Or.inl w0⟩)] at h2
        exact ⟨fun _ => h2, fun q => absurd w0 q⟩
      · refine ⟨fun q => absurd q w0, fun _ => ?_⟩
        by_cases l : xv_L a j = j
        · refine br_t (by rw [eL, l]) ?_
          by_cases w1 : w = 1
          · rw [sc_y (show (fun x => xv_U a x ∧ (w = 0 ∨ (xv_L a x = x ∧ (w = 1 ∨ xv_K a x = 0)))) j from ⟨u, Or.inr ⟨l, Or.inl w1⟩⟩)] at h2
            exact br_t (by rw [w1]; rfl) h2
          · refine br_f (fun q => w1 ((nI_eq (b := 1) (by omega) (by decide)).mp q)) ?_
            have hv := hV j u
            rw [l] at hv
            rcases hv with ⟨k0, wh⟩ | ⟨k0, i, hi, wh⟩
            · rw [sc_y (show (fun x => xv_U a x ∧ (w = 0 ∨ (xv_L a x = x ∧ (w = 1 ∨ xv_K a x = 0)))) j from ⟨u, Or.inr ⟨l, Or.inr k0⟩⟩)] at h2
              rw [wh]
              exact br_f (by decide) h2
            · rw [sc_no (show ¬ (fun x => xv_U a x ∧ (w = 0 ∨ (xv_L a x = x ∧ (w = 1 ∨ xv_K a x = 0)))) j from fun q => by
                rcases q.2 with q | q
                · exact w0 q
                · rcases q.2 with q | q
                  · exact w1 q
                  · exact k0 q)] at h2
              rw [wh]
              exact br_t (nI_pos' (by omega)) h2
        · rw [sc_no (show ¬ (fun x => xv_U a x ∧ (w = 0 ∨ (xv_L a x = x ∧ (w = 1 ∨ xv_K a x = 0)))) j from fun q => by
            rcases q.2 with q | q
            · exact w0 q
            · exact l q.1)] at h2
          refine br_f (fun q => l ?_) h2
          rw [eL] at q
          exact (nI_eq (by omega) (by omega)).mp q
    · have uy : ¬ b_s (384 + j) = 1 := by
        intro q
        apply u
        rw [← yU]; exact ⟨by omega, q⟩
      rw [sc_no (show ¬ (fun x => xv_U a x ∧ (w = 0 ∨ (xv_L a x = x ∧ (w = 1 ∨ xv_K a x = 0)))) j from fun q => u q.1)] at h2
      exact br_f uy h2
theorem yr_hv {B : Nat} {a s wh : Nat → Int32} {n : Nat} (hr : re_P B a s) (n1 : n ≤ 48) (n2 : ∀ x, xv_U a x → x < n) (n3 : ∀ v, v < 48 → wh v = ys_wh s (s v) n) {x : Nat} (hx : xv_U a x) : (xv_K a (xv_L a x) = 0 ∧ wh x = -1) ∨ (xv_K a (xv_L a x) ≠ 0 ∧ ∃ j, j < 48 ∧ wh x = nI j) := by
  have h5 := hr.2.2.2.2.1
  have wl := h5.1 x hx
  have w := re_wh hr n1 n2
  by_cases q : ys_h s n x
  · right
    obtain ⟨t, l⟩ := w.2.1 x hx q
    obtain ⟨c1, _⟩ := ma_R_x h5 t
    rw [l] at c1
    obtain ⟨e1, e2, _⟩ := ys_hf n1 q
    refine ⟨(xv_T1 c1).2.2, ys_f s n x, by omega, ?_⟩
    rw [n3 x hx.1, e1]
  · left
    have q' : ys_wh s (s x) n = -1 := Classical.byContradiction q
    refine ⟨Classical.byContradiction (fun k0 => q ?_), by rw [n3 x hx.1, q']⟩
    obtain ⟨u, u1, u2, _⟩ := ma_R_y h5 (c := xv_L a x) ⟨wl.2.1, wl.2.2.1, k0⟩
    exact w.1 x hx ⟨u, u1, u2⟩
theorem i_vc_state {k : Nat} {u : SX} {v : SY} (I : i_Rel k u v) (hk : k + 4 ≤ 2048) (v1 : Int32) : wpX_state (fun r => wpY_state (fun r' v' => r' = r ∧ i_Rel (k + 4) u v') v v1) u v1 := by
  obtain ⟨f_trials, f_drafted, f_pairs, f_metCount, f_meetingCount, a_held, a_saved, a_draft, a_toldBefore, a_pairX, a_pairY, a_stack, a_met, a_metAs, a_copies, a_meetings, a_wasMeeting, a_firstMet, a_depths, a_isKept⟩ := u
  obtain ⟨g_trials, g_drafted, g_found, b_s, b_saved, b_draft, b_who, b_met, b_stack, b_fresh, b_deep, b_alike, b_meets⟩ := v
  have C := re_A_C I
  have P := C.1
  have R := re_A_up (k := k) (k' := k + 4) (by omega) I
  have yU := re_U P
  obtain ⟨t, d, t3, d3, eT, eT', eD, eD', hDr, hC, hS⟩ := id I
  obtain ⟨n, wh, n1, n2, n3, n4⟩ := yw_values (g_trials := g_trials) (g_drafted := g_drafted) (g_found := g_found) (b_s := b_s) (b_saved := b_saved) (b_draft := b_draft) (b_who := b_who) (b_met := b_met) (b_stack := b_stack) (b_fresh := b_fresh) (b_deep := b_deep) (b_alike := b_alike) (b_meets := b_meets) P.2.1
  have hV : ∀ x, xv_U a_held x → (xv_K a_held (xv_L a_held x) = 0 ∧ wh x = -1) ∨ (xv_K a_held (xv_L a_held x) ≠ 0 ∧ ∃ j, j < 48 ∧ wh x = nI j) := fun x hx => yr_hv P n1 (fun x hx => n2 x (by rw [yU]; exact hx)) n3 hx
  have cnt : ∀ w : Nat, w ≤ 2 → ∀ (postY : Int32 → SY → Prop), postY (nI (sc_n (fun x => xv_U a_held x ∧ (w = 0 ∨ (xv_L a_held x = x ∧ (w = 1 ∨ xv_K a_held x = 0)))) 48)) (g_trials, g_drafted, g_found, b_s, b_saved, b_draft, wh, b_met, b_stack, b_fresh, b_deep, b_alike, b_meets) → wpY_state postY (g_trials, g_drafted, g_found, b_s, b_saved, b_draft, b_who, b_met, b_stack, b_fresh, b_deep, b_alike, b_meets) (nI w) := by
    intro w hw postY hp
    have lp := yw_state_46 (g_trials := g_trials) (g_drafted := g_drafted) (g_found := g_found) (b_s := b_s) (b_saved := b_saved) (b_draft := b_draft) (b_who := wh) (b_met := b_met) (b_stack := b_stack) (b_fresh := b_fresh) (b_deep := b_deep) (b_alike := b_alike) (b_meets := b_meets) (al := b_alike) P hw hV 48 0 rfl postY hp
    rw [sc_0] at lp
    unfold wpY_state
    refine br_f (fun q => by have := (nI_eq (b := 3) (by omega) (by decide)).mp q; omega) (br_f (fun q => by have := (nI_eq (b := 4) (by omega) (by decide)).mp q; omega) (br_f (nI_pos (by omega)) (br_t ((li_le4 (by omega)).mpr (by omega)) (n4 _ ⟨_, lp⟩))))
  unfold wpX_state
  by_cases h0 : v1 < 0
  · refine br_t h0 ?_
    unfold wpY_state
    refine br_f (fun q => by rw [q] at h0; exact absurd h0 (by decide)) (br_f (fun q => by rw [q] at h0; exact absurd h0 (by decide)) (br_t h0 ⟨rfl, R⟩))
  · obtain ⟨w, hw, rfl⟩ := nI_of h0
    refine br_f h0 ?_
    by_cases h4 : 4 < w
    · refine br_t ((li_gt4 (by omega)).mpr h4) ?_
      unfold wpY_state
      exact br_f (fun q => by have := (nI_eq (b := 3) (by omega) (by decide)).mp q; omega) (br_f (fun q => by have := (nI_eq (b := 4) (by omega) (by decide)).mp q; omega) (br_f (nI_pos (by omega)) (br_f (fun q => by have := (li_le4 (by omega)).mp q; omega) ⟨rfl, R⟩)))
    · refine br_f (fun q => h4 ((li_gt4 (by omega)).mp q)) ?_
      have cases : w = 0 ∨ w = 1 ∨ w = 2 ∨ w = 3 ∨ w = 4 := by omega
      rcases cases with z | z | z | z | z
      · subst z
        refine br_t rfl (xw_usedCount (f_trials := f_trials) (f_drafted := f_drafted) (f_pairs := f_pairs) (f_metCount := f_metCount) (f_meetingCount := f_meetingCount) (a_held := a_held) (a_saved := a_saved) (a_draft := a_draft) (a_toldBefore := a_toldBefore) (a_pairX := a_pairX) (a_pairY := a_pairY) (a_stack := a_stack) (a_met := a_met) (a_metAs := a_metAs) (a_copies := a_copies) (a_meetings := a_meetings) (a_wasMeeting := a_wasMeeting) (a_firstMet := a_firstMet) (a_depths := a_depths) (a_isKept := a_isKept) P.1 _ (cnt 0 (by omega) _ ⟨?_, R⟩))
        rw [sc_congr (fun i _ => ⟨fun q => q.1, fun q => ⟨q, Or.inl rfl⟩⟩)]
      · subst z
        refine br_f (by decide) (br_t rfl (xw_classCount (f_trials := f_trials) (f_drafted := f_drafted) (f_pairs := f_pairs) (f_metCount := f_metCount) (f_meetingCount := f_meetingCount) (a_held := a_held) (a_saved := a_saved) (a_draft := a_draft) (a_toldBefore := a_toldBefore) (a_pairX := a_pairX) (a_pairY := a_pairY) (a_stack := a_stack) (a_met := a_met) (a_metAs := a_metAs) (a_copies := a_copies) (a_meetings := a_meetings) (a_wasMeeting := a_wasMeeting) (a_firstMet := a_firstMet) (a_depths := a_depths) (a_isKept := a_isKept) P.1 (Or.inl rfl) _ (cnt 1 (by omega) _ ⟨?_, R⟩)))
        congr 1
        refine sc_congr (fun i _ => ⟨fun q => ⟨q.1, ?_, fun z => absurd z (by decide)⟩, fun q => ⟨q.1, Or.inr ⟨q.2.1, Or.inl rfl⟩⟩⟩)
        rcases q.2 with z | z
        · omega
        · exact z.1
      · subst z
        refine br_f (by decide) (br_f (by decide) (br_t rfl (xw_classCount (f_trials := f_trials) (f_drafted := f_drafted) (f_pairs := f_pairs) (f_metCount := f_metCount) (f_meetingCount := f_meetingCount) (a_held := a_held) (a_saved := a_saved) (a_draft := a_draft) (a_toldBefore := a_toldBefore) (a_pairX := a_pairX) (a_pairY := a_pairY) (a_stack := a_stack) (a_met := a_met) (a_metAs := a_metAs) (a_copies := a_copies) (a_meetings := a_meetings) (a_wasMeeting := a_wasMeeting) (a_firstMet := a_firstMet) (a_depths := a_depths) (a_isKept := a_isKept) P.1 (Or.inr rfl) _ (cnt 2 (by omega) _ ⟨?_, R⟩))))
        congr 1
        refine sc_congr (fun i _ => ⟨fun q => ⟨q.1, ?_, fun _ => ?_⟩, fun q => ⟨q.1, Or.inr ⟨q.2.1, Or.inr (q.2.2 rfl)⟩⟩⟩)
        · rcases q.2 with z | z
          · omega
          · exact z.1
        · rcases q.2 with z | z
          · omega
          · rcases z.2 with z | z
            · omega
            · exact z
      · subst z
        refine br_f (by decide) (br_f (by decide) (br_f (by decide) (br_t rfl ?_)))
        unfold wpY_state wY_state_10
        exact br_t rfl (br_t rfl ⟨by rw [eT, eT'], R⟩)
      · subst z
        refine br_f (by decide) (br_f (by decide) (br_f (by decide) (br_f (by decide) (br_t rfl ?_))))
        unfold wpY_state wY_state_10
        exact br_f (by decide) (br_t rfl (br_f (by decide) ⟨by rw [eD, eD'], R⟩))
end
section
def dp_R (a : Nat → Int32) (c : Nat) : Prop := c < 48 ∧ (2 : Int32) ≤ a (48 + c)
def dp_S (a : Nat → Int32) (c d : Nat) : Prop := ∃ k, k < ma_ct (xv_K a c) ∧ d = xv_L a (xv_P a c k)
/-- a row of numbers, read -/
def dp_V (D : Nat → Nat) (f : Nat → Int32) (M : Nat) : Prop := ∀ c, c < 48 → f c = nI (D c) ∧ D c ≤ M
theorem xw_deepen_40 {f_trials f_drafted f_pairs f_metCount f_meetingCount : Int32} {a_held a_saved a_draft a_toldBefore a_pairX a_pairY a_stack a_met a_metAs a_copies a_meetings a_wasMeeting a_firstMet a_depths a_isKept : Nat → Int32} {D : Nat → Nat} {M cc : Nat} (h : xv_H a_held) (hV : dp_V D a_depths M) (hM : M < 100000) (hcc : cc < 48) : ∀ d j m, j + d = ma_ct (xv_K a_held cc) → m ≤ M → (∀ k, k < j → D (xv_L a_held (xv_P a_held cc k)) ≤ m) → (m = 0 ∨ ∃ k, k < j ∧ D (xv_L a_held (xv_P a_held cc k)) = m) → ∃ m', m' ≤ M ∧ (∀ k, k < ma_ct (xv_K a_held cc) → D (xv_L a_held (xv_P a_held cc k)) ≤ m') ∧ (m' = 0 ∨ ∃ k, k < ma_ct (xv_K a_held cc) ∧ D (xv_L a_held (xv_P a_held cc k)) = m') ∧ ∀ (post : SX → Prop) (J2 : Int32 → (Nat → Int32) → (Nat → Int32) → (Nat → Int32) → (Nat → Int32) → (Nat → Int32) → (Nat → Int32) → (Nat → Int32) → (Nat → Int32) → (Nat → Int32) → (Nat → Int32) → (Nat → Int32) → (Nat → Int32) → (Nat → Int32) → (Nat → Int32) → (Nat → Int32) → Prop), J2 (nI (cc + 1)) a_held a_saved a_draft a_toldBefore a_pairX a_pairY a_stack a_met a_metAs a_copies a_meetings a_wasMeeting a_firstMet (upd a_depths cc (nI (m' + 1))) a_isKept → wX_deepen_40 post J2 (nI cc) (nI (ma_ct (xv_K a_held cc))) f_trials f_drafted f_pairs f_metCount f_meetingCount a_held a_saved a_draft a_toldBefore a_pairX a_pairY a_stack a_met a_metAs a_copies a_meetings a_wasMeeting a_firstMet a_depths a_isKept (d + 1) (nI m) (nI j) := by
  have ct3 := ma_ct_le (xv_K a_held cc)
  intro d
  induction d with
  | zero =>
    intro j m hj hm h1 h2
    refine ⟨m, hm, fun k hk => h1 k (by omega), ?_, fun post J2 hp => ?_⟩
    · rcases h2 with q | ⟨k, hk, q⟩
      · exact Or.inl q
      · exact Or.inr ⟨k, by omega, q⟩
    · unfold wX_deepen_40
      simp (disch := omega) only [forall_eq, true_and, and_true, Nat.zero_add, nI_clamp, li_vin, nI_add, nI_eq, nI_leI, nI_ltI, li_0le, li_lt0, li_nn1, li_e0, not_true_eq_false, not_false_eq_true, false_implies, true_implies, forall_const, li_a0, li_b0, li_a1, li_b1, li_a2, li_b2, li_a3, li_b3, li_a7, li_b7, li_a8, li_b8, li_a16, li_b16, li_a48, li_b48, li_a584, li_b584, li_a572, li_b572, li_a96, li_b96, li_a144, li_b144, li_a192, li_b192, li_a240, li_b240, li_a336, li_b336, li_a384, li_b384, li_a432, li_b432, li_a480, li_b480, li_a488, li_b488, li_a496, li_b496, li_a504, li_b504, li_a512, li_b512, li_a520, li_b520, li_a524, li_b524, li_a528, li_b528, li_a536, li_b536, li_a544, li_b544, li_a552, li_b552, li_a560, li_b560, li_a568, li_b568, li_a573, li_b573, li_a585, li_b585, li_a633, li_b633, li_m3, li_n3, li_m4, li_n4, li_m48, li_n48, li_m50, li_n50, li_m585, li_n585, li_m633, li_n633, li_lt2, li_ge2, li_le2, li_gt2, li_lt1, li_ge1, li_le1, li_gt1, li_lt3, li_ge3, li_le3, li_gt3, li_lt4, li_ge4, li_le4, li_gt4, li_lt7, li_ge7, li_le7, li_gt7, li_lt8, li_ge8, li_le8, li_gt8, li_lt40, li_ge40, li_le40, li_gt40, li_lt240, li_ge240, li_le240, li_gt240, li_lt41, li_ge41, li_le41, li_gt41, li_lt48, li_ge48, li_le48, li_gt48, li_lt49, li_ge49, li_le49, li_gt49, li_lt60, li_ge60, li_le60, li_gt60, li_lt144, li_ge144, li_le144, li_gt144, li_lt145, li_ge145, li_le145, li_gt145, li_lt160, li_ge160, li_le160, li_gt160, li_lt336, li_ge336, li_le336, li_gt336, li_lt585, li_ge585, li_le585, li_gt585, li_lt633, li_ge633, li_le633, li_gt633, li_lt1000000, li_ge1000000, li_le1000000, li_gt1000000, li_lt2304, li_ge2304, li_le2304, li_gt2304, li_lt50, li_ge50, li_le50, li_gt50, li_le0, li_gt0]
      exact ⟨fun _ => hp, fun q => by omega⟩
  | succ d ih =>
    intro j m hj hm h1 h2
    obtain ⟨pe, pl⟩ := xv_HP h hcc (k := j) (by omega)
    obtain ⟨le, ll⟩ := xv_HL h pl
    obtain ⟨de, dl⟩ := hV _ ll
    by_cases q : D (xv_L a_held (xv_P a_held cc j)) ≤ m
    · obtain ⟨m', a1, a2, a3, a4⟩ := ih (j + 1) m (by omega) hm (lt_s h1 q) (by
        rcases h2 with z | ⟨k, hk, z⟩
        · exact Or.inl z
        · exact Or.inr ⟨k, by omega, z⟩)
      refine ⟨m', a1, a2, a3, fun post J2 hp => ?_⟩
      unfold wX_deepen_40
      simp (disch := omega) only [forall_eq, true_and, and_true, Nat.zero_add, nI_clamp, li_vin, nI_add, nI_eq, nI_leI, nI_ltI, li_0le, li_lt0, li_nn1, li_e0, not_true_eq_false, not_false_eq_true, false_implies, true_implies, forall_const, li_a0, li_b0, li_a1, li_b1, li_a2, li_b2, li_a3, li_b3, li_a7, li_b7, li_a8, li_b8, li_a16, li_b16, li_a48, li_b48, li_a584, li_b584, li_a572, li_b572, li_a96, li_b96, li_a144, li_b144, li_a192, li_b192, li_a240, li_b240, li_a336, li_b336, li_a384, li_b384, li_a432, li_b432, li_a480, li_b480, li_a488, li_b488, li_a496, li_b496, li_a504, li_b504, li_a512, li_b512, li_a520, li_b520, li_a524, li_b524, li_a528, li_b528, li_a536, li_b536, li_a544, li_b544, li_a552, li_b552, li_a560, li_b560, li_a568, li_b568, li_a573, li_b573, li_a585, li_b585, li_a633, li_b633, li_m3, li_n3, li_m4, li_n4, li_m48, li_n48, li_m50, li_n50, li_m585, li_n585, li_m633, li_n633, li_lt2, li_ge2, li_le2, li_gt2, li_lt1, li_ge1, li_le1, li_gt1, li_lt3, li_ge3, li_le3, li_gt3, li_lt4, li_ge4, li_le4, li_gt4, li_lt7, li_ge7, li_le7, li_gt7, li_lt8, li_ge8, li_le8, li_gt8, li_lt40, li_ge40, li_le40, li_gt40, li_lt240, li_ge240, li_le240, li_gt240, li_lt41, li_ge41, li_le41, li_gt41, li_lt48, li_ge48, li_le48, li_gt48, li_lt49, li_ge49, li_le49, li_gt49, li_lt60, li_ge60, li_le60, li_gt60, li_lt144, li_ge144, li_le144, li_gt144, li_lt145, li_ge145, li_le145, li_gt145, li_lt160, li_ge160, li_le160, li_gt160, li_lt336, li_ge336, li_le336, li_gt336, li_lt585, li_ge585, li_le585, li_gt585, li_lt633, li_ge633, li_le633, li_gt633, li_lt1000000, li_ge1000000, li_le1000000, li_gt1000000, li_lt2304, li_ge2304, li_le2304, li_gt2304, li_lt50, li_ge50, li_le50, li_gt50, li_le0, li_gt0, pe, le, de]
      exact ⟨fun q => by omega, fun _ => ⟨fun _ => a4 post J2 hp, fun z => absurd q z⟩⟩
    · obtain ⟨m', a1, a2, a3, a4⟩ := ih (j + 1) (D (xv_L a_held (xv_P a_held cc j))) (by omega) dl (lt_s (fun k hk => by have := h1 k hk; omega) (Nat.le_refl _)) (Or.inr ⟨j, by omega, rfl⟩)
      refine ⟨m', a1, a2, a3, fun post J2 hp => ?_⟩
      unfold wX_deepen_40
      simp (disch := omega) only [forall_eq, true_and, and_true, Nat.zero_add, nI_clamp, li_vin, nI_add, nI_eq, nI_leI, nI_ltI, li_0le, li_lt0, li_nn1, li_e0, not_true_eq_false, not_false_eq_true, false_implies, true_implies, forall_const, li_a0, li_b0, li_a1, li_b1, li_a2, li_b2, li_a3, li_b3, li_a7, li_b7, li_a8, li_b8, li_a16, li_b16, li_a48, li_b48, li_a584, li_b584, li_a572, li_b572, li_a96, li_b96, li_a144, li_b144, li_a192, li_b192, li_a240, li_b240, li_a336, li_b336, li_a384, li_b384, li_a432, li_b432, li_a480, li_b480, li_a488, li_b488, li_a496, li_b496, li_a504, li_b504, li_a512, li_b512, li_a520, li_b520, li_a524, li_b524, li_a528, li_b528, li_a536, li_b536, li_a544, li_b544, li_a552, li_b552, li_a560, li_b560, li_a568, li_b568, li_a573, li_b573, li_a585, li_b585, li_a633, li_b633, li_m3, li_n3, li_m4, li_n4, li_m48, li_n48, li_m50, li_n50, li_m585, li_n585, li_m633, li_n633, li_lt2, li_ge2, li_le2, li_gt2, li_lt1, li_ge1, li_le1, li_gt1, li_lt3, li_ge3, li_le3, li_gt3, li_lt4, li_ge4, li_le4, li_gt4, li_lt7, li_ge7, li_le7, li_gt7, li_lt8, li_ge8, li_le8, li_gt8, li_lt40, li_ge40, li_le40, li_gt40, li_lt240, li_ge240, li_le240, li_gt240, li_lt41, li_ge41, li_le41, li_gt41, li_lt48, li_ge48, li_le48, li_gt48, li_lt49, li_ge49, li_le49, li_gt49, li_lt60, li_ge60, li_le60, li_gt60, li_lt144, li_ge144, li_le144, li_gt144, li_lt145, li_ge145, li_le145, li_gt145, li_lt160, li_ge160, li_le160, li_gt160, li_lt336, li_ge336, li_le336, li_gt336, li_lt585, li_ge585, li_le585, li_gt585, li_lt633, li_ge633, li_le633, li_gt633, li_lt1000000, li_ge1000000, li_le1000000, li_gt1000000, li_lt2304, li_ge2304, li_le2304, li_gt2304, li_lt50, li_ge50, li_le50, li_gt50, li_le0, li_gt0, pe, le, de]
      exact ⟨fun q => by omega, fun _ => ⟨fun z => absurd z q, fun _ => a4 post J2 hp⟩⟩
theorem xw_deepen {f_trials f_drafted f_pairs f_metCount f_meetingCount : Int32} {a_held a_saved a_draft a_toldBefore a_pairX a_pairY a_stack a_met a_metAs a_copies a_meetings a_wasMeeting a_firstMet a_depths a_isKept : Nat → Int32} {D : Nat → Nat} {M r : Nat} (h : xv_H a_held) (hM : M + 48 < 100000) (hI : dp_I (dp_R a_held) (dp_S a_held) D r 0) (hV : dp_V D a_depths M) : ∃ (D' : Nat → Nat) (dep : Nat → Int32), dp_I (dp_R a_held) (dp_S a_held) D' (r + 1) 0 ∧ dp_V D' dep (M + 48) ∧ ∀ post : SX → Prop, post (f_trials, f_drafted, f_pairs, f_metCount, f_meetingCount, a_held, a_saved, a_draft, a_toldBefore, a_pairX, a_pairY, a_stack, a_met, a_metAs, a_copies, a_meetings, a_wasMeeting, a_firstMet, dep, a_isKept) → wpX_deepen post (f_trials, f_drafted, f_pairs, f_metCount, f_meetingCount, a_held, a_saved, a_draft, a_toldBefore, a_pairX, a_pairY, a_stack, a_met, a_metAs, a_copies, a_meetings, a_wasMeeting, a_firstMet, a_depths, a_isKept) := by
  have lp : ∀ d j (D : Nat → Nat) (a_depths : Nat → Int32), j + d = 48 → dp_I (dp_R a_held) (dp_S a_held) D r j → dp_V D a_depths (M + j) → ∃ (D' : Nat → Nat) (dep : Nat → Int32), dp_I (dp_R a_held) (dp_S a_held) D' r 48 ∧ dp_V D' dep (M + 48) ∧ ∀ post : SX → Prop, post (f_trials, f_drafted, f_pairs, f_metCount, f_meetingCount, a_held, a_saved, a_draft, a_toldBefore, a_pairX, a_pairY, a_stack, a_met, a_metAs, a_copies, a_meetings, a_wasMeeting, a_firstMet, dep, a_isKept) → wX_deepen_2 post f_trials f_drafted f_pairs f_metCount f_meetingCount (d + 1) (nI j) a_held a_saved a_draft a_toldBefore a_pairX a_pairY a_stack a_met a_metAs a_copies a_meetings a_wasMeeting a_firstMet a_depths a_isKept := by
    intro d
    induction d with
    | zero =>
      intro j D dep hj hI hV
      have e : j = 48 := by omega
      rw [e] at hI hV
      refine ⟨D, dep, hI, hV, fun post hp => ?_⟩
      unfold wX_deepen_2
      simp (disch := omega) only [forall_eq, true_and, and_true, Nat.zero_add, nI_clamp, li_vin, nI_add, nI_eq, nI_leI, nI_ltI, li_0le, li_lt0, li_nn1, li_e0, not_true_eq_false, not_false_eq_true, false_implies, true_implies, forall_const, li_a0, li_b0, li_a1, li_b1, li_a2, li_b2, li_a3, li_b3, li_a7, li_b7, li_a8, li_b8, li_a16, li_b16, li_a48, li_b48, li_a584, li_b584, li_a572, li_b572, li_a96, li_b96, li_a144, li_b144, li_a192, li_b192, li_a240, li_b240, li_a336, li_b336, li_a384, li_b384, li_a432, li_b432, li_a480, li_b480, li_a488, li_b488, li_a496, li_b496, li_a504, li_b504, li_a512, li_b512, li_a520, li_b520, li_a524, li_b524, li_a528, li_b528, li_a536, li_b536, li_a544, li_b544, li_a552, li_b552, li_a560, li_b560, li_a568, li_b568, li_a573, li_b573, li_a585, li_b585, li_a633, li_b633, li_m3, li_n3, li_m4, li_n4, li_m48, li_n48, li_m50, li_n50, li_m585, li_n585, li_m633, li_n633, li_lt2, li_ge2, li_le2, li_gt2, li_lt1, li_ge1, li_le1, li_gt1, li_lt3, li_ge3, li_le3, li_gt3, li_lt4, li_ge4, li_le4, li_gt4, li_lt7, li_ge7, li_le7, li_gt7, li_lt8, li_ge8, li_le8, li_gt8, li_lt40, li_ge40, li_le40, li_gt40, li_lt240, li_ge240, li_le240, li_gt240, li_lt41, li_ge41, li_le41, li_gt41, li_lt48, li_ge48, li_le48, li_gt48, li_lt49, li_ge49, li_le49, li_gt49, li_lt60, li_ge60, li_le60, li_gt60, li_lt144, li_ge144, li_le144, li_gt144, li_lt145, li_ge145, li_le145, li_gt145, li_lt160, li_ge160, li_le160, li_gt160, li_lt336, li_ge336, li_le336, li_gt336, li_lt585, li_ge585, li_le585, li_gt585, li_lt633, li_ge633, li_le633, li_gt633, li_lt1000000, li_ge1000000, li_le1000000, li_gt1000000, li_lt2304, li_ge2304, li_le2304, li_gt2304, li_lt50, li_ge50, li_le50, li_gt50, li_le0, li_gt0]
      exact ⟨fun _ => hp, fun q => by omega⟩
    | succ d ih =>
      intro j D dep hj hI hV
      obtain ⟨ce, cl⟩ := xv_HC h (c := j) (by omega)
      by_cases q : (2 : Int32) ≤ a_held (48 + j)
      · obtain ⟨m', b1, b2, b3, b4⟩ := xw_deepen_40 (f_trials := f_trials) (f_drafted := f_drafted) (f_pairs := f_pairs) (f_metCount := f_metCount) (f_meetingCount := f_meetingCount) (a_held := a_held) (a_saved := a_saved) (a_draft := a_draft) (a_toldBefore := a_toldBefore) (a_pairX := a_pairX) (a_pairY := a_pairY) (a_stack := a_stack) (a_met := a_met) (a_metAs := a_metAs) (a_copies := a_copies) (a_meetings := a_meetings) (a_wasMeeting := a_wasMeeting) (a_firstMet := a_firstMet) (a_depths := dep) (a_isKept := a_isKept) (cc := j) h hV (by omega) (by omega) (ma_ct (xv_K a_held j)) 0 0 (by omega) (by omega) (fun k hk => by omega) (Or.inl rfl)
        have hI' : dp_I (dp_R a_held) (dp_S a_held) (fun c => if c = j then m' + 1 else D c) r (j + 1) := by
          refine dp_step hI ⟨by omega, q⟩ (if_pos rfl) ?_ ?_ (fun c hc => if_neg hc)
          · intro dd ⟨k, hk, e⟩
            rw [e]; exact b2 k hk
          · rcases b3 with z | ⟨k, hk, z⟩
            · exact Or.inl z
            · exact Or.inr ⟨_, ⟨k, hk, rfl⟩, z⟩
        obtain ⟨D', dep', c1, c2, c3⟩ := ih (j + 1) _ (upd dep j (nI (m' + 1))) (by omega) hI' (by
          intro c hc
          by_cases z : c = j
          · rw [z, pk_us]
            show nI (m' + 1) = nI (if j = j then m' + 1 else D j) ∧ (if j = j then m' + 1 else D j) ≤ _
            rw [if_pos rfl]
            exact ⟨rfl, by omega⟩
          · rw [pk_un z]
            show dep c = nI (if c = j then m' + 1 else D c) ∧ (if c = j then m' + 1 else D c) ≤ _
            rw [if_neg z]
            have := hV c hc
            exact ⟨this.1, by omega⟩)
        refine ⟨D', dep', c1, c2, fun post hp => ?_⟩
        rw [wX_deepen_2]
        dsimp only
        simp (disch := omega) only [forall_eq, true_and, and_true, Nat.zero_add, nI_clamp, li_vin, nI_add, nI_eq, nI_leI, nI_ltI, li_0le, li_lt0, li_nn1, li_e0, not_true_eq_false, not_false_eq_true, false_implies, true_implies, forall_const, li_a0, li_b0, li_a1, li_b1, li_a2, li_b2, li_a3, li_b3, li_a7, li_b7, li_a8, li_b8, li_a16, li_b16, li_a48, li_b48, li_a584, li_b584, li_a572, li_b572, li_a96, li_b96, li_a144, li_b144, li_a192, li_b192, li_a240, li_b240, li_a336, li_b336, li_a384, li_b384, li_a432, li_b432, li_a480, li_b480, li_a488, li_b488, li_a496, li_b496, li_a504, li_b504, li_a512, li_b512, li_a520, li_b520, li_a524, li_b524, li_a528, li_b528, li_a536, li_b536, li_a544, li_b544, li_a552, li_b552, li_a560, li_b560, li_a568, li_b568, li_a573, li_b573, li_a585, li_b585, li_a633, li_b633, li_m3, li_n3, li_m4, li_n4, li_m48, li_n48, li_m50, li_n50, li_m585, li_n585, li_m633, li_n633, li_lt2, li_ge2, li_le2, li_gt2, li_lt1, li_ge1, li_le1, li_gt1, li_lt3, li_ge3, li_le3, li_gt3, li_lt4, li_ge4, li_le4, li_gt4, li_lt7, li_ge7, li_le7, li_gt7, li_lt8, li_ge8, li_le8, li_gt8, li_lt40, li_ge40, li_le40, li_gt40, li_lt240, li_ge240, li_le240, li_gt240, li_lt41, li_ge41, li_le41, li_gt41, li_lt48, li_ge48, li_le48, li_gt48, li_lt49, li_ge49, li_le49, li_gt49, li_lt60, li_ge60, li_le60, li_gt60, li_lt144, li_ge144, li_le144, li_gt144, li_lt145, li_ge145, li_le145, li_gt145, li_lt160, li_ge160, li_le160, li_gt160, li_lt336, li_ge336, li_le336, li_gt336, li_lt585, li_ge585, li_le585, li_gt585, li_lt633, li_ge633, li_le633, li_gt633, li_lt1000000, li_ge1000000, li_le1000000, li_gt1000000, li_lt2304, li_ge2304, li_le2304, li_gt2304, li_lt50, li_ge50, li_le50, li_gt50, li_le0, li_gt0, ce]
        exact ⟨fun q => by omega, fun _ => br_t q ⟨_, b4 post _ (c3 post hp)⟩⟩
      · obtain ⟨D', dep', c1, c2, c3⟩ := ih (j + 1) D dep (by omega) (dp_no hI (fun z => q z.2)) (by
          intro c hc
          have := hV c hc
          exact ⟨this.1, by omega⟩)
        refine ⟨D', dep', c1, c2, fun post hp => ?_⟩
        rw [wX_deepen_2]
        dsimp only
        simp (disch := omega) only [forall_eq, true_and, and_true, Nat.zero_add, nI_clamp, li_vin, nI_add, nI_eq, nI_leI, nI_ltI, li_0le, li_lt0, li_nn1, li_e0, not_true_eq_false, not_false_eq_true, false_implies, true_implies, forall_const, li_a0, li_b0, li_a1, li_b1, li_a2, li_b2, li_a3, li_b3, li_a7, li_b7, li_a8, li_b8, li_a16, li_b16, li_a48, li_b48, li_a584, li_b584, li_a572, li_b572, li_a96, li_b96, li_a144, li_b144, li_a192, li_b192, li_a240, li_b240, li_a336, li_b336, li_a384, li_b384, li_a432, li_b432, li_a480, li_b480, li_a488, li_b488, li_a496, li_b496, li_a504, li_b504, li_a512, li_b512, li_a520, li_b520, li_a524, li_b524, li_a528, li_b528, li_a536, li_b536, li_a544, li_b544, li_a552, li_b552, li_a560, li_b560, li_a568, li_b568, li_a573, li_b573, li_a585, li_b585, li_a633, li_b633, li_m3, li_n3, li_m4, li_n4, li_m48, li_n48, li_m50, li_n50, li_m585, li_n585, li_m633, li_n633, li_lt2, li_ge2, li_le2, li_gt2, li_lt1, li_ge1, li_le1, li_gt1, li_lt3, li_ge3, li_le3, li_gt3, li_lt4, li_ge4, li_le4, li_gt4, li_lt7, li_ge7, li_le7, li_gt7, li_lt8, li_ge8, li_le8, li_gt8, li_lt40, li_ge40, li_le40, li_gt40, li_lt240, li_ge240, li_le240, li_gt240, li_lt41, li_ge41, li_le41, li_gt41, li_lt48, li_ge48, li_le48, li_gt48, li_lt49, li_ge49, li_le49, li_gt49, li_lt60, li_ge60, li_le60, li_gt60, li_lt144, li_ge144, li_le144, li_gt144, li_lt145, li_ge145, li_le145, li_gt145, li_lt160, li_ge160, li_le160, li_gt160, li_lt336, li_ge336, li_le336, li_gt336, li_lt585, li_ge585, li_le585, li_gt585, li_lt633, li_ge633, li_le633, li_gt633, li_lt1000000, li_ge1000000, li_le1000000, li_gt1000000, li_lt2304, li_ge2304, li_le2304, li_gt2304, li_lt50, li_ge50, li_le50, li_gt50, li_le0, li_gt0]
        exact ⟨fun q => by omega, fun _ => br_f q (c3 post hp)⟩
  obtain ⟨D', dep, c1, c2, c3⟩ := lp 48 0 D a_depths rfl hI (by
    intro c hc
    have := hV c hc
    exact ⟨this.1, by omega⟩)
  refine ⟨D', dep, dp_next c1 (fun c hc => hc.1), c2, fun post hp => ?_⟩
  unfold wpX_deepen
  exact ⟨_, c3 post hp⟩
/-- the component's answer -/
def dp_A (D : Nat) (r : Int32) : Prop := (D ≤ 48 ∧ r = nI D) ∨ (48 < D ∧ r = -3)
theorem xw_depth_33 {f_trials f_drafted f_pairs f_metCount f_meetingCount : Int32} {a_held a_saved a_draft a_toldBefore a_pairX a_pairY a_stack a_met a_metAs a_copies a_meetings a_wasMeeting a_firstMet a_depths a_isKept : Nat → Int32} {x : Nat} (h : xv_H a_held) (hx : x < 48) : ∀ d j (D : Nat → Nat) (a_depths : Nat → Int32), j + d = 49 → dp_I (dp_R a_held) (dp_S a_held) D j 0 → dp_V D a_depths (48 * j) → ∃ (D' : Nat) (dep : Nat → Int32) (r : Int32), ma_pt (dp_R a_held) (dp_S a_held) D' (xv_L a_held x) ∧ (∀ q, q ≤ 49 → ma_pt (dp_R a_held) (dp_S a_held) q (xv_L a_held x) → q ≤ D') ∧ dp_A D' r ∧ ∀ post : Int32 → SX → Prop, post r (f_trials, f_drafted, f_pairs, f_metCount, f_meetingCount, a_held, a_saved, a_draft, a_toldBefore, a_pairX, a_pairY, a_stack, a_met, a_metAs, a_copies, a_meetings, a_wasMeeting, a_firstMet, dep, a_isKept) → wX_depth_33 post (nI x) (d + 1) (nI j) f_trials f_drafted f_pairs f_metCount f_meetingCount a_held a_saved a_draft a_toldBefore a_pairX a_pairY a_stack a_met a_metAs a_copies a_meetings a_wasMeeting a_firstMet a_depths a_isKept := by
  obtain ⟨eL, lL⟩ := xv_HL h hx
  intro d
  induction d with
  | zero =>
    intro j D dep hj hI hV
    obtain ⟨de, dl⟩ := hV _ lL
    by_cases q : D (xv_L a_held x) ≤ 48
    · refine ⟨D (xv_L a_held x), dep, nI (D (xv_L a_held x)), hI.1 _, fun q hq p => hI.2 _ q p (Or.inl (by omega)), Or.inl ⟨q, rfl⟩, fun post hp => ?_⟩
      unfold wX_depth_33
      simp (disch := omega) only [forall_eq, true_and, and_true, Nat.zero_add, nI_clamp, li_vin, nI_add, nI_eq, nI_leI, nI_ltI, li_0le, li_lt0, li_nn1, li_e0, not_true_eq_false, not_false_eq_true, false_implies, true_implies, forall_const, li_a0, li_b0, li_a1, li_b1, li_a2, li_b2, li_a3, li_b3, li_a7, li_b7, li_a8, li_b8, li_a16, li_b16, li_a48, li_b48, li_a584, li_b584, li_a572, li_b572, li_a96, li_b96, li_a144, li_b144, li_a192, li_b192, li_a240, li_b240, li_a336, li_b336, li_a384, li_b384, li_a432, li_b432, li_a480, li_b480, li_a488, li_b488, li_a496, li_b496, li_a504, li_b504, li_a512, li_b512, li_a520, li_b520, li_a524, li_b524, li_a528, li_b528, li_a536, li_b536, li_a544, li_b544, li_a552, li_b552, li_a560, li_b560, li_a568, li_b568, li_a573, li_b573, li_a585, li_b585, li_a633, li_b633, li_m3, li_n3, li_m4, li_n4, li_m48, li_n48, li_m50, li_n50, li_m585, li_n585, li_m633, li_n633, li_lt2, li_ge2, li_le2, li_gt2, li_lt1, li_ge1, li_le1, li_gt1, li_lt3, li_ge3, li_le3, li_gt3, li_lt4, li_ge4, li_le4, li_gt4, li_lt7, li_ge7, li_le7, li_gt7, li_lt8, li_ge8, li_le8, li_gt8, li_lt40, li_ge40, li_le40, li_gt40, li_lt240, li_ge240, li_le240, li_gt240, li_lt41, li_ge41, li_le41, li_gt41, li_lt48, li_ge48, li_le48, li_gt48, li_lt49, li_ge49, li_le49, li_gt49, li_lt60, li_ge60, li_le60, li_gt60, li_lt144, li_ge144, li_le144, li_gt144, li_lt145, li_ge145, li_le145, li_gt145, li_lt160, li_ge160, li_le160, li_gt160, li_lt336, li_ge336, li_le336, li_gt336, li_lt585, li_ge585, li_le585, li_gt585, li_lt633, li_ge633, li_le633, li_gt633, li_lt1000000, li_ge1000000, li_le1000000, li_gt1000000, li_lt2304, li_ge2304, li_le2304, li_gt2304, li_lt50, li_ge50, li_le50, li_gt50, li_le0, li_gt0, eL, de]
      exact ⟨fun _ => ⟨fun _ => hp, fun z => absurd q z⟩, fun q => by omega⟩
    · refine ⟨D (xv_L a_held x), dep, -3, hI.1 _, fun q hq p => hI.2 _ q p (Or.inl (by omega)), Or.inr ⟨by omega, rfl⟩, fun post hp => ?_⟩
      unfold wX_depth_33
      simp (disch := omega) only [forall_eq, true_and, and_true, Nat.zero_add, nI_clamp, li_vin, nI_add, nI_eq, nI_leI, nI_ltI, li_0le, li_lt0, li_nn1, li_e0, not_true_eq_false, not_false_eq_true, false_implies, true_implies, forall_const, li_a0, li_b0, li_a1, li_b1, li_a2, li_b2, li_a3, li_b3, li_a7, li_b7, li_a8, li_b8, li_a16, li_b16, li_a48, li_b48, li_a584, li_b584, li_a572, li_b572, li_a96, li_b96, li_a144, li_b144, li_a192, li_b192, li_a240, li_b240, li_a336, li_b336, li_a384, li_b384, li_a432, li_b432, li_a480, li_b480, li_a488, li_b488, li_a496, li_b496, li_a504, li_b504, li_a512, li_b512, li_a520, li_b520, li_a524, li_b524, li_a528, li_b528, li_a536, li_b536, li_a544, li_b544, li_a552, li_b552, li_a560, li_b560, li_a568, li_b568, li_a573, li_b573, li_a585, li_b585, li_a633, li_b633, li_m3, li_n3, li_m4, li_n4, li_m48, li_n48, li_m50, li_n50, li_m585, li_n585, li_m633, li_n633, li_lt2, li_ge2, li_le2, li_gt2, li_lt1, li_ge1, li_le1, li_gt1, li_lt3, li_ge3, li_le3, li_gt3, li_lt4, li_ge4, li_le4, li_gt4, li_lt7, li_ge7, li_le7, li_gt7, li_lt8, li_ge8, li_le8, li_gt8, li_lt40, li_ge40, li_le40, li_gt40, li_lt240, li_ge240, li_le240, li_gt240, li_lt41, li_ge41, li_le41, li_gt41, li_lt48, li_ge48, li_le48, li_gt48, li_lt49, li_ge49, li_le49, li_gt49, li_lt60, li_ge60, li_le60, li_gt60, li_lt144, li_ge144, li_le144, li_gt144, li_lt145, li_ge145, li_le145, li_gt145, li_lt160, li_ge160, li_le160, li_gt160, li_lt336, li_ge336, li_le336, li_gt336, li_lt585, li_ge585, li_le585, li_gt585, li_lt633, li_ge633, li_le633, li_gt633, li_lt1000000, li_ge1000000, li_le1000000, li_gt1000000, li_lt2304, li_ge2304, li_le2304, li_gt2304, li_lt50, li_ge50, li_le50, li_gt50, li_le0, li_gt0, eL, de]
      exact ⟨fun _ => ⟨fun z => absurd z q, fun _ => hp⟩, fun q => by omega⟩
  | succ d ih =>
    intro j D dep hj hI hV
    obtain ⟨D1, dep1, c1, c2, c3⟩ := xw_deepen (f_trials := f_trials) (f_drafted := f_drafted) (f_pairs := f_pairs) (f_metCount := f_metCount) (f_meetingCount := f_meetingCount) (a_held := a_held) (a_saved := a_saved) (a_draft := a_draft) (a_toldBefore := a_toldBefore) (a_pairX := a_pairX) (a_pairY := a_pairY) (a_stack := a_stack) (a_met := a_met) (a_metAs := a_metAs) (a_copies := a_copies) (a_meetings := a_meetings) (a_wasMeeting := a_wasMeeting) (a_firstMet := a_firstMet) (a_depths := dep) (a_isKept := a_isKept) h (by omega) hI hV
    obtain ⟨D', dep', r, e1, e2, e3, e4⟩ := ih (j + 1) D1 dep1 (by omega) c1 (by
      intro c hc
      have := c2 c hc
      exact ⟨this.1, by omega⟩)
    refine ⟨D', dep', r, e1, e2, e3, fun post hp => ?_⟩
    rw [wX_depth_33]
    dsimp only
    simp (disch := omega) only [forall_eq, true_and, and_true, Nat.zero_add, nI_clamp, li_vin, nI_add, nI_eq, nI_leI, nI_ltI, li_0le, li_lt0, li_nn1, li_e0, not_true_eq_false, not_false_eq_true, false_implies, true_implies, forall_const, li_a0, li_b0, li_a1, li_b1, li_a2, li_b2, li_a3, li_b3, li_a7, li_b7, li_a8, li_b8, li_a16, li_b16, li_a48, li_b48, li_a584, li_b584, li_a572, li_b572, li_a96, li_b96, li_a144, li_b144, li_a192, li_b192, li_a240, li_b240, li_a336, li_b336, li_a384, li_b384, li_a432, li_b432, li_a480, li_b480, li_a488, li_b488, li_a496, li_b496, li_a504, li_b504, li_a512, li_b512, li_a520, li_b520, li_a524, li_b524, li_a528, li_b528, li_a536, li_b536, li_a544, li_b544, li_a552, li_b552, li_a560, li_b560, li_a568, li_b568, li_a573, li_b573, li_a585, li_b585, li_a633, li_b633, li_m3, li_n3, li_m4, li_n4, li_m48, li_n48, li_m50, li_n50, li_m585, li_n585, li_m633, li_n633, li_lt2, li_ge2, li_le2, li_gt2, li_lt1, li_ge1, li_le1, li_gt1, li_lt3, li_ge3, li_le3, li_gt3, li_lt4, li_ge4, li_le4, li_gt4, li_lt7, li_ge7, li_le7, li_gt7, li_lt8, li_ge8, li_le8, li_gt8, li_lt40, li_ge40, li_le40, li_gt40, li_lt240, li_ge240, li_le240, li_gt240, li_lt41, li_ge41, li_le41, li_gt41, li_lt48, li_ge48, li_le48, li_gt48, li_lt49, li_ge49, li_le49, li_gt49, li_lt60, li_ge60, li_le60, li_gt60, li_lt144, li_ge144, li_le144, li_gt144, li_lt145, li_ge145, li_le145, li_gt145, li_lt160, li_ge160, li_le160, li_gt160, li_lt336, li_ge336, li_le336, li_gt336, li_lt585, li_ge585, li_le585, li_gt585, li_lt633, li_ge633, li_le633, li_gt633, li_lt1000000, li_ge1000000, li_le1000000, li_gt1000000, li_lt2304, li_ge2304, li_le2304, li_gt2304, li_lt50, li_ge50, li_le50, li_gt50, li_le0, li_gt0]
    exact ⟨fun q => by omega, fun _ => c3 _ (e4 post hp)⟩
theorem xw_depth_12 {f_trials f_drafted f_pairs f_metCount f_meetingCount : Int32} {a_held a_saved a_draft a_toldBefore a_pairX a_pairY a_stack a_met a_metAs a_copies a_meetings a_wasMeeting a_firstMet a_depths a_isKept : Nat → Int32} {x : Nat} (h : xv_H a_held) (hx : x < 48) : ∀ d j (a_depths : Nat → Int32), j + d = 48 → (∀ c, c < j → a_depths c = 0) → ∃ (D' : Nat) (dep : Nat → Int32) (r : Int32), ma_pt (dp_R a_held) (dp_S a_held) D' (xv_L a_held x) ∧ (∀ q, q ≤ 49 → ma_pt (dp_R a_held) (dp_S a_held) q (xv_L a_held x) → q ≤ D') ∧ dp_A D' r ∧ ∀ post : Int32 → SX → Prop, post r (f_trials, f_drafted, f_pairs, f_metCount, f_meetingCount, a_held, a_saved, a_draft, a_toldBefore, a_pairX, a_pairY, a_stack, a_met, a_metAs, a_copies, a_meetings, a_wasMeeting, a_firstMet, dep, a_isKept) → wX_depth_12 post (nI x) f_trials f_drafted f_pairs f_metCount f_meetingCount (d + 1) (nI j) a_held a_saved a_draft a_toldBefore a_pairX a_pairY a_stack a_met a_metAs a_copies a_meetings a_wasMeeting a_firstMet a_depths a_isKept := by
  intro d
  induction d with
  | zero =>
    intro j dep hj h0
    obtain ⟨D', dep', r, e1, e2, e3, e4⟩ := xw_depth_33 (f_trials := f_trials) (f_drafted := f_drafted) (f_pairs := f_pairs) (f_metCount := f_metCount) (f_meetingCount := f_meetingCount) (a_held := a_held) (a_saved := a_saved) (a_draft := a_draft) (a_toldBefore := a_toldBefore) (a_pairX := a_pairX) (a_pairY := a_pairY) (a_stack := a_stack) (a_met := a_met) (a_metAs := a_metAs) (a_copies := a_copies) (a_meetings := a_meetings) (a_wasMeeting := a_wasMeeting) (a_firstMet := a_firstMet) (a_depths := a_depths) (a_isKept := a_isKept) h hx 49 0 (fun _ => 0) dep rfl dp_0 (by
      intro c hc
      exact ⟨h0 c (by omega), Nat.zero_le _⟩)
    refine ⟨D', dep', r, e1, e2, e3, fun post hp => ?_⟩
    unfold wX_depth_12
    simp (disch := omega) only [forall_eq, true_and, and_true, Nat.zero_add, nI_clamp, li_vin, nI_add, nI_eq, nI_leI, nI_ltI, li_0le, li_lt0, li_nn1, li_e0, not_true_eq_false, not_false_eq_true, false_implies, true_implies, forall_const, li_a0, li_b0, li_a1, li_b1, li_a2, li_b2, li_a3, li_b3, li_a7, li_b7, li_a8, li_b8, li_a16, li_b16, li_a48, li_b48, li_a584, li_b584, li_a572, li_b572, li_a96, li_b96, li_a144, li_b144, li_a192, li_b192, li_a240, li_b240, li_a336, li_b336, li_a384, li_b384, li_a432, li_b432, li_a480, li_b480, li_a488, li_b488, li_a496, li_b496, li_a504, li_b504, li_a512, li_b512, li_a520, li_b520, li_a524, li_b524, li_a528, li_b528, li_a536, li_b536, li_a544, li_b544, li_a552, li_b552, li_a560, li_b560, li_a568, li_b568, li_a573, li_b573, li_a585, li_b585, li_a633, li_b633, li_m3, li_n3, li_m4, li_n4, li_m48, li_n48, li_m50, li_n50, li_m585, li_n585, li_m633, li_n633, li_lt2, li_ge2, li_le2, li_gt2, li_lt1, li_ge1, li_le1, li_gt1, li_lt3, li_ge3, li_le3, li_gt3, li_lt4, li_ge4, li_le4, li_gt4, li_lt7, li_ge7, li_le7, li_gt7, li_lt8, li_ge8, li_le8, li_gt8, li_lt40, li_ge40, li_le40, li_gt40, li_lt240, li_ge240, li_le240, li_gt240, li_lt41, li_ge41, li_le41, li_gt41, li_lt48, li_ge48, li_le48, li_gt48, li_lt49, li_ge49, li_le49, li_gt49, li_lt60, li_ge60, li_le60, li_gt60, li_lt144, li_ge144, li_le144, li_gt144, li_lt145, li_ge145, li_le145, li_gt145, li_lt160, li_ge160, li_le160, li_gt160, li_lt336, li_ge336, li_le336, li_gt336, li_lt585, li_ge585, li_le585, li_gt585, li_lt633, li_ge633, li_le633, li_gt633, li_lt1000000, li_ge1000000, li_le1000000, li_gt1000000, li_lt2304, li_ge2304, li_le2304, li_gt2304, li_lt50, li_ge50, li_le50, li_gt50, li_le0, li_gt0]
    exact ⟨fun _ => ⟨_, e4 post hp⟩, fun q => by omega⟩
  | succ d ih =>
    intro j dep hj h0
    obtain ⟨D', dep', r, e1, e2, e3, e4⟩ := ih (j + 1) (upd dep j 0) (by omega) (by
      intro c hc
      by_cases q : c = j
      · rw [q, pk_us]
      · rw [pk_un q]; exact h0 c (by omega))
    refine ⟨D', dep', r, e1, e2, e3, fun post hp => ?_⟩
    unfold wX_depth_12
    simp (disch := omega) only [forall_eq, true_and, and_true, Nat.zero_add, nI_clamp, li_vin, nI_add, nI_eq, nI_leI, nI_ltI, li_0le, li_lt0, li_nn1, li_e0, not_true_eq_false, not_false_eq_true, false_implies, true_implies, forall_const, li_a0, li_b0, li_a1, li_b1, li_a2, li_b2, li_a3, li_b3, li_a7, li_b7, li_a8, li_b8, li_a16, li_b16, li_a48, li_b48, li_a584, li_b584, li_a572, li_b572, li_a96, li_b96, li_a144, li_b144, li_a192, li_b192, li_a240, li_b240, li_a336, li_b336, li_a384, li_b384, li_a432, li_b432, li_a480, li_b480, li_a488, li_b488, li_a496, li_b496, li_a504, li_b504, li_a512, li_b512, li_a520, li_b520, li_a524, li_b524, li_a528, li_b528, li_a536, li_b536, li_a544, li_b544, li_a552, li_b552, li_a560, li_b560, li_a568, li_b568, li_a573, li_b573, li_a585, li_b585, li_a633, li_b633, li_m3, li_n3, li_m4, li_n4, li_m48, li_n48, li_m50, li_n50, li_m585, li_n585, li_m633, li_n633, li_lt2, li_ge2, li_le2, li_gt2, li_lt1, li_ge1, li_le1, li_gt1, li_lt3, li_ge3, li_le3, li_gt3, li_lt4, li_ge4, li_le4, li_gt4, li_lt7, li_ge7, li_le7, li_gt7, li_lt8, li_ge8, li_le8, li_gt8, li_lt40, li_ge40, li_le40, li_gt40, li_lt240, li_ge240, li_le240, li_gt240, li_lt41, li_ge41, li_le41, li_gt41, li_lt48, li_ge48, li_le48, li_gt48, li_lt49, li_ge49, li_le49, li_gt49, li_lt60, li_ge60, li_le60, li_gt60, li_lt144, li_ge144, li_le144, li_gt144, li_lt145, li_ge145, li_le145, li_gt145, li_lt160, li_ge160, li_le160, li_gt160, li_lt336, li_ge336, li_le336, li_gt336, li_lt585, li_ge585, li_le585, li_gt585, li_lt633, li_ge633, li_le633, li_gt633, li_lt1000000, li_ge1000000, li_le1000000, li_gt1000000, li_lt2304, li_ge2304, li_le2304, li_gt2304, li_lt50, li_ge50, li_le50, li_gt50, li_le0, li_gt0]
    exact ⟨fun q => by omega, fun _ => e4 post hp⟩
end
