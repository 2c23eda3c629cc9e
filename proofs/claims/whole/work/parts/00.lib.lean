theorem pk_us {f : Nat → Int32} {k : Nat} {x : Int32} : upd f k x k = x := if_pos rfl
theorem pk_un {f : Nat → Int32} {k j : Nat} {x : Int32} (h : j ≠ k) : upd f k x j = f j := if_neg h
theorem pk_uLs {f : Nat → Int64} {k : Nat} {x : Int64} : vp_updL f k x k = x := if_pos rfl
theorem pk_uLn {f : Nat → Int64} {k j : Nat} {x : Int64} (h : j ≠ k) : vp_updL f k x j = f j := if_neg h
theorem pk_sub {a b : Nat} (h : b ≤ a) : nI a - nI b = nI (a - b) := by
  obtain ⟨c, rfl⟩ : ∃ c, a = c + b := ⟨a - b, by omega⟩
  rw [← nI_add, Int32.add_sub_cancel, Nat.add_sub_cancel]
theorem pk_m1 (n : Nat) : nI (n + 1) + (-1) = nI n := by
  rw [← nI_1, Int32.add_assoc, show (1 : Int32) + (-1) = 0 from rfl, Int32.add_zero]
theorem pk_mul (a b : Nat) : nI a * nI b = nI (a * b) := (Int32.ofNat_mul a b).symm
theorem pk_div {a d : Nat} (ha : a < 2 ^ 31) (h0 : 0 < d) (hd : d < 2 ^ 31) : nI a / nI d = nI (a / d) := by
  apply Int32.toInt_inj.mp
  rw [lg_idiv_nonneg (by rw [nI_toInt ha]; omega) (by rw [nI_toInt hd]; omega), nI_toInt ha, nI_toInt hd, nI_toInt (Nat.lt_of_le_of_lt (Nat.div_le_self a d) ha)]
  first | rfl | exact (Int.natCast_ediv _ _).symm
theorem pk_rem {a d : Nat} (ha : a < 2 ^ 31) (h0 : 0 < d) (hd : d < 2 ^ 31) : nI a - nI a / nI d * nI d = nI (a % d) := by
  rw [pk_div ha h0 hd, pk_mul, pk_sub (Nat.div_mul_le_self a d)]
  exact congrArg nI (by have := Nat.div_add_mod' a d; omega)
theorem pk_ix (x : Int32) {n : Nat} (hn : n < 2 ^ 31) : x < 0 ∨ nI n ≤ x ∨ ∃ j : Nat, j < n ∧ x = nI j := by
  by_cases h : x < 0
  · exact Or.inl h
  · obtain ⟨j, hj, rfl⟩ := nI_of h
    by_cases h2 : j < n
    · exact Or.inr (Or.inr ⟨j, h2, rfl⟩)
    · exact Or.inr (Or.inl (nI_le (by omega) hj))
theorem pk_le {x y : Int32} {A B : Prop} (a b : Nat) (f : a ≤ b → A) (g : b < a → B) (hx : x = nI a := by rfl) (hy : y = nI b := by rfl) (ha : a < 2 ^ 31 := by omega) (hb : b < 2 ^ 31 := by omega) : (x ≤ y → A) ∧ (¬ x ≤ y → B) := by
  subst hx hy
  rw [nI_leI ha hb]
  exact ⟨f, fun z => g (by omega)⟩
theorem pk_lt {x y : Int32} {A B : Prop} (a b : Nat) (f : a < b → A) (g : b ≤ a → B) (hx : x = nI a := by rfl) (hy : y = nI b := by rfl) (ha : a < 2 ^ 31 := by omega) (hb : b < 2 ^ 31 := by omega) : (x < y → A) ∧ (¬ x < y → B) := by
  subst hx hy
  rw [nI_ltI ha hb]
  exact ⟨f, fun z => g (by omega)⟩
theorem pk_eq {x y : Int32} {A B : Prop} (a b : Nat) (f : a = b → A) (g : a ≠ b → B) (hx : x = nI a := by rfl) (hy : y = nI b := by rfl) (ha : a < 2 ^ 31 := by omega) (hb : b < 2 ^ 31 := by omega) : (x = y → A) ∧ (¬ x = y → B) := by
  subst hx hy
  rw [nI_eq ha hb]
  exact ⟨f, g⟩
theorem pk_in {x : Int32} (n N : Nat) (h : n < N) (hx : x = nI n := by rfl) (hN : N < 2 ^ 31 := by omega) : vp_in x N := by
  subst hx
  exact vp_in_nI h hN
theorem pk_cl {x : Int32} (n : Nat) (hx : x = nI n := by rfl) (h : n < 2 ^ 31 := by omega) : x.toNatClampNeg = n := by
  subst hx
  exact nI_clamp h
theorem pk_loop {σ : Type} (W : Nat → Nat → σ → Prop) (I : Nat → σ → Prop) (e i0 : Nat) (s : σ) (hi : i0 ≤ e) (h0 : I i0 s) (hx : ∀ n s, I e s → W (n + 1) e s)
    (hs : ∀ n i s, i < e → I i s → (∀ s', I (i + 1) s' → W n (i + 1) s') → W (n + 1) i s) : ∃ n, W n i0 s :=
  ⟨e + 1, loop_i W I e hx hs (e + 1) i0 s hi (by omega) h0⟩
theorem pk_loopD {σ : Type} (W : Nat → Nat → σ → Prop) (I : Nat → σ → Prop) (hx : ∀ n s, I 0 s → W (n + 1) 0 s)
    (hs : ∀ n i s, I (i + 1) s → (∀ s', I i s' → W n i s') → W (n + 1) (i + 1) s) : ∀ (e : Nat) (s : σ), I e s → W (e + 1) e s := by
  intro e
  induction e with
  | zero => exact fun s h => hx 0 s h
  | succ e ih => exact fun s h => hs (e + 1) e s h (fun s' h' => ih s' h')
theorem lp1 {A1 : Type} (W : Nat → A1 → Prop) (I : A1 → Prop) (μ : A1 → Nat) (hs : ∀ (n : Nat) (a1 : A1), I a1 → (∀ (b1 : A1), I b1 → μ b1 < μ a1 → W n b1) → W (n + 1) a1) (a1 : A1) (h : I a1) : ∃ n, W n a1 :=
  loop_m (σ := A1) (fun n s => W n s) (fun s => I s) (fun s => μ s) (fun n s hI hk => hs n s hI (fun b1 h9 hm => hk b1 h9 hm)) a1 h
theorem lp2 {A1 A2 : Type} (W : Nat → A1 → A2 → Prop) (I : A1 → A2 → Prop) (μ : A1 → A2 → Nat) (hs : ∀ (n : Nat) (a1 : A1) (a2 : A2), I a1 a2 → (∀ (b1 : A1) (b2 : A2), I b1 b2 → μ b1 b2 < μ a1 a2 → W n b1 b2) → W (n + 1) a1 a2) (a1 : A1) (a2 : A2) (h : I a1 a2) : ∃ n, W n a1 a2 :=
  loop_m (σ := A1 × A2) (fun n s => W n s.1 s.2) (fun s => I s.1 s.2) (fun s => μ s.1 s.2) (fun n s hI hk => hs n s.1 s.2 hI (fun b1 b2 h9 hm => hk (b1, b2) h9 hm)) (a1, a2) h
theorem lp3 {A1 A2 A3 : Type} (W : Nat → A1 → A2 → A3 → Prop) (I : A1 → A2 → A3 → Prop) (μ : A1 → A2 → A3 → Nat) (hs : ∀ (n : Nat) (a1 : A1) (a2 : A2) (a3 : A3), I a1 a2 a3 → (∀ (b1 : A1) (b2 : A2) (b3 : A3), I b1 b2 b3 → μ b1 b2 b3 < μ a1 a2 a3 → W n b1 b2 b3) → W (n + 1) a1 a2 a3) (a1 : A1) (a2 : A2) (a3 : A3) (h : I a1 a2 a3) : ∃ n, W n a1 a2 a3 :=
  loop_m (σ := A1 × A2 × A3) (fun n s => W n s.1 s.2.1 s.2.2) (fun s => I s.1 s.2.1 s.2.2) (fun s => μ s.1 s.2.1 s.2.2) (fun n s hI hk => hs n s.1 s.2.1 s.2.2 hI (fun b1 b2 b3 h9 hm => hk (b1, b2, b3) h9 hm)) (a1, a2, a3) h
theorem lp4 {A1 A2 A3 A4 : Type} (W : Nat → A1 → A2 → A3 → A4 → Prop) (I : A1 → A2 → A3 → A4 → Prop) (μ : A1 → A2 → A3 → A4 → Nat) (hs : ∀ (n : Nat) (a1 : A1) (a2 : A2) (a3 : A3) (a4 : A4), I a1 a2 a3 a4 → (∀ (b1 : A1) (b2 : A2) (b3 : A3) (b4 : A4), I b1 b2 b3 b4 → μ b1 b2 b3 b4 < μ a1 a2 a3 a4 → W n b1 b2 b3 b4) → W (n + 1) a1 a2 a3 a4) (a1 : A1) (a2 : A2) (a3 : A3) (a4 : A4) (h : I a1 a2 a3 a4) : ∃ n, W n a1 a2 a3 a4 :=
  loop_m (σ := A1 × A2 × A3 × A4) (fun n s => W n s.1 s.2.1 s.2.2.1 s.2.2.2) (fun s => I s.1 s.2.1 s.2.2.1 s.2.2.2) (fun s => μ s.1 s.2.1 s.2.2.1 s.2.2.2) (fun n s hI hk => hs n s.1 s.2.1 s.2.2.1 s.2.2.2 hI (fun b1 b2 b3 b4 h9 hm => hk (b1, b2, b3, b4) h9 hm)) (a1, a2, a3, a4) h
theorem pk_least (P : Nat → Prop) (h : ∃ k, P k) : ∃ k, P k ∧ ∀ j, j < k → ¬ P j := by
  obtain ⟨k, hk⟩ := h
  induction k using Nat.strongRecOn with
  | ind k ih =>
    by_cases e : ∃ j, j < k ∧ P j
    · obtain ⟨j, hj, pj⟩ := e
      exact ih j hj pj
    · exact ⟨k, hk, fun j hj pj => e ⟨j, hj, pj⟩⟩
theorem wb_tb (n : Nat) : (lN n).toBitVec = BitVec.ofNat 64 n := rfl
theorem wb_inj {a b : Int64} (h : a.toBitVec = b.toBitVec) : a = b := Int64.toBitVec_inj.mp h
theorem wb_c : ∀ k, k < 64 → ((nI k).toInt64 &&& 63) = lN k := by decide +kernel
theorem li_a0 (n : Nat) : (0 : Int32) + nI n = nI (0 + n) := nI_add 0 n
theorem li_b0 (n : Nat) : nI n + (0 : Int32) = nI (n + 0) := nI_add n 0
theorem li_a1 (n : Nat) : (1 : Int32) + nI n = nI (1 + n) := nI_add 1 n
theorem li_b1 (n : Nat) : nI n + (1 : Int32) = nI (n + 1) := nI_add n 1
theorem li_a2 (n : Nat) : (2 : Int32) + nI n = nI (2 + n) := nI_add 2 n
theorem li_b2 (n : Nat) : nI n + (2 : Int32) = nI (n + 2) := nI_add n 2
theorem li_a3 (n : Nat) : (3 : Int32) + nI n = nI (3 + n) := nI_add 3 n
theorem li_b3 (n : Nat) : nI n + (3 : Int32) = nI (n + 3) := nI_add n 3
theorem li_a7 (n : Nat) : (7 : Int32) + nI n = nI (7 + n) := nI_add 7 n
theorem li_b7 (n : Nat) : nI n + (7 : Int32) = nI (n + 7) := nI_add n 7
theorem li_a8 (n : Nat) : (8 : Int32) + nI n = nI (8 + n) := nI_add 8 n
theorem li_b8 (n : Nat) : nI n + (8 : Int32) = nI (n + 8) := nI_add n 8
theorem li_a16 (n : Nat) : (16 : Int32) + nI n = nI (16 + n) := nI_add 16 n
theorem li_b16 (n : Nat) : nI n + (16 : Int32) = nI (n + 16) := nI_add n 16
theorem li_a48 (n : Nat) : (48 : Int32) + nI n = nI (48 + n) := nI_add 48 n
theorem li_b48 (n : Nat) : nI n + (48 : Int32) = nI (n + 48) := nI_add n 48
theorem li_a584 (n : Nat) : (584 : Int32) + nI n = nI (584 + n) := nI_add 584 n
theorem li_b584 (n : Nat) : nI n + (584 : Int32) = nI (n + 584) := nI_add n 584
theorem li_a572 (n : Nat) : (572 : Int32) + nI n = nI (572 + n) := nI_add 572 n
theorem li_b572 (n : Nat) : nI n + (572 : Int32) = nI (n + 572) := nI_add n 572
theorem li_a96 (n : Nat) : (96 : Int32) + nI n = nI (96 + n) := nI_add 96 n
theorem li_b96 (n : Nat) : nI n + (96 : Int32) = nI (n + 96) := nI_add n 96
theorem li_a144 (n : Nat) : (144 : Int32) + nI n = nI (144 + n) := nI_add 144 n
theorem li_b144 (n : Nat) : nI n + (144 : Int32) = nI (n + 144) := nI_add n 144
theorem li_a192 (n : Nat) : (192 : Int32) + nI n = nI (192 + n) := nI_add 192 n
theorem li_b192 (n : Nat) : nI n + (192 : Int32) = nI (n + 192) := nI_add n 192
theorem li_a240 (n : Nat) : (240 : Int32) + nI n = nI (240 + n) := nI_add 240 n
theorem li_b240 (n : Nat) : nI n + (240 : Int32) = nI (n + 240) := nI_add n 240
theorem li_a336 (n : Nat) : (336 : Int32) + nI n = nI (336 + n) := nI_add 336 n
theorem li_b336 (n : Nat) : nI n + (336 : Int32) = nI (n + 336) := nI_add n 336
theorem li_a384 (n : Nat) : (384 : Int32) + nI n = nI (384 + n) := nI_add 384 n
theorem li_b384 (n : Nat) : nI n + (384 : Int32) = nI (n + 384) := nI_add n 384
theorem li_a432 (n : Nat) : (432 : Int32) + nI n = nI (432 + n) := nI_add 432 n
theorem li_b432 (n : Nat) : nI n + (432 : Int32) = nI (n + 432) := nI_add n 432
theorem li_a480 (n : Nat) : (480 : Int32) + nI n = nI (480 + n) := nI_add 480 n
theorem li_b480 (n : Nat) : nI n + (480 : Int32) = nI (n + 480) := nI_add n 480
theorem li_a488 (n : Nat) : (488 : Int32) + nI n = nI (488 + n) := nI_add 488 n
theorem li_b488 (n : Nat) : nI n + (488 : Int32) = nI (n + 488) := nI_add n 488
theorem li_a496 (n : Nat) : (496 : Int32) + nI n = nI (496 + n) := nI_add 496 n
theorem li_b496 (n : Nat) : nI n + (496 : Int32) = nI (n + 496) := nI_add n 496
theorem li_a504 (n : Nat) : (504 : Int32) + nI n = nI (504 + n) := nI_add 504 n
theorem li_b504 (n : Nat) : nI n + (504 : Int32) = nI (n + 504) := nI_add n 504
theorem li_a512 (n : Nat) : (512 : Int32) + nI n = nI (512 + n) := nI_add 512 n
theorem li_b512 (n : Nat) : nI n + (512 : Int32) = nI (n + 512) := nI_add n 512
theorem li_a520 (n : Nat) : (520 : Int32) + nI n = nI (520 + n) := nI_add 520 n
theorem li_b520 (n : Nat) : nI n + (520 : Int32) = nI (n + 520) := nI_add n 520
theorem li_a524 (n : Nat) : (524 : Int32) + nI n = nI (524 + n) := nI_add 524 n
theorem li_b524 (n : Nat) : nI n + (524 : Int32) = nI (n + 524) := nI_add n 524
theorem li_a528 (n : Nat) : (528 : Int32) + nI n = nI (528 + n) := nI_add 528 n
theorem li_b528 (n : Nat) : nI n + (528 : Int32) = nI (n + 528) := nI_add n 528
theorem li_a536 (n : Nat) : (536 : Int32) + nI n = nI (536 + n) := nI_add 536 n
theorem li_b536 (n : Nat) : nI n + (536 : Int32) = nI (n + 536) := nI_add n 536
theorem li_a544 (n : Nat) : (544 : Int32) + nI n = nI (544 + n) := nI_add 544 n
theorem li_b544 (n : Nat) : nI n + (544 : Int32) = nI (n + 544) := nI_add n 544
theorem li_a552 (n : Nat) : (552 : Int32) + nI n = nI (552 + n) := nI_add 552 n
theorem li_b552 (n : Nat) : nI n + (552 : Int32) = nI (n + 552) := nI_add n 552
theorem li_a560 (n : Nat) : (560 : Int32) + nI n = nI (560 + n) := nI_add 560 n
theorem li_b560 (n : Nat) : nI n + (560 : Int32) = nI (n + 560) := nI_add n 560
theorem li_a568 (n : Nat) : (568 : Int32) + nI n = nI (568 + n) := nI_add 568 n
theorem li_b568 (n : Nat) : nI n + (568 : Int32) = nI (n + 568) := nI_add n 568
theorem li_a573 (n : Nat) : (573 : Int32) + nI n = nI (573 + n) := nI_add 573 n
theorem li_b573 (n : Nat) : nI n + (573 : Int32) = nI (n + 573) := nI_add n 573
theorem li_a585 (n : Nat) : (585 : Int32) + nI n = nI (585 + n) := nI_add 585 n
theorem li_b585 (n : Nat) : nI n + (585 : Int32) = nI (n + 585) := nI_add n 585
theorem li_a633 (n : Nat) : (633 : Int32) + nI n = nI (633 + n) := nI_add 633 n
theorem li_b633 (n : Nat) : nI n + (633 : Int32) = nI (n + 633) := nI_add n 633
theorem li_m3 (n : Nat) : (3 : Int32) * nI n = nI (3 * n) := pk_mul 3 n
theorem li_n3 (n : Nat) : nI n * (3 : Int32) = nI (n * 3) := pk_mul n 3
theorem li_m4 (n : Nat) : (4 : Int32) * nI n = nI (4 * n) := pk_mul 4 n
theorem li_n4 (n : Nat) : nI n * (4 : Int32) = nI (n * 4) := pk_mul n 4
theorem li_m48 (n : Nat) : (48 : Int32) * nI n = nI (48 * n) := pk_mul 48 n
theorem li_n48 (n : Nat) : nI n * (48 : Int32) = nI (n * 48) := pk_mul n 48
theorem li_m50 (n : Nat) : (50 : Int32) * nI n = nI (50 * n) := pk_mul 50 n
theorem li_n50 (n : Nat) : nI n * (50 : Int32) = nI (n * 50) := pk_mul n 50
theorem li_m585 (n : Nat) : (585 : Int32) * nI n = nI (585 * n) := pk_mul 585 n
theorem li_n585 (n : Nat) : nI n * (585 : Int32) = nI (n * 585) := pk_mul n 585
theorem li_m633 (n : Nat) : (633 : Int32) * nI n = nI (633 * n) := pk_mul 633 n
theorem li_n633 (n : Nat) : nI n * (633 : Int32) = nI (n * 633) := pk_mul n 633
theorem li_lt2 {n : Nat} (h : n < 2 ^ 31) : nI n < (2 : Int32) ↔ n < 2 := nI_ltI (b := 2) h (by decide)
theorem li_ge2 {n : Nat} (h : n < 2 ^ 31) : (2 : Int32) ≤ nI n ↔ 2 ≤ n := nI_leI (a := 2) (by decide) h
theorem li_le2 {n : Nat} (h : n < 2 ^ 31) : nI n ≤ (2 : Int32) ↔ n ≤ 2 := nI_leI (b := 2) h (by decide)
theorem li_gt2 {n : Nat} (h : n < 2 ^ 31) : (2 : Int32) < nI n ↔ 2 < n := nI_ltI (a := 2) (by decide) h
theorem li_lt1 {n : Nat} (h : n < 2 ^ 31) : nI n < (1 : Int32) ↔ n < 1 := nI_ltI (b := 1) h (by decide)
theorem li_ge1 {n : Nat} (h : n < 2 ^ 31) : (1 : Int32) ≤ nI n ↔ 1 ≤ n := nI_leI (a := 1) (by decide) h
theorem li_le1 {n : Nat} (h : n < 2 ^ 31) : nI n ≤ (1 : Int32) ↔ n ≤ 1 := nI_leI (b := 1) h (by decide)
theorem li_gt1 {n : Nat} (h : n < 2 ^ 31) : (1 : Int32) < nI n ↔ 1 < n := nI_ltI (a := 1) (by decide) h
theorem li_lt3 {n : Nat} (h : n < 2 ^ 31) : nI n < (3 : Int32) ↔ n < 3 := nI_ltI (b := 3) h (by decide)
theorem li_ge3 {n : Nat} (h : n < 2 ^ 31) : (3 : Int32) ≤ nI n ↔ 3 ≤ n := nI_leI (a := 3) (by decide) h
theorem li_le3 {n : Nat} (h : n < 2 ^ 31) : nI n ≤ (3 : Int32) ↔ n ≤ 3 := nI_leI (b := 3) h (by decide)
theorem li_gt3 {n : Nat} (h : n < 2 ^ 31) : (3 : Int32) < nI n ↔ 3 < n := nI_ltI (a := 3) (by decide) h
theorem li_lt4 {n : Nat} (h : n < 2 ^ 31) : nI n < (4 : Int32) ↔ n < 4 := nI_ltI (b := 4) h (by decide)
theorem li_ge4 {n : Nat} (h : n < 2 ^ 31) : (4 : Int32) ≤ nI n ↔ 4 ≤ n := nI_leI (a := 4) (by decide) h
theorem li_le4 {n : Nat} (h : n < 2 ^ 31) : nI n ≤ (4 : Int32) ↔ n ≤ 4 := nI_leI (b := 4) h (by decide)
theorem li_gt4 {n : Nat} (h : n < 2 ^ 31) : (4 : Int32) < nI n ↔ 4 < n := nI_ltI (a := 4) (by decide) h
theorem li_lt7 {n : Nat} (h : n < 2 ^ 31) : nI n < (7 : Int32) ↔ n < 7 := nI_ltI (b := 7) h (by decide)
theorem li_ge7 {n : Nat} (h : n < 2 ^ 31) : (7 : Int32) ≤ nI n ↔ 7 ≤ n := nI_leI (a := 7) (by decide) h
theorem li_le7 {n : Nat} (h : n < 2 ^ 31) : nI n ≤ (7 : Int32) ↔ n ≤ 7 := nI_leI (b := 7) h (by decide)
theorem li_gt7 {n : Nat} (h : n < 2 ^ 31) : (7 : Int32) < nI n ↔ 7 < n := nI_ltI (a := 7) (by decide) h
theorem li_lt8 {n : Nat} (h : n < 2 ^ 31) : nI n < (8 : Int32) ↔ n < 8 := nI_ltI (b := 8) h (by decide)
theorem li_ge8 {n : Nat} (h : n < 2 ^ 31) : (8 : Int32) ≤ nI n ↔ 8 ≤ n := nI_leI (a := 8) (by decide) h
theorem li_le8 {n : Nat} (h : n < 2 ^ 31) : nI n ≤ (8 : Int32) ↔ n ≤ 8 := nI_leI (b := 8) h (by decide)
theorem li_gt8 {n : Nat} (h : n < 2 ^ 31) : (8 : Int32) < nI n ↔ 8 < n := nI_ltI (a := 8) (by decide) h
theorem li_lt40 {n : Nat} (h : n < 2 ^ 31) : nI n < (40 : Int32) ↔ n < 40 := nI_ltI (b := 40) h (by decide)
theorem li_ge40 {n : Nat} (h : n < 2 ^ 31) : (40 : Int32) ≤ nI n ↔ 40 ≤ n := nI_leI (a := 40) (by decide) h
theorem li_le40 {n : Nat} (h : n < 2 ^ 31) : nI n ≤ (40 : Int32) ↔ n ≤ 40 := nI_leI (b := 40) h (by decide)
theorem li_gt40 {n : Nat} (h : n < 2 ^ 31) : (40 : Int32) < nI n ↔ 40 < n := nI_ltI (a := 40) (by decide) h
theorem li_lt240 {n : Nat} (h : n < 2 ^ 31) : nI n < (240 : Int32) ↔ n < 240 := nI_ltI (b := 240) h (by decide)
theorem li_ge240 {n : Nat} (h : n < 2 ^ 31) : (240 : Int32) ≤ nI n ↔ 240 ≤ n := nI_leI (a := 240) (by decide) h
theorem li_le240 {n : Nat} (h : n < 2 ^ 31) : nI n ≤ (240 : Int32) ↔ n ≤ 240 := nI_leI (b := 240) h (by decide)
theorem li_gt240 {n : Nat} (h : n < 2 ^ 31) : (240 : Int32) < nI n ↔ 240 < n := nI_ltI (a := 240) (by decide) h
theorem li_lt41 {n : Nat} (h : n < 2 ^ 31) : nI n < (41 : Int32) ↔ n < 41 := nI_ltI (b := 41) h (by decide)
theorem li_ge41 {n : Nat} (h : n < 2 ^ 31) : (41 : Int32) ≤ nI n ↔ 41 ≤ n := nI_leI (a := 41) (by decide) h
theorem li_le41 {n : Nat} (h : n < 2 ^ 31) : nI n ≤ (41 : Int32) ↔ n ≤ 41 := nI_leI (b := 41) h (by decide)
theorem li_gt41 {n : Nat} (h : n < 2 ^ 31) : (41 : Int32) < nI n ↔ 41 < n := nI_ltI (a := 41) (by decide) h
theorem li_lt48 {n : Nat} (h : n < 2 ^ 31) : nI n < (48 : Int32) ↔ n < 48 := nI_ltI (b := 48) h (by decide)
theorem li_ge48 {n : Nat} (h : n < 2 ^ 31) : (48 : Int32) ≤ nI n ↔ 48 ≤ n := nI_leI (a := 48) (by decide) h
theorem li_le48 {n : Nat} (h : n < 2 ^ 31) : nI n ≤ (48 : Int32) ↔ n ≤ 48 := nI_leI (b := 48) h (by decide)
theorem li_gt48 {n : Nat} (h : n < 2 ^ 31) : (48 : Int32) < nI n ↔ 48 < n := nI_ltI (a := 48) (by decide) h
theorem li_lt49 {n : Nat} (h : n < 2 ^ 31) : nI n < (49 : Int32) ↔ n < 49 := nI_ltI (b := 49) h (by decide)
theorem li_ge49 {n : Nat} (h : n < 2 ^ 31) : (49 : Int32) ≤ nI n ↔ 49 ≤ n := nI_leI (a := 49) (by decide) h
theorem li_le49 {n : Nat} (h : n < 2 ^ 31) : nI n ≤ (49 : Int32) ↔ n ≤ 49 := nI_leI (b := 49) h (by decide)
theorem li_gt49 {n : Nat} (h : n < 2 ^ 31) : (49 : Int32) < nI n ↔ 49 < n := nI_ltI (a := 49) (by decide) h
theorem li_lt60 {n : Nat} (h : n < 2 ^ 31) : nI n < (60 : Int32) ↔ n < 60 := nI_ltI (b := 60) h (by decide)
theorem li_ge60 {n : Nat} (h : n < 2 ^ 31) : (60 : Int32) ≤ nI n ↔ 60 ≤ n := nI_leI (a := 60) (by decide) h
theorem li_le60 {n : Nat} (h : n < 2 ^ 31) : nI n ≤ (60 : Int32) ↔ n ≤ 60 := nI_leI (b := 60) h (by decide)
theorem li_gt60 {n : Nat} (h : n < 2 ^ 31) : (60 : Int32) < nI n ↔ 60 < n := nI_ltI (a := 60) (by decide) h
theorem li_lt144 {n : Nat} (h : n < 2 ^ 31) : nI n < (144 : Int32) ↔ n < 144 := nI_ltI (b := 144) h (by decide)
theorem li_ge144 {n : Nat} (h : n < 2 ^ 31) : (144 : Int32) ≤ nI n ↔ 144 ≤ n := nI_leI (a := 144) (by decide) h
theorem li_le144 {n : Nat} (h : n < 2 ^ 31) : nI n ≤ (144 : Int32) ↔ n ≤ 144 := nI_leI (b := 144) h (by decide)
theorem li_gt144 {n : Nat} (h : n < 2 ^ 31) : (144 : Int32) < nI n ↔ 144 < n := nI_ltI (a := 144) (by decide) h
theorem li_lt145 {n : Nat} (h : n < 2 ^ 31) : nI n < (145 : Int32) ↔ n < 145 := nI_ltI (b := 145) h (by decide)
theorem li_ge145 {n : Nat} (h : n < 2 ^ 31) : (145 : Int32) ≤ nI n ↔ 145 ≤ n := nI_leI (a := 145) (by decide) h
theorem li_le145 {n : Nat} (h : n < 2 ^ 31) : nI n ≤ (145 : Int32) ↔ n ≤ 145 := nI_leI (b := 145) h (by decide)
theorem li_gt145 {n : Nat} (h : n < 2 ^ 31) : (145 : Int32) < nI n ↔ 145 < n := nI_ltI (a := 145) (by decide) h
theorem li_lt160 {n : Nat} (h : n < 2 ^ 31) : nI n < (160 : Int32) ↔ n < 160 := nI_ltI (b := 160) h (by decide)
theorem li_ge160 {n : Nat} (h : n < 2 ^ 31) : (160 : Int32) ≤ nI n ↔ 160 ≤ n := nI_leI (a := 160) (by decide) h
theorem li_le160 {n : Nat} (h : n < 2 ^ 31) : nI n ≤ (160 : Int32) ↔ n ≤ 160 := nI_leI (b := 160) h (by decide)
theorem li_gt160 {n : Nat} (h : n < 2 ^ 31) : (160 : Int32) < nI n ↔ 160 < n := nI_ltI (a := 160) (by decide) h
theorem li_lt336 {n : Nat} (h : n < 2 ^ 31) : nI n < (336 : Int32) ↔ n < 336 := nI_ltI (b := 336) h (by decide)
theorem li_ge336 {n : Nat} (h : n < 2 ^ 31) : (336 : Int32) ≤ nI n ↔ 336 ≤ n := nI_leI (a := 336) (by decide) h
theorem li_le336 {n : Nat} (h : n < 2 ^ 31) : nI n ≤ (336 : Int32) ↔ n ≤ 336 := nI_leI (b := 336) h (by decide)
theorem li_gt336 {n : Nat} (h : n < 2 ^ 31) : (336 : Int32) < nI n ↔ 336 < n := nI_ltI (a := 336) (by decide) h
theorem li_lt585 {n : Nat} (h : n < 2 ^ 31) : nI n < (585 : Int32) ↔ n < 585 := nI_ltI (b := 585) h (by decide)
theorem li_ge585 {n : Nat} (h : n < 2 ^ 31) : (585 : Int32) ≤ nI n ↔ 585 ≤ n := nI_leI (a := 585) (by decide) h
theorem li_le585 {n : Nat} (h : n < 2 ^ 31) : nI n ≤ (585 : Int32) ↔ n ≤ 585 := nI_leI (b := 585) h (by decide)
theorem li_gt585 {n : Nat} (h : n < 2 ^ 31) : (585 : Int32) < nI n ↔ 585 < n := nI_ltI (a := 585) (by decide) h
theorem li_lt633 {n : Nat} (h : n < 2 ^ 31) : nI n < (633 : Int32) ↔ n < 633 := nI_ltI (b := 633) h (by decide)
theorem li_ge633 {n : Nat} (h : n < 2 ^ 31) : (633 : Int32) ≤ nI n ↔ 633 ≤ n := nI_leI (a := 633) (by decide) h
theorem li_le633 {n : Nat} (h : n < 2 ^ 31) : nI n ≤ (633 : Int32) ↔ n ≤ 633 := nI_leI (b := 633) h (by decide)
theorem li_gt633 {n : Nat} (h : n < 2 ^ 31) : (633 : Int32) < nI n ↔ 633 < n := nI_ltI (a := 633) (by decide) h
theorem li_lt1000000 {n : Nat} (h : n < 2 ^ 31) : nI n < (1000000 : Int32) ↔ n < 1000000 := nI_ltI (b := 1000000) h (by decide)
theorem li_ge1000000 {n : Nat} (h : n < 2 ^ 31) : (1000000 : Int32) ≤ nI n ↔ 1000000 ≤ n := nI_leI (a := 1000000) (by decide) h
theorem li_le1000000 {n : Nat} (h : n < 2 ^ 31) : nI n ≤ (1000000 : Int32) ↔ n ≤ 1000000 := nI_leI (b := 1000000) h (by decide)
theorem li_gt1000000 {n : Nat} (h : n < 2 ^ 31) : (1000000 : Int32) < nI n ↔ 1000000 < n := nI_ltI (a := 1000000) (by decide) h
theorem li_lt2304 {n : Nat} (h : n < 2 ^ 31) : nI n < (2304 : Int32) ↔ n < 2304 := nI_ltI (b := 2304) h (by decide)
theorem li_ge2304 {n : Nat} (h : n < 2 ^ 31) : (2304 : Int32) ≤ nI n ↔ 2304 ≤ n := nI_leI (a := 2304) (by decide) h
theorem li_le2304 {n : Nat} (h : n < 2 ^ 31) : nI n ≤ (2304 : Int32) ↔ n ≤ 2304 := nI_leI (b := 2304) h (by decide)
theorem li_gt2304 {n : Nat} (h : n < 2 ^ 31) : (2304 : Int32) < nI n ↔ 2304 < n := nI_ltI (a := 2304) (by decide) h
theorem li_lt50 {n : Nat} (h : n < 2 ^ 31) : nI n < (50 : Int32) ↔ n < 50 := nI_ltI (b := 50) h (by decide)
theorem li_ge50 {n : Nat} (h : n < 2 ^ 31) : (50 : Int32) ≤ nI n ↔ 50 ≤ n := nI_leI (a := 50) (by decide) h
theorem li_le50 {n : Nat} (h : n < 2 ^ 31) : nI n ≤ (50 : Int32) ↔ n ≤ 50 := nI_leI (b := 50) h (by decide)
theorem li_gt50 {n : Nat} (h : n < 2 ^ 31) : (50 : Int32) < nI n ↔ 50 < n := nI_ltI (a := 50) (by decide) h
theorem li_0le {n : Nat} (h : n < 2 ^ 31) : (0 : Int32) ≤ nI n ↔ True := ⟨fun _ => True.intro, fun _ => nI_pos' h⟩
theorem li_lt0 {n : Nat} (h : n < 2 ^ 31) : nI n < (0 : Int32) ↔ False := ⟨fun q => nI_pos h q, fun q => q.elim⟩
theorem li_le0 {n : Nat} (h : n < 2 ^ 31) : nI n ≤ (0 : Int32) ↔ n ≤ 0 := nI_leI (b := 0) h (by decide)
theorem li_gt0 {n : Nat} (h : n < 2 ^ 31) : (0 : Int32) < nI n ↔ 0 < n := nI_ltI (a := 0) (by decide) h
theorem li_nn1 {n : Nat} (h : n < 2 ^ 31) : nI n = (-1 : Int32) ↔ False := by
  refine ⟨fun q => ?_, fun q => q.elim⟩
  have h1 := nI_toInt h
  rw [q] at h1
  have h2 : (-1 : Int32).toInt = -1 := by decide
  omega
theorem li_e0 {n : Nat} (h : n < 2 ^ 31) : nI n = (0 : Int32) ↔ n = 0 := nI_eq (b := 0) h (by decide)
theorem li_vin {n N : Nat} (h : n < N) (hN : N < 2 ^ 31) : vp_in (nI n) N ↔ True := ⟨fun _ => True.intro, fun _ => vp_in_nI h hN⟩
theorem li_us {f : Nat → Int32} {k j : Nat} {x : Int32} (h : j = k) : upd f k x j = x := if_pos h
/-- a long by its bits -/
def by_b (w : Int64) (i : Nat) : Bool := w.toBitVec.getLsbD i
theorem by_ext {x y : Int64} (h : ∀ i, i < 64 → by_b x i = by_b y i) : x = y := Int64.toBitVec_inj.mp (BitVec.eq_of_getLsbD_eq (fun i hi => h i hi))
theorem by_or (x y : Int64) (i : Nat) : by_b (x ||| y) i = (by_b x i || by_b y i) := by unfold by_b; rw [Int64.toBitVec_or, BitVec.getLsbD_or]
theorem by_and (x y : Int64) (i : Nat) : by_b (x &&& y) i = (by_b x i && by_b y i) := by unfold by_b; rw [Int64.toBitVec_and, BitVec.getLsbD_and]
theorem by_not (x : Int64) {i : Nat} (hi : i < 64) : by_b (x ^^^ (-1)) i = !(by_b x i) := by
  have ha : (-1 : Int64).toBitVec = BitVec.allOnes 64 := by decide
  unfold by_b
  rw [Int64.toBitVec_xor, ha, BitVec.getLsbD_xor, BitVec.getLsbD_allOnes, decide_eq_true hi, Bool.xor_true]
theorem by_0 (i : Nat) : by_b 0 i = false := BitVec.getLsbD_zero
theorem by_s : ∀ n, n < 64 → (((nI n).toInt64 &&& 63).toBitVec.smod 64).toNat = n := by decide +kernel
theorem by_one {k : Nat} (hk : k < 64) : ((1 : Int64) <<< ((nI k).toInt64 &&& 63)).toBitVec = BitVec.twoPow 64 k := by
  rw [Int64.toBitVec_shiftLeft]
  show (1#64 <<< (((nI k).toInt64 &&& 63).toBitVec.smod 64).toNat) = _
  rw [by_s k hk]
  rfl
theorem by_shl {k i : Nat} (hk : k < 64) : by_b ((1 : Int64) <<< ((nI k).toInt64 &&& 63)) i = decide (k = i) := by
  unfold by_b
  rw [by_one hk, BitVec.getLsbD_twoPow]
  simp [hk]
theorem by_full {i : Nat} (hi : i < 64) : by_b 281474976710655 i = decide (i < 48) :=
  (by decide +kernel : ∀ i, i < 64 → by_b 281474976710655 i = decide (i < 48)) i hi
theorem by_shr (w : Int64) {k : Nat} (hk : k < 64) : (w >>> ((nI k).toInt64 &&& 63)).toBitVec.getLsbD 0 = by_b w k := by
  rw [Int64.toBitVec_shiftRight]
  show (w.toBitVec.sshiftRight (((nI k).toInt64 &&& 63).toBitVec.smod 64).toNat).getLsbD 0 = _
  rw [by_s k hk, BitVec.getLsbD_sshiftRight]
  unfold by_b
  simp [hk]
theorem by_t1 (w : Int64) : (w &&& 1) = 1 ↔ w.toBitVec.getLsbD 0 = true := by
  rw [← Int64.toBitVec_inj, Int64.toBitVec_and]
  show w.toBitVec &&& 1#64 = 1#64 ↔ _
  constructor
  · intro h
    have t := congrArg (fun x => x.getLsbD 0) h
    simpa using t
  · intro h
    apply BitVec.eq_of_getLsbD_eq
    intro i hi
    cases i with
    | zero => simp [h]
    | succ i => simp
theorem by_t0 (w : Int64) : (w &&& 1) = 0 ↔ w.toBitVec.getLsbD 0 = false := by
  rw [← Int64.toBitVec_inj, Int64.toBitVec_and]
  show w.toBitVec &&& 1#64 = 0#64 ↔ _
  constructor
  · intro h
    have t := congrArg (fun x => x.getLsbD 0) h
    simpa using t
  · intro h
    apply BitVec.eq_of_getLsbD_eq
    intro i hi
    cases i with
    | zero =>
      have h' : w.toBitVec[0] = false := by simpa using h
      simp [h']
    | succ i => simp
theorem by_is1 (w : Int64) {k : Nat} (hk : k < 64) : ((w >>> ((nI k).toInt64 &&& 63)) &&& 1) = 1 ↔ by_b w k = true := by
  rw [by_t1, by_shr w hk]
theorem by_is0 (w : Int64) {k : Nat} (hk : k < 64) : ((w >>> ((nI k).toInt64 &&& 63)) &&& 1) = 0 ↔ by_b w k = false := by
  rw [by_t0, by_shr w hk]
