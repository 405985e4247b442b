/-! ===== what ties the class's cells to the rows: letters ===== -/
/-- the letters on their way: bit t of ℓ j, a letter to JUDGE j in t TICKS -/
def LT (ι : Nat → Nat) (φ : Nat → Nat → Nat) (ℓ : Nat → Nat) : Prop :=
  (∀ j, j < 4 → ∀ t, 1 ≤ t → t ≤ 20 → ((ℓ j).testBit t = true ↔ ¬ φ 15 (5030 * j + ι 0 + t) = 0)) ∧ (∀ j, j < 4 → ∀ t, 20 < t → ι 0 + t < 5030 → φ 15 (5030 * j + ι 0 + t) = 0) ∧ ∀ j t, (t = 0 ∨ 20 < t) → (ℓ j).testBit t = false
abbrev SL1_ := @sl1
abbrev CHG_ := @chg
theorem LT.lt {ι : Nat → Nat} {φ : Nat → Nat → Nat} {ℓ : Nat → Nat} (h : LT ι φ ℓ) (j : Nat) : ℓ j < 2 ^ 21 := lt_bits (fun i hi => h.2.2 j i (Or.inr (by omega)))
theorem LT.of {ι ι' : Nat → Nat} {φ φ' : Nat → Nat → Nat} {ℓ : Nat → Nat} (h : LT ι φ ℓ) (h0 : ι' 0 = ι 0) (h15 : ∀ i, φ' 15 i = φ 15 i) : LT ι' φ' ℓ := by
  obtain ⟨a, b, c⟩ := h
  refine ⟨fun j hj t h1 h2 => ?_, fun j hj t h1 h2 => ?_, c⟩
  · rw [h0, h15]; exact a j hj t h1 h2
  · rw [h0, h15]; exact b j hj t h1 (by rw [← h0]; exact h2)
theorem up2_15 {φ : Nat → Nat → Nat} {k a x : Nat} (h : k ≠ 15) (i : Nat) : up2 φ k a x 15 i = φ 15 i := up2_n _ _ (Or.inl (Ne.symm h))
/-- one JUDGE's letter -/
theorem LT.sl1 {ι : Nat → Nat} {φ ψ : Nat → Nat → Nat} {ℓ : Nat → Nat} (h : LT ι φ ℓ) (hn : ι 0 ≤ 5000) {j : Nat} (hj : j < 4) (hw : φ 12 j ≤ 20) (hψ : ψ 12 j = φ 12 j) : LT ι (chg1 ι φ j) (SL1_ ψ ℓ j) := by
  unfold chg1
  show LT ι _ (if ψ 12 j = 0 then ℓ else up1 ℓ j (ℓ j ||| 1 * 2 ^ ψ 12 j))
  rw [hψ]
  by_cases hz : φ 12 j = 0
  · rw [if_pos hz, if_pos hz]
    exact h.of rfl (fun i => fgt_n (by decide))
  · rw [if_neg hz, if_neg hz]
    obtain ⟨a, b, c⟩ := h
    refine ⟨fun i hi t h1 h2 => ?_, fun i hi t h1 h2 => ?_, fun i t ht => ?_⟩
    · unfold up1
      by_cases e : i = j
      · subst e
        rw [if_pos rfl, orb]
        by_cases e2 : t = φ 12 i
        · subst e2
          rw [up2_s]
          simp
        · rw [up2_n _ _ (Or.inr (by omega)), decide_eq_false (fun z => e2 z.symm), Bool.or_false]
          exact a i hi t h1 h2
      · rw [if_neg e, up2_n _ _ (Or.inr (by omega))]
        exact a i hi t h1 h2
    · rw [up2_n _ _ (Or.inr (by omega))]
      exact b i hi t h1 h2
    · unfold up1
      by_cases e : i = j
      · subst e
        rw [if_pos rfl, orb, c i t ht, decide_eq_false (by omega)]
        rfl
      · rw [if_neg e]
        exact c i t ht
theorem LT.chg {ι : Nat → Nat} {φ ψ : Nat → Nat → Nat} {ℓ : Nat → Nat} (h : LT ι φ ℓ) (hn : ι 0 ≤ 5000) (hw : ∀ j, φ 12 j ≤ 20) (hψ : ∀ j, ψ 12 j = φ 12 j) : ∀ j, j ≤ 4 → LT ι (CHG_ ι φ j) (slN ψ ℓ j)
  | 0, _ => h
  | j + 1, hj => by
    have ih := LT.chg h hn hw hψ j (by omega)
    have e : ∀ i, CHG_ ι φ j 12 i = φ 12 i := fun i => chg_n j (by decide) (by decide)
    exact ih.sl1 hn (by omega) (by rw [e]; exact hw j) (by rw [e]; exact hψ j)
/-! ===== go: what has come ===== -/
/-- JUDGE j is told something within t TICKS -/
def came (ι : Nat → Nat) (φ : Nat → Nat → Nat) (t j : Nat) : Prop := ∃ s, 1 ≤ s ∧ s ≤ t ∧ ¬ φ 15 (5030 * j + ι 0 + s) = 0
theorem cmN_iff {ι : Nat → Nat} {φ : Nat → Nat → Nat} {ℓ : Nat → Nat} (h : LT ι φ ℓ) {t j : Nat} (hj : j < 4) (hb : ι 0 + t < 5030) : (¬ cmN ℓ t j = 0) ↔ came ι φ t j := by
  unfold cmN came
  rw [Nat.one_mul]
  constructor
  · intro hz
    obtain ⟨i, hi⟩ := Nat.exists_testBit_of_ne_zero hz
    rw [Nat.testBit_and, Nat.testBit_two_pow_sub_one, Bool.and_eq_true, decide_eq_true_eq] at hi
    have h1 : ¬ i = 0 := fun e => by have := h.2.2 j i (Or.inl e); rw [hi.1] at this; cases this
    have h2 : i ≤ 20 := by omega
    exact ⟨i, by omega, by omega, (h.1 j hj i (by omega) h2).mp hi.1⟩
  · rintro ⟨s, h1, h2, h3⟩ hz
    have hs : s ≤ 20 := by
      apply Classical.byContradiction
      intro q
      exact h3 (h.2.1 j hj s (by omega) (by omega))
    have hb2 := (h.1 j hj s h1 hs).mpr h3
    have := congrArg (fun y => Nat.testBit y s) hz
    simp only [Nat.testBit_and, Nat.testBit_two_pow_sub_one, Nat.zero_testBit, hb2, Bool.true_and, decide_eq_false_iff_not] at this
    omega

