/-! ===== go: the rows and the letters behind it ===== -/
theorem arrv_n {ι : Nat → Nat} {φ : Nat → Nat → Nat} {k i : Nat} (hk : k ≠ 13) : ∀ J, arrv ι φ J k i = φ k i
  | 0 => rfl
  | J + 1 => by
    simp only [arrv]
    split
    · exact arrv_n hk J
    · rw [fgt_n hk]; exact arrv_n hk J
theorem arrv_13 {ι : Nat → Nat} {φ : Nat → Nat → Nat} {i : Nat} : ∀ J, arrv ι φ J 13 i = if i / 10000 < J ∧ ¬ φ 15 (5030 * (i / 10000) + ι 0) = 0 then 0 else φ 13 i
  | 0 => by rw [if_neg (by omega)]; rfl
  | J + 1 => by
    have ih := arrv_13 (ι := ι) (φ := φ) (i := i) J
    simp only [arrv]
    rw [arrv_n (by decide) J]
    by_cases h : φ 15 (5030 * J + ι 0) = 0
    · rw [if_pos h, ih]
      by_cases e : i / 10000 = J
      · rw [if_neg (by omega), if_neg (fun q => q.2 (by rw [e]; exact h))]
      · by_cases c : i / 10000 < J ∧ ¬ φ 15 (5030 * (i / 10000) + ι 0) = 0
        · rw [if_pos c, if_pos ⟨by omega, c.2⟩]
        · rw [if_neg c, if_neg (fun q => c ⟨by omega, q.2⟩)]
    · rw [if_neg h]
      unfold fgt
      by_cases e : i / 10000 = J
      · rw [if_pos ⟨rfl, by omega, by omega⟩, if_pos ⟨by omega, by rw [e]; exact h⟩]
      · rw [if_neg (fun q => e (by omega)), ih]
        by_cases c : i / 10000 < J ∧ ¬ φ 15 (5030 * (i / 10000) + ι 0) = 0
        · rw [if_pos c, if_pos ⟨by omega, c.2⟩]
        · rw [if_neg c, if_neg (fun q => c ⟨by omega, q.2⟩)]
theorem up1_up1 {ι : Nat → Nat} {x y : Nat} : up1 (up1 ι 0 x) 0 y = up1 ι 0 y := by
  funext i
  unfold up1
  by_cases h : i = 0 <;> simp [h]
theorem up1_id {ι : Nat → Nat} {k x : Nat} (h : ι k = x) : up1 ι k x = ι := by
  funext i
  unfold up1
  by_cases e : i = k
  · rw [if_pos e, e, h]
  · rw [if_neg e]
theorem goS_1 : ∀ (a : Nat) (ι : Nat → Nat) (φ : Nat → Nat → Nat), ι 0 ≤ 5000 → (goS a ι φ).1 = up1 ι 0 (ι 0 + min a (5000 - ι 0))
  | 0, ι, φ, h => by rw [Nat.zero_min]; exact (up1_id rfl).symm
  | a + 1, ι, φ, h => by
    simp only [goS]
    by_cases c : ι 0 < 5000
    · rw [if_pos c, goS_1 a _ _ (by show ι 0 + 1 ≤ 5000; omega), up1_up1, show up1 ι 0 (ι 0 + 1) 0 = ι 0 + 1 from rfl]
      congr 1
      omega
    · rw [if_neg c, show min (a + 1) (5000 - ι 0) = 0 by omega]
      exact (up1_id rfl).symm
theorem goS_n : ∀ (a : Nat) (ι : Nat → Nat) (φ : Nat → Nat → Nat) {k i : Nat}, k ≠ 13 → (goS a ι φ).2 k i = φ k i
  | 0, ι, φ, _, _, _ => rfl
  | a + 1, ι, φ, k, i, hk => by
    simp only [goS]
    by_cases c : ι 0 < 5000
    · rw [if_pos c, goS_n a _ _ hk, arrv_n hk]
    · rw [if_neg c]
theorem goS_13 : ∀ (a : Nat) (ι : Nat → Nat) (φ : Nat → Nat → Nat) (i : Nat), ι 0 ≤ 5000 → (goS a ι φ).2 13 i = pif (i / 10000 < 4 ∧ came ι φ (min a (5000 - ι 0)) (i / 10000)) 0 (φ 13 i)
  | 0, ι, φ, i, h => by
    rw [pif_f]
    · rfl
    · rintro ⟨-, s, h1, h2, -⟩
      rw [Nat.zero_min] at h2
      omega
  | a + 1, ι, φ, i, h => by
    simp only [goS]
    by_cases c : ι 0 < 5000
    · rw [if_pos c, goS_13 a _ _ i (by show ι 0 + 1 ≤ 5000; omega), arrv_13, show up1 ι 0 (ι 0 + 1) 0 = ι 0 + 1 from rfl]
      have hc : came (up1 ι 0 (ι 0 + 1)) (arrv (up1 ι 0 (ι 0 + 1)) φ 4) (min a (5000 - (ι 0 + 1))) (i / 10000) ↔ ∃ s, 1 ≤ s ∧ s ≤ min a (5000 - (ι 0 + 1)) ∧ ¬ φ 15 (5030 * (i / 10000) + (ι 0 + 1) + s) = 0 := by
        unfold came
        rw [show up1 ι 0 (ι 0 + 1) 0 = ι 0 + 1 from rfl]
        constructor
        · rintro ⟨s, h1, h2, h3⟩; exact ⟨s, h1, h2, by rw [arrv_n (by decide)] at h3; exact h3⟩
        · rintro ⟨s, h1, h2, h3⟩; exact ⟨s, h1, h2, by rw [arrv_n (by decide)]; exact h3⟩
      by_cases q4 : i / 10000 < 4
      · by_cases q1 : φ 15 (5030 * (i / 10000) + (ι 0 + 1)) = 0
        · rw [if_neg (fun z => z.2 q1)]
          by_cases q2 : ∃ s, 1 ≤ s ∧ s ≤ min a (5000 - (ι 0 + 1)) ∧ ¬ φ 15 (5030 * (i / 10000) + (ι 0 + 1) + s) = 0
          · obtain ⟨s, h1, h2, h3⟩ := q2
            rw [pif_t ⟨q4, hc.mpr ⟨s, h1, h2, h3⟩⟩, pif_t ⟨q4, s + 1, by omega, by omega, by rw [show 5030 * (i / 10000) + ι 0 + (s + 1) = 5030 * (i / 10000) + (ι 0 + 1) + s by omega]; exact h3⟩]
          · rw [pif_f (fun z => q2 (hc.mp z.2)), pif_f]
            rintro ⟨-, s, h1, h2, h3⟩
            by_cases e : s = 1
            · subst e; exact h3 (by rw [show 5030 * (i / 10000) + ι 0 + 1 = 5030 * (i / 10000) + (ι 0 + 1) by omega]; exact q1)
            · exact q2 ⟨s - 1, by omega, by omega, by rw [show 5030 * (i / 10000) + (ι 0 + 1) + (s - 1) = 5030 * (i / 10000) + ι 0 + s by omega]; exact h3⟩
        · rw [if_pos ⟨q4, q1⟩, pif_t (p := i / 10000 < 4 ∧ came ι φ _ _) ⟨q4, 1, Nat.le_refl _, by omega, by rw [show 5030 * (i / 10000) + ι 0 + 1 = 5030 * (i / 10000) + (ι 0 + 1) by omega]; exact q1⟩]
          by_cases q2 : i / 10000 < 4 ∧ came (up1 ι 0 (ι 0 + 1)) (arrv (up1 ι 0 (ι 0 + 1)) φ 4) (min a (5000 - (ι 0 + 1))) (i / 10000)
          · rw [pif_t q2]
          · rw [pif_f q2]
      · rw [if_neg (fun z => q4 z.1), pif_f (fun z => q4 z.1), pif_f (fun z => q4 z.1)]
    · rw [if_neg c, pif_f]
      rintro ⟨-, s, h1, h2, -⟩
      rw [show min (a + 1) (5000 - ι 0) = 0 by omega] at h2
      omega
theorem plN_val {ℓ : Nat → Nat} {t j : Nat} : ∀ J, plN ℓ t J j = if j < J then (ℓ j - cmN ℓ t j) / 2 ^ min t 20 else ℓ j
  | 0 => by rw [if_neg (by omega)]; rfl
  | J + 1 => by
    show up1 (plN ℓ t J) J _ j = _
    unfold up1
    by_cases e : j = J
    · subst e
      rw [if_pos rfl, if_pos (by omega)]
      have : plN ℓ t j j = ℓ j := by rw [plN_val j, if_neg (by omega)]
      unfold cmN
      rw [this]
    · rw [if_neg e, plN_val J]
      by_cases c : j < J
      · rw [if_pos c, if_pos (by omega)]
      · rw [if_neg c, if_neg (by omega)]
theorem ptN_val {ℓ : Nat → Nat} {lt : Nat → Option Nat} {t j : Nat} : ∀ J, ptN ℓ lt t J j = if j < J ∧ ¬ cmN ℓ t j = 0 then none else lt j
  | 0 => by rw [if_neg (by omega)]; rfl
  | J + 1 => by
    show (if cmN (plN ℓ t J) t J = 0 then ptN ℓ lt t J else upo (ptN ℓ lt t J) J none) j = _
    have e0 : cmN (plN ℓ t J) t J = cmN ℓ t J := by
      unfold cmN
      rw [plN_val J, if_neg (by omega)]
    rw [e0]
    by_cases h : cmN ℓ t J = 0
    · rw [if_pos h, ptN_val J]
      by_cases e : j = J
      · subst e; rw [if_neg (by omega), if_neg (fun q => q.2 h)]
      · by_cases c : j < J ∧ ¬ cmN ℓ t j = 0
        · rw [if_pos c, if_pos ⟨by omega, c.2⟩]
        · rw [if_neg c, if_neg (fun q => c ⟨by omega, q.2⟩)]
    · rw [if_neg h]
      unfold upo
      by_cases e : j = J
      · subst e; rw [if_pos rfl, if_pos ⟨by omega, h⟩]
      · rw [if_neg e, ptN_val J]
        by_cases c : j < J ∧ ¬ cmN ℓ t j = 0
        · rw [if_pos c, if_pos ⟨by omega, c.2⟩]
        · rw [if_neg c, if_neg (fun q => c ⟨by omega, q.2⟩)]
theorem shift_bit {x s t : Nat} : ((x - (x &&& (1 * 2 ^ (s + 1) - 1))) / 2 ^ s).testBit t = (decide (1 ≤ t) && x.testBit (t + s)) := by
  rw [Nat.one_mul, Nat.and_two_pow_sub_one_eq_mod]
  have e : (x - x % 2 ^ (s + 1)) / 2 ^ s = 2 ^ 1 * (x / 2 ^ (s + 1)) := by
    have h := Nat.div_add_mod x (2 ^ (s + 1))
    rw [show x - x % 2 ^ (s + 1) = 2 ^ (s + 1) * (x / 2 ^ (s + 1)) by omega, Nat.pow_succ, Nat.mul_assoc, Nat.mul_div_cancel_left _ (Nat.two_pow_pos s)]
    try rfl
  rw [e, Nat.testBit_two_pow_mul, Nat.testBit_div_two_pow]
  by_cases h : 1 ≤ t
  · rw [decide_eq_true h, show t - 1 + (s + 1) = t + s by omega]
    try rfl
  · rw [decide_eq_false h]
    try (simp; done)
theorem LT.go {ι : Nat → Nat} {φ : Nat → Nat → Nat} {ℓ : Nat → Nat} (h : LT ι φ ℓ) {T : Nat} (hT : ι 0 + T ≤ 5000) {φ' : Nat → Nat → Nat} (h15 : ∀ i, φ' 15 i = φ 15 i) : LT (up1 ι 0 (ι 0 + T)) φ' (plN ℓ T 4) := by
  obtain ⟨a, b, c⟩ := h
  have e0 : up1 ι 0 (ι 0 + T) 0 = ι 0 + T := rfl
  refine ⟨fun j hj t h1 h2 => ?_, fun j hj t h1 h2 => ?_, fun j t ht => ?_⟩
  · rw [plN_val, if_pos hj, e0, h15]
    unfold cmN
    rw [shift_bit, decide_eq_true h1, Bool.true_and, show 5030 * j + (ι 0 + T) + t = 5030 * j + ι 0 + (T + t) by omega]
    by_cases q : T + t ≤ 20
    · rw [show t + min T 20 = T + t by omega]
      exact a j hj (T + t) (by omega) q
    · rw [b j hj (T + t) (by omega) (by omega), c j (t + min T 20) (Or.inr (by omega))]
      simp
  · rw [e0, h15, show 5030 * j + (ι 0 + T) + t = 5030 * j + ι 0 + (T + t) by omega]
    rw [e0] at h2
    exact b j hj (T + t) (by omega) (by omega)
  · rw [plN_val]
    split
    · unfold cmN
      rw [shift_bit]
      rcases ht with rfl | ht
      · rfl
      · rw [c j (t + min T 20) (Or.inr (by omega)), Bool.and_false]
    · exact c j t ht

