/-! ===== keeps: counting by asks and counting along the chain ===== -/
theorem cntN_congr {p q : Nat → Bool} : ∀ n, (∀ i, i < n → p i = q i) → cntN p n = cntN q n
  | 0, _ => rfl
  | n + 1, h => by
    simp only [cntN]
    rw [cntN_congr n (fun i hi => h i (by omega)), h n (by omega)]
theorem cntN_zero : ∀ n, cntN (fun _ => false) n = 0
  | 0 => rfl
  | n + 1 => by simp only [cntN]; rw [cntN_zero n]; rfl
theorem cntN_add {p q : Nat → Bool} {x : Nat} : ∀ n, (∀ i, i < n → i ≠ x → p i = q i) → q x = false → cntN p n = cntN q n + (if x < n ∧ p x = true then 1 else 0)
  | 0, _, _ => by rw [if_neg (by omega)]; rfl
  | n + 1, h, hx => by
    simp only [cntN]
    rw [cntN_add n (fun i hi => h i (by omega)) hx]
    by_cases e : n = x
    · subst e
      by_cases c : p n = true
      · simp [c, hx]
      · simp [c, hx]
    · rw [h n (by omega) e]
      by_cases c : p x = true
      · by_cases c2 : x < n
        · simp [c, c2, show x < n + 1 by omega]; omega
        · simp [c, c2, show ¬ x < n + 1 by omega]
      · simp [c]
/-- some of the list has this number, and is of the kind -/
noncomputable def anyB (kw : Nat → Nat) (q : Nat → Bool) (L : List Nat) (w : Nat) : Bool := cB (∃ k ∈ L, kw k = w ∧ q k = true)
theorem cnt_list {kw : Nat → Nat} {q : Nat → Bool} {N : Nat} : ∀ (L : List Nat), (∀ k ∈ L, kw k < N) → L.Pairwise (fun a b => kw a ≠ kw b) → cntN (anyB kw q L) N = lcn q L
  | [], _, _ => by
    rw [show anyB kw q [] = fun _ => false from funext (fun w => cB_f (by rintro ⟨k, hk, -⟩; cases hk)), cntN_zero]
    rfl
  | k :: t, hb, hp => by
    have hp1 := (List.pairwise_cons.mp hp).1
    have hp2 := (List.pairwise_cons.mp hp).2
    have ih := cnt_list (q := q) t (fun z hz => hb z (List.mem_cons_of_mem _ hz)) hp2
    have hx : anyB kw q t (kw k) = false := cB_f (by rintro ⟨z, hz, e, -⟩; exact hp1 z hz e.symm)
    rw [cntN_add (p := anyB kw q (k :: t)) (q := anyB kw q t) (x := kw k) N (fun i hi hne => ?_) hx, ih]
    · show _ = (if q k = true then 1 else 0) + lcn q t
      by_cases c : q k = true
      · rw [if_pos ⟨hb k List.mem_cons_self, cB_t ⟨k, List.mem_cons_self, rfl, c⟩⟩, if_pos c]; omega
      · rw [if_neg c, if_neg]
        · omega
        · rintro ⟨-, h2⟩
          obtain ⟨z, hz, e, hq⟩ := cB_of h2
          rcases List.mem_cons.mp hz with rfl | hz
          · exact c hq
          · exact hp1 z hz e.symm
    · apply cB_iff
      constructor
      · rintro ⟨z, hz, e, hq⟩
        rcases List.mem_cons.mp hz with rfl | hz
        · exact absurd e.symm hne
        · exact ⟨z, hz, e, hq⟩
      · rintro ⟨z, hz, e, hq⟩
        exact ⟨z, List.mem_cons_of_mem _ hz, e, hq⟩
theorem KP.cnt {P : Px} {n : Nat} {ι : Nat → Nat} {φ : Nat → Nat → Nat} {lt : Nat → Option Nat} {g : hw} {L : Nat → List Nat} {kw km ka : Nat → Nat} (h : KP P n ι φ lt g L kw km ka) {j : Nat} (hj : j < 4) : cntN (keptB ι φ j) 10000 = lcn (fun k => cB (ι 0 - km k ≤ φ 11 j)) (L j) := by
  obtain ⟨a, b, c, d, e⟩ := h j hj
  rw [← cnt_list (kw := kw) (N := 10000) (L j) (fun k hk => (b k hk).1) d]
  apply cntN_congr
  intro w hw
  apply cB_iff
  unfold keptP
  constructor
  · rintro ⟨h1, h2⟩
    obtain ⟨k, hk, rfl⟩ := c w hw h1
    obtain ⟨b1, b2, b3, b4⟩ := b k hk
    refine ⟨k, hk, rfl, cB_t ?_⟩
    rw [b3, Nat.add_sub_cancel] at h2
    exact h2
  · rintro ⟨k, hk, rfl, hq⟩
    obtain ⟨b1, b2, b3, b4⟩ := b k hk
    have := cB_of hq
    rw [b3, Nat.add_sub_cancel]
    exact ⟨by omega, this⟩
/-- an ANSWER that is kept is in the chain, and split off there -/
theorem KP.find {P : Px} {n : Nat} {ι : Nat → Nat} {φ : Nat → Nat → Nat} {lt : Nat → Option Nat} {g : hw} {L : Nat → List Nat} {kw km ka : Nat → Nat} (h : KP P n ι φ lt g L kw km ka) {j w : Nat} (hj : j < 4) (hw : w < 10000) (hz : ¬ φ 13 (10000 * j + w) = 0) : ∃ A B k, L j = A ++ k :: B ∧ kw k = w ∧ (∀ a ∈ A, kw a ≠ w) := by
  obtain ⟨a, b, c, d, e⟩ := h j hj
  obtain ⟨k, hk, rfl⟩ := c w hw hz
  obtain ⟨A, B, hAB⟩ := List.append_of_mem hk
  refine ⟨A, B, k, hAB, rfl, fun z hzA => ?_⟩
  rw [hAB] at d
  exact (List.pairwise_append.mp d).2.2 z hzA k List.mem_cons_self
theorem KP.none {P : Px} {n : Nat} {ι : Nat → Nat} {φ : Nat → Nat → Nat} {lt : Nat → Option Nat} {g : hw} {L : Nat → List Nat} {kw km ka : Nat → Nat} (h : KP P n ι φ lt g L kw km ka) {j w : Nat} (hj : j < 4) (hz : φ 13 (10000 * j + w) = 0) : ∀ k ∈ L j, kw k ≠ w := by
  intro k hk e
  obtain ⟨a, b, -⟩ := h j hj
  have := (b k hk).2.2.1
  rw [e, hz] at this
  omega

