/-! ===== the kept ANSWERS ===== -/
def KP (P : Px) (n : Nat) (ι : Nat → Nat) (φ : Nat → Nat → Nat) (lt : Nat → Option Nat) (g : hw) (L : Nat → List Nat) (kw km ka : Nat → Nat) : Prop :=
  ∀ j, j < 4 → chn P n g kw km ka (lt j) (L j) ∧ (∀ k ∈ L j, kw k < 10000 ∧ km k ≤ ι 0 ∧ φ 13 (10000 * j + kw k) = km k + 1 ∧ φ 14 (10000 * j + kw k) = ka k) ∧ (∀ w, w < 10000 → ¬ φ 13 (10000 * j + w) = 0 → ∃ k ∈ L j, kw k = w) ∧ (L j).Pairwise (fun a b => kw a ≠ kw b) ∧ (∀ i, i < 4 → i ≠ j → ∀ k ∈ L j, k ∉ L i)
theorem chn.mono {P : Px} {n n' : Nat} {g g' : hw} {kw km ka kw' km' ka' : Nat → Nat} (hn : n ≤ n') : ∀ {L : List Nat} {o : Option Nat}, chn P n g kw km ka o L → (∀ k ∈ L, k < n → ∀ nx, g k = kcell P (kw k) nx (km k) (ka k) → g' k = kcell P (kw' k) nx (km' k) (ka' k)) → chn P n' g' kw' km' ka' o L
  | [], _, h, _ => h
  | k :: t, _, h, hk => by
    obtain ⟨h1, h2, h3, nx, h4, h5⟩ := h
    exact ⟨h1, h2, by omega, nx, hk k List.mem_cons_self h3 nx h4, chn.mono hn h5 (fun k' hk' => hk k' (List.mem_cons_of_mem _ hk'))⟩
theorem chn.lt {P : Px} {n : Nat} {g : hw} {kw km ka : Nat → Nat} : ∀ {L : List Nat} {o : Option Nat}, chn P n g kw km ka o L → ∀ k ∈ L, 59 ≤ k ∧ k < n ∧ ∃ nx, g k = kcell P (kw k) nx (km k) (ka k)
  | [], _, _, k, hk => by cases hk
  | k :: t, _, h, k', hk' => by
    obtain ⟨h1, h2, h3, nx, h4, h5⟩ := h
    rcases List.mem_cons.mp hk' with rfl | hk'
    · exact ⟨h2, h3, nx, h4⟩
    · exact h5.lt k' hk'
theorem KP.of {P : Px} {n n' : Nat} {ι ι' : Nat → Nat} {φ φ' : Nat → Nat → Nat} {lt : Nat → Option Nat} {g g' : hw} {L : Nat → List Nat} {kw km ka : Nat → Nat} (h : KP P n ι φ lt g L kw km ka) (hn : n ≤ n') (hg : ∀ k, 59 ≤ k → k < n → g' k = g k) (h0 : ι 0 ≤ ι' 0) (h13 : ∀ i, φ' 13 i = φ 13 i) (h14 : ∀ i, φ' 14 i = φ 14 i) : KP P n' ι' φ' lt g' L kw km ka := by
  intro j hj
  obtain ⟨a, b, c, d, e⟩ := h j hj
  refine ⟨a.mono hn (fun k hk hk2 nx hx => by rw [hg k (a.lt k hk).1 hk2]; exact hx), fun k hk => ?_, fun w hw hz => ?_, d, e⟩
  · obtain ⟨b1, b2, b3, b4⟩ := b k hk
    exact ⟨b1, by omega, by rw [h13]; exact b3, by rw [h14]; exact b4⟩
  · rw [h13] at hz; exact c w hw hz
noncomputable def clr (c : Nat → Prop) (L : Nat → List Nat) : Nat → List Nat := fun j => pif (c j) [] (L j)
/-- JUDGES of a kind keep nothing any more -/
theorem KP.clear {P : Px} {n : Nat} {ι ι' : Nat → Nat} {φ φ' : Nat → Nat → Nat} {lt lt' : Nat → Option Nat} {g : hw} {L : Nat → List Nat} {kw km ka : Nat → Nat} (h : KP P n ι φ lt g L kw km ka) (c : Nat → Prop) (h0 : ι 0 ≤ ι' 0) (hl1 : ∀ j, j < 4 → c j → lt' j = none) (hl2 : ∀ j, j < 4 → ¬ c j → lt' j = lt j) (h13a : ∀ j w, j < 4 → w < 10000 → c j → φ' 13 (10000 * j + w) = 0) (h13b : ∀ j w, j < 4 → w < 10000 → ¬ c j → φ' 13 (10000 * j + w) = φ 13 (10000 * j + w)) (h14 : ∀ i, φ' 14 i = φ 14 i) : KP P n ι' φ' lt' g (clr c L) kw km ka := by
  intro j hj
  obtain ⟨a, b, cc, d, e⟩ := h j hj
  by_cases hc : c j
  · have hL : clr c L j = [] := pif_t hc
    rw [hL]
    exact ⟨hl1 j hj hc, (fun k hk => by cases hk), (fun w hw hz => absurd (h13a j w hj hw hc) hz), List.Pairwise.nil, (fun i _ _ k hk => by cases hk)⟩
  · have hL : clr c L j = L j := pif_f hc
    rw [hL]
    refine ⟨by rw [hl2 j hj hc]; exact a, fun k hk => ?_, fun w hw hz => ?_, d, fun i hi hij k hk hk2 => ?_⟩
    · obtain ⟨b1, b2, b3, b4⟩ := b k hk
      exact ⟨b1, by omega, by rw [h13b j _ hj b1 hc]; exact b3, by rw [h14]; exact b4⟩
    · rw [h13b j w hj hw hc] at hz; exact cc w hw hz
    · unfold clr at hk2
      by_cases hci : c i
      · rw [pif_t hci] at hk2; cases hk2
      · rw [pif_f hci] at hk2; exact e i hi hij k hk hk2
theorem chg_13 {ι : Nat → Nat} {φ : Nat → Nat → Nat} {i : Nat} : ∀ J, chg ι φ J 13 i = if i / 10000 < J ∧ φ 12 (i / 10000) = 0 then 0 else φ 13 i
  | 0 => by rw [if_neg (by omega)]; rfl
  | J + 1 => by
    have ih := chg_13 (ι := ι) (φ := φ) (i := i) J
    show chg1 ι (chg ι φ J) J 13 i = _
    unfold chg1
    rw [chg_n J (by decide) (by decide)]
    by_cases h : φ 12 J = 0
    · rw [if_pos h]
      unfold fgt
      by_cases e : i / 10000 = J
      · rw [if_pos ⟨rfl, by omega, by omega⟩, if_pos ⟨by omega, by rw [e]; exact h⟩]
      · rw [if_neg (fun q => e (by omega)), ih]
        by_cases c : i / 10000 < J ∧ φ 12 (i / 10000) = 0
        · rw [if_pos c, if_pos ⟨by omega, c.2⟩]
        · rw [if_neg c, if_neg (fun q => c ⟨by omega, q.2⟩)]
    · rw [if_neg h, up2_n _ _ (Or.inl (by decide)), ih]
      by_cases e : i / 10000 = J
      · rw [if_neg (by omega), if_neg (fun q => h (by rw [← e]; exact q.2))]
      · by_cases c : i / 10000 < J ∧ φ 12 (i / 10000) = 0
        · rw [if_pos c, if_pos ⟨by omega, c.2⟩]
        · rw [if_neg c, if_neg (fun q => c ⟨by omega, q.2⟩)]
theorem stN_val {ψ : Nat → Nat → Nat} {lt : Nat → Option Nat} {j : Nat} : ∀ J, stN ψ lt J j = if j < J ∧ ψ 12 j = 0 then none else lt j
  | 0 => by rw [if_neg (by omega)]; rfl
  | J + 1 => by
    show st1 ψ (stN ψ lt J) J j = _
    unfold st1
    by_cases h : ψ 12 J = 0
    · rw [if_pos h]
      unfold upo
      by_cases e : j = J
      · subst e; rw [if_pos rfl, if_pos ⟨by omega, h⟩]
      · rw [if_neg e, stN_val J]
        by_cases c : j < J ∧ ψ 12 j = 0
        · rw [if_pos c, if_pos ⟨by omega, c.2⟩]
        · rw [if_neg c, if_neg (fun q => c ⟨by omega, q.2⟩)]
    · rw [if_neg h, stN_val J]
      by_cases e : j = J
      · subst e; rw [if_neg (by omega), if_neg (fun q => h q.2)]
      · by_cases c : j < J ∧ ψ 12 j = 0
        · rw [if_pos c, if_pos ⟨by omega, c.2⟩]
        · rw [if_neg c, if_neg (fun q => c ⟨by omega, q.2⟩)]
theorem KP.chg {P : Px} {n : Nat} {ι : Nat → Nat} {φ ψ : Nat → Nat → Nat} {lt : Nat → Option Nat} {g : hw} {L : Nat → List Nat} {kw km ka : Nat → Nat} (h : KP P n ι φ lt g L kw km ka) (hψ : ∀ j, ψ 12 j = φ 12 j) : KP P n ι (chg ι φ 4) (stN ψ lt 4) g (clr (fun j => φ 12 j = 0) L) kw km ka := by
  refine h.clear (fun j => φ 12 j = 0) (Nat.le_refl _) (fun j hj hc => ?_) (fun j hj hc => ?_) (fun j w hj hw hc => ?_) (fun j w hj hw hc => ?_) (fun i => chg_n 4 (by decide) (by decide))
  · rw [stN_val, if_pos ⟨hj, by rw [hψ]; exact hc⟩]
  · rw [stN_val, if_neg (fun q => hc (by rw [← hψ]; exact q.2))]
  · show CHG_ ι φ 4 13 _ = 0
    rw [show CHG_ ι φ 4 13 (10000 * j + w) = _ from chg_13 4, show (10000 * j + w) / 10000 = j by omega, if_pos ⟨hj, hc⟩]
  · show CHG_ ι φ 4 13 _ = _
    rw [show CHG_ ι φ 4 13 (10000 * j + w) = _ from chg_13 4, show (10000 * j + w) / 10000 = j by omega, if_neg (fun q => hc q.2)]
theorem KP.go {P : Px} {n : Nat} {ι : Nat → Nat} {φ : Nat → Nat → Nat} {ℓ : Nat → Nat} {lt : Nat → Option Nat} {g : hw} {L : Nat → List Nat} {kw km ka : Nat → Nat} (h : KP P n ι φ lt g L kw km ka) (hL : LT ι φ ℓ) (a : Nat) (hb : ι 0 ≤ 5000) : KP P n (up1 ι 0 (ι 0 + min a (5000 - ι 0))) (goS a ι φ).2 (ptN ℓ lt (min a (5000 - ι 0)) 4) g (clr (fun j => came ι φ (min a (5000 - ι 0)) j) L) kw km ka := by
  refine h.clear (fun j => came ι φ (min a (5000 - ι 0)) j) (by show ι 0 ≤ ι 0 + _; omega) (fun j hj hc => ?_) (fun j hj hc => ?_) (fun j w hj hw hc => ?_) (fun j w hj hw hc => ?_) (fun i => goS_n a ι φ (by decide))
  · rw [ptN_val, if_pos ⟨hj, (cmN_iff hL hj (by omega)).mpr hc⟩]
  · rw [ptN_val, if_neg (fun q => hc ((cmN_iff hL hj (by omega)).mp q.2))]
  · rw [goS_13 a ι φ _ hb, show (10000 * j + w) / 10000 = j by omega, pif_t ⟨hj, hc⟩]
  · rw [goS_13 a ι φ _ hb, show (10000 * j + w) / 10000 = j by omega, pif_f (fun q => hc q.2)]

