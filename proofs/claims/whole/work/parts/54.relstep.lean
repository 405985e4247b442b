/-! ===== judged: an ANSWER more, or anew; RULES more and fewer ===== -/
theorem kc_nx {P : Px} {a a' b b' c c' : Nat} {nx nx' : Option Nat} (h : kcell P a nx b c = kcell P a' nx' b' c') : va_rf (adr P nx) = va_rf (adr P nx') := by
  simp only [kcell, Sum.inr.injEq, Prod.mk.injEq, List.cons.injEq, true_and, and_true] at h
  exact h.2.1
theorem up1_o {f : Nat → Nat} {k x j : Nat} (h : j ≠ k) : up1 f k x j = f j := if_neg h
theorem KP.push {P : Px} {n : Nat} {ι : Nat → Nat} {φ : Nat → Nat → Nat} {lt : Nat → Option Nat} {g : hw} {L : Nat → List Nat} {kw km ka : Nat → Nat} (h : KP P n ι φ lt g L kw km ka) (h59 : 59 ≤ n) {j w ans : Nat} (hj : j < 4) (hw : w < 10000) (hz : φ 13 (10000 * j + w) = 0) : KP P (n + 1) ι (up2 (up2 φ 13 (10000 * j + w) (ι 0 + 1)) 14 (10000 * j + w) ans) (upo lt j (some n)) (hset g n (kcell P w (lt j) (ι 0) ans)) (fun i => if i = j then n :: L j else L i) (up1 kw n w) (up1 km n (ι 0)) (up1 ka n ans) := by
  have hno := h.none hj hz
  have hlt : ∀ i, i < 4 → ∀ k ∈ L i, k < n := fun i hi k hk => ((h i hi).1.lt k hk).2.1
  have hmono : ∀ i, i < 4 → chn P (n + 1) (hset g n (kcell P w (lt j) (ι 0) ans)) (up1 kw n w) (up1 km n (ι 0)) (up1 ka n ans) (lt i) (L i) := fun i hi => (h i hi).1.mono (by omega) (fun k hk hk2 nx hx => by
    have hne : k ≠ n := by omega
    rw [hset_n _ _ hne, up1_o hne, up1_o hne, up1_o hne]
    exact hx)
  intro i hi
  obtain ⟨a, b, c, d, e⟩ := h i hi
  by_cases hij : i = j
  · subst hij
    simp only [if_true]
    refine ⟨⟨by unfold upo; rw [if_pos rfl], h59, by omega, lt i, by rw [hset_s, up1_s, up1_s, up1_s], hmono i hi⟩, fun k hk => ?_, fun w' hw' hz' => ?_, ?_, fun q hq hqi k hk => ?_⟩
    · rcases List.mem_cons.mp hk with rfl | hk
      · rw [up1_s, up1_s, up1_s, up2_n _ _ (Or.inl (by decide)), up2_s, up2_s]
        exact ⟨hw, Nat.le_refl _, rfl, rfl⟩
      · have hne : k ≠ n := by have := hlt i hi k hk; omega
        obtain ⟨b1, b2, b3, b4⟩ := b k hk
        have hk2 := hno k hk
        rw [up1_o hne, up1_o hne, up1_o hne, up2_n _ _ (Or.inl (by decide)), up2_n _ _ (Or.inr (by omega)), up2_n _ _ (Or.inr (by omega)), up2_n _ _ (Or.inl (by decide))]
        exact ⟨b1, b2, b3, b4⟩
    · by_cases ew : w' = w
      · subst ew; exact ⟨n, List.mem_cons_self, up1_s _ _ _⟩
      · rw [up2_n _ _ (Or.inl (by decide)), up2_n _ _ (Or.inr (by omega))] at hz'
        obtain ⟨k, hk, hkw⟩ := c w' hw' hz'
        exact ⟨k, List.mem_cons_of_mem _ hk, by rw [up1_o (by have := hlt i hi k hk; omega)]; exact hkw⟩
    · refine List.pairwise_cons.mpr ⟨fun k hk => ?_, d.imp_of_mem (fun {x y} hx hy hxy => ?_)⟩
      · rw [up1_s, up1_o (by have := hlt i hi k hk; omega)]
        exact fun q => hno k hk q.symm
      · rw [up1_o (by have := hlt i hi x hx; omega), up1_o (by have := hlt i hi y hy; omega)]
        exact hxy
    · rw [if_neg hqi]
      rcases List.mem_cons.mp hk with rfl | hk
      · exact fun q2 => absurd (hlt q hq k q2) (Nat.lt_irrefl _)
      · exact e q hq hqi k hk
  · simp only [if_neg hij]
    refine ⟨by rw [show upo lt j (some n) i = lt i from if_neg hij]; exact hmono i hi, fun k hk => ?_, fun w' hw' hz' => ?_, ?_, fun q hq hqi k hk => ?_⟩
    · have hne : k ≠ n := by have := hlt i hi k hk; omega
      obtain ⟨b1, b2, b3, b4⟩ := b k hk
      rw [up1_o hne, up1_o hne, up1_o hne, up2_n _ _ (Or.inl (by decide)), up2_n _ _ (Or.inr (by omega)), up2_n _ _ (Or.inr (by omega)), up2_n _ _ (Or.inl (by decide))]
      exact ⟨b1, b2, b3, b4⟩
    · rw [up2_n _ _ (Or.inl (by decide)), up2_n _ _ (Or.inr (by omega))] at hz'
      obtain ⟨k, hk, hkw⟩ := c w' hw' hz'
      exact ⟨k, hk, by rw [up1_o (by have := hlt i hi k hk; omega)]; exact hkw⟩
    · refine d.imp_of_mem (fun {x y} hx hy hxy => ?_)
      rw [up1_o (by have := hlt i hi x hx; omega), up1_o (by have := hlt i hi y hy; omega)]
      exact hxy
    · by_cases eq : q = j
      · rw [if_pos eq]
        intro q2
        rcases List.mem_cons.mp q2 with rfl | q2
        · exact absurd (hlt i hi k hk) (Nat.lt_irrefl _)
        · exact e j hj (by omega) k hk q2
      · rw [if_neg eq]
        exact e q hq hqi k hk
theorem pw_ne {kw : Nat → Nat} {x y : Nat} : ∀ (L : List Nat), L.Pairwise (fun a b => kw a ≠ kw b) → x ∈ L → y ∈ L → x ≠ y → kw x ≠ kw y
  | [], _, h, _, _ => by cases h
  | a :: t, hp, hx, hy, hne => by
    have h1 := (List.pairwise_cons.mp hp).1
    have h2 := (List.pairwise_cons.mp hp).2
    rcases List.mem_cons.mp hx with ex | hx2
    · rcases List.mem_cons.mp hy with ey | hy2
      · exact absurd (ex.trans ey.symm) hne
      · rw [ex]; exact h1 y hy2
    · rcases List.mem_cons.mp hy with ey | hy2
      · rw [ey]; exact Ne.symm (h1 x hx2)
      · exact pw_ne t h2 hx2 hy2 hne
theorem KP.anew {P : Px} {n : Nat} {ι : Nat → Nat} {φ : Nat → Nat → Nat} {lt : Nat → Option Nat} {g : hw} {L : Nat → List Nat} {kw km ka : Nat → Nat} (h : KP P n ι φ lt g L kw km ka) {j k0 ans : Nat} {nx0 : Option Nat} (hj : j < 4) (hk0 : k0 ∈ L j) (hg0 : g k0 = kcell P (kw k0) nx0 (km k0) (ka k0)) : KP P n ι (up2 (up2 φ 13 (10000 * j + kw k0) (ι 0 + 1)) 14 (10000 * j + kw k0) ans) lt (hset g k0 (kcell P (kw k0) nx0 (ι 0) ans)) L kw (up1 km k0 (ι 0)) (up1 ka k0 ans) := by
  have hb0 := ((h j hj).2.1 k0 hk0).1
  intro i hi
  obtain ⟨a, b, c, d, e⟩ := h i hi
  refine ⟨a.mono (Nat.le_refl _) (fun k hk hk2 nx hx => ?_), fun k hk => ?_, fun w' hw' hz' => ?_, d, e⟩
  · by_cases ek : k = k0
    · subst ek
      rw [hset_s, up1_s, up1_s]
      have := kc_nx (hg0.symm.trans hx)
      unfold kcell
      rw [this]
    · rw [hset_n _ _ ek, up1_o ek, up1_o ek]
      exact hx
  · obtain ⟨b1, b2, b3, b4⟩ := b k hk
    by_cases ek : k = k0
    · subst ek
      have eij : i = j := by
        apply Classical.byContradiction
        intro z
        exact (h j hj).2.2.2.2 i hi z k hk0 hk
      subst eij
      rw [up1_s, up1_s, up2_n _ _ (Or.inl (by decide)), up2_s, up2_s]
      exact ⟨b1, Nat.le_refl _, rfl, rfl⟩
    · have hne : 10000 * i + kw k ≠ 10000 * j + kw k0 := by
        intro z
        have eij : i = j := by omega
        subst eij
        have ekw : kw k = kw k0 := by omega
        exact pw_ne (L i) d hk hk0 ek ekw
      rw [up1_o ek, up1_o ek, up2_n _ _ (Or.inl (by decide)), up2_n _ _ (Or.inr hne), up2_n _ _ (Or.inr hne), up2_n _ _ (Or.inl (by decide))]
      exact ⟨b1, b2, b3, b4⟩
  · by_cases ez : 10000 * i + w' = 10000 * j + kw k0
    · have eij : i = j := by omega
      subst eij
      exact ⟨k0, hk0, by omega⟩
    · rw [up2_n _ _ (Or.inl (by decide)), up2_n _ _ (Or.inr ez)] at hz'
      exact c w' hw' hz'
theorem RR.of {φ φ' : Nat → Nat → Nat} {ρ : Nat → Nat → Option Nat} {n n' : Nat} {g g' : hw} (h : RR φ ρ n g) (hn : n ≤ n') (hg : ∀ k a b s, 59 ≤ k → k < n → g k = rcell a b s → g' k = rcell a b s) (h7 : ∀ i, φ' 7 i = φ 7 i) (h8 : ∀ i, φ' 8 i = φ 8 i) (h9 : ∀ i, φ' 9 i = φ 9 i) (h10 : ∀ i, φ' 10 i = φ 10 i) : RR φ' ρ n' g' := by
  intro hp i hh hi
  rw [h7] at hi
  obtain ⟨k, k0, k1, k2, k3, k4⟩ := h hp i hh hi
  rw [h8, h9, h10]
  exact ⟨k, k0, k1, by omega, hg k _ _ _ k1 k2 k3, k4⟩
theorem rc_ne {P : Px} {a b s w m c : Nat} {nx : Option Nat} (h : rcell a b s = kcell P w nx m c) : False := by
  simp only [rcell, kcell, Sum.inr.injEq, Prod.mk.injEq] at h
  exact absurd h.1 (by decide)

