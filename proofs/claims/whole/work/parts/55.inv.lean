/-! ===== the invariant, and what a step is ===== -/
theorem wCM {P : Px} {g : hw} {ι : Nat → Nat} {φ : Nat → Nat → Nat} {ℓ : Nat → Nat} {lt : Nat → Option Nat} {ρ : Nat → Nat → Option Nat} {ω : Nat → Nat → Nat} {ι' : Nat → Nat} {φ' : Nat → Nat → Nat} : wC P (wM P g ι φ) ι' φ' ℓ lt ρ ω = wM P (wC P g ι' φ' ℓ lt ρ ω) ι φ := by
  funext k
  show (if k < 37 then ccell P ι' φ' ℓ lt ρ ω k else (if 37 ≤ k ∧ k < 59 then mcell P ι φ (k - 37) else g k)) = (if 37 ≤ k ∧ k < 59 then mcell P ι φ (k - 37) else (if k < 37 then ccell P ι' φ' ℓ lt ρ ω k else g k))
  by_cases h : k < 37
  · rw [if_pos h, if_neg (by omega), if_pos h]
  · rw [if_neg h, if_neg h]
def Sn (φ φ' : Nat → Nat → Nat) : Prop := ∀ k i, k ≠ 8 → k ≠ 9 → k ≠ 10 → k ≠ 13 → k ≠ 14 → k ≠ 15 → φ k i = φ' k i
theorem Sn.rf {φ : Nat → Nat → Nat} : Sn φ φ := fun _ _ _ _ _ _ _ _ => rfl
theorem wC_cg {P : Px} {g : hw} {ι : Nat → Nat} {φ : Nat → Nat → Nat} {ℓ : Nat → Nat} {lt : Nat → Option Nat} {ρ : Nat → Nat → Option Nat} {ω : Nat → Nat → Nat} {φ' : Nat → Nat → Nat} (hs : Sn φ φ') : wC P g ι φ ℓ lt ρ ω = wC P g ι φ' ℓ lt ρ ω := by
  have e : ∀ k, k ≠ 8 → k ≠ 9 → k ≠ 10 → k ≠ 13 → k ≠ 14 → k ≠ 15 → φ k = φ' k := fun k a b c d e f => funext (fun i => hs k i a b c d e f)
  have e0 := e 0 (by decide) (by decide) (by decide) (by decide) (by decide) (by decide)
  have e1 := e 1 (by decide) (by decide) (by decide) (by decide) (by decide) (by decide)
  have e2 := e 2 (by decide) (by decide) (by decide) (by decide) (by decide) (by decide)
  have e3 := e 3 (by decide) (by decide) (by decide) (by decide) (by decide) (by decide)
  have e4 := e 4 (by decide) (by decide) (by decide) (by decide) (by decide) (by decide)
  have e5 := e 5 (by decide) (by decide) (by decide) (by decide) (by decide) (by decide)
  have e6 := e 6 (by decide) (by decide) (by decide) (by decide) (by decide) (by decide)
  have e7 := e 7 (by decide) (by decide) (by decide) (by decide) (by decide) (by decide)
  have e11 := e 11 (by decide) (by decide) (by decide) (by decide) (by decide) (by decide)
  have e12 := e 12 (by decide) (by decide) (by decide) (by decide) (by decide) (by decide)
  have e16 := e 16 (by decide) (by decide) (by decide) (by decide) (by decide) (by decide)
  have e17 := e 17 (by decide) (by decide) (by decide) (by decide) (by decide) (by decide)
  have e18 := e 18 (by decide) (by decide) (by decide) (by decide) (by decide) (by decide)
  have e19 := e 19 (by decide) (by decide) (by decide) (by decide) (by decide) (by decide)
  have e20 := e 20 (by decide) (by decide) (by decide) (by decide) (by decide) (by decide)
  refine wC_re (lt37 ?_ ?_ ?_ ?_ ?_ ?_ ?_ ?_ ?_ ?_ ?_ ?_ ?_ ?_ ?_ ?_ ?_ ?_ ?_ ?_ ?_ ?_ ?_ ?_ ?_ ?_ ?_ ?_ ?_ ?_ ?_ ?_ ?_ ?_ ?_ ?_ ?_)
  all_goals first | rfl | (simp only [ccell, e0, e1, e2, e3, e4, e5, e6, e7, e11, e12, e16, e17, e18, e19, e20]; done)
def Iv (P : Px) (n : Nat) (g : hw) (ι : Nat → Nat) (φ : Nat → Nat → Nat) (ℓ : Nat → Nat) (lt : Nat → Option Nat) (ρ : Nat → Nat → Option Nat) : Prop := 59 ≤ n ∧ Wf ι φ ∧ (∀ i, φ 19 i ≤ 2) ∧ (∀ k, φ 2 k = 0 → φ 1 k = 0) ∧ RR φ ρ n g ∧ LT ι φ ℓ ∧ ∃ L kw km ka, KP P n ι φ lt g L kw km ka
theorem Iv.n {P : Px} {n : Nat} {g : hw} {ι : Nat → Nat} {φ : Nat → Nat → Nat} {ℓ : Nat → Nat} {lt : Nat → Option Nat} {ρ : Nat → Nat → Option Nat} (I : Iv P n g ι φ ℓ lt ρ) : 59 ≤ n := I.1
theorem Iv.W {P : Px} {n : Nat} {g : hw} {ι : Nat → Nat} {φ : Nat → Nat → Nat} {ℓ : Nat → Nat} {lt : Nat → Option Nat} {ρ : Nat → Nat → Option Nat} (I : Iv P n g ι φ ℓ lt ρ) : Wf ι φ := I.2.1
theorem Iv.H {P : Px} {n : Nat} {g : hw} {ι : Nat → Nat} {φ : Nat → Nat → Nat} {ℓ : Nat → Nat} {lt : Nat → Option Nat} {ρ : Nat → Nat → Option Nat} (I : Iv P n g ι φ ℓ lt ρ) : ∀ i, φ 19 i ≤ 2 := I.2.2.1
theorem Iv.V {P : Px} {n : Nat} {g : hw} {ι : Nat → Nat} {φ : Nat → Nat → Nat} {ℓ : Nat → Nat} {lt : Nat → Option Nat} {ρ : Nat → Nat → Option Nat} (I : Iv P n g ι φ ℓ lt ρ) : ∀ k, φ 2 k = 0 → φ 1 k = 0 := I.2.2.2.1
theorem Iv.R {P : Px} {n : Nat} {g : hw} {ι : Nat → Nat} {φ : Nat → Nat → Nat} {ℓ : Nat → Nat} {lt : Nat → Option Nat} {ρ : Nat → Nat → Option Nat} (I : Iv P n g ι φ ℓ lt ρ) : RR φ ρ n g := I.2.2.2.2.1
theorem Iv.L {P : Px} {n : Nat} {g : hw} {ι : Nat → Nat} {φ : Nat → Nat → Nat} {ℓ : Nat → Nat} {lt : Nat → Option Nat} {ρ : Nat → Nat → Option Nat} (I : Iv P n g ι φ ℓ lt ρ) : LT ι φ ℓ := I.2.2.2.2.2.1
theorem Iv.RM {P : Px} {n : Nat} {g : hw} {ι : Nat → Nat} {φ : Nat → Nat → Nat} {ℓ : Nat → Nat} {lt : Nat → Option Nat} {ρ : Nat → Nat → Option Nat} {ι' : Nat → Nat} {φ' : Nat → Nat → Nat} (I : Iv P n g ι φ ℓ lt ρ) : RR φ ρ n (wM P g ι' φ') := I.R.of (Nat.le_refl _) (fun k a b s h1 h2 h3 => (wM_out (Or.inr h1)).trans h3) (fun _ => rfl) (fun _ => rfl) (fun _ => rfl) (fun _ => rfl)
def Iw (P : Px) (n : Nat) (H : hw) : Prop := ∃ g ι φ ℓ lt ρ ω, Iv P n g ι φ ℓ lt ρ ∧ H = wC P (wM P g ι φ) ι φ ℓ lt ρ ω
def StpX (P : Px) (MC MM : Mx) (As : List Value) (n : Nat) (H : hw) : Prop := ∃ (r : Int32) (n1 : Nat) (H1 H2 : hw) (d mc ms d2 : Nat) (fs : List Value), d ≤ 6 ∧ mc ≤ 1 ∧ ms ≤ 9 ∧ d2 ≤ 6 ∧ Ct P MC d mc ms (.ref (Bs P + 0) :: As) n H (some (.int r)) n1 H1 ∧ H1 37 = .inr (9, fs) ∧ Ct P MM d2 0 0 (.ref (Bs P + 37) :: As) n1 H1 (some (.int r)) n1 H2 ∧ n ≤ n1 ∧ Iw P n1 H2
theorem stp_mk {P : Px} {n : Nat} {g : hw} {ι : Nat → Nat} {φ : Nat → Nat → Nat} {ℓ : Nat → Nat} {lt : Nat → Option Nat} {ρ : Nat → Nat → Option Nat} {ω : Nat → Nat → Nat} {MC MM : Mx} {As : List Value} {n1 : Nat} {r : Int32} {d mc ms d2 : Nat} {g1 : hw} {ι1 : Nat → Nat} {φc φ1 : Nat → Nat → Nat} {ℓ1 : Nat → Nat} {lt1 : Nat → Option Nat} {ρ1 : Nat → Nat → Option Nat} {ω1 : Nat → Nat → Nat} (hC : Ct P MC d mc ms (.ref (Bs P + 0) :: As) n (wC P (wM P g ι φ) ι φ ℓ lt ρ ω) (some (.int r)) n1 (wC P (wM P g1 ι φ) ι1 φc ℓ1 lt1 ρ1 ω1)) (hM : Ct P MM d2 0 0 (.ref (Bs P + 37) :: As) n1 (wM P (wC P g1 ι1 φc ℓ1 lt1 ρ1 ω1) ι φ) (some (.int r)) n1 (wM P (wC P g1 ι1 φc ℓ1 lt1 ρ1 ω1) ι1 φ1)) (hs : Sn φc φ1) (I : Iv P n1 g1 ι1 φ1 ℓ1 lt1 ρ1) (hn : n ≤ n1) (b1 : d ≤ 6) (b2 : mc ≤ 1) (b3 : ms ≤ 9) (b4 : d2 ≤ 6) : StpX P MC MM As n (wC P (wM P g ι φ) ι φ ℓ lt ρ ω) :=
  ⟨r, n1, _, _, d, mc, ms, d2, mfs P ι, b1, b2, b3, b4, hC, rfl, by rw [wCM]; exact hM, hn, g1, ι1, φ1, ℓ1, lt1, ρ1, ω1, I, by rw [← wCM, wC_cg hs]⟩
theorem iv_chg {P : Px} {n : Nat} {g : hw} {ι : Nat → Nat} {φ : Nat → Nat → Nat} {ℓ : Nat → Nat} {lt : Nat → Option Nat} {ρ : Nat → Nat → Option Nat} (I : Iv P n g ι φ ℓ lt ρ) {ψ : Nat → Nat → Nat} (hψ : ∀ j, ψ 12 j = φ 12 j) : Iv P n g ι (chg ι φ 4) (slN ψ ℓ 4) (stN ψ lt 4) ρ := by
  obtain ⟨h1, W, h19, V0, R, Lh, L, kw, km, ka, K⟩ := I
  have e : ∀ k i, k ≠ 13 → k ≠ 15 → chg ι φ 4 k i = φ k i := fun k i a b => chg_n 4 a b
  exact ⟨h1, W.chg 4, fun i => by rw [e _ _ (by decide) (by decide)]; exact h19 i, fun k hk => by rw [e _ _ (by decide) (by decide)] at hk ⊢; exact V0 k hk, R.of (Nat.le_refl _) (fun _ _ _ _ _ _ h => h) (fun i => e _ _ (by decide) (by decide)) (fun i => e _ _ (by decide) (by decide)) (fun i => e _ _ (by decide) (by decide)) (fun i => e _ _ (by decide) (by decide)), Lh.chg W.now W.v12 hψ 4 (Nat.le_refl _), _, kw, km, ka, K.chg hψ⟩
def Kd (φ φ' : Nat → Nat → Nat) : Prop := ∀ k i, k = 7 ∨ k = 8 ∨ k = 9 ∨ k = 10 ∨ k = 13 ∨ k = 14 ∨ k = 15 → φ' k i = φ k i
theorem iv_mod {P : Px} {n : Nat} {g : hw} {ι : Nat → Nat} {φ : Nat → Nat → Nat} {ℓ : Nat → Nat} {lt : Nat → Option Nat} {ρ : Nat → Nat → Option Nat} (I : Iv P n g ι φ ℓ lt ρ) {n' : Nat} {g' : hw} {ι' : Nat → Nat} {φ' : Nat → Nat → Nat} (hn : n ≤ n') (hg : ∀ k, 59 ≤ k → k < n → g' k = g k) (W' : Wf ι' φ') (h0 : ι' 0 = ι 0) (h19 : ∀ i, φ' 19 i ≤ 2) (hV : ∀ k, φ' 2 k = 0 → φ' 1 k = 0) (hk : Kd φ φ') : Iv P n' g' ι' φ' ℓ lt ρ := by
  obtain ⟨h1, W, -, -, R, Lh, L, kw, km, ka, K⟩ := I
  exact ⟨by omega, W', h19, hV, R.of hn (fun k a b s k1 k2 k3 => (hg k k1 k2).trans k3) (fun i => hk _ _ (by decide)) (fun i => hk _ _ (by decide)) (fun i => hk _ _ (by decide)) (fun i => hk _ _ (by decide)), Lh.of h0 (fun i => hk _ _ (by decide)), L, kw, km, ka, K.of hn hg (by omega) (fun i => hk _ _ (by decide)) (fun i => hk _ _ (by decide))⟩
theorem Wf.later {ι ι' : Nat → Nat} {φ : Nat → Nat → Nat} (W : Wf ι φ) (h0 : ι 0 ≤ ι' 0) (h5 : ι' 0 ≤ 5000) (h1 : ι' 1 = ι 1) (h2 : ι' 2 = ι 2) : Wf ι' φ :=
  ⟨h5, by rw [h1]; exact W.inF, by rw [h2]; exact W.asks, W.v0, W.v1, fun i => Nat.le_trans (W.v2 i) (by omega), W.v3, W.v4, W.v5, W.v6, W.v7, W.v8, W.v9, W.v10, W.v11, W.v12, fun i => Nat.le_trans (W.v13 i) (by omega), W.v14, W.v15, W.v18⟩
theorem Wf.v19 {φ : Nat → Nat → Nat} {k a x i : Nat} (h : ∀ i, φ 19 i ≤ 2) (hk : k ≠ 19) : up2 φ k a x 19 i ≤ 2 := by rw [up2_n _ _ (Or.inl (Ne.symm hk))]; exact h i
theorem up2_o {φ : Nat → Nat → Nat} {k a x k' i : Nat} (h : k' ≠ k) : up2 φ k a x k' i = φ k' i := up2_n _ _ (Or.inl h)
theorem hset_b {g : hw} {n : Nat} {e : va_E} : ∀ k, 59 ≤ k → k < n → hset g n e k = g k := fun k _ hk => hset_n _ _ (by omega)

