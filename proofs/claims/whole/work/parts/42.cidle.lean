/-! ===== AskTrust: idle, quarrel ===== -/
theorem msk {x k i : Nat} : (x &&& 1 * 2 ^ k * 2 ^ 1 - 1).testBit i = (x.testBit i && decide (i < k + 1)) := by
  rw [Nat.one_mul, ← Nat.pow_add, Nat.testBit_and, Nat.testBit_two_pow_sub_one]
theorem eq_pow {x k : Nat} : x = 1 * 2 ^ k ↔ ∀ i, x.testBit i = decide (k = i) := by
  rw [Nat.one_mul]
  constructor
  · intro h i; rw [h, Nat.testBit_two_pow]
  · intro h
    apply Nat.eq_of_testBit_eq
    intro i
    rw [h, Nat.testBit_two_pow]
theorem and_ne {x k : Nat} (h : x.testBit k = true) : ¬ (x &&& 1 * 2 ^ k) = 0 := fun z => by
  have := congrArg (fun y => Nat.testBit y k) z
  simp only [Nat.one_mul, Nat.testBit_and, Nat.testBit_two_pow, h, Nat.zero_testBit] at this
  simp at this
theorem rfR_mono {a b t u : Nat} (h1 : rfR b t) (h2 : rfR a u) (e : t = a / 10000) : rfR b u := by
  unfold rfR at *
  subst e
  rw [← h1, ← Nat.and_assoc, h2]
theorem idle_bits {φ : Nat → Nat → Nat} {hp r0 : Nat} {ω : Nat → Nat → Nat} (hr : r0 < φ 7 hp) (h16 : φ 8 (12 * hp + r0) / 10000 < 16) : (∃ m, m < 64 ∧ EF (siftN φ hp ω) r0 (φ 8 (12 * hp + r0) / 10000) m) ↔ ∃ code, code < 81920 ∧ fitsN φ (12 * hp + r0) code = true ∧ decN φ hp code = some r0 := by
  have key : ∀ m sp, m < 64 → sp < 80 → (((siftN φ hp ω 0 (φ 8 (12 * hp + r0) / 10000) &&& 1 * 2 ^ r0 * 2 ^ 1 - 1 &&& siftN φ hp ω 1 m) &&& siftN φ hp ω 2 sp) = 1 * 2 ^ r0 ↔ (fitsN φ (12 * hp + r0) ((φ 8 (12 * hp + r0) / 10000 * 64 + m) * 80 + sp) = true ∧ ∀ q, q < r0 → fitsN φ (12 * hp + q) ((φ 8 (12 * hp + r0) / 10000 * 64 + m) * 80 + sp) = false)) := by
    intro m sp hm hsp
    have hc : (φ 8 (12 * hp + r0) / 10000 * 64 + m) * 80 + sp < 81920 := by omega
    have hb : ∀ i, (((siftN φ hp ω 0 (φ 8 (12 * hp + r0) / 10000) &&& 1 * 2 ^ r0 * 2 ^ 1 - 1 &&& siftN φ hp ω 1 m) &&& siftN φ hp ω 2 sp)).testBit i = (decide (i < r0 + 1) && fitsN φ (12 * hp + i) ((φ 8 (12 * hp + r0) / 10000 * 64 + m) * 80 + sp)) := by
      intro i
      have h3 := fit3_bit (φ := φ) (hp := hp) (ω := ω) (i := i) hc
      unfold fit3 at h3
      rw [show ((φ 8 (12 * hp + r0) / 10000 * 64 + m) * 80 + sp) / 5120 = φ 8 (12 * hp + r0) / 10000 by omega, show ((φ 8 (12 * hp + r0) / 10000 * 64 + m) * 80 + sp) / 80 % 64 = m by omega, show ((φ 8 (12 * hp + r0) / 10000 * 64 + m) * 80 + sp) % 80 = sp by omega] at h3
      rw [Nat.testBit_and, Nat.testBit_and, msk]
      rw [Nat.testBit_and, Nat.testBit_and] at h3
      by_cases hi : i < r0 + 1
      · rw [decide_eq_true hi, Bool.and_true, h3, decide_eq_true (show i < φ 7 hp by omega)]
      · rw [decide_eq_false hi]; simp
    rw [eq_pow]
    constructor
    · intro h
      refine ⟨?_, fun q hq => ?_⟩
      · have := h r0
        rw [hb, decide_eq_true (Nat.lt_succ_self _), decide_eq_true rfl, Bool.true_and] at this
        exact this
      · have := h q
        rw [hb, decide_eq_true (show q < r0 + 1 by omega), decide_eq_false (show ¬ r0 = q by omega), Bool.true_and] at this
        exact this
    · rintro ⟨h1, h2⟩ i
      rw [hb]
      by_cases e : r0 = i
      · subst e; rw [h1, decide_eq_true (Nat.lt_succ_self _), decide_eq_true rfl]; rfl
      · rw [decide_eq_false e]
        by_cases hi : i < r0
        · rw [h2 i hi, Bool.and_false]
        · rw [decide_eq_false (show ¬ i < r0 + 1 by omega), Bool.false_and]
  constructor
  · rintro ⟨m, hm, -, sp, hsp, e⟩
    obtain ⟨h1, h2⟩ := (key m sp hm hsp).mp e
    exact ⟨_, by omega, h1, firstN_some hr h1 h2⟩
  · rintro ⟨code, hc, h1, h2⟩
    have hf : ∀ q, q < r0 → fitsN φ (12 * hp + q) code = false := by
      rcases firstN_cases (fun k => fitsN φ (12 * hp + k) code) (φ 7 hp) with ⟨j, g1, g2, g3, g4⟩ | ⟨g3, g4⟩
      · have e : some j = some r0 := g4.symm.trans h2
        cases e
        exact g3
      · have e : none = some r0 := g4.symm.trans h2
        cases e
    have F := (FitP_split hc).mp (fitN_iff.mp h1)
    have hc2 : (φ 8 (12 * hp + r0) / 10000 * 64 + code / 80 % 64) * 80 + code % 80 < 81920 := by omega
    have d1 : ((φ 8 (12 * hp + r0) / 10000 * 64 + code / 80 % 64) * 80 + code % 80) / 5120 = φ 8 (12 * hp + r0) / 10000 := by omega
    have d2 : ((φ 8 (12 * hp + r0) / 10000 * 64 + code / 80 % 64) * 80 + code % 80) / 80 % 64 = code / 80 % 64 := by omega
    have d3 : ((φ 8 (12 * hp + r0) / 10000 * 64 + code / 80 % 64) * 80 + code % 80) % 80 = code % 80 := by omega
    have ds : sureN φ ((φ 8 (12 * hp + r0) / 10000 * 64 + code / 80 % 64) * 80 + code % 80) = sureN φ code := by rw [← sm_sure, ← sm_sure, d2]
    have g1 : fitsN φ (12 * hp + r0) ((φ 8 (12 * hp + r0) / 10000 * 64 + code / 80 % 64) * 80 + code % 80) = true := by
      unfold fitsN
      rw [fitN_iff, FitP_split hc2, d1, d2, d3, ds]
      exact ⟨Nat.and_self _, F.2.1, F.2.2⟩
    have g2 : ∀ q, q < r0 → fitsN φ (12 * hp + q) ((φ 8 (12 * hp + r0) / 10000 * 64 + code / 80 % 64) * 80 + code % 80) = false := by
      intro q hq
      cases hz : fitsN φ (12 * hp + q) ((φ 8 (12 * hp + r0) / 10000 * 64 + code / 80 % 64) * 80 + code % 80) with
      | false => rfl
      | true =>
        exfalso
        unfold fitsN at hz
        rw [fitN_iff, FitP_split hc2, d1, d2, d3, ds] at hz
        have : fitsN φ (12 * hp + q) code = true := by
          unfold fitsN
          rw [fitN_iff, FitP_split hc]
          exact ⟨rfR_mono hz.1 F.1 rfl, hz.2.1, hz.2.2⟩
        rw [hf q hq] at this
        cases this
    have e := (key (code / 80 % 64) (code % 80) (by omega) (by omega)).mpr ⟨g1, g2⟩
    refine ⟨code / 80 % 64, by omega, ?_, code % 80, by omega, e⟩
    apply and_ne
    have hb := (eq_pow.mp e) r0
    rw [Nat.testBit_and, decide_eq_true rfl] at hb
    simp only [Bool.and_eq_true] at hb
    exact hb.1
set_option maxRecDepth 100000 in
set_option maxHeartbeats 1000000 in
theorem ct_X8_idle_f (P : Px) (n : Nat) (hn : 59 ≤ n) (h : hw) (ι : Nat → Nat) (φ : Nat → Nat → Nat) (ℓ : Nat → Nat) (lt : Nat → Option Nat) (ρ : Nat → Nat → Option Nat) (ω : Nat → Nat → Nat) (W : Wf ι φ) (x y : Int32) (hx : inQ x (nI 1) = false) : Ct P MX8_idle 4 0 0 [.ref (Bs P + 0), .int x, .int y] n (wC P h ι φ ℓ lt ρ ω) (some (.int (bI false))) n (wC P h ι φ ℓ lt ρ ω) := by
  refine Ct.of (by decide +kernel) (Nat.le_of_ble_eq_true rfl) rfl (fun K X hnm r => ?_)
  have X : Cx K P RX8 cX8_idle 5 4 0 0 := X
  have r : Rt K P (some .boolean) 0 0 _ _ _ := r
  show Z K P _ _ 0 0 0 [some (.ref (Bs P + 0)), some (.int x), some (.int y), none, none] []
  refine r_aload_n X dX8_idle_0 (pc' := 1) rfl rfl ?_
  refine r_iload_n X dX8_idle_1 (pc' := 2) rfl rfl ?_
  refine r_callV (As := [_]) X okX8_heapAt lm_X8_86 dX8_idle_2 (pc' := 5) rfl (ct_X8_heapAt_f P n hn h ι φ ℓ lt ρ ω W x hx) (by omega) (wC_e0 _ _ _ _ _ _ _ _) rfl rfl rfl rfl (Nat.le_of_ble_eq_true rfl) (by omega) (by omega) (by omega) ?_
  dsimp only [Option.toList, List.cons_append, List.nil_append]
  refine r_astore_nN (vs' := [_, _, _, _, _]) X dX8_idle_5 (pc' := 6) rfl (by decide) rfl ?_
  refine r_aload_nN X dX8_idle_6 (pc' := 7) rfl rfl ?_
  refine r_ifnonnullN X dX8_idle_7 (pc' := 10) rfl ?_
  refine r_null X dX8_idle_10 (pc' := 11) rfl ?_
  refine r_goto (tgt := 19) X dX8_idle_11 (by decide) ?_
  refine r_astoreN (vs' := [_, _, _, _, _]) X dX8_idle_19 (pc' := 21) rfl (by decide) rfl ?_
  refine r_aloadN X dX8_idle_21 (pc' := 23) rfl rfl ?_
  refine r_ifnonnullN X dX8_idle_23 (pc' := 26) rfl ?_
  refine r_iconst (v := nI 0) X (by decide) dX8_idle_26 (pc' := 27) rfl ?_
  exact r_iret X r dX8_idle_27 (by omega) (by omega) rfl rfl rfl rfl
set_option maxRecDepth 100000 in
set_option maxHeartbeats 1000000 in
theorem ct_X8_idle_g (P : Px) (n : Nat) (hn : 59 ≤ n) (h : hw) (ι : Nat → Nat) (φ : Nat → Nat → Nat) (ℓ : Nat → Nat) (lt : Nat → Option Nat) (ρ : Nat → Nat → Option Nat) (ω : Nat → Nat → Nat) (W : Wf ι φ) (hp : Nat) (hh : hp < 2) (y : Int32) (hy : inB y (nI (φ 7 hp)) = false) : Ct P MX8_idle 4 0 0 [.ref (Bs P + 0), .int (nI hp), .int y] n (wC P h ι φ ℓ lt ρ ω) (some (.int (bI false))) n (wC P h ι φ ℓ lt ρ ω) := by
  refine Ct.of (by decide +kernel) (Nat.le_of_ble_eq_true rfl) rfl (fun K X hnm r => ?_)
  have X : Cx K P RX8 cX8_idle 5 4 0 0 := X
  have r : Rt K P (some .boolean) 0 0 _ _ _ := r
  show Z K P _ _ 0 0 0 [some (.ref (Bs P + 0)), some (.int (nI hp)), some (.int y), none, none] []
  refine r_aload_n X dX8_idle_0 (pc' := 1) rfl rfl ?_
  refine r_iload_n X dX8_idle_1 (pc' := 2) rfl rfl ?_
  refine r_callV (As := [_]) X okX8_heapAt lm_X8_86 dX8_idle_2 (pc' := 5) rfl (ct_X8_heapAt_t P n hn h ι φ ℓ lt ρ ω W hp hh) (by omega) (wC_e0 _ _ _ _ _ _ _ _) rfl rfl rfl rfl (Nat.le_of_ble_eq_true rfl) (by omega) (by omega) (by omega) ?_
  dsimp only [Option.toList, List.cons_append, List.nil_append]
  refine r_astore_n (vs' := [_, _, _, _, _]) X dX8_idle_5 (pc' := 6) rfl (by decide) rfl ?_
  refine r_aload_n X dX8_idle_6 (pc' := 7) rfl rfl ?_
  refine r_ifnonnull X dX8_idle_7 (tgt := 14) (by decide) ?_
  refine r_aload_n X dX8_idle_14 (pc' := 15) rfl rfl ?_
  refine r_iload_n X dX8_idle_15 (pc' := 16) rfl rfl ?_
  refine r_callV (As := [_]) X okX1_ruleAt lm_X8_184 dX8_idle_16 (pc' := 19) rfl (ct_X1_ruleAt_f P n hn h ι φ ℓ lt ρ ω W hp hh y hy) (by omega) (wC_hp _ _ _ _ _ _ _ _ hh) rfl rfl rfl rfl (Nat.le_of_ble_eq_true rfl) (by omega) (by omega) (by omega) ?_
  dsimp only [Option.toList, List.cons_append, List.nil_append]
  refine r_astoreN (vs' := [_, _, _, _, _]) X dX8_idle_19 (pc' := 21) rfl (by decide) rfl ?_
  refine r_aloadN X dX8_idle_21 (pc' := 23) rfl rfl ?_
  refine r_ifnonnullN X dX8_idle_23 (pc' := 26) rfl ?_
  refine r_iconst (v := nI 0) X (by decide) dX8_idle_26 (pc' := 27) rfl ?_
  exact r_iret X r dX8_idle_27 (by omega) (by omega) rfl rfl rfl rfl
set_option maxRecDepth 100000 in
set_option maxHeartbeats 1000000 in
theorem ct_X8_idle_t (P : Px) (n : Nat) (hn : 59 ≤ n) (h : hw) (ι : Nat → Nat) (φ : Nat → Nat → Nat) (ℓ : Nat → Nat) (lt : Nat → Option Nat) (ρ : Nat → Nat → Option Nat) (ω : Nat → Nat → Nat) (W : Wf ι φ) (Rr : RR φ ρ n h) (hp : Nat) (hh : hp < 2) (r0 : Nat) (hr0 : r0 < φ 7 hp) : Ct P MX8_idle 4 0 0 [.ref (Bs P + 0), .int (nI hp), .int (nI r0)] n (wC P h ι φ ℓ lt ρ ω) (some (.int (bI (cB (¬ ∃ code, code < 81920 ∧ fitsN φ (12 * hp + r0) code = true ∧ decN φ hp code = some r0))))) n (wC P h ι φ ℓ lt ρ (siftN φ hp ω)) := by
  refine Ct.of (by decide +kernel) (Nat.le_of_ble_eq_true rfl) rfl (fun K X hnm r => ?_)
  have X : Cx K P RX8 cX8_idle 5 4 0 0 := X
  have r : Rt K P (some .boolean) 0 0 _ _ _ := r
  show Z K P _ _ 0 0 0 [some (.ref (Bs P + 0)), some (.int (nI hp)), some (.int (nI r0)), none, none] []
  obtain ⟨k, hk0, hk1, hk2, hk3, hk4⟩ := Rr hp r0 hh hr0
  have b7 := W.v7 hp
  have b8 := hk4.1
  refine r_aload_n X dX8_idle_0 (pc' := 1) rfl rfl ?_
  refine r_iload_n X dX8_idle_1 (pc' := 2) rfl rfl ?_
  refine r_callV (As := [_]) X okX8_heapAt lm_X8_86 dX8_idle_2 (pc' := 5) rfl (ct_X8_heapAt_t P n hn h ι φ ℓ lt ρ ω W hp hh) (by omega) (wC_e0 _ _ _ _ _ _ _ _) rfl rfl rfl rfl (Nat.le_of_ble_eq_true rfl) (by omega) (by omega) (by omega) ?_
  dsimp only [Option.toList, List.cons_append, List.nil_append]
  refine r_astore_n (vs' := [_, _, _, _, _]) X dX8_idle_5 (pc' := 6) rfl (by decide) rfl ?_
  refine r_aload_n X dX8_idle_6 (pc' := 7) rfl rfl ?_
  refine r_ifnonnull X dX8_idle_7 (tgt := 14) (by decide) ?_
  refine r_aload_n X dX8_idle_14 (pc' := 15) rfl rfl ?_
  refine r_iload_n X dX8_idle_15 (pc' := 16) rfl rfl ?_
  refine r_callV (As := [_]) X okX1_ruleAt lm_X8_184 dX8_idle_16 (pc' := 19) rfl (ct_X1_ruleAt_t P n hn h ι φ ℓ lt ρ ω W hp hh r0 k hr0 hk0) (by omega) (wC_hp _ _ _ _ _ _ _ _ hh) rfl rfl rfl rfl (Nat.le_of_ble_eq_true rfl) (by omega) (by omega) (by omega) ?_
  dsimp only [Option.toList, List.cons_append, List.nil_append]
  refine r_astore (vs' := [_, _, _, _, _]) X dX8_idle_19 (pc' := 21) rfl (by decide) rfl ?_
  refine r_aload X dX8_idle_21 (pc' := 23) rfl rfl ?_
  refine r_ifnonnull X dX8_idle_23 (tgt := 28) (by decide) ?_
  refine r_aload_n X dX8_idle_28 (pc' := 29) rfl rfl ?_
  refine r_get X fX8 lf_X8_50 dX8_idle_29 (pc' := 32) rfl (by decide) (by omega) (wC_e0 _ _ _ _ _ _ _ _) rfl ?_
  refine r_aload_n X dX8_idle_32 (pc' := 33) rfl rfl ?_
  refine r_aload_n X dX8_idle_33 (pc' := 34) rfl rfl ?_
  refine r_get X fX8 lf_X8_22 dX8_idle_34 (pc' := 37) rfl (by decide) (by omega) (wC_e0 _ _ _ _ _ _ _ _) rfl ?_
  refine r_callV (As := [_, _]) X okX7_sift lm_X8_174 dX8_idle_37 (pc' := 40) rfl (ct_X7_sift P n hn h ι φ ℓ lt ρ ω W hp hh Rr) (by omega) (wC_e32 _ _ _ _ _ _ _ _) rfl rfl rfl rfl (Nat.le_of_ble_eq_true rfl) (by omega) (by omega) (by omega) ?_
  dsimp only [Option.toList, List.cons_append, List.nil_append]
  refine r_aload_n X dX8_idle_40 (pc' := 41) rfl rfl ?_
  refine r_get X fX8 lf_X8_50 dX8_idle_41 (pc' := 44) rfl (by decide) (by omega) (wC_e0 _ _ _ _ _ _ _ _) rfl ?_
  refine r_iload_n X dX8_idle_44 (pc' := 45) rfl rfl ?_
  refine r_aload X dX8_idle_45 (pc' := 47) rfl rfl ?_
  refine r_getN X fX6 lf_X8_188 dX8_idle_47 (pc' := 50) rfl (by decide) (by omega) ((wC_out (by omega)).trans hk3) rfl ?_
  refine r_callV (As := [_, _]) X okX7_isEverFirst lm_X8_191 dX8_idle_50 (pc' := 53) rfl (ct_X7_isEverFirst P n hn h ι φ ℓ lt ρ (siftN φ hp ω) W r0 (φ 8 (12 * hp + r0) / 10000) (by omega) (by omega)) (by omega) (wC_e32 _ _ _ _ _ _ _ _) rfl rfl rfl rfl (Nat.le_of_ble_eq_true rfl) (by omega) (by omega) (by omega) ?_
  dsimp only [Option.toList, List.cons_append, List.nil_append]
  rw [cB_iff (idle_bits (ω := ω) hr0 (by omega))]
  refine rB_if_ne X dX8_idle_53 (tgt := 60) (by decide) (pc' := 56) rfl (fun c_53 => ?_) (fun c_53 => ?_)
  · refine r_iconst (v := nI 0) X (by decide) dX8_idle_60 (pc' := 61) rfl ?_
    exact r_iret X r dX8_idle_61 (by omega) (by omega) rfl (by first | exact hcF (fun q => q (cB_of c_53)) | exact hcT (cB_nf c_53)) rfl rfl
  · refine r_iconst (v := nI 1) X (by decide) dX8_idle_56 (pc' := 57) rfl ?_
    refine r_goto (tgt := 61) X dX8_idle_57 (by decide) ?_
    exact r_iret X r dX8_idle_61 (by omega) (by omega) rfl (by first | exact hcF (fun q => q (cB_of c_53)) | exact hcT (cB_nf c_53)) rfl rfl
