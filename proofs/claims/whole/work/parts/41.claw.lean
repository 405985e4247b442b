/-! ===== AskTrust: law, idle, quarrel; what the sifted rows hold ===== -/
theorem orb {x k i : Nat} : (x ||| 1 * 2 ^ k).testBit i = (x.testBit i || decide (k = i)) := by
  rw [Nat.one_mul, Nat.testBit_or, Nat.testBit_two_pow]
theorem sbp_bit {ω : Nat → Nat → Nat} {c k m j i : Nat} {p : Nat → Prop} (hj : j < m) : (sbp ω c p (1 * 2 ^ k) m c j).testBit i = ((ω c j).testBit i || (decide (k = i) && cB (p j))) := by
  unfold sbp
  by_cases h : p j
  · rw [pif_t ⟨rfl, hj, h⟩, orb, cB_t h, Bool.and_true]
  · rw [pif_f (fun q => h q.2.2), cB_f h, Bool.and_false, Bool.or_false]
theorem sbA_0 {ω : Nat → Nat → Nat} {a b s k j i : Nat} (hj : j < 16) : (sbA ω a b s (1 * 2 ^ k) 0 j).testBit i = ((ω 0 j).testBit i || (decide (k = i) && cB (rfR a j))) := by
  unfold sbA
  rw [sbp_r (Or.inl (by decide)), sbp_r (Or.inl (by decide)), sbp_bit hj, sb1_3 (by decide)]
theorem sbA_1 {ω : Nat → Nat → Nat} {a b s k j i : Nat} (hj : j < 64) : (sbA ω a b s (1 * 2 ^ k) 1 j).testBit i = ((ω 1 j).testBit i || (decide (k = i) && cB (rfM a j (ω 3 j)))) := by
  unfold sbA
  rw [sbp_r (Or.inl (by decide)), sbp_bit hj, sbp_r (Or.inl (by decide)), sb1_3 (by decide)]
theorem sbA_2 {ω : Nat → Nat → Nat} {a b s k j i : Nat} (hj : j < 80) : (sbA ω a b s (1 * 2 ^ k) 2 j).testBit i = ((ω 2 j).testBit i || (decide (k = i) && cB (rfS b j))) := by
  unfold sbA
  rw [sbp_bit hj, sbp_r (Or.inl (by decide)), sbp_r (Or.inl (by decide)), sb1_3 (by decide)]
theorem sbA_4 {ω : Nat → Nat → Nat} {a b s k i : Nat} : (sbA ω a b s (1 * 2 ^ k) 4 0).testBit i = ((ω 4 0).testBit i || (decide (k = i) && cB (s = 0))) := by
  unfold sbA
  rw [sbp_r (Or.inl (by decide)), sbp_r (Or.inl (by decide)), sbp_r (Or.inl (by decide))]
  unfold sb1
  by_cases h : s = 0
  · rw [if_pos h, up2_s, orb, cB_t h, Bool.and_true]
  · rw [if_neg h, cB_f h, Bool.and_false, Bool.or_false]
/-- bit i of a row after k RULES: RULE i is one of them, and fits that part -/
theorem swN_bit {φ : Nat → Nat → Nat} {hp : Nat} {ω : Nat → Nat → Nat} (c j : Nat) (q : Nat → Prop) (h0 : ω c j = 0) (hs : ∀ k i, (swN φ hp ω (k + 1) c j).testBit i = ((swN φ hp ω k c j).testBit i || (decide (k = i) && cB (q k)))) : ∀ k i, (swN φ hp ω k c j).testBit i = (decide (i < k) && cB (q i))
  | 0, i => by
    show (ω c j).testBit i = _
    rw [h0, Nat.zero_testBit, decide_eq_false (Nat.not_lt_zero _), Bool.false_and]
  | k + 1, i => by
    rw [hs, swN_bit c j q h0 hs k i]
    by_cases e : k = i
    · subst e
      rw [decide_eq_false (Nat.lt_irrefl _), decide_eq_true rfl, decide_eq_true (Nat.lt_succ_self _)]
      simp
    · rw [decide_eq_false e]
      by_cases e2 : i < k
      · rw [decide_eq_true e2, decide_eq_true (show i < k + 1 by omega)]; simp
      · rw [decide_eq_false e2, decide_eq_false (show ¬ i < k + 1 by omega)]; simp
theorem wz_0 {ω : Nat → Nat → Nat} {j : Nat} (hj : j < 16) : wz ω 0 j = 0 := by simp [wz, zr, hj]
theorem wz_1 {ω : Nat → Nat → Nat} {j : Nat} (hj : j < 64) : wz ω 1 j = 0 := by simp [wz, zr, hj]
theorem wz_2 {ω : Nat → Nat → Nat} {j : Nat} (hj : j < 80) : wz ω 2 j = 0 := by simp [wz, zr, hj]
theorem wz_4 {ω : Nat → Nat → Nat} : wz ω 4 0 = 0 := by simp [wz, zr, up2]
theorem sy_n {ω φ : Nat → Nat → Nat} {m c j : Nat} (hc : c ≠ 3) : sy ω φ m c j = ω c j := by unfold sy; rw [if_neg (fun q => hc q.1)]
theorem bit0 {φ : Nat → Nat → Nat} {hp : Nat} {ω : Nat → Nat → Nat} {j i : Nat} (hj : j < 16) : (siftN φ hp ω 0 j).testBit i = (decide (i < φ 7 hp) && cB (rfR (φ 8 (12 * hp + i)) j)) :=
  swN_bit 0 j (fun i => rfR (φ 8 (12 * hp + i)) j) (by rw [sy_n (by decide), wz_0 hj]) (fun k i => sbA_0 hj) _ i
theorem bit1 {φ : Nat → Nat → Nat} {hp : Nat} {ω : Nat → Nat → Nat} {j i : Nat} (hj : j < 64) : (siftN φ hp ω 1 j).testBit i = (decide (i < φ 7 hp) && cB (rfM (φ 8 (12 * hp + i)) j (sm φ j 3))) :=
  swN_bit 1 j (fun i => rfM (φ 8 (12 * hp + i)) j (sm φ j 3)) (by rw [sy_n (by decide), wz_1 hj]) (fun k i => by
    have e : swN φ hp (sy (wz ω) φ 64) k 3 j = sm φ j 3 := by rw [swN_3]; unfold sy; rw [if_pos ⟨rfl, hj⟩]
    have := sbA_1 (ω := swN φ hp (sy (wz ω) φ 64) k) (a := φ 8 (12 * hp + k)) (b := φ 9 (12 * hp + k)) (s := φ 10 (12 * hp + k)) (k := k) (i := i) hj
    rw [e] at this
    exact this) _ i
theorem bit2 {φ : Nat → Nat → Nat} {hp : Nat} {ω : Nat → Nat → Nat} {j i : Nat} (hj : j < 80) : (siftN φ hp ω 2 j).testBit i = (decide (i < φ 7 hp) && cB (rfS (φ 9 (12 * hp + i)) j)) :=
  swN_bit 2 j (fun i => rfS (φ 9 (12 * hp + i)) j) (by rw [sy_n (by decide), wz_2 hj]) (fun k i => sbA_2 hj) _ i
theorem bit4 {φ : Nat → Nat → Nat} {hp : Nat} {ω : Nat → Nat → Nat} {i : Nat} : (siftN φ hp ω 4 0).testBit i = (decide (i < φ 7 hp) && cB (φ 10 (12 * hp + i) = 0)) :=
  swN_bit 4 0 (fun i => φ 10 (12 * hp + i) = 0) (by rw [sy_n (by decide), wz_4]) (fun k i => sbA_4) _ i
theorem lt_bits {x n : Nat} (h : ∀ i, n ≤ i → x.testBit i = false) : x < 2 ^ n := by
  apply Nat.lt_of_not_le
  intro hx
  obtain ⟨i, hi, hb⟩ := Nat.exists_ge_and_testBit_of_ge_two_pow hx
  rw [h i hi] at hb
  cases hb
/-- the RULES that fit FACTS, as bits -/
def fit3 (Ω : Nat → Nat → Nat) (code : Nat) : Nat := (Ω 0 (code / 5120) &&& Ω 1 (code / 80 % 64)) &&& Ω 2 (code % 80)
theorem fit3_bit {φ : Nat → Nat → Nat} {hp : Nat} {ω : Nat → Nat → Nat} {code i : Nat} (hc : code < 81920) : (fit3 (siftN φ hp ω) code).testBit i = (decide (i < φ 7 hp) && fitsN φ (12 * hp + i) code) := by
  unfold fit3
  rw [Nat.testBit_and, Nat.testBit_and, bit0 (by omega), bit1 (by omega), bit2 (by omega), sm_sure]
  by_cases hi : i < φ 7 hp
  · rw [decide_eq_true hi]
    simp only [Bool.true_and]
    rw [Bool.eq_iff_iff]
    simp only [Bool.and_eq_true]
    unfold fitsN
    rw [fitN_iff, FitP_split hc]
    exact ⟨fun z => ⟨cB_of z.1.1, cB_of z.1.2, cB_of z.2⟩, fun z => ⟨⟨cB_t z.1, cB_t z.2.1⟩, cB_t z.2.2⟩⟩
  · rw [decide_eq_false hi]; simp
theorem fit3_lt {φ : Nat → Nat → Nat} {hp : Nat} {ω : Nat → Nat → Nat} {code : Nat} (hc : code < 81920) (h7 : φ 7 hp ≤ 12) : fit3 (siftN φ hp ω) code < 4096 :=
  lt_bits (n := 12) (fun i hi => by rw [fit3_bit hc, decide_eq_false (by omega), Bool.false_and])
theorem row0_lt {φ : Nat → Nat → Nat} {hp : Nat} {ω : Nat → Nat → Nat} {j : Nat} (hj : j < 16) (h7 : φ 7 hp ≤ 12) : siftN φ hp ω 0 j < 4096 :=
  lt_bits (n := 12) (fun i hi => by rw [bit0 hj, decide_eq_false (by omega), Bool.false_and])
theorem and_pow2 {l i : Nat} (h : l.testBit i = true) : ¬ (2 ^ i &&& l) = 0 := fun z => by
  have := congrArg (fun y => Nat.testBit y i) z
  simp only [Nat.testBit_and, Nat.testBit_two_pow, h, Nat.zero_testBit] at this
  simp at this
/-- LET, read off the bits -/
theorem let_bits {φ : Nat → Nat → Nat} {hp : Nat} {ω : Nat → Nat → Nat} {code : Nat} (hc : code < 81920) (h7 : φ 7 hp ≤ 12) : (¬ (lowb (fit3 (siftN φ hp ω) code) &&& siftN φ hp ω 4 0) = 0) ↔ letN φ hp code = true := by
  rcases lowb_tab _ (fit3_lt (ω := ω) hc h7) with q | ⟨i, hi, e1, e2, e3⟩
  · have hno : decN φ hp code = none := firstN_none (fun i hi => by
      have hb := fit3_bit (φ := φ) (hp := hp) (ω := ω) (i := i) hc
      rw [q, Nat.zero_testBit, decide_eq_true hi, Bool.true_and] at hb
      exact hb.symm)
    rw [q]
    constructor
    · intro z; exact absurd (by show (0 &&& _) &&& _ = 0; simp) z
    · intro z; unfold letN at z; rw [hno] at z; cases z
  · have hb := fit3_bit (φ := φ) (hp := hp) (ω := ω) (i := i) hc
    rw [e2] at hb
    have hb2 := hb.symm
    simp only [Bool.and_eq_true, decide_eq_true_eq] at hb2
    have hd : decN φ hp code = some i := firstN_some hb2.1 hb2.2 (fun q hq => by
      have hb3 := fit3_bit (φ := φ) (hp := hp) (ω := ω) (i := q) hc
      rw [e3 q hq, decide_eq_true (by omega), Bool.true_and] at hb3
      exact hb3.symm)
    rw [e1]
    have h4 := bit4 (φ := φ) (hp := hp) (ω := ω) (i := i)
    rw [decide_eq_true hb2.1, Bool.true_and] at h4
    unfold letN
    rw [hd]
    constructor
    · intro z
      have := and_pow z
      rw [h4] at this
      simp [cB_of this]
    · intro z
      apply and_pow2
      rw [h4]
      exact cB_t (by simpa using z)
theorem brk_bits {φ : Nat → Nat → Nat} {hp w : Nat} {ω : Nat → Nat → Nat} {code : Nat} (hc : code < 81920) (h7 : φ 7 hp ≤ 12) : lbB (siftN φ hp ω) w code = brkB φ hp w code := by
  rw [Bool.eq_iff_iff]
  unfold lbB lsB
  simp only [Bool.and_eq_true]
  have hl := let_bits (φ := φ) (hp := hp) (ω := ω) hc h7
  unfold fit3 at hl
  constructor
  · rintro ⟨h1, h2⟩
    have g1 := cB_of h1
    obtain ⟨g2, g3, g4⟩ := cB_of h2
    refine brkB_t ⟨by omega, by omega, ?_, hl.mp g4⟩
    unfold msP at g1
    unfold lackP
    rw [mvN_code] at g1
    exact g1
  · intro h
    obtain ⟨g1, g2, g3, g4⟩ := brkB_of h
    refine ⟨cB_t ?_, cB_t ⟨by omega, by omega, hl.mpr g4⟩⟩
    unfold msP
    rw [mvN_code]
    exact g3
theorem firstN_congr {p q : Nat → Bool} {n : Nat} (h : ∀ i, i < n → p i = q i) : firstN p n = firstN q n := by
  rcases firstN_cases p n with ⟨j, h1, h2, h3, h4⟩ | ⟨h3, h4⟩
  · rw [h4]
    exact (firstN_some h1 (by rw [← h j h1]; exact h2) (fun i hi => by rw [← h i (by omega)]; exact h3 i hi)).symm
  · rw [h4]
    exact (firstN_none (fun i hi => by rw [← h i hi]; exact h3 i hi)).symm
set_option maxRecDepth 100000 in
set_option maxHeartbeats 1000000 in
theorem ct_X8_law_f (P : Px) (n : Nat) (hn : 59 ≤ n) (h : hw) (ι : Nat → Nat) (φ : Nat → Nat → Nat) (ℓ : Nat → Nat) (lt : Nat → Option Nat) (ρ : Nat → Nat → Option Nat) (ω : Nat → Nat → Nat) (W : Wf ι φ) (x y : Int32) (hx : inQ x (nI 1) = false) : Ct P MX8_law 4 1 5 [.ref (Bs P + 0), .int x, .int y] n (wC P h ι φ ℓ lt ρ ω) (some (.int (-2))) n (wC P h ι φ ℓ lt ρ ω) := by
  refine Ct.of (by decide +kernel) (Nat.le_of_ble_eq_true rfl) rfl (fun K X hnm r => ?_)
  have X : Cx K P RX8 cX8_law 4 4 1 5 := X
  have r : Rt K P (some .int) 1 5 _ _ _ := r
  show Z K P _ _ 0 0 0 [some (.ref (Bs P + 0)), some (.int x), some (.int y), none] []
  refine r_aload_n X dX8_law_0 (pc' := 1) rfl rfl ?_
  refine r_iload_n X dX8_law_1 (pc' := 2) rfl rfl ?_
  refine r_callV (As := [_]) X okX8_heapAt lm_X8_86 dX8_law_2 (pc' := 5) rfl (ct_X8_heapAt_f P n hn h ι φ ℓ lt ρ ω W x hx) (by omega) (wC_e0 _ _ _ _ _ _ _ _) rfl rfl rfl rfl (Nat.le_of_ble_eq_true rfl) (by omega) (by omega) (by omega) ?_
  dsimp only [Option.toList, List.cons_append, List.nil_append]
  refine r_astore_nN (vs' := [_, _, _, _]) X dX8_law_5 (pc' := 6) rfl (by decide) rfl ?_
  refine r_aload_nN X dX8_law_6 (pc' := 7) rfl rfl ?_
  refine r_ifnullN X dX8_law_7 (tgt := 17) (by decide) ?_
  refine r_bipush (v := (-2)) X (by decide) dX8_law_17 (pc' := 19) rfl ?_
  exact r_iret X r dX8_law_19 (by omega) (by omega) rfl rfl rfl rfl
set_option maxRecDepth 100000 in
set_option maxHeartbeats 1000000 in
theorem ct_X8_law_g (P : Px) (n : Nat) (hn : 59 ≤ n) (h : hw) (ι : Nat → Nat) (φ : Nat → Nat → Nat) (ℓ : Nat → Nat) (lt : Nat → Option Nat) (ρ : Nat → Nat → Option Nat) (ω : Nat → Nat → Nat) (W : Wf ι φ) (hp : Nat) (hh : hp < 2) (y : Int32) (hno : ¬ (¬ y < 0 ∧ lawP (tn y))) : Ct P MX8_law 4 1 5 [.ref (Bs P + 0), .int (nI hp), .int y] n (wC P h ι φ ℓ lt ρ ω) (some (.int (-2))) n (wC P h ι φ ℓ lt ρ ω) := by
  refine Ct.of (by decide +kernel) (Nat.le_of_ble_eq_true rfl) rfl (fun K X hnm r => ?_)
  have X : Cx K P RX8 cX8_law 4 4 1 5 := X
  have r : Rt K P (some .int) 1 5 _ _ _ := r
  show Z K P _ _ 0 0 0 [some (.ref (Bs P + 0)), some (.int (nI hp)), some (.int y), none] []
  refine r_aload_n X dX8_law_0 (pc' := 1) rfl rfl ?_
  refine r_iload_n X dX8_law_1 (pc' := 2) rfl rfl ?_
  refine r_callV (As := [_]) X okX8_heapAt lm_X8_86 dX8_law_2 (pc' := 5) rfl (ct_X8_heapAt_t P n hn h ι φ ℓ lt ρ ω W hp hh) (by omega) (wC_e0 _ _ _ _ _ _ _ _) rfl rfl rfl rfl (Nat.le_of_ble_eq_true rfl) (by omega) (by omega) (by omega) ?_
  dsimp only [Option.toList, List.cons_append, List.nil_append]
  refine r_astore_n (vs' := [_, _, _, _]) X dX8_law_5 (pc' := 6) rfl (by decide) rfl ?_
  refine r_aload_n X dX8_law_6 (pc' := 7) rfl rfl ?_
  refine r_ifnull X dX8_law_7 (pc' := 10) rfl ?_
  refine r_iload_n X dX8_law_10 (pc' := 11) rfl rfl ?_
  refine r_callS (As := [_]) X okX4_canBe lm_X8_170 dX8_law_11 (pc' := 14) rfl (ct_X4_canBe P n _ _) rfl rfl (Nat.le_of_ble_eq_true rfl) (by omega) (by omega) (by omega) ?_
  dsimp only [Option.toList, List.cons_append, List.nil_append]
  refine rB_if_ne X dX8_law_14 (tgt := 20) (by decide) (pc' := 17) rfl (fun c_14 => ?_) (fun c_14 => ?_)
  · exact absurd (cB_of c_14) hno
  · refine r_bipush (v := (-2)) X (by decide) dX8_law_17 (pc' := 19) rfl ?_
    exact r_iret X r dX8_law_19 (by omega) (by omega) rfl rfl rfl rfl
set_option maxRecDepth 100000 in
set_option maxHeartbeats 1000000 in
theorem ct_X8_law_t (P : Px) (n : Nat) (hn : 59 ≤ n) (h : hw) (ι : Nat → Nat) (φ : Nat → Nat → Nat) (ℓ : Nat → Nat) (lt : Nat → Option Nat) (ρ : Nat → Nat → Option Nat) (ω : Nat → Nat → Nat) (W : Wf ι φ) (Rr : RR φ ρ n h) (hp : Nat) (hh : hp < 2) (w : Nat) (hw : w < 40000) (hlp : lawP w) : Ct P MX8_law 4 1 5 [.ref (Bs P + 0), .int (nI hp), .int (nI w)] n (wC P h ι φ ℓ lt ρ ω) (some (.int (oI (firstN (brkB φ hp w) 81920)))) (n + 1) (wC P (hset h n (lcell w)) ι φ ℓ lt ρ (siftN φ hp ω)) := by
  refine Ct.of (by decide +kernel) (Nat.le_of_ble_eq_true rfl) rfl (fun K X hnm r => ?_)
  have X : Cx K P RX8 cX8_law 4 4 1 5 := X
  have r : Rt K P (some .int) 1 5 _ _ _ := r
  show Z K P _ _ 0 0 0 [some (.ref (Bs P + 0)), some (.int (nI hp)), some (.int (nI w)), none] []
  refine r_aload_n X dX8_law_0 (pc' := 1) rfl rfl ?_
  refine r_iload_n X dX8_law_1 (pc' := 2) rfl rfl ?_
  refine r_callV (As := [_]) X okX8_heapAt lm_X8_86 dX8_law_2 (pc' := 5) rfl (ct_X8_heapAt_t P n hn h ι φ ℓ lt ρ ω W hp hh) (by omega) (wC_e0 _ _ _ _ _ _ _ _) rfl rfl rfl rfl (Nat.le_of_ble_eq_true rfl) (by omega) (by omega) (by omega) ?_
  dsimp only [Option.toList, List.cons_append, List.nil_append]
  refine r_astore_n (vs' := [_, _, _, _]) X dX8_law_5 (pc' := 6) rfl (by decide) rfl ?_
  refine r_aload_n X dX8_law_6 (pc' := 7) rfl rfl ?_
  refine r_ifnull X dX8_law_7 (pc' := 10) rfl ?_
  refine r_iload_n X dX8_law_10 (pc' := 11) rfl rfl ?_
  refine r_callS (As := [_]) X okX4_canBe lm_X8_170 dX8_law_11 (pc' := 14) rfl (ct_X4_canBe P n _ _) rfl rfl (Nat.le_of_ble_eq_true rfl) (by omega) (by omega) (by omega) ?_
  dsimp only [Option.toList, List.cons_append, List.nil_append]
  refine rB_if_ne X dX8_law_14 (tgt := 20) (by decide) (pc' := 17) rfl (fun c_14 => ?_) (fun c_14 => ?_)
  · refine r_aload_n X dX8_law_20 (pc' := 21) rfl rfl ?_
    refine r_get X fX8 lf_X8_50 dX8_law_21 (pc' := 24) rfl (by decide) (by omega) (wC_e0 _ _ _ _ _ _ _ _) rfl ?_
    refine r_aload_n X dX8_law_24 (pc' := 25) rfl rfl ?_
    refine r_aload_n X dX8_law_25 (pc' := 26) rfl rfl ?_
    refine r_get X fX8 lf_X8_22 dX8_law_26 (pc' := 29) rfl (by decide) (by omega) (wC_e0 _ _ _ _ _ _ _ _) rfl ?_
    refine r_callV (As := [_, _]) X okX7_sift lm_X8_174 dX8_law_29 (pc' := 32) rfl (ct_X7_sift P n hn h ι φ ℓ lt ρ ω W hp hh Rr) (by omega) (wC_e32 _ _ _ _ _ _ _ _) rfl rfl rfl rfl (Nat.le_of_ble_eq_true rfl) (by omega) (by omega) (by omega) ?_
    dsimp only [Option.toList, List.cons_append, List.nil_append]
    refine r_aload_n X dX8_law_32 (pc' := 33) rfl rfl ?_
    refine r_get X fX8 lf_X8_50 dX8_law_33 (pc' := 36) rfl (by decide) (by omega) (wC_e0 _ _ _ _ _ _ _ _) rfl ?_
    refine r_new (fs := [.int 0, .int 0, .int 0, .int 0, .int 0]) X fX4 lc_X8_171 insX4 iniX4 (fun q hq => by match q, hq with | 0, _ => rfl | 1, _ => rfl | 2, _ => rfl | 3, _ => rfl | 4, _ => rfl) (by omega) (by omega) dX8_law_36 (pc' := 39) rfl ?_
    rw [wC_g (by omega)]
    refine r_dup X rfl dX8_law_39 (pc' := 40) rfl ?_
    refine r_iload_n X dX8_law_40 (pc' := 41) rfl rfl ?_
    refine r_callI (As := [_]) X okX4_init lm_X8_178 dX8_law_41 (pc' := 44) rfl (ct_X4_init P (n + 1) _ n w (by omega) ((wC_out (by omega)).trans (hset_s _ _ _)) (by omega)) rfl rfl (Nat.le_of_ble_eq_true rfl) (by omega) (by omega) (by omega) ?_
    dsimp only [Option.toList, List.cons_append, List.nil_append]
    rw [wC_g (by omega), hset_ss]
    refine r_callV (As := [_]) X okX7_leastBreaking lm_X8_180 dX8_law_44 (pc' := 47) rfl (ct_X7_leastBreaking P (n + 1) (by omega) (hset h n (lcell w)) ι φ ℓ lt ρ (siftN φ hp ω) W n w (by omega) (by omega) (hset_s _ _ _) hw hlp (fun r hr => row0_lt hr (W.v7 hp))) (by omega) (wC_e32 _ _ _ _ _ _ _ _) rfl rfl rfl rfl (Nat.le_of_ble_eq_true rfl) (by omega) (by omega) (by omega) ?_
    dsimp only [Option.toList, List.cons_append, List.nil_append]
    rw [firstN_congr (fun c hc => brk_bits (w := w) (ω := ω) hc (W.v7 hp))]
    exact r_iret X r dX8_law_47 (by omega) (by omega) rfl rfl rfl rfl
  · exact absurd ⟨nI_pos (by omega), by rw [tn_n (by omega)]; exact hlp⟩ (cB_nf c_14)
