/-! ===== AskTrust: quarrel ===== -/
def qla (o1 o2 o3 : Option Nat) : Int32 := match o1, o2, o3 with
  | some r, some m, some s => nI ((r * 64 + m) * 80 + s)
  | _, _, _ => -1
theorem qla_n {o1 o2 o3 : Option Nat} (h : o1 = none ∨ o2 = none ∨ o3 = none) : qla o1 o2 o3 = -1 := by
  unfold qla
  rcases h with rfl | rfl | rfl
  · rfl
  · cases o1 <;> rfl
  · cases o1 <;> cases o2 <;> rfl
theorem oI_none {o : Option Nat} {N : Nat} (hN : N ≤ 1000) (hb : ∀ k, o = some k → k < N) (h : oI o = -1) : o = none := by
  cases o with
  | none => rfl
  | some k => exact absurd h (oI_ne (by have := hb k rfl; omega))
theorem oI_some {o : Option Nat} (h : ¬ oI o = -1) : ∃ k, o = some k := by
  cases o with
  | none => exact absurd rfl h
  | some k => exact ⟨k, rfl⟩
theorem firstN_lt {p : Nat → Bool} {n k : Nat} (h : firstN p n = some k) : k < n := by
  rcases firstN_cases p n with ⟨j, h1, -, -, h4⟩ | ⟨-, h4⟩
  · rw [h4] at h; cases h; exact h1
  · rw [h4] at h; cases h
noncomputable def fw (Ω : Nat → Nat → Nat) (c N m : Nat) : Option Nat := firstN (fun q => decide ((Ω c q &&& m) = m)) N
/-- three free parts: the least code is that of the least parts -/
theorem first3 {p1 p2 p3 : Nat → Bool} : firstN (fun c => p1 (c / 5120) && p2 (c / 80 % 64) && p3 (c % 80)) 81920 = (match firstN p1 16, firstN p2 64, firstN p3 80 with | some r, some m, some s => some ((r * 64 + m) * 80 + s) | _, _, _ => none) := by
  rcases firstN_cases p1 16 with ⟨r, a1, a2, a3, a4⟩ | ⟨a3, a4⟩
  · rcases firstN_cases p2 64 with ⟨m, b1, b2, b3, b4⟩ | ⟨b3, b4⟩
    · rcases firstN_cases p3 80 with ⟨s, c1, c2, c3, c4⟩ | ⟨c3, c4⟩
      · rw [a4, b4, c4]
        apply firstN_some (by omega)
        · rw [show ((r * 64 + m) * 80 + s) / 5120 = r by omega, show ((r * 64 + m) * 80 + s) / 80 % 64 = m by omega, show ((r * 64 + m) * 80 + s) % 80 = s by omega, a2, b2, c2]; rfl
        · intro i hi
          by_cases e1 : i / 5120 < r
          · rw [a3 _ e1]; rfl
          · by_cases e2 : i / 80 % 64 < m
            · rw [b3 _ e2, Bool.and_false]; rfl
            · rw [c3 (i % 80) (by omega), Bool.and_false]
      · rw [a4, b4, c4]
        exact firstN_none (fun i hi => by rw [c3 (i % 80) (by omega), Bool.and_false])
    · rw [a4, b4]
      exact firstN_none (fun i hi => by rw [b3 (i / 80 % 64) (by omega), Bool.and_false]; rfl)
  · rw [a4]
    exact firstN_none (fun i hi => by rw [a3 (i / 5120) (by omega)]; rfl)
theorem two_bits {x a b : Nat} : ((x &&& (1 * 2 ^ a ||| 1 * 2 ^ b)) = (1 * 2 ^ a ||| 1 * 2 ^ b)) ↔ (x.testBit a = true ∧ x.testBit b = true) := by
  rw [Nat.one_mul, Nat.one_mul]
  constructor
  · intro h
    have f : ∀ i, (x.testBit i && (decide (a = i) || decide (b = i))) = (decide (a = i) || decide (b = i)) := fun i => by
      have := congrArg (fun y => Nat.testBit y i) h
      simpa only [Nat.testBit_and, Nat.testBit_or, Nat.testBit_two_pow] using this
    exact ⟨by have := f a; simpa using this, by have := f b; simpa using this⟩
  · rintro ⟨h1, h2⟩
    apply Nat.eq_of_testBit_eq
    intro i
    rw [Nat.testBit_and, Nat.testBit_or, Nat.testBit_two_pow, Nat.testBit_two_pow]
    by_cases e1 : a = i
    · subst e1; simp [h1]
    · by_cases e2 : b = i
      · subst e2; simp [h2]
      · simp [e1, e2]
theorem qua_bits {φ : Nat → Nat → Nat} {hp a b : Nat} {ω : Nat → Nat → Nat} (ha : a < φ 7 hp) (hb : b < φ 7 hp) : qla (fw (siftN φ hp ω) 0 16 (1 * 2 ^ a ||| 1 * 2 ^ b)) (fw (siftN φ hp ω) 1 64 (1 * 2 ^ a ||| 1 * 2 ^ b)) (fw (siftN φ hp ω) 2 80 (1 * 2 ^ a ||| 1 * 2 ^ b)) = oI (firstN (quaB φ hp a b) 81920) := by
  have e : firstN (quaB φ hp a b) 81920 = firstN (fun c => (fun q => decide ((siftN φ hp ω 0 q &&& (1 * 2 ^ a ||| 1 * 2 ^ b)) = (1 * 2 ^ a ||| 1 * 2 ^ b))) (c / 5120) && (fun q => decide ((siftN φ hp ω 1 q &&& (1 * 2 ^ a ||| 1 * 2 ^ b)) = (1 * 2 ^ a ||| 1 * 2 ^ b))) (c / 80 % 64) && (fun q => decide ((siftN φ hp ω 2 q &&& (1 * 2 ^ a ||| 1 * 2 ^ b)) = (1 * 2 ^ a ||| 1 * 2 ^ b))) (c % 80)) 81920 := by
    apply firstN_congr
    intro c hc
    have fa := fit3_bit (φ := φ) (hp := hp) (ω := ω) (i := a) hc
    have fb := fit3_bit (φ := φ) (hp := hp) (ω := ω) (i := b) hc
    rw [decide_eq_true ha, Bool.true_and] at fa
    rw [decide_eq_true hb, Bool.true_and] at fb
    unfold quaB
    rw [← fa, ← fb]
    unfold fit3
    rw [Bool.eq_iff_iff]
    simp only [Nat.testBit_and, Bool.and_eq_true, decide_eq_true_eq, two_bits]
    constructor
    · rintro ⟨⟨⟨x1, x2⟩, x3⟩, ⟨y1, y2⟩, y3⟩; exact ⟨⟨⟨x1, y1⟩, x2, y2⟩, x3, y3⟩
    · rintro ⟨⟨⟨x1, y1⟩, x2, y2⟩, x3, y3⟩; exact ⟨⟨⟨x1, x2⟩, x3⟩, ⟨y1, y2⟩, y3⟩
  rw [e.trans (first3 (p1 := (fun q => decide ((siftN φ hp ω 0 q &&& (1 * 2 ^ a ||| 1 * 2 ^ b)) = (1 * 2 ^ a ||| 1 * 2 ^ b)))) (p2 := (fun q => decide ((siftN φ hp ω 1 q &&& (1 * 2 ^ a ||| 1 * 2 ^ b)) = (1 * 2 ^ a ||| 1 * 2 ^ b)))) (p3 := (fun q => decide ((siftN φ hp ω 2 q &&& (1 * 2 ^ a ||| 1 * 2 ^ b)) = (1 * 2 ^ a ||| 1 * 2 ^ b)))))]
  unfold fw qla
  cases firstN (fun q => decide ((siftN φ hp ω 0 q &&& (1 * 2 ^ a ||| 1 * 2 ^ b)) = (1 * 2 ^ a ||| 1 * 2 ^ b))) 16 <;> cases firstN (fun q => decide ((siftN φ hp ω 1 q &&& (1 * 2 ^ a ||| 1 * 2 ^ b)) = (1 * 2 ^ a ||| 1 * 2 ^ b))) 64 <;> cases firstN (fun q => decide ((siftN φ hp ω 2 q &&& (1 * 2 ^ a ||| 1 * 2 ^ b)) = (1 * 2 ^ a ||| 1 * 2 ^ b))) 80 <;> rfl
set_option maxRecDepth 100000 in
set_option maxHeartbeats 1000000 in
theorem ct_X7_leastFittingAll (P : Px) (n : Nat) (hn : 59 ≤ n) (h : hw) (ι : Nat → Nat) (φ : Nat → Nat → Nat) (ℓ : Nat → Nat) (lt : Nat → Option Nat) (ρ : Nat → Nat → Option Nat) (ω : Nat → Nat → Nat) (W : Wf ι φ) (m : Nat) (hm : m < 2 ^ 31) : Ct P MX7_leastFittingAll 1 0 0 [.ref (Bs P + 32), .int (nI m)] n (wC P h ι φ ℓ lt ρ ω) (some (.int (qla (fw ω 0 16 m) (fw ω 1 64 m) (fw ω 2 80 m)))) n (wC P h ι φ ℓ lt ρ ω) := by
  refine Ct.of (by decide +kernel) (Nat.le_of_ble_eq_true rfl) rfl (fun K X hnm r => ?_)
  have X : Cx K P RX7 cX7_leastFittingAll 5 1 0 0 := X
  have r : Rt K P (some .int) 0 0 _ _ _ := r
  show Z K P _ _ 0 0 0 [some (.ref (Bs P + 32)), some (.int (nI m)), none, none, none] []
  refine r_aload_n X dX7_leastFittingAll_0 (pc' := 1) rfl rfl ?_
  refine r_get X fX7 lf_X7_9 dX7_leastFittingAll_1 (pc' := 4) rfl (by decide) (by omega) (wC_e32 _ _ _ _ _ _ _ _) rfl ?_
  refine r_iload_n X dX7_leastFittingAll_4 (pc' := 5) rfl rfl ?_
  refine r_callS (As := [_, _]) X okX7_leastWithAll lm_X7_94 dX7_leastFittingAll_5 (pc' := 8) rfl (ct_X7_leastWithAll P n _ 33 16 m (ω 0) (by omega) (wC_e33 _ _ _ _ _ _ _ _) (by decide) hm) rfl rfl (Nat.le_of_ble_eq_true rfl) (by omega) (by omega) (by omega) ?_
  dsimp only [Option.toList, List.cons_append, List.nil_append]
  rw [show firstN (fun q => decide ((ω 0 q &&& m) = m)) 16 = fw ω 0 16 m from rfl]
  refine r_istore_n (vs' := [_, _, _, _, _]) X dX7_leastFittingAll_8 (pc' := 9) rfl (by decide) rfl ?_
  refine r_aload_n X dX7_leastFittingAll_9 (pc' := 10) rfl rfl ?_
  refine r_get X fX7 lf_X7_15 dX7_leastFittingAll_10 (pc' := 13) rfl (by decide) (by omega) (wC_e32 _ _ _ _ _ _ _ _) rfl ?_
  refine r_iload_n X dX7_leastFittingAll_13 (pc' := 14) rfl rfl ?_
  refine r_callS (As := [_, _]) X okX7_leastWithAll lm_X7_94 dX7_leastFittingAll_14 (pc' := 17) rfl (ct_X7_leastWithAll P n _ 34 64 m (ω 1) (by omega) (wC_e34 _ _ _ _ _ _ _ _) (by decide) hm) rfl rfl (Nat.le_of_ble_eq_true rfl) (by omega) (by omega) (by omega) ?_
  dsimp only [Option.toList, List.cons_append, List.nil_append]
  rw [show firstN (fun q => decide ((ω 1 q &&& m) = m)) 64 = fw ω 1 64 m from rfl]
  refine r_istore_n (vs' := [_, _, _, _, _]) X dX7_leastFittingAll_17 (pc' := 18) rfl (by decide) rfl ?_
  refine r_aload_n X dX7_leastFittingAll_18 (pc' := 19) rfl rfl ?_
  refine r_get X fX7 lf_X7_18 dX7_leastFittingAll_19 (pc' := 22) rfl (by decide) (by omega) (wC_e32 _ _ _ _ _ _ _ _) rfl ?_
  refine r_iload_n X dX7_leastFittingAll_22 (pc' := 23) rfl rfl ?_
  refine r_callS (As := [_, _]) X okX7_leastWithAll lm_X7_94 dX7_leastFittingAll_23 (pc' := 26) rfl (ct_X7_leastWithAll P n _ 35 80 m (ω 2) (by omega) (wC_e35 _ _ _ _ _ _ _ _) (by decide) hm) rfl rfl (Nat.le_of_ble_eq_true rfl) (by omega) (by omega) (by omega) ?_
  dsimp only [Option.toList, List.cons_append, List.nil_append]
  rw [show firstN (fun q => decide ((ω 2 q &&& m) = m)) 80 = fw ω 2 80 m from rfl]
  refine r_istore (vs' := [_, _, _, _, _]) X dX7_leastFittingAll_26 (pc' := 28) rfl (by decide) rfl ?_
  refine r_iload_n X dX7_leastFittingAll_28 (pc' := 29) rfl rfl ?_
  refine r_iconst (v := (-1)) X (by decide) dX7_leastFittingAll_29 (pc' := 30) rfl ?_
  refine r_icmp_eq X dX7_leastFittingAll_30 (tgt := 44) (by decide) (pc' := 33) rfl (fun c_30 => ?_) (fun c_30 => ?_)
  · refine r_iconst (v := (-1)) X (by decide) dX7_leastFittingAll_44 (pc' := 45) rfl ?_
    exact r_iret X r dX7_leastFittingAll_45 (by omega) (by omega) rfl (by rw [qla_n (by first | exact Or.inl (oI_none (by decide) (fun k hk => firstN_lt hk) c_30) | exact Or.inr (Or.inl (oI_none (by decide) (fun k hk => firstN_lt hk) c_35)) | exact Or.inr (Or.inr (oI_none (by decide) (fun k hk => firstN_lt hk) c_41)))]) rfl rfl
  · refine r_iload_n X dX7_leastFittingAll_33 (pc' := 34) rfl rfl ?_
    refine r_iconst (v := (-1)) X (by decide) dX7_leastFittingAll_34 (pc' := 35) rfl ?_
    refine r_icmp_eq X dX7_leastFittingAll_35 (tgt := 44) (by decide) (pc' := 38) rfl (fun c_35 => ?_) (fun c_35 => ?_)
    · refine r_iconst (v := (-1)) X (by decide) dX7_leastFittingAll_44 (pc' := 45) rfl ?_
      exact r_iret X r dX7_leastFittingAll_45 (by omega) (by omega) rfl (by rw [qla_n (by first | exact Or.inl (oI_none (by decide) (fun k hk => firstN_lt hk) c_30) | exact Or.inr (Or.inl (oI_none (by decide) (fun k hk => firstN_lt hk) c_35)) | exact Or.inr (Or.inr (oI_none (by decide) (fun k hk => firstN_lt hk) c_41)))]) rfl rfl
    · refine r_iload X dX7_leastFittingAll_38 (pc' := 40) rfl rfl ?_
      refine r_iconst (v := (-1)) X (by decide) dX7_leastFittingAll_40 (pc' := 41) rfl ?_
      refine r_icmp_ne X dX7_leastFittingAll_41 (tgt := 46) (by decide) (pc' := 44) rfl (fun c_41 => ?_) (fun c_41 => ?_)
      · obtain ⟨r1, e1⟩ := oI_some c_30
        obtain ⟨r2, e2⟩ := oI_some c_35
        obtain ⟨r3, e3⟩ := oI_some c_41
        rw [e1, e2, e3]
        rw [e1, e2, e3] at r
        show Z K P n _ _ _ 46 [some (.ref (Bs P + 32)), some (.int (nI m)), some (.int (nI r1)), some (.int (nI r2)), some (.int (nI r3))] []
        refine r_iload_n X dX7_leastFittingAll_46 (pc' := 47) rfl rfl ?_
        refine r_iload_n X dX7_leastFittingAll_47 (pc' := 48) rfl rfl ?_
        refine r_iload X dX7_leastFittingAll_48 (pc' := 50) rfl rfl ?_
        refine r_callS (As := [_, _, _]) X okX7_codeOf lm_X7_81 dX7_leastFittingAll_50 (pc' := 53) rfl (ct_X7_codeOf P n _ _ _ _) rfl rfl (Nat.le_of_ble_eq_true rfl) (by omega) (by omega) (by omega) ?_
        dsimp only [Option.toList, List.cons_append, List.nil_append]
        exact r_iret X r dX7_leastFittingAll_53 (by omega) (by omega) rfl rfl rfl rfl
      · refine r_iconst (v := (-1)) X (by decide) dX7_leastFittingAll_44 (pc' := 45) rfl ?_
        exact r_iret X r dX7_leastFittingAll_45 (by omega) (by omega) rfl (by rw [qla_n (by first | exact Or.inl (oI_none (by decide) (fun k hk => firstN_lt hk) c_30) | exact Or.inr (Or.inl (oI_none (by decide) (fun k hk => firstN_lt hk) c_35)) | exact Or.inr (Or.inr (oI_none (by decide) (fun k hk => firstN_lt hk) c_41)))]) rfl rfl
set_option maxRecDepth 100000 in
set_option maxHeartbeats 1000000 in
theorem ct_X8_quarrel_f (P : Px) (n : Nat) (hn : 59 ≤ n) (h : hw) (ι : Nat → Nat) (φ : Nat → Nat → Nat) (ℓ : Nat → Nat) (lt : Nat → Option Nat) (ρ : Nat → Nat → Option Nat) (ω : Nat → Nat → Nat) (W : Wf ι φ) (x y z : Int32) (hx : inQ x (nI 1) = false) : Ct P MX8_quarrel 4 0 0 [.ref (Bs P + 0), .int x, .int y, .int z] n (wC P h ι φ ℓ lt ρ ω) (some (.int (-1))) n (wC P h ι φ ℓ lt ρ ω) := by
  refine Ct.of (by decide +kernel) (Nat.le_of_ble_eq_true rfl) rfl (fun K X hnm r => ?_)
  have X : Cx K P RX8 cX8_quarrel 7 4 0 0 := X
  have r : Rt K P (some .int) 0 0 _ _ _ := r
  show Z K P _ _ 0 0 0 [some (.ref (Bs P + 0)), some (.int x), some (.int y), some (.int z), none, none, none] []
  refine r_aload_n X dX8_quarrel_0 (pc' := 1) rfl rfl ?_
  refine r_iload_n X dX8_quarrel_1 (pc' := 2) rfl rfl ?_
  refine r_callV (As := [_]) X okX8_heapAt lm_X8_86 dX8_quarrel_2 (pc' := 5) rfl (ct_X8_heapAt_f P n hn h ι φ ℓ lt ρ ω W x hx) (by omega) (wC_e0 _ _ _ _ _ _ _ _) rfl rfl rfl rfl (Nat.le_of_ble_eq_true rfl) (by omega) (by omega) (by omega) ?_
  dsimp only [Option.toList, List.cons_append, List.nil_append]
  refine r_astoreN (vs' := [_, _, _, _, _, _, _]) X dX8_quarrel_5 (pc' := 7) rfl (by decide) rfl ?_
  refine r_aloadN X dX8_quarrel_7 (pc' := 9) rfl rfl ?_
  refine r_ifnonnullN X dX8_quarrel_9 (pc' := 12) rfl ?_
  refine r_iconst (v := (-1)) X (by decide) dX8_quarrel_12 (pc' := 13) rfl ?_
  exact r_iret X r dX8_quarrel_13 (by omega) (by omega) rfl rfl rfl rfl
set_option maxRecDepth 100000 in
set_option maxHeartbeats 1000000 in
theorem ct_X8_quarrel_g (P : Px) (n : Nat) (hn : 59 ≤ n) (h : hw) (ι : Nat → Nat) (φ : Nat → Nat → Nat) (ℓ : Nat → Nat) (lt : Nat → Option Nat) (ρ : Nat → Nat → Option Nat) (ω : Nat → Nat → Nat) (W : Wf ι φ) (Rr : RR φ ρ n h) (hp : Nat) (hh : hp < 2) (y z : Int32) (hy : inB y (nI (φ 7 hp)) = false) (hz : inB z (nI (φ 7 hp)) = false) : Ct P MX8_quarrel 4 0 0 [.ref (Bs P + 0), .int (nI hp), .int y, .int z] n (wC P h ι φ ℓ lt ρ ω) (some (.int (-1))) n (wC P h ι φ ℓ lt ρ ω) := by
  refine Ct.of (by decide +kernel) (Nat.le_of_ble_eq_true rfl) rfl (fun K X hnm r => ?_)
  have X : Cx K P RX8 cX8_quarrel 7 4 0 0 := X
  have r : Rt K P (some .int) 0 0 _ _ _ := r
  show Z K P _ _ 0 0 0 [some (.ref (Bs P + 0)), some (.int (nI hp)), some (.int y), some (.int z), none, none, none] []
  refine r_aload_n X dX8_quarrel_0 (pc' := 1) rfl rfl ?_
  refine r_iload_n X dX8_quarrel_1 (pc' := 2) rfl rfl ?_
  refine r_callV (As := [_]) X okX8_heapAt lm_X8_86 dX8_quarrel_2 (pc' := 5) rfl (ct_X8_heapAt_t P n hn h ι φ ℓ lt ρ ω W hp hh) (by omega) (wC_e0 _ _ _ _ _ _ _ _) rfl rfl rfl rfl (Nat.le_of_ble_eq_true rfl) (by omega) (by omega) (by omega) ?_
  dsimp only [Option.toList, List.cons_append, List.nil_append]
  refine r_astore (vs' := [_, _, _, _, _, _, _]) X dX8_quarrel_5 (pc' := 7) rfl (by decide) rfl ?_
  refine r_aload X dX8_quarrel_7 (pc' := 9) rfl rfl ?_
  refine r_ifnonnull X dX8_quarrel_9 (tgt := 14) (by decide) ?_
  refine r_aload X dX8_quarrel_14 (pc' := 16) rfl rfl ?_
  refine r_iload_n X dX8_quarrel_16 (pc' := 17) rfl rfl ?_
  refine r_callV (As := [_]) X okX1_ruleAt lm_X8_184 dX8_quarrel_17 (pc' := 20) rfl (ct_X1_ruleAt_f P n hn h ι φ ℓ lt ρ ω W hp hh y hy) (by omega) (wC_hp _ _ _ _ _ _ _ _ hh) rfl rfl rfl rfl (Nat.le_of_ble_eq_true rfl) (by omega) (by omega) (by omega) ?_
  dsimp only [Option.toList, List.cons_append, List.nil_append]
  refine r_astoreN (vs' := [_, _, _, _, _, _, _]) X dX8_quarrel_20 (pc' := 22) rfl (by decide) rfl ?_
  refine r_aload X dX8_quarrel_22 (pc' := 24) rfl rfl ?_
  refine r_iload_n X dX8_quarrel_24 (pc' := 25) rfl rfl ?_
  refine r_callV (As := [_]) X okX1_ruleAt lm_X8_184 dX8_quarrel_25 (pc' := 28) rfl (ct_X1_ruleAt_f P n hn h ι φ ℓ lt ρ ω W hp hh z hz) (by omega) (wC_hp _ _ _ _ _ _ _ _ hh) rfl rfl rfl rfl (Nat.le_of_ble_eq_true rfl) (by omega) (by omega) (by omega) ?_
  dsimp only [Option.toList, List.cons_append, List.nil_append]
  refine r_astoreN (vs' := [_, _, _, _, _, _, _]) X dX8_quarrel_28 (pc' := 30) rfl (by decide) rfl ?_
  refine r_aloadN X dX8_quarrel_30 (pc' := 32) rfl rfl ?_
  refine r_ifnullN X dX8_quarrel_32 (tgt := 53) (by decide) ?_
  refine r_iconst (v := (-1)) X (by decide) dX8_quarrel_53 (pc' := 54) rfl ?_
  exact r_iret X r dX8_quarrel_54 (by omega) (by omega) rfl rfl rfl rfl
set_option maxRecDepth 100000 in
set_option maxHeartbeats 1000000 in
theorem ct_X8_quarrel_h (P : Px) (n : Nat) (hn : 59 ≤ n) (h : hw) (ι : Nat → Nat) (φ : Nat → Nat → Nat) (ℓ : Nat → Nat) (lt : Nat → Option Nat) (ρ : Nat → Nat → Option Nat) (ω : Nat → Nat → Nat) (W : Wf ι φ) (Rr : RR φ ρ n h) (hp : Nat) (hh : hp < 2) (y : Int32) (hy : inB y (nI (φ 7 hp)) = false) (b : Nat) (hb : b < φ 7 hp) : Ct P MX8_quarrel 4 0 0 [.ref (Bs P + 0), .int (nI hp), .int y, .int (nI b)] n (wC P h ι φ ℓ lt ρ ω) (some (.int (-1))) n (wC P h ι φ ℓ lt ρ ω) := by
  refine Ct.of (by decide +kernel) (Nat.le_of_ble_eq_true rfl) rfl (fun K X hnm r => ?_)
  have X : Cx K P RX8 cX8_quarrel 7 4 0 0 := X
  have r : Rt K P (some .int) 0 0 _ _ _ := r
  show Z K P _ _ 0 0 0 [some (.ref (Bs P + 0)), some (.int (nI hp)), some (.int y), some (.int (nI b)), none, none, none] []
  obtain ⟨k2, hl0, hl1, hl2, hl3, hl4⟩ := Rr hp b hh hb
  have b11 := W.v10 (12 * hp + b)
  refine r_aload_n X dX8_quarrel_0 (pc' := 1) rfl rfl ?_
  refine r_iload_n X dX8_quarrel_1 (pc' := 2) rfl rfl ?_
  refine r_callV (As := [_]) X okX8_heapAt lm_X8_86 dX8_quarrel_2 (pc' := 5) rfl (ct_X8_heapAt_t P n hn h ι φ ℓ lt ρ ω W hp hh) (by omega) (wC_e0 _ _ _ _ _ _ _ _) rfl rfl rfl rfl (Nat.le_of_ble_eq_true rfl) (by omega) (by omega) (by omega) ?_
  dsimp only [Option.toList, List.cons_append, List.nil_append]
  refine r_astore (vs' := [_, _, _, _, _, _, _]) X dX8_quarrel_5 (pc' := 7) rfl (by decide) rfl ?_
  refine r_aload X dX8_quarrel_7 (pc' := 9) rfl rfl ?_
  refine r_ifnonnull X dX8_quarrel_9 (tgt := 14) (by decide) ?_
  refine r_aload X dX8_quarrel_14 (pc' := 16) rfl rfl ?_
  refine r_iload_n X dX8_quarrel_16 (pc' := 17) rfl rfl ?_
  refine r_callV (As := [_]) X okX1_ruleAt lm_X8_184 dX8_quarrel_17 (pc' := 20) rfl (ct_X1_ruleAt_f P n hn h ι φ ℓ lt ρ ω W hp hh y hy) (by omega) (wC_hp _ _ _ _ _ _ _ _ hh) rfl rfl rfl rfl (Nat.le_of_ble_eq_true rfl) (by omega) (by omega) (by omega) ?_
  dsimp only [Option.toList, List.cons_append, List.nil_append]
  refine r_astoreN (vs' := [_, _, _, _, _, _, _]) X dX8_quarrel_20 (pc' := 22) rfl (by decide) rfl ?_
  refine r_aload X dX8_quarrel_22 (pc' := 24) rfl rfl ?_
  refine r_iload_n X dX8_quarrel_24 (pc' := 25) rfl rfl ?_
  refine r_callV (As := [_]) X okX1_ruleAt lm_X8_184 dX8_quarrel_25 (pc' := 28) rfl (ct_X1_ruleAt_t P n hn h ι φ ℓ lt ρ ω W hp hh b k2 hb hl0) (by omega) (wC_hp _ _ _ _ _ _ _ _ hh) rfl rfl rfl rfl (Nat.le_of_ble_eq_true rfl) (by omega) (by omega) (by omega) ?_
  dsimp only [Option.toList, List.cons_append, List.nil_append]
  refine r_astore (vs' := [_, _, _, _, _, _, _]) X dX8_quarrel_28 (pc' := 30) rfl (by decide) rfl ?_
  refine r_aloadN X dX8_quarrel_30 (pc' := 32) rfl rfl ?_
  refine r_ifnullN X dX8_quarrel_32 (tgt := 53) (by decide) ?_
  refine r_iconst (v := (-1)) X (by decide) dX8_quarrel_53 (pc' := 54) rfl ?_
  exact r_iret X r dX8_quarrel_54 (by omega) (by omega) rfl rfl rfl rfl
set_option maxRecDepth 100000 in
set_option maxHeartbeats 1000000 in
theorem ct_X8_quarrel_i (P : Px) (n : Nat) (hn : 59 ≤ n) (h : hw) (ι : Nat → Nat) (φ : Nat → Nat → Nat) (ℓ : Nat → Nat) (lt : Nat → Option Nat) (ρ : Nat → Nat → Option Nat) (ω : Nat → Nat → Nat) (W : Wf ι φ) (Rr : RR φ ρ n h) (hp : Nat) (hh : hp < 2) (a : Nat) (ha : a < φ 7 hp) (z : Int32) (hz : inB z (nI (φ 7 hp)) = false) : Ct P MX8_quarrel 4 0 0 [.ref (Bs P + 0), .int (nI hp), .int (nI a), .int z] n (wC P h ι φ ℓ lt ρ ω) (some (.int (-1))) n (wC P h ι φ ℓ lt ρ ω) := by
  refine Ct.of (by decide +kernel) (Nat.le_of_ble_eq_true rfl) rfl (fun K X hnm r => ?_)
  have X : Cx K P RX8 cX8_quarrel 7 4 0 0 := X
  have r : Rt K P (some .int) 0 0 _ _ _ := r
  show Z K P _ _ 0 0 0 [some (.ref (Bs P + 0)), some (.int (nI hp)), some (.int (nI a)), some (.int z), none, none, none] []
  obtain ⟨k, hk0, hk1, hk2, hk3, hk4⟩ := Rr hp a hh ha
  have b10 := W.v10 (12 * hp + a)
  refine r_aload_n X dX8_quarrel_0 (pc' := 1) rfl rfl ?_
  refine r_iload_n X dX8_quarrel_1 (pc' := 2) rfl rfl ?_
  refine r_callV (As := [_]) X okX8_heapAt lm_X8_86 dX8_quarrel_2 (pc' := 5) rfl (ct_X8_heapAt_t P n hn h ι φ ℓ lt ρ ω W hp hh) (by omega) (wC_e0 _ _ _ _ _ _ _ _) rfl rfl rfl rfl (Nat.le_of_ble_eq_true rfl) (by omega) (by omega) (by omega) ?_
  dsimp only [Option.toList, List.cons_append, List.nil_append]
  refine r_astore (vs' := [_, _, _, _, _, _, _]) X dX8_quarrel_5 (pc' := 7) rfl (by decide) rfl ?_
  refine r_aload X dX8_quarrel_7 (pc' := 9) rfl rfl ?_
  refine r_ifnonnull X dX8_quarrel_9 (tgt := 14) (by decide) ?_
  refine r_aload X dX8_quarrel_14 (pc' := 16) rfl rfl ?_
  refine r_iload_n X dX8_quarrel_16 (pc' := 17) rfl rfl ?_
  refine r_callV (As := [_]) X okX1_ruleAt lm_X8_184 dX8_quarrel_17 (pc' := 20) rfl (ct_X1_ruleAt_t P n hn h ι φ ℓ lt ρ ω W hp hh a k ha hk0) (by omega) (wC_hp _ _ _ _ _ _ _ _ hh) rfl rfl rfl rfl (Nat.le_of_ble_eq_true rfl) (by omega) (by omega) (by omega) ?_
  dsimp only [Option.toList, List.cons_append, List.nil_append]
  refine r_astore (vs' := [_, _, _, _, _, _, _]) X dX8_quarrel_20 (pc' := 22) rfl (by decide) rfl ?_
  refine r_aload X dX8_quarrel_22 (pc' := 24) rfl rfl ?_
  refine r_iload_n X dX8_quarrel_24 (pc' := 25) rfl rfl ?_
  refine r_callV (As := [_]) X okX1_ruleAt lm_X8_184 dX8_quarrel_25 (pc' := 28) rfl (ct_X1_ruleAt_f P n hn h ι φ ℓ lt ρ ω W hp hh z hz) (by omega) (wC_hp _ _ _ _ _ _ _ _ hh) rfl rfl rfl rfl (Nat.le_of_ble_eq_true rfl) (by omega) (by omega) (by omega) ?_
  dsimp only [Option.toList, List.cons_append, List.nil_append]
  refine r_astoreN (vs' := [_, _, _, _, _, _, _]) X dX8_quarrel_28 (pc' := 30) rfl (by decide) rfl ?_
  refine r_aload X dX8_quarrel_30 (pc' := 32) rfl rfl ?_
  refine r_ifnull X dX8_quarrel_32 (pc' := 35) rfl ?_
  refine r_aloadN X dX8_quarrel_35 (pc' := 37) rfl rfl ?_
  refine r_ifnullN X dX8_quarrel_37 (tgt := 53) (by decide) ?_
  refine r_iconst (v := (-1)) X (by decide) dX8_quarrel_53 (pc' := 54) rfl ?_
  exact r_iret X r dX8_quarrel_54 (by omega) (by omega) rfl rfl rfl rfl
set_option maxRecDepth 100000 in
set_option maxHeartbeats 1000000 in
theorem ct_X8_quarrel_j (P : Px) (n : Nat) (hn : 59 ≤ n) (h : hw) (ι : Nat → Nat) (φ : Nat → Nat → Nat) (ℓ : Nat → Nat) (lt : Nat → Option Nat) (ρ : Nat → Nat → Option Nat) (ω : Nat → Nat → Nat) (W : Wf ι φ) (Rr : RR φ ρ n h) (hp : Nat) (hh : hp < 2) (a b : Nat) (ha : a < φ 7 hp) (hb : b < φ 7 hp) (he : φ 10 (12 * hp + a) = φ 10 (12 * hp + b)) : Ct P MX8_quarrel 4 0 0 [.ref (Bs P + 0), .int (nI hp), .int (nI a), .int (nI b)] n (wC P h ι φ ℓ lt ρ ω) (some (.int (-1))) n (wC P h ι φ ℓ lt ρ ω) := by
  refine Ct.of (by decide +kernel) (Nat.le_of_ble_eq_true rfl) rfl (fun K X hnm r => ?_)
  have X : Cx K P RX8 cX8_quarrel 7 4 0 0 := X
  have r : Rt K P (some .int) 0 0 _ _ _ := r
  show Z K P _ _ 0 0 0 [some (.ref (Bs P + 0)), some (.int (nI hp)), some (.int (nI a)), some (.int (nI b)), none, none, none] []
  obtain ⟨k, hk0, hk1, hk2, hk3, hk4⟩ := Rr hp a hh ha
  have b10 := W.v10 (12 * hp + a)
  obtain ⟨k2, hl0, hl1, hl2, hl3, hl4⟩ := Rr hp b hh hb
  have b11 := W.v10 (12 * hp + b)
  refine r_aload_n X dX8_quarrel_0 (pc' := 1) rfl rfl ?_
  refine r_iload_n X dX8_quarrel_1 (pc' := 2) rfl rfl ?_
  refine r_callV (As := [_]) X okX8_heapAt lm_X8_86 dX8_quarrel_2 (pc' := 5) rfl (ct_X8_heapAt_t P n hn h ι φ ℓ lt ρ ω W hp hh) (by omega) (wC_e0 _ _ _ _ _ _ _ _) rfl rfl rfl rfl (Nat.le_of_ble_eq_true rfl) (by omega) (by omega) (by omega) ?_
  dsimp only [Option.toList, List.cons_append, List.nil_append]
  refine r_astore (vs' := [_, _, _, _, _, _, _]) X dX8_quarrel_5 (pc' := 7) rfl (by decide) rfl ?_
  refine r_aload X dX8_quarrel_7 (pc' := 9) rfl rfl ?_
  refine r_ifnonnull X dX8_quarrel_9 (tgt := 14) (by decide) ?_
  refine r_aload X dX8_quarrel_14 (pc' := 16) rfl rfl ?_
  refine r_iload_n X dX8_quarrel_16 (pc' := 17) rfl rfl ?_
  refine r_callV (As := [_]) X okX1_ruleAt lm_X8_184 dX8_quarrel_17 (pc' := 20) rfl (ct_X1_ruleAt_t P n hn h ι φ ℓ lt ρ ω W hp hh a k ha hk0) (by omega) (wC_hp _ _ _ _ _ _ _ _ hh) rfl rfl rfl rfl (Nat.le_of_ble_eq_true rfl) (by omega) (by omega) (by omega) ?_
  dsimp only [Option.toList, List.cons_append, List.nil_append]
  refine r_astore (vs' := [_, _, _, _, _, _, _]) X dX8_quarrel_20 (pc' := 22) rfl (by decide) rfl ?_
  refine r_aload X dX8_quarrel_22 (pc' := 24) rfl rfl ?_
  refine r_iload_n X dX8_quarrel_24 (pc' := 25) rfl rfl ?_
  refine r_callV (As := [_]) X okX1_ruleAt lm_X8_184 dX8_quarrel_25 (pc' := 28) rfl (ct_X1_ruleAt_t P n hn h ι φ ℓ lt ρ ω W hp hh b k2 hb hl0) (by omega) (wC_hp _ _ _ _ _ _ _ _ hh) rfl rfl rfl rfl (Nat.le_of_ble_eq_true rfl) (by omega) (by omega) (by omega) ?_
  dsimp only [Option.toList, List.cons_append, List.nil_append]
  refine r_astore (vs' := [_, _, _, _, _, _, _]) X dX8_quarrel_28 (pc' := 30) rfl (by decide) rfl ?_
  refine r_aload X dX8_quarrel_30 (pc' := 32) rfl rfl ?_
  refine r_ifnull X dX8_quarrel_32 (pc' := 35) rfl ?_
  refine r_aload X dX8_quarrel_35 (pc' := 37) rfl rfl ?_
  refine r_ifnull X dX8_quarrel_37 (pc' := 40) rfl ?_
  refine r_aload X dX8_quarrel_40 (pc' := 42) rfl rfl ?_
  refine r_getN X fX6 lf_X8_194 dX8_quarrel_42 (pc' := 45) rfl (by decide) (by omega) ((wC_out (by omega)).trans hk3) rfl ?_
  refine r_aload X dX8_quarrel_45 (pc' := 47) rfl rfl ?_
  refine r_getN X fX6 lf_X8_194 dX8_quarrel_47 (pc' := 50) rfl (by decide) (by omega) ((wC_out (by omega)).trans hl3) rfl ?_
  refine rN_icmp_ne X dX8_quarrel_50 (tgt := 55) (by decide) (pc' := 53) rfl (by omega) (by omega) (fun c_50 => ?_) (fun c_50 => ?_)
  · exact absurd he c_50
  · refine r_iconst (v := (-1)) X (by decide) dX8_quarrel_53 (pc' := 54) rfl ?_
    exact r_iret X r dX8_quarrel_54 (by omega) (by omega) rfl rfl rfl rfl
set_option maxRecDepth 100000 in
set_option maxHeartbeats 1000000 in
theorem ct_X8_quarrel_t (P : Px) (n : Nat) (hn : 59 ≤ n) (h : hw) (ι : Nat → Nat) (φ : Nat → Nat → Nat) (ℓ : Nat → Nat) (lt : Nat → Option Nat) (ρ : Nat → Nat → Option Nat) (ω : Nat → Nat → Nat) (W : Wf ι φ) (Rr : RR φ ρ n h) (hp : Nat) (hh : hp < 2) (a b : Nat) (ha : a < φ 7 hp) (hb : b < φ 7 hp) (he : ¬ φ 10 (12 * hp + a) = φ 10 (12 * hp + b)) : Ct P MX8_quarrel 4 0 0 [.ref (Bs P + 0), .int (nI hp), .int (nI a), .int (nI b)] n (wC P h ι φ ℓ lt ρ ω) (some (.int (oI (firstN (quaB φ hp a b) 81920)))) n (wC P h ι φ ℓ lt ρ (siftN φ hp ω)) := by
  refine Ct.of (by decide +kernel) (Nat.le_of_ble_eq_true rfl) rfl (fun K X hnm r => ?_)
  have X : Cx K P RX8 cX8_quarrel 7 4 0 0 := X
  have r : Rt K P (some .int) 0 0 _ _ _ := r
  show Z K P _ _ 0 0 0 [some (.ref (Bs P + 0)), some (.int (nI hp)), some (.int (nI a)), some (.int (nI b)), none, none, none] []
  obtain ⟨k, hk0, hk1, hk2, hk3, hk4⟩ := Rr hp a hh ha
  have b10 := W.v10 (12 * hp + a)
  obtain ⟨k2, hl0, hl1, hl2, hl3, hl4⟩ := Rr hp b hh hb
  have b11 := W.v10 (12 * hp + b)
  have b7 := W.v7 hp
  refine r_aload_n X dX8_quarrel_0 (pc' := 1) rfl rfl ?_
  refine r_iload_n X dX8_quarrel_1 (pc' := 2) rfl rfl ?_
  refine r_callV (As := [_]) X okX8_heapAt lm_X8_86 dX8_quarrel_2 (pc' := 5) rfl (ct_X8_heapAt_t P n hn h ι φ ℓ lt ρ ω W hp hh) (by omega) (wC_e0 _ _ _ _ _ _ _ _) rfl rfl rfl rfl (Nat.le_of_ble_eq_true rfl) (by omega) (by omega) (by omega) ?_
  dsimp only [Option.toList, List.cons_append, List.nil_append]
  refine r_astore (vs' := [_, _, _, _, _, _, _]) X dX8_quarrel_5 (pc' := 7) rfl (by decide) rfl ?_
  refine r_aload X dX8_quarrel_7 (pc' := 9) rfl rfl ?_
  refine r_ifnonnull X dX8_quarrel_9 (tgt := 14) (by decide) ?_
  refine r_aload X dX8_quarrel_14 (pc' := 16) rfl rfl ?_
  refine r_iload_n X dX8_quarrel_16 (pc' := 17) rfl rfl ?_
  refine r_callV (As := [_]) X okX1_ruleAt lm_X8_184 dX8_quarrel_17 (pc' := 20) rfl (ct_X1_ruleAt_t P n hn h ι φ ℓ lt ρ ω W hp hh a k ha hk0) (by omega) (wC_hp _ _ _ _ _ _ _ _ hh) rfl rfl rfl rfl (Nat.le_of_ble_eq_true rfl) (by omega) (by omega) (by omega) ?_
  dsimp only [Option.toList, List.cons_append, List.nil_append]
  refine r_astore (vs' := [_, _, _, _, _, _, _]) X dX8_quarrel_20 (pc' := 22) rfl (by decide) rfl ?_
  refine r_aload X dX8_quarrel_22 (pc' := 24) rfl rfl ?_
  refine r_iload_n X dX8_quarrel_24 (pc' := 25) rfl rfl ?_
  refine r_callV (As := [_]) X okX1_ruleAt lm_X8_184 dX8_quarrel_25 (pc' := 28) rfl (ct_X1_ruleAt_t P n hn h ι φ ℓ lt ρ ω W hp hh b k2 hb hl0) (by omega) (wC_hp _ _ _ _ _ _ _ _ hh) rfl rfl rfl rfl (Nat.le_of_ble_eq_true rfl) (by omega) (by omega) (by omega) ?_
  dsimp only [Option.toList, List.cons_append, List.nil_append]
  refine r_astore (vs' := [_, _, _, _, _, _, _]) X dX8_quarrel_28 (pc' := 30) rfl (by decide) rfl ?_
  refine r_aload X dX8_quarrel_30 (pc' := 32) rfl rfl ?_
  refine r_ifnull X dX8_quarrel_32 (pc' := 35) rfl ?_
  refine r_aload X dX8_quarrel_35 (pc' := 37) rfl rfl ?_
  refine r_ifnull X dX8_quarrel_37 (pc' := 40) rfl ?_
  refine r_aload X dX8_quarrel_40 (pc' := 42) rfl rfl ?_
  refine r_getN X fX6 lf_X8_194 dX8_quarrel_42 (pc' := 45) rfl (by decide) (by omega) ((wC_out (by omega)).trans hk3) rfl ?_
  refine r_aload X dX8_quarrel_45 (pc' := 47) rfl rfl ?_
  refine r_getN X fX6 lf_X8_194 dX8_quarrel_47 (pc' := 50) rfl (by decide) (by omega) ((wC_out (by omega)).trans hl3) rfl ?_
  refine rN_icmp_ne X dX8_quarrel_50 (tgt := 55) (by decide) (pc' := 53) rfl (by omega) (by omega) (fun c_50 => ?_) (fun c_50 => ?_)
  · refine r_aload_n X dX8_quarrel_55 (pc' := 56) rfl rfl ?_
    refine r_get X fX8 lf_X8_50 dX8_quarrel_56 (pc' := 59) rfl (by decide) (by omega) (wC_e0 _ _ _ _ _ _ _ _) rfl ?_
    refine r_aload X dX8_quarrel_59 (pc' := 61) rfl rfl ?_
    refine r_aload_n X dX8_quarrel_61 (pc' := 62) rfl rfl ?_
    refine r_get X fX8 lf_X8_22 dX8_quarrel_62 (pc' := 65) rfl (by decide) (by omega) (wC_e0 _ _ _ _ _ _ _ _) rfl ?_
    refine r_callV (As := [_, _]) X okX7_sift lm_X8_174 dX8_quarrel_65 (pc' := 68) rfl (ct_X7_sift P n hn h ι φ ℓ lt ρ ω W hp hh Rr) (by omega) (wC_e32 _ _ _ _ _ _ _ _) rfl rfl rfl rfl (Nat.le_of_ble_eq_true rfl) (by omega) (by omega) (by omega) ?_
    dsimp only [Option.toList, List.cons_append, List.nil_append]
    refine r_aload_n X dX8_quarrel_68 (pc' := 69) rfl rfl ?_
    refine r_get X fX8 lf_X8_50 dX8_quarrel_69 (pc' := 72) rfl (by decide) (by omega) (wC_e0 _ _ _ _ _ _ _ _) rfl ?_
    refine r_iconst (v := nI 1) X (by decide) dX8_quarrel_72 (pc' := 73) rfl ?_
    refine r_iload_n X dX8_quarrel_73 (pc' := 74) rfl rfl ?_
    refine rN_ishl X dX8_quarrel_74 (pc' := 75) rfl (by omega) (by rw [Nat.one_mul]; exact Nat.pow_lt_pow_right (by decide) (by omega)) ?_
    refine r_iconst (v := nI 1) X (by decide) dX8_quarrel_75 (pc' := 76) rfl ?_
    refine r_iload_n X dX8_quarrel_76 (pc' := 77) rfl rfl ?_
    refine rN_ishl X dX8_quarrel_77 (pc' := 78) rfl (by omega) (by rw [Nat.one_mul]; exact Nat.pow_lt_pow_right (by decide) (by omega)) ?_
    first | refine rN_ior X dX8_quarrel_78 (pc' := 79) rfl ?_ | refine r_ior X dX8_quarrel_78 (pc' := 79) rfl ?_
    refine r_callV (As := [_]) X okX7_leastFittingAll lm_X8_197 dX8_quarrel_79 (pc' := 82) rfl (ct_X7_leastFittingAll P n hn h ι φ ℓ lt ρ (siftN φ hp ω) W (1 * 2 ^ a ||| 1 * 2 ^ b) (by rw [Nat.one_mul, Nat.one_mul]; exact Nat.or_lt_two_pow (Nat.pow_lt_pow_right (by decide) (by omega)) (Nat.pow_lt_pow_right (by decide) (by omega)))) (by omega) (wC_e32 _ _ _ _ _ _ _ _) rfl rfl rfl rfl (Nat.le_of_ble_eq_true rfl) (by omega) (by omega) (by omega) ?_
    dsimp only [Option.toList, List.cons_append, List.nil_append]
    rw [qua_bits ha hb]
    exact r_iret X r dX8_quarrel_82 (by omega) (by omega) rfl rfl rfl rfl
  · exact absurd c_50 he
