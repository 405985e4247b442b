/-! ===== AskTrust: go, rule, unrule, asks, judges, log, lost, move, count ===== -/
theorem cmN_lt {ℓ : Nat → Nat} {t j : Nat} : (ℓ j - cmN ℓ t j) / 2 ^ min t 20 ≤ ℓ j := Nat.le_trans (Nat.div_le_self _ _) (Nat.sub_le _ _)
theorem plN_le {ℓ : Nat → Nat} {t : Nat} : ∀ (j i : Nat), plN ℓ t j i ≤ ℓ i
  | 0, i => Nat.le_refl _
  | j + 1, i => by
    show up1 (plN ℓ t j) j _ i ≤ _
    unfold up1
    split
    · rename_i h; subst h; exact Nat.le_trans cmN_lt (plN_le i i)
    · exact plN_le j i
theorem max_sub {a : Nat} (ha : a ≤ 300) : (if (nI 0) < nI a - nI 40 then nI a - nI 40 else nI 0) = nI (a - 40) := by
  by_cases h : 40 ≤ a
  · rw [pk_sub h]
    by_cases h2 : a = 40
    · subst h2; rfl
    · rw [if_pos ((nI_ltI (by decide) (by omega)).mpr (by omega))]
  · rw [show a - 40 = 0 by omega, if_neg]
    intro q
    rw [Int32.lt_iff_toInt_lt, pk_sub_toInt (by omega) (by decide), nI_toInt (by decide)] at q
    omega
set_option maxRecDepth 100000 in
set_option maxHeartbeats 1000000 in
theorem ct_X8_go_t (P : Px) (n : Nat) (hn : 59 ≤ n) (h : hw) (ι : Nat → Nat) (φ : Nat → Nat → Nat) (ℓ : Nat → Nat) (lt : Nat → Option Nat) (ρ : Nat → Nat → Option Nat) (ω : Nat → Nat → Nat) (W : Wf ι φ) (hℓ : ∀ j, ℓ j < 2 ^ 21) (a t : Nat) (ha : a ≤ 200) (ht : t = min a (5000 - ι 0)) (ι1 : Nat → Nat) (hι1 : ι1 = up1 ι 0 (ι 0 + t)) (W1 : Wf ι1 φ) : Ct P MX8_go 2 0 0 [.ref (Bs P + 0), .int (nI a)] n (wC P h ι φ ℓ lt ρ ω) (some (.int (nI (ι 0 + t)))) n (wC P h ι1 φ (plN ℓ t 4) (ptN ℓ lt t 4) ρ ω) := by
  refine Ct.of (by decide +kernel) (Nat.le_of_ble_eq_true rfl) rfl (fun K X hnm r => ?_)
  have X : Cx K P RX8 cX8_go 4 2 0 0 := X
  have r : Rt K P (some .int) 0 0 _ _ _ := r
  show Z K P _ _ 0 0 0 [some (.ref (Bs P + 0)), some (.int (nI a)), none, none] []
  have bn := W.now
  refine r_iload_n X dX8_go_0 (pc' := 1) rfl rfl ?_
  refine r_sipush (v := nI 200) X (by decide) dX8_go_1 (pc' := 4) rfl ?_
  refine r_callS (As := [_, _]) X okX8_isWithin lm_X8_54 dX8_go_4 (pc' := 7) rfl (ct_X8_isWithin P n _ _ _) rfl rfl (Nat.le_of_ble_eq_true rfl) (by omega) (by omega) (by omega) ?_
  dsimp only [Option.toList, List.cons_append, List.nil_append]
  refine rB_if_ne X dX8_go_7 (tgt := 12) (by decide) (pc' := 10) rfl (fun c_7 => ?_) (fun c_7 => ?_)
  · refine r_iload_n X dX8_go_12 (pc' := 13) rfl rfl ?_
    refine r_sipush (v := nI 5000) X (by decide) dX8_go_13 (pc' := 16) rfl ?_
    refine r_aload_n X dX8_go_16 (pc' := 17) rfl rfl ?_
    refine r_get X fX8 lf_X8_58 dX8_go_17 (pc' := 20) rfl (by decide) (by omega) (wC_e0 _ _ _ _ _ _ _ _) rfl ?_
    first | refine rN_isub X dX8_go_20 (pc' := 21) rfl (by omega) ?_ | refine r_isub X dX8_go_20 (pc' := 21) rfl ?_
    refine r_callS (As := [_, _]) X okJ9_min_7cf53 lm_X8_62 dX8_go_21 (pc' := 24) rfl (ct_J9_min_7cf53 P n _ a (5000 - ι 0) (by omega) (by omega)) rfl rfl (Nat.le_of_ble_eq_true rfl) (by omega) (by omega) (by omega) ?_
    dsimp only [Option.toList, List.cons_append, List.nil_append]
    rw [← ht]
    refine r_istore_n (vs' := [_, _, _, _]) X dX8_go_24 (pc' := 25) rfl (by decide) rfl ?_
    refine r_aload_n X dX8_go_25 (pc' := 26) rfl rfl ?_
    refine r_dup X rfl dX8_go_26 (pc' := 27) rfl ?_
    refine r_get X fX8 lf_X8_58 dX8_go_27 (pc' := 30) rfl (by decide) (by omega) (wC_e0 _ _ _ _ _ _ _ _) rfl ?_
    refine r_iload_n X dX8_go_30 (pc' := 31) rfl rfl ?_
    first | refine rN_iadd X dX8_go_31 (pc' := 32) rfl ?_ | refine r_iadd X dX8_go_31 (pc' := 32) rfl ?_
    refine r_put X fX8 lf_X8_58 rfl dX8_go_32 (pc' := 35) rfl (by decide) (by omega) (wC_e0 _ _ _ _ _ _ _ _) (Nat.le_of_ble_eq_true rfl) rfl rfl ?_
    rw [wC_now]
    rw [← hι1]
    refine r_iconst (v := nI 0) X (by decide) dX8_go_35 (pc' := 36) rfl ?_
    refine r_istore_n (vs' := [_, _, _, _]) X dX8_go_36 (pc' := 37) rfl (by decide) rfl ?_
    have loop : ∀ (m_ : Nat) (j : Nat), 4 - j < m_ → (j ≤ 4) → Z K P n (wC P h ι1 φ (plN ℓ t j) (ptN ℓ lt t j) ρ ω) 0 0 37 [some (.ref (Bs P + 0)), some (.int (nI a)), some (.int (nI t)), some (.int (nI j))] [] := by
      intro m_
      induction m_ with
      | zero => intro j hm_; exact absurd hm_ (Nat.not_lt_zero _)
      | succ m_ ih =>
        intro j hm_ hj4
        refine r_iload_n X dX8_go_37 (pc' := 38) rfl rfl ?_
        refine r_aload_n X dX8_go_38 (pc' := 39) rfl rfl ?_
        refine r_get X fX8 lf_X8_36 dX8_go_39 (pc' := 42) rfl (by decide) (by omega) (wC_e0 _ _ _ _ _ _ _ _) rfl ?_
        refine r_alen (t := 4) X rfl dX8_go_42 (pc' := 43) rfl (by omega) (wC_e20 _ _ _ _ _ _ _ _) ?_
        dsimp only
        refine rN_icmp_ge X dX8_go_43 (tgt := 62) (by decide) (pc' := 46) rfl (by omega) (by omega) (fun c_43 => ?_) (fun c_43 => ?_)
        · refine r_aload_n X dX8_go_62 (pc' := 63) rfl rfl ?_
          refine r_get X fX8 lf_X8_58 dX8_go_63 (pc' := 66) rfl (by decide) (by omega) (wC_e0 _ _ _ _ _ _ _ _) rfl ?_
          exact r_iret X r dX8_go_66 (by omega) (by omega) rfl (by rw [hι1] <;> rfl) rfl (by rw [show j = 4 by omega])
        · have hj : j < 4 := c_43
          refine r_aload_n X dX8_go_46 (pc' := 47) rfl rfl ?_
          refine r_get X fX8 lf_X8_36 dX8_go_47 (pc' := 50) rfl (by decide) (by omega) (wC_e0 _ _ _ _ _ _ _ _) rfl ?_
          refine r_iload_n X dX8_go_50 (pc' := 51) rfl rfl ?_
          refine r_aald (t := 4) X rfl rfl dX8_go_51 (pc' := 52) rfl (by omega) (wC_e20 _ _ _ _ _ _ _ _) (by omega) (by omega) ?_
          rw [jd_ref hj]
          refine r_iload_n X dX8_go_52 (pc' := 53) rfl rfl ?_
          refine r_callV (As := [_]) X okX2_letPass lm_X8_68 dX8_go_53 (pc' := 56) rfl (ct_X2_letPass P n hn h ι1 φ (plN ℓ t j) (ptN ℓ lt t j) ρ ω W1 j hj t (by omega) (Nat.lt_of_le_of_lt (plN_le j j) (hℓ j))) (by omega) (wC_jd _ _ _ _ _ _ _ _ hj) rfl rfl rfl rfl (Nat.le_of_ble_eq_true rfl) (by omega) (by omega) (by omega) ?_
          dsimp only [Option.toList, List.cons_append, List.nil_append]
          refine r_iincN (vs' := [_, _, _, _]) X dX8_go_56 (pc' := 59) rfl (by decide) rfl rfl ?_
          refine r_goto (tgt := 37) X dX8_go_59 (by decide) ?_
          exact ih (j + 1) (by omega) (by omega)
    exact loop _ 0 (Nat.lt_succ_self _) (Nat.zero_le _)
  · exact inQ_c ha (by decide) c_7
set_option maxRecDepth 100000 in
set_option maxHeartbeats 1000000 in
theorem ct_X8_go_f (P : Px) (n : Nat) (hn : 59 ≤ n) (h : hw) (ι : Nat → Nat) (φ : Nat → Nat → Nat) (ℓ : Nat → Nat) (lt : Nat → Option Nat) (ρ : Nat → Nat → Option Nat) (ω : Nat → Nat → Nat) (W : Wf ι φ) (x : Int32) (hx : inQ x (nI 200) = false) : Ct P MX8_go 2 0 0 [.ref (Bs P + 0), .int x] n (wC P h ι φ ℓ lt ρ ω) (some (.int (-1))) n (wC P h ι φ ℓ lt ρ ω) := by
  refine Ct.of (by decide +kernel) (Nat.le_of_ble_eq_true rfl) rfl (fun K X hnm r => ?_)
  have X : Cx K P RX8 cX8_go 4 2 0 0 := X
  have r : Rt K P (some .int) 0 0 _ _ _ := r
  show Z K P _ _ 0 0 0 [some (.ref (Bs P + 0)), some (.int x), none, none] []
  refine r_iload_n X dX8_go_0 (pc' := 1) rfl rfl ?_
  refine r_sipush (v := nI 200) X (by decide) dX8_go_1 (pc' := 4) rfl ?_
  refine r_callS (As := [_, _]) X okX8_isWithin lm_X8_54 dX8_go_4 (pc' := 7) rfl (ct_X8_isWithin P n _ _ _) rfl rfl (Nat.le_of_ble_eq_true rfl) (by omega) (by omega) (by omega) ?_
  dsimp only [Option.toList, List.cons_append, List.nil_append]
  rw [hx]
  refine rB_if_ne X dX8_go_7 (tgt := 12) (by decide) (pc' := 10) rfl (fun c_7 => ?_) (fun c_7 => ?_)
  · cases c_7
  · refine r_iconst (v := (-1)) X (by decide) dX8_go_10 (pc' := 11) rfl ?_
    exact r_iret X r dX8_go_11 (by omega) (by omega) rfl rfl rfl rfl
set_option maxRecDepth 100000 in
set_option maxHeartbeats 1000000 in
theorem ct_X8_rule_f (P : Px) (n : Nat) (hn : 59 ≤ n) (h : hw) (ι : Nat → Nat) (φ : Nat → Nat → Nat) (ℓ : Nat → Nat) (lt : Nat → Option Nat) (ρ : Nat → Nat → Option Nat) (ω : Nat → Nat → Nat) (W : Wf ι φ) (x y z v : Int32) (hx : inQ x (nI 1) = false) : Ct P MX8_rule 3 1 9 [.ref (Bs P + 0), .int x, .int y, .int z, .int v] n (wC P h ι φ ℓ lt ρ ω) (some (.int (-1))) n (wC P h ι φ ℓ lt ρ ω) := by
  refine Ct.of (by decide +kernel) (Nat.le_of_ble_eq_true rfl) rfl (fun K X hnm r => ?_)
  have X : Cx K P RX8 cX8_rule 6 3 1 9 := X
  have r : Rt K P (some .int) 1 9 _ _ _ := r
  show Z K P _ _ 0 0 0 [some (.ref (Bs P + 0)), some (.int x), some (.int y), some (.int z), some (.int v), none] []
  refine r_aload_n X dX8_rule_0 (pc' := 1) rfl rfl ?_
  refine r_iload_n X dX8_rule_1 (pc' := 2) rfl rfl ?_
  refine r_callV (As := [_]) X okX8_heapAt lm_X8_86 dX8_rule_2 (pc' := 5) rfl (ct_X8_heapAt_f P n hn h ι φ ℓ lt ρ ω W x hx) (by omega) (wC_e0 _ _ _ _ _ _ _ _) rfl rfl rfl rfl (Nat.le_of_ble_eq_true rfl) (by omega) (by omega) (by omega) ?_
  dsimp only [Option.toList, List.cons_append, List.nil_append]
  refine r_astoreN (vs' := [_, _, _, _, _, _]) X dX8_rule_5 (pc' := 7) rfl (by decide) rfl ?_
  refine r_aloadN X dX8_rule_7 (pc' := 9) rfl rfl ?_
  refine r_ifnullN X dX8_rule_9 (tgt := 30) (by decide) ?_
  refine r_iconst (v := (-1)) X (by decide) dX8_rule_30 (pc' := 31) rfl ?_
  exact r_iret X r dX8_rule_31 (by omega) (by omega) rfl rfl rfl rfl
set_option maxRecDepth 100000 in
set_option maxHeartbeats 1000000 in
theorem ct_X8_rule_g (P : Px) (n : Nat) (hn : 59 ≤ n) (h : hw) (ι : Nat → Nat) (φ : Nat → Nat → Nat) (ℓ : Nat → Nat) (lt : Nat → Option Nat) (ρ : Nat → Nat → Option Nat) (ω : Nat → Nat → Nat) (W : Wf ι φ) (hp : Nat) (hh : hp < 2) (y z v : Int32) (hno : ¬ (¬ φ 7 hp = 12 ∧ (¬ y < 0 ∧ whatP (tn y)) ∧ (¬ z < 0 ∧ whereP (tn z)) ∧ (v = nI 0 ∨ v = nI 2))) : Ct P MX8_rule 3 1 9 [.ref (Bs P + 0), .int (nI hp), .int y, .int z, .int v] n (wC P h ι φ ℓ lt ρ ω) (some (.int (-1))) n (wC P h ι φ ℓ lt ρ ω) := by
  refine Ct.of (by decide +kernel) (Nat.le_of_ble_eq_true rfl) rfl (fun K X hnm r => ?_)
  have X : Cx K P RX8 cX8_rule 6 3 1 9 := X
  have r : Rt K P (some .int) 1 9 _ _ _ := r
  show Z K P _ _ 0 0 0 [some (.ref (Bs P + 0)), some (.int (nI hp)), some (.int y), some (.int z), some (.int v), none] []
  refine r_aload_n X dX8_rule_0 (pc' := 1) rfl rfl ?_
  refine r_iload_n X dX8_rule_1 (pc' := 2) rfl rfl ?_
  refine r_callV (As := [_]) X okX8_heapAt lm_X8_86 dX8_rule_2 (pc' := 5) rfl (ct_X8_heapAt_t P n hn h ι φ ℓ lt ρ ω W hp hh) (by omega) (wC_e0 _ _ _ _ _ _ _ _) rfl rfl rfl rfl (Nat.le_of_ble_eq_true rfl) (by omega) (by omega) (by omega) ?_
  dsimp only [Option.toList, List.cons_append, List.nil_append]
  refine r_astore (vs' := [_, _, _, _, _, _]) X dX8_rule_5 (pc' := 7) rfl (by decide) rfl ?_
  refine r_aload X dX8_rule_7 (pc' := 9) rfl rfl ?_
  refine r_ifnull X dX8_rule_9 (pc' := 12) rfl ?_
  refine r_aload X dX8_rule_12 (pc' := 14) rfl rfl ?_
  refine r_callV (As := []) X okX1_isFull lm_X8_90 dX8_rule_14 (pc' := 17) rfl (ct_X1_isFull P n hn h ι φ ℓ lt ρ ω W hp hh) (by omega) (wC_hp _ _ _ _ _ _ _ _ hh) rfl rfl rfl rfl (Nat.le_of_ble_eq_true rfl) (by omega) (by omega) (by omega) ?_
  dsimp only [Option.toList, List.cons_append, List.nil_append]
  refine rB_if_ne X dX8_rule_17 (tgt := 30) (by decide) (pc' := 20) rfl (fun c_17 => ?_) (fun c_17 => ?_)
  · refine r_iconst (v := (-1)) X (by decide) dX8_rule_30 (pc' := 31) rfl ?_
    exact r_iret X r dX8_rule_31 (by omega) (by omega) rfl rfl rfl rfl
  · refine r_iload_n X dX8_rule_20 (pc' := 21) rfl rfl ?_
    refine r_iload_n X dX8_rule_21 (pc' := 22) rfl rfl ?_
    refine r_iload X dX8_rule_22 (pc' := 24) rfl rfl ?_
    refine r_callS (As := [_, _, _]) X okX6_canBe lm_X8_94 dX8_rule_24 (pc' := 27) rfl (ct_X6_canBe P n _ _ _ _) rfl rfl (Nat.le_of_ble_eq_true rfl) (by omega) (by omega) (by omega) ?_
    dsimp only [Option.toList, List.cons_append, List.nil_append]
    refine rB_if_ne X dX8_rule_27 (tgt := 32) (by decide) (pc' := 30) rfl (fun c_27 => ?_) (fun c_27 => ?_)
    · exact absurd ⟨cB_nf c_17, cB_of c_27⟩ hno
    · refine r_iconst (v := (-1)) X (by decide) dX8_rule_30 (pc' := 31) rfl ?_
      exact r_iret X r dX8_rule_31 (by omega) (by omega) rfl rfl rfl rfl
set_option maxRecDepth 100000 in
set_option maxHeartbeats 1000000 in
theorem ct_X8_rule_t (P : Px) (n : Nat) (hn : 59 ≤ n) (h : hw) (ι : Nat → Nat) (φ : Nat → Nat → Nat) (ℓ : Nat → Nat) (lt : Nat → Option Nat) (ρ : Nat → Nat → Option Nat) (ω : Nat → Nat → Nat) (W : Wf ι φ) (hp : Nat) (hh : hp < 2) (a b s : Nat) (ha : a < 160000) (hb : b < 160000) (hs2 : s ≤ 2) (hsz : φ 7 hp < 12) (hyes : whatP a ∧ whereP b ∧ (nI s = nI 0 ∨ nI s = nI 2)) : Ct P MX8_rule 3 1 9 [.ref (Bs P + 0), .int (nI hp), .int (nI a), .int (nI b), .int (nI s)] n (wC P h ι φ ℓ lt ρ ω) (some (.int (nI (φ 7 hp + 1)))) (n + 1) (wC P (hset h n (rcell a b s)) ι (up2 φ 7 hp (φ 7 hp + 1)) (slN (up2 φ 7 hp (φ 7 hp + 1)) ℓ 4) (stN (up2 φ 7 hp (φ 7 hp + 1)) lt 4) (upr ρ hp (φ 7 hp) (some n)) ω) := by
  refine Ct.of (by decide +kernel) (Nat.le_of_ble_eq_true rfl) rfl (fun K X hnm r => ?_)
  have X : Cx K P RX8 cX8_rule 6 3 1 9 := X
  have r : Rt K P (some .int) 1 9 _ _ _ := r
  show Z K P _ _ 0 0 0 [some (.ref (Bs P + 0)), some (.int (nI hp)), some (.int (nI a)), some (.int (nI b)), some (.int (nI s)), none] []
  refine r_aload_n X dX8_rule_0 (pc' := 1) rfl rfl ?_
  refine r_iload_n X dX8_rule_1 (pc' := 2) rfl rfl ?_
  refine r_callV (As := [_]) X okX8_heapAt lm_X8_86 dX8_rule_2 (pc' := 5) rfl (ct_X8_heapAt_t P n hn h ι φ ℓ lt ρ ω W hp hh) (by omega) (wC_e0 _ _ _ _ _ _ _ _) rfl rfl rfl rfl (Nat.le_of_ble_eq_true rfl) (by omega) (by omega) (by omega) ?_
  dsimp only [Option.toList, List.cons_append, List.nil_append]
  refine r_astore (vs' := [_, _, _, _, _, _]) X dX8_rule_5 (pc' := 7) rfl (by decide) rfl ?_
  refine r_aload X dX8_rule_7 (pc' := 9) rfl rfl ?_
  refine r_ifnull X dX8_rule_9 (pc' := 12) rfl ?_
  refine r_aload X dX8_rule_12 (pc' := 14) rfl rfl ?_
  refine r_callV (As := []) X okX1_isFull lm_X8_90 dX8_rule_14 (pc' := 17) rfl (ct_X1_isFull P n hn h ι φ ℓ lt ρ ω W hp hh) (by omega) (wC_hp _ _ _ _ _ _ _ _ hh) rfl rfl rfl rfl (Nat.le_of_ble_eq_true rfl) (by omega) (by omega) (by omega) ?_
  dsimp only [Option.toList, List.cons_append, List.nil_append]
  refine rB_if_ne X dX8_rule_17 (tgt := 30) (by decide) (pc' := 20) rfl (fun c_17 => ?_) (fun c_17 => ?_)
  · exact absurd (cB_of c_17) (by omega)
  · refine r_iload_n X dX8_rule_20 (pc' := 21) rfl rfl ?_
    refine r_iload_n X dX8_rule_21 (pc' := 22) rfl rfl ?_
    refine r_iload X dX8_rule_22 (pc' := 24) rfl rfl ?_
    refine r_callS (As := [_, _, _]) X okX6_canBe lm_X8_94 dX8_rule_24 (pc' := 27) rfl (ct_X6_canBe P n _ _ _ _) rfl rfl (Nat.le_of_ble_eq_true rfl) (by omega) (by omega) (by omega) ?_
    dsimp only [Option.toList, List.cons_append, List.nil_append]
    refine rB_if_ne X dX8_rule_27 (tgt := 32) (by decide) (pc' := 30) rfl (fun c_27 => ?_) (fun c_27 => ?_)
    · refine r_aload X dX8_rule_32 (pc' := 34) rfl rfl ?_
      refine r_new (fs := [.int 0, .int 0, .int 0, .int 0, .int 0, .int 0, .int 0, .int 0, .int 0]) X fX6 lc_X8_95 insX6 iniX6 (fun q hq => by match q, hq with | 0, _ => rfl | 1, _ => rfl | 2, _ => rfl | 3, _ => rfl | 4, _ => rfl | 5, _ => rfl | 6, _ => rfl | 7, _ => rfl | 8, _ => rfl) (by omega) (by omega) dX8_rule_34 (pc' := 37) rfl ?_
      rw [wC_g (by omega)]
      refine r_dup X rfl dX8_rule_37 (pc' := 38) rfl ?_
      refine r_iload_n X dX8_rule_38 (pc' := 39) rfl rfl ?_
      refine r_iload_n X dX8_rule_39 (pc' := 40) rfl rfl ?_
      refine r_iload X dX8_rule_40 (pc' := 42) rfl rfl ?_
      refine r_callI (As := [_, _, _]) X okX6_init lm_X8_100 dX8_rule_42 (pc' := 45) rfl (ct_X6_init P (n + 1) _ n a b s (by omega) ((wC_out (by omega)).trans (hset_s _ _ _)) (by omega) (by omega)) rfl rfl (Nat.le_of_ble_eq_true rfl) (by omega) (by omega) (by omega) ?_
      dsimp only [Option.toList, List.cons_append, List.nil_append]
      rw [wC_g (by omega), hset_ss]
      refine r_callV (As := [_]) X okX1_append lm_X8_102 dX8_rule_45 (pc' := 48) rfl (ct_X1_append P (n + 1) (by omega) (hset h n (rcell a b s)) ι φ ℓ lt ρ ω W hp hh n a b s (by omega) (by omega) (hset_s _ _ _) hsz) (by omega) (wC_hp _ _ _ _ _ _ _ _ hh) rfl rfl rfl rfl (Nat.le_of_ble_eq_true rfl) (by omega) (by omega) (by omega) ?_
      dsimp only [Option.toList, List.cons_append, List.nil_append]
      refine r_aload_n X dX8_rule_48 (pc' := 49) rfl rfl ?_
      refine r_callV (As := []) X okX8_sendLetters lm_X8_75 dX8_rule_49 (pc' := 52) rfl (ct_X8_sendLetters P (n + 1) (by omega) (hset h n (rcell a b s)) ι (up2 φ 7 hp (φ 7 hp + 1)) ℓ lt (upr ρ hp (φ 7 hp) (some n)) ω (W.up 7 _ _ (by simp [bdM]; omega))) (by omega) (wC_e0 _ _ _ _ _ _ _ _) rfl rfl rfl rfl (Nat.le_of_ble_eq_true rfl) (by omega) (by omega) (by omega) ?_
      dsimp only [Option.toList, List.cons_append, List.nil_append]
      refine r_aload X dX8_rule_52 (pc' := 54) rfl rfl ?_
      refine r_getN X fX1 lf_X8_106 dX8_rule_54 (pc' := 57) rfl (by decide) (by omega) (wC_hp _ _ _ _ _ _ _ _ hh) rfl ?_
      rw [up2_s]
      exact r_iret X r dX8_rule_57 (by omega) (by omega) rfl rfl rfl rfl
    · exact absurd ⟨⟨nI_pos (by omega), by rw [tn_n (by omega)]; exact hyes.1⟩, ⟨nI_pos (by omega), by rw [tn_n (by omega)]; exact hyes.2.1⟩, hyes.2.2⟩ (cB_nf c_27)
set_option maxRecDepth 100000 in
set_option maxHeartbeats 1000000 in
theorem ct_X8_unrule_f (P : Px) (n : Nat) (hn : 59 ≤ n) (h : hw) (ι : Nat → Nat) (φ : Nat → Nat → Nat) (ℓ : Nat → Nat) (lt : Nat → Option Nat) (ρ : Nat → Nat → Option Nat) (ω : Nat → Nat → Nat) (W : Wf ι φ) (x y : Int32) (hx : inQ x (nI 1) = false) : Ct P MX8_unrule 2 0 0 [.ref (Bs P + 0), .int x, .int y] n (wC P h ι φ ℓ lt ρ ω) (some (.int (bI false))) n (wC P h ι φ ℓ lt ρ ω) := by
  refine Ct.of (by decide +kernel) (Nat.le_of_ble_eq_true rfl) rfl (fun K X hnm r => ?_)
  have X : Cx K P RX8 cX8_unrule 4 2 0 0 := X
  have r : Rt K P (some .boolean) 0 0 _ _ _ := r
  show Z K P _ _ 0 0 0 [some (.ref (Bs P + 0)), some (.int x), some (.int y), none] []
  refine r_aload_n X dX8_unrule_0 (pc' := 1) rfl rfl ?_
  refine r_iload_n X dX8_unrule_1 (pc' := 2) rfl rfl ?_
  refine r_callV (As := [_]) X okX8_heapAt lm_X8_86 dX8_unrule_2 (pc' := 5) rfl (ct_X8_heapAt_f P n hn h ι φ ℓ lt ρ ω W x hx) (by omega) (wC_e0 _ _ _ _ _ _ _ _) rfl rfl rfl rfl (Nat.le_of_ble_eq_true rfl) (by omega) (by omega) (by omega) ?_
  dsimp only [Option.toList, List.cons_append, List.nil_append]
  refine r_astore_nN (vs' := [_, _, _, _]) X dX8_unrule_5 (pc' := 6) rfl (by decide) rfl ?_
  refine r_aload_nN X dX8_unrule_6 (pc' := 7) rfl rfl ?_
  refine r_ifnullN X dX8_unrule_7 (tgt := 18) (by decide) ?_
  refine r_iconst (v := nI 0) X (by decide) dX8_unrule_18 (pc' := 19) rfl ?_
  exact r_iret X r dX8_unrule_19 (by omega) (by omega) rfl rfl rfl rfl
set_option maxRecDepth 100000 in
set_option maxHeartbeats 1000000 in
theorem ct_X8_unrule_g (P : Px) (n : Nat) (hn : 59 ≤ n) (h : hw) (ι : Nat → Nat) (φ : Nat → Nat → Nat) (ℓ : Nat → Nat) (lt : Nat → Option Nat) (ρ : Nat → Nat → Option Nat) (ω : Nat → Nat → Nat) (W : Wf ι φ) (hp : Nat) (hh : hp < 2) (y : Int32) (hy : inB y (nI (φ 7 hp)) = false) : Ct P MX8_unrule 2 0 0 [.ref (Bs P + 0), .int (nI hp), .int y] n (wC P h ι φ ℓ lt ρ ω) (some (.int (bI false))) n (wC P h ι φ ℓ lt ρ ω) := by
  refine Ct.of (by decide +kernel) (Nat.le_of_ble_eq_true rfl) rfl (fun K X hnm r => ?_)
  have X : Cx K P RX8 cX8_unrule 4 2 0 0 := X
  have r : Rt K P (some .boolean) 0 0 _ _ _ := r
  show Z K P _ _ 0 0 0 [some (.ref (Bs P + 0)), some (.int (nI hp)), some (.int y), none] []
  refine r_aload_n X dX8_unrule_0 (pc' := 1) rfl rfl ?_
  refine r_iload_n X dX8_unrule_1 (pc' := 2) rfl rfl ?_
  refine r_callV (As := [_]) X okX8_heapAt lm_X8_86 dX8_unrule_2 (pc' := 5) rfl (ct_X8_heapAt_t P n hn h ι φ ℓ lt ρ ω W hp hh) (by omega) (wC_e0 _ _ _ _ _ _ _ _) rfl rfl rfl rfl (Nat.le_of_ble_eq_true rfl) (by omega) (by omega) (by omega) ?_
  dsimp only [Option.toList, List.cons_append, List.nil_append]
  refine r_astore_n (vs' := [_, _, _, _]) X dX8_unrule_5 (pc' := 6) rfl (by decide) rfl ?_
  refine r_aload_n X dX8_unrule_6 (pc' := 7) rfl rfl ?_
  refine r_ifnull X dX8_unrule_7 (pc' := 10) rfl ?_
  refine r_aload_n X dX8_unrule_10 (pc' := 11) rfl rfl ?_
  refine r_iload_n X dX8_unrule_11 (pc' := 12) rfl rfl ?_
  refine r_callV (As := [_]) X okX1_drop lm_X8_109 dX8_unrule_12 (pc' := 15) rfl (ct_X1_drop_f P n hn h ι φ ℓ lt ρ ω W hp hh y hy) (by omega) (wC_hp _ _ _ _ _ _ _ _ hh) rfl rfl rfl rfl (Nat.le_of_ble_eq_true rfl) (by omega) (by omega) (by omega) ?_
  dsimp only [Option.toList, List.cons_append, List.nil_append]
  refine rB_if_ne X dX8_unrule_15 (tgt := 20) (by decide) (pc' := 18) rfl (fun c_15 => ?_) (fun c_15 => ?_)
  · cases c_15
  · refine r_iconst (v := nI 0) X (by decide) dX8_unrule_18 (pc' := 19) rfl ?_
    exact r_iret X r dX8_unrule_19 (by omega) (by omega) rfl rfl rfl rfl
set_option maxRecDepth 100000 in
set_option maxHeartbeats 1000000 in
theorem ct_X8_unrule_t (P : Px) (n : Nat) (hn : 59 ≤ n) (h : hw) (ι : Nat → Nat) (φ : Nat → Nat → Nat) (ℓ : Nat → Nat) (lt : Nat → Option Nat) (ρ : Nat → Nat → Option Nat) (ω : Nat → Nat → Nat) (W : Wf ι φ) (Rr : RR φ ρ n h) (hp : Nat) (hh : hp < 2) (r0 : Nat) (hr0 : r0 < φ 7 hp) : Ct P MX8_unrule 2 0 0 [.ref (Bs P + 0), .int (nI hp), .int (nI r0)] n (wC P h ι φ ℓ lt ρ ω) (some (.int (bI true))) n (wC P h ι (up2 φ 7 hp (φ 7 hp - 1)) (slN (up2 φ 7 hp (φ 7 hp - 1)) ℓ 4) (stN (up2 φ 7 hp (φ 7 hp - 1)) lt 4) (upr (dsh ρ hp r0 (φ 7 hp - 1)) hp (φ 7 hp - 1) none) ω) := by
  refine Ct.of (by decide +kernel) (Nat.le_of_ble_eq_true rfl) rfl (fun K X hnm r => ?_)
  have X : Cx K P RX8 cX8_unrule 4 2 0 0 := X
  have r : Rt K P (some .boolean) 0 0 _ _ _ := r
  show Z K P _ _ 0 0 0 [some (.ref (Bs P + 0)), some (.int (nI hp)), some (.int (nI r0)), none] []
  refine r_aload_n X dX8_unrule_0 (pc' := 1) rfl rfl ?_
  refine r_iload_n X dX8_unrule_1 (pc' := 2) rfl rfl ?_
  refine r_callV (As := [_]) X okX8_heapAt lm_X8_86 dX8_unrule_2 (pc' := 5) rfl (ct_X8_heapAt_t P n hn h ι φ ℓ lt ρ ω W hp hh) (by omega) (wC_e0 _ _ _ _ _ _ _ _) rfl rfl rfl rfl (Nat.le_of_ble_eq_true rfl) (by omega) (by omega) (by omega) ?_
  dsimp only [Option.toList, List.cons_append, List.nil_append]
  refine r_astore_n (vs' := [_, _, _, _]) X dX8_unrule_5 (pc' := 6) rfl (by decide) rfl ?_
  refine r_aload_n X dX8_unrule_6 (pc' := 7) rfl rfl ?_
  refine r_ifnull X dX8_unrule_7 (pc' := 10) rfl ?_
  refine r_aload_n X dX8_unrule_10 (pc' := 11) rfl rfl ?_
  refine r_iload_n X dX8_unrule_11 (pc' := 12) rfl rfl ?_
  refine r_callV (As := [_]) X okX1_drop lm_X8_109 dX8_unrule_12 (pc' := 15) rfl (ct_X1_drop_t P n hn h ι φ ℓ lt ρ ω W hp hh Rr r0 hr0) (by omega) (wC_hp _ _ _ _ _ _ _ _ hh) rfl rfl rfl rfl (Nat.le_of_ble_eq_true rfl) (by omega) (by omega) (by omega) ?_
  dsimp only [Option.toList, List.cons_append, List.nil_append]
  refine rB_if_ne X dX8_unrule_15 (tgt := 20) (by decide) (pc' := 18) rfl (fun c_15 => ?_) (fun c_15 => ?_)
  · refine r_aload_n X dX8_unrule_20 (pc' := 21) rfl rfl ?_
    refine r_callV (As := []) X okX8_sendLetters lm_X8_75 dX8_unrule_21 (pc' := 24) rfl (ct_X8_sendLetters P n hn h ι (up2 φ 7 hp (φ 7 hp - 1)) ℓ lt (upr (dsh ρ hp r0 (φ 7 hp - 1)) hp (φ 7 hp - 1) none) ω (W.up 7 _ _ (by have := W.v7 hp; simp [bdM]; omega))) (by omega) (wC_e0 _ _ _ _ _ _ _ _) rfl rfl rfl rfl (Nat.le_of_ble_eq_true rfl) (by omega) (by omega) (by omega) ?_
    dsimp only [Option.toList, List.cons_append, List.nil_append]
    refine r_iconst (v := nI 1) X (by decide) dX8_unrule_24 (pc' := 25) rfl ?_
    exact r_iret X r dX8_unrule_25 (by omega) (by omega) rfl rfl rfl rfl
  · exact inB_c hr0 (by have := W.v7 hp; omega) c_15
set_option maxRecDepth 100000 in
set_option maxHeartbeats 1000000 in
theorem ct_X8_ask_f (P : Px) (n : Nat) (hn : 59 ≤ n) (h : hw) (ι : Nat → Nat) (φ : Nat → Nat → Nat) (ℓ : Nat → Nat) (lt : Nat → Option Nat) (ρ : Nat → Nat → Option Nat) (ω : Nat → Nat → Nat) (W : Wf ι φ) (x : Int32) (hno : ¬ askOK ι x) : Ct P MX8_ask 6 0 0 [.ref (Bs P + 0), .int x] n (wC P h ι φ ℓ lt ρ ω) (some (.int (-1))) n (wC P h ι φ ℓ lt ρ ω) := by
  refine Ct.of (by decide +kernel) (Nat.le_of_ble_eq_true rfl) rfl (fun K X hnm r => ?_)
  have X : Cx K P RX8 cX8_ask 4 6 0 0 := X
  have r : Rt K P (some .int) 0 0 _ _ _ := r
  show Z K P _ _ 0 0 0 [some (.ref (Bs P + 0)), some (.int x), none, none] []
  have ba := W.asks
  refine r_iload_n X dX8_ask_0 (pc' := 1) rfl rfl ?_
  refine r_callS (As := [_]) X okX8_isAsk lm_X8_113 dX8_ask_1 (pc' := 4) rfl (ct_X8_isAsk P n _ _) rfl rfl (Nat.le_of_ble_eq_true rfl) (by omega) (by omega) (by omega) ?_
  dsimp only [Option.toList, List.cons_append, List.nil_append]
  refine rB_if_eq X dX8_ask_4 (tgt := 17) (by decide) (pc' := 7) rfl (fun c_4 => ?_) (fun c_4 => ?_)
  · refine r_iconst (v := (-1)) X (by decide) dX8_ask_17 (pc' := 18) rfl ?_
    exact r_iret X r dX8_ask_18 (by omega) (by omega) rfl rfl rfl rfl
  · refine r_aload_n X dX8_ask_7 (pc' := 8) rfl rfl ?_
    refine r_get X fX8 lf_X8_43 dX8_ask_8 (pc' := 11) rfl (by decide) (by omega) (wC_e0 _ _ _ _ _ _ _ _) rfl ?_
    refine r_callV (As := []) X okX0_isFull lm_X8_116 dX8_ask_11 (pc' := 14) rfl (ct_X0_isFull P n hn h ι φ ℓ lt ρ ω W) (by omega) (wC_e25 _ _ _ _ _ _ _ _) rfl rfl rfl rfl (Nat.le_of_ble_eq_true rfl) (by omega) (by omega) (by omega) ?_
    dsimp only [Option.toList, List.cons_append, List.nil_append]
    refine rB_if_eq X dX8_ask_14 (tgt := 19) (by decide) (pc' := 17) rfl (fun c_14 => ?_) (fun c_14 => ?_)
    · exact absurd ⟨c_4, by have := cB_nf c_14; omega⟩ hno
    · refine r_iconst (v := (-1)) X (by decide) dX8_ask_17 (pc' := 18) rfl ?_
      exact r_iret X r dX8_ask_18 (by omega) (by omega) rfl rfl rfl rfl
set_option maxRecDepth 100000 in
set_option maxHeartbeats 1000000 in
theorem ct_X8_ask_t (P : Px) (n : Nat) (hn : 59 ≤ n) (h : hw) (ι : Nat → Nat) (φ : Nat → Nat → Nat) (ℓ : Nat → Nat) (lt : Nat → Option Nat) (ρ : Nat → Nat → Option Nat) (ω : Nat → Nat → Nat) (W : Wf ι φ) (V0 : ∀ k, φ 2 k = 0 → φ 1 k = 0) (Rr : RR φ ρ n h) (k : Nat) (hk1 : k < 10000) (hk2 : k % 10 < 4) (h3 : ι 2 < 300) : Ct P MX8_ask 6 0 0 [.ref (Bs P + 0), .int (nI k)] n (wC P h ι φ ℓ lt ρ ω) (some (.int (nI (ansW ι φ k)))) n (wC P h (logI ι (ansW ι φ k)) (logS ι φ k (ansW ι φ k) 0) ℓ lt ρ ω) := by
  refine Ct.of (by decide +kernel) (Nat.le_of_ble_eq_true rfl) rfl (fun K X hnm r => ?_)
  have X : Cx K P RX8 cX8_ask 4 6 0 0 := X
  have r : Rt K P (some .int) 0 0 _ _ _ := r
  show Z K P _ _ 0 0 0 [some (.ref (Bs P + 0)), some (.int (nI k)), none, none] []
  refine r_iload_n X dX8_ask_0 (pc' := 1) rfl rfl ?_
  refine r_callS (As := [_]) X okX8_isAsk lm_X8_113 dX8_ask_1 (pc' := 4) rfl (ct_X8_isAsk P n _ _) rfl rfl (Nat.le_of_ble_eq_true rfl) (by omega) (by omega) (by omega) ?_
  dsimp only [Option.toList, List.cons_append, List.nil_append]
  refine rB_if_eq X dX8_ask_4 (tgt := 17) (by decide) (pc' := 7) rfl (fun c_4 => ?_) (fun c_4 => ?_)
  · exact absurd c_4 (by rw [askQ_n hk1, decide_eq_true hk2]; decide)
  · refine r_aload_n X dX8_ask_7 (pc' := 8) rfl rfl ?_
    refine r_get X fX8 lf_X8_43 dX8_ask_8 (pc' := 11) rfl (by decide) (by omega) (wC_e0 _ _ _ _ _ _ _ _) rfl ?_
    refine r_callV (As := []) X okX0_isFull lm_X8_116 dX8_ask_11 (pc' := 14) rfl (ct_X0_isFull P n hn h ι φ ℓ lt ρ ω W) (by omega) (wC_e25 _ _ _ _ _ _ _ _) rfl rfl rfl rfl (Nat.le_of_ble_eq_true rfl) (by omega) (by omega) (by omega) ?_
    dsimp only [Option.toList, List.cons_append, List.nil_append]
    refine rB_if_eq X dX8_ask_14 (tgt := 19) (by decide) (pc' := 17) rfl (fun c_14 => ?_) (fun c_14 => ?_)
    · refine r_aload_n X dX8_ask_19 (pc' := 20) rfl rfl ?_
      refine r_iload_n X dX8_ask_20 (pc' := 21) rfl rfl ?_
      refine r_callV (As := [_]) X okX8_codeNow lm_X8_117 dX8_ask_21 (pc' := 24) rfl (ct_X8_codeNow P n hn h ι φ ℓ lt ρ ω W V0 k hk1 hk2) (by omega) (wC_e0 _ _ _ _ _ _ _ _) rfl rfl rfl rfl (Nat.le_of_ble_eq_true rfl) (by omega) (by omega) (by omega) ?_
      dsimp only [Option.toList, List.cons_append, List.nil_append]
      refine r_istore_n (vs' := [_, _, _, _]) X dX8_ask_24 (pc' := 25) rfl (by decide) rfl ?_
      refine r_aload_n X dX8_ask_25 (pc' := 26) rfl rfl ?_
      refine r_iload_n X dX8_ask_26 (pc' := 27) rfl rfl ?_
      refine r_callV (As := [_]) X okX8_answerInForce lm_X8_121 dX8_ask_27 (pc' := 30) rfl (ct_X8_answerInForce P n hn h ι φ ℓ lt ρ ω W Rr _ (factN_lt W hk2)) (by omega) (wC_e0 _ _ _ _ _ _ _ _) rfl rfl rfl rfl (Nat.le_of_ble_eq_true rfl) (by omega) (by omega) (by omega) ?_
      dsimp only [Option.toList, List.cons_append, List.nil_append]
      rw [show ansN φ (ι 1) (factN ι φ k) = ansW ι φ k from rfl]
      have l_a : ansW ι φ k ≤ 2 := ansN_le _ _ _
      refine r_istore_n (vs' := [_, _, _, _]) X dX8_ask_30 (pc' := 31) rfl (by decide) rfl ?_
      refine r_aload_n X dX8_ask_31 (pc' := 32) rfl rfl ?_
      refine r_get X fX8 lf_X8_43 dX8_ask_32 (pc' := 35) rfl (by decide) (by omega) (wC_e0 _ _ _ _ _ _ _ _) rfl ?_
      refine r_aload_n X dX8_ask_35 (pc' := 36) rfl rfl ?_
      refine r_get X fX8 lf_X8_58 dX8_ask_36 (pc' := 39) rfl (by decide) (by omega) (wC_e0 _ _ _ _ _ _ _ _) rfl ?_
      refine r_iload_n X dX8_ask_39 (pc' := 40) rfl rfl ?_
      refine r_iload_n X dX8_ask_40 (pc' := 41) rfl rfl ?_
      refine r_iload_n X dX8_ask_41 (pc' := 42) rfl rfl ?_
      refine r_iconst (v := (-1)) X (by decide) dX8_ask_42 (pc' := 43) rfl ?_
      rw [mi_0]
      refine r_callV (As := [_, _, _, _, _]) X okX0_write lm_X8_124 dX8_ask_43 (pc' := 46) rfl (ct_X0_write P n hn h ι φ ℓ lt ρ ω W k (ansW ι φ k) 0 h3 l_a) (by omega) (wC_e25 _ _ _ _ _ _ _ _) rfl rfl rfl rfl (Nat.le_of_ble_eq_true rfl) (by omega) (by omega) (by omega) ?_
      dsimp only [Option.toList, List.cons_append, List.nil_append]
      refine r_iload_n X dX8_ask_46 (pc' := 47) rfl rfl ?_
      exact r_iret X r dX8_ask_47 (by omega) (by omega) rfl rfl rfl rfl
    · exact absurd (cB_of c_14) (by omega)
set_option maxRecDepth 100000 in
set_option maxHeartbeats 1000000 in
theorem ct_X8_behalf_f (P : Px) (n : Nat) (hn : 59 ≤ n) (h : hw) (ι : Nat → Nat) (φ : Nat → Nat → Nat) (ℓ : Nat → Nat) (lt : Nat → Option Nat) (ρ : Nat → Nat → Option Nat) (ω : Nat → Nat → Nat) (W : Wf ι φ) (x y : Int32) (hno : ¬ behOK ι x y) : Ct P MX8_behalf 6 0 0 [.ref (Bs P + 0), .int x, .int y] n (wC P h ι φ ℓ lt ρ ω) (some (.int (-1))) n (wC P h ι φ ℓ lt ρ ω) := by
  refine Ct.of (by decide +kernel) (Nat.le_of_ble_eq_true rfl) rfl (fun K X hnm r => ?_)
  have X : Cx K P RX8 cX8_behalf 6 6 0 0 := X
  have r : Rt K P (some .int) 0 0 _ _ _ := r
  show Z K P _ _ 0 0 0 [some (.ref (Bs P + 0)), some (.int x), some (.int y), none, none, none] []
  have ba := W.asks
  refine r_iload_n X dX8_behalf_0 (pc' := 1) rfl rfl ?_
  refine r_callS (As := [_]) X okX8_isAsk lm_X8_113 dX8_behalf_1 (pc' := 4) rfl (ct_X8_isAsk P n _ _) rfl rfl (Nat.le_of_ble_eq_true rfl) (by omega) (by omega) (by omega) ?_
  dsimp only [Option.toList, List.cons_append, List.nil_append]
  refine rB_if_eq X dX8_behalf_4 (tgt := 35) (by decide) (pc' := 7) rfl (fun c_4 => ?_) (fun c_4 => ?_)
  · refine r_iconst (v := (-1)) X (by decide) dX8_behalf_35 (pc' := 36) rfl ?_
    exact r_iret X r dX8_behalf_36 (by omega) (by omega) rfl rfl rfl rfl
  · obtain ⟨k, hk1, hk2, rfl⟩ := askQ_of c_4
    refine r_iload_n X dX8_behalf_7 (pc' := 8) rfl rfl ?_
    refine r_bipush (v := nI 10) X (by decide) dX8_behalf_8 (pc' := 10) rfl ?_
    refine r_callS (As := [_, _]) X okX8_isBelow lm_X8_72 dX8_behalf_10 (pc' := 13) rfl (ct_X8_isBelow P n _ _ _) rfl rfl (Nat.le_of_ble_eq_true rfl) (by omega) (by omega) (by omega) ?_
    dsimp only [Option.toList, List.cons_append, List.nil_append]
    rw [inB_Q y 9 (by decide)]
    refine rB_if_eq X dX8_behalf_13 (tgt := 35) (by decide) (pc' := 16) rfl (fun c_13 => ?_) (fun c_13 => ?_)
    · refine r_iconst (v := (-1)) X (by decide) dX8_behalf_35 (pc' := 36) rfl ?_
      exact r_iret X r dX8_behalf_36 (by omega) (by omega) rfl rfl rfl rfl
    · obtain ⟨y0, hy0, rfl⟩ := inQ_of (by decide) c_13
      refine r_iload_n X dX8_behalf_16 (pc' := 17) rfl rfl ?_
      refine r_iload_n X dX8_behalf_17 (pc' := 18) rfl rfl ?_
      refine r_sipush (v := nI 1000) X (by decide) dX8_behalf_18 (pc' := 21) rfl ?_
      first | refine rN_idiv X dX8_behalf_21 (pc' := 22) rfl (by omega) (by omega) (by omega) ?_ | refine r_idiv X (by decide) dX8_behalf_21 (pc' := 22) rfl ?_
      refine rN_icmp_eq X dX8_behalf_22 (tgt := 35) (by decide) (pc' := 25) rfl (by omega) (by omega) (fun c_22 => ?_) (fun c_22 => ?_)
      · refine r_iconst (v := (-1)) X (by decide) dX8_behalf_35 (pc' := 36) rfl ?_
        exact r_iret X r dX8_behalf_36 (by omega) (by omega) rfl rfl rfl rfl
      · refine r_aload_n X dX8_behalf_25 (pc' := 26) rfl rfl ?_
        refine r_get X fX8 lf_X8_43 dX8_behalf_26 (pc' := 29) rfl (by decide) (by omega) (wC_e0 _ _ _ _ _ _ _ _) rfl ?_
        refine r_callV (As := []) X okX0_isFull lm_X8_116 dX8_behalf_29 (pc' := 32) rfl (ct_X0_isFull P n hn h ι φ ℓ lt ρ ω W) (by omega) (wC_e25 _ _ _ _ _ _ _ _) rfl rfl rfl rfl (Nat.le_of_ble_eq_true rfl) (by omega) (by omega) (by omega) ?_
        dsimp only [Option.toList, List.cons_append, List.nil_append]
        refine rB_if_eq X dX8_behalf_32 (tgt := 37) (by decide) (pc' := 35) rfl (fun c_32 => ?_) (fun c_32 => ?_)
        · exact absurd ⟨c_4, c_13, by rw [tn_n (by omega), tn_n (by omega)]; exact c_22, by have := cB_nf c_32; omega⟩ hno
        · refine r_iconst (v := (-1)) X (by decide) dX8_behalf_35 (pc' := 36) rfl ?_
          exact r_iret X r dX8_behalf_36 (by omega) (by omega) rfl rfl rfl rfl
set_option maxRecDepth 100000 in
set_option maxHeartbeats 1000000 in
theorem ct_X8_behalf_t (P : Px) (n : Nat) (hn : 59 ≤ n) (h : hw) (ι : Nat → Nat) (φ : Nat → Nat → Nat) (ℓ : Nat → Nat) (lt : Nat → Option Nat) (ρ : Nat → Nat → Option Nat) (ω : Nat → Nat → Nat) (W : Wf ι φ) (V0 : ∀ k, φ 2 k = 0 → φ 1 k = 0) (Rr : RR φ ρ n h) (k y0 : Nat) (hk1 : k < 10000) (hk2 : k % 10 < 4) (hy0 : y0 < 10) (hne : ¬ y0 = k / 1000) (h3 : ι 2 < 300) : Ct P MX8_behalf 6 0 0 [.ref (Bs P + 0), .int (nI k), .int (nI y0)] n (wC P h ι φ ℓ lt ρ ω) (some (.int (nI (ansB ι φ k y0)))) n (wC P h (logI ι (ansB ι φ k y0)) (logS ι φ k (ansB ι φ k y0) (y0 + 1)) ℓ lt ρ ω) := by
  refine Ct.of (by decide +kernel) (Nat.le_of_ble_eq_true rfl) rfl (fun K X hnm r => ?_)
  have X : Cx K P RX8 cX8_behalf 6 6 0 0 := X
  have r : Rt K P (some .int) 0 0 _ _ _ := r
  show Z K P _ _ 0 0 0 [some (.ref (Bs P + 0)), some (.int (nI k)), some (.int (nI y0)), none, none, none] []
  refine r_iload_n X dX8_behalf_0 (pc' := 1) rfl rfl ?_
  refine r_callS (As := [_]) X okX8_isAsk lm_X8_113 dX8_behalf_1 (pc' := 4) rfl (ct_X8_isAsk P n _ _) rfl rfl (Nat.le_of_ble_eq_true rfl) (by omega) (by omega) (by omega) ?_
  dsimp only [Option.toList, List.cons_append, List.nil_append]
  refine rB_if_eq X dX8_behalf_4 (tgt := 35) (by decide) (pc' := 7) rfl (fun c_4 => ?_) (fun c_4 => ?_)
  · exact absurd c_4 (by rw [askQ_n hk1, decide_eq_true hk2]; decide)
  · refine r_iload_n X dX8_behalf_7 (pc' := 8) rfl rfl ?_
    refine r_bipush (v := nI 10) X (by decide) dX8_behalf_8 (pc' := 10) rfl ?_
    refine r_callS (As := [_, _]) X okX8_isBelow lm_X8_72 dX8_behalf_10 (pc' := 13) rfl (ct_X8_isBelow P n _ _ _) rfl rfl (Nat.le_of_ble_eq_true rfl) (by omega) (by omega) (by omega) ?_
    dsimp only [Option.toList, List.cons_append, List.nil_append]
    refine rB_if_eq X dX8_behalf_13 (tgt := 35) (by decide) (pc' := 16) rfl (fun c_13 => ?_) (fun c_13 => ?_)
    · exact inB_c hy0 (by decide) c_13
    · refine r_iload_n X dX8_behalf_16 (pc' := 17) rfl rfl ?_
      refine r_iload_n X dX8_behalf_17 (pc' := 18) rfl rfl ?_
      refine r_sipush (v := nI 1000) X (by decide) dX8_behalf_18 (pc' := 21) rfl ?_
      first | refine rN_idiv X dX8_behalf_21 (pc' := 22) rfl (by omega) (by omega) (by omega) ?_ | refine r_idiv X (by decide) dX8_behalf_21 (pc' := 22) rfl ?_
      refine rN_icmp_eq X dX8_behalf_22 (tgt := 35) (by decide) (pc' := 25) rfl (by omega) (by omega) (fun c_22 => ?_) (fun c_22 => ?_)
      · exact absurd c_22 hne
      · refine r_aload_n X dX8_behalf_25 (pc' := 26) rfl rfl ?_
        refine r_get X fX8 lf_X8_43 dX8_behalf_26 (pc' := 29) rfl (by decide) (by omega) (wC_e0 _ _ _ _ _ _ _ _) rfl ?_
        refine r_callV (As := []) X okX0_isFull lm_X8_116 dX8_behalf_29 (pc' := 32) rfl (ct_X0_isFull P n hn h ι φ ℓ lt ρ ω W) (by omega) (wC_e25 _ _ _ _ _ _ _ _) rfl rfl rfl rfl (Nat.le_of_ble_eq_true rfl) (by omega) (by omega) (by omega) ?_
        dsimp only [Option.toList, List.cons_append, List.nil_append]
        refine rB_if_eq X dX8_behalf_32 (tgt := 37) (by decide) (pc' := 35) rfl (fun c_32 => ?_) (fun c_32 => ?_)
        · refine r_aload_n X dX8_behalf_37 (pc' := 38) rfl rfl ?_
          refine r_iload_n X dX8_behalf_38 (pc' := 39) rfl rfl ?_
          refine r_callV (As := [_]) X okX8_codeNow lm_X8_117 dX8_behalf_39 (pc' := 42) rfl (ct_X8_codeNow P n hn h ι φ ℓ lt ρ ω W V0 k hk1 hk2) (by omega) (wC_e0 _ _ _ _ _ _ _ _) rfl rfl rfl rfl (Nat.le_of_ble_eq_true rfl) (by omega) (by omega) (by omega) ?_
          dsimp only [Option.toList, List.cons_append, List.nil_append]
          refine r_istore_n (vs' := [_, _, _, _, _, _]) X dX8_behalf_42 (pc' := 43) rfl (by decide) rfl ?_
          refine r_aload_n X dX8_behalf_43 (pc' := 44) rfl rfl ?_
          refine r_iload_n X dX8_behalf_44 (pc' := 45) rfl rfl ?_
          refine r_sipush (v := nI 1000) X (by decide) dX8_behalf_45 (pc' := 48) rfl ?_
          first | refine rN_imul X dX8_behalf_48 (pc' := 49) rfl ?_ | refine r_imul X dX8_behalf_48 (pc' := 49) rfl ?_
          refine r_iload_n X dX8_behalf_49 (pc' := 50) rfl rfl ?_
          refine r_sipush (v := nI 1000) X (by decide) dX8_behalf_50 (pc' := 53) rfl ?_
          first | refine rN_irem X dX8_behalf_53 (pc' := 54) rfl (by omega) (by omega) (by omega) ?_ | refine r_irem X (by decide) dX8_behalf_53 (pc' := 54) rfl ?_
          first | refine rN_iadd X dX8_behalf_54 (pc' := 55) rfl ?_ | refine r_iadd X dX8_behalf_54 (pc' := 55) rfl ?_
          refine r_callV (As := [_]) X okX8_codeNow lm_X8_117 dX8_behalf_55 (pc' := 58) rfl (ct_X8_codeNow P n hn h ι φ ℓ lt ρ ω W V0 (y0 * 1000 + k % 1000) (by omega) (by omega)) (by omega) (wC_e0 _ _ _ _ _ _ _ _) rfl rfl rfl rfl (Nat.le_of_ble_eq_true rfl) (by omega) (by omega) (by omega) ?_
          dsimp only [Option.toList, List.cons_append, List.nil_append]
          refine r_istore (vs' := [_, _, _, _, _, _]) X dX8_behalf_58 (pc' := 60) rfl (by decide) rfl ?_
          refine r_aload_n X dX8_behalf_60 (pc' := 61) rfl rfl ?_
          refine r_iload_n X dX8_behalf_61 (pc' := 62) rfl rfl ?_
          refine r_callV (As := [_]) X okX8_answerInForce lm_X8_121 dX8_behalf_62 (pc' := 65) rfl (ct_X8_answerInForce P n hn h ι φ ℓ lt ρ ω W Rr _ (factN_lt W hk2)) (by omega) (wC_e0 _ _ _ _ _ _ _ _) rfl rfl rfl rfl (Nat.le_of_ble_eq_true rfl) (by omega) (by omega) (by omega) ?_
          dsimp only [Option.toList, List.cons_append, List.nil_append]
          rw [show ansN φ (ι 1) (factN ι φ k) = ansW ι φ k from rfl]
          have l_a : ansW ι φ k ≤ 2 := ansN_le _ _ _
          refine r_aload_n X dX8_behalf_65 (pc' := 66) rfl rfl ?_
          refine r_iload X dX8_behalf_66 (pc' := 68) rfl rfl ?_
          refine r_callV (As := [_]) X okX8_answerInForce lm_X8_121 dX8_behalf_68 (pc' := 71) rfl (ct_X8_answerInForce P n hn h ι φ ℓ lt ρ ω W Rr _ (factN_lt W (show (y0 * 1000 + k % 1000) % 10 < 4 by omega))) (by omega) (wC_e0 _ _ _ _ _ _ _ _) rfl rfl rfl rfl (Nat.le_of_ble_eq_true rfl) (by omega) (by omega) (by omega) ?_
          dsimp only [Option.toList, List.cons_append, List.nil_append]
          rw [show ansN φ (ι 1) (factN ι φ (y0 * 1000 + k % 1000)) = ansW ι φ (y0 * 1000 + k % 1000) from rfl]
          have l_b : ansW ι φ (y0 * 1000 + k % 1000) ≤ 2 := ansN_le _ _ _
          refine r_callS (As := [_, _]) X okJ9_max_7cf53 lm_X8_128 dX8_behalf_71 (pc' := 74) rfl (ct_J9_max_7cf53 P n _ _ _) rfl rfl (Nat.le_of_ble_eq_true rfl) (by omega) (by omega) (by omega) ?_
          dsimp only [Option.toList, List.cons_append, List.nil_append]
          rw [show (if nI (ansW ι φ k) < nI (ansW ι φ (y0 * 1000 + k % 1000)) then nI (ansW ι φ (y0 * 1000 + k % 1000)) else nI (ansW ι φ k)) = nI (ansB ι φ k y0) by unfold ansB; by_cases q : ansW ι φ k < ansW ι φ (y0 * 1000 + k % 1000); (rw [if_pos ((nI_ltI (by omega) (by omega)).mpr q), Nat.max_eq_right (by omega)]); (rw [if_neg (fun z => q ((nI_ltI (by omega) (by omega)).mp z)), Nat.max_eq_left (by omega)])]
          have l_c : ansB ι φ k y0 ≤ 2 := by unfold ansB; omega
          refine r_istore (vs' := [_, _, _, _, _, _]) X dX8_behalf_74 (pc' := 76) rfl (by decide) rfl ?_
          refine r_aload_n X dX8_behalf_76 (pc' := 77) rfl rfl ?_
          refine r_get X fX8 lf_X8_43 dX8_behalf_77 (pc' := 80) rfl (by decide) (by omega) (wC_e0 _ _ _ _ _ _ _ _) rfl ?_
          refine r_aload_n X dX8_behalf_80 (pc' := 81) rfl rfl ?_
          refine r_get X fX8 lf_X8_58 dX8_behalf_81 (pc' := 84) rfl (by decide) (by omega) (wC_e0 _ _ _ _ _ _ _ _) rfl ?_
          refine r_iload_n X dX8_behalf_84 (pc' := 85) rfl rfl ?_
          refine r_iload_n X dX8_behalf_85 (pc' := 86) rfl rfl ?_
          refine r_iload X dX8_behalf_86 (pc' := 88) rfl rfl ?_
          refine r_iload_n X dX8_behalf_88 (pc' := 89) rfl rfl ?_
          rw [mi_s y0]
          refine r_callV (As := [_, _, _, _, _]) X okX0_write lm_X8_124 dX8_behalf_89 (pc' := 92) rfl (ct_X0_write P n hn h ι φ ℓ lt ρ ω W k (ansB ι φ k y0) (y0 + 1) h3 l_c) (by omega) (wC_e25 _ _ _ _ _ _ _ _) rfl rfl rfl rfl (Nat.le_of_ble_eq_true rfl) (by omega) (by omega) (by omega) ?_
          dsimp only [Option.toList, List.cons_append, List.nil_append]
          refine r_iload X dX8_behalf_92 (pc' := 94) rfl rfl ?_
          exact r_iret X r dX8_behalf_94 (by omega) (by omega) rfl rfl rfl rfl
        · exact absurd (cB_of c_32) (by omega)
set_option maxRecDepth 100000 in
set_option maxHeartbeats 1000000 in
theorem ct_X8_why_f (P : Px) (n : Nat) (hn : 59 ≤ n) (h : hw) (ι : Nat → Nat) (φ : Nat → Nat → Nat) (ℓ : Nat → Nat) (lt : Nat → Option Nat) (ρ : Nat → Nat → Option Nat) (ω : Nat → Nat → Nat) (W : Wf ι φ) (x y : Int32) (hx : inQ x (nI 1) = false) : Ct P MX8_why 4 0 0 [.ref (Bs P + 0), .int x, .int y] n (wC P h ι φ ℓ lt ρ ω) (some (.int (-1))) n (wC P h ι φ ℓ lt ρ ω) := by
  refine Ct.of (by decide +kernel) (Nat.le_of_ble_eq_true rfl) rfl (fun K X hnm r => ?_)
  have X : Cx K P RX8 cX8_why 4 4 0 0 := X
  have r : Rt K P (some .int) 0 0 _ _ _ := r
  show Z K P _ _ 0 0 0 [some (.ref (Bs P + 0)), some (.int x), some (.int y), none] []
  refine r_aload_n X dX8_why_0 (pc' := 1) rfl rfl ?_
  refine r_iload_n X dX8_why_1 (pc' := 2) rfl rfl ?_
  refine r_callV (As := [_]) X okX8_heapAt lm_X8_86 dX8_why_2 (pc' := 5) rfl (ct_X8_heapAt_f P n hn h ι φ ℓ lt ρ ω W x hx) (by omega) (wC_e0 _ _ _ _ _ _ _ _) rfl rfl rfl rfl (Nat.le_of_ble_eq_true rfl) (by omega) (by omega) (by omega) ?_
  dsimp only [Option.toList, List.cons_append, List.nil_append]
  refine r_astore_nN (vs' := [_, _, _, _]) X dX8_why_5 (pc' := 6) rfl (by decide) rfl ?_
  refine r_aload_nN X dX8_why_6 (pc' := 7) rfl rfl ?_
  refine r_ifnullN X dX8_why_7 (tgt := 17) (by decide) ?_
  refine r_iconst (v := (-1)) X (by decide) dX8_why_17 (pc' := 18) rfl ?_
  exact r_iret X r dX8_why_18 (by omega) (by omega) rfl rfl rfl rfl
set_option maxRecDepth 100000 in
set_option maxHeartbeats 1000000 in
theorem ct_X8_why_g (P : Px) (n : Nat) (hn : 59 ≤ n) (h : hw) (ι : Nat → Nat) (φ : Nat → Nat → Nat) (ℓ : Nat → Nat) (lt : Nat → Option Nat) (ρ : Nat → Nat → Option Nat) (ω : Nat → Nat → Nat) (W : Wf ι φ) (hp : Nat) (hh : hp < 2) (y : Int32) (hy : askQ y = false) : Ct P MX8_why 4 0 0 [.ref (Bs P + 0), .int (nI hp), .int y] n (wC P h ι φ ℓ lt ρ ω) (some (.int (-1))) n (wC P h ι φ ℓ lt ρ ω) := by
  refine Ct.of (by decide +kernel) (Nat.le_of_ble_eq_true rfl) rfl (fun K X hnm r => ?_)
  have X : Cx K P RX8 cX8_why 4 4 0 0 := X
  have r : Rt K P (some .int) 0 0 _ _ _ := r
  show Z K P _ _ 0 0 0 [some (.ref (Bs P + 0)), some (.int (nI hp)), some (.int y), none] []
  refine r_aload_n X dX8_why_0 (pc' := 1) rfl rfl ?_
  refine r_iload_n X dX8_why_1 (pc' := 2) rfl rfl ?_
  refine r_callV (As := [_]) X okX8_heapAt lm_X8_86 dX8_why_2 (pc' := 5) rfl (ct_X8_heapAt_t P n hn h ι φ ℓ lt ρ ω W hp hh) (by omega) (wC_e0 _ _ _ _ _ _ _ _) rfl rfl rfl rfl (Nat.le_of_ble_eq_true rfl) (by omega) (by omega) (by omega) ?_
  dsimp only [Option.toList, List.cons_append, List.nil_append]
  refine r_astore_n (vs' := [_, _, _, _]) X dX8_why_5 (pc' := 6) rfl (by decide) rfl ?_
  refine r_aload_n X dX8_why_6 (pc' := 7) rfl rfl ?_
  refine r_ifnull X dX8_why_7 (pc' := 10) rfl ?_
  refine r_iload_n X dX8_why_10 (pc' := 11) rfl rfl ?_
  refine r_callS (As := [_]) X okX8_isAsk lm_X8_113 dX8_why_11 (pc' := 14) rfl (ct_X8_isAsk P n _ _) rfl rfl (Nat.le_of_ble_eq_true rfl) (by omega) (by omega) (by omega) ?_
  dsimp only [Option.toList, List.cons_append, List.nil_append]
  rw [hy]
  refine rB_if_ne X dX8_why_14 (tgt := 19) (by decide) (pc' := 17) rfl (fun c_14 => ?_) (fun c_14 => ?_)
  · cases c_14
  · refine r_iconst (v := (-1)) X (by decide) dX8_why_17 (pc' := 18) rfl ?_
    exact r_iret X r dX8_why_18 (by omega) (by omega) rfl rfl rfl rfl
set_option maxRecDepth 100000 in
set_option maxHeartbeats 1000000 in
theorem ct_X8_why_t (P : Px) (n : Nat) (hn : 59 ≤ n) (h : hw) (ι : Nat → Nat) (φ : Nat → Nat → Nat) (ℓ : Nat → Nat) (lt : Nat → Option Nat) (ρ : Nat → Nat → Option Nat) (ω : Nat → Nat → Nat) (W : Wf ι φ) (V0 : ∀ k, φ 2 k = 0 → φ 1 k = 0) (Rr : RR φ ρ n h) (hp : Nat) (hh : hp < 2) (k : Nat) (hk1 : k < 10000) (hk2 : k % 10 < 4) : Ct P MX8_why 4 0 0 [.ref (Bs P + 0), .int (nI hp), .int (nI k)] n (wC P h ι φ ℓ lt ρ ω) (some (.int (oI (decN φ hp (factN ι φ k))))) n (wC P h ι φ ℓ lt ρ ω) := by
  refine Ct.of (by decide +kernel) (Nat.le_of_ble_eq_true rfl) rfl (fun K X hnm r => ?_)
  have X : Cx K P RX8 cX8_why 4 4 0 0 := X
  have r : Rt K P (some .int) 0 0 _ _ _ := r
  show Z K P _ _ 0 0 0 [some (.ref (Bs P + 0)), some (.int (nI hp)), some (.int (nI k)), none] []
  refine r_aload_n X dX8_why_0 (pc' := 1) rfl rfl ?_
  refine r_iload_n X dX8_why_1 (pc' := 2) rfl rfl ?_
  refine r_callV (As := [_]) X okX8_heapAt lm_X8_86 dX8_why_2 (pc' := 5) rfl (ct_X8_heapAt_t P n hn h ι φ ℓ lt ρ ω W hp hh) (by omega) (wC_e0 _ _ _ _ _ _ _ _) rfl rfl rfl rfl (Nat.le_of_ble_eq_true rfl) (by omega) (by omega) (by omega) ?_
  dsimp only [Option.toList, List.cons_append, List.nil_append]
  refine r_astore_n (vs' := [_, _, _, _]) X dX8_why_5 (pc' := 6) rfl (by decide) rfl ?_
  refine r_aload_n X dX8_why_6 (pc' := 7) rfl rfl ?_
  refine r_ifnull X dX8_why_7 (pc' := 10) rfl ?_
  refine r_iload_n X dX8_why_10 (pc' := 11) rfl rfl ?_
  refine r_callS (As := [_]) X okX8_isAsk lm_X8_113 dX8_why_11 (pc' := 14) rfl (ct_X8_isAsk P n _ _) rfl rfl (Nat.le_of_ble_eq_true rfl) (by omega) (by omega) (by omega) ?_
  dsimp only [Option.toList, List.cons_append, List.nil_append]
  refine rB_if_ne X dX8_why_14 (tgt := 19) (by decide) (pc' := 17) rfl (fun c_14 => ?_) (fun c_14 => ?_)
  · refine r_aload_n X dX8_why_19 (pc' := 20) rfl rfl ?_
    refine r_aload_n X dX8_why_20 (pc' := 21) rfl rfl ?_
    refine r_iload_n X dX8_why_21 (pc' := 22) rfl rfl ?_
    refine r_callV (As := [_]) X okX8_codeNow lm_X8_117 dX8_why_22 (pc' := 25) rfl (ct_X8_codeNow P n hn h ι φ ℓ lt ρ ω W V0 k hk1 hk2) (by omega) (wC_e0 _ _ _ _ _ _ _ _) rfl rfl rfl rfl (Nat.le_of_ble_eq_true rfl) (by omega) (by omega) (by omega) ?_
    dsimp only [Option.toList, List.cons_append, List.nil_append]
    refine r_aload_n X dX8_why_25 (pc' := 26) rfl rfl ?_
    refine r_get X fX8 lf_X8_22 dX8_why_26 (pc' := 29) rfl (by decide) (by omega) (wC_e0 _ _ _ _ _ _ _ _) rfl ?_
    refine r_callV (As := [_, _]) X okX1_firstFit lm_X8_131 dX8_why_29 (pc' := 32) rfl (ct_X1_firstFit P n hn h ι φ ℓ lt ρ ω W hp hh Rr _ (factN_lt W hk2)) (by omega) (wC_hp _ _ _ _ _ _ _ _ hh) rfl rfl rfl rfl (Nat.le_of_ble_eq_true rfl) (by omega) (by omega) (by omega) ?_
    dsimp only [Option.toList, List.cons_append, List.nil_append]
    exact r_iret X r dX8_why_32 (by omega) (by omega) rfl rfl rfl rfl
  · exact absurd c_14 (by rw [askQ_n hk1, decide_eq_true hk2]; decide)
set_option maxRecDepth 100000 in
set_option maxHeartbeats 1000000 in
theorem ct_X8_facts (P : Px) (n : Nat) (hn : 59 ≤ n) (h : hw) (ι : Nat → Nat) (φ : Nat → Nat → Nat) (ℓ : Nat → Nat) (lt : Nat → Option Nat) (ρ : Nat → Nat → Option Nat) (ω : Nat → Nat → Nat) (W : Wf ι φ) (V0 : ∀ k, φ 2 k = 0 → φ 1 k = 0) (x : Int32) : Ct P MX8_facts 2 0 0 [.ref (Bs P + 0), .int x] n (wC P h ι φ ℓ lt ρ ω) (some (.int (aFacts ι φ x))) n (wC P h ι φ ℓ lt ρ ω) := by
  refine Ct.of (by decide +kernel) (Nat.le_of_ble_eq_true rfl) rfl (fun K X hnm r => ?_)
  have X : Cx K P RX8 cX8_facts 2 2 0 0 := X
  have r : Rt K P (some .int) 0 0 _ _ _ := r
  show Z K P _ _ 0 0 0 [some (.ref (Bs P + 0)), some (.int x)] []
  refine r_iload_n X dX8_facts_0 (pc' := 1) rfl rfl ?_
  refine r_callS (As := [_]) X okX8_isAsk lm_X8_113 dX8_facts_1 (pc' := 4) rfl (ct_X8_isAsk P n _ _) rfl rfl (Nat.le_of_ble_eq_true rfl) (by omega) (by omega) (by omega) ?_
  dsimp only [Option.toList, List.cons_append, List.nil_append]
  refine rB_if_eq X dX8_facts_4 (tgt := 15) (by decide) (pc' := 7) rfl (fun c_4 => ?_) (fun c_4 => ?_)
  · refine r_iconst (v := (-1)) X (by decide) dX8_facts_15 (pc' := 16) rfl ?_
    exact r_iret X r dX8_facts_16 (by omega) (by omega) rfl (by unfold aFacts; first | rw [pif_t c_4, tn_n (by omega)] | rw [pif_f (by rw [c_4]; decide)]) rfl rfl
  · obtain ⟨k, hk1, hk2, rfl⟩ := askQ_of c_4
    refine r_aload_n X dX8_facts_7 (pc' := 8) rfl rfl ?_
    refine r_iload_n X dX8_facts_8 (pc' := 9) rfl rfl ?_
    refine r_callV (As := [_]) X okX8_codeNow lm_X8_117 dX8_facts_9 (pc' := 12) rfl (ct_X8_codeNow P n hn h ι φ ℓ lt ρ ω W V0 _ hk1 hk2) (by omega) (wC_e0 _ _ _ _ _ _ _ _) rfl rfl rfl rfl (Nat.le_of_ble_eq_true rfl) (by omega) (by omega) (by omega) ?_
    dsimp only [Option.toList, List.cons_append, List.nil_append]
    refine r_goto (tgt := 16) X dX8_facts_12 (by decide) ?_
    exact r_iret X r dX8_facts_16 (by omega) (by omega) rfl (by unfold aFacts; first | rw [pif_t c_4, tn_n (by omega)] | rw [pif_f (by rw [c_4]; decide)]) rfl rfl
set_option maxRecDepth 100000 in
set_option maxHeartbeats 1000000 in
theorem ct_X8_log (P : Px) (n : Nat) (hn : 59 ≤ n) (h : hw) (ι : Nat → Nat) (φ : Nat → Nat → Nat) (ℓ : Nat → Nat) (lt : Nat → Option Nat) (ρ : Nat → Nat → Option Nat) (ω : Nat → Nat → Nat) (W : Wf ι φ) (x y : Int32) : Ct P MX8_log 2 0 0 [.ref (Bs P + 0), .int x, .int y] n (wC P h ι φ ℓ lt ρ ω) (some (.int (aLog ι φ x y))) n (wC P h ι φ ℓ lt ρ ω) := by
  refine Ct.of (by decide +kernel) (Nat.le_of_ble_eq_true rfl) rfl (fun K X hnm r => ?_)
  have X : Cx K P RX8 cX8_log 3 2 0 0 := X
  have r : Rt K P (some .int) 0 0 _ _ _ := r
  show Z K P _ _ 0 0 0 [some (.ref (Bs P + 0)), some (.int x), some (.int y)] []
  refine r_aload_n X dX8_log_0 (pc' := 1) rfl rfl ?_
  refine r_get X fX8 lf_X8_43 dX8_log_1 (pc' := 4) rfl (by decide) (by omega) (wC_e0 _ _ _ _ _ _ _ _) rfl ?_
  refine r_iload_n X dX8_log_4 (pc' := 5) rfl rfl ?_
  refine r_iload_n X dX8_log_5 (pc' := 6) rfl rfl ?_
  refine r_callV (As := [_, _]) X okX0_read lm_X8_200 dX8_log_6 (pc' := 9) rfl (ct_X0_read P n hn h ι φ ℓ lt ρ ω W x y) (by omega) (wC_e25 _ _ _ _ _ _ _ _) rfl rfl rfl rfl (Nat.le_of_ble_eq_true rfl) (by omega) (by omega) (by omega) ?_
  dsimp only [Option.toList, List.cons_append, List.nil_append]
  exact r_iret X r dX8_log_9 (by omega) (by omega) rfl rfl rfl rfl
set_option maxRecDepth 100000 in
set_option maxHeartbeats 1000000 in
theorem ct_X8_count (P : Px) (n : Nat) (hn : 59 ≤ n) (h : hw) (ι : Nat → Nat) (φ : Nat → Nat → Nat) (ℓ : Nat → Nat) (lt : Nat → Option Nat) (ρ : Nat → Nat → Option Nat) (ω : Nat → Nat → Nat) (W : Wf ι φ) (x : Int32) : Ct P MX8_count 0 0 0 [.ref (Bs P + 0), .int x] n (wC P h ι φ ℓ lt ρ ω) (some (.int (aCount ι φ x))) n (wC P h ι φ ℓ lt ρ ω) := by
  refine Ct.of (by decide +kernel) (Nat.le_of_ble_eq_true rfl) rfl (fun K X hnm r => ?_)
  have X : Cx K P RX8 cX8_count 2 0 0 0 := X
  have r : Rt K P (some .int) 0 0 _ _ _ := r
  show Z K P _ _ 0 0 0 [some (.ref (Bs P + 0)), some (.int x)] []
  refine r_iload_n X dX8_count_0 (pc' := 1) rfl rfl ?_
  by_cases e_1_0 : x = nI 0
  · refine r_tabIn X dX8_count_1 (by rw [e_1_0]; decide) (by rw [e_1_0]; decide) (off := 43) (by rw [e_1_0]; rfl) (tgt := 44) (by decide) ?_
    refine r_aload_n X dX8_count_44 (pc' := 45) rfl rfl ?_
    refine r_get X fX8 lf_X8_58 dX8_count_45 (pc' := 48) rfl (by decide) (by omega) (wC_e0 _ _ _ _ _ _ _ _) rfl ?_
    exact r_iret X r dX8_count_48 (by omega) (by omega) rfl (by unfold aCount; simp only [e_1_0, if_true, if_false]; try rfl) rfl rfl
  by_cases e_1_1 : x = nI 1
  · refine r_tabIn X dX8_count_1 (by rw [e_1_1]; decide) (by rw [e_1_1]; decide) (off := 48) (by rw [e_1_1]; rfl) (tgt := 49) (by decide) ?_
    refine r_aload_n X dX8_count_49 (pc' := 50) rfl rfl ?_
    refine r_get X fX8 lf_X8_203 dX8_count_50 (pc' := 53) rfl (by decide) (by omega) (wC_e0 _ _ _ _ _ _ _ _) rfl ?_
    exact r_iret X r dX8_count_53 (by omega) (by omega) rfl (by unfold aCount; simp only [e_1_0, e_1_1, if_true, if_false]; try rfl) rfl rfl
  by_cases e_1_2 : x = nI 2
  · refine r_tabIn X dX8_count_1 (by rw [e_1_2]; decide) (by rw [e_1_2]; decide) (off := 53) (by rw [e_1_2]; rfl) (tgt := 54) (by decide) ?_
    refine r_aload_n X dX8_count_54 (pc' := 55) rfl rfl ?_
    refine r_get X fX8 lf_X8_29 dX8_count_55 (pc' := 58) rfl (by decide) (by omega) (wC_e0 _ _ _ _ _ _ _ _) rfl ?_
    refine r_iconst (v := nI 0) X (by decide) dX8_count_58 (pc' := 59) rfl ?_
    refine r_aald (t := 3) X rfl rfl dX8_count_59 (pc' := 60) rfl (by omega) (wC_e15 _ _ _ _ _ _ _ _) (by omega) (by omega) ?_
    rw [show va_rf (va_up (va_up (fun _ => none) 0 (some (Bs P + 16))) 1 (some (Bs P + 18)) 0) = .ref (Bs P + 16) from rfl]
    refine r_getN X fX1 lf_X8_106 dX8_count_60 (pc' := 63) rfl (by decide) (by omega) (wC_e16 _ _ _ _ _ _ _ _) rfl ?_
    exact r_iret X r dX8_count_63 (by omega) (by omega) rfl (by unfold aCount; simp only [e_1_0, e_1_1, e_1_2, if_true, if_false]; try rfl) rfl rfl
  by_cases e_1_3 : x = nI 3
  · refine r_tabIn X dX8_count_1 (by rw [e_1_3]; decide) (by rw [e_1_3]; decide) (off := 63) (by rw [e_1_3]; rfl) (tgt := 64) (by decide) ?_
    refine r_aload_n X dX8_count_64 (pc' := 65) rfl rfl ?_
    refine r_get X fX8 lf_X8_29 dX8_count_65 (pc' := 68) rfl (by decide) (by omega) (wC_e0 _ _ _ _ _ _ _ _) rfl ?_
    refine r_iconst (v := nI 1) X (by decide) dX8_count_68 (pc' := 69) rfl ?_
    refine r_aald (t := 3) X rfl rfl dX8_count_69 (pc' := 70) rfl (by omega) (wC_e15 _ _ _ _ _ _ _ _) (by omega) (by omega) ?_
    rw [show va_rf (va_up (va_up (fun _ => none) 0 (some (Bs P + 16))) 1 (some (Bs P + 18)) 1) = .ref (Bs P + 18) from rfl]
    refine r_getN X fX1 lf_X8_106 dX8_count_70 (pc' := 73) rfl (by decide) (by omega) (wC_e18 _ _ _ _ _ _ _ _) rfl ?_
    exact r_iret X r dX8_count_73 (by omega) (by omega) rfl (by unfold aCount; simp only [e_1_0, e_1_1, e_1_2, e_1_3, if_true, if_false]; try rfl) rfl rfl
  by_cases e_1_4 : x = nI 4
  · refine r_tabIn X dX8_count_1 (by rw [e_1_4]; decide) (by rw [e_1_4]; decide) (off := 73) (by rw [e_1_4]; rfl) (tgt := 74) (by decide) ?_
    refine r_aload_n X dX8_count_74 (pc' := 75) rfl rfl ?_
    refine r_get X fX8 lf_X8_43 dX8_count_75 (pc' := 78) rfl (by decide) (by omega) (wC_e0 _ _ _ _ _ _ _ _) rfl ?_
    refine r_getN X fX0 lf_X8_206 dX8_count_78 (pc' := 81) rfl (by decide) (by omega) (wC_e25 _ _ _ _ _ _ _ _) rfl ?_
    exact r_iret X r dX8_count_81 (by omega) (by omega) rfl (by unfold aCount; simp only [e_1_0, e_1_1, e_1_2, e_1_3, e_1_4, if_true, if_false]; try rfl) rfl rfl
  by_cases e_1_5 : x = nI 5
  · refine r_tabIn X dX8_count_1 (by rw [e_1_5]; decide) (by rw [e_1_5]; decide) (off := 81) (by rw [e_1_5]; rfl) (tgt := 82) (by decide) ?_
    refine r_aload_n X dX8_count_82 (pc' := 83) rfl rfl ?_
    refine r_get X fX8 lf_X8_43 dX8_count_83 (pc' := 86) rfl (by decide) (by omega) (wC_e0 _ _ _ _ _ _ _ _) rfl ?_
    refine r_getN X fX0 lf_X8_215 dX8_count_86 (pc' := 89) rfl (by decide) (by omega) (wC_e25 _ _ _ _ _ _ _ _) rfl ?_
    exact r_iret X r dX8_count_89 (by omega) (by omega) rfl (by unfold aCount; simp only [e_1_0, e_1_1, e_1_2, e_1_3, e_1_4, e_1_5, if_true, if_false]; try rfl) rfl rfl
  by_cases e_1_6 : x = nI 6
  · refine r_tabIn X dX8_count_1 (by rw [e_1_6]; decide) (by rw [e_1_6]; decide) (off := 89) (by rw [e_1_6]; rfl) (tgt := 90) (by decide) ?_
    refine r_aload_n X dX8_count_90 (pc' := 91) rfl rfl ?_
    refine r_get X fX8 lf_X8_153 dX8_count_91 (pc' := 94) rfl (by decide) (by omega) (wC_e0 _ _ _ _ _ _ _ _) rfl ?_
    exact r_iret X r dX8_count_94 (by omega) (by omega) rfl (by unfold aCount; simp only [e_1_0, e_1_1, e_1_2, e_1_3, e_1_4, e_1_5, e_1_6, if_true, if_false]; try rfl) rfl rfl
  refine r_tabOut X dX8_count_1 (by have t0 := neT e_1_0 (by decide); have t1 := neT e_1_1 (by decide); have t2 := neT e_1_2 (by decide); have t3 := neT e_1_3 (by decide); have t4 := neT e_1_4 (by decide); have t5 := neT e_1_5 (by decide); have t6 := neT e_1_6 (by decide); omega) (tgt := 95) (by decide) ?_
  refine r_iconst (v := (-1)) X (by decide) dX8_count_95 (pc' := 96) rfl ?_
  exact r_iret X r dX8_count_96 (by omega) (by omega) rfl (by unfold aCount; simp only [e_1_0, e_1_1, e_1_2, e_1_3, e_1_4, e_1_5, e_1_6, if_true, if_false]; try rfl) rfl rfl
