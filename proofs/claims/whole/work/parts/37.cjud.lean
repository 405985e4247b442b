/-! ===== AskTrust: judged, keeps, lost, move ===== -/
set_option maxRecDepth 100000 in
set_option maxHeartbeats 1000000 in
theorem ct_X8_judged_f (P : Px) (n : Nat) (hn : 59 ≤ n) (h : hw) (ι : Nat → Nat) (φ : Nat → Nat → Nat) (ℓ : Nat → Nat) (lt : Nat → Option Nat) (ρ : Nat → Nat → Option Nat) (ω : Nat → Nat → Nat) (W : Wf ι φ) (x y : Int32) (hx : inQ x (nI 3) = false) : Ct P MX8_judged 6 1 4 [.ref (Bs P + 0), .int x, .int y] n (wC P h ι φ ℓ lt ρ ω) (some (.int (-1))) n (wC P h ι φ ℓ lt ρ ω) := by
  refine Ct.of (by decide +kernel) (Nat.le_of_ble_eq_true rfl) rfl (fun K X hnm r => ?_)
  have X : Cx K P RX8 cX8_judged 6 6 1 4 := X
  have r : Rt K P (some .int) 1 4 _ _ _ := r
  show Z K P _ _ 0 0 0 [some (.ref (Bs P + 0)), some (.int x), some (.int y), none, none, none] []
  refine r_aload_n X dX8_judged_0 (pc' := 1) rfl rfl ?_
  refine r_iload_n X dX8_judged_1 (pc' := 2) rfl rfl ?_
  refine r_callV (As := [_]) X okX8_judgeAt lm_X8_135 dX8_judged_2 (pc' := 5) rfl (ct_X8_judgeAt_f P n hn h ι φ ℓ lt ρ ω W x hx) (by omega) (wC_e0 _ _ _ _ _ _ _ _) rfl rfl rfl rfl (Nat.le_of_ble_eq_true rfl) (by omega) (by omega) (by omega) ?_
  dsimp only [Option.toList, List.cons_append, List.nil_append]
  refine r_astore_nN (vs' := [_, _, _, _, _, _]) X dX8_judged_5 (pc' := 6) rfl (by decide) rfl ?_
  refine r_aload_nN X dX8_judged_6 (pc' := 7) rfl rfl ?_
  refine r_ifnullN X dX8_judged_7 (tgt := 17) (by decide) ?_
  refine r_iconst (v := (-1)) X (by decide) dX8_judged_17 (pc' := 18) rfl ?_
  exact r_iret X r dX8_judged_18 (by omega) (by omega) rfl rfl rfl rfl
set_option maxRecDepth 100000 in
set_option maxHeartbeats 1000000 in
theorem ct_X8_judged_g (P : Px) (n : Nat) (hn : 59 ≤ n) (h : hw) (ι : Nat → Nat) (φ : Nat → Nat → Nat) (ℓ : Nat → Nat) (lt : Nat → Option Nat) (ρ : Nat → Nat → Option Nat) (ω : Nat → Nat → Nat) (W : Wf ι φ) (j : Nat) (hj : j < 4) (y : Int32) (hy : askQ y = false) : Ct P MX8_judged 6 1 4 [.ref (Bs P + 0), .int (nI j), .int y] n (wC P h ι φ ℓ lt ρ ω) (some (.int (-1))) n (wC P h ι φ ℓ lt ρ ω) := by
  refine Ct.of (by decide +kernel) (Nat.le_of_ble_eq_true rfl) rfl (fun K X hnm r => ?_)
  have X : Cx K P RX8 cX8_judged 6 6 1 4 := X
  have r : Rt K P (some .int) 1 4 _ _ _ := r
  show Z K P _ _ 0 0 0 [some (.ref (Bs P + 0)), some (.int (nI j)), some (.int y), none, none, none] []
  refine r_aload_n X dX8_judged_0 (pc' := 1) rfl rfl ?_
  refine r_iload_n X dX8_judged_1 (pc' := 2) rfl rfl ?_
  refine r_callV (As := [_]) X okX8_judgeAt lm_X8_135 dX8_judged_2 (pc' := 5) rfl (ct_X8_judgeAt_t P n hn h ι φ ℓ lt ρ ω W j hj) (by omega) (wC_e0 _ _ _ _ _ _ _ _) rfl rfl rfl rfl (Nat.le_of_ble_eq_true rfl) (by omega) (by omega) (by omega) ?_
  dsimp only [Option.toList, List.cons_append, List.nil_append]
  refine r_astore_n (vs' := [_, _, _, _, _, _]) X dX8_judged_5 (pc' := 6) rfl (by decide) rfl ?_
  refine r_aload_n X dX8_judged_6 (pc' := 7) rfl rfl ?_
  refine r_ifnull X dX8_judged_7 (pc' := 10) rfl ?_
  refine r_iload_n X dX8_judged_10 (pc' := 11) rfl rfl ?_
  refine r_callS (As := [_]) X okX8_isAsk lm_X8_113 dX8_judged_11 (pc' := 14) rfl (ct_X8_isAsk P n _ _) rfl rfl (Nat.le_of_ble_eq_true rfl) (by omega) (by omega) (by omega) ?_
  dsimp only [Option.toList, List.cons_append, List.nil_append]
  rw [hy]
  refine rB_if_ne X dX8_judged_14 (tgt := 19) (by decide) (pc' := 17) rfl (fun c_14 => ?_) (fun c_14 => ?_)
  · cases c_14
  · refine r_iconst (v := (-1)) X (by decide) dX8_judged_17 (pc' := 18) rfl ?_
    exact r_iret X r dX8_judged_18 (by omega) (by omega) rfl rfl rfl rfl
set_option maxRecDepth 100000 in
set_option maxHeartbeats 1000000 in
theorem ct_X8_judged_a (P : Px) (n : Nat) (hn : 59 ≤ n) (h : hw) (ι : Nat → Nat) (φ : Nat → Nat → Nat) (ℓ : Nat → Nat) (lt : Nat → Option Nat) (ρ : Nat → Nat → Option Nat) (ω : Nat → Nat → Nat) (W : Wf ι φ) (j : Nat) (hj : j < 4) (kw km ka : Nat → Nat) (A B : List Nat) (k0 : Nat) (hL : chn P n h kw km ka (lt j) (A ++ k0 :: B)) (hbA : ∀ a ∈ A, kw a < 10000) (k : Nat) (hk1 : k < 10000) (hk2 : k % 10 < 4) (hne : ∀ a ∈ A, kw a ≠ k) (hk0 : kw k0 = k) (nx : Option Nat) (hka : 59 ≤ k0) (hkb : k0 < n) (hek : h k0 = kcell P (kw k0) nx (km k0) (ka k0)) (hmd : km k0 ≤ ι 0) (hfr : ι 0 - km k0 ≤ φ 11 j) : Ct P MX8_judged 6 1 4 [.ref (Bs P + 0), .int (nI j), .int (nI k)] n (wC P h ι φ ℓ lt ρ ω) (some (.int (nI (ka k0)))) n (wC P h (up1 ι 4 (ι 4 + 1)) φ ℓ lt ρ ω) := by
  refine Ct.of (by decide +kernel) (Nat.le_of_ble_eq_true rfl) rfl (fun K X hnm r => ?_)
  have X : Cx K P RX8 cX8_judged 6 6 1 4 := X
  have r : Rt K P (some .int) 1 4 _ _ _ := r
  show Z K P _ _ 0 0 0 [some (.ref (Bs P + 0)), some (.int (nI j)), some (.int (nI k)), none, none, none] []
  refine r_aload_n X dX8_judged_0 (pc' := 1) rfl rfl ?_
  refine r_iload_n X dX8_judged_1 (pc' := 2) rfl rfl ?_
  refine r_callV (As := [_]) X okX8_judgeAt lm_X8_135 dX8_judged_2 (pc' := 5) rfl (ct_X8_judgeAt_t P n hn h ι φ ℓ lt ρ ω W j hj) (by omega) (wC_e0 _ _ _ _ _ _ _ _) rfl rfl rfl rfl (Nat.le_of_ble_eq_true rfl) (by omega) (by omega) (by omega) ?_
  dsimp only [Option.toList, List.cons_append, List.nil_append]
  refine r_astore_n (vs' := [_, _, _, _, _, _]) X dX8_judged_5 (pc' := 6) rfl (by decide) rfl ?_
  refine r_aload_n X dX8_judged_6 (pc' := 7) rfl rfl ?_
  refine r_ifnull X dX8_judged_7 (pc' := 10) rfl ?_
  refine r_iload_n X dX8_judged_10 (pc' := 11) rfl rfl ?_
  refine r_callS (As := [_]) X okX8_isAsk lm_X8_113 dX8_judged_11 (pc' := 14) rfl (ct_X8_isAsk P n _ _) rfl rfl (Nat.le_of_ble_eq_true rfl) (by omega) (by omega) (by omega) ?_
  dsimp only [Option.toList, List.cons_append, List.nil_append]
  refine rB_if_ne X dX8_judged_14 (tgt := 19) (by decide) (pc' := 17) rfl (fun c_14 => ?_) (fun c_14 => ?_)
  · refine r_aload_n X dX8_judged_19 (pc' := 20) rfl rfl ?_
    refine r_iload_n X dX8_judged_20 (pc' := 21) rfl rfl ?_
    refine r_callV (As := [_]) X okX2_keptFor lm_X8_145 dX8_judged_21 (pc' := 24) rfl (ct_X2_keptFor_t P n hn h ι φ ℓ lt ρ ω W j hj kw km ka A B k0 hL hbA k hk1 hne hk0) (by omega) (wC_jd _ _ _ _ _ _ _ _ hj) rfl rfl rfl rfl (Nat.le_of_ble_eq_true rfl) (by omega) (by omega) (by omega) ?_
    dsimp only [Option.toList, List.cons_append, List.nil_append]
    refine r_astore (vs' := [_, _, _, _, _, _]) X dX8_judged_24 (pc' := 26) rfl (by decide) rfl ?_
    refine r_aload X dX8_judged_26 (pc' := 28) rfl rfl ?_
    refine r_ifnull X dX8_judged_28 (pc' := 31) rfl ?_
    refine r_aload_n X dX8_judged_31 (pc' := 32) rfl rfl ?_
    refine r_aload X dX8_judged_32 (pc' := 34) rfl rfl ?_
    refine r_aload_n X dX8_judged_34 (pc' := 35) rfl rfl ?_
    refine r_get X fX8 lf_X8_58 dX8_judged_35 (pc' := 38) rfl (by decide) (by omega) (wC_e0 _ _ _ _ _ _ _ _) rfl ?_
    refine r_callV (As := [_, _]) X okX2_couldTell lm_X8_149 dX8_judged_38 (pc' := 41) rfl (ct_X2_couldTell P n hn h ι φ ℓ lt ρ ω W j hj k0 _ _ _ _ hkb (by omega) hek hmd) (by omega) (wC_jd _ _ _ _ _ _ _ _ hj) rfl rfl rfl rfl (Nat.le_of_ble_eq_true rfl) (by omega) (by omega) (by omega) ?_
    dsimp only [Option.toList, List.cons_append, List.nil_append]
    refine rB_if_eq X dX8_judged_41 (tgt := 60) (by decide) (pc' := 44) rfl (fun c_41 => ?_) (fun c_41 => ?_)
    · exact absurd hfr (cB_nf c_41)
    · refine r_aload_n X dX8_judged_44 (pc' := 45) rfl rfl ?_
      refine r_dup X rfl dX8_judged_45 (pc' := 46) rfl ?_
      refine r_get X fX8 lf_X8_153 dX8_judged_46 (pc' := 49) rfl (by decide) (by omega) (wC_e0 _ _ _ _ _ _ _ _) rfl ?_
      refine r_iconst (v := nI 1) X (by decide) dX8_judged_49 (pc' := 50) rfl ?_
      first | refine rN_iadd X dX8_judged_50 (pc' := 51) rfl ?_ | refine r_iadd X dX8_judged_50 (pc' := 51) rfl ?_
      refine r_put X fX8 lf_X8_153 rfl dX8_judged_51 (pc' := 54) rfl (by decide) (by omega) (wC_e0 _ _ _ _ _ _ _ _) (Nat.le_of_ble_eq_true rfl) rfl rfl ?_
      rw [wC_told]
      refine r_aload X dX8_judged_54 (pc' := 56) rfl rfl ?_
      refine r_getN X fX3 lf_X8_156 dX8_judged_56 (pc' := 59) rfl (by decide) (by omega) ((wC_out (by omega)).trans hek) rfl ?_
      exact r_iret X r dX8_judged_59 (by omega) (by omega) rfl rfl rfl rfl
  · exact absurd c_14 (by rw [askQ_n hk1, decide_eq_true hk2]; decide)
set_option maxRecDepth 100000 in
set_option maxHeartbeats 1000000 in
theorem ct_X8_judged_b (P : Px) (n : Nat) (hn : 59 ≤ n) (h : hw) (ι : Nat → Nat) (φ : Nat → Nat → Nat) (ℓ : Nat → Nat) (lt : Nat → Option Nat) (ρ : Nat → Nat → Option Nat) (ω : Nat → Nat → Nat) (W : Wf ι φ) (V0 : ∀ k, φ 2 k = 0 → φ 1 k = 0) (Rr : RR φ ρ n h) (j : Nat) (hj : j < 4) (kw km ka : Nat → Nat) (A B : List Nat) (k0 : Nat) (hL : chn P n h kw km ka (lt j) (A ++ k0 :: B)) (hbA : ∀ a ∈ A, kw a < 10000) (k : Nat) (hk1 : k < 10000) (hk2 : k % 10 < 4) (hne : ∀ a ∈ A, kw a ≠ k) (hk0 : kw k0 = k) (nx : Option Nat) (hka : 59 ≤ k0) (hkb : k0 < n) (hek : h k0 = kcell P (kw k0) nx (km k0) (ka k0)) (hmd : km k0 ≤ ι 0) (hfr : ¬ ι 0 - km k0 ≤ φ 11 j) : Ct P MX8_judged 6 1 4 [.ref (Bs P + 0), .int (nI j), .int (nI k)] n (wC P h ι φ ℓ lt ρ ω) (some (.int (nI (ansW ι φ k)))) n (wC P (hset h k0 (kcell P (kw k0) nx (ι 0) (ansW ι φ k))) ι φ ℓ lt ρ ω) := by
  refine Ct.of (by decide +kernel) (Nat.le_of_ble_eq_true rfl) rfl (fun K X hnm r => ?_)
  have X : Cx K P RX8 cX8_judged 6 6 1 4 := X
  have r : Rt K P (some .int) 1 4 _ _ _ := r
  show Z K P _ _ 0 0 0 [some (.ref (Bs P + 0)), some (.int (nI j)), some (.int (nI k)), none, none, none] []
  refine r_aload_n X dX8_judged_0 (pc' := 1) rfl rfl ?_
  refine r_iload_n X dX8_judged_1 (pc' := 2) rfl rfl ?_
  refine r_callV (As := [_]) X okX8_judgeAt lm_X8_135 dX8_judged_2 (pc' := 5) rfl (ct_X8_judgeAt_t P n hn h ι φ ℓ lt ρ ω W j hj) (by omega) (wC_e0 _ _ _ _ _ _ _ _) rfl rfl rfl rfl (Nat.le_of_ble_eq_true rfl) (by omega) (by omega) (by omega) ?_
  dsimp only [Option.toList, List.cons_append, List.nil_append]
  refine r_astore_n (vs' := [_, _, _, _, _, _]) X dX8_judged_5 (pc' := 6) rfl (by decide) rfl ?_
  refine r_aload_n X dX8_judged_6 (pc' := 7) rfl rfl ?_
  refine r_ifnull X dX8_judged_7 (pc' := 10) rfl ?_
  refine r_iload_n X dX8_judged_10 (pc' := 11) rfl rfl ?_
  refine r_callS (As := [_]) X okX8_isAsk lm_X8_113 dX8_judged_11 (pc' := 14) rfl (ct_X8_isAsk P n _ _) rfl rfl (Nat.le_of_ble_eq_true rfl) (by omega) (by omega) (by omega) ?_
  dsimp only [Option.toList, List.cons_append, List.nil_append]
  refine rB_if_ne X dX8_judged_14 (tgt := 19) (by decide) (pc' := 17) rfl (fun c_14 => ?_) (fun c_14 => ?_)
  · refine r_aload_n X dX8_judged_19 (pc' := 20) rfl rfl ?_
    refine r_iload_n X dX8_judged_20 (pc' := 21) rfl rfl ?_
    refine r_callV (As := [_]) X okX2_keptFor lm_X8_145 dX8_judged_21 (pc' := 24) rfl (ct_X2_keptFor_t P n hn h ι φ ℓ lt ρ ω W j hj kw km ka A B k0 hL hbA k hk1 hne hk0) (by omega) (wC_jd _ _ _ _ _ _ _ _ hj) rfl rfl rfl rfl (Nat.le_of_ble_eq_true rfl) (by omega) (by omega) (by omega) ?_
    dsimp only [Option.toList, List.cons_append, List.nil_append]
    refine r_astore (vs' := [_, _, _, _, _, _]) X dX8_judged_24 (pc' := 26) rfl (by decide) rfl ?_
    refine r_aload X dX8_judged_26 (pc' := 28) rfl rfl ?_
    refine r_ifnull X dX8_judged_28 (pc' := 31) rfl ?_
    refine r_aload_n X dX8_judged_31 (pc' := 32) rfl rfl ?_
    refine r_aload X dX8_judged_32 (pc' := 34) rfl rfl ?_
    refine r_aload_n X dX8_judged_34 (pc' := 35) rfl rfl ?_
    refine r_get X fX8 lf_X8_58 dX8_judged_35 (pc' := 38) rfl (by decide) (by omega) (wC_e0 _ _ _ _ _ _ _ _) rfl ?_
    refine r_callV (As := [_, _]) X okX2_couldTell lm_X8_149 dX8_judged_38 (pc' := 41) rfl (ct_X2_couldTell P n hn h ι φ ℓ lt ρ ω W j hj k0 _ _ _ _ hkb (by omega) hek hmd) (by omega) (wC_jd _ _ _ _ _ _ _ _ hj) rfl rfl rfl rfl (Nat.le_of_ble_eq_true rfl) (by omega) (by omega) (by omega) ?_
    dsimp only [Option.toList, List.cons_append, List.nil_append]
    refine rB_if_eq X dX8_judged_41 (tgt := 60) (by decide) (pc' := 44) rfl (fun c_41 => ?_) (fun c_41 => ?_)
    · refine r_aload_n X dX8_judged_60 (pc' := 61) rfl rfl ?_
      refine r_aload_n X dX8_judged_61 (pc' := 62) rfl rfl ?_
      refine r_iload_n X dX8_judged_62 (pc' := 63) rfl rfl ?_
      refine r_callV (As := [_]) X okX8_codeNow lm_X8_117 dX8_judged_63 (pc' := 66) rfl (ct_X8_codeNow P n hn h ι φ ℓ lt ρ ω W V0 k hk1 hk2) (by omega) (wC_e0 _ _ _ _ _ _ _ _) rfl rfl rfl rfl (Nat.le_of_ble_eq_true rfl) (by omega) (by omega) (by omega) ?_
      dsimp only [Option.toList, List.cons_append, List.nil_append]
      refine r_callV (As := [_]) X okX8_answerInForce lm_X8_121 dX8_judged_66 (pc' := 69) rfl (ct_X8_answerInForce P n hn h ι φ ℓ lt ρ ω W Rr _ (factN_lt W hk2)) (by omega) (wC_e0 _ _ _ _ _ _ _ _) rfl rfl rfl rfl (Nat.le_of_ble_eq_true rfl) (by omega) (by omega) (by omega) ?_
      dsimp only [Option.toList, List.cons_append, List.nil_append]
      rw [show ansN φ (ι 1) (factN ι φ k) = ansW ι φ k from rfl]
      have l_a : ansW ι φ k ≤ 2 := ansN_le _ _ _
      refine r_istore (vs' := [_, _, _, _, _, _]) X dX8_judged_69 (pc' := 71) rfl (by decide) rfl ?_
      refine r_aload X dX8_judged_71 (pc' := 73) rfl rfl ?_
      refine r_ifnonnull X dX8_judged_73 (tgt := 83) (by decide) ?_
      refine r_aload X dX8_judged_83 (pc' := 85) rfl rfl ?_
      refine r_aload_n X dX8_judged_85 (pc' := 86) rfl rfl ?_
      refine r_get X fX8 lf_X8_58 dX8_judged_86 (pc' := 89) rfl (by decide) (by omega) (wC_e0 _ _ _ _ _ _ _ _) rfl ?_
      refine r_putN X fX3 lf_X8_164 rfl dX8_judged_89 (pc' := 92) rfl (by decide) (by omega) ((wC_out (by omega)).trans hek) (Nat.le_of_ble_eq_true rfl) rfl rfl ?_
      rw [wC_g (by omega)]
      refine r_aload X dX8_judged_92 (pc' := 94) rfl rfl ?_
      refine r_iload X dX8_judged_94 (pc' := 96) rfl rfl ?_
      refine r_putN X fX3 lf_X8_156 rfl dX8_judged_96 (pc' := 99) rfl (by decide) (by omega) ((wC_out (by omega)).trans (hset_s _ _ _)) (Nat.le_of_ble_eq_true rfl) rfl rfl ?_
      rw [wC_g (by omega), hset_ss]
      refine r_iload X dX8_judged_99 (pc' := 101) rfl rfl ?_
      exact r_iret X r dX8_judged_101 (by omega) (by omega) rfl rfl rfl rfl
    · exact absurd (cB_of c_41) hfr
  · exact absurd c_14 (by rw [askQ_n hk1, decide_eq_true hk2]; decide)
set_option maxRecDepth 100000 in
set_option maxHeartbeats 1000000 in
theorem ct_X8_judged_c (P : Px) (n : Nat) (hn : 59 ≤ n) (h : hw) (ι : Nat → Nat) (φ : Nat → Nat → Nat) (ℓ : Nat → Nat) (lt : Nat → Option Nat) (ρ : Nat → Nat → Option Nat) (ω : Nat → Nat → Nat) (W : Wf ι φ) (V0 : ∀ k, φ 2 k = 0 → φ 1 k = 0) (Rr : RR φ ρ n h) (j : Nat) (hj : j < 4) (kw km ka : Nat → Nat) (L : List Nat) (hL : chn P n h kw km ka (lt j) L) (hbA : ∀ a ∈ L, kw a < 10000) (k : Nat) (hk1 : k < 10000) (hk2 : k % 10 < 4) (hne : ∀ a ∈ L, kw a ≠ k) : Ct P MX8_judged 6 1 4 [.ref (Bs P + 0), .int (nI j), .int (nI k)] n (wC P h ι φ ℓ lt ρ ω) (some (.int (nI (ansW ι φ k)))) (n + 1) (wC P (hset h n (kcell P k (lt j) (ι 0) (ansW ι φ k))) ι φ ℓ (upo lt j (some n)) ρ ω) := by
  refine Ct.of (by decide +kernel) (Nat.le_of_ble_eq_true rfl) rfl (fun K X hnm r => ?_)
  have X : Cx K P RX8 cX8_judged 6 6 1 4 := X
  have r : Rt K P (some .int) 1 4 _ _ _ := r
  show Z K P _ _ 0 0 0 [some (.ref (Bs P + 0)), some (.int (nI j)), some (.int (nI k)), none, none, none] []
  refine r_aload_n X dX8_judged_0 (pc' := 1) rfl rfl ?_
  refine r_iload_n X dX8_judged_1 (pc' := 2) rfl rfl ?_
  refine r_callV (As := [_]) X okX8_judgeAt lm_X8_135 dX8_judged_2 (pc' := 5) rfl (ct_X8_judgeAt_t P n hn h ι φ ℓ lt ρ ω W j hj) (by omega) (wC_e0 _ _ _ _ _ _ _ _) rfl rfl rfl rfl (Nat.le_of_ble_eq_true rfl) (by omega) (by omega) (by omega) ?_
  dsimp only [Option.toList, List.cons_append, List.nil_append]
  refine r_astore_n (vs' := [_, _, _, _, _, _]) X dX8_judged_5 (pc' := 6) rfl (by decide) rfl ?_
  refine r_aload_n X dX8_judged_6 (pc' := 7) rfl rfl ?_
  refine r_ifnull X dX8_judged_7 (pc' := 10) rfl ?_
  refine r_iload_n X dX8_judged_10 (pc' := 11) rfl rfl ?_
  refine r_callS (As := [_]) X okX8_isAsk lm_X8_113 dX8_judged_11 (pc' := 14) rfl (ct_X8_isAsk P n _ _) rfl rfl (Nat.le_of_ble_eq_true rfl) (by omega) (by omega) (by omega) ?_
  dsimp only [Option.toList, List.cons_append, List.nil_append]
  refine rB_if_ne X dX8_judged_14 (tgt := 19) (by decide) (pc' := 17) rfl (fun c_14 => ?_) (fun c_14 => ?_)
  · refine r_aload_n X dX8_judged_19 (pc' := 20) rfl rfl ?_
    refine r_iload_n X dX8_judged_20 (pc' := 21) rfl rfl ?_
    refine r_callV (As := [_]) X okX2_keptFor lm_X8_145 dX8_judged_21 (pc' := 24) rfl (ct_X2_keptFor_f P n hn h ι φ ℓ lt ρ ω W j hj kw km ka L hL hbA k hk1 hne) (by omega) (wC_jd _ _ _ _ _ _ _ _ hj) rfl rfl rfl rfl (Nat.le_of_ble_eq_true rfl) (by omega) (by omega) (by omega) ?_
    dsimp only [Option.toList, List.cons_append, List.nil_append]
    refine r_astoreN (vs' := [_, _, _, _, _, _]) X dX8_judged_24 (pc' := 26) rfl (by decide) rfl ?_
    refine r_aloadN X dX8_judged_26 (pc' := 28) rfl rfl ?_
    refine r_ifnullN X dX8_judged_28 (tgt := 60) (by decide) ?_
    refine r_aload_n X dX8_judged_60 (pc' := 61) rfl rfl ?_
    refine r_aload_n X dX8_judged_61 (pc' := 62) rfl rfl ?_
    refine r_iload_n X dX8_judged_62 (pc' := 63) rfl rfl ?_
    refine r_callV (As := [_]) X okX8_codeNow lm_X8_117 dX8_judged_63 (pc' := 66) rfl (ct_X8_codeNow P n hn h ι φ ℓ lt ρ ω W V0 k hk1 hk2) (by omega) (wC_e0 _ _ _ _ _ _ _ _) rfl rfl rfl rfl (Nat.le_of_ble_eq_true rfl) (by omega) (by omega) (by omega) ?_
    dsimp only [Option.toList, List.cons_append, List.nil_append]
    refine r_callV (As := [_]) X okX8_answerInForce lm_X8_121 dX8_judged_66 (pc' := 69) rfl (ct_X8_answerInForce P n hn h ι φ ℓ lt ρ ω W Rr _ (factN_lt W hk2)) (by omega) (wC_e0 _ _ _ _ _ _ _ _) rfl rfl rfl rfl (Nat.le_of_ble_eq_true rfl) (by omega) (by omega) (by omega) ?_
    dsimp only [Option.toList, List.cons_append, List.nil_append]
    rw [show ansN φ (ι 1) (factN ι φ k) = ansW ι φ k from rfl]
    have l_a : ansW ι φ k ≤ 2 := ansN_le _ _ _
    refine r_istore (vs' := [_, _, _, _, _, _]) X dX8_judged_69 (pc' := 71) rfl (by decide) rfl ?_
    refine r_aloadN X dX8_judged_71 (pc' := 73) rfl rfl ?_
    refine r_ifnonnullN X dX8_judged_73 (pc' := 76) rfl ?_
    refine r_aload_n X dX8_judged_76 (pc' := 77) rfl rfl ?_
    refine r_iload_n X dX8_judged_77 (pc' := 78) rfl rfl ?_
    refine r_callV (As := [_]) X okX2_keepMore lm_X8_161 dX8_judged_78 (pc' := 81) rfl (ct_X2_keepMore P n hn h ι φ ℓ lt ρ ω W j hj k) (by omega) (wC_jd _ _ _ _ _ _ _ _ hj) rfl rfl rfl rfl (Nat.le_of_ble_eq_true rfl) (by omega) (by omega) (by omega) ?_
    dsimp only [Option.toList, List.cons_append, List.nil_append]
    refine r_astore (vs' := [_, _, _, _, _, _]) X dX8_judged_81 (pc' := 83) rfl (by decide) rfl ?_
    refine r_aload X dX8_judged_83 (pc' := 85) rfl rfl ?_
    refine r_aload_n X dX8_judged_85 (pc' := 86) rfl rfl ?_
    refine r_get X fX8 lf_X8_58 dX8_judged_86 (pc' := 89) rfl (by decide) (by omega) (wC_e0 _ _ _ _ _ _ _ _) rfl ?_
    refine r_putN X fX3 lf_X8_164 rfl dX8_judged_89 (pc' := 92) rfl (by decide) (by omega) ((wC_out (by omega)).trans (hset_s _ _ _)) (Nat.le_of_ble_eq_true rfl) rfl rfl ?_
    rw [wC_g (by omega), hset_ss]
    refine r_aload X dX8_judged_92 (pc' := 94) rfl rfl ?_
    refine r_iload X dX8_judged_94 (pc' := 96) rfl rfl ?_
    refine r_putN X fX3 lf_X8_156 rfl dX8_judged_96 (pc' := 99) rfl (by decide) (by omega) ((wC_out (by omega)).trans (hset_s _ _ _)) (Nat.le_of_ble_eq_true rfl) rfl rfl ?_
    rw [wC_g (by omega), hset_ss]
    refine r_iload X dX8_judged_99 (pc' := 101) rfl rfl ?_
    exact r_iret X r dX8_judged_101 (by omega) (by omega) rfl rfl rfl rfl
  · exact absurd c_14 (by rw [askQ_n hk1, decide_eq_true hk2]; decide)
set_option maxRecDepth 100000 in
set_option maxHeartbeats 1000000 in
theorem ct_X8_keeps_f (P : Px) (n : Nat) (hn : 59 ≤ n) (h : hw) (ι : Nat → Nat) (φ : Nat → Nat → Nat) (ℓ : Nat → Nat) (lt : Nat → Option Nat) (ρ : Nat → Nat → Option Nat) (ω : Nat → Nat → Nat) (W : Wf ι φ) (x : Int32) (hx : inQ x (nI 3) = false) : Ct P MX8_keeps 3 0 0 [.ref (Bs P + 0), .int x] n (wC P h ι φ ℓ lt ρ ω) (some (.int (-1))) n (wC P h ι φ ℓ lt ρ ω) := by
  refine Ct.of (by decide +kernel) (Nat.le_of_ble_eq_true rfl) rfl (fun K X hnm r => ?_)
  have X : Cx K P RX8 cX8_keeps 3 3 0 0 := X
  have r : Rt K P (some .int) 0 0 _ _ _ := r
  show Z K P _ _ 0 0 0 [some (.ref (Bs P + 0)), some (.int x), none] []
  refine r_aload_n X dX8_keeps_0 (pc' := 1) rfl rfl ?_
  refine r_iload_n X dX8_keeps_1 (pc' := 2) rfl rfl ?_
  refine r_callV (As := [_]) X okX8_judgeAt lm_X8_135 dX8_keeps_2 (pc' := 5) rfl (ct_X8_judgeAt_f P n hn h ι φ ℓ lt ρ ω W x hx) (by omega) (wC_e0 _ _ _ _ _ _ _ _) rfl rfl rfl rfl (Nat.le_of_ble_eq_true rfl) (by omega) (by omega) (by omega) ?_
  dsimp only [Option.toList, List.cons_append, List.nil_append]
  refine r_astore_nN (vs' := [_, _, _]) X dX8_keeps_5 (pc' := 6) rfl (by decide) rfl ?_
  refine r_aload_nN X dX8_keeps_6 (pc' := 7) rfl rfl ?_
  refine r_ifnonnullN X dX8_keeps_7 (pc' := 10) rfl ?_
  refine r_iconst (v := (-1)) X (by decide) dX8_keeps_10 (pc' := 11) rfl ?_
  refine r_goto (tgt := 22) X dX8_keeps_11 (by decide) ?_
  exact r_iret X r dX8_keeps_22 (by omega) (by omega) rfl rfl rfl rfl
set_option maxRecDepth 100000 in
set_option maxHeartbeats 1000000 in
theorem ct_X8_keeps_t (P : Px) (n : Nat) (hn : 59 ≤ n) (h : hw) (ι : Nat → Nat) (φ : Nat → Nat → Nat) (ℓ : Nat → Nat) (lt : Nat → Option Nat) (ρ : Nat → Nat → Option Nat) (ω : Nat → Nat → Nat) (W : Wf ι φ) (j : Nat) (hj : j < 4) (kw km ka : Nat → Nat) (L : List Nat) (hL : chn P n h kw km ka (lt j) L) (hb : ∀ a ∈ L, km a ≤ ι 0) : Ct P MX8_keeps 3 0 0 [.ref (Bs P + 0), .int (nI j)] n (wC P h ι φ ℓ lt ρ ω) (some (.int (nI (lcn (fun k => cB (ι 0 - km k ≤ φ 11 j)) L)))) n (wC P h ι φ ℓ lt ρ ω) := by
  refine Ct.of (by decide +kernel) (Nat.le_of_ble_eq_true rfl) rfl (fun K X hnm r => ?_)
  have X : Cx K P RX8 cX8_keeps 3 3 0 0 := X
  have r : Rt K P (some .int) 0 0 _ _ _ := r
  show Z K P _ _ 0 0 0 [some (.ref (Bs P + 0)), some (.int (nI j)), none] []
  refine r_aload_n X dX8_keeps_0 (pc' := 1) rfl rfl ?_
  refine r_iload_n X dX8_keeps_1 (pc' := 2) rfl rfl ?_
  refine r_callV (As := [_]) X okX8_judgeAt lm_X8_135 dX8_keeps_2 (pc' := 5) rfl (ct_X8_judgeAt_t P n hn h ι φ ℓ lt ρ ω W j hj) (by omega) (wC_e0 _ _ _ _ _ _ _ _) rfl rfl rfl rfl (Nat.le_of_ble_eq_true rfl) (by omega) (by omega) (by omega) ?_
  dsimp only [Option.toList, List.cons_append, List.nil_append]
  refine r_astore_n (vs' := [_, _, _]) X dX8_keeps_5 (pc' := 6) rfl (by decide) rfl ?_
  refine r_aload_n X dX8_keeps_6 (pc' := 7) rfl rfl ?_
  refine r_ifnonnull X dX8_keeps_7 (tgt := 14) (by decide) ?_
  refine r_aload_n X dX8_keeps_14 (pc' := 15) rfl rfl ?_
  refine r_aload_n X dX8_keeps_15 (pc' := 16) rfl rfl ?_
  refine r_get X fX8 lf_X8_58 dX8_keeps_16 (pc' := 19) rfl (by decide) (by omega) (wC_e0 _ _ _ _ _ _ _ _) rfl ?_
  refine r_callV (As := [_]) X okX2_tellable lm_X8_167 dX8_keeps_19 (pc' := 22) rfl (ct_X2_tellable P n hn h ι φ ℓ lt ρ ω W j hj kw km ka L hL hb) (by omega) (wC_jd _ _ _ _ _ _ _ _ hj) rfl rfl rfl rfl (Nat.le_of_ble_eq_true rfl) (by omega) (by omega) (by omega) ?_
  dsimp only [Option.toList, List.cons_append, List.nil_append]
  exact r_iret X r dX8_keeps_22 (by omega) (by omega) rfl rfl rfl rfl
set_option maxRecDepth 100000 in
set_option maxHeartbeats 1000000 in
theorem ct_X8_lost (P : Px) (n : Nat) (hn : 59 ≤ n) (h : hw) (ι : Nat → Nat) (φ : Nat → Nat → Nat) (ℓ : Nat → Nat) (lt : Nat → Option Nat) (ρ : Nat → Nat → Option Nat) (ω : Nat → Nat → Nat) (W : Wf ι φ) (Rr : RR φ ρ n h) (H19 : ∀ i, φ 19 i ≤ 2) : Ct P MX8_lost 5 0 0 [.ref (Bs P + 0)] n (wC P h ι φ ℓ lt ρ ω) (some (.int (nI (lostN ι φ)))) n (wC P h ι φ ℓ lt ρ ω) := by
  refine Ct.of (by decide +kernel) (Nat.le_of_ble_eq_true rfl) rfl (fun K X hnm r => ?_)
  have X : Cx K P RX8 cX8_lost 5 5 0 0 := X
  have r : Rt K P (some .int) 0 0 _ _ _ := r
  show Z K P _ _ 0 0 0 [some (.ref (Bs P + 0)), none, none, none, none] []
  have bi := W.inF
  have ba := W.asks
  refine r_aload_n X dX8_lost_0 (pc' := 1) rfl rfl ?_
  refine r_get X fX8 lf_X8_29 dX8_lost_1 (pc' := 4) rfl (by decide) (by omega) (wC_e0 _ _ _ _ _ _ _ _) rfl ?_
  refine r_iconst (v := nI 1) X (by decide) dX8_lost_4 (pc' := 5) rfl ?_
  refine r_aload_n X dX8_lost_5 (pc' := 6) rfl rfl ?_
  refine r_get X fX8 lf_X8_203 dX8_lost_6 (pc' := 9) rfl (by decide) (by omega) (wC_e0 _ _ _ _ _ _ _ _) rfl ?_
  first | refine rN_isub X dX8_lost_9 (pc' := 10) rfl (by omega) ?_ | refine r_isub X dX8_lost_9 (pc' := 10) rfl ?_
  refine r_aald (t := 3) X rfl rfl dX8_lost_10 (pc' := 11) rfl (by omega) (wC_e15 _ _ _ _ _ _ _ _) (by omega) (by omega) ?_
  rw [hp_ref (by omega)]
  refine r_astore_n (vs' := [_, _, _, _, _]) X dX8_lost_11 (pc' := 12) rfl (by decide) rfl ?_
  refine r_iconst (v := nI 0) X (by decide) dX8_lost_12 (pc' := 13) rfl ?_
  refine r_istore_n (vs' := [_, _, _, _, _]) X dX8_lost_13 (pc' := 14) rfl (by decide) rfl ?_
  refine r_iconst (v := nI 0) X (by decide) dX8_lost_14 (pc' := 15) rfl ?_
  refine r_aload_n X dX8_lost_15 (pc' := 16) rfl rfl ?_
  refine r_get X fX8 lf_X8_43 dX8_lost_16 (pc' := 19) rfl (by decide) (by omega) (wC_e0 _ _ _ _ _ _ _ _) rfl ?_
  refine r_getN X fX0 lf_X8_206 dX8_lost_19 (pc' := 22) rfl (by decide) (by omega) (wC_e25 _ _ _ _ _ _ _ _) rfl ?_
  refine r_bipush (v := nI 40) X (by decide) dX8_lost_22 (pc' := 24) rfl ?_
  first | refine rN_isub X dX8_lost_24 (pc' := 25) rfl (by omega) ?_ | refine r_isub X dX8_lost_24 (pc' := 25) rfl ?_
  refine r_callS (As := [_, _]) X okJ9_max_7cf53 lm_X8_128 dX8_lost_25 (pc' := 28) rfl (ct_J9_max_7cf53 P n _ _ _) rfl rfl (Nat.le_of_ble_eq_true rfl) (by omega) (by omega) (by omega) ?_
  dsimp only [Option.toList, List.cons_append, List.nil_append]
  rw [max_sub ba]
  refine r_istore_n (vs' := [_, _, _, _, _]) X dX8_lost_28 (pc' := 29) rfl (by decide) rfl ?_
  have loop : ∀ (m_ : Nat) (k : Nat) (o : Option Value), ι 2 - (ι 2 - 40) - k < m_ → (k ≤ ι 2 - (ι 2 - 40)) → Z K P n (wC P h ι φ ℓ lt ρ ω) 0 0 29 [some (.ref (Bs P + 0)), some (.ref (Bs P + (16 + 2 * (1 - ι 1)))), some (.int (nI (cntN (fun k => lostB ι φ (ι 2 - 40 + k)) k))), some (.int (nI (ι 2 - 40 + k))), o] [] := by
    intro m_
    induction m_ with
    | zero => intro k o hm_; exact absurd hm_ (Nat.not_lt_zero _)
    | succ m_ ih =>
      intro k o hm_ hk
      refine r_iload_n X dX8_lost_29 (pc' := 30) rfl rfl ?_
      refine r_aload_n X dX8_lost_30 (pc' := 31) rfl rfl ?_
      refine r_get X fX8 lf_X8_43 dX8_lost_31 (pc' := 34) rfl (by decide) (by omega) (wC_e0 _ _ _ _ _ _ _ _) rfl ?_
      refine r_getN X fX0 lf_X8_206 dX8_lost_34 (pc' := 37) rfl (by decide) (by omega) (wC_e25 _ _ _ _ _ _ _ _) rfl ?_
      refine rN_icmp_ge X dX8_lost_37 (tgt := 93) (by decide) (pc' := 40) rfl (by omega) (by omega) (fun c_37 => ?_) (fun c_37 => ?_)
      · refine r_iload_n X dX8_lost_93 (pc' := 94) rfl rfl ?_
        exact r_iret X r dX8_lost_94 (by omega) (by omega) rfl (by rw [show k = ι 2 - (ι 2 - 40) by omega]; rfl) rfl rfl
      · refine r_aload_n X dX8_lost_40 (pc' := 41) rfl rfl ?_
        refine r_get X fX8 lf_X8_43 dX8_lost_41 (pc' := 44) rfl (by decide) (by omega) (wC_e0 _ _ _ _ _ _ _ _) rfl ?_
        refine r_iload_n X dX8_lost_44 (pc' := 45) rfl rfl ?_
        refine r_iconst (v := nI 3) X (by decide) dX8_lost_45 (pc' := 46) rfl ?_
        refine r_callV (As := [_, _]) X okX0_read lm_X8_200 dX8_lost_46 (pc' := 49) rfl (ct_X0_read P n hn h ι φ ℓ lt ρ ω W _ _) (by omega) (wC_e25 _ _ _ _ _ _ _ _) rfl rfl rfl rfl (Nat.le_of_ble_eq_true rfl) (by omega) (by omega) (by omega) ?_
        dsimp only [Option.toList, List.cons_append, List.nil_append]
        rw [show aLog ι φ (nI (ι 2 - 40 + k)) (nI 3) = nI (φ 19 (ι 2 - 40 + k)) from aLog_c (by rw [inB_n (by omega) (by omega)]; exact decide_eq_true (by omega)) (by omega) (by decide)]
        have b19 := H19 (ι 2 - 40 + k)
        refine rN_if_ne X dX8_lost_49 (tgt := 56) (by decide) (pc' := 52) rfl (by omega) (fun c_49 => ?_) (fun c_49 => ?_)
        · refine r_iconst (v := nI 0) X (by decide) dX8_lost_56 (pc' := 57) rfl ?_
          refine r_istore (vs' := [_, _, _, _, _]) X dX8_lost_57 (pc' := 59) rfl (by decide) rfl ?_
          refine r_iload X dX8_lost_59 (pc' := 61) rfl rfl ?_
          refine rN_if_eq X dX8_lost_61 (tgt := 87) (by decide) (pc' := 64) rfl (by omega) (fun c_61 => ?_) (fun c_61 => ?_)
          · have hs : cntN (fun k => lostB ι φ (ι 2 - 40 + k)) (k + 1) = cntN (fun k => lostB ι φ (ι 2 - 40 + k)) k := by
              simp only [cntN]; rw [if_neg (by unfold lostB; first | (simp [c_49]; done) | (exfalso; omega))]; rfl
            refine r_iincN (vs' := [_, _, _, _, _]) X dX8_lost_87 (pc' := 90) rfl (by decide) rfl rfl ?_
            refine r_goto (tgt := 29) X dX8_lost_90 (by decide) ?_
            have l1 := fun o => ih (k + 1) o (by omega) (by omega)
            rw [hs] at l1
            exact l1 _
          · refine r_aload_n X dX8_lost_64 (pc' := 65) rfl rfl ?_
            refine r_aload_n X dX8_lost_65 (pc' := 66) rfl rfl ?_
            refine r_get X fX8 lf_X8_43 dX8_lost_66 (pc' := 69) rfl (by decide) (by omega) (wC_e0 _ _ _ _ _ _ _ _) rfl ?_
            refine r_iload_n X dX8_lost_69 (pc' := 70) rfl rfl ?_
            refine r_iconst (v := nI 2) X (by decide) dX8_lost_70 (pc' := 71) rfl ?_
            refine r_callV (As := [_, _]) X okX0_read lm_X8_200 dX8_lost_71 (pc' := 74) rfl (ct_X0_read P n hn h ι φ ℓ lt ρ ω W _ _) (by omega) (wC_e25 _ _ _ _ _ _ _ _) rfl rfl rfl rfl (Nat.le_of_ble_eq_true rfl) (by omega) (by omega) (by omega) ?_
            dsimp only [Option.toList, List.cons_append, List.nil_append]
            rw [show aLog ι φ (nI (ι 2 - 40 + k)) (nI 2) = nI (φ 18 (ι 2 - 40 + k)) from aLog_c (by rw [inB_n (by omega) (by omega)]; exact decide_eq_true (by omega)) (by omega) (by decide)]
            refine r_aload_n X dX8_lost_74 (pc' := 75) rfl rfl ?_
            refine r_get X fX8 lf_X8_22 dX8_lost_75 (pc' := 78) rfl (by decide) (by omega) (wC_e0 _ _ _ _ _ _ _ _) rfl ?_
            refine r_callV (As := [_, _]) X okX1_isLet lm_X8_207 dX8_lost_78 (pc' := 81) rfl (ct_X1_isLet P n hn h ι φ ℓ lt ρ ω W (1 - ι 1) (by omega) Rr _ (W.v18 _)) (by omega) (wC_hp _ _ _ _ _ _ _ _ (show 1 - ι 1 < 2 by omega)) rfl rfl rfl rfl (Nat.le_of_ble_eq_true rfl) (by omega) (by omega) (by omega) ?_
            dsimp only [Option.toList, List.cons_append, List.nil_append]
            refine rB_if_ne X dX8_lost_81 (tgt := 87) (by decide) (pc' := 84) rfl (fun c_81 => ?_) (fun c_81 => ?_)
            · have hs : cntN (fun k => lostB ι φ (ι 2 - 40 + k)) (k + 1) = cntN (fun k => lostB ι φ (ι 2 - 40 + k)) k := by
                simp only [cntN]; rw [if_neg (by unfold lostB; simp [c_81])]; rfl
              refine r_iincN (vs' := [_, _, _, _, _]) X dX8_lost_87 (pc' := 90) rfl (by decide) rfl rfl ?_
              refine r_goto (tgt := 29) X dX8_lost_90 (by decide) ?_
              have l1 := fun o => ih (k + 1) o (by omega) (by omega)
              rw [hs] at l1
              exact l1 _
            · have hs : cntN (fun k => lostB ι φ (ι 2 - 40 + k)) (k + 1) = cntN (fun k => lostB ι φ (ι 2 - 40 + k)) k + 1 := by
                simp only [cntN]; rw [if_pos (by unfold lostB; rw [c_81]; first | (simp [c_49]; done) | (exfalso; omega))]
              refine r_iincN (vs' := [_, _, _, _, _]) X dX8_lost_84 (pc' := 87) rfl (by decide) rfl rfl ?_
              refine r_iincN (vs' := [_, _, _, _, _]) X dX8_lost_87 (pc' := 90) rfl (by decide) rfl rfl ?_
              refine r_goto (tgt := 29) X dX8_lost_90 (by decide) ?_
              have l1 := fun o => ih (k + 1) o (by omega) (by omega)
              rw [hs] at l1
              exact l1 _
        · refine r_iconst (v := nI 1) X (by decide) dX8_lost_52 (pc' := 53) rfl ?_
          refine r_goto (tgt := 57) X dX8_lost_53 (by decide) ?_
          refine r_istore (vs' := [_, _, _, _, _]) X dX8_lost_57 (pc' := 59) rfl (by decide) rfl ?_
          refine r_iload X dX8_lost_59 (pc' := 61) rfl rfl ?_
          refine rN_if_eq X dX8_lost_61 (tgt := 87) (by decide) (pc' := 64) rfl (by omega) (fun c_61 => ?_) (fun c_61 => ?_)
          · have hs : cntN (fun k => lostB ι φ (ι 2 - 40 + k)) (k + 1) = cntN (fun k => lostB ι φ (ι 2 - 40 + k)) k := by
              simp only [cntN]; rw [if_neg (by unfold lostB; first | (simp [c_49]; done) | (exfalso; omega))]; rfl
            refine r_iincN (vs' := [_, _, _, _, _]) X dX8_lost_87 (pc' := 90) rfl (by decide) rfl rfl ?_
            refine r_goto (tgt := 29) X dX8_lost_90 (by decide) ?_
            have l1 := fun o => ih (k + 1) o (by omega) (by omega)
            rw [hs] at l1
            exact l1 _
          · refine r_aload_n X dX8_lost_64 (pc' := 65) rfl rfl ?_
            refine r_aload_n X dX8_lost_65 (pc' := 66) rfl rfl ?_
            refine r_get X fX8 lf_X8_43 dX8_lost_66 (pc' := 69) rfl (by decide) (by omega) (wC_e0 _ _ _ _ _ _ _ _) rfl ?_
            refine r_iload_n X dX8_lost_69 (pc' := 70) rfl rfl ?_
            refine r_iconst (v := nI 2) X (by decide) dX8_lost_70 (pc' := 71) rfl ?_
            refine r_callV (As := [_, _]) X okX0_read lm_X8_200 dX8_lost_71 (pc' := 74) rfl (ct_X0_read P n hn h ι φ ℓ lt ρ ω W _ _) (by omega) (wC_e25 _ _ _ _ _ _ _ _) rfl rfl rfl rfl (Nat.le_of_ble_eq_true rfl) (by omega) (by omega) (by omega) ?_
            dsimp only [Option.toList, List.cons_append, List.nil_append]
            rw [show aLog ι φ (nI (ι 2 - 40 + k)) (nI 2) = nI (φ 18 (ι 2 - 40 + k)) from aLog_c (by rw [inB_n (by omega) (by omega)]; exact decide_eq_true (by omega)) (by omega) (by decide)]
            refine r_aload_n X dX8_lost_74 (pc' := 75) rfl rfl ?_
            refine r_get X fX8 lf_X8_22 dX8_lost_75 (pc' := 78) rfl (by decide) (by omega) (wC_e0 _ _ _ _ _ _ _ _) rfl ?_
            refine r_callV (As := [_, _]) X okX1_isLet lm_X8_207 dX8_lost_78 (pc' := 81) rfl (ct_X1_isLet P n hn h ι φ ℓ lt ρ ω W (1 - ι 1) (by omega) Rr _ (W.v18 _)) (by omega) (wC_hp _ _ _ _ _ _ _ _ (show 1 - ι 1 < 2 by omega)) rfl rfl rfl rfl (Nat.le_of_ble_eq_true rfl) (by omega) (by omega) (by omega) ?_
            dsimp only [Option.toList, List.cons_append, List.nil_append]
            refine rB_if_ne X dX8_lost_81 (tgt := 87) (by decide) (pc' := 84) rfl (fun c_81 => ?_) (fun c_81 => ?_)
            · have hs : cntN (fun k => lostB ι φ (ι 2 - 40 + k)) (k + 1) = cntN (fun k => lostB ι φ (ι 2 - 40 + k)) k := by
                simp only [cntN]; rw [if_neg (by unfold lostB; simp [c_81])]; rfl
              refine r_iincN (vs' := [_, _, _, _, _]) X dX8_lost_87 (pc' := 90) rfl (by decide) rfl rfl ?_
              refine r_goto (tgt := 29) X dX8_lost_90 (by decide) ?_
              have l1 := fun o => ih (k + 1) o (by omega) (by omega)
              rw [hs] at l1
              exact l1 _
            · have hs : cntN (fun k => lostB ι φ (ι 2 - 40 + k)) (k + 1) = cntN (fun k => lostB ι φ (ι 2 - 40 + k)) k + 1 := by
                simp only [cntN]; rw [if_pos (by unfold lostB; rw [c_81]; first | (simp [c_49]; done) | (exfalso; omega))]
              refine r_iincN (vs' := [_, _, _, _, _]) X dX8_lost_84 (pc' := 87) rfl (by decide) rfl rfl ?_
              refine r_iincN (vs' := [_, _, _, _, _]) X dX8_lost_87 (pc' := 90) rfl (by decide) rfl rfl ?_
              refine r_goto (tgt := 29) X dX8_lost_90 (by decide) ?_
              have l1 := fun o => ih (k + 1) o (by omega) (by omega)
              rw [hs] at l1
              exact l1 _
  exact loop _ 0 none (Nat.lt_succ_self _) (Nat.zero_le _)
set_option maxRecDepth 100000 in
set_option maxHeartbeats 1000000 in
theorem ct_X8_move_f (P : Px) (n : Nat) (hn : 59 ≤ n) (h : hw) (ι : Nat → Nat) (φ : Nat → Nat → Nat) (ℓ : Nat → Nat) (lt : Nat → Option Nat) (ρ : Nat → Nat → Option Nat) (ω : Nat → Nat → Nat) (W : Wf ι φ) (Rr : RR φ ρ n h) (H19 : ∀ i, φ 19 i ≤ 2) (x : Int32) (hno : ¬ movOK ι φ x) : Ct P MX8_move 6 0 0 [.ref (Bs P + 0), .int x] n (wC P h ι φ ℓ lt ρ ω) (some (.int (bI false))) n (wC P h ι φ ℓ lt ρ ω) := by
  refine Ct.of (by decide +kernel) (Nat.le_of_ble_eq_true rfl) rfl (fun K X hnm r => ?_)
  have X : Cx K P RX8 cX8_move 2 6 0 0 := X
  have r : Rt K P (some .boolean) 0 0 _ _ _ := r
  show Z K P _ _ 0 0 0 [some (.ref (Bs P + 0)), some (.int x)] []
  refine r_iload_n X dX8_move_0 (pc' := 1) rfl rfl ?_
  refine r_if_ne X dX8_move_1 (tgt := 13) (by decide) (pc' := 4) rfl (fun c_1 => ?_) (fun c_1 => ?_)
  · exact absurd (Or.inl c_1) hno
  · refine r_aload_n X dX8_move_4 (pc' := 5) rfl rfl ?_
    refine r_callV (As := []) X okX8_lost lm_X8_211 dX8_move_5 (pc' := 8) rfl (ct_X8_lost P n hn h ι φ ℓ lt ρ ω W Rr H19) (by omega) (wC_e0 _ _ _ _ _ _ _ _) rfl rfl rfl rfl (Nat.le_of_ble_eq_true rfl) (by omega) (by omega) (by omega) ?_
    dsimp only [Option.toList, List.cons_append, List.nil_append]
    have bl := lostN_le (ι := ι) (φ := φ)
    refine rN_if_le X dX8_move_8 (tgt := 13) (by decide) (pc' := 11) rfl (by omega) (fun c_8 => ?_) (fun c_8 => ?_)
    · exact absurd (Or.inr c_8) hno
    · refine r_iconst (v := nI 0) X (by decide) dX8_move_11 (pc' := 12) rfl ?_
      exact r_iret X r dX8_move_12 (by omega) (by omega) rfl rfl rfl rfl
set_option maxRecDepth 100000 in
set_option maxHeartbeats 1000000 in
theorem ct_X8_move_t (P : Px) (n : Nat) (hn : 59 ≤ n) (h : hw) (ι : Nat → Nat) (φ : Nat → Nat → Nat) (ℓ : Nat → Nat) (lt : Nat → Option Nat) (ρ : Nat → Nat → Option Nat) (ω : Nat → Nat → Nat) (W : Wf ι φ) (Rr : RR φ ρ n h) (H19 : ∀ i, φ 19 i ≤ 2) (x : Int32) (hye : movOK ι φ x) : Ct P MX8_move 6 0 0 [.ref (Bs P + 0), .int x] n (wC P h ι φ ℓ lt ρ ω) (some (.int (bI true))) n (wC P h (up1 ι 1 (1 - ι 1)) φ (slN φ ℓ 4) (stN φ lt 4) ρ ω) := by
  refine Ct.of (by decide +kernel) (Nat.le_of_ble_eq_true rfl) rfl (fun K X hnm r => ?_)
  have X : Cx K P RX8 cX8_move 2 6 0 0 := X
  have r : Rt K P (some .boolean) 0 0 _ _ _ := r
  show Z K P _ _ 0 0 0 [some (.ref (Bs P + 0)), some (.int x)] []
  have bi := W.inF
  refine r_iload_n X dX8_move_0 (pc' := 1) rfl rfl ?_
  refine r_if_ne X dX8_move_1 (tgt := 13) (by decide) (pc' := 4) rfl (fun c_1 => ?_) (fun c_1 => ?_)
  · refine r_aload_n X dX8_move_13 (pc' := 14) rfl rfl ?_
    refine r_iconst (v := nI 1) X (by decide) dX8_move_14 (pc' := 15) rfl ?_
    refine r_aload_n X dX8_move_15 (pc' := 16) rfl rfl ?_
    refine r_get X fX8 lf_X8_203 dX8_move_16 (pc' := 19) rfl (by decide) (by omega) (wC_e0 _ _ _ _ _ _ _ _) rfl ?_
    first | refine rN_isub X dX8_move_19 (pc' := 20) rfl (by omega) ?_ | refine r_isub X dX8_move_19 (pc' := 20) rfl ?_
    refine r_put X fX8 lf_X8_203 rfl dX8_move_20 (pc' := 23) rfl (by decide) (by omega) (wC_e0 _ _ _ _ _ _ _ _) (Nat.le_of_ble_eq_true rfl) rfl rfl ?_
    rw [wC_inF]
    refine r_aload_n X dX8_move_23 (pc' := 24) rfl rfl ?_
    refine r_callV (As := []) X okX8_sendLetters lm_X8_75 dX8_move_24 (pc' := 27) rfl (ct_X8_sendLetters P n hn h (up1 ι 1 (1 - ι 1)) φ ℓ lt ρ ω (W.re rfl (by show 1 - ι 1 ≤ 1; omega) W.asks)) (by omega) (wC_e0 _ _ _ _ _ _ _ _) rfl rfl rfl rfl (Nat.le_of_ble_eq_true rfl) (by omega) (by omega) (by omega) ?_
    dsimp only [Option.toList, List.cons_append, List.nil_append]
    refine r_iconst (v := nI 1) X (by decide) dX8_move_27 (pc' := 28) rfl ?_
    exact r_iret X r dX8_move_28 (by omega) (by omega) rfl rfl rfl rfl
  · refine r_aload_n X dX8_move_4 (pc' := 5) rfl rfl ?_
    refine r_callV (As := []) X okX8_lost lm_X8_211 dX8_move_5 (pc' := 8) rfl (ct_X8_lost P n hn h ι φ ℓ lt ρ ω W Rr H19) (by omega) (wC_e0 _ _ _ _ _ _ _ _) rfl rfl rfl rfl (Nat.le_of_ble_eq_true rfl) (by omega) (by omega) (by omega) ?_
    dsimp only [Option.toList, List.cons_append, List.nil_append]
    have bl := lostN_le (ι := ι) (φ := φ)
    refine rN_if_le X dX8_move_8 (tgt := 13) (by decide) (pc' := 11) rfl (by omega) (fun c_8 => ?_) (fun c_8 => ?_)
    · refine r_aload_n X dX8_move_13 (pc' := 14) rfl rfl ?_
      refine r_iconst (v := nI 1) X (by decide) dX8_move_14 (pc' := 15) rfl ?_
      refine r_aload_n X dX8_move_15 (pc' := 16) rfl rfl ?_
      refine r_get X fX8 lf_X8_203 dX8_move_16 (pc' := 19) rfl (by decide) (by omega) (wC_e0 _ _ _ _ _ _ _ _) rfl ?_
      first | refine rN_isub X dX8_move_19 (pc' := 20) rfl (by omega) ?_ | refine r_isub X dX8_move_19 (pc' := 20) rfl ?_
      refine r_put X fX8 lf_X8_203 rfl dX8_move_20 (pc' := 23) rfl (by decide) (by omega) (wC_e0 _ _ _ _ _ _ _ _) (Nat.le_of_ble_eq_true rfl) rfl rfl ?_
      rw [wC_inF]
      refine r_aload_n X dX8_move_23 (pc' := 24) rfl rfl ?_
      refine r_callV (As := []) X okX8_sendLetters lm_X8_75 dX8_move_24 (pc' := 27) rfl (ct_X8_sendLetters P n hn h (up1 ι 1 (1 - ι 1)) φ ℓ lt ρ ω (W.re rfl (by show 1 - ι 1 ≤ 1; omega) W.asks)) (by omega) (wC_e0 _ _ _ _ _ _ _ _) rfl rfl rfl rfl (Nat.le_of_ble_eq_true rfl) (by omega) (by omega) (by omega) ?_
      dsimp only [Option.toList, List.cons_append, List.nil_append]
      refine r_iconst (v := nI 1) X (by decide) dX8_move_27 (pc' := 28) rfl ?_
      exact r_iret X r dX8_move_28 (by omega) (by omega) rfl rfl rfl rfl
    · exact absurd hye (fun q => q.elim (fun z => z c_1) c_8)
