/-! ===== AskTrust: its own methods ===== -/
theorem inB_c {k m : Nat} {A : Prop} (hk : k < m) (hm : m < 2 ^ 31) (c : inB (nI k) (nI m) = false) : A := by
  rw [inB_n (by omega) hm, decide_eq_true hk] at c
  cases c
theorem inQ_c {k m : Nat} {A : Prop} (hk : k ≤ m) (hm : m < 2 ^ 31) (c : inQ (nI k) (nI m) = false) : A := by
  rw [inQ_n (by omega) hm, decide_eq_true hk] at c
  cases c
theorem hp_ref {P : Px} {hp : Nat} (hh : hp < 2) : va_rf (va_up (va_up (fun _ => none) 0 (some (Bs P + 16))) 1 (some (Bs P + 18)) hp) = .ref (Bs P + (16 + 2 * hp)) := by
  match hp, hh with
  | 0, _ => rfl
  | 1, _ => rfl
theorem jd_ref {P : Px} {j : Nat} (hj : j < 4) : va_rf (va_up (va_up (va_up (va_up (fun _ => none) 0 (some (Bs P + 21))) 1 (some (Bs P + 22))) 2 (some (Bs P + 23))) 3 (some (Bs P + 24)) j) = .ref (Bs P + (21 + j)) := by
  match j, hj with
  | 0, _ => rfl
  | 1, _ => rfl
  | 2, _ => rfl
  | 3, _ => rfl
set_option maxRecDepth 100000 in
set_option maxHeartbeats 1000000 in
theorem ct_X8_heapAt_t (P : Px) (n : Nat) (hn : 59 ≤ n) (h : hw) (ι : Nat → Nat) (φ : Nat → Nat → Nat) (ℓ : Nat → Nat) (lt : Nat → Option Nat) (ρ : Nat → Nat → Option Nat) (ω : Nat → Nat → Nat) (W : Wf ι φ) (hp : Nat) (hh : hp < 2) : Ct P MX8_heapAt 1 0 0 [.ref (Bs P + 0), .int (nI hp)] n (wC P h ι φ ℓ lt ρ ω) (some (.ref (Bs P + (16 + 2 * hp)))) n (wC P h ι φ ℓ lt ρ ω) := by
  refine Ct.of (by decide +kernel) (Nat.le_of_ble_eq_true rfl) rfl (fun K X hnm r => ?_)
  have X : Cx K P RX8 cX8_heapAt 2 1 0 0 := X
  have r : Rt K P (some (.object "AskTrust$Heap")) 0 0 _ _ _ := r
  show Z K P _ _ 0 0 0 [some (.ref (Bs P + 0)), some (.int (nI hp))] []
  refine r_iload_n X dX8_heapAt_0 (pc' := 1) rfl rfl ?_
  refine r_aload_n X dX8_heapAt_1 (pc' := 2) rfl rfl ?_
  refine r_get X fX8 lf_X8_29 dX8_heapAt_2 (pc' := 5) rfl (by decide) (by omega) (wC_e0 _ _ _ _ _ _ _ _) rfl ?_
  refine r_alen (t := 3) X rfl dX8_heapAt_5 (pc' := 6) rfl (by omega) (wC_e15 _ _ _ _ _ _ _ _) ?_
  dsimp only
  refine r_callS (As := [_, _]) X okX8_isBelow lm_X8_72 dX8_heapAt_6 (pc' := 9) rfl (ct_X8_isBelow P n _ _ _) rfl rfl (Nat.le_of_ble_eq_true rfl) (by omega) (by omega) (by omega) ?_
  dsimp only [Option.toList, List.cons_append, List.nil_append]
  refine rB_if_eq X dX8_heapAt_9 (tgt := 21) (by decide) (pc' := 12) rfl (fun c_9 => ?_) (fun c_9 => ?_)
  · exact inB_c hh (by decide) c_9
  · refine r_aload_n X dX8_heapAt_12 (pc' := 13) rfl rfl ?_
    refine r_get X fX8 lf_X8_29 dX8_heapAt_13 (pc' := 16) rfl (by decide) (by omega) (wC_e0 _ _ _ _ _ _ _ _) rfl ?_
    refine r_iload_n X dX8_heapAt_16 (pc' := 17) rfl rfl ?_
    refine r_aald (t := 3) X rfl rfl dX8_heapAt_17 (pc' := 18) rfl (by omega) (wC_e15 _ _ _ _ _ _ _ _) (by omega) (by omega) ?_
    rw [hp_ref hh]
    refine r_goto (tgt := 22) X dX8_heapAt_18 (by decide) ?_
    exact r_aret X r dX8_heapAt_22 (by omega) (by omega) (Or.inr ⟨_, rfl⟩) rfl rfl rfl
set_option maxRecDepth 100000 in
set_option maxHeartbeats 1000000 in
theorem ct_X8_heapAt_f (P : Px) (n : Nat) (hn : 59 ≤ n) (h : hw) (ι : Nat → Nat) (φ : Nat → Nat → Nat) (ℓ : Nat → Nat) (lt : Nat → Option Nat) (ρ : Nat → Nat → Option Nat) (ω : Nat → Nat → Nat) (W : Wf ι φ) (x : Int32) (hx : inQ x (nI 1) = false) : Ct P MX8_heapAt 1 0 0 [.ref (Bs P + 0), .int x] n (wC P h ι φ ℓ lt ρ ω) (some .null) n (wC P h ι φ ℓ lt ρ ω) := by
  refine Ct.of (by decide +kernel) (Nat.le_of_ble_eq_true rfl) rfl (fun K X hnm r => ?_)
  have X : Cx K P RX8 cX8_heapAt 2 1 0 0 := X
  have r : Rt K P (some (.object "AskTrust$Heap")) 0 0 _ _ _ := r
  show Z K P _ _ 0 0 0 [some (.ref (Bs P + 0)), some (.int x)] []
  refine r_iload_n X dX8_heapAt_0 (pc' := 1) rfl rfl ?_
  refine r_aload_n X dX8_heapAt_1 (pc' := 2) rfl rfl ?_
  refine r_get X fX8 lf_X8_29 dX8_heapAt_2 (pc' := 5) rfl (by decide) (by omega) (wC_e0 _ _ _ _ _ _ _ _) rfl ?_
  refine r_alen (t := 3) X rfl dX8_heapAt_5 (pc' := 6) rfl (by omega) (wC_e15 _ _ _ _ _ _ _ _) ?_
  dsimp only
  refine r_callS (As := [_, _]) X okX8_isBelow lm_X8_72 dX8_heapAt_6 (pc' := 9) rfl (ct_X8_isBelow P n _ _ _) rfl rfl (Nat.le_of_ble_eq_true rfl) (by omega) (by omega) (by omega) ?_
  dsimp only [Option.toList, List.cons_append, List.nil_append]
  rw [inB_Q x 1 (by decide), hx]
  refine rB_if_eq X dX8_heapAt_9 (tgt := 21) (by decide) (pc' := 12) rfl (fun c_9 => ?_) (fun c_9 => ?_)
  · refine r_null X dX8_heapAt_21 (pc' := 22) rfl ?_
    exact r_aret X r dX8_heapAt_22 (by omega) (by omega) (Or.inl rfl) rfl rfl rfl
  · cases c_9
set_option maxRecDepth 100000 in
set_option maxHeartbeats 1000000 in
theorem ct_X8_judgeAt_t (P : Px) (n : Nat) (hn : 59 ≤ n) (h : hw) (ι : Nat → Nat) (φ : Nat → Nat → Nat) (ℓ : Nat → Nat) (lt : Nat → Option Nat) (ρ : Nat → Nat → Option Nat) (ω : Nat → Nat → Nat) (W : Wf ι φ) (j : Nat) (hj : j < 4) : Ct P MX8_judgeAt 1 0 0 [.ref (Bs P + 0), .int (nI j)] n (wC P h ι φ ℓ lt ρ ω) (some (.ref (Bs P + (21 + j)))) n (wC P h ι φ ℓ lt ρ ω) := by
  refine Ct.of (by decide +kernel) (Nat.le_of_ble_eq_true rfl) rfl (fun K X hnm r => ?_)
  have X : Cx K P RX8 cX8_judgeAt 2 1 0 0 := X
  have r : Rt K P (some (.object "AskTrust$Judge")) 0 0 _ _ _ := r
  show Z K P _ _ 0 0 0 [some (.ref (Bs P + 0)), some (.int (nI j))] []
  refine r_iload_n X dX8_judgeAt_0 (pc' := 1) rfl rfl ?_
  refine r_aload_n X dX8_judgeAt_1 (pc' := 2) rfl rfl ?_
  refine r_get X fX8 lf_X8_36 dX8_judgeAt_2 (pc' := 5) rfl (by decide) (by omega) (wC_e0 _ _ _ _ _ _ _ _) rfl ?_
  refine r_alen (t := 4) X rfl dX8_judgeAt_5 (pc' := 6) rfl (by omega) (wC_e20 _ _ _ _ _ _ _ _) ?_
  dsimp only
  refine r_callS (As := [_, _]) X okX8_isBelow lm_X8_72 dX8_judgeAt_6 (pc' := 9) rfl (ct_X8_isBelow P n _ _ _) rfl rfl (Nat.le_of_ble_eq_true rfl) (by omega) (by omega) (by omega) ?_
  dsimp only [Option.toList, List.cons_append, List.nil_append]
  refine rB_if_eq X dX8_judgeAt_9 (tgt := 21) (by decide) (pc' := 12) rfl (fun c_9 => ?_) (fun c_9 => ?_)
  · exact inB_c hj (by decide) c_9
  · refine r_aload_n X dX8_judgeAt_12 (pc' := 13) rfl rfl ?_
    refine r_get X fX8 lf_X8_36 dX8_judgeAt_13 (pc' := 16) rfl (by decide) (by omega) (wC_e0 _ _ _ _ _ _ _ _) rfl ?_
    refine r_iload_n X dX8_judgeAt_16 (pc' := 17) rfl rfl ?_
    refine r_aald (t := 4) X rfl rfl dX8_judgeAt_17 (pc' := 18) rfl (by omega) (wC_e20 _ _ _ _ _ _ _ _) (by omega) (by omega) ?_
    rw [jd_ref hj]
    refine r_goto (tgt := 22) X dX8_judgeAt_18 (by decide) ?_
    exact r_aret X r dX8_judgeAt_22 (by omega) (by omega) (Or.inr ⟨_, rfl⟩) rfl rfl rfl
set_option maxRecDepth 100000 in
set_option maxHeartbeats 1000000 in
theorem ct_X8_judgeAt_f (P : Px) (n : Nat) (hn : 59 ≤ n) (h : hw) (ι : Nat → Nat) (φ : Nat → Nat → Nat) (ℓ : Nat → Nat) (lt : Nat → Option Nat) (ρ : Nat → Nat → Option Nat) (ω : Nat → Nat → Nat) (W : Wf ι φ) (x : Int32) (hx : inQ x (nI 3) = false) : Ct P MX8_judgeAt 1 0 0 [.ref (Bs P + 0), .int x] n (wC P h ι φ ℓ lt ρ ω) (some .null) n (wC P h ι φ ℓ lt ρ ω) := by
  refine Ct.of (by decide +kernel) (Nat.le_of_ble_eq_true rfl) rfl (fun K X hnm r => ?_)
  have X : Cx K P RX8 cX8_judgeAt 2 1 0 0 := X
  have r : Rt K P (some (.object "AskTrust$Judge")) 0 0 _ _ _ := r
  show Z K P _ _ 0 0 0 [some (.ref (Bs P + 0)), some (.int x)] []
  refine r_iload_n X dX8_judgeAt_0 (pc' := 1) rfl rfl ?_
  refine r_aload_n X dX8_judgeAt_1 (pc' := 2) rfl rfl ?_
  refine r_get X fX8 lf_X8_36 dX8_judgeAt_2 (pc' := 5) rfl (by decide) (by omega) (wC_e0 _ _ _ _ _ _ _ _) rfl ?_
  refine r_alen (t := 4) X rfl dX8_judgeAt_5 (pc' := 6) rfl (by omega) (wC_e20 _ _ _ _ _ _ _ _) ?_
  dsimp only
  refine r_callS (As := [_, _]) X okX8_isBelow lm_X8_72 dX8_judgeAt_6 (pc' := 9) rfl (ct_X8_isBelow P n _ _ _) rfl rfl (Nat.le_of_ble_eq_true rfl) (by omega) (by omega) (by omega) ?_
  dsimp only [Option.toList, List.cons_append, List.nil_append]
  rw [inB_Q x 3 (by decide), hx]
  refine rB_if_eq X dX8_judgeAt_9 (tgt := 21) (by decide) (pc' := 12) rfl (fun c_9 => ?_) (fun c_9 => ?_)
  · refine r_null X dX8_judgeAt_21 (pc' := 22) rfl ?_
    exact r_aret X r dX8_judgeAt_22 (by omega) (by omega) (Or.inl rfl) rfl rfl rfl
  · cases c_9
set_option maxRecDepth 100000 in
set_option maxHeartbeats 1000000 in
theorem ct_X8_sendLetters (P : Px) (n : Nat) (hn : 59 ≤ n) (h : hw) (ι : Nat → Nat) (φ : Nat → Nat → Nat) (ℓ : Nat → Nat) (lt : Nat → Option Nat) (ρ : Nat → Nat → Option Nat) (ω : Nat → Nat → Nat) (W : Wf ι φ)  : Ct P MX8_sendLetters 1 0 0 [.ref (Bs P + 0)] n (wC P h ι φ ℓ lt ρ ω) none n (wC P h ι φ (slN φ ℓ 4) (stN φ lt 4) ρ ω) := by
  refine Ct.of (by decide +kernel) (Nat.le_of_ble_eq_true rfl) rfl (fun K X hnm r => ?_)
  have X : Cx K P RX8 cX8_sendLetters 2 1 0 0 := X
  have r : Rt K P none 0 0 _ _ _ := r
  show Z K P _ _ 0 0 0 [some (.ref (Bs P + 0)), none] []
  have loop : ∀ (m_ : Nat) (j : Nat), 4 - j < m_ → (j ≤ 4) → Z K P n (wC P h ι φ (slN φ ℓ j) (stN φ lt j) ρ ω) 0 0 2 [some (.ref (Bs P + 0)), some (.int (nI j))] [] := by
    intro m_
    induction m_ with
    | zero => intro j hm_; exact absurd hm_ (Nat.not_lt_zero _)
    | succ m_ ih =>
      intro j hm_ hj4
      refine r_iload_n X dX8_sendLetters_2 (pc' := 3) rfl rfl ?_
      refine r_aload_n X dX8_sendLetters_3 (pc' := 4) rfl rfl ?_
      refine r_get X fX8 lf_X8_36 dX8_sendLetters_4 (pc' := 7) rfl (by decide) (by omega) (wC_e0 _ _ _ _ _ _ _ _) rfl ?_
      refine r_alen (t := 4) X rfl dX8_sendLetters_7 (pc' := 8) rfl (by omega) (wC_e20 _ _ _ _ _ _ _ _) ?_
      dsimp only
      refine rN_icmp_ge X dX8_sendLetters_8 (tgt := 26) (by decide) (pc' := 11) rfl (by omega) (by omega) (fun c_8 => ?_) (fun c_8 => ?_)
      · exact r_vret X r dX8_sendLetters_26 (by omega) (by omega) rfl rfl (by rw [show j = 4 by omega])
      · have hj : j < 4 := c_8
        refine r_aload_n X dX8_sendLetters_11 (pc' := 12) rfl rfl ?_
        refine r_get X fX8 lf_X8_36 dX8_sendLetters_12 (pc' := 15) rfl (by decide) (by omega) (wC_e0 _ _ _ _ _ _ _ _) rfl ?_
        refine r_iload_n X dX8_sendLetters_15 (pc' := 16) rfl rfl ?_
        refine r_aald (t := 4) X rfl rfl dX8_sendLetters_16 (pc' := 17) rfl (by omega) (wC_e20 _ _ _ _ _ _ _ _) (by omega) (by omega) ?_
        rw [jd_ref hj]
        refine r_callV (As := []) X okX2_sendLetter lm_X8_218 dX8_sendLetters_17 (pc' := 20) rfl (ct_X2_sendLetter P n hn h ι φ (slN φ ℓ j) (stN φ lt j) ρ ω W j hj) (by omega) (wC_jd _ _ _ _ _ _ _ _ hj) rfl rfl rfl rfl (Nat.le_of_ble_eq_true rfl) (by omega) (by omega) (by omega) ?_
        dsimp only [Option.toList, List.cons_append, List.nil_append]
        refine r_iincN (vs' := [_, _]) X dX8_sendLetters_20 (pc' := 23) rfl (by decide) rfl rfl ?_
        refine r_goto (tgt := 2) X dX8_sendLetters_23 (by decide) ?_
        exact ih (j + 1) (by omega) (by omega)
  refine r_iconst (v := nI 0) X (by decide) dX8_sendLetters_0 (pc' := 1) rfl ?_
  refine r_istore_n (vs' := [_, _]) X dX8_sendLetters_1 (pc' := 2) rfl (by decide) rfl ?_
  exact loop _ 0 (Nat.lt_succ_self _) (Nat.zero_le _)
set_option maxRecDepth 100000 in
set_option maxHeartbeats 1000000 in
theorem ct_X8_codeNow (P : Px) (n : Nat) (hn : 59 ≤ n) (h : hw) (ι : Nat → Nat) (φ : Nat → Nat → Nat) (ℓ : Nat → Nat) (lt : Nat → Option Nat) (ρ : Nat → Nat → Option Nat) (ω : Nat → Nat → Nat) (W : Wf ι φ) (V0 : ∀ k, φ 2 k = 0 → φ 1 k = 0) (who : Nat) (hwo : who < 10000) (hw4 : who % 10 < 4) : Ct P MX8_codeNow 1 0 0 [.ref (Bs P + 0), .int (nI who)] n (wC P h ι φ ℓ lt ρ ω) (some (.int (nI (factN ι φ who)))) n (wC P h ι φ ℓ lt ρ ω) := by
  refine Ct.of (by decide +kernel) (Nat.le_of_ble_eq_true rfl) rfl (fun K X hnm r => ?_)
  have X : Cx K P RX8 cX8_codeNow 6 1 0 0 := X
  have r : Rt K P (some .int) 0 0 _ _ _ := r
  show Z K P _ _ 0 0 0 [some (.ref (Bs P + 0)), some (.int (nI who)), none, none, none, none] []
  refine r_iload_n X dX8_codeNow_0 (pc' := 1) rfl rfl ?_
  refine r_sipush (v := nI 1000) X (by decide) dX8_codeNow_1 (pc' := 4) rfl ?_
  first | refine rN_idiv X dX8_codeNow_4 (pc' := 5) rfl (by omega) (by omega) (by omega) ?_ | refine r_idiv X (by decide) dX8_codeNow_4 (pc' := 5) rfl ?_
  refine r_istore_n (vs' := [_, _, _, _, _, _]) X dX8_codeNow_5 (pc' := 6) rfl (by decide) rfl ?_
  refine r_iload_n X dX8_codeNow_6 (pc' := 7) rfl rfl ?_
  refine r_bipush (v := nI 100) X (by decide) dX8_codeNow_7 (pc' := 9) rfl ?_
  first | refine rN_idiv X dX8_codeNow_9 (pc' := 10) rfl (by omega) (by omega) (by omega) ?_ | refine r_idiv X (by decide) dX8_codeNow_9 (pc' := 10) rfl ?_
  refine r_bipush (v := nI 10) X (by decide) dX8_codeNow_10 (pc' := 12) rfl ?_
  first | refine rN_irem X dX8_codeNow_12 (pc' := 13) rfl (by omega) (by omega) (by omega) ?_ | refine r_irem X (by decide) dX8_codeNow_12 (pc' := 13) rfl ?_
  refine r_istore_n (vs' := [_, _, _, _, _, _]) X dX8_codeNow_13 (pc' := 14) rfl (by decide) rfl ?_
  refine r_iload_n X dX8_codeNow_14 (pc' := 15) rfl rfl ?_
  refine r_bipush (v := nI 10) X (by decide) dX8_codeNow_15 (pc' := 17) rfl ?_
  first | refine rN_idiv X dX8_codeNow_17 (pc' := 18) rfl (by omega) (by omega) (by omega) ?_ | refine r_idiv X (by decide) dX8_codeNow_17 (pc' := 18) rfl ?_
  refine r_bipush (v := nI 10) X (by decide) dX8_codeNow_18 (pc' := 20) rfl ?_
  first | refine rN_irem X dX8_codeNow_20 (pc' := 21) rfl (by omega) (by omega) (by omega) ?_ | refine r_irem X (by decide) dX8_codeNow_20 (pc' := 21) rfl ?_
  refine r_istore (vs' := [_, _, _, _, _, _]) X dX8_codeNow_21 (pc' := 23) rfl (by decide) rfl ?_
  refine r_aload_n X dX8_codeNow_23 (pc' := 24) rfl rfl ?_
  refine r_get X fX8 lf_X8_9 dX8_codeNow_24 (pc' := 27) rfl (by decide) (by omega) (wC_e0 _ _ _ _ _ _ _ _) rfl ?_
  refine r_iload_n X dX8_codeNow_27 (pc' := 28) rfl rfl ?_
  refine r_iald X dX8_codeNow_28 (pc' := 29) rfl (by omega) (wC_e1 _ _ _ _ _ _ _ _) (by omega) (by omega) ?_
  refine r_istore (vs' := [_, _, _, _, _, _]) X dX8_codeNow_29 (pc' := 31) rfl (by decide) rfl ?_
  refine r_iload X dX8_codeNow_31 (pc' := 33) rfl rfl ?_
  refine r_iconst (v := nI 4) X (by decide) dX8_codeNow_33 (pc' := 34) rfl ?_
  first | refine rN_imul X dX8_codeNow_34 (pc' := 35) rfl ?_ | refine r_imul X dX8_codeNow_34 (pc' := 35) rfl ?_
  refine r_aload_n X dX8_codeNow_35 (pc' := 36) rfl rfl ?_
  refine r_get X fX8 lf_X8_22 dX8_codeNow_36 (pc' := 39) rfl (by decide) (by omega) (wC_e0 _ _ _ _ _ _ _ _) rfl ?_
  refine r_iload_n X dX8_codeNow_39 (pc' := 40) rfl rfl ?_
  refine r_iconst (v := nI 0) X (by decide) dX8_codeNow_40 (pc' := 41) rfl ?_
  refine r_aload_n X dX8_codeNow_41 (pc' := 42) rfl rfl ?_
  refine r_get X fX8 lf_X8_58 dX8_codeNow_42 (pc' := 45) rfl (by decide) (by omega) (wC_e0 _ _ _ _ _ _ _ _) rfl ?_
  refine r_callV (As := [_, _, _]) X okX5_valueOf lm_X8_221 dX8_codeNow_45 (pc' := 48) rfl (ct_X5_valueOf P n hn h ι φ ℓ lt ρ ω W V0 _ _ (by omega) (by omega)) (by omega) (wC_e4 _ _ _ _ _ _ _ _) rfl rfl rfl rfl (Nat.le_of_ble_eq_true rfl) (by omega) (by omega) (by omega) ?_
  dsimp only [Option.toList, List.cons_append, List.nil_append]
  first | refine rN_iadd X dX8_codeNow_48 (pc' := 49) rfl ?_ | refine r_iadd X dX8_codeNow_48 (pc' := 49) rfl ?_
  refine r_istore (vs' := [_, _, _, _, _, _]) X dX8_codeNow_49 (pc' := 51) rfl (by decide) rfl ?_
  refine r_iload X dX8_codeNow_51 (pc' := 53) rfl rfl ?_
  refine r_iconst (v := nI 4) X (by decide) dX8_codeNow_53 (pc' := 54) rfl ?_
  first | refine rN_imul X dX8_codeNow_54 (pc' := 55) rfl ?_ | refine r_imul X dX8_codeNow_54 (pc' := 55) rfl ?_
  refine r_aload_n X dX8_codeNow_55 (pc' := 56) rfl rfl ?_
  refine r_get X fX8 lf_X8_22 dX8_codeNow_56 (pc' := 59) rfl (by decide) (by omega) (wC_e0 _ _ _ _ _ _ _ _) rfl ?_
  refine r_iload_n X dX8_codeNow_59 (pc' := 60) rfl rfl ?_
  refine r_iconst (v := nI 1) X (by decide) dX8_codeNow_60 (pc' := 61) rfl ?_
  refine r_aload_n X dX8_codeNow_61 (pc' := 62) rfl rfl ?_
  refine r_get X fX8 lf_X8_58 dX8_codeNow_62 (pc' := 65) rfl (by decide) (by omega) (wC_e0 _ _ _ _ _ _ _ _) rfl ?_
  refine r_callV (As := [_, _, _]) X okX5_valueOf lm_X8_221 dX8_codeNow_65 (pc' := 68) rfl (ct_X5_valueOf P n hn h ι φ ℓ lt ρ ω W V0 _ _ (by omega) (by omega)) (by omega) (wC_e4 _ _ _ _ _ _ _ _) rfl rfl rfl rfl (Nat.le_of_ble_eq_true rfl) (by omega) (by omega) (by omega) ?_
  dsimp only [Option.toList, List.cons_append, List.nil_append]
  first | refine rN_iadd X dX8_codeNow_68 (pc' := 69) rfl ?_ | refine r_iadd X dX8_codeNow_68 (pc' := 69) rfl ?_
  refine r_istore (vs' := [_, _, _, _, _, _]) X dX8_codeNow_69 (pc' := 71) rfl (by decide) rfl ?_
  refine r_iload X dX8_codeNow_71 (pc' := 73) rfl rfl ?_
  refine r_iconst (v := nI 4) X (by decide) dX8_codeNow_73 (pc' := 74) rfl ?_
  first | refine rN_imul X dX8_codeNow_74 (pc' := 75) rfl ?_ | refine r_imul X dX8_codeNow_74 (pc' := 75) rfl ?_
  refine r_aload_n X dX8_codeNow_75 (pc' := 76) rfl rfl ?_
  refine r_get X fX8 lf_X8_22 dX8_codeNow_76 (pc' := 79) rfl (by decide) (by omega) (wC_e0 _ _ _ _ _ _ _ _) rfl ?_
  refine r_iload_n X dX8_codeNow_79 (pc' := 80) rfl rfl ?_
  refine r_iconst (v := nI 2) X (by decide) dX8_codeNow_80 (pc' := 81) rfl ?_
  refine r_aload_n X dX8_codeNow_81 (pc' := 82) rfl rfl ?_
  refine r_get X fX8 lf_X8_58 dX8_codeNow_82 (pc' := 85) rfl (by decide) (by omega) (wC_e0 _ _ _ _ _ _ _ _) rfl ?_
  refine r_callV (As := [_, _, _]) X okX5_valueOf lm_X8_221 dX8_codeNow_85 (pc' := 88) rfl (ct_X5_valueOf P n hn h ι φ ℓ lt ρ ω W V0 _ _ (by omega) (by omega)) (by omega) (wC_e4 _ _ _ _ _ _ _ _) rfl rfl rfl rfl (Nat.le_of_ble_eq_true rfl) (by omega) (by omega) (by omega) ?_
  dsimp only [Option.toList, List.cons_append, List.nil_append]
  first | refine rN_iadd X dX8_codeNow_88 (pc' := 89) rfl ?_ | refine r_iadd X dX8_codeNow_88 (pc' := 89) rfl ?_
  refine r_istore (vs' := [_, _, _, _, _, _]) X dX8_codeNow_89 (pc' := 91) rfl (by decide) rfl ?_
  refine r_iload X dX8_codeNow_91 (pc' := 93) rfl rfl ?_
  refine r_iconst (v := nI 4) X (by decide) dX8_codeNow_93 (pc' := 94) rfl ?_
  first | refine rN_imul X dX8_codeNow_94 (pc' := 95) rfl ?_ | refine r_imul X dX8_codeNow_94 (pc' := 95) rfl ?_
  refine r_iload_n X dX8_codeNow_95 (pc' := 96) rfl rfl ?_
  refine r_bipush (v := nI 10) X (by decide) dX8_codeNow_96 (pc' := 98) rfl ?_
  first | refine rN_irem X dX8_codeNow_98 (pc' := 99) rfl (by omega) (by omega) (by omega) ?_ | refine r_irem X (by decide) dX8_codeNow_98 (pc' := 99) rfl ?_
  first | refine rN_iadd X dX8_codeNow_99 (pc' := 100) rfl ?_ | refine r_iadd X dX8_codeNow_99 (pc' := 100) rfl ?_
  refine r_istore (vs' := [_, _, _, _, _, _]) X dX8_codeNow_100 (pc' := 102) rfl (by decide) rfl ?_
  refine r_iload X dX8_codeNow_102 (pc' := 104) rfl rfl ?_
  refine r_iconst (v := nI 4) X (by decide) dX8_codeNow_104 (pc' := 105) rfl ?_
  first | refine rN_imul X dX8_codeNow_105 (pc' := 106) rfl ?_ | refine r_imul X dX8_codeNow_105 (pc' := 106) rfl ?_
  refine r_aload_n X dX8_codeNow_106 (pc' := 107) rfl rfl ?_
  refine r_get X fX8 lf_X8_13 dX8_codeNow_107 (pc' := 110) rfl (by decide) (by omega) (wC_e0 _ _ _ _ _ _ _ _) rfl ?_
  refine r_iload X dX8_codeNow_110 (pc' := 112) rfl rfl ?_
  refine r_iald X dX8_codeNow_112 (pc' := 113) rfl (by omega) (wC_e2 _ _ _ _ _ _ _ _) (by omega) (by omega) ?_
  first | refine rN_iadd X dX8_codeNow_113 (pc' := 114) rfl ?_ | refine r_iadd X dX8_codeNow_113 (pc' := 114) rfl ?_
  refine r_istore (vs' := [_, _, _, _, _, _]) X dX8_codeNow_114 (pc' := 116) rfl (by decide) rfl ?_
  refine r_iload X dX8_codeNow_116 (pc' := 118) rfl rfl ?_
  refine r_iconst (v := nI 5) X (by decide) dX8_codeNow_118 (pc' := 119) rfl ?_
  first | refine rN_imul X dX8_codeNow_119 (pc' := 120) rfl ?_ | refine r_imul X dX8_codeNow_119 (pc' := 120) rfl ?_
  refine r_aload_n X dX8_codeNow_120 (pc' := 121) rfl rfl ?_
  refine r_get X fX8 lf_X8_16 dX8_codeNow_121 (pc' := 124) rfl (by decide) (by omega) (wC_e0 _ _ _ _ _ _ _ _) rfl ?_
  refine r_iload X dX8_codeNow_124 (pc' := 126) rfl rfl ?_
  refine r_iald X dX8_codeNow_126 (pc' := 127) rfl (by omega) (wC_e3 _ _ _ _ _ _ _ _) (by omega) (by omega) ?_
  first | refine rN_iadd X dX8_codeNow_127 (pc' := 128) rfl ?_ | refine r_iadd X dX8_codeNow_127 (pc' := 128) rfl ?_
  exact r_iret X r dX8_codeNow_128 (by omega) (by omega) rfl rfl rfl rfl
set_option maxRecDepth 100000 in
set_option maxHeartbeats 1000000 in
theorem ct_X8_answerInForce (P : Px) (n : Nat) (hn : 59 ≤ n) (h : hw) (ι : Nat → Nat) (φ : Nat → Nat → Nat) (ℓ : Nat → Nat) (lt : Nat → Option Nat) (ρ : Nat → Nat → Option Nat) (ω : Nat → Nat → Nat) (W : Wf ι φ) (Rr : RR φ ρ n h) (code : Nat) (hc : code < 81920) : Ct P MX8_answerInForce 5 0 0 [.ref (Bs P + 0), .int (nI code)] n (wC P h ι φ ℓ lt ρ ω) (some (.int (nI (ansN φ (ι 1) code)))) n (wC P h ι φ ℓ lt ρ ω) := by
  refine Ct.of (by decide +kernel) (Nat.le_of_ble_eq_true rfl) rfl (fun K X hnm r => ?_)
  have X : Cx K P RX8 cX8_answerInForce 4 5 0 0 := X
  have r : Rt K P (some .int) 0 0 _ _ _ := r
  show Z K P _ _ 0 0 0 [some (.ref (Bs P + 0)), some (.int (nI code)), none, none] []
  have bi := W.inF
  refine r_aload_n X dX8_answerInForce_0 (pc' := 1) rfl rfl ?_
  refine r_get X fX8 lf_X8_29 dX8_answerInForce_1 (pc' := 4) rfl (by decide) (by omega) (wC_e0 _ _ _ _ _ _ _ _) rfl ?_
  refine r_aload_n X dX8_answerInForce_4 (pc' := 5) rfl rfl ?_
  refine r_get X fX8 lf_X8_203 dX8_answerInForce_5 (pc' := 8) rfl (by decide) (by omega) (wC_e0 _ _ _ _ _ _ _ _) rfl ?_
  refine r_aald (t := 3) X rfl rfl dX8_answerInForce_8 (pc' := 9) rfl (by omega) (wC_e15 _ _ _ _ _ _ _ _) (by omega) (by omega) ?_
  rw [hp_ref (by omega)]
  refine r_astore_n (vs' := [_, _, _, _]) X dX8_answerInForce_9 (pc' := 10) rfl (by decide) rfl ?_
  refine r_aload_n X dX8_answerInForce_10 (pc' := 11) rfl rfl ?_
  refine r_iload_n X dX8_answerInForce_11 (pc' := 12) rfl rfl ?_
  refine r_aload_n X dX8_answerInForce_12 (pc' := 13) rfl rfl ?_
  refine r_get X fX8 lf_X8_22 dX8_answerInForce_13 (pc' := 16) rfl (by decide) (by omega) (wC_e0 _ _ _ _ _ _ _ _) rfl ?_
  refine r_callV (As := [_, _]) X okX1_isLet lm_X8_207 dX8_answerInForce_16 (pc' := 19) rfl (ct_X1_isLet P n hn h ι φ ℓ lt ρ ω W (ι 1) (by omega) Rr code hc) (by omega) (wC_hp _ _ _ _ _ _ _ _ (show ι 1 < 2 by omega)) rfl rfl rfl rfl (Nat.le_of_ble_eq_true rfl) (by omega) (by omega) (by omega) ?_
  dsimp only [Option.toList, List.cons_append, List.nil_append]
  refine rB_if_eq X dX8_answerInForce_19 (tgt := 24) (by decide) (pc' := 22) rfl (fun c_19 => ?_) (fun c_19 => ?_)
  · refine r_iconst (v := nI 3) X (by decide) dX8_answerInForce_24 (pc' := 25) rfl ?_
    refine r_iload_n X dX8_answerInForce_25 (pc' := 26) rfl rfl ?_
    refine r_callS (As := [_]) X okX8_marksIn lm_X8_225 dX8_answerInForce_26 (pc' := 29) rfl (ct_X8_marksIn P n _ code (by omega)) rfl rfl (Nat.le_of_ble_eq_true rfl) (by omega) (by omega) (by omega) ?_
    dsimp only [Option.toList, List.cons_append, List.nil_append]
    refine r_iconst (v := nI 2) X (by decide) dX8_answerInForce_29 (pc' := 30) rfl ?_
    refine r_callS (As := [_, _]) X okX8_valueIn lm_X8_228 dX8_answerInForce_30 (pc' := 33) rfl (ct_X8_valueIn P n _ _ 2 (by omega) (by decide)) rfl rfl (Nat.le_of_ble_eq_true rfl) (by omega) (by omega) (by omega) ?_
    dsimp only [Option.toList, List.cons_append, List.nil_append]
    rw [mvN_code]
    have bm := markN_le code 2
    first | refine rN_isub X dX8_answerInForce_33 (pc' := 34) rfl (by omega) ?_ | refine r_isub X dX8_answerInForce_33 (pc' := 34) rfl ?_
    refine r_istore_n (vs' := [_, _, _, _]) X dX8_answerInForce_34 (pc' := 35) rfl (by decide) rfl ?_
    refine r_aload_n X dX8_answerInForce_35 (pc' := 36) rfl rfl ?_
    refine r_iload_n X dX8_answerInForce_36 (pc' := 37) rfl rfl ?_
    refine r_iload_n X dX8_answerInForce_37 (pc' := 38) rfl rfl ?_
    refine r_bipush (v := nI 80) X (by decide) dX8_answerInForce_38 (pc' := 40) rfl ?_
    first | refine rN_imul X dX8_answerInForce_40 (pc' := 41) rfl ?_ | refine r_imul X dX8_answerInForce_40 (pc' := 41) rfl ?_
    first | refine rN_iadd X dX8_answerInForce_41 (pc' := 42) rfl ?_ | refine r_iadd X dX8_answerInForce_41 (pc' := 42) rfl ?_
    rw [Nat.mul_comm (3 - markN code 2) 80]
    refine r_aload_n X dX8_answerInForce_42 (pc' := 43) rfl rfl ?_
    refine r_get X fX8 lf_X8_22 dX8_answerInForce_43 (pc' := 46) rfl (by decide) (by omega) (wC_e0 _ _ _ _ _ _ _ _) rfl ?_
    refine r_callV (As := [_, _]) X okX1_isLet lm_X8_207 dX8_answerInForce_46 (pc' := 49) rfl (ct_X1_isLet P n hn h ι φ ℓ lt ρ ω W (ι 1) (by omega) Rr _ (markN_add hc)) (by omega) (wC_hp _ _ _ _ _ _ _ _ (show ι 1 < 2 by omega)) rfl rfl rfl rfl (Nat.le_of_ble_eq_true rfl) (by omega) (by omega) (by omega) ?_
    dsimp only [Option.toList, List.cons_append, List.nil_append]
    refine rB_if_eq X dX8_answerInForce_49 (tgt := 56) (by decide) (pc' := 52) rfl (fun c_49 => ?_) (fun c_49 => ?_)
    · refine r_iconst (v := nI 2) X (by decide) dX8_answerInForce_56 (pc' := 57) rfl ?_
      exact r_iret X r dX8_answerInForce_57 (by omega) (by omega) rfl (hvN (by unfold ansN; simp [c_19, c_49])) rfl rfl
    · refine r_iconst (v := nI 1) X (by decide) dX8_answerInForce_52 (pc' := 53) rfl ?_
      refine r_goto (tgt := 57) X dX8_answerInForce_53 (by decide) ?_
      exact r_iret X r dX8_answerInForce_57 (by omega) (by omega) rfl (hvN (by unfold ansN; simp [c_19, c_49])) rfl rfl
  · refine r_iconst (v := nI 0) X (by decide) dX8_answerInForce_22 (pc' := 23) rfl ?_
    exact r_iret X r dX8_answerInForce_23 (by omega) (by omega) rfl (hvN (by unfold ansN; simp [c_19])) rfl rfl
set_option maxRecDepth 100000 in
set_option maxHeartbeats 1000000 in
theorem ct_X8_roles_t (P : Px) (n : Nat) (hn : 59 ≤ n) (h : hw) (ι : Nat → Nat) (φ : Nat → Nat → Nat) (ℓ : Nat → Nat) (lt : Nat → Option Nat) (ρ : Nat → Nat → Option Nat) (ω : Nat → Nat → Nat) (W : Wf ι φ) (x0 y0 : Nat) (hx : x0 < 10) (hy : y0 < 16) : Ct P MX8_roles 2 0 0 [.ref (Bs P + 0), .int (nI x0), .int (nI y0)] n (wC P h ι φ ℓ lt ρ ω) (some (.int (bI true))) n (wC P h ι (up2 φ 0 x0 y0) (slN (up2 φ 0 x0 y0) ℓ 4) (stN (up2 φ 0 x0 y0) lt 4) ρ ω) := by
  refine Ct.of (by decide +kernel) (Nat.le_of_ble_eq_true rfl) rfl (fun K X hnm r => ?_)
  have X : Cx K P RX8 cX8_roles 3 2 0 0 := X
  have r : Rt K P (some .boolean) 0 0 _ _ _ := r
  show Z K P _ _ 0 0 0 [some (.ref (Bs P + 0)), some (.int (nI x0)), some (.int (nI y0))] []
  refine r_iload_n X dX8_roles_0 (pc' := 1) rfl rfl ?_
  refine r_bipush (v := nI 10) X (by decide) dX8_roles_1 (pc' := 3) rfl ?_
  refine r_callS (As := [_, _]) X okX8_isBelow lm_X8_72 dX8_roles_3 (pc' := 6) rfl (ct_X8_isBelow P n _ _ _) rfl rfl (Nat.le_of_ble_eq_true rfl) (by omega) (by omega) (by omega) ?_
  dsimp only [Option.toList, List.cons_append, List.nil_append]
  refine rB_if_eq X dX8_roles_6 (tgt := 18) (by decide) (pc' := 9) rfl (fun c_6 => ?_) (fun c_6 => ?_)
  · exact inB_c (by omega) (by decide) c_6
  · refine r_iload_n X dX8_roles_9 (pc' := 10) rfl rfl ?_
    refine r_bipush (v := nI 16) X (by decide) dX8_roles_10 (pc' := 12) rfl ?_
    refine r_callS (As := [_, _]) X okX8_isBelow lm_X8_72 dX8_roles_12 (pc' := 15) rfl (ct_X8_isBelow P n _ _ _) rfl rfl (Nat.le_of_ble_eq_true rfl) (by omega) (by omega) (by omega) ?_
    dsimp only [Option.toList, List.cons_append, List.nil_append]
    refine rB_if_ne X dX8_roles_15 (tgt := 20) (by decide) (pc' := 18) rfl (fun c_15 => ?_) (fun c_15 => ?_)
    · refine r_aload_n X dX8_roles_20 (pc' := 21) rfl rfl ?_
      refine r_get X fX8 lf_X8_9 dX8_roles_21 (pc' := 24) rfl (by decide) (by omega) (wC_e0 _ _ _ _ _ _ _ _) rfl ?_
      refine r_iload_n X dX8_roles_24 (pc' := 25) rfl rfl ?_
      refine r_iload_n X dX8_roles_25 (pc' := 26) rfl rfl ?_
      refine r_iast X dX8_roles_26 (pc' := 27) rfl (by omega) (wC_e1 _ _ _ _ _ _ _ _) (by omega) (by omega) ?_
      rw [wC_s1]
      refine r_aload_n X dX8_roles_27 (pc' := 28) rfl rfl ?_
      refine r_callV (As := []) X okX8_sendLetters lm_X8_75 dX8_roles_28 (pc' := 31) rfl (ct_X8_sendLetters P n hn h ι _ ℓ lt ρ ω (W.up 0 _ _ (by simp [bdM]; omega))) (by omega) (wC_e0 _ _ _ _ _ _ _ _) rfl rfl rfl rfl (Nat.le_of_ble_eq_true rfl) (by omega) (by omega) (by omega) ?_
      dsimp only [Option.toList, List.cons_append, List.nil_append]
      refine r_iconst (v := nI 1) X (by decide) dX8_roles_31 (pc' := 32) rfl ?_
      exact r_iret X r dX8_roles_32 (by omega) (by omega) rfl rfl rfl rfl
    · exact inB_c (by omega) (by decide) c_15
set_option maxRecDepth 100000 in
set_option maxHeartbeats 1000000 in
theorem ct_X8_roles_f (P : Px) (n : Nat) (hn : 59 ≤ n) (h : hw) (ι : Nat → Nat) (φ : Nat → Nat → Nat) (ℓ : Nat → Nat) (lt : Nat → Option Nat) (ρ : Nat → Nat → Option Nat) (ω : Nat → Nat → Nat) (W : Wf ι φ) (x y : Int32) (hno : ¬ (inB x (nI 10) = true ∧ inB y (nI 16) = true)) : Ct P MX8_roles 2 0 0 [.ref (Bs P + 0), .int x, .int y] n (wC P h ι φ ℓ lt ρ ω) (some (.int (bI false))) n (wC P h ι φ ℓ lt ρ ω) := by
  refine Ct.of (by decide +kernel) (Nat.le_of_ble_eq_true rfl) rfl (fun K X hnm r => ?_)
  have X : Cx K P RX8 cX8_roles 3 2 0 0 := X
  have r : Rt K P (some .boolean) 0 0 _ _ _ := r
  show Z K P _ _ 0 0 0 [some (.ref (Bs P + 0)), some (.int x), some (.int y)] []
  refine r_iload_n X dX8_roles_0 (pc' := 1) rfl rfl ?_
  refine r_bipush (v := nI 10) X (by decide) dX8_roles_1 (pc' := 3) rfl ?_
  refine r_callS (As := [_, _]) X okX8_isBelow lm_X8_72 dX8_roles_3 (pc' := 6) rfl (ct_X8_isBelow P n _ _ _) rfl rfl (Nat.le_of_ble_eq_true rfl) (by omega) (by omega) (by omega) ?_
  dsimp only [Option.toList, List.cons_append, List.nil_append]
  refine rB_if_eq X dX8_roles_6 (tgt := 18) (by decide) (pc' := 9) rfl (fun c_6 => ?_) (fun c_6 => ?_)
  · refine r_iconst (v := nI 0) X (by decide) dX8_roles_18 (pc' := 19) rfl ?_
    exact r_iret X r dX8_roles_19 (by omega) (by omega) rfl rfl rfl rfl
  · refine r_iload_n X dX8_roles_9 (pc' := 10) rfl rfl ?_
    refine r_bipush (v := nI 16) X (by decide) dX8_roles_10 (pc' := 12) rfl ?_
    refine r_callS (As := [_, _]) X okX8_isBelow lm_X8_72 dX8_roles_12 (pc' := 15) rfl (ct_X8_isBelow P n _ _ _) rfl rfl (Nat.le_of_ble_eq_true rfl) (by omega) (by omega) (by omega) ?_
    dsimp only [Option.toList, List.cons_append, List.nil_append]
    refine rB_if_ne X dX8_roles_15 (tgt := 20) (by decide) (pc' := 18) rfl (fun c_15 => ?_) (fun c_15 => ?_)
    · exact absurd ⟨c_6, c_15⟩ hno
    · refine r_iconst (v := nI 0) X (by decide) dX8_roles_18 (pc' := 19) rfl ?_
      exact r_iret X r dX8_roles_19 (by omega) (by omega) rfl rfl rfl rfl
set_option maxRecDepth 100000 in
set_option maxHeartbeats 1000000 in
theorem ct_X8_mark_t (P : Px) (n : Nat) (hn : 59 ≤ n) (h : hw) (ι : Nat → Nat) (φ : Nat → Nat → Nat) (ℓ : Nat → Nat) (lt : Nat → Option Nat) (ρ : Nat → Nat → Option Nat) (ω : Nat → Nat → Nat) (W : Wf ι φ) (x0 y0 z0 : Nat) (hx : x0 < 10) (hy : y0 < 3) (hz : z0 ≤ 3) : Ct P MX8_mark 2 0 0 [.ref (Bs P + 0), .int (nI x0), .int (nI y0), .int (nI z0)] n (wC P h ι φ ℓ lt ρ ω) (some (.int (bI true))) n (wC P h ι (up2 (up2 φ 1 (10 * y0 + x0) z0) 2 (10 * y0 + x0) (ι 0 + 1)) (slN (up2 (up2 φ 1 (10 * y0 + x0) z0) 2 (10 * y0 + x0) (ι 0 + 1)) ℓ 4) (stN (up2 (up2 φ 1 (10 * y0 + x0) z0) 2 (10 * y0 + x0) (ι 0 + 1)) lt 4) ρ ω) := by
  refine Ct.of (by decide +kernel) (Nat.le_of_ble_eq_true rfl) rfl (fun K X hnm r => ?_)
  have X : Cx K P RX8 cX8_mark 4 2 0 0 := X
  have r : Rt K P (some .boolean) 0 0 _ _ _ := r
  show Z K P _ _ 0 0 0 [some (.ref (Bs P + 0)), some (.int (nI x0)), some (.int (nI y0)), some (.int (nI z0))] []
  refine r_iload_n X dX8_mark_0 (pc' := 1) rfl rfl ?_
  refine r_bipush (v := nI 10) X (by decide) dX8_mark_1 (pc' := 3) rfl ?_
  refine r_callS (As := [_, _]) X okX8_isBelow lm_X8_72 dX8_mark_3 (pc' := 6) rfl (ct_X8_isBelow P n _ _ _) rfl rfl (Nat.le_of_ble_eq_true rfl) (by omega) (by omega) (by omega) ?_
  dsimp only [Option.toList, List.cons_append, List.nil_append]
  refine rB_if_eq X dX8_mark_6 (tgt := 25) (by decide) (pc' := 9) rfl (fun c_6 => ?_) (fun c_6 => ?_)
  · exact inB_c (by omega) (by decide) c_6
  · refine r_iload_n X dX8_mark_9 (pc' := 10) rfl rfl ?_
    refine r_iconst (v := nI 3) X (by decide) dX8_mark_10 (pc' := 11) rfl ?_
    refine r_callS (As := [_, _]) X okX8_isBelow lm_X8_72 dX8_mark_11 (pc' := 14) rfl (ct_X8_isBelow P n _ _ _) rfl rfl (Nat.le_of_ble_eq_true rfl) (by omega) (by omega) (by omega) ?_
    dsimp only [Option.toList, List.cons_append, List.nil_append]
    refine rB_if_eq X dX8_mark_14 (tgt := 25) (by decide) (pc' := 17) rfl (fun c_14 => ?_) (fun c_14 => ?_)
    · exact inB_c (by omega) (by decide) c_14
    · refine r_iload_n X dX8_mark_17 (pc' := 18) rfl rfl ?_
      refine r_iconst (v := nI 3) X (by decide) dX8_mark_18 (pc' := 19) rfl ?_
      refine r_callS (As := [_, _]) X okX8_isWithin lm_X8_54 dX8_mark_19 (pc' := 22) rfl (ct_X8_isWithin P n _ _ _) rfl rfl (Nat.le_of_ble_eq_true rfl) (by omega) (by omega) (by omega) ?_
      dsimp only [Option.toList, List.cons_append, List.nil_append]
      refine rB_if_ne X dX8_mark_22 (tgt := 27) (by decide) (pc' := 25) rfl (fun c_22 => ?_) (fun c_22 => ?_)
      · refine r_aload_n X dX8_mark_27 (pc' := 28) rfl rfl ?_
        refine r_get X fX8 lf_X8_22 dX8_mark_28 (pc' := 31) rfl (by decide) (by omega) (wC_e0 _ _ _ _ _ _ _ _) rfl ?_
        refine r_iload_n X dX8_mark_31 (pc' := 32) rfl rfl ?_
        refine r_iload_n X dX8_mark_32 (pc' := 33) rfl rfl ?_
        refine r_iload_n X dX8_mark_33 (pc' := 34) rfl rfl ?_
        refine r_aload_n X dX8_mark_34 (pc' := 35) rfl rfl ?_
        refine r_get X fX8 lf_X8_58 dX8_mark_35 (pc' := 38) rfl (by decide) (by omega) (wC_e0 _ _ _ _ _ _ _ _) rfl ?_
        refine r_callV (As := [_, _, _, _]) X okX5_tell lm_X8_78 dX8_mark_38 (pc' := 41) rfl (ct_X5_tell P n hn h ι φ ℓ lt ρ ω W x0 y0 z0 hx hy) (by omega) (wC_e4 _ _ _ _ _ _ _ _) rfl rfl rfl rfl (Nat.le_of_ble_eq_true rfl) (by omega) (by omega) (by omega) ?_
        dsimp only [Option.toList, List.cons_append, List.nil_append]
        refine r_aload_n X dX8_mark_41 (pc' := 42) rfl rfl ?_
        refine r_callV (As := []) X okX8_sendLetters lm_X8_75 dX8_mark_42 (pc' := 45) rfl (ct_X8_sendLetters P n hn h ι _ ℓ lt ρ ω ((W.up 1 _ _ (by simp [bdM]; omega)).up 2 _ _ (by simp [bdM]))) (by omega) (wC_e0 _ _ _ _ _ _ _ _) rfl rfl rfl rfl (Nat.le_of_ble_eq_true rfl) (by omega) (by omega) (by omega) ?_
        dsimp only [Option.toList, List.cons_append, List.nil_append]
        refine r_iconst (v := nI 1) X (by decide) dX8_mark_45 (pc' := 46) rfl ?_
        exact r_iret X r dX8_mark_46 (by omega) (by omega) rfl rfl rfl rfl
      · exact inQ_c (by omega) (by decide) c_22
set_option maxRecDepth 100000 in
set_option maxHeartbeats 1000000 in
theorem ct_X8_mark_f (P : Px) (n : Nat) (hn : 59 ≤ n) (h : hw) (ι : Nat → Nat) (φ : Nat → Nat → Nat) (ℓ : Nat → Nat) (lt : Nat → Option Nat) (ρ : Nat → Nat → Option Nat) (ω : Nat → Nat → Nat) (W : Wf ι φ) (x y z : Int32) (hno : ¬ (inB x (nI 10) = true ∧ inB y (nI 3) = true ∧ inQ z (nI 3) = true)) : Ct P MX8_mark 2 0 0 [.ref (Bs P + 0), .int x, .int y, .int z] n (wC P h ι φ ℓ lt ρ ω) (some (.int (bI false))) n (wC P h ι φ ℓ lt ρ ω) := by
  refine Ct.of (by decide +kernel) (Nat.le_of_ble_eq_true rfl) rfl (fun K X hnm r => ?_)
  have X : Cx K P RX8 cX8_mark 4 2 0 0 := X
  have r : Rt K P (some .boolean) 0 0 _ _ _ := r
  show Z K P _ _ 0 0 0 [some (.ref (Bs P + 0)), some (.int x), some (.int y), some (.int z)] []
  refine r_iload_n X dX8_mark_0 (pc' := 1) rfl rfl ?_
  refine r_bipush (v := nI 10) X (by decide) dX8_mark_1 (pc' := 3) rfl ?_
  refine r_callS (As := [_, _]) X okX8_isBelow lm_X8_72 dX8_mark_3 (pc' := 6) rfl (ct_X8_isBelow P n _ _ _) rfl rfl (Nat.le_of_ble_eq_true rfl) (by omega) (by omega) (by omega) ?_
  dsimp only [Option.toList, List.cons_append, List.nil_append]
  refine rB_if_eq X dX8_mark_6 (tgt := 25) (by decide) (pc' := 9) rfl (fun c_6 => ?_) (fun c_6 => ?_)
  · refine r_iconst (v := nI 0) X (by decide) dX8_mark_25 (pc' := 26) rfl ?_
    exact r_iret X r dX8_mark_26 (by omega) (by omega) rfl rfl rfl rfl
  · refine r_iload_n X dX8_mark_9 (pc' := 10) rfl rfl ?_
    refine r_iconst (v := nI 3) X (by decide) dX8_mark_10 (pc' := 11) rfl ?_
    refine r_callS (As := [_, _]) X okX8_isBelow lm_X8_72 dX8_mark_11 (pc' := 14) rfl (ct_X8_isBelow P n _ _ _) rfl rfl (Nat.le_of_ble_eq_true rfl) (by omega) (by omega) (by omega) ?_
    dsimp only [Option.toList, List.cons_append, List.nil_append]
    refine rB_if_eq X dX8_mark_14 (tgt := 25) (by decide) (pc' := 17) rfl (fun c_14 => ?_) (fun c_14 => ?_)
    · refine r_iconst (v := nI 0) X (by decide) dX8_mark_25 (pc' := 26) rfl ?_
      exact r_iret X r dX8_mark_26 (by omega) (by omega) rfl rfl rfl rfl
    · refine r_iload_n X dX8_mark_17 (pc' := 18) rfl rfl ?_
      refine r_iconst (v := nI 3) X (by decide) dX8_mark_18 (pc' := 19) rfl ?_
      refine r_callS (As := [_, _]) X okX8_isWithin lm_X8_54 dX8_mark_19 (pc' := 22) rfl (ct_X8_isWithin P n _ _ _) rfl rfl (Nat.le_of_ble_eq_true rfl) (by omega) (by omega) (by omega) ?_
      dsimp only [Option.toList, List.cons_append, List.nil_append]
      refine rB_if_ne X dX8_mark_22 (tgt := 27) (by decide) (pc' := 25) rfl (fun c_22 => ?_) (fun c_22 => ?_)
      · exact absurd ⟨c_6, c_14, c_22⟩ hno
      · refine r_iconst (v := nI 0) X (by decide) dX8_mark_25 (pc' := 26) rfl ?_
        exact r_iret X r dX8_mark_26 (by omega) (by omega) rfl rfl rfl rfl
set_option maxRecDepth 100000 in
set_option maxHeartbeats 1000000 in
theorem ct_X8_thing_t (P : Px) (n : Nat) (hn : 59 ≤ n) (h : hw) (ι : Nat → Nat) (φ : Nat → Nat → Nat) (ℓ : Nat → Nat) (lt : Nat → Option Nat) (ρ : Nat → Nat → Option Nat) (ω : Nat → Nat → Nat) (W : Wf ι φ) (x0 y0 z0 : Nat) (hx : x0 < 10) (hy : y0 < 4) (hz : z0 < 5) : Ct P MX8_thing 2 0 0 [.ref (Bs P + 0), .int (nI x0), .int (nI y0), .int (nI z0)] n (wC P h ι φ ℓ lt ρ ω) (some (.int (bI true))) n (wC P h ι (up2 (up2 φ 5 x0 y0) 6 x0 z0) (slN (up2 (up2 φ 5 x0 y0) 6 x0 z0) ℓ 4) (stN (up2 (up2 φ 5 x0 y0) 6 x0 z0) lt 4) ρ ω) := by
  refine Ct.of (by decide +kernel) (Nat.le_of_ble_eq_true rfl) rfl (fun K X hnm r => ?_)
  have X : Cx K P RX8 cX8_thing 4 2 0 0 := X
  have r : Rt K P (some .boolean) 0 0 _ _ _ := r
  show Z K P _ _ 0 0 0 [some (.ref (Bs P + 0)), some (.int (nI x0)), some (.int (nI y0)), some (.int (nI z0))] []
  refine r_iload_n X dX8_thing_0 (pc' := 1) rfl rfl ?_
  refine r_bipush (v := nI 10) X (by decide) dX8_thing_1 (pc' := 3) rfl ?_
  refine r_callS (As := [_, _]) X okX8_isBelow lm_X8_72 dX8_thing_3 (pc' := 6) rfl (ct_X8_isBelow P n _ _ _) rfl rfl (Nat.le_of_ble_eq_true rfl) (by omega) (by omega) (by omega) ?_
  dsimp only [Option.toList, List.cons_append, List.nil_append]
  refine rB_if_eq X dX8_thing_6 (tgt := 25) (by decide) (pc' := 9) rfl (fun c_6 => ?_) (fun c_6 => ?_)
  · exact inB_c (by omega) (by decide) c_6
  · refine r_iload_n X dX8_thing_9 (pc' := 10) rfl rfl ?_
    refine r_iconst (v := nI 4) X (by decide) dX8_thing_10 (pc' := 11) rfl ?_
    refine r_callS (As := [_, _]) X okX8_isBelow lm_X8_72 dX8_thing_11 (pc' := 14) rfl (ct_X8_isBelow P n _ _ _) rfl rfl (Nat.le_of_ble_eq_true rfl) (by omega) (by omega) (by omega) ?_
    dsimp only [Option.toList, List.cons_append, List.nil_append]
    refine rB_if_eq X dX8_thing_14 (tgt := 25) (by decide) (pc' := 17) rfl (fun c_14 => ?_) (fun c_14 => ?_)
    · exact inB_c (by omega) (by decide) c_14
    · refine r_iload_n X dX8_thing_17 (pc' := 18) rfl rfl ?_
      refine r_iconst (v := nI 5) X (by decide) dX8_thing_18 (pc' := 19) rfl ?_
      refine r_callS (As := [_, _]) X okX8_isBelow lm_X8_72 dX8_thing_19 (pc' := 22) rfl (ct_X8_isBelow P n _ _ _) rfl rfl (Nat.le_of_ble_eq_true rfl) (by omega) (by omega) (by omega) ?_
      dsimp only [Option.toList, List.cons_append, List.nil_append]
      refine rB_if_ne X dX8_thing_22 (tgt := 27) (by decide) (pc' := 25) rfl (fun c_22 => ?_) (fun c_22 => ?_)
      · refine r_aload_n X dX8_thing_27 (pc' := 28) rfl rfl ?_
        refine r_get X fX8 lf_X8_13 dX8_thing_28 (pc' := 31) rfl (by decide) (by omega) (wC_e0 _ _ _ _ _ _ _ _) rfl ?_
        refine r_iload_n X dX8_thing_31 (pc' := 32) rfl rfl ?_
        refine r_iload_n X dX8_thing_32 (pc' := 33) rfl rfl ?_
        refine r_iast X dX8_thing_33 (pc' := 34) rfl (by omega) (wC_e2 _ _ _ _ _ _ _ _) (by omega) (by omega) ?_
        rw [wC_s2]
        refine r_aload_n X dX8_thing_34 (pc' := 35) rfl rfl ?_
        refine r_get X fX8 lf_X8_16 dX8_thing_35 (pc' := 38) rfl (by decide) (by omega) (wC_e0 _ _ _ _ _ _ _ _) rfl ?_
        refine r_iload_n X dX8_thing_38 (pc' := 39) rfl rfl ?_
        refine r_iload_n X dX8_thing_39 (pc' := 40) rfl rfl ?_
        refine r_iast X dX8_thing_40 (pc' := 41) rfl (by omega) (wC_e3 _ _ _ _ _ _ _ _) (by omega) (by omega) ?_
        rw [wC_s3]
        refine r_aload_n X dX8_thing_41 (pc' := 42) rfl rfl ?_
        refine r_callV (As := []) X okX8_sendLetters lm_X8_75 dX8_thing_42 (pc' := 45) rfl (ct_X8_sendLetters P n hn h ι _ ℓ lt ρ ω ((W.up 5 _ _ (by simp [bdM]; omega)).up 6 _ _ (by simp [bdM]; omega))) (by omega) (wC_e0 _ _ _ _ _ _ _ _) rfl rfl rfl rfl (Nat.le_of_ble_eq_true rfl) (by omega) (by omega) (by omega) ?_
        dsimp only [Option.toList, List.cons_append, List.nil_append]
        refine r_iconst (v := nI 1) X (by decide) dX8_thing_45 (pc' := 46) rfl ?_
        exact r_iret X r dX8_thing_46 (by omega) (by omega) rfl rfl rfl rfl
      · exact inB_c (by omega) (by decide) c_22
set_option maxRecDepth 100000 in
set_option maxHeartbeats 1000000 in
theorem ct_X8_thing_f (P : Px) (n : Nat) (hn : 59 ≤ n) (h : hw) (ι : Nat → Nat) (φ : Nat → Nat → Nat) (ℓ : Nat → Nat) (lt : Nat → Option Nat) (ρ : Nat → Nat → Option Nat) (ω : Nat → Nat → Nat) (W : Wf ι φ) (x y z : Int32) (hno : ¬ (inB x (nI 10) = true ∧ inB y (nI 4) = true ∧ inB z (nI 5) = true)) : Ct P MX8_thing 2 0 0 [.ref (Bs P + 0), .int x, .int y, .int z] n (wC P h ι φ ℓ lt ρ ω) (some (.int (bI false))) n (wC P h ι φ ℓ lt ρ ω) := by
  refine Ct.of (by decide +kernel) (Nat.le_of_ble_eq_true rfl) rfl (fun K X hnm r => ?_)
  have X : Cx K P RX8 cX8_thing 4 2 0 0 := X
  have r : Rt K P (some .boolean) 0 0 _ _ _ := r
  show Z K P _ _ 0 0 0 [some (.ref (Bs P + 0)), some (.int x), some (.int y), some (.int z)] []
  refine r_iload_n X dX8_thing_0 (pc' := 1) rfl rfl ?_
  refine r_bipush (v := nI 10) X (by decide) dX8_thing_1 (pc' := 3) rfl ?_
  refine r_callS (As := [_, _]) X okX8_isBelow lm_X8_72 dX8_thing_3 (pc' := 6) rfl (ct_X8_isBelow P n _ _ _) rfl rfl (Nat.le_of_ble_eq_true rfl) (by omega) (by omega) (by omega) ?_
  dsimp only [Option.toList, List.cons_append, List.nil_append]
  refine rB_if_eq X dX8_thing_6 (tgt := 25) (by decide) (pc' := 9) rfl (fun c_6 => ?_) (fun c_6 => ?_)
  · refine r_iconst (v := nI 0) X (by decide) dX8_thing_25 (pc' := 26) rfl ?_
    exact r_iret X r dX8_thing_26 (by omega) (by omega) rfl rfl rfl rfl
  · refine r_iload_n X dX8_thing_9 (pc' := 10) rfl rfl ?_
    refine r_iconst (v := nI 4) X (by decide) dX8_thing_10 (pc' := 11) rfl ?_
    refine r_callS (As := [_, _]) X okX8_isBelow lm_X8_72 dX8_thing_11 (pc' := 14) rfl (ct_X8_isBelow P n _ _ _) rfl rfl (Nat.le_of_ble_eq_true rfl) (by omega) (by omega) (by omega) ?_
    dsimp only [Option.toList, List.cons_append, List.nil_append]
    refine rB_if_eq X dX8_thing_14 (tgt := 25) (by decide) (pc' := 17) rfl (fun c_14 => ?_) (fun c_14 => ?_)
    · refine r_iconst (v := nI 0) X (by decide) dX8_thing_25 (pc' := 26) rfl ?_
      exact r_iret X r dX8_thing_26 (by omega) (by omega) rfl rfl rfl rfl
    · refine r_iload_n X dX8_thing_17 (pc' := 18) rfl rfl ?_
      refine r_iconst (v := nI 5) X (by decide) dX8_thing_18 (pc' := 19) rfl ?_
      refine r_callS (As := [_, _]) X okX8_isBelow lm_X8_72 dX8_thing_19 (pc' := 22) rfl (ct_X8_isBelow P n _ _ _) rfl rfl (Nat.le_of_ble_eq_true rfl) (by omega) (by omega) (by omega) ?_
      dsimp only [Option.toList, List.cons_append, List.nil_append]
      refine rB_if_ne X dX8_thing_22 (tgt := 27) (by decide) (pc' := 25) rfl (fun c_22 => ?_) (fun c_22 => ?_)
      · exact absurd ⟨c_6, c_14, c_22⟩ hno
      · refine r_iconst (v := nI 0) X (by decide) dX8_thing_25 (pc' := 26) rfl ?_
        exact r_iret X r dX8_thing_26 (by omega) (by omega) rfl rfl rfl rfl
set_option maxRecDepth 100000 in
set_option maxHeartbeats 1000000 in
theorem ct_X8_sort_t (P : Px) (n : Nat) (hn : 59 ≤ n) (h : hw) (ι : Nat → Nat) (φ : Nat → Nat → Nat) (ℓ : Nat → Nat) (lt : Nat → Option Nat) (ρ : Nat → Nat → Option Nat) (ω : Nat → Nat → Nat) (W : Wf ι φ) (x0 y0 z0 : Nat) (hx : x0 < 3) (hy : y0 ≤ 500) (hz : z0 ≤ 9) : Ct P MX8_sort 2 0 0 [.ref (Bs P + 0), .int (nI x0), .int (nI y0), .int (nI z0)] n (wC P h ι φ ℓ lt ρ ω) (some (.int (bI true))) n (wC P h ι (up2 (up2 φ 3 x0 y0) 4 x0 z0) (slN (up2 (up2 φ 3 x0 y0) 4 x0 z0) ℓ 4) (stN (up2 (up2 φ 3 x0 y0) 4 x0 z0) lt 4) ρ ω) := by
  refine Ct.of (by decide +kernel) (Nat.le_of_ble_eq_true rfl) rfl (fun K X hnm r => ?_)
  have X : Cx K P RX8 cX8_sort 4 2 0 0 := X
  have r : Rt K P (some .boolean) 0 0 _ _ _ := r
  show Z K P _ _ 0 0 0 [some (.ref (Bs P + 0)), some (.int (nI x0)), some (.int (nI y0)), some (.int (nI z0))] []
  refine r_iload_n X dX8_sort_0 (pc' := 1) rfl rfl ?_
  refine r_iconst (v := nI 3) X (by decide) dX8_sort_1 (pc' := 2) rfl ?_
  refine r_callS (As := [_, _]) X okX8_isBelow lm_X8_72 dX8_sort_2 (pc' := 5) rfl (ct_X8_isBelow P n _ _ _) rfl rfl (Nat.le_of_ble_eq_true rfl) (by omega) (by omega) (by omega) ?_
  dsimp only [Option.toList, List.cons_append, List.nil_append]
  refine rB_if_eq X dX8_sort_5 (tgt := 27) (by decide) (pc' := 8) rfl (fun c_5 => ?_) (fun c_5 => ?_)
  · exact inB_c (by omega) (by decide) c_5
  · refine r_iload_n X dX8_sort_8 (pc' := 9) rfl rfl ?_
    refine r_sipush (v := nI 500) X (by decide) dX8_sort_9 (pc' := 12) rfl ?_
    refine r_callS (As := [_, _]) X okX8_isWithin lm_X8_54 dX8_sort_12 (pc' := 15) rfl (ct_X8_isWithin P n _ _ _) rfl rfl (Nat.le_of_ble_eq_true rfl) (by omega) (by omega) (by omega) ?_
    dsimp only [Option.toList, List.cons_append, List.nil_append]
    refine rB_if_eq X dX8_sort_15 (tgt := 27) (by decide) (pc' := 18) rfl (fun c_15 => ?_) (fun c_15 => ?_)
    · exact inQ_c (by omega) (by decide) c_15
    · refine r_iload_n X dX8_sort_18 (pc' := 19) rfl rfl ?_
      refine r_bipush (v := nI 9) X (by decide) dX8_sort_19 (pc' := 21) rfl ?_
      refine r_callS (As := [_, _]) X okX8_isWithin lm_X8_54 dX8_sort_21 (pc' := 24) rfl (ct_X8_isWithin P n _ _ _) rfl rfl (Nat.le_of_ble_eq_true rfl) (by omega) (by omega) (by omega) ?_
      dsimp only [Option.toList, List.cons_append, List.nil_append]
      refine rB_if_ne X dX8_sort_24 (tgt := 29) (by decide) (pc' := 27) rfl (fun c_24 => ?_) (fun c_24 => ?_)
      · refine r_aload_n X dX8_sort_29 (pc' := 30) rfl rfl ?_
        refine r_get X fX8 lf_X8_22 dX8_sort_30 (pc' := 33) rfl (by decide) (by omega) (wC_e0 _ _ _ _ _ _ _ _) rfl ?_
        refine r_iload_n X dX8_sort_33 (pc' := 34) rfl rfl ?_
        refine r_iload_n X dX8_sort_34 (pc' := 35) rfl rfl ?_
        refine r_iload_n X dX8_sort_35 (pc' := 36) rfl rfl ?_
        refine r_callV (As := [_, _, _]) X okX5_regulate lm_X8_82 dX8_sort_36 (pc' := 39) rfl (ct_X5_regulate P n hn h ι φ ℓ lt ρ ω W x0 y0 z0 hx) (by omega) (wC_e4 _ _ _ _ _ _ _ _) rfl rfl rfl rfl (Nat.le_of_ble_eq_true rfl) (by omega) (by omega) (by omega) ?_
        dsimp only [Option.toList, List.cons_append, List.nil_append]
        refine r_aload_n X dX8_sort_39 (pc' := 40) rfl rfl ?_
        refine r_callV (As := []) X okX8_sendLetters lm_X8_75 dX8_sort_40 (pc' := 43) rfl (ct_X8_sendLetters P n hn h ι _ ℓ lt ρ ω ((W.up 3 _ _ (by simp [bdM]; omega)).up 4 _ _ (by simp [bdM]; omega))) (by omega) (wC_e0 _ _ _ _ _ _ _ _) rfl rfl rfl rfl (Nat.le_of_ble_eq_true rfl) (by omega) (by omega) (by omega) ?_
        dsimp only [Option.toList, List.cons_append, List.nil_append]
        refine r_iconst (v := nI 1) X (by decide) dX8_sort_43 (pc' := 44) rfl ?_
        exact r_iret X r dX8_sort_44 (by omega) (by omega) rfl rfl rfl rfl
      · exact inQ_c (by omega) (by decide) c_24
set_option maxRecDepth 100000 in
set_option maxHeartbeats 1000000 in
theorem ct_X8_sort_f (P : Px) (n : Nat) (hn : 59 ≤ n) (h : hw) (ι : Nat → Nat) (φ : Nat → Nat → Nat) (ℓ : Nat → Nat) (lt : Nat → Option Nat) (ρ : Nat → Nat → Option Nat) (ω : Nat → Nat → Nat) (W : Wf ι φ) (x y z : Int32) (hno : ¬ (inB x (nI 3) = true ∧ inQ y (nI 500) = true ∧ inQ z (nI 9) = true)) : Ct P MX8_sort 2 0 0 [.ref (Bs P + 0), .int x, .int y, .int z] n (wC P h ι φ ℓ lt ρ ω) (some (.int (bI false))) n (wC P h ι φ ℓ lt ρ ω) := by
  refine Ct.of (by decide +kernel) (Nat.le_of_ble_eq_true rfl) rfl (fun K X hnm r => ?_)
  have X : Cx K P RX8 cX8_sort 4 2 0 0 := X
  have r : Rt K P (some .boolean) 0 0 _ _ _ := r
  show Z K P _ _ 0 0 0 [some (.ref (Bs P + 0)), some (.int x), some (.int y), some (.int z)] []
  refine r_iload_n X dX8_sort_0 (pc' := 1) rfl rfl ?_
  refine r_iconst (v := nI 3) X (by decide) dX8_sort_1 (pc' := 2) rfl ?_
  refine r_callS (As := [_, _]) X okX8_isBelow lm_X8_72 dX8_sort_2 (pc' := 5) rfl (ct_X8_isBelow P n _ _ _) rfl rfl (Nat.le_of_ble_eq_true rfl) (by omega) (by omega) (by omega) ?_
  dsimp only [Option.toList, List.cons_append, List.nil_append]
  refine rB_if_eq X dX8_sort_5 (tgt := 27) (by decide) (pc' := 8) rfl (fun c_5 => ?_) (fun c_5 => ?_)
  · refine r_iconst (v := nI 0) X (by decide) dX8_sort_27 (pc' := 28) rfl ?_
    exact r_iret X r dX8_sort_28 (by omega) (by omega) rfl rfl rfl rfl
  · refine r_iload_n X dX8_sort_8 (pc' := 9) rfl rfl ?_
    refine r_sipush (v := nI 500) X (by decide) dX8_sort_9 (pc' := 12) rfl ?_
    refine r_callS (As := [_, _]) X okX8_isWithin lm_X8_54 dX8_sort_12 (pc' := 15) rfl (ct_X8_isWithin P n _ _ _) rfl rfl (Nat.le_of_ble_eq_true rfl) (by omega) (by omega) (by omega) ?_
    dsimp only [Option.toList, List.cons_append, List.nil_append]
    refine rB_if_eq X dX8_sort_15 (tgt := 27) (by decide) (pc' := 18) rfl (fun c_15 => ?_) (fun c_15 => ?_)
    · refine r_iconst (v := nI 0) X (by decide) dX8_sort_27 (pc' := 28) rfl ?_
      exact r_iret X r dX8_sort_28 (by omega) (by omega) rfl rfl rfl rfl
    · refine r_iload_n X dX8_sort_18 (pc' := 19) rfl rfl ?_
      refine r_bipush (v := nI 9) X (by decide) dX8_sort_19 (pc' := 21) rfl ?_
      refine r_callS (As := [_, _]) X okX8_isWithin lm_X8_54 dX8_sort_21 (pc' := 24) rfl (ct_X8_isWithin P n _ _ _) rfl rfl (Nat.le_of_ble_eq_true rfl) (by omega) (by omega) (by omega) ?_
      dsimp only [Option.toList, List.cons_append, List.nil_append]
      refine rB_if_ne X dX8_sort_24 (tgt := 29) (by decide) (pc' := 27) rfl (fun c_24 => ?_) (fun c_24 => ?_)
      · exact absurd ⟨c_5, c_15, c_24⟩ hno
      · refine r_iconst (v := nI 0) X (by decide) dX8_sort_27 (pc' := 28) rfl ?_
        exact r_iret X r dX8_sort_28 (by omega) (by omega) rfl rfl rfl rfl
set_option maxRecDepth 100000 in
set_option maxHeartbeats 1000000 in
theorem ct_X8_judge_t (P : Px) (n : Nat) (hn : 59 ≤ n) (h : hw) (ι : Nat → Nat) (φ : Nat → Nat → Nat) (ℓ : Nat → Nat) (lt : Nat → Option Nat) (ρ : Nat → Nat → Option Nat) (ω : Nat → Nat → Nat) (W : Wf ι φ) (j y0 z0 : Nat) (hj : j < 4) (hy : y0 ≤ 50) (hz : z0 ≤ 20) : Ct P MX8_judge 2 0 0 [.ref (Bs P + 0), .int (nI j), .int (nI y0), .int (nI z0)] n (wC P h ι φ ℓ lt ρ ω) (some (.int (bI true))) n (wC P h ι (up2 (up2 φ 11 j y0) 12 j z0) ℓ lt ρ ω) := by
  refine Ct.of (by decide +kernel) (Nat.le_of_ble_eq_true rfl) rfl (fun K X hnm r => ?_)
  have X : Cx K P RX8 cX8_judge 5 2 0 0 := X
  have r : Rt K P (some .boolean) 0 0 _ _ _ := r
  show Z K P _ _ 0 0 0 [some (.ref (Bs P + 0)), some (.int (nI j)), some (.int (nI y0)), some (.int (nI z0)), none] []
  refine r_aload_n X dX8_judge_0 (pc' := 1) rfl rfl ?_
  refine r_iload_n X dX8_judge_1 (pc' := 2) rfl rfl ?_
  refine r_callV (As := [_]) X okX8_judgeAt lm_X8_135 dX8_judge_2 (pc' := 5) rfl (ct_X8_judgeAt_t P n hn h ι φ ℓ lt ρ ω W j hj) (by omega) (wC_e0 _ _ _ _ _ _ _ _) rfl rfl rfl rfl (Nat.le_of_ble_eq_true rfl) (by omega) (by omega) (by omega) ?_
  dsimp only [Option.toList, List.cons_append, List.nil_append]
  refine r_astore (vs' := [_, _, _, _, _]) X dX8_judge_5 (pc' := 7) rfl (by decide) rfl ?_
  refine r_aload X dX8_judge_7 (pc' := 9) rfl rfl ?_
  refine r_ifnull X dX8_judge_9 (pc' := 12) rfl ?_
  refine r_iload_n X dX8_judge_12 (pc' := 13) rfl rfl ?_
  refine r_bipush (v := nI 50) X (by decide) dX8_judge_13 (pc' := 15) rfl ?_
  refine r_callS (As := [_, _]) X okX8_isWithin lm_X8_54 dX8_judge_15 (pc' := 18) rfl (ct_X8_isWithin P n _ _ _) rfl rfl (Nat.le_of_ble_eq_true rfl) (by omega) (by omega) (by omega) ?_
  dsimp only [Option.toList, List.cons_append, List.nil_append]
  refine rB_if_eq X dX8_judge_18 (tgt := 30) (by decide) (pc' := 21) rfl (fun c_18 => ?_) (fun c_18 => ?_)
  · exact inQ_c hy (by decide) c_18
  · refine r_iload_n X dX8_judge_21 (pc' := 22) rfl rfl ?_
    refine r_bipush (v := nI 20) X (by decide) dX8_judge_22 (pc' := 24) rfl ?_
    refine r_callS (As := [_, _]) X okX8_isWithin lm_X8_54 dX8_judge_24 (pc' := 27) rfl (ct_X8_isWithin P n _ _ _) rfl rfl (Nat.le_of_ble_eq_true rfl) (by omega) (by omega) (by omega) ?_
    dsimp only [Option.toList, List.cons_append, List.nil_append]
    refine rB_if_ne X dX8_judge_27 (tgt := 32) (by decide) (pc' := 30) rfl (fun c_27 => ?_) (fun c_27 => ?_)
    · refine r_aload X dX8_judge_32 (pc' := 34) rfl rfl ?_
      refine r_iload_n X dX8_judge_34 (pc' := 35) rfl rfl ?_
      refine r_putN X fX2 lf_X8_139 rfl dX8_judge_35 (pc' := 38) rfl (by decide) (by omega) (wC_jd _ _ _ _ _ _ _ _ hj) (Nat.le_of_ble_eq_true rfl) rfl rfl ?_
      rw [wC_jspan hj]
      refine r_aload X dX8_judge_38 (pc' := 40) rfl rfl ?_
      refine r_iload_n X dX8_judge_40 (pc' := 41) rfl rfl ?_
      refine r_putN X fX2 lf_X8_142 rfl dX8_judge_41 (pc' := 44) rfl (by decide) (by omega) (wC_jd _ _ _ _ _ _ _ _ hj) (Nat.le_of_ble_eq_true rfl) rfl rfl ?_
      rw [wC_jway hj]
      refine r_iconst (v := nI 1) X (by decide) dX8_judge_44 (pc' := 45) rfl ?_
      exact r_iret X r dX8_judge_45 (by omega) (by omega) rfl rfl rfl rfl
    · exact inQ_c hz (by decide) c_27
set_option maxRecDepth 100000 in
set_option maxHeartbeats 1000000 in
theorem ct_X8_judge_f (P : Px) (n : Nat) (hn : 59 ≤ n) (h : hw) (ι : Nat → Nat) (φ : Nat → Nat → Nat) (ℓ : Nat → Nat) (lt : Nat → Option Nat) (ρ : Nat → Nat → Option Nat) (ω : Nat → Nat → Nat) (W : Wf ι φ) (x y z : Int32) (hx : inQ x (nI 3) = false) : Ct P MX8_judge 2 0 0 [.ref (Bs P + 0), .int x, .int y, .int z] n (wC P h ι φ ℓ lt ρ ω) (some (.int (bI false))) n (wC P h ι φ ℓ lt ρ ω) := by
  refine Ct.of (by decide +kernel) (Nat.le_of_ble_eq_true rfl) rfl (fun K X hnm r => ?_)
  have X : Cx K P RX8 cX8_judge 5 2 0 0 := X
  have r : Rt K P (some .boolean) 0 0 _ _ _ := r
  show Z K P _ _ 0 0 0 [some (.ref (Bs P + 0)), some (.int x), some (.int y), some (.int z), none] []
  refine r_aload_n X dX8_judge_0 (pc' := 1) rfl rfl ?_
  refine r_iload_n X dX8_judge_1 (pc' := 2) rfl rfl ?_
  refine r_callV (As := [_]) X okX8_judgeAt lm_X8_135 dX8_judge_2 (pc' := 5) rfl (ct_X8_judgeAt_f P n hn h ι φ ℓ lt ρ ω W x hx) (by omega) (wC_e0 _ _ _ _ _ _ _ _) rfl rfl rfl rfl (Nat.le_of_ble_eq_true rfl) (by omega) (by omega) (by omega) ?_
  dsimp only [Option.toList, List.cons_append, List.nil_append]
  refine r_astoreN (vs' := [_, _, _, _, _]) X dX8_judge_5 (pc' := 7) rfl (by decide) rfl ?_
  refine r_aloadN X dX8_judge_7 (pc' := 9) rfl rfl ?_
  refine r_ifnullN X dX8_judge_9 (tgt := 30) (by decide) ?_
  refine r_iconst (v := nI 0) X (by decide) dX8_judge_30 (pc' := 31) rfl ?_
  exact r_iret X r dX8_judge_31 (by omega) (by omega) rfl rfl rfl rfl
set_option maxRecDepth 100000 in
set_option maxHeartbeats 1000000 in
theorem ct_X8_judge_g (P : Px) (n : Nat) (hn : 59 ≤ n) (h : hw) (ι : Nat → Nat) (φ : Nat → Nat → Nat) (ℓ : Nat → Nat) (lt : Nat → Option Nat) (ρ : Nat → Nat → Option Nat) (ω : Nat → Nat → Nat) (W : Wf ι φ) (j : Nat) (hj : j < 4) (y z : Int32) (hno : ¬ (inQ y (nI 50) = true ∧ inQ z (nI 20) = true)) : Ct P MX8_judge 2 0 0 [.ref (Bs P + 0), .int (nI j), .int y, .int z] n (wC P h ι φ ℓ lt ρ ω) (some (.int (bI false))) n (wC P h ι φ ℓ lt ρ ω) := by
  refine Ct.of (by decide +kernel) (Nat.le_of_ble_eq_true rfl) rfl (fun K X hnm r => ?_)
  have X : Cx K P RX8 cX8_judge 5 2 0 0 := X
  have r : Rt K P (some .boolean) 0 0 _ _ _ := r
  show Z K P _ _ 0 0 0 [some (.ref (Bs P + 0)), some (.int (nI j)), some (.int y), some (.int z), none] []
  refine r_aload_n X dX8_judge_0 (pc' := 1) rfl rfl ?_
  refine r_iload_n X dX8_judge_1 (pc' := 2) rfl rfl ?_
  refine r_callV (As := [_]) X okX8_judgeAt lm_X8_135 dX8_judge_2 (pc' := 5) rfl (ct_X8_judgeAt_t P n hn h ι φ ℓ lt ρ ω W j hj) (by omega) (wC_e0 _ _ _ _ _ _ _ _) rfl rfl rfl rfl (Nat.le_of_ble_eq_true rfl) (by omega) (by omega) (by omega) ?_
  dsimp only [Option.toList, List.cons_append, List.nil_append]
  refine r_astore (vs' := [_, _, _, _, _]) X dX8_judge_5 (pc' := 7) rfl (by decide) rfl ?_
  refine r_aload X dX8_judge_7 (pc' := 9) rfl rfl ?_
  refine r_ifnull X dX8_judge_9 (pc' := 12) rfl ?_
  refine r_iload_n X dX8_judge_12 (pc' := 13) rfl rfl ?_
  refine r_bipush (v := nI 50) X (by decide) dX8_judge_13 (pc' := 15) rfl ?_
  refine r_callS (As := [_, _]) X okX8_isWithin lm_X8_54 dX8_judge_15 (pc' := 18) rfl (ct_X8_isWithin P n _ _ _) rfl rfl (Nat.le_of_ble_eq_true rfl) (by omega) (by omega) (by omega) ?_
  dsimp only [Option.toList, List.cons_append, List.nil_append]
  refine rB_if_eq X dX8_judge_18 (tgt := 30) (by decide) (pc' := 21) rfl (fun c_18 => ?_) (fun c_18 => ?_)
  · refine r_iconst (v := nI 0) X (by decide) dX8_judge_30 (pc' := 31) rfl ?_
    exact r_iret X r dX8_judge_31 (by omega) (by omega) rfl rfl rfl rfl
  · refine r_iload_n X dX8_judge_21 (pc' := 22) rfl rfl ?_
    refine r_bipush (v := nI 20) X (by decide) dX8_judge_22 (pc' := 24) rfl ?_
    refine r_callS (As := [_, _]) X okX8_isWithin lm_X8_54 dX8_judge_24 (pc' := 27) rfl (ct_X8_isWithin P n _ _ _) rfl rfl (Nat.le_of_ble_eq_true rfl) (by omega) (by omega) (by omega) ?_
    dsimp only [Option.toList, List.cons_append, List.nil_append]
    refine rB_if_ne X dX8_judge_27 (tgt := 32) (by decide) (pc' := 30) rfl (fun c_27 => ?_) (fun c_27 => ?_)
    · exact absurd ⟨c_18, c_27⟩ hno
    · refine r_iconst (v := nI 0) X (by decide) dX8_judge_30 (pc' := 31) rfl ?_
      exact r_iret X r dX8_judge_31 (by omega) (by omega) rfl rfl rfl rfl
