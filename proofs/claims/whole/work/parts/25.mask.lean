/-! ===== asks, judges, log, lost, move, count of the model ===== -/
theorem mi_0 : (-1 : Int32) = mi 0 := by decide
theorem mi_s (p : Nat) : nI p = mi (p + 1) := (nI_pred p).symm
theorem valN_up {ι : Nat → Nat} {φ : Nat → Nat → Nat} {k a x wo s : Nat} (h : k ≠ 1 ∧ k ≠ 2 ∧ k ≠ 3) : valN ι (up2 φ k a x) wo s = valN ι φ wo s := by
  unfold valN
  rw [up2_n φ x (Or.inl (Ne.symm h.1)), up2_n φ x (Or.inl (Ne.symm h.2.1)), up2_n φ x (Or.inl (Ne.symm h.2.2))]
theorem factN_up {ι : Nat → Nat} {φ : Nat → Nat → Nat} {k a x who : Nat} (h : 7 ≤ k) : factN ι (up2 φ k a x) who = factN ι φ who := by
  unfold factN
  rw [valN_up (by omega), valN_up (by omega), valN_up (by omega), up2_n φ x (Or.inl (by omega)), up2_n φ x (Or.inl (by omega)), up2_n φ x (Or.inl (by omega))]
def logS (ι : Nat → Nat) (φ : Nat → Nat → Nat) (who ans f : Nat) : Nat → Nat → Nat := up2 (up2 (up2 (up2 (up2 φ 16 (ι 2) (ι 0)) 17 (ι 2) who) 18 (ι 2) (factN ι φ who)) 19 (ι 2) ans) 20 (ι 2) f
def logI (ι : Nat → Nat) (ans : Nat) : Nat → Nat := if ans = 0 then up1 (up1 ι 2 (ι 2 + 1)) 3 (ι 3 + 1) else up1 ι 2 (ι 2 + 1)
abbrev logIA := @logI
abbrev logSA := @logS
theorem Wf.logS {ι : Nat → Nat} {φ : Nat → Nat → Nat} (W : Wf ι φ) {who : Nat} (hw : who % 10 < 4) (ans f : Nat) : Wf ι (logSA ι φ who ans f) :=
  ((((W.up 16 _ _ (by omega)).up 17 _ _ (by omega)).up 18 _ _ (by have := factN_lt W hw; simp [bdM]; omega)).up 19 _ _ (by omega)).up 20 _ _ (by omega)
theorem Wf.re {ι ι' : Nat → Nat} {φ : Nat → Nat → Nat} (W : Wf ι φ) (h0 : ι' 0 = ι 0) (h1 : ι' 1 ≤ 1) (h2 : ι' 2 ≤ 300) : Wf ι' φ :=
  ⟨by rw [h0]; exact W.now, h1, h2, W.v0, W.v1, fun i => by rw [h0]; exact W.v2 i, W.v3, W.v4, W.v5, W.v6, W.v7, W.v8, W.v9, W.v10, W.v11, W.v12, fun i => by rw [h0]; exact W.v13 i, W.v14, W.v15, W.v18⟩
theorem Wf.logI {ι : Nat → Nat} {φ : Nat → Nat → Nat} (W : Wf ι φ) (h : ι 2 < 300) (ans : Nat) : Wf (logIA ι ans) φ := by
  have e : logIA ι ans = if ans = 0 then up1 (up1 ι 2 (ι 2 + 1)) 3 (ι 3 + 1) else up1 ι 2 (ι 2 + 1) := rfl
  by_cases ha : ans = 0
  · rw [if_pos ha] at e
    show Wf (logIA ι ans) φ
    rw [e]
    exact W.re rfl W.inF (by show ι 2 + 1 ≤ 300; omega)
  · rw [if_neg ha] at e
    show Wf (logIA ι ans) φ
    rw [e]
    exact W.re rfl W.inF (by show ι 2 + 1 ≤ 300; omega)
noncomputable def askOK (ι : Nat → Nat) (x : Int32) : Prop := askQ x = true ∧ ι 2 < 300
noncomputable def ansW (ι : Nat → Nat) (φ : Nat → Nat → Nat) (who : Nat) : Nat := ansN φ (ι 1) (factN ι φ who)
noncomputable def aAsk (ι : Nat → Nat) (φ : Nat → Nat → Nat) (x : Int32) : Int32 := pif (askOK ι x) (nI (ansW ι φ (tn x))) (-1)
noncomputable def sAsk (ι : Nat → Nat) (φ : Nat → Nat → Nat) (x : Int32) : (Nat → Nat) × (Nat → Nat → Nat) := pif (askOK ι x) (logI ι (ansW ι φ (tn x)), logS ι φ (tn x) (ansW ι φ (tn x)) 0) (ι, φ)
noncomputable def behOK (ι : Nat → Nat) (x y : Int32) : Prop := askQ x = true ∧ inQ y (nI 9) = true ∧ ¬ tn y = tn x / 1000 ∧ ι 2 < 300
noncomputable def ansB (ι : Nat → Nat) (φ : Nat → Nat → Nat) (who p : Nat) : Nat := max (ansW ι φ who) (ansW ι φ (p * 1000 + who % 1000))
noncomputable def aBeh (ι : Nat → Nat) (φ : Nat → Nat → Nat) (x y : Int32) : Int32 := pif (behOK ι x y) (nI (ansB ι φ (tn x) (tn y))) (-1)
noncomputable def sBeh (ι : Nat → Nat) (φ : Nat → Nat → Nat) (x y : Int32) : (Nat → Nat) × (Nat → Nat → Nat) := pif (behOK ι x y) (logI ι (ansB ι φ (tn x) (tn y)), logS ι φ (tn x) (ansB ι φ (tn x) (tn y)) (tn y + 1)) (ι, φ)
noncomputable def aWhy (ι : Nat → Nat) (φ : Nat → Nat → Nat) (x y : Int32) : Int32 := pif (inQ x (nI 1) = true ∧ askQ y = true) (oI (decN φ (tn x) (factN ι φ (tn y)))) (-1)
noncomputable def aFacts (ι : Nat → Nat) (φ : Nat → Nat → Nat) (x : Int32) : Int32 := pif (askQ x = true) (nI (factN ι φ (tn x))) (-1)
def keptP (ι : Nat → Nat) (φ : Nat → Nat → Nat) (j w : Nat) : Prop := ¬ φ 13 (10000 * j + w) = 0 ∧ ι 0 - (φ 13 (10000 * j + w) - 1) ≤ φ 11 j
def judOK (x y : Int32) : Prop := inQ x (nI 3) = true ∧ askQ y = true
noncomputable def aJud (ι : Nat → Nat) (φ : Nat → Nat → Nat) (x y : Int32) : Int32 := pif (judOK x y) (pif (keptP ι φ (tn x) (tn y)) (nI (φ 14 (10000 * tn x + tn y))) (nI (ansW ι φ (tn y)))) (-1)
noncomputable def sJud (ι : Nat → Nat) (φ : Nat → Nat → Nat) (x y : Int32) : (Nat → Nat) × (Nat → Nat → Nat) := pif (judOK x y) (pif (keptP ι φ (tn x) (tn y)) (up1 ι 4 (ι 4 + 1), φ) (ι, up2 (up2 φ 13 (10000 * tn x + tn y) (ι 0 + 1)) 14 (10000 * tn x + tn y) (ansW ι φ (tn y)))) (ι, φ)
theorem kept_t {ι : Nat → Nat} {φ : Nat → Nat → Nat} (W : Wf ι φ) {j w : Nat} (c : nI (φ 11 j) < nI (ι 0) - nv (φ 13 (10000 * j + w))) : ¬ keptP ι φ j w := by
  have h := (nv_gt (by have := W.v11 j; omega) W.now (W.v13 _)).mp c
  unfold keptP
  omega
theorem kept_f {ι : Nat → Nat} {φ : Nat → Nat → Nat} (W : Wf ι φ) {j w : Nat} (c : ¬ nI (φ 11 j) < nI (ι 0) - nv (φ 13 (10000 * j + w))) : keptP ι φ j w := by
  unfold keptP
  apply Classical.byContradiction
  intro h
  exact c ((nv_gt (by have := W.v11 j; omega) W.now (W.v13 _)).mpr (by omega))
theorem fitsN_up {φ : Nat → Nat → Nat} {k a x b code : Nat} (h : 11 ≤ k) : fitsN (up2 φ k a x) b code = fitsN φ b code := by
  unfold fitsN sureN
  rw [up2_n φ x (Or.inl (by omega)), up2_n φ x (Or.inl (by omega)), up2_n φ x (Or.inl (by omega)), up2_n φ x (Or.inl (by omega)), up2_n φ x (Or.inl (by omega))]
theorem decN_up {φ : Nat → Nat → Nat} {k a x hp code : Nat} (h : 11 ≤ k) : decN (up2 φ k a x) hp code = decN φ hp code := by
  unfold decN
  rw [up2_n φ x (Or.inl (by omega))]
  congr 1
  funext i
  exact fitsN_up h
theorem letN_up {φ : Nat → Nat → Nat} {k a x hp code : Nat} (h : 11 ≤ k) : letN (up2 φ k a x) hp code = letN φ hp code := by
  unfold letN
  rw [decN_up h]
  cases decN φ hp code with
  | none => rfl
  | some i => show (up2 φ k a x 10 _ == 0) = _; rw [up2_n φ x (Or.inl (by omega))]
theorem ansN_up {φ : Nat → Nat → Nat} {k a x hp code : Nat} (h : 11 ≤ k) : ansN (up2 φ k a x) hp code = ansN φ hp code := by
  unfold ansN
  rw [letN_up h, letN_up h]
theorem ansW_up {ι : Nat → Nat} {φ : Nat → Nat → Nat} {k a x who : Nat} (h : 11 ≤ k) : ansW ι (up2 φ k a x) who = ansW ι φ who := by
  unfold ansW
  rw [ansN_up h, factN_up (by omega)]
def cntN (p : Nat → Bool) : Nat → Nat
  | 0 => 0
  | n + 1 => cntN p n + (if p n = true then 1 else 0)
theorem cntN_le (p : Nat → Bool) : ∀ n, cntN p n ≤ n
  | 0 => Nat.le_refl _
  | n + 1 => by
    have := cntN_le p n
    simp only [cntN]
    split <;> omega
noncomputable def keptB (ι : Nat → Nat) (φ : Nat → Nat → Nat) (j w : Nat) : Bool := @decide (keptP ι φ j w) (Classical.propDecidable _)
theorem keptB_t {ι : Nat → Nat} {φ : Nat → Nat → Nat} {j w : Nat} (h : keptP ι φ j w) : keptB ι φ j w = true := @decide_eq_true _ (Classical.propDecidable _) h
theorem keptB_f {ι : Nat → Nat} {φ : Nat → Nat → Nat} {j w : Nat} (h : ¬ keptP ι φ j w) : keptB ι φ j w = false := @decide_eq_false _ (Classical.propDecidable _) h
noncomputable def aKeeps (ι : Nat → Nat) (φ : Nat → Nat → Nat) (x : Int32) : Int32 := pif (inQ x (nI 3) = true) (nI (cntN (keptB ι φ (tn x)) 10000)) (-1)
noncomputable def lostB (ι : Nat → Nat) (φ : Nat → Nat → Nat) (i : Nat) : Bool := (φ 19 i == 0) && !letN φ (1 - ι 1) (φ 18 i)
noncomputable def lostN (ι : Nat → Nat) (φ : Nat → Nat → Nat) : Nat := cntN (fun k => lostB ι φ (ι 2 - 40 + k)) (ι 2 - (ι 2 - 40))
noncomputable def movOK (ι : Nat → Nat) (φ : Nat → Nat → Nat) (x : Int32) : Prop := ¬ x = 0 ∨ lostN ι φ = 0
noncomputable def movB (ι : Nat → Nat) (φ : Nat → Nat → Nat) (x : Int32) : Bool := @decide (movOK ι φ x) (Classical.propDecidable _)
noncomputable def sMove (ι : Nat → Nat) (φ : Nat → Nat → Nat) (x : Int32) : (Nat → Nat) × (Nat → Nat → Nat) := pif (movOK ι φ x) (up1 ι 1 (1 - ι 1), chg (up1 ι 1 (1 - ι 1)) φ 4) (ι, φ)
def aLog (ι : Nat → Nat) (φ : Nat → Nat → Nat) (x y : Int32) : Int32 := if inB x (nI (ι 2)) = true then (if y = nI 0 then nI (φ 16 (tn x)) else if y = nI 1 then nI (φ 17 (tn x)) else if y = nI 2 then nI (φ 18 (tn x)) else if y = nI 3 then nI (φ 19 (tn x)) else if y = nI 4 then mi (φ 20 (tn x)) else -1) else -1
def aCount (ι : Nat → Nat) (φ : Nat → Nat → Nat) (x : Int32) : Int32 := if x = nI 0 then nI (ι 0) else if x = nI 1 then nI (ι 1) else if x = nI 2 then nI (φ 7 0) else if x = nI 3 then nI (φ 7 1) else if x = nI 4 then nI (ι 2) else if x = nI 5 then nI (ι 3) else if x = nI 6 then nI (ι 4) else -1
set_option maxRecDepth 100000 in
set_option maxHeartbeats 4000000 in
theorem ct_X9_logs (P : Px) (n : Nat) (hn : 59 ≤ n) (h : hw) (ι : Nat → Nat) (φ : Nat → Nat → Nat) (W : Wf ι φ) (who ans f : Nat) (hwo : who < 10000) (hw4 : who % 10 < 4) (han : ans ≤ 2) (h300 : ι 2 < 300) : Ct P MX9_logs 2 0 0 [.ref (Bs P + 37), .int (nI who), .int (nI ans), .int (mi f)] n (wM P h ι φ) (some (.int (nI ans))) n (wM P h (logI ι ans) (logS ι φ who ans f)) := by
  refine Ct.of (by decide +kernel) (Nat.le_of_ble_eq_true rfl) rfl (fun K X hnm r => ?_)
  have X : Cx K P RX9 cX9_logs 4 2 0 0 := X
  have r : Rt K P (some .int) 0 0 _ _ _ := r
  show Z K P _ _ 0 0 0 [some (.ref (Bs P + 37)), some (.int (nI who)), some (.int (nI ans)), some (.int (mi f))] []
  refine r_aload_n X dX9_logs_0 (pc' := 1) rfl rfl ?_
  refine r_get X fX9 lf_X9_60 dX9_logs_1 (pc' := 4) rfl (by decide) (by omega) (wM_e37 _ _ _ _) rfl ?_
  refine r_aload_n X dX9_logs_4 (pc' := 5) rfl rfl ?_
  refine r_get X fX9 lf_X9_122 dX9_logs_5 (pc' := 8) rfl (by decide) (by omega) (wM_e37 _ _ _ _) rfl ?_
  refine r_aload_n X dX9_logs_8 (pc' := 9) rfl rfl ?_
  refine r_get X fX9 lf_X9_84 dX9_logs_9 (pc' := 12) rfl (by decide) (by omega) (wM_e37 _ _ _ _) rfl ?_
  refine r_iast X dX9_logs_12 (pc' := 13) rfl (by omega) (wM_e54 _ _ _ _) (by omega) (by omega) ?_
  rw [wM_s54]
  refine r_aload_n X dX9_logs_13 (pc' := 14) rfl rfl ?_
  refine r_get X fX9 lf_X9_63 dX9_logs_14 (pc' := 17) rfl (by decide) (by omega) (wM_e37 _ _ _ _) rfl ?_
  refine r_aload_n X dX9_logs_17 (pc' := 18) rfl rfl ?_
  refine r_get X fX9 lf_X9_122 dX9_logs_18 (pc' := 21) rfl (by decide) (by omega) (wM_e37 _ _ _ _) rfl ?_
  refine r_iload_n X dX9_logs_21 (pc' := 22) rfl rfl ?_
  refine r_iast X dX9_logs_22 (pc' := 23) rfl (by omega) (wM_e55 _ _ _ _) (by omega) (by omega) ?_
  rw [wM_s55]
  refine r_aload_n X dX9_logs_23 (pc' := 24) rfl rfl ?_
  refine r_get X fX9 lf_X9_66 dX9_logs_24 (pc' := 27) rfl (by decide) (by omega) (wM_e37 _ _ _ _) rfl ?_
  refine r_aload_n X dX9_logs_27 (pc' := 28) rfl rfl ?_
  refine r_get X fX9 lf_X9_122 dX9_logs_28 (pc' := 31) rfl (by decide) (by omega) (wM_e37 _ _ _ _) rfl ?_
  refine r_aload_n X dX9_logs_31 (pc' := 32) rfl rfl ?_
  refine r_iload_n X dX9_logs_32 (pc' := 33) rfl rfl ?_
  refine r_callV (As := [_]) X okX9_factsOf lm_X9_125 dX9_logs_33 (pc' := 36) rfl (ct_X9_factsOf P n hn h ι _ ((W.up 16 _ _ (by omega)).up 17 _ _ (by omega)) who hwo hw4) (by omega) (wM_e37 _ _ _ _) rfl rfl rfl rfl (Nat.le_of_ble_eq_true rfl) (by omega) (by omega) (by omega) ?_
  dsimp only [Option.toList, List.cons_append, List.nil_append]
  rw [factN_up (by decide), factN_up (by decide)]
  refine r_iast X dX9_logs_36 (pc' := 37) rfl (by omega) (wM_e56 _ _ _ _) (by omega) (by omega) ?_
  rw [wM_s56]
  refine r_aload_n X dX9_logs_37 (pc' := 38) rfl rfl ?_
  refine r_get X fX9 lf_X9_69 dX9_logs_38 (pc' := 41) rfl (by decide) (by omega) (wM_e37 _ _ _ _) rfl ?_
  refine r_aload_n X dX9_logs_41 (pc' := 42) rfl rfl ?_
  refine r_get X fX9 lf_X9_122 dX9_logs_42 (pc' := 45) rfl (by decide) (by omega) (wM_e37 _ _ _ _) rfl ?_
  refine r_iload_n X dX9_logs_45 (pc' := 46) rfl rfl ?_
  refine r_iast X dX9_logs_46 (pc' := 47) rfl (by omega) (wM_e57 _ _ _ _) (by omega) (by omega) ?_
  rw [wM_s57]
  refine r_aload_n X dX9_logs_47 (pc' := 48) rfl rfl ?_
  refine r_get X fX9 lf_X9_72 dX9_logs_48 (pc' := 51) rfl (by decide) (by omega) (wM_e37 _ _ _ _) rfl ?_
  refine r_aload_n X dX9_logs_51 (pc' := 52) rfl rfl ?_
  refine r_get X fX9 lf_X9_122 dX9_logs_52 (pc' := 55) rfl (by decide) (by omega) (wM_e37 _ _ _ _) rfl ?_
  refine r_iload_n X dX9_logs_55 (pc' := 56) rfl rfl ?_
  refine r_iast X dX9_logs_56 (pc' := 57) rfl (by omega) (wM_e58 _ _ _ _) (by omega) (by omega) ?_
  rw [wM_s58]
  rw [show up2 (up2 (up2 (up2 (up2 φ 16 (ι 2) (ι 0)) 17 (ι 2) who) 18 (ι 2) (factN ι φ who)) 19 (ι 2) ans) 20 (ι 2) f = logS ι φ who ans f from rfl]
  refine r_aload_n X dX9_logs_57 (pc' := 58) rfl rfl ?_
  refine r_dup X rfl dX9_logs_58 (pc' := 59) rfl ?_
  refine r_get X fX9 lf_X9_122 dX9_logs_59 (pc' := 62) rfl (by decide) (by omega) (wM_e37 _ _ _ _) rfl ?_
  refine r_iconst (v := nI 1) X (by decide) dX9_logs_62 (pc' := 63) rfl ?_
  first | refine rN_iadd X dX9_logs_63 (pc' := 64) rfl ?_ | refine r_iadd X dX9_logs_63 (pc' := 64) rfl ?_
  refine r_put X fX9 lf_X9_122 rfl dX9_logs_64 (pc' := 67) rfl (by decide) (by omega) (wM_e37 _ _ _ _) (Nat.le_of_ble_eq_true rfl) rfl rfl ?_
  rw [wM_i2]
  refine r_iload_n X dX9_logs_67 (pc' := 68) rfl rfl ?_
  refine rN_if_ne X dX9_logs_68 (tgt := 81) (by decide) (pc' := 71) rfl (by omega) (fun c_68 => ?_) (fun c_68 => ?_)
  · have hI : logI ι ans = up1 ι 2 (ι 2 + 1) := if_neg c_68
    refine r_iload_n X dX9_logs_81 (pc' := 82) rfl rfl ?_
    exact r_iret X r dX9_logs_82 (by omega) (by omega) rfl rfl rfl (by rw [hI] <;> rfl)
  · have hI : logI ι ans = up1 (up1 ι 2 (ι 2 + 1)) 3 (ι 3 + 1) := if_pos c_68
    refine r_aload_n X dX9_logs_71 (pc' := 72) rfl rfl ?_
    refine r_dup X rfl dX9_logs_72 (pc' := 73) rfl ?_
    refine r_get X fX9 lf_X9_128 dX9_logs_73 (pc' := 76) rfl (by decide) (by omega) (wM_e37 _ _ _ _) rfl ?_
    refine r_iconst (v := nI 1) X (by decide) dX9_logs_76 (pc' := 77) rfl ?_
    first | refine rN_iadd X dX9_logs_77 (pc' := 78) rfl ?_ | refine r_iadd X dX9_logs_77 (pc' := 78) rfl ?_
    refine r_put X fX9 lf_X9_128 rfl dX9_logs_78 (pc' := 81) rfl (by decide) (by omega) (wM_e37 _ _ _ _) (Nat.le_of_ble_eq_true rfl) rfl rfl ?_
    rw [wM_i3]
    refine r_iload_n X dX9_logs_81 (pc' := 82) rfl rfl ?_
    exact r_iret X r dX9_logs_82 (by omega) (by omega) rfl rfl rfl (by rw [hI] <;> rfl)
set_option maxRecDepth 100000 in
set_option maxHeartbeats 4000000 in
theorem ct_X9_ask (P : Px) (n : Nat) (hn : 59 ≤ n) (h : hw) (ι : Nat → Nat) (φ : Nat → Nat → Nat) (W : Wf ι φ) (x : Int32) : Ct P MX9_ask 6 0 0 [.ref (Bs P + 37), .int x] n (wM P h ι φ) (some (.int (aAsk ι φ x))) n (wM P h (sAsk ι φ x).1 (sAsk ι φ x).2) := by
  refine Ct.of (by decide +kernel) (Nat.le_of_ble_eq_true rfl) rfl (fun K X hnm r => ?_)
  have X : Cx K P RX9 cX9_ask 2 6 0 0 := X
  have r : Rt K P (some .int) 0 0 _ _ _ := r
  show Z K P _ _ 0 0 0 [some (.ref (Bs P + 37)), some (.int x)] []
  have hno : ¬ askOK ι x → aAsk ι φ x = -1 ∧ sAsk ι φ x = (ι, φ) := fun q => ⟨pif_f q, pif_f q⟩
  have hye : askOK ι x → aAsk ι φ x = nI (ansW ι φ (tn x)) ∧ sAsk ι φ x = (logI ι (ansW ι φ (tn x)), logS ι φ (tn x) (ansW ι φ (tn x)) 0) := fun q => ⟨pif_t q, pif_t q⟩
  refine r_iload_n X dX9_ask_0 (pc' := 1) rfl rfl ?_
  refine r_callS (As := [_]) X okX9_isAsk lm_X9_131 dX9_ask_1 (pc' := 4) rfl (ct_X9_isAsk P n _ _) rfl rfl (Nat.le_of_ble_eq_true rfl) (by omega) (by omega) (by omega) ?_
  dsimp only [Option.toList, List.cons_append, List.nil_append]
  refine rB_if_eq X dX9_ask_4 (tgt := 39) (by decide) (pc' := 7) rfl (fun c_4 => ?_) (fun c_4 => ?_)
  · refine r_iconst (v := (-1)) X (by decide) dX9_ask_39 (pc' := 40) rfl ?_
    exact r_iret X r dX9_ask_40 (by omega) (by omega) rfl (by first | (rw [(hye ⟨c_4, c_14⟩).1, tn_n (by omega)]; done) | rw [(hno (fun q => by first | exact absurd q.1 (by rw [c_4]; decide) | exact absurd q.2 (by omega))).1]) rfl (by first | (rw [(hye ⟨c_4, c_14⟩).2, tn_n (by omega)]; done) | rw [(hno (fun q => by first | exact absurd q.1 (by rw [c_4]; decide) | exact absurd q.2 (by omega))).2])
  · obtain ⟨k, hk1, hk2, rfl⟩ := askQ_of c_4
    have ba := W.asks
    refine r_aload_n X dX9_ask_7 (pc' := 8) rfl rfl ?_
    refine r_get X fX9 lf_X9_122 dX9_ask_8 (pc' := 11) rfl (by decide) (by omega) (wM_e37 _ _ _ _) rfl ?_
    refine r_sipush (v := nI 300) X (by decide) dX9_ask_11 (pc' := 14) rfl ?_
    refine rN_icmp_ge X dX9_ask_14 (tgt := 39) (by decide) (pc' := 17) rfl (by omega) (by omega) (fun c_14 => ?_) (fun c_14 => ?_)
    · refine r_iconst (v := (-1)) X (by decide) dX9_ask_39 (pc' := 40) rfl ?_
      exact r_iret X r dX9_ask_40 (by omega) (by omega) rfl (by first | (rw [(hye ⟨c_4, c_14⟩).1, tn_n (by omega)]; done) | rw [(hno (fun q => by first | exact absurd q.1 (by rw [c_4]; decide) | exact absurd q.2 (by omega))).1]) rfl (by first | (rw [(hye ⟨c_4, c_14⟩).2, tn_n (by omega)]; done) | rw [(hno (fun q => by first | exact absurd q.1 (by rw [c_4]; decide) | exact absurd q.2 (by omega))).2])
    · refine r_aload_n X dX9_ask_17 (pc' := 18) rfl rfl ?_
      refine r_iload_n X dX9_ask_18 (pc' := 19) rfl rfl ?_
      refine r_aload_n X dX9_ask_19 (pc' := 20) rfl rfl ?_
      refine r_aload_n X dX9_ask_20 (pc' := 21) rfl rfl ?_
      refine r_get X fX9 lf_X9_134 dX9_ask_21 (pc' := 24) rfl (by decide) (by omega) (wM_e37 _ _ _ _) rfl ?_
      refine r_aload_n X dX9_ask_24 (pc' := 25) rfl rfl ?_
      refine r_iload_n X dX9_ask_25 (pc' := 26) rfl rfl ?_
      refine r_callV (As := [_]) X okX9_factsOf lm_X9_125 dX9_ask_26 (pc' := 29) rfl (ct_X9_factsOf P n hn h ι φ W _ hk1 hk2) (by omega) (wM_e37 _ _ _ _) rfl rfl rfl rfl (Nat.le_of_ble_eq_true rfl) (by omega) (by omega) (by omega) ?_
      dsimp only [Option.toList, List.cons_append, List.nil_append]
      refine r_callV (As := [_, _]) X okX9_answer lm_X9_137 dX9_ask_29 (pc' := 32) rfl (ct_X9_answer P n hn h ι φ W _ _ (by have := W.inF; omega) (factN_lt W hk2)) (by omega) (wM_e37 _ _ _ _) rfl rfl rfl rfl (Nat.le_of_ble_eq_true rfl) (by omega) (by omega) (by omega) ?_
      dsimp only [Option.toList, List.cons_append, List.nil_append]
      rw [show ansN φ (ι 1) (factN ι φ k) = ansW ι φ k from rfl]
      refine r_iconst (v := (-1)) X (by decide) dX9_ask_32 (pc' := 33) rfl ?_
      rw [mi_0]
      refine r_callV (As := [_, _, _]) X okX9_logs lm_X9_140 dX9_ask_33 (pc' := 36) rfl (ct_X9_logs P n hn h ι φ W k (ansW ι φ k) 0 hk1 hk2 (ansN_le _ _ _) c_14) (by omega) (wM_e37 _ _ _ _) rfl rfl rfl rfl (Nat.le_of_ble_eq_true rfl) (by omega) (by omega) (by omega) ?_
      dsimp only [Option.toList, List.cons_append, List.nil_append]
      refine r_goto (tgt := 40) X dX9_ask_36 (by decide) ?_
      exact r_iret X r dX9_ask_40 (by omega) (by omega) rfl (by first | (rw [(hye ⟨c_4, c_14⟩).1, tn_n (by omega)]; done) | rw [(hno (fun q => by first | exact absurd q.1 (by rw [c_4]; decide) | exact absurd q.2 (by omega))).1]) rfl (by first | (rw [(hye ⟨c_4, c_14⟩).2, tn_n (by omega)]; done) | rw [(hno (fun q => by first | exact absurd q.1 (by rw [c_4]; decide) | exact absurd q.2 (by omega))).2])
set_option maxRecDepth 100000 in
set_option maxHeartbeats 4000000 in
theorem ct_X9_behalf (P : Px) (n : Nat) (hn : 59 ≤ n) (h : hw) (ι : Nat → Nat) (φ : Nat → Nat → Nat) (W : Wf ι φ) (x y : Int32) : Ct P MX9_behalf 6 0 0 [.ref (Bs P + 37), .int x, .int y] n (wM P h ι φ) (some (.int (aBeh ι φ x y))) n (wM P h (sBeh ι φ x y).1 (sBeh ι φ x y).2) := by
  refine Ct.of (by decide +kernel) (Nat.le_of_ble_eq_true rfl) rfl (fun K X hnm r => ?_)
  have X : Cx K P RX9 cX9_behalf 5 6 0 0 := X
  have r : Rt K P (some .int) 0 0 _ _ _ := r
  show Z K P _ _ 0 0 0 [some (.ref (Bs P + 37)), some (.int x), some (.int y), none, none] []
  have hno : ¬ behOK ι x y → aBeh ι φ x y = -1 ∧ sBeh ι φ x y = (ι, φ) := fun q => ⟨pif_f q, pif_f q⟩
  have hye : behOK ι x y → aBeh ι φ x y = nI (ansB ι φ (tn x) (tn y)) ∧ sBeh ι φ x y = (logI ι (ansB ι φ (tn x) (tn y)), logS ι φ (tn x) (ansB ι φ (tn x) (tn y)) (tn y + 1)) := fun q => ⟨pif_t q, pif_t q⟩
  have ba := W.asks
  refine r_iload_n X dX9_behalf_0 (pc' := 1) rfl rfl ?_
  refine r_callS (As := [_]) X okX9_isAsk lm_X9_131 dX9_behalf_1 (pc' := 4) rfl (ct_X9_isAsk P n _ _) rfl rfl (Nat.le_of_ble_eq_true rfl) (by omega) (by omega) (by omega) ?_
  dsimp only [Option.toList, List.cons_append, List.nil_append]
  refine rB_if_eq X dX9_behalf_4 (tgt := 33) (by decide) (pc' := 7) rfl (fun c_4 => ?_) (fun c_4 => ?_)
  · refine r_iconst (v := (-1)) X (by decide) dX9_behalf_33 (pc' := 34) rfl ?_
    exact r_iret X r dX9_behalf_34 (by omega) (by omega) rfl (by rw [(hno (fun q => by first | exact absurd q.1 (by rw [c_4]; decide) | exact absurd q.2.1 (by rw [c_11]; decide) | exact q.2.2.1 (by rw [tn_n (by omega), tn_n (by omega)]; exact c_20) | exact absurd q.2.2.2 (by omega))).1]) rfl (by rw [(hno (fun q => by first | exact absurd q.1 (by rw [c_4]; decide) | exact absurd q.2.1 (by rw [c_11]; decide) | exact q.2.2.1 (by rw [tn_n (by omega), tn_n (by omega)]; exact c_20) | exact absurd q.2.2.2 (by omega))).2])
  · obtain ⟨k, hk1, hk2, rfl⟩ := askQ_of c_4
    refine r_iload_n X dX9_behalf_7 (pc' := 8) rfl rfl ?_
    refine r_callS (As := [_]) X okX9_isOne lm_X9_88 dX9_behalf_8 (pc' := 11) rfl (ct_X9_isOne P n _ _) rfl rfl (Nat.le_of_ble_eq_true rfl) (by omega) (by omega) (by omega) ?_
    dsimp only [Option.toList, List.cons_append, List.nil_append]
    refine rB_if_eq X dX9_behalf_11 (tgt := 33) (by decide) (pc' := 14) rfl (fun c_11 => ?_) (fun c_11 => ?_)
    · refine r_iconst (v := (-1)) X (by decide) dX9_behalf_33 (pc' := 34) rfl ?_
      exact r_iret X r dX9_behalf_34 (by omega) (by omega) rfl (by rw [(hno (fun q => by first | exact absurd q.1 (by rw [c_4]; decide) | exact absurd q.2.1 (by rw [c_11]; decide) | exact q.2.2.1 (by rw [tn_n (by omega), tn_n (by omega)]; exact c_20) | exact absurd q.2.2.2 (by omega))).1]) rfl (by rw [(hno (fun q => by first | exact absurd q.1 (by rw [c_4]; decide) | exact absurd q.2.1 (by rw [c_11]; decide) | exact q.2.2.1 (by rw [tn_n (by omega), tn_n (by omega)]; exact c_20) | exact absurd q.2.2.2 (by omega))).2])
    · obtain ⟨y0, hy0, rfl⟩ := inQ_of (by decide) c_11
      refine r_iload_n X dX9_behalf_14 (pc' := 15) rfl rfl ?_
      refine r_iload_n X dX9_behalf_15 (pc' := 16) rfl rfl ?_
      refine r_sipush (v := nI 1000) X (by decide) dX9_behalf_16 (pc' := 19) rfl ?_
      first | refine rN_idiv X dX9_behalf_19 (pc' := 20) rfl (by omega) (by omega) (by omega) ?_ | refine r_idiv X (by decide) dX9_behalf_19 (pc' := 20) rfl ?_
      refine rN_icmp_eq X dX9_behalf_20 (tgt := 33) (by decide) (pc' := 23) rfl (by omega) (by omega) (fun c_20 => ?_) (fun c_20 => ?_)
      · refine r_iconst (v := (-1)) X (by decide) dX9_behalf_33 (pc' := 34) rfl ?_
        exact r_iret X r dX9_behalf_34 (by omega) (by omega) rfl (by rw [(hno (fun q => by first | exact absurd q.1 (by rw [c_4]; decide) | exact absurd q.2.1 (by rw [c_11]; decide) | exact q.2.2.1 (by rw [tn_n (by omega), tn_n (by omega)]; exact c_20) | exact absurd q.2.2.2 (by omega))).1]) rfl (by rw [(hno (fun q => by first | exact absurd q.1 (by rw [c_4]; decide) | exact absurd q.2.1 (by rw [c_11]; decide) | exact q.2.2.1 (by rw [tn_n (by omega), tn_n (by omega)]; exact c_20) | exact absurd q.2.2.2 (by omega))).2])
      · refine r_aload_n X dX9_behalf_23 (pc' := 24) rfl rfl ?_
        refine r_get X fX9 lf_X9_122 dX9_behalf_24 (pc' := 27) rfl (by decide) (by omega) (wM_e37 _ _ _ _) rfl ?_
        refine r_sipush (v := nI 300) X (by decide) dX9_behalf_27 (pc' := 30) rfl ?_
        refine rN_icmp_ne X dX9_behalf_30 (tgt := 35) (by decide) (pc' := 33) rfl (by omega) (by omega) (fun c_30 => ?_) (fun c_30 => ?_)
        · refine r_aload_n X dX9_behalf_35 (pc' := 36) rfl rfl ?_
          refine r_aload_n X dX9_behalf_36 (pc' := 37) rfl rfl ?_
          refine r_get X fX9 lf_X9_134 dX9_behalf_37 (pc' := 40) rfl (by decide) (by omega) (wM_e37 _ _ _ _) rfl ?_
          refine r_aload_n X dX9_behalf_40 (pc' := 41) rfl rfl ?_
          refine r_iload_n X dX9_behalf_41 (pc' := 42) rfl rfl ?_
          refine r_callV (As := [_]) X okX9_factsOf lm_X9_125 dX9_behalf_42 (pc' := 45) rfl (ct_X9_factsOf P n hn h ι φ W _ hk1 hk2) (by omega) (wM_e37 _ _ _ _) rfl rfl rfl rfl (Nat.le_of_ble_eq_true rfl) (by omega) (by omega) (by omega) ?_
          dsimp only [Option.toList, List.cons_append, List.nil_append]
          refine r_callV (As := [_, _]) X okX9_answer lm_X9_137 dX9_behalf_45 (pc' := 48) rfl (ct_X9_answer P n hn h ι φ W _ _ (by have := W.inF; omega) (factN_lt W hk2)) (by omega) (wM_e37 _ _ _ _) rfl rfl rfl rfl (Nat.le_of_ble_eq_true rfl) (by omega) (by omega) (by omega) ?_
          dsimp only [Option.toList, List.cons_append, List.nil_append]
          rw [show ansN φ (ι 1) (factN ι φ k) = ansW ι φ k from rfl]
          refine r_istore_n (vs' := [_, _, _, _, _]) X dX9_behalf_48 (pc' := 49) rfl (by decide) rfl ?_
          refine r_aload_n X dX9_behalf_49 (pc' := 50) rfl rfl ?_
          refine r_aload_n X dX9_behalf_50 (pc' := 51) rfl rfl ?_
          refine r_get X fX9 lf_X9_134 dX9_behalf_51 (pc' := 54) rfl (by decide) (by omega) (wM_e37 _ _ _ _) rfl ?_
          refine r_aload_n X dX9_behalf_54 (pc' := 55) rfl rfl ?_
          refine r_iload_n X dX9_behalf_55 (pc' := 56) rfl rfl ?_
          refine r_sipush (v := nI 1000) X (by decide) dX9_behalf_56 (pc' := 59) rfl ?_
          first | refine rN_imul X dX9_behalf_59 (pc' := 60) rfl ?_ | refine r_imul X dX9_behalf_59 (pc' := 60) rfl ?_
          refine r_iload_n X dX9_behalf_60 (pc' := 61) rfl rfl ?_
          refine r_sipush (v := nI 1000) X (by decide) dX9_behalf_61 (pc' := 64) rfl ?_
          first | refine rN_irem X dX9_behalf_64 (pc' := 65) rfl (by omega) (by omega) (by omega) ?_ | refine r_irem X (by decide) dX9_behalf_64 (pc' := 65) rfl ?_
          first | refine rN_iadd X dX9_behalf_65 (pc' := 66) rfl ?_ | refine r_iadd X dX9_behalf_65 (pc' := 66) rfl ?_
          refine r_callV (As := [_]) X okX9_factsOf lm_X9_125 dX9_behalf_66 (pc' := 69) rfl (ct_X9_factsOf P n hn h ι φ W (y0 * 1000 + k % 1000) (by omega) (by omega)) (by omega) (wM_e37 _ _ _ _) rfl rfl rfl rfl (Nat.le_of_ble_eq_true rfl) (by omega) (by omega) (by omega) ?_
          dsimp only [Option.toList, List.cons_append, List.nil_append]
          refine r_callV (As := [_, _]) X okX9_answer lm_X9_137 dX9_behalf_69 (pc' := 72) rfl (ct_X9_answer P n hn h ι φ W _ _ (by have := W.inF; omega) (factN_lt W (show (y0 * 1000 + k % 1000) % 10 < 4 by omega))) (by omega) (wM_e37 _ _ _ _) rfl rfl rfl rfl (Nat.le_of_ble_eq_true rfl) (by omega) (by omega) (by omega) ?_
          dsimp only [Option.toList, List.cons_append, List.nil_append]
          rw [show ansN φ (ι 1) (factN ι φ (y0 * 1000 + k % 1000)) = ansW ι φ (y0 * 1000 + k % 1000) from rfl]
          have l1 : ansW ι φ k ≤ 2 := ansN_le _ _ _
          have l2 : ansW ι φ (y0 * 1000 + k % 1000) ≤ 2 := ansN_le _ _ _
          refine r_istore (vs' := [_, _, _, _, _]) X dX9_behalf_72 (pc' := 74) rfl (by decide) rfl ?_
          refine r_aload_n X dX9_behalf_74 (pc' := 75) rfl rfl ?_
          refine r_iload_n X dX9_behalf_75 (pc' := 76) rfl rfl ?_
          refine r_iload_n X dX9_behalf_76 (pc' := 77) rfl rfl ?_
          refine r_iload X dX9_behalf_77 (pc' := 79) rfl rfl ?_
          refine rN_icmp_le X dX9_behalf_79 (tgt := 86) (by decide) (pc' := 82) rfl (by omega) (by omega) (fun c_79 => ?_) (fun c_79 => ?_)
          · refine r_iload X dX9_behalf_86 (pc' := 88) rfl rfl ?_
            first | rw [show ansW ι φ k = ansB ι φ k y0 by unfold ansB; omega] | rw [show ansW ι φ (y0 * 1000 + k % 1000) = ansB ι φ k y0 by unfold ansB; omega]
            refine r_iload_n X dX9_behalf_88 (pc' := 89) rfl rfl ?_
            rw [mi_s y0]
            refine r_callV (As := [_, _, _]) X okX9_logs lm_X9_140 dX9_behalf_89 (pc' := 92) rfl (ct_X9_logs P n hn h ι φ W k (ansB ι φ k y0) (y0 + 1) hk1 hk2 (by unfold ansB; omega) (by omega)) (by omega) (wM_e37 _ _ _ _) rfl rfl rfl rfl (Nat.le_of_ble_eq_true rfl) (by omega) (by omega) (by omega) ?_
            dsimp only [Option.toList, List.cons_append, List.nil_append]
            exact r_iret X r dX9_behalf_92 (by omega) (by omega) rfl (by rw [(hye ⟨c_4, c_11, by rw [tn_n (by omega), tn_n (by omega)]; exact c_20, by omega⟩).1, tn_n (by omega), tn_n (by omega)]) rfl (by rw [(hye ⟨c_4, c_11, by rw [tn_n (by omega), tn_n (by omega)]; exact c_20, by omega⟩).2, tn_n (by omega), tn_n (by omega)])
          · refine r_iload_n X dX9_behalf_82 (pc' := 83) rfl rfl ?_
            refine r_goto (tgt := 88) X dX9_behalf_83 (by decide) ?_
            first | rw [show ansW ι φ k = ansB ι φ k y0 by unfold ansB; omega] | rw [show ansW ι φ (y0 * 1000 + k % 1000) = ansB ι φ k y0 by unfold ansB; omega]
            refine r_iload_n X dX9_behalf_88 (pc' := 89) rfl rfl ?_
            rw [mi_s y0]
            refine r_callV (As := [_, _, _]) X okX9_logs lm_X9_140 dX9_behalf_89 (pc' := 92) rfl (ct_X9_logs P n hn h ι φ W k (ansB ι φ k y0) (y0 + 1) hk1 hk2 (by unfold ansB; omega) (by omega)) (by omega) (wM_e37 _ _ _ _) rfl rfl rfl rfl (Nat.le_of_ble_eq_true rfl) (by omega) (by omega) (by omega) ?_
            dsimp only [Option.toList, List.cons_append, List.nil_append]
            exact r_iret X r dX9_behalf_92 (by omega) (by omega) rfl (by rw [(hye ⟨c_4, c_11, by rw [tn_n (by omega), tn_n (by omega)]; exact c_20, by omega⟩).1, tn_n (by omega), tn_n (by omega)]) rfl (by rw [(hye ⟨c_4, c_11, by rw [tn_n (by omega), tn_n (by omega)]; exact c_20, by omega⟩).2, tn_n (by omega), tn_n (by omega)])
        · refine r_iconst (v := (-1)) X (by decide) dX9_behalf_33 (pc' := 34) rfl ?_
          exact r_iret X r dX9_behalf_34 (by omega) (by omega) rfl (by rw [(hno (fun q => by first | exact absurd q.1 (by rw [c_4]; decide) | exact absurd q.2.1 (by rw [c_11]; decide) | exact q.2.2.1 (by rw [tn_n (by omega), tn_n (by omega)]; exact c_20) | exact absurd q.2.2.2 (by omega))).1]) rfl (by rw [(hno (fun q => by first | exact absurd q.1 (by rw [c_4]; decide) | exact absurd q.2.1 (by rw [c_11]; decide) | exact q.2.2.1 (by rw [tn_n (by omega), tn_n (by omega)]; exact c_20) | exact absurd q.2.2.2 (by omega))).2])
set_option maxRecDepth 100000 in
set_option maxHeartbeats 4000000 in
theorem ct_X9_why (P : Px) (n : Nat) (hn : 59 ≤ n) (h : hw) (ι : Nat → Nat) (φ : Nat → Nat → Nat) (W : Wf ι φ) (x y : Int32) : Ct P MX9_why 4 0 0 [.ref (Bs P + 37), .int x, .int y] n (wM P h ι φ) (some (.int (aWhy ι φ x y))) n (wM P h ι φ) := by
  refine Ct.of (by decide +kernel) (Nat.le_of_ble_eq_true rfl) rfl (fun K X hnm r => ?_)
  have X : Cx K P RX9 cX9_why 3 4 0 0 := X
  have r : Rt K P (some .int) 0 0 _ _ _ := r
  show Z K P _ _ 0 0 0 [some (.ref (Bs P + 37)), some (.int x), some (.int y)] []
  refine r_iload_n X dX9_why_0 (pc' := 1) rfl rfl ?_
  refine r_callS (As := [_]) X okX9_isHeap lm_X9_95 dX9_why_1 (pc' := 4) rfl (ct_X9_isHeap P n _ _) rfl rfl (Nat.le_of_ble_eq_true rfl) (by omega) (by omega) (by omega) ?_
  dsimp only [Option.toList, List.cons_append, List.nil_append]
  refine rB_if_eq X dX9_why_4 (tgt := 27) (by decide) (pc' := 7) rfl (fun c_4 => ?_) (fun c_4 => ?_)
  · refine r_iconst (v := (-1)) X (by decide) dX9_why_27 (pc' := 28) rfl ?_
    exact r_iret X r dX9_why_28 (by omega) (by omega) rfl (by unfold aWhy; first | rw [pif_t ⟨c_4, c_11⟩, tn_n (by omega), tn_n (by omega)] | rw [pif_f (fun q => absurd q.1 (by rw [c_4]; decide))] | rw [pif_f (fun q => absurd q.2 (by rw [c_11]; decide))]) rfl rfl
  · obtain ⟨x0, hx0, rfl⟩ := inQ_of (by decide) c_4
    refine r_iload_n X dX9_why_7 (pc' := 8) rfl rfl ?_
    refine r_callS (As := [_]) X okX9_isAsk lm_X9_131 dX9_why_8 (pc' := 11) rfl (ct_X9_isAsk P n _ _) rfl rfl (Nat.le_of_ble_eq_true rfl) (by omega) (by omega) (by omega) ?_
    dsimp only [Option.toList, List.cons_append, List.nil_append]
    refine rB_if_eq X dX9_why_11 (tgt := 27) (by decide) (pc' := 14) rfl (fun c_11 => ?_) (fun c_11 => ?_)
    · refine r_iconst (v := (-1)) X (by decide) dX9_why_27 (pc' := 28) rfl ?_
      exact r_iret X r dX9_why_28 (by omega) (by omega) rfl (by unfold aWhy; first | rw [pif_t ⟨c_4, c_11⟩, tn_n (by omega), tn_n (by omega)] | rw [pif_f (fun q => absurd q.1 (by rw [c_4]; decide))] | rw [pif_f (fun q => absurd q.2 (by rw [c_11]; decide))]) rfl rfl
    · obtain ⟨k, hk1, hk2, rfl⟩ := askQ_of c_11
      refine r_aload_n X dX9_why_14 (pc' := 15) rfl rfl ?_
      refine r_iload_n X dX9_why_15 (pc' := 16) rfl rfl ?_
      refine r_aload_n X dX9_why_16 (pc' := 17) rfl rfl ?_
      refine r_iload_n X dX9_why_17 (pc' := 18) rfl rfl ?_
      refine r_callV (As := [_]) X okX9_factsOf lm_X9_125 dX9_why_18 (pc' := 21) rfl (ct_X9_factsOf P n hn h ι φ W _ hk1 hk2) (by omega) (wM_e37 _ _ _ _) rfl rfl rfl rfl (Nat.le_of_ble_eq_true rfl) (by omega) (by omega) (by omega) ?_
      dsimp only [Option.toList, List.cons_append, List.nil_append]
      refine r_callV (As := [_, _]) X okX9_decides lm_X9_116 dX9_why_21 (pc' := 24) rfl (ct_X9_decides P n hn h ι φ W _ _ (by omega) (factN_lt W hk2)) (by omega) (wM_e37 _ _ _ _) rfl rfl rfl rfl (Nat.le_of_ble_eq_true rfl) (by omega) (by omega) (by omega) ?_
      dsimp only [Option.toList, List.cons_append, List.nil_append]
      refine r_goto (tgt := 28) X dX9_why_24 (by decide) ?_
      exact r_iret X r dX9_why_28 (by omega) (by omega) rfl (by unfold aWhy; first | rw [pif_t ⟨c_4, c_11⟩, tn_n (by omega), tn_n (by omega)] | rw [pif_f (fun q => absurd q.1 (by rw [c_4]; decide))] | rw [pif_f (fun q => absurd q.2 (by rw [c_11]; decide))]) rfl rfl
set_option maxRecDepth 100000 in
set_option maxHeartbeats 4000000 in
theorem ct_X9_facts (P : Px) (n : Nat) (hn : 59 ≤ n) (h : hw) (ι : Nat → Nat) (φ : Nat → Nat → Nat) (W : Wf ι φ) (x : Int32) : Ct P MX9_facts 2 0 0 [.ref (Bs P + 37), .int x] n (wM P h ι φ) (some (.int (aFacts ι φ x))) n (wM P h ι φ) := by
  refine Ct.of (by decide +kernel) (Nat.le_of_ble_eq_true rfl) rfl (fun K X hnm r => ?_)
  have X : Cx K P RX9 cX9_facts 2 2 0 0 := X
  have r : Rt K P (some .int) 0 0 _ _ _ := r
  show Z K P _ _ 0 0 0 [some (.ref (Bs P + 37)), some (.int x)] []
  refine r_iload_n X dX9_facts_0 (pc' := 1) rfl rfl ?_
  refine r_callS (As := [_]) X okX9_isAsk lm_X9_131 dX9_facts_1 (pc' := 4) rfl (ct_X9_isAsk P n _ _) rfl rfl (Nat.le_of_ble_eq_true rfl) (by omega) (by omega) (by omega) ?_
  dsimp only [Option.toList, List.cons_append, List.nil_append]
  refine rB_if_eq X dX9_facts_4 (tgt := 15) (by decide) (pc' := 7) rfl (fun c_4 => ?_) (fun c_4 => ?_)
  · refine r_iconst (v := (-1)) X (by decide) dX9_facts_15 (pc' := 16) rfl ?_
    exact r_iret X r dX9_facts_16 (by omega) (by omega) rfl (by unfold aFacts; first | rw [pif_t c_4, tn_n (by omega)] | rw [pif_f (by rw [c_4]; decide)]) rfl rfl
  · obtain ⟨k, hk1, hk2, rfl⟩ := askQ_of c_4
    refine r_aload_n X dX9_facts_7 (pc' := 8) rfl rfl ?_
    refine r_iload_n X dX9_facts_8 (pc' := 9) rfl rfl ?_
    refine r_callV (As := [_]) X okX9_factsOf lm_X9_125 dX9_facts_9 (pc' := 12) rfl (ct_X9_factsOf P n hn h ι φ W _ hk1 hk2) (by omega) (wM_e37 _ _ _ _) rfl rfl rfl rfl (Nat.le_of_ble_eq_true rfl) (by omega) (by omega) (by omega) ?_
    dsimp only [Option.toList, List.cons_append, List.nil_append]
    refine r_goto (tgt := 16) X dX9_facts_12 (by decide) ?_
    exact r_iret X r dX9_facts_16 (by omega) (by omega) rfl (by unfold aFacts; first | rw [pif_t c_4, tn_n (by omega)] | rw [pif_f (by rw [c_4]; decide)]) rfl rfl
set_option maxRecDepth 100000 in
set_option maxHeartbeats 4000000 in
theorem ct_X9_judged (P : Px) (n : Nat) (hn : 59 ≤ n) (h : hw) (ι : Nat → Nat) (φ : Nat → Nat → Nat) (W : Wf ι φ) (x y : Int32) : Ct P MX9_judged 6 0 0 [.ref (Bs P + 37), .int x, .int y] n (wM P h ι φ) (some (.int (aJud ι φ x y))) n (wM P h (sJud ι φ x y).1 (sJud ι φ x y).2) := by
  refine Ct.of (by decide +kernel) (Nat.le_of_ble_eq_true rfl) rfl (fun K X hnm r => ?_)
  have X : Cx K P RX9 cX9_judged 4 6 0 0 := X
  have r : Rt K P (some .int) 0 0 _ _ _ := r
  show Z K P _ _ 0 0 0 [some (.ref (Bs P + 37)), some (.int x), some (.int y), none] []
  have hno : ¬ judOK x y → aJud ι φ x y = -1 ∧ sJud ι φ x y = (ι, φ) := fun q => ⟨pif_f q, pif_f q⟩
  refine r_iload_n X dX9_judged_0 (pc' := 1) rfl rfl ?_
  refine r_callS (As := [_]) X okX9_isJudge lm_X9_144 dX9_judged_1 (pc' := 4) rfl (ct_X9_isJudge P n _ _) rfl rfl (Nat.le_of_ble_eq_true rfl) (by omega) (by omega) (by omega) ?_
  dsimp only [Option.toList, List.cons_append, List.nil_append]
  refine rB_if_eq X dX9_judged_4 (tgt := 14) (by decide) (pc' := 7) rfl (fun c_4 => ?_) (fun c_4 => ?_)
  · refine r_iconst (v := (-1)) X (by decide) dX9_judged_14 (pc' := 15) rfl ?_
    exact r_iret X r dX9_judged_15 (by omega) (by omega) rfl (by rw [(hno (fun q => by first | exact absurd q.1 (by rw [c_4]; decide) | exact absurd q.2 (by rw [c_11]; decide))).1]) rfl (by rw [(hno (fun q => by first | exact absurd q.1 (by rw [c_4]; decide) | exact absurd q.2 (by rw [c_11]; decide))).2])
  · obtain ⟨x0, hx0, rfl⟩ := inQ_of (by decide) c_4
    refine r_iload_n X dX9_judged_7 (pc' := 8) rfl rfl ?_
    refine r_callS (As := [_]) X okX9_isAsk lm_X9_131 dX9_judged_8 (pc' := 11) rfl (ct_X9_isAsk P n _ _) rfl rfl (Nat.le_of_ble_eq_true rfl) (by omega) (by omega) (by omega) ?_
    dsimp only [Option.toList, List.cons_append, List.nil_append]
    refine rB_if_ne X dX9_judged_11 (tgt := 16) (by decide) (pc' := 14) rfl (fun c_11 => ?_) (fun c_11 => ?_)
    · obtain ⟨k, hk1, hk2, rfl⟩ := askQ_of c_11
      have hyes : judOK (nI x0) (nI k) := ⟨c_4, c_11⟩
      have t1 := tn_n (show x0 < 2 ^ 31 by omega)
      have t2 := tn_n (show k < 2 ^ 31 by omega)
      refine r_sipush (v := nI 10000) X (by decide) dX9_judged_16 (pc' := 19) rfl ?_
      refine r_iload_n X dX9_judged_19 (pc' := 20) rfl rfl ?_
      first | refine rN_imul X dX9_judged_20 (pc' := 21) rfl ?_ | refine r_imul X dX9_judged_20 (pc' := 21) rfl ?_
      refine r_iload_n X dX9_judged_21 (pc' := 22) rfl rfl ?_
      first | refine rN_iadd X dX9_judged_22 (pc' := 23) rfl ?_ | refine r_iadd X dX9_judged_22 (pc' := 23) rfl ?_
      refine r_istore_n (vs' := [_, _, _, _]) X dX9_judged_23 (pc' := 24) rfl (by decide) rfl ?_
      refine r_aload_n X dX9_judged_24 (pc' := 25) rfl rfl ?_
      refine r_get X fX9 lf_X9_84 dX9_judged_25 (pc' := 28) rfl (by decide) (by omega) (wM_e37 _ _ _ _) rfl ?_
      refine r_aload_n X dX9_judged_28 (pc' := 29) rfl rfl ?_
      refine r_get X fX9 lf_X9_50 dX9_judged_29 (pc' := 32) rfl (by decide) (by omega) (wM_e37 _ _ _ _) rfl ?_
      refine r_iload_n X dX9_judged_32 (pc' := 33) rfl rfl ?_
      refine r_iald X dX9_judged_33 (pc' := 34) rfl (by omega) (wM_e51 _ _ _ _) (by omega) (by omega) ?_
      first | refine rN_isub X dX9_judged_34 (pc' := 35) rfl (by omega) ?_ | refine r_isub X dX9_judged_34 (pc' := 35) rfl ?_
      refine r_aload_n X dX9_judged_35 (pc' := 36) rfl rfl ?_
      refine r_get X fX9 lf_X9_43 dX9_judged_36 (pc' := 39) rfl (by decide) (by omega) (wM_e37 _ _ _ _) rfl ?_
      refine r_iload_n X dX9_judged_39 (pc' := 40) rfl rfl ?_
      refine r_iald X dX9_judged_40 (pc' := 41) rfl (by omega) (wM_e49 _ _ _ _) (by omega) (by omega) ?_
      refine r_icmp_gt X dX9_judged_41 (tgt := 61) (by decide) (pc' := 44) rfl (fun c_41 => ?_) (fun c_41 => ?_)
      · refine r_aload_n X dX9_judged_61 (pc' := 62) rfl rfl ?_
        refine r_get X fX9 lf_X9_50 dX9_judged_62 (pc' := 65) rfl (by decide) (by omega) (wM_e37 _ _ _ _) rfl ?_
        refine r_iload_n X dX9_judged_65 (pc' := 66) rfl rfl ?_
        refine r_aload_n X dX9_judged_66 (pc' := 67) rfl rfl ?_
        refine r_get X fX9 lf_X9_84 dX9_judged_67 (pc' := 70) rfl (by decide) (by omega) (wM_e37 _ _ _ _) rfl ?_
        rw [nv_s (ι 0)]
        refine r_iast X dX9_judged_70 (pc' := 71) rfl (by omega) (wM_e51 _ _ _ _) (by omega) (by omega) ?_
        rw [wM_s51]
        have WJ := W.up 13 (10000 * x0 + k) (ι 0 + 1) (by simp [bdM])
        refine r_aload_n X dX9_judged_71 (pc' := 72) rfl rfl ?_
        refine r_get X fX9 lf_X9_53 dX9_judged_72 (pc' := 75) rfl (by decide) (by omega) (wM_e37 _ _ _ _) rfl ?_
        refine r_iload_n X dX9_judged_75 (pc' := 76) rfl rfl ?_
        refine r_aload_n X dX9_judged_76 (pc' := 77) rfl rfl ?_
        refine r_aload_n X dX9_judged_77 (pc' := 78) rfl rfl ?_
        refine r_get X fX9 lf_X9_134 dX9_judged_78 (pc' := 81) rfl (by decide) (by omega) (wM_e37 _ _ _ _) rfl ?_
        refine r_aload_n X dX9_judged_81 (pc' := 82) rfl rfl ?_
        refine r_iload_n X dX9_judged_82 (pc' := 83) rfl rfl ?_
        refine r_callV (As := [_]) X okX9_factsOf lm_X9_125 dX9_judged_83 (pc' := 86) rfl (ct_X9_factsOf P n hn h ι _ WJ _ hk1 hk2) (by omega) (wM_e37 _ _ _ _) rfl rfl rfl rfl (Nat.le_of_ble_eq_true rfl) (by omega) (by omega) (by omega) ?_
        dsimp only [Option.toList, List.cons_append, List.nil_append]
        refine r_callV (As := [_, _]) X okX9_answer lm_X9_137 dX9_judged_86 (pc' := 89) rfl (ct_X9_answer P n hn h ι _ WJ _ _ (by have := W.inF; omega) (factN_lt WJ hk2)) (by omega) (wM_e37 _ _ _ _) rfl rfl rfl rfl (Nat.le_of_ble_eq_true rfl) (by omega) (by omega) (by omega) ?_
        dsimp only [Option.toList, List.cons_append, List.nil_append]
        rw [show ansN (up2 φ 13 (10000 * x0 + k) (ι 0 + 1)) (ι 1) (factN ι (up2 φ 13 (10000 * x0 + k) (ι 0 + 1)) k) = ansW ι φ k from ansW_up (by decide)]
        refine r_iast X dX9_judged_89 (pc' := 90) rfl (by omega) (wM_e52 _ _ _ _) (by omega) (by omega) ?_
        rw [wM_s52]
        refine r_aload_n X dX9_judged_90 (pc' := 91) rfl rfl ?_
        refine r_get X fX9 lf_X9_53 dX9_judged_91 (pc' := 94) rfl (by decide) (by omega) (wM_e37 _ _ _ _) rfl ?_
        refine r_iload_n X dX9_judged_94 (pc' := 95) rfl rfl ?_
        refine r_iald X dX9_judged_95 (pc' := 96) rfl (by omega) (wM_e52 _ _ _ _) (by omega) (by omega) ?_
        rw [up2_s]
        exact r_iret X r dX9_judged_96 (by omega) (by omega) rfl (by unfold aJud; rw [pif_t hyes, t1, t2, pif_f (kept_t W c_41)]) rfl (by unfold sJud; rw [pif_t hyes, t1, t2, pif_f (kept_t W c_41)])
      · refine r_aload_n X dX9_judged_44 (pc' := 45) rfl rfl ?_
        refine r_dup X rfl dX9_judged_45 (pc' := 46) rfl ?_
        refine r_get X fX9 lf_X9_147 dX9_judged_46 (pc' := 49) rfl (by decide) (by omega) (wM_e37 _ _ _ _) rfl ?_
        refine r_iconst (v := nI 1) X (by decide) dX9_judged_49 (pc' := 50) rfl ?_
        first | refine rN_iadd X dX9_judged_50 (pc' := 51) rfl ?_ | refine r_iadd X dX9_judged_50 (pc' := 51) rfl ?_
        refine r_put X fX9 lf_X9_147 rfl dX9_judged_51 (pc' := 54) rfl (by decide) (by omega) (wM_e37 _ _ _ _) (Nat.le_of_ble_eq_true rfl) rfl rfl ?_
        rw [wM_i4]
        refine r_aload_n X dX9_judged_54 (pc' := 55) rfl rfl ?_
        refine r_get X fX9 lf_X9_53 dX9_judged_55 (pc' := 58) rfl (by decide) (by omega) (wM_e37 _ _ _ _) rfl ?_
        refine r_iload_n X dX9_judged_58 (pc' := 59) rfl rfl ?_
        refine r_iald X dX9_judged_59 (pc' := 60) rfl (by omega) (wM_e52 _ _ _ _) (by omega) (by omega) ?_
        exact r_iret X r dX9_judged_60 (by omega) (by omega) rfl (by unfold aJud; rw [pif_t hyes, t1, t2, pif_t (kept_f W c_41)]) rfl (by unfold sJud; rw [pif_t hyes, t1, t2, pif_t (kept_f W c_41)])
    · refine r_iconst (v := (-1)) X (by decide) dX9_judged_14 (pc' := 15) rfl ?_
      exact r_iret X r dX9_judged_15 (by omega) (by omega) rfl (by rw [(hno (fun q => by first | exact absurd q.1 (by rw [c_4]; decide) | exact absurd q.2 (by rw [c_11]; decide))).1]) rfl (by rw [(hno (fun q => by first | exact absurd q.1 (by rw [c_4]; decide) | exact absurd q.2 (by rw [c_11]; decide))).2])
set_option maxRecDepth 100000 in
set_option maxHeartbeats 4000000 in
theorem ct_X9_keeps (P : Px) (n : Nat) (hn : 59 ≤ n) (h : hw) (ι : Nat → Nat) (φ : Nat → Nat → Nat) (W : Wf ι φ) (x : Int32) : Ct P MX9_keeps 2 0 0 [.ref (Bs P + 37), .int x] n (wM P h ι φ) (some (.int (aKeeps ι φ x))) n (wM P h ι φ) := by
  refine Ct.of (by decide +kernel) (Nat.le_of_ble_eq_true rfl) rfl (fun K X hnm r => ?_)
  have X : Cx K P RX9 cX9_keeps 4 2 0 0 := X
  have r : Rt K P (some .int) 0 0 _ _ _ := r
  show Z K P _ _ 0 0 0 [some (.ref (Bs P + 37)), some (.int x), none, none] []
  refine r_iload_n X dX9_keeps_0 (pc' := 1) rfl rfl ?_
  refine r_callS (As := [_]) X okX9_isJudge lm_X9_144 dX9_keeps_1 (pc' := 4) rfl (ct_X9_isJudge P n _ _) rfl rfl (Nat.le_of_ble_eq_true rfl) (by omega) (by omega) (by omega) ?_
  dsimp only [Option.toList, List.cons_append, List.nil_append]
  refine rB_if_ne X dX9_keeps_4 (tgt := 9) (by decide) (pc' := 7) rfl (fun c_4 => ?_) (fun c_4 => ?_)
  · obtain ⟨x0, hx0, rfl⟩ := inQ_of (by decide) c_4
    have hq := c_4
    refine r_iconst (v := nI 0) X (by decide) dX9_keeps_9 (pc' := 10) rfl ?_
    refine r_istore_n (vs' := [_, _, _, _]) X dX9_keeps_10 (pc' := 11) rfl (by decide) rfl ?_
    refine r_iconst (v := nI 0) X (by decide) dX9_keeps_11 (pc' := 12) rfl ?_
    refine r_istore_n (vs' := [_, _, _, _]) X dX9_keeps_12 (pc' := 13) rfl (by decide) rfl ?_
    have loop : ∀ (m_ : Nat) (a : Nat), 10000 - a < m_ → (a ≤ 10000) → Z K P n (wM P h ι φ) 0 0 13 [some (.ref (Bs P + 37)), some (.int (nI x0)), some (.int (nI (cntN (keptB ι φ x0) a))), some (.int (nI a))] [] := by
      intro m_
      induction m_ with
      | zero => intro a hm_; exact absurd hm_ (Nat.not_lt_zero _)
      | succ m_ ih =>
        intro a hm_ ha
        refine r_iload_n X dX9_keeps_13 (pc' := 14) rfl rfl ?_
        refine r_sipush (v := nI 10000) X (by decide) dX9_keeps_14 (pc' := 17) rfl ?_
        refine rN_icmp_ge X dX9_keeps_17 (tgt := 60) (by decide) (pc' := 20) rfl (by omega) (by omega) (fun c_17 => ?_) (fun c_17 => ?_)
        · refine r_iload_n X dX9_keeps_60 (pc' := 61) rfl rfl ?_
          exact r_iret X r dX9_keeps_61 (by omega) (by omega) rfl (by unfold aKeeps; rw [pif_t hq, tn_n (by omega), show a = 10000 by omega]) rfl rfl
        · refine r_iload_n X dX9_keeps_20 (pc' := 21) rfl rfl ?_
          refine r_aload_n X dX9_keeps_21 (pc' := 22) rfl rfl ?_
          refine r_get X fX9 lf_X9_84 dX9_keeps_22 (pc' := 25) rfl (by decide) (by omega) (wM_e37 _ _ _ _) rfl ?_
          refine r_aload_n X dX9_keeps_25 (pc' := 26) rfl rfl ?_
          refine r_get X fX9 lf_X9_50 dX9_keeps_26 (pc' := 29) rfl (by decide) (by omega) (wM_e37 _ _ _ _) rfl ?_
          refine r_sipush (v := nI 10000) X (by decide) dX9_keeps_29 (pc' := 32) rfl ?_
          refine r_iload_n X dX9_keeps_32 (pc' := 33) rfl rfl ?_
          first | refine rN_imul X dX9_keeps_33 (pc' := 34) rfl ?_ | refine r_imul X dX9_keeps_33 (pc' := 34) rfl ?_
          refine r_iload_n X dX9_keeps_34 (pc' := 35) rfl rfl ?_
          first | refine rN_iadd X dX9_keeps_35 (pc' := 36) rfl ?_ | refine r_iadd X dX9_keeps_35 (pc' := 36) rfl ?_
          refine r_iald X dX9_keeps_36 (pc' := 37) rfl (by omega) (wM_e51 _ _ _ _) (by omega) (by omega) ?_
          first | refine rN_isub X dX9_keeps_37 (pc' := 38) rfl (by omega) ?_ | refine r_isub X dX9_keeps_37 (pc' := 38) rfl ?_
          refine r_aload_n X dX9_keeps_38 (pc' := 39) rfl rfl ?_
          refine r_get X fX9 lf_X9_43 dX9_keeps_39 (pc' := 42) rfl (by decide) (by omega) (wM_e37 _ _ _ _) rfl ?_
          refine r_iload_n X dX9_keeps_42 (pc' := 43) rfl rfl ?_
          refine r_iald X dX9_keeps_43 (pc' := 44) rfl (by omega) (wM_e49 _ _ _ _) (by omega) (by omega) ?_
          refine r_icmp_gt X dX9_keeps_44 (tgt := 51) (by decide) (pc' := 47) rfl (fun c_44 => ?_) (fun c_44 => ?_)
          · have hs : cntN (keptB ι φ x0) (a + 1) = cntN (keptB ι φ x0) a + 0 := by simp only [cntN, keptB_f (kept_t W c_44)]; rfl
            refine r_iconst (v := nI 0) X (by decide) dX9_keeps_51 (pc' := 52) rfl ?_
            first | refine rN_iadd X dX9_keeps_52 (pc' := 53) rfl ?_ | refine r_iadd X dX9_keeps_52 (pc' := 53) rfl ?_
            rw [← hs]
            refine r_istore_n (vs' := [_, _, _, _]) X dX9_keeps_53 (pc' := 54) rfl (by decide) rfl ?_
            refine r_iincN (vs' := [_, _, _, _]) X dX9_keeps_54 (pc' := 57) rfl (by decide) rfl rfl ?_
            refine r_goto (tgt := 13) X dX9_keeps_57 (by decide) ?_
            exact ih (a + 1) (by omega) (by omega)
          · have hs : cntN (keptB ι φ x0) (a + 1) = cntN (keptB ι φ x0) a + 1 := by simp only [cntN, keptB_t (kept_f W c_44)]; rfl
            refine r_iconst (v := nI 1) X (by decide) dX9_keeps_47 (pc' := 48) rfl ?_
            refine r_goto (tgt := 52) X dX9_keeps_48 (by decide) ?_
            first | refine rN_iadd X dX9_keeps_52 (pc' := 53) rfl ?_ | refine r_iadd X dX9_keeps_52 (pc' := 53) rfl ?_
            rw [← hs]
            refine r_istore_n (vs' := [_, _, _, _]) X dX9_keeps_53 (pc' := 54) rfl (by decide) rfl ?_
            refine r_iincN (vs' := [_, _, _, _]) X dX9_keeps_54 (pc' := 57) rfl (by decide) rfl rfl ?_
            refine r_goto (tgt := 13) X dX9_keeps_57 (by decide) ?_
            exact ih (a + 1) (by omega) (by omega)
    exact loop _ 0 (Nat.lt_succ_self _) (Nat.zero_le _)
  · refine r_iconst (v := (-1)) X (by decide) dX9_keeps_7 (pc' := 8) rfl ?_
    exact r_iret X r dX9_keeps_8 (by omega) (by omega) rfl (by unfold aKeeps; rw [pif_f (by rw [c_4]; decide)]) rfl rfl
