/-- who is an ASK that can be -/
def askQ (x : Int32) : Bool := match inQ x (nI 9999) with
  | true => decide (x.toNatClampNeg % 10 < 4)
  | false => false
theorem askQ_of {x : Int32} (h : askQ x = true) : ∃ k : Nat, k < 10000 ∧ k % 10 < 4 ∧ x = nI k := by
  unfold askQ at h
  cases hq : inQ x (nI 9999) with
  | false => rw [hq] at h; cases h
  | true =>
    obtain ⟨k, hk, rfl⟩ := inQ_of (by decide) hq
    rw [hq] at h
    simp only [decide_eq_true_eq] at h
    rw [nI_clamp (by omega)] at h
    exact ⟨k, by omega, h, rfl⟩
theorem askQ_n {k : Nat} (hk : k < 10000) : askQ (nI k) = decide (k % 10 < 4) := by
  unfold askQ
  rw [inQ_n (by omega) (by decide), nI_clamp (by omega)]
  have : decide (k ≤ 9999) = true := decide_eq_true (by omega)
  rw [this]
theorem askQ_f {x : Int32} (h : inQ x (nI 9999) = false) : askQ x = false := by unfold askQ; rw [h]
theorem valN_t {ι : Nat → Nat} {φ : Nat → Nat → Nat} (W : Wf ι φ) {whose s : Nat} (c : nI (φ 3 s) < nI (ι 0) - nv (φ 2 (10 * s + whose))) : valN ι φ whose s = 0 := by
  have h := (nv_gt (by have := W.v3 s; omega) W.now (W.v2 _)).mp c
  unfold valN
  rw [if_neg (by omega)]
theorem valN_f {ι : Nat → Nat} {φ : Nat → Nat → Nat} (W : Wf ι φ) {whose s : Nat} (c : ¬ nI (φ 3 s) < nI (ι 0) - nv (φ 2 (10 * s + whose))) : valN ι φ whose s = φ 1 (10 * s + whose) := by
  have h := fun q => c ((nv_gt (by have := W.v3 s; omega) W.now (W.v2 _)).mpr q)
  unfold valN
  rw [if_pos (by constructor <;> (intros; apply Classical.byContradiction; intro z; apply h; omega))]
set_option maxRecDepth 100000 in
set_option maxHeartbeats 4000000 in
theorem ct_X9_isOne (P : Px) (n : Nat) (h : hw) (x : Int32) : Ct P MX9_isOne 1 0 0 [.int x] n h (some (.int (bI (inQ x (nI 9))))) n h := by
  refine Ct.of (by decide +kernel) (Nat.le_of_ble_eq_true rfl) rfl (fun K X hnm r => ?_)
  have X : Cx K P RX9 cX9_isOne 1 1 0 0 := X
  have r : Rt K P (some .boolean) 0 0 _ _ _ := r
  show Z K P _ _ 0 0 0 [some (.int x)] []
  refine r_iload_n X dX9_isOne_0 (pc' := 1) rfl rfl ?_
  refine r_iconst (v := nI 0) X (by decide) dX9_isOne_1 (pc' := 2) rfl ?_
  refine r_bipush (v := nI 9) X (by decide) dX9_isOne_2 (pc' := 4) rfl ?_
  refine r_callS (As := [_, _, _]) X okX9_in lm_X9_80 dX9_isOne_4 (pc' := 7) rfl (ct_X9_in P n h _ _ _) rfl rfl (Nat.le_of_ble_eq_true rfl) (by omega) (by omega) (by omega) ?_
  dsimp only [Option.toList, List.cons_append, List.nil_append]
  exact r_iret X r dX9_isOne_7 (by omega) (by omega) (nB _) rfl rfl rfl
set_option maxRecDepth 100000 in
set_option maxHeartbeats 4000000 in
theorem ct_X9_isHeap (P : Px) (n : Nat) (h : hw) (x : Int32) : Ct P MX9_isHeap 1 0 0 [.int x] n h (some (.int (bI (inQ x (nI 1))))) n h := by
  refine Ct.of (by decide +kernel) (Nat.le_of_ble_eq_true rfl) rfl (fun K X hnm r => ?_)
  have X : Cx K P RX9 cX9_isHeap 1 1 0 0 := X
  have r : Rt K P (some .boolean) 0 0 _ _ _ := r
  show Z K P _ _ 0 0 0 [some (.int x)] []
  refine r_iload_n X dX9_isHeap_0 (pc' := 1) rfl rfl ?_
  refine r_iconst (v := nI 0) X (by decide) dX9_isHeap_1 (pc' := 2) rfl ?_
  refine r_iconst (v := nI 1) X (by decide) dX9_isHeap_2 (pc' := 3) rfl ?_
  refine r_callS (As := [_, _, _]) X okX9_in lm_X9_80 dX9_isHeap_3 (pc' := 6) rfl (ct_X9_in P n h _ _ _) rfl rfl (Nat.le_of_ble_eq_true rfl) (by omega) (by omega) (by omega) ?_
  dsimp only [Option.toList, List.cons_append, List.nil_append]
  exact r_iret X r dX9_isHeap_6 (by omega) (by omega) (nB _) rfl rfl rfl
set_option maxRecDepth 100000 in
set_option maxHeartbeats 4000000 in
theorem ct_X9_isJudge (P : Px) (n : Nat) (h : hw) (x : Int32) : Ct P MX9_isJudge 1 0 0 [.int x] n h (some (.int (bI (inQ x (nI 3))))) n h := by
  refine Ct.of (by decide +kernel) (Nat.le_of_ble_eq_true rfl) rfl (fun K X hnm r => ?_)
  have X : Cx K P RX9 cX9_isJudge 1 1 0 0 := X
  have r : Rt K P (some .boolean) 0 0 _ _ _ := r
  show Z K P _ _ 0 0 0 [some (.int x)] []
  refine r_iload_n X dX9_isJudge_0 (pc' := 1) rfl rfl ?_
  refine r_iconst (v := nI 0) X (by decide) dX9_isJudge_1 (pc' := 2) rfl ?_
  refine r_iconst (v := nI 3) X (by decide) dX9_isJudge_2 (pc' := 3) rfl ?_
  refine r_callS (As := [_, _, _]) X okX9_in lm_X9_80 dX9_isJudge_3 (pc' := 6) rfl (ct_X9_in P n h _ _ _) rfl rfl (Nat.le_of_ble_eq_true rfl) (by omega) (by omega) (by omega) ?_
  dsimp only [Option.toList, List.cons_append, List.nil_append]
  exact r_iret X r dX9_isJudge_6 (by omega) (by omega) (nB _) rfl rfl rfl
set_option maxRecDepth 100000 in
set_option maxHeartbeats 4000000 in
theorem ct_X9_isAsk (P : Px) (n : Nat) (h : hw) (x : Int32) : Ct P MX9_isAsk 1 0 0 [.int x] n h (some (.int (bI (askQ x)))) n h := by
  refine Ct.of (by decide +kernel) (Nat.le_of_ble_eq_true rfl) rfl (fun K X hnm r => ?_)
  have X : Cx K P RX9 cX9_isAsk 1 1 0 0 := X
  have r : Rt K P (some .boolean) 0 0 _ _ _ := r
  show Z K P _ _ 0 0 0 [some (.int x)] []
  refine r_iload_n X dX9_isAsk_0 (pc' := 1) rfl rfl ?_
  refine r_iconst (v := nI 0) X (by decide) dX9_isAsk_1 (pc' := 2) rfl ?_
  refine r_sipush (v := nI 9999) X (by decide) dX9_isAsk_2 (pc' := 5) rfl ?_
  refine r_callS (As := [_, _, _]) X okX9_in lm_X9_80 dX9_isAsk_5 (pc' := 8) rfl (ct_X9_in P n h _ _ _) rfl rfl (Nat.le_of_ble_eq_true rfl) (by omega) (by omega) (by omega) ?_
  dsimp only [Option.toList, List.cons_append, List.nil_append]
  refine rB_if_eq X dX9_isAsk_8 (tgt := 23) (by decide) (pc' := 11) rfl (fun c_8 => ?_) (fun c_8 => ?_)
  · refine r_iconst (v := nI 0) X (by decide) dX9_isAsk_23 (pc' := 24) rfl ?_
    exact r_iret X r dX9_isAsk_24 (by omega) (by omega) rfl (by first | exact hvF (askQ_f c_8) | exact hvT (by rw [askQ_n (by omega)]; exact decide_eq_true (by omega)) | exact hvF (by rw [askQ_n (by omega)]; exact decide_eq_false (by omega))) rfl rfl
  · obtain ⟨k, hk, rfl⟩ := inQ_of (by decide) (show inQ _ _ = true from c_8)
    refine r_iload_n X dX9_isAsk_11 (pc' := 12) rfl rfl ?_
    refine r_bipush (v := nI 10) X (by decide) dX9_isAsk_12 (pc' := 14) rfl ?_
    first | refine rN_irem X dX9_isAsk_14 (pc' := 15) rfl (by omega) (by omega) (by omega) ?_ | refine r_irem X (by decide) dX9_isAsk_14 (pc' := 15) rfl ?_
    refine r_iconst (v := nI 4) X (by decide) dX9_isAsk_15 (pc' := 16) rfl ?_
    first | refine rN_icmp_ge X dX9_isAsk_16 (tgt := 23) (by decide) (pc' := 19) rfl (by omega) (by omega) (fun c_16 => ?_) (fun c_16 => ?_) | refine r_icmp_ge X dX9_isAsk_16 (tgt := 23) (by decide) (pc' := 19) rfl (fun c_16 => ?_) (fun c_16 => ?_)
    · refine r_iconst (v := nI 0) X (by decide) dX9_isAsk_23 (pc' := 24) rfl ?_
      exact r_iret X r dX9_isAsk_24 (by omega) (by omega) rfl (by first | exact hvF (askQ_f c_8) | exact hvT (by rw [askQ_n (by omega)]; exact decide_eq_true (by omega)) | exact hvF (by rw [askQ_n (by omega)]; exact decide_eq_false (by omega))) rfl rfl
    · refine r_iconst (v := nI 1) X (by decide) dX9_isAsk_19 (pc' := 20) rfl ?_
      refine r_goto (tgt := 24) X dX9_isAsk_20 (by decide) ?_
      exact r_iret X r dX9_isAsk_24 (by omega) (by omega) rfl (by first | exact hvF (askQ_f c_8) | exact hvT (by rw [askQ_n (by omega)]; exact decide_eq_true (by omega)) | exact hvF (by rw [askQ_n (by omega)]; exact decide_eq_false (by omega))) rfl rfl
set_option maxRecDepth 100000 in
set_option maxHeartbeats 4000000 in
theorem ct_X9_markOf (P : Px) (n : Nat) (h : hw) (a s : Nat) (ha : a < 2 ^ 31) (hs : s < 2 ^ 31) : Ct P MX9_markOf 0 0 0 [.int (nI a), .int (nI s)] n h (some (.int (nI (markN a s)))) n h := by
  refine Ct.of (by decide +kernel) (Nat.le_of_ble_eq_true rfl) rfl (fun K X hnm r => ?_)
  have X : Cx K P RX9 cX9_markOf 2 0 0 0 := X
  have r : Rt K P (some .int) 0 0 _ _ _ := r
  show Z K P _ _ 0 0 0 [some (.int (nI a)), some (.int (nI s))] []
  refine r_iload_n X dX9_markOf_0 (pc' := 1) rfl rfl ?_
  refine rN_if_ne X dX9_markOf_1 (tgt := 14) (by decide) (pc' := 4) rfl (by omega) (fun c_1 => ?_) (fun c_1 => ?_)
  · refine r_iload_n X dX9_markOf_14 (pc' := 15) rfl rfl ?_
    refine r_iconst (v := nI 1) X (by decide) dX9_markOf_15 (pc' := 16) rfl ?_
    refine rN_icmp_ne X dX9_markOf_16 (tgt := 29) (by decide) (pc' := 19) rfl (by omega) (by omega) (fun c_16 => ?_) (fun c_16 => ?_)
    · refine r_iload_n X dX9_markOf_29 (pc' := 30) rfl rfl ?_
      refine r_bipush (v := nI 80) X (by decide) dX9_markOf_30 (pc' := 32) rfl ?_
      first | refine rN_idiv X dX9_markOf_32 (pc' := 33) rfl (by omega) (by omega) (by omega) ?_ | refine r_idiv X (by decide) dX9_markOf_32 (pc' := 33) rfl ?_
      refine r_iconst (v := nI 4) X (by decide) dX9_markOf_33 (pc' := 34) rfl ?_
      first | refine rN_irem X dX9_markOf_34 (pc' := 35) rfl (by omega) (by omega) (by omega) ?_ | refine r_irem X (by decide) dX9_markOf_34 (pc' := 35) rfl ?_
      exact r_iret X r dX9_markOf_35 (by omega) (by omega) rfl (by simp [markN, c_1, c_16]) rfl rfl
    · refine r_iload_n X dX9_markOf_19 (pc' := 20) rfl rfl ?_
      refine r_sipush (v := nI 320) X (by decide) dX9_markOf_20 (pc' := 23) rfl ?_
      first | refine rN_idiv X dX9_markOf_23 (pc' := 24) rfl (by omega) (by omega) (by omega) ?_ | refine r_idiv X (by decide) dX9_markOf_23 (pc' := 24) rfl ?_
      refine r_iconst (v := nI 4) X (by decide) dX9_markOf_24 (pc' := 25) rfl ?_
      first | refine rN_irem X dX9_markOf_25 (pc' := 26) rfl (by omega) (by omega) (by omega) ?_ | refine r_irem X (by decide) dX9_markOf_25 (pc' := 26) rfl ?_
      refine r_goto (tgt := 35) X dX9_markOf_26 (by decide) ?_
      exact r_iret X r dX9_markOf_35 (by omega) (by omega) rfl (by simp [markN, c_1, c_16]) rfl rfl
  · refine r_iload_n X dX9_markOf_4 (pc' := 5) rfl rfl ?_
    refine r_sipush (v := nI 1280) X (by decide) dX9_markOf_5 (pc' := 8) rfl ?_
    first | refine rN_idiv X dX9_markOf_8 (pc' := 9) rfl (by omega) (by omega) (by omega) ?_ | refine r_idiv X (by decide) dX9_markOf_8 (pc' := 9) rfl ?_
    refine r_iconst (v := nI 4) X (by decide) dX9_markOf_9 (pc' := 10) rfl ?_
    first | refine rN_irem X dX9_markOf_10 (pc' := 11) rfl (by omega) (by omega) (by omega) ?_ | refine r_irem X (by decide) dX9_markOf_10 (pc' := 11) rfl ?_
    refine r_goto (tgt := 35) X dX9_markOf_11 (by decide) ?_
    exact r_iret X r dX9_markOf_35 (by omega) (by omega) rfl (by simp [markN, c_1]) rfl rfl
set_option maxRecDepth 100000 in
set_option maxHeartbeats 4000000 in
theorem ct_X9_value (P : Px) (n : Nat) (hn : 59 ≤ n) (h : hw) (ι : Nat → Nat) (φ : Nat → Nat → Nat) (W : Wf ι φ) (wo s : Nat) (hw : wo < 10) (hs : s < 3) : Ct P MX9_value 0 0 0 [.ref (Bs P + 37), .int (nI wo), .int (nI s)] n (wM P h ι φ) (some (.int (nI (valN ι φ wo s)))) n (wM P h ι φ) := by
  refine Ct.of (by decide +kernel) (Nat.le_of_ble_eq_true rfl) rfl (fun K X hnm r => ?_)
  have X : Cx K P RX9 cX9_value 4 0 0 0 := X
  have r : Rt K P (some .int) 0 0 _ _ _ := r
  show Z K P _ _ 0 0 0 [some (.ref (Bs P + 37)), some (.int (nI wo)), some (.int (nI s)), none] []
  refine r_bipush (v := nI 10) X (by decide) dX9_value_0 (pc' := 2) rfl ?_
  refine r_iload_n X dX9_value_2 (pc' := 3) rfl rfl ?_
  first | refine rN_imul X dX9_value_3 (pc' := 4) rfl ?_ | refine r_imul X dX9_value_3 (pc' := 4) rfl ?_
  refine r_iload_n X dX9_value_4 (pc' := 5) rfl rfl ?_
  first | refine rN_iadd X dX9_value_5 (pc' := 6) rfl ?_ | refine r_iadd X dX9_value_5 (pc' := 6) rfl ?_
  refine r_istore_n (vs' := [_, _, _, _]) X dX9_value_6 (pc' := 7) rfl (by decide) rfl ?_
  refine r_aload_n X dX9_value_7 (pc' := 8) rfl rfl ?_
  refine r_get X fX9 lf_X9_84 dX9_value_8 (pc' := 11) rfl (by decide) (by omega) (wM_e37 _ _ _ _) rfl ?_
  refine r_aload_n X dX9_value_11 (pc' := 12) rfl rfl ?_
  refine r_get X fX9 lf_X9_16 dX9_value_12 (pc' := 15) rfl (by decide) (by omega) (wM_e37 _ _ _ _) rfl ?_
  refine r_iload_n X dX9_value_15 (pc' := 16) rfl rfl ?_
  refine r_iald X dX9_value_16 (pc' := 17) rfl (by omega) (wM_e40 _ _ _ _) (by omega) (by omega) ?_
  first | refine rN_isub X dX9_value_17 (pc' := 18) rfl (by omega) ?_ | refine r_isub X dX9_value_17 (pc' := 18) rfl ?_
  refine r_aload_n X dX9_value_18 (pc' := 19) rfl rfl ?_
  refine r_get X fX9 lf_X9_19 dX9_value_19 (pc' := 22) rfl (by decide) (by omega) (wM_e37 _ _ _ _) rfl ?_
  refine r_iload_n X dX9_value_22 (pc' := 23) rfl rfl ?_
  refine r_iald X dX9_value_23 (pc' := 24) rfl (by omega) (wM_e41 _ _ _ _) (by omega) (by omega) ?_
  refine r_icmp_gt X dX9_value_24 (tgt := 36) (by decide) (pc' := 27) rfl (fun c_24 => ?_) (fun c_24 => ?_)
  · refine r_iconst (v := nI 0) X (by decide) dX9_value_36 (pc' := 37) rfl ?_
    exact r_iret X r dX9_value_37 (by omega) (by omega) rfl (by first | rw [valN_t W c_24] | rw [valN_f W c_24]) rfl rfl
  · refine r_aload_n X dX9_value_27 (pc' := 28) rfl rfl ?_
    refine r_get X fX9 lf_X9_13 dX9_value_28 (pc' := 31) rfl (by decide) (by omega) (wM_e37 _ _ _ _) rfl ?_
    refine r_iload_n X dX9_value_31 (pc' := 32) rfl rfl ?_
    refine r_iald X dX9_value_32 (pc' := 33) rfl (by omega) (wM_e39 _ _ _ _) (by omega) (by omega) ?_
    refine r_goto (tgt := 37) X dX9_value_33 (by decide) ?_
    exact r_iret X r dX9_value_37 (by omega) (by omega) rfl (by first | rw [valN_t W c_24] | rw [valN_f W c_24]) rfl rfl
set_option maxRecDepth 100000 in
set_option maxHeartbeats 4000000 in
theorem ct_X9_sure (P : Px) (n : Nat) (hn : 59 ≤ n) (h : hw) (ι : Nat → Nat) (φ : Nat → Nat → Nat) (W : Wf ι φ) (a : Nat) (ha : a < 2 ^ 31) : Ct P MX9_sure 1 0 0 [.ref (Bs P + 37), .int (nI a)] n (wM P h ι φ) (some (.int (nI (sureN φ a)))) n (wM P h ι φ) := by
  refine Ct.of (by decide +kernel) (Nat.le_of_ble_eq_true rfl) rfl (fun K X hnm r => ?_)
  have X : Cx K P RX9 cX9_sure 2 1 0 0 := X
  have r : Rt K P (some .int) 0 0 _ _ _ := r
  show Z K P _ _ 0 0 0 [some (.ref (Bs P + 37)), some (.int (nI a))] []
  refine r_iload_n X dX9_sure_0 (pc' := 1) rfl rfl ?_
  refine r_iconst (v := nI 0) X (by decide) dX9_sure_1 (pc' := 2) rfl ?_
  refine r_callS (As := [_, _]) X okX9_markOf lm_X9_102 dX9_sure_2 (pc' := 5) rfl (ct_X9_markOf P n _ a _ ha (by decide)) rfl rfl (Nat.le_of_ble_eq_true rfl) (by omega) (by omega) (by omega) ?_
  dsimp only [Option.toList, List.cons_append, List.nil_append]
  refine r_aload_n X dX9_sure_5 (pc' := 6) rfl rfl ?_
  refine r_get X fX9 lf_X9_22 dX9_sure_6 (pc' := 9) rfl (by decide) (by omega) (wM_e37 _ _ _ _) rfl ?_
  refine r_iconst (v := nI 0) X (by decide) dX9_sure_9 (pc' := 10) rfl ?_
  refine r_iald X dX9_sure_10 (pc' := 11) rfl (by omega) (wM_e42 _ _ _ _) (by omega) (by omega) ?_
  first | refine rN_imul X dX9_sure_11 (pc' := 12) rfl ?_ | refine r_imul X dX9_sure_11 (pc' := 12) rfl ?_
  refine r_iload_n X dX9_sure_12 (pc' := 13) rfl rfl ?_
  refine r_iconst (v := nI 1) X (by decide) dX9_sure_13 (pc' := 14) rfl ?_
  refine r_callS (As := [_, _]) X okX9_markOf lm_X9_102 dX9_sure_14 (pc' := 17) rfl (ct_X9_markOf P n _ a _ ha (by decide)) rfl rfl (Nat.le_of_ble_eq_true rfl) (by omega) (by omega) (by omega) ?_
  dsimp only [Option.toList, List.cons_append, List.nil_append]
  refine r_aload_n X dX9_sure_17 (pc' := 18) rfl rfl ?_
  refine r_get X fX9 lf_X9_22 dX9_sure_18 (pc' := 21) rfl (by decide) (by omega) (wM_e37 _ _ _ _) rfl ?_
  refine r_iconst (v := nI 1) X (by decide) dX9_sure_21 (pc' := 22) rfl ?_
  refine r_iald X dX9_sure_22 (pc' := 23) rfl (by omega) (wM_e42 _ _ _ _) (by omega) (by omega) ?_
  first | refine rN_imul X dX9_sure_23 (pc' := 24) rfl ?_ | refine r_imul X dX9_sure_23 (pc' := 24) rfl ?_
  first | refine rN_iadd X dX9_sure_24 (pc' := 25) rfl ?_ | refine r_iadd X dX9_sure_24 (pc' := 25) rfl ?_
  refine r_iload_n X dX9_sure_25 (pc' := 26) rfl rfl ?_
  refine r_iconst (v := nI 2) X (by decide) dX9_sure_26 (pc' := 27) rfl ?_
  refine r_callS (As := [_, _]) X okX9_markOf lm_X9_102 dX9_sure_27 (pc' := 30) rfl (ct_X9_markOf P n _ a _ ha (by decide)) rfl rfl (Nat.le_of_ble_eq_true rfl) (by omega) (by omega) (by omega) ?_
  dsimp only [Option.toList, List.cons_append, List.nil_append]
  refine r_aload_n X dX9_sure_30 (pc' := 31) rfl rfl ?_
  refine r_get X fX9 lf_X9_22 dX9_sure_31 (pc' := 34) rfl (by decide) (by omega) (wM_e37 _ _ _ _) rfl ?_
  refine r_iconst (v := nI 2) X (by decide) dX9_sure_34 (pc' := 35) rfl ?_
  refine r_iald X dX9_sure_35 (pc' := 36) rfl (by omega) (wM_e42 _ _ _ _) (by omega) (by omega) ?_
  first | refine rN_imul X dX9_sure_36 (pc' := 37) rfl ?_ | refine r_imul X dX9_sure_36 (pc' := 37) rfl ?_
  first | refine rN_iadd X dX9_sure_37 (pc' := 38) rfl ?_ | refine r_iadd X dX9_sure_37 (pc' := 38) rfl ?_
  exact r_iret X r dX9_sure_38 (by omega) (by omega) rfl rfl rfl rfl
set_option maxRecDepth 100000 in
set_option maxHeartbeats 4000000 in
theorem ct_X9_fits (P : Px) (n : Nat) (hn : 59 ≤ n) (h : hw) (ι : Nat → Nat) (φ : Nat → Nat → Nat) (W : Wf ι φ) (a code : Nat) (ha : a < 24) (hc : code < 81920) : Ct P MX9_fits 2 0 0 [.ref (Bs P + 37), .int (nI a), .int (nI code)] n (wM P h ι φ) (some (.int (bI (fitsN φ a code)))) n (wM P h ι φ) := by
  refine Ct.of (by decide +kernel) (Nat.le_of_ble_eq_true rfl) rfl (fun K X hnm r => ?_)
  have X : Cx K P RX9 cX9_fits 7 2 0 0 := X
  have r : Rt K P (some .boolean) 0 0 _ _ _ := r
  show Z K P _ _ 0 0 0 [some (.ref (Bs P + 37)), some (.int (nI a)), some (.int (nI code)), none, none, none, none] []
  refine r_aload_n X dX9_fits_0 (pc' := 1) rfl rfl ?_
  refine r_get X fX9 lf_X9_34 dX9_fits_1 (pc' := 4) rfl (by decide) (by omega) (wM_e37 _ _ _ _) rfl ?_
  refine r_iload_n X dX9_fits_4 (pc' := 5) rfl rfl ?_
  refine r_iald X dX9_fits_5 (pc' := 6) rfl (by omega) (wM_e46 _ _ _ _) (by omega) (by omega) ?_
  have b8 := W.v8 a
  refine r_istore_n (vs' := [_, _, _, _, _, _, _]) X dX9_fits_6 (pc' := 7) rfl (by decide) rfl ?_
  refine r_aload_n X dX9_fits_7 (pc' := 8) rfl rfl ?_
  refine r_get X fX9 lf_X9_37 dX9_fits_8 (pc' := 11) rfl (by decide) (by omega) (wM_e37 _ _ _ _) rfl ?_
  refine r_iload_n X dX9_fits_11 (pc' := 12) rfl rfl ?_
  refine r_iald X dX9_fits_12 (pc' := 13) rfl (by omega) (wM_e47 _ _ _ _) (by omega) (by omega) ?_
  have b9 := W.v9 a
  refine r_istore (vs' := [_, _, _, _, _, _, _]) X dX9_fits_13 (pc' := 15) rfl (by decide) rfl ?_
  refine r_iload_n X dX9_fits_15 (pc' := 16) rfl rfl ?_
  refine r_sipush (v := nI 10000) X (by decide) dX9_fits_16 (pc' := 19) rfl ?_
  first | refine rN_idiv X dX9_fits_19 (pc' := 20) rfl (by omega) (by omega) (by omega) ?_ | refine r_idiv X (by decide) dX9_fits_19 (pc' := 20) rfl ?_
  refine r_istore (vs' := [_, _, _, _, _, _, _]) X dX9_fits_20 (pc' := 22) rfl (by decide) rfl ?_
  refine r_iload_n X dX9_fits_22 (pc' := 23) rfl rfl ?_
  refine r_sipush (v := nI 1000) X (by decide) dX9_fits_23 (pc' := 26) rfl ?_
  first | refine rN_idiv X dX9_fits_26 (pc' := 27) rfl (by omega) (by omega) (by omega) ?_ | refine r_idiv X (by decide) dX9_fits_26 (pc' := 27) rfl ?_
  refine r_bipush (v := nI 10) X (by decide) dX9_fits_27 (pc' := 29) rfl ?_
  first | refine rN_irem X dX9_fits_29 (pc' := 30) rfl (by omega) (by omega) (by omega) ?_ | refine r_irem X (by decide) dX9_fits_29 (pc' := 30) rfl ?_
  refine r_istore (vs' := [_, _, _, _, _, _, _]) X dX9_fits_30 (pc' := 32) rfl (by decide) rfl ?_
  refine r_iload_n X dX9_fits_32 (pc' := 33) rfl rfl ?_
  refine r_callS (As := [_]) X okX9_rolesOf lm_X9_105 dX9_fits_33 (pc' := 36) rfl (ct_X9_rolesOf P n _ code (by omega)) rfl rfl (Nat.le_of_ble_eq_true rfl) (by omega) (by omega) (by omega) ?_
  dsimp only [Option.toList, List.cons_append, List.nil_append]
  have b5 : code / 5120 &&& φ 8 a / 10000 ≤ φ 8 a / 10000 := Nat.and_le_right
  refine r_iload X dX9_fits_36 (pc' := 38) rfl rfl ?_
  first | refine rN_iand X dX9_fits_38 (pc' := 39) rfl ?_ | refine r_iand X dX9_fits_38 (pc' := 39) rfl ?_
  refine r_iload X dX9_fits_39 (pc' := 41) rfl rfl ?_
  first | refine rN_icmp_ne X dX9_fits_41 (tgt := 78) (by decide) (pc' := 44) rfl (by omega) (by omega) (fun c_41 => ?_) (fun c_41 => ?_) | refine r_icmp_ne X dX9_fits_41 (tgt := 78) (by decide) (pc' := 44) rfl (fun c_41 => ?_) (fun c_41 => ?_)
  · refine r_iconst (v := nI 0) X (by decide) dX9_fits_78 (pc' := 79) rfl ?_
    exact r_iret X r dX9_fits_79 (by omega) (by omega) rfl (hvF (fitN_f (by unfold FitP; omega))) rfl rfl
  · refine r_iload X dX9_fits_44 (pc' := 46) rfl rfl ?_
    refine r_iconst (v := nI 3) X (by decide) dX9_fits_46 (pc' := 47) rfl ?_
    first | refine rN_icmp_ge X dX9_fits_47 (tgt := 66) (by decide) (pc' := 50) rfl (by omega) (by omega) (fun c_47 => ?_) (fun c_47 => ?_) | refine r_icmp_ge X dX9_fits_47 (tgt := 66) (by decide) (pc' := 50) rfl (fun c_47 => ?_) (fun c_47 => ?_)
    · refine r_aload_n X dX9_fits_66 (pc' := 67) rfl rfl ?_
      refine r_iload_n X dX9_fits_67 (pc' := 68) rfl rfl ?_
      refine r_callV (As := [_]) X okX9_sure lm_X9_109 dX9_fits_68 (pc' := 71) rfl (ct_X9_sure P n hn h ι φ W code (by omega)) (by omega) (wM_e37 _ _ _ _) rfl rfl rfl rfl (Nat.le_of_ble_eq_true rfl) (by omega) (by omega) (by omega) ?_
      dsimp only [Option.toList, List.cons_append, List.nil_append]
      have bs := sureN_le W code
      refine r_iload_n X dX9_fits_71 (pc' := 72) rfl rfl ?_
      refine r_bipush (v := nI 100) X (by decide) dX9_fits_72 (pc' := 74) rfl ?_
      first | refine rN_irem X dX9_fits_74 (pc' := 75) rfl (by omega) (by omega) (by omega) ?_ | refine r_irem X (by decide) dX9_fits_74 (pc' := 75) rfl ?_
      first | refine rN_icmp_ge X dX9_fits_75 (tgt := 80) (by decide) (pc' := 78) rfl (by omega) (by omega) (fun c_75 => ?_) (fun c_75 => ?_) | refine r_icmp_ge X dX9_fits_75 (tgt := 80) (by decide) (pc' := 78) rfl (fun c_75 => ?_) (fun c_75 => ?_)
      · refine r_iload X dX9_fits_80 (pc' := 82) rfl rfl ?_
        refine r_sipush (v := nI 10000) X (by decide) dX9_fits_82 (pc' := 85) rfl ?_
        first | refine rN_idiv X dX9_fits_85 (pc' := 86) rfl (by omega) (by omega) (by omega) ?_ | refine r_idiv X (by decide) dX9_fits_85 (pc' := 86) rfl ?_
        refine r_iload_n X dX9_fits_86 (pc' := 87) rfl rfl ?_
        refine r_bipush (v := nI 20) X (by decide) dX9_fits_87 (pc' := 89) rfl ?_
        first | refine rN_idiv X dX9_fits_89 (pc' := 90) rfl (by omega) (by omega) (by omega) ?_ | refine r_idiv X (by decide) dX9_fits_89 (pc' := 90) rfl ?_
        refine r_iconst (v := nI 4) X (by decide) dX9_fits_90 (pc' := 91) rfl ?_
        first | refine rN_irem X dX9_fits_91 (pc' := 92) rfl (by omega) (by omega) (by omega) ?_ | refine r_irem X (by decide) dX9_fits_91 (pc' := 92) rfl ?_
        first | refine rN_ishr X dX9_fits_92 (pc' := 93) rfl (by omega) (by omega) ?_ | refine r_ishr X dX9_fits_92 (pc' := 93) rfl ?_
        refine r_iconst (v := nI 1) X (by decide) dX9_fits_93 (pc' := 94) rfl ?_
        first | refine rN_iand X dX9_fits_94 (pc' := 95) rfl ?_ | refine r_iand X dX9_fits_94 (pc' := 95) rfl ?_
        have b1 : (φ 9 a / 10000 / 2 ^ (code / 20 % 4) &&& 1) ≤ 1 := Nat.and_le_right
        first | refine rB_if_eq X dX9_fits_95 (tgt := 117) (by decide) (pc' := 98) rfl (fun c_95 => ?_) (fun c_95 => ?_) | refine rN_if_eq X dX9_fits_95 (tgt := 117) (by decide) (pc' := 98) rfl (by omega) (fun c_95 => ?_) (fun c_95 => ?_) | refine r_if_eq X dX9_fits_95 (tgt := 117) (by decide) (pc' := 98) rfl (fun c_95 => ?_) (fun c_95 => ?_)
        · refine r_iconst (v := nI 0) X (by decide) dX9_fits_117 (pc' := 118) rfl ?_
          exact r_iret X r dX9_fits_118 (by omega) (by omega) rfl (hvF (fitN_f (by unfold FitP; omega))) rfl rfl
        · refine r_iload X dX9_fits_98 (pc' := 100) rfl rfl ?_
          refine r_bipush (v := nI 100) X (by decide) dX9_fits_100 (pc' := 102) rfl ?_
          first | refine rN_idiv X dX9_fits_102 (pc' := 103) rfl (by omega) (by omega) (by omega) ?_ | refine r_idiv X (by decide) dX9_fits_102 (pc' := 103) rfl ?_
          refine r_bipush (v := nI 100) X (by decide) dX9_fits_103 (pc' := 105) rfl ?_
          first | refine rN_irem X dX9_fits_105 (pc' := 106) rfl (by omega) (by omega) (by omega) ?_ | refine r_irem X (by decide) dX9_fits_105 (pc' := 106) rfl ?_
          refine r_iload_n X dX9_fits_106 (pc' := 107) rfl rfl ?_
          refine r_iconst (v := nI 5) X (by decide) dX9_fits_107 (pc' := 108) rfl ?_
          first | refine rN_idiv X dX9_fits_108 (pc' := 109) rfl (by omega) (by omega) (by omega) ?_ | refine r_idiv X (by decide) dX9_fits_108 (pc' := 109) rfl ?_
          refine r_iconst (v := nI 4) X (by decide) dX9_fits_109 (pc' := 110) rfl ?_
          first | refine rN_irem X dX9_fits_110 (pc' := 111) rfl (by omega) (by omega) (by omega) ?_ | refine r_irem X (by decide) dX9_fits_110 (pc' := 111) rfl ?_
          first | refine rN_ishr X dX9_fits_111 (pc' := 112) rfl (by omega) (by omega) ?_ | refine r_ishr X dX9_fits_111 (pc' := 112) rfl ?_
          refine r_iconst (v := nI 1) X (by decide) dX9_fits_112 (pc' := 113) rfl ?_
          first | refine rN_iand X dX9_fits_113 (pc' := 114) rfl ?_ | refine r_iand X dX9_fits_113 (pc' := 114) rfl ?_
          have b2 : (φ 9 a / 100 % 100 / 2 ^ (code / 5 % 4) &&& 1) ≤ 1 := Nat.and_le_right
          first | refine rB_if_ne X dX9_fits_114 (tgt := 119) (by decide) (pc' := 117) rfl (fun c_114 => ?_) (fun c_114 => ?_) | refine rN_if_ne X dX9_fits_114 (tgt := 119) (by decide) (pc' := 117) rfl (by omega) (fun c_114 => ?_) (fun c_114 => ?_) | refine r_if_ne X dX9_fits_114 (tgt := 119) (by decide) (pc' := 117) rfl (fun c_114 => ?_) (fun c_114 => ?_)
          · refine r_iload_n X dX9_fits_119 (pc' := 120) rfl rfl ?_
            refine r_iconst (v := nI 5) X (by decide) dX9_fits_120 (pc' := 121) rfl ?_
            first | refine rN_irem X dX9_fits_121 (pc' := 122) rfl (by omega) (by omega) (by omega) ?_ | refine r_irem X (by decide) dX9_fits_121 (pc' := 122) rfl ?_
            refine r_iload X dX9_fits_122 (pc' := 124) rfl rfl ?_
            refine r_bipush (v := nI 10) X (by decide) dX9_fits_124 (pc' := 126) rfl ?_
            first | refine rN_idiv X dX9_fits_126 (pc' := 127) rfl (by omega) (by omega) (by omega) ?_ | refine r_idiv X (by decide) dX9_fits_126 (pc' := 127) rfl ?_
            refine r_bipush (v := nI 10) X (by decide) dX9_fits_127 (pc' := 129) rfl ?_
            first | refine rN_irem X dX9_fits_129 (pc' := 130) rfl (by omega) (by omega) (by omega) ?_ | refine r_irem X (by decide) dX9_fits_129 (pc' := 130) rfl ?_
            refine r_iload X dX9_fits_130 (pc' := 132) rfl rfl ?_
            refine r_bipush (v := nI 10) X (by decide) dX9_fits_132 (pc' := 134) rfl ?_
            first | refine rN_irem X dX9_fits_134 (pc' := 135) rfl (by omega) (by omega) (by omega) ?_ | refine r_irem X (by decide) dX9_fits_134 (pc' := 135) rfl ?_
            refine r_callS (As := [_, _, _]) X okX9_in lm_X9_80 dX9_fits_135 (pc' := 138) rfl (ct_X9_in P n _ _ _ _) rfl rfl (Nat.le_of_ble_eq_true rfl) (by omega) (by omega) (by omega) ?_
            dsimp only [Option.toList, List.cons_append, List.nil_append]
            rw [inL_n (by omega) (by omega) (by omega)]
            exact r_iret X r dX9_fits_138 (by omega) (by omega) (nB _) (hvE (by unfold fitsN; rw [Bool.eq_iff_iff, fitN_iff]; simp only [Bool.and_eq_true, decide_eq_true_eq]; unfold FitP; omega)) rfl rfl
          · refine r_iconst (v := nI 0) X (by decide) dX9_fits_117 (pc' := 118) rfl ?_
            exact r_iret X r dX9_fits_118 (by omega) (by omega) rfl (hvF (fitN_f (by unfold FitP; omega))) rfl rfl
      · refine r_iconst (v := nI 0) X (by decide) dX9_fits_78 (pc' := 79) rfl ?_
        exact r_iret X r dX9_fits_79 (by omega) (by omega) rfl (hvF (fitN_f (by unfold FitP; omega))) rfl rfl
    · refine r_iload_n X dX9_fits_50 (pc' := 51) rfl rfl ?_
      refine r_iload X dX9_fits_51 (pc' := 53) rfl rfl ?_
      refine r_callS (As := [_, _]) X okX9_markOf lm_X9_102 dX9_fits_53 (pc' := 56) rfl (ct_X9_markOf P n _ code _ (by omega) (by omega)) rfl rfl (Nat.le_of_ble_eq_true rfl) (by omega) (by omega) (by omega) ?_
      dsimp only [Option.toList, List.cons_append, List.nil_append]
      have bm := markN_le code (φ 8 a / 1000 % 10)
      refine r_iload_n X dX9_fits_56 (pc' := 57) rfl rfl ?_
      refine r_bipush (v := nI 100) X (by decide) dX9_fits_57 (pc' := 59) rfl ?_
      first | refine rN_idiv X dX9_fits_59 (pc' := 60) rfl (by omega) (by omega) (by omega) ?_ | refine r_idiv X (by decide) dX9_fits_59 (pc' := 60) rfl ?_
      refine r_bipush (v := nI 10) X (by decide) dX9_fits_60 (pc' := 62) rfl ?_
      first | refine rN_irem X dX9_fits_62 (pc' := 63) rfl (by omega) (by omega) (by omega) ?_ | refine r_irem X (by decide) dX9_fits_62 (pc' := 63) rfl ?_
      first | refine rN_icmp_lt X dX9_fits_63 (tgt := 78) (by decide) (pc' := 66) rfl (by omega) (by omega) (fun c_63 => ?_) (fun c_63 => ?_) | refine r_icmp_lt X dX9_fits_63 (tgt := 78) (by decide) (pc' := 66) rfl (fun c_63 => ?_) (fun c_63 => ?_)
      · refine r_iconst (v := nI 0) X (by decide) dX9_fits_78 (pc' := 79) rfl ?_
        exact r_iret X r dX9_fits_79 (by omega) (by omega) rfl (hvF (fitN_f (by unfold FitP; omega))) rfl rfl
      · refine r_aload_n X dX9_fits_66 (pc' := 67) rfl rfl ?_
        refine r_iload_n X dX9_fits_67 (pc' := 68) rfl rfl ?_
        refine r_callV (As := [_]) X okX9_sure lm_X9_109 dX9_fits_68 (pc' := 71) rfl (ct_X9_sure P n hn h ι φ W code (by omega)) (by omega) (wM_e37 _ _ _ _) rfl rfl rfl rfl (Nat.le_of_ble_eq_true rfl) (by omega) (by omega) (by omega) ?_
        dsimp only [Option.toList, List.cons_append, List.nil_append]
        have bs := sureN_le W code
        refine r_iload_n X dX9_fits_71 (pc' := 72) rfl rfl ?_
        refine r_bipush (v := nI 100) X (by decide) dX9_fits_72 (pc' := 74) rfl ?_
        first | refine rN_irem X dX9_fits_74 (pc' := 75) rfl (by omega) (by omega) (by omega) ?_ | refine r_irem X (by decide) dX9_fits_74 (pc' := 75) rfl ?_
        first | refine rN_icmp_ge X dX9_fits_75 (tgt := 80) (by decide) (pc' := 78) rfl (by omega) (by omega) (fun c_75 => ?_) (fun c_75 => ?_) | refine r_icmp_ge X dX9_fits_75 (tgt := 80) (by decide) (pc' := 78) rfl (fun c_75 => ?_) (fun c_75 => ?_)
        · refine r_iload X dX9_fits_80 (pc' := 82) rfl rfl ?_
          refine r_sipush (v := nI 10000) X (by decide) dX9_fits_82 (pc' := 85) rfl ?_
          first | refine rN_idiv X dX9_fits_85 (pc' := 86) rfl (by omega) (by omega) (by omega) ?_ | refine r_idiv X (by decide) dX9_fits_85 (pc' := 86) rfl ?_
          refine r_iload_n X dX9_fits_86 (pc' := 87) rfl rfl ?_
          refine r_bipush (v := nI 20) X (by decide) dX9_fits_87 (pc' := 89) rfl ?_
          first | refine rN_idiv X dX9_fits_89 (pc' := 90) rfl (by omega) (by omega) (by omega) ?_ | refine r_idiv X (by decide) dX9_fits_89 (pc' := 90) rfl ?_
          refine r_iconst (v := nI 4) X (by decide) dX9_fits_90 (pc' := 91) rfl ?_
          first | refine rN_irem X dX9_fits_91 (pc' := 92) rfl (by omega) (by omega) (by omega) ?_ | refine r_irem X (by decide) dX9_fits_91 (pc' := 92) rfl ?_
          first | refine rN_ishr X dX9_fits_92 (pc' := 93) rfl (by omega) (by omega) ?_ | refine r_ishr X dX9_fits_92 (pc' := 93) rfl ?_
          refine r_iconst (v := nI 1) X (by decide) dX9_fits_93 (pc' := 94) rfl ?_
          first | refine rN_iand X dX9_fits_94 (pc' := 95) rfl ?_ | refine r_iand X dX9_fits_94 (pc' := 95) rfl ?_
          have b1 : (φ 9 a / 10000 / 2 ^ (code / 20 % 4) &&& 1) ≤ 1 := Nat.and_le_right
          first | refine rB_if_eq X dX9_fits_95 (tgt := 117) (by decide) (pc' := 98) rfl (fun c_95 => ?_) (fun c_95 => ?_) | refine rN_if_eq X dX9_fits_95 (tgt := 117) (by decide) (pc' := 98) rfl (by omega) (fun c_95 => ?_) (fun c_95 => ?_) | refine r_if_eq X dX9_fits_95 (tgt := 117) (by decide) (pc' := 98) rfl (fun c_95 => ?_) (fun c_95 => ?_)
          · refine r_iconst (v := nI 0) X (by decide) dX9_fits_117 (pc' := 118) rfl ?_
            exact r_iret X r dX9_fits_118 (by omega) (by omega) rfl (hvF (fitN_f (by unfold FitP; omega))) rfl rfl
          · refine r_iload X dX9_fits_98 (pc' := 100) rfl rfl ?_
            refine r_bipush (v := nI 100) X (by decide) dX9_fits_100 (pc' := 102) rfl ?_
            first | refine rN_idiv X dX9_fits_102 (pc' := 103) rfl (by omega) (by omega) (by omega) ?_ | refine r_idiv X (by decide) dX9_fits_102 (pc' := 103) rfl ?_
            refine r_bipush (v := nI 100) X (by decide) dX9_fits_103 (pc' := 105) rfl ?_
            first | refine rN_irem X dX9_fits_105 (pc' := 106) rfl (by omega) (by omega) (by omega) ?_ | refine r_irem X (by decide) dX9_fits_105 (pc' := 106) rfl ?_
            refine r_iload_n X dX9_fits_106 (pc' := 107) rfl rfl ?_
            refine r_iconst (v := nI 5) X (by decide) dX9_fits_107 (pc' := 108) rfl ?_
            first | refine rN_idiv X dX9_fits_108 (pc' := 109) rfl (by omega) (by omega) (by omega) ?_ | refine r_idiv X (by decide) dX9_fits_108 (pc' := 109) rfl ?_
            refine r_iconst (v := nI 4) X (by decide) dX9_fits_109 (pc' := 110) rfl ?_
            first | refine rN_irem X dX9_fits_110 (pc' := 111) rfl (by omega) (by omega) (by omega) ?_ | refine r_irem X (by decide) dX9_fits_110 (pc' := 111) rfl ?_
            first | refine rN_ishr X dX9_fits_111 (pc' := 112) rfl (by omega) (by omega) ?_ | refine r_ishr X dX9_fits_111 (pc' := 112) rfl ?_
            refine r_iconst (v := nI 1) X (by decide) dX9_fits_112 (pc' := 113) rfl ?_
            first | refine rN_iand X dX9_fits_113 (pc' := 114) rfl ?_ | refine r_iand X dX9_fits_113 (pc' := 114) rfl ?_
            have b2 : (φ 9 a / 100 % 100 / 2 ^ (code / 5 % 4) &&& 1) ≤ 1 := Nat.and_le_right
            first | refine rB_if_ne X dX9_fits_114 (tgt := 119) (by decide) (pc' := 117) rfl (fun c_114 => ?_) (fun c_114 => ?_) | refine rN_if_ne X dX9_fits_114 (tgt := 119) (by decide) (pc' := 117) rfl (by omega) (fun c_114 => ?_) (fun c_114 => ?_) | refine r_if_ne X dX9_fits_114 (tgt := 119) (by decide) (pc' := 117) rfl (fun c_114 => ?_) (fun c_114 => ?_)
            · refine r_iload_n X dX9_fits_119 (pc' := 120) rfl rfl ?_
              refine r_iconst (v := nI 5) X (by decide) dX9_fits_120 (pc' := 121) rfl ?_
              first | refine rN_irem X dX9_fits_121 (pc' := 122) rfl (by omega) (by omega) (by omega) ?_ | refine r_irem X (by decide) dX9_fits_121 (pc' := 122) rfl ?_
              refine r_iload X dX9_fits_122 (pc' := 124) rfl rfl ?_
              refine r_bipush (v := nI 10) X (by decide) dX9_fits_124 (pc' := 126) rfl ?_
              first | refine rN_idiv X dX9_fits_126 (pc' := 127) rfl (by omega) (by omega) (by omega) ?_ | refine r_idiv X (by decide) dX9_fits_126 (pc' := 127) rfl ?_
              refine r_bipush (v := nI 10) X (by decide) dX9_fits_127 (pc' := 129) rfl ?_
              first | refine rN_irem X dX9_fits_129 (pc' := 130) rfl (by omega) (by omega) (by omega) ?_ | refine r_irem X (by decide) dX9_fits_129 (pc' := 130) rfl ?_
              refine r_iload X dX9_fits_130 (pc' := 132) rfl rfl ?_
              refine r_bipush (v := nI 10) X (by decide) dX9_fits_132 (pc' := 134) rfl ?_
              first | refine rN_irem X dX9_fits_134 (pc' := 135) rfl (by omega) (by omega) (by omega) ?_ | refine r_irem X (by decide) dX9_fits_134 (pc' := 135) rfl ?_
              refine r_callS (As := [_, _, _]) X okX9_in lm_X9_80 dX9_fits_135 (pc' := 138) rfl (ct_X9_in P n _ _ _ _) rfl rfl (Nat.le_of_ble_eq_true rfl) (by omega) (by omega) (by omega) ?_
              dsimp only [Option.toList, List.cons_append, List.nil_append]
              rw [inL_n (by omega) (by omega) (by omega)]
              exact r_iret X r dX9_fits_138 (by omega) (by omega) (nB _) (hvE (by unfold fitsN; rw [Bool.eq_iff_iff, fitN_iff]; simp only [Bool.and_eq_true, decide_eq_true_eq]; unfold FitP; omega)) rfl rfl
            · refine r_iconst (v := nI 0) X (by decide) dX9_fits_117 (pc' := 118) rfl ?_
              exact r_iret X r dX9_fits_118 (by omega) (by omega) rfl (hvF (fitN_f (by unfold FitP; omega))) rfl rfl
        · refine r_iconst (v := nI 0) X (by decide) dX9_fits_78 (pc' := 79) rfl ?_
          exact r_iret X r dX9_fits_79 (by omega) (by omega) rfl (hvF (fitN_f (by unfold FitP; omega))) rfl rfl
set_option maxRecDepth 100000 in
set_option maxHeartbeats 4000000 in
theorem ct_X9_decides (P : Px) (n : Nat) (hn : 59 ≤ n) (h : hw) (ι : Nat → Nat) (φ : Nat → Nat → Nat) (W : Wf ι φ) (hp code : Nat) (hh : hp < 2) (hc : code < 81920) : Ct P MX9_decides 3 0 0 [.ref (Bs P + 37), .int (nI hp), .int (nI code)] n (wM P h ι φ) (some (.int (oI (decN φ hp code)))) n (wM P h ι φ) := by
  refine Ct.of (by decide +kernel) (Nat.le_of_ble_eq_true rfl) rfl (fun K X hnm r => ?_)
  have X : Cx K P RX9 cX9_decides 4 3 0 0 := X
  have r : Rt K P (some .int) 0 0 _ _ _ := r
  show Z K P _ _ 0 0 0 [some (.ref (Bs P + 37)), some (.int (nI hp)), some (.int (nI code)), none] []
  have loop : ∀ (m_ : Nat) (k : Nat), φ 7 hp - k < m_ → (k ≤ φ 7 hp) → (∀ i, i < k → fitsN φ (12 * hp + i) code = false) → Z K P n (wM P h ι φ) 0 0 2 [some (.ref (Bs P + 37)), some (.int (nI hp)), some (.int (nI code)), some (.int (nI k))] [] := by
    intro m_
    induction m_ with
    | zero => intro k hm_; exact absurd hm_ (Nat.not_lt_zero _)
    | succ m_ ih =>
      intro k hm_ hk hf
      refine r_iload_n X dX9_decides_2 (pc' := 3) rfl rfl ?_
      refine r_aload_n X dX9_decides_3 (pc' := 4) rfl rfl ?_
      refine r_get X fX9 lf_X9_31 dX9_decides_4 (pc' := 7) rfl (by decide) (by omega) (wM_e37 _ _ _ _) rfl ?_
      refine r_iload_n X dX9_decides_7 (pc' := 8) rfl rfl ?_
      refine r_iald X dX9_decides_8 (pc' := 9) rfl (by omega) (wM_e45 _ _ _ _) (by omega) (by omega) ?_
      have b7 := W.v7 hp
      refine rN_icmp_ge X dX9_decides_9 (tgt := 34) (by decide) (pc' := 12) rfl (by omega) (by omega) (fun c_9 => ?_) (fun c_9 => ?_)
      · refine r_iconst (v := (-1)) X (by decide) dX9_decides_34 (pc' := 35) rfl ?_
        exact r_iret X r dX9_decides_35 (by omega) (by omega) rfl (by rw [show decN φ hp code = none from firstN_none (fun i hi => hf i (by omega))]; rfl) rfl rfl
      · refine r_aload_n X dX9_decides_12 (pc' := 13) rfl rfl ?_
        refine r_bipush (v := nI 12) X (by decide) dX9_decides_13 (pc' := 15) rfl ?_
        refine r_iload_n X dX9_decides_15 (pc' := 16) rfl rfl ?_
        first | refine rN_imul X dX9_decides_16 (pc' := 17) rfl ?_ | refine r_imul X dX9_decides_16 (pc' := 17) rfl ?_
        refine r_iload_n X dX9_decides_17 (pc' := 18) rfl rfl ?_
        first | refine rN_iadd X dX9_decides_18 (pc' := 19) rfl ?_ | refine r_iadd X dX9_decides_18 (pc' := 19) rfl ?_
        refine r_iload_n X dX9_decides_19 (pc' := 20) rfl rfl ?_
        refine r_callV (As := [_, _]) X okX9_fits lm_X9_112 dX9_decides_20 (pc' := 23) rfl (ct_X9_fits P n hn h ι φ W (12 * hp + k) code (by omega) hc) (by omega) (wM_e37 _ _ _ _) rfl rfl rfl rfl (Nat.le_of_ble_eq_true rfl) (by omega) (by omega) (by omega) ?_
        dsimp only [Option.toList, List.cons_append, List.nil_append]
        refine rB_if_eq X dX9_decides_23 (tgt := 28) (by decide) (pc' := 26) rfl (fun c_23 => ?_) (fun c_23 => ?_)
        · refine r_iincN (vs' := [_, _, _, _]) X dX9_decides_28 (pc' := 31) rfl (by decide) rfl rfl ?_
          refine r_goto (tgt := 2) X dX9_decides_31 (by decide) ?_
          exact ih (k + 1) (by omega) (by omega) (lt_s hf c_23)
        · refine r_iload_n X dX9_decides_26 (pc' := 27) rfl rfl ?_
          exact r_iret X r dX9_decides_27 (by omega) (by omega) rfl (by rw [show decN φ hp code = some k from firstN_some (by omega) c_23 hf]; rfl) rfl rfl
  refine r_iconst (v := nI 0) X (by decide) dX9_decides_0 (pc' := 1) rfl ?_
  refine r_istore_n (vs' := [_, _, _, _]) X dX9_decides_1 (pc' := 2) rfl (by decide) rfl ?_
  exact loop _ 0 (Nat.lt_succ_self _) (Nat.zero_le _) (fun i hi => absurd hi (Nat.not_lt_zero _))
theorem decN_some {ι : Nat → Nat} {φ : Nat → Nat → Nat} {hp code k : Nat} (h : decN φ hp code = some k) : k < φ 7 hp := by
  unfold decN at h
  rcases firstN_cases (fun k => fitsN φ (12 * hp + k) code) (φ 7 hp) with ⟨j, h1, -, -, h4⟩ | ⟨-, h4⟩
  · rw [h4] at h; cases h; exact h1
  · rw [h4] at h; cases h
theorem oI_ne {k : Nat} (hk : k < 2 ^ 31) : ¬ nI k = -1 := by
  rw [show (-1 : Int32) = nI 4294967295 by decide]
  intro q
  have := congrArg Int32.toInt q
  rw [nI_toInt hk, show (nI 4294967295).toInt = -1 by decide] at this
  omega
set_option maxRecDepth 100000 in
set_option maxHeartbeats 4000000 in
theorem ct_X9_isLet (P : Px) (n : Nat) (hn : 59 ≤ n) (h : hw) (ι : Nat → Nat) (φ : Nat → Nat → Nat) (W : Wf ι φ) (hp code : Nat) (hh : hp < 2) (hc : code < 81920) : Ct P MX9_isLet 4 0 0 [.ref (Bs P + 37), .int (nI hp), .int (nI code)] n (wM P h ι φ) (some (.int (bI (letN φ hp code)))) n (wM P h ι φ) := by
  refine Ct.of (by decide +kernel) (Nat.le_of_ble_eq_true rfl) rfl (fun K X hnm r => ?_)
  have X : Cx K P RX9 cX9_isLet 4 4 0 0 := X
  have r : Rt K P (some .boolean) 0 0 _ _ _ := r
  show Z K P _ _ 0 0 0 [some (.ref (Bs P + 37)), some (.int (nI hp)), some (.int (nI code)), none] []
  refine r_aload_n X dX9_isLet_0 (pc' := 1) rfl rfl ?_
  refine r_iload_n X dX9_isLet_1 (pc' := 2) rfl rfl ?_
  refine r_iload_n X dX9_isLet_2 (pc' := 3) rfl rfl ?_
  refine r_callV (As := [_, _]) X okX9_decides lm_X9_116 dX9_isLet_3 (pc' := 6) rfl (ct_X9_decides P n hn h ι φ W hp code hh hc) (by omega) (wM_e37 _ _ _ _) rfl rfl rfl rfl (Nat.le_of_ble_eq_true rfl) (by omega) (by omega) (by omega) ?_
  dsimp only [Option.toList, List.cons_append, List.nil_append]
  cases hd_ : decN φ hp code with
  | none =>
    refine r_istore_n (vs' := [_, _, _, _]) X dX9_isLet_6 (pc' := 7) rfl (by decide) rfl ?_
    refine r_iload_n X dX9_isLet_7 (pc' := 8) rfl rfl ?_
    refine r_iconst (v := (-1)) X (by decide) dX9_isLet_8 (pc' := 9) rfl ?_
    refine r_icmp_eq X dX9_isLet_9 (tgt := 30) (by decide) (pc' := 12) rfl (fun _ => ?_) (fun c => absurd rfl c)
    refine r_iconst (v := nI 0) X (by decide) dX9_isLet_30 (pc' := 31) rfl ?_
    exact r_iret X r dX9_isLet_31 (by omega) (by omega) rfl (hvF (by unfold letN; rw [hd_])) rfl rfl
  | some k =>
    have hk := decN_some (ι := ι) hd_
    have b7 := W.v7 hp
    have b10 := W.v10 (12 * hp + k)
    refine r_istore_n (vs' := [_, _, _, _]) X dX9_isLet_6 (pc' := 7) rfl (by decide) rfl ?_
    refine r_iload_n X dX9_isLet_7 (pc' := 8) rfl rfl ?_
    refine r_iconst (v := (-1)) X (by decide) dX9_isLet_8 (pc' := 9) rfl ?_
    refine r_icmp_eq X dX9_isLet_9 (tgt := 30) (by decide) (pc' := 12) rfl (fun c => absurd c (oI_ne (by omega))) (fun _ => ?_)
    show Z K P n _ 0 0 12 [some (.ref (Bs P + 37)), some (.int (nI hp)), some (.int (nI code)), some (.int (nI k))] []
    refine r_aload_n X dX9_isLet_12 (pc' := 13) rfl rfl ?_
    refine r_get X fX9 lf_X9_40 dX9_isLet_13 (pc' := 16) rfl (by decide) (by omega) (wM_e37 _ _ _ _) rfl ?_
    refine r_bipush (v := nI 12) X (by decide) dX9_isLet_16 (pc' := 18) rfl ?_
    refine r_iload_n X dX9_isLet_18 (pc' := 19) rfl rfl ?_
    refine rN_imul X dX9_isLet_19 (pc' := 20) rfl ?_
    refine r_iload_n X dX9_isLet_20 (pc' := 21) rfl rfl ?_
    refine rN_iadd X dX9_isLet_21 (pc' := 22) rfl ?_
    refine r_iald X dX9_isLet_22 (pc' := 23) rfl (by omega) (wM_e48 _ _ _ _) (by omega) (by omega) ?_
    refine rN_if_ne X dX9_isLet_23 (tgt := 30) (by decide) (pc' := 26) rfl (by omega) (fun c => ?_) (fun c => ?_)
    · refine r_iconst (v := nI 0) X (by decide) dX9_isLet_30 (pc' := 31) rfl ?_
      exact r_iret X r dX9_isLet_31 (by omega) (by omega) rfl (hvF (by unfold letN; rw [hd_]; simp [c])) rfl rfl
    · refine r_iconst (v := nI 1) X (by decide) dX9_isLet_26 (pc' := 27) rfl ?_
      refine r_goto (tgt := 31) X dX9_isLet_27 (by decide) ?_
      exact r_iret X r dX9_isLet_31 (by omega) (by omega) rfl (hvT (by unfold letN; rw [hd_]; simp [c])) rfl rfl
set_option maxRecDepth 100000 in
set_option maxHeartbeats 4000000 in
theorem ct_X9_answer (P : Px) (n : Nat) (hn : 59 ≤ n) (h : hw) (ι : Nat → Nat) (φ : Nat → Nat → Nat) (W : Wf ι φ) (hp code : Nat) (hh : hp < 2) (hc : code < 81920) : Ct P MX9_answer 5 0 0 [.ref (Bs P + 37), .int (nI hp), .int (nI code)] n (wM P h ι φ) (some (.int (nI (ansN φ hp code)))) n (wM P h ι φ) := by
  refine Ct.of (by decide +kernel) (Nat.le_of_ble_eq_true rfl) rfl (fun K X hnm r => ?_)
  have X : Cx K P RX9 cX9_answer 3 5 0 0 := X
  have r : Rt K P (some .int) 0 0 _ _ _ := r
  show Z K P _ _ 0 0 0 [some (.ref (Bs P + 37)), some (.int (nI hp)), some (.int (nI code))] []
  refine r_aload_n X dX9_answer_0 (pc' := 1) rfl rfl ?_
  refine r_iload_n X dX9_answer_1 (pc' := 2) rfl rfl ?_
  refine r_iload_n X dX9_answer_2 (pc' := 3) rfl rfl ?_
  refine r_callV (As := [_, _]) X okX9_isLet lm_X9_119 dX9_answer_3 (pc' := 6) rfl (ct_X9_isLet P n hn h ι φ W hp code hh hc) (by omega) (wM_e37 _ _ _ _) rfl rfl rfl rfl (Nat.le_of_ble_eq_true rfl) (by omega) (by omega) (by omega) ?_
  dsimp only [Option.toList, List.cons_append, List.nil_append]
  refine rB_if_eq X dX9_answer_6 (tgt := 11) (by decide) (pc' := 9) rfl (fun c_6 => ?_) (fun c_6 => ?_)
  · refine r_aload_n X dX9_answer_11 (pc' := 12) rfl rfl ?_
    refine r_iload_n X dX9_answer_12 (pc' := 13) rfl rfl ?_
    refine r_iload_n X dX9_answer_13 (pc' := 14) rfl rfl ?_
    refine r_bipush (v := nI 80) X (by decide) dX9_answer_14 (pc' := 16) rfl ?_
    refine r_iconst (v := nI 3) X (by decide) dX9_answer_16 (pc' := 17) rfl ?_
    refine r_iload_n X dX9_answer_17 (pc' := 18) rfl rfl ?_
    refine r_iconst (v := nI 2) X (by decide) dX9_answer_18 (pc' := 19) rfl ?_
    refine r_callS (As := [_, _]) X okX9_markOf lm_X9_102 dX9_answer_19 (pc' := 22) rfl (ct_X9_markOf P n _ code _ (by omega) (by decide)) rfl rfl (Nat.le_of_ble_eq_true rfl) (by omega) (by omega) (by omega) ?_
    dsimp only [Option.toList, List.cons_append, List.nil_append]
    have bm := markN_le code 2
    first | refine rN_isub X dX9_answer_22 (pc' := 23) rfl (by omega) ?_ | refine r_isub X dX9_answer_22 (pc' := 23) rfl ?_
    first | refine rN_imul X dX9_answer_23 (pc' := 24) rfl ?_ | refine r_imul X dX9_answer_23 (pc' := 24) rfl ?_
    first | refine rN_iadd X dX9_answer_24 (pc' := 25) rfl ?_ | refine r_iadd X dX9_answer_24 (pc' := 25) rfl ?_
    refine r_callV (As := [_, _]) X okX9_isLet lm_X9_119 dX9_answer_25 (pc' := 28) rfl (ct_X9_isLet P n hn h ι φ W hp _ hh (markN_add hc)) (by omega) (wM_e37 _ _ _ _) rfl rfl rfl rfl (Nat.le_of_ble_eq_true rfl) (by omega) (by omega) (by omega) ?_
    dsimp only [Option.toList, List.cons_append, List.nil_append]
    refine rB_if_eq X dX9_answer_28 (tgt := 35) (by decide) (pc' := 31) rfl (fun c_28 => ?_) (fun c_28 => ?_)
    · refine r_iconst (v := nI 2) X (by decide) dX9_answer_35 (pc' := 36) rfl ?_
      exact r_iret X r dX9_answer_36 (by omega) (by omega) rfl (hvN (by unfold ansN; simp [c_6, c_28])) rfl rfl
    · refine r_iconst (v := nI 1) X (by decide) dX9_answer_31 (pc' := 32) rfl ?_
      refine r_goto (tgt := 36) X dX9_answer_32 (by decide) ?_
      exact r_iret X r dX9_answer_36 (by omega) (by omega) rfl (hvN (by unfold ansN; simp [c_6, c_28])) rfl rfl
  · refine r_iconst (v := nI 0) X (by decide) dX9_answer_9 (pc' := 10) rfl ?_
    exact r_iret X r dX9_answer_10 (by omega) (by omega) rfl (hvN (by unfold ansN; simp [c_6])) rfl rfl
set_option maxRecDepth 100000 in
set_option maxHeartbeats 4000000 in
theorem ct_X9_factsOf (P : Px) (n : Nat) (hn : 59 ≤ n) (h : hw) (ι : Nat → Nat) (φ : Nat → Nat → Nat) (W : Wf ι φ) (who : Nat) (hwo : who < 10000) (hw4 : who % 10 < 4) : Ct P MX9_factsOf 1 0 0 [.ref (Bs P + 37), .int (nI who)] n (wM P h ι φ) (some (.int (nI (factN ι φ who)))) n (wM P h ι φ) := by
  refine Ct.of (by decide +kernel) (Nat.le_of_ble_eq_true rfl) rfl (fun K X hnm r => ?_)
  have X : Cx K P RX9 cX9_factsOf 6 1 0 0 := X
  have r : Rt K P (some .int) 0 0 _ _ _ := r
  show Z K P _ _ 0 0 0 [some (.ref (Bs P + 37)), some (.int (nI who)), none, none, none, none] []
  refine r_iload_n X dX9_factsOf_0 (pc' := 1) rfl rfl ?_
  refine r_sipush (v := nI 1000) X (by decide) dX9_factsOf_1 (pc' := 4) rfl ?_
  first | refine rN_idiv X dX9_factsOf_4 (pc' := 5) rfl (by omega) (by omega) (by omega) ?_ | refine r_idiv X (by decide) dX9_factsOf_4 (pc' := 5) rfl ?_
  refine r_istore_n (vs' := [_, _, _, _, _, _]) X dX9_factsOf_5 (pc' := 6) rfl (by decide) rfl ?_
  refine r_iload_n X dX9_factsOf_6 (pc' := 7) rfl rfl ?_
  refine r_bipush (v := nI 100) X (by decide) dX9_factsOf_7 (pc' := 9) rfl ?_
  first | refine rN_idiv X dX9_factsOf_9 (pc' := 10) rfl (by omega) (by omega) (by omega) ?_ | refine r_idiv X (by decide) dX9_factsOf_9 (pc' := 10) rfl ?_
  refine r_bipush (v := nI 10) X (by decide) dX9_factsOf_10 (pc' := 12) rfl ?_
  first | refine rN_irem X dX9_factsOf_12 (pc' := 13) rfl (by omega) (by omega) (by omega) ?_ | refine r_irem X (by decide) dX9_factsOf_12 (pc' := 13) rfl ?_
  refine r_istore_n (vs' := [_, _, _, _, _, _]) X dX9_factsOf_13 (pc' := 14) rfl (by decide) rfl ?_
  refine r_iload_n X dX9_factsOf_14 (pc' := 15) rfl rfl ?_
  refine r_bipush (v := nI 10) X (by decide) dX9_factsOf_15 (pc' := 17) rfl ?_
  first | refine rN_idiv X dX9_factsOf_17 (pc' := 18) rfl (by omega) (by omega) (by omega) ?_ | refine r_idiv X (by decide) dX9_factsOf_17 (pc' := 18) rfl ?_
  refine r_bipush (v := nI 10) X (by decide) dX9_factsOf_18 (pc' := 20) rfl ?_
  first | refine rN_irem X dX9_factsOf_20 (pc' := 21) rfl (by omega) (by omega) (by omega) ?_ | refine r_irem X (by decide) dX9_factsOf_20 (pc' := 21) rfl ?_
  refine r_istore (vs' := [_, _, _, _, _, _]) X dX9_factsOf_21 (pc' := 23) rfl (by decide) rfl ?_
  refine r_aload_n X dX9_factsOf_23 (pc' := 24) rfl rfl ?_
  refine r_get X fX9 lf_X9_9 dX9_factsOf_24 (pc' := 27) rfl (by decide) (by omega) (wM_e37 _ _ _ _) rfl ?_
  refine r_iload_n X dX9_factsOf_27 (pc' := 28) rfl rfl ?_
  refine r_iald X dX9_factsOf_28 (pc' := 29) rfl (by omega) (wM_e38 _ _ _ _) (by omega) (by omega) ?_
  refine r_iconst (v := nI 4) X (by decide) dX9_factsOf_29 (pc' := 30) rfl ?_
  first | refine rN_imul X dX9_factsOf_30 (pc' := 31) rfl ?_ | refine r_imul X dX9_factsOf_30 (pc' := 31) rfl ?_
  refine r_aload_n X dX9_factsOf_31 (pc' := 32) rfl rfl ?_
  refine r_iload_n X dX9_factsOf_32 (pc' := 33) rfl rfl ?_
  refine r_iconst (v := nI 0) X (by decide) dX9_factsOf_33 (pc' := 34) rfl ?_
  refine r_callV (As := [_, _]) X okX9_value lm_X9_98 dX9_factsOf_34 (pc' := 37) rfl (ct_X9_value P n hn h ι φ W _ _ (by omega) (by omega)) (by omega) (wM_e37 _ _ _ _) rfl rfl rfl rfl (Nat.le_of_ble_eq_true rfl) (by omega) (by omega) (by omega) ?_
  dsimp only [Option.toList, List.cons_append, List.nil_append]
  first | refine rN_iadd X dX9_factsOf_37 (pc' := 38) rfl ?_ | refine r_iadd X dX9_factsOf_37 (pc' := 38) rfl ?_
  refine r_iconst (v := nI 4) X (by decide) dX9_factsOf_38 (pc' := 39) rfl ?_
  first | refine rN_imul X dX9_factsOf_39 (pc' := 40) rfl ?_ | refine r_imul X dX9_factsOf_39 (pc' := 40) rfl ?_
  refine r_aload_n X dX9_factsOf_40 (pc' := 41) rfl rfl ?_
  refine r_iload_n X dX9_factsOf_41 (pc' := 42) rfl rfl ?_
  refine r_iconst (v := nI 1) X (by decide) dX9_factsOf_42 (pc' := 43) rfl ?_
  refine r_callV (As := [_, _]) X okX9_value lm_X9_98 dX9_factsOf_43 (pc' := 46) rfl (ct_X9_value P n hn h ι φ W _ _ (by omega) (by omega)) (by omega) (wM_e37 _ _ _ _) rfl rfl rfl rfl (Nat.le_of_ble_eq_true rfl) (by omega) (by omega) (by omega) ?_
  dsimp only [Option.toList, List.cons_append, List.nil_append]
  first | refine rN_iadd X dX9_factsOf_46 (pc' := 47) rfl ?_ | refine r_iadd X dX9_factsOf_46 (pc' := 47) rfl ?_
  refine r_iconst (v := nI 4) X (by decide) dX9_factsOf_47 (pc' := 48) rfl ?_
  first | refine rN_imul X dX9_factsOf_48 (pc' := 49) rfl ?_ | refine r_imul X dX9_factsOf_48 (pc' := 49) rfl ?_
  refine r_aload_n X dX9_factsOf_49 (pc' := 50) rfl rfl ?_
  refine r_iload_n X dX9_factsOf_50 (pc' := 51) rfl rfl ?_
  refine r_iconst (v := nI 2) X (by decide) dX9_factsOf_51 (pc' := 52) rfl ?_
  refine r_callV (As := [_, _]) X okX9_value lm_X9_98 dX9_factsOf_52 (pc' := 55) rfl (ct_X9_value P n hn h ι φ W _ _ (by omega) (by omega)) (by omega) (wM_e37 _ _ _ _) rfl rfl rfl rfl (Nat.le_of_ble_eq_true rfl) (by omega) (by omega) (by omega) ?_
  dsimp only [Option.toList, List.cons_append, List.nil_append]
  first | refine rN_iadd X dX9_factsOf_55 (pc' := 56) rfl ?_ | refine r_iadd X dX9_factsOf_55 (pc' := 56) rfl ?_
  refine r_istore (vs' := [_, _, _, _, _, _]) X dX9_factsOf_56 (pc' := 58) rfl (by decide) rfl ?_
  refine r_iload X dX9_factsOf_58 (pc' := 60) rfl rfl ?_
  refine r_iconst (v := nI 4) X (by decide) dX9_factsOf_60 (pc' := 61) rfl ?_
  first | refine rN_imul X dX9_factsOf_61 (pc' := 62) rfl ?_ | refine r_imul X dX9_factsOf_61 (pc' := 62) rfl ?_
  refine r_iload_n X dX9_factsOf_62 (pc' := 63) rfl rfl ?_
  refine r_bipush (v := nI 10) X (by decide) dX9_factsOf_63 (pc' := 65) rfl ?_
  first | refine rN_irem X dX9_factsOf_65 (pc' := 66) rfl (by omega) (by omega) (by omega) ?_ | refine r_irem X (by decide) dX9_factsOf_65 (pc' := 66) rfl ?_
  first | refine rN_iadd X dX9_factsOf_66 (pc' := 67) rfl ?_ | refine r_iadd X dX9_factsOf_66 (pc' := 67) rfl ?_
  refine r_iconst (v := nI 4) X (by decide) dX9_factsOf_67 (pc' := 68) rfl ?_
  first | refine rN_imul X dX9_factsOf_68 (pc' := 69) rfl ?_ | refine r_imul X dX9_factsOf_68 (pc' := 69) rfl ?_
  refine r_aload_n X dX9_factsOf_69 (pc' := 70) rfl rfl ?_
  refine r_get X fX9 lf_X9_25 dX9_factsOf_70 (pc' := 73) rfl (by decide) (by omega) (wM_e37 _ _ _ _) rfl ?_
  refine r_iload X dX9_factsOf_73 (pc' := 75) rfl rfl ?_
  refine r_iald X dX9_factsOf_75 (pc' := 76) rfl (by omega) (wM_e43 _ _ _ _) (by omega) (by omega) ?_
  first | refine rN_iadd X dX9_factsOf_76 (pc' := 77) rfl ?_ | refine r_iadd X dX9_factsOf_76 (pc' := 77) rfl ?_
  refine r_iconst (v := nI 5) X (by decide) dX9_factsOf_77 (pc' := 78) rfl ?_
  first | refine rN_imul X dX9_factsOf_78 (pc' := 79) rfl ?_ | refine r_imul X dX9_factsOf_78 (pc' := 79) rfl ?_
  refine r_aload_n X dX9_factsOf_79 (pc' := 80) rfl rfl ?_
  refine r_get X fX9 lf_X9_28 dX9_factsOf_80 (pc' := 83) rfl (by decide) (by omega) (wM_e37 _ _ _ _) rfl ?_
  refine r_iload X dX9_factsOf_83 (pc' := 85) rfl rfl ?_
  refine r_iald X dX9_factsOf_85 (pc' := 86) rfl (by omega) (wM_e44 _ _ _ _) (by omega) (by omega) ?_
  first | refine rN_iadd X dX9_factsOf_86 (pc' := 87) rfl ?_ | refine r_iadd X dX9_factsOf_86 (pc' := 87) rfl ?_
  exact r_iret X r dX9_factsOf_87 (by omega) (by omega) rfl rfl rfl rfl
/-- a RULE that there is -/
def ruleQ (φ : Nat → Nat → Nat) (x y : Int32) : Bool := match inQ x (nI 1) with
  | true => inB y (nI (φ 7 x.toNatClampNeg))
  | false => false
theorem ruleQ_n {φ : Nat → Nat → Nat} {k : Nat} {y : Int32} (hk : k < 2) : ruleQ φ (nI k) y = inB y (nI (φ 7 k)) := by
  unfold ruleQ
  rw [inQ_n (by omega) (by decide), nI_clamp (by omega)]
  have : decide (k ≤ 1) = true := decide_eq_true (by omega)
  rw [this]
theorem ruleQ_f {φ : Nat → Nat → Nat} {x y : Int32} (h : inQ x (nI 1) = false) : ruleQ φ x y = false := by unfold ruleQ; rw [h]
theorem ruleQ_of {φ : Nat → Nat → Nat} {x y : Int32} (hb : ∀ i, φ 7 i ≤ 12) (h : ruleQ φ x y = true) : ∃ k j : Nat, k < 2 ∧ j < φ 7 k ∧ x = nI k ∧ y = nI j := by
  unfold ruleQ at h
  cases hq : inQ x (nI 1) with
  | false => rw [hq] at h; cases h
  | true =>
    obtain ⟨k, hk, rfl⟩ := inQ_of (by decide) hq
    rw [hq] at h
    simp only at h
    rw [nI_clamp (by omega)] at h
    obtain ⟨j, hj, rfl⟩ := inB_of (by have := hb k; omega) h
    exact ⟨k, j, by omega, hj, rfl, rfl⟩
theorem inL_pred {y : Int32} {s : Nat} (hs : s ≤ 1000) : inL y (nI 0) (nI s - nI 1) = inB y (nI s) := by
  cases s with
  | zero =>
    by_cases h : y < 0
    · simp [inL, inB, nI_0, h]
    · obtain ⟨j, hj, rfl⟩ := nI_of h
      have h1 : nI 0 - nI 1 < nI j := by
        rw [Int32.lt_iff_toInt_lt, nI_toInt hj, show (nI 0 - nI 1).toInt = -1 by decide]; omega
      have h2 : nI 0 ≤ nI j := (nI_leI (by decide) hj).mpr (by omega)
      simp only [inL, inB, h1, h2, decide_true, Bool.not_true, Bool.and_false]
  | succ s =>
    rw [pk_sub (by omega), Nat.add_sub_cancel, inL_Q, inB_Q _ _ (by omega)]
set_option maxRecDepth 100000 in
set_option maxHeartbeats 4000000 in
theorem ct_X9_isRule (P : Px) (n : Nat) (hn : 59 ≤ n) (h : hw) (ι : Nat → Nat) (φ : Nat → Nat → Nat) (W : Wf ι φ) (x y : Int32) : Ct P MX9_isRule 2 0 0 [.ref (Bs P + 37), .int x, .int y] n (wM P h ι φ) (some (.int (bI (ruleQ φ x y)))) n (wM P h ι φ) := by
  refine Ct.of (by decide +kernel) (Nat.le_of_ble_eq_true rfl) rfl (fun K X hnm r => ?_)
  have X : Cx K P RX9 cX9_isRule 3 2 0 0 := X
  have r : Rt K P (some .boolean) 0 0 _ _ _ := r
  show Z K P _ _ 0 0 0 [some (.ref (Bs P + 37)), some (.int x), some (.int y)] []
  refine r_iload_n X dX9_isRule_0 (pc' := 1) rfl rfl ?_
  refine r_callS (As := [_]) X okX9_isHeap lm_X9_95 dX9_isRule_1 (pc' := 4) rfl (ct_X9_isHeap P n _ x) rfl rfl (Nat.le_of_ble_eq_true rfl) (by omega) (by omega) (by omega) ?_
  dsimp only [Option.toList, List.cons_append, List.nil_append]
  refine rB_if_eq X dX9_isRule_4 (tgt := 27) (by decide) (pc' := 7) rfl (fun c_4 => ?_) (fun c_4 => ?_)
  · refine r_iconst (v := nI 0) X (by decide) dX9_isRule_27 (pc' := 28) rfl ?_
    exact r_iret X r dX9_isRule_28 (by omega) (by omega) rfl (by first | exact hvF (ruleQ_f c_4) | exact hvF (by rw [ruleQ_n (by omega)]; exact c_20) | exact hvT (by rw [ruleQ_n (by omega)]; exact c_20)) rfl rfl
  · obtain ⟨hp, hh, rfl⟩ := inQ_of (by decide) c_4
    have b7 := W.v7 hp
    refine r_iload_n X dX9_isRule_7 (pc' := 8) rfl rfl ?_
    refine r_iconst (v := nI 0) X (by decide) dX9_isRule_8 (pc' := 9) rfl ?_
    refine r_aload_n X dX9_isRule_9 (pc' := 10) rfl rfl ?_
    refine r_get X fX9 lf_X9_31 dX9_isRule_10 (pc' := 13) rfl (by decide) (by omega) (wM_e37 _ _ _ _) rfl ?_
    refine r_iload_n X dX9_isRule_13 (pc' := 14) rfl rfl ?_
    refine r_iald X dX9_isRule_14 (pc' := 15) rfl (by omega) (wM_e45 _ _ _ _) (by omega) (by omega) ?_
    refine r_iconst (v := nI 1) X (by decide) dX9_isRule_15 (pc' := 16) rfl ?_
    first | refine rN_isub X dX9_isRule_16 (pc' := 17) rfl (by omega) ?_ | refine r_isub X dX9_isRule_16 (pc' := 17) rfl ?_
    refine r_callS (As := [_, _, _]) X okX9_in lm_X9_80 dX9_isRule_17 (pc' := 20) rfl (ct_X9_in P n _ _ _ _) rfl rfl (Nat.le_of_ble_eq_true rfl) (by omega) (by omega) (by omega) ?_
    dsimp only [Option.toList, List.cons_append, List.nil_append]
    rw [inL_pred (by omega)]
    refine rB_if_eq X dX9_isRule_20 (tgt := 27) (by decide) (pc' := 23) rfl (fun c_20 => ?_) (fun c_20 => ?_)
    · refine r_iconst (v := nI 0) X (by decide) dX9_isRule_27 (pc' := 28) rfl ?_
      exact r_iret X r dX9_isRule_28 (by omega) (by omega) rfl (by first | exact hvF (ruleQ_f c_4) | exact hvF (by rw [ruleQ_n (by omega)]; exact c_20) | exact hvT (by rw [ruleQ_n (by omega)]; exact c_20)) rfl rfl
    · refine r_iconst (v := nI 1) X (by decide) dX9_isRule_23 (pc' := 24) rfl ?_
      refine r_goto (tgt := 28) X dX9_isRule_24 (by decide) ?_
      exact r_iret X r dX9_isRule_28 (by omega) (by omega) rfl (by first | exact hvF (ruleQ_f c_4) | exact hvF (by rw [ruleQ_n (by omega)]; exact c_20) | exact hvT (by rw [ruleQ_n (by omega)]; exact c_20)) rfl rfl

