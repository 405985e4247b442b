theorem nB (b : Bool) : narrow .boolean (.int (bI b)) = .int (bI b) := by cases b <;> rfl
theorem bI_t : bI true = nI 1 := rfl
theorem bI_f : bI false = nI 0 := rfl
/-- is a number within 0 .. most, as the code asks it -/
def inQ (x y : Int32) : Bool := !decide (x < 0) && !decide (y < x)
def inB (x y : Int32) : Bool := !decide (x < 0) && !decide (y ≤ x)
def inL (v lo hi : Int32) : Bool := !decide (v < lo) && !decide (hi < v)
theorem inQ_of {x : Int32} {m : Nat} (hm : m < 2 ^ 31) (h : inQ x (nI m) = true) : ∃ k : Nat, k ≤ m ∧ x = nI k := by
  simp only [inQ, Bool.and_eq_true, Bool.not_eq_true', decide_eq_false_iff_not] at h
  obtain ⟨j, hj, rfl⟩ := nI_of h.1
  exact ⟨j, Nat.not_lt.mp (fun q => h.2 ((nI_ltI hm hj).mpr q)), rfl⟩
theorem inB_of {x : Int32} {m : Nat} (hm : m < 2 ^ 31) (h : inB x (nI m) = true) : ∃ k : Nat, k < m ∧ x = nI k := by
  simp only [inB, Bool.and_eq_true, Bool.not_eq_true', decide_eq_false_iff_not] at h
  obtain ⟨j, hj, rfl⟩ := nI_of h.1
  exact ⟨j, Nat.not_le.mp (fun q => h.2 ((nI_leI hm hj).mpr q)), rfl⟩
theorem inL_of {x : Int32} {m : Nat} (hm : m < 2 ^ 31) (h : inL x (nI 0) (nI m) = true) : ∃ k : Nat, k ≤ m ∧ x = nI k := inQ_of hm h
theorem inQ_n {k m : Nat} (hk : k < 2 ^ 31) (hm : m < 2 ^ 31) : inQ (nI k) (nI m) = decide (k ≤ m) := by
  have h1 : ¬ nI k < 0 := nI_pos hk
  by_cases h : k ≤ m
  · have : ¬ nI m < nI k := fun q => by have := (nI_ltI hm hk).mp q; omega
    simp [inQ, h1, this, h]
  · have : nI m < nI k := (nI_ltI hm hk).mpr (by omega)
    simp [inQ, h1, this, h]
theorem inB_n {k m : Nat} (hk : k < 2 ^ 31) (hm : m < 2 ^ 31) : inB (nI k) (nI m) = decide (k < m) := by
  have h1 : ¬ nI k < 0 := nI_pos hk
  by_cases h : k < m
  · have : ¬ nI m ≤ nI k := fun q => by have := (nI_leI hm hk).mp q; omega
    simp [inB, h1, this, h]
  · have : nI m ≤ nI k := (nI_leI hm hk).mpr (by omega)
    simp [inB, h1, this, h]
theorem inL_n {k a m : Nat} (hk : k < 2 ^ 31) (ha : a < 2 ^ 31) (hm : m < 2 ^ 31) : inL (nI k) (nI a) (nI m) = (decide (a ≤ k) && decide (k ≤ m)) := by
  have e1 : decide (nI k < nI a) = decide (k < a) := by simp [nI_ltI hk ha]
  have e2 : decide (nI m < nI k) = decide (m < k) := by simp [nI_ltI hm hk]
  unfold inL
  rw [e1, e2]
  by_cases h1 : a ≤ k <;> by_cases h2 : k ≤ m <;> simp [h1, h2] <;> omega
theorem inB_Q (x : Int32) (m : Nat) (hm : m + 1 < 2 ^ 31) : inB x (nI (m + 1)) = inQ x (nI m) := by
  by_cases h : x < 0
  · simp [inB, inQ, h]
  · obtain ⟨j, hj, rfl⟩ := nI_of h
    rw [inB_n hj hm, inQ_n hj (by omega)]
    by_cases q : j ≤ m <;> simp <;> omega
theorem inL_Q (x y : Int32) : inL x (nI 0) y = inQ x y := rfl
set_option maxRecDepth 100000 in
set_option maxHeartbeats 4000000 in
theorem ct_X8_isWithin (P : Px) (n : Nat) (h : hw) (x y : Int32) : Ct P MX8_isWithin 0 0 0 [.int x, .int y] n h (some (.int (bI (inQ x y)))) n h := by
  refine Ct.of (by decide +kernel) (Nat.le_of_ble_eq_true rfl) rfl (fun K X hnm r => ?_)
  have X : Cx K P RX8 cX8_isWithin 2 0 0 0 := X
  have r : Rt K P (some .boolean) 0 0 _ _ _ := r
  show Z K P _ _ 0 0 0 [some (.int x), some (.int y)] []
  refine r_iload_n X dX8_isWithin_0 (pc' := 1) rfl rfl ?_
  refine r_if_lt X dX8_isWithin_1 (tgt := 13) (by decide) (pc' := 4) rfl (fun c_1 => ?_) (fun c_1 => ?_)
  · refine r_iconst (v := nI 0) X (by decide) dX8_isWithin_13 (pc' := 14) rfl ?_
    exact r_iret X r dX8_isWithin_14 (by omega) (by omega) rfl (by simp [bI, inQ, inB, inL, c_1] <;> rfl) rfl rfl
  · refine r_iload_n X dX8_isWithin_4 (pc' := 5) rfl rfl ?_
    refine r_iload_n X dX8_isWithin_5 (pc' := 6) rfl rfl ?_
    refine r_icmp_gt X dX8_isWithin_6 (tgt := 13) (by decide) (pc' := 9) rfl (fun c_6 => ?_) (fun c_6 => ?_)
    · refine r_iconst (v := nI 0) X (by decide) dX8_isWithin_13 (pc' := 14) rfl ?_
      exact r_iret X r dX8_isWithin_14 (by omega) (by omega) rfl (by simp [bI, inQ, inB, inL, c_1, c_6] <;> rfl) rfl rfl
    · refine r_iconst (v := nI 1) X (by decide) dX8_isWithin_9 (pc' := 10) rfl ?_
      refine r_goto (tgt := 14) X dX8_isWithin_10 (by decide) ?_
      exact r_iret X r dX8_isWithin_14 (by omega) (by omega) rfl (by simp [bI, inQ, inB, inL, c_1, c_6] <;> rfl) rfl rfl
set_option maxRecDepth 100000 in
set_option maxHeartbeats 4000000 in
theorem ct_X8_isBelow (P : Px) (n : Nat) (h : hw) (x y : Int32) : Ct P MX8_isBelow 0 0 0 [.int x, .int y] n h (some (.int (bI (inB x y)))) n h := by
  refine Ct.of (by decide +kernel) (Nat.le_of_ble_eq_true rfl) rfl (fun K X hnm r => ?_)
  have X : Cx K P RX8 cX8_isBelow 2 0 0 0 := X
  have r : Rt K P (some .boolean) 0 0 _ _ _ := r
  show Z K P _ _ 0 0 0 [some (.int x), some (.int y)] []
  refine r_iload_n X dX8_isBelow_0 (pc' := 1) rfl rfl ?_
  refine r_if_lt X dX8_isBelow_1 (tgt := 13) (by decide) (pc' := 4) rfl (fun c_1 => ?_) (fun c_1 => ?_)
  · refine r_iconst (v := nI 0) X (by decide) dX8_isBelow_13 (pc' := 14) rfl ?_
    exact r_iret X r dX8_isBelow_14 (by omega) (by omega) rfl (by simp [bI, inQ, inB, inL, c_1] <;> rfl) rfl rfl
  · refine r_iload_n X dX8_isBelow_4 (pc' := 5) rfl rfl ?_
    refine r_iload_n X dX8_isBelow_5 (pc' := 6) rfl rfl ?_
    refine r_icmp_ge X dX8_isBelow_6 (tgt := 13) (by decide) (pc' := 9) rfl (fun c_6 => ?_) (fun c_6 => ?_)
    · refine r_iconst (v := nI 0) X (by decide) dX8_isBelow_13 (pc' := 14) rfl ?_
      exact r_iret X r dX8_isBelow_14 (by omega) (by omega) rfl (by simp [bI, inQ, inB, inL, c_1, c_6] <;> rfl) rfl rfl
    · refine r_iconst (v := nI 1) X (by decide) dX8_isBelow_9 (pc' := 10) rfl ?_
      refine r_goto (tgt := 14) X dX8_isBelow_10 (by decide) ?_
      exact r_iret X r dX8_isBelow_14 (by omega) (by omega) rfl (by simp [bI, inQ, inB, inL, c_1, c_6] <;> rfl) rfl rfl
set_option maxRecDepth 100000 in
set_option maxHeartbeats 4000000 in
theorem ct_X9_in (P : Px) (n : Nat) (h : hw) (x y z : Int32) : Ct P MX9_in 0 0 0 [.int x, .int y, .int z] n h (some (.int (bI (inL x y z)))) n h := by
  refine Ct.of (by decide +kernel) (Nat.le_of_ble_eq_true rfl) rfl (fun K X hnm r => ?_)
  have X : Cx K P RX9 cX9_in 3 0 0 0 := X
  have r : Rt K P (some .boolean) 0 0 _ _ _ := r
  show Z K P _ _ 0 0 0 [some (.int x), some (.int y), some (.int z)] []
  refine r_iload_n X dX9_in_0 (pc' := 1) rfl rfl ?_
  refine r_iload_n X dX9_in_1 (pc' := 2) rfl rfl ?_
  refine r_icmp_lt X dX9_in_2 (tgt := 14) (by decide) (pc' := 5) rfl (fun c_2 => ?_) (fun c_2 => ?_)
  · refine r_iconst (v := nI 0) X (by decide) dX9_in_14 (pc' := 15) rfl ?_
    exact r_iret X r dX9_in_15 (by omega) (by omega) rfl (by simp [bI, inQ, inB, inL, c_2] <;> rfl) rfl rfl
  · refine r_iload_n X dX9_in_5 (pc' := 6) rfl rfl ?_
    refine r_iload_n X dX9_in_6 (pc' := 7) rfl rfl ?_
    refine r_icmp_gt X dX9_in_7 (tgt := 14) (by decide) (pc' := 10) rfl (fun c_7 => ?_) (fun c_7 => ?_)
    · refine r_iconst (v := nI 0) X (by decide) dX9_in_14 (pc' := 15) rfl ?_
      exact r_iret X r dX9_in_15 (by omega) (by omega) rfl (by simp [bI, inQ, inB, inL, c_2, c_7] <;> rfl) rfl rfl
    · refine r_iconst (v := nI 1) X (by decide) dX9_in_10 (pc' := 11) rfl ?_
      refine r_goto (tgt := 15) X dX9_in_11 (by decide) ?_
      exact r_iret X r dX9_in_15 (by omega) (by omega) rfl (by simp [bI, inQ, inB, inL, c_2, c_7] <;> rfl) rfl rfl
set_option maxRecDepth 100000 in
set_option maxHeartbeats 4000000 in
theorem ct_X8_rolesIn (P : Px) (n : Nat) (h : hw) (a : Nat) (ha : a < 2 ^ 31) : Ct P MX8_rolesIn 0 0 0 [.int (nI a)] n h (some (.int (nI (a / 5120)))) n h := by
  refine Ct.of (by decide +kernel) (Nat.le_of_ble_eq_true rfl) rfl (fun K X hnm r => ?_)
  have X : Cx K P RX8 cX8_rolesIn 1 0 0 0 := X
  have r : Rt K P (some .int) 0 0 _ _ _ := r
  show Z K P _ _ 0 0 0 [some (.int (nI a))] []
  refine r_iload_n X dX8_rolesIn_0 (pc' := 1) rfl rfl ?_
  refine r_sipush (v := nI 5120) X (by decide) dX8_rolesIn_1 (pc' := 4) rfl ?_
  first | refine rN_idiv X dX8_rolesIn_4 (pc' := 5) rfl (by omega) (by omega) (by omega) ?_ | refine r_idiv X (by decide) dX8_rolesIn_4 (pc' := 5) rfl ?_
  exact r_iret X r dX8_rolesIn_5 (by omega) (by omega) rfl rfl rfl rfl
set_option maxRecDepth 100000 in
set_option maxHeartbeats 4000000 in
theorem ct_X8_marksIn (P : Px) (n : Nat) (h : hw) (a : Nat) (ha : a < 2 ^ 31) : Ct P MX8_marksIn 0 0 0 [.int (nI a)] n h (some (.int (nI (a / 80 % 64)))) n h := by
  refine Ct.of (by decide +kernel) (Nat.le_of_ble_eq_true rfl) rfl (fun K X hnm r => ?_)
  have X : Cx K P RX8 cX8_marksIn 1 0 0 0 := X
  have r : Rt K P (some .int) 0 0 _ _ _ := r
  show Z K P _ _ 0 0 0 [some (.int (nI a))] []
  refine r_iload_n X dX8_marksIn_0 (pc' := 1) rfl rfl ?_
  refine r_bipush (v := nI 80) X (by decide) dX8_marksIn_1 (pc' := 3) rfl ?_
  first | refine rN_idiv X dX8_marksIn_3 (pc' := 4) rfl (by omega) (by omega) (by omega) ?_ | refine r_idiv X (by decide) dX8_marksIn_3 (pc' := 4) rfl ?_
  refine r_bipush (v := nI 64) X (by decide) dX8_marksIn_4 (pc' := 6) rfl ?_
  first | refine rN_irem X dX8_marksIn_6 (pc' := 7) rfl (by omega) (by omega) (by omega) ?_ | refine r_irem X (by decide) dX8_marksIn_6 (pc' := 7) rfl ?_
  exact r_iret X r dX8_marksIn_7 (by omega) (by omega) rfl rfl rfl rfl
set_option maxRecDepth 100000 in
set_option maxHeartbeats 4000000 in
theorem ct_X8_spotIn (P : Px) (n : Nat) (h : hw) (a : Nat) (ha : a < 2 ^ 31) : Ct P MX8_spotIn 0 0 0 [.int (nI a)] n h (some (.int (nI (a % 80)))) n h := by
  refine Ct.of (by decide +kernel) (Nat.le_of_ble_eq_true rfl) rfl (fun K X hnm r => ?_)
  have X : Cx K P RX8 cX8_spotIn 1 0 0 0 := X
  have r : Rt K P (some .int) 0 0 _ _ _ := r
  show Z K P _ _ 0 0 0 [some (.int (nI a))] []
  refine r_iload_n X dX8_spotIn_0 (pc' := 1) rfl rfl ?_
  refine r_bipush (v := nI 80) X (by decide) dX8_spotIn_1 (pc' := 3) rfl ?_
  first | refine rN_irem X dX8_spotIn_3 (pc' := 4) rfl (by omega) (by omega) (by omega) ?_ | refine r_irem X (by decide) dX8_spotIn_3 (pc' := 4) rfl ?_
  exact r_iret X r dX8_spotIn_4 (by omega) (by omega) rfl rfl rfl rfl
set_option maxRecDepth 100000 in
set_option maxHeartbeats 4000000 in
theorem ct_X9_rolesOf (P : Px) (n : Nat) (h : hw) (a : Nat) (ha : a < 2 ^ 31) : Ct P MX9_rolesOf 0 0 0 [.int (nI a)] n h (some (.int (nI (a / 5120)))) n h := by
  refine Ct.of (by decide +kernel) (Nat.le_of_ble_eq_true rfl) rfl (fun K X hnm r => ?_)
  have X : Cx K P RX9 cX9_rolesOf 1 0 0 0 := X
  have r : Rt K P (some .int) 0 0 _ _ _ := r
  show Z K P _ _ 0 0 0 [some (.int (nI a))] []
  refine r_iload_n X dX9_rolesOf_0 (pc' := 1) rfl rfl ?_
  refine r_sipush (v := nI 5120) X (by decide) dX9_rolesOf_1 (pc' := 4) rfl ?_
  first | refine rN_idiv X dX9_rolesOf_4 (pc' := 5) rfl (by omega) (by omega) (by omega) ?_ | refine r_idiv X (by decide) dX9_rolesOf_4 (pc' := 5) rfl ?_
  exact r_iret X r dX9_rolesOf_5 (by omega) (by omega) rfl rfl rfl rfl
