/-! ===== the model's changes ===== -/
noncomputable def pif {α : Sort _} (p : Prop) (a b : α) : α := @ite α p (Classical.propDecidable p) a b
theorem pif_t {α : Sort _} {p : Prop} {a b : α} (h : p) : pif p a b = a := @if_pos p (Classical.propDecidable p) h _ a b
theorem pif_f {α : Sort _} {p : Prop} {a b : α} (h : ¬ p) : pif p a b = b := @if_neg p (Classical.propDecidable p) h _ a b
abbrev tn (x : Int32) : Nat := x.toNatClampNeg
theorem tn_n {k : Nat} (hk : k < 2 ^ 31) : tn (nI k) = k := nI_clamp hk
def fgt (φ : Nat → Nat → Nat) (j a : Nat) : Nat → Nat → Nat := fun k i => if k = 13 ∧ 10000 * j ≤ i ∧ i < 10000 * j + a then 0 else φ k i
theorem fgt_0 (φ : Nat → Nat → Nat) (j : Nat) : fgt φ j 0 = φ := by
  funext k i
  unfold fgt
  rw [if_neg (by omega)]
theorem fgt_s (φ : Nat → Nat → Nat) (j a : Nat) : up2 (fgt φ j a) 13 (10000 * j + a) 0 = fgt φ j (a + 1) := by
  funext k i
  unfold up2 fgt
  by_cases h1 : k = 13
  · subst h1
    by_cases h2 : i = 10000 * j + a
    · subst h2; rw [if_pos ⟨rfl, rfl⟩, if_pos ⟨rfl, by omega, by omega⟩]
    · rw [if_neg (fun q => h2 q.2)]
      by_cases h3 : 10000 * j ≤ i ∧ i < 10000 * j + a
      · rw [if_pos ⟨rfl, h3⟩, if_pos ⟨rfl, by omega⟩]
      · rw [if_neg (fun q => h3 q.2), if_neg (fun q => h3 (by omega))]
  · rw [if_neg (fun q => h1 q.1), if_neg (fun q => h1 q.1), if_neg (fun q => h1 q.1)]
theorem fgt_n {φ : Nat → Nat → Nat} {j a k i : Nat} (h : k ≠ 13) : fgt φ j a k i = φ k i := if_neg (fun q => h q.1)
theorem fgt_le {φ : Nat → Nat → Nat} {j a k i : Nat} : fgt φ j a k i ≤ φ k i := by unfold fgt; split <;> omega
theorem Wf.fgt {ι : Nat → Nat} {φ : Nat → Nat → Nat} (W : Wf ι φ) (j a : Nat) : Wf ι (fgt φ j a) :=
  ⟨W.now, W.inF, W.asks, fun i => Nat.le_trans fgt_le (W.v0 i), fun i => Nat.le_trans fgt_le (W.v1 i), fun i => Nat.le_trans fgt_le (W.v2 i), fun i => Nat.le_trans fgt_le (W.v3 i), fun i => Nat.le_trans fgt_le (W.v4 i), fun i => Nat.le_trans fgt_le (W.v5 i), fun i => Nat.le_trans fgt_le (W.v6 i), fun i => Nat.le_trans fgt_le (W.v7 i), fun i => Nat.lt_of_le_of_lt fgt_le (W.v8 i), fun i => Nat.lt_of_le_of_lt fgt_le (W.v9 i), fun i => Nat.le_trans fgt_le (W.v10 i), fun i => Nat.le_trans fgt_le (W.v11 i), fun i => Nat.le_trans fgt_le (W.v12 i), fun i => Nat.le_trans fgt_le (W.v13 i), fun i => Nat.le_trans fgt_le (W.v14 i), fun i => Nat.le_trans fgt_le (W.v15 i), fun i => Nat.lt_of_le_of_lt fgt_le (W.v18 i)⟩
abbrev fgtA := @fgt
/-- a row's bound: what may be put into a row -/
def bdM (ι : Nat → Nat) (k : Nat) : Nat := match k with
  | 0 => 15 | 1 => 3 | 2 => ι 0 + 1 | 3 => 500 | 4 => 9 | 5 => 3 | 6 => 4 | 7 => 12 | 8 => 159999 | 9 => 159999 | 10 => 2 | 11 => 50 | 12 => 20 | 13 => ι 0 + 1 | 14 => 2 | 15 => 1 | 18 => 81919 | _ => 0
theorem up2_le {φ : Nat → Nat → Nat} {k a x k' i b : Nat} (hφ : φ k' i ≤ b) (hx : k' = k → x ≤ b) : up2 φ k a x k' i ≤ b := by
  unfold up2
  split
  · rename_i q; exact hx q.1
  · exact hφ
theorem Wf.up {ι : Nat → Nat} {φ : Nat → Nat → Nat} (W : Wf ι φ) (k a x : Nat) (hx : k = 16 ∨ k = 17 ∨ k = 19 ∨ k = 20 ∨ x ≤ bdM ι k) : Wf ι (up2 φ k a x) := by
  have hb : ∀ k', k' = k → (k' = 16 ∨ k' = 17 ∨ k' = 19 ∨ k' = 20) ∨ x ≤ bdM ι k' := fun k' e => by subst e; omega
  refine ⟨W.now, W.inF, W.asks, fun i => up2_le (W.v0 i) (fun e => ?_), fun i => up2_le (W.v1 i) (fun e => ?_), fun i => up2_le (W.v2 i) (fun e => ?_), fun i => up2_le (W.v3 i) (fun e => ?_), fun i => up2_le (W.v4 i) (fun e => ?_), fun i => up2_le (W.v5 i) (fun e => ?_), fun i => up2_le (W.v6 i) (fun e => ?_), fun i => up2_le (W.v7 i) (fun e => ?_), fun i => Nat.lt_succ_of_le (up2_le (Nat.le_of_lt_succ (W.v8 i)) (fun e => ?_)), fun i => Nat.lt_succ_of_le (up2_le (Nat.le_of_lt_succ (W.v9 i)) (fun e => ?_)), fun i => up2_le (W.v10 i) (fun e => ?_), fun i => up2_le (W.v11 i) (fun e => ?_), fun i => up2_le (W.v12 i) (fun e => ?_), fun i => up2_le (W.v13 i) (fun e => ?_), fun i => up2_le (W.v14 i) (fun e => ?_), fun i => up2_le (W.v15 i) (fun e => ?_), fun i => Nat.lt_succ_of_le (up2_le (Nat.le_of_lt_succ (W.v18 i)) (fun e => ?_))⟩
  all_goals
    rcases hb _ e with h | h
    · omega
    · simpa [bdM] using h
def chg1 (ι : Nat → Nat) (φ : Nat → Nat → Nat) (j : Nat) : Nat → Nat → Nat := if φ 12 j = 0 then fgt φ j 10000 else up2 φ 15 (5030 * j + ι 0 + φ 12 j) 1
def chg (ι : Nat → Nat) (φ : Nat → Nat → Nat) : Nat → Nat → Nat → Nat
  | 0 => φ
  | j + 1 => chg1 ι (chg ι φ j) j
theorem Wf.chg1 {ι : Nat → Nat} {φ : Nat → Nat → Nat} (W : Wf ι φ) (j : Nat) : Wf ι (chg1 ι φ j) := by
  show Wf ι (if φ 12 j = 0 then fgtA φ j 10000 else up2 φ 15 (5030 * j + ι 0 + φ 12 j) 1)
  split
  · exact W.fgt j 10000
  · exact W.up 15 _ 1 (by simp [bdM])
theorem Wf.chg {ι : Nat → Nat} {φ : Nat → Nat → Nat} (W : Wf ι φ) : ∀ j, Wf ι (chg ι φ j)
  | 0 => W
  | j + 1 => (Wf.chg W j).chg1 j
theorem nv_s (x : Nat) : nI x = nv (x + 1) := by unfold nv; rw [if_neg (by omega), Nat.add_sub_cancel]
theorem nv_0 : (-100000 : Int32) = nv 0 := rfl
set_option maxRecDepth 100000 in
set_option maxHeartbeats 4000000 in
theorem ct_X9_forgets (P : Px) (n : Nat) (hn : 59 ≤ n) (h : hw) (ι : Nat → Nat) (φ : Nat → Nat → Nat) (W : Wf ι φ) (j : Nat) (hj : j < 4) : Ct P MX9_forgets 0 0 0 [.ref (Bs P + 37), .int (nI j)] n (wM P h ι φ) none n (wM P h ι (fgt φ j 10000)) := by
  refine Ct.of (by decide +kernel) (Nat.le_of_ble_eq_true rfl) rfl (fun K X hnm r => ?_)
  have X : Cx K P RX9 cX9_forgets 3 0 0 0 := X
  have r : Rt K P none 0 0 _ _ _ := r
  show Z K P _ _ 0 0 0 [some (.ref (Bs P + 37)), some (.int (nI j)), none] []
  have loop : ∀ (m_ : Nat) (a : Nat), 10000 - a < m_ → (a ≤ 10000) → Z K P n (wM P h ι (fgt φ j a)) 0 0 2 [some (.ref (Bs P + 37)), some (.int (nI j)), some (.int (nI a))] [] := by
    intro m_
    induction m_ with
    | zero => intro a hm_; exact absurd hm_ (Nat.not_lt_zero _)
    | succ m_ ih =>
      intro a hm_ ha
      refine r_iload_n X dX9_forgets_2 (pc' := 3) rfl rfl ?_
      refine r_sipush (v := nI 10000) X (by decide) dX9_forgets_3 (pc' := 6) rfl ?_
      refine rN_icmp_ge X dX9_forgets_6 (tgt := 29) (by decide) (pc' := 9) rfl (by omega) (by omega) (fun c_6 => ?_) (fun c_6 => ?_)
      · exact r_vret X r dX9_forgets_29 (by omega) (by omega) rfl rfl (by rw [show a = 10000 by omega])
      · refine r_aload_n X dX9_forgets_9 (pc' := 10) rfl rfl ?_
        refine r_get X fX9 lf_X9_50 dX9_forgets_10 (pc' := 13) rfl (by decide) (by omega) (wM_e37 _ _ _ _) rfl ?_
        refine r_sipush (v := nI 10000) X (by decide) dX9_forgets_13 (pc' := 16) rfl ?_
        refine r_iload_n X dX9_forgets_16 (pc' := 17) rfl rfl ?_
        first | refine rN_imul X dX9_forgets_17 (pc' := 18) rfl ?_ | refine r_imul X dX9_forgets_17 (pc' := 18) rfl ?_
        refine r_iload_n X dX9_forgets_18 (pc' := 19) rfl rfl ?_
        first | refine rN_iadd X dX9_forgets_19 (pc' := 20) rfl ?_ | refine r_iadd X dX9_forgets_19 (pc' := 20) rfl ?_
        refine r_ldc X lk_X9_75 dX9_forgets_20 (pc' := 22) rfl ?_
        rw [nv_0]
        refine r_iast X dX9_forgets_22 (pc' := 23) rfl (by omega) (wM_e51 _ _ _ _) (by omega) (by omega) ?_
        rw [wM_s51]
        rw [fgt_s]
        refine r_iincN (vs' := [_, _, _]) X dX9_forgets_23 (pc' := 26) rfl (by decide) rfl rfl ?_
        refine r_goto (tgt := 2) X dX9_forgets_26 (by decide) ?_
        exact ih (a + 1) (by omega) (by omega)
  refine r_iconst (v := nI 0) X (by decide) dX9_forgets_0 (pc' := 1) rfl ?_
  refine r_istore_n (vs' := [_, _, _]) X dX9_forgets_1 (pc' := 2) rfl (by decide) rfl ?_
  have l0 := loop _ 0 (Nat.lt_succ_self _) (Nat.zero_le _)
  rw [fgt_0] at l0
  exact l0
set_option maxRecDepth 100000 in
set_option maxHeartbeats 4000000 in
theorem ct_X9_changes (P : Px) (n : Nat) (hn : 59 ≤ n) (h : hw) (ι : Nat → Nat) (φ : Nat → Nat → Nat) (W : Wf ι φ)  : Ct P MX9_changes 1 0 0 [.ref (Bs P + 37)] n (wM P h ι φ) none n (wM P h ι (chg ι φ 4)) := by
  refine Ct.of (by decide +kernel) (Nat.le_of_ble_eq_true rfl) rfl (fun K X hnm r => ?_)
  have X : Cx K P RX9 cX9_changes 2 1 0 0 := X
  have r : Rt K P none 0 0 _ _ _ := r
  show Z K P _ _ 0 0 0 [some (.ref (Bs P + 37)), none] []
  have loop : ∀ (m_ : Nat) (j : Nat), 4 - j < m_ → (j ≤ 4) → (Wf ι (chg ι φ j)) → Z K P n (wM P h ι (chg ι φ j)) 0 0 2 [some (.ref (Bs P + 37)), some (.int (nI j))] [] := by
    intro m_
    induction m_ with
    | zero => intro j hm_; exact absurd hm_ (Nat.not_lt_zero _)
    | succ m_ ih =>
      intro j hm_ hj W
      refine r_iload_n X dX9_changes_2 (pc' := 3) rfl rfl ?_
      refine r_iconst (v := nI 4) X (by decide) dX9_changes_3 (pc' := 4) rfl ?_
      refine rN_icmp_ge X dX9_changes_4 (tgt := 53) (by decide) (pc' := 7) rfl (by omega) (by omega) (fun c_4 => ?_) (fun c_4 => ?_)
      · exact r_vret X r dX9_changes_53 (by omega) (by omega) rfl rfl (by rw [show j = 4 by omega])
      · refine r_aload_n X dX9_changes_7 (pc' := 8) rfl rfl ?_
        refine r_get X fX9 lf_X9_46 dX9_changes_8 (pc' := 11) rfl (by decide) (by omega) (wM_e37 _ _ _ _) rfl ?_
        refine r_iload_n X dX9_changes_11 (pc' := 12) rfl rfl ?_
        refine r_iald X dX9_changes_12 (pc' := 13) rfl (by omega) (wM_e50 _ _ _ _) (by omega) (by omega) ?_
        have bw := W.v12 j
        have bn := W.now
        refine rN_if_ne X dX9_changes_13 (tgt := 24) (by decide) (pc' := 16) rfl (by omega) (fun c_13 => ?_) (fun c_13 => ?_)
        · refine r_aload_n X dX9_changes_24 (pc' := 25) rfl rfl ?_
          refine r_get X fX9 lf_X9_56 dX9_changes_25 (pc' := 28) rfl (by decide) (by omega) (wM_e37 _ _ _ _) rfl ?_
          refine r_sipush (v := nI 5030) X (by decide) dX9_changes_28 (pc' := 31) rfl ?_
          refine r_iload_n X dX9_changes_31 (pc' := 32) rfl rfl ?_
          first | refine rN_imul X dX9_changes_32 (pc' := 33) rfl ?_ | refine r_imul X dX9_changes_32 (pc' := 33) rfl ?_
          refine r_aload_n X dX9_changes_33 (pc' := 34) rfl rfl ?_
          refine r_get X fX9 lf_X9_84 dX9_changes_34 (pc' := 37) rfl (by decide) (by omega) (wM_e37 _ _ _ _) rfl ?_
          first | refine rN_iadd X dX9_changes_37 (pc' := 38) rfl ?_ | refine r_iadd X dX9_changes_37 (pc' := 38) rfl ?_
          refine r_aload_n X dX9_changes_38 (pc' := 39) rfl rfl ?_
          refine r_get X fX9 lf_X9_46 dX9_changes_39 (pc' := 42) rfl (by decide) (by omega) (wM_e37 _ _ _ _) rfl ?_
          refine r_iload_n X dX9_changes_42 (pc' := 43) rfl rfl ?_
          refine r_iald X dX9_changes_43 (pc' := 44) rfl (by omega) (wM_e50 _ _ _ _) (by omega) (by omega) ?_
          first | refine rN_iadd X dX9_changes_44 (pc' := 45) rfl ?_ | refine r_iadd X dX9_changes_44 (pc' := 45) rfl ?_
          refine r_iconst (v := nI 1) X (by decide) dX9_changes_45 (pc' := 46) rfl ?_
          refine r_zast X dX9_changes_46 (pc' := 47) rfl rfl (by omega) (wM_e53 _ _ _ _) (by omega) (by omega) ?_
          rw [wM_s53]
          try rw [show up2 (chg ι φ j) 15 (5030 * j + ι 0 + chg ι φ j 12 j) 1 = chg ι φ (j + 1) by show _ = chg1 ι _ j; unfold chg1; rw [if_neg c_13]]
          refine r_iincN (vs' := [_, _]) X dX9_changes_47 (pc' := 50) rfl (by decide) rfl rfl ?_
          refine r_goto (tgt := 2) X dX9_changes_50 (by decide) ?_
          exact ih (j + 1) (by omega) (by omega) (W.chg1 j)
        · refine r_aload_n X dX9_changes_16 (pc' := 17) rfl rfl ?_
          refine r_iload_n X dX9_changes_17 (pc' := 18) rfl rfl ?_
          refine r_callV (As := [_]) X okX9_forgets lm_X9_76 dX9_changes_18 (pc' := 21) rfl (ct_X9_forgets P n hn h ι _ W j (by omega)) (by omega) (wM_e37 _ _ _ _) rfl rfl rfl rfl (Nat.le_of_ble_eq_true rfl) (by omega) (by omega) (by omega) ?_
          dsimp only [Option.toList, List.cons_append, List.nil_append]
          rw [show fgt (chg ι φ j) j 10000 = chg ι φ (j + 1) by show _ = chg1 ι _ j; unfold chg1; rw [if_pos c_13]]
          refine r_goto (tgt := 47) X dX9_changes_21 (by decide) ?_
          try rw [show up2 (chg ι φ j) 15 (5030 * j + ι 0 + chg ι φ j 12 j) 1 = chg ι φ (j + 1) by show _ = chg1 ι _ j; unfold chg1; rw [if_neg c_13]]
          refine r_iincN (vs' := [_, _]) X dX9_changes_47 (pc' := 50) rfl (by decide) rfl rfl ?_
          refine r_goto (tgt := 2) X dX9_changes_50 (by decide) ?_
          exact ih (j + 1) (by omega) (by omega) (W.chg1 j)
  refine r_iconst (v := nI 0) X (by decide) dX9_changes_0 (pc' := 1) rfl ?_
  refine r_istore_n (vs' := [_, _]) X dX9_changes_1 (pc' := 2) rfl (by decide) rfl ?_
  exact loop _ 0 (Nat.lt_succ_self _) (Nat.zero_le _) W
/-- three checks -/
def ok2 (x y : Int32) (a b : Nat) : Bool := inQ x (nI a) && inQ y (nI b)
def ok3 (x y z : Int32) (a b c : Nat) : Bool := inQ x (nI a) && inQ y (nI b) && inQ z (nI c)
theorem ok2_of {x y : Int32} {a b : Nat} (h : ok2 x y a b = true) : inQ x (nI a) = true ∧ inQ y (nI b) = true := by simpa [ok2] using h
theorem ok3_of {x y z : Int32} {a b c : Nat} (h : ok3 x y z a b c = true) : inQ x (nI a) = true ∧ inQ y (nI b) = true ∧ inQ z (nI c) = true := by simpa [ok3, and_assoc] using h
noncomputable def sRoles (ι : Nat → Nat) (φ : Nat → Nat → Nat) (x y : Int32) : Nat → Nat → Nat := pif (ok2 x y 9 15 = true) (chg ι (up2 φ 0 (tn x) (tn y)) 4) φ
noncomputable def sMark (ι : Nat → Nat) (φ : Nat → Nat → Nat) (x y z : Int32) : Nat → Nat → Nat := pif (ok3 x y z 9 2 3 = true) (chg ι (up2 (up2 φ 1 (10 * tn y + tn x) (tn z)) 2 (10 * tn y + tn x) (ι 0 + 1)) 4) φ
noncomputable def sThing (ι : Nat → Nat) (φ : Nat → Nat → Nat) (x y z : Int32) : Nat → Nat → Nat := pif (ok3 x y z 9 3 4 = true) (chg ι (up2 (up2 φ 5 (tn x) (tn y)) 6 (tn x) (tn z)) 4) φ
noncomputable def sSort (ι : Nat → Nat) (φ : Nat → Nat → Nat) (x y z : Int32) : Nat → Nat → Nat := pif (ok3 x y z 2 500 9 = true) (chg ι (up2 (up2 φ 3 (tn x) (tn y)) 4 (tn x) (tn z)) 4) φ
noncomputable def sJudge (φ : Nat → Nat → Nat) (x y z : Int32) : Nat → Nat → Nat := pif (ok3 x y z 3 50 20 = true) (up2 (up2 φ 11 (tn x) (tn y)) 12 (tn x) (tn z)) φ
set_option maxRecDepth 100000 in
set_option maxHeartbeats 4000000 in
theorem ct_X9_roles (P : Px) (n : Nat) (hn : 59 ≤ n) (h : hw) (ι : Nat → Nat) (φ : Nat → Nat → Nat) (W : Wf ι φ) (x y : Int32) : Ct P MX9_roles 2 0 0 [.ref (Bs P + 37), .int x, .int y] n (wM P h ι φ) (some (.int (bI (ok2 x y 9 15)))) n (wM P h ι (sRoles ι φ x y)) := by
  refine Ct.of (by decide +kernel) (Nat.le_of_ble_eq_true rfl) rfl (fun K X hnm r => ?_)
  have X : Cx K P RX9 cX9_roles 3 2 0 0 := X
  have r : Rt K P (some .boolean) 0 0 _ _ _ := r
  show Z K P _ _ 0 0 0 [some (.ref (Bs P + 37)), some (.int x), some (.int y)] []
  refine r_iload_n X dX9_roles_0 (pc' := 1) rfl rfl ?_
  refine r_callS (As := [_]) X okX9_isOne lm_X9_88 dX9_roles_1 (pc' := 4) rfl (ct_X9_isOne P n _ _) rfl rfl (Nat.le_of_ble_eq_true rfl) (by omega) (by omega) (by omega) ?_
  dsimp only [Option.toList, List.cons_append, List.nil_append]
  refine rB_if_eq X dX9_roles_4 (tgt := 17) (by decide) (pc' := 7) rfl (fun c_4 => ?_) (fun c_4 => ?_)
  · refine r_iconst (v := nI 0) X (by decide) dX9_roles_17 (pc' := 18) rfl ?_
    exact r_iret X r dX9_roles_18 (by omega) (by omega) rfl (hvF (show ok2 _ _ 9 15 = false by simp only [ok2]; first | simp only [show inQ _ _ = _ from c_4, show inQ _ _ = _ from c_14, Bool.and_false, Bool.false_and, Bool.and_true, Bool.true_and, Bool.and_self] | simp only [show inQ _ _ = _ from c_4, Bool.and_false, Bool.false_and, Bool.and_true, Bool.true_and, Bool.and_self])) rfl (by unfold sRoles; rw [pif_f (by rw [(show ok2 _ _ 9 15 = false by simp only [ok2]; first | simp only [show inQ _ _ = _ from c_4, show inQ _ _ = _ from c_14, Bool.and_false, Bool.false_and, Bool.and_true, Bool.true_and, Bool.and_self] | simp only [show inQ _ _ = _ from c_4, Bool.and_false, Bool.false_and, Bool.and_true, Bool.true_and, Bool.and_self])]; decide)])
  · obtain ⟨x0, hx, rfl⟩ := inQ_of (by decide) (show inQ x (nI 9) = true from c_4)
    refine r_iload_n X dX9_roles_7 (pc' := 8) rfl rfl ?_
    refine r_iconst (v := nI 0) X (by decide) dX9_roles_8 (pc' := 9) rfl ?_
    refine r_bipush (v := nI 15) X (by decide) dX9_roles_9 (pc' := 11) rfl ?_
    refine r_callS (As := [_, _, _]) X okX9_in lm_X9_80 dX9_roles_11 (pc' := 14) rfl (ct_X9_in P n _ _ _ _) rfl rfl (Nat.le_of_ble_eq_true rfl) (by omega) (by omega) (by omega) ?_
    dsimp only [Option.toList, List.cons_append, List.nil_append]
    refine rB_if_ne X dX9_roles_14 (tgt := 19) (by decide) (pc' := 17) rfl (fun c_14 => ?_) (fun c_14 => ?_)
    · obtain ⟨y0, hy, rfl⟩ := inQ_of (by decide) (show inQ y (nI 15) = true from c_14)
      refine r_aload_n X dX9_roles_19 (pc' := 20) rfl rfl ?_
      refine r_get X fX9 lf_X9_9 dX9_roles_20 (pc' := 23) rfl (by decide) (by omega) (wM_e37 _ _ _ _) rfl ?_
      refine r_iload_n X dX9_roles_23 (pc' := 24) rfl rfl ?_
      refine r_iload_n X dX9_roles_24 (pc' := 25) rfl rfl ?_
      refine r_iast X dX9_roles_25 (pc' := 26) rfl (by omega) (wM_e38 _ _ _ _) (by omega) (by omega) ?_
      rw [wM_s38]
      refine r_aload_n X dX9_roles_26 (pc' := 27) rfl rfl ?_
      refine r_callV (As := []) X okX9_changes lm_X9_92 dX9_roles_27 (pc' := 30) rfl (ct_X9_changes P n hn h ι _ (W.up 0 _ _ (by simp [bdM]; omega))) (by omega) (wM_e37 _ _ _ _) rfl rfl rfl rfl (Nat.le_of_ble_eq_true rfl) (by omega) (by omega) (by omega) ?_
      dsimp only [Option.toList, List.cons_append, List.nil_append]
      refine r_iconst (v := nI 1) X (by decide) dX9_roles_30 (pc' := 31) rfl ?_
      exact r_iret X r dX9_roles_31 (by omega) (by omega) rfl (hvT (show ok2 _ _ 9 15 = true by simp only [ok2]; first | simp only [show inQ _ _ = _ from c_4, show inQ _ _ = _ from c_14, Bool.and_false, Bool.false_and, Bool.and_true, Bool.true_and, Bool.and_self] | simp only [show inQ _ _ = _ from c_4, Bool.and_false, Bool.false_and, Bool.and_true, Bool.true_and, Bool.and_self])) rfl (by unfold sRoles; rw [pif_t (show ok2 _ _ 9 15 = true by simp only [ok2]; first | simp only [show inQ _ _ = _ from c_4, show inQ _ _ = _ from c_14, Bool.and_false, Bool.false_and, Bool.and_true, Bool.true_and, Bool.and_self] | simp only [show inQ _ _ = _ from c_4, Bool.and_false, Bool.false_and, Bool.and_true, Bool.true_and, Bool.and_self]), tn_n (show x0 < 2 ^ 31 by omega), tn_n (show y0 < 2 ^ 31 by omega)])
    · refine r_iconst (v := nI 0) X (by decide) dX9_roles_17 (pc' := 18) rfl ?_
      exact r_iret X r dX9_roles_18 (by omega) (by omega) rfl (hvF (show ok2 _ _ 9 15 = false by simp only [ok2]; first | simp only [show inQ _ _ = _ from c_4, show inQ _ _ = _ from c_14, Bool.and_false, Bool.false_and, Bool.and_true, Bool.true_and, Bool.and_self] | simp only [show inQ _ _ = _ from c_4, Bool.and_false, Bool.false_and, Bool.and_true, Bool.true_and, Bool.and_self])) rfl (by unfold sRoles; rw [pif_f (by rw [(show ok2 _ _ 9 15 = false by simp only [ok2]; first | simp only [show inQ _ _ = _ from c_4, show inQ _ _ = _ from c_14, Bool.and_false, Bool.false_and, Bool.and_true, Bool.true_and, Bool.and_self] | simp only [show inQ _ _ = _ from c_4, Bool.and_false, Bool.false_and, Bool.and_true, Bool.true_and, Bool.and_self])]; decide)])
set_option maxRecDepth 100000 in
set_option maxHeartbeats 4000000 in
theorem ct_X9_mark (P : Px) (n : Nat) (hn : 59 ≤ n) (h : hw) (ι : Nat → Nat) (φ : Nat → Nat → Nat) (W : Wf ι φ) (x y z : Int32) : Ct P MX9_mark 2 0 0 [.ref (Bs P + 37), .int x, .int y, .int z] n (wM P h ι φ) (some (.int (bI (ok3 x y z 9 2 3)))) n (wM P h ι (sMark ι φ x y z)) := by
  refine Ct.of (by decide +kernel) (Nat.le_of_ble_eq_true rfl) rfl (fun K X hnm r => ?_)
  have X : Cx K P RX9 cX9_mark 4 2 0 0 := X
  have r : Rt K P (some .boolean) 0 0 _ _ _ := r
  show Z K P _ _ 0 0 0 [some (.ref (Bs P + 37)), some (.int x), some (.int y), some (.int z)] []
  refine r_iload_n X dX9_mark_0 (pc' := 1) rfl rfl ?_
  refine r_callS (As := [_]) X okX9_isOne lm_X9_88 dX9_mark_1 (pc' := 4) rfl (ct_X9_isOne P n _ _) rfl rfl (Nat.le_of_ble_eq_true rfl) (by omega) (by omega) (by omega) ?_
  dsimp only [Option.toList, List.cons_append, List.nil_append]
  refine rB_if_eq X dX9_mark_4 (tgt := 25) (by decide) (pc' := 7) rfl (fun c_4 => ?_) (fun c_4 => ?_)
  · refine r_iconst (v := nI 0) X (by decide) dX9_mark_25 (pc' := 26) rfl ?_
    exact r_iret X r dX9_mark_26 (by omega) (by omega) rfl (hvF (show ok3 _ _ _ 9 2 3 = false by simp only [ok3]; first | simp only [show inQ _ _ = _ from c_4, show inQ _ _ = _ from c_13, show inQ _ _ = _ from c_22, Bool.and_false, Bool.false_and, Bool.and_true, Bool.true_and, Bool.and_self] | simp only [show inQ _ _ = _ from c_4, show inQ _ _ = _ from c_13, Bool.and_false, Bool.false_and, Bool.and_true, Bool.true_and, Bool.and_self] | simp only [show inQ _ _ = _ from c_4, Bool.and_false, Bool.false_and, Bool.and_true, Bool.true_and, Bool.and_self])) rfl (by unfold sMark; rw [pif_f (by rw [(show ok3 _ _ _ 9 2 3 = false by simp only [ok3]; first | simp only [show inQ _ _ = _ from c_4, show inQ _ _ = _ from c_13, show inQ _ _ = _ from c_22, Bool.and_false, Bool.false_and, Bool.and_true, Bool.true_and, Bool.and_self] | simp only [show inQ _ _ = _ from c_4, show inQ _ _ = _ from c_13, Bool.and_false, Bool.false_and, Bool.and_true, Bool.true_and, Bool.and_self] | simp only [show inQ _ _ = _ from c_4, Bool.and_false, Bool.false_and, Bool.and_true, Bool.true_and, Bool.and_self])]; decide)])
  · obtain ⟨x0, hx, rfl⟩ := inQ_of (by decide) (show inQ x (nI 9) = true from c_4)
    refine r_iload_n X dX9_mark_7 (pc' := 8) rfl rfl ?_
    refine r_iconst (v := nI 0) X (by decide) dX9_mark_8 (pc' := 9) rfl ?_
    refine r_iconst (v := nI 2) X (by decide) dX9_mark_9 (pc' := 10) rfl ?_
    refine r_callS (As := [_, _, _]) X okX9_in lm_X9_80 dX9_mark_10 (pc' := 13) rfl (ct_X9_in P n _ _ _ _) rfl rfl (Nat.le_of_ble_eq_true rfl) (by omega) (by omega) (by omega) ?_
    dsimp only [Option.toList, List.cons_append, List.nil_append]
    refine rB_if_eq X dX9_mark_13 (tgt := 25) (by decide) (pc' := 16) rfl (fun c_13 => ?_) (fun c_13 => ?_)
    · refine r_iconst (v := nI 0) X (by decide) dX9_mark_25 (pc' := 26) rfl ?_
      exact r_iret X r dX9_mark_26 (by omega) (by omega) rfl (hvF (show ok3 _ _ _ 9 2 3 = false by simp only [ok3]; first | simp only [show inQ _ _ = _ from c_4, show inQ _ _ = _ from c_13, show inQ _ _ = _ from c_22, Bool.and_false, Bool.false_and, Bool.and_true, Bool.true_and, Bool.and_self] | simp only [show inQ _ _ = _ from c_4, show inQ _ _ = _ from c_13, Bool.and_false, Bool.false_and, Bool.and_true, Bool.true_and, Bool.and_self] | simp only [show inQ _ _ = _ from c_4, Bool.and_false, Bool.false_and, Bool.and_true, Bool.true_and, Bool.and_self])) rfl (by unfold sMark; rw [pif_f (by rw [(show ok3 _ _ _ 9 2 3 = false by simp only [ok3]; first | simp only [show inQ _ _ = _ from c_4, show inQ _ _ = _ from c_13, show inQ _ _ = _ from c_22, Bool.and_false, Bool.false_and, Bool.and_true, Bool.true_and, Bool.and_self] | simp only [show inQ _ _ = _ from c_4, show inQ _ _ = _ from c_13, Bool.and_false, Bool.false_and, Bool.and_true, Bool.true_and, Bool.and_self] | simp only [show inQ _ _ = _ from c_4, Bool.and_false, Bool.false_and, Bool.and_true, Bool.true_and, Bool.and_self])]; decide)])
    · obtain ⟨y0, hy, rfl⟩ := inQ_of (by decide) (show inQ y (nI 2) = true from c_13)
      refine r_iload_n X dX9_mark_16 (pc' := 17) rfl rfl ?_
      refine r_iconst (v := nI 0) X (by decide) dX9_mark_17 (pc' := 18) rfl ?_
      refine r_iconst (v := nI 3) X (by decide) dX9_mark_18 (pc' := 19) rfl ?_
      refine r_callS (As := [_, _, _]) X okX9_in lm_X9_80 dX9_mark_19 (pc' := 22) rfl (ct_X9_in P n _ _ _ _) rfl rfl (Nat.le_of_ble_eq_true rfl) (by omega) (by omega) (by omega) ?_
      dsimp only [Option.toList, List.cons_append, List.nil_append]
      refine rB_if_ne X dX9_mark_22 (tgt := 27) (by decide) (pc' := 25) rfl (fun c_22 => ?_) (fun c_22 => ?_)
      · obtain ⟨z0, hz, rfl⟩ := inQ_of (by decide) (show inQ z (nI 3) = true from c_22)
        refine r_aload_n X dX9_mark_27 (pc' := 28) rfl rfl ?_
        refine r_get X fX9 lf_X9_13 dX9_mark_28 (pc' := 31) rfl (by decide) (by omega) (wM_e37 _ _ _ _) rfl ?_
        refine r_bipush (v := nI 10) X (by decide) dX9_mark_31 (pc' := 33) rfl ?_
        refine r_iload_n X dX9_mark_33 (pc' := 34) rfl rfl ?_
        first | refine rN_imul X dX9_mark_34 (pc' := 35) rfl ?_ | refine r_imul X dX9_mark_34 (pc' := 35) rfl ?_
        refine r_iload_n X dX9_mark_35 (pc' := 36) rfl rfl ?_
        first | refine rN_iadd X dX9_mark_36 (pc' := 37) rfl ?_ | refine r_iadd X dX9_mark_36 (pc' := 37) rfl ?_
        refine r_iload_n X dX9_mark_37 (pc' := 38) rfl rfl ?_
        refine r_iast X dX9_mark_38 (pc' := 39) rfl (by omega) (wM_e39 _ _ _ _) (by omega) (by omega) ?_
        rw [wM_s39]
        refine r_aload_n X dX9_mark_39 (pc' := 40) rfl rfl ?_
        refine r_get X fX9 lf_X9_16 dX9_mark_40 (pc' := 43) rfl (by decide) (by omega) (wM_e37 _ _ _ _) rfl ?_
        refine r_bipush (v := nI 10) X (by decide) dX9_mark_43 (pc' := 45) rfl ?_
        refine r_iload_n X dX9_mark_45 (pc' := 46) rfl rfl ?_
        first | refine rN_imul X dX9_mark_46 (pc' := 47) rfl ?_ | refine r_imul X dX9_mark_46 (pc' := 47) rfl ?_
        refine r_iload_n X dX9_mark_47 (pc' := 48) rfl rfl ?_
        first | refine rN_iadd X dX9_mark_48 (pc' := 49) rfl ?_ | refine r_iadd X dX9_mark_48 (pc' := 49) rfl ?_
        refine r_aload_n X dX9_mark_49 (pc' := 50) rfl rfl ?_
        refine r_get X fX9 lf_X9_84 dX9_mark_50 (pc' := 53) rfl (by decide) (by omega) (wM_e37 _ _ _ _) rfl ?_
        rw [nv_s (ι 0)]
        refine r_iast X dX9_mark_53 (pc' := 54) rfl (by omega) (wM_e40 _ _ _ _) (by omega) (by omega) ?_
        rw [wM_s40]
        refine r_aload_n X dX9_mark_54 (pc' := 55) rfl rfl ?_
        refine r_callV (As := []) X okX9_changes lm_X9_92 dX9_mark_55 (pc' := 58) rfl (ct_X9_changes P n hn h ι _ ((W.up 1 _ _ (by simp [bdM]; omega)).up 2 _ _ (by simp [bdM]))) (by omega) (wM_e37 _ _ _ _) rfl rfl rfl rfl (Nat.le_of_ble_eq_true rfl) (by omega) (by omega) (by omega) ?_
        dsimp only [Option.toList, List.cons_append, List.nil_append]
        refine r_iconst (v := nI 1) X (by decide) dX9_mark_58 (pc' := 59) rfl ?_
        exact r_iret X r dX9_mark_59 (by omega) (by omega) rfl (hvT (show ok3 _ _ _ 9 2 3 = true by simp only [ok3]; first | simp only [show inQ _ _ = _ from c_4, show inQ _ _ = _ from c_13, show inQ _ _ = _ from c_22, Bool.and_false, Bool.false_and, Bool.and_true, Bool.true_and, Bool.and_self] | simp only [show inQ _ _ = _ from c_4, show inQ _ _ = _ from c_13, Bool.and_false, Bool.false_and, Bool.and_true, Bool.true_and, Bool.and_self] | simp only [show inQ _ _ = _ from c_4, Bool.and_false, Bool.false_and, Bool.and_true, Bool.true_and, Bool.and_self])) rfl (by unfold sMark; rw [pif_t (show ok3 _ _ _ 9 2 3 = true by simp only [ok3]; first | simp only [show inQ _ _ = _ from c_4, show inQ _ _ = _ from c_13, show inQ _ _ = _ from c_22, Bool.and_false, Bool.false_and, Bool.and_true, Bool.true_and, Bool.and_self] | simp only [show inQ _ _ = _ from c_4, show inQ _ _ = _ from c_13, Bool.and_false, Bool.false_and, Bool.and_true, Bool.true_and, Bool.and_self] | simp only [show inQ _ _ = _ from c_4, Bool.and_false, Bool.false_and, Bool.and_true, Bool.true_and, Bool.and_self]), tn_n (show x0 < 2 ^ 31 by omega), tn_n (show y0 < 2 ^ 31 by omega), tn_n (show z0 < 2 ^ 31 by omega)])
      · refine r_iconst (v := nI 0) X (by decide) dX9_mark_25 (pc' := 26) rfl ?_
        exact r_iret X r dX9_mark_26 (by omega) (by omega) rfl (hvF (show ok3 _ _ _ 9 2 3 = false by simp only [ok3]; first | simp only [show inQ _ _ = _ from c_4, show inQ _ _ = _ from c_13, show inQ _ _ = _ from c_22, Bool.and_false, Bool.false_and, Bool.and_true, Bool.true_and, Bool.and_self] | simp only [show inQ _ _ = _ from c_4, show inQ _ _ = _ from c_13, Bool.and_false, Bool.false_and, Bool.and_true, Bool.true_and, Bool.and_self] | simp only [show inQ _ _ = _ from c_4, Bool.and_false, Bool.false_and, Bool.and_true, Bool.true_and, Bool.and_self])) rfl (by unfold sMark; rw [pif_f (by rw [(show ok3 _ _ _ 9 2 3 = false by simp only [ok3]; first | simp only [show inQ _ _ = _ from c_4, show inQ _ _ = _ from c_13, show inQ _ _ = _ from c_22, Bool.and_false, Bool.false_and, Bool.and_true, Bool.true_and, Bool.and_self] | simp only [show inQ _ _ = _ from c_4, show inQ _ _ = _ from c_13, Bool.and_false, Bool.false_and, Bool.and_true, Bool.true_and, Bool.and_self] | simp only [show inQ _ _ = _ from c_4, Bool.and_false, Bool.false_and, Bool.and_true, Bool.true_and, Bool.and_self])]; decide)])
set_option maxRecDepth 100000 in
set_option maxHeartbeats 4000000 in
theorem ct_X9_thing (P : Px) (n : Nat) (hn : 59 ≤ n) (h : hw) (ι : Nat → Nat) (φ : Nat → Nat → Nat) (W : Wf ι φ) (x y z : Int32) : Ct P MX9_thing 2 0 0 [.ref (Bs P + 37), .int x, .int y, .int z] n (wM P h ι φ) (some (.int (bI (ok3 x y z 9 3 4)))) n (wM P h ι (sThing ι φ x y z)) := by
  refine Ct.of (by decide +kernel) (Nat.le_of_ble_eq_true rfl) rfl (fun K X hnm r => ?_)
  have X : Cx K P RX9 cX9_thing 4 2 0 0 := X
  have r : Rt K P (some .boolean) 0 0 _ _ _ := r
  show Z K P _ _ 0 0 0 [some (.ref (Bs P + 37)), some (.int x), some (.int y), some (.int z)] []
  refine r_iload_n X dX9_thing_0 (pc' := 1) rfl rfl ?_
  refine r_callS (As := [_]) X okX9_isOne lm_X9_88 dX9_thing_1 (pc' := 4) rfl (ct_X9_isOne P n _ _) rfl rfl (Nat.le_of_ble_eq_true rfl) (by omega) (by omega) (by omega) ?_
  dsimp only [Option.toList, List.cons_append, List.nil_append]
  refine rB_if_eq X dX9_thing_4 (tgt := 25) (by decide) (pc' := 7) rfl (fun c_4 => ?_) (fun c_4 => ?_)
  · refine r_iconst (v := nI 0) X (by decide) dX9_thing_25 (pc' := 26) rfl ?_
    exact r_iret X r dX9_thing_26 (by omega) (by omega) rfl (hvF (show ok3 _ _ _ 9 3 4 = false by simp only [ok3]; first | simp only [show inQ _ _ = _ from c_4, show inQ _ _ = _ from c_13, show inQ _ _ = _ from c_22, Bool.and_false, Bool.false_and, Bool.and_true, Bool.true_and, Bool.and_self] | simp only [show inQ _ _ = _ from c_4, show inQ _ _ = _ from c_13, Bool.and_false, Bool.false_and, Bool.and_true, Bool.true_and, Bool.and_self] | simp only [show inQ _ _ = _ from c_4, Bool.and_false, Bool.false_and, Bool.and_true, Bool.true_and, Bool.and_self])) rfl (by unfold sThing; rw [pif_f (by rw [(show ok3 _ _ _ 9 3 4 = false by simp only [ok3]; first | simp only [show inQ _ _ = _ from c_4, show inQ _ _ = _ from c_13, show inQ _ _ = _ from c_22, Bool.and_false, Bool.false_and, Bool.and_true, Bool.true_and, Bool.and_self] | simp only [show inQ _ _ = _ from c_4, show inQ _ _ = _ from c_13, Bool.and_false, Bool.false_and, Bool.and_true, Bool.true_and, Bool.and_self] | simp only [show inQ _ _ = _ from c_4, Bool.and_false, Bool.false_and, Bool.and_true, Bool.true_and, Bool.and_self])]; decide)])
  · obtain ⟨x0, hx, rfl⟩ := inQ_of (by decide) (show inQ x (nI 9) = true from c_4)
    refine r_iload_n X dX9_thing_7 (pc' := 8) rfl rfl ?_
    refine r_iconst (v := nI 0) X (by decide) dX9_thing_8 (pc' := 9) rfl ?_
    refine r_iconst (v := nI 3) X (by decide) dX9_thing_9 (pc' := 10) rfl ?_
    refine r_callS (As := [_, _, _]) X okX9_in lm_X9_80 dX9_thing_10 (pc' := 13) rfl (ct_X9_in P n _ _ _ _) rfl rfl (Nat.le_of_ble_eq_true rfl) (by omega) (by omega) (by omega) ?_
    dsimp only [Option.toList, List.cons_append, List.nil_append]
    refine rB_if_eq X dX9_thing_13 (tgt := 25) (by decide) (pc' := 16) rfl (fun c_13 => ?_) (fun c_13 => ?_)
    · refine r_iconst (v := nI 0) X (by decide) dX9_thing_25 (pc' := 26) rfl ?_
      exact r_iret X r dX9_thing_26 (by omega) (by omega) rfl (hvF (show ok3 _ _ _ 9 3 4 = false by simp only [ok3]; first | simp only [show inQ _ _ = _ from c_4, show inQ _ _ = _ from c_13, show inQ _ _ = _ from c_22, Bool.and_false, Bool.false_and, Bool.and_true, Bool.true_and, Bool.and_self] | simp only [show inQ _ _ = _ from c_4, show inQ _ _ = _ from c_13, Bool.and_false, Bool.false_and, Bool.and_true, Bool.true_and, Bool.and_self] | simp only [show inQ _ _ = _ from c_4, Bool.and_false, Bool.false_and, Bool.and_true, Bool.true_and, Bool.and_self])) rfl (by unfold sThing; rw [pif_f (by rw [(show ok3 _ _ _ 9 3 4 = false by simp only [ok3]; first | simp only [show inQ _ _ = _ from c_4, show inQ _ _ = _ from c_13, show inQ _ _ = _ from c_22, Bool.and_false, Bool.false_and, Bool.and_true, Bool.true_and, Bool.and_self] | simp only [show inQ _ _ = _ from c_4, show inQ _ _ = _ from c_13, Bool.and_false, Bool.false_and, Bool.and_true, Bool.true_and, Bool.and_self] | simp only [show inQ _ _ = _ from c_4, Bool.and_false, Bool.false_and, Bool.and_true, Bool.true_and, Bool.and_self])]; decide)])
    · obtain ⟨y0, hy, rfl⟩ := inQ_of (by decide) (show inQ y (nI 3) = true from c_13)
      refine r_iload_n X dX9_thing_16 (pc' := 17) rfl rfl ?_
      refine r_iconst (v := nI 0) X (by decide) dX9_thing_17 (pc' := 18) rfl ?_
      refine r_iconst (v := nI 4) X (by decide) dX9_thing_18 (pc' := 19) rfl ?_
      refine r_callS (As := [_, _, _]) X okX9_in lm_X9_80 dX9_thing_19 (pc' := 22) rfl (ct_X9_in P n _ _ _ _) rfl rfl (Nat.le_of_ble_eq_true rfl) (by omega) (by omega) (by omega) ?_
      dsimp only [Option.toList, List.cons_append, List.nil_append]
      refine rB_if_ne X dX9_thing_22 (tgt := 27) (by decide) (pc' := 25) rfl (fun c_22 => ?_) (fun c_22 => ?_)
      · obtain ⟨z0, hz, rfl⟩ := inQ_of (by decide) (show inQ z (nI 4) = true from c_22)
        refine r_aload_n X dX9_thing_27 (pc' := 28) rfl rfl ?_
        refine r_get X fX9 lf_X9_25 dX9_thing_28 (pc' := 31) rfl (by decide) (by omega) (wM_e37 _ _ _ _) rfl ?_
        refine r_iload_n X dX9_thing_31 (pc' := 32) rfl rfl ?_
        refine r_iload_n X dX9_thing_32 (pc' := 33) rfl rfl ?_
        refine r_iast X dX9_thing_33 (pc' := 34) rfl (by omega) (wM_e43 _ _ _ _) (by omega) (by omega) ?_
        rw [wM_s43]
        refine r_aload_n X dX9_thing_34 (pc' := 35) rfl rfl ?_
        refine r_get X fX9 lf_X9_28 dX9_thing_35 (pc' := 38) rfl (by decide) (by omega) (wM_e37 _ _ _ _) rfl ?_
        refine r_iload_n X dX9_thing_38 (pc' := 39) rfl rfl ?_
        refine r_iload_n X dX9_thing_39 (pc' := 40) rfl rfl ?_
        refine r_iast X dX9_thing_40 (pc' := 41) rfl (by omega) (wM_e44 _ _ _ _) (by omega) (by omega) ?_
        rw [wM_s44]
        refine r_aload_n X dX9_thing_41 (pc' := 42) rfl rfl ?_
        refine r_callV (As := []) X okX9_changes lm_X9_92 dX9_thing_42 (pc' := 45) rfl (ct_X9_changes P n hn h ι _ ((W.up 5 _ _ (by simp [bdM]; omega)).up 6 _ _ (by simp [bdM]; omega))) (by omega) (wM_e37 _ _ _ _) rfl rfl rfl rfl (Nat.le_of_ble_eq_true rfl) (by omega) (by omega) (by omega) ?_
        dsimp only [Option.toList, List.cons_append, List.nil_append]
        refine r_iconst (v := nI 1) X (by decide) dX9_thing_45 (pc' := 46) rfl ?_
        exact r_iret X r dX9_thing_46 (by omega) (by omega) rfl (hvT (show ok3 _ _ _ 9 3 4 = true by simp only [ok3]; first | simp only [show inQ _ _ = _ from c_4, show inQ _ _ = _ from c_13, show inQ _ _ = _ from c_22, Bool.and_false, Bool.false_and, Bool.and_true, Bool.true_and, Bool.and_self] | simp only [show inQ _ _ = _ from c_4, show inQ _ _ = _ from c_13, Bool.and_false, Bool.false_and, Bool.and_true, Bool.true_and, Bool.and_self] | simp only [show inQ _ _ = _ from c_4, Bool.and_false, Bool.false_and, Bool.and_true, Bool.true_and, Bool.and_self])) rfl (by unfold sThing; rw [pif_t (show ok3 _ _ _ 9 3 4 = true by simp only [ok3]; first | simp only [show inQ _ _ = _ from c_4, show inQ _ _ = _ from c_13, show inQ _ _ = _ from c_22, Bool.and_false, Bool.false_and, Bool.and_true, Bool.true_and, Bool.and_self] | simp only [show inQ _ _ = _ from c_4, show inQ _ _ = _ from c_13, Bool.and_false, Bool.false_and, Bool.and_true, Bool.true_and, Bool.and_self] | simp only [show inQ _ _ = _ from c_4, Bool.and_false, Bool.false_and, Bool.and_true, Bool.true_and, Bool.and_self]), tn_n (show x0 < 2 ^ 31 by omega), tn_n (show y0 < 2 ^ 31 by omega), tn_n (show z0 < 2 ^ 31 by omega)])
      · refine r_iconst (v := nI 0) X (by decide) dX9_thing_25 (pc' := 26) rfl ?_
        exact r_iret X r dX9_thing_26 (by omega) (by omega) rfl (hvF (show ok3 _ _ _ 9 3 4 = false by simp only [ok3]; first | simp only [show inQ _ _ = _ from c_4, show inQ _ _ = _ from c_13, show inQ _ _ = _ from c_22, Bool.and_false, Bool.false_and, Bool.and_true, Bool.true_and, Bool.and_self] | simp only [show inQ _ _ = _ from c_4, show inQ _ _ = _ from c_13, Bool.and_false, Bool.false_and, Bool.and_true, Bool.true_and, Bool.and_self] | simp only [show inQ _ _ = _ from c_4, Bool.and_false, Bool.false_and, Bool.and_true, Bool.true_and, Bool.and_self])) rfl (by unfold sThing; rw [pif_f (by rw [(show ok3 _ _ _ 9 3 4 = false by simp only [ok3]; first | simp only [show inQ _ _ = _ from c_4, show inQ _ _ = _ from c_13, show inQ _ _ = _ from c_22, Bool.and_false, Bool.false_and, Bool.and_true, Bool.true_and, Bool.and_self] | simp only [show inQ _ _ = _ from c_4, show inQ _ _ = _ from c_13, Bool.and_false, Bool.false_and, Bool.and_true, Bool.true_and, Bool.and_self] | simp only [show inQ _ _ = _ from c_4, Bool.and_false, Bool.false_and, Bool.and_true, Bool.true_and, Bool.and_self])]; decide)])
set_option maxRecDepth 100000 in
set_option maxHeartbeats 4000000 in
theorem ct_X9_sort (P : Px) (n : Nat) (hn : 59 ≤ n) (h : hw) (ι : Nat → Nat) (φ : Nat → Nat → Nat) (W : Wf ι φ) (x y z : Int32) : Ct P MX9_sort 2 0 0 [.ref (Bs P + 37), .int x, .int y, .int z] n (wM P h ι φ) (some (.int (bI (ok3 x y z 2 500 9)))) n (wM P h ι (sSort ι φ x y z)) := by
  refine Ct.of (by decide +kernel) (Nat.le_of_ble_eq_true rfl) rfl (fun K X hnm r => ?_)
  have X : Cx K P RX9 cX9_sort 4 2 0 0 := X
  have r : Rt K P (some .boolean) 0 0 _ _ _ := r
  show Z K P _ _ 0 0 0 [some (.ref (Bs P + 37)), some (.int x), some (.int y), some (.int z)] []
  refine r_iload_n X dX9_sort_0 (pc' := 1) rfl rfl ?_
  refine r_iconst (v := nI 0) X (by decide) dX9_sort_1 (pc' := 2) rfl ?_
  refine r_iconst (v := nI 2) X (by decide) dX9_sort_2 (pc' := 3) rfl ?_
  refine r_callS (As := [_, _, _]) X okX9_in lm_X9_80 dX9_sort_3 (pc' := 6) rfl (ct_X9_in P n _ _ _ _) rfl rfl (Nat.le_of_ble_eq_true rfl) (by omega) (by omega) (by omega) ?_
  dsimp only [Option.toList, List.cons_append, List.nil_append]
  refine rB_if_eq X dX9_sort_6 (tgt := 30) (by decide) (pc' := 9) rfl (fun c_6 => ?_) (fun c_6 => ?_)
  · refine r_iconst (v := nI 0) X (by decide) dX9_sort_30 (pc' := 31) rfl ?_
    exact r_iret X r dX9_sort_31 (by omega) (by omega) rfl (hvF (show ok3 _ _ _ 2 500 9 = false by simp only [ok3]; first | simp only [show inQ _ _ = _ from c_6, show inQ _ _ = _ from c_17, show inQ _ _ = _ from c_27, Bool.and_false, Bool.false_and, Bool.and_true, Bool.true_and, Bool.and_self] | simp only [show inQ _ _ = _ from c_6, show inQ _ _ = _ from c_17, Bool.and_false, Bool.false_and, Bool.and_true, Bool.true_and, Bool.and_self] | simp only [show inQ _ _ = _ from c_6, Bool.and_false, Bool.false_and, Bool.and_true, Bool.true_and, Bool.and_self])) rfl (by unfold sSort; rw [pif_f (by rw [(show ok3 _ _ _ 2 500 9 = false by simp only [ok3]; first | simp only [show inQ _ _ = _ from c_6, show inQ _ _ = _ from c_17, show inQ _ _ = _ from c_27, Bool.and_false, Bool.false_and, Bool.and_true, Bool.true_and, Bool.and_self] | simp only [show inQ _ _ = _ from c_6, show inQ _ _ = _ from c_17, Bool.and_false, Bool.false_and, Bool.and_true, Bool.true_and, Bool.and_self] | simp only [show inQ _ _ = _ from c_6, Bool.and_false, Bool.false_and, Bool.and_true, Bool.true_and, Bool.and_self])]; decide)])
  · obtain ⟨x0, hx, rfl⟩ := inQ_of (by decide) (show inQ x (nI 2) = true from c_6)
    refine r_iload_n X dX9_sort_9 (pc' := 10) rfl rfl ?_
    refine r_iconst (v := nI 0) X (by decide) dX9_sort_10 (pc' := 11) rfl ?_
    refine r_sipush (v := nI 500) X (by decide) dX9_sort_11 (pc' := 14) rfl ?_
    refine r_callS (As := [_, _, _]) X okX9_in lm_X9_80 dX9_sort_14 (pc' := 17) rfl (ct_X9_in P n _ _ _ _) rfl rfl (Nat.le_of_ble_eq_true rfl) (by omega) (by omega) (by omega) ?_
    dsimp only [Option.toList, List.cons_append, List.nil_append]
    refine rB_if_eq X dX9_sort_17 (tgt := 30) (by decide) (pc' := 20) rfl (fun c_17 => ?_) (fun c_17 => ?_)
    · refine r_iconst (v := nI 0) X (by decide) dX9_sort_30 (pc' := 31) rfl ?_
      exact r_iret X r dX9_sort_31 (by omega) (by omega) rfl (hvF (show ok3 _ _ _ 2 500 9 = false by simp only [ok3]; first | simp only [show inQ _ _ = _ from c_6, show inQ _ _ = _ from c_17, show inQ _ _ = _ from c_27, Bool.and_false, Bool.false_and, Bool.and_true, Bool.true_and, Bool.and_self] | simp only [show inQ _ _ = _ from c_6, show inQ _ _ = _ from c_17, Bool.and_false, Bool.false_and, Bool.and_true, Bool.true_and, Bool.and_self] | simp only [show inQ _ _ = _ from c_6, Bool.and_false, Bool.false_and, Bool.and_true, Bool.true_and, Bool.and_self])) rfl (by unfold sSort; rw [pif_f (by rw [(show ok3 _ _ _ 2 500 9 = false by simp only [ok3]; first | simp only [show inQ _ _ = _ from c_6, show inQ _ _ = _ from c_17, show inQ _ _ = _ from c_27, Bool.and_false, Bool.false_and, Bool.and_true, Bool.true_and, Bool.and_self] | simp only [show inQ _ _ = _ from c_6, show inQ _ _ = _ from c_17, Bool.and_false, Bool.false_and, Bool.and_true, Bool.true_and, Bool.and_self] | simp only [show inQ _ _ = _ from c_6, Bool.and_false, Bool.false_and, Bool.and_true, Bool.true_and, Bool.and_self])]; decide)])
    · obtain ⟨y0, hy, rfl⟩ := inQ_of (by decide) (show inQ y (nI 500) = true from c_17)
      refine r_iload_n X dX9_sort_20 (pc' := 21) rfl rfl ?_
      refine r_iconst (v := nI 0) X (by decide) dX9_sort_21 (pc' := 22) rfl ?_
      refine r_bipush (v := nI 9) X (by decide) dX9_sort_22 (pc' := 24) rfl ?_
      refine r_callS (As := [_, _, _]) X okX9_in lm_X9_80 dX9_sort_24 (pc' := 27) rfl (ct_X9_in P n _ _ _ _) rfl rfl (Nat.le_of_ble_eq_true rfl) (by omega) (by omega) (by omega) ?_
      dsimp only [Option.toList, List.cons_append, List.nil_append]
      refine rB_if_ne X dX9_sort_27 (tgt := 32) (by decide) (pc' := 30) rfl (fun c_27 => ?_) (fun c_27 => ?_)
      · obtain ⟨z0, hz, rfl⟩ := inQ_of (by decide) (show inQ z (nI 9) = true from c_27)
        refine r_aload_n X dX9_sort_32 (pc' := 33) rfl rfl ?_
        refine r_get X fX9 lf_X9_19 dX9_sort_33 (pc' := 36) rfl (by decide) (by omega) (wM_e37 _ _ _ _) rfl ?_
        refine r_iload_n X dX9_sort_36 (pc' := 37) rfl rfl ?_
        refine r_iload_n X dX9_sort_37 (pc' := 38) rfl rfl ?_
        refine r_iast X dX9_sort_38 (pc' := 39) rfl (by omega) (wM_e41 _ _ _ _) (by omega) (by omega) ?_
        rw [wM_s41]
        refine r_aload_n X dX9_sort_39 (pc' := 40) rfl rfl ?_
        refine r_get X fX9 lf_X9_22 dX9_sort_40 (pc' := 43) rfl (by decide) (by omega) (wM_e37 _ _ _ _) rfl ?_
        refine r_iload_n X dX9_sort_43 (pc' := 44) rfl rfl ?_
        refine r_iload_n X dX9_sort_44 (pc' := 45) rfl rfl ?_
        refine r_iast X dX9_sort_45 (pc' := 46) rfl (by omega) (wM_e42 _ _ _ _) (by omega) (by omega) ?_
        rw [wM_s42]
        refine r_aload_n X dX9_sort_46 (pc' := 47) rfl rfl ?_
        refine r_callV (As := []) X okX9_changes lm_X9_92 dX9_sort_47 (pc' := 50) rfl (ct_X9_changes P n hn h ι _ ((W.up 3 _ _ (by simp [bdM]; omega)).up 4 _ _ (by simp [bdM]; omega))) (by omega) (wM_e37 _ _ _ _) rfl rfl rfl rfl (Nat.le_of_ble_eq_true rfl) (by omega) (by omega) (by omega) ?_
        dsimp only [Option.toList, List.cons_append, List.nil_append]
        refine r_iconst (v := nI 1) X (by decide) dX9_sort_50 (pc' := 51) rfl ?_
        exact r_iret X r dX9_sort_51 (by omega) (by omega) rfl (hvT (show ok3 _ _ _ 2 500 9 = true by simp only [ok3]; first | simp only [show inQ _ _ = _ from c_6, show inQ _ _ = _ from c_17, show inQ _ _ = _ from c_27, Bool.and_false, Bool.false_and, Bool.and_true, Bool.true_and, Bool.and_self] | simp only [show inQ _ _ = _ from c_6, show inQ _ _ = _ from c_17, Bool.and_false, Bool.false_and, Bool.and_true, Bool.true_and, Bool.and_self] | simp only [show inQ _ _ = _ from c_6, Bool.and_false, Bool.false_and, Bool.and_true, Bool.true_and, Bool.and_self])) rfl (by unfold sSort; rw [pif_t (show ok3 _ _ _ 2 500 9 = true by simp only [ok3]; first | simp only [show inQ _ _ = _ from c_6, show inQ _ _ = _ from c_17, show inQ _ _ = _ from c_27, Bool.and_false, Bool.false_and, Bool.and_true, Bool.true_and, Bool.and_self] | simp only [show inQ _ _ = _ from c_6, show inQ _ _ = _ from c_17, Bool.and_false, Bool.false_and, Bool.and_true, Bool.true_and, Bool.and_self] | simp only [show inQ _ _ = _ from c_6, Bool.and_false, Bool.false_and, Bool.and_true, Bool.true_and, Bool.and_self]), tn_n (show x0 < 2 ^ 31 by omega), tn_n (show y0 < 2 ^ 31 by omega), tn_n (show z0 < 2 ^ 31 by omega)])
      · refine r_iconst (v := nI 0) X (by decide) dX9_sort_30 (pc' := 31) rfl ?_
        exact r_iret X r dX9_sort_31 (by omega) (by omega) rfl (hvF (show ok3 _ _ _ 2 500 9 = false by simp only [ok3]; first | simp only [show inQ _ _ = _ from c_6, show inQ _ _ = _ from c_17, show inQ _ _ = _ from c_27, Bool.and_false, Bool.false_and, Bool.and_true, Bool.true_and, Bool.and_self] | simp only [show inQ _ _ = _ from c_6, show inQ _ _ = _ from c_17, Bool.and_false, Bool.false_and, Bool.and_true, Bool.true_and, Bool.and_self] | simp only [show inQ _ _ = _ from c_6, Bool.and_false, Bool.false_and, Bool.and_true, Bool.true_and, Bool.and_self])) rfl (by unfold sSort; rw [pif_f (by rw [(show ok3 _ _ _ 2 500 9 = false by simp only [ok3]; first | simp only [show inQ _ _ = _ from c_6, show inQ _ _ = _ from c_17, show inQ _ _ = _ from c_27, Bool.and_false, Bool.false_and, Bool.and_true, Bool.true_and, Bool.and_self] | simp only [show inQ _ _ = _ from c_6, show inQ _ _ = _ from c_17, Bool.and_false, Bool.false_and, Bool.and_true, Bool.true_and, Bool.and_self] | simp only [show inQ _ _ = _ from c_6, Bool.and_false, Bool.false_and, Bool.and_true, Bool.true_and, Bool.and_self])]; decide)])
set_option maxRecDepth 100000 in
set_option maxHeartbeats 4000000 in
theorem ct_X9_judge (P : Px) (n : Nat) (hn : 59 ≤ n) (h : hw) (ι : Nat → Nat) (φ : Nat → Nat → Nat) (W : Wf ι φ) (x y z : Int32) : Ct P MX9_judge 2 0 0 [.ref (Bs P + 37), .int x, .int y, .int z] n (wM P h ι φ) (some (.int (bI (ok3 x y z 3 50 20)))) n (wM P h ι (sJudge φ x y z)) := by
  refine Ct.of (by decide +kernel) (Nat.le_of_ble_eq_true rfl) rfl (fun K X hnm r => ?_)
  have X : Cx K P RX9 cX9_judge 4 2 0 0 := X
  have r : Rt K P (some .boolean) 0 0 _ _ _ := r
  show Z K P _ _ 0 0 0 [some (.ref (Bs P + 37)), some (.int x), some (.int y), some (.int z)] []
  refine r_iload_n X dX9_judge_0 (pc' := 1) rfl rfl ?_
  refine r_callS (As := [_]) X okX9_isJudge lm_X9_144 dX9_judge_1 (pc' := 4) rfl (ct_X9_isJudge P n _ _) rfl rfl (Nat.le_of_ble_eq_true rfl) (by omega) (by omega) (by omega) ?_
  dsimp only [Option.toList, List.cons_append, List.nil_append]
  refine rB_if_eq X dX9_judge_4 (tgt := 27) (by decide) (pc' := 7) rfl (fun c_4 => ?_) (fun c_4 => ?_)
  · refine r_iconst (v := nI 0) X (by decide) dX9_judge_27 (pc' := 28) rfl ?_
    exact r_iret X r dX9_judge_28 (by omega) (by omega) rfl (hvF (show ok3 _ _ _ 3 50 20 = false by simp only [ok3]; first | simp only [show inQ _ _ = _ from c_4, show inQ _ _ = _ from c_14, show inQ _ _ = _ from c_24, Bool.and_false, Bool.false_and, Bool.and_true, Bool.true_and, Bool.and_self] | simp only [show inQ _ _ = _ from c_4, show inQ _ _ = _ from c_14, Bool.and_false, Bool.false_and, Bool.and_true, Bool.true_and, Bool.and_self] | simp only [show inQ _ _ = _ from c_4, Bool.and_false, Bool.false_and, Bool.and_true, Bool.true_and, Bool.and_self])) rfl (by unfold sJudge; rw [pif_f (by rw [(show ok3 _ _ _ 3 50 20 = false by simp only [ok3]; first | simp only [show inQ _ _ = _ from c_4, show inQ _ _ = _ from c_14, show inQ _ _ = _ from c_24, Bool.and_false, Bool.false_and, Bool.and_true, Bool.true_and, Bool.and_self] | simp only [show inQ _ _ = _ from c_4, show inQ _ _ = _ from c_14, Bool.and_false, Bool.false_and, Bool.and_true, Bool.true_and, Bool.and_self] | simp only [show inQ _ _ = _ from c_4, Bool.and_false, Bool.false_and, Bool.and_true, Bool.true_and, Bool.and_self])]; decide)])
  · obtain ⟨x0, hx, rfl⟩ := inQ_of (by decide) (show inQ x (nI 3) = true from c_4)
    refine r_iload_n X dX9_judge_7 (pc' := 8) rfl rfl ?_
    refine r_iconst (v := nI 0) X (by decide) dX9_judge_8 (pc' := 9) rfl ?_
    refine r_bipush (v := nI 50) X (by decide) dX9_judge_9 (pc' := 11) rfl ?_
    refine r_callS (As := [_, _, _]) X okX9_in lm_X9_80 dX9_judge_11 (pc' := 14) rfl (ct_X9_in P n _ _ _ _) rfl rfl (Nat.le_of_ble_eq_true rfl) (by omega) (by omega) (by omega) ?_
    dsimp only [Option.toList, List.cons_append, List.nil_append]
    refine rB_if_eq X dX9_judge_14 (tgt := 27) (by decide) (pc' := 17) rfl (fun c_14 => ?_) (fun c_14 => ?_)
    · refine r_iconst (v := nI 0) X (by decide) dX9_judge_27 (pc' := 28) rfl ?_
      exact r_iret X r dX9_judge_28 (by omega) (by omega) rfl (hvF (show ok3 _ _ _ 3 50 20 = false by simp only [ok3]; first | simp only [show inQ _ _ = _ from c_4, show inQ _ _ = _ from c_14, show inQ _ _ = _ from c_24, Bool.and_false, Bool.false_and, Bool.and_true, Bool.true_and, Bool.and_self] | simp only [show inQ _ _ = _ from c_4, show inQ _ _ = _ from c_14, Bool.and_false, Bool.false_and, Bool.and_true, Bool.true_and, Bool.and_self] | simp only [show inQ _ _ = _ from c_4, Bool.and_false, Bool.false_and, Bool.and_true, Bool.true_and, Bool.and_self])) rfl (by unfold sJudge; rw [pif_f (by rw [(show ok3 _ _ _ 3 50 20 = false by simp only [ok3]; first | simp only [show inQ _ _ = _ from c_4, show inQ _ _ = _ from c_14, show inQ _ _ = _ from c_24, Bool.and_false, Bool.false_and, Bool.and_true, Bool.true_and, Bool.and_self] | simp only [show inQ _ _ = _ from c_4, show inQ _ _ = _ from c_14, Bool.and_false, Bool.false_and, Bool.and_true, Bool.true_and, Bool.and_self] | simp only [show inQ _ _ = _ from c_4, Bool.and_false, Bool.false_and, Bool.and_true, Bool.true_and, Bool.and_self])]; decide)])
    · obtain ⟨y0, hy, rfl⟩ := inQ_of (by decide) (show inQ y (nI 50) = true from c_14)
      refine r_iload_n X dX9_judge_17 (pc' := 18) rfl rfl ?_
      refine r_iconst (v := nI 0) X (by decide) dX9_judge_18 (pc' := 19) rfl ?_
      refine r_bipush (v := nI 20) X (by decide) dX9_judge_19 (pc' := 21) rfl ?_
      refine r_callS (As := [_, _, _]) X okX9_in lm_X9_80 dX9_judge_21 (pc' := 24) rfl (ct_X9_in P n _ _ _ _) rfl rfl (Nat.le_of_ble_eq_true rfl) (by omega) (by omega) (by omega) ?_
      dsimp only [Option.toList, List.cons_append, List.nil_append]
      refine rB_if_ne X dX9_judge_24 (tgt := 29) (by decide) (pc' := 27) rfl (fun c_24 => ?_) (fun c_24 => ?_)
      · obtain ⟨z0, hz, rfl⟩ := inQ_of (by decide) (show inQ z (nI 20) = true from c_24)
        refine r_aload_n X dX9_judge_29 (pc' := 30) rfl rfl ?_
        refine r_get X fX9 lf_X9_43 dX9_judge_30 (pc' := 33) rfl (by decide) (by omega) (wM_e37 _ _ _ _) rfl ?_
        refine r_iload_n X dX9_judge_33 (pc' := 34) rfl rfl ?_
        refine r_iload_n X dX9_judge_34 (pc' := 35) rfl rfl ?_
        refine r_iast X dX9_judge_35 (pc' := 36) rfl (by omega) (wM_e49 _ _ _ _) (by omega) (by omega) ?_
        rw [wM_s49]
        refine r_aload_n X dX9_judge_36 (pc' := 37) rfl rfl ?_
        refine r_get X fX9 lf_X9_46 dX9_judge_37 (pc' := 40) rfl (by decide) (by omega) (wM_e37 _ _ _ _) rfl ?_
        refine r_iload_n X dX9_judge_40 (pc' := 41) rfl rfl ?_
        refine r_iload_n X dX9_judge_41 (pc' := 42) rfl rfl ?_
        refine r_iast X dX9_judge_42 (pc' := 43) rfl (by omega) (wM_e50 _ _ _ _) (by omega) (by omega) ?_
        rw [wM_s50]
        refine r_iconst (v := nI 1) X (by decide) dX9_judge_43 (pc' := 44) rfl ?_
        exact r_iret X r dX9_judge_44 (by omega) (by omega) rfl (hvT (show ok3 _ _ _ 3 50 20 = true by simp only [ok3]; first | simp only [show inQ _ _ = _ from c_4, show inQ _ _ = _ from c_14, show inQ _ _ = _ from c_24, Bool.and_false, Bool.false_and, Bool.and_true, Bool.true_and, Bool.and_self] | simp only [show inQ _ _ = _ from c_4, show inQ _ _ = _ from c_14, Bool.and_false, Bool.false_and, Bool.and_true, Bool.true_and, Bool.and_self] | simp only [show inQ _ _ = _ from c_4, Bool.and_false, Bool.false_and, Bool.and_true, Bool.true_and, Bool.and_self])) rfl (by unfold sJudge; rw [pif_t (show ok3 _ _ _ 3 50 20 = true by simp only [ok3]; first | simp only [show inQ _ _ = _ from c_4, show inQ _ _ = _ from c_14, show inQ _ _ = _ from c_24, Bool.and_false, Bool.false_and, Bool.and_true, Bool.true_and, Bool.and_self] | simp only [show inQ _ _ = _ from c_4, show inQ _ _ = _ from c_14, Bool.and_false, Bool.false_and, Bool.and_true, Bool.true_and, Bool.and_self] | simp only [show inQ _ _ = _ from c_4, Bool.and_false, Bool.false_and, Bool.and_true, Bool.true_and, Bool.and_self]), tn_n (show x0 < 2 ^ 31 by omega), tn_n (show y0 < 2 ^ 31 by omega), tn_n (show z0 < 2 ^ 31 by omega)])
      · refine r_iconst (v := nI 0) X (by decide) dX9_judge_27 (pc' := 28) rfl ?_
        exact r_iret X r dX9_judge_28 (by omega) (by omega) rfl (hvF (show ok3 _ _ _ 3 50 20 = false by simp only [ok3]; first | simp only [show inQ _ _ = _ from c_4, show inQ _ _ = _ from c_14, show inQ _ _ = _ from c_24, Bool.and_false, Bool.false_and, Bool.and_true, Bool.true_and, Bool.and_self] | simp only [show inQ _ _ = _ from c_4, show inQ _ _ = _ from c_14, Bool.and_false, Bool.false_and, Bool.and_true, Bool.true_and, Bool.and_self] | simp only [show inQ _ _ = _ from c_4, Bool.and_false, Bool.false_and, Bool.and_true, Bool.true_and, Bool.and_self])) rfl (by unfold sJudge; rw [pif_f (by rw [(show ok3 _ _ _ 3 50 20 = false by simp only [ok3]; first | simp only [show inQ _ _ = _ from c_4, show inQ _ _ = _ from c_14, show inQ _ _ = _ from c_24, Bool.and_false, Bool.false_and, Bool.and_true, Bool.true_and, Bool.and_self] | simp only [show inQ _ _ = _ from c_4, show inQ _ _ = _ from c_14, Bool.and_false, Bool.false_and, Bool.and_true, Bool.true_and, Bool.and_self] | simp only [show inQ _ _ = _ from c_4, Bool.and_false, Bool.false_and, Bool.and_true, Bool.true_and, Bool.and_self])]; decide)])
