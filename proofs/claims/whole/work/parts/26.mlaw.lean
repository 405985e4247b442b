/-! ===== log, lost, move, count, law, idle, quarrel of the model ===== -/
theorem neT {x : Int32} {k : Nat} (h : ¬ x = nI k) (hk : k < 2 ^ 31) : ¬ x.toInt = (k : Int) := fun q => h (Int32.toInt_inj.mp (by rw [nI_toInt hk]; exact q))
def lawP (k : Nat) : Prop := k / 10000 ≤ 3 ∧ k / 1000 % 10 ≤ 4 ∧ k / 100 % 10 ≤ 4 ∧ k / 10 % 10 ≤ 3 ∧ k % 10 ≤ 3
def lawOK (x y : Int32) : Prop := inQ x (nI 1) = true ∧ ¬ y < 0 ∧ lawP (tn y)
def lackP (what code : Nat) : Prop := (what / 100 % 10 < 4 ∧ (code / 5120 / 2 ^ (what / 100 % 10) &&& 1) = 0) ∨ (what / 10 % 10 < 3 ∧ markN code (what / 10 % 10) < what % 10)
def brkP (φ : Nat → Nat → Nat) (hp what code : Nat) : Prop := code / 5 % 4 = what / 10000 ∧ what / 1000 % 10 ≤ code % 5 ∧ lackP what code ∧ letN φ hp code = true
noncomputable def brkB (φ : Nat → Nat → Nat) (hp what code : Nat) : Bool := @decide (brkP φ hp what code) (Classical.propDecidable _)
theorem brkB_t {φ : Nat → Nat → Nat} {hp what code : Nat} (h : brkP φ hp what code) : brkB φ hp what code = true := @decide_eq_true _ (Classical.propDecidable _) h
theorem brkB_f {φ : Nat → Nat → Nat} {hp what code : Nat} (h : ¬ brkP φ hp what code) : brkB φ hp what code = false := @decide_eq_false _ (Classical.propDecidable _) h
theorem brkB_of {φ : Nat → Nat → Nat} {hp what code : Nat} (h : brkB φ hp what code = true) : brkP φ hp what code := @of_decide_eq_true _ (Classical.propDecidable _) h
noncomputable def aLaw (φ : Nat → Nat → Nat) (x y : Int32) : Int32 := pif (lawOK x y) (oI (firstN (brkB φ (tn x) (tn y)) 81920)) (-2)
def idleP (φ : Nat → Nat → Nat) (x y : Int32) : Prop := ruleQ φ x y = true ∧ ∀ code, code < 81920 → ¬ (fitsN φ (12 * tn x + tn y) code = true ∧ decN φ (tn x) code = some (tn y))
noncomputable def idleB (φ : Nat → Nat → Nat) (x y : Int32) : Bool := @decide (idleP φ x y) (Classical.propDecidable _)
theorem idleB_t {φ : Nat → Nat → Nat} {x y : Int32} (h : idleP φ x y) : idleB φ x y = true := @decide_eq_true _ (Classical.propDecidable _) h
theorem idleB_f {φ : Nat → Nat → Nat} {x y : Int32} (h : ¬ idleP φ x y) : idleB φ x y = false := @decide_eq_false _ (Classical.propDecidable _) h
def quaOK (φ : Nat → Nat → Nat) (x y z : Int32) : Prop := ruleQ φ x y = true ∧ ruleQ φ x z = true ∧ ¬ φ 10 (12 * tn x + tn y) = φ 10 (12 * tn x + tn z)
noncomputable def quaB (φ : Nat → Nat → Nat) (hp a b code : Nat) : Bool := fitsN φ (12 * hp + a) code && fitsN φ (12 * hp + b) code
noncomputable def aQua (φ : Nat → Nat → Nat) (x y z : Int32) : Int32 := pif (quaOK φ x y z) (oI (firstN (quaB φ (tn x) (tn y) (tn z)) 81920)) (-1)
theorem movB_t {ι : Nat → Nat} {φ : Nat → Nat → Nat} {x : Int32} (h : movOK ι φ x) : movB ι φ x = true := @decide_eq_true _ (Classical.propDecidable _) h
theorem movB_f {ι : Nat → Nat} {φ : Nat → Nat → Nat} {x : Int32} (h : ¬ movOK ι φ x) : movB ι φ x = false := @decide_eq_false _ (Classical.propDecidable _) h
theorem lostN_le {ι : Nat → Nat} {φ : Nat → Nat → Nat} : lostN ι φ ≤ 40 := Nat.le_trans (cntN_le _ _) (by omega)
set_option maxRecDepth 100000 in
set_option maxHeartbeats 4000000 in
theorem ct_X9_log (P : Px) (n : Nat) (hn : 59 ≤ n) (h : hw) (ι : Nat → Nat) (φ : Nat → Nat → Nat) (W : Wf ι φ) (x y : Int32) : Ct P MX9_log 1 0 0 [.ref (Bs P + 37), .int x, .int y] n (wM P h ι φ) (some (.int (aLog ι φ x y))) n (wM P h ι φ) := by
  refine Ct.of (by decide +kernel) (Nat.le_of_ble_eq_true rfl) rfl (fun K X hnm r => ?_)
  have X : Cx K P RX9 cX9_log 3 1 0 0 := X
  have r : Rt K P (some .int) 0 0 _ _ _ := r
  show Z K P _ _ 0 0 0 [some (.ref (Bs P + 37)), some (.int x), some (.int y)] []
  have ba := W.asks
  refine r_iload_n X dX9_log_0 (pc' := 1) rfl rfl ?_
  refine r_iconst (v := nI 0) X (by decide) dX9_log_1 (pc' := 2) rfl ?_
  refine r_aload_n X dX9_log_2 (pc' := 3) rfl rfl ?_
  refine r_get X fX9 lf_X9_122 dX9_log_3 (pc' := 6) rfl (by decide) (by omega) (wM_e37 _ _ _ _) rfl ?_
  refine r_iconst (v := nI 1) X (by decide) dX9_log_6 (pc' := 7) rfl ?_
  first | refine rN_isub X dX9_log_7 (pc' := 8) rfl (by omega) ?_ | refine r_isub X dX9_log_7 (pc' := 8) rfl ?_
  refine r_callS (As := [_, _, _]) X okX9_in lm_X9_80 dX9_log_8 (pc' := 11) rfl (ct_X9_in P n _ _ _ _) rfl rfl (Nat.le_of_ble_eq_true rfl) (by omega) (by omega) (by omega) ?_
  dsimp only [Option.toList, List.cons_append, List.nil_append]
  rw [inL_pred (by omega)]
  refine rB_if_ne X dX9_log_11 (tgt := 16) (by decide) (pc' := 14) rfl (fun c_11 => ?_) (fun c_11 => ?_)
  · obtain ⟨i, hi, rfl⟩ := inB_of (by omega) c_11
    refine r_iload_n X dX9_log_16 (pc' := 17) rfl rfl ?_
    by_cases e_17_0 : y = nI 0
    · refine r_tabIn X dX9_log_17 (by rw [e_17_0]; decide) (by rw [e_17_0]; decide) (off := 35) (by rw [e_17_0]; rfl) (tgt := 52) (by decide) ?_
      refine r_aload_n X dX9_log_52 (pc' := 53) rfl rfl ?_
      refine r_get X fX9 lf_X9_60 dX9_log_53 (pc' := 56) rfl (by decide) (by omega) (wM_e37 _ _ _ _) rfl ?_
      refine r_iload_n X dX9_log_56 (pc' := 57) rfl rfl ?_
      refine r_iald X dX9_log_57 (pc' := 58) rfl (by omega) (wM_e54 _ _ _ _) (by omega) (by omega) ?_
      exact r_iret X r dX9_log_58 (by omega) (by omega) rfl (by unfold aLog; rw [if_pos c_11, tn_n (by omega)]; simp only [c_11, e_17_0, if_true, if_false]; try rfl) rfl rfl
    by_cases e_17_1 : y = nI 1
    · refine r_tabIn X dX9_log_17 (by rw [e_17_1]; decide) (by rw [e_17_1]; decide) (off := 42) (by rw [e_17_1]; rfl) (tgt := 59) (by decide) ?_
      refine r_aload_n X dX9_log_59 (pc' := 60) rfl rfl ?_
      refine r_get X fX9 lf_X9_63 dX9_log_60 (pc' := 63) rfl (by decide) (by omega) (wM_e37 _ _ _ _) rfl ?_
      refine r_iload_n X dX9_log_63 (pc' := 64) rfl rfl ?_
      refine r_iald X dX9_log_64 (pc' := 65) rfl (by omega) (wM_e55 _ _ _ _) (by omega) (by omega) ?_
      exact r_iret X r dX9_log_65 (by omega) (by omega) rfl (by unfold aLog; rw [if_pos c_11, tn_n (by omega)]; simp only [c_11, e_17_0, e_17_1, if_true, if_false]; try rfl) rfl rfl
    by_cases e_17_2 : y = nI 2
    · refine r_tabIn X dX9_log_17 (by rw [e_17_2]; decide) (by rw [e_17_2]; decide) (off := 49) (by rw [e_17_2]; rfl) (tgt := 66) (by decide) ?_
      refine r_aload_n X dX9_log_66 (pc' := 67) rfl rfl ?_
      refine r_get X fX9 lf_X9_66 dX9_log_67 (pc' := 70) rfl (by decide) (by omega) (wM_e37 _ _ _ _) rfl ?_
      refine r_iload_n X dX9_log_70 (pc' := 71) rfl rfl ?_
      refine r_iald X dX9_log_71 (pc' := 72) rfl (by omega) (wM_e56 _ _ _ _) (by omega) (by omega) ?_
      exact r_iret X r dX9_log_72 (by omega) (by omega) rfl (by unfold aLog; rw [if_pos c_11, tn_n (by omega)]; simp only [c_11, e_17_0, e_17_1, e_17_2, if_true, if_false]; try rfl) rfl rfl
    by_cases e_17_3 : y = nI 3
    · refine r_tabIn X dX9_log_17 (by rw [e_17_3]; decide) (by rw [e_17_3]; decide) (off := 56) (by rw [e_17_3]; rfl) (tgt := 73) (by decide) ?_
      refine r_aload_n X dX9_log_73 (pc' := 74) rfl rfl ?_
      refine r_get X fX9 lf_X9_69 dX9_log_74 (pc' := 77) rfl (by decide) (by omega) (wM_e37 _ _ _ _) rfl ?_
      refine r_iload_n X dX9_log_77 (pc' := 78) rfl rfl ?_
      refine r_iald X dX9_log_78 (pc' := 79) rfl (by omega) (wM_e57 _ _ _ _) (by omega) (by omega) ?_
      exact r_iret X r dX9_log_79 (by omega) (by omega) rfl (by unfold aLog; rw [if_pos c_11, tn_n (by omega)]; simp only [c_11, e_17_0, e_17_1, e_17_2, e_17_3, if_true, if_false]; try rfl) rfl rfl
    by_cases e_17_4 : y = nI 4
    · refine r_tabIn X dX9_log_17 (by rw [e_17_4]; decide) (by rw [e_17_4]; decide) (off := 63) (by rw [e_17_4]; rfl) (tgt := 80) (by decide) ?_
      refine r_aload_n X dX9_log_80 (pc' := 81) rfl rfl ?_
      refine r_get X fX9 lf_X9_72 dX9_log_81 (pc' := 84) rfl (by decide) (by omega) (wM_e37 _ _ _ _) rfl ?_
      refine r_iload_n X dX9_log_84 (pc' := 85) rfl rfl ?_
      refine r_iald X dX9_log_85 (pc' := 86) rfl (by omega) (wM_e58 _ _ _ _) (by omega) (by omega) ?_
      exact r_iret X r dX9_log_86 (by omega) (by omega) rfl (by unfold aLog; rw [if_pos c_11, tn_n (by omega)]; simp only [c_11, e_17_0, e_17_1, e_17_2, e_17_3, e_17_4, if_true, if_false]; try rfl) rfl rfl
    refine r_tabOut X dX9_log_17 (by have t0 := neT e_17_0 (by decide); have t1 := neT e_17_1 (by decide); have t2 := neT e_17_2 (by decide); have t3 := neT e_17_3 (by decide); have t4 := neT e_17_4 (by decide); omega) (tgt := 87) (by decide) ?_
    refine r_iconst (v := (-1)) X (by decide) dX9_log_87 (pc' := 88) rfl ?_
    exact r_iret X r dX9_log_88 (by omega) (by omega) rfl (by unfold aLog; rw [if_pos c_11, tn_n (by omega)]; simp only [c_11, e_17_0, e_17_1, e_17_2, e_17_3, e_17_4, if_true, if_false]; try rfl) rfl rfl
  · refine r_iconst (v := (-1)) X (by decide) dX9_log_14 (pc' := 15) rfl ?_
    exact r_iret X r dX9_log_15 (by omega) (by omega) rfl (by unfold aLog; rw [if_neg (by rw [c_11]; decide)]) rfl rfl
set_option maxRecDepth 100000 in
set_option maxHeartbeats 4000000 in
theorem ct_X9_lost (P : Px) (n : Nat) (hn : 59 ≤ n) (h : hw) (ι : Nat → Nat) (φ : Nat → Nat → Nat) (W : Wf ι φ) (H19 : ∀ i, φ 19 i ≤ 2) : Ct P MX9_lost 5 0 0 [.ref (Bs P + 37)] n (wM P h ι φ) (some (.int (nI (lostN ι φ)))) n (wM P h ι φ) := by
  refine Ct.of (by decide +kernel) (Nat.le_of_ble_eq_true rfl) rfl (fun K X hnm r => ?_)
  have X : Cx K P RX9 cX9_lost 3 5 0 0 := X
  have r : Rt K P (some .int) 0 0 _ _ _ := r
  show Z K P _ _ 0 0 0 [some (.ref (Bs P + 37)), none, none] []
  have ba := W.asks
  have bh := W.inF
  have L19 : ∀ q, q = q → ∀ i, q = φ 19 i → nI q = 0 → q = 0 := fun q _ i e c => (nI_eq (by have := H19 i; omega) (by decide)).mp (c.trans nI_0.symm)
  have loop : ∀ (m_ : Nat) (k : Nat), ι 2 - (ι 2 - 40) - k < m_ → (k ≤ ι 2 - (ι 2 - 40)) → Z K P n (wM P h ι φ) 0 0 23 [some (.ref (Bs P + 37)), some (.int (nI (cntN (fun k => lostB ι φ (ι 2 - 40 + k)) k))), some (.int (nI (ι 2 - 40 + k)))] [] := by
    intro m_
    induction m_ with
    | zero => intro k hm_; exact absurd hm_ (Nat.not_lt_zero _)
    | succ m_ ih =>
      intro k hm_ hk
      refine r_iload_n X dX9_lost_23 (pc' := 24) rfl rfl ?_
      refine r_aload_n X dX9_lost_24 (pc' := 25) rfl rfl ?_
      refine r_get X fX9 lf_X9_122 dX9_lost_25 (pc' := 28) rfl (by decide) (by omega) (wM_e37 _ _ _ _) rfl ?_
      refine rN_icmp_ge X dX9_lost_28 (tgt := 73) (by decide) (pc' := 31) rfl (by omega) (by omega) (fun c_28 => ?_) (fun c_28 => ?_)
      · refine r_iload_n X dX9_lost_73 (pc' := 74) rfl rfl ?_
        exact r_iret X r dX9_lost_74 (by omega) (by omega) rfl (by rw [show k = ι 2 - (ι 2 - 40) by omega]; rfl) rfl rfl
      · refine r_iload_n X dX9_lost_31 (pc' := 32) rfl rfl ?_
        refine r_aload_n X dX9_lost_32 (pc' := 33) rfl rfl ?_
        refine r_get X fX9 lf_X9_69 dX9_lost_33 (pc' := 36) rfl (by decide) (by omega) (wM_e37 _ _ _ _) rfl ?_
        refine r_iload_n X dX9_lost_36 (pc' := 37) rfl rfl ?_
        refine r_iald X dX9_lost_37 (pc' := 38) rfl (by omega) (wM_e57 _ _ _ _) (by omega) (by omega) ?_
        obtain ⟨q19, hq19⟩ : ∃ q, q = φ 19 (ι 2 - 40 + k) := ⟨_, rfl⟩
        rw [← hq19]
        refine r_if_ne X dX9_lost_38 (tgt := 64) (by decide) (pc' := 41) rfl (fun c_38 => ?_) (fun c_38 => ?_)
        · have hs : cntN (fun k => lostB ι φ (ι 2 - 40 + k)) (k + 1) = cntN (fun k => lostB ι φ (ι 2 - 40 + k)) k + 0 := by
            simp only [cntN]; rw [if_neg (by unfold lostB; rw [← hq19]; simp; intro q; exact absurd (by rw [q]; rfl) c_38)]
          refine r_iconst (v := nI 0) X (by decide) dX9_lost_64 (pc' := 65) rfl ?_
          first | refine rN_iadd X dX9_lost_65 (pc' := 66) rfl ?_ | refine r_iadd X dX9_lost_65 (pc' := 66) rfl ?_
          rw [← hs]
          refine r_istore_n (vs' := [_, _, _]) X dX9_lost_66 (pc' := 67) rfl (by decide) rfl ?_
          refine r_iincN (vs' := [_, _, _]) X dX9_lost_67 (pc' := 70) rfl (by decide) rfl rfl ?_
          refine r_goto (tgt := 23) X dX9_lost_70 (by decide) ?_
          exact ih (k + 1) (by omega) (by omega)
        · refine r_aload_n X dX9_lost_41 (pc' := 42) rfl rfl ?_
          refine r_iconst (v := nI 1) X (by decide) dX9_lost_42 (pc' := 43) rfl ?_
          refine r_aload_n X dX9_lost_43 (pc' := 44) rfl rfl ?_
          refine r_get X fX9 lf_X9_134 dX9_lost_44 (pc' := 47) rfl (by decide) (by omega) (wM_e37 _ _ _ _) rfl ?_
          first | refine rN_isub X dX9_lost_47 (pc' := 48) rfl (by omega) ?_ | refine r_isub X dX9_lost_47 (pc' := 48) rfl ?_
          refine r_aload_n X dX9_lost_48 (pc' := 49) rfl rfl ?_
          refine r_get X fX9 lf_X9_66 dX9_lost_49 (pc' := 52) rfl (by decide) (by omega) (wM_e37 _ _ _ _) rfl ?_
          refine r_iload_n X dX9_lost_52 (pc' := 53) rfl rfl ?_
          refine r_iald X dX9_lost_53 (pc' := 54) rfl (by omega) (wM_e56 _ _ _ _) (by omega) (by omega) ?_
          refine r_callV (As := [_, _]) X okX9_isLet lm_X9_119 dX9_lost_54 (pc' := 57) rfl (ct_X9_isLet P n hn h ι φ W (1 - ι 1) _ (by omega) (W.v18 _)) (by omega) (wM_e37 _ _ _ _) rfl rfl rfl rfl (Nat.le_of_ble_eq_true rfl) (by omega) (by omega) (by omega) ?_
          dsimp only [Option.toList, List.cons_append, List.nil_append]
          refine rB_if_ne X dX9_lost_57 (tgt := 64) (by decide) (pc' := 60) rfl (fun c_57 => ?_) (fun c_57 => ?_)
          · have hs : cntN (fun k => lostB ι φ (ι 2 - 40 + k)) (k + 1) = cntN (fun k => lostB ι φ (ι 2 - 40 + k)) k + 0 := by
              simp only [cntN]; rw [if_neg (by unfold lostB; simp [c_57])]
            refine r_iconst (v := nI 0) X (by decide) dX9_lost_64 (pc' := 65) rfl ?_
            first | refine rN_iadd X dX9_lost_65 (pc' := 66) rfl ?_ | refine r_iadd X dX9_lost_65 (pc' := 66) rfl ?_
            rw [← hs]
            refine r_istore_n (vs' := [_, _, _]) X dX9_lost_66 (pc' := 67) rfl (by decide) rfl ?_
            refine r_iincN (vs' := [_, _, _]) X dX9_lost_67 (pc' := 70) rfl (by decide) rfl rfl ?_
            refine r_goto (tgt := 23) X dX9_lost_70 (by decide) ?_
            exact ih (k + 1) (by omega) (by omega)
          · have hs : cntN (fun k => lostB ι φ (ι 2 - 40 + k)) (k + 1) = cntN (fun k => lostB ι φ (ι 2 - 40 + k)) k + 1 := by
              simp only [cntN]; rw [if_pos (by unfold lostB; rw [← hq19]; simp [c_57]; exact L19 _ rfl _ hq19 c_38)]
            refine r_iconst (v := nI 1) X (by decide) dX9_lost_60 (pc' := 61) rfl ?_
            refine r_goto (tgt := 65) X dX9_lost_61 (by decide) ?_
            first | refine rN_iadd X dX9_lost_65 (pc' := 66) rfl ?_ | refine r_iadd X dX9_lost_65 (pc' := 66) rfl ?_
            rw [← hs]
            refine r_istore_n (vs' := [_, _, _]) X dX9_lost_66 (pc' := 67) rfl (by decide) rfl ?_
            refine r_iincN (vs' := [_, _, _]) X dX9_lost_67 (pc' := 70) rfl (by decide) rfl rfl ?_
            refine r_goto (tgt := 23) X dX9_lost_70 (by decide) ?_
            exact ih (k + 1) (by omega) (by omega)
  refine r_iconst (v := nI 0) X (by decide) dX9_lost_0 (pc' := 1) rfl ?_
  refine r_istore_n (vs' := [_, _, _]) X dX9_lost_1 (pc' := 2) rfl (by decide) rfl ?_
  refine r_aload_n X dX9_lost_2 (pc' := 3) rfl rfl ?_
  refine r_get X fX9 lf_X9_122 dX9_lost_3 (pc' := 6) rfl (by decide) (by omega) (wM_e37 _ _ _ _) rfl ?_
  refine r_bipush (v := nI 40) X (by decide) dX9_lost_6 (pc' := 8) rfl ?_
  refine rN_icmp_le X dX9_lost_8 (tgt := 21) (by decide) (pc' := 11) rfl (by omega) (by omega) (fun c_8 => ?_) (fun c_8 => ?_)
  · refine r_iconst (v := nI 0) X (by decide) dX9_lost_21 (pc' := 22) rfl ?_
    refine r_istore_n (vs' := [_, _, _]) X dX9_lost_22 (pc' := 23) rfl (by decide) rfl ?_
    first | exact loop _ 0 (Nat.lt_succ_self _) (Nat.zero_le _) | (have l0 := loop _ 0 (Nat.lt_succ_self _) (Nat.zero_le _); rw [show ι 2 - 40 = 0 by omega] at l0; exact l0) | (have l0 := loop _ 0 (Nat.lt_succ_self _) (Nat.zero_le _); have e0 : ι 2 - 40 = 0 := by omega; simp only [e0] at l0 ⊢; exact l0)
  · refine r_aload_n X dX9_lost_11 (pc' := 12) rfl rfl ?_
    refine r_get X fX9 lf_X9_122 dX9_lost_12 (pc' := 15) rfl (by decide) (by omega) (wM_e37 _ _ _ _) rfl ?_
    refine r_bipush (v := nI 40) X (by decide) dX9_lost_15 (pc' := 17) rfl ?_
    first | refine rN_isub X dX9_lost_17 (pc' := 18) rfl (by omega) ?_ | refine r_isub X dX9_lost_17 (pc' := 18) rfl ?_
    refine r_goto (tgt := 22) X dX9_lost_18 (by decide) ?_
    refine r_istore_n (vs' := [_, _, _]) X dX9_lost_22 (pc' := 23) rfl (by decide) rfl ?_
    first | exact loop _ 0 (Nat.lt_succ_self _) (Nat.zero_le _) | (have l0 := loop _ 0 (Nat.lt_succ_self _) (Nat.zero_le _); rw [show ι 2 - 40 = 0 by omega] at l0; exact l0) | (have l0 := loop _ 0 (Nat.lt_succ_self _) (Nat.zero_le _); have e0 : ι 2 - 40 = 0 := by omega; simp only [e0] at l0 ⊢; exact l0)
set_option maxRecDepth 100000 in
set_option maxHeartbeats 4000000 in
theorem ct_X9_move (P : Px) (n : Nat) (hn : 59 ≤ n) (h : hw) (ι : Nat → Nat) (φ : Nat → Nat → Nat) (W : Wf ι φ) (H19 : ∀ i, φ 19 i ≤ 2) (x : Int32) : Ct P MX9_move 6 0 0 [.ref (Bs P + 37), .int x] n (wM P h ι φ) (some (.int (bI (movB ι φ x)))) n (wM P h (sMove ι φ x).1 (sMove ι φ x).2) := by
  refine Ct.of (by decide +kernel) (Nat.le_of_ble_eq_true rfl) rfl (fun K X hnm r => ?_)
  have X : Cx K P RX9 cX9_move 2 6 0 0 := X
  have r : Rt K P (some .boolean) 0 0 _ _ _ := r
  show Z K P _ _ 0 0 0 [some (.ref (Bs P + 37)), some (.int x)] []
  have bh := W.inF
  refine r_iload_n X dX9_move_0 (pc' := 1) rfl rfl ?_
  refine r_if_ne X dX9_move_1 (tgt := 13) (by decide) (pc' := 4) rfl (fun c_1 => ?_) (fun c_1 => ?_)
  · have yes_ : movOK ι φ x := by first | exact Or.inl c_1 | exact Or.inr c_8
    refine r_aload_n X dX9_move_13 (pc' := 14) rfl rfl ?_
    refine r_iconst (v := nI 1) X (by decide) dX9_move_14 (pc' := 15) rfl ?_
    refine r_aload_n X dX9_move_15 (pc' := 16) rfl rfl ?_
    refine r_get X fX9 lf_X9_134 dX9_move_16 (pc' := 19) rfl (by decide) (by omega) (wM_e37 _ _ _ _) rfl ?_
    first | refine rN_isub X dX9_move_19 (pc' := 20) rfl (by omega) ?_ | refine r_isub X dX9_move_19 (pc' := 20) rfl ?_
    refine r_put X fX9 lf_X9_134 rfl dX9_move_20 (pc' := 23) rfl (by decide) (by omega) (wM_e37 _ _ _ _) (Nat.le_of_ble_eq_true rfl) rfl rfl ?_
    rw [wM_i1]
    have WM_ : Wf (up1 ι 1 (1 - ι 1)) φ := W.re rfl (by show 1 - ι 1 ≤ 1; omega) W.asks
    refine r_aload_n X dX9_move_23 (pc' := 24) rfl rfl ?_
    refine r_callV (As := []) X okX9_changes lm_X9_92 dX9_move_24 (pc' := 27) rfl (ct_X9_changes P n hn h _ φ WM_) (by omega) (wM_e37 _ _ _ _) rfl rfl rfl rfl (Nat.le_of_ble_eq_true rfl) (by omega) (by omega) (by omega) ?_
    dsimp only [Option.toList, List.cons_append, List.nil_append]
    refine r_iconst (v := nI 1) X (by decide) dX9_move_27 (pc' := 28) rfl ?_
    exact r_iret X r dX9_move_28 (by omega) (by omega) rfl (hvT (movB_t yes_)) rfl (by unfold sMove; rw [pif_t yes_])
  · refine r_aload_n X dX9_move_4 (pc' := 5) rfl rfl ?_
    refine r_callV (As := []) X okX9_lost lm_X9_154 dX9_move_5 (pc' := 8) rfl (ct_X9_lost P n hn h ι φ W H19) (by omega) (wM_e37 _ _ _ _) rfl rfl rfl rfl (Nat.le_of_ble_eq_true rfl) (by omega) (by omega) (by omega) ?_
    dsimp only [Option.toList, List.cons_append, List.nil_append]
    have bl := lostN_le (ι := ι) (φ := φ)
    refine rN_if_le X dX9_move_8 (tgt := 13) (by decide) (pc' := 11) rfl (by omega) (fun c_8 => ?_) (fun c_8 => ?_)
    · have yes_ : movOK ι φ x := by first | exact Or.inl c_1 | exact Or.inr c_8
      refine r_aload_n X dX9_move_13 (pc' := 14) rfl rfl ?_
      refine r_iconst (v := nI 1) X (by decide) dX9_move_14 (pc' := 15) rfl ?_
      refine r_aload_n X dX9_move_15 (pc' := 16) rfl rfl ?_
      refine r_get X fX9 lf_X9_134 dX9_move_16 (pc' := 19) rfl (by decide) (by omega) (wM_e37 _ _ _ _) rfl ?_
      first | refine rN_isub X dX9_move_19 (pc' := 20) rfl (by omega) ?_ | refine r_isub X dX9_move_19 (pc' := 20) rfl ?_
      refine r_put X fX9 lf_X9_134 rfl dX9_move_20 (pc' := 23) rfl (by decide) (by omega) (wM_e37 _ _ _ _) (Nat.le_of_ble_eq_true rfl) rfl rfl ?_
      rw [wM_i1]
      have WM_ : Wf (up1 ι 1 (1 - ι 1)) φ := W.re rfl (by show 1 - ι 1 ≤ 1; omega) W.asks
      refine r_aload_n X dX9_move_23 (pc' := 24) rfl rfl ?_
      refine r_callV (As := []) X okX9_changes lm_X9_92 dX9_move_24 (pc' := 27) rfl (ct_X9_changes P n hn h _ φ WM_) (by omega) (wM_e37 _ _ _ _) rfl rfl rfl rfl (Nat.le_of_ble_eq_true rfl) (by omega) (by omega) (by omega) ?_
      dsimp only [Option.toList, List.cons_append, List.nil_append]
      refine r_iconst (v := nI 1) X (by decide) dX9_move_27 (pc' := 28) rfl ?_
      exact r_iret X r dX9_move_28 (by omega) (by omega) rfl (hvT (movB_t yes_)) rfl (by unfold sMove; rw [pif_t yes_])
    · refine r_iconst (v := nI 0) X (by decide) dX9_move_11 (pc' := 12) rfl ?_
      exact r_iret X r dX9_move_12 (by omega) (by omega) rfl (hvF (movB_f (fun q => q.elim (fun z => z c_1) c_8))) rfl (by unfold sMove; rw [pif_f (fun q => q.elim (fun z => z c_1) c_8)])
set_option maxRecDepth 100000 in
set_option maxHeartbeats 4000000 in
theorem ct_X9_count (P : Px) (n : Nat) (hn : 59 ≤ n) (h : hw) (ι : Nat → Nat) (φ : Nat → Nat → Nat) (W : Wf ι φ) (x : Int32) : Ct P MX9_count 0 0 0 [.ref (Bs P + 37), .int x] n (wM P h ι φ) (some (.int (aCount ι φ x))) n (wM P h ι φ) := by
  refine Ct.of (by decide +kernel) (Nat.le_of_ble_eq_true rfl) rfl (fun K X hnm r => ?_)
  have X : Cx K P RX9 cX9_count 2 0 0 0 := X
  have r : Rt K P (some .int) 0 0 _ _ _ := r
  show Z K P _ _ 0 0 0 [some (.ref (Bs P + 37)), some (.int x)] []
  refine r_iload_n X dX9_count_0 (pc' := 1) rfl rfl ?_
  by_cases e_1_0 : x = nI 0
  · refine r_tabIn X dX9_count_1 (by rw [e_1_0]; decide) (by rw [e_1_0]; decide) (off := 43) (by rw [e_1_0]; rfl) (tgt := 44) (by decide) ?_
    refine r_aload_n X dX9_count_44 (pc' := 45) rfl rfl ?_
    refine r_get X fX9 lf_X9_84 dX9_count_45 (pc' := 48) rfl (by decide) (by omega) (wM_e37 _ _ _ _) rfl ?_
    exact r_iret X r dX9_count_48 (by omega) (by omega) rfl (by unfold aCount; simp only [e_1_0, if_true, if_false]; try rfl) rfl rfl
  by_cases e_1_1 : x = nI 1
  · refine r_tabIn X dX9_count_1 (by rw [e_1_1]; decide) (by rw [e_1_1]; decide) (off := 48) (by rw [e_1_1]; rfl) (tgt := 49) (by decide) ?_
    refine r_aload_n X dX9_count_49 (pc' := 50) rfl rfl ?_
    refine r_get X fX9 lf_X9_134 dX9_count_50 (pc' := 53) rfl (by decide) (by omega) (wM_e37 _ _ _ _) rfl ?_
    exact r_iret X r dX9_count_53 (by omega) (by omega) rfl (by unfold aCount; simp only [e_1_0, e_1_1, if_true, if_false]; try rfl) rfl rfl
  by_cases e_1_2 : x = nI 2
  · refine r_tabIn X dX9_count_1 (by rw [e_1_2]; decide) (by rw [e_1_2]; decide) (off := 53) (by rw [e_1_2]; rfl) (tgt := 54) (by decide) ?_
    refine r_aload_n X dX9_count_54 (pc' := 55) rfl rfl ?_
    refine r_get X fX9 lf_X9_31 dX9_count_55 (pc' := 58) rfl (by decide) (by omega) (wM_e37 _ _ _ _) rfl ?_
    refine r_iconst (v := nI 0) X (by decide) dX9_count_58 (pc' := 59) rfl ?_
    refine r_iald X dX9_count_59 (pc' := 60) rfl (by omega) (wM_e45 _ _ _ _) (by omega) (by omega) ?_
    exact r_iret X r dX9_count_60 (by omega) (by omega) rfl (by unfold aCount; simp only [e_1_0, e_1_1, e_1_2, if_true, if_false]; try rfl) rfl rfl
  by_cases e_1_3 : x = nI 3
  · refine r_tabIn X dX9_count_1 (by rw [e_1_3]; decide) (by rw [e_1_3]; decide) (off := 60) (by rw [e_1_3]; rfl) (tgt := 61) (by decide) ?_
    refine r_aload_n X dX9_count_61 (pc' := 62) rfl rfl ?_
    refine r_get X fX9 lf_X9_31 dX9_count_62 (pc' := 65) rfl (by decide) (by omega) (wM_e37 _ _ _ _) rfl ?_
    refine r_iconst (v := nI 1) X (by decide) dX9_count_65 (pc' := 66) rfl ?_
    refine r_iald X dX9_count_66 (pc' := 67) rfl (by omega) (wM_e45 _ _ _ _) (by omega) (by omega) ?_
    exact r_iret X r dX9_count_67 (by omega) (by omega) rfl (by unfold aCount; simp only [e_1_0, e_1_1, e_1_2, e_1_3, if_true, if_false]; try rfl) rfl rfl
  by_cases e_1_4 : x = nI 4
  · refine r_tabIn X dX9_count_1 (by rw [e_1_4]; decide) (by rw [e_1_4]; decide) (off := 67) (by rw [e_1_4]; rfl) (tgt := 68) (by decide) ?_
    refine r_aload_n X dX9_count_68 (pc' := 69) rfl rfl ?_
    refine r_get X fX9 lf_X9_122 dX9_count_69 (pc' := 72) rfl (by decide) (by omega) (wM_e37 _ _ _ _) rfl ?_
    exact r_iret X r dX9_count_72 (by omega) (by omega) rfl (by unfold aCount; simp only [e_1_0, e_1_1, e_1_2, e_1_3, e_1_4, if_true, if_false]; try rfl) rfl rfl
  by_cases e_1_5 : x = nI 5
  · refine r_tabIn X dX9_count_1 (by rw [e_1_5]; decide) (by rw [e_1_5]; decide) (off := 72) (by rw [e_1_5]; rfl) (tgt := 73) (by decide) ?_
    refine r_aload_n X dX9_count_73 (pc' := 74) rfl rfl ?_
    refine r_get X fX9 lf_X9_128 dX9_count_74 (pc' := 77) rfl (by decide) (by omega) (wM_e37 _ _ _ _) rfl ?_
    exact r_iret X r dX9_count_77 (by omega) (by omega) rfl (by unfold aCount; simp only [e_1_0, e_1_1, e_1_2, e_1_3, e_1_4, e_1_5, if_true, if_false]; try rfl) rfl rfl
  by_cases e_1_6 : x = nI 6
  · refine r_tabIn X dX9_count_1 (by rw [e_1_6]; decide) (by rw [e_1_6]; decide) (off := 77) (by rw [e_1_6]; rfl) (tgt := 78) (by decide) ?_
    refine r_aload_n X dX9_count_78 (pc' := 79) rfl rfl ?_
    refine r_get X fX9 lf_X9_147 dX9_count_79 (pc' := 82) rfl (by decide) (by omega) (wM_e37 _ _ _ _) rfl ?_
    exact r_iret X r dX9_count_82 (by omega) (by omega) rfl (by unfold aCount; simp only [e_1_0, e_1_1, e_1_2, e_1_3, e_1_4, e_1_5, e_1_6, if_true, if_false]; try rfl) rfl rfl
  refine r_tabOut X dX9_count_1 (by have t0 := neT e_1_0 (by decide); have t1 := neT e_1_1 (by decide); have t2 := neT e_1_2 (by decide); have t3 := neT e_1_3 (by decide); have t4 := neT e_1_4 (by decide); have t5 := neT e_1_5 (by decide); have t6 := neT e_1_6 (by decide); omega) (tgt := 83) (by decide) ?_
  refine r_iconst (v := (-1)) X (by decide) dX9_count_83 (pc' := 84) rfl ?_
  exact r_iret X r dX9_count_84 (by omega) (by omega) rfl (by unfold aCount; simp only [e_1_0, e_1_1, e_1_2, e_1_3, e_1_4, e_1_5, e_1_6, if_true, if_false]; try rfl) rfl rfl
set_option maxRecDepth 100000 in
set_option maxHeartbeats 4000000 in
theorem ct_X9_law (P : Px) (n : Nat) (hn : 59 ≤ n) (h : hw) (ι : Nat → Nat) (φ : Nat → Nat → Nat) (W : Wf ι φ) (x y : Int32) : Ct P MX9_law 5 0 0 [.ref (Bs P + 37), .int x, .int y] n (wM P h ι φ) (some (.int (aLaw φ x y))) n (wM P h ι φ) := by
  refine Ct.of (by decide +kernel) (Nat.le_of_ble_eq_true rfl) rfl (fun K X hnm r => ?_)
  have X : Cx K P RX9 cX9_law 8 5 0 0 := X
  have r : Rt K P (some .int) 0 0 _ _ _ := r
  show Z K P _ _ 0 0 0 [some (.ref (Bs P + 37)), some (.int x), some (.int y), none, none, none, none, none] []
  have hno : ¬ lawOK x y → aLaw φ x y = -2 := fun q => pif_f q
  have hye0 : lawOK x y → aLaw φ x y = oI (firstN (brkB φ (tn x) (tn y)) 81920) := fun q => pif_t q
  refine r_iload_n X dX9_law_0 (pc' := 1) rfl rfl ?_
  refine r_sipush (v := nI 10000) X (by decide) dX9_law_1 (pc' := 4) rfl ?_
  first | refine rN_idiv X dX9_law_4 (pc' := 5) rfl (by omega) (by omega) (by omega) ?_ | refine r_idiv X (by decide) dX9_law_4 (pc' := 5) rfl ?_
  refine r_istore_n (vs' := [_, _, _, _, _, _, _, _]) X dX9_law_5 (pc' := 6) rfl (by decide) rfl ?_
  refine r_iload_n X dX9_law_6 (pc' := 7) rfl rfl ?_
  refine r_bipush (v := nI 100) X (by decide) dX9_law_7 (pc' := 9) rfl ?_
  first | refine rN_idiv X dX9_law_9 (pc' := 10) rfl (by omega) (by omega) (by omega) ?_ | refine r_idiv X (by decide) dX9_law_9 (pc' := 10) rfl ?_
  refine r_bipush (v := nI 10) X (by decide) dX9_law_10 (pc' := 12) rfl ?_
  first | refine rN_irem X dX9_law_12 (pc' := 13) rfl (by omega) (by omega) (by omega) ?_ | refine r_irem X (by decide) dX9_law_12 (pc' := 13) rfl ?_
  refine r_istore (vs' := [_, _, _, _, _, _, _, _]) X dX9_law_13 (pc' := 15) rfl (by decide) rfl ?_
  refine r_iload_n X dX9_law_15 (pc' := 16) rfl rfl ?_
  refine r_bipush (v := nI 10) X (by decide) dX9_law_16 (pc' := 18) rfl ?_
  first | refine rN_idiv X dX9_law_18 (pc' := 19) rfl (by omega) (by omega) (by omega) ?_ | refine r_idiv X (by decide) dX9_law_18 (pc' := 19) rfl ?_
  refine r_bipush (v := nI 10) X (by decide) dX9_law_19 (pc' := 21) rfl ?_
  first | refine rN_irem X dX9_law_21 (pc' := 22) rfl (by omega) (by omega) (by omega) ?_ | refine r_irem X (by decide) dX9_law_21 (pc' := 22) rfl ?_
  refine r_istore (vs' := [_, _, _, _, _, _, _, _]) X dX9_law_22 (pc' := 24) rfl (by decide) rfl ?_
  refine r_iload_n X dX9_law_24 (pc' := 25) rfl rfl ?_
  refine r_callS (As := [_]) X okX9_isHeap lm_X9_95 dX9_law_25 (pc' := 28) rfl (ct_X9_isHeap P n _ _) rfl rfl (Nat.le_of_ble_eq_true rfl) (by omega) (by omega) (by omega) ?_
  dsimp only [Option.toList, List.cons_append, List.nil_append]
  refine rB_if_eq X dX9_law_28 (tgt := 72) (by decide) (pc' := 31) rfl (fun c_28 => ?_) (fun c_28 => ?_)
  · refine r_bipush (v := (-2)) X (by decide) dX9_law_72 (pc' := 74) rfl ?_
    exact r_iret X r dX9_law_74 (by omega) (by omega) rfl (by rw [hno (fun q => by obtain ⟨q1, q2, q3⟩ := q; first | exact absurd q1 (by rw [c_28]; decide) | exact q2 c_32 | (rw [tn_n ha] at q3; unfold lawP at q3; omega))]) rfl rfl
  · obtain ⟨h0, hh0, rfl⟩ := inQ_of (by decide) c_28
    refine r_iload_n X dX9_law_31 (pc' := 32) rfl rfl ?_
    refine r_if_lt X dX9_law_32 (tgt := 72) (by decide) (pc' := 35) rfl (fun c_32 => ?_) (fun c_32 => ?_)
    · refine r_bipush (v := (-2)) X (by decide) dX9_law_72 (pc' := 74) rfl ?_
      exact r_iret X r dX9_law_74 (by omega) (by omega) rfl (by rw [hno (fun q => by obtain ⟨q1, q2, q3⟩ := q; first | exact absurd q1 (by rw [c_28]; decide) | exact q2 c_32 | (rw [tn_n ha] at q3; unfold lawP at q3; omega))]) rfl rfl
    · obtain ⟨a, ha, rfl⟩ := nI_of c_32
      rw [pk_div ha (by decide) (by decide), pk_div ha (by decide) (by decide), pk_rem (by omega) (by decide) (by decide), pk_div ha (by decide) (by decide), pk_rem (by omega) (by decide) (by decide)]
      refine r_iload_n X dX9_law_35 (pc' := 36) rfl rfl ?_
      refine r_iconst (v := nI 3) X (by decide) dX9_law_36 (pc' := 37) rfl ?_
      refine rN_icmp_gt X dX9_law_37 (tgt := 72) (by decide) (pc' := 40) rfl (by omega) (by omega) (fun c_37 => ?_) (fun c_37 => ?_)
      · refine r_bipush (v := (-2)) X (by decide) dX9_law_72 (pc' := 74) rfl ?_
        exact r_iret X r dX9_law_74 (by omega) (by omega) rfl (by rw [hno (fun q => by obtain ⟨q1, q2, q3⟩ := q; first | exact absurd q1 (by rw [c_28]; decide) | exact q2 c_32 | (rw [tn_n ha] at q3; unfold lawP at q3; omega))]) rfl rfl
      · refine r_iload_n X dX9_law_40 (pc' := 41) rfl rfl ?_
        refine r_sipush (v := nI 1000) X (by decide) dX9_law_41 (pc' := 44) rfl ?_
        first | refine rN_idiv X dX9_law_44 (pc' := 45) rfl (by omega) (by omega) (by omega) ?_ | refine r_idiv X (by decide) dX9_law_44 (pc' := 45) rfl ?_
        refine r_bipush (v := nI 10) X (by decide) dX9_law_45 (pc' := 47) rfl ?_
        first | refine rN_irem X dX9_law_47 (pc' := 48) rfl (by omega) (by omega) (by omega) ?_ | refine r_irem X (by decide) dX9_law_47 (pc' := 48) rfl ?_
        refine r_iconst (v := nI 4) X (by decide) dX9_law_48 (pc' := 49) rfl ?_
        refine rN_icmp_gt X dX9_law_49 (tgt := 72) (by decide) (pc' := 52) rfl (by omega) (by omega) (fun c_49 => ?_) (fun c_49 => ?_)
        · refine r_bipush (v := (-2)) X (by decide) dX9_law_72 (pc' := 74) rfl ?_
          exact r_iret X r dX9_law_74 (by omega) (by omega) rfl (by rw [hno (fun q => by obtain ⟨q1, q2, q3⟩ := q; first | exact absurd q1 (by rw [c_28]; decide) | exact q2 c_32 | (rw [tn_n ha] at q3; unfold lawP at q3; omega))]) rfl rfl
        · refine r_iload X dX9_law_52 (pc' := 54) rfl rfl ?_
          refine r_iconst (v := nI 4) X (by decide) dX9_law_54 (pc' := 55) rfl ?_
          refine rN_icmp_gt X dX9_law_55 (tgt := 72) (by decide) (pc' := 58) rfl (by omega) (by omega) (fun c_55 => ?_) (fun c_55 => ?_)
          · refine r_bipush (v := (-2)) X (by decide) dX9_law_72 (pc' := 74) rfl ?_
            exact r_iret X r dX9_law_74 (by omega) (by omega) rfl (by rw [hno (fun q => by obtain ⟨q1, q2, q3⟩ := q; first | exact absurd q1 (by rw [c_28]; decide) | exact q2 c_32 | (rw [tn_n ha] at q3; unfold lawP at q3; omega))]) rfl rfl
          · refine r_iload X dX9_law_58 (pc' := 60) rfl rfl ?_
            refine r_iconst (v := nI 3) X (by decide) dX9_law_60 (pc' := 61) rfl ?_
            refine rN_icmp_gt X dX9_law_61 (tgt := 72) (by decide) (pc' := 64) rfl (by omega) (by omega) (fun c_61 => ?_) (fun c_61 => ?_)
            · refine r_bipush (v := (-2)) X (by decide) dX9_law_72 (pc' := 74) rfl ?_
              exact r_iret X r dX9_law_74 (by omega) (by omega) rfl (by rw [hno (fun q => by obtain ⟨q1, q2, q3⟩ := q; first | exact absurd q1 (by rw [c_28]; decide) | exact q2 c_32 | (rw [tn_n ha] at q3; unfold lawP at q3; omega))]) rfl rfl
            · refine r_iload_n X dX9_law_64 (pc' := 65) rfl rfl ?_
              refine r_bipush (v := nI 10) X (by decide) dX9_law_65 (pc' := 67) rfl ?_
              first | refine rN_irem X dX9_law_67 (pc' := 68) rfl (by omega) (by omega) (by omega) ?_ | refine r_irem X (by decide) dX9_law_67 (pc' := 68) rfl ?_
              refine r_iconst (v := nI 3) X (by decide) dX9_law_68 (pc' := 69) rfl ?_
              refine rN_icmp_le X dX9_law_69 (tgt := 75) (by decide) (pc' := 72) rfl (by omega) (by omega) (fun c_69 => ?_) (fun c_69 => ?_)
              · refine r_iconst (v := nI 0) X (by decide) dX9_law_75 (pc' := 76) rfl ?_
                refine r_istore (vs' := [_, _, _, _, _, _, _, _]) X dX9_law_76 (pc' := 78) rfl (by decide) rfl ?_
                have lok : lawOK (nI h0) (nI a) := ⟨c_28, nI_pos ha, by rw [tn_n ha]; unfold lawP; omega⟩
                have hye : lawOK (nI h0) (nI a) → aLaw φ (nI h0) (nI a) = oI (firstN (brkB φ h0 a) 81920) := fun q => by rw [hye0 q, tn_n (by omega), tn_n ha]
                have loop : ∀ (m_ : Nat) (c : Nat) (o : Option Value), 81920 - c < m_ → (c ≤ 81920) → (∀ i, i < c → brkB φ h0 a i = false) → Z K P n (wM P h ι φ) 0 0 78 [some (.ref (Bs P + 37)), some (.int (nI h0)), some (.int (nI a)), some (.int (nI (a / 10000))), some (.int (nI (a / 100 % 10))), some (.int (nI (a / 10 % 10))), some (.int (nI c)), o] [] := by
                  intro m_
                  induction m_ with
                  | zero => intro c o hm_; exact absurd hm_ (Nat.not_lt_zero _)
                  | succ m_ ih =>
                    intro c o hm_ hc hf
                    refine r_iload X dX9_law_78 (pc' := 80) rfl rfl ?_
                    refine r_ldc X lk_X9_150 dX9_law_80 (pc' := 82) rfl ?_
                    rw [show ((81920) : Int32) = nI 81920 from by decide]
                    refine rN_icmp_ge X dX9_law_82 (tgt := 183) (by decide) (pc' := 85) rfl (by omega) (by omega) (fun c_82 => ?_) (fun c_82 => ?_)
                    · refine r_iconst (v := (-1)) X (by decide) dX9_law_183 (pc' := 184) rfl ?_
                      exact r_iret X r dX9_law_184 (by omega) (by omega) rfl (by rw [hye lok, show firstN (brkB φ h0 a) 81920 = none from firstN_none (fun i hi => hf i (by omega))]; rfl) rfl rfl
                    · refine r_iload X dX9_law_85 (pc' := 87) rfl rfl ?_
                      refine r_iconst (v := nI 5) X (by decide) dX9_law_87 (pc' := 88) rfl ?_
                      first | refine rN_idiv X dX9_law_88 (pc' := 89) rfl (by omega) (by omega) (by omega) ?_ | refine r_idiv X (by decide) dX9_law_88 (pc' := 89) rfl ?_
                      refine r_iconst (v := nI 4) X (by decide) dX9_law_89 (pc' := 90) rfl ?_
                      first | refine rN_irem X dX9_law_90 (pc' := 91) rfl (by omega) (by omega) (by omega) ?_ | refine r_irem X (by decide) dX9_law_90 (pc' := 91) rfl ?_
                      refine r_iload_n X dX9_law_91 (pc' := 92) rfl rfl ?_
                      refine rN_icmp_ne X dX9_law_92 (tgt := 177) (by decide) (pc' := 95) rfl (by omega) (by omega) (fun c_92 => ?_) (fun c_92 => ?_)
                      · have nb : brkB φ h0 a c = false := brkB_f (fun q => by obtain ⟨q1, q2, q3, q4⟩ := q; unfold lackP at q3; first | omega | exact absurd q4 (by rw [c_171]; decide))
                        refine r_iincN (vs' := [_, _, _, _, _, _, _, _]) X dX9_law_177 (pc' := 180) rfl (by decide) rfl rfl ?_
                        refine r_goto (tgt := 78) X dX9_law_180 (by decide) ?_
                        exact ih (c + 1) _ (by omega) (by omega) (lt_s hf nb)
                      · refine r_iload X dX9_law_95 (pc' := 97) rfl rfl ?_
                        refine r_iconst (v := nI 5) X (by decide) dX9_law_97 (pc' := 98) rfl ?_
                        first | refine rN_irem X dX9_law_98 (pc' := 99) rfl (by omega) (by omega) (by omega) ?_ | refine r_irem X (by decide) dX9_law_98 (pc' := 99) rfl ?_
                        refine r_iload_n X dX9_law_99 (pc' := 100) rfl rfl ?_
                        refine r_sipush (v := nI 1000) X (by decide) dX9_law_100 (pc' := 103) rfl ?_
                        first | refine rN_idiv X dX9_law_103 (pc' := 104) rfl (by omega) (by omega) (by omega) ?_ | refine r_idiv X (by decide) dX9_law_103 (pc' := 104) rfl ?_
                        refine r_bipush (v := nI 10) X (by decide) dX9_law_104 (pc' := 106) rfl ?_
                        first | refine rN_irem X dX9_law_106 (pc' := 107) rfl (by omega) (by omega) (by omega) ?_ | refine r_irem X (by decide) dX9_law_106 (pc' := 107) rfl ?_
                        refine rN_icmp_ge X dX9_law_107 (tgt := 113) (by decide) (pc' := 110) rfl (by omega) (by omega) (fun c_107 => ?_) (fun c_107 => ?_)
                        · refine r_iload X dX9_law_113 (pc' := 115) rfl rfl ?_
                          refine r_iconst (v := nI 4) X (by decide) dX9_law_115 (pc' := 116) rfl ?_
                          refine rN_icmp_ge X dX9_law_116 (tgt := 132) (by decide) (pc' := 119) rfl (by omega) (by omega) (fun c_116 => ?_) (fun c_116 => ?_)
                          · refine r_iload X dX9_law_132 (pc' := 134) rfl rfl ?_
                            refine r_iconst (v := nI 3) X (by decide) dX9_law_134 (pc' := 135) rfl ?_
                            refine rN_icmp_ge X dX9_law_135 (tgt := 156) (by decide) (pc' := 138) rfl (by omega) (by omega) (fun c_135 => ?_) (fun c_135 => ?_)
                            · refine r_iconst (v := nI 0) X (by decide) dX9_law_156 (pc' := 157) rfl ?_
                              refine r_istore (vs' := [_, _, _, _, _, _, _, _]) X dX9_law_157 (pc' := 159) rfl (by decide) rfl ?_
                              refine r_iload X dX9_law_159 (pc' := 161) rfl rfl ?_
                              refine rN_if_eq X dX9_law_161 (tgt := 177) (by decide) (pc' := 164) rfl (by omega) (fun c_161 => ?_) (fun c_161 => ?_)
                              · have nb : brkB φ h0 a c = false := brkB_f (fun q => by obtain ⟨q1, q2, q3, q4⟩ := q; unfold lackP at q3; first | omega | exact absurd q4 (by rw [c_171]; decide))
                                refine r_iincN (vs' := [_, _, _, _, _, _, _, _]) X dX9_law_177 (pc' := 180) rfl (by decide) rfl rfl ?_
                                refine r_goto (tgt := 78) X dX9_law_180 (by decide) ?_
                                exact ih (c + 1) _ (by omega) (by omega) (lt_s hf nb)
                              · refine r_aload_n X dX9_law_164 (pc' := 165) rfl rfl ?_
                                refine r_iload_n X dX9_law_165 (pc' := 166) rfl rfl ?_
                                refine r_iload X dX9_law_166 (pc' := 168) rfl rfl ?_
                                refine r_callV (As := [_, _]) X okX9_isLet lm_X9_119 dX9_law_168 (pc' := 171) rfl (ct_X9_isLet P n hn h ι φ W h0 c (by omega) (by omega)) (by omega) (wM_e37 _ _ _ _) rfl rfl rfl rfl (Nat.le_of_ble_eq_true rfl) (by omega) (by omega) (by omega) ?_
                                dsimp only [Option.toList, List.cons_append, List.nil_append]
                                refine rB_if_eq X dX9_law_171 (tgt := 177) (by decide) (pc' := 174) rfl (fun c_171 => ?_) (fun c_171 => ?_)
                                · have nb : brkB φ h0 a c = false := brkB_f (fun q => by obtain ⟨q1, q2, q3, q4⟩ := q; unfold lackP at q3; first | omega | exact absurd q4 (by rw [c_171]; decide))
                                  refine r_iincN (vs' := [_, _, _, _, _, _, _, _]) X dX9_law_177 (pc' := 180) rfl (by decide) rfl rfl ?_
                                  refine r_goto (tgt := 78) X dX9_law_180 (by decide) ?_
                                  exact ih (c + 1) _ (by omega) (by omega) (lt_s hf nb)
                                · refine r_iload X dX9_law_174 (pc' := 176) rfl rfl ?_
                                  exact r_iret X r dX9_law_176 (by omega) (by omega) rfl (by rw [hye lok, show firstN (brkB φ h0 a) 81920 = some c from firstN_some (by omega) (brkB_t ⟨by omega, by omega, by unfold lackP; omega, c_171⟩) hf]; rfl) rfl rfl
                            · refine r_iload X dX9_law_138 (pc' := 140) rfl rfl ?_
                              refine r_iload X dX9_law_140 (pc' := 142) rfl rfl ?_
                              refine r_callS (As := [_, _]) X okX9_markOf lm_X9_102 dX9_law_142 (pc' := 145) rfl (ct_X9_markOf P n _ c _ (by omega) (by omega)) rfl rfl (Nat.le_of_ble_eq_true rfl) (by omega) (by omega) (by omega) ?_
                              dsimp only [Option.toList, List.cons_append, List.nil_append]
                              have bm := markN_le c (a / 10 % 10)
                              refine r_iload_n X dX9_law_145 (pc' := 146) rfl rfl ?_
                              refine r_bipush (v := nI 10) X (by decide) dX9_law_146 (pc' := 148) rfl ?_
                              first | refine rN_irem X dX9_law_148 (pc' := 149) rfl (by omega) (by omega) (by omega) ?_ | refine r_irem X (by decide) dX9_law_148 (pc' := 149) rfl ?_
                              refine rN_icmp_ge X dX9_law_149 (tgt := 156) (by decide) (pc' := 152) rfl (by omega) (by omega) (fun c_149 => ?_) (fun c_149 => ?_)
                              · refine r_iconst (v := nI 0) X (by decide) dX9_law_156 (pc' := 157) rfl ?_
                                refine r_istore (vs' := [_, _, _, _, _, _, _, _]) X dX9_law_157 (pc' := 159) rfl (by decide) rfl ?_
                                refine r_iload X dX9_law_159 (pc' := 161) rfl rfl ?_
                                refine rN_if_eq X dX9_law_161 (tgt := 177) (by decide) (pc' := 164) rfl (by omega) (fun c_161 => ?_) (fun c_161 => ?_)
                                · have nb : brkB φ h0 a c = false := brkB_f (fun q => by obtain ⟨q1, q2, q3, q4⟩ := q; unfold lackP at q3; first | omega | exact absurd q4 (by rw [c_171]; decide))
                                  refine r_iincN (vs' := [_, _, _, _, _, _, _, _]) X dX9_law_177 (pc' := 180) rfl (by decide) rfl rfl ?_
                                  refine r_goto (tgt := 78) X dX9_law_180 (by decide) ?_
                                  exact ih (c + 1) _ (by omega) (by omega) (lt_s hf nb)
                                · refine r_aload_n X dX9_law_164 (pc' := 165) rfl rfl ?_
                                  refine r_iload_n X dX9_law_165 (pc' := 166) rfl rfl ?_
                                  refine r_iload X dX9_law_166 (pc' := 168) rfl rfl ?_
                                  refine r_callV (As := [_, _]) X okX9_isLet lm_X9_119 dX9_law_168 (pc' := 171) rfl (ct_X9_isLet P n hn h ι φ W h0 c (by omega) (by omega)) (by omega) (wM_e37 _ _ _ _) rfl rfl rfl rfl (Nat.le_of_ble_eq_true rfl) (by omega) (by omega) (by omega) ?_
                                  dsimp only [Option.toList, List.cons_append, List.nil_append]
                                  refine rB_if_eq X dX9_law_171 (tgt := 177) (by decide) (pc' := 174) rfl (fun c_171 => ?_) (fun c_171 => ?_)
                                  · have nb : brkB φ h0 a c = false := brkB_f (fun q => by obtain ⟨q1, q2, q3, q4⟩ := q; unfold lackP at q3; first | omega | exact absurd q4 (by rw [c_171]; decide))
                                    refine r_iincN (vs' := [_, _, _, _, _, _, _, _]) X dX9_law_177 (pc' := 180) rfl (by decide) rfl rfl ?_
                                    refine r_goto (tgt := 78) X dX9_law_180 (by decide) ?_
                                    exact ih (c + 1) _ (by omega) (by omega) (lt_s hf nb)
                                  · refine r_iload X dX9_law_174 (pc' := 176) rfl rfl ?_
                                    exact r_iret X r dX9_law_176 (by omega) (by omega) rfl (by rw [hye lok, show firstN (brkB φ h0 a) 81920 = some c from firstN_some (by omega) (brkB_t ⟨by omega, by omega, by unfold lackP; omega, c_171⟩) hf]; rfl) rfl rfl
                              · refine r_iconst (v := nI 1) X (by decide) dX9_law_152 (pc' := 153) rfl ?_
                                refine r_goto (tgt := 157) X dX9_law_153 (by decide) ?_
                                refine r_istore (vs' := [_, _, _, _, _, _, _, _]) X dX9_law_157 (pc' := 159) rfl (by decide) rfl ?_
                                refine r_iload X dX9_law_159 (pc' := 161) rfl rfl ?_
                                refine rN_if_eq X dX9_law_161 (tgt := 177) (by decide) (pc' := 164) rfl (by omega) (fun c_161 => ?_) (fun c_161 => ?_)
                                · have nb : brkB φ h0 a c = false := brkB_f (fun q => by obtain ⟨q1, q2, q3, q4⟩ := q; unfold lackP at q3; first | omega | exact absurd q4 (by rw [c_171]; decide))
                                  refine r_iincN (vs' := [_, _, _, _, _, _, _, _]) X dX9_law_177 (pc' := 180) rfl (by decide) rfl rfl ?_
                                  refine r_goto (tgt := 78) X dX9_law_180 (by decide) ?_
                                  exact ih (c + 1) _ (by omega) (by omega) (lt_s hf nb)
                                · refine r_aload_n X dX9_law_164 (pc' := 165) rfl rfl ?_
                                  refine r_iload_n X dX9_law_165 (pc' := 166) rfl rfl ?_
                                  refine r_iload X dX9_law_166 (pc' := 168) rfl rfl ?_
                                  refine r_callV (As := [_, _]) X okX9_isLet lm_X9_119 dX9_law_168 (pc' := 171) rfl (ct_X9_isLet P n hn h ι φ W h0 c (by omega) (by omega)) (by omega) (wM_e37 _ _ _ _) rfl rfl rfl rfl (Nat.le_of_ble_eq_true rfl) (by omega) (by omega) (by omega) ?_
                                  dsimp only [Option.toList, List.cons_append, List.nil_append]
                                  refine rB_if_eq X dX9_law_171 (tgt := 177) (by decide) (pc' := 174) rfl (fun c_171 => ?_) (fun c_171 => ?_)
                                  · have nb : brkB φ h0 a c = false := brkB_f (fun q => by obtain ⟨q1, q2, q3, q4⟩ := q; unfold lackP at q3; first | omega | exact absurd q4 (by rw [c_171]; decide))
                                    refine r_iincN (vs' := [_, _, _, _, _, _, _, _]) X dX9_law_177 (pc' := 180) rfl (by decide) rfl rfl ?_
                                    refine r_goto (tgt := 78) X dX9_law_180 (by decide) ?_
                                    exact ih (c + 1) _ (by omega) (by omega) (lt_s hf nb)
                                  · refine r_iload X dX9_law_174 (pc' := 176) rfl rfl ?_
                                    exact r_iret X r dX9_law_176 (by omega) (by omega) rfl (by rw [hye lok, show firstN (brkB φ h0 a) 81920 = some c from firstN_some (by omega) (brkB_t ⟨by omega, by omega, by unfold lackP; omega, c_171⟩) hf]; rfl) rfl rfl
                          · refine r_iload X dX9_law_119 (pc' := 121) rfl rfl ?_
                            refine r_callS (As := [_]) X okX9_rolesOf lm_X9_105 dX9_law_121 (pc' := 124) rfl (ct_X9_rolesOf P n _ c (by omega)) rfl rfl (Nat.le_of_ble_eq_true rfl) (by omega) (by omega) (by omega) ?_
                            dsimp only [Option.toList, List.cons_append, List.nil_append]
                            refine r_iload X dX9_law_124 (pc' := 126) rfl rfl ?_
                            first | refine rN_ishr X dX9_law_126 (pc' := 127) rfl (by omega) (by omega) ?_ | refine r_ishr X dX9_law_126 (pc' := 127) rfl ?_
                            refine r_iconst (v := nI 1) X (by decide) dX9_law_127 (pc' := 128) rfl ?_
                            first | refine rN_iand X dX9_law_128 (pc' := 129) rfl ?_ | refine r_iand X dX9_law_128 (pc' := 129) rfl ?_
                            have b1 : (c / 5120 / 2 ^ (a / 100 % 10) &&& 1) ≤ 1 := Nat.and_le_right
                            refine rN_if_eq X dX9_law_129 (tgt := 152) (by decide) (pc' := 132) rfl (by omega) (fun c_129 => ?_) (fun c_129 => ?_)
                            · refine r_iconst (v := nI 1) X (by decide) dX9_law_152 (pc' := 153) rfl ?_
                              refine r_goto (tgt := 157) X dX9_law_153 (by decide) ?_
                              refine r_istore (vs' := [_, _, _, _, _, _, _, _]) X dX9_law_157 (pc' := 159) rfl (by decide) rfl ?_
                              refine r_iload X dX9_law_159 (pc' := 161) rfl rfl ?_
                              refine rN_if_eq X dX9_law_161 (tgt := 177) (by decide) (pc' := 164) rfl (by omega) (fun c_161 => ?_) (fun c_161 => ?_)
                              · have nb : brkB φ h0 a c = false := brkB_f (fun q => by obtain ⟨q1, q2, q3, q4⟩ := q; unfold lackP at q3; first | omega | exact absurd q4 (by rw [c_171]; decide))
                                refine r_iincN (vs' := [_, _, _, _, _, _, _, _]) X dX9_law_177 (pc' := 180) rfl (by decide) rfl rfl ?_
                                refine r_goto (tgt := 78) X dX9_law_180 (by decide) ?_
                                exact ih (c + 1) _ (by omega) (by omega) (lt_s hf nb)
                              · refine r_aload_n X dX9_law_164 (pc' := 165) rfl rfl ?_
                                refine r_iload_n X dX9_law_165 (pc' := 166) rfl rfl ?_
                                refine r_iload X dX9_law_166 (pc' := 168) rfl rfl ?_
                                refine r_callV (As := [_, _]) X okX9_isLet lm_X9_119 dX9_law_168 (pc' := 171) rfl (ct_X9_isLet P n hn h ι φ W h0 c (by omega) (by omega)) (by omega) (wM_e37 _ _ _ _) rfl rfl rfl rfl (Nat.le_of_ble_eq_true rfl) (by omega) (by omega) (by omega) ?_
                                dsimp only [Option.toList, List.cons_append, List.nil_append]
                                refine rB_if_eq X dX9_law_171 (tgt := 177) (by decide) (pc' := 174) rfl (fun c_171 => ?_) (fun c_171 => ?_)
                                · have nb : brkB φ h0 a c = false := brkB_f (fun q => by obtain ⟨q1, q2, q3, q4⟩ := q; unfold lackP at q3; first | omega | exact absurd q4 (by rw [c_171]; decide))
                                  refine r_iincN (vs' := [_, _, _, _, _, _, _, _]) X dX9_law_177 (pc' := 180) rfl (by decide) rfl rfl ?_
                                  refine r_goto (tgt := 78) X dX9_law_180 (by decide) ?_
                                  exact ih (c + 1) _ (by omega) (by omega) (lt_s hf nb)
                                · refine r_iload X dX9_law_174 (pc' := 176) rfl rfl ?_
                                  exact r_iret X r dX9_law_176 (by omega) (by omega) rfl (by rw [hye lok, show firstN (brkB φ h0 a) 81920 = some c from firstN_some (by omega) (brkB_t ⟨by omega, by omega, by unfold lackP; omega, c_171⟩) hf]; rfl) rfl rfl
                            · refine r_iload X dX9_law_132 (pc' := 134) rfl rfl ?_
                              refine r_iconst (v := nI 3) X (by decide) dX9_law_134 (pc' := 135) rfl ?_
                              refine rN_icmp_ge X dX9_law_135 (tgt := 156) (by decide) (pc' := 138) rfl (by omega) (by omega) (fun c_135 => ?_) (fun c_135 => ?_)
                              · refine r_iconst (v := nI 0) X (by decide) dX9_law_156 (pc' := 157) rfl ?_
                                refine r_istore (vs' := [_, _, _, _, _, _, _, _]) X dX9_law_157 (pc' := 159) rfl (by decide) rfl ?_
                                refine r_iload X dX9_law_159 (pc' := 161) rfl rfl ?_
                                refine rN_if_eq X dX9_law_161 (tgt := 177) (by decide) (pc' := 164) rfl (by omega) (fun c_161 => ?_) (fun c_161 => ?_)
                                · have nb : brkB φ h0 a c = false := brkB_f (fun q => by obtain ⟨q1, q2, q3, q4⟩ := q; unfold lackP at q3; first | omega | exact absurd q4 (by rw [c_171]; decide))
                                  refine r_iincN (vs' := [_, _, _, _, _, _, _, _]) X dX9_law_177 (pc' := 180) rfl (by decide) rfl rfl ?_
                                  refine r_goto (tgt := 78) X dX9_law_180 (by decide) ?_
                                  exact ih (c + 1) _ (by omega) (by omega) (lt_s hf nb)
                                · refine r_aload_n X dX9_law_164 (pc' := 165) rfl rfl ?_
                                  refine r_iload_n X dX9_law_165 (pc' := 166) rfl rfl ?_
                                  refine r_iload X dX9_law_166 (pc' := 168) rfl rfl ?_
                                  refine r_callV (As := [_, _]) X okX9_isLet lm_X9_119 dX9_law_168 (pc' := 171) rfl (ct_X9_isLet P n hn h ι φ W h0 c (by omega) (by omega)) (by omega) (wM_e37 _ _ _ _) rfl rfl rfl rfl (Nat.le_of_ble_eq_true rfl) (by omega) (by omega) (by omega) ?_
                                  dsimp only [Option.toList, List.cons_append, List.nil_append]
                                  refine rB_if_eq X dX9_law_171 (tgt := 177) (by decide) (pc' := 174) rfl (fun c_171 => ?_) (fun c_171 => ?_)
                                  · have nb : brkB φ h0 a c = false := brkB_f (fun q => by obtain ⟨q1, q2, q3, q4⟩ := q; unfold lackP at q3; first | omega | exact absurd q4 (by rw [c_171]; decide))
                                    refine r_iincN (vs' := [_, _, _, _, _, _, _, _]) X dX9_law_177 (pc' := 180) rfl (by decide) rfl rfl ?_
                                    refine r_goto (tgt := 78) X dX9_law_180 (by decide) ?_
                                    exact ih (c + 1) _ (by omega) (by omega) (lt_s hf nb)
                                  · refine r_iload X dX9_law_174 (pc' := 176) rfl rfl ?_
                                    exact r_iret X r dX9_law_176 (by omega) (by omega) rfl (by rw [hye lok, show firstN (brkB φ h0 a) 81920 = some c from firstN_some (by omega) (brkB_t ⟨by omega, by omega, by unfold lackP; omega, c_171⟩) hf]; rfl) rfl rfl
                              · refine r_iload X dX9_law_138 (pc' := 140) rfl rfl ?_
                                refine r_iload X dX9_law_140 (pc' := 142) rfl rfl ?_
                                refine r_callS (As := [_, _]) X okX9_markOf lm_X9_102 dX9_law_142 (pc' := 145) rfl (ct_X9_markOf P n _ c _ (by omega) (by omega)) rfl rfl (Nat.le_of_ble_eq_true rfl) (by omega) (by omega) (by omega) ?_
                                dsimp only [Option.toList, List.cons_append, List.nil_append]
                                have bm := markN_le c (a / 10 % 10)
                                refine r_iload_n X dX9_law_145 (pc' := 146) rfl rfl ?_
                                refine r_bipush (v := nI 10) X (by decide) dX9_law_146 (pc' := 148) rfl ?_
                                first | refine rN_irem X dX9_law_148 (pc' := 149) rfl (by omega) (by omega) (by omega) ?_ | refine r_irem X (by decide) dX9_law_148 (pc' := 149) rfl ?_
                                refine rN_icmp_ge X dX9_law_149 (tgt := 156) (by decide) (pc' := 152) rfl (by omega) (by omega) (fun c_149 => ?_) (fun c_149 => ?_)
                                · refine r_iconst (v := nI 0) X (by decide) dX9_law_156 (pc' := 157) rfl ?_
                                  refine r_istore (vs' := [_, _, _, _, _, _, _, _]) X dX9_law_157 (pc' := 159) rfl (by decide) rfl ?_
                                  refine r_iload X dX9_law_159 (pc' := 161) rfl rfl ?_
                                  refine rN_if_eq X dX9_law_161 (tgt := 177) (by decide) (pc' := 164) rfl (by omega) (fun c_161 => ?_) (fun c_161 => ?_)
                                  · have nb : brkB φ h0 a c = false := brkB_f (fun q => by obtain ⟨q1, q2, q3, q4⟩ := q; unfold lackP at q3; first | omega | exact absurd q4 (by rw [c_171]; decide))
                                    refine r_iincN (vs' := [_, _, _, _, _, _, _, _]) X dX9_law_177 (pc' := 180) rfl (by decide) rfl rfl ?_
                                    refine r_goto (tgt := 78) X dX9_law_180 (by decide) ?_
                                    exact ih (c + 1) _ (by omega) (by omega) (lt_s hf nb)
                                  · refine r_aload_n X dX9_law_164 (pc' := 165) rfl rfl ?_
                                    refine r_iload_n X dX9_law_165 (pc' := 166) rfl rfl ?_
                                    refine r_iload X dX9_law_166 (pc' := 168) rfl rfl ?_
                                    refine r_callV (As := [_, _]) X okX9_isLet lm_X9_119 dX9_law_168 (pc' := 171) rfl (ct_X9_isLet P n hn h ι φ W h0 c (by omega) (by omega)) (by omega) (wM_e37 _ _ _ _) rfl rfl rfl rfl (Nat.le_of_ble_eq_true rfl) (by omega) (by omega) (by omega) ?_
                                    dsimp only [Option.toList, List.cons_append, List.nil_append]
                                    refine rB_if_eq X dX9_law_171 (tgt := 177) (by decide) (pc' := 174) rfl (fun c_171 => ?_) (fun c_171 => ?_)
                                    · have nb : brkB φ h0 a c = false := brkB_f (fun q => by obtain ⟨q1, q2, q3, q4⟩ := q; unfold lackP at q3; first | omega | exact absurd q4 (by rw [c_171]; decide))
                                      refine r_iincN (vs' := [_, _, _, _, _, _, _, _]) X dX9_law_177 (pc' := 180) rfl (by decide) rfl rfl ?_
                                      refine r_goto (tgt := 78) X dX9_law_180 (by decide) ?_
                                      exact ih (c + 1) _ (by omega) (by omega) (lt_s hf nb)
                                    · refine r_iload X dX9_law_174 (pc' := 176) rfl rfl ?_
                                      exact r_iret X r dX9_law_176 (by omega) (by omega) rfl (by rw [hye lok, show firstN (brkB φ h0 a) 81920 = some c from firstN_some (by omega) (brkB_t ⟨by omega, by omega, by unfold lackP; omega, c_171⟩) hf]; rfl) rfl rfl
                                · refine r_iconst (v := nI 1) X (by decide) dX9_law_152 (pc' := 153) rfl ?_
                                  refine r_goto (tgt := 157) X dX9_law_153 (by decide) ?_
                                  refine r_istore (vs' := [_, _, _, _, _, _, _, _]) X dX9_law_157 (pc' := 159) rfl (by decide) rfl ?_
                                  refine r_iload X dX9_law_159 (pc' := 161) rfl rfl ?_
                                  refine rN_if_eq X dX9_law_161 (tgt := 177) (by decide) (pc' := 164) rfl (by omega) (fun c_161 => ?_) (fun c_161 => ?_)
                                  · have nb : brkB φ h0 a c = false := brkB_f (fun q => by obtain ⟨q1, q2, q3, q4⟩ := q; unfold lackP at q3; first | omega | exact absurd q4 (by rw [c_171]; decide))
                                    refine r_iincN (vs' := [_, _, _, _, _, _, _, _]) X dX9_law_177 (pc' := 180) rfl (by decide) rfl rfl ?_
                                    refine r_goto (tgt := 78) X dX9_law_180 (by decide) ?_
                                    exact ih (c + 1) _ (by omega) (by omega) (lt_s hf nb)
                                  · refine r_aload_n X dX9_law_164 (pc' := 165) rfl rfl ?_
                                    refine r_iload_n X dX9_law_165 (pc' := 166) rfl rfl ?_
                                    refine r_iload X dX9_law_166 (pc' := 168) rfl rfl ?_
                                    refine r_callV (As := [_, _]) X okX9_isLet lm_X9_119 dX9_law_168 (pc' := 171) rfl (ct_X9_isLet P n hn h ι φ W h0 c (by omega) (by omega)) (by omega) (wM_e37 _ _ _ _) rfl rfl rfl rfl (Nat.le_of_ble_eq_true rfl) (by omega) (by omega) (by omega) ?_
                                    dsimp only [Option.toList, List.cons_append, List.nil_append]
                                    refine rB_if_eq X dX9_law_171 (tgt := 177) (by decide) (pc' := 174) rfl (fun c_171 => ?_) (fun c_171 => ?_)
                                    · have nb : brkB φ h0 a c = false := brkB_f (fun q => by obtain ⟨q1, q2, q3, q4⟩ := q; unfold lackP at q3; first | omega | exact absurd q4 (by rw [c_171]; decide))
                                      refine r_iincN (vs' := [_, _, _, _, _, _, _, _]) X dX9_law_177 (pc' := 180) rfl (by decide) rfl rfl ?_
                                      refine r_goto (tgt := 78) X dX9_law_180 (by decide) ?_
                                      exact ih (c + 1) _ (by omega) (by omega) (lt_s hf nb)
                                    · refine r_iload X dX9_law_174 (pc' := 176) rfl rfl ?_
                                      exact r_iret X r dX9_law_176 (by omega) (by omega) rfl (by rw [hye lok, show firstN (brkB φ h0 a) 81920 = some c from firstN_some (by omega) (brkB_t ⟨by omega, by omega, by unfold lackP; omega, c_171⟩) hf]; rfl) rfl rfl
                        · refine r_goto (tgt := 177) X dX9_law_110 (by decide) ?_
                          have nb : brkB φ h0 a c = false := brkB_f (fun q => by obtain ⟨q1, q2, q3, q4⟩ := q; unfold lackP at q3; first | omega | exact absurd q4 (by rw [c_171]; decide))
                          refine r_iincN (vs' := [_, _, _, _, _, _, _, _]) X dX9_law_177 (pc' := 180) rfl (by decide) rfl rfl ?_
                          refine r_goto (tgt := 78) X dX9_law_180 (by decide) ?_
                          exact ih (c + 1) _ (by omega) (by omega) (lt_s hf nb)
                exact loop _ 0 _ (Nat.lt_succ_self _) (Nat.zero_le _) (fun i hi => absurd hi (Nat.not_lt_zero _))
              · refine r_bipush (v := (-2)) X (by decide) dX9_law_72 (pc' := 74) rfl ?_
                exact r_iret X r dX9_law_74 (by omega) (by omega) rfl (by rw [hno (fun q => by obtain ⟨q1, q2, q3⟩ := q; first | exact absurd q1 (by rw [c_28]; decide) | exact q2 c_32 | (rw [tn_n ha] at q3; unfold lawP at q3; omega))]) rfl rfl
theorem oI_inj {o : Option Nat} {j : Nat} (hj : j < 2 ^ 31) (h : oI o = nI j) : o = some j ∨ ∃ k, o = some k ∧ 2 ^ 31 ≤ k := by
  cases o with
  | none => exact absurd h.symm (oI_ne hj)
  | some k =>
    by_cases hk : k < 2 ^ 31
    · exact Or.inl (by rw [(nI_eq hk hj).mp h])
    · exact Or.inr ⟨k, rfl, by omega⟩
theorem oI_dec {φ : Nat → Nat → Nat} {hp code j : Nat} (hb : φ 7 hp ≤ 12) (hj : j < 2 ^ 31) (h : oI (decN φ hp code) = nI j) : decN φ hp code = some j := by
  rcases oI_inj hj h with q | ⟨k, q, hk⟩
  · exact q
  · have := decN_some (ι := fun _ => 0) q
    omega
set_option maxRecDepth 100000 in
set_option maxHeartbeats 4000000 in
theorem ct_X9_idle (P : Px) (n : Nat) (hn : 59 ≤ n) (h : hw) (ι : Nat → Nat) (φ : Nat → Nat → Nat) (W : Wf ι φ) (x y : Int32) : Ct P MX9_idle 4 0 0 [.ref (Bs P + 37), .int x, .int y] n (wM P h ι φ) (some (.int (bI (idleB φ x y)))) n (wM P h ι φ) := by
  refine Ct.of (by decide +kernel) (Nat.le_of_ble_eq_true rfl) rfl (fun K X hnm r => ?_)
  have X : Cx K P RX9 cX9_idle 4 4 0 0 := X
  have r : Rt K P (some .boolean) 0 0 _ _ _ := r
  show Z K P _ _ 0 0 0 [some (.ref (Bs P + 37)), some (.int x), some (.int y), none] []
  refine r_aload_n X dX9_idle_0 (pc' := 1) rfl rfl ?_
  refine r_iload_n X dX9_idle_1 (pc' := 2) rfl rfl ?_
  refine r_iload_n X dX9_idle_2 (pc' := 3) rfl rfl ?_
  refine r_callV (As := [_, _]) X okX9_isRule lm_X9_151 dX9_idle_3 (pc' := 6) rfl (ct_X9_isRule P n hn h ι φ W x y) (by omega) (wM_e37 _ _ _ _) rfl rfl rfl rfl (Nat.le_of_ble_eq_true rfl) (by omega) (by omega) (by omega) ?_
  dsimp only [Option.toList, List.cons_append, List.nil_append]
  refine rB_if_ne X dX9_idle_6 (tgt := 11) (by decide) (pc' := 9) rfl (fun c_6 => ?_) (fun c_6 => ?_)
  · obtain ⟨h0, j, hh0, hj, rfl, rfl⟩ := ruleQ_of W.v7 c_6
    have b7 := W.v7 h0
    refine r_iconst (v := nI 0) X (by decide) dX9_idle_11 (pc' := 12) rfl ?_
    refine r_istore_n (vs' := [_, _, _, _]) X dX9_idle_12 (pc' := 13) rfl (by decide) rfl ?_
    have loop : ∀ (m_ : Nat) (c : Nat), 81920 - c < m_ → (c ≤ 81920) → (∀ i, i < c → ¬ (fitsN φ (12 * h0 + j) i = true ∧ decN φ h0 i = some j)) → Z K P n (wM P h ι φ) 0 0 13 [some (.ref (Bs P + 37)), some (.int (nI h0)), some (.int (nI j)), some (.int (nI c))] [] := by
      intro m_
      induction m_ with
      | zero => intro c hm_; exact absurd hm_ (Nat.not_lt_zero _)
      | succ m_ ih =>
        intro c hm_ hc hf
        refine r_iload_n X dX9_idle_13 (pc' := 14) rfl rfl ?_
        refine r_ldc X lk_X9_150 dX9_idle_14 (pc' := 16) rfl ?_
        rw [show ((81920) : Int32) = nI 81920 from by decide]
        refine rN_icmp_ge X dX9_idle_16 (tgt := 51) (by decide) (pc' := 19) rfl (by omega) (by omega) (fun c_16 => ?_) (fun c_16 => ?_)
        · refine r_iconst (v := nI 1) X (by decide) dX9_idle_51 (pc' := 52) rfl ?_
          exact r_iret X r dX9_idle_52 (by omega) (by omega) rfl (hvT (idleB_t ⟨c_6, fun i hi => by rw [tn_n (by omega), tn_n (by omega)]; exact hf i (by omega)⟩)) rfl rfl
        · refine r_aload_n X dX9_idle_19 (pc' := 20) rfl rfl ?_
          refine r_bipush (v := nI 12) X (by decide) dX9_idle_20 (pc' := 22) rfl ?_
          refine r_iload_n X dX9_idle_22 (pc' := 23) rfl rfl ?_
          first | refine rN_imul X dX9_idle_23 (pc' := 24) rfl ?_ | refine r_imul X dX9_idle_23 (pc' := 24) rfl ?_
          refine r_iload_n X dX9_idle_24 (pc' := 25) rfl rfl ?_
          first | refine rN_iadd X dX9_idle_25 (pc' := 26) rfl ?_ | refine r_iadd X dX9_idle_25 (pc' := 26) rfl ?_
          refine r_iload_n X dX9_idle_26 (pc' := 27) rfl rfl ?_
          refine r_callV (As := [_, _]) X okX9_fits lm_X9_112 dX9_idle_27 (pc' := 30) rfl (ct_X9_fits P n hn h ι φ W (12 * h0 + j) c (by omega) (by omega)) (by omega) (wM_e37 _ _ _ _) rfl rfl rfl rfl (Nat.le_of_ble_eq_true rfl) (by omega) (by omega) (by omega) ?_
          dsimp only [Option.toList, List.cons_append, List.nil_append]
          refine rB_if_eq X dX9_idle_30 (tgt := 45) (by decide) (pc' := 33) rfl (fun c_30 => ?_) (fun c_30 => ?_)
          · have nb : ¬ (fitsN φ (12 * h0 + j) c = true ∧ decN φ h0 c = some j) := fun q => absurd q.1 (by rw [c_30]; decide)
            refine r_iincN (vs' := [_, _, _, _]) X dX9_idle_45 (pc' := 48) rfl (by decide) rfl rfl ?_
            refine r_goto (tgt := 13) X dX9_idle_48 (by decide) ?_
            exact ih (c + 1) (by omega) (by omega) (lt_s hf nb)
          · refine r_aload_n X dX9_idle_33 (pc' := 34) rfl rfl ?_
            refine r_iload_n X dX9_idle_34 (pc' := 35) rfl rfl ?_
            refine r_iload_n X dX9_idle_35 (pc' := 36) rfl rfl ?_
            refine r_callV (As := [_, _]) X okX9_decides lm_X9_116 dX9_idle_36 (pc' := 39) rfl (ct_X9_decides P n hn h ι φ W h0 c (by omega) (by omega)) (by omega) (wM_e37 _ _ _ _) rfl rfl rfl rfl (Nat.le_of_ble_eq_true rfl) (by omega) (by omega) (by omega) ?_
            dsimp only [Option.toList, List.cons_append, List.nil_append]
            refine r_iload_n X dX9_idle_39 (pc' := 40) rfl rfl ?_
            refine r_icmp_ne X dX9_idle_40 (tgt := 45) (by decide) (pc' := 43) rfl (fun c_40 => ?_) (fun c_40 => ?_)
            · have nb : ¬ (fitsN φ (12 * h0 + j) c = true ∧ decN φ h0 c = some j) := fun q => c_40 (by rw [q.2]; rfl)
              refine r_iincN (vs' := [_, _, _, _]) X dX9_idle_45 (pc' := 48) rfl (by decide) rfl rfl ?_
              refine r_goto (tgt := 13) X dX9_idle_48 (by decide) ?_
              exact ih (c + 1) (by omega) (by omega) (lt_s hf nb)
            · refine r_iconst (v := nI 0) X (by decide) dX9_idle_43 (pc' := 44) rfl ?_
              exact r_iret X r dX9_idle_44 (by omega) (by omega) rfl (hvF (idleB_f (fun q => q.2 c (by omega) (by rw [tn_n (by omega), tn_n (by omega)]; exact ⟨c_30, oI_dec b7 (by omega) c_40⟩)))) rfl rfl
    exact loop _ 0 (Nat.lt_succ_self _) (Nat.zero_le _) (fun i hi => absurd hi (Nat.not_lt_zero _))
  · refine r_iconst (v := nI 0) X (by decide) dX9_idle_9 (pc' := 10) rfl ?_
    exact r_iret X r dX9_idle_10 (by omega) (by omega) rfl (hvF (idleB_f (fun q => absurd q.1 (by rw [c_6]; decide)))) rfl rfl
set_option maxRecDepth 100000 in
set_option maxHeartbeats 4000000 in
theorem ct_X9_quarrel (P : Px) (n : Nat) (hn : 59 ≤ n) (h : hw) (ι : Nat → Nat) (φ : Nat → Nat → Nat) (W : Wf ι φ) (x y z : Int32) : Ct P MX9_quarrel 3 0 0 [.ref (Bs P + 37), .int x, .int y, .int z] n (wM P h ι φ) (some (.int (aQua φ x y z))) n (wM P h ι φ) := by
  refine Ct.of (by decide +kernel) (Nat.le_of_ble_eq_true rfl) rfl (fun K X hnm r => ?_)
  have X : Cx K P RX9 cX9_quarrel 5 3 0 0 := X
  have r : Rt K P (some .int) 0 0 _ _ _ := r
  show Z K P _ _ 0 0 0 [some (.ref (Bs P + 37)), some (.int x), some (.int y), some (.int z), none] []
  have hno : ¬ quaOK φ x y z → aQua φ x y z = -1 := fun q => pif_f q
  have hye0 : quaOK φ x y z → aQua φ x y z = oI (firstN (quaB φ (tn x) (tn y) (tn z)) 81920) := fun q => pif_t q
  refine r_aload_n X dX9_quarrel_0 (pc' := 1) rfl rfl ?_
  refine r_iload_n X dX9_quarrel_1 (pc' := 2) rfl rfl ?_
  refine r_iload_n X dX9_quarrel_2 (pc' := 3) rfl rfl ?_
  refine r_callV (As := [_, _]) X okX9_isRule lm_X9_151 dX9_quarrel_3 (pc' := 6) rfl (ct_X9_isRule P n hn h ι φ W x y) (by omega) (wM_e37 _ _ _ _) rfl rfl rfl rfl (Nat.le_of_ble_eq_true rfl) (by omega) (by omega) (by omega) ?_
  dsimp only [Option.toList, List.cons_append, List.nil_append]
  refine rB_if_eq X dX9_quarrel_6 (tgt := 43) (by decide) (pc' := 9) rfl (fun c_6 => ?_) (fun c_6 => ?_)
  · refine r_iconst (v := (-1)) X (by decide) dX9_quarrel_43 (pc' := 44) rfl ?_
    exact r_iret X r dX9_quarrel_44 (by omega) (by omega) rfl (by rw [hno (fun q => by first | exact absurd q.1 (by rw [c_6]; decide) | exact absurd q.2.1 (by rw [c_15]; decide) | (have q2 := q.2.2; rw [tn_n (by omega), tn_n (by omega), tn_n (by omega)] at q2; exact q2 c_40))]) rfl rfl
  · obtain ⟨h0, j, hh0, hj, rfl, rfl⟩ := ruleQ_of W.v7 c_6
    have b7 := W.v7 h0
    refine r_aload_n X dX9_quarrel_9 (pc' := 10) rfl rfl ?_
    refine r_iload_n X dX9_quarrel_10 (pc' := 11) rfl rfl ?_
    refine r_iload_n X dX9_quarrel_11 (pc' := 12) rfl rfl ?_
    refine r_callV (As := [_, _]) X okX9_isRule lm_X9_151 dX9_quarrel_12 (pc' := 15) rfl (ct_X9_isRule P n hn h ι φ W _ z) (by omega) (wM_e37 _ _ _ _) rfl rfl rfl rfl (Nat.le_of_ble_eq_true rfl) (by omega) (by omega) (by omega) ?_
    dsimp only [Option.toList, List.cons_append, List.nil_append]
    refine rB_if_eq X dX9_quarrel_15 (tgt := 43) (by decide) (pc' := 18) rfl (fun c_15 => ?_) (fun c_15 => ?_)
    · refine r_iconst (v := (-1)) X (by decide) dX9_quarrel_43 (pc' := 44) rfl ?_
      exact r_iret X r dX9_quarrel_44 (by omega) (by omega) rfl (by rw [hno (fun q => by first | exact absurd q.1 (by rw [c_6]; decide) | exact absurd q.2.1 (by rw [c_15]; decide) | (have q2 := q.2.2; rw [tn_n (by omega), tn_n (by omega), tn_n (by omega)] at q2; exact q2 c_40))]) rfl rfl
    · obtain ⟨h1, jj, hh1, hjj, e1, rfl⟩ := ruleQ_of W.v7 c_15
      obtain rfl : h0 = h1 := (nI_eq (by omega) (by omega)).mp e1
      have b10 := W.v10 (12 * h0 + j)
      have b11 := W.v10 (12 * h0 + jj)
      refine r_aload_n X dX9_quarrel_18 (pc' := 19) rfl rfl ?_
      refine r_get X fX9 lf_X9_40 dX9_quarrel_19 (pc' := 22) rfl (by decide) (by omega) (wM_e37 _ _ _ _) rfl ?_
      refine r_bipush (v := nI 12) X (by decide) dX9_quarrel_22 (pc' := 24) rfl ?_
      refine r_iload_n X dX9_quarrel_24 (pc' := 25) rfl rfl ?_
      first | refine rN_imul X dX9_quarrel_25 (pc' := 26) rfl ?_ | refine r_imul X dX9_quarrel_25 (pc' := 26) rfl ?_
      refine r_iload_n X dX9_quarrel_26 (pc' := 27) rfl rfl ?_
      first | refine rN_iadd X dX9_quarrel_27 (pc' := 28) rfl ?_ | refine r_iadd X dX9_quarrel_27 (pc' := 28) rfl ?_
      refine r_iald X dX9_quarrel_28 (pc' := 29) rfl (by omega) (wM_e48 _ _ _ _) (by omega) (by omega) ?_
      refine r_aload_n X dX9_quarrel_29 (pc' := 30) rfl rfl ?_
      refine r_get X fX9 lf_X9_40 dX9_quarrel_30 (pc' := 33) rfl (by decide) (by omega) (wM_e37 _ _ _ _) rfl ?_
      refine r_bipush (v := nI 12) X (by decide) dX9_quarrel_33 (pc' := 35) rfl ?_
      refine r_iload_n X dX9_quarrel_35 (pc' := 36) rfl rfl ?_
      first | refine rN_imul X dX9_quarrel_36 (pc' := 37) rfl ?_ | refine r_imul X dX9_quarrel_36 (pc' := 37) rfl ?_
      refine r_iload_n X dX9_quarrel_37 (pc' := 38) rfl rfl ?_
      first | refine rN_iadd X dX9_quarrel_38 (pc' := 39) rfl ?_ | refine r_iadd X dX9_quarrel_38 (pc' := 39) rfl ?_
      refine r_iald X dX9_quarrel_39 (pc' := 40) rfl (by omega) (wM_e48 _ _ _ _) (by omega) (by omega) ?_
      refine rN_icmp_ne X dX9_quarrel_40 (tgt := 45) (by decide) (pc' := 43) rfl (by omega) (by omega) (fun c_40 => ?_) (fun c_40 => ?_)
      · refine r_iconst (v := nI 0) X (by decide) dX9_quarrel_45 (pc' := 46) rfl ?_
        refine r_istore (vs' := [_, _, _, _, _]) X dX9_quarrel_46 (pc' := 48) rfl (by decide) rfl ?_
        have qok : quaOK φ (nI h0) (nI j) (nI jj) := ⟨c_6, c_15, by rw [tn_n (by omega), tn_n (by omega), tn_n (by omega)]; exact c_40⟩
        have hye : quaOK φ (nI h0) (nI j) (nI jj) → aQua φ (nI h0) (nI j) (nI jj) = oI (firstN (quaB φ h0 j jj) 81920) := fun q => by rw [hye0 q, tn_n (by omega), tn_n (by omega), tn_n (by omega)]
        have loop : ∀ (m_ : Nat) (c : Nat), 81920 - c < m_ → (c ≤ 81920) → (∀ i, i < c → quaB φ h0 j jj i = false) → Z K P n (wM P h ι φ) 0 0 48 [some (.ref (Bs P + 37)), some (.int (nI h0)), some (.int (nI j)), some (.int (nI jj)), some (.int (nI c))] [] := by
          intro m_
          induction m_ with
          | zero => intro c hm_; exact absurd hm_ (Nat.not_lt_zero _)
          | succ m_ ih =>
            intro c hm_ hc hf
            refine r_iload X dX9_quarrel_48 (pc' := 50) rfl rfl ?_
            refine r_ldc X lk_X9_150 dX9_quarrel_50 (pc' := 52) rfl ?_
            rw [show ((81920) : Int32) = nI 81920 from by decide]
            refine rN_icmp_ge X dX9_quarrel_52 (tgt := 94) (by decide) (pc' := 55) rfl (by omega) (by omega) (fun c_52 => ?_) (fun c_52 => ?_)
            · refine r_iconst (v := (-1)) X (by decide) dX9_quarrel_94 (pc' := 95) rfl ?_
              exact r_iret X r dX9_quarrel_95 (by omega) (by omega) rfl (by rw [hye qok, show firstN (quaB φ h0 j jj) 81920 = none from firstN_none (fun i hi => hf i (by omega))]; rfl) rfl rfl
            · refine r_aload_n X dX9_quarrel_55 (pc' := 56) rfl rfl ?_
              refine r_bipush (v := nI 12) X (by decide) dX9_quarrel_56 (pc' := 58) rfl ?_
              refine r_iload_n X dX9_quarrel_58 (pc' := 59) rfl rfl ?_
              first | refine rN_imul X dX9_quarrel_59 (pc' := 60) rfl ?_ | refine r_imul X dX9_quarrel_59 (pc' := 60) rfl ?_
              refine r_iload_n X dX9_quarrel_60 (pc' := 61) rfl rfl ?_
              first | refine rN_iadd X dX9_quarrel_61 (pc' := 62) rfl ?_ | refine r_iadd X dX9_quarrel_61 (pc' := 62) rfl ?_
              refine r_iload X dX9_quarrel_62 (pc' := 64) rfl rfl ?_
              refine r_callV (As := [_, _]) X okX9_fits lm_X9_112 dX9_quarrel_64 (pc' := 67) rfl (ct_X9_fits P n hn h ι φ W (12 * h0 + j) c (by omega) (by omega)) (by omega) (wM_e37 _ _ _ _) rfl rfl rfl rfl (Nat.le_of_ble_eq_true rfl) (by omega) (by omega) (by omega) ?_
              dsimp only [Option.toList, List.cons_append, List.nil_append]
              refine rB_if_eq X dX9_quarrel_67 (tgt := 88) (by decide) (pc' := 70) rfl (fun c_67 => ?_) (fun c_67 => ?_)
              · have nb : quaB φ h0 j jj c = false := by unfold quaB; first | (rw [c_67]; rfl) | (rw [c_82, Bool.and_false])
                refine r_iincN (vs' := [_, _, _, _, _]) X dX9_quarrel_88 (pc' := 91) rfl (by decide) rfl rfl ?_
                refine r_goto (tgt := 48) X dX9_quarrel_91 (by decide) ?_
                exact ih (c + 1) (by omega) (by omega) (lt_s hf nb)
              · refine r_aload_n X dX9_quarrel_70 (pc' := 71) rfl rfl ?_
                refine r_bipush (v := nI 12) X (by decide) dX9_quarrel_71 (pc' := 73) rfl ?_
                refine r_iload_n X dX9_quarrel_73 (pc' := 74) rfl rfl ?_
                first | refine rN_imul X dX9_quarrel_74 (pc' := 75) rfl ?_ | refine r_imul X dX9_quarrel_74 (pc' := 75) rfl ?_
                refine r_iload_n X dX9_quarrel_75 (pc' := 76) rfl rfl ?_
                first | refine rN_iadd X dX9_quarrel_76 (pc' := 77) rfl ?_ | refine r_iadd X dX9_quarrel_76 (pc' := 77) rfl ?_
                refine r_iload X dX9_quarrel_77 (pc' := 79) rfl rfl ?_
                refine r_callV (As := [_, _]) X okX9_fits lm_X9_112 dX9_quarrel_79 (pc' := 82) rfl (ct_X9_fits P n hn h ι φ W (12 * h0 + jj) c (by omega) (by omega)) (by omega) (wM_e37 _ _ _ _) rfl rfl rfl rfl (Nat.le_of_ble_eq_true rfl) (by omega) (by omega) (by omega) ?_
                dsimp only [Option.toList, List.cons_append, List.nil_append]
                refine rB_if_eq X dX9_quarrel_82 (tgt := 88) (by decide) (pc' := 85) rfl (fun c_82 => ?_) (fun c_82 => ?_)
                · have nb : quaB φ h0 j jj c = false := by unfold quaB; first | (rw [c_67]; rfl) | (rw [c_82, Bool.and_false])
                  refine r_iincN (vs' := [_, _, _, _, _]) X dX9_quarrel_88 (pc' := 91) rfl (by decide) rfl rfl ?_
                  refine r_goto (tgt := 48) X dX9_quarrel_91 (by decide) ?_
                  exact ih (c + 1) (by omega) (by omega) (lt_s hf nb)
                · refine r_iload X dX9_quarrel_85 (pc' := 87) rfl rfl ?_
                  exact r_iret X r dX9_quarrel_87 (by omega) (by omega) rfl (by rw [hye qok, show firstN (quaB φ h0 j jj) 81920 = some c from firstN_some (by omega) (by unfold quaB; rw [c_67, c_82]; rfl) hf]; rfl) rfl rfl
        exact loop _ 0 (Nat.lt_succ_self _) (Nat.zero_le _) (fun i hi => absurd hi (Nat.not_lt_zero _))
      · refine r_iconst (v := (-1)) X (by decide) dX9_quarrel_43 (pc' := 44) rfl ?_
        exact r_iret X r dX9_quarrel_44 (by omega) (by omega) rfl (by rw [hno (fun q => by first | exact absurd q.1 (by rw [c_6]; decide) | exact absurd q.2.1 (by rw [c_15]; decide) | (have q2 := q.2.2; rw [tn_n (by omega), tn_n (by omega), tn_n (by omega)] at q2; exact q2 c_40))]) rfl rfl
