/-! ===== rows for references that may be null ===== -/
section ZQ
variable {K : Kx} {P : Px} {own : String} {cc : ByteArray} {nL d MC MS n u w pc pc' : Nat} {h : hw} {vs vs' : List (Option Value)} {st : List Value}
theorem r_aload_nQ (X : Cx K P own cc nL d MC MS) {k : Fin 4} {o : Option Nat} (hd : decode cc pc = .ok (.aload_n k, 1)) (hp : pc + 1 = pc') (hv : vs[(k : Nat)]? = some (some (va_rf o))) (kk : Z K P n h u w pc' vs (va_rf o :: st)) : Z K P n h u w pc vs st := by
  cases o with
  | none => exact r_aload_nN X hd hp hv kk
  | some a => exact r_aload_n X hd hp hv kk
theorem r_aloadQ (X : Cx K P own cc nL d MC MS) {i : Nat} {o : Option Nat} (hd : decode cc pc = .ok (.aload i, 2)) (hp : pc + 2 = pc') (hv : vs[i]? = some (some (va_rf o))) (kk : Z K P n h u w pc' vs (va_rf o :: st)) : Z K P n h u w pc vs st := by
  cases o with
  | none => exact r_aloadN X hd hp hv kk
  | some a => exact r_aload X hd hp hv kk
theorem r_astore_nQ (X : Cx K P own cc nL d MC MS) {k : Fin 4} {o : Option Nat} (hd : decode cc pc = .ok (.astore_n k, 1)) (hp : pc + 1 = pc') (hi : (k : Nat) < nL) (hs : vs.set (k : Nat) (some (va_rf o)) = vs') (kk : Z K P n h u w pc' vs' st) : Z K P n h u w pc vs (va_rf o :: st) := by
  cases o with
  | none => exact r_astore_nN X hd hp hi hs kk
  | some a => exact r_astore_n X hd hp hi hs kk
theorem r_astoreQ (X : Cx K P own cc nL d MC MS) {i : Nat} {o : Option Nat} (hd : decode cc pc = .ok (.astore i, 2)) (hp : pc + 2 = pc') (hi : i < nL) (hs : vs.set i (some (va_rf o)) = vs') (kk : Z K P n h u w pc' vs' st) : Z K P n h u w pc vs (va_rf o :: st) := by
  cases o with
  | none => exact r_astoreN X hd hp hi hs kk
  | some a => exact r_astore X hd hp hi hs kk
end ZQ
/-- a JUDGE's chain of kept ANSWERS: the cells of a list of places -/
def chn (P : Px) (n : Nat) (h : hw) (kw km ka : Nat → Nat) : Option Nat → List Nat → Prop
  | o, [] => o = none
  | o, k :: t => o = some k ∧ 59 ≤ k ∧ k < n ∧ ∃ nx, h k = kcell P (kw k) nx (km k) (ka k) ∧ chn P n h kw km ka nx t
def lcn (p : Nat → Bool) : List Nat → Nat
  | [] => 0
  | k :: t => (if p k = true then 1 else 0) + lcn p t
def colv (φ : Nat → Nat → Nat) (c i : Nat) : Int32 := if c = 4 then mi (φ 20 i) else nI (φ (16 + c) i)
theorem wC_col (P : Px) (h : hw) (ι : Nat → Nat) (φ : Nat → Nat → Nat) (ℓ : Nat → Nat) (lt : Nat → Option Nat) (ρ : Nat → Nat → Option Nat) (ω : Nat → Nat → Nat) {c : Nat} (hc : c < 5) : wC P h ι φ ℓ lt ρ ω (27 + c) = .inl (P.2.2.1 0, 300, .inl (fun i => colv φ c i)) := by
  match c, hc with
  | 0, _ => rfl
  | 1, _ => rfl
  | 2, _ => rfl
  | 3, _ => rfl
  | 4, _ => rfl
theorem aLog_c {ι : Nat → Nat} {φ : Nat → Nat → Nat} {i c : Nat} (hi : inB (nI i) (nI (ι 2)) = true) (hib : i < 2 ^ 31) (hc : c < 5) : aLog ι φ (nI i) (nI c) = colv φ c i := by
  unfold aLog
  rw [if_pos hi, tn_n hib]
  match c, hc with
  | 0, _ => rfl
  | 1, _ => rfl
  | 2, _ => rfl
  | 3, _ => rfl
  | 4, _ => rfl
theorem aLog_f {ι : Nat → Nat} {φ : Nat → Nat → Nat} {x y : Int32} (h : inB y (nI 5) = false) : aLog ι φ x y = -1 := by
  unfold aLog
  split
  · rw [if_neg, if_neg, if_neg, if_neg, if_neg]
    all_goals
      intro q
      rw [q] at h
      revert h
      decide
  · rfl
def sl1 (φ : Nat → Nat → Nat) (ℓ : Nat → Nat) (j : Nat) : Nat → Nat := if φ 12 j = 0 then ℓ else up1 ℓ j (ℓ j ||| 1 * 2 ^ φ 12 j)
def st1 (φ : Nat → Nat → Nat) (lt : Nat → Option Nat) (j : Nat) : Nat → Option Nat := if φ 12 j = 0 then upo lt j none else lt
def slN (φ : Nat → Nat → Nat) (ℓ : Nat → Nat) : Nat → Nat → Nat
  | 0 => ℓ
  | j + 1 => sl1 φ (slN φ ℓ j) j
def stN (φ : Nat → Nat → Nat) (lt : Nat → Option Nat) : Nat → Nat → Option Nat
  | 0 => lt
  | j + 1 => st1 φ (stN φ lt j) j
def cmN (ℓ : Nat → Nat) (t j : Nat) : Nat := ℓ j &&& (1 * 2 ^ (min t 20 + 1) - 1)
def pl1 (ℓ : Nat → Nat) (t j : Nat) : Nat → Nat := up1 ℓ j ((ℓ j - cmN ℓ t j) / 2 ^ min t 20)
def pt1 (ℓ : Nat → Nat) (lt : Nat → Option Nat) (t j : Nat) : Nat → Option Nat := if cmN ℓ t j = 0 then lt else upo lt j none
def plN (ℓ : Nat → Nat) (t : Nat) : Nat → Nat → Nat
  | 0 => ℓ
  | j + 1 => pl1 (plN ℓ t j) t j
def ptN (ℓ : Nat → Nat) (lt : Nat → Option Nat) (t : Nat) : Nat → Nat → Option Nat
  | 0 => lt
  | j + 1 => pt1 (plN ℓ t j) (ptN ℓ lt t j) t j
theorem rfn (o : Option Nat) (C : String) : narrow (.object C) (va_rf o) = va_rf o := by cases o <;> rfl
theorem rff (o : Option Nat) (C : String) : fits (.object C) (va_rf o) = true := by cases o <;> rfl
set_option maxRecDepth 100000 in
set_option maxHeartbeats 1000000 in
theorem ct_J9_min_7cf53 (P : Px) (n : Nat) (h : hw) (a b : Nat) (ha : a < 2 ^ 31) (hb : b < 2 ^ 31) : Ct P MJ9_min_7cf53 0 0 0 [.int (nI a), .int (nI b)] n h (some (.int (nI (min a b)))) n h := by
  refine Ct.ofF (by decide +kernel) (Nat.le_of_ble_eq_true rfl) rfl (fun K X hnm r => ?_)
  have X : Cx K P RJ9 cJ9_min_7cf53 2 0 0 0 := X
  have r : Rt K P (some .int) 0 0 _ _ _ := r
  show Z K P _ _ 0 0 0 [some (.int (nI a)), some (.int (nI b))] []
  refine r_iload_n X dJ9_min_7cf53_0 (pc' := 1) rfl rfl ?_
  refine r_iload_n X dJ9_min_7cf53_1 (pc' := 2) rfl rfl ?_
  refine rN_icmp_gt X dJ9_min_7cf53_2 (tgt := 9) (by decide) (pc' := 5) rfl (by omega) (by omega) (fun c_2 => ?_) (fun c_2 => ?_)
  · refine r_iload_n X dJ9_min_7cf53_9 (pc' := 10) rfl rfl ?_
    exact r_iret X r dJ9_min_7cf53_10 (by omega) (by omega) rfl (hvN (by omega)) rfl rfl
  · refine r_iload_n X dJ9_min_7cf53_5 (pc' := 6) rfl rfl ?_
    refine r_goto (tgt := 10) X dJ9_min_7cf53_6 (by decide) ?_
    exact r_iret X r dJ9_min_7cf53_10 (by omega) (by omega) rfl (hvN (by omega)) rfl rfl
set_option maxRecDepth 100000 in
set_option maxHeartbeats 1000000 in
theorem ct_J9_max_7cf53 (P : Px) (n : Nat) (h : hw) (x y : Int32) : Ct P MJ9_max_7cf53 0 0 0 [.int x, .int y] n h (some (.int (if x < y then y else x))) n h := by
  refine Ct.ofF (by decide +kernel) (Nat.le_of_ble_eq_true rfl) rfl (fun K X hnm r => ?_)
  have X : Cx K P RJ9 cJ9_max_7cf53 2 0 0 0 := X
  have r : Rt K P (some .int) 0 0 _ _ _ := r
  show Z K P _ _ 0 0 0 [some (.int x), some (.int y)] []
  refine r_iload_n X dJ9_max_7cf53_0 (pc' := 1) rfl rfl ?_
  refine r_iload_n X dJ9_max_7cf53_1 (pc' := 2) rfl rfl ?_
  refine r_icmp_lt X dJ9_max_7cf53_2 (tgt := 9) (by decide) (pc' := 5) rfl (fun c_2 => ?_) (fun c_2 => ?_)
  · refine r_iload_n X dJ9_max_7cf53_9 (pc' := 10) rfl rfl ?_
    exact r_iret X r dJ9_max_7cf53_10 (by omega) (by omega) rfl (by first | rw [if_pos c_2] | rw [if_neg c_2]) rfl rfl
  · refine r_iload_n X dJ9_max_7cf53_5 (pc' := 6) rfl rfl ?_
    refine r_goto (tgt := 10) X dJ9_max_7cf53_6 (by decide) ?_
    exact r_iret X r dJ9_max_7cf53_10 (by omega) (by omega) rfl (by first | rw [if_pos c_2] | rw [if_neg c_2]) rfl rfl
set_option maxRecDepth 100000 in
set_option maxHeartbeats 1000000 in
theorem ct_X0_read (P : Px) (n : Nat) (hn : 59 ≤ n) (h : hw) (ι : Nat → Nat) (φ : Nat → Nat → Nat) (ℓ : Nat → Nat) (lt : Nat → Option Nat) (ρ : Nat → Nat → Option Nat) (ω : Nat → Nat → Nat) (W : Wf ι φ) (x y : Int32) : Ct P MX0_read 1 0 0 [.ref (Bs P + 25), .int x, .int y] n (wC P h ι φ ℓ lt ρ ω) (some (.int (aLog ι φ x y))) n (wC P h ι φ ℓ lt ρ ω) := by
  refine Ct.of (by decide +kernel) (Nat.le_of_ble_eq_true rfl) rfl (fun K X hnm r => ?_)
  have X : Cx K P RX0 cX0_read 3 1 0 0 := X
  have r : Rt K P (some .int) 0 0 _ _ _ := r
  show Z K P _ _ 0 0 0 [some (.ref (Bs P + 25)), some (.int x), some (.int y)] []
  have ba := W.asks
  refine r_iload_n X dX0_read_0 (pc' := 1) rfl rfl ?_
  refine r_aload_n X dX0_read_1 (pc' := 2) rfl rfl ?_
  refine r_get X fX0 lf_X0_16 dX0_read_2 (pc' := 5) rfl (by decide) (by omega) (wC_e25 _ _ _ _ _ _ _ _) rfl ?_
  refine r_callSN (As := [_, _]) X okX8_isBelow lm_X0_27 dX0_read_5 (pc' := 8) rfl (ct_X8_isBelow P n _ _ _) rfl rfl (Nat.le_of_ble_eq_true rfl) (by omega) (by omega) (by omega) ?_
  dsimp only [Option.toList, List.cons_append, List.nil_append]
  refine rB_if_eq X dX0_read_8 (tgt := 30) (by decide) (pc' := 11) rfl (fun c_8 => ?_) (fun c_8 => ?_)
  · refine r_iconst (v := (-1)) X (by decide) dX0_read_30 (pc' := 31) rfl ?_
    exact r_iret X r dX0_read_31 (by omega) (by omega) rfl (by first | rw [aLog_f c_16] | (unfold aLog; rw [if_neg (by rw [c_8]; decide)]; done) | exact congrArg (fun z => some (Value.int z)) (aLog_c c_8 (by omega) hc).symm) rfl rfl
  · obtain ⟨i, hi, rfl⟩ := inB_of (by omega) c_8
    refine r_iload_n X dX0_read_11 (pc' := 12) rfl rfl ?_
    refine r_iconst (v := nI 5) X (by decide) dX0_read_12 (pc' := 13) rfl ?_
    refine r_callSN (As := [_, _]) X okX8_isBelow lm_X0_27 dX0_read_13 (pc' := 16) rfl (ct_X8_isBelow P n _ _ _) rfl rfl (Nat.le_of_ble_eq_true rfl) (by omega) (by omega) (by omega) ?_
    dsimp only [Option.toList, List.cons_append, List.nil_append]
    refine rB_if_eq X dX0_read_16 (tgt := 30) (by decide) (pc' := 19) rfl (fun c_16 => ?_) (fun c_16 => ?_)
    · refine r_iconst (v := (-1)) X (by decide) dX0_read_30 (pc' := 31) rfl ?_
      exact r_iret X r dX0_read_31 (by omega) (by omega) rfl (by first | rw [aLog_f c_16] | (unfold aLog; rw [if_neg (by rw [c_8]; decide)]; done) | exact congrArg (fun z => some (Value.int z)) (aLog_c c_8 (by omega) hc).symm) rfl rfl
    · obtain ⟨c, hc, rfl⟩ := inB_of (by decide) c_16
      refine r_aload_n X dX0_read_19 (pc' := 20) rfl rfl ?_
      refine r_get X fX0 lf_X0_13 dX0_read_20 (pc' := 23) rfl (by decide) (by omega) (wC_e25 _ _ _ _ _ _ _ _) rfl ?_
      refine r_iload_n X dX0_read_23 (pc' := 24) rfl rfl ?_
      refine r_aald (t := 2) X rfl rfl dX0_read_24 (pc' := 25) rfl (by omega) (wC_e26 _ _ _ _ _ _ _ _) (by omega) (by omega) ?_
      rw [adr_i hc]
      refine r_iload_n X dX0_read_25 (pc' := 26) rfl rfl ?_
      refine r_iald X dX0_read_26 (pc' := 27) rfl (by omega) (wC_col _ _ _ _ _ _ _ _ hc) (by omega) (by omega) ?_
      refine r_goto (tgt := 31) X dX0_read_27 (by decide) ?_
      exact r_iret X r dX0_read_31 (by omega) (by omega) rfl (by first | rw [aLog_f c_16] | (unfold aLog; rw [if_neg (by rw [c_8]; decide)]; done) | exact congrArg (fun z => some (Value.int z)) (aLog_c c_8 (by omega) hc).symm) rfl rfl
set_option maxRecDepth 100000 in
set_option maxHeartbeats 1000000 in
theorem ct_X2_sendLetter (P : Px) (n : Nat) (hn : 59 ≤ n) (h : hw) (ι : Nat → Nat) (φ : Nat → Nat → Nat) (ℓ : Nat → Nat) (lt : Nat → Option Nat) (ρ : Nat → Nat → Option Nat) (ω : Nat → Nat → Nat) (W : Wf ι φ) (j : Nat) (hj : j < 4) : Ct P MX2_sendLetter 0 0 0 [.ref (Bs P + (21 + j))] n (wC P h ι φ ℓ lt ρ ω) none n (wC P h ι φ (sl1 φ ℓ j) (st1 φ lt j) ρ ω) := by
  refine Ct.of (by decide +kernel) (Nat.le_of_ble_eq_true rfl) rfl (fun K X hnm r => ?_)
  have X : Cx K P RX2 cX2_sendLetter 1 0 0 0 := X
  have r : Rt K P none 0 0 _ _ _ := r
  show Z K P _ _ 0 0 0 [some (.ref (Bs P + (21 + j)))] []
  refine r_aload_n X dX2_sendLetter_0 (pc' := 1) rfl rfl ?_
  refine r_get X fX2 lf_X2_15 dX2_sendLetter_1 (pc' := 4) rfl (by decide) (by omega) (wC_jd _ _ _ _ _ _ _ _ hj) rfl ?_
  have bw := W.v12 j
  refine rN_if_ne X dX2_sendLetter_4 (tgt := 15) (by decide) (pc' := 7) rfl (by omega) (fun c_4 => ?_) (fun c_4 => ?_)
  · have e1 : sl1 φ ℓ j = up1 ℓ j (ℓ j ||| 1 * 2 ^ φ 12 j) := if_neg c_4
    have e2 : st1 φ lt j = lt := if_neg c_4
    refine r_aload_n X dX2_sendLetter_15 (pc' := 16) rfl rfl ?_
    refine r_dup X rfl dX2_sendLetter_16 (pc' := 17) rfl ?_
    refine r_get X fX2 lf_X2_22 dX2_sendLetter_17 (pc' := 20) rfl (by decide) (by omega) (wC_jd _ _ _ _ _ _ _ _ hj) rfl ?_
    refine r_iconst (v := nI 1) X (by decide) dX2_sendLetter_20 (pc' := 21) rfl ?_
    refine r_aload_n X dX2_sendLetter_21 (pc' := 22) rfl rfl ?_
    refine r_get X fX2 lf_X2_15 dX2_sendLetter_22 (pc' := 25) rfl (by decide) (by omega) (wC_jd _ _ _ _ _ _ _ _ hj) rfl ?_
    refine rN_ishl X dX2_sendLetter_25 (pc' := 26) rfl (by omega) (by rw [Nat.one_mul]; exact Nat.pow_lt_pow_right (by decide) (by omega)) ?_
    first | refine rN_ior X dX2_sendLetter_26 (pc' := 27) rfl ?_ | refine r_ior X dX2_sendLetter_26 (pc' := 27) rfl ?_
    refine r_put X fX2 lf_X2_22 rfl dX2_sendLetter_27 (pc' := 30) rfl (by decide) (by omega) (wC_jd _ _ _ _ _ _ _ _ hj) (Nat.le_of_ble_eq_true rfl) rfl rfl ?_
    rw [wC_jlet hj]
    exact r_vret X r dX2_sendLetter_30 (by omega) (by omega) rfl rfl (by rw [e1, e2])
  · have e1 : sl1 φ ℓ j = ℓ := if_pos c_4
    have e2 : st1 φ lt j = upo lt j none := if_pos c_4
    refine r_aload_n X dX2_sendLetter_7 (pc' := 8) rfl rfl ?_
    refine r_null X dX2_sendLetter_8 (pc' := 9) rfl ?_
    refine r_put X fX2 lf_X2_18 rfl dX2_sendLetter_9 (pc' := 12) rfl (by decide) (by omega) (wC_jd _ _ _ _ _ _ _ _ hj) (Nat.le_of_ble_eq_true rfl) rfl rfl ?_
    first | rw [wC_jlatN hj] | rw [wC_jlatS hj]
    refine r_goto (tgt := 30) X dX2_sendLetter_12 (by decide) ?_
    exact r_vret X r dX2_sendLetter_30 (by omega) (by omega) rfl rfl (by rw [e1, e2])
set_option maxRecDepth 100000 in
set_option maxHeartbeats 1000000 in
theorem ct_X2_letPass (P : Px) (n : Nat) (hn : 59 ≤ n) (h : hw) (ι : Nat → Nat) (φ : Nat → Nat → Nat) (ℓ : Nat → Nat) (lt : Nat → Option Nat) (ρ : Nat → Nat → Option Nat) (ω : Nat → Nat → Nat) (W : Wf ι φ) (j : Nat) (hj : j < 4) (t : Nat) (ht : t < 2 ^ 31) (hℓ : ℓ j < 2 ^ 21) : Ct P MX2_letPass 1 0 0 [.ref (Bs P + (21 + j)), .int (nI t)] n (wC P h ι φ ℓ lt ρ ω) none n (wC P h ι φ (pl1 ℓ t j) (pt1 ℓ lt t j) ρ ω) := by
  refine Ct.of (by decide +kernel) (Nat.le_of_ble_eq_true rfl) rfl (fun K X hnm r => ?_)
  have X : Cx K P RX2 cX2_letPass 4 1 0 0 := X
  have r : Rt K P none 0 0 _ _ _ := r
  show Z K P _ _ 0 0 0 [some (.ref (Bs P + (21 + j))), some (.int (nI t)), none, none] []
  refine r_iload_n X dX2_letPass_0 (pc' := 1) rfl rfl ?_
  refine r_bipush (v := nI 20) X (by decide) dX2_letPass_1 (pc' := 3) rfl ?_
  refine r_callS (As := [_, _]) X okJ9_min_7cf53 lm_X2_25 dX2_letPass_3 (pc' := 6) rfl (ct_J9_min_7cf53 P n _ t 20 ht (by decide)) rfl rfl (Nat.le_of_ble_eq_true rfl) (by omega) (by omega) (by omega) ?_
  dsimp only [Option.toList, List.cons_append, List.nil_append]
  have hsh : min t 20 ≤ 20 := Nat.min_le_right _ _
  refine r_istore_n (vs' := [_, _, _, _]) X dX2_letPass_6 (pc' := 7) rfl (by decide) rfl ?_
  refine r_aload_n X dX2_letPass_7 (pc' := 8) rfl rfl ?_
  refine r_get X fX2 lf_X2_22 dX2_letPass_8 (pc' := 11) rfl (by decide) (by omega) (wC_jd _ _ _ _ _ _ _ _ hj) rfl ?_
  refine r_iconst (v := nI 1) X (by decide) dX2_letPass_11 (pc' := 12) rfl ?_
  refine r_iload_n X dX2_letPass_12 (pc' := 13) rfl rfl ?_
  refine r_iconst (v := nI 1) X (by decide) dX2_letPass_13 (pc' := 14) rfl ?_
  first | refine rN_iadd X dX2_letPass_14 (pc' := 15) rfl ?_ | refine r_iadd X dX2_letPass_14 (pc' := 15) rfl ?_
  refine rN_ishl X dX2_letPass_15 (pc' := 16) rfl (by omega) (by rw [Nat.one_mul]; exact Nat.pow_lt_pow_right (by decide) (by omega)) ?_
  refine r_iconst (v := nI 1) X (by decide) dX2_letPass_16 (pc' := 17) rfl ?_
  refine rN_isub X dX2_letPass_17 (pc' := 18) rfl (by rw [Nat.one_mul]; exact Nat.one_le_two_pow) ?_
  first | refine rN_iand X dX2_letPass_18 (pc' := 19) rfl ?_ | refine r_iand X dX2_letPass_18 (pc' := 19) rfl ?_
  rw [show (ℓ j &&& 1 * 2 ^ (min t 20 + 1) - 1) = cmN ℓ t j from rfl]
  have hcm : cmN ℓ t j ≤ ℓ j := Nat.and_le_left
  refine r_istore_n (vs' := [_, _, _, _]) X dX2_letPass_19 (pc' := 20) rfl (by decide) rfl ?_
  refine r_iload_n X dX2_letPass_20 (pc' := 21) rfl rfl ?_
  refine rN_if_eq X dX2_letPass_21 (tgt := 29) (by decide) (pc' := 24) rfl (by omega) (fun c_21 => ?_) (fun c_21 => ?_)
  · have e2 : pt1 ℓ lt t j = lt := if_pos c_21
    refine r_aload_n X dX2_letPass_29 (pc' := 30) rfl rfl ?_
    refine r_aload_n X dX2_letPass_30 (pc' := 31) rfl rfl ?_
    refine r_get X fX2 lf_X2_22 dX2_letPass_31 (pc' := 34) rfl (by decide) (by omega) (wC_jd _ _ _ _ _ _ _ _ hj) rfl ?_
    refine r_iload_n X dX2_letPass_34 (pc' := 35) rfl rfl ?_
    first | refine rN_isub X dX2_letPass_35 (pc' := 36) rfl (by omega) ?_ | refine r_isub X dX2_letPass_35 (pc' := 36) rfl ?_
    refine r_iload_n X dX2_letPass_36 (pc' := 37) rfl rfl ?_
    refine rN_ishr X dX2_letPass_37 (pc' := 38) rfl (by omega) (by omega) ?_
    refine r_put X fX2 lf_X2_22 rfl dX2_letPass_38 (pc' := 41) rfl (by decide) (by omega) (wC_jd _ _ _ _ _ _ _ _ hj) (Nat.le_of_ble_eq_true rfl) rfl rfl ?_
    rw [wC_jlet hj]
    exact r_vret X r dX2_letPass_41 (by omega) (by omega) rfl rfl (by rw [e2] <;> rfl)
  · have e2 : pt1 ℓ lt t j = upo lt j none := if_neg c_21
    refine r_aload_n X dX2_letPass_24 (pc' := 25) rfl rfl ?_
    refine r_null X dX2_letPass_25 (pc' := 26) rfl ?_
    refine r_put X fX2 lf_X2_18 rfl dX2_letPass_26 (pc' := 29) rfl (by decide) (by omega) (wC_jd _ _ _ _ _ _ _ _ hj) (Nat.le_of_ble_eq_true rfl) rfl rfl ?_
    first | rw [wC_jlatN hj] | rw [wC_jlatS hj]
    refine r_aload_n X dX2_letPass_29 (pc' := 30) rfl rfl ?_
    refine r_aload_n X dX2_letPass_30 (pc' := 31) rfl rfl ?_
    refine r_get X fX2 lf_X2_22 dX2_letPass_31 (pc' := 34) rfl (by decide) (by omega) (wC_jd _ _ _ _ _ _ _ _ hj) rfl ?_
    refine r_iload_n X dX2_letPass_34 (pc' := 35) rfl rfl ?_
    first | refine rN_isub X dX2_letPass_35 (pc' := 36) rfl (by omega) ?_ | refine r_isub X dX2_letPass_35 (pc' := 36) rfl ?_
    refine r_iload_n X dX2_letPass_36 (pc' := 37) rfl rfl ?_
    refine rN_ishr X dX2_letPass_37 (pc' := 38) rfl (by omega) (by omega) ?_
    refine r_put X fX2 lf_X2_22 rfl dX2_letPass_38 (pc' := 41) rfl (by decide) (by omega) (wC_jd _ _ _ _ _ _ _ _ hj) (Nat.le_of_ble_eq_true rfl) rfl rfl ?_
    rw [wC_jlet hj]
    exact r_vret X r dX2_letPass_41 (by omega) (by omega) rfl rfl (by rw [e2] <;> rfl)
set_option maxRecDepth 100000 in
set_option maxHeartbeats 1000000 in
theorem ct_X2_couldTell (P : Px) (n : Nat) (hn : 59 ≤ n) (h : hw) (ι : Nat → Nat) (φ : Nat → Nat → Nat) (ℓ : Nat → Nat) (lt : Nat → Option Nat) (ρ : Nat → Nat → Option Nat) (ω : Nat → Nat → Nat) (W : Wf ι φ) (j : Nat) (hj : j < 4) (k who made ans : Nat) (nx : Option Nat) (hk : k < n) (hk2 : 37 ≤ k) (hek : h k = kcell P who nx made ans) (hm : made ≤ ι 0) : Ct P MX2_couldTell 0 0 0 [.ref (Bs P + (21 + j)), .ref (Bs P + k), .int (nI (ι 0))] n (wC P h ι φ ℓ lt ρ ω) (some (.int (bI (cB (ι 0 - made ≤ φ 11 j))))) n (wC P h ι φ ℓ lt ρ ω) := by
  refine Ct.of (by decide +kernel) (Nat.le_of_ble_eq_true rfl) rfl (fun K X hnm r => ?_)
  have X : Cx K P RX2 cX2_couldTell 3 0 0 0 := X
  have r : Rt K P (some .boolean) 0 0 _ _ _ := r
  show Z K P _ _ 0 0 0 [some (.ref (Bs P + (21 + j))), some (.ref (Bs P + k)), some (.int (nI (ι 0)))] []
  have b11 := W.v11 j
  have bn := W.now
  refine r_iload_n X dX2_couldTell_0 (pc' := 1) rfl rfl ?_
  refine r_aload_n X dX2_couldTell_1 (pc' := 2) rfl rfl ?_
  refine r_getN X fX3 lf_X2_42 dX2_couldTell_2 (pc' := 5) rfl (by decide) (by omega) ((wC_out (by omega)).trans hek) rfl ?_
  first | refine rN_isub X dX2_couldTell_5 (pc' := 6) rfl (by omega) ?_ | refine r_isub X dX2_couldTell_5 (pc' := 6) rfl ?_
  refine r_aload_n X dX2_couldTell_6 (pc' := 7) rfl rfl ?_
  refine r_get X fX2 lf_X2_9 dX2_couldTell_7 (pc' := 10) rfl (by decide) (by omega) (wC_jd _ _ _ _ _ _ _ _ hj) rfl ?_
  refine rN_icmp_gt X dX2_couldTell_10 (tgt := 17) (by decide) (pc' := 13) rfl (by omega) (by omega) (fun c_10 => ?_) (fun c_10 => ?_)
  · refine r_iconst (v := nI 0) X (by decide) dX2_couldTell_17 (pc' := 18) rfl ?_
    exact r_iret X r dX2_couldTell_18 (by omega) (by omega) rfl (by first | exact hcT (by omega) | exact hcF (by omega)) rfl rfl
  · refine r_iconst (v := nI 1) X (by decide) dX2_couldTell_13 (pc' := 14) rfl ?_
    refine r_goto (tgt := 18) X dX2_couldTell_14 (by decide) ?_
    exact r_iret X r dX2_couldTell_18 (by omega) (by omega) rfl (by first | exact hcT (by omega) | exact hcF (by omega)) rfl rfl
set_option maxRecDepth 100000 in
set_option maxHeartbeats 1000000 in
theorem ct_X2_keptFor_f (P : Px) (n : Nat) (hn : 59 ≤ n) (h : hw) (ι : Nat → Nat) (φ : Nat → Nat → Nat) (ℓ : Nat → Nat) (lt : Nat → Option Nat) (ρ : Nat → Nat → Option Nat) (ω : Nat → Nat → Nat) (W : Wf ι φ) (j : Nat) (hj : j < 4) (kw km ka : Nat → Nat) (L : List Nat) (hL : chn P n h kw km ka (lt j) L) (hb : ∀ a ∈ L, kw a < 10000) (who : Nat) (hwo : who < 10000) (hne : ∀ a ∈ L, kw a ≠ who) : Ct P MX2_keptFor 0 0 0 [.ref (Bs P + (21 + j)), .int (nI who)] n (wC P h ι φ ℓ lt ρ ω) (some .null) n (wC P h ι φ ℓ lt ρ ω) := by
  refine Ct.of (by decide +kernel) (Nat.le_of_ble_eq_true rfl) rfl (fun K X hnm r => ?_)
  have X : Cx K P RX2 cX2_keptFor 3 0 0 0 := X
  have r : Rt K P (some (.object "AskTrust$Kept")) 0 0 _ _ _ := r
  show Z K P _ _ 0 0 0 [some (.ref (Bs P + (21 + j))), some (.int (nI who)), none] []
  have loop : ∀ (L : List Nat) (o : Option Nat), chn P n h kw km ka o L → (∀ a ∈ L, kw a < 10000) → (∀ a ∈ L, kw a ≠ who) → Z K P n (wC P h ι φ ℓ lt ρ ω) 0 0 5 [some (.ref (Bs P + (21 + j))), some (.int (nI who)), some (va_rf (adr P o))] [] := by
    intro L
    induction L with
    | nil =>
      intro o hc _ _
      obtain rfl : o = none := hc
      show Z K P n (wC P h ι φ ℓ lt ρ ω) 0 0 5 [some (.ref (Bs P + (21 + j))), some (.int (nI who)), some .null] []
      refine r_aload_nN X dX2_keptFor_5 (pc' := 6) rfl rfl ?_
      refine r_ifnullN X dX2_keptFor_6 (tgt := 27) (by decide) ?_
      refine r_null X dX2_keptFor_27 (pc' := 28) rfl ?_
      exact r_aret X r dX2_keptFor_28 (by omega) (by omega) (Or.inl rfl) rfl rfl rfl
    | cons k t ih =>
      intro o hc hb hne
      obtain ⟨rfl, h1, h2, nx, h3, h4⟩ := hc
      have hbk := hb k List.mem_cons_self
      have hnk := hne k List.mem_cons_self
      show Z K P n (wC P h ι φ ℓ lt ρ ω) 0 0 5 [some (.ref (Bs P + (21 + j))), some (.int (nI who)), some (.ref (Bs P + k))] []
      refine r_aload_n X dX2_keptFor_5 (pc' := 6) rfl rfl ?_
      refine r_ifnull X dX2_keptFor_6 (pc' := 9) rfl ?_
      refine r_aload_n X dX2_keptFor_9 (pc' := 10) rfl rfl ?_
      refine r_getN X fX3 lf_X2_31 dX2_keptFor_10 (pc' := 13) rfl (by decide) (by omega) ((wC_out (by omega)).trans h3) rfl ?_
      refine r_iload_n X dX2_keptFor_13 (pc' := 14) rfl rfl ?_
      refine rN_icmp_ne X dX2_keptFor_14 (tgt := 19) (by decide) (pc' := 17) rfl (by omega) (by omega) (fun c_14 => ?_) (fun c_14 => ?_)
      · refine r_aload_n X dX2_keptFor_19 (pc' := 20) rfl rfl ?_
        refine r_getN X fX3 lf_X2_36 dX2_keptFor_20 (pc' := 23) rfl (by decide) (by omega) ((wC_out (by omega)).trans h3) rfl ?_
        refine r_astore_nQ (vs' := [_, _, _]) X dX2_keptFor_23 (pc' := 24) rfl (by decide) rfl ?_
        refine r_goto (tgt := 5) X dX2_keptFor_24 (by decide) ?_
        exact ih nx h4 (fun a ha => hb a (List.mem_cons_of_mem _ ha)) (fun a ha => hne a (List.mem_cons_of_mem _ ha))
      · exact absurd c_14 hnk
  refine r_aload_n X dX2_keptFor_0 (pc' := 1) rfl rfl ?_
  refine r_get X fX2 lf_X2_18 dX2_keptFor_1 (pc' := 4) rfl (by decide) (by omega) (wC_jd _ _ _ _ _ _ _ _ hj) rfl ?_
  refine r_astore_nQ (vs' := [_, _, _]) X dX2_keptFor_4 (pc' := 5) rfl (by decide) rfl ?_
  exact loop L _ hL hb hne
set_option maxRecDepth 100000 in
set_option maxHeartbeats 1000000 in
theorem ct_X2_keptFor_t (P : Px) (n : Nat) (hn : 59 ≤ n) (h : hw) (ι : Nat → Nat) (φ : Nat → Nat → Nat) (ℓ : Nat → Nat) (lt : Nat → Option Nat) (ρ : Nat → Nat → Option Nat) (ω : Nat → Nat → Nat) (W : Wf ι φ) (j : Nat) (hj : j < 4) (kw km ka : Nat → Nat) (A B : List Nat) (k0 : Nat) (hL : chn P n h kw km ka (lt j) (A ++ k0 :: B)) (hb : ∀ a ∈ A, kw a < 10000) (who : Nat) (hwo : who < 10000) (hne : ∀ a ∈ A, kw a ≠ who) (hk0 : kw k0 = who) : Ct P MX2_keptFor 0 0 0 [.ref (Bs P + (21 + j)), .int (nI who)] n (wC P h ι φ ℓ lt ρ ω) (some (.ref (Bs P + k0))) n (wC P h ι φ ℓ lt ρ ω) := by
  refine Ct.of (by decide +kernel) (Nat.le_of_ble_eq_true rfl) rfl (fun K X hnm r => ?_)
  have X : Cx K P RX2 cX2_keptFor 3 0 0 0 := X
  have r : Rt K P (some (.object "AskTrust$Kept")) 0 0 _ _ _ := r
  show Z K P _ _ 0 0 0 [some (.ref (Bs P + (21 + j))), some (.int (nI who)), none] []
  have loop : ∀ (A : List Nat) (o : Option Nat), chn P n h kw km ka o (A ++ k0 :: B) → (∀ a ∈ A, kw a < 10000) → (∀ a ∈ A, kw a ≠ who) → Z K P n (wC P h ι φ ℓ lt ρ ω) 0 0 5 [some (.ref (Bs P + (21 + j))), some (.int (nI who)), some (va_rf (adr P o))] [] := by
    intro A
    induction A with
    | nil =>
      intro o hc _ _
      obtain ⟨rfl, h1, h2, nx, h3, h4⟩ := hc
      show Z K P n (wC P h ι φ ℓ lt ρ ω) 0 0 5 [some (.ref (Bs P + (21 + j))), some (.int (nI who)), some (.ref (Bs P + k0))] []
      refine r_aload_n X dX2_keptFor_5 (pc' := 6) rfl rfl ?_
      refine r_ifnull X dX2_keptFor_6 (pc' := 9) rfl ?_
      refine r_aload_n X dX2_keptFor_9 (pc' := 10) rfl rfl ?_
      refine r_getN X fX3 lf_X2_31 dX2_keptFor_10 (pc' := 13) rfl (by decide) (by omega) ((wC_out (by omega)).trans h3) rfl ?_
      refine r_iload_n X dX2_keptFor_13 (pc' := 14) rfl rfl ?_
      refine rN_icmp_ne X dX2_keptFor_14 (tgt := 19) (by decide) (pc' := 17) rfl (by omega) (by omega) (fun c_14 => ?_) (fun c_14 => ?_)
      · exact absurd hk0 c_14
      · refine r_aload_n X dX2_keptFor_17 (pc' := 18) rfl rfl ?_
        exact r_aret X r dX2_keptFor_18 (by omega) (by omega) (Or.inr ⟨_, rfl⟩) rfl rfl rfl
    | cons k t ih =>
      intro o hc hb hne
      obtain ⟨rfl, h1, h2, nx, h3, h4⟩ := hc
      have hbk := hb k List.mem_cons_self
      have hnk := hne k List.mem_cons_self
      show Z K P n (wC P h ι φ ℓ lt ρ ω) 0 0 5 [some (.ref (Bs P + (21 + j))), some (.int (nI who)), some (.ref (Bs P + k))] []
      refine r_aload_n X dX2_keptFor_5 (pc' := 6) rfl rfl ?_
      refine r_ifnull X dX2_keptFor_6 (pc' := 9) rfl ?_
      refine r_aload_n X dX2_keptFor_9 (pc' := 10) rfl rfl ?_
      refine r_getN X fX3 lf_X2_31 dX2_keptFor_10 (pc' := 13) rfl (by decide) (by omega) ((wC_out (by omega)).trans h3) rfl ?_
      refine r_iload_n X dX2_keptFor_13 (pc' := 14) rfl rfl ?_
      refine rN_icmp_ne X dX2_keptFor_14 (tgt := 19) (by decide) (pc' := 17) rfl (by omega) (by omega) (fun c_14 => ?_) (fun c_14 => ?_)
      · refine r_aload_n X dX2_keptFor_19 (pc' := 20) rfl rfl ?_
        refine r_getN X fX3 lf_X2_36 dX2_keptFor_20 (pc' := 23) rfl (by decide) (by omega) ((wC_out (by omega)).trans h3) rfl ?_
        refine r_astore_nQ (vs' := [_, _, _]) X dX2_keptFor_23 (pc' := 24) rfl (by decide) rfl ?_
        refine r_goto (tgt := 5) X dX2_keptFor_24 (by decide) ?_
        exact ih nx h4 (fun a ha => hb a (List.mem_cons_of_mem _ ha)) (fun a ha => hne a (List.mem_cons_of_mem _ ha))
      · exact absurd c_14 hnk
  refine r_aload_n X dX2_keptFor_0 (pc' := 1) rfl rfl ?_
  refine r_get X fX2 lf_X2_18 dX2_keptFor_1 (pc' := 4) rfl (by decide) (by omega) (wC_jd _ _ _ _ _ _ _ _ hj) rfl ?_
  refine r_astore_nQ (vs' := [_, _, _]) X dX2_keptFor_4 (pc' := 5) rfl (by decide) rfl ?_
  exact loop A _ hL hb hne
set_option maxRecDepth 100000 in
set_option maxHeartbeats 1000000 in
theorem ct_X2_tellable (P : Px) (n : Nat) (hn : 59 ≤ n) (h : hw) (ι : Nat → Nat) (φ : Nat → Nat → Nat) (ℓ : Nat → Nat) (lt : Nat → Option Nat) (ρ : Nat → Nat → Option Nat) (ω : Nat → Nat → Nat) (W : Wf ι φ) (j : Nat) (hj : j < 4) (kw km ka : Nat → Nat) (L : List Nat) (hL : chn P n h kw km ka (lt j) L) (hb : ∀ a ∈ L, km a ≤ ι 0) : Ct P MX2_tellable 1 0 0 [.ref (Bs P + (21 + j)), .int (nI (ι 0))] n (wC P h ι φ ℓ lt ρ ω) (some (.int (nI (lcn (fun k => cB (ι 0 - km k ≤ φ 11 j)) L)))) n (wC P h ι φ ℓ lt ρ ω) := by
  refine Ct.of (by decide +kernel) (Nat.le_of_ble_eq_true rfl) rfl (fun K X hnm r => ?_)
  have X : Cx K P RX2 cX2_tellable 4 1 0 0 := X
  have r : Rt K P (some .int) 0 0 _ _ _ := r
  show Z K P _ _ 0 0 0 [some (.ref (Bs P + (21 + j))), some (.int (nI (ι 0))), none, none] []
  obtain ⟨tot, htt⟩ : ∃ tot, tot = lcn (fun k => cB (ι 0 - km k ≤ φ 11 j)) L := ⟨_, rfl⟩
  rw [← htt] at r
  have loop : ∀ (L : List Nat) (o : Option Nat) (c : Nat), chn P n h kw km ka o L → (∀ a ∈ L, km a ≤ ι 0) → c + lcn (fun k => cB (ι 0 - km k ≤ φ 11 j)) L = tot → Z K P n (wC P h ι φ ℓ lt ρ ω) 0 0 7 [some (.ref (Bs P + (21 + j))), some (.int (nI (ι 0))), some (.int (nI c)), some (va_rf (adr P o))] [] := by
    intro L
    induction L with
    | nil =>
      intro o c hc _ htot
      obtain rfl : o = none := hc
      show Z K P n (wC P h ι φ ℓ lt ρ ω) 0 0 7 [some (.ref (Bs P + (21 + j))), some (.int (nI (ι 0))), some (.int (nI c)), some .null] []
      refine r_aload_nN X dX2_tellable_7 (pc' := 8) rfl rfl ?_
      refine r_ifnullN X dX2_tellable_8 (tgt := 31) (by decide) ?_
      refine r_iload_n X dX2_tellable_31 (pc' := 32) rfl rfl ?_
      exact r_iret X r dX2_tellable_32 (by omega) (by omega) rfl (hvN (by rw [← htot]; rfl)) rfl rfl
    | cons k t ih =>
      intro o c hc hb htot
      obtain ⟨rfl, h1, h2, nx, h3, h4⟩ := hc
      have hbk := hb k List.mem_cons_self
      show Z K P n (wC P h ι φ ℓ lt ρ ω) 0 0 7 [some (.ref (Bs P + (21 + j))), some (.int (nI (ι 0))), some (.int (nI c)), some (.ref (Bs P + k))] []
      refine r_aload_n X dX2_tellable_7 (pc' := 8) rfl rfl ?_
      refine r_ifnull X dX2_tellable_8 (pc' := 11) rfl ?_
      refine r_aload_n X dX2_tellable_11 (pc' := 12) rfl rfl ?_
      refine r_aload_n X dX2_tellable_12 (pc' := 13) rfl rfl ?_
      refine r_iload_n X dX2_tellable_13 (pc' := 14) rfl rfl ?_
      refine r_callV (As := [_, _]) X okX2_couldTell lm_X2_45 dX2_tellable_14 (pc' := 17) rfl (ct_X2_couldTell P n hn h ι φ ℓ lt ρ ω W j hj k _ _ _ _ h2 (by omega) h3 hbk) (by omega) (wC_jd _ _ _ _ _ _ _ _ hj) rfl rfl rfl rfl (Nat.le_of_ble_eq_true rfl) (by omega) (by omega) (by omega) ?_
      dsimp only [Option.toList, List.cons_append, List.nil_append]
      refine rB_if_eq X dX2_tellable_17 (tgt := 23) (by decide) (pc' := 20) rfl (fun c_17 => ?_) (fun c_17 => ?_)
      · refine r_aload_n X dX2_tellable_23 (pc' := 24) rfl rfl ?_
        refine r_getN X fX3 lf_X2_36 dX2_tellable_24 (pc' := 27) rfl (by decide) (by omega) ((wC_out (by omega)).trans h3) rfl ?_
        refine r_astore_nQ (vs' := [_, _, _, _]) X dX2_tellable_27 (pc' := 28) rfl (by decide) rfl ?_
        refine r_goto (tgt := 7) X dX2_tellable_28 (by decide) ?_
        exact ih nx _ h4 (fun a ha => hb a (List.mem_cons_of_mem _ ha)) (by rw [← htot]; show _ = c + ((if cB (ι 0 - km k ≤ φ 11 j) = true then 1 else 0) + lcn _ t); rw [c_17]; simp only [if_true, if_false, Bool.false_eq_true]; omega)
      · refine r_iincN (vs' := [_, _, _, _]) X dX2_tellable_20 (pc' := 23) rfl (by decide) rfl rfl ?_
        refine r_aload_n X dX2_tellable_23 (pc' := 24) rfl rfl ?_
        refine r_getN X fX3 lf_X2_36 dX2_tellable_24 (pc' := 27) rfl (by decide) (by omega) ((wC_out (by omega)).trans h3) rfl ?_
        refine r_astore_nQ (vs' := [_, _, _, _]) X dX2_tellable_27 (pc' := 28) rfl (by decide) rfl ?_
        refine r_goto (tgt := 7) X dX2_tellable_28 (by decide) ?_
        exact ih nx _ h4 (fun a ha => hb a (List.mem_cons_of_mem _ ha)) (by rw [← htot]; show _ = c + ((if cB (ι 0 - km k ≤ φ 11 j) = true then 1 else 0) + lcn _ t); rw [c_17]; simp only [if_true, if_false, Bool.false_eq_true]; omega)
  refine r_iconst (v := nI 0) X (by decide) dX2_tellable_0 (pc' := 1) rfl ?_
  refine r_istore_n (vs' := [_, _, _, _]) X dX2_tellable_1 (pc' := 2) rfl (by decide) rfl ?_
  refine r_aload_n X dX2_tellable_2 (pc' := 3) rfl rfl ?_
  refine r_get X fX2 lf_X2_18 dX2_tellable_3 (pc' := 6) rfl (by decide) (by omega) (wC_jd _ _ _ _ _ _ _ _ hj) rfl ?_
  refine r_astore_nQ (vs' := [_, _, _, _]) X dX2_tellable_6 (pc' := 7) rfl (by decide) rfl ?_
  exact loop L _ 0 hL hb (by rw [htt, Nat.zero_add])
set_option maxRecDepth 100000 in
set_option maxHeartbeats 1000000 in
theorem ct_X3_init (P : Px) (n : Nat) (h : hw) (k who : Nat) (o : Option Nat) (hk : k < n) (he : h k = .inr (3, [.int 0, .null, .int 0, .int 0])) : Ct P MX3_init 1 0 0 [.ref (Bs P + k), .int (nI who), va_rf (adr P o)] n h none n (hset h k (kcell P who o 0 0)) := by
  refine Ct.of (by decide +kernel) (Nat.le_of_ble_eq_true rfl) (by cases o <;> rfl) (fun K X hnm r => ?_)
  have X : Cx K P RX3 cX3_init 3 1 0 0 := X
  have r : Rt K P none 0 0 _ _ _ := r
  show Z K P _ _ 0 0 0 [some (.ref (Bs P + k)), some (.int (nI who)), some (va_rf (adr P o))] []
  refine r_aload_n X dX3_init_0 (pc' := 1) rfl rfl ?_
  refine r_obj X lm_X3_1 ob_i ob_c dX3_init_1 (pc' := 4) rfl (by omega) (Nat.le_of_ble_eq_true rfl) ?_
  refine r_aload_n X dX3_init_4 (pc' := 5) rfl rfl ?_
  refine r_iload_n X dX3_init_5 (pc' := 6) rfl rfl ?_
  refine r_putF X hnm fX3 lf_X3_7 rfl rfl dX3_init_6 (pc' := 9) rfl (by decide) (by omega) he (Nat.le_of_ble_eq_true rfl) rfl rfl ?_
  try rw [hset_ss]
  refine r_aload_n X dX3_init_9 (pc' := 10) rfl rfl ?_
  refine r_aload_nQ X dX3_init_10 (pc' := 11) rfl rfl ?_
  refine r_putF X hnm fX3 lf_X3_13 rfl rfl dX3_init_11 (pc' := 14) rfl (by decide) (by omega) (hset_s _ _ _) (Nat.le_of_ble_eq_true rfl) (by first | exact rfn _ _ | exact rff _ _) (by first | exact rfn _ _ | exact rff _ _) ?_
  try rw [hset_ss]
  exact r_vret X r dX3_init_14 (by omega) (by omega) rfl rfl (by first | rfl | (rw [hset_ss] <;> rfl))
set_option maxRecDepth 100000 in
set_option maxHeartbeats 1000000 in
theorem ct_X2_keepMore (P : Px) (n : Nat) (hn : 59 ≤ n) (h : hw) (ι : Nat → Nat) (φ : Nat → Nat → Nat) (ℓ : Nat → Nat) (lt : Nat → Option Nat) (ρ : Nat → Nat → Option Nat) (ω : Nat → Nat → Nat) (W : Wf ι φ) (j : Nat) (hj : j < 4) (who : Nat) : Ct P MX2_keepMore 2 1 4 [.ref (Bs P + (21 + j)), .int (nI who)] n (wC P h ι φ ℓ lt ρ ω) (some (.ref (Bs P + n))) (n + 1) (wC P (hset h n (kcell P who (lt j) 0 0)) ι φ ℓ (upo lt j (some n)) ρ ω) := by
  refine Ct.of (by decide +kernel) (Nat.le_of_ble_eq_true rfl) rfl (fun K X hnm r => ?_)
  have X : Cx K P RX2 cX2_keepMore 2 2 1 4 := X
  have r : Rt K P (some (.object "AskTrust$Kept")) 1 4 _ _ _ := r
  show Z K P _ _ 0 0 0 [some (.ref (Bs P + (21 + j))), some (.int (nI who))] []
  refine r_aload_n X dX2_keepMore_0 (pc' := 1) rfl rfl ?_
  refine r_new (fs := [.int 0, .null, .int 0, .int 0]) X fX3 lc_X2_32 insX3 iniX3 (fun j hj => by match j, hj with | 0, _ => rfl | 1, _ => rfl | 2, _ => rfl | 3, _ => rfl) (by omega) (by omega) dX2_keepMore_1 (pc' := 4) rfl ?_
  rw [wC_g (by omega)]
  refine r_dup X rfl dX2_keepMore_4 (pc' := 5) rfl ?_
  refine r_iload_n X dX2_keepMore_5 (pc' := 6) rfl rfl ?_
  refine r_aload_n X dX2_keepMore_6 (pc' := 7) rfl rfl ?_
  refine r_get X fX2 lf_X2_18 dX2_keepMore_7 (pc' := 10) rfl (by decide) (by omega) (wC_jd _ _ _ _ _ _ _ _ hj) rfl ?_
  refine r_callI (As := [_, _]) X okX3_init lm_X2_39 dX2_keepMore_10 (pc' := 13) rfl (ct_X3_init P (n + 1) _ n who (lt j) (by omega) ((wC_out (by omega)).trans (hset_s _ _ _))) rfl rfl (Nat.le_of_ble_eq_true rfl) (by omega) (by omega) (by omega) ?_
  dsimp only [Option.toList, List.cons_append, List.nil_append]
  rw [wC_g (by omega), hset_ss]
  refine r_put X fX2 lf_X2_18 rfl dX2_keepMore_13 (pc' := 16) rfl (by decide) (by omega) (wC_jd _ _ _ _ _ _ _ _ hj) (Nat.le_of_ble_eq_true rfl) rfl rfl ?_
  first | rw [wC_jlatN hj] | rw [wC_jlatS hj]
  refine r_aload_n X dX2_keepMore_16 (pc' := 17) rfl rfl ?_
  refine r_get X fX2 lf_X2_18 dX2_keepMore_17 (pc' := 20) rfl (by decide) (by omega) (wC_jd _ _ _ _ _ _ _ _ hj) rfl ?_
  rw [show va_rf (adr P (upo lt j (some n) j)) = .ref (Bs P + n) by unfold upo; rw [if_pos rfl]; rfl]
  exact r_aret X r dX2_keepMore_20 (by omega) (by omega) (Or.inr ⟨_, rfl⟩) rfl rfl rfl
