/-! ===== the class's small methods ===== -/
noncomputable def cB (p : Prop) : Bool := @decide p (Classical.propDecidable p)
theorem cB_t {p : Prop} (h : p) : cB p = true := @decide_eq_true _ (Classical.propDecidable _) h
theorem cB_f {p : Prop} (h : ¬ p) : cB p = false := @decide_eq_false _ (Classical.propDecidable _) h
theorem cB_of {p : Prop} (h : cB p = true) : p := @of_decide_eq_true _ (Classical.propDecidable _) h
theorem cB_nf {p : Prop} (h : cB p = false) : ¬ p := fun q => by rw [cB_t q] at h; cases h
theorem cB_iff {p q : Prop} (h : p ↔ q) : cB p = cB q := by rw [propext h]
theorem hcT {p : Prop} (hp : p) : some (Value.int (nI 1)) = some (.int (bI (cB p))) := hvT (cB_t hp)
theorem hcF {p : Prop} (hp : ¬ p) : some (Value.int (nI 0)) = some (.int (bI (cB p))) := hvF (cB_f hp)
theorem and3 (x : Nat) : x &&& 3 = x % 4 := Nat.and_two_pow_sub_one_eq_mod x 2
theorem and1 (x : Nat) : x &&& 1 = x % 2 := Nat.and_two_pow_sub_one_eq_mod x 1
def mvN (m s : Nat) : Nat := if s = 0 then m / 16 % 4 else if s = 1 then m / 4 % 4 else m % 4
theorem mvN_le (m s : Nat) : mvN m s ≤ 3 := by
  unfold mvN
  repeat' split
  all_goals omega
theorem mvN_code (code s : Nat) : mvN (code / 80 % 64) s = markN code s := by
  unfold mvN markN
  repeat' split
  all_goals omega
theorem mvN_and {m s : Nat} (hs : s < 3) : (m / 2 ^ (2 * (2 - s)) &&& 3) = mvN m s := by
  rw [and3]
  match s, hs with
  | 0, _ => rfl
  | 1, _ => rfl
  | 2, _ => show m / 2 ^ 0 % 4 = m % 4; simp
def rfR (a t : Nat) : Prop := (t &&& a / 10000) = a / 10000
def rfM (a m su : Nat) : Prop := a % 100 ≤ su ∧ (a / 1000 % 10 < 3 → a / 100 % 10 ≤ mvN m (a / 1000 % 10))
def rfS (b sp : Nat) : Prop := ¬ (b / 10000 / 2 ^ (sp / 20) &&& 1) = 0 ∧ ¬ (b / 100 % 100 / 2 ^ (sp / 5 % 4) &&& 1) = 0 ∧ b / 10 % 10 ≤ sp % 5 ∧ sp % 5 ≤ b % 10
theorem FitP_split {a b su code : Nat} (hc : code < 81920) : FitP a b su code ↔ rfR a (code / 5120) ∧ rfM a (code / 80 % 64) su ∧ rfS b (code % 80) := by
  unfold FitP rfR rfM rfS
  rw [mvN_code, show code % 80 / 20 = code / 20 % 4 by omega, show code % 80 / 5 % 4 = code / 5 % 4 by omega, show code % 80 % 5 = code % 5 by omega]
  constructor
  · rintro ⟨h1, h2, h3, h4, h5, h6, h7⟩; exact ⟨h1, ⟨h3, h2⟩, h4, h5, h6, h7⟩
  · rintro ⟨h1, ⟨h3, h2⟩, h4, h5, h6, h7⟩; exact ⟨h1, h2, h3, h4, h5, h6, h7⟩
abbrev rcell (a b s : Nat) : va_E := .inr (6, [.int (nI (a / 10000)), .int (nI (a / 1000 % 10)), .int (nI (a / 100 % 10)), .int (nI (a % 100)), .int (nI (b / 10000)), .int (nI (b / 100 % 100)), .int (nI (b / 10 % 10)), .int (nI (b % 10)), .int (nI s)])
abbrev lcell (w : Nat) : va_E := .inr (4, [.int (nI (w / 10000)), .int (nI (w / 1000 % 10)), .int (nI (w / 100 % 10)), .int (nI (w / 10 % 10)), .int (nI (w % 10))])
abbrev kcell (P : Px) (who : Nat) (nx : Option Nat) (made ans : Nat) : va_E := .inr (3, [.int (nI who), va_rf (adr P nx), .int (nI made), .int (nI ans)])
def sm (φ : Nat → Nat → Nat) (m : Nat) : Nat → Nat
  | 0 => 0
  | s + 1 => sm φ m s + mvN m s * φ 4 s
theorem sm_sure (φ : Nat → Nat → Nat) (code : Nat) : sm φ (code / 80 % 64) 3 = sureN φ code := by
  simp only [sm, sureN, mvN_code, Nat.zero_add]
set_option maxRecDepth 100000 in
set_option maxHeartbeats 4000000 in
theorem ct_X8_hasBit (P : Px) (n : Nat) (h : hw) (a b : Nat) (ha : a < 2 ^ 31) (hb : b < 32) : Ct P MX8_hasBit 0 0 0 [.int (nI a), .int (nI b)] n h (some (.int (bI (cB (¬ (a / 2 ^ b &&& 1) = 0))))) n h := by
  refine Ct.of (by decide +kernel) (Nat.le_of_ble_eq_true rfl) rfl (fun K X hnm r => ?_)
  have X : Cx K P RX8 cX8_hasBit 2 0 0 0 := X
  have r : Rt K P (some .boolean) 0 0 _ _ _ := r
  show Z K P _ _ 0 0 0 [some (.int (nI a)), some (.int (nI b))] []
  refine r_iload_n X dX8_hasBit_0 (pc' := 1) rfl rfl ?_
  refine r_iload_n X dX8_hasBit_1 (pc' := 2) rfl rfl ?_
  first | refine rN_ishr X dX8_hasBit_2 (pc' := 3) rfl (by omega) (by omega) ?_ | refine r_ishr X dX8_hasBit_2 (pc' := 3) rfl ?_
  refine r_iconst (v := nI 1) X (by decide) dX8_hasBit_3 (pc' := 4) rfl ?_
  first | refine rN_iand X dX8_hasBit_4 (pc' := 5) rfl ?_ | refine r_iand X dX8_hasBit_4 (pc' := 5) rfl ?_
  refine r_iconst (v := nI 1) X (by decide) dX8_hasBit_5 (pc' := 6) rfl ?_
  have b1 : (a / 2 ^ b &&& 1) ≤ 1 := Nat.and_le_right
  refine rN_icmp_ne X dX8_hasBit_6 (tgt := 13) (by decide) (pc' := 9) rfl (by omega) (by omega) (fun c_6 => ?_) (fun c_6 => ?_)
  · refine r_iconst (v := nI 0) X (by decide) dX8_hasBit_13 (pc' := 14) rfl ?_
    exact r_iret X r dX8_hasBit_14 (by omega) (by omega) rfl (by first | exact hcT (by omega) | exact hcF (by omega)) rfl rfl
  · refine r_iconst (v := nI 1) X (by decide) dX8_hasBit_9 (pc' := 10) rfl ?_
    refine r_goto (tgt := 14) X dX8_hasBit_10 (by decide) ?_
    exact r_iret X r dX8_hasBit_14 (by omega) (by omega) rfl (by first | exact hcT (by omega) | exact hcF (by omega)) rfl rfl
set_option maxRecDepth 100000 in
set_option maxHeartbeats 4000000 in
theorem ct_X8_valueIn (P : Px) (n : Nat) (h : hw) (m s : Nat) (hm : m < 2 ^ 31) (hs : s < 3) : Ct P MX8_valueIn 0 0 0 [.int (nI m), .int (nI s)] n h (some (.int (nI (mvN m s)))) n h := by
  refine Ct.of (by decide +kernel) (Nat.le_of_ble_eq_true rfl) rfl (fun K X hnm r => ?_)
  have X : Cx K P RX8 cX8_valueIn 2 0 0 0 := X
  have r : Rt K P (some .int) 0 0 _ _ _ := r
  show Z K P _ _ 0 0 0 [some (.int (nI m)), some (.int (nI s))] []
  refine r_iload_n X dX8_valueIn_0 (pc' := 1) rfl rfl ?_
  refine r_iconst (v := nI 2) X (by decide) dX8_valueIn_1 (pc' := 2) rfl ?_
  refine r_iconst (v := nI 2) X (by decide) dX8_valueIn_2 (pc' := 3) rfl ?_
  refine r_iload_n X dX8_valueIn_3 (pc' := 4) rfl rfl ?_
  first | refine rN_isub X dX8_valueIn_4 (pc' := 5) rfl (by omega) ?_ | refine r_isub X dX8_valueIn_4 (pc' := 5) rfl ?_
  first | refine rN_imul X dX8_valueIn_5 (pc' := 6) rfl ?_ | refine r_imul X dX8_valueIn_5 (pc' := 6) rfl ?_
  first | refine rN_ishr X dX8_valueIn_6 (pc' := 7) rfl (by omega) (by omega) ?_ | refine r_ishr X dX8_valueIn_6 (pc' := 7) rfl ?_
  refine r_iconst (v := nI 3) X (by decide) dX8_valueIn_7 (pc' := 8) rfl ?_
  first | refine rN_iand X dX8_valueIn_8 (pc' := 9) rfl ?_ | refine r_iand X dX8_valueIn_8 (pc' := 9) rfl ?_
  exact r_iret X r dX8_valueIn_9 (by omega) (by omega) rfl (hvN (mvN_and hs)) rfl rfl
set_option maxRecDepth 100000 in
set_option maxHeartbeats 4000000 in
theorem ct_X8_isAsk (P : Px) (n : Nat) (h : hw) (x : Int32) : Ct P MX8_isAsk 1 0 0 [.int x] n h (some (.int (bI (askQ x)))) n h := by
  refine Ct.of (by decide +kernel) (Nat.le_of_ble_eq_true rfl) rfl (fun K X hnm r => ?_)
  have X : Cx K P RX8 cX8_isAsk 1 1 0 0 := X
  have r : Rt K P (some .boolean) 0 0 _ _ _ := r
  show Z K P _ _ 0 0 0 [some (.int x)] []
  refine r_iload_n X dX8_isAsk_0 (pc' := 1) rfl rfl ?_
  refine r_sipush (v := nI 10000) X (by decide) dX8_isAsk_1 (pc' := 4) rfl ?_
  refine r_callS (As := [_, _]) X okX8_isBelow lm_X8_72 dX8_isAsk_4 (pc' := 7) rfl (ct_X8_isBelow P n h _ _) rfl rfl (Nat.le_of_ble_eq_true rfl) (by omega) (by omega) (by omega) ?_
  dsimp only [Option.toList, List.cons_append, List.nil_append]
  rw [inB_Q x 9999 (by decide)]
  refine rB_if_eq X dX8_isAsk_7 (tgt := 22) (by decide) (pc' := 10) rfl (fun c_7 => ?_) (fun c_7 => ?_)
  · refine r_iconst (v := nI 0) X (by decide) dX8_isAsk_22 (pc' := 23) rfl ?_
    exact r_iret X r dX8_isAsk_23 (by omega) (by omega) rfl (by first | exact hvF (askQ_f c_7) | exact hvT (by rw [askQ_n (by omega)]; exact decide_eq_true (by omega)) | exact hvF (by rw [askQ_n (by omega)]; exact decide_eq_false (by omega))) rfl rfl
  · obtain ⟨k, hk, rfl⟩ := inQ_of (by decide) c_7
    refine r_iload_n X dX8_isAsk_10 (pc' := 11) rfl rfl ?_
    refine r_bipush (v := nI 10) X (by decide) dX8_isAsk_11 (pc' := 13) rfl ?_
    first | refine rN_irem X dX8_isAsk_13 (pc' := 14) rfl (by omega) (by omega) (by omega) ?_ | refine r_irem X (by decide) dX8_isAsk_13 (pc' := 14) rfl ?_
    refine r_iconst (v := nI 4) X (by decide) dX8_isAsk_14 (pc' := 15) rfl ?_
    refine rN_icmp_ge X dX8_isAsk_15 (tgt := 22) (by decide) (pc' := 18) rfl (by omega) (by omega) (fun c_15 => ?_) (fun c_15 => ?_)
    · refine r_iconst (v := nI 0) X (by decide) dX8_isAsk_22 (pc' := 23) rfl ?_
      exact r_iret X r dX8_isAsk_23 (by omega) (by omega) rfl (by first | exact hvF (askQ_f c_7) | exact hvT (by rw [askQ_n (by omega)]; exact decide_eq_true (by omega)) | exact hvF (by rw [askQ_n (by omega)]; exact decide_eq_false (by omega))) rfl rfl
    · refine r_iconst (v := nI 1) X (by decide) dX8_isAsk_18 (pc' := 19) rfl ?_
      refine r_goto (tgt := 23) X dX8_isAsk_19 (by decide) ?_
      exact r_iret X r dX8_isAsk_23 (by omega) (by omega) rfl (by first | exact hvF (askQ_f c_7) | exact hvT (by rw [askQ_n (by omega)]; exact decide_eq_true (by omega)) | exact hvF (by rw [askQ_n (by omega)]; exact decide_eq_false (by omega))) rfl rfl
set_option maxRecDepth 100000 in
set_option maxHeartbeats 4000000 in
theorem ct_X6_canAsk (P : Px) (n : Nat) (h : hw) (x : Int32) : Ct P MX6_canAsk 0 0 0 [.int x] n h (some (.int (bI (cB (¬ x < 0 ∧ whatP (tn x)))))) n h := by
  refine Ct.of (by decide +kernel) (Nat.le_of_ble_eq_true rfl) rfl (fun K X hnm r => ?_)
  have X : Cx K P RX6 cX6_canAsk 1 0 0 0 := X
  have r : Rt K P (some .boolean) 0 0 _ _ _ := r
  show Z K P _ _ 0 0 0 [some (.int x)] []
  refine r_iload_n X dX6_canAsk_0 (pc' := 1) rfl rfl ?_
  refine r_if_lt X dX6_canAsk_1 (tgt := 41) (by decide) (pc' := 4) rfl (fun c_1 => ?_) (fun c_1 => ?_)
  · refine r_iconst (v := nI 0) X (by decide) dX6_canAsk_41 (pc' := 42) rfl ?_
    exact r_iret X r dX6_canAsk_42 (by omega) (by omega) rfl (by first | exact hcT ⟨nI_pos ha, by rw [tn_n ha]; unfold whatP; omega⟩ | exact hcF (fun q => by obtain ⟨q1, q2⟩ := q; first | exact q1 c_1 | (rw [tn_n ha] at q2; unfold whatP at q2; omega))) rfl rfl
  · obtain ⟨a, ha, rfl⟩ := nI_of c_1
    refine r_iload_n X dX6_canAsk_4 (pc' := 5) rfl rfl ?_
    refine r_sipush (v := nI 10000) X (by decide) dX6_canAsk_5 (pc' := 8) rfl ?_
    first | refine rN_idiv X dX6_canAsk_8 (pc' := 9) rfl (by omega) (by omega) (by omega) ?_ | refine r_idiv X (by decide) dX6_canAsk_8 (pc' := 9) rfl ?_
    refine r_bipush (v := nI 16) X (by decide) dX6_canAsk_9 (pc' := 11) rfl ?_
    refine rN_icmp_ge X dX6_canAsk_11 (tgt := 41) (by decide) (pc' := 14) rfl (by omega) (by omega) (fun c_11 => ?_) (fun c_11 => ?_)
    · refine r_iconst (v := nI 0) X (by decide) dX6_canAsk_41 (pc' := 42) rfl ?_
      exact r_iret X r dX6_canAsk_42 (by omega) (by omega) rfl (by first | exact hcT ⟨nI_pos ha, by rw [tn_n ha]; unfold whatP; omega⟩ | exact hcF (fun q => by obtain ⟨q1, q2⟩ := q; first | exact q1 c_1 | (rw [tn_n ha] at q2; unfold whatP at q2; omega))) rfl rfl
    · refine r_iload_n X dX6_canAsk_14 (pc' := 15) rfl rfl ?_
      refine r_sipush (v := nI 1000) X (by decide) dX6_canAsk_15 (pc' := 18) rfl ?_
      first | refine rN_idiv X dX6_canAsk_18 (pc' := 19) rfl (by omega) (by omega) (by omega) ?_ | refine r_idiv X (by decide) dX6_canAsk_18 (pc' := 19) rfl ?_
      refine r_bipush (v := nI 10) X (by decide) dX6_canAsk_19 (pc' := 21) rfl ?_
      first | refine rN_irem X dX6_canAsk_21 (pc' := 22) rfl (by omega) (by omega) (by omega) ?_ | refine r_irem X (by decide) dX6_canAsk_21 (pc' := 22) rfl ?_
      refine r_iconst (v := nI 3) X (by decide) dX6_canAsk_22 (pc' := 23) rfl ?_
      refine rN_icmp_gt X dX6_canAsk_23 (tgt := 41) (by decide) (pc' := 26) rfl (by omega) (by omega) (fun c_23 => ?_) (fun c_23 => ?_)
      · refine r_iconst (v := nI 0) X (by decide) dX6_canAsk_41 (pc' := 42) rfl ?_
        exact r_iret X r dX6_canAsk_42 (by omega) (by omega) rfl (by first | exact hcT ⟨nI_pos ha, by rw [tn_n ha]; unfold whatP; omega⟩ | exact hcF (fun q => by obtain ⟨q1, q2⟩ := q; first | exact q1 c_1 | (rw [tn_n ha] at q2; unfold whatP at q2; omega))) rfl rfl
      · refine r_iload_n X dX6_canAsk_26 (pc' := 27) rfl rfl ?_
        refine r_bipush (v := nI 100) X (by decide) dX6_canAsk_27 (pc' := 29) rfl ?_
        first | refine rN_idiv X dX6_canAsk_29 (pc' := 30) rfl (by omega) (by omega) (by omega) ?_ | refine r_idiv X (by decide) dX6_canAsk_29 (pc' := 30) rfl ?_
        refine r_bipush (v := nI 10) X (by decide) dX6_canAsk_30 (pc' := 32) rfl ?_
        first | refine rN_irem X dX6_canAsk_32 (pc' := 33) rfl (by omega) (by omega) (by omega) ?_ | refine r_irem X (by decide) dX6_canAsk_32 (pc' := 33) rfl ?_
        refine r_iconst (v := nI 3) X (by decide) dX6_canAsk_33 (pc' := 34) rfl ?_
        refine rN_icmp_gt X dX6_canAsk_34 (tgt := 41) (by decide) (pc' := 37) rfl (by omega) (by omega) (fun c_34 => ?_) (fun c_34 => ?_)
        · refine r_iconst (v := nI 0) X (by decide) dX6_canAsk_41 (pc' := 42) rfl ?_
          exact r_iret X r dX6_canAsk_42 (by omega) (by omega) rfl (by first | exact hcT ⟨nI_pos ha, by rw [tn_n ha]; unfold whatP; omega⟩ | exact hcF (fun q => by obtain ⟨q1, q2⟩ := q; first | exact q1 c_1 | (rw [tn_n ha] at q2; unfold whatP at q2; omega))) rfl rfl
        · refine r_iconst (v := nI 1) X (by decide) dX6_canAsk_37 (pc' := 38) rfl ?_
          refine r_goto (tgt := 42) X dX6_canAsk_38 (by decide) ?_
          exact r_iret X r dX6_canAsk_42 (by omega) (by omega) rfl (by first | exact hcT ⟨nI_pos ha, by rw [tn_n ha]; unfold whatP; omega⟩ | exact hcF (fun q => by obtain ⟨q1, q2⟩ := q; first | exact q1 c_1 | (rw [tn_n ha] at q2; unfold whatP at q2; omega))) rfl rfl
set_option maxRecDepth 100000 in
set_option maxHeartbeats 4000000 in
theorem ct_X6_canStand (P : Px) (n : Nat) (h : hw) (x : Int32) : Ct P MX6_canStand 0 0 0 [.int x] n h (some (.int (bI (cB (¬ x < 0 ∧ whereP (tn x)))))) n h := by
  refine Ct.of (by decide +kernel) (Nat.le_of_ble_eq_true rfl) rfl (fun K X hnm r => ?_)
  have X : Cx K P RX6 cX6_canStand 1 0 0 0 := X
  have r : Rt K P (some .boolean) 0 0 _ _ _ := r
  show Z K P _ _ 0 0 0 [some (.int x)] []
  refine r_iload_n X dX6_canStand_0 (pc' := 1) rfl rfl ?_
  refine r_if_lt X dX6_canStand_1 (tgt := 52) (by decide) (pc' := 4) rfl (fun c_1 => ?_) (fun c_1 => ?_)
  · refine r_iconst (v := nI 0) X (by decide) dX6_canStand_52 (pc' := 53) rfl ?_
    exact r_iret X r dX6_canStand_53 (by omega) (by omega) rfl (by first | exact hcT ⟨nI_pos ha, by rw [tn_n ha]; unfold whereP; omega⟩ | exact hcF (fun q => by obtain ⟨q1, q2⟩ := q; first | exact q1 c_1 | (rw [tn_n ha] at q2; unfold whereP at q2; omega))) rfl rfl
  · obtain ⟨a, ha, rfl⟩ := nI_of c_1
    refine r_iload_n X dX6_canStand_4 (pc' := 5) rfl rfl ?_
    refine r_sipush (v := nI 10000) X (by decide) dX6_canStand_5 (pc' := 8) rfl ?_
    first | refine rN_idiv X dX6_canStand_8 (pc' := 9) rfl (by omega) (by omega) (by omega) ?_ | refine r_idiv X (by decide) dX6_canStand_8 (pc' := 9) rfl ?_
    refine r_bipush (v := nI 16) X (by decide) dX6_canStand_9 (pc' := 11) rfl ?_
    refine rN_icmp_ge X dX6_canStand_11 (tgt := 52) (by decide) (pc' := 14) rfl (by omega) (by omega) (fun c_11 => ?_) (fun c_11 => ?_)
    · refine r_iconst (v := nI 0) X (by decide) dX6_canStand_52 (pc' := 53) rfl ?_
      exact r_iret X r dX6_canStand_53 (by omega) (by omega) rfl (by first | exact hcT ⟨nI_pos ha, by rw [tn_n ha]; unfold whereP; omega⟩ | exact hcF (fun q => by obtain ⟨q1, q2⟩ := q; first | exact q1 c_1 | (rw [tn_n ha] at q2; unfold whereP at q2; omega))) rfl rfl
    · refine r_iload_n X dX6_canStand_14 (pc' := 15) rfl rfl ?_
      refine r_bipush (v := nI 100) X (by decide) dX6_canStand_15 (pc' := 17) rfl ?_
      first | refine rN_idiv X dX6_canStand_17 (pc' := 18) rfl (by omega) (by omega) (by omega) ?_ | refine r_idiv X (by decide) dX6_canStand_17 (pc' := 18) rfl ?_
      refine r_bipush (v := nI 100) X (by decide) dX6_canStand_18 (pc' := 20) rfl ?_
      first | refine rN_irem X dX6_canStand_20 (pc' := 21) rfl (by omega) (by omega) (by omega) ?_ | refine r_irem X (by decide) dX6_canStand_20 (pc' := 21) rfl ?_
      refine r_bipush (v := nI 16) X (by decide) dX6_canStand_21 (pc' := 23) rfl ?_
      refine rN_icmp_ge X dX6_canStand_23 (tgt := 52) (by decide) (pc' := 26) rfl (by omega) (by omega) (fun c_23 => ?_) (fun c_23 => ?_)
      · refine r_iconst (v := nI 0) X (by decide) dX6_canStand_52 (pc' := 53) rfl ?_
        exact r_iret X r dX6_canStand_53 (by omega) (by omega) rfl (by first | exact hcT ⟨nI_pos ha, by rw [tn_n ha]; unfold whereP; omega⟩ | exact hcF (fun q => by obtain ⟨q1, q2⟩ := q; first | exact q1 c_1 | (rw [tn_n ha] at q2; unfold whereP at q2; omega))) rfl rfl
      · refine r_iload_n X dX6_canStand_26 (pc' := 27) rfl rfl ?_
        refine r_bipush (v := nI 10) X (by decide) dX6_canStand_27 (pc' := 29) rfl ?_
        first | refine rN_idiv X dX6_canStand_29 (pc' := 30) rfl (by omega) (by omega) (by omega) ?_ | refine r_idiv X (by decide) dX6_canStand_29 (pc' := 30) rfl ?_
        refine r_bipush (v := nI 10) X (by decide) dX6_canStand_30 (pc' := 32) rfl ?_
        first | refine rN_irem X dX6_canStand_32 (pc' := 33) rfl (by omega) (by omega) (by omega) ?_ | refine r_irem X (by decide) dX6_canStand_32 (pc' := 33) rfl ?_
        refine r_iload_n X dX6_canStand_33 (pc' := 34) rfl rfl ?_
        refine r_bipush (v := nI 10) X (by decide) dX6_canStand_34 (pc' := 36) rfl ?_
        first | refine rN_irem X dX6_canStand_36 (pc' := 37) rfl (by omega) (by omega) (by omega) ?_ | refine r_irem X (by decide) dX6_canStand_36 (pc' := 37) rfl ?_
        refine rN_icmp_gt X dX6_canStand_37 (tgt := 52) (by decide) (pc' := 40) rfl (by omega) (by omega) (fun c_37 => ?_) (fun c_37 => ?_)
        · refine r_iconst (v := nI 0) X (by decide) dX6_canStand_52 (pc' := 53) rfl ?_
          exact r_iret X r dX6_canStand_53 (by omega) (by omega) rfl (by first | exact hcT ⟨nI_pos ha, by rw [tn_n ha]; unfold whereP; omega⟩ | exact hcF (fun q => by obtain ⟨q1, q2⟩ := q; first | exact q1 c_1 | (rw [tn_n ha] at q2; unfold whereP at q2; omega))) rfl rfl
        · refine r_iload_n X dX6_canStand_40 (pc' := 41) rfl rfl ?_
          refine r_bipush (v := nI 10) X (by decide) dX6_canStand_41 (pc' := 43) rfl ?_
          first | refine rN_irem X dX6_canStand_43 (pc' := 44) rfl (by omega) (by omega) (by omega) ?_ | refine r_irem X (by decide) dX6_canStand_43 (pc' := 44) rfl ?_
          refine r_iconst (v := nI 5) X (by decide) dX6_canStand_44 (pc' := 45) rfl ?_
          refine rN_icmp_ge X dX6_canStand_45 (tgt := 52) (by decide) (pc' := 48) rfl (by omega) (by omega) (fun c_45 => ?_) (fun c_45 => ?_)
          · refine r_iconst (v := nI 0) X (by decide) dX6_canStand_52 (pc' := 53) rfl ?_
            exact r_iret X r dX6_canStand_53 (by omega) (by omega) rfl (by first | exact hcT ⟨nI_pos ha, by rw [tn_n ha]; unfold whereP; omega⟩ | exact hcF (fun q => by obtain ⟨q1, q2⟩ := q; first | exact q1 c_1 | (rw [tn_n ha] at q2; unfold whereP at q2; omega))) rfl rfl
          · refine r_iconst (v := nI 1) X (by decide) dX6_canStand_48 (pc' := 49) rfl ?_
            refine r_goto (tgt := 53) X dX6_canStand_49 (by decide) ?_
            exact r_iret X r dX6_canStand_53 (by omega) (by omega) rfl (by first | exact hcT ⟨nI_pos ha, by rw [tn_n ha]; unfold whereP; omega⟩ | exact hcF (fun q => by obtain ⟨q1, q2⟩ := q; first | exact q1 c_1 | (rw [tn_n ha] at q2; unfold whereP at q2; omega))) rfl rfl
set_option maxRecDepth 100000 in
set_option maxHeartbeats 4000000 in
theorem ct_X4_canBe (P : Px) (n : Nat) (h : hw) (x : Int32) : Ct P MX4_canBe 0 0 0 [.int x] n h (some (.int (bI (cB (¬ x < 0 ∧ lawP (tn x)))))) n h := by
  refine Ct.of (by decide +kernel) (Nat.le_of_ble_eq_true rfl) rfl (fun K X hnm r => ?_)
  have X : Cx K P RX4 cX4_canBe 1 0 0 0 := X
  have r : Rt K P (some .boolean) 0 0 _ _ _ := r
  show Z K P _ _ 0 0 0 [some (.int x)] []
  refine r_iload_n X dX4_canBe_0 (pc' := 1) rfl rfl ?_
  refine r_if_lt X dX4_canBe_1 (tgt := 59) (by decide) (pc' := 4) rfl (fun c_1 => ?_) (fun c_1 => ?_)
  · refine r_iconst (v := nI 0) X (by decide) dX4_canBe_59 (pc' := 60) rfl ?_
    exact r_iret X r dX4_canBe_60 (by omega) (by omega) rfl (by first | exact hcT ⟨nI_pos ha, by rw [tn_n ha]; unfold lawP; omega⟩ | exact hcF (fun q => by obtain ⟨q1, q2⟩ := q; first | exact q1 c_1 | (rw [tn_n ha] at q2; unfold lawP at q2; omega))) rfl rfl
  · obtain ⟨a, ha, rfl⟩ := nI_of c_1
    refine r_iload_n X dX4_canBe_4 (pc' := 5) rfl rfl ?_
    refine r_sipush (v := nI 10000) X (by decide) dX4_canBe_5 (pc' := 8) rfl ?_
    first | refine rN_idiv X dX4_canBe_8 (pc' := 9) rfl (by omega) (by omega) (by omega) ?_ | refine r_idiv X (by decide) dX4_canBe_8 (pc' := 9) rfl ?_
    refine r_iconst (v := nI 4) X (by decide) dX4_canBe_9 (pc' := 10) rfl ?_
    refine rN_icmp_ge X dX4_canBe_10 (tgt := 59) (by decide) (pc' := 13) rfl (by omega) (by omega) (fun c_10 => ?_) (fun c_10 => ?_)
    · refine r_iconst (v := nI 0) X (by decide) dX4_canBe_59 (pc' := 60) rfl ?_
      exact r_iret X r dX4_canBe_60 (by omega) (by omega) rfl (by first | exact hcT ⟨nI_pos ha, by rw [tn_n ha]; unfold lawP; omega⟩ | exact hcF (fun q => by obtain ⟨q1, q2⟩ := q; first | exact q1 c_1 | (rw [tn_n ha] at q2; unfold lawP at q2; omega))) rfl rfl
    · refine r_iload_n X dX4_canBe_13 (pc' := 14) rfl rfl ?_
      refine r_sipush (v := nI 1000) X (by decide) dX4_canBe_14 (pc' := 17) rfl ?_
      first | refine rN_idiv X dX4_canBe_17 (pc' := 18) rfl (by omega) (by omega) (by omega) ?_ | refine r_idiv X (by decide) dX4_canBe_17 (pc' := 18) rfl ?_
      refine r_bipush (v := nI 10) X (by decide) dX4_canBe_18 (pc' := 20) rfl ?_
      first | refine rN_irem X dX4_canBe_20 (pc' := 21) rfl (by omega) (by omega) (by omega) ?_ | refine r_irem X (by decide) dX4_canBe_20 (pc' := 21) rfl ?_
      refine r_iconst (v := nI 5) X (by decide) dX4_canBe_21 (pc' := 22) rfl ?_
      refine rN_icmp_ge X dX4_canBe_22 (tgt := 59) (by decide) (pc' := 25) rfl (by omega) (by omega) (fun c_22 => ?_) (fun c_22 => ?_)
      · refine r_iconst (v := nI 0) X (by decide) dX4_canBe_59 (pc' := 60) rfl ?_
        exact r_iret X r dX4_canBe_60 (by omega) (by omega) rfl (by first | exact hcT ⟨nI_pos ha, by rw [tn_n ha]; unfold lawP; omega⟩ | exact hcF (fun q => by obtain ⟨q1, q2⟩ := q; first | exact q1 c_1 | (rw [tn_n ha] at q2; unfold lawP at q2; omega))) rfl rfl
      · refine r_iload_n X dX4_canBe_25 (pc' := 26) rfl rfl ?_
        refine r_bipush (v := nI 100) X (by decide) dX4_canBe_26 (pc' := 28) rfl ?_
        first | refine rN_idiv X dX4_canBe_28 (pc' := 29) rfl (by omega) (by omega) (by omega) ?_ | refine r_idiv X (by decide) dX4_canBe_28 (pc' := 29) rfl ?_
        refine r_bipush (v := nI 10) X (by decide) dX4_canBe_29 (pc' := 31) rfl ?_
        first | refine rN_irem X dX4_canBe_31 (pc' := 32) rfl (by omega) (by omega) (by omega) ?_ | refine r_irem X (by decide) dX4_canBe_31 (pc' := 32) rfl ?_
        refine r_iconst (v := nI 4) X (by decide) dX4_canBe_32 (pc' := 33) rfl ?_
        refine rN_icmp_gt X dX4_canBe_33 (tgt := 59) (by decide) (pc' := 36) rfl (by omega) (by omega) (fun c_33 => ?_) (fun c_33 => ?_)
        · refine r_iconst (v := nI 0) X (by decide) dX4_canBe_59 (pc' := 60) rfl ?_
          exact r_iret X r dX4_canBe_60 (by omega) (by omega) rfl (by first | exact hcT ⟨nI_pos ha, by rw [tn_n ha]; unfold lawP; omega⟩ | exact hcF (fun q => by obtain ⟨q1, q2⟩ := q; first | exact q1 c_1 | (rw [tn_n ha] at q2; unfold lawP at q2; omega))) rfl rfl
        · refine r_iload_n X dX4_canBe_36 (pc' := 37) rfl rfl ?_
          refine r_bipush (v := nI 10) X (by decide) dX4_canBe_37 (pc' := 39) rfl ?_
          first | refine rN_idiv X dX4_canBe_39 (pc' := 40) rfl (by omega) (by omega) (by omega) ?_ | refine r_idiv X (by decide) dX4_canBe_39 (pc' := 40) rfl ?_
          refine r_bipush (v := nI 10) X (by decide) dX4_canBe_40 (pc' := 42) rfl ?_
          first | refine rN_irem X dX4_canBe_42 (pc' := 43) rfl (by omega) (by omega) (by omega) ?_ | refine r_irem X (by decide) dX4_canBe_42 (pc' := 43) rfl ?_
          refine r_iconst (v := nI 3) X (by decide) dX4_canBe_43 (pc' := 44) rfl ?_
          refine rN_icmp_gt X dX4_canBe_44 (tgt := 59) (by decide) (pc' := 47) rfl (by omega) (by omega) (fun c_44 => ?_) (fun c_44 => ?_)
          · refine r_iconst (v := nI 0) X (by decide) dX4_canBe_59 (pc' := 60) rfl ?_
            exact r_iret X r dX4_canBe_60 (by omega) (by omega) rfl (by first | exact hcT ⟨nI_pos ha, by rw [tn_n ha]; unfold lawP; omega⟩ | exact hcF (fun q => by obtain ⟨q1, q2⟩ := q; first | exact q1 c_1 | (rw [tn_n ha] at q2; unfold lawP at q2; omega))) rfl rfl
          · refine r_iload_n X dX4_canBe_47 (pc' := 48) rfl rfl ?_
            refine r_bipush (v := nI 10) X (by decide) dX4_canBe_48 (pc' := 50) rfl ?_
            first | refine rN_irem X dX4_canBe_50 (pc' := 51) rfl (by omega) (by omega) (by omega) ?_ | refine r_irem X (by decide) dX4_canBe_50 (pc' := 51) rfl ?_
            refine r_iconst (v := nI 3) X (by decide) dX4_canBe_51 (pc' := 52) rfl ?_
            refine rN_icmp_gt X dX4_canBe_52 (tgt := 59) (by decide) (pc' := 55) rfl (by omega) (by omega) (fun c_52 => ?_) (fun c_52 => ?_)
            · refine r_iconst (v := nI 0) X (by decide) dX4_canBe_59 (pc' := 60) rfl ?_
              exact r_iret X r dX4_canBe_60 (by omega) (by omega) rfl (by first | exact hcT ⟨nI_pos ha, by rw [tn_n ha]; unfold lawP; omega⟩ | exact hcF (fun q => by obtain ⟨q1, q2⟩ := q; first | exact q1 c_1 | (rw [tn_n ha] at q2; unfold lawP at q2; omega))) rfl rfl
            · refine r_iconst (v := nI 1) X (by decide) dX4_canBe_55 (pc' := 56) rfl ?_
              refine r_goto (tgt := 60) X dX4_canBe_56 (by decide) ?_
              exact r_iret X r dX4_canBe_60 (by omega) (by omega) rfl (by first | exact hcT ⟨nI_pos ha, by rw [tn_n ha]; unfold lawP; omega⟩ | exact hcF (fun q => by obtain ⟨q1, q2⟩ := q; first | exact q1 c_1 | (rw [tn_n ha] at q2; unfold lawP at q2; omega))) rfl rfl
set_option maxRecDepth 100000 in
set_option maxHeartbeats 4000000 in
theorem ct_X6_canBe (P : Px) (n : Nat) (h : hw) (x y z : Int32) : Ct P MX6_canBe 1 0 0 [.int x, .int y, .int z] n h (some (.int (bI (cB ((¬ x < 0 ∧ whatP (tn x)) ∧ (¬ y < 0 ∧ whereP (tn y)) ∧ (z = nI 0 ∨ z = nI 2)))))) n h := by
  refine Ct.of (by decide +kernel) (Nat.le_of_ble_eq_true rfl) rfl (fun K X hnm r => ?_)
  have X : Cx K P RX6 cX6_canBe 3 1 0 0 := X
  have r : Rt K P (some .boolean) 0 0 _ _ _ := r
  show Z K P _ _ 0 0 0 [some (.int x), some (.int y), some (.int z)] []
  refine r_iload_n X dX6_canBe_0 (pc' := 1) rfl rfl ?_
  refine r_callS (As := [_]) X okX6_canAsk lm_X6_39 dX6_canBe_1 (pc' := 4) rfl (ct_X6_canAsk P n h x) rfl rfl (Nat.le_of_ble_eq_true rfl) (by omega) (by omega) (by omega) ?_
  dsimp only [Option.toList, List.cons_append, List.nil_append]
  refine rB_if_eq X dX6_canBe_4 (tgt := 27) (by decide) (pc' := 7) rfl (fun c_4 => ?_) (fun c_4 => ?_)
  · refine r_iconst (v := nI 0) X (by decide) dX6_canBe_27 (pc' := 28) rfl ?_
    exact r_iret X r dX6_canBe_28 (by omega) (by omega) rfl (by first | exact hcT ⟨cB_of c_4, cB_of c_11, Or.inl (c_15.trans nI_0.symm)⟩ | exact hcT ⟨cB_of c_4, cB_of c_11, Or.inr c_20⟩ | exact hcF (fun q => cB_nf c_4 q.1) | exact hcF (fun q => cB_nf c_11 q.2.1) | exact hcF (fun q => q.2.2.elim (fun z => c_15 (z.trans nI_0)) c_20)) rfl rfl
  · refine r_iload_n X dX6_canBe_7 (pc' := 8) rfl rfl ?_
    refine r_callS (As := [_]) X okX6_canStand lm_X6_43 dX6_canBe_8 (pc' := 11) rfl (ct_X6_canStand P n h y) rfl rfl (Nat.le_of_ble_eq_true rfl) (by omega) (by omega) (by omega) ?_
    dsimp only [Option.toList, List.cons_append, List.nil_append]
    refine rB_if_eq X dX6_canBe_11 (tgt := 27) (by decide) (pc' := 14) rfl (fun c_11 => ?_) (fun c_11 => ?_)
    · refine r_iconst (v := nI 0) X (by decide) dX6_canBe_27 (pc' := 28) rfl ?_
      exact r_iret X r dX6_canBe_28 (by omega) (by omega) rfl (by first | exact hcT ⟨cB_of c_4, cB_of c_11, Or.inl (c_15.trans nI_0.symm)⟩ | exact hcT ⟨cB_of c_4, cB_of c_11, Or.inr c_20⟩ | exact hcF (fun q => cB_nf c_4 q.1) | exact hcF (fun q => cB_nf c_11 q.2.1) | exact hcF (fun q => q.2.2.elim (fun z => c_15 (z.trans nI_0)) c_20)) rfl rfl
    · refine r_iload_n X dX6_canBe_14 (pc' := 15) rfl rfl ?_
      refine r_if_eq X dX6_canBe_15 (tgt := 23) (by decide) (pc' := 18) rfl (fun c_15 => ?_) (fun c_15 => ?_)
      · refine r_iconst (v := nI 1) X (by decide) dX6_canBe_23 (pc' := 24) rfl ?_
        refine r_goto (tgt := 28) X dX6_canBe_24 (by decide) ?_
        exact r_iret X r dX6_canBe_28 (by omega) (by omega) rfl (by first | exact hcT ⟨cB_of c_4, cB_of c_11, Or.inl (c_15.trans nI_0.symm)⟩ | exact hcT ⟨cB_of c_4, cB_of c_11, Or.inr c_20⟩ | exact hcF (fun q => cB_nf c_4 q.1) | exact hcF (fun q => cB_nf c_11 q.2.1) | exact hcF (fun q => q.2.2.elim (fun z => c_15 (z.trans nI_0)) c_20)) rfl rfl
      · refine r_iload_n X dX6_canBe_18 (pc' := 19) rfl rfl ?_
        refine r_iconst (v := nI 2) X (by decide) dX6_canBe_19 (pc' := 20) rfl ?_
        refine r_icmp_ne X dX6_canBe_20 (tgt := 27) (by decide) (pc' := 23) rfl (fun c_20 => ?_) (fun c_20 => ?_)
        · refine r_iconst (v := nI 0) X (by decide) dX6_canBe_27 (pc' := 28) rfl ?_
          exact r_iret X r dX6_canBe_28 (by omega) (by omega) rfl (by first | exact hcT ⟨cB_of c_4, cB_of c_11, Or.inl (c_15.trans nI_0.symm)⟩ | exact hcT ⟨cB_of c_4, cB_of c_11, Or.inr c_20⟩ | exact hcF (fun q => cB_nf c_4 q.1) | exact hcF (fun q => cB_nf c_11 q.2.1) | exact hcF (fun q => q.2.2.elim (fun z => c_15 (z.trans nI_0)) c_20)) rfl rfl
        · refine r_iconst (v := nI 1) X (by decide) dX6_canBe_23 (pc' := 24) rfl ?_
          refine r_goto (tgt := 28) X dX6_canBe_24 (by decide) ?_
          exact r_iret X r dX6_canBe_28 (by omega) (by omega) rfl (by first | exact hcT ⟨cB_of c_4, cB_of c_11, Or.inl (c_15.trans nI_0.symm)⟩ | exact hcT ⟨cB_of c_4, cB_of c_11, Or.inr c_20⟩ | exact hcF (fun q => cB_nf c_4 q.1) | exact hcF (fun q => cB_nf c_11 q.2.1) | exact hcF (fun q => q.2.2.elim (fun z => c_15 (z.trans nI_0)) c_20)) rfl rfl
set_option maxRecDepth 100000 in
set_option maxHeartbeats 4000000 in
theorem ct_X6_fitsRoles (P : Px) (n : Nat) (h : hw) (k a b s : Nat) (hk : k < n) (he : h k = rcell a b s) (ha : a < 160000) (hb : b < 160000) (t : Nat) (ht : t < 16) : Ct P MX6_fitsRoles 0 0 0 [.ref (Bs P + k), .int (nI t)] n h (some (.int (bI (cB (rfR a t))))) n h := by
  refine Ct.of (by decide +kernel) (Nat.le_of_ble_eq_true rfl) rfl (fun K X hnm r => ?_)
  have X : Cx K P RX6 cX6_fitsRoles 2 0 0 0 := X
  have r : Rt K P (some .boolean) 0 0 _ _ _ := r
  show Z K P _ _ 0 0 0 [some (.ref (Bs P + k)), some (.int (nI t))] []
  refine r_iload_n X dX6_fitsRoles_0 (pc' := 1) rfl rfl ?_
  refine r_aload_n X dX6_fitsRoles_1 (pc' := 2) rfl rfl ?_
  refine r_get X fX6 lf_X6_9 dX6_fitsRoles_2 (pc' := 5) rfl (by decide) (by omega) he rfl ?_
  first | refine rN_iand X dX6_fitsRoles_5 (pc' := 6) rfl ?_ | refine r_iand X dX6_fitsRoles_5 (pc' := 6) rfl ?_
  have b0 : (t &&& a / 10000) ≤ t := Nat.and_le_left
  refine r_aload_n X dX6_fitsRoles_6 (pc' := 7) rfl rfl ?_
  refine r_get X fX6 lf_X6_9 dX6_fitsRoles_7 (pc' := 10) rfl (by decide) (by omega) he rfl ?_
  refine rN_icmp_ne X dX6_fitsRoles_10 (tgt := 17) (by decide) (pc' := 13) rfl (by omega) (by omega) (fun c_10 => ?_) (fun c_10 => ?_)
  · refine r_iconst (v := nI 0) X (by decide) dX6_fitsRoles_17 (pc' := 18) rfl ?_
    exact r_iret X r dX6_fitsRoles_18 (by omega) (by omega) rfl (by first | exact hcT c_10 | exact hcF c_10) rfl rfl
  · refine r_iconst (v := nI 1) X (by decide) dX6_fitsRoles_13 (pc' := 14) rfl ?_
    refine r_goto (tgt := 18) X dX6_fitsRoles_14 (by decide) ?_
    exact r_iret X r dX6_fitsRoles_18 (by omega) (by omega) rfl (by first | exact hcT c_10 | exact hcF c_10) rfl rfl
set_option maxRecDepth 100000 in
set_option maxHeartbeats 4000000 in
theorem ct_X6_fitsMarks (P : Px) (n : Nat) (h : hw) (k a b s : Nat) (hk : k < n) (he : h k = rcell a b s) (ha : a < 160000) (hb : b < 160000) (hwp : whatP a) (m su : Nat) (hm : m < 64) (hsu : su < 2 ^ 31) : Ct P MX6_fitsMarks 1 0 0 [.ref (Bs P + k), .int (nI m), .int (nI su)] n h (some (.int (bI (cB (rfM a m su))))) n h := by
  refine Ct.of (by decide +kernel) (Nat.le_of_ble_eq_true rfl) rfl (fun K X hnm r => ?_)
  have X : Cx K P RX6 cX6_fitsMarks 3 1 0 0 := X
  have r : Rt K P (some .boolean) 0 0 _ _ _ := r
  show Z K P _ _ 0 0 0 [some (.ref (Bs P + k)), some (.int (nI m)), some (.int (nI su))] []
  have w2 := hwp.2.1
  refine r_iload_n X dX6_fitsMarks_0 (pc' := 1) rfl rfl ?_
  refine r_aload_n X dX6_fitsMarks_1 (pc' := 2) rfl rfl ?_
  refine r_get X fX6 lf_X6_21 dX6_fitsMarks_2 (pc' := 5) rfl (by decide) (by omega) he rfl ?_
  refine rN_icmp_lt X dX6_fitsMarks_5 (tgt := 35) (by decide) (pc' := 8) rfl (by omega) (by omega) (fun c_5 => ?_) (fun c_5 => ?_)
  · refine r_iconst (v := nI 0) X (by decide) dX6_fitsMarks_35 (pc' := 36) rfl ?_
    exact r_iret X r dX6_fitsMarks_36 (by omega) (by omega) rfl (by first | exact hcT (by unfold rfM; omega) | exact hcF (by unfold rfM; omega)) rfl rfl
  · refine r_aload_n X dX6_fitsMarks_8 (pc' := 9) rfl rfl ?_
    refine r_get X fX6 lf_X6_15 dX6_fitsMarks_9 (pc' := 12) rfl (by decide) (by omega) he rfl ?_
    refine r_iconst (v := nI 3) X (by decide) dX6_fitsMarks_12 (pc' := 13) rfl ?_
    refine rN_icmp_eq X dX6_fitsMarks_13 (tgt := 31) (by decide) (pc' := 16) rfl (by omega) (by omega) (fun c_13 => ?_) (fun c_13 => ?_)
    · refine r_iconst (v := nI 1) X (by decide) dX6_fitsMarks_31 (pc' := 32) rfl ?_
      refine r_goto (tgt := 36) X dX6_fitsMarks_32 (by decide) ?_
      exact r_iret X r dX6_fitsMarks_36 (by omega) (by omega) rfl (by first | exact hcT (by unfold rfM; omega) | exact hcF (by unfold rfM; omega)) rfl rfl
    · refine r_iload_n X dX6_fitsMarks_16 (pc' := 17) rfl rfl ?_
      refine r_aload_n X dX6_fitsMarks_17 (pc' := 18) rfl rfl ?_
      refine r_get X fX6 lf_X6_15 dX6_fitsMarks_18 (pc' := 21) rfl (by decide) (by omega) he rfl ?_
      refine r_callSN (As := [_, _]) X okX8_valueIn lm_X6_66 dX6_fitsMarks_21 (pc' := 24) rfl (ct_X8_valueIn P n h m _ (by omega) (by omega)) rfl rfl (Nat.le_of_ble_eq_true rfl) (by omega) (by omega) (by omega) ?_
      dsimp only [Option.toList, List.cons_append, List.nil_append]
      have bm := mvN_le m (a / 1000 % 10)
      refine r_aload_n X dX6_fitsMarks_24 (pc' := 25) rfl rfl ?_
      refine r_get X fX6 lf_X6_18 dX6_fitsMarks_25 (pc' := 28) rfl (by decide) (by omega) he rfl ?_
      refine rN_icmp_lt X dX6_fitsMarks_28 (tgt := 35) (by decide) (pc' := 31) rfl (by omega) (by omega) (fun c_28 => ?_) (fun c_28 => ?_)
      · refine r_iconst (v := nI 0) X (by decide) dX6_fitsMarks_35 (pc' := 36) rfl ?_
        exact r_iret X r dX6_fitsMarks_36 (by omega) (by omega) rfl (by first | exact hcT (by unfold rfM; omega) | exact hcF (by unfold rfM; omega)) rfl rfl
      · refine r_iconst (v := nI 1) X (by decide) dX6_fitsMarks_31 (pc' := 32) rfl ?_
        refine r_goto (tgt := 36) X dX6_fitsMarks_32 (by decide) ?_
        exact r_iret X r dX6_fitsMarks_36 (by omega) (by omega) rfl (by first | exact hcT (by unfold rfM; omega) | exact hcF (by unfold rfM; omega)) rfl rfl
set_option maxRecDepth 100000 in
set_option maxHeartbeats 4000000 in
theorem ct_X6_fitsSpot (P : Px) (n : Nat) (h : hw) (k a b s : Nat) (hk : k < n) (he : h k = rcell a b s) (ha : a < 160000) (hb : b < 160000) (sp : Nat) (hsp : sp < 80) : Ct P MX6_fitsSpot 1 0 0 [.ref (Bs P + k), .int (nI sp)] n h (some (.int (bI (cB (rfS b sp))))) n h := by
  refine Ct.of (by decide +kernel) (Nat.le_of_ble_eq_true rfl) rfl (fun K X hnm r => ?_)
  have X : Cx K P RX6 cX6_fitsSpot 3 1 0 0 := X
  have r : Rt K P (some .boolean) 0 0 _ _ _ := r
  show Z K P _ _ 0 0 0 [some (.ref (Bs P + k)), some (.int (nI sp)), none] []
  refine r_iload_n X dX6_fitsSpot_0 (pc' := 1) rfl rfl ?_
  refine r_iconst (v := nI 5) X (by decide) dX6_fitsSpot_1 (pc' := 2) rfl ?_
  first | refine rN_irem X dX6_fitsSpot_2 (pc' := 3) rfl (by omega) (by omega) (by omega) ?_ | refine r_irem X (by decide) dX6_fitsSpot_2 (pc' := 3) rfl ?_
  refine r_istore_n (vs' := [_, _, _]) X dX6_fitsSpot_3 (pc' := 4) rfl (by decide) rfl ?_
  refine r_aload_n X dX6_fitsSpot_4 (pc' := 5) rfl rfl ?_
  refine r_get X fX6 lf_X6_24 dX6_fitsSpot_5 (pc' := 8) rfl (by decide) (by omega) he rfl ?_
  refine r_iload_n X dX6_fitsSpot_8 (pc' := 9) rfl rfl ?_
  refine r_bipush (v := nI 20) X (by decide) dX6_fitsSpot_9 (pc' := 11) rfl ?_
  first | refine rN_idiv X dX6_fitsSpot_11 (pc' := 12) rfl (by omega) (by omega) (by omega) ?_ | refine r_idiv X (by decide) dX6_fitsSpot_11 (pc' := 12) rfl ?_
  refine r_callSN (As := [_, _]) X okX8_hasBit lm_X6_70 dX6_fitsSpot_12 (pc' := 15) rfl (ct_X8_hasBit P n h _ _ (by omega) (by omega)) rfl rfl (Nat.le_of_ble_eq_true rfl) (by omega) (by omega) (by omega) ?_
  dsimp only [Option.toList, List.cons_append, List.nil_append]
  refine rB_if_eq X dX6_fitsSpot_15 (tgt := 53) (by decide) (pc' := 18) rfl (fun c_15 => ?_) (fun c_15 => ?_)
  · refine r_iconst (v := nI 0) X (by decide) dX6_fitsSpot_53 (pc' := 54) rfl ?_
    exact r_iret X r dX6_fitsSpot_54 (by omega) (by omega) rfl (by first | exact hcT ⟨cB_of c_15, cB_of c_30, by omega, by omega⟩ | exact hcF (fun q => cB_nf c_15 q.1) | exact hcF (fun q => cB_nf c_30 q.2.1) | exact hcF (by unfold rfS; omega)) rfl rfl
  · refine r_aload_n X dX6_fitsSpot_18 (pc' := 19) rfl rfl ?_
    refine r_get X fX6 lf_X6_27 dX6_fitsSpot_19 (pc' := 22) rfl (by decide) (by omega) he rfl ?_
    refine r_iload_n X dX6_fitsSpot_22 (pc' := 23) rfl rfl ?_
    refine r_iconst (v := nI 5) X (by decide) dX6_fitsSpot_23 (pc' := 24) rfl ?_
    first | refine rN_idiv X dX6_fitsSpot_24 (pc' := 25) rfl (by omega) (by omega) (by omega) ?_ | refine r_idiv X (by decide) dX6_fitsSpot_24 (pc' := 25) rfl ?_
    refine r_iconst (v := nI 4) X (by decide) dX6_fitsSpot_25 (pc' := 26) rfl ?_
    first | refine rN_irem X dX6_fitsSpot_26 (pc' := 27) rfl (by omega) (by omega) (by omega) ?_ | refine r_irem X (by decide) dX6_fitsSpot_26 (pc' := 27) rfl ?_
    refine r_callSN (As := [_, _]) X okX8_hasBit lm_X6_70 dX6_fitsSpot_27 (pc' := 30) rfl (ct_X8_hasBit P n h _ _ (by omega) (by omega)) rfl rfl (Nat.le_of_ble_eq_true rfl) (by omega) (by omega) (by omega) ?_
    dsimp only [Option.toList, List.cons_append, List.nil_append]
    refine rB_if_eq X dX6_fitsSpot_30 (tgt := 53) (by decide) (pc' := 33) rfl (fun c_30 => ?_) (fun c_30 => ?_)
    · refine r_iconst (v := nI 0) X (by decide) dX6_fitsSpot_53 (pc' := 54) rfl ?_
      exact r_iret X r dX6_fitsSpot_54 (by omega) (by omega) rfl (by first | exact hcT ⟨cB_of c_15, cB_of c_30, by omega, by omega⟩ | exact hcF (fun q => cB_nf c_15 q.1) | exact hcF (fun q => cB_nf c_30 q.2.1) | exact hcF (by unfold rfS; omega)) rfl rfl
    · refine r_aload_n X dX6_fitsSpot_33 (pc' := 34) rfl rfl ?_
      refine r_get X fX6 lf_X6_30 dX6_fitsSpot_34 (pc' := 37) rfl (by decide) (by omega) he rfl ?_
      refine r_iload_n X dX6_fitsSpot_37 (pc' := 38) rfl rfl ?_
      refine rN_icmp_gt X dX6_fitsSpot_38 (tgt := 53) (by decide) (pc' := 41) rfl (by omega) (by omega) (fun c_38 => ?_) (fun c_38 => ?_)
      · refine r_iconst (v := nI 0) X (by decide) dX6_fitsSpot_53 (pc' := 54) rfl ?_
        exact r_iret X r dX6_fitsSpot_54 (by omega) (by omega) rfl (by first | exact hcT ⟨cB_of c_15, cB_of c_30, by omega, by omega⟩ | exact hcF (fun q => cB_nf c_15 q.1) | exact hcF (fun q => cB_nf c_30 q.2.1) | exact hcF (by unfold rfS; omega)) rfl rfl
      · refine r_iload_n X dX6_fitsSpot_41 (pc' := 42) rfl rfl ?_
        refine r_aload_n X dX6_fitsSpot_42 (pc' := 43) rfl rfl ?_
        refine r_get X fX6 lf_X6_33 dX6_fitsSpot_43 (pc' := 46) rfl (by decide) (by omega) he rfl ?_
        refine rN_icmp_gt X dX6_fitsSpot_46 (tgt := 53) (by decide) (pc' := 49) rfl (by omega) (by omega) (fun c_46 => ?_) (fun c_46 => ?_)
        · refine r_iconst (v := nI 0) X (by decide) dX6_fitsSpot_53 (pc' := 54) rfl ?_
          exact r_iret X r dX6_fitsSpot_54 (by omega) (by omega) rfl (by first | exact hcT ⟨cB_of c_15, cB_of c_30, by omega, by omega⟩ | exact hcF (fun q => cB_nf c_15 q.1) | exact hcF (fun q => cB_nf c_30 q.2.1) | exact hcF (by unfold rfS; omega)) rfl rfl
        · refine r_iconst (v := nI 1) X (by decide) dX6_fitsSpot_49 (pc' := 50) rfl ?_
          refine r_goto (tgt := 54) X dX6_fitsSpot_50 (by decide) ?_
          exact r_iret X r dX6_fitsSpot_54 (by omega) (by omega) rfl (by first | exact hcT ⟨cB_of c_15, cB_of c_30, by omega, by omega⟩ | exact hcF (fun q => cB_nf c_15 q.1) | exact hcF (fun q => cB_nf c_30 q.2.1) | exact hcF (by unfold rfS; omega)) rfl rfl
set_option maxRecDepth 100000 in
set_option maxHeartbeats 4000000 in
theorem ct_X6_fits (P : Px) (n : Nat) (h : hw) (k a b s : Nat) (hk : k < n) (he : h k = rcell a b s) (ha : a < 160000) (hb : b < 160000) (hwp : whatP a) (code su : Nat) (hc : code < 81920) (hsu : su < 2 ^ 31) : Ct P MX6_fits 2 0 0 [.ref (Bs P + k), .int (nI code), .int (nI su)] n h (some (.int (bI (fitN a b su code)))) n h := by
  refine Ct.of (by decide +kernel) (Nat.le_of_ble_eq_true rfl) rfl (fun K X hnm r => ?_)
  have X : Cx K P RX6 cX6_fits 3 2 0 0 := X
  have r : Rt K P (some .boolean) 0 0 _ _ _ := r
  show Z K P _ _ 0 0 0 [some (.ref (Bs P + k)), some (.int (nI code)), some (.int (nI su))] []
  refine r_aload_n X dX6_fits_0 (pc' := 1) rfl rfl ?_
  refine r_iload_n X dX6_fits_1 (pc' := 2) rfl rfl ?_
  refine r_callSN (As := [_]) X okX8_rolesIn lm_X6_46 dX6_fits_2 (pc' := 5) rfl (ct_X8_rolesIn P n h code (by omega)) rfl rfl (Nat.le_of_ble_eq_true rfl) (by omega) (by omega) (by omega) ?_
  dsimp only [Option.toList, List.cons_append, List.nil_append]
  refine r_callV (As := [_]) X okX6_fitsRoles lm_X6_50 dX6_fits_5 (pc' := 8) rfl (ct_X6_fitsRoles P n h k a b s hk he ha hb _ (by omega)) (by omega) he rfl rfl rfl rfl (Nat.le_of_ble_eq_true rfl) (by omega) (by omega) (by omega) ?_
  dsimp only [Option.toList, List.cons_append, List.nil_append]
  refine rB_if_eq X dX6_fits_8 (tgt := 38) (by decide) (pc' := 11) rfl (fun c_8 => ?_) (fun c_8 => ?_)
  · refine r_iconst (v := nI 0) X (by decide) dX6_fits_38 (pc' := 39) rfl ?_
    exact r_iret X r dX6_fits_39 (by omega) (by omega) rfl (by first | exact hvT (fitN_iff.mpr ((FitP_split hc).mpr ⟨cB_of c_8, cB_of c_20, cB_of c_31⟩)) | exact hvF (fitN_f (fun q => cB_nf c_8 ((FitP_split hc).mp q).1)) | exact hvF (fitN_f (fun q => cB_nf c_20 ((FitP_split hc).mp q).2.1)) | exact hvF (fitN_f (fun q => cB_nf c_31 ((FitP_split hc).mp q).2.2))) rfl rfl
  · refine r_aload_n X dX6_fits_11 (pc' := 12) rfl rfl ?_
    refine r_iload_n X dX6_fits_12 (pc' := 13) rfl rfl ?_
    refine r_callSN (As := [_]) X okX8_marksIn lm_X6_53 dX6_fits_13 (pc' := 16) rfl (ct_X8_marksIn P n h code (by omega)) rfl rfl (Nat.le_of_ble_eq_true rfl) (by omega) (by omega) (by omega) ?_
    dsimp only [Option.toList, List.cons_append, List.nil_append]
    refine r_iload_n X dX6_fits_16 (pc' := 17) rfl rfl ?_
    refine r_callV (As := [_, _]) X okX6_fitsMarks lm_X6_56 dX6_fits_17 (pc' := 20) rfl (ct_X6_fitsMarks P n h k a b s hk he ha hb hwp _ su (by omega) hsu) (by omega) he rfl rfl rfl rfl (Nat.le_of_ble_eq_true rfl) (by omega) (by omega) (by omega) ?_
    dsimp only [Option.toList, List.cons_append, List.nil_append]
    refine rB_if_eq X dX6_fits_20 (tgt := 38) (by decide) (pc' := 23) rfl (fun c_20 => ?_) (fun c_20 => ?_)
    · refine r_iconst (v := nI 0) X (by decide) dX6_fits_38 (pc' := 39) rfl ?_
      exact r_iret X r dX6_fits_39 (by omega) (by omega) rfl (by first | exact hvT (fitN_iff.mpr ((FitP_split hc).mpr ⟨cB_of c_8, cB_of c_20, cB_of c_31⟩)) | exact hvF (fitN_f (fun q => cB_nf c_8 ((FitP_split hc).mp q).1)) | exact hvF (fitN_f (fun q => cB_nf c_20 ((FitP_split hc).mp q).2.1)) | exact hvF (fitN_f (fun q => cB_nf c_31 ((FitP_split hc).mp q).2.2))) rfl rfl
    · refine r_aload_n X dX6_fits_23 (pc' := 24) rfl rfl ?_
      refine r_iload_n X dX6_fits_24 (pc' := 25) rfl rfl ?_
      refine r_callSN (As := [_]) X okX8_spotIn lm_X6_60 dX6_fits_25 (pc' := 28) rfl (ct_X8_spotIn P n h code (by omega)) rfl rfl (Nat.le_of_ble_eq_true rfl) (by omega) (by omega) (by omega) ?_
      dsimp only [Option.toList, List.cons_append, List.nil_append]
      refine r_callV (As := [_]) X okX6_fitsSpot lm_X6_63 dX6_fits_28 (pc' := 31) rfl (ct_X6_fitsSpot P n h k a b s hk he ha hb _ (by omega)) (by omega) he rfl rfl rfl rfl (Nat.le_of_ble_eq_true rfl) (by omega) (by omega) (by omega) ?_
      dsimp only [Option.toList, List.cons_append, List.nil_append]
      refine rB_if_eq X dX6_fits_31 (tgt := 38) (by decide) (pc' := 34) rfl (fun c_31 => ?_) (fun c_31 => ?_)
      · refine r_iconst (v := nI 0) X (by decide) dX6_fits_38 (pc' := 39) rfl ?_
        exact r_iret X r dX6_fits_39 (by omega) (by omega) rfl (by first | exact hvT (fitN_iff.mpr ((FitP_split hc).mpr ⟨cB_of c_8, cB_of c_20, cB_of c_31⟩)) | exact hvF (fitN_f (fun q => cB_nf c_8 ((FitP_split hc).mp q).1)) | exact hvF (fitN_f (fun q => cB_nf c_20 ((FitP_split hc).mp q).2.1)) | exact hvF (fitN_f (fun q => cB_nf c_31 ((FitP_split hc).mp q).2.2))) rfl rfl
      · refine r_iconst (v := nI 1) X (by decide) dX6_fits_34 (pc' := 35) rfl ?_
        refine r_goto (tgt := 39) X dX6_fits_35 (by decide) ?_
        exact r_iret X r dX6_fits_39 (by omega) (by omega) rfl (by first | exact hvT (fitN_iff.mpr ((FitP_split hc).mpr ⟨cB_of c_8, cB_of c_20, cB_of c_31⟩)) | exact hvF (fitN_f (fun q => cB_nf c_8 ((FitP_split hc).mp q).1)) | exact hvF (fitN_f (fun q => cB_nf c_20 ((FitP_split hc).mp q).2.1)) | exact hvF (fitN_f (fun q => cB_nf c_31 ((FitP_split hc).mp q).2.2))) rfl rfl
set_option maxRecDepth 100000 in
set_option maxHeartbeats 4000000 in
theorem ct_X4_missesRole (P : Px) (n : Nat) (h : hw) (k w : Nat) (hk : k < n) (he : h k = lcell w) (hw : w < 40000) (t : Nat) (ht : t < 16) : Ct P MX4_missesRole 1 0 0 [.ref (Bs P + k), .int (nI t)] n h (some (.int (bI (cB (w / 100 % 10 < 4 ∧ (t / 2 ^ (w / 100 % 10) &&& 1) = 0))))) n h := by
  refine Ct.of (by decide +kernel) (Nat.le_of_ble_eq_true rfl) rfl (fun K X hnm r => ?_)
  have X : Cx K P RX4 cX4_missesRole 2 1 0 0 := X
  have r : Rt K P (some .boolean) 0 0 _ _ _ := r
  show Z K P _ _ 0 0 0 [some (.ref (Bs P + k)), some (.int (nI t))] []
  refine r_aload_n X dX4_missesRole_0 (pc' := 1) rfl rfl ?_
  refine r_get X fX4 lf_X4_18 dX4_missesRole_1 (pc' := 4) rfl (by decide) (by omega) he rfl ?_
  refine r_iconst (v := nI 4) X (by decide) dX4_missesRole_4 (pc' := 5) rfl ?_
  refine rN_icmp_ge X dX4_missesRole_5 (tgt := 23) (by decide) (pc' := 8) rfl (by omega) (by omega) (fun c_5 => ?_) (fun c_5 => ?_)
  · refine r_iconst (v := nI 0) X (by decide) dX4_missesRole_23 (pc' := 24) rfl ?_
    exact r_iret X r dX4_missesRole_24 (by omega) (by omega) rfl (by first | exact hcF (fun q => absurd q.1 (by omega)) | exact hcF (fun q => cB_of c_16 q.2) | exact hcT ⟨c_5, Classical.byContradiction (fun z => cB_nf c_16 z)⟩) rfl rfl
  · refine r_iload_n X dX4_missesRole_8 (pc' := 9) rfl rfl ?_
    refine r_aload_n X dX4_missesRole_9 (pc' := 10) rfl rfl ?_
    refine r_get X fX4 lf_X4_18 dX4_missesRole_10 (pc' := 13) rfl (by decide) (by omega) he rfl ?_
    refine r_callSN (As := [_, _]) X okX8_hasBit lm_X4_27 dX4_missesRole_13 (pc' := 16) rfl (ct_X8_hasBit P n h _ _ (by omega) (by omega)) rfl rfl (Nat.le_of_ble_eq_true rfl) (by omega) (by omega) (by omega) ?_
    dsimp only [Option.toList, List.cons_append, List.nil_append]
    refine rB_if_ne X dX4_missesRole_16 (tgt := 23) (by decide) (pc' := 19) rfl (fun c_16 => ?_) (fun c_16 => ?_)
    · refine r_iconst (v := nI 0) X (by decide) dX4_missesRole_23 (pc' := 24) rfl ?_
      exact r_iret X r dX4_missesRole_24 (by omega) (by omega) rfl (by first | exact hcF (fun q => absurd q.1 (by omega)) | exact hcF (fun q => cB_of c_16 q.2) | exact hcT ⟨c_5, Classical.byContradiction (fun z => cB_nf c_16 z)⟩) rfl rfl
    · refine r_iconst (v := nI 1) X (by decide) dX4_missesRole_19 (pc' := 20) rfl ?_
      refine r_goto (tgt := 24) X dX4_missesRole_20 (by decide) ?_
      exact r_iret X r dX4_missesRole_24 (by omega) (by omega) rfl (by first | exact hcF (fun q => absurd q.1 (by omega)) | exact hcF (fun q => cB_of c_16 q.2) | exact hcT ⟨c_5, Classical.byContradiction (fun z => cB_nf c_16 z)⟩) rfl rfl
set_option maxRecDepth 100000 in
set_option maxHeartbeats 4000000 in
theorem ct_X4_missesMark (P : Px) (n : Nat) (h : hw) (k w : Nat) (hk : k < n) (he : h k = lcell w) (hw : w < 40000) (m : Nat) (hm : m < 64) : Ct P MX4_missesMark 1 0 0 [.ref (Bs P + k), .int (nI m)] n h (some (.int (bI (cB (w / 10 % 10 < 3 ∧ mvN m (w / 10 % 10) < w % 10))))) n h := by
  refine Ct.of (by decide +kernel) (Nat.le_of_ble_eq_true rfl) rfl (fun K X hnm r => ?_)
  have X : Cx K P RX4 cX4_missesMark 2 1 0 0 := X
  have r : Rt K P (some .boolean) 0 0 _ _ _ := r
  show Z K P _ _ 0 0 0 [some (.ref (Bs P + k)), some (.int (nI m))] []
  refine r_aload_n X dX4_missesMark_0 (pc' := 1) rfl rfl ?_
  refine r_get X fX4 lf_X4_21 dX4_missesMark_1 (pc' := 4) rfl (by decide) (by omega) he rfl ?_
  refine r_iconst (v := nI 3) X (by decide) dX4_missesMark_4 (pc' := 5) rfl ?_
  refine rN_icmp_ge X dX4_missesMark_5 (tgt := 27) (by decide) (pc' := 8) rfl (by omega) (by omega) (fun c_5 => ?_) (fun c_5 => ?_)
  · refine r_iconst (v := nI 0) X (by decide) dX4_missesMark_27 (pc' := 28) rfl ?_
    exact r_iret X r dX4_missesMark_28 (by omega) (by omega) rfl (by first | exact hcT ⟨by omega, by omega⟩ | exact hcF (fun q => absurd q.1 (by omega)) | exact hcF (fun q => absurd q.2 (by omega))) rfl rfl
  · refine r_iload_n X dX4_missesMark_8 (pc' := 9) rfl rfl ?_
    refine r_aload_n X dX4_missesMark_9 (pc' := 10) rfl rfl ?_
    refine r_get X fX4 lf_X4_21 dX4_missesMark_10 (pc' := 13) rfl (by decide) (by omega) he rfl ?_
    refine r_callSN (As := [_, _]) X okX8_valueIn lm_X4_31 dX4_missesMark_13 (pc' := 16) rfl (ct_X8_valueIn P n h m _ (by omega) (by omega)) rfl rfl (Nat.le_of_ble_eq_true rfl) (by omega) (by omega) (by omega) ?_
    dsimp only [Option.toList, List.cons_append, List.nil_append]
    have bm := mvN_le m (w / 10 % 10)
    refine r_aload_n X dX4_missesMark_16 (pc' := 17) rfl rfl ?_
    refine r_get X fX4 lf_X4_24 dX4_missesMark_17 (pc' := 20) rfl (by decide) (by omega) he rfl ?_
    refine rN_icmp_ge X dX4_missesMark_20 (tgt := 27) (by decide) (pc' := 23) rfl (by omega) (by omega) (fun c_20 => ?_) (fun c_20 => ?_)
    · refine r_iconst (v := nI 0) X (by decide) dX4_missesMark_27 (pc' := 28) rfl ?_
      exact r_iret X r dX4_missesMark_28 (by omega) (by omega) rfl (by first | exact hcT ⟨by omega, by omega⟩ | exact hcF (fun q => absurd q.1 (by omega)) | exact hcF (fun q => absurd q.2 (by omega))) rfl rfl
    · refine r_iconst (v := nI 1) X (by decide) dX4_missesMark_23 (pc' := 24) rfl ?_
      refine r_goto (tgt := 28) X dX4_missesMark_24 (by decide) ?_
      exact r_iret X r dX4_missesMark_28 (by omega) (by omega) rfl (by first | exact hcT ⟨by omega, by omega⟩ | exact hcF (fun q => absurd q.1 (by omega)) | exact hcF (fun q => absurd q.2 (by omega))) rfl rfl
set_option maxRecDepth 100000 in
set_option maxHeartbeats 4000000 in
theorem ct_X6_init (P : Px) (n : Nat) (h : hw) (k a b s : Nat) (hk : k < n) (he : h k = .inr (6, [.int 0, .int 0, .int 0, .int 0, .int 0, .int 0, .int 0, .int 0, .int 0])) (ha : a < 2 ^ 31) (hb : b < 2 ^ 31) : Ct P MX6_init 1 0 0 [.ref (Bs P + k), .int (nI a), .int (nI b), .int (nI s)] n h none n (hset h k (rcell a b s)) := by
  refine Ct.of (by decide +kernel) (Nat.le_of_ble_eq_true rfl) rfl (fun K X hnm r => ?_)
  have X : Cx K P RX6 cX6_init 4 1 0 0 := X
  have r : Rt K P none 0 0 _ _ _ := r
  show Z K P _ _ 0 0 0 [some (.ref (Bs P + k)), some (.int (nI a)), some (.int (nI b)), some (.int (nI s))] []
  refine r_aload_n X dX6_init_0 (pc' := 1) rfl rfl ?_
  refine r_obj X lm_X6_3 ob_i ob_c dX6_init_1 (pc' := 4) rfl (by omega) (Nat.le_of_ble_eq_true rfl) ?_
  refine r_aload_n X dX6_init_4 (pc' := 5) rfl rfl ?_
  refine r_iload_n X dX6_init_5 (pc' := 6) rfl rfl ?_
  refine r_sipush (v := nI 10000) X (by decide) dX6_init_6 (pc' := 9) rfl ?_
  first | refine rN_idiv X dX6_init_9 (pc' := 10) rfl (by omega) (by omega) (by omega) ?_ | refine r_idiv X (by decide) dX6_init_9 (pc' := 10) rfl ?_
  refine r_putF X hnm fX6 lf_X6_9 rfl rfl dX6_init_10 (pc' := 13) rfl (by decide) (by omega) he (Nat.le_of_ble_eq_true rfl) rfl rfl ?_
  try rw [hset_ss]
  refine r_aload_n X dX6_init_13 (pc' := 14) rfl rfl ?_
  refine r_iload_n X dX6_init_14 (pc' := 15) rfl rfl ?_
  refine r_sipush (v := nI 1000) X (by decide) dX6_init_15 (pc' := 18) rfl ?_
  first | refine rN_idiv X dX6_init_18 (pc' := 19) rfl (by omega) (by omega) (by omega) ?_ | refine r_idiv X (by decide) dX6_init_18 (pc' := 19) rfl ?_
  refine r_bipush (v := nI 10) X (by decide) dX6_init_19 (pc' := 21) rfl ?_
  first | refine rN_irem X dX6_init_21 (pc' := 22) rfl (by omega) (by omega) (by omega) ?_ | refine r_irem X (by decide) dX6_init_21 (pc' := 22) rfl ?_
  refine r_putF X hnm fX6 lf_X6_15 rfl rfl dX6_init_22 (pc' := 25) rfl (by decide) (by omega) (hset_s _ _ _) (Nat.le_of_ble_eq_true rfl) rfl rfl ?_
  try rw [hset_ss]
  refine r_aload_n X dX6_init_25 (pc' := 26) rfl rfl ?_
  refine r_iload_n X dX6_init_26 (pc' := 27) rfl rfl ?_
  refine r_bipush (v := nI 100) X (by decide) dX6_init_27 (pc' := 29) rfl ?_
  first | refine rN_idiv X dX6_init_29 (pc' := 30) rfl (by omega) (by omega) (by omega) ?_ | refine r_idiv X (by decide) dX6_init_29 (pc' := 30) rfl ?_
  refine r_bipush (v := nI 10) X (by decide) dX6_init_30 (pc' := 32) rfl ?_
  first | refine rN_irem X dX6_init_32 (pc' := 33) rfl (by omega) (by omega) (by omega) ?_ | refine r_irem X (by decide) dX6_init_32 (pc' := 33) rfl ?_
  refine r_putF X hnm fX6 lf_X6_18 rfl rfl dX6_init_33 (pc' := 36) rfl (by decide) (by omega) (hset_s _ _ _) (Nat.le_of_ble_eq_true rfl) rfl rfl ?_
  try rw [hset_ss]
  refine r_aload_n X dX6_init_36 (pc' := 37) rfl rfl ?_
  refine r_iload_n X dX6_init_37 (pc' := 38) rfl rfl ?_
  refine r_bipush (v := nI 100) X (by decide) dX6_init_38 (pc' := 40) rfl ?_
  first | refine rN_irem X dX6_init_40 (pc' := 41) rfl (by omega) (by omega) (by omega) ?_ | refine r_irem X (by decide) dX6_init_40 (pc' := 41) rfl ?_
  refine r_putF X hnm fX6 lf_X6_21 rfl rfl dX6_init_41 (pc' := 44) rfl (by decide) (by omega) (hset_s _ _ _) (Nat.le_of_ble_eq_true rfl) rfl rfl ?_
  try rw [hset_ss]
  refine r_aload_n X dX6_init_44 (pc' := 45) rfl rfl ?_
  refine r_iload_n X dX6_init_45 (pc' := 46) rfl rfl ?_
  refine r_sipush (v := nI 10000) X (by decide) dX6_init_46 (pc' := 49) rfl ?_
  first | refine rN_idiv X dX6_init_49 (pc' := 50) rfl (by omega) (by omega) (by omega) ?_ | refine r_idiv X (by decide) dX6_init_49 (pc' := 50) rfl ?_
  refine r_putF X hnm fX6 lf_X6_24 rfl rfl dX6_init_50 (pc' := 53) rfl (by decide) (by omega) (hset_s _ _ _) (Nat.le_of_ble_eq_true rfl) rfl rfl ?_
  try rw [hset_ss]
  refine r_aload_n X dX6_init_53 (pc' := 54) rfl rfl ?_
  refine r_iload_n X dX6_init_54 (pc' := 55) rfl rfl ?_
  refine r_bipush (v := nI 100) X (by decide) dX6_init_55 (pc' := 57) rfl ?_
  first | refine rN_idiv X dX6_init_57 (pc' := 58) rfl (by omega) (by omega) (by omega) ?_ | refine r_idiv X (by decide) dX6_init_57 (pc' := 58) rfl ?_
  refine r_bipush (v := nI 100) X (by decide) dX6_init_58 (pc' := 60) rfl ?_
  first | refine rN_irem X dX6_init_60 (pc' := 61) rfl (by omega) (by omega) (by omega) ?_ | refine r_irem X (by decide) dX6_init_60 (pc' := 61) rfl ?_
  refine r_putF X hnm fX6 lf_X6_27 rfl rfl dX6_init_61 (pc' := 64) rfl (by decide) (by omega) (hset_s _ _ _) (Nat.le_of_ble_eq_true rfl) rfl rfl ?_
  try rw [hset_ss]
  refine r_aload_n X dX6_init_64 (pc' := 65) rfl rfl ?_
  refine r_iload_n X dX6_init_65 (pc' := 66) rfl rfl ?_
  refine r_bipush (v := nI 10) X (by decide) dX6_init_66 (pc' := 68) rfl ?_
  first | refine rN_idiv X dX6_init_68 (pc' := 69) rfl (by omega) (by omega) (by omega) ?_ | refine r_idiv X (by decide) dX6_init_68 (pc' := 69) rfl ?_
  refine r_bipush (v := nI 10) X (by decide) dX6_init_69 (pc' := 71) rfl ?_
  first | refine rN_irem X dX6_init_71 (pc' := 72) rfl (by omega) (by omega) (by omega) ?_ | refine r_irem X (by decide) dX6_init_71 (pc' := 72) rfl ?_
  refine r_putF X hnm fX6 lf_X6_30 rfl rfl dX6_init_72 (pc' := 75) rfl (by decide) (by omega) (hset_s _ _ _) (Nat.le_of_ble_eq_true rfl) rfl rfl ?_
  try rw [hset_ss]
  refine r_aload_n X dX6_init_75 (pc' := 76) rfl rfl ?_
  refine r_iload_n X dX6_init_76 (pc' := 77) rfl rfl ?_
  refine r_bipush (v := nI 10) X (by decide) dX6_init_77 (pc' := 79) rfl ?_
  first | refine rN_irem X dX6_init_79 (pc' := 80) rfl (by omega) (by omega) (by omega) ?_ | refine r_irem X (by decide) dX6_init_79 (pc' := 80) rfl ?_
  refine r_putF X hnm fX6 lf_X6_33 rfl rfl dX6_init_80 (pc' := 83) rfl (by decide) (by omega) (hset_s _ _ _) (Nat.le_of_ble_eq_true rfl) rfl rfl ?_
  try rw [hset_ss]
  refine r_aload_n X dX6_init_83 (pc' := 84) rfl rfl ?_
  refine r_iload_n X dX6_init_84 (pc' := 85) rfl rfl ?_
  refine r_putF X hnm fX6 lf_X6_36 rfl rfl dX6_init_85 (pc' := 88) rfl (by decide) (by omega) (hset_s _ _ _) (Nat.le_of_ble_eq_true rfl) rfl rfl ?_
  try rw [hset_ss]
  exact r_vret X r dX6_init_88 (by omega) (by omega) rfl rfl (by first | rfl | (rw [hset_ss] <;> rfl))
set_option maxRecDepth 100000 in
set_option maxHeartbeats 4000000 in
theorem ct_X4_init (P : Px) (n : Nat) (h : hw) (k w : Nat) (hk : k < n) (he : h k = .inr (4, [.int 0, .int 0, .int 0, .int 0, .int 0])) (hw : w < 2 ^ 31) : Ct P MX4_init 1 0 0 [.ref (Bs P + k), .int (nI w)] n h none n (hset h k (lcell w)) := by
  refine Ct.of (by decide +kernel) (Nat.le_of_ble_eq_true rfl) rfl (fun K X hnm r => ?_)
  have X : Cx K P RX4 cX4_init 2 1 0 0 := X
  have r : Rt K P none 0 0 _ _ _ := r
  show Z K P _ _ 0 0 0 [some (.ref (Bs P + k)), some (.int (nI w))] []
  refine r_aload_n X dX4_init_0 (pc' := 1) rfl rfl ?_
  refine r_obj X lm_X4_3 ob_i ob_c dX4_init_1 (pc' := 4) rfl (by omega) (Nat.le_of_ble_eq_true rfl) ?_
  refine r_aload_n X dX4_init_4 (pc' := 5) rfl rfl ?_
  refine r_iload_n X dX4_init_5 (pc' := 6) rfl rfl ?_
  refine r_sipush (v := nI 10000) X (by decide) dX4_init_6 (pc' := 9) rfl ?_
  first | refine rN_idiv X dX4_init_9 (pc' := 10) rfl (by omega) (by omega) (by omega) ?_ | refine r_idiv X (by decide) dX4_init_9 (pc' := 10) rfl ?_
  refine r_putF X hnm fX4 lf_X4_9 rfl rfl dX4_init_10 (pc' := 13) rfl (by decide) (by omega) he (Nat.le_of_ble_eq_true rfl) rfl rfl ?_
  try rw [hset_ss]
  refine r_aload_n X dX4_init_13 (pc' := 14) rfl rfl ?_
  refine r_iload_n X dX4_init_14 (pc' := 15) rfl rfl ?_
  refine r_sipush (v := nI 1000) X (by decide) dX4_init_15 (pc' := 18) rfl ?_
  first | refine rN_idiv X dX4_init_18 (pc' := 19) rfl (by omega) (by omega) (by omega) ?_ | refine r_idiv X (by decide) dX4_init_18 (pc' := 19) rfl ?_
  refine r_bipush (v := nI 10) X (by decide) dX4_init_19 (pc' := 21) rfl ?_
  first | refine rN_irem X dX4_init_21 (pc' := 22) rfl (by omega) (by omega) (by omega) ?_ | refine r_irem X (by decide) dX4_init_21 (pc' := 22) rfl ?_
  refine r_putF X hnm fX4 lf_X4_15 rfl rfl dX4_init_22 (pc' := 25) rfl (by decide) (by omega) (hset_s _ _ _) (Nat.le_of_ble_eq_true rfl) rfl rfl ?_
  try rw [hset_ss]
  refine r_aload_n X dX4_init_25 (pc' := 26) rfl rfl ?_
  refine r_iload_n X dX4_init_26 (pc' := 27) rfl rfl ?_
  refine r_bipush (v := nI 100) X (by decide) dX4_init_27 (pc' := 29) rfl ?_
  first | refine rN_idiv X dX4_init_29 (pc' := 30) rfl (by omega) (by omega) (by omega) ?_ | refine r_idiv X (by decide) dX4_init_29 (pc' := 30) rfl ?_
  refine r_bipush (v := nI 10) X (by decide) dX4_init_30 (pc' := 32) rfl ?_
  first | refine rN_irem X dX4_init_32 (pc' := 33) rfl (by omega) (by omega) (by omega) ?_ | refine r_irem X (by decide) dX4_init_32 (pc' := 33) rfl ?_
  refine r_putF X hnm fX4 lf_X4_18 rfl rfl dX4_init_33 (pc' := 36) rfl (by decide) (by omega) (hset_s _ _ _) (Nat.le_of_ble_eq_true rfl) rfl rfl ?_
  try rw [hset_ss]
  refine r_aload_n X dX4_init_36 (pc' := 37) rfl rfl ?_
  refine r_iload_n X dX4_init_37 (pc' := 38) rfl rfl ?_
  refine r_bipush (v := nI 10) X (by decide) dX4_init_38 (pc' := 40) rfl ?_
  first | refine rN_idiv X dX4_init_40 (pc' := 41) rfl (by omega) (by omega) (by omega) ?_ | refine r_idiv X (by decide) dX4_init_40 (pc' := 41) rfl ?_
  refine r_bipush (v := nI 10) X (by decide) dX4_init_41 (pc' := 43) rfl ?_
  first | refine rN_irem X dX4_init_43 (pc' := 44) rfl (by omega) (by omega) (by omega) ?_ | refine r_irem X (by decide) dX4_init_43 (pc' := 44) rfl ?_
  refine r_putF X hnm fX4 lf_X4_21 rfl rfl dX4_init_44 (pc' := 47) rfl (by decide) (by omega) (hset_s _ _ _) (Nat.le_of_ble_eq_true rfl) rfl rfl ?_
  try rw [hset_ss]
  refine r_aload_n X dX4_init_47 (pc' := 48) rfl rfl ?_
  refine r_iload_n X dX4_init_48 (pc' := 49) rfl rfl ?_
  refine r_bipush (v := nI 10) X (by decide) dX4_init_49 (pc' := 51) rfl ?_
  first | refine rN_irem X dX4_init_51 (pc' := 52) rfl (by omega) (by omega) (by omega) ?_ | refine r_irem X (by decide) dX4_init_51 (pc' := 52) rfl ?_
  refine r_putF X hnm fX4 lf_X4_24 rfl rfl dX4_init_52 (pc' := 55) rfl (by decide) (by omega) (hset_s _ _ _) (Nat.le_of_ble_eq_true rfl) rfl rfl ?_
  try rw [hset_ss]
  exact r_vret X r dX4_init_55 (by omega) (by omega) rfl rfl (by first | rfl | (rw [hset_ss] <;> rfl))
