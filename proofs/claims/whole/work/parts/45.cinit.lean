/-! ===== worlds as lists of cells, for the constructors ===== -/
def lw (b : Nat) (L : List va_E) (h : hw) : hw := fun k => if k < b then h k else match L[k - b]? with
  | some e => e
  | none => h k
theorem Z_w {K : Kx} {P : Px} {n : Nat} {h h' : hw} {u w pc : Nat} {vs : List (Option Value)} {st : List Value} (e : h = h') (k : Z K P n h' u w pc vs st) : Z K P n h u w pc vs st := e ▸ k
theorem lw_at {b : Nat} {L : List va_E} {h : hw} (i : Nat) {k : Nat} {e : va_E} (hk : k = b + i) (hL : L[i]? = some e) : lw b L h k = e := by
  unfold lw
  rw [if_neg (by omega), show k - b = i by omega, hL]
theorem lw_lo {b : Nat} {L : List va_E} {h : hw} {k : Nat} (hk : k < b) : lw b L h k = h k := if_pos hk
theorem lw_hi {b : Nat} {L : List va_E} {h : hw} {k : Nat} (hk : b + L.length ≤ k) : lw b L h k = h k := by
  unfold lw
  split
  · rfl
  · rw [List.getElem?_eq_none (by omega)]
theorem lw_set {b : Nat} {L : List va_E} {h : hw} {e : va_E} (i : Nat) {k : Nat} (hk : k = b + i) (hi : i < L.length) : hset (lw b L h) k e = lw b (L.set i e) h := by
  subst hk
  funext j
  unfold hset
  by_cases hj : j = b + i
  · subst hj
    rw [if_pos rfl]
    exact (lw_at i rfl (by simp [hi])).symm
  · rw [if_neg hj]
    unfold lw
    by_cases hb : j < b
    · rw [if_pos hb, if_pos hb]
    · rw [if_neg hb, if_neg hb, List.getElem?_set_ne (by omega)]
theorem lw_push {b : Nat} {L : List va_E} {h : hw} {e : va_E} {k : Nat} (hk : k = b + L.length) : hset (lw b L h) k e = lw b (L ++ [e]) h := by
  subst hk
  funext j
  unfold hset
  by_cases hj : j = b + L.length
  · subst hj
    rw [if_pos rfl]
    exact (lw_at L.length rfl (by simp)).symm
  · rw [if_neg hj]
    unfold lw
    by_cases hb : j < b
    · rw [if_pos hb, if_pos hb]
    · rw [if_neg hb, if_neg hb]
      by_cases hl : j - b < L.length
      · rw [List.getElem?_append_left hl]
      · rw [List.getElem?_eq_none (by omega), List.getElem?_eq_none (by simp; omega)]
theorem lw_mna {P : Px} {b N M : Nat} {L : List va_E} {h : hw} {k : Nat} (hk : k = b + L.length) : hmna P (lw b L h) k N M = lw b (L ++ .inl (P.2.2.1 2, N, .inr (.inr (.inr (.inr (fun i => if i < N then some (Bs P + (k + 1) + i) else none))))) :: List.replicate N (.inl (P.2.2.1 0, M, .inl (fun _ => 0)))) h := by
  funext j
  unfold hmna
  by_cases h1 : j = k
  · subst h1
    rw [if_pos rfl]
    exact (lw_at L.length hk (by simp)).symm
  · rw [if_neg h1]
    by_cases h2 : k < j ∧ j ≤ k + N
    · rw [if_pos h2]
      refine (lw_at (L.length + 1 + (j - k - 1)) (by omega) ?_).symm
      rw [List.getElem?_append_right (by omega), show L.length + 1 + (j - k - 1) - L.length = (j - k - 1) + 1 by omega, List.getElem?_cons_succ, List.getElem?_replicate, if_pos (by omega)]
    · rw [if_neg h2]
      unfold lw
      by_cases hb : j < b
      · rw [if_pos hb, if_pos hb]
      · rw [if_neg hb, if_neg hb]
        by_cases hl : j - b < L.length
        · rw [List.getElem?_append_left hl]
        · rw [List.getElem?_eq_none (by omega), List.getElem?_eq_none (by simp; omega)]
set_option maxRecDepth 100000 in
set_option maxHeartbeats 1000000 in
theorem ct_X5_init (P : Px) (h : hw) (c0 c1 c2 c3 : va_E) : Ct P MX5_init 1 10 72 [.ref (Bs P + 4)] 5 (lw 0 [c0, c1, c2, c3, .inr (5, [.null, .null, .null, .null])] h) none 15 (lw 0 [c0, c1, c2, c3, .inr (5, [.ref (Bs P + 5), .ref (Bs P + 9), .ref (Bs P + 13), .ref (Bs P + 14)]), .inl (P.2.2.1 2, 3, .inr (.inr (.inr (.inr (fun i => if i < 3 then some (Bs P + 6 + i) else none))))), .inl (P.2.2.1 0, 10, .inl (fun _ => 0)), .inl (P.2.2.1 0, 10, .inl (fun _ => 0)), .inl (P.2.2.1 0, 10, .inl (fun _ => 0)), .inl (P.2.2.1 2, 3, .inr (.inr (.inr (.inr (fun i => if i < 3 then some (Bs P + 10 + i) else none))))), .inl (P.2.2.1 0, 10, .inl (fun _ => 0)), .inl (P.2.2.1 0, 10, .inl (fun _ => 0)), .inl (P.2.2.1 0, 10, .inl (fun _ => 0)), .inl (P.2.2.1 0, 3, .inl (upd (upd (upd (fun _ => 0) 0 (nI 20)) 1 (nI 20)) 2 (nI 20))), .inl (P.2.2.1 0, 3, .inl (upd (upd (upd (fun _ => 0) 0 (nI 1)) 1 (nI 1)) 2 (nI 1)))] h) := by
  refine Ct.of (by decide +kernel) (Nat.le_of_ble_eq_true rfl) rfl (fun K X hnm r => ?_)
  have X : Cx K P RX5 cX5_init 1 1 10 72 := X
  have r : Rt K P none 10 72 _ _ _ := r
  show Z K P _ _ 0 0 0 [some (.ref (Bs P + 4))] []
  refine r_aload_n X dX5_init_0 (pc' := 1) rfl rfl ?_
  refine r_obj X lm_X5_3 ob_i ob_c dX5_init_1 (pc' := 4) rfl (by omega) (Nat.le_of_ble_eq_true rfl) ?_
  refine r_aload_n X dX5_init_4 (pc' := 5) rfl rfl ?_
  refine r_iconst (v := nI 3) X (by decide) dX5_init_5 (pc' := 6) rfl ?_
  refine r_bipush (v := nI 10) X (by decide) dX5_init_6 (pc' := 8) rfl ?_
  refine r_mna X lc_X5_9 (by decide) (by decide) (by omega) (by omega) dX5_init_8 (pc' := 12) rfl ?_
  refine Z_w (lw_mna rfl) ?_
  simp only [List.set_cons_succ, List.set_cons_zero, List.cons_append, List.nil_append, List.replicate, Nat.reduceAdd, Nat.reduceMul]
  refine r_putF X hnm fX5 lf_X5_11 rfl rfl dX5_init_12 (pc' := 15) rfl (by decide) (by omega) (lw_at 4 rfl rfl) (Nat.le_of_ble_eq_true rfl) rfl rfl ?_
  refine Z_w (lw_set 4 rfl (Nat.le_of_ble_eq_true rfl)) ?_
  simp only [List.set_cons_succ, List.set_cons_zero, List.cons_append, List.nil_append, List.replicate, Nat.reduceAdd, Nat.reduceMul]
  refine r_aload_n X dX5_init_15 (pc' := 16) rfl rfl ?_
  refine r_iconst (v := nI 3) X (by decide) dX5_init_16 (pc' := 17) rfl ?_
  refine r_bipush (v := nI 10) X (by decide) dX5_init_17 (pc' := 19) rfl ?_
  refine r_mna X lc_X5_9 (by decide) (by decide) (by omega) (by omega) dX5_init_19 (pc' := 23) rfl ?_
  refine Z_w (lw_mna rfl) ?_
  simp only [List.set_cons_succ, List.set_cons_zero, List.cons_append, List.nil_append, List.replicate, Nat.reduceAdd, Nat.reduceMul]
  refine r_putF X hnm fX5 lf_X5_16 rfl rfl dX5_init_23 (pc' := 26) rfl (by decide) (by omega) (lw_at 4 rfl rfl) (Nat.le_of_ble_eq_true rfl) rfl rfl ?_
  refine Z_w (lw_set 4 rfl (Nat.le_of_ble_eq_true rfl)) ?_
  simp only [List.set_cons_succ, List.set_cons_zero, List.cons_append, List.nil_append, List.replicate, Nat.reduceAdd, Nat.reduceMul]
  refine r_aload_n X dX5_init_26 (pc' := 27) rfl rfl ?_
  refine r_iconst (v := nI 3) X (by decide) dX5_init_27 (pc' := 28) rfl ?_
  refine r_newi X ac_int (by omega) (by omega) (by omega) dX5_init_28 (pc' := 30) rfl ?_
  refine Z_w (lw_push rfl) ?_
  simp only [List.set_cons_succ, List.set_cons_zero, List.cons_append, List.nil_append, List.replicate, Nat.reduceAdd, Nat.reduceMul]
  refine r_dup X rfl dX5_init_30 (pc' := 31) rfl ?_
  refine r_iconst (v := nI 0) X (by decide) dX5_init_31 (pc' := 32) rfl ?_
  refine r_bipush (v := nI 20) X (by decide) dX5_init_32 (pc' := 34) rfl ?_
  refine r_iast X dX5_init_34 (pc' := 35) rfl (by omega) (lw_at 13 rfl rfl) (by omega) (by omega) ?_
  refine Z_w (lw_set 13 rfl (Nat.le_of_ble_eq_true rfl)) ?_
  simp only [List.set_cons_succ, List.set_cons_zero, List.cons_append, List.nil_append, List.replicate, Nat.reduceAdd, Nat.reduceMul]
  refine r_dup X rfl dX5_init_35 (pc' := 36) rfl ?_
  refine r_iconst (v := nI 1) X (by decide) dX5_init_36 (pc' := 37) rfl ?_
  refine r_bipush (v := nI 20) X (by decide) dX5_init_37 (pc' := 39) rfl ?_
  refine r_iast X dX5_init_39 (pc' := 40) rfl (by omega) (lw_at 13 rfl rfl) (by omega) (by omega) ?_
  refine Z_w (lw_set 13 rfl (Nat.le_of_ble_eq_true rfl)) ?_
  simp only [List.set_cons_succ, List.set_cons_zero, List.cons_append, List.nil_append, List.replicate, Nat.reduceAdd, Nat.reduceMul]
  refine r_dup X rfl dX5_init_40 (pc' := 41) rfl ?_
  refine r_iconst (v := nI 2) X (by decide) dX5_init_41 (pc' := 42) rfl ?_
  refine r_bipush (v := nI 20) X (by decide) dX5_init_42 (pc' := 44) rfl ?_
  refine r_iast X dX5_init_44 (pc' := 45) rfl (by omega) (lw_at 13 rfl rfl) (by omega) (by omega) ?_
  refine Z_w (lw_set 13 rfl (Nat.le_of_ble_eq_true rfl)) ?_
  simp only [List.set_cons_succ, List.set_cons_zero, List.cons_append, List.nil_append, List.replicate, Nat.reduceAdd, Nat.reduceMul]
  refine r_putF X hnm fX5 lf_X5_19 rfl rfl dX5_init_45 (pc' := 48) rfl (by decide) (by omega) (lw_at 4 rfl rfl) (Nat.le_of_ble_eq_true rfl) rfl rfl ?_
  refine Z_w (lw_set 4 rfl (Nat.le_of_ble_eq_true rfl)) ?_
  simp only [List.set_cons_succ, List.set_cons_zero, List.cons_append, List.nil_append, List.replicate, Nat.reduceAdd, Nat.reduceMul]
  refine r_aload_n X dX5_init_48 (pc' := 49) rfl rfl ?_
  refine r_iconst (v := nI 3) X (by decide) dX5_init_49 (pc' := 50) rfl ?_
  refine r_newi X ac_int (by omega) (by omega) (by omega) dX5_init_50 (pc' := 52) rfl ?_
  refine Z_w (lw_push rfl) ?_
  simp only [List.set_cons_succ, List.set_cons_zero, List.cons_append, List.nil_append, List.replicate, Nat.reduceAdd, Nat.reduceMul]
  refine r_dup X rfl dX5_init_52 (pc' := 53) rfl ?_
  refine r_iconst (v := nI 0) X (by decide) dX5_init_53 (pc' := 54) rfl ?_
  refine r_iconst (v := nI 1) X (by decide) dX5_init_54 (pc' := 55) rfl ?_
  refine r_iast X dX5_init_55 (pc' := 56) rfl (by omega) (lw_at 14 rfl rfl) (by omega) (by omega) ?_
  refine Z_w (lw_set 14 rfl (Nat.le_of_ble_eq_true rfl)) ?_
  simp only [List.set_cons_succ, List.set_cons_zero, List.cons_append, List.nil_append, List.replicate, Nat.reduceAdd, Nat.reduceMul]
  refine r_dup X rfl dX5_init_56 (pc' := 57) rfl ?_
  refine r_iconst (v := nI 1) X (by decide) dX5_init_57 (pc' := 58) rfl ?_
  refine r_iconst (v := nI 1) X (by decide) dX5_init_58 (pc' := 59) rfl ?_
  refine r_iast X dX5_init_59 (pc' := 60) rfl (by omega) (lw_at 14 rfl rfl) (by omega) (by omega) ?_
  refine Z_w (lw_set 14 rfl (Nat.le_of_ble_eq_true rfl)) ?_
  simp only [List.set_cons_succ, List.set_cons_zero, List.cons_append, List.nil_append, List.replicate, Nat.reduceAdd, Nat.reduceMul]
  refine r_dup X rfl dX5_init_60 (pc' := 61) rfl ?_
  refine r_iconst (v := nI 2) X (by decide) dX5_init_61 (pc' := 62) rfl ?_
  refine r_iconst (v := nI 1) X (by decide) dX5_init_62 (pc' := 63) rfl ?_
  refine r_iast X dX5_init_63 (pc' := 64) rfl (by omega) (lw_at 14 rfl rfl) (by omega) (by omega) ?_
  refine Z_w (lw_set 14 rfl (Nat.le_of_ble_eq_true rfl)) ?_
  simp only [List.set_cons_succ, List.set_cons_zero, List.cons_append, List.nil_append, List.replicate, Nat.reduceAdd, Nat.reduceMul]
  refine r_putF X hnm fX5 lf_X5_23 rfl rfl dX5_init_64 (pc' := 67) rfl (by decide) (by omega) (lw_at 4 rfl rfl) (Nat.le_of_ble_eq_true rfl) rfl rfl ?_
  refine Z_w (lw_set 4 rfl (Nat.le_of_ble_eq_true rfl)) ?_
  simp only [List.set_cons_succ, List.set_cons_zero, List.cons_append, List.nil_append, List.replicate, Nat.reduceAdd, Nat.reduceMul]
  exact r_vret X r dX5_init_67 (by omega) (by omega) rfl rfl rfl
set_option maxRecDepth 100000 in
set_option maxHeartbeats 1000000 in
theorem ct_X8_init (P : Px) (h : hw) : Ct P MX8_init 2 60 2400 [.ref (Bs P + 0)] 1 (lw 0 [.inr (8, [.null, .null, .null, .null, .null, .null, .null, .null, .int 0, .int 0, .int 0])] h) none 37 (lw 0 [.inr (8, [.ref (Bs P + 1), .ref (Bs P + 2), .ref (Bs P + 3), .ref (Bs P + 4), .ref (Bs P + 15), .ref (Bs P + 20), .ref (Bs P + 25), .ref (Bs P + 32), .int 0, .int 0, .int 0]), .inl (P.2.2.1 0, 10, .inl (fun _ => 0)), .inl (P.2.2.1 0, 10, .inl (fun _ => 0)), .inl (P.2.2.1 0, 10, .inl (fun _ => 0)), .inr (5, [.ref (Bs P + 5), .ref (Bs P + 9), .ref (Bs P + 13), .ref (Bs P + 14)]), .inl (P.2.2.1 2, 3, .inr (.inr (.inr (.inr (fun i => if i < 3 then some (Bs P + 6 + i) else none))))), .inl (P.2.2.1 0, 10, .inl (fun _ => 0)), .inl (P.2.2.1 0, 10, .inl (fun _ => 0)), .inl (P.2.2.1 0, 10, .inl (fun _ => 0)), .inl (P.2.2.1 2, 3, .inr (.inr (.inr (.inr (fun i => if i < 3 then some (Bs P + 10 + i) else none))))), .inl (P.2.2.1 0, 10, .inl (fun _ => 0)), .inl (P.2.2.1 0, 10, .inl (fun _ => 0)), .inl (P.2.2.1 0, 10, .inl (fun _ => 0)), .inl (P.2.2.1 0, 3, .inl (upd (upd (upd (fun _ => 0) 0 (nI 20)) 1 (nI 20)) 2 (nI 20))), .inl (P.2.2.1 0, 3, .inl (upd (upd (upd (fun _ => 0) 0 (nI 1)) 1 (nI 1)) 2 (nI 1))), .inl (P.2.2.1 3, 2, .inr (.inr (.inr (.inr (va_up (va_up (fun _ => none) 0 (some (Bs P + 16))) 1 (some (Bs P + 18))))))), .inr (1, [.ref (Bs P + 17), .int 0]), .inl (P.2.2.1 5, 12, .inr (.inr (.inr (.inr (fun _ => none))))), .inr (1, [.ref (Bs P + 19), .int 0]), .inl (P.2.2.1 5, 12, .inr (.inr (.inr (.inr (fun _ => none))))), .inl (P.2.2.1 4, 4, .inr (.inr (.inr (.inr (va_up (va_up (va_up (va_up (fun _ => none) 0 (some (Bs P + 21))) 1 (some (Bs P + 22))) 2 (some (Bs P + 23))) 3 (some (Bs P + 24))))))), .inr (2, [.int (nI 5), .int (nI 2), .int 0, .null]), .inr (2, [.int (nI 5), .int (nI 2), .int 0, .null]), .inr (2, [.int (nI 5), .int (nI 2), .int 0, .null]), .inr (2, [.int (nI 5), .int (nI 2), .int 0, .null]), .inr (0, [.ref (Bs P + 26), .int 0, .int 0]), .inl (P.2.2.1 2, 5, .inr (.inr (.inr (.inr (fun i => if i < 5 then some (Bs P + 27 + i) else none))))), .inl (P.2.2.1 0, 300, .inl (fun _ => 0)), .inl (P.2.2.1 0, 300, .inl (fun _ => 0)), .inl (P.2.2.1 0, 300, .inl (fun _ => 0)), .inl (P.2.2.1 0, 300, .inl (fun _ => 0)), .inl (P.2.2.1 0, 300, .inl (fun _ => 0)), .inr (7, [.ref (Bs P + 33), .ref (Bs P + 34), .ref (Bs P + 35), .ref (Bs P + 36), .int 0]), .inl (P.2.2.1 0, 16, .inl (fun _ => 0)), .inl (P.2.2.1 0, 64, .inl (fun _ => 0)), .inl (P.2.2.1 0, 80, .inl (fun _ => 0)), .inl (P.2.2.1 0, 64, .inl (fun _ => 0))] h) := by
  refine Ct.of (by decide +kernel) (Nat.le_of_ble_eq_true rfl) rfl (fun K X hnm r => ?_)
  have X : Cx K P RX8 cX8_init 1 2 60 2400 := X
  have r : Rt K P none 60 2400 _ _ _ := r
  show Z K P _ _ 0 0 0 [some (.ref (Bs P + 0))] []
  refine r_aload_n X dX8_init_0 (pc' := 1) rfl rfl ?_
  refine r_obj X lm_X8_1 ob_i ob_c dX8_init_1 (pc' := 4) rfl (by omega) (Nat.le_of_ble_eq_true rfl) ?_
  refine r_aload_n X dX8_init_4 (pc' := 5) rfl rfl ?_
  refine r_bipush (v := nI 10) X (by decide) dX8_init_5 (pc' := 7) rfl ?_
  refine r_newi X ac_int (by omega) (by omega) (by omega) dX8_init_7 (pc' := 9) rfl ?_
  refine Z_w (lw_push rfl) ?_
  simp only [List.set_cons_succ, List.set_cons_zero, List.cons_append, List.nil_append, List.replicate, Nat.reduceAdd, Nat.reduceMul]
  refine r_putF X hnm fX8 lf_X8_9 rfl rfl dX8_init_9 (pc' := 12) rfl (by decide) (by omega) (lw_at 0 rfl rfl) (Nat.le_of_ble_eq_true rfl) rfl rfl ?_
  refine Z_w (lw_set 0 rfl (Nat.le_of_ble_eq_true rfl)) ?_
  simp only [List.set_cons_succ, List.set_cons_zero, List.cons_append, List.nil_append, List.replicate, Nat.reduceAdd, Nat.reduceMul]
  refine r_aload_n X dX8_init_12 (pc' := 13) rfl rfl ?_
  refine r_bipush (v := nI 10) X (by decide) dX8_init_13 (pc' := 15) rfl ?_
  refine r_newi X ac_int (by omega) (by omega) (by omega) dX8_init_15 (pc' := 17) rfl ?_
  refine Z_w (lw_push rfl) ?_
  simp only [List.set_cons_succ, List.set_cons_zero, List.cons_append, List.nil_append, List.replicate, Nat.reduceAdd, Nat.reduceMul]
  refine r_putF X hnm fX8 lf_X8_13 rfl rfl dX8_init_17 (pc' := 20) rfl (by decide) (by omega) (lw_at 0 rfl rfl) (Nat.le_of_ble_eq_true rfl) rfl rfl ?_
  refine Z_w (lw_set 0 rfl (Nat.le_of_ble_eq_true rfl)) ?_
  simp only [List.set_cons_succ, List.set_cons_zero, List.cons_append, List.nil_append, List.replicate, Nat.reduceAdd, Nat.reduceMul]
  refine r_aload_n X dX8_init_20 (pc' := 21) rfl rfl ?_
  refine r_bipush (v := nI 10) X (by decide) dX8_init_21 (pc' := 23) rfl ?_
  refine r_newi X ac_int (by omega) (by omega) (by omega) dX8_init_23 (pc' := 25) rfl ?_
  refine Z_w (lw_push rfl) ?_
  simp only [List.set_cons_succ, List.set_cons_zero, List.cons_append, List.nil_append, List.replicate, Nat.reduceAdd, Nat.reduceMul]
  refine r_putF X hnm fX8 lf_X8_16 rfl rfl dX8_init_25 (pc' := 28) rfl (by decide) (by omega) (lw_at 0 rfl rfl) (Nat.le_of_ble_eq_true rfl) rfl rfl ?_
  refine Z_w (lw_set 0 rfl (Nat.le_of_ble_eq_true rfl)) ?_
  simp only [List.set_cons_succ, List.set_cons_zero, List.cons_append, List.nil_append, List.replicate, Nat.reduceAdd, Nat.reduceMul]
  refine r_aload_n X dX8_init_28 (pc' := 29) rfl rfl ?_
  refine r_new (fs := [.null, .null, .null, .null]) X fX5 lc_X8_19 insX5 iniX5 (fun q hq => by match q, hq with | 0, _ => rfl | 1, _ => rfl | 2, _ => rfl | 3, _ => rfl) (by omega) (by omega) dX8_init_29 (pc' := 32) rfl ?_
  refine Z_w (lw_push rfl) ?_
  simp only [List.set_cons_succ, List.set_cons_zero, List.cons_append, List.nil_append, List.replicate, Nat.reduceAdd, Nat.reduceMul]
  refine r_dup X rfl dX8_init_32 (pc' := 33) rfl ?_
  refine r_callI (As := []) X okX5_init lm_X8_21 dX8_init_33 (pc' := 36) rfl (ct_X5_init P h _ _ _ _) rfl rfl (Nat.le_of_ble_eq_true rfl) (by omega) (by omega) (by omega) ?_
  dsimp only [Option.toList, List.cons_append, List.nil_append]
  simp only [List.set_cons_succ, List.set_cons_zero, List.cons_append, List.nil_append, List.replicate, Nat.reduceAdd, Nat.reduceMul]
  refine r_putF X hnm fX8 lf_X8_22 rfl rfl dX8_init_36 (pc' := 39) rfl (by decide) (by omega) (lw_at 0 rfl rfl) (Nat.le_of_ble_eq_true rfl) rfl rfl ?_
  refine Z_w (lw_set 0 rfl (Nat.le_of_ble_eq_true rfl)) ?_
  simp only [List.set_cons_succ, List.set_cons_zero, List.cons_append, List.nil_append, List.replicate, Nat.reduceAdd, Nat.reduceMul]
  refine r_aload_n X dX8_init_39 (pc' := 40) rfl rfl ?_
  refine r_iconst (v := nI 2) X (by decide) dX8_init_40 (pc' := 41) rfl ?_
  refine r_anew (t := 3) X rfl lc_X8_26 ao_X1 (by omega) (by omega) (by omega) dX8_init_41 (pc' := 44) rfl ?_
  refine Z_w (lw_push rfl) ?_
  simp only [List.set_cons_succ, List.set_cons_zero, List.cons_append, List.nil_append, List.replicate, Nat.reduceAdd, Nat.reduceMul]
  refine r_dup X rfl dX8_init_44 (pc' := 45) rfl ?_
  refine r_iconst (v := nI 0) X (by decide) dX8_init_45 (pc' := 46) rfl ?_
  refine r_new (fs := [.null, .int 0]) X fX1 lc_X8_26 insX1 iniX1 (fun q hq => by match q, hq with | 0, _ => rfl | 1, _ => rfl) (by omega) (by omega) dX8_init_46 (pc' := 49) rfl ?_
  refine Z_w (lw_push rfl) ?_
  simp only [List.set_cons_succ, List.set_cons_zero, List.cons_append, List.nil_append, List.replicate, Nat.reduceAdd, Nat.reduceMul]
  refine r_dup X rfl dX8_init_49 (pc' := 50) rfl ?_
  refine r_callI (As := []) X okX1_init lm_X8_28 dX8_init_50 (pc' := 53) rfl (ct_X1_init P 17 _ 16 (by decide) (lw_at 16 rfl rfl)) rfl rfl (Nat.le_of_ble_eq_true rfl) (by omega) (by omega) (by omega) ?_
  dsimp only [Option.toList, List.cons_append, List.nil_append]
  refine Z_w (congrArg (fun z => hset z 16 _) (lw_push rfl)) ?_
  refine Z_w (lw_set 16 rfl (Nat.le_of_ble_eq_true rfl)) ?_
  simp only [List.set_cons_succ, List.set_cons_zero, List.cons_append, List.nil_append, List.replicate, Nat.reduceAdd, Nat.reduceMul]
  refine r_aast (t := 3) X rfl dX8_init_53 (pc' := 54) rfl (by omega) (lw_at 15 rfl rfl) (by omega) (lw_at 16 rfl rfl) rfl (by omega) (by omega) ?_
  refine Z_w (lw_set 15 rfl (Nat.le_of_ble_eq_true rfl)) ?_
  simp only [List.set_cons_succ, List.set_cons_zero, List.cons_append, List.nil_append, List.replicate, Nat.reduceAdd, Nat.reduceMul]
  refine r_dup X rfl dX8_init_54 (pc' := 55) rfl ?_
  refine r_iconst (v := nI 1) X (by decide) dX8_init_55 (pc' := 56) rfl ?_
  refine r_new (fs := [.null, .int 0]) X fX1 lc_X8_26 insX1 iniX1 (fun q hq => by match q, hq with | 0, _ => rfl | 1, _ => rfl) (by omega) (by omega) dX8_init_56 (pc' := 59) rfl ?_
  refine Z_w (lw_push rfl) ?_
  simp only [List.set_cons_succ, List.set_cons_zero, List.cons_append, List.nil_append, List.replicate, Nat.reduceAdd, Nat.reduceMul]
  refine r_dup X rfl dX8_init_59 (pc' := 60) rfl ?_
  refine r_callI (As := []) X okX1_init lm_X8_28 dX8_init_60 (pc' := 63) rfl (ct_X1_init P 19 _ 18 (by decide) (lw_at 18 rfl rfl)) rfl rfl (Nat.le_of_ble_eq_true rfl) (by omega) (by omega) (by omega) ?_
  dsimp only [Option.toList, List.cons_append, List.nil_append]
  refine Z_w (congrArg (fun z => hset z 18 _) (lw_push rfl)) ?_
  refine Z_w (lw_set 18 rfl (Nat.le_of_ble_eq_true rfl)) ?_
  simp only [List.set_cons_succ, List.set_cons_zero, List.cons_append, List.nil_append, List.replicate, Nat.reduceAdd, Nat.reduceMul]
  refine r_aast (t := 3) X rfl dX8_init_63 (pc' := 64) rfl (by omega) (lw_at 15 rfl rfl) (by omega) (lw_at 18 rfl rfl) rfl (by omega) (by omega) ?_
  refine Z_w (lw_set 15 rfl (Nat.le_of_ble_eq_true rfl)) ?_
  simp only [List.set_cons_succ, List.set_cons_zero, List.cons_append, List.nil_append, List.replicate, Nat.reduceAdd, Nat.reduceMul]
  refine r_putF X hnm fX8 lf_X8_29 rfl rfl dX8_init_64 (pc' := 67) rfl (by decide) (by omega) (lw_at 0 rfl rfl) (Nat.le_of_ble_eq_true rfl) rfl rfl ?_
  refine Z_w (lw_set 0 rfl (Nat.le_of_ble_eq_true rfl)) ?_
  simp only [List.set_cons_succ, List.set_cons_zero, List.cons_append, List.nil_append, List.replicate, Nat.reduceAdd, Nat.reduceMul]
  refine r_aload_n X dX8_init_67 (pc' := 68) rfl rfl ?_
  refine r_iconst (v := nI 4) X (by decide) dX8_init_68 (pc' := 69) rfl ?_
  refine r_anew (t := 4) X rfl lc_X8_33 ao_X2 (by omega) (by omega) (by omega) dX8_init_69 (pc' := 72) rfl ?_
  refine Z_w (lw_push rfl) ?_
  simp only [List.set_cons_succ, List.set_cons_zero, List.cons_append, List.nil_append, List.replicate, Nat.reduceAdd, Nat.reduceMul]
  refine r_dup X rfl dX8_init_72 (pc' := 73) rfl ?_
  refine r_iconst (v := nI 0) X (by decide) dX8_init_73 (pc' := 74) rfl ?_
  refine r_new (fs := [.int 0, .int 0, .int 0, .null]) X fX2 lc_X8_33 insX2 iniX2 (fun q hq => by match q, hq with | 0, _ => rfl | 1, _ => rfl | 2, _ => rfl | 3, _ => rfl) (by omega) (by omega) dX8_init_74 (pc' := 77) rfl ?_
  refine Z_w (lw_push rfl) ?_
  simp only [List.set_cons_succ, List.set_cons_zero, List.cons_append, List.nil_append, List.replicate, Nat.reduceAdd, Nat.reduceMul]
  refine r_dup X rfl dX8_init_77 (pc' := 78) rfl ?_
  refine r_callI (As := []) X okX2_init lm_X8_35 dX8_init_78 (pc' := 81) rfl (ct_X2_init P 22 _ 21 (by decide) (lw_at 21 rfl rfl)) rfl rfl (Nat.le_of_ble_eq_true rfl) (by omega) (by omega) (by omega) ?_
  dsimp only [Option.toList, List.cons_append, List.nil_append]
  refine Z_w (lw_set 21 rfl (Nat.le_of_ble_eq_true rfl)) ?_
  simp only [List.set_cons_succ, List.set_cons_zero, List.cons_append, List.nil_append, List.replicate, Nat.reduceAdd, Nat.reduceMul]
  refine r_aast (t := 4) X rfl dX8_init_81 (pc' := 82) rfl (by omega) (lw_at 20 rfl rfl) (by omega) (lw_at 21 rfl rfl) rfl (by omega) (by omega) ?_
  refine Z_w (lw_set 20 rfl (Nat.le_of_ble_eq_true rfl)) ?_
  simp only [List.set_cons_succ, List.set_cons_zero, List.cons_append, List.nil_append, List.replicate, Nat.reduceAdd, Nat.reduceMul]
  refine r_dup X rfl dX8_init_82 (pc' := 83) rfl ?_
  refine r_iconst (v := nI 1) X (by decide) dX8_init_83 (pc' := 84) rfl ?_
  refine r_new (fs := [.int 0, .int 0, .int 0, .null]) X fX2 lc_X8_33 insX2 iniX2 (fun q hq => by match q, hq with | 0, _ => rfl | 1, _ => rfl | 2, _ => rfl | 3, _ => rfl) (by omega) (by omega) dX8_init_84 (pc' := 87) rfl ?_
  refine Z_w (lw_push rfl) ?_
  simp only [List.set_cons_succ, List.set_cons_zero, List.cons_append, List.nil_append, List.replicate, Nat.reduceAdd, Nat.reduceMul]
  refine r_dup X rfl dX8_init_87 (pc' := 88) rfl ?_
  refine r_callI (As := []) X okX2_init lm_X8_35 dX8_init_88 (pc' := 91) rfl (ct_X2_init P 23 _ 22 (by decide) (lw_at 22 rfl rfl)) rfl rfl (Nat.le_of_ble_eq_true rfl) (by omega) (by omega) (by omega) ?_
  dsimp only [Option.toList, List.cons_append, List.nil_append]
  refine Z_w (lw_set 22 rfl (Nat.le_of_ble_eq_true rfl)) ?_
  simp only [List.set_cons_succ, List.set_cons_zero, List.cons_append, List.nil_append, List.replicate, Nat.reduceAdd, Nat.reduceMul]
  refine r_aast (t := 4) X rfl dX8_init_91 (pc' := 92) rfl (by omega) (lw_at 20 rfl rfl) (by omega) (lw_at 22 rfl rfl) rfl (by omega) (by omega) ?_
  refine Z_w (lw_set 20 rfl (Nat.le_of_ble_eq_true rfl)) ?_
  simp only [List.set_cons_succ, List.set_cons_zero, List.cons_append, List.nil_append, List.replicate, Nat.reduceAdd, Nat.reduceMul]
  refine r_dup X rfl dX8_init_92 (pc' := 93) rfl ?_
  refine r_iconst (v := nI 2) X (by decide) dX8_init_93 (pc' := 94) rfl ?_
  refine r_new (fs := [.int 0, .int 0, .int 0, .null]) X fX2 lc_X8_33 insX2 iniX2 (fun q hq => by match q, hq with | 0, _ => rfl | 1, _ => rfl | 2, _ => rfl | 3, _ => rfl) (by omega) (by omega) dX8_init_94 (pc' := 97) rfl ?_
  refine Z_w (lw_push rfl) ?_
  simp only [List.set_cons_succ, List.set_cons_zero, List.cons_append, List.nil_append, List.replicate, Nat.reduceAdd, Nat.reduceMul]
  refine r_dup X rfl dX8_init_97 (pc' := 98) rfl ?_
  refine r_callI (As := []) X okX2_init lm_X8_35 dX8_init_98 (pc' := 101) rfl (ct_X2_init P 24 _ 23 (by decide) (lw_at 23 rfl rfl)) rfl rfl (Nat.le_of_ble_eq_true rfl) (by omega) (by omega) (by omega) ?_
  dsimp only [Option.toList, List.cons_append, List.nil_append]
  refine Z_w (lw_set 23 rfl (Nat.le_of_ble_eq_true rfl)) ?_
  simp only [List.set_cons_succ, List.set_cons_zero, List.cons_append, List.nil_append, List.replicate, Nat.reduceAdd, Nat.reduceMul]
  refine r_aast (t := 4) X rfl dX8_init_101 (pc' := 102) rfl (by omega) (lw_at 20 rfl rfl) (by omega) (lw_at 23 rfl rfl) rfl (by omega) (by omega) ?_
  refine Z_w (lw_set 20 rfl (Nat.le_of_ble_eq_true rfl)) ?_
  simp only [List.set_cons_succ, List.set_cons_zero, List.cons_append, List.nil_append, List.replicate, Nat.reduceAdd, Nat.reduceMul]
  refine r_dup X rfl dX8_init_102 (pc' := 103) rfl ?_
  refine r_iconst (v := nI 3) X (by decide) dX8_init_103 (pc' := 104) rfl ?_
  refine r_new (fs := [.int 0, .int 0, .int 0, .null]) X fX2 lc_X8_33 insX2 iniX2 (fun q hq => by match q, hq with | 0, _ => rfl | 1, _ => rfl | 2, _ => rfl | 3, _ => rfl) (by omega) (by omega) dX8_init_104 (pc' := 107) rfl ?_
  refine Z_w (lw_push rfl) ?_
  simp only [List.set_cons_succ, List.set_cons_zero, List.cons_append, List.nil_append, List.replicate, Nat.reduceAdd, Nat.reduceMul]
  refine r_dup X rfl dX8_init_107 (pc' := 108) rfl ?_
  refine r_callI (As := []) X okX2_init lm_X8_35 dX8_init_108 (pc' := 111) rfl (ct_X2_init P 25 _ 24 (by decide) (lw_at 24 rfl rfl)) rfl rfl (Nat.le_of_ble_eq_true rfl) (by omega) (by omega) (by omega) ?_
  dsimp only [Option.toList, List.cons_append, List.nil_append]
  refine Z_w (lw_set 24 rfl (Nat.le_of_ble_eq_true rfl)) ?_
  simp only [List.set_cons_succ, List.set_cons_zero, List.cons_append, List.nil_append, List.replicate, Nat.reduceAdd, Nat.reduceMul]
  refine r_aast (t := 4) X rfl dX8_init_111 (pc' := 112) rfl (by omega) (lw_at 20 rfl rfl) (by omega) (lw_at 24 rfl rfl) rfl (by omega) (by omega) ?_
  refine Z_w (lw_set 20 rfl (Nat.le_of_ble_eq_true rfl)) ?_
  simp only [List.set_cons_succ, List.set_cons_zero, List.cons_append, List.nil_append, List.replicate, Nat.reduceAdd, Nat.reduceMul]
  refine r_putF X hnm fX8 lf_X8_36 rfl rfl dX8_init_112 (pc' := 115) rfl (by decide) (by omega) (lw_at 0 rfl rfl) (Nat.le_of_ble_eq_true rfl) rfl rfl ?_
  refine Z_w (lw_set 0 rfl (Nat.le_of_ble_eq_true rfl)) ?_
  simp only [List.set_cons_succ, List.set_cons_zero, List.cons_append, List.nil_append, List.replicate, Nat.reduceAdd, Nat.reduceMul]
  refine r_aload_n X dX8_init_115 (pc' := 116) rfl rfl ?_
  refine r_new (fs := [.null, .int 0, .int 0]) X fX0 lc_X8_40 insX0 iniX0 (fun q hq => by match q, hq with | 0, _ => rfl | 1, _ => rfl | 2, _ => rfl) (by omega) (by omega) dX8_init_116 (pc' := 119) rfl ?_
  refine Z_w (lw_push rfl) ?_
  simp only [List.set_cons_succ, List.set_cons_zero, List.cons_append, List.nil_append, List.replicate, Nat.reduceAdd, Nat.reduceMul]
  refine r_dup X rfl dX8_init_119 (pc' := 120) rfl ?_
  refine r_callI (As := []) X okX0_init lm_X8_42 dX8_init_120 (pc' := 123) rfl (ct_X0_init P 26 _ 25 (by decide) (lw_at 25 rfl rfl)) rfl rfl (Nat.le_of_ble_eq_true rfl) (by omega) (by omega) (by omega) ?_
  dsimp only [Option.toList, List.cons_append, List.nil_append]
  refine Z_w (congrArg (fun z => hset z 25 _) (lw_mna rfl)) ?_
  refine Z_w (lw_set 25 rfl (Nat.le_of_ble_eq_true rfl)) ?_
  simp only [List.set_cons_succ, List.set_cons_zero, List.cons_append, List.nil_append, List.replicate, Nat.reduceAdd, Nat.reduceMul]
  refine r_putF X hnm fX8 lf_X8_43 rfl rfl dX8_init_123 (pc' := 126) rfl (by decide) (by omega) (lw_at 0 rfl rfl) (Nat.le_of_ble_eq_true rfl) rfl rfl ?_
  refine Z_w (lw_set 0 rfl (Nat.le_of_ble_eq_true rfl)) ?_
  simp only [List.set_cons_succ, List.set_cons_zero, List.cons_append, List.nil_append, List.replicate, Nat.reduceAdd, Nat.reduceMul]
  refine r_aload_n X dX8_init_126 (pc' := 127) rfl rfl ?_
  refine r_new (fs := [.null, .null, .null, .null, .int 0]) X fX7 lc_X8_47 insX7 iniX7 (fun q hq => by match q, hq with | 0, _ => rfl | 1, _ => rfl | 2, _ => rfl | 3, _ => rfl | 4, _ => rfl) (by omega) (by omega) dX8_init_127 (pc' := 130) rfl ?_
  refine Z_w (lw_push rfl) ?_
  simp only [List.set_cons_succ, List.set_cons_zero, List.cons_append, List.nil_append, List.replicate, Nat.reduceAdd, Nat.reduceMul]
  refine r_dup X rfl dX8_init_130 (pc' := 131) rfl ?_
  refine r_callI (As := []) X okX7_init lm_X8_49 dX8_init_131 (pc' := 134) rfl (ct_X7_init P 33 _ 32 (by decide) (lw_at 32 rfl rfl)) rfl rfl (Nat.le_of_ble_eq_true rfl) (by omega) (by omega) (by omega) ?_
  dsimp only [Option.toList, List.cons_append, List.nil_append]
  refine Z_w (congrArg (fun z => hset (hset (hset (hset z _ _) _ _) _ _) 32 _) (lw_push rfl)) ?_
  simp only [List.set_cons_succ, List.set_cons_zero, List.cons_append, List.nil_append, List.replicate, Nat.reduceAdd, Nat.reduceMul]
  refine Z_w (congrArg (fun z => hset (hset (hset z _ _) _ _) 32 _) (lw_push rfl)) ?_
  simp only [List.set_cons_succ, List.set_cons_zero, List.cons_append, List.nil_append, List.replicate, Nat.reduceAdd, Nat.reduceMul]
  refine Z_w (congrArg (fun z => hset (hset z _ _) 32 _) (lw_push rfl)) ?_
  simp only [List.set_cons_succ, List.set_cons_zero, List.cons_append, List.nil_append, List.replicate, Nat.reduceAdd, Nat.reduceMul]
  refine Z_w (congrArg (fun z => hset z 32 _) (lw_push rfl)) ?_
  simp only [List.set_cons_succ, List.set_cons_zero, List.cons_append, List.nil_append, List.replicate, Nat.reduceAdd, Nat.reduceMul]
  refine Z_w (lw_set 32 rfl (Nat.le_of_ble_eq_true rfl)) ?_
  simp only [List.set_cons_succ, List.set_cons_zero, List.cons_append, List.nil_append, List.replicate, Nat.reduceAdd, Nat.reduceMul]
  refine r_putF X hnm fX8 lf_X8_50 rfl rfl dX8_init_134 (pc' := 137) rfl (by decide) (by omega) (lw_at 0 rfl rfl) (Nat.le_of_ble_eq_true rfl) rfl rfl ?_
  refine Z_w (lw_set 0 rfl (Nat.le_of_ble_eq_true rfl)) ?_
  simp only [List.set_cons_succ, List.set_cons_zero, List.cons_append, List.nil_append, List.replicate, Nat.reduceAdd, Nat.reduceMul]
  exact r_vret X r dX8_init_137 (by omega) (by omega) rfl rfl rfl
