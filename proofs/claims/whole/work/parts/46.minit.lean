/-! ===== the model's constructor ===== -/
def phi1 : Nat → Nat → Nat := fun k i => if k = 3 then (if i < 3 then 20 else 0) else if k = 4 then (if i < 3 then 1 else 0) else if k = 11 then (if i < 4 then 5 else 0) else if k = 12 then (if i < 4 then 2 else 0) else if k = 2 then 1 else if k = 13 then 1 else if k = 20 then 1 else 0
def io0 : Nat → Nat := fun _ => 0
theorem Wf_phi1 : Wf io0 phi1 := by
  refine ⟨by decide, by decide, by decide, ?_, ?_, ?_, ?_, ?_, ?_, ?_, ?_, ?_, ?_, ?_, ?_, ?_, ?_, ?_, ?_, ?_⟩
  all_goals
    intro i
    simp only [phi1]
    repeat' split
  all_goals first | omega | (simp [io0]; done) | (rename_i h; simp at h; done)
def fg2 (φ : Nat → Nat → Nat) (m : Nat) : Nat → Nat → Nat := fun k i => if k = 2 ∧ i < m then 0 else φ k i
theorem fg2_0 {φ : Nat → Nat → Nat} : fg2 φ 0 = φ := by
  funext k i
  unfold fg2
  rw [if_neg (by omega)]
theorem fg2_s {φ : Nat → Nat → Nat} {m : Nat} : up2 (fg2 φ m) 2 m 0 = fg2 φ (m + 1) := by
  funext k i
  unfold up2 fg2
  by_cases h1 : k = 2 ∧ i = m
  · rw [if_pos h1, if_pos ⟨h1.1, by omega⟩]
  · rw [if_neg h1]
    by_cases h2 : k = 2 ∧ i < m
    · rw [if_pos h2, if_pos ⟨h2.1, by omega⟩]
    · rw [if_neg h2, if_neg (fun z => h2 ⟨z.1, by have : i ≠ m := fun e => h1 ⟨z.1, e⟩; omega⟩)]
theorem fg2_le {φ : Nat → Nat → Nat} {m k i : Nat} : fg2 φ m k i ≤ φ k i := by unfold fg2; split <;> omega
theorem Wf.fg2 {ι : Nat → Nat} {φ : Nat → Nat → Nat} (W : Wf ι φ) (m : Nat) : Wf ι (fg2 φ m) :=
  ⟨W.now, W.inF, W.asks, fun i => Nat.le_trans fg2_le (W.v0 i), fun i => Nat.le_trans fg2_le (W.v1 i), fun i => Nat.le_trans fg2_le (W.v2 i), fun i => Nat.le_trans fg2_le (W.v3 i), fun i => Nat.le_trans fg2_le (W.v4 i), fun i => Nat.le_trans fg2_le (W.v5 i), fun i => Nat.le_trans fg2_le (W.v6 i), fun i => Nat.le_trans fg2_le (W.v7 i), fun i => Nat.lt_of_le_of_lt fg2_le (W.v8 i), fun i => Nat.lt_of_le_of_lt fg2_le (W.v9 i), fun i => Nat.le_trans fg2_le (W.v10 i), fun i => Nat.le_trans fg2_le (W.v11 i), fun i => Nat.le_trans fg2_le (W.v12 i), fun i => Nat.le_trans fg2_le (W.v13 i), fun i => Nat.le_trans fg2_le (W.v14 i), fun i => Nat.le_trans fg2_le (W.v15 i), fun i => Nat.lt_of_le_of_lt fg2_le (W.v18 i)⟩
def fgA (φ : Nat → Nat → Nat) : Nat → Nat → Nat → Nat
  | 0 => φ
  | j + 1 => fgt (fgA φ j) j 10000
def phi0 : Nat → Nat → Nat := fgA (fg2 phi1 30) 4
theorem lw37_eq {P : Px} {ι : Nat → Nat} {φ : Nat → Nat → Nat} {L : List va_E} {h : hw} (hlen : L.length = 22) (hc : ∀ i, i < 22 → L[i]? = some (mcell P ι φ i)) : lw 37 L h = wM P h ι φ := by
  funext k
  by_cases h1 : k < 37
  · rw [lw_lo h1, wM_out (Or.inl h1)]
  · by_cases h2 : k < 59
    · rw [lw_at (k - 37) (by omega) (hc (k - 37) (by omega))]
      unfold wM
      rw [if_pos (by omega)]
    · rw [lw_hi (by omega), wM_out (Or.inr (by omega))]
theorem up3 (x : Nat) : upd (upd (upd (fun _ => 0) 0 (nI x)) 1 (nI x)) 2 (nI x) = fun i => nI (if i < 3 then x else 0) := by
  funext i
  unfold upd
  by_cases h0 : i = 0
  · subst h0; rfl
  · by_cases h1 : i = 1
    · subst h1; rfl
    · by_cases h2 : i = 2
      · subst h2; rfl
      · simp only [h0, h1, h2, if_false, show ¬ i < 3 by omega]; rfl
theorem up4 (x : Nat) : upd (upd (upd (upd (fun _ => 0) 0 (nI x)) 1 (nI x)) 2 (nI x)) 3 (nI x) = fun i => nI (if i < 4 then x else 0) := by
  funext i
  unfold upd
  by_cases h0 : i = 0
  · subst h0; rfl
  · by_cases h1 : i = 1
    · subst h1; rfl
    · by_cases h2 : i = 2
      · subst h2; rfl
      · by_cases h3 : i = 3
        · subst h3; rfl
        · simp only [h0, h1, h2, h3, if_false, show ¬ i < 4 by omega]; rfl
theorem mi_1 : (0 : Int32) = mi 1 := by decide
theorem zf {f : Nat → Int32} (h : ∀ i, 0 = f i) : (fun _ => (0 : Int32)) = f := funext h
theorem minit_eq (P : Px) (h : hw) : lw 37 [.inr (9, [.int 0, .ref (Bs P + 38), .ref (Bs P + 39), .ref (Bs P + 40), .ref (Bs P + 41), .ref (Bs P + 42), .ref (Bs P + 43), .ref (Bs P + 44), .ref (Bs P + 45), .ref (Bs P + 46), .ref (Bs P + 47), .ref (Bs P + 48), .int 0, .ref (Bs P + 49), .ref (Bs P + 50), .ref (Bs P + 51), .ref (Bs P + 52), .ref (Bs P + 53), .int 0, .ref (Bs P + 54), .ref (Bs P + 55), .ref (Bs P + 56), .ref (Bs P + 57), .ref (Bs P + 58), .int 0, .int 0]), .inl (P.2.2.1 0, 10, .inl (fun _ => 0)), .inl (P.2.2.1 0, 30, .inl (fun _ => 0)), .inl (P.2.2.1 0, 30, .inl (fun _ => 0)), .inl (P.2.2.1 0, 3, .inl (upd (upd (upd (fun _ => 0) 0 (nI 20)) 1 (nI 20)) 2 (nI 20))), .inl (P.2.2.1 0, 3, .inl (upd (upd (upd (fun _ => 0) 0 (nI 1)) 1 (nI 1)) 2 (nI 1))), .inl (P.2.2.1 0, 10, .inl (fun _ => 0)), .inl (P.2.2.1 0, 10, .inl (fun _ => 0)), .inl (P.2.2.1 0, 2, .inl (fun _ => 0)), .inl (P.2.2.1 0, 24, .inl (fun _ => 0)), .inl (P.2.2.1 0, 24, .inl (fun _ => 0)), .inl (P.2.2.1 0, 24, .inl (fun _ => 0)), .inl (P.2.2.1 0, 4, .inl (upd (upd (upd (upd (fun _ => 0) 0 (nI 5)) 1 (nI 5)) 2 (nI 5)) 3 (nI 5))), .inl (P.2.2.1 0, 4, .inl (upd (upd (upd (upd (fun _ => 0) 0 (nI 2)) 1 (nI 2)) 2 (nI 2)) 3 (nI 2))), .inl (P.2.2.1 0, 40000, .inl (fun _ => 0)), .inl (P.2.2.1 0, 40000, .inl (fun _ => 0)), .inl (P.2.2.1 1, 20120, .inl (fun _ => 0)), .inl (P.2.2.1 0, 300, .inl (fun _ => 0)), .inl (P.2.2.1 0, 300, .inl (fun _ => 0)), .inl (P.2.2.1 0, 300, .inl (fun _ => 0)), .inl (P.2.2.1 0, 300, .inl (fun _ => 0)), .inl (P.2.2.1 0, 300, .inl (fun _ => 0))] h = wM P h io0 phi1 := lw37_eq rfl (fun i hi => by
  match i, hi with
  | 0, _ => exact (rfl)
  | 1, _ => exact (by show some (.inl (P.2.2.1 0, 10, .inl _) : va_E) = _; rw [zf (f := fun i => nI (phi1 0 i)) (fun i => rfl)]; rfl)
  | 2, _ => exact (by show some (.inl (P.2.2.1 0, 30, .inl _) : va_E) = _; rw [zf (f := fun i => nI (phi1 1 i)) (fun i => rfl)]; rfl)
  | 3, _ => exact (by show some (.inl (P.2.2.1 0, 30, .inl _) : va_E) = _; rw [zf (f := fun i => nv (phi1 2 i)) (fun i => rfl)]; rfl)
  | 4, _ => exact (by show some (.inl (P.2.2.1 0, 3, .inl _) : va_E) = _; rw [up3]; rfl)
  | 5, _ => exact (by show some (.inl (P.2.2.1 0, 3, .inl _) : va_E) = _; rw [up3]; rfl)
  | 6, _ => exact (by show some (.inl (P.2.2.1 0, 10, .inl _) : va_E) = _; rw [zf (f := fun i => nI (phi1 5 i)) (fun i => rfl)]; rfl)
  | 7, _ => exact (by show some (.inl (P.2.2.1 0, 10, .inl _) : va_E) = _; rw [zf (f := fun i => nI (phi1 6 i)) (fun i => rfl)]; rfl)
  | 8, _ => exact (by show some (.inl (P.2.2.1 0, 2, .inl _) : va_E) = _; rw [zf (f := fun i => nI (phi1 7 i)) (fun i => rfl)]; rfl)
  | 9, _ => exact (by show some (.inl (P.2.2.1 0, 24, .inl _) : va_E) = _; rw [zf (f := fun i => nI (phi1 8 i)) (fun i => rfl)]; rfl)
  | 10, _ => exact (by show some (.inl (P.2.2.1 0, 24, .inl _) : va_E) = _; rw [zf (f := fun i => nI (phi1 9 i)) (fun i => rfl)]; rfl)
  | 11, _ => exact (by show some (.inl (P.2.2.1 0, 24, .inl _) : va_E) = _; rw [zf (f := fun i => nI (phi1 10 i)) (fun i => rfl)]; rfl)
  | 12, _ => exact (by show some (.inl (P.2.2.1 0, 4, .inl _) : va_E) = _; rw [up4]; rfl)
  | 13, _ => exact (by show some (.inl (P.2.2.1 0, 4, .inl _) : va_E) = _; rw [up4]; rfl)
  | 14, _ => exact (by show some (.inl (P.2.2.1 0, 40000, .inl _) : va_E) = _; rw [zf (f := fun i => nv (phi1 13 i)) (fun i => rfl)]; rfl)
  | 15, _ => exact (by show some (.inl (P.2.2.1 0, 40000, .inl _) : va_E) = _; rw [zf (f := fun i => nI (phi1 14 i)) (fun i => rfl)]; rfl)
  | 16, _ => exact (by show some (.inl (P.2.2.1 1, 20120, .inl _) : va_E) = _; rw [zf (f := fun i => nI (phi1 15 i)) (fun i => rfl)]; rfl)
  | 17, _ => exact (by show some (.inl (P.2.2.1 0, 300, .inl _) : va_E) = _; rw [zf (f := fun i => nI (phi1 16 i)) (fun i => rfl)]; rfl)
  | 18, _ => exact (by show some (.inl (P.2.2.1 0, 300, .inl _) : va_E) = _; rw [zf (f := fun i => nI (phi1 17 i)) (fun i => rfl)]; rfl)
  | 19, _ => exact (by show some (.inl (P.2.2.1 0, 300, .inl _) : va_E) = _; rw [zf (f := fun i => nI (phi1 18 i)) (fun i => rfl)]; rfl)
  | 20, _ => exact (by show some (.inl (P.2.2.1 0, 300, .inl _) : va_E) = _; rw [zf (f := fun i => nI (phi1 19 i)) (fun i => rfl)]; rfl)
  | 21, _ => exact (by show some (.inl (P.2.2.1 0, 300, .inl _) : va_E) = _; rw [zf (f := fun i => mi (phi1 20 i)) (fun i => mi_1)]; rfl)
  | j + 22, hj => omega)
set_option maxRecDepth 100000 in
set_option maxHeartbeats 1000000 in
theorem ct_X9_init (P : Px) (h : hw) : Ct P MX9_init 2 21 101798 [.ref (Bs P + 37)] 38 (lw 37 [.inr (9, [.int 0, .null, .null, .null, .null, .null, .null, .null, .null, .null, .null, .null, .int 0, .null, .null, .null, .null, .null, .int 0, .null, .null, .null, .null, .null, .int 0, .int 0])] h) none 59 (wM P h io0 phi0) := by
  refine Ct.of (by decide +kernel) (Nat.le_of_ble_eq_true rfl) rfl (fun K X hnm r => ?_)
  have X : Cx K P RX9 cX9_init 2 2 21 101798 := X
  have r : Rt K P none 21 101798 _ _ _ := r
  show Z K P _ _ 0 0 0 [some (.ref (Bs P + 37)), none] []
  refine r_aload_n X dX9_init_0 (pc' := 1) rfl rfl ?_
  refine r_obj X lm_X9_1 ob_i ob_c dX9_init_1 (pc' := 4) rfl (by omega) (Nat.le_of_ble_eq_true rfl) ?_
  refine r_aload_n X dX9_init_4 (pc' := 5) rfl rfl ?_
  refine r_bipush (v := nI 10) X (by decide) dX9_init_5 (pc' := 7) rfl ?_
  refine r_newi X ac_int (by omega) (by omega) (by omega) dX9_init_7 (pc' := 9) rfl ?_
  refine Z_w (lw_push rfl) ?_
  simp only [List.set_cons_succ, List.set_cons_zero, List.cons_append, List.nil_append, List.replicate, Nat.reduceAdd, Nat.reduceMul]
  refine r_putF X hnm fX9 lf_X9_9 rfl rfl dX9_init_9 (pc' := 12) rfl (by decide) (by omega) (lw_at 0 rfl rfl) (Nat.le_of_ble_eq_true rfl) rfl rfl ?_
  refine Z_w (lw_set 0 rfl (Nat.le_of_ble_eq_true rfl)) ?_
  simp only [List.set_cons_succ, List.set_cons_zero, List.cons_append, List.nil_append, List.replicate, Nat.reduceAdd, Nat.reduceMul]
  refine r_aload_n X dX9_init_12 (pc' := 13) rfl rfl ?_
  refine r_bipush (v := nI 30) X (by decide) dX9_init_13 (pc' := 15) rfl ?_
  refine r_newi X ac_int (by omega) (by omega) (by omega) dX9_init_15 (pc' := 17) rfl ?_
  refine Z_w (lw_push rfl) ?_
  simp only [List.set_cons_succ, List.set_cons_zero, List.cons_append, List.nil_append, List.replicate, Nat.reduceAdd, Nat.reduceMul]
  refine r_putF X hnm fX9 lf_X9_13 rfl rfl dX9_init_17 (pc' := 20) rfl (by decide) (by omega) (lw_at 0 rfl rfl) (Nat.le_of_ble_eq_true rfl) rfl rfl ?_
  refine Z_w (lw_set 0 rfl (Nat.le_of_ble_eq_true rfl)) ?_
  simp only [List.set_cons_succ, List.set_cons_zero, List.cons_append, List.nil_append, List.replicate, Nat.reduceAdd, Nat.reduceMul]
  refine r_aload_n X dX9_init_20 (pc' := 21) rfl rfl ?_
  refine r_bipush (v := nI 30) X (by decide) dX9_init_21 (pc' := 23) rfl ?_
  refine r_newi X ac_int (by omega) (by omega) (by omega) dX9_init_23 (pc' := 25) rfl ?_
  refine Z_w (lw_push rfl) ?_
  simp only [List.set_cons_succ, List.set_cons_zero, List.cons_append, List.nil_append, List.replicate, Nat.reduceAdd, Nat.reduceMul]
  refine r_putF X hnm fX9 lf_X9_16 rfl rfl dX9_init_25 (pc' := 28) rfl (by decide) (by omega) (lw_at 0 rfl rfl) (Nat.le_of_ble_eq_true rfl) rfl rfl ?_
  refine Z_w (lw_set 0 rfl (Nat.le_of_ble_eq_true rfl)) ?_
  simp only [List.set_cons_succ, List.set_cons_zero, List.cons_append, List.nil_append, List.replicate, Nat.reduceAdd, Nat.reduceMul]
  refine r_aload_n X dX9_init_28 (pc' := 29) rfl rfl ?_
  refine r_iconst (v := nI 3) X (by decide) dX9_init_29 (pc' := 30) rfl ?_
  refine r_newi X ac_int (by omega) (by omega) (by omega) dX9_init_30 (pc' := 32) rfl ?_
  refine Z_w (lw_push rfl) ?_
  simp only [List.set_cons_succ, List.set_cons_zero, List.cons_append, List.nil_append, List.replicate, Nat.reduceAdd, Nat.reduceMul]
  refine r_dup X rfl dX9_init_32 (pc' := 33) rfl ?_
  refine r_iconst (v := nI 0) X (by decide) dX9_init_33 (pc' := 34) rfl ?_
  refine r_bipush (v := nI 20) X (by decide) dX9_init_34 (pc' := 36) rfl ?_
  refine r_iast X dX9_init_36 (pc' := 37) rfl (by omega) (lw_at 4 rfl rfl) (by omega) (by omega) ?_
  refine Z_w (lw_set 4 rfl (Nat.le_of_ble_eq_true rfl)) ?_
  simp only [List.set_cons_succ, List.set_cons_zero, List.cons_append, List.nil_append, List.replicate, Nat.reduceAdd, Nat.reduceMul]
  refine r_dup X rfl dX9_init_37 (pc' := 38) rfl ?_
  refine r_iconst (v := nI 1) X (by decide) dX9_init_38 (pc' := 39) rfl ?_
  refine r_bipush (v := nI 20) X (by decide) dX9_init_39 (pc' := 41) rfl ?_
  refine r_iast X dX9_init_41 (pc' := 42) rfl (by omega) (lw_at 4 rfl rfl) (by omega) (by omega) ?_
  refine Z_w (lw_set 4 rfl (Nat.le_of_ble_eq_true rfl)) ?_
  simp only [List.set_cons_succ, List.set_cons_zero, List.cons_append, List.nil_append, List.replicate, Nat.reduceAdd, Nat.reduceMul]
  refine r_dup X rfl dX9_init_42 (pc' := 43) rfl ?_
  refine r_iconst (v := nI 2) X (by decide) dX9_init_43 (pc' := 44) rfl ?_
  refine r_bipush (v := nI 20) X (by decide) dX9_init_44 (pc' := 46) rfl ?_
  refine r_iast X dX9_init_46 (pc' := 47) rfl (by omega) (lw_at 4 rfl rfl) (by omega) (by omega) ?_
  refine Z_w (lw_set 4 rfl (Nat.le_of_ble_eq_true rfl)) ?_
  simp only [List.set_cons_succ, List.set_cons_zero, List.cons_append, List.nil_append, List.replicate, Nat.reduceAdd, Nat.reduceMul]
  refine r_putF X hnm fX9 lf_X9_19 rfl rfl dX9_init_47 (pc' := 50) rfl (by decide) (by omega) (lw_at 0 rfl rfl) (Nat.le_of_ble_eq_true rfl) rfl rfl ?_
  refine Z_w (lw_set 0 rfl (Nat.le_of_ble_eq_true rfl)) ?_
  simp only [List.set_cons_succ, List.set_cons_zero, List.cons_append, List.nil_append, List.replicate, Nat.reduceAdd, Nat.reduceMul]
  refine r_aload_n X dX9_init_50 (pc' := 51) rfl rfl ?_
  refine r_iconst (v := nI 3) X (by decide) dX9_init_51 (pc' := 52) rfl ?_
  refine r_newi X ac_int (by omega) (by omega) (by omega) dX9_init_52 (pc' := 54) rfl ?_
  refine Z_w (lw_push rfl) ?_
  simp only [List.set_cons_succ, List.set_cons_zero, List.cons_append, List.nil_append, List.replicate, Nat.reduceAdd, Nat.reduceMul]
  refine r_dup X rfl dX9_init_54 (pc' := 55) rfl ?_
  refine r_iconst (v := nI 0) X (by decide) dX9_init_55 (pc' := 56) rfl ?_
  refine r_iconst (v := nI 1) X (by decide) dX9_init_56 (pc' := 57) rfl ?_
  refine r_iast X dX9_init_57 (pc' := 58) rfl (by omega) (lw_at 5 rfl rfl) (by omega) (by omega) ?_
  refine Z_w (lw_set 5 rfl (Nat.le_of_ble_eq_true rfl)) ?_
  simp only [List.set_cons_succ, List.set_cons_zero, List.cons_append, List.nil_append, List.replicate, Nat.reduceAdd, Nat.reduceMul]
  refine r_dup X rfl dX9_init_58 (pc' := 59) rfl ?_
  refine r_iconst (v := nI 1) X (by decide) dX9_init_59 (pc' := 60) rfl ?_
  refine r_iconst (v := nI 1) X (by decide) dX9_init_60 (pc' := 61) rfl ?_
  refine r_iast X dX9_init_61 (pc' := 62) rfl (by omega) (lw_at 5 rfl rfl) (by omega) (by omega) ?_
  refine Z_w (lw_set 5 rfl (Nat.le_of_ble_eq_true rfl)) ?_
  simp only [List.set_cons_succ, List.set_cons_zero, List.cons_append, List.nil_append, List.replicate, Nat.reduceAdd, Nat.reduceMul]
  refine r_dup X rfl dX9_init_62 (pc' := 63) rfl ?_
  refine r_iconst (v := nI 2) X (by decide) dX9_init_63 (pc' := 64) rfl ?_
  refine r_iconst (v := nI 1) X (by decide) dX9_init_64 (pc' := 65) rfl ?_
  refine r_iast X dX9_init_65 (pc' := 66) rfl (by omega) (lw_at 5 rfl rfl) (by omega) (by omega) ?_
  refine Z_w (lw_set 5 rfl (Nat.le_of_ble_eq_true rfl)) ?_
  simp only [List.set_cons_succ, List.set_cons_zero, List.cons_append, List.nil_append, List.replicate, Nat.reduceAdd, Nat.reduceMul]
  refine r_putF X hnm fX9 lf_X9_22 rfl rfl dX9_init_66 (pc' := 69) rfl (by decide) (by omega) (lw_at 0 rfl rfl) (Nat.le_of_ble_eq_true rfl) rfl rfl ?_
  refine Z_w (lw_set 0 rfl (Nat.le_of_ble_eq_true rfl)) ?_
  simp only [List.set_cons_succ, List.set_cons_zero, List.cons_append, List.nil_append, List.replicate, Nat.reduceAdd, Nat.reduceMul]
  refine r_aload_n X dX9_init_69 (pc' := 70) rfl rfl ?_
  refine r_bipush (v := nI 10) X (by decide) dX9_init_70 (pc' := 72) rfl ?_
  refine r_newi X ac_int (by omega) (by omega) (by omega) dX9_init_72 (pc' := 74) rfl ?_
  refine Z_w (lw_push rfl) ?_
  simp only [List.set_cons_succ, List.set_cons_zero, List.cons_append, List.nil_append, List.replicate, Nat.reduceAdd, Nat.reduceMul]
  refine r_putF X hnm fX9 lf_X9_25 rfl rfl dX9_init_74 (pc' := 77) rfl (by decide) (by omega) (lw_at 0 rfl rfl) (Nat.le_of_ble_eq_true rfl) rfl rfl ?_
  refine Z_w (lw_set 0 rfl (Nat.le_of_ble_eq_true rfl)) ?_
  simp only [List.set_cons_succ, List.set_cons_zero, List.cons_append, List.nil_append, List.replicate, Nat.reduceAdd, Nat.reduceMul]
  refine r_aload_n X dX9_init_77 (pc' := 78) rfl rfl ?_
  refine r_bipush (v := nI 10) X (by decide) dX9_init_78 (pc' := 80) rfl ?_
  refine r_newi X ac_int (by omega) (by omega) (by omega) dX9_init_80 (pc' := 82) rfl ?_
  refine Z_w (lw_push rfl) ?_
  simp only [List.set_cons_succ, List.set_cons_zero, List.cons_append, List.nil_append, List.replicate, Nat.reduceAdd, Nat.reduceMul]
  refine r_putF X hnm fX9 lf_X9_28 rfl rfl dX9_init_82 (pc' := 85) rfl (by decide) (by omega) (lw_at 0 rfl rfl) (Nat.le_of_ble_eq_true rfl) rfl rfl ?_
  refine Z_w (lw_set 0 rfl (Nat.le_of_ble_eq_true rfl)) ?_
  simp only [List.set_cons_succ, List.set_cons_zero, List.cons_append, List.nil_append, List.replicate, Nat.reduceAdd, Nat.reduceMul]
  refine r_aload_n X dX9_init_85 (pc' := 86) rfl rfl ?_
  refine r_iconst (v := nI 2) X (by decide) dX9_init_86 (pc' := 87) rfl ?_
  refine r_newi X ac_int (by omega) (by omega) (by omega) dX9_init_87 (pc' := 89) rfl ?_
  refine Z_w (lw_push rfl) ?_
  simp only [List.set_cons_succ, List.set_cons_zero, List.cons_append, List.nil_append, List.replicate, Nat.reduceAdd, Nat.reduceMul]
  refine r_putF X hnm fX9 lf_X9_31 rfl rfl dX9_init_89 (pc' := 92) rfl (by decide) (by omega) (lw_at 0 rfl rfl) (Nat.le_of_ble_eq_true rfl) rfl rfl ?_
  refine Z_w (lw_set 0 rfl (Nat.le_of_ble_eq_true rfl)) ?_
  simp only [List.set_cons_succ, List.set_cons_zero, List.cons_append, List.nil_append, List.replicate, Nat.reduceAdd, Nat.reduceMul]
  refine r_aload_n X dX9_init_92 (pc' := 93) rfl rfl ?_
  refine r_bipush (v := nI 24) X (by decide) dX9_init_93 (pc' := 95) rfl ?_
  refine r_newi X ac_int (by omega) (by omega) (by omega) dX9_init_95 (pc' := 97) rfl ?_
  refine Z_w (lw_push rfl) ?_
  simp only [List.set_cons_succ, List.set_cons_zero, List.cons_append, List.nil_append, List.replicate, Nat.reduceAdd, Nat.reduceMul]
  refine r_putF X hnm fX9 lf_X9_34 rfl rfl dX9_init_97 (pc' := 100) rfl (by decide) (by omega) (lw_at 0 rfl rfl) (Nat.le_of_ble_eq_true rfl) rfl rfl ?_
  refine Z_w (lw_set 0 rfl (Nat.le_of_ble_eq_true rfl)) ?_
  simp only [List.set_cons_succ, List.set_cons_zero, List.cons_append, List.nil_append, List.replicate, Nat.reduceAdd, Nat.reduceMul]
  refine r_aload_n X dX9_init_100 (pc' := 101) rfl rfl ?_
  refine r_bipush (v := nI 24) X (by decide) dX9_init_101 (pc' := 103) rfl ?_
  refine r_newi X ac_int (by omega) (by omega) (by omega) dX9_init_103 (pc' := 105) rfl ?_
  refine Z_w (lw_push rfl) ?_
  simp only [List.set_cons_succ, List.set_cons_zero, List.cons_append, List.nil_append, List.replicate, Nat.reduceAdd, Nat.reduceMul]
  refine r_putF X hnm fX9 lf_X9_37 rfl rfl dX9_init_105 (pc' := 108) rfl (by decide) (by omega) (lw_at 0 rfl rfl) (Nat.le_of_ble_eq_true rfl) rfl rfl ?_
  refine Z_w (lw_set 0 rfl (Nat.le_of_ble_eq_true rfl)) ?_
  simp only [List.set_cons_succ, List.set_cons_zero, List.cons_append, List.nil_append, List.replicate, Nat.reduceAdd, Nat.reduceMul]
  refine r_aload_n X dX9_init_108 (pc' := 109) rfl rfl ?_
  refine r_bipush (v := nI 24) X (by decide) dX9_init_109 (pc' := 111) rfl ?_
  refine r_newi X ac_int (by omega) (by omega) (by omega) dX9_init_111 (pc' := 113) rfl ?_
  refine Z_w (lw_push rfl) ?_
  simp only [List.set_cons_succ, List.set_cons_zero, List.cons_append, List.nil_append, List.replicate, Nat.reduceAdd, Nat.reduceMul]
  refine r_putF X hnm fX9 lf_X9_40 rfl rfl dX9_init_113 (pc' := 116) rfl (by decide) (by omega) (lw_at 0 rfl rfl) (Nat.le_of_ble_eq_true rfl) rfl rfl ?_
  refine Z_w (lw_set 0 rfl (Nat.le_of_ble_eq_true rfl)) ?_
  simp only [List.set_cons_succ, List.set_cons_zero, List.cons_append, List.nil_append, List.replicate, Nat.reduceAdd, Nat.reduceMul]
  refine r_aload_n X dX9_init_116 (pc' := 117) rfl rfl ?_
  refine r_iconst (v := nI 4) X (by decide) dX9_init_117 (pc' := 118) rfl ?_
  refine r_newi X ac_int (by omega) (by omega) (by omega) dX9_init_118 (pc' := 120) rfl ?_
  refine Z_w (lw_push rfl) ?_
  simp only [List.set_cons_succ, List.set_cons_zero, List.cons_append, List.nil_append, List.replicate, Nat.reduceAdd, Nat.reduceMul]
  refine r_dup X rfl dX9_init_120 (pc' := 121) rfl ?_
  refine r_iconst (v := nI 0) X (by decide) dX9_init_121 (pc' := 122) rfl ?_
  refine r_iconst (v := nI 5) X (by decide) dX9_init_122 (pc' := 123) rfl ?_
  refine r_iast X dX9_init_123 (pc' := 124) rfl (by omega) (lw_at 12 rfl rfl) (by omega) (by omega) ?_
  refine Z_w (lw_set 12 rfl (Nat.le_of_ble_eq_true rfl)) ?_
  simp only [List.set_cons_succ, List.set_cons_zero, List.cons_append, List.nil_append, List.replicate, Nat.reduceAdd, Nat.reduceMul]
  refine r_dup X rfl dX9_init_124 (pc' := 125) rfl ?_
  refine r_iconst (v := nI 1) X (by decide) dX9_init_125 (pc' := 126) rfl ?_
  refine r_iconst (v := nI 5) X (by decide) dX9_init_126 (pc' := 127) rfl ?_
  refine r_iast X dX9_init_127 (pc' := 128) rfl (by omega) (lw_at 12 rfl rfl) (by omega) (by omega) ?_
  refine Z_w (lw_set 12 rfl (Nat.le_of_ble_eq_true rfl)) ?_
  simp only [List.set_cons_succ, List.set_cons_zero, List.cons_append, List.nil_append, List.replicate, Nat.reduceAdd, Nat.reduceMul]
  refine r_dup X rfl dX9_init_128 (pc' := 129) rfl ?_
  refine r_iconst (v := nI 2) X (by decide) dX9_init_129 (pc' := 130) rfl ?_
  refine r_iconst (v := nI 5) X (by decide) dX9_init_130 (pc' := 131) rfl ?_
  refine r_iast X dX9_init_131 (pc' := 132) rfl (by omega) (lw_at 12 rfl rfl) (by omega) (by omega) ?_
  refine Z_w (lw_set 12 rfl (Nat.le_of_ble_eq_true rfl)) ?_
  simp only [List.set_cons_succ, List.set_cons_zero, List.cons_append, List.nil_append, List.replicate, Nat.reduceAdd, Nat.reduceMul]
  refine r_dup X rfl dX9_init_132 (pc' := 133) rfl ?_
  refine r_iconst (v := nI 3) X (by decide) dX9_init_133 (pc' := 134) rfl ?_
  refine r_iconst (v := nI 5) X (by decide) dX9_init_134 (pc' := 135) rfl ?_
  refine r_iast X dX9_init_135 (pc' := 136) rfl (by omega) (lw_at 12 rfl rfl) (by omega) (by omega) ?_
  refine Z_w (lw_set 12 rfl (Nat.le_of_ble_eq_true rfl)) ?_
  simp only [List.set_cons_succ, List.set_cons_zero, List.cons_append, List.nil_append, List.replicate, Nat.reduceAdd, Nat.reduceMul]
  refine r_putF X hnm fX9 lf_X9_43 rfl rfl dX9_init_136 (pc' := 139) rfl (by decide) (by omega) (lw_at 0 rfl rfl) (Nat.le_of_ble_eq_true rfl) rfl rfl ?_
  refine Z_w (lw_set 0 rfl (Nat.le_of_ble_eq_true rfl)) ?_
  simp only [List.set_cons_succ, List.set_cons_zero, List.cons_append, List.nil_append, List.replicate, Nat.reduceAdd, Nat.reduceMul]
  refine r_aload_n X dX9_init_139 (pc' := 140) rfl rfl ?_
  refine r_iconst (v := nI 4) X (by decide) dX9_init_140 (pc' := 141) rfl ?_
  refine r_newi X ac_int (by omega) (by omega) (by omega) dX9_init_141 (pc' := 143) rfl ?_
  refine Z_w (lw_push rfl) ?_
  simp only [List.set_cons_succ, List.set_cons_zero, List.cons_append, List.nil_append, List.replicate, Nat.reduceAdd, Nat.reduceMul]
  refine r_dup X rfl dX9_init_143 (pc' := 144) rfl ?_
  refine r_iconst (v := nI 0) X (by decide) dX9_init_144 (pc' := 145) rfl ?_
  refine r_iconst (v := nI 2) X (by decide) dX9_init_145 (pc' := 146) rfl ?_
  refine r_iast X dX9_init_146 (pc' := 147) rfl (by omega) (lw_at 13 rfl rfl) (by omega) (by omega) ?_
  refine Z_w (lw_set 13 rfl (Nat.le_of_ble_eq_true rfl)) ?_
  simp only [List.set_cons_succ, List.set_cons_zero, List.cons_append, List.nil_append, List.replicate, Nat.reduceAdd, Nat.reduceMul]
  refine r_dup X rfl dX9_init_147 (pc' := 148) rfl ?_
  refine r_iconst (v := nI 1) X (by decide) dX9_init_148 (pc' := 149) rfl ?_
  refine r_iconst (v := nI 2) X (by decide) dX9_init_149 (pc' := 150) rfl ?_
  refine r_iast X dX9_init_150 (pc' := 151) rfl (by omega) (lw_at 13 rfl rfl) (by omega) (by omega) ?_
  refine Z_w (lw_set 13 rfl (Nat.le_of_ble_eq_true rfl)) ?_
  simp only [List.set_cons_succ, List.set_cons_zero, List.cons_append, List.nil_append, List.replicate, Nat.reduceAdd, Nat.reduceMul]
  refine r_dup X rfl dX9_init_151 (pc' := 152) rfl ?_
  refine r_iconst (v := nI 2) X (by decide) dX9_init_152 (pc' := 153) rfl ?_
  refine r_iconst (v := nI 2) X (by decide) dX9_init_153 (pc' := 154) rfl ?_
  refine r_iast X dX9_init_154 (pc' := 155) rfl (by omega) (lw_at 13 rfl rfl) (by omega) (by omega) ?_
  refine Z_w (lw_set 13 rfl (Nat.le_of_ble_eq_true rfl)) ?_
  simp only [List.set_cons_succ, List.set_cons_zero, List.cons_append, List.nil_append, List.replicate, Nat.reduceAdd, Nat.reduceMul]
  refine r_dup X rfl dX9_init_155 (pc' := 156) rfl ?_
  refine r_iconst (v := nI 3) X (by decide) dX9_init_156 (pc' := 157) rfl ?_
  refine r_iconst (v := nI 2) X (by decide) dX9_init_157 (pc' := 158) rfl ?_
  refine r_iast X dX9_init_158 (pc' := 159) rfl (by omega) (lw_at 13 rfl rfl) (by omega) (by omega) ?_
  refine Z_w (lw_set 13 rfl (Nat.le_of_ble_eq_true rfl)) ?_
  simp only [List.set_cons_succ, List.set_cons_zero, List.cons_append, List.nil_append, List.replicate, Nat.reduceAdd, Nat.reduceMul]
  refine r_putF X hnm fX9 lf_X9_46 rfl rfl dX9_init_159 (pc' := 162) rfl (by decide) (by omega) (lw_at 0 rfl rfl) (Nat.le_of_ble_eq_true rfl) rfl rfl ?_
  refine Z_w (lw_set 0 rfl (Nat.le_of_ble_eq_true rfl)) ?_
  simp only [List.set_cons_succ, List.set_cons_zero, List.cons_append, List.nil_append, List.replicate, Nat.reduceAdd, Nat.reduceMul]
  refine r_aload_n X dX9_init_162 (pc' := 163) rfl rfl ?_
  refine r_ldc X lk_X9_49 dX9_init_163 (pc' := 165) rfl ?_
  rw [show ((40000) : Int32) = nI 40000 from by decide]
  refine r_newi X ac_int (by omega) (by omega) (by omega) dX9_init_165 (pc' := 167) rfl ?_
  refine Z_w (lw_push rfl) ?_
  simp only [List.set_cons_succ, List.set_cons_zero, List.cons_append, List.nil_append, List.replicate, Nat.reduceAdd, Nat.reduceMul]
  refine r_putF X hnm fX9 lf_X9_50 rfl rfl dX9_init_167 (pc' := 170) rfl (by decide) (by omega) (lw_at 0 rfl rfl) (Nat.le_of_ble_eq_true rfl) rfl rfl ?_
  refine Z_w (lw_set 0 rfl (Nat.le_of_ble_eq_true rfl)) ?_
  simp only [List.set_cons_succ, List.set_cons_zero, List.cons_append, List.nil_append, List.replicate, Nat.reduceAdd, Nat.reduceMul]
  refine r_aload_n X dX9_init_170 (pc' := 171) rfl rfl ?_
  refine r_ldc X lk_X9_49 dX9_init_171 (pc' := 173) rfl ?_
  rw [show ((40000) : Int32) = nI 40000 from by decide]
  refine r_newi X ac_int (by omega) (by omega) (by omega) dX9_init_173 (pc' := 175) rfl ?_
  refine Z_w (lw_push rfl) ?_
  simp only [List.set_cons_succ, List.set_cons_zero, List.cons_append, List.nil_append, List.replicate, Nat.reduceAdd, Nat.reduceMul]
  refine r_putF X hnm fX9 lf_X9_53 rfl rfl dX9_init_175 (pc' := 178) rfl (by decide) (by omega) (lw_at 0 rfl rfl) (Nat.le_of_ble_eq_true rfl) rfl rfl ?_
  refine Z_w (lw_set 0 rfl (Nat.le_of_ble_eq_true rfl)) ?_
  simp only [List.set_cons_succ, List.set_cons_zero, List.cons_append, List.nil_append, List.replicate, Nat.reduceAdd, Nat.reduceMul]
  refine r_aload_n X dX9_init_178 (pc' := 179) rfl rfl ?_
  refine r_sipush (v := nI 20120) X (by decide) dX9_init_179 (pc' := 182) rfl ?_
  refine r_newz X ac_boolean (by omega) (by omega) (by omega) dX9_init_182 (pc' := 184) rfl ?_
  refine Z_w (lw_push rfl) ?_
  simp only [List.set_cons_succ, List.set_cons_zero, List.cons_append, List.nil_append, List.replicate, Nat.reduceAdd, Nat.reduceMul]
  refine r_putF X hnm fX9 lf_X9_56 rfl rfl dX9_init_184 (pc' := 187) rfl (by decide) (by omega) (lw_at 0 rfl rfl) (Nat.le_of_ble_eq_true rfl) rfl rfl ?_
  refine Z_w (lw_set 0 rfl (Nat.le_of_ble_eq_true rfl)) ?_
  simp only [List.set_cons_succ, List.set_cons_zero, List.cons_append, List.nil_append, List.replicate, Nat.reduceAdd, Nat.reduceMul]
  refine r_aload_n X dX9_init_187 (pc' := 188) rfl rfl ?_
  refine r_sipush (v := nI 300) X (by decide) dX9_init_188 (pc' := 191) rfl ?_
  refine r_newi X ac_int (by omega) (by omega) (by omega) dX9_init_191 (pc' := 193) rfl ?_
  refine Z_w (lw_push rfl) ?_
  simp only [List.set_cons_succ, List.set_cons_zero, List.cons_append, List.nil_append, List.replicate, Nat.reduceAdd, Nat.reduceMul]
  refine r_putF X hnm fX9 lf_X9_60 rfl rfl dX9_init_193 (pc' := 196) rfl (by decide) (by omega) (lw_at 0 rfl rfl) (Nat.le_of_ble_eq_true rfl) rfl rfl ?_
  refine Z_w (lw_set 0 rfl (Nat.le_of_ble_eq_true rfl)) ?_
  simp only [List.set_cons_succ, List.set_cons_zero, List.cons_append, List.nil_append, List.replicate, Nat.reduceAdd, Nat.reduceMul]
  refine r_aload_n X dX9_init_196 (pc' := 197) rfl rfl ?_
  refine r_sipush (v := nI 300) X (by decide) dX9_init_197 (pc' := 200) rfl ?_
  refine r_newi X ac_int (by omega) (by omega) (by omega) dX9_init_200 (pc' := 202) rfl ?_
  refine Z_w (lw_push rfl) ?_
  simp only [List.set_cons_succ, List.set_cons_zero, List.cons_append, List.nil_append, List.replicate, Nat.reduceAdd, Nat.reduceMul]
  refine r_putF X hnm fX9 lf_X9_63 rfl rfl dX9_init_202 (pc' := 205) rfl (by decide) (by omega) (lw_at 0 rfl rfl) (Nat.le_of_ble_eq_true rfl) rfl rfl ?_
  refine Z_w (lw_set 0 rfl (Nat.le_of_ble_eq_true rfl)) ?_
  simp only [List.set_cons_succ, List.set_cons_zero, List.cons_append, List.nil_append, List.replicate, Nat.reduceAdd, Nat.reduceMul]
  refine r_aload_n X dX9_init_205 (pc' := 206) rfl rfl ?_
  refine r_sipush (v := nI 300) X (by decide) dX9_init_206 (pc' := 209) rfl ?_
  refine r_newi X ac_int (by omega) (by omega) (by omega) dX9_init_209 (pc' := 211) rfl ?_
  refine Z_w (lw_push rfl) ?_
  simp only [List.set_cons_succ, List.set_cons_zero, List.cons_append, List.nil_append, List.replicate, Nat.reduceAdd, Nat.reduceMul]
  refine r_putF X hnm fX9 lf_X9_66 rfl rfl dX9_init_211 (pc' := 214) rfl (by decide) (by omega) (lw_at 0 rfl rfl) (Nat.le_of_ble_eq_true rfl) rfl rfl ?_
  refine Z_w (lw_set 0 rfl (Nat.le_of_ble_eq_true rfl)) ?_
  simp only [List.set_cons_succ, List.set_cons_zero, List.cons_append, List.nil_append, List.replicate, Nat.reduceAdd, Nat.reduceMul]
  refine r_aload_n X dX9_init_214 (pc' := 215) rfl rfl ?_
  refine r_sipush (v := nI 300) X (by decide) dX9_init_215 (pc' := 218) rfl ?_
  refine r_newi X ac_int (by omega) (by omega) (by omega) dX9_init_218 (pc' := 220) rfl ?_
  refine Z_w (lw_push rfl) ?_
  simp only [List.set_cons_succ, List.set_cons_zero, List.cons_append, List.nil_append, List.replicate, Nat.reduceAdd, Nat.reduceMul]
  refine r_putF X hnm fX9 lf_X9_69 rfl rfl dX9_init_220 (pc' := 223) rfl (by decide) (by omega) (lw_at 0 rfl rfl) (Nat.le_of_ble_eq_true rfl) rfl rfl ?_
  refine Z_w (lw_set 0 rfl (Nat.le_of_ble_eq_true rfl)) ?_
  simp only [List.set_cons_succ, List.set_cons_zero, List.cons_append, List.nil_append, List.replicate, Nat.reduceAdd, Nat.reduceMul]
  refine r_aload_n X dX9_init_223 (pc' := 224) rfl rfl ?_
  refine r_sipush (v := nI 300) X (by decide) dX9_init_224 (pc' := 227) rfl ?_
  refine r_newi X ac_int (by omega) (by omega) (by omega) dX9_init_227 (pc' := 229) rfl ?_
  refine Z_w (lw_push rfl) ?_
  simp only [List.set_cons_succ, List.set_cons_zero, List.cons_append, List.nil_append, List.replicate, Nat.reduceAdd, Nat.reduceMul]
  refine r_putF X hnm fX9 lf_X9_72 rfl rfl dX9_init_229 (pc' := 232) rfl (by decide) (by omega) (lw_at 0 rfl rfl) (Nat.le_of_ble_eq_true rfl) rfl rfl ?_
  refine Z_w (lw_set 0 rfl (Nat.le_of_ble_eq_true rfl)) ?_
  simp only [List.set_cons_succ, List.set_cons_zero, List.cons_append, List.nil_append, List.replicate, Nat.reduceAdd, Nat.reduceMul]
  refine r_iconst (v := nI 0) X (by decide) dX9_init_232 (pc' := 233) rfl ?_
  refine r_istore_n (vs' := [_, _]) X dX9_init_233 (pc' := 234) rfl (by decide) rfl ?_
  rw [minit_eq]
  have loopB : ∀ (mB : Nat) (j : Nat), 4 - j < mB → (j ≤ 4) → (Wf io0 (fgA (fg2 phi1 30) j)) → Z K P 59 (wM P h io0 (fgA (fg2 phi1 30) j)) 21 101798 256 [some (.ref (Bs P + 37)), some (.int (nI j))] [] := by
    intro mB
    induction mB with
    | zero => intro j hmB; exact absurd hmB (Nat.not_lt_zero _)
    | succ mB ihB =>
      intro j hmB hj W
      refine r_iload_n X dX9_init_256 (pc' := 257) rfl rfl ?_
      refine r_iconst (v := nI 4) X (by decide) dX9_init_257 (pc' := 258) rfl ?_
      refine rN_icmp_ge X dX9_init_258 (tgt := 272) (by decide) (pc' := 261) rfl (by omega) (by omega) (fun c_258 => ?_) (fun c_258 => ?_)
      · exact r_vret X r dX9_init_272 (by omega) (by omega) rfl rfl (by rw [show j = 4 by omega] <;> rfl)
      · refine r_aload_n X dX9_init_261 (pc' := 262) rfl rfl ?_
        refine r_iload_n X dX9_init_262 (pc' := 263) rfl rfl ?_
        refine r_callV (As := [_]) X okX9_forgets lm_X9_76 dX9_init_263 (pc' := 266) rfl (ct_X9_forgets P 59 (by decide) h io0 _ W j (by omega)) (by omega) (wM_e37 _ _ _ _) rfl rfl rfl rfl (Nat.le_of_ble_eq_true rfl) (by omega) (by omega) (by omega) ?_
        dsimp only [Option.toList, List.cons_append, List.nil_append]
        refine r_iincN (vs' := [_, _]) X dX9_init_266 (pc' := 269) rfl (by decide) rfl rfl ?_
        refine r_goto (tgt := 256) X dX9_init_269 (by decide) ?_
        exact ihB (j + 1) (by omega) (by omega) (W.fgt j 10000)
  have loopA : ∀ (mA : Nat) (k : Nat), 30 - k < mA → (k ≤ 30) → Z K P 59 (wM P h io0 (fg2 phi1 k)) 21 101798 234 [some (.ref (Bs P + 37)), some (.int (nI k))] [] := by
    intro mA
    induction mA with
    | zero => intro k hmA; exact absurd hmA (Nat.not_lt_zero _)
    | succ mA ihA =>
      intro k hmA hk
      refine r_iload_n X dX9_init_234 (pc' := 235) rfl rfl ?_
      refine r_bipush (v := nI 30) X (by decide) dX9_init_235 (pc' := 237) rfl ?_
      refine rN_icmp_ge X dX9_init_237 (tgt := 254) (by decide) (pc' := 240) rfl (by omega) (by omega) (fun c_237 => ?_) (fun c_237 => ?_)
      · refine r_iconst (v := nI 0) X (by decide) dX9_init_254 (pc' := 255) rfl ?_
        refine r_istore_n (vs' := [_, _]) X dX9_init_255 (pc' := 256) rfl (by decide) rfl ?_
        rw [show k = 30 by omega]
        exact loopB _ 0 (Nat.lt_succ_self _) (Nat.zero_le _) (Wf_phi1.fg2 30)
      · refine r_aload_n X dX9_init_240 (pc' := 241) rfl rfl ?_
        refine r_get X fX9 lf_X9_16 dX9_init_241 (pc' := 244) rfl (by decide) (by omega) (wM_e37 _ _ _ _) rfl ?_
        refine r_iload_n X dX9_init_244 (pc' := 245) rfl rfl ?_
        refine r_ldc X lk_X9_75 dX9_init_245 (pc' := 247) rfl ?_
        rw [nv_0]
        refine r_iast X dX9_init_247 (pc' := 248) rfl (by omega) (wM_e40 _ _ _ _) (by omega) (by omega) ?_
        rw [wM_s40]
        rw [fg2_s]
        refine r_iincN (vs' := [_, _]) X dX9_init_248 (pc' := 251) rfl (by decide) rfl rfl ?_
        refine r_goto (tgt := 234) X dX9_init_251 (by decide) ?_
        exact ihA (k + 1) (by omega) (by omega)
  have l0 := loopA _ 0 (Nat.lt_succ_self _) (Nat.zero_le _)
  rw [fg2_0] at l0
  exact l0
