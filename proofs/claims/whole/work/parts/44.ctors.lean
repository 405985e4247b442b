/-! ===== new T[n][m], and the constructors ===== -/
def hmna (P : Px) (h : hw) (n N M : Nat) : hw := fun k => if k = n then .inl (P.2.2.1 2, N, .inr (.inr (.inr (.inr (fun i => if i < N then some (Bs P + (n + 1) + i) else none))))) else if n < k ∧ k ≤ n + N then .inl (P.2.2.1 0, M, .inl (fun _ => 0)) else h k
theorem hmna_lt {P : Px} {h : hw} {n N M k : Nat} (hk : k < n) : hmna P h n N M k = h k := by
  unfold hmna
  rw [if_neg (by omega), if_neg (by omega)]
theorem mn_outer (c : ClassId) (N h0 : Nat) : ∀ i : Nat, Jvm.Free.Multi.outerC c N h0 i = arrV c N (fun j => va_rf (if j < i then some (h0 + 1 + j) else none))
  | 0 => by
    show ({ cls := c, slots := Array.replicate N .null, vm := .none } : Cell) = _
    rw [arrV_new]
    refine congrArg (arrV c N) (funext fun j => ?_)
    simp [va_rf]
  | i + 1 => by
    show (Jvm.Free.Multi.outerC c N h0 i).setSlot i (.ref (h0 + 1 + i)) = _
    rw [mn_outer c N h0 i, arrV_store]
    refine congrArg (arrV c N) (funext fun j => ?_)
    by_cases e : j = i
    · subst e
      simp [updV, va_rf]
    · by_cases h : j < i
      · simp [updV, e, h, Nat.lt_succ_of_lt h]
      · simp [updV, e, h, show ¬ j < i + 1 by omega]
section ZM
variable {K : Kx} {P : Px} {own : String} {cc : ByteArray} {nL d MC MS n u w pc pc' : Nat} {h : hw} {vs : List (Option Value)} {st : List Value}
theorem r_mna (X : Cx K P own cc nL d MC MS) {N M idx : Nat} (hcl : Cond.classLink own idx "[[I" ∈ lw_tbl) (hN : N < 2 ^ 20) (hM : M < 2 ^ 20) (hu : u + (1 + N) ≤ MC) (hw' : w + (N + N * M) ≤ MS) (hd : decode cc pc = .ok (.multianewarray idx 2, 4)) (hp : pc + 4 = pc') (kk : Z K P (n + 1 + N) (hmna P h n N M) (u + 1 + N) (w + N + N * M) pc' vs (.ref (Bs P + n) :: st)) : Z K P n h u w pc vs (.int (nI M) :: .int (nI N) :: st) := by
  subst hp
  obtain ⟨p, e, R, s, m, args, below, meth, c, Q⟩ := K
  obtain ⟨hx, hb, hml, hown, hT, hK, -, -, -, hMC, hMS⟩ := X
  intro H locs cells slots ls a1 a2 a3 a4 a5
  have eN : (nI N).toNatClampNeg = N := nI_clamp (by omega)
  have eM : (nI M).toNatClampNeg = M := nI_clamp (by omega)
  have hcl' : (Cond.classLink own idx ("[" ++ (FieldType.array .int).toString)).before args s = true := by
    rw [show "[" ++ (FieldType.array .int).toString = "[[I" by decide]
    exact hT.use hcl rfl args
  intro T hTh Xs
  obtain ⟨vm₁, cA, comp, -, fA, fC, -, -, X', step⟩ := Xs.multianewarray2F hx hown hcl' (hT.use ao_arr rfl args) (hT.use ac_int rfl args) (g := F0 m pc ls (.int (nI M) :: .int (nI N) :: st)) rfl (by rw [hb]; exact hd) rfl (nI_pos (by omega)) (nI_pos (by omega)) (by rw [eN]; omega) (by rw [eM]; show M * 4 ≤ _; omega) (by rw [eM]; omega) rfl rfl (by rw [eN]; omega) (by rw [eN, eM]; omega)
  rw [eN, eM] at X' step
  have hA : cA = P.2.2.1 2 := Option.some.inj (fA.symm.trans (hK.2 2 _ rfl).2)
  have hC : comp = P.2.2.1 0 := Option.some.inj (fC.symm.trans (hK.2 0 _ rfl).2)
  subst hA
  subst hC
  have hTv : (T.setVm vm₁).heap = H := hTh
  obtain ⟨f1, f2, -, -⟩ := Jvm.Free.Multi.fill_facts (T.setVm vm₁) (P.2.2.1 2) (P.2.2.1 0) N M (defaultValue .int) N
  have f3 := fun x hx => Jvm.Free.Multi.fill_old (T.setVm vm₁) (P.2.2.1 2) (P.2.2.1 0) N M (defaultValue .int) (a := x) hx N
  have f4 := Jvm.Free.Multi.fill_inner (T.setVm vm₁) (P.2.2.1 2) (P.2.2.1 0) N M (defaultValue .int) N
  generalize Jvm.Free.Multi.fill (T.setVm vm₁) (P.2.2.1 2) (P.2.2.1 0) N M (defaultValue .int) N = F at X' step f1 f2 f3 f4
  rw [hTv] at f1 f2 f3 f4
  have hs : H.size = Bs P + n := a1.1
  rw [hs] at f1 f2 f3 f4
  have hO : hOK P (n + 1 + N) (hmna P h n N M) F.heap := by
    refine ⟨by rw [f1]; omega, fun k hk => ?_⟩
    unfold hmna
    by_cases e1 : k = n
    · subst e1
      rw [if_pos rfl]
      show F.heap[Bs P + k]? = some (vp_cell _ _)
      rw [f2, mn_outer, vp_cell_q]
      rfl
    · rw [if_neg e1]
      by_cases e2 : n < k ∧ k ≤ n + N
      · rw [if_pos e2]
        show F.heap[Bs P + k]? = some (vp_cell _ _)
        have := f4 (k - (n + 1)) (by omega)
        rw [show Bs P + n + 1 + (k - (n + 1)) = Bs P + k by omega] at this
        rw [this, vp_cell_i, ← arrV_new]
        rfl
      · rw [if_neg e2]
        exact (a1.2 k (by omega)).kept (f3 _ (by show Bs P + k < Bs P + n; omega))
  obtain ⟨t, b1, b2⟩ := kk F.heap locs (cells + 1 + N) (slots + N + N * M) ls hO (hS_push a2 (by rw [f1, hs]; omega) (fun q hq => f3 q (by rw [← hs]; exact hq))) (by omega) (by omega) a5 F rfl X'
  refine ⟨t, step t ?_, b2⟩
  have e9 : T.heap.size = Bs P + n := by rw [hTh, hs]
  rw [e9]
  exact b1
end ZM
set_option maxRecDepth 100000 in
set_option maxHeartbeats 1000000 in
theorem ct_X2_init (P : Px) (n : Nat) (h : hw) (k : Nat) (hk : k < n) (he : h k = .inr (2, [.int 0, .int 0, .int 0, .null])) : Ct P MX2_init 1 0 0 [.ref (Bs P + k)] n h none n (hset h k (.inr (2, [.int (nI 5), .int (nI 2), .int 0, .null]))) := by
  refine Ct.of (by decide +kernel) (Nat.le_of_ble_eq_true rfl) rfl (fun K X hnm r => ?_)
  have X : Cx K P RX2 cX2_init 1 1 0 0 := X
  have r : Rt K P none 0 0 _ _ _ := r
  show Z K P _ _ 0 0 0 [some (.ref (Bs P + k))] []
  refine r_aload_n X dX2_init_0 (pc' := 1) rfl rfl ?_
  refine r_obj X lm_X2_3 ob_i ob_c dX2_init_1 (pc' := 4) rfl (by omega) (Nat.le_of_ble_eq_true rfl) ?_
  refine r_aload_n X dX2_init_4 (pc' := 5) rfl rfl ?_
  refine r_iconst (v := nI 5) X (by decide) dX2_init_5 (pc' := 6) rfl ?_
  refine r_put X fX2 lf_X2_9 rfl dX2_init_6 (pc' := 9) rfl (by decide) (by omega) he (Nat.le_of_ble_eq_true rfl) rfl rfl ?_
  try rw [hset_ss]
  refine r_aload_n X dX2_init_9 (pc' := 10) rfl rfl ?_
  refine r_iconst (v := nI 2) X (by decide) dX2_init_10 (pc' := 11) rfl ?_
  refine r_put X fX2 lf_X2_15 rfl dX2_init_11 (pc' := 14) rfl (by decide) (by omega) (hset_s _ _ _) (Nat.le_of_ble_eq_true rfl) rfl rfl ?_
  try rw [hset_ss]
  exact r_vret X r dX2_init_14 (by omega) (by omega) rfl rfl (by first | rfl | (rw [hset_ss] <;> rfl))
set_option maxRecDepth 100000 in
set_option maxHeartbeats 1000000 in
theorem ct_X1_init (P : Px) (n : Nat) (h : hw) (k : Nat) (hk : k < n) (he : h k = .inr (1, [.null, .int 0])) : Ct P MX1_init 1 1 12 [.ref (Bs P + k)] n h none (n + 1) (hset (hset h n (.inl (P.2.2.1 5, 12, .inr (.inr (.inr (.inr (fun _ => none))))))) k (.inr (1, [.ref (Bs P + n), .int 0]))) := by
  refine Ct.of (by decide +kernel) (Nat.le_of_ble_eq_true rfl) rfl (fun K X hnm r => ?_)
  have X : Cx K P RX1 cX1_init 1 1 1 12 := X
  have r : Rt K P none 1 12 _ _ _ := r
  show Z K P _ _ 0 0 0 [some (.ref (Bs P + k))] []
  refine r_aload_n X dX1_init_0 (pc' := 1) rfl rfl ?_
  refine r_obj X lm_X1_3 ob_i ob_c dX1_init_1 (pc' := 4) rfl (by omega) (Nat.le_of_ble_eq_true rfl) ?_
  refine r_aload_n X dX1_init_4 (pc' := 5) rfl rfl ?_
  refine r_bipush (v := nI 12) X (by decide) dX1_init_5 (pc' := 7) rfl ?_
  refine r_anew (t := 5) X rfl lc_X1_9 ao_X6 (by omega) (by omega) (by omega) dX1_init_7 (pc' := 10) rfl ?_
  refine r_putF X hnm fX1 lf_X1_11 rfl rfl dX1_init_10 (pc' := 13) rfl (by decide) (by omega) ((hset_n _ _ (by omega)).trans he) (Nat.le_of_ble_eq_true rfl) rfl rfl ?_
  exact r_vret X r dX1_init_13 (by omega) (by omega) rfl rfl rfl
set_option maxRecDepth 100000 in
set_option maxHeartbeats 1000000 in
theorem ct_X0_init (P : Px) (n : Nat) (h : hw) (k : Nat) (hk : k < n) (he : h k = .inr (0, [.null, .int 0, .int 0])) : Ct P MX0_init 1 6 1505 [.ref (Bs P + k)] n h none (n + 6) (hset (hmna P h n 5 300) k (.inr (0, [.ref (Bs P + n), .int 0, .int 0]))) := by
  refine Ct.of (by decide +kernel) (Nat.le_of_ble_eq_true rfl) rfl (fun K X hnm r => ?_)
  have X : Cx K P RX0 cX0_init 1 1 6 1505 := X
  have r : Rt K P none 6 1505 _ _ _ := r
  show Z K P _ _ 0 0 0 [some (.ref (Bs P + k))] []
  refine r_aload_n X dX0_init_0 (pc' := 1) rfl rfl ?_
  refine r_obj X lm_X0_3 ob_i ob_c dX0_init_1 (pc' := 4) rfl (by omega) (Nat.le_of_ble_eq_true rfl) ?_
  refine r_aload_n X dX0_init_4 (pc' := 5) rfl rfl ?_
  refine r_iconst (v := nI 5) X (by decide) dX0_init_5 (pc' := 6) rfl ?_
  refine r_sipush (v := nI 300) X (by decide) dX0_init_6 (pc' := 9) rfl ?_
  refine r_mna X lc_X0_11 (by decide) (by decide) (by omega) (by omega) dX0_init_9 (pc' := 13) rfl ?_
  refine r_putF X hnm fX0 lf_X0_13 rfl rfl dX0_init_13 (pc' := 16) rfl (by decide) (by omega) ((hmna_lt hk).trans he) (Nat.le_of_ble_eq_true rfl) rfl rfl ?_
  exact r_vret X r dX0_init_16 (by omega) (by omega) rfl rfl rfl
set_option maxRecDepth 100000 in
set_option maxHeartbeats 1000000 in
theorem ct_X7_init (P : Px) (n : Nat) (h : hw) (k : Nat) (hk : k < n) (he : h k = .inr (7, [.null, .null, .null, .null, .int 0])) : Ct P MX7_init 1 4 224 [.ref (Bs P + k)] n h none (n + 4) (hset (hset (hset (hset (hset h n (.inl (P.2.2.1 0, 16, .inl (fun _ => 0)))) (n + 1) (.inl (P.2.2.1 0, 64, .inl (fun _ => 0)))) (n + 2) (.inl (P.2.2.1 0, 80, .inl (fun _ => 0)))) (n + 3) (.inl (P.2.2.1 0, 64, .inl (fun _ => 0)))) k (.inr (7, [.ref (Bs P + n), .ref (Bs P + (n + 1)), .ref (Bs P + (n + 2)), .ref (Bs P + (n + 3)), .int 0]))) := by
  refine Ct.of (by decide +kernel) (Nat.le_of_ble_eq_true rfl) rfl (fun K X hnm r => ?_)
  have X : Cx K P RX7 cX7_init 1 1 4 224 := X
  have r : Rt K P none 4 224 _ _ _ := r
  show Z K P _ _ 0 0 0 [some (.ref (Bs P + k))] []
  refine r_aload_n X dX7_init_0 (pc' := 1) rfl rfl ?_
  refine r_obj X lm_X7_3 ob_i ob_c dX7_init_1 (pc' := 4) rfl (by omega) (Nat.le_of_ble_eq_true rfl) ?_
  refine r_aload_n X dX7_init_4 (pc' := 5) rfl rfl ?_
  refine r_bipush (v := nI 16) X (by decide) dX7_init_5 (pc' := 7) rfl ?_
  refine r_newi X ac_int (by omega) (by omega) (by omega) dX7_init_7 (pc' := 9) rfl ?_
  refine r_putF X hnm fX7 lf_X7_9 rfl rfl dX7_init_9 (pc' := 12) rfl (by decide) (by omega) ((hset_n _ _ (by omega)).trans he) (Nat.le_of_ble_eq_true rfl) rfl rfl ?_
  refine r_aload_n X dX7_init_12 (pc' := 13) rfl rfl ?_
  refine r_bipush (v := nI 64) X (by decide) dX7_init_13 (pc' := 15) rfl ?_
  refine r_newi X ac_int (by omega) (by omega) (by omega) dX7_init_15 (pc' := 17) rfl ?_
  refine r_putF X hnm fX7 lf_X7_15 rfl rfl dX7_init_17 (pc' := 20) rfl (by decide) (by omega) ((hset_n _ _ (by omega)).trans (hset_s _ _ _)) (Nat.le_of_ble_eq_true rfl) rfl rfl ?_
  refine r_aload_n X dX7_init_20 (pc' := 21) rfl rfl ?_
  refine r_bipush (v := nI 80) X (by decide) dX7_init_21 (pc' := 23) rfl ?_
  refine r_newi X ac_int (by omega) (by omega) (by omega) dX7_init_23 (pc' := 25) rfl ?_
  refine r_putF X hnm fX7 lf_X7_18 rfl rfl dX7_init_25 (pc' := 28) rfl (by decide) (by omega) ((hset_n _ _ (by omega)).trans (hset_s _ _ _)) (Nat.le_of_ble_eq_true rfl) rfl rfl ?_
  refine r_aload_n X dX7_init_28 (pc' := 29) rfl rfl ?_
  refine r_bipush (v := nI 64) X (by decide) dX7_init_29 (pc' := 31) rfl ?_
  refine r_newi X ac_int (by omega) (by omega) (by omega) dX7_init_31 (pc' := 33) rfl ?_
  refine r_putF X hnm fX7 lf_X7_21 rfl rfl dX7_init_33 (pc' := 36) rfl (by decide) (by omega) ((hset_n _ _ (by omega)).trans (hset_s _ _ _)) (Nat.le_of_ble_eq_true rfl) rfl rfl ?_
  exact r_vret X r dX7_init_36 (by omega) (by omega) rfl rfl (by rw [hset_comm _ _ _ (show k ≠ n + 3 by omega), hset_ss, hset_comm _ _ _ (show k ≠ n + 2 by omega), hset_comm _ _ _ (show k ≠ n + 3 by omega), hset_ss, hset_comm _ _ _ (show k ≠ n + 1 by omega), hset_comm _ _ _ (show k ≠ n + 2 by omega), hset_comm _ _ _ (show k ≠ n + 3 by omega), hset_ss] <;> rfl)
