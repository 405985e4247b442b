/-! ===== Marks, Heap, Diary of the class ===== -/
theorem adr_i {P : Px} {b i m : Nat} (hi : i < m) : va_rf (if i < m then some (Bs P + b + i) else none) = .ref (Bs P + (b + i)) := by
  rw [if_pos hi]
  show Value.ref _ = _
  rw [Nat.add_assoc]
theorem adr_s {P : Px} {o : Option Nat} {k : Nat} (h : o = some k) : va_rf (adr P o) = .ref (Bs P + k) := by rw [h]; rfl
theorem adr_n {P : Px} {o : Option Nat} (h : o = none) : va_rf (adr P o) = .null := by rw [h]; rfl
theorem valN_c {ι : Nat → Nat} {φ : Nat → Nat → Nat} (V0 : ∀ k, φ 2 k = 0 → φ 1 k = 0) {wo s : Nat} (c : ι 0 - (φ 2 (10 * s + wo) - 1) ≤ φ 3 s) : valN ι φ wo s = φ 1 (10 * s + wo) := by
  unfold valN
  by_cases h : φ 2 (10 * s + wo) = 0
  · rw [if_neg (by omega), V0 _ h]
  · rw [if_pos ⟨h, c⟩]
theorem valN_d {ι : Nat → Nat} {φ : Nat → Nat → Nat} {wo s : Nat} (c : φ 3 s < ι 0 - (φ 2 (10 * s + wo) - 1)) : valN ι φ wo s = 0 := by
  unfold valN
  rw [if_neg (by omega)]
def dsh (ρ : Nat → Nat → Option Nat) (hp b e : Nat) : Nat → Nat → Option Nat := fun q i => if q = hp ∧ b ≤ i ∧ i < e then ρ q (i + 1) else ρ q i
theorem dsh_0 (ρ : Nat → Nat → Option Nat) (hp b : Nat) : dsh ρ hp b b = ρ := by
  funext q i
  unfold dsh
  rw [if_neg (by omega)]
theorem dsh_r {ρ : Nat → Nat → Option Nat} {hp b e q i : Nat} (h : e ≤ i) : dsh ρ hp b e q i = ρ q i := by unfold dsh; rw [if_neg (by omega)]
theorem dsh_s {ρ : Nat → Nat → Option Nat} {hp b e : Nat} (hb : b ≤ e) : upr (dsh ρ hp b e) hp e (ρ hp (e + 1)) = dsh ρ hp b (e + 1) := by
  funext q i
  unfold upr dsh
  by_cases hq : q = hp
  · subst hq
    by_cases hi : i = e
    · subst hi; rw [if_pos ⟨rfl, rfl⟩, if_pos ⟨rfl, hb, by omega⟩]
    · rw [if_neg (fun z => hi z.2)]
      by_cases hc : b ≤ i ∧ i < e
      · rw [if_pos ⟨rfl, hc⟩, if_pos ⟨rfl, hc.1, by omega⟩]
      · rw [if_neg (fun z => hc z.2), if_neg (fun z => hc ⟨z.2.1, by omega⟩)]
  · rw [if_neg (fun z => hq z.1), if_neg (fun z => hq z.1), if_neg (fun z => hq z.1)]
set_option maxRecDepth 100000 in
set_option maxHeartbeats 4000000 in
theorem ct_X5_valueOf (P : Px) (n : Nat) (hn : 59 ≤ n) (h : hw) (ι : Nat → Nat) (φ : Nat → Nat → Nat) (ℓ : Nat → Nat) (lt : Nat → Option Nat) (ρ : Nat → Nat → Option Nat) (ω : Nat → Nat → Nat) (W : Wf ι φ) (V0 : ∀ k, φ 2 k = 0 → φ 1 k = 0) (wo s : Nat) (hwo : wo < 10) (hs : s < 3) : Ct P MX5_valueOf 0 0 0 [.ref (Bs P + 4), .int (nI wo), .int (nI s), .int (nI (ι 0))] n (wC P h ι φ ℓ lt ρ ω) (some (.int (nI (valN ι φ wo s)))) n (wC P h ι φ ℓ lt ρ ω) := by
  refine Ct.of (by decide +kernel) (Nat.le_of_ble_eq_true rfl) rfl (fun K X hnm r => ?_)
  have X : Cx K P RX5 cX5_valueOf 5 0 0 0 := X
  have r : Rt K P (some .int) 0 0 _ _ _ := r
  show Z K P _ _ 0 0 0 [some (.ref (Bs P + 4)), some (.int (nI wo)), some (.int (nI s)), some (.int (nI (ι 0))), none] []
  refine r_iload_n X dX5_valueOf_0 (pc' := 1) rfl rfl ?_
  refine r_aload_n X dX5_valueOf_1 (pc' := 2) rfl rfl ?_
  refine r_get X fX5 lf_X5_16 dX5_valueOf_2 (pc' := 5) rfl (by decide) (by omega) (wC_e4 _ _ _ _ _ _ _ _) rfl ?_
  refine r_iload_n X dX5_valueOf_5 (pc' := 6) rfl rfl ?_
  refine r_aald (t := 2) X rfl rfl dX5_valueOf_6 (pc' := 7) rfl (by omega) (wC_e9 _ _ _ _ _ _ _ _) (by omega) (by omega) ?_
  rw [adr_i hs]
  refine r_iload_n X dX5_valueOf_7 (pc' := 8) rfl rfl ?_
  refine r_iald X dX5_valueOf_8 (pc' := 9) rfl (by omega) (wC_st_e _ _ _ _ _ _ _ _ hs) (by omega) (by omega) ?_
  rw [if_pos hwo]
  have b2 := W.v2 (10 * s + wo)
  have b3 := W.v3 s
  have bn := W.now
  first | refine rN_isub X dX5_valueOf_9 (pc' := 10) rfl (by omega) ?_ | refine r_isub X dX5_valueOf_9 (pc' := 10) rfl ?_
  refine r_aload_n X dX5_valueOf_10 (pc' := 11) rfl rfl ?_
  refine r_get X fX5 lf_X5_19 dX5_valueOf_11 (pc' := 14) rfl (by decide) (by omega) (wC_e4 _ _ _ _ _ _ _ _) rfl ?_
  refine r_iload_n X dX5_valueOf_14 (pc' := 15) rfl rfl ?_
  refine r_iald X dX5_valueOf_15 (pc' := 16) rfl (by omega) (wC_e13 _ _ _ _ _ _ _ _) (by omega) (by omega) ?_
  refine rN_icmp_gt X dX5_valueOf_16 (tgt := 23) (by decide) (pc' := 19) rfl (by omega) (by omega) (fun c_16 => ?_) (fun c_16 => ?_)
  · refine r_iconst (v := nI 0) X (by decide) dX5_valueOf_23 (pc' := 24) rfl ?_
    refine r_istore (vs' := [_, _, _, _, _]) X dX5_valueOf_24 (pc' := 26) rfl (by decide) rfl ?_
    refine r_iload X dX5_valueOf_26 (pc' := 28) rfl rfl ?_
    refine rN_if_eq X dX5_valueOf_28 (tgt := 42) (by decide) (pc' := 31) rfl (by omega) (fun c_28 => ?_) (fun c_28 => ?_)
    · refine r_iconst (v := nI 0) X (by decide) dX5_valueOf_42 (pc' := 43) rfl ?_
      exact r_iret X r dX5_valueOf_43 (by omega) (by omega) rfl (hvN (by first | exact (valN_c V0 c_16).symm | exact (valN_d c_16).symm | omega)) rfl rfl
    · refine r_aload_n X dX5_valueOf_31 (pc' := 32) rfl rfl ?_
      refine r_get X fX5 lf_X5_11 dX5_valueOf_32 (pc' := 35) rfl (by decide) (by omega) (wC_e4 _ _ _ _ _ _ _ _) rfl ?_
      refine r_iload_n X dX5_valueOf_35 (pc' := 36) rfl rfl ?_
      refine r_aald (t := 2) X rfl rfl dX5_valueOf_36 (pc' := 37) rfl (by omega) (wC_e5 _ _ _ _ _ _ _ _) (by omega) (by omega) ?_
      rw [adr_i hs]
      refine r_iload_n X dX5_valueOf_37 (pc' := 38) rfl rfl ?_
      refine r_iald X dX5_valueOf_38 (pc' := 39) rfl (by omega) (wC_sv_e _ _ _ _ _ _ _ _ hs) (by omega) (by omega) ?_
      rw [if_pos hwo]
      refine r_goto (tgt := 43) X dX5_valueOf_39 (by decide) ?_
      exact r_iret X r dX5_valueOf_43 (by omega) (by omega) rfl (hvN (by first | exact (valN_c V0 c_16).symm | exact (valN_d c_16).symm | omega)) rfl rfl
  · refine r_iconst (v := nI 1) X (by decide) dX5_valueOf_19 (pc' := 20) rfl ?_
    refine r_goto (tgt := 24) X dX5_valueOf_20 (by decide) ?_
    refine r_istore (vs' := [_, _, _, _, _]) X dX5_valueOf_24 (pc' := 26) rfl (by decide) rfl ?_
    refine r_iload X dX5_valueOf_26 (pc' := 28) rfl rfl ?_
    refine rN_if_eq X dX5_valueOf_28 (tgt := 42) (by decide) (pc' := 31) rfl (by omega) (fun c_28 => ?_) (fun c_28 => ?_)
    · refine r_iconst (v := nI 0) X (by decide) dX5_valueOf_42 (pc' := 43) rfl ?_
      exact r_iret X r dX5_valueOf_43 (by omega) (by omega) rfl (hvN (by first | exact (valN_c V0 c_16).symm | exact (valN_d c_16).symm | omega)) rfl rfl
    · refine r_aload_n X dX5_valueOf_31 (pc' := 32) rfl rfl ?_
      refine r_get X fX5 lf_X5_11 dX5_valueOf_32 (pc' := 35) rfl (by decide) (by omega) (wC_e4 _ _ _ _ _ _ _ _) rfl ?_
      refine r_iload_n X dX5_valueOf_35 (pc' := 36) rfl rfl ?_
      refine r_aald (t := 2) X rfl rfl dX5_valueOf_36 (pc' := 37) rfl (by omega) (wC_e5 _ _ _ _ _ _ _ _) (by omega) (by omega) ?_
      rw [adr_i hs]
      refine r_iload_n X dX5_valueOf_37 (pc' := 38) rfl rfl ?_
      refine r_iald X dX5_valueOf_38 (pc' := 39) rfl (by omega) (wC_sv_e _ _ _ _ _ _ _ _ hs) (by omega) (by omega) ?_
      rw [if_pos hwo]
      refine r_goto (tgt := 43) X dX5_valueOf_39 (by decide) ?_
      exact r_iret X r dX5_valueOf_43 (by omega) (by omega) rfl (hvN (by first | exact (valN_c V0 c_16).symm | exact (valN_d c_16).symm | omega)) rfl rfl
set_option maxRecDepth 100000 in
set_option maxHeartbeats 4000000 in
theorem ct_X5_sureOf (P : Px) (n : Nat) (hn : 59 ≤ n) (h : hw) (ι : Nat → Nat) (φ : Nat → Nat → Nat) (ℓ : Nat → Nat) (lt : Nat → Option Nat) (ρ : Nat → Nat → Option Nat) (ω : Nat → Nat → Nat) (W : Wf ι φ) (m : Nat) (hm : m < 64) : Ct P MX5_sureOf 1 0 0 [.ref (Bs P + 4), .int (nI m)] n (wC P h ι φ ℓ lt ρ ω) (some (.int (nI (sm φ m 3)))) n (wC P h ι φ ℓ lt ρ ω) := by
  refine Ct.of (by decide +kernel) (Nat.le_of_ble_eq_true rfl) rfl (fun K X hnm r => ?_)
  have X : Cx K P RX5 cX5_sureOf 4 1 0 0 := X
  have r : Rt K P (some .int) 0 0 _ _ _ := r
  show Z K P _ _ 0 0 0 [some (.ref (Bs P + 4)), some (.int (nI m)), none, none] []
  have loop : ∀ (m_ : Nat) (s : Nat), 3 - s < m_ → (s ≤ 3) → Z K P n (wC P h ι φ ℓ lt ρ ω) 0 0 4 [some (.ref (Bs P + 4)), some (.int (nI m)), some (.int (nI (sm φ m s))), some (.int (nI s))] [] := by
    intro m_
    induction m_ with
    | zero => intro s hm_; exact absurd hm_ (Nat.not_lt_zero _)
    | succ m_ ih =>
      intro s hm_ hs3
      refine r_iload_n X dX5_sureOf_4 (pc' := 5) rfl rfl ?_
      refine r_iconst (v := nI 3) X (by decide) dX5_sureOf_5 (pc' := 6) rfl ?_
      refine rN_icmp_ge X dX5_sureOf_6 (tgt := 30) (by decide) (pc' := 9) rfl (by omega) (by omega) (fun c_6 => ?_) (fun c_6 => ?_)
      · refine r_iload_n X dX5_sureOf_30 (pc' := 31) rfl rfl ?_
        exact r_iret X r dX5_sureOf_31 (by omega) (by omega) rfl (by rw [show s = 3 by omega]) rfl rfl
      · refine r_iload_n X dX5_sureOf_9 (pc' := 10) rfl rfl ?_
        refine r_iload_n X dX5_sureOf_10 (pc' := 11) rfl rfl ?_
        refine r_iload_n X dX5_sureOf_11 (pc' := 12) rfl rfl ?_
        refine r_callSN (As := [_, _]) X okX8_valueIn lm_X5_26 dX5_sureOf_12 (pc' := 15) rfl (ct_X8_valueIn P n _ m s (by omega) (by omega)) rfl rfl (Nat.le_of_ble_eq_true rfl) (by omega) (by omega) (by omega) ?_
        dsimp only [Option.toList, List.cons_append, List.nil_append]
        refine r_aload_n X dX5_sureOf_15 (pc' := 16) rfl rfl ?_
        refine r_get X fX5 lf_X5_23 dX5_sureOf_16 (pc' := 19) rfl (by decide) (by omega) (wC_e4 _ _ _ _ _ _ _ _) rfl ?_
        refine r_iload_n X dX5_sureOf_19 (pc' := 20) rfl rfl ?_
        refine r_iald X dX5_sureOf_20 (pc' := 21) rfl (by omega) (wC_e14 _ _ _ _ _ _ _ _) (by omega) (by omega) ?_
        first | refine rN_imul X dX5_sureOf_21 (pc' := 22) rfl ?_ | refine r_imul X dX5_sureOf_21 (pc' := 22) rfl ?_
        first | refine rN_iadd X dX5_sureOf_22 (pc' := 23) rfl ?_ | refine r_iadd X dX5_sureOf_22 (pc' := 23) rfl ?_
        rw [show sm φ m s + mvN m s * φ 4 s = sm φ m (s + 1) from rfl]
        refine r_istore_n (vs' := [_, _, _, _]) X dX5_sureOf_23 (pc' := 24) rfl (by decide) rfl ?_
        refine r_iincN (vs' := [_, _, _, _]) X dX5_sureOf_24 (pc' := 27) rfl (by decide) rfl rfl ?_
        refine r_goto (tgt := 4) X dX5_sureOf_27 (by decide) ?_
        exact ih (s + 1) (by omega) (by omega)
  refine r_iconst (v := nI 0) X (by decide) dX5_sureOf_0 (pc' := 1) rfl ?_
  refine r_istore_n (vs' := [_, _, _, _]) X dX5_sureOf_1 (pc' := 2) rfl (by decide) rfl ?_
  refine r_iconst (v := nI 0) X (by decide) dX5_sureOf_2 (pc' := 3) rfl ?_
  refine r_istore_n (vs' := [_, _, _, _]) X dX5_sureOf_3 (pc' := 4) rfl (by decide) rfl ?_
  exact loop _ 0 (Nat.lt_succ_self _) (Nat.zero_le _)
set_option maxRecDepth 100000 in
set_option maxHeartbeats 4000000 in
theorem ct_X5_tell (P : Px) (n : Nat) (hn : 59 ≤ n) (h : hw) (ι : Nat → Nat) (φ : Nat → Nat → Nat) (ℓ : Nat → Nat) (lt : Nat → Option Nat) (ρ : Nat → Nat → Option Nat) (ω : Nat → Nat → Nat) (W : Wf ι φ) (wo s x : Nat) (hwo : wo < 10) (hs : s < 3) : Ct P MX5_tell 0 0 0 [.ref (Bs P + 4), .int (nI wo), .int (nI s), .int (nI x), .int (nI (ι 0))] n (wC P h ι φ ℓ lt ρ ω) none n (wC P h ι (up2 (up2 φ 1 (10 * s + wo) x) 2 (10 * s + wo) (ι 0 + 1)) ℓ lt ρ ω) := by
  refine Ct.of (by decide +kernel) (Nat.le_of_ble_eq_true rfl) rfl (fun K X hnm r => ?_)
  have X : Cx K P RX5 cX5_tell 5 0 0 0 := X
  have r : Rt K P none 0 0 _ _ _ := r
  show Z K P _ _ 0 0 0 [some (.ref (Bs P + 4)), some (.int (nI wo)), some (.int (nI s)), some (.int (nI x)), some (.int (nI (ι 0)))] []
  refine r_aload_n X dX5_tell_0 (pc' := 1) rfl rfl ?_
  refine r_get X fX5 lf_X5_11 dX5_tell_1 (pc' := 4) rfl (by decide) (by omega) (wC_e4 _ _ _ _ _ _ _ _) rfl ?_
  refine r_iload_n X dX5_tell_4 (pc' := 5) rfl rfl ?_
  refine r_aald (t := 2) X rfl rfl dX5_tell_5 (pc' := 6) rfl (by omega) (wC_e5 _ _ _ _ _ _ _ _) (by omega) (by omega) ?_
  rw [adr_i hs]
  refine r_iload_n X dX5_tell_6 (pc' := 7) rfl rfl ?_
  refine r_iload_n X dX5_tell_7 (pc' := 8) rfl rfl ?_
  refine r_iast X dX5_tell_8 (pc' := 9) rfl (by omega) (wC_sv_e _ _ _ _ _ _ _ _ hs) (by omega) (by omega) ?_
  rw [wC_sv hs (by omega)]
  refine r_aload_n X dX5_tell_9 (pc' := 10) rfl rfl ?_
  refine r_get X fX5 lf_X5_16 dX5_tell_10 (pc' := 13) rfl (by decide) (by omega) (wC_e4 _ _ _ _ _ _ _ _) rfl ?_
  refine r_iload_n X dX5_tell_13 (pc' := 14) rfl rfl ?_
  refine r_aald (t := 2) X rfl rfl dX5_tell_14 (pc' := 15) rfl (by omega) (wC_e9 _ _ _ _ _ _ _ _) (by omega) (by omega) ?_
  rw [adr_i hs]
  refine r_iload_n X dX5_tell_15 (pc' := 16) rfl rfl ?_
  refine r_iload X dX5_tell_16 (pc' := 18) rfl rfl ?_
  rw [show nI (ι 0) = nI (ι 0 + 1 - 1) from rfl]
  refine r_iast X dX5_tell_18 (pc' := 19) rfl (by omega) (wC_st_e _ _ _ _ _ _ _ _ hs) (by omega) (by omega) ?_
  rw [wC_st hs (by omega)]
  exact r_vret X r dX5_tell_19 (by omega) (by omega) rfl rfl rfl
set_option maxRecDepth 100000 in
set_option maxHeartbeats 4000000 in
theorem ct_X5_regulate (P : Px) (n : Nat) (hn : 59 ≤ n) (h : hw) (ι : Nat → Nat) (φ : Nat → Nat → Nat) (ℓ : Nat → Nat) (lt : Nat → Option Nat) (ρ : Nat → Nat → Option Nat) (ω : Nat → Nat → Nat) (W : Wf ι φ) (s x y : Nat) (hs : s < 3) : Ct P MX5_regulate 0 0 0 [.ref (Bs P + 4), .int (nI s), .int (nI x), .int (nI y)] n (wC P h ι φ ℓ lt ρ ω) none n (wC P h ι (up2 (up2 φ 3 s x) 4 s y) ℓ lt ρ ω) := by
  refine Ct.of (by decide +kernel) (Nat.le_of_ble_eq_true rfl) rfl (fun K X hnm r => ?_)
  have X : Cx K P RX5 cX5_regulate 4 0 0 0 := X
  have r : Rt K P none 0 0 _ _ _ := r
  show Z K P _ _ 0 0 0 [some (.ref (Bs P + 4)), some (.int (nI s)), some (.int (nI x)), some (.int (nI y))] []
  refine r_aload_n X dX5_regulate_0 (pc' := 1) rfl rfl ?_
  refine r_get X fX5 lf_X5_19 dX5_regulate_1 (pc' := 4) rfl (by decide) (by omega) (wC_e4 _ _ _ _ _ _ _ _) rfl ?_
  refine r_iload_n X dX5_regulate_4 (pc' := 5) rfl rfl ?_
  refine r_iload_n X dX5_regulate_5 (pc' := 6) rfl rfl ?_
  refine r_iast X dX5_regulate_6 (pc' := 7) rfl (by omega) (wC_e13 _ _ _ _ _ _ _ _) (by omega) (by omega) ?_
  rw [wC_s13]
  refine r_aload_n X dX5_regulate_7 (pc' := 8) rfl rfl ?_
  refine r_get X fX5 lf_X5_23 dX5_regulate_8 (pc' := 11) rfl (by decide) (by omega) (wC_e4 _ _ _ _ _ _ _ _) rfl ?_
  refine r_iload_n X dX5_regulate_11 (pc' := 12) rfl rfl ?_
  refine r_iload_n X dX5_regulate_12 (pc' := 13) rfl rfl ?_
  refine r_iast X dX5_regulate_13 (pc' := 14) rfl (by omega) (wC_e14 _ _ _ _ _ _ _ _) (by omega) (by omega) ?_
  rw [wC_s14]
  exact r_vret X r dX5_regulate_14 (by omega) (by omega) rfl rfl rfl
set_option maxRecDepth 100000 in
set_option maxHeartbeats 4000000 in
theorem ct_X1_isFull (P : Px) (n : Nat) (hn : 59 ≤ n) (h : hw) (ι : Nat → Nat) (φ : Nat → Nat → Nat) (ℓ : Nat → Nat) (lt : Nat → Option Nat) (ρ : Nat → Nat → Option Nat) (ω : Nat → Nat → Nat) (W : Wf ι φ) (hp : Nat) (hh : hp < 2) : Ct P MX1_isFull 0 0 0 [.ref (Bs P + (16 + 2 * hp))] n (wC P h ι φ ℓ lt ρ ω) (some (.int (bI (cB (φ 7 hp = 12))))) n (wC P h ι φ ℓ lt ρ ω) := by
  refine Ct.of (by decide +kernel) (Nat.le_of_ble_eq_true rfl) rfl (fun K X hnm r => ?_)
  have X : Cx K P RX1 cX1_isFull 1 0 0 0 := X
  have r : Rt K P (some .boolean) 0 0 _ _ _ := r
  show Z K P _ _ 0 0 0 [some (.ref (Bs P + (16 + 2 * hp)))] []
  refine r_aload_n X dX1_isFull_0 (pc' := 1) rfl rfl ?_
  refine r_get X fX1 lf_X1_17 dX1_isFull_1 (pc' := 4) rfl (by decide) (by omega) (wC_hp _ _ _ _ _ _ _ _ hh) rfl ?_
  have b7 := W.v7 hp
  refine r_bipush (v := nI 12) X (by decide) dX1_isFull_4 (pc' := 6) rfl ?_
  refine rN_icmp_lt X dX1_isFull_6 (tgt := 13) (by decide) (pc' := 9) rfl (by omega) (by omega) (fun c_6 => ?_) (fun c_6 => ?_)
  · refine r_iconst (v := nI 0) X (by decide) dX1_isFull_13 (pc' := 14) rfl ?_
    exact r_iret X r dX1_isFull_14 (by omega) (by omega) rfl (by first | exact hcT (by omega) | exact hcF (by omega)) rfl rfl
  · refine r_iconst (v := nI 1) X (by decide) dX1_isFull_9 (pc' := 10) rfl ?_
    refine r_goto (tgt := 14) X dX1_isFull_10 (by decide) ?_
    exact r_iret X r dX1_isFull_14 (by omega) (by omega) rfl (by first | exact hcT (by omega) | exact hcF (by omega)) rfl rfl
set_option maxRecDepth 100000 in
set_option maxHeartbeats 4000000 in
theorem ct_X1_ruleAt_t (P : Px) (n : Nat) (hn : 59 ≤ n) (h : hw) (ι : Nat → Nat) (φ : Nat → Nat → Nat) (ℓ : Nat → Nat) (lt : Nat → Option Nat) (ρ : Nat → Nat → Option Nat) (ω : Nat → Nat → Nat) (W : Wf ι φ) (hp : Nat) (hh : hp < 2) (i k : Nat) (hi : i < φ 7 hp) (hk : ρ hp i = some k) : Ct P MX1_ruleAt 1 0 0 [.ref (Bs P + (16 + 2 * hp)), .int (nI i)] n (wC P h ι φ ℓ lt ρ ω) (some (.ref (Bs P + k))) n (wC P h ι φ ℓ lt ρ ω) := by
  refine Ct.of (by decide +kernel) (Nat.le_of_ble_eq_true rfl) rfl (fun K X hnm r => ?_)
  have X : Cx K P RX1 cX1_ruleAt 2 1 0 0 := X
  have r : Rt K P (some (.object "AskTrust$Rule")) 0 0 _ _ _ := r
  show Z K P _ _ 0 0 0 [some (.ref (Bs P + (16 + 2 * hp))), some (.int (nI i))] []
  have b7 := W.v7 hp
  refine r_iload_n X dX1_ruleAt_0 (pc' := 1) rfl rfl ?_
  refine r_aload_n X dX1_ruleAt_1 (pc' := 2) rfl rfl ?_
  refine r_get X fX1 lf_X1_17 dX1_ruleAt_2 (pc' := 5) rfl (by decide) (by omega) (wC_hp _ _ _ _ _ _ _ _ hh) rfl ?_
  refine r_callSN (As := [_, _]) X okX8_isBelow lm_X1_25 dX1_ruleAt_5 (pc' := 8) rfl (ct_X8_isBelow P n _ _ _) rfl rfl (Nat.le_of_ble_eq_true rfl) (by omega) (by omega) (by omega) ?_
  dsimp only [Option.toList, List.cons_append, List.nil_append]
  refine rB_if_eq X dX1_ruleAt_8 (tgt := 20) (by decide) (pc' := 11) rfl (fun c_8 => ?_) (fun c_8 => ?_)
  · exact absurd c_8 (by rw [inB_n (by omega) (by omega), decide_eq_true hi]; decide)
  · refine r_aload_n X dX1_ruleAt_11 (pc' := 12) rfl rfl ?_
    refine r_get X fX1 lf_X1_11 dX1_ruleAt_12 (pc' := 15) rfl (by decide) (by omega) (wC_hp _ _ _ _ _ _ _ _ hh) rfl ?_
    refine r_iload_n X dX1_ruleAt_15 (pc' := 16) rfl rfl ?_
    refine r_aald (t := 5) X rfl rfl dX1_ruleAt_16 (pc' := 17) rfl (by omega) (wC_rl _ _ _ _ _ _ _ _ hh) (by omega) (by omega) ?_
    rw [adr_s hk]
    refine r_goto (tgt := 21) X dX1_ruleAt_17 (by decide) ?_
    exact r_aret X r dX1_ruleAt_21 (by omega) (by omega) (Or.inr ⟨_, rfl⟩) rfl rfl rfl
set_option maxRecDepth 100000 in
set_option maxHeartbeats 4000000 in
theorem ct_X1_ruleAt_f (P : Px) (n : Nat) (hn : 59 ≤ n) (h : hw) (ι : Nat → Nat) (φ : Nat → Nat → Nat) (ℓ : Nat → Nat) (lt : Nat → Option Nat) (ρ : Nat → Nat → Option Nat) (ω : Nat → Nat → Nat) (W : Wf ι φ) (hp : Nat) (hh : hp < 2) (x : Int32) (hx : inB x (nI (φ 7 hp)) = false) : Ct P MX1_ruleAt 1 0 0 [.ref (Bs P + (16 + 2 * hp)), .int x] n (wC P h ι φ ℓ lt ρ ω) (some .null) n (wC P h ι φ ℓ lt ρ ω) := by
  refine Ct.of (by decide +kernel) (Nat.le_of_ble_eq_true rfl) rfl (fun K X hnm r => ?_)
  have X : Cx K P RX1 cX1_ruleAt 2 1 0 0 := X
  have r : Rt K P (some (.object "AskTrust$Rule")) 0 0 _ _ _ := r
  show Z K P _ _ 0 0 0 [some (.ref (Bs P + (16 + 2 * hp))), some (.int x)] []
  refine r_iload_n X dX1_ruleAt_0 (pc' := 1) rfl rfl ?_
  refine r_aload_n X dX1_ruleAt_1 (pc' := 2) rfl rfl ?_
  refine r_get X fX1 lf_X1_17 dX1_ruleAt_2 (pc' := 5) rfl (by decide) (by omega) (wC_hp _ _ _ _ _ _ _ _ hh) rfl ?_
  refine r_callSN (As := [_, _]) X okX8_isBelow lm_X1_25 dX1_ruleAt_5 (pc' := 8) rfl (ct_X8_isBelow P n _ _ _) rfl rfl (Nat.le_of_ble_eq_true rfl) (by omega) (by omega) (by omega) ?_
  dsimp only [Option.toList, List.cons_append, List.nil_append]
  refine rB_if_eq X dX1_ruleAt_8 (tgt := 20) (by decide) (pc' := 11) rfl (fun c_8 => ?_) (fun c_8 => ?_)
  · refine r_null X dX1_ruleAt_20 (pc' := 21) rfl ?_
    exact r_aret X r dX1_ruleAt_21 (by omega) (by omega) (Or.inl rfl) rfl rfl rfl
  · exact absurd c_8 (by rw [hx]; decide)
set_option maxRecDepth 100000 in
set_option maxHeartbeats 4000000 in
theorem ct_X1_firstFit (P : Px) (n : Nat) (hn : 59 ≤ n) (h : hw) (ι : Nat → Nat) (φ : Nat → Nat → Nat) (ℓ : Nat → Nat) (lt : Nat → Option Nat) (ρ : Nat → Nat → Option Nat) (ω : Nat → Nat → Nat) (W : Wf ι φ) (hp : Nat) (hh : hp < 2) (Rr : RR φ ρ n h) (code : Nat) (hc : code < 81920) : Ct P MX1_firstFit 3 0 0 [.ref (Bs P + (16 + 2 * hp)), .int (nI code), .ref (Bs P + 4)] n (wC P h ι φ ℓ lt ρ ω) (some (.int (oI (decN φ hp code)))) n (wC P h ι φ ℓ lt ρ ω) := by
  refine Ct.of (by decide +kernel) (Nat.le_of_ble_eq_true rfl) rfl (fun K X hnm r => ?_)
  have X : Cx K P RX1 cX1_firstFit 6 3 0 0 := X
  have r : Rt K P (some .int) 0 0 _ _ _ := r
  show Z K P _ _ 0 0 0 [some (.ref (Bs P + (16 + 2 * hp))), some (.int (nI code)), some (.ref (Bs P + 4)), none, none, none] []
  refine r_aload_n X dX1_firstFit_0 (pc' := 1) rfl rfl ?_
  refine r_iload_n X dX1_firstFit_1 (pc' := 2) rfl rfl ?_
  refine r_callSN (As := [_]) X okX8_marksIn lm_X1_29 dX1_firstFit_2 (pc' := 5) rfl (ct_X8_marksIn P n _ code (by omega)) rfl rfl (Nat.le_of_ble_eq_true rfl) (by omega) (by omega) (by omega) ?_
  dsimp only [Option.toList, List.cons_append, List.nil_append]
  refine r_callV (As := [_]) X okX5_sureOf lm_X1_33 dX1_firstFit_5 (pc' := 8) rfl (ct_X5_sureOf P n hn h ι φ ℓ lt ρ ω W _ (by omega)) (by omega) (wC_e4 _ _ _ _ _ _ _ _) rfl rfl rfl rfl (Nat.le_of_ble_eq_true rfl) (by omega) (by omega) (by omega) ?_
  dsimp only [Option.toList, List.cons_append, List.nil_append]
  rw [sm_sure]
  have bs := sureN_le W code
  have b7 := W.v7 hp
  refine r_istore_n (vs' := [_, _, _, _, _, _]) X dX1_firstFit_8 (pc' := 9) rfl (by decide) rfl ?_
  refine r_iconst (v := nI 0) X (by decide) dX1_firstFit_9 (pc' := 10) rfl ?_
  refine r_istore (vs' := [_, _, _, _, _, _]) X dX1_firstFit_10 (pc' := 12) rfl (by decide) rfl ?_
  have loop : ∀ (m_ : Nat) (i : Nat) (o : Option Value), φ 7 hp - i < m_ → (i ≤ φ 7 hp) → (∀ q, q < i → fitsN φ (12 * hp + q) code = false) → Z K P n (wC P h ι φ ℓ lt ρ ω) 0 0 12 [some (.ref (Bs P + (16 + 2 * hp))), some (.int (nI code)), some (.ref (Bs P + 4)), some (.int (nI (sureN φ code))), some (.int (nI i)), o] [] := by
    intro m_
    induction m_ with
    | zero => intro i o hm_; exact absurd hm_ (Nat.not_lt_zero _)
    | succ m_ ih =>
      intro i o hm_ hi hf
      refine r_iload X dX1_firstFit_12 (pc' := 14) rfl rfl ?_
      refine r_aload_n X dX1_firstFit_14 (pc' := 15) rfl rfl ?_
      refine r_get X fX1 lf_X1_17 dX1_firstFit_15 (pc' := 18) rfl (by decide) (by omega) (wC_hp _ _ _ _ _ _ _ _ hh) rfl ?_
      refine rN_icmp_ge X dX1_firstFit_18 (tgt := 54) (by decide) (pc' := 21) rfl (by omega) (by omega) (fun c_18 => ?_) (fun c_18 => ?_)
      · refine r_iconst (v := (-1)) X (by decide) dX1_firstFit_54 (pc' := 55) rfl ?_
        exact r_iret X r dX1_firstFit_55 (by omega) (by omega) rfl (by rw [show decN φ hp code = none from firstN_none (fun q hq => hf q (by omega))]; rfl) rfl rfl
      · obtain ⟨k, hk0, hk1, hk2, hk3, hk4⟩ := Rr hp i hh (by omega)
        refine r_aload_n X dX1_firstFit_21 (pc' := 22) rfl rfl ?_
        refine r_get X fX1 lf_X1_11 dX1_firstFit_22 (pc' := 25) rfl (by decide) (by omega) (wC_hp _ _ _ _ _ _ _ _ hh) rfl ?_
        refine r_iload X dX1_firstFit_25 (pc' := 27) rfl rfl ?_
        refine r_aald (t := 5) X rfl rfl dX1_firstFit_27 (pc' := 28) rfl (by omega) (wC_rl _ _ _ _ _ _ _ _ hh) (by omega) (by omega) ?_
        rw [adr_s hk0]
        refine r_astore (vs' := [_, _, _, _, _, _]) X dX1_firstFit_28 (pc' := 30) rfl (by decide) rfl ?_
        refine r_aload X dX1_firstFit_30 (pc' := 32) rfl rfl ?_
        refine r_ifnull X dX1_firstFit_32 (pc' := 35) rfl ?_
        refine r_aload X dX1_firstFit_35 (pc' := 37) rfl rfl ?_
        refine r_iload_n X dX1_firstFit_37 (pc' := 38) rfl rfl ?_
        refine r_iload_n X dX1_firstFit_38 (pc' := 39) rfl rfl ?_
        refine r_callV (As := [_, _]) X okX6_fits lm_X1_38 dX1_firstFit_39 (pc' := 42) rfl (ct_X6_fits P n _ k _ _ _ hk2 ((wC_out (by omega)).trans hk3) (W.v8 _) (W.v9 _) hk4 code (sureN φ code) hc (by omega)) (by omega) ((wC_out (by omega)).trans hk3) rfl rfl rfl rfl (Nat.le_of_ble_eq_true rfl) (by omega) (by omega) (by omega) ?_
        dsimp only [Option.toList, List.cons_append, List.nil_append]
        rw [show fitN (φ 8 (12 * hp + i)) (φ 9 (12 * hp + i)) (sureN φ code) code = fitsN φ (12 * hp + i) code from rfl]
        refine rB_if_eq X dX1_firstFit_42 (tgt := 48) (by decide) (pc' := 45) rfl (fun c_42 => ?_) (fun c_42 => ?_)
        · refine r_iincN (vs' := [_, _, _, _, _, _]) X dX1_firstFit_48 (pc' := 51) rfl (by decide) rfl rfl ?_
          refine r_goto (tgt := 12) X dX1_firstFit_51 (by decide) ?_
          exact ih (i + 1) _ (by omega) (by omega) (lt_s hf c_42)
        · refine r_iload X dX1_firstFit_45 (pc' := 47) rfl rfl ?_
          exact r_iret X r dX1_firstFit_47 (by omega) (by omega) rfl (by rw [show decN φ hp code = some i from firstN_some (by omega) c_42 hf]; rfl) rfl rfl
  exact loop _ 0 none (Nat.lt_succ_self _) (Nat.zero_le _) (fun q hq => absurd hq (Nat.not_lt_zero _))
set_option maxRecDepth 100000 in
set_option maxHeartbeats 4000000 in
theorem ct_X1_isLet (P : Px) (n : Nat) (hn : 59 ≤ n) (h : hw) (ι : Nat → Nat) (φ : Nat → Nat → Nat) (ℓ : Nat → Nat) (lt : Nat → Option Nat) (ρ : Nat → Nat → Option Nat) (ω : Nat → Nat → Nat) (W : Wf ι φ) (hp : Nat) (hh : hp < 2) (Rr : RR φ ρ n h) (code : Nat) (hc : code < 81920) : Ct P MX1_isLet 4 0 0 [.ref (Bs P + (16 + 2 * hp)), .int (nI code), .ref (Bs P + 4)] n (wC P h ι φ ℓ lt ρ ω) (some (.int (bI (letN φ hp code)))) n (wC P h ι φ ℓ lt ρ ω) := by
  refine Ct.of (by decide +kernel) (Nat.le_of_ble_eq_true rfl) rfl (fun K X hnm r => ?_)
  have X : Cx K P RX1 cX1_isLet 4 4 0 0 := X
  have r : Rt K P (some .boolean) 0 0 _ _ _ := r
  show Z K P _ _ 0 0 0 [some (.ref (Bs P + (16 + 2 * hp))), some (.int (nI code)), some (.ref (Bs P + 4)), none] []
  refine r_aload_n X dX1_isLet_0 (pc' := 1) rfl rfl ?_
  refine r_aload_n X dX1_isLet_1 (pc' := 2) rfl rfl ?_
  refine r_iload_n X dX1_isLet_2 (pc' := 3) rfl rfl ?_
  refine r_aload_n X dX1_isLet_3 (pc' := 4) rfl rfl ?_
  refine r_callV (As := [_, _]) X okX1_firstFit lm_X1_41 dX1_isLet_4 (pc' := 7) rfl (ct_X1_firstFit P n hn h ι φ ℓ lt ρ ω W hp hh Rr code hc) (by omega) (wC_hp _ _ _ _ _ _ _ _ hh) rfl rfl rfl rfl (Nat.le_of_ble_eq_true rfl) (by omega) (by omega) (by omega) ?_
  dsimp only [Option.toList, List.cons_append, List.nil_append]
  cases hd_ : decN φ hp code with
  | none =>
    refine r_callV (As := [_]) X okX1_ruleAt lm_X1_45 dX1_isLet_7 (pc' := 10) rfl (ct_X1_ruleAt_f P n hn h ι φ ℓ lt ρ ω W hp hh (-1) (by simp [inB])) (by omega) (wC_hp _ _ _ _ _ _ _ _ hh) rfl rfl rfl rfl (Nat.le_of_ble_eq_true rfl) (by omega) (by omega) (by omega) ?_
    dsimp only [Option.toList, List.cons_append, List.nil_append]
    refine r_astore_nN (vs' := [_, _, _, _]) X dX1_isLet_10 (pc' := 11) rfl (by decide) rfl ?_
    refine r_aload_nN X dX1_isLet_11 (pc' := 12) rfl rfl ?_
    refine r_ifnullN X dX1_isLet_12 (tgt := 26) (by decide) ?_
    refine r_iconst (v := nI 0) X (by decide) dX1_isLet_26 (pc' := 27) rfl ?_
    exact r_iret X r dX1_isLet_27 (by omega) (by omega) rfl (hvF (by unfold letN; rw [hd_])) rfl rfl
  | some i =>
    have hi := decN_some (ι := ι) hd_
    have b10 := W.v10 (12 * hp + i)
    obtain ⟨k, hk0, hk1, hk2, hk3, hk4⟩ := Rr hp i hh hi
    refine r_callV (As := [_]) X okX1_ruleAt lm_X1_45 dX1_isLet_7 (pc' := 10) rfl (ct_X1_ruleAt_t P n hn h ι φ ℓ lt ρ ω W hp hh i k hi hk0) (by omega) (wC_hp _ _ _ _ _ _ _ _ hh) rfl rfl rfl rfl (Nat.le_of_ble_eq_true rfl) (by omega) (by omega) (by omega) ?_
    dsimp only [Option.toList, List.cons_append, List.nil_append]
    refine r_astore_n (vs' := [_, _, _, _]) X dX1_isLet_10 (pc' := 11) rfl (by decide) rfl ?_
    refine r_aload_n X dX1_isLet_11 (pc' := 12) rfl rfl ?_
    refine r_ifnull X dX1_isLet_12 (pc' := 15) rfl ?_
    refine r_aload_n X dX1_isLet_15 (pc' := 16) rfl rfl ?_
    refine r_getN X fX6 lf_X1_49 dX1_isLet_16 (pc' := 19) rfl (by decide) (by omega) ((wC_out (by omega)).trans hk3) rfl ?_
    refine rN_if_ne X dX1_isLet_19 (tgt := 26) (by decide) (pc' := 22) rfl (by omega) (fun c => ?_) (fun c => ?_)
    · refine r_iconst (v := nI 0) X (by decide) dX1_isLet_26 (pc' := 27) rfl ?_
      exact r_iret X r dX1_isLet_27 (by omega) (by omega) rfl (hvF (by unfold letN; rw [hd_]; simp [c])) rfl rfl
    · refine r_iconst (v := nI 1) X (by decide) dX1_isLet_22 (pc' := 23) rfl ?_
      refine r_goto (tgt := 27) X dX1_isLet_23 (by decide) ?_
      exact r_iret X r dX1_isLet_27 (by omega) (by omega) rfl (hvT (by unfold letN; rw [hd_]; simp [c])) rfl rfl
set_option maxRecDepth 100000 in
set_option maxHeartbeats 4000000 in
theorem ct_X1_append (P : Px) (n : Nat) (hn : 59 ≤ n) (h : hw) (ι : Nat → Nat) (φ : Nat → Nat → Nat) (ℓ : Nat → Nat) (lt : Nat → Option Nat) (ρ : Nat → Nat → Option Nat) (ω : Nat → Nat → Nat) (W : Wf ι φ) (hp : Nat) (hh : hp < 2) (k a b s : Nat) (hk : k < n) (hk2 : 37 ≤ k) (he : h k = rcell a b s) (hsz : φ 7 hp < 12) : Ct P MX1_append 1 0 0 [.ref (Bs P + (16 + 2 * hp)), .ref (Bs P + k)] n (wC P h ι φ ℓ lt ρ ω) none n (wC P h ι (up2 φ 7 hp (φ 7 hp + 1)) ℓ lt (upr ρ hp (φ 7 hp) (some k)) ω) := by
  refine Ct.of (by decide +kernel) (Nat.le_of_ble_eq_true rfl) rfl (fun K X hnm r => ?_)
  have X : Cx K P RX1 cX1_append 2 1 0 0 := X
  have r : Rt K P none 0 0 _ _ _ := r
  show Z K P _ _ 0 0 0 [some (.ref (Bs P + (16 + 2 * hp))), some (.ref (Bs P + k))] []
  refine r_aload_n X dX1_append_0 (pc' := 1) rfl rfl ?_
  refine r_callV (As := []) X okX1_isFull lm_X1_21 dX1_append_1 (pc' := 4) rfl (ct_X1_isFull P n hn h ι φ ℓ lt ρ ω W hp hh) (by omega) (wC_hp _ _ _ _ _ _ _ _ hh) rfl rfl rfl rfl (Nat.le_of_ble_eq_true rfl) (by omega) (by omega) (by omega) ?_
  dsimp only [Option.toList, List.cons_append, List.nil_append]
  refine rB_if_ne X dX1_append_4 (tgt := 27) (by decide) (pc' := 7) rfl (fun c_4 => ?_) (fun c_4 => ?_)
  · exact absurd (cB_of c_4) (by omega)
  · refine r_aload_n X dX1_append_7 (pc' := 8) rfl rfl ?_
    refine r_get X fX1 lf_X1_11 dX1_append_8 (pc' := 11) rfl (by decide) (by omega) (wC_hp _ _ _ _ _ _ _ _ hh) rfl ?_
    refine r_aload_n X dX1_append_11 (pc' := 12) rfl rfl ?_
    refine r_get X fX1 lf_X1_17 dX1_append_12 (pc' := 15) rfl (by decide) (by omega) (wC_hp _ _ _ _ _ _ _ _ hh) rfl ?_
    refine r_aload_n X dX1_append_15 (pc' := 16) rfl rfl ?_
    refine r_aast (t := 5) X rfl dX1_append_16 (pc' := 17) rfl (by omega) (wC_rl _ _ _ _ _ _ _ _ hh) (by omega) ((wC_out hk2).trans he) rfl (by omega) (by omega) ?_
    first | rw [wC_srs hh] | rw [wC_srn hh]
    refine r_aload_n X dX1_append_17 (pc' := 18) rfl rfl ?_
    refine r_dup X rfl dX1_append_18 (pc' := 19) rfl ?_
    refine r_get X fX1 lf_X1_17 dX1_append_19 (pc' := 22) rfl (by decide) (by omega) (wC_hp _ _ _ _ _ _ _ _ hh) rfl ?_
    refine r_iconst (v := nI 1) X (by decide) dX1_append_22 (pc' := 23) rfl ?_
    first | refine rN_iadd X dX1_append_23 (pc' := 24) rfl ?_ | refine r_iadd X dX1_append_23 (pc' := 24) rfl ?_
    refine r_put X fX1 lf_X1_17 rfl dX1_append_24 (pc' := 27) rfl (by decide) (by omega) (wC_hp _ _ _ _ _ _ _ _ hh) (Nat.le_of_ble_eq_true rfl) rfl rfl ?_
    rw [wC_hsz hh]
    exact r_vret X r dX1_append_27 (by omega) (by omega) rfl rfl rfl
set_option maxRecDepth 100000 in
set_option maxHeartbeats 4000000 in
theorem ct_X1_drop_t (P : Px) (n : Nat) (hn : 59 ≤ n) (h : hw) (ι : Nat → Nat) (φ : Nat → Nat → Nat) (ℓ : Nat → Nat) (lt : Nat → Option Nat) (ρ : Nat → Nat → Option Nat) (ω : Nat → Nat → Nat) (W : Wf ι φ) (hp : Nat) (hh : hp < 2) (Rr : RR φ ρ n h) (r0 : Nat) (hr0 : r0 < φ 7 hp) : Ct P MX1_drop 1 0 0 [.ref (Bs P + (16 + 2 * hp)), .int (nI r0)] n (wC P h ι φ ℓ lt ρ ω) (some (.int (bI (inB (nI r0) (nI (φ 7 hp)))))) n (wC P h ι (up2 φ 7 hp (φ 7 hp - 1)) ℓ lt (upr (dsh ρ hp r0 (φ 7 hp - 1)) hp (φ 7 hp - 1) none) ω) := by
  refine Ct.of (by decide +kernel) (Nat.le_of_ble_eq_true rfl) rfl (fun K X hnm r => ?_)
  have X : Cx K P RX1 cX1_drop 3 1 0 0 := X
  have r : Rt K P (some .boolean) 0 0 _ _ _ := r
  show Z K P _ _ 0 0 0 [some (.ref (Bs P + (16 + 2 * hp))), some (.int (nI r0)), none] []
  have b7 := W.v7 hp
  have hin : inB (nI r0) (nI (φ 7 hp)) = true := by rw [inB_n (by omega) (by omega)]; exact decide_eq_true hr0
  refine r_iload_n X dX1_drop_0 (pc' := 1) rfl rfl ?_
  refine r_aload_n X dX1_drop_1 (pc' := 2) rfl rfl ?_
  refine r_get X fX1 lf_X1_17 dX1_drop_2 (pc' := 5) rfl (by decide) (by omega) (wC_hp _ _ _ _ _ _ _ _ hh) rfl ?_
  refine r_callSN (As := [_, _]) X okX8_isBelow lm_X1_25 dX1_drop_5 (pc' := 8) rfl (ct_X8_isBelow P n _ _ _) rfl rfl (Nat.le_of_ble_eq_true rfl) (by omega) (by omega) (by omega) ?_
  dsimp only [Option.toList, List.cons_append, List.nil_append]
  refine rB_if_ne X dX1_drop_8 (tgt := 13) (by decide) (pc' := 11) rfl (fun c_8 => ?_) (fun c_8 => ?_)
  · refine r_aload_n X dX1_drop_13 (pc' := 14) rfl rfl ?_
    refine r_dup X rfl dX1_drop_14 (pc' := 15) rfl ?_
    refine r_get X fX1 lf_X1_17 dX1_drop_15 (pc' := 18) rfl (by decide) (by omega) (wC_hp _ _ _ _ _ _ _ _ hh) rfl ?_
    refine r_iconst (v := nI 1) X (by decide) dX1_drop_18 (pc' := 19) rfl ?_
    first | refine rN_isub X dX1_drop_19 (pc' := 20) rfl (by omega) ?_ | refine r_isub X dX1_drop_19 (pc' := 20) rfl ?_
    refine r_put X fX1 lf_X1_17 rfl dX1_drop_20 (pc' := 23) rfl (by decide) (by omega) (wC_hp _ _ _ _ _ _ _ _ hh) (Nat.le_of_ble_eq_true rfl) rfl rfl ?_
    rw [wC_hsz hh]
    refine r_iload_n X dX1_drop_23 (pc' := 24) rfl rfl ?_
    refine r_istore_n (vs' := [_, _, _]) X dX1_drop_24 (pc' := 25) rfl (by decide) rfl ?_
    have loop : ∀ (m_ : Nat) (i : Nat), φ 7 hp - i < m_ → (r0 ≤ i) → (i ≤ φ 7 hp - 1) → Z K P n (wC P h ι (up2 φ 7 hp (φ 7 hp - 1)) ℓ lt (dsh ρ hp r0 i) ω) 0 0 25 [some (.ref (Bs P + (16 + 2 * hp))), some (.int (nI r0)), some (.int (nI i))] [] := by
      intro m_
      induction m_ with
      | zero => intro i hm_; exact absurd hm_ (Nat.not_lt_zero _)
      | succ m_ ih =>
        intro i hm_ hi1 hi2
        refine r_iload_n X dX1_drop_25 (pc' := 26) rfl rfl ?_
        refine r_aload_n X dX1_drop_26 (pc' := 27) rfl rfl ?_
        refine r_get X fX1 lf_X1_17 dX1_drop_27 (pc' := 30) rfl (by decide) (by omega) (wC_hp _ _ _ _ _ _ _ _ hh) rfl ?_
        rw [up2_s]
        refine rN_icmp_ge X dX1_drop_30 (tgt := 53) (by decide) (pc' := 33) rfl (by omega) (by omega) (fun c_30 => ?_) (fun c_30 => ?_)
        · refine r_aload_n X dX1_drop_53 (pc' := 54) rfl rfl ?_
          refine r_get X fX1 lf_X1_11 dX1_drop_54 (pc' := 57) rfl (by decide) (by omega) (wC_hp _ _ _ _ _ _ _ _ hh) rfl ?_
          refine r_aload_n X dX1_drop_57 (pc' := 58) rfl rfl ?_
          refine r_get X fX1 lf_X1_17 dX1_drop_58 (pc' := 61) rfl (by decide) (by omega) (wC_hp _ _ _ _ _ _ _ _ hh) rfl ?_
          rw [up2_s]
          refine r_null X dX1_drop_61 (pc' := 62) rfl ?_
          refine r_aastN (t := 5) X rfl dX1_drop_62 (pc' := 63) rfl (by omega) (wC_rl _ _ _ _ _ _ _ _ hh) (by omega) (by omega) ?_
          first | rw [wC_srs hh] | rw [wC_srn hh]
          refine r_iconst (v := nI 1) X (by decide) dX1_drop_63 (pc' := 64) rfl ?_
          exact r_iret X r dX1_drop_64 (by omega) (by omega) rfl (hvT hin) rfl (by rw [show i = φ 7 hp - 1 by omega])
        · obtain ⟨k, hk0, hk1, hk2, hk3, hk4⟩ := Rr hp (i + 1) hh (by omega)
          refine r_aload_n X dX1_drop_33 (pc' := 34) rfl rfl ?_
          refine r_get X fX1 lf_X1_11 dX1_drop_34 (pc' := 37) rfl (by decide) (by omega) (wC_hp _ _ _ _ _ _ _ _ hh) rfl ?_
          refine r_iload_n X dX1_drop_37 (pc' := 38) rfl rfl ?_
          refine r_aload_n X dX1_drop_38 (pc' := 39) rfl rfl ?_
          refine r_get X fX1 lf_X1_11 dX1_drop_39 (pc' := 42) rfl (by decide) (by omega) (wC_hp _ _ _ _ _ _ _ _ hh) rfl ?_
          refine r_iload_n X dX1_drop_42 (pc' := 43) rfl rfl ?_
          refine r_iconst (v := nI 1) X (by decide) dX1_drop_43 (pc' := 44) rfl ?_
          first | refine rN_iadd X dX1_drop_44 (pc' := 45) rfl ?_ | refine r_iadd X dX1_drop_44 (pc' := 45) rfl ?_
          refine r_aald (t := 5) X rfl rfl dX1_drop_45 (pc' := 46) rfl (by omega) (wC_rl _ _ _ _ _ _ _ _ hh) (by omega) (by omega) ?_
          rw [dsh_r (by omega), adr_s hk0]
          refine r_aast (t := 5) X rfl dX1_drop_46 (pc' := 47) rfl (by omega) (wC_rl _ _ _ _ _ _ _ _ hh) (by omega) ((wC_out (by omega)).trans hk3) rfl (by omega) (by omega) ?_
          first | rw [wC_srs hh] | rw [wC_srn hh]
          rw [← hk0, dsh_s (by omega)]
          refine r_iincN (vs' := [_, _, _]) X dX1_drop_47 (pc' := 50) rfl (by decide) rfl rfl ?_
          refine r_goto (tgt := 25) X dX1_drop_50 (by decide) ?_
          exact ih (i + 1) (by omega) (by omega) (by omega)
    have l0 := loop _ r0 (Nat.lt_succ_self _) (Nat.le_refl _) (by omega)
    rw [dsh_0] at l0
    exact l0
  · exact absurd c_8 (by rw [hin]; decide)
set_option maxRecDepth 100000 in
set_option maxHeartbeats 4000000 in
theorem ct_X1_drop_f (P : Px) (n : Nat) (hn : 59 ≤ n) (h : hw) (ι : Nat → Nat) (φ : Nat → Nat → Nat) (ℓ : Nat → Nat) (lt : Nat → Option Nat) (ρ : Nat → Nat → Option Nat) (ω : Nat → Nat → Nat) (W : Wf ι φ) (hp : Nat) (hh : hp < 2) (x : Int32) (hx : inB x (nI (φ 7 hp)) = false) : Ct P MX1_drop 1 0 0 [.ref (Bs P + (16 + 2 * hp)), .int x] n (wC P h ι φ ℓ lt ρ ω) (some (.int (bI false))) n (wC P h ι φ ℓ lt ρ ω) := by
  refine Ct.of (by decide +kernel) (Nat.le_of_ble_eq_true rfl) rfl (fun K X hnm r => ?_)
  have X : Cx K P RX1 cX1_drop 3 1 0 0 := X
  have r : Rt K P (some .boolean) 0 0 _ _ _ := r
  show Z K P _ _ 0 0 0 [some (.ref (Bs P + (16 + 2 * hp))), some (.int x), none] []
  refine r_iload_n X dX1_drop_0 (pc' := 1) rfl rfl ?_
  refine r_aload_n X dX1_drop_1 (pc' := 2) rfl rfl ?_
  refine r_get X fX1 lf_X1_17 dX1_drop_2 (pc' := 5) rfl (by decide) (by omega) (wC_hp _ _ _ _ _ _ _ _ hh) rfl ?_
  refine r_callSN (As := [_, _]) X okX8_isBelow lm_X1_25 dX1_drop_5 (pc' := 8) rfl (ct_X8_isBelow P n _ _ _) rfl rfl (Nat.le_of_ble_eq_true rfl) (by omega) (by omega) (by omega) ?_
  dsimp only [Option.toList, List.cons_append, List.nil_append]
  refine rB_if_ne X dX1_drop_8 (tgt := 13) (by decide) (pc' := 11) rfl (fun c_8 => ?_) (fun c_8 => ?_)
  · exact absurd c_8 (by rw [hx]; decide)
  · refine r_iconst (v := nI 0) X (by decide) dX1_drop_11 (pc' := 12) rfl ?_
    exact r_iret X r dX1_drop_12 (by omega) (by omega) rfl rfl rfl rfl
set_option maxRecDepth 100000 in
set_option maxHeartbeats 4000000 in
theorem ct_X0_isFull (P : Px) (n : Nat) (hn : 59 ≤ n) (h : hw) (ι : Nat → Nat) (φ : Nat → Nat → Nat) (ℓ : Nat → Nat) (lt : Nat → Option Nat) (ρ : Nat → Nat → Option Nat) (ω : Nat → Nat → Nat) (W : Wf ι φ)  : Ct P MX0_isFull 0 0 0 [.ref (Bs P + 25)] n (wC P h ι φ ℓ lt ρ ω) (some (.int (bI (cB (ι 2 = 300))))) n (wC P h ι φ ℓ lt ρ ω) := by
  refine Ct.of (by decide +kernel) (Nat.le_of_ble_eq_true rfl) rfl (fun K X hnm r => ?_)
  have X : Cx K P RX0 cX0_isFull 1 0 0 0 := X
  have r : Rt K P (some .boolean) 0 0 _ _ _ := r
  show Z K P _ _ 0 0 0 [some (.ref (Bs P + 25))] []
  refine r_aload_n X dX0_isFull_0 (pc' := 1) rfl rfl ?_
  refine r_get X fX0 lf_X0_16 dX0_isFull_1 (pc' := 4) rfl (by decide) (by omega) (wC_e25 _ _ _ _ _ _ _ _) rfl ?_
  have ba := W.asks
  refine r_sipush (v := nI 300) X (by decide) dX0_isFull_4 (pc' := 7) rfl ?_
  refine rN_icmp_lt X dX0_isFull_7 (tgt := 14) (by decide) (pc' := 10) rfl (by omega) (by omega) (fun c_7 => ?_) (fun c_7 => ?_)
  · refine r_iconst (v := nI 0) X (by decide) dX0_isFull_14 (pc' := 15) rfl ?_
    exact r_iret X r dX0_isFull_15 (by omega) (by omega) rfl (by first | exact hcT (by omega) | exact hcF (by omega)) rfl rfl
  · refine r_iconst (v := nI 1) X (by decide) dX0_isFull_10 (pc' := 11) rfl ?_
    refine r_goto (tgt := 15) X dX0_isFull_11 (by decide) ?_
    exact r_iret X r dX0_isFull_15 (by omega) (by omega) rfl (by first | exact hcT (by omega) | exact hcF (by omega)) rfl rfl
set_option maxRecDepth 100000 in
set_option maxHeartbeats 4000000 in
theorem ct_X0_write (P : Px) (n : Nat) (hn : 59 ≤ n) (h : hw) (ι : Nat → Nat) (φ : Nat → Nat → Nat) (ℓ : Nat → Nat) (lt : Nat → Option Nat) (ρ : Nat → Nat → Option Nat) (ω : Nat → Nat → Nat) (W : Wf ι φ) (who ans f : Nat) (h300 : ι 2 < 300) (han : ans ≤ 2) : Ct P MX0_write 1 0 0 [.ref (Bs P + 25), .int (nI (ι 0)), .int (nI who), .int (nI (factN ι φ who)), .int (nI ans), .int (mi f)] n (wC P h ι φ ℓ lt ρ ω) none n (wC P h (logI ι ans) (logS ι φ who ans f) ℓ lt ρ ω) := by
  refine Ct.of (by decide +kernel) (Nat.le_of_ble_eq_true rfl) rfl (fun K X hnm r => ?_)
  have X : Cx K P RX0 cX0_write 6 1 0 0 := X
  have r : Rt K P none 0 0 _ _ _ := r
  show Z K P _ _ 0 0 0 [some (.ref (Bs P + 25)), some (.int (nI (ι 0))), some (.int (nI who)), some (.int (nI (factN ι φ who))), some (.int (nI ans)), some (.int (mi f))] []
  refine r_aload_n X dX0_write_0 (pc' := 1) rfl rfl ?_
  refine r_callV (As := []) X okX0_isFull lm_X0_20 dX0_write_1 (pc' := 4) rfl (ct_X0_isFull P n hn h ι φ ℓ lt ρ ω W) (by omega) (wC_e25 _ _ _ _ _ _ _ _) rfl rfl rfl rfl (Nat.le_of_ble_eq_true rfl) (by omega) (by omega) (by omega) ?_
  dsimp only [Option.toList, List.cons_append, List.nil_append]
  refine rB_if_eq X dX0_write_4 (tgt := 8) (by decide) (pc' := 7) rfl (fun c_4 => ?_) (fun c_4 => ?_)
  · refine r_aload_n X dX0_write_8 (pc' := 9) rfl rfl ?_
    refine r_get X fX0 lf_X0_13 dX0_write_9 (pc' := 12) rfl (by decide) (by omega) (wC_e25 _ _ _ _ _ _ _ _) rfl ?_
    refine r_iconst (v := nI 0) X (by decide) dX0_write_12 (pc' := 13) rfl ?_
    refine r_aald (t := 2) X rfl rfl dX0_write_13 (pc' := 14) rfl (by omega) (wC_e26 _ _ _ _ _ _ _ _) (by omega) (by omega) ?_
    rw [show va_rf (if 0 < 5 then some (Bs P + 27 + 0) else none) = .ref (Bs P + 27) from rfl]
    refine r_aload_n X dX0_write_14 (pc' := 15) rfl rfl ?_
    refine r_get X fX0 lf_X0_16 dX0_write_15 (pc' := 18) rfl (by decide) (by omega) (wC_e25 _ _ _ _ _ _ _ _) rfl ?_
    refine r_iload_n X dX0_write_18 (pc' := 19) rfl rfl ?_
    refine r_iast X dX0_write_19 (pc' := 20) rfl (by omega) (wC_e27 _ _ _ _ _ _ _ _) (by omega) (by omega) ?_
    rw [wC_s27]
    refine r_aload_n X dX0_write_20 (pc' := 21) rfl rfl ?_
    refine r_get X fX0 lf_X0_13 dX0_write_21 (pc' := 24) rfl (by decide) (by omega) (wC_e25 _ _ _ _ _ _ _ _) rfl ?_
    refine r_iconst (v := nI 1) X (by decide) dX0_write_24 (pc' := 25) rfl ?_
    refine r_aald (t := 2) X rfl rfl dX0_write_25 (pc' := 26) rfl (by omega) (wC_e26 _ _ _ _ _ _ _ _) (by omega) (by omega) ?_
    rw [show va_rf (if 1 < 5 then some (Bs P + 27 + 1) else none) = .ref (Bs P + 28) from rfl]
    refine r_aload_n X dX0_write_26 (pc' := 27) rfl rfl ?_
    refine r_get X fX0 lf_X0_16 dX0_write_27 (pc' := 30) rfl (by decide) (by omega) (wC_e25 _ _ _ _ _ _ _ _) rfl ?_
    refine r_iload_n X dX0_write_30 (pc' := 31) rfl rfl ?_
    refine r_iast X dX0_write_31 (pc' := 32) rfl (by omega) (wC_e28 _ _ _ _ _ _ _ _) (by omega) (by omega) ?_
    rw [wC_s28]
    refine r_aload_n X dX0_write_32 (pc' := 33) rfl rfl ?_
    refine r_get X fX0 lf_X0_13 dX0_write_33 (pc' := 36) rfl (by decide) (by omega) (wC_e25 _ _ _ _ _ _ _ _) rfl ?_
    refine r_iconst (v := nI 2) X (by decide) dX0_write_36 (pc' := 37) rfl ?_
    refine r_aald (t := 2) X rfl rfl dX0_write_37 (pc' := 38) rfl (by omega) (wC_e26 _ _ _ _ _ _ _ _) (by omega) (by omega) ?_
    rw [show va_rf (if 2 < 5 then some (Bs P + 27 + 2) else none) = .ref (Bs P + 29) from rfl]
    refine r_aload_n X dX0_write_38 (pc' := 39) rfl rfl ?_
    refine r_get X fX0 lf_X0_16 dX0_write_39 (pc' := 42) rfl (by decide) (by omega) (wC_e25 _ _ _ _ _ _ _ _) rfl ?_
    refine r_iload_n X dX0_write_42 (pc' := 43) rfl rfl ?_
    refine r_iast X dX0_write_43 (pc' := 44) rfl (by omega) (wC_e29 _ _ _ _ _ _ _ _) (by omega) (by omega) ?_
    rw [wC_s29]
    refine r_aload_n X dX0_write_44 (pc' := 45) rfl rfl ?_
    refine r_get X fX0 lf_X0_13 dX0_write_45 (pc' := 48) rfl (by decide) (by omega) (wC_e25 _ _ _ _ _ _ _ _) rfl ?_
    refine r_iconst (v := nI 3) X (by decide) dX0_write_48 (pc' := 49) rfl ?_
    refine r_aald (t := 2) X rfl rfl dX0_write_49 (pc' := 50) rfl (by omega) (wC_e26 _ _ _ _ _ _ _ _) (by omega) (by omega) ?_
    rw [show va_rf (if 3 < 5 then some (Bs P + 27 + 3) else none) = .ref (Bs P + 30) from rfl]
    refine r_aload_n X dX0_write_50 (pc' := 51) rfl rfl ?_
    refine r_get X fX0 lf_X0_16 dX0_write_51 (pc' := 54) rfl (by decide) (by omega) (wC_e25 _ _ _ _ _ _ _ _) rfl ?_
    refine r_iload X dX0_write_54 (pc' := 56) rfl rfl ?_
    refine r_iast X dX0_write_56 (pc' := 57) rfl (by omega) (wC_e30 _ _ _ _ _ _ _ _) (by omega) (by omega) ?_
    rw [wC_s30]
    refine r_aload_n X dX0_write_57 (pc' := 58) rfl rfl ?_
    refine r_get X fX0 lf_X0_13 dX0_write_58 (pc' := 61) rfl (by decide) (by omega) (wC_e25 _ _ _ _ _ _ _ _) rfl ?_
    refine r_iconst (v := nI 4) X (by decide) dX0_write_61 (pc' := 62) rfl ?_
    refine r_aald (t := 2) X rfl rfl dX0_write_62 (pc' := 63) rfl (by omega) (wC_e26 _ _ _ _ _ _ _ _) (by omega) (by omega) ?_
    rw [show va_rf (if 4 < 5 then some (Bs P + 27 + 4) else none) = .ref (Bs P + 31) from rfl]
    refine r_aload_n X dX0_write_63 (pc' := 64) rfl rfl ?_
    refine r_get X fX0 lf_X0_16 dX0_write_64 (pc' := 67) rfl (by decide) (by omega) (wC_e25 _ _ _ _ _ _ _ _) rfl ?_
    refine r_iload X dX0_write_67 (pc' := 69) rfl rfl ?_
    refine r_iast X dX0_write_69 (pc' := 70) rfl (by omega) (wC_e31 _ _ _ _ _ _ _ _) (by omega) (by omega) ?_
    rw [wC_s31]
    refine r_aload_n X dX0_write_70 (pc' := 71) rfl rfl ?_
    refine r_dup X rfl dX0_write_71 (pc' := 72) rfl ?_
    refine r_get X fX0 lf_X0_16 dX0_write_72 (pc' := 75) rfl (by decide) (by omega) (wC_e25 _ _ _ _ _ _ _ _) rfl ?_
    refine r_iconst (v := nI 1) X (by decide) dX0_write_75 (pc' := 76) rfl ?_
    first | refine rN_iadd X dX0_write_76 (pc' := 77) rfl ?_ | refine r_iadd X dX0_write_76 (pc' := 77) rfl ?_
    refine r_put X fX0 lf_X0_16 rfl dX0_write_77 (pc' := 80) rfl (by decide) (by omega) (wC_e25 _ _ _ _ _ _ _ _) (Nat.le_of_ble_eq_true rfl) rfl rfl ?_
    rw [wC_asks]
    refine r_iload X dX0_write_80 (pc' := 82) rfl rfl ?_
    refine rN_if_ne X dX0_write_82 (tgt := 95) (by decide) (pc' := 85) rfl (by omega) (fun c_82 => ?_) (fun c_82 => ?_)
    · have hI : logI ι ans = up1 ι 2 (ι 2 + 1) := if_neg c_82
      exact r_vret X r dX0_write_95 (by omega) (by omega) rfl rfl (by rw [hI] <;> rfl)
    · have hI : logI ι ans = up1 (up1 ι 2 (ι 2 + 1)) 3 (ι 3 + 1) := if_pos c_82
      refine r_aload_n X dX0_write_85 (pc' := 86) rfl rfl ?_
      refine r_dup X rfl dX0_write_86 (pc' := 87) rfl ?_
      refine r_get X fX0 lf_X0_24 dX0_write_87 (pc' := 90) rfl (by decide) (by omega) (wC_e25 _ _ _ _ _ _ _ _) rfl ?_
      refine r_iconst (v := nI 1) X (by decide) dX0_write_90 (pc' := 91) rfl ?_
      first | refine rN_iadd X dX0_write_91 (pc' := 92) rfl ?_ | refine r_iadd X dX0_write_91 (pc' := 92) rfl ?_
      refine r_put X fX0 lf_X0_24 rfl dX0_write_92 (pc' := 95) rfl (by decide) (by omega) (wC_e25 _ _ _ _ _ _ _ _) (Nat.le_of_ble_eq_true rfl) rfl rfl ?_
      rw [wC_lets]
      exact r_vret X r dX0_write_95 (by omega) (by omega) rfl rfl (by rw [hI] <;> rfl)
  · exact absurd (cB_of c_4) (by omega)
