/-! ===== World: the rows of bits ===== -/
def zr (ω : Nat → Nat → Nat) (c m : Nat) : Nat → Nat → Nat := fun c' i => if c' = c ∧ i < m then 0 else ω c' i
theorem wC_z33 {P : Px} {h : hw} {ι : Nat → Nat} {φ : Nat → Nat → Nat} {ℓ : Nat → Nat} {lt : Nat → Option Nat} {ρ : Nat → Nat → Option Nat} {ω : Nat → Nat → Nat} : hset (wC P h ι φ ℓ lt ρ ω) 33 (.inl (P.2.2.1 0, 16, .inl (fun i => if i < 16 then nI 0 else nI (ω 0 i)))) = wC P h ι φ ℓ lt ρ (zr ω 0 16) := wC_set (by decide) (by show (.inl (P.2.2.1 0, 16, .inl _) : va_E) = _; congr 4; funext i; by_cases hi : i < 16 <;> simp [hi, zr]) (lt37 (fun _ => rfl) (fun _ => rfl) (fun _ => rfl) (fun _ => rfl) (fun _ => rfl) (fun _ => rfl) (fun _ => rfl) (fun _ => rfl) (fun _ => rfl) (fun _ => rfl) (fun _ => rfl) (fun _ => rfl) (fun _ => rfl) (fun _ => rfl) (fun _ => rfl) (fun _ => rfl) (fun _ => rfl) (fun _ => rfl) (fun _ => rfl) (fun _ => rfl) (fun _ => rfl) (fun _ => rfl) (fun _ => rfl) (fun _ => rfl) (fun _ => rfl) (fun _ => rfl) (fun _ => rfl) (fun _ => rfl) (fun _ => rfl) (fun _ => rfl) (fun _ => rfl) (fun _ => rfl) (fun _ => rfl) (fun q => absurd rfl q) (fun _ => rfl) (fun _ => rfl) (fun _ => rfl))
theorem wC_z34 {P : Px} {h : hw} {ι : Nat → Nat} {φ : Nat → Nat → Nat} {ℓ : Nat → Nat} {lt : Nat → Option Nat} {ρ : Nat → Nat → Option Nat} {ω : Nat → Nat → Nat} : hset (wC P h ι φ ℓ lt ρ ω) 34 (.inl (P.2.2.1 0, 64, .inl (fun i => if i < 64 then nI 0 else nI (ω 1 i)))) = wC P h ι φ ℓ lt ρ (zr ω 1 64) := wC_set (by decide) (by show (.inl (P.2.2.1 0, 64, .inl _) : va_E) = _; congr 4; funext i; by_cases hi : i < 64 <;> simp [hi, zr]) (lt37 (fun _ => rfl) (fun _ => rfl) (fun _ => rfl) (fun _ => rfl) (fun _ => rfl) (fun _ => rfl) (fun _ => rfl) (fun _ => rfl) (fun _ => rfl) (fun _ => rfl) (fun _ => rfl) (fun _ => rfl) (fun _ => rfl) (fun _ => rfl) (fun _ => rfl) (fun _ => rfl) (fun _ => rfl) (fun _ => rfl) (fun _ => rfl) (fun _ => rfl) (fun _ => rfl) (fun _ => rfl) (fun _ => rfl) (fun _ => rfl) (fun _ => rfl) (fun _ => rfl) (fun _ => rfl) (fun _ => rfl) (fun _ => rfl) (fun _ => rfl) (fun _ => rfl) (fun _ => rfl) (fun _ => rfl) (fun _ => rfl) (fun q => absurd rfl q) (fun _ => rfl) (fun _ => rfl))
theorem wC_z35 {P : Px} {h : hw} {ι : Nat → Nat} {φ : Nat → Nat → Nat} {ℓ : Nat → Nat} {lt : Nat → Option Nat} {ρ : Nat → Nat → Option Nat} {ω : Nat → Nat → Nat} : hset (wC P h ι φ ℓ lt ρ ω) 35 (.inl (P.2.2.1 0, 80, .inl (fun i => if i < 80 then nI 0 else nI (ω 2 i)))) = wC P h ι φ ℓ lt ρ (zr ω 2 80) := wC_set (by decide) (by show (.inl (P.2.2.1 0, 80, .inl _) : va_E) = _; congr 4; funext i; by_cases hi : i < 80 <;> simp [hi, zr]) (lt37 (fun _ => rfl) (fun _ => rfl) (fun _ => rfl) (fun _ => rfl) (fun _ => rfl) (fun _ => rfl) (fun _ => rfl) (fun _ => rfl) (fun _ => rfl) (fun _ => rfl) (fun _ => rfl) (fun _ => rfl) (fun _ => rfl) (fun _ => rfl) (fun _ => rfl) (fun _ => rfl) (fun _ => rfl) (fun _ => rfl) (fun _ => rfl) (fun _ => rfl) (fun _ => rfl) (fun _ => rfl) (fun _ => rfl) (fun _ => rfl) (fun _ => rfl) (fun _ => rfl) (fun _ => rfl) (fun _ => rfl) (fun _ => rfl) (fun _ => rfl) (fun _ => rfl) (fun _ => rfl) (fun _ => rfl) (fun _ => rfl) (fun _ => rfl) (fun q => absurd rfl q) (fun _ => rfl))
theorem fill_s {f : Nat → Int32} {x : Int32} {i : Nat} : upd (fun q => if q < i then x else f q) i x = fun q => if q < i + 1 then x else f q := by
  funext q
  unfold upd
  by_cases h1 : q = i
  · subst h1; rw [if_pos rfl, if_pos (by omega)]
  · rw [if_neg h1]
    by_cases h2 : q < i
    · show (if q < i then x else f q) = _; rw [if_pos h2, if_pos (by omega)]
    · show (if q < i then x else f q) = _; rw [if_neg h2, if_neg (by omega)]
theorem fill_0 {f : Nat → Int32} {x : Int32} : (fun q => if q < 0 then x else f q) = f := by funext q; rw [if_neg (by omega)]
set_option maxRecDepth 100000 in
set_option maxHeartbeats 1000000 in
theorem ct_J7_fill_53178 (P : Px) (n : Nat) (h : hw) (k N : Nat) (f : Nat → Int32) (x : Int32) (hk : k < n) (he : h k = .inl (P.2.2.1 0, N, .inl f)) (hN : N < 2 ^ 31) : Ct P MJ7_fill_53178 0 0 0 [.ref (Bs P + k), .int x] n h none n (hset h k (.inl (P.2.2.1 0, N, .inl (fun q => if q < N then x else f q)))) := by
  refine Ct.ofF (by decide +kernel) (Nat.le_of_ble_eq_true rfl) rfl (fun K X hnm r => ?_)
  have X : Cx K P RJ7 cJ7_fill_53178 4 0 0 0 := X
  have r : Rt K P none 0 0 _ _ _ := r
  show Z K P _ _ 0 0 0 [some (.ref (Bs P + k)), some (.int x), none, none] []
  have loop : ∀ (m_ : Nat) (i : Nat), N - i < m_ → (i ≤ N) → Z K P n (hset h k (.inl (P.2.2.1 0, N, .inl (fun q => if q < i then x else f q)))) 0 0 5 [some (.ref (Bs P + k)), some (.int x), some (.int (nI i)), some (.int (nI N))] [] := by
    intro m_
    induction m_ with
    | zero => intro i hm_; exact absurd hm_ (Nat.not_lt_zero _)
    | succ m_ ih =>
      intro i hm_ hi
      refine r_iload_n X dJ7_fill_53178_5 (pc' := 6) rfl rfl ?_
      refine r_iload_n X dJ7_fill_53178_6 (pc' := 7) rfl rfl ?_
      refine rN_icmp_ge X dJ7_fill_53178_7 (tgt := 20) (by decide) (pc' := 10) rfl (by omega) (by omega) (fun c_7 => ?_) (fun c_7 => ?_)
      · exact r_vret X r dJ7_fill_53178_20 (by omega) (by omega) rfl rfl (by rw [show i = N by omega])
      · refine r_aload_n X dJ7_fill_53178_10 (pc' := 11) rfl rfl ?_
        refine r_iload_n X dJ7_fill_53178_11 (pc' := 12) rfl rfl ?_
        refine r_iload_n X dJ7_fill_53178_12 (pc' := 13) rfl rfl ?_
        refine r_iast X dJ7_fill_53178_13 (pc' := 14) rfl (by omega) (hset_s _ _ _) (by omega) (by omega) ?_
        rw [hset_ss, fill_s]
        refine r_iincN (vs' := [_, _, _, _]) X dJ7_fill_53178_14 (pc' := 17) rfl (by decide) rfl rfl ?_
        refine r_goto (tgt := 5) X dJ7_fill_53178_17 (by decide) ?_
        exact ih (i + 1) (by omega) (by omega)
  refine r_iconst (v := nI 0) X (by decide) dJ7_fill_53178_0 (pc' := 1) rfl ?_
  refine r_istore_n (vs' := [_, _, _, _]) X dJ7_fill_53178_1 (pc' := 2) rfl (by decide) rfl ?_
  refine r_aload_n X dJ7_fill_53178_2 (pc' := 3) rfl rfl ?_
  refine r_alen (t := 0) X rfl dJ7_fill_53178_3 (pc' := 4) rfl (by omega) he ?_
  dsimp only
  refine r_istore_n (vs' := [_, _, _, _]) X dJ7_fill_53178_4 (pc' := 5) rfl (by decide) rfl ?_
  have l0 := loop _ 0 (Nat.lt_succ_self _) (Nat.zero_le _)
  rw [fill_0, hset_id he] at l0
  exact l0
set_option maxRecDepth 100000 in
set_option maxHeartbeats 1000000 in
theorem ct_X7_codeOf (P : Px) (n : Nat) (h : hw) (a b c : Nat) : Ct P MX7_codeOf 0 0 0 [.int (nI a), .int (nI b), .int (nI c)] n h (some (.int (nI ((a * 64 + b) * 80 + c)))) n h := by
  refine Ct.of (by decide +kernel) (Nat.le_of_ble_eq_true rfl) rfl (fun K X hnm r => ?_)
  have X : Cx K P RX7 cX7_codeOf 3 0 0 0 := X
  have r : Rt K P (some .int) 0 0 _ _ _ := r
  show Z K P _ _ 0 0 0 [some (.int (nI a)), some (.int (nI b)), some (.int (nI c))] []
  refine r_iload_n X dX7_codeOf_0 (pc' := 1) rfl rfl ?_
  refine r_bipush (v := nI 64) X (by decide) dX7_codeOf_1 (pc' := 3) rfl ?_
  first | refine rN_imul X dX7_codeOf_3 (pc' := 4) rfl ?_ | refine r_imul X dX7_codeOf_3 (pc' := 4) rfl ?_
  refine r_iload_n X dX7_codeOf_4 (pc' := 5) rfl rfl ?_
  first | refine rN_iadd X dX7_codeOf_5 (pc' := 6) rfl ?_ | refine r_iadd X dX7_codeOf_5 (pc' := 6) rfl ?_
  refine r_bipush (v := nI 80) X (by decide) dX7_codeOf_6 (pc' := 8) rfl ?_
  first | refine rN_imul X dX7_codeOf_8 (pc' := 9) rfl ?_ | refine r_imul X dX7_codeOf_8 (pc' := 9) rfl ?_
  refine r_iload_n X dX7_codeOf_9 (pc' := 10) rfl rfl ?_
  first | refine rN_iadd X dX7_codeOf_10 (pc' := 11) rfl ?_ | refine r_iadd X dX7_codeOf_10 (pc' := 11) rfl ?_
  exact r_iret X r dX7_codeOf_11 (by omega) (by omega) rfl rfl rfl rfl
set_option maxRecDepth 100000 in
set_option maxHeartbeats 1000000 in
theorem ct_X7_leastWithAll (P : Px) (n : Nat) (h : hw) (k N m : Nat) (g : Nat → Nat) (hk : k < n) (he : h k = .inl (P.2.2.1 0, N, .inl (fun i => nI (g i)))) (hN : N < 2 ^ 31) (hm : m < 2 ^ 31) : Ct P MX7_leastWithAll 0 0 0 [.ref (Bs P + k), .int (nI m)] n h (some (.int (oI (firstN (fun q => decide ((g q &&& m) = m)) N)))) n h := by
  refine Ct.of (by decide +kernel) (Nat.le_of_ble_eq_true rfl) rfl (fun K X hnm r => ?_)
  have X : Cx K P RX7 cX7_leastWithAll 3 0 0 0 := X
  have r : Rt K P (some .int) 0 0 _ _ _ := r
  show Z K P _ _ 0 0 0 [some (.ref (Bs P + k)), some (.int (nI m)), none] []
  have loop : ∀ (m_ : Nat) (i : Nat), N - i < m_ → (i ≤ N) → (∀ q, q < i → (fun q => decide ((g q &&& m) = m)) q = false) → Z K P n h 0 0 2 [some (.ref (Bs P + k)), some (.int (nI m)), some (.int (nI i))] [] := by
    intro m_
    induction m_ with
    | zero => intro i hm_; exact absurd hm_ (Nat.not_lt_zero _)
    | succ m_ ih =>
      intro i hm_ hi hf
      refine r_iload_n X dX7_leastWithAll_2 (pc' := 3) rfl rfl ?_
      refine r_aload_n X dX7_leastWithAll_3 (pc' := 4) rfl rfl ?_
      refine r_alen (t := 0) X rfl dX7_leastWithAll_4 (pc' := 5) rfl (by omega) he ?_
      dsimp only
      refine rN_icmp_ge X dX7_leastWithAll_5 (tgt := 25) (by decide) (pc' := 8) rfl (by omega) (by omega) (fun c_5 => ?_) (fun c_5 => ?_)
      · refine r_iconst (v := (-1)) X (by decide) dX7_leastWithAll_25 (pc' := 26) rfl ?_
        exact r_iret X r dX7_leastWithAll_26 (by omega) (by omega) rfl (by rw [show firstN (fun q => decide ((g q &&& m) = m)) N = none from firstN_none (fun q hq => hf q (by omega))]; rfl) rfl rfl
      · refine r_aload_n X dX7_leastWithAll_8 (pc' := 9) rfl rfl ?_
        refine r_iload_n X dX7_leastWithAll_9 (pc' := 10) rfl rfl ?_
        refine r_iald X dX7_leastWithAll_10 (pc' := 11) rfl (by omega) he (by omega) (by omega) ?_
        refine r_iload_n X dX7_leastWithAll_11 (pc' := 12) rfl rfl ?_
        have b1 : (g i &&& m) ≤ m := Nat.and_le_right
        first | refine rN_iand X dX7_leastWithAll_12 (pc' := 13) rfl ?_ | refine r_iand X dX7_leastWithAll_12 (pc' := 13) rfl ?_
        refine r_iload_n X dX7_leastWithAll_13 (pc' := 14) rfl rfl ?_
        refine rN_icmp_ne X dX7_leastWithAll_14 (tgt := 19) (by decide) (pc' := 17) rfl (by omega) (by omega) (fun c_14 => ?_) (fun c_14 => ?_)
        · refine r_iincN (vs' := [_, _, _]) X dX7_leastWithAll_19 (pc' := 22) rfl (by decide) rfl rfl ?_
          refine r_goto (tgt := 2) X dX7_leastWithAll_22 (by decide) ?_
          exact ih (i + 1) (by omega) (by omega) (lt_s hf (decide_eq_false c_14))
        · refine r_iload_n X dX7_leastWithAll_17 (pc' := 18) rfl rfl ?_
          exact r_iret X r dX7_leastWithAll_18 (by omega) (by omega) rfl (by rw [show firstN (fun q => decide ((g q &&& m) = m)) N = some i from firstN_some (by omega) (decide_eq_true c_14) hf]; rfl) rfl rfl
  refine r_iconst (v := nI 0) X (by decide) dX7_leastWithAll_0 (pc' := 1) rfl ?_
  refine r_istore_n (vs' := [_, _, _]) X dX7_leastWithAll_1 (pc' := 2) rfl (by decide) rfl ?_
  exact loop _ 0 (Nat.lt_succ_self _) (Nat.zero_le _) (fun i hi => absurd hi (Nat.not_lt_zero _))
set_option maxRecDepth 100000 in
set_option maxHeartbeats 1000000 in
theorem ct_X7_isAnyJust (P : Px) (n : Nat) (hn : 59 ≤ n) (h : hw) (ι : Nat → Nat) (φ : Nat → Nat → Nat) (ℓ : Nat → Nat) (lt : Nat → Option Nat) (ρ : Nat → Nat → Option Nat) (ω : Nat → Nat → Nat) (W : Wf ι φ) (t m : Nat) (ht : t < 2 ^ 31) (hm : m < 2 ^ 31) : Ct P MX7_isAnyJust 0 0 0 [.ref (Bs P + 32), .int (nI t), .int (nI m)] n (wC P h ι φ ℓ lt ρ ω) (some (.int (bI (cB (∃ sp, sp < 80 ∧ (m &&& ω 2 sp) = t))))) n (wC P h ι φ ℓ lt ρ ω) := by
  refine Ct.of (by decide +kernel) (Nat.le_of_ble_eq_true rfl) rfl (fun K X hnm r => ?_)
  have X : Cx K P RX7 cX7_isAnyJust 4 0 0 0 := X
  have r : Rt K P (some .boolean) 0 0 _ _ _ := r
  show Z K P _ _ 0 0 0 [some (.ref (Bs P + 32)), some (.int (nI t)), some (.int (nI m)), none] []
  have loop : ∀ (m_ : Nat) (i : Nat), 80 - i < m_ → (i ≤ 80) → (∀ q, q < i → ¬ (m &&& ω 2 q) = t) → Z K P n (wC P h ι φ ℓ lt ρ ω) 0 0 2 [some (.ref (Bs P + 32)), some (.int (nI t)), some (.int (nI m)), some (.int (nI i))] [] := by
    intro m_
    induction m_ with
    | zero => intro i hm_; exact absurd hm_ (Nat.not_lt_zero _)
    | succ m_ ih =>
      intro i hm_ hi hf
      refine r_iload_n X dX7_isAnyJust_2 (pc' := 3) rfl rfl ?_
      refine r_bipush (v := nI 80) X (by decide) dX7_isAnyJust_3 (pc' := 5) rfl ?_
      refine rN_icmp_ge X dX7_isAnyJust_5 (tgt := 28) (by decide) (pc' := 8) rfl (by omega) (by omega) (fun c_5 => ?_) (fun c_5 => ?_)
      · refine r_iconst (v := nI 0) X (by decide) dX7_isAnyJust_28 (pc' := 29) rfl ?_
        exact r_iret X r dX7_isAnyJust_29 (by omega) (by omega) rfl (hcF (fun q => by obtain ⟨z, hz, e⟩ := q; exact hf z (by omega) e)) rfl rfl
      · refine r_iload_n X dX7_isAnyJust_8 (pc' := 9) rfl rfl ?_
        refine r_aload_n X dX7_isAnyJust_9 (pc' := 10) rfl rfl ?_
        refine r_get X fX7 lf_X7_18 dX7_isAnyJust_10 (pc' := 13) rfl (by decide) (by omega) (wC_e32 _ _ _ _ _ _ _ _) rfl ?_
        refine r_iload_n X dX7_isAnyJust_13 (pc' := 14) rfl rfl ?_
        refine r_iald X dX7_isAnyJust_14 (pc' := 15) rfl (by omega) (wC_e35 _ _ _ _ _ _ _ _) (by omega) (by omega) ?_
        
        first | refine rN_iand X dX7_isAnyJust_15 (pc' := 16) rfl ?_ | refine r_iand X dX7_isAnyJust_15 (pc' := 16) rfl ?_
        have b1 : (m &&& ω 2 i) ≤ m := Nat.and_le_left
        refine r_iload_n X dX7_isAnyJust_16 (pc' := 17) rfl rfl ?_
        refine rN_icmp_ne X dX7_isAnyJust_17 (tgt := 22) (by decide) (pc' := 20) rfl (by omega) (by omega) (fun c_17 => ?_) (fun c_17 => ?_)
        · refine r_iincN (vs' := [_, _, _, _]) X dX7_isAnyJust_22 (pc' := 25) rfl (by decide) rfl rfl ?_
          refine r_goto (tgt := 2) X dX7_isAnyJust_25 (by decide) ?_
          exact ih (i + 1) (by omega) (by omega) (lt_s hf c_17)
        · refine r_iconst (v := nI 1) X (by decide) dX7_isAnyJust_20 (pc' := 21) rfl ?_
          exact r_iret X r dX7_isAnyJust_21 (by omega) (by omega) rfl (hcT ⟨i, by omega, c_17⟩) rfl rfl
  refine r_iconst (v := nI 0) X (by decide) dX7_isAnyJust_0 (pc' := 1) rfl ?_
  refine r_istore_n (vs' := [_, _, _, _]) X dX7_isAnyJust_1 (pc' := 2) rfl (by decide) rfl ?_
  exact loop _ 0 (Nat.lt_succ_self _) (Nat.zero_le _) (fun i hi => absurd hi (Nat.not_lt_zero _))
def EF (ω : Nat → Nat → Nat) (r0 ro i : Nat) : Prop := ¬ (ω 0 ro &&& 1 * 2 ^ r0 * 2 ^ 1 - 1 &&& ω 1 i &&& 1 * 2 ^ r0) = 0 ∧ ∃ sp, sp < 80 ∧ ((ω 0 ro &&& 1 * 2 ^ r0 * 2 ^ 1 - 1 &&& ω 1 i) &&& ω 2 sp) = 1 * 2 ^ r0
set_option maxRecDepth 100000 in
set_option maxHeartbeats 1000000 in
theorem ct_X7_isEverFirst (P : Px) (n : Nat) (hn : 59 ≤ n) (h : hw) (ι : Nat → Nat) (φ : Nat → Nat → Nat) (ℓ : Nat → Nat) (lt : Nat → Option Nat) (ρ : Nat → Nat → Option Nat) (ω : Nat → Nat → Nat) (W : Wf ι φ) (r0 ro : Nat) (hr0 : r0 < 12) (hro : ro < 16) : Ct P MX7_isEverFirst 1 0 0 [.ref (Bs P + 32), .int (nI r0), .int (nI ro)] n (wC P h ι φ ℓ lt ρ ω) (some (.int (bI (cB (∃ m, m < 64 ∧ EF ω r0 ro m))))) n (wC P h ι φ ℓ lt ρ ω) := by
  refine Ct.of (by decide +kernel) (Nat.le_of_ble_eq_true rfl) rfl (fun K X hnm r => ?_)
  have X : Cx K P RX7 cX7_isEverFirst 8 1 0 0 := X
  have r : Rt K P (some .boolean) 0 0 _ _ _ := r
  show Z K P _ _ 0 0 0 [some (.ref (Bs P + 32)), some (.int (nI r0)), some (.int (nI ro)), none, none, none, none, none] []
  have p1 : 2 ^ r0 ≤ 2 ^ 11 := Nat.pow_le_pow_right (by decide) (by omega)
  have p0 : 1 ≤ 2 ^ r0 := Nat.one_le_two_pow
  refine r_iconst (v := nI 1) X (by decide) dX7_isEverFirst_0 (pc' := 1) rfl ?_
  refine r_iload_n X dX7_isEverFirst_1 (pc' := 2) rfl rfl ?_
  refine rN_ishl X dX7_isEverFirst_2 (pc' := 3) rfl (by omega) (by omega) ?_
  refine r_istore_n (vs' := [_, _, _, _, _, _, _, _]) X dX7_isEverFirst_3 (pc' := 4) rfl (by decide) rfl ?_
  refine r_iload_n X dX7_isEverFirst_4 (pc' := 5) rfl rfl ?_
  refine r_iconst (v := nI 1) X (by decide) dX7_isEverFirst_5 (pc' := 6) rfl ?_
  refine rN_ishl X dX7_isEverFirst_6 (pc' := 7) rfl (by omega) (by omega) ?_
  refine r_iconst (v := nI 1) X (by decide) dX7_isEverFirst_7 (pc' := 8) rfl ?_
  first | refine rN_isub X dX7_isEverFirst_8 (pc' := 9) rfl (by omega) ?_ | refine r_isub X dX7_isEverFirst_8 (pc' := 9) rfl ?_
  refine r_istore (vs' := [_, _, _, _, _, _, _, _]) X dX7_isEverFirst_9 (pc' := 11) rfl (by decide) rfl ?_
  refine r_aload_n X dX7_isEverFirst_11 (pc' := 12) rfl rfl ?_
  refine r_get X fX7 lf_X7_9 dX7_isEverFirst_12 (pc' := 15) rfl (by decide) (by omega) (wC_e32 _ _ _ _ _ _ _ _) rfl ?_
  refine r_iload_n X dX7_isEverFirst_15 (pc' := 16) rfl rfl ?_
  refine r_iald X dX7_isEverFirst_16 (pc' := 17) rfl (by omega) (wC_e33 _ _ _ _ _ _ _ _) (by omega) (by omega) ?_
  refine r_iload X dX7_isEverFirst_17 (pc' := 19) rfl rfl ?_
  first | refine rN_iand X dX7_isEverFirst_19 (pc' := 20) rfl ?_ | refine r_iand X dX7_isEverFirst_19 (pc' := 20) rfl ?_
  have b1 : (ω 0 ro &&& 1 * 2 ^ r0 * 2 ^ 1 - 1) ≤ 1 * 2 ^ r0 * 2 ^ 1 - 1 := Nat.and_le_right
  refine r_istore (vs' := [_, _, _, _, _, _, _, _]) X dX7_isEverFirst_20 (pc' := 22) rfl (by decide) rfl ?_
  refine r_iconst (v := nI 0) X (by decide) dX7_isEverFirst_22 (pc' := 23) rfl ?_
  refine r_istore (vs' := [_, _, _, _, _, _, _, _]) X dX7_isEverFirst_23 (pc' := 25) rfl (by decide) rfl ?_
  have loop : ∀ (m_ : Nat) (i : Nat) (o : Option Value), 64 - i < m_ → (i ≤ 64) → (∀ q, q < i → ¬ EF ω r0 ro q) → Z K P n (wC P h ι φ ℓ lt ρ ω) 0 0 25 [some (.ref (Bs P + 32)), some (.int (nI r0)), some (.int (nI ro)), some (.int (nI (1 * 2 ^ r0))), some (.int (nI (1 * 2 ^ r0 * 2 ^ 1 - 1))), some (.int (nI (ω 0 ro &&& 1 * 2 ^ r0 * 2 ^ 1 - 1))), some (.int (nI i)), o] [] := by
    intro m_
    induction m_ with
    | zero => intro i o hm_; exact absurd hm_ (Nat.not_lt_zero _)
    | succ m_ ih =>
      intro i o hm_ hi hf
      refine r_iload X dX7_isEverFirst_25 (pc' := 27) rfl rfl ?_
      refine r_bipush (v := nI 64) X (by decide) dX7_isEverFirst_27 (pc' := 29) rfl ?_
      refine rN_icmp_ge X dX7_isEverFirst_29 (tgt := 69) (by decide) (pc' := 32) rfl (by omega) (by omega) (fun c_29 => ?_) (fun c_29 => ?_)
      · refine r_iconst (v := nI 0) X (by decide) dX7_isEverFirst_69 (pc' := 70) rfl ?_
        exact r_iret X r dX7_isEverFirst_70 (by omega) (by omega) rfl (hcF (fun q => by obtain ⟨z, hz, e⟩ := q; exact hf z (by omega) e)) rfl rfl
      · refine r_iload X dX7_isEverFirst_32 (pc' := 34) rfl rfl ?_
        refine r_aload_n X dX7_isEverFirst_34 (pc' := 35) rfl rfl ?_
        refine r_get X fX7 lf_X7_15 dX7_isEverFirst_35 (pc' := 38) rfl (by decide) (by omega) (wC_e32 _ _ _ _ _ _ _ _) rfl ?_
        refine r_iload X dX7_isEverFirst_38 (pc' := 40) rfl rfl ?_
        refine r_iald X dX7_isEverFirst_40 (pc' := 41) rfl (by omega) (wC_e34 _ _ _ _ _ _ _ _) (by omega) (by omega) ?_
        first | refine rN_iand X dX7_isEverFirst_41 (pc' := 42) rfl ?_ | refine r_iand X dX7_isEverFirst_41 (pc' := 42) rfl ?_
        have b2 : (ω 0 ro &&& 1 * 2 ^ r0 * 2 ^ 1 - 1 &&& ω 1 i) ≤ (ω 0 ro &&& 1 * 2 ^ r0 * 2 ^ 1 - 1) := Nat.and_le_left
        refine r_istore (vs' := [_, _, _, _, _, _, _, _]) X dX7_isEverFirst_42 (pc' := 44) rfl (by decide) rfl ?_
        refine r_iload X dX7_isEverFirst_44 (pc' := 46) rfl rfl ?_
        refine r_iload_n X dX7_isEverFirst_46 (pc' := 47) rfl rfl ?_
        first | refine rN_iand X dX7_isEverFirst_47 (pc' := 48) rfl ?_ | refine r_iand X dX7_isEverFirst_47 (pc' := 48) rfl ?_
        have b3 : (ω 0 ro &&& 1 * 2 ^ r0 * 2 ^ 1 - 1 &&& ω 1 i &&& 1 * 2 ^ r0) ≤ 1 * 2 ^ r0 := Nat.and_le_right
        refine rN_if_eq X dX7_isEverFirst_48 (tgt := 63) (by decide) (pc' := 51) rfl (by omega) (fun c_48 => ?_) (fun c_48 => ?_)
        · refine r_iincN (vs' := [_, _, _, _, _, _, _, _]) X dX7_isEverFirst_63 (pc' := 66) rfl (by decide) rfl rfl ?_
          refine r_goto (tgt := 25) X dX7_isEverFirst_66 (by decide) ?_
          exact ih (i + 1) _ (by omega) (by omega) (lt_s hf (fun q => by first | exact q.1 c_48 | exact cB_nf c_58 q.2))
        · refine r_aload_n X dX7_isEverFirst_51 (pc' := 52) rfl rfl ?_
          refine r_iload_n X dX7_isEverFirst_52 (pc' := 53) rfl rfl ?_
          refine r_iload X dX7_isEverFirst_53 (pc' := 55) rfl rfl ?_
          refine r_callV (As := [_, _]) X okX7_isAnyJust lm_X7_91 dX7_isEverFirst_55 (pc' := 58) rfl (ct_X7_isAnyJust P n hn h ι φ ℓ lt ρ ω W (1 * 2 ^ r0) (ω 0 ro &&& 1 * 2 ^ r0 * 2 ^ 1 - 1 &&& ω 1 i) (by omega) (by omega)) (by omega) (wC_e32 _ _ _ _ _ _ _ _) rfl rfl rfl rfl (Nat.le_of_ble_eq_true rfl) (by omega) (by omega) (by omega) ?_
          dsimp only [Option.toList, List.cons_append, List.nil_append]
          refine rB_if_eq X dX7_isEverFirst_58 (tgt := 63) (by decide) (pc' := 61) rfl (fun c_58 => ?_) (fun c_58 => ?_)
          · refine r_iincN (vs' := [_, _, _, _, _, _, _, _]) X dX7_isEverFirst_63 (pc' := 66) rfl (by decide) rfl rfl ?_
            refine r_goto (tgt := 25) X dX7_isEverFirst_66 (by decide) ?_
            exact ih (i + 1) _ (by omega) (by omega) (lt_s hf (fun q => by first | exact q.1 c_48 | exact cB_nf c_58 q.2))
          · refine r_iconst (v := nI 1) X (by decide) dX7_isEverFirst_61 (pc' := 62) rfl ?_
            exact r_iret X r dX7_isEverFirst_62 (by omega) (by omega) rfl (hcT ⟨i, by omega, c_48, cB_of c_58⟩) rfl rfl
  exact loop _ 0 none (Nat.lt_succ_self _) (Nat.zero_le _) (fun i hi => absurd hi (Nat.not_lt_zero _))
