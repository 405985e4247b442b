/-! ===== World: least FACTS ===== -/
def lowb (x : Nat) : Nat := x &&& (4294967296 - x)
theorem lowb_le (x : Nat) : lowb x ≤ x := Nat.and_le_left
theorem neg_nI {x : Nat} (hx : x < 2 ^ 32) : -(nI x) = nI (4294967296 - x) := by
  apply Int32.toBitVec_inj.mp
  show -(BitVec.ofNat 32 x) = BitVec.ofNat 32 (4294967296 - x)
  apply BitVec.eq_of_toNat_eq
  rw [BitVec.toNat_neg, BitVec.toNat_ofNat, BitVec.toNat_ofNat, Nat.mod_eq_of_lt hx]
theorem lowb_tab2 : ∀ a, a < 64 → ∀ b, b < 64 → (64 * a + b = 0 ∨ ∃ i, i < 12 ∧ lowb (64 * a + b) = 2 ^ i ∧ (64 * a + b).testBit i = true ∧ ∀ q, q < i → (64 * a + b).testBit q = false) := by decide +kernel
theorem lowb_tab (x : Nat) (hx : x < 4096) : (x = 0 ∨ ∃ i, i < 12 ∧ lowb x = 2 ^ i ∧ x.testBit i = true ∧ ∀ q, q < i → x.testBit q = false) := by
  have h := lowb_tab2 (x / 64) (by omega) (x % 64) (by omega)
  rw [show 64 * (x / 64) + x % 64 = x by omega] at h
  exact h
noncomputable def lsB (ω : Nat → Nat → Nat) (m w sp : Nat) : Bool := cB (sp / 5 % 4 = w / 10000 ∧ w / 1000 % 10 ≤ sp % 5 ∧ ¬ (lowb (m &&& ω 2 sp) &&& ω 4 0) = 0)
theorem and_pow {l i : Nat} (h : ¬ (2 ^ i &&& l) = 0) : l.testBit i = true := by
  cases hb : l.testBit i with
  | true => rfl
  | false =>
    exfalso
    apply h
    apply Nat.eq_of_testBit_eq
    intro j
    rw [Nat.testBit_and, Nat.zero_testBit, Nat.testBit_two_pow]
    by_cases e : i = j
    · subst e; rw [hb, Bool.and_false]
    · simp [e]
theorem lsB_m {ω : Nat → Nat → Nat} {m w sp : Nat} (hm : m < 4096) (h : lsB ω m w sp = true) : ¬ (m &&& ω 4 0) = 0 := by
  obtain ⟨-, -, h3⟩ := cB_of h
  have hx : (m &&& ω 2 sp) < 4096 := Nat.lt_of_le_of_lt Nat.and_le_left hm
  rcases lowb_tab _ hx with q | ⟨i, hi, e1, e2, -⟩
  · rw [q] at h3; exact absurd (by show (0 &&& _) &&& _ = 0; simp) h3
  · rw [e1] at h3
    have hl := and_pow h3
    rw [Nat.testBit_and] at e2
    simp only [Bool.and_eq_true] at e2
    intro z
    have := congrArg (fun y => Nat.testBit y i) z
    simp only [Nat.testBit_and, e2.1, hl, Nat.zero_testBit] at this
    cases this
set_option maxRecDepth 100000 in
set_option maxHeartbeats 1000000 in
theorem ct_X7_leastLetSpot (P : Px) (n : Nat) (hn : 59 ≤ n) (h : hw) (ι : Nat → Nat) (φ : Nat → Nat → Nat) (ℓ : Nat → Nat) (lt : Nat → Option Nat) (ρ : Nat → Nat → Option Nat) (ω : Nat → Nat → Nat) (W : Wf ι φ) (k w : Nat) (hk : k < n) (hk2 : 37 ≤ k) (he : h k = lcell w) (hw : w < 40000) (hlp : lawP w) (m : Nat) (hm : m < 4096) : Ct P MX7_leastLetSpot 0 0 0 [.ref (Bs P + 32), .int (nI m), .ref (Bs P + k)] n (wC P h ι φ ℓ lt ρ ω) (some (.int (oI (firstN (lsB ω m w) 80)))) n (wC P h ι φ ℓ lt ρ ω) := by
  refine Ct.of (by decide +kernel) (Nat.le_of_ble_eq_true rfl) rfl (fun K X hnm r => ?_)
  have X : Cx K P RX7 cX7_leastLetSpot 8 0 0 0 := X
  have r : Rt K P (some .int) 0 0 _ _ _ := r
  show Z K P _ _ 0 0 0 [some (.ref (Bs P + 32)), some (.int (nI m)), some (.ref (Bs P + k)), none, none, none, none, none] []
  have lp1 := hlp.1
  have lp2 := hlp.2.1
  refine r_iload_n X dX7_leastLetSpot_0 (pc' := 1) rfl rfl ?_
  refine r_aload_n X dX7_leastLetSpot_1 (pc' := 2) rfl rfl ?_
  refine r_get X fX7 lf_X7_24 dX7_leastLetSpot_2 (pc' := 5) rfl (by decide) (by omega) (wC_e32 _ _ _ _ _ _ _ _) rfl ?_
  first | refine rN_iand X dX7_leastLetSpot_5 (pc' := 6) rfl ?_ | refine r_iand X dX7_leastLetSpot_5 (pc' := 6) rfl ?_
  have b0 : (m &&& ω 4 0) ≤ m := Nat.and_le_left
  refine rN_if_ne X dX7_leastLetSpot_6 (tgt := 11) (by decide) (pc' := 9) rfl (by omega) (fun c_6 => ?_) (fun c_6 => ?_)
  · refine r_iconst (v := nI 0) X (by decide) dX7_leastLetSpot_11 (pc' := 12) rfl ?_
    refine r_istore_n (vs' := [_, _, _, _, _, _, _, _]) X dX7_leastLetSpot_12 (pc' := 13) rfl (by decide) rfl ?_
    have loop : ∀ (m_ : Nat) (pl : Nat) (o0 : Option Value) (o1 : Option Value) (o2 : Option Value) (o3 : Option Value), 4 - pl < m_ → (pl ≤ 4) → (∀ q, q < pl * 20 → lsB ω m w q = false) → Z K P n (wC P h ι φ ℓ lt ρ ω) 0 0 13 [some (.ref (Bs P + 32)), some (.int (nI m)), some (.ref (Bs P + k)), some (.int (nI pl)), o0, o1, o2, o3] [] := by
      intro m_
      induction m_ with
      | zero => intro pl o0 o1 o2 o3 hm_; exact absurd hm_ (Nat.not_lt_zero _)
      | succ m_ ih =>
        intro pl o0 o1 o2 o3 hm_ hp4 hf
        refine r_iload_n X dX7_leastLetSpot_13 (pc' := 14) rfl rfl ?_
        refine r_iconst (v := nI 4) X (by decide) dX7_leastLetSpot_14 (pc' := 15) rfl ?_
        refine rN_icmp_ge X dX7_leastLetSpot_15 (tgt := 89) (by decide) (pc' := 18) rfl (by omega) (by omega) (fun c_15 => ?_) (fun c_15 => ?_)
        · refine r_iconst (v := (-1)) X (by decide) dX7_leastLetSpot_89 (pc' := 90) rfl ?_
          exact r_iret X r dX7_leastLetSpot_90 (by omega) (by omega) rfl (by rw [show firstN (lsB ω m w) 80 = none from firstN_none (fun q hq => hf q (by omega))]; rfl) rfl rfl
        · refine r_aload_n X dX7_leastLetSpot_18 (pc' := 19) rfl rfl ?_
          refine r_getN X fX4 lf_X7_85 dX7_leastLetSpot_19 (pc' := 22) rfl (by decide) (by omega) ((wC_out hk2).trans he) rfl ?_
          refine r_istore (vs' := [_, _, _, _, _, _, _, _]) X dX7_leastLetSpot_22 (pc' := 24) rfl (by decide) rfl ?_
          have inner : ∀ (m2 : Nat) (wo : Nat) (o1 : Option Value) (o2 : Option Value) (o3 : Option Value), 5 - wo < m2 → (w / 1000 % 10 ≤ wo) → (wo ≤ 5) → (∀ q, q < (pl * 4 + w / 10000) * 5 + wo → lsB ω m w q = false) → Z K P n (wC P h ι φ ℓ lt ρ ω) 0 0 24 [some (.ref (Bs P + 32)), some (.int (nI m)), some (.ref (Bs P + k)), some (.int (nI pl)), some (.int (nI wo)), o1, o2, o3] [] := by
            intro m2
            induction m2 with
            | zero => intro wo o1 o2 o3 hm2; exact absurd hm2 (Nat.not_lt_zero _)
            | succ m2 ih2 =>
              intro wo o1 o2 o3 hm2 h1 h2 hf2
              refine r_iload X dX7_leastLetSpot_24 (pc' := 26) rfl rfl ?_
              refine r_iconst (v := nI 5) X (by decide) dX7_leastLetSpot_26 (pc' := 27) rfl ?_
              refine rN_icmp_ge X dX7_leastLetSpot_27 (tgt := 83) (by decide) (pc' := 30) rfl (by omega) (by omega) (fun c_27 => ?_) (fun c_27 => ?_)
              · refine r_iincN (vs' := [_, _, _, _, _, _, _, _]) X dX7_leastLetSpot_83 (pc' := 86) rfl (by decide) rfl rfl ?_
                refine r_goto (tgt := 13) X dX7_leastLetSpot_86 (by decide) ?_
                exact ih (pl + 1) _ _ _ _ (by omega) (by omega) (fun q hq => by
                  rcases Nat.lt_or_ge q ((pl * 4 + w / 10000) * 5 + wo) with z | z
                  · exact hf2 q z
                  · exact cB_f (fun y => by have := y.1; omega))
              · refine r_iload_n X dX7_leastLetSpot_30 (pc' := 31) rfl rfl ?_
                refine r_iconst (v := nI 4) X (by decide) dX7_leastLetSpot_31 (pc' := 32) rfl ?_
                first | refine rN_imul X dX7_leastLetSpot_32 (pc' := 33) rfl ?_ | refine r_imul X dX7_leastLetSpot_32 (pc' := 33) rfl ?_
                refine r_aload_n X dX7_leastLetSpot_33 (pc' := 34) rfl rfl ?_
                refine r_getN X fX4 lf_X7_88 dX7_leastLetSpot_34 (pc' := 37) rfl (by decide) (by omega) ((wC_out hk2).trans he) rfl ?_
                first | refine rN_iadd X dX7_leastLetSpot_37 (pc' := 38) rfl ?_ | refine r_iadd X dX7_leastLetSpot_37 (pc' := 38) rfl ?_
                refine r_iconst (v := nI 5) X (by decide) dX7_leastLetSpot_38 (pc' := 39) rfl ?_
                first | refine rN_imul X dX7_leastLetSpot_39 (pc' := 40) rfl ?_ | refine r_imul X dX7_leastLetSpot_39 (pc' := 40) rfl ?_
                refine r_iload X dX7_leastLetSpot_40 (pc' := 42) rfl rfl ?_
                first | refine rN_iadd X dX7_leastLetSpot_42 (pc' := 43) rfl ?_ | refine r_iadd X dX7_leastLetSpot_42 (pc' := 43) rfl ?_
                refine r_istore (vs' := [_, _, _, _, _, _, _, _]) X dX7_leastLetSpot_43 (pc' := 45) rfl (by decide) rfl ?_
                refine r_iload_n X dX7_leastLetSpot_45 (pc' := 46) rfl rfl ?_
                refine r_aload_n X dX7_leastLetSpot_46 (pc' := 47) rfl rfl ?_
                refine r_get X fX7 lf_X7_18 dX7_leastLetSpot_47 (pc' := 50) rfl (by decide) (by omega) (wC_e32 _ _ _ _ _ _ _ _) rfl ?_
                refine r_iload X dX7_leastLetSpot_50 (pc' := 52) rfl rfl ?_
                refine r_iald X dX7_leastLetSpot_52 (pc' := 53) rfl (by omega) (wC_e35 _ _ _ _ _ _ _ _) (by omega) (by omega) ?_
                first | refine rN_iand X dX7_leastLetSpot_53 (pc' := 54) rfl ?_ | refine r_iand X dX7_leastLetSpot_53 (pc' := 54) rfl ?_
                have bx : (m &&& ω 2 ((pl * 4 + w / 10000) * 5 + wo)) ≤ m := Nat.and_le_left
                refine r_istore (vs' := [_, _, _, _, _, _, _, _]) X dX7_leastLetSpot_54 (pc' := 56) rfl (by decide) rfl ?_
                refine r_iload X dX7_leastLetSpot_56 (pc' := 58) rfl rfl ?_
                refine r_iload X dX7_leastLetSpot_58 (pc' := 60) rfl rfl ?_
                refine r_ineg X dX7_leastLetSpot_60 (pc' := 61) rfl ?_
                rw [neg_nI (by omega)]
                first | refine rN_iand X dX7_leastLetSpot_61 (pc' := 62) rfl ?_ | refine r_iand X dX7_leastLetSpot_61 (pc' := 62) rfl ?_
                rw [show ((m &&& ω 2 ((pl * 4 + w / 10000) * 5 + wo)) &&& (4294967296 - (m &&& ω 2 ((pl * 4 + w / 10000) * 5 + wo)))) = lowb (m &&& ω 2 ((pl * 4 + w / 10000) * 5 + wo)) from rfl]
                have bl := lowb_le (m &&& ω 2 ((pl * 4 + w / 10000) * 5 + wo))
                refine r_istore (vs' := [_, _, _, _, _, _, _, _]) X dX7_leastLetSpot_62 (pc' := 64) rfl (by decide) rfl ?_
                refine r_iload X dX7_leastLetSpot_64 (pc' := 66) rfl rfl ?_
                refine r_aload_n X dX7_leastLetSpot_66 (pc' := 67) rfl rfl ?_
                refine r_get X fX7 lf_X7_24 dX7_leastLetSpot_67 (pc' := 70) rfl (by decide) (by omega) (wC_e32 _ _ _ _ _ _ _ _) rfl ?_
                first | refine rN_iand X dX7_leastLetSpot_70 (pc' := 71) rfl ?_ | refine r_iand X dX7_leastLetSpot_70 (pc' := 71) rfl ?_
                have bb : (lowb (m &&& ω 2 ((pl * 4 + w / 10000) * 5 + wo)) &&& ω 4 0) ≤ lowb (m &&& ω 2 ((pl * 4 + w / 10000) * 5 + wo)) := Nat.and_le_left
                refine rN_if_eq X dX7_leastLetSpot_71 (tgt := 77) (by decide) (pc' := 74) rfl (by omega) (fun c_71 => ?_) (fun c_71 => ?_)
                · refine r_iincN (vs' := [_, _, _, _, _, _, _, _]) X dX7_leastLetSpot_77 (pc' := 80) rfl (by decide) rfl rfl ?_
                  refine r_goto (tgt := 24) X dX7_leastLetSpot_80 (by decide) ?_
                  exact ih2 (wo + 1) _ _ _ (by omega) (by omega) (by omega) (fun q hq => by
                    rcases Nat.lt_or_ge q ((pl * 4 + w / 10000) * 5 + wo) with z | z
                    · exact hf2 q z
                    · rw [show q = (pl * 4 + w / 10000) * 5 + wo by omega]
                      exact cB_f (fun y => y.2.2 c_71))
                · refine r_iload X dX7_leastLetSpot_74 (pc' := 76) rfl rfl ?_
                  exact r_iret X r dX7_leastLetSpot_76 (by omega) (by omega) rfl (by rw [show firstN (lsB ω m w) 80 = some ((pl * 4 + w / 10000) * 5 + wo) from firstN_some (by omega) (cB_t ⟨by omega, by omega, c_71⟩) hf2]; rfl) rfl rfl
          exact inner _ (w / 1000 % 10) _ _ _ (Nat.lt_succ_self _) (Nat.le_refl _) (by omega) (fun q hq => by
            rcases Nat.lt_or_ge q (pl * 20) with z | z
            · exact hf q z
            · exact cB_f (fun y => by have h1 := y.1; have h2 := y.2.1; omega))
    exact loop _ 0 _ _ _ _ (Nat.lt_succ_self _) (Nat.zero_le _) (fun q hq => by omega)
  · refine r_iconst (v := (-1)) X (by decide) dX7_leastLetSpot_9 (pc' := 10) rfl ?_
    exact r_iret X r dX7_leastLetSpot_10 (by omega) (by omega) rfl (by rw [show firstN (lsB ω m w) 80 = none from firstN_none (fun q hq => by cases hz : lsB ω m w q with | false => rfl | true => exact absurd c_6 (lsB_m hm hz))]; rfl) rfl rfl
def msP (w r m : Nat) : Prop := (w / 100 % 10 < 4 ∧ (r / 2 ^ (w / 100 % 10) &&& 1) = 0) ∨ (w / 10 % 10 < 3 ∧ mvN m (w / 10 % 10) < w % 10)
noncomputable def lbB (ω : Nat → Nat → Nat) (w c : Nat) : Bool := cB (msP w (c / 5120) (c / 80 % 64)) && lsB ω (ω 0 (c / 5120) &&& ω 1 (c / 80 % 64)) w (c % 80)
theorem lbB_at {ω : Nat → Nat → Nat} {w r m q : Nat} (hm : m < 64) (hq : q < 80) : lbB ω w ((r * 64 + m) * 80 + q) = (cB (msP w r m) && lsB ω (ω 0 r &&& ω 1 m) w q) := by
  unfold lbB
  rw [show ((r * 64 + m) * 80 + q) / 5120 = r by omega, show ((r * 64 + m) * 80 + q) / 80 % 64 = m by omega, show ((r * 64 + m) * 80 + q) % 80 = q by omega]
theorem lbB_blk {ω : Nat → Nat → Nat} {w r m : Nat} (hm : m < 64) (hf : ∀ c, c < (r * 64 + m) * 80 → lbB ω w c = false) (hb : ∀ q, q < 80 → (cB (msP w r m) && lsB ω (ω 0 r &&& ω 1 m) w q) = false) : ∀ c, c < (r * 64 + (m + 1)) * 80 → lbB ω w c = false := by
  intro c hc
  rcases Nat.lt_or_ge c ((r * 64 + m) * 80) with z | z
  · exact hf c z
  · have e : c = (r * 64 + m) * 80 + (c - (r * 64 + m) * 80) := by omega
    rw [e, lbB_at hm (by omega)]
    exact hb _ (by omega)
set_option maxRecDepth 100000 in
set_option maxHeartbeats 1000000 in
theorem ct_X7_leastBreaking (P : Px) (n : Nat) (hn : 59 ≤ n) (h : hw) (ι : Nat → Nat) (φ : Nat → Nat → Nat) (ℓ : Nat → Nat) (lt : Nat → Option Nat) (ρ : Nat → Nat → Option Nat) (ω : Nat → Nat → Nat) (W : Wf ι φ) (k w : Nat) (hk : k < n) (hk2 : 37 ≤ k) (he : h k = lcell w) (hw : w < 40000) (hlp : lawP w) (hr0 : ∀ r, r < 16 → ω 0 r < 4096) : Ct P MX7_leastBreaking 2 0 0 [.ref (Bs P + 32), .ref (Bs P + k)] n (wC P h ι φ ℓ lt ρ ω) (some (.int (oI (firstN (lbB ω w) 81920)))) n (wC P h ι φ ℓ lt ρ ω) := by
  refine Ct.of (by decide +kernel) (Nat.le_of_ble_eq_true rfl) rfl (fun K X hnm r => ?_)
  have X : Cx K P RX7 cX7_leastBreaking 6 2 0 0 := X
  have r : Rt K P (some .int) 0 0 _ _ _ := r
  show Z K P _ _ 0 0 0 [some (.ref (Bs P + 32)), some (.ref (Bs P + k)), none, none, none, none] []
  have loop : ∀ (m_ : Nat) (ro : Nat) (o1 : Option Value) (o2 : Option Value) (o3 : Option Value), 16 - ro < m_ → (ro ≤ 16) → (∀ c, c < ro * 5120 → lbB ω w c = false) → Z K P n (wC P h ι φ ℓ lt ρ ω) 0 0 2 [some (.ref (Bs P + 32)), some (.ref (Bs P + k)), some (.int (nI ro)), o1, o2, o3] [] := by
    intro m_
    induction m_ with
    | zero => intro ro o1 o2 o3 hm_; exact absurd hm_ (Nat.not_lt_zero _)
    | succ m_ ih =>
      intro ro o1 o2 o3 hm_ hro hf
      refine r_iload_n X dX7_leastBreaking_2 (pc' := 3) rfl rfl ?_
      refine r_bipush (v := nI 16) X (by decide) dX7_leastBreaking_3 (pc' := 5) rfl ?_
      refine rN_icmp_ge X dX7_leastBreaking_5 (tgt := 85) (by decide) (pc' := 8) rfl (by omega) (by omega) (fun c_5 => ?_) (fun c_5 => ?_)
      · refine r_iconst (v := (-1)) X (by decide) dX7_leastBreaking_85 (pc' := 86) rfl ?_
        exact r_iret X r dX7_leastBreaking_86 (by omega) (by omega) rfl (by rw [show firstN (lbB ω w) 81920 = none from firstN_none (fun q hq => hf q (by omega))]; rfl) rfl rfl
      · refine r_aload_n X dX7_leastBreaking_8 (pc' := 9) rfl rfl ?_
        refine r_iload_n X dX7_leastBreaking_9 (pc' := 10) rfl rfl ?_
        refine r_callV (As := [_]) X okX4_missesRole lm_X7_69 dX7_leastBreaking_10 (pc' := 13) rfl (ct_X4_missesRole P n _ k w hk ((wC_out hk2).trans he) hw ro (by omega)) (by omega) ((wC_out hk2).trans he) rfl rfl rfl rfl (Nat.le_of_ble_eq_true rfl) (by omega) (by omega) (by omega) ?_
        dsimp only [Option.toList, List.cons_append, List.nil_append]
        refine r_istore_n (vs' := [_, _, _, _, _, _]) X dX7_leastBreaking_13 (pc' := 14) rfl (by decide) rfl ?_
        refine r_iconst (v := nI 0) X (by decide) dX7_leastBreaking_14 (pc' := 15) rfl ?_
        refine r_istore (vs' := [_, _, _, _, _, _]) X dX7_leastBreaking_15 (pc' := 17) rfl (by decide) rfl ?_
        have inner : ∀ (m2 : Nat) (m : Nat) (o : Option Value), 64 - m < m2 → (m ≤ 64) → (∀ c, c < (ro * 64 + m) * 80 → lbB ω w c = false) → Z K P n (wC P h ι φ ℓ lt ρ ω) 0 0 17 [some (.ref (Bs P + 32)), some (.ref (Bs P + k)), some (.int (nI ro)), some (.int (bI (cB (w / 100 % 10 < 4 ∧ (ro / 2 ^ (w / 100 % 10) &&& 1) = 0)))), some (.int (nI m)), o] [] := by
          intro m2
          induction m2 with
          | zero => intro m o hm2; exact absurd hm2 (Nat.not_lt_zero _)
          | succ m2 ih2 =>
            intro m o hm2 hm hf2
            refine r_iload X dX7_leastBreaking_17 (pc' := 19) rfl rfl ?_
            refine r_bipush (v := nI 64) X (by decide) dX7_leastBreaking_19 (pc' := 21) rfl ?_
            refine rN_icmp_ge X dX7_leastBreaking_21 (tgt := 79) (by decide) (pc' := 24) rfl (by omega) (by omega) (fun c_21 => ?_) (fun c_21 => ?_)
            · refine r_iincN (vs' := [_, _, _, _, _, _]) X dX7_leastBreaking_79 (pc' := 82) rfl (by decide) rfl rfl ?_
              refine r_goto (tgt := 2) X dX7_leastBreaking_82 (by decide) ?_
              exact ih (ro + 1) _ _ _ (by omega) (by omega) (fun c hc => hf2 c (by omega))
            · refine r_iload_n X dX7_leastBreaking_24 (pc' := 25) rfl rfl ?_
              refine rB_if_ne X dX7_leastBreaking_25 (tgt := 37) (by decide) (pc' := 28) rfl (fun c_25 => ?_) (fun c_25 => ?_)
              · have hms : msP w ro m := by first | exact Or.inl (cB_of c_25) | exact Or.inr (cB_of c_34)
                refine r_aload_n X dX7_leastBreaking_37 (pc' := 38) rfl rfl ?_
                refine r_aload_n X dX7_leastBreaking_38 (pc' := 39) rfl rfl ?_
                refine r_get X fX7 lf_X7_9 dX7_leastBreaking_39 (pc' := 42) rfl (by decide) (by omega) (wC_e32 _ _ _ _ _ _ _ _) rfl ?_
                refine r_iload_n X dX7_leastBreaking_42 (pc' := 43) rfl rfl ?_
                refine r_iald X dX7_leastBreaking_43 (pc' := 44) rfl (by omega) (wC_e33 _ _ _ _ _ _ _ _) (by omega) (by omega) ?_
                refine r_aload_n X dX7_leastBreaking_44 (pc' := 45) rfl rfl ?_
                refine r_get X fX7 lf_X7_15 dX7_leastBreaking_45 (pc' := 48) rfl (by decide) (by omega) (wC_e32 _ _ _ _ _ _ _ _) rfl ?_
                refine r_iload X dX7_leastBreaking_48 (pc' := 50) rfl rfl ?_
                refine r_iald X dX7_leastBreaking_50 (pc' := 51) rfl (by omega) (wC_e34 _ _ _ _ _ _ _ _) (by omega) (by omega) ?_
                first | refine rN_iand X dX7_leastBreaking_51 (pc' := 52) rfl ?_ | refine r_iand X dX7_leastBreaking_51 (pc' := 52) rfl ?_
                refine r_aload_n X dX7_leastBreaking_52 (pc' := 53) rfl rfl ?_
                refine r_callV (As := [_, _]) X okX7_leastLetSpot lm_X7_77 dX7_leastBreaking_53 (pc' := 56) rfl (ct_X7_leastLetSpot P n hn h ι φ ℓ lt ρ ω W k w hk hk2 he hw hlp (ω 0 ro &&& ω 1 m) (Nat.lt_of_le_of_lt Nat.and_le_left (hr0 ro (by omega)))) (by omega) (wC_e32 _ _ _ _ _ _ _ _) rfl rfl rfl rfl (Nat.le_of_ble_eq_true rfl) (by omega) (by omega) (by omega) ?_
                dsimp only [Option.toList, List.cons_append, List.nil_append]
                rcases firstN_cases (lsB ω (ω 0 ro &&& ω 1 m) w) 80 with ⟨sp, g1, g2, g3, g4⟩ | ⟨g3, g4⟩
                · rw [g4]
                  refine r_istore (vs' := [_, _, _, _, _, _]) X dX7_leastBreaking_56 (pc' := 58) rfl (by decide) rfl ?_
                  refine r_iload X dX7_leastBreaking_58 (pc' := 60) rfl rfl ?_
                  refine r_iconst (v := (-1)) X (by decide) dX7_leastBreaking_60 (pc' := 61) rfl ?_
                  refine r_icmp_eq X dX7_leastBreaking_61 (tgt := 73) (by decide) (pc' := 64) rfl (fun c => absurd c (oI_ne (by omega))) (fun _ => ?_)
                  show Z K P n _ _ _ 64 [some (.ref (Bs P + 32)), some (.ref (Bs P + k)), some (.int (nI ro)), some _, some (.int (nI m)), some (.int (nI sp))] []
                  refine r_iload_n X dX7_leastBreaking_64 (pc' := 65) rfl rfl ?_
                  refine r_iload X dX7_leastBreaking_65 (pc' := 67) rfl rfl ?_
                  refine r_iload X dX7_leastBreaking_67 (pc' := 69) rfl rfl ?_
                  refine r_callS (As := [_, _, _]) X okX7_codeOf lm_X7_81 dX7_leastBreaking_69 (pc' := 72) rfl (ct_X7_codeOf P n _ ro m sp) rfl rfl (Nat.le_of_ble_eq_true rfl) (by omega) (by omega) (by omega) ?_
                  dsimp only [Option.toList, List.cons_append, List.nil_append]
                  exact r_iret X r dX7_leastBreaking_72 (by omega) (by omega) rfl (by rw [show firstN (lbB ω w) 81920 = some ((ro * 64 + m) * 80 + sp) from firstN_some (by omega) (by rw [lbB_at (by omega) g1, g2, cB_t hms]; rfl) (fun c hc => by
                    rcases Nat.lt_or_ge c ((ro * 64 + m) * 80) with z | z
                    · exact hf2 c z
                    · rw [show c = (ro * 64 + m) * 80 + (c - (ro * 64 + m) * 80) by omega, lbB_at (by omega) (by omega), g3 _ (by omega), Bool.and_false])]; rfl) rfl rfl
                · rw [g4]
                  refine r_istore (vs' := [_, _, _, _, _, _]) X dX7_leastBreaking_56 (pc' := 58) rfl (by decide) rfl ?_
                  refine r_iload X dX7_leastBreaking_58 (pc' := 60) rfl rfl ?_
                  refine r_iconst (v := (-1)) X (by decide) dX7_leastBreaking_60 (pc' := 61) rfl ?_
                  refine r_icmp_eq X dX7_leastBreaking_61 (tgt := 73) (by decide) (pc' := 64) rfl (fun _ => ?_) (fun c => absurd rfl c)
                  refine r_iincN (vs' := [_, _, _, _, _, _]) X dX7_leastBreaking_73 (pc' := 76) rfl (by decide) rfl rfl ?_
                  refine r_goto (tgt := 17) X dX7_leastBreaking_76 (by decide) ?_
                  exact ih2 (m + 1) _ (by omega) (by omega) (lbB_blk (by omega) hf2 (fun q hq => by rw [g3 q hq, Bool.and_false]))
              · refine r_aload_n X dX7_leastBreaking_28 (pc' := 29) rfl rfl ?_
                refine r_iload X dX7_leastBreaking_29 (pc' := 31) rfl rfl ?_
                refine r_callV (As := [_]) X okX4_missesMark lm_X7_74 dX7_leastBreaking_31 (pc' := 34) rfl (ct_X4_missesMark P n _ k w hk ((wC_out hk2).trans he) hw m (by omega)) (by omega) ((wC_out hk2).trans he) rfl rfl rfl rfl (Nat.le_of_ble_eq_true rfl) (by omega) (by omega) (by omega) ?_
                dsimp only [Option.toList, List.cons_append, List.nil_append]
                refine rB_if_eq X dX7_leastBreaking_34 (tgt := 73) (by decide) (pc' := 37) rfl (fun c_34 => ?_) (fun c_34 => ?_)
                · refine r_iincN (vs' := [_, _, _, _, _, _]) X dX7_leastBreaking_73 (pc' := 76) rfl (by decide) rfl rfl ?_
                  refine r_goto (tgt := 17) X dX7_leastBreaking_76 (by decide) ?_
                  exact ih2 (m + 1) _ (by omega) (by omega) (lbB_blk (by omega) hf2 (fun q hq => by rw [cB_f (show ¬ msP w ro m from fun z => z.elim (cB_nf c_25) (cB_nf c_34))]; rfl))
                · have hms : msP w ro m := by first | exact Or.inl (cB_of c_25) | exact Or.inr (cB_of c_34)
                  refine r_aload_n X dX7_leastBreaking_37 (pc' := 38) rfl rfl ?_
                  refine r_aload_n X dX7_leastBreaking_38 (pc' := 39) rfl rfl ?_
                  refine r_get X fX7 lf_X7_9 dX7_leastBreaking_39 (pc' := 42) rfl (by decide) (by omega) (wC_e32 _ _ _ _ _ _ _ _) rfl ?_
                  refine r_iload_n X dX7_leastBreaking_42 (pc' := 43) rfl rfl ?_
                  refine r_iald X dX7_leastBreaking_43 (pc' := 44) rfl (by omega) (wC_e33 _ _ _ _ _ _ _ _) (by omega) (by omega) ?_
                  refine r_aload_n X dX7_leastBreaking_44 (pc' := 45) rfl rfl ?_
                  refine r_get X fX7 lf_X7_15 dX7_leastBreaking_45 (pc' := 48) rfl (by decide) (by omega) (wC_e32 _ _ _ _ _ _ _ _) rfl ?_
                  refine r_iload X dX7_leastBreaking_48 (pc' := 50) rfl rfl ?_
                  refine r_iald X dX7_leastBreaking_50 (pc' := 51) rfl (by omega) (wC_e34 _ _ _ _ _ _ _ _) (by omega) (by omega) ?_
                  first | refine rN_iand X dX7_leastBreaking_51 (pc' := 52) rfl ?_ | refine r_iand X dX7_leastBreaking_51 (pc' := 52) rfl ?_
                  refine r_aload_n X dX7_leastBreaking_52 (pc' := 53) rfl rfl ?_
                  refine r_callV (As := [_, _]) X okX7_leastLetSpot lm_X7_77 dX7_leastBreaking_53 (pc' := 56) rfl (ct_X7_leastLetSpot P n hn h ι φ ℓ lt ρ ω W k w hk hk2 he hw hlp (ω 0 ro &&& ω 1 m) (Nat.lt_of_le_of_lt Nat.and_le_left (hr0 ro (by omega)))) (by omega) (wC_e32 _ _ _ _ _ _ _ _) rfl rfl rfl rfl (Nat.le_of_ble_eq_true rfl) (by omega) (by omega) (by omega) ?_
                  dsimp only [Option.toList, List.cons_append, List.nil_append]
                  rcases firstN_cases (lsB ω (ω 0 ro &&& ω 1 m) w) 80 with ⟨sp, g1, g2, g3, g4⟩ | ⟨g3, g4⟩
                  · rw [g4]
                    refine r_istore (vs' := [_, _, _, _, _, _]) X dX7_leastBreaking_56 (pc' := 58) rfl (by decide) rfl ?_
                    refine r_iload X dX7_leastBreaking_58 (pc' := 60) rfl rfl ?_
                    refine r_iconst (v := (-1)) X (by decide) dX7_leastBreaking_60 (pc' := 61) rfl ?_
                    refine r_icmp_eq X dX7_leastBreaking_61 (tgt := 73) (by decide) (pc' := 64) rfl (fun c => absurd c (oI_ne (by omega))) (fun _ => ?_)
                    show Z K P n _ _ _ 64 [some (.ref (Bs P + 32)), some (.ref (Bs P + k)), some (.int (nI ro)), some _, some (.int (nI m)), some (.int (nI sp))] []
                    refine r_iload_n X dX7_leastBreaking_64 (pc' := 65) rfl rfl ?_
                    refine r_iload X dX7_leastBreaking_65 (pc' := 67) rfl rfl ?_
                    refine r_iload X dX7_leastBreaking_67 (pc' := 69) rfl rfl ?_
                    refine r_callS (As := [_, _, _]) X okX7_codeOf lm_X7_81 dX7_leastBreaking_69 (pc' := 72) rfl (ct_X7_codeOf P n _ ro m sp) rfl rfl (Nat.le_of_ble_eq_true rfl) (by omega) (by omega) (by omega) ?_
                    dsimp only [Option.toList, List.cons_append, List.nil_append]
                    exact r_iret X r dX7_leastBreaking_72 (by omega) (by omega) rfl (by rw [show firstN (lbB ω w) 81920 = some ((ro * 64 + m) * 80 + sp) from firstN_some (by omega) (by rw [lbB_at (by omega) g1, g2, cB_t hms]; rfl) (fun c hc => by
                      rcases Nat.lt_or_ge c ((ro * 64 + m) * 80) with z | z
                      · exact hf2 c z
                      · rw [show c = (ro * 64 + m) * 80 + (c - (ro * 64 + m) * 80) by omega, lbB_at (by omega) (by omega), g3 _ (by omega), Bool.and_false])]; rfl) rfl rfl
                  · rw [g4]
                    refine r_istore (vs' := [_, _, _, _, _, _]) X dX7_leastBreaking_56 (pc' := 58) rfl (by decide) rfl ?_
                    refine r_iload X dX7_leastBreaking_58 (pc' := 60) rfl rfl ?_
                    refine r_iconst (v := (-1)) X (by decide) dX7_leastBreaking_60 (pc' := 61) rfl ?_
                    refine r_icmp_eq X dX7_leastBreaking_61 (tgt := 73) (by decide) (pc' := 64) rfl (fun _ => ?_) (fun c => absurd rfl c)
                    refine r_iincN (vs' := [_, _, _, _, _, _]) X dX7_leastBreaking_73 (pc' := 76) rfl (by decide) rfl rfl ?_
                    refine r_goto (tgt := 17) X dX7_leastBreaking_76 (by decide) ?_
                    exact ih2 (m + 1) _ (by omega) (by omega) (lbB_blk (by omega) hf2 (fun q hq => by rw [g3 q hq, Bool.and_false]))
        exact inner _ 0 _ (Nat.lt_succ_self _) (Nat.zero_le _) (fun c hc => hf c (by omega))
  refine r_iconst (v := nI 0) X (by decide) dX7_leastBreaking_0 (pc' := 1) rfl ?_
  refine r_istore_n (vs' := [_, _, _, _, _, _]) X dX7_leastBreaking_1 (pc' := 2) rfl (by decide) rfl ?_
  exact loop _ 0 _ _ _ (Nat.lt_succ_self _) (Nat.zero_le _) (fun q hq => by omega)
