/-! ===== World: sift ===== -/
noncomputable def sbp (ω : Nat → Nat → Nat) (c0 : Nat) (p : Nat → Prop) (bit m : Nat) : Nat → Nat → Nat := fun c i => pif (c = c0 ∧ i < m ∧ p i) (ω c i ||| bit) (ω c i)
theorem sbp_0 {ω : Nat → Nat → Nat} {c0 bit : Nat} {p : Nat → Prop} : sbp ω c0 p bit 0 = ω := by
  funext c i
  unfold sbp
  rw [pif_f (fun q => absurd q.2.1 (Nat.not_lt_zero _))]
theorem sbp_r {ω : Nat → Nat → Nat} {c0 bit m c i : Nat} {p : Nat → Prop} (h : c ≠ c0 ∨ m ≤ i) : sbp ω c0 p bit m c i = ω c i := by
  unfold sbp
  rw [pif_f (fun q => h.elim (fun z => z q.1) (fun z => absurd q.2.1 (by omega)))]
theorem sbp_t {ω : Nat → Nat → Nat} {c0 bit m : Nat} {p : Nat → Prop} (h : p m) : up2 (sbp ω c0 p bit m) c0 m (ω c0 m ||| bit) = sbp ω c0 p bit (m + 1) := by
  funext c i
  unfold up2
  by_cases hc : c = c0 ∧ i = m
  · rw [if_pos hc]
    obtain ⟨rfl, rfl⟩ := hc
    unfold sbp
    rw [pif_t ⟨rfl, by omega, h⟩]
  · rw [if_neg hc]
    unfold sbp
    by_cases hq : c = c0 ∧ i < m ∧ p i
    · rw [pif_t hq, pif_t ⟨hq.1, by omega, hq.2.2⟩]
    · rw [pif_f hq, pif_f (fun z => hq ⟨z.1, by have h2 := z.2.1; have : i ≠ m := fun e => hc ⟨z.1, e⟩; omega, z.2.2⟩)]
theorem sbp_f {ω : Nat → Nat → Nat} {c0 bit m : Nat} {p : Nat → Prop} (h : ¬ p m) : sbp ω c0 p bit m = sbp ω c0 p bit (m + 1) := by
  funext c i
  unfold sbp
  by_cases hq : c = c0 ∧ i < m ∧ p i
  · rw [pif_t hq, pif_t ⟨hq.1, by omega, hq.2.2⟩]
  · rw [pif_f hq, pif_f (fun z => hq ⟨z.1, by have h2 := z.2.1; have : i ≠ m := fun e => h (e ▸ z.2.2); omega, z.2.2⟩)]
noncomputable def sb1 (ω : Nat → Nat → Nat) (s bit : Nat) : Nat → Nat → Nat := if s = 0 then up2 ω 4 0 (ω 4 0 ||| bit) else ω
noncomputable def sbA (ω : Nat → Nat → Nat) (a b s bit : Nat) : Nat → Nat → Nat := sbp (sbp (sbp (sb1 ω s bit) 0 (rfR a) bit 16) 1 (fun m => rfM a m (ω 3 m)) bit 64) 2 (rfS b) bit 80
set_option maxRecDepth 100000 in
set_option maxHeartbeats 1000000 in
theorem ct_X7_siftBy (P : Px) (n : Nat) (hn : 59 ≤ n) (h : hw) (ι : Nat → Nat) (φ : Nat → Nat → Nat) (ℓ : Nat → Nat) (lt : Nat → Option Nat) (ρ : Nat → Nat → Option Nat) (ω : Nat → Nat → Nat) (W : Wf ι φ) (k a b s : Nat) (hk : k < n) (hk2 : 37 ≤ k) (he : h k = rcell a b s) (ha : a < 160000) (hb : b < 160000) (hwp : whatP a) (hs2 : s ≤ 2) (bit : Nat) (h3 : ∀ i, ω 3 i < 2 ^ 31) : Ct P MX7_siftBy 2 0 0 [.ref (Bs P + 32), .ref (Bs P + k), .int (nI bit)] n (wC P h ι φ ℓ lt ρ ω) none n (wC P h ι φ ℓ lt ρ (sbA ω a b s bit)) := by
  refine Ct.of (by decide +kernel) (Nat.le_of_ble_eq_true rfl) rfl (fun K X hnm r => ?_)
  have X : Cx K P RX7 cX7_siftBy 4 2 0 0 := X
  have r : Rt K P none 0 0 _ _ _ := r
  show Z K P _ _ 0 0 0 [some (.ref (Bs P + 32)), some (.ref (Bs P + k)), some (.int (nI bit)), none] []
  obtain ⟨Ω, hΩ⟩ : ∃ Ω, Ω = sbA ω a b s bit := ⟨_, rfl⟩
  rw [← hΩ] at r
  have loop3 : ∀ (mloop3 : Nat) (ω : Nat → Nat → Nat) (i : Nat), 80 - i < mloop3 → (i ≤ 80) → (∀ i, ω 3 i < 2 ^ 31) → (sbp ω 2 (rfS b) bit 80 = Ω) → Z K P n (wC P h ι φ ℓ lt ρ (sbp ω 2 (rfS b) bit i)) 0 0 89 [some (.ref (Bs P + 32)), some (.ref (Bs P + k)), some (.int (nI bit)), some (.int (nI i))] [] := by
    intro mloop3
    induction mloop3 with
    | zero => intro ω i hmloop3; exact absurd hmloop3 (Nat.not_lt_zero _)
    | succ mloop3 ih3 =>
      intro ω i hmloop3 hi h3 hF
      refine r_iload_n X dX7_siftBy_89 (pc' := 90) rfl rfl ?_
      refine r_bipush (v := nI 80) X (by decide) dX7_siftBy_90 (pc' := 92) rfl ?_
      refine rN_icmp_ge X dX7_siftBy_92 (tgt := 119) (by decide) (pc' := 95) rfl (by omega) (by omega) (fun c_92 => ?_) (fun c_92 => ?_)
      · exact r_vret X r dX7_siftBy_119 (by omega) (by omega) rfl rfl (by rw [show i = 80 by omega, hF])
      · refine r_aload_n X dX7_siftBy_95 (pc' := 96) rfl rfl ?_
        refine r_iload_n X dX7_siftBy_96 (pc' := 97) rfl rfl ?_
        refine r_callV (As := [_]) X okX6_fitsSpot lm_X7_66 dX7_siftBy_97 (pc' := 100) rfl (ct_X6_fitsSpot P n _ k a b s hk ((wC_out hk2).trans he) ha hb i (by omega)) (by omega) ((wC_out hk2).trans he) rfl rfl rfl rfl (Nat.le_of_ble_eq_true rfl) (by omega) (by omega) (by omega) ?_
        dsimp only [Option.toList, List.cons_append, List.nil_append]
        refine rB_if_eq X dX7_siftBy_100 (tgt := 113) (by decide) (pc' := 103) rfl (fun c_100 => ?_) (fun c_100 => ?_)
        · rw [sbp_f (cB_nf c_100)]
          try rw [sbp_t (cB_of c_100)]
          refine r_iincN (vs' := [_, _, _, _]) X dX7_siftBy_113 (pc' := 116) rfl (by decide) rfl rfl ?_
          refine r_goto (tgt := 89) X dX7_siftBy_116 (by decide) ?_
          exact ih3 ω (i + 1) (by omega) (by omega) h3 hF
        · refine r_aload_n X dX7_siftBy_103 (pc' := 104) rfl rfl ?_
          refine r_get X fX7 lf_X7_18 dX7_siftBy_104 (pc' := 107) rfl (by decide) (by omega) (wC_e32 _ _ _ _ _ _ _ _) rfl ?_
          refine r_iload_n X dX7_siftBy_107 (pc' := 108) rfl rfl ?_
          refine r_dup2 X rfl rfl dX7_siftBy_108 (pc' := 109) rfl ?_
          refine r_iald X dX7_siftBy_109 (pc' := 110) rfl (by omega) (wC_e35 _ _ _ _ _ _ _ _) (by omega) (by omega) ?_
          rw [sbp_r (Or.inr (Nat.le_refl _))]
          refine r_iload_n X dX7_siftBy_110 (pc' := 111) rfl rfl ?_
          first | refine rN_ior X dX7_siftBy_111 (pc' := 112) rfl ?_ | refine r_ior X dX7_siftBy_111 (pc' := 112) rfl ?_
          refine r_iast X dX7_siftBy_112 (pc' := 113) rfl (by omega) (wC_e35 _ _ _ _ _ _ _ _) (by omega) (by omega) ?_
          rw [wC_s35]
          try rw [sbp_t (cB_of c_100)]
          refine r_iincN (vs' := [_, _, _, _]) X dX7_siftBy_113 (pc' := 116) rfl (by decide) rfl rfl ?_
          refine r_goto (tgt := 89) X dX7_siftBy_116 (by decide) ?_
          exact ih3 ω (i + 1) (by omega) (by omega) h3 hF
  have loop2 : ∀ (mloop2 : Nat) (ω : Nat → Nat → Nat) (i : Nat), 64 - i < mloop2 → (i ≤ 64) → (∀ i, ω 3 i < 2 ^ 31) → (sbp (sbp ω 1 (fun m => rfM a m (ω 3 m)) bit 64) 2 (rfS b) bit 80 = Ω) → Z K P n (wC P h ι φ ℓ lt ρ (sbp ω 1 (fun m => rfM a m (ω 3 m)) bit i)) 0 0 51 [some (.ref (Bs P + 32)), some (.ref (Bs P + k)), some (.int (nI bit)), some (.int (nI i))] [] := by
    intro mloop2
    induction mloop2 with
    | zero => intro ω i hmloop2; exact absurd hmloop2 (Nat.not_lt_zero _)
    | succ mloop2 ih2 =>
      intro ω i hmloop2 hi h3 hF
      refine r_iload_n X dX7_siftBy_51 (pc' := 52) rfl rfl ?_
      refine r_bipush (v := nI 64) X (by decide) dX7_siftBy_52 (pc' := 54) rfl ?_
      refine rN_icmp_ge X dX7_siftBy_54 (tgt := 87) (by decide) (pc' := 57) rfl (by omega) (by omega) (fun c_54 => ?_) (fun c_54 => ?_)
      · refine r_iconst (v := nI 0) X (by decide) dX7_siftBy_87 (pc' := 88) rfl ?_
        refine r_istore_n (vs' := [_, _, _, _]) X dX7_siftBy_88 (pc' := 89) rfl (by decide) rfl ?_
        have l3 := loop3 _ (sbp ω 1 (fun m => rfM a m (ω 3 m)) bit 64) 0 (Nat.lt_succ_self _) (Nat.zero_le _) (fun i => by rw [sbp_r (Or.inl (by decide))]; exact h3 i) hF
        rw [sbp_0] at l3
        rw [show i = 64 by omega]
        exact l3
      · refine r_aload_n X dX7_siftBy_57 (pc' := 58) rfl rfl ?_
        refine r_iload_n X dX7_siftBy_58 (pc' := 59) rfl rfl ?_
        refine r_aload_n X dX7_siftBy_59 (pc' := 60) rfl rfl ?_
        refine r_get X fX7 lf_X7_21 dX7_siftBy_60 (pc' := 63) rfl (by decide) (by omega) (wC_e32 _ _ _ _ _ _ _ _) rfl ?_
        refine r_iload_n X dX7_siftBy_63 (pc' := 64) rfl rfl ?_
        refine r_iald X dX7_siftBy_64 (pc' := 65) rfl (by omega) (wC_e36 _ _ _ _ _ _ _ _) (by omega) (by omega) ?_
        rw [sbp_r (Or.inl (by decide))]
        refine r_callV (As := [_, _]) X okX6_fitsMarks lm_X7_62 dX7_siftBy_65 (pc' := 68) rfl (ct_X6_fitsMarks P n _ k a b s hk ((wC_out hk2).trans he) ha hb hwp i (ω 3 i) (by omega) (h3 i)) (by omega) ((wC_out hk2).trans he) rfl rfl rfl rfl (Nat.le_of_ble_eq_true rfl) (by omega) (by omega) (by omega) ?_
        dsimp only [Option.toList, List.cons_append, List.nil_append]
        refine rB_if_eq X dX7_siftBy_68 (tgt := 81) (by decide) (pc' := 71) rfl (fun c_68 => ?_) (fun c_68 => ?_)
        · rw [sbp_f (cB_nf c_68)]
          try rw [sbp_t (cB_of c_68)]
          refine r_iincN (vs' := [_, _, _, _]) X dX7_siftBy_81 (pc' := 84) rfl (by decide) rfl rfl ?_
          refine r_goto (tgt := 51) X dX7_siftBy_84 (by decide) ?_
          exact ih2 ω (i + 1) (by omega) (by omega) h3 hF
        · refine r_aload_n X dX7_siftBy_71 (pc' := 72) rfl rfl ?_
          refine r_get X fX7 lf_X7_15 dX7_siftBy_72 (pc' := 75) rfl (by decide) (by omega) (wC_e32 _ _ _ _ _ _ _ _) rfl ?_
          refine r_iload_n X dX7_siftBy_75 (pc' := 76) rfl rfl ?_
          refine r_dup2 X rfl rfl dX7_siftBy_76 (pc' := 77) rfl ?_
          refine r_iald X dX7_siftBy_77 (pc' := 78) rfl (by omega) (wC_e34 _ _ _ _ _ _ _ _) (by omega) (by omega) ?_
          rw [sbp_r (Or.inr (Nat.le_refl _))]
          refine r_iload_n X dX7_siftBy_78 (pc' := 79) rfl rfl ?_
          first | refine rN_ior X dX7_siftBy_79 (pc' := 80) rfl ?_ | refine r_ior X dX7_siftBy_79 (pc' := 80) rfl ?_
          refine r_iast X dX7_siftBy_80 (pc' := 81) rfl (by omega) (wC_e34 _ _ _ _ _ _ _ _) (by omega) (by omega) ?_
          rw [wC_s34]
          try rw [sbp_t (cB_of c_68)]
          refine r_iincN (vs' := [_, _, _, _]) X dX7_siftBy_81 (pc' := 84) rfl (by decide) rfl rfl ?_
          refine r_goto (tgt := 51) X dX7_siftBy_84 (by decide) ?_
          exact ih2 ω (i + 1) (by omega) (by omega) h3 hF
  have loop1 : ∀ (mloop1 : Nat) (ω : Nat → Nat → Nat) (i : Nat), 16 - i < mloop1 → (i ≤ 16) → (∀ i, ω 3 i < 2 ^ 31) → (sbp (sbp (sbp ω 0 (rfR a) bit 16) 1 (fun m => rfM a m (ω 3 m)) bit 64) 2 (rfS b) bit 80 = Ω) → Z K P n (wC P h ι φ ℓ lt ρ (sbp ω 0 (rfR a) bit i)) 0 0 19 [some (.ref (Bs P + 32)), some (.ref (Bs P + k)), some (.int (nI bit)), some (.int (nI i))] [] := by
    intro mloop1
    induction mloop1 with
    | zero => intro ω i hmloop1; exact absurd hmloop1 (Nat.not_lt_zero _)
    | succ mloop1 ih1 =>
      intro ω i hmloop1 hi h3 hF
      refine r_iload_n X dX7_siftBy_19 (pc' := 20) rfl rfl ?_
      refine r_bipush (v := nI 16) X (by decide) dX7_siftBy_20 (pc' := 22) rfl ?_
      refine rN_icmp_ge X dX7_siftBy_22 (tgt := 49) (by decide) (pc' := 25) rfl (by omega) (by omega) (fun c_22 => ?_) (fun c_22 => ?_)
      · refine r_iconst (v := nI 0) X (by decide) dX7_siftBy_49 (pc' := 50) rfl ?_
        refine r_istore_n (vs' := [_, _, _, _]) X dX7_siftBy_50 (pc' := 51) rfl (by decide) rfl ?_
        have l2 := loop2 _ (sbp ω 0 (rfR a) bit 16) 0 (Nat.lt_succ_self _) (Nat.zero_le _) (fun i => by rw [sbp_r (Or.inl (by decide))]; exact h3 i) (by rw [show (fun m => rfM a m (sbp ω 0 (rfR a) bit 16 3 m)) = (fun m => rfM a m (ω 3 m)) by funext m; rw [sbp_r (Or.inl (by decide))]]; exact hF)
        rw [sbp_0] at l2
        rw [show i = 16 by omega]
        exact l2
      · refine r_aload_n X dX7_siftBy_25 (pc' := 26) rfl rfl ?_
        refine r_iload_n X dX7_siftBy_26 (pc' := 27) rfl rfl ?_
        refine r_callV (As := [_]) X okX6_fitsRoles lm_X7_58 dX7_siftBy_27 (pc' := 30) rfl (ct_X6_fitsRoles P n _ k a b s hk ((wC_out hk2).trans he) ha hb i (by omega)) (by omega) ((wC_out hk2).trans he) rfl rfl rfl rfl (Nat.le_of_ble_eq_true rfl) (by omega) (by omega) (by omega) ?_
        dsimp only [Option.toList, List.cons_append, List.nil_append]
        refine rB_if_eq X dX7_siftBy_30 (tgt := 43) (by decide) (pc' := 33) rfl (fun c_30 => ?_) (fun c_30 => ?_)
        · rw [sbp_f (cB_nf c_30)]
          try rw [sbp_t (cB_of c_30)]
          refine r_iincN (vs' := [_, _, _, _]) X dX7_siftBy_43 (pc' := 46) rfl (by decide) rfl rfl ?_
          refine r_goto (tgt := 19) X dX7_siftBy_46 (by decide) ?_
          exact ih1 ω (i + 1) (by omega) (by omega) h3 hF
        · refine r_aload_n X dX7_siftBy_33 (pc' := 34) rfl rfl ?_
          refine r_get X fX7 lf_X7_9 dX7_siftBy_34 (pc' := 37) rfl (by decide) (by omega) (wC_e32 _ _ _ _ _ _ _ _) rfl ?_
          refine r_iload_n X dX7_siftBy_37 (pc' := 38) rfl rfl ?_
          refine r_dup2 X rfl rfl dX7_siftBy_38 (pc' := 39) rfl ?_
          refine r_iald X dX7_siftBy_39 (pc' := 40) rfl (by omega) (wC_e33 _ _ _ _ _ _ _ _) (by omega) (by omega) ?_
          rw [sbp_r (Or.inr (Nat.le_refl _))]
          refine r_iload_n X dX7_siftBy_40 (pc' := 41) rfl rfl ?_
          first | refine rN_ior X dX7_siftBy_41 (pc' := 42) rfl ?_ | refine r_ior X dX7_siftBy_41 (pc' := 42) rfl ?_
          refine r_iast X dX7_siftBy_42 (pc' := 43) rfl (by omega) (wC_e33 _ _ _ _ _ _ _ _) (by omega) (by omega) ?_
          rw [wC_s33]
          try rw [sbp_t (cB_of c_30)]
          refine r_iincN (vs' := [_, _, _, _]) X dX7_siftBy_43 (pc' := 46) rfl (by decide) rfl rfl ?_
          refine r_goto (tgt := 19) X dX7_siftBy_46 (by decide) ?_
          exact ih1 ω (i + 1) (by omega) (by omega) h3 hF
  refine r_aload_n X dX7_siftBy_0 (pc' := 1) rfl rfl ?_
  refine r_getN X fX6 lf_X7_53 dX7_siftBy_1 (pc' := 4) rfl (by decide) (by omega) ((wC_out hk2).trans he) rfl ?_
  refine rN_if_ne X dX7_siftBy_4 (tgt := 17) (by decide) (pc' := 7) rfl (by omega) (fun c_4 => ?_) (fun c_4 => ?_)
  · have e1 : sb1 ω s bit = ω := if_neg c_4
    refine r_iconst (v := nI 0) X (by decide) dX7_siftBy_17 (pc' := 18) rfl ?_
    refine r_istore_n (vs' := [_, _, _, _]) X dX7_siftBy_18 (pc' := 19) rfl (by decide) rfl ?_
    rw [← e1]
    have l1 := loop1 _ (sb1 ω s bit) 0 (Nat.lt_succ_self _) (Nat.zero_le _) (fun i => by rw [show sb1 ω s bit 3 i = ω 3 i by unfold sb1; split <;> rfl]; exact h3 i) (by rw [hΩ, show (fun m => rfM a m (sb1 ω s bit 3 m)) = (fun m => rfM a m (ω 3 m)) by funext m; unfold sb1; split <;> rfl] <;> rfl)
    rw [sbp_0] at l1
    exact l1
  · have e1 : sb1 ω s bit = up2 ω 4 0 (ω 4 0 ||| bit) := if_pos c_4
    refine r_aload_n X dX7_siftBy_7 (pc' := 8) rfl rfl ?_
    refine r_dup X rfl dX7_siftBy_8 (pc' := 9) rfl ?_
    refine r_get X fX7 lf_X7_24 dX7_siftBy_9 (pc' := 12) rfl (by decide) (by omega) (wC_e32 _ _ _ _ _ _ _ _) rfl ?_
    refine r_iload_n X dX7_siftBy_12 (pc' := 13) rfl rfl ?_
    first | refine rN_ior X dX7_siftBy_13 (pc' := 14) rfl ?_ | refine r_ior X dX7_siftBy_13 (pc' := 14) rfl ?_
    refine r_put X fX7 lf_X7_24 rfl dX7_siftBy_14 (pc' := 17) rfl (by decide) (by omega) (wC_e32 _ _ _ _ _ _ _ _) (Nat.le_of_ble_eq_true rfl) rfl rfl ?_
    rw [wC_let]
    refine r_iconst (v := nI 0) X (by decide) dX7_siftBy_17 (pc' := 18) rfl ?_
    refine r_istore_n (vs' := [_, _, _, _]) X dX7_siftBy_18 (pc' := 19) rfl (by decide) rfl ?_
    rw [← e1]
    have l1 := loop1 _ (sb1 ω s bit) 0 (Nat.lt_succ_self _) (Nat.zero_le _) (fun i => by rw [show sb1 ω s bit 3 i = ω 3 i by unfold sb1; split <;> rfl]; exact h3 i) (by rw [hΩ, show (fun m => rfM a m (sb1 ω s bit 3 m)) = (fun m => rfM a m (ω 3 m)) by funext m; unfold sb1; split <;> rfl] <;> rfl)
    rw [sbp_0] at l1
    exact l1
