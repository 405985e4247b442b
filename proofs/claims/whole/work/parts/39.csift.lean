/-! ===== World: sift ===== -/
noncomputable def sbp (ω : Nat → Nat → Nat) (c0 : Nat) (p : Nat → Prop) (bit m : Nat) : Nat → Nat → Nat := fun c i => pif (c = c0 ∧ i < m ∧ p i) (ω c i ||| bit) (ω c i)
theorem sbp_0 {ω : Nat → Nat → Nat} {c0 bit : Nat} {p : Nat → Prop} : sbp ω c0 p bit 0 = ω := by
  funext c i
  unfold sbp
  rw [pif_f (fun q => absurd q.2.1 (Nat.not_lt_zero _))]
theorem sbp_r {ω : Nat → Nat → Nat} {c0 bit m c i : Nat} {p : Nat → Prop} (h : c ≠ c0 ∨ m ≤ i) : sbp ω c0 p bit m c i = ω c i := by
  unfold sbp
  rw [pif_f (fun q => h.elim (fun z => z q.1) (fun z => absurd q.2.1 (by omega)))]
theorem sbp_t {ω : Nat → Nat → Nat} {c0 bit m : Nat} {p : Nat → Prop} (h : p m) : up2 (sbp ω c0 p bit m) c0 m (ω c0 m ||| bit) = sbp ω c0 p bit (m + 1) := by
  funext c i
  unfold up2
  by_cases hc : c = c0 ∧ i = m
  · rw [if_pos hc]
    obtain ⟨rfl, rfl⟩ := hc
    unfold sbp
    rw [pif_t ⟨rfl, by omega, h⟩]
  · rw [if_neg hc]
    unfold sbp
    by_cases hq : c = c0 ∧ i < m ∧ p i
    · rw [pif_t hq, pif_t ⟨hq.1, by omega, hq.2.2⟩]
    · rw [pif_f hq, pif_f (fun z => hq ⟨z.1, by have h2 := z.2.1; have : i ≠ m := fun e => hc ⟨z.1, e⟩; omega, z.2.2⟩)]
theorem sbp_f {ω : Nat → Nat → Nat} {c0 bit m : Nat} {p : Nat → Prop} (h : ¬ p m) : sbp ω c0 p bit m = sbp ω c0 p bit (m + 1) := by
  funext c i
  unfold sbp
  by_cases hq : c = c0 ∧ i < m ∧ p i
  · rw [pif_t hq, pif_t ⟨hq.1, by omega, hq.2.2⟩]
  · rw [pif_f hq, pif_f (fun z => hq ⟨z.1, by have h2 := z.2.1; have : i ≠ m := fun e => h (e ▸ z.2.2); omega, z.2.2⟩)]
noncomputable def sb1 (ω : Nat → Nat → Nat) (s bit : Nat) : Nat → Nat → Nat := if s = 0 then up2 ω 4 0 (ω 4 0 ||| bit) else ω
noncomputable def sbA (ω : Nat → Nat → Nat) (a b s bit : Nat) : Nat → Nat → Nat := sbp (sbp (sbp (sb1 ω s bit) 0 (rfR a) bit 16) 1 (fun m => rfM a m (ω 3 m)) bit 64) 2 (rfS b) bit 80
set_option maxRecDepth 100000 in
set_option maxHeartbeats 1000000 in
theorem ct_X7_siftBy (P : Px) (n : Nat) (hn : 59 ≤ n) (h : hw) (ι : Nat → Nat) (φ : Nat → Nat → Nat) (ℓ : Nat → Nat) (lt : Nat → Option Nat) (ρ : Nat → Nat → Option Nat) (ω : Nat → Nat → Nat) (W : Wf ι φ) (k a b s : Nat) (hk : k < n) (hk2 : 37 ≤ k) (he : h k = rcell a b s) (ha : a < 160000) (hb : b < 160000) (hwp : whatP a) (hs2 : s ≤ 2) (bit : Nat) (h3 : ∀ i, i < 64 → ω 3 i < 2 ^ 31) : Ct P MX7_siftBy 2 0 0 [.ref (Bs P + 32), .ref (Bs P + k), .int (nI bit)] n (wC P h ι φ ℓ lt ρ ω) none n (wC P h ι φ ℓ lt ρ (sbA ω a b s bit)) := by
  refine Ct.of (by decide +kernel) (Nat.le_of_ble_eq_true rfl) rfl (fun K X hnm r => ?_)
  have X : Cx K P RX7 cX7_siftBy 4 2 0 0 := X
  have r : Rt K P none 0 0 _ _ _ := r
  show Z K P _ _ 0 0 0 [some (.ref (Bs P + 32)), some (.ref (Bs P + k)), some (.int (nI bit)), none] []
  obtain ⟨Ω, hΩ⟩ : ∃ Ω, Ω = sbA ω a b s bit := ⟨_, rfl⟩
  rw [← hΩ] at r
  have loop3 : ∀ (mloop3 : Nat) (ω : Nat → Nat → Nat) (i : Nat), 80 - i < mloop3 → (i ≤ 80) → (∀ i, i < 64 → ω 3 i < 2 ^ 31) → (sbp ω 2 (rfS b) bit 80 = Ω) → Z K P n (wC P h ι φ ℓ lt ρ (sbp ω 2 (rfS b) bit i)) 0 0 89 [some (.ref (Bs P + 32)), some (.ref (Bs P + k)), some (.int (nI bit)), some (.int (nI i))] [] := by
    intro mloop3
    induction mloop3 with
    | zero => intro ω i hmloop3; exact absurd hmloop3 (Nat.not_lt_zero _)
    | succ mloop3 ih3 =>
      intro ω i hmloop3 hi h3 hF
      refine r_iload_n X dX7_siftBy_89 (pc' := 90) rfl rfl ?_
      refine r_bipush (v := nI 80) X (by decide) dX7_siftBy_90 (pc' := 92) rfl ?_
      refine rN_icmp_ge X dX7_siftBy_92 (tgt := 119) (by decide) (pc' := 95) rfl (by omega) (by omega) (fun c_92 => ?_) (fun c_92 => ?_)
      · exact r_vret X r dX7_siftBy_119 (by omega) (by omega) rfl rfl (by rw [show i = 80 by omega, hF])
      · refine r_aload_n X dX7_siftBy_95 (pc' := 96) rfl rfl ?_
        refine r_iload_n X dX7_siftBy_96 (pc' := 97) rfl rfl ?_
        refine r_callV (As := [_]) X okX6_fitsSpot lm_X7_66 dX7_siftBy_97 (pc' := 100) rfl (ct_X6_fitsSpot P n _ k a b s hk ((wC_out hk2).trans he) ha hb i (by omega)) (by omega) ((wC_out hk2).trans he) rfl rfl rfl rfl (Nat.le_of_ble_eq_true rfl) (by omega) (by omega) (by omega) ?_
        dsimp only [Option.toList, List.cons_append, List.nil_append]
        refine rB_if_eq X dX7_siftBy_100 (tgt := 113) (by decide) (pc' := 103) rfl (fun c_100 => ?_) (fun c_100 => ?_)
        · rw [sbp_f (p := (rfS b)) (m := i) (cB_nf c_100)]
          try rw [sbp_t (p := (rfS b)) (m := i) (cB_of c_100)]
          refine r_iincN (vs' := [_, _, _, _]) X dX7_siftBy_113 (pc' := 116) rfl (by decide) rfl rfl ?_
          refine r_goto (tgt := 89) X dX7_siftBy_116 (by decide) ?_
          exact ih3 ω (i + 1) (by omega) (by omega) h3 hF
        · refine r_aload_n X dX7_siftBy_103 (pc' := 104) rfl rfl ?_
          refine r_get X fX7 lf_X7_18 dX7_siftBy_104 (pc' := 107) rfl (by decide) (by omega) (wC_e32 _ _ _ _ _ _ _ _) rfl ?_
          refine r_iload_n X dX7_siftBy_107 (pc' := 108) rfl rfl ?_
          refine r_dup2 X rfl rfl dX7_siftBy_108 (pc' := 109) rfl ?_
          refine r_iald X dX7_siftBy_109 (pc' := 110) rfl (by omega) (wC_e35 _ _ _ _ _ _ _ _) (by omega) (by omega) ?_
          rw [sbp_r (Or.inr (Nat.le_refl _))]
          refine r_iload_n X dX7_siftBy_110 (pc' := 111) rfl rfl ?_
          first | refine rN_ior X dX7_siftBy_111 (pc' := 112) rfl ?_ | refine r_ior X dX7_siftBy_111 (pc' := 112) rfl ?_
          refine r_iast X dX7_siftBy_112 (pc' := 113) rfl (by omega) (wC_e35 _ _ _ _ _ _ _ _) (by omega) (by omega) ?_
          rw [wC_s35]
          try rw [sbp_t (p := (rfS b)) (m := i) (cB_of c_100)]
          refine r_iincN (vs' := [_, _, _, _]) X dX7_siftBy_113 (pc' := 116) rfl (by decide) rfl rfl ?_
          refine r_goto (tgt := 89) X dX7_siftBy_116 (by decide) ?_
          exact ih3 ω (i + 1) (by omega) (by omega) h3 hF
  have loop2 : ∀ (mloop2 : Nat) (ω : Nat → Nat → Nat) (i : Nat), 64 - i < mloop2 → (i ≤ 64) → (∀ i, i < 64 → ω 3 i < 2 ^ 31) → (sbp (sbp ω 1 (fun m => rfM a m (ω 3 m)) bit 64) 2 (rfS b) bit 80 = Ω) → Z K P n (wC P h ι φ ℓ lt ρ (sbp ω 1 (fun m => rfM a m (ω 3 m)) bit i)) 0 0 51 [some (.ref (Bs P + 32)), some (.ref (Bs P + k)), some (.int (nI bit)), some (.int (nI i))] [] := by
    intro mloop2
    induction mloop2 with
    | zero => intro ω i hmloop2; exact absurd hmloop2 (Nat.not_lt_zero _)
    | succ mloop2 ih2 =>
      intro ω i hmloop2 hi h3 hF
      refine r_iload_n X dX7_siftBy_51 (pc' := 52) rfl rfl ?_
      refine r_bipush (v := nI 64) X (by decide) dX7_siftBy_52 (pc' := 54) rfl ?_
      refine rN_icmp_ge X dX7_siftBy_54 (tgt := 87) (by decide) (pc' := 57) rfl (by omega) (by omega) (fun c_54 => ?_) (fun c_54 => ?_)
      · refine r_iconst (v := nI 0) X (by decide) dX7_siftBy_87 (pc' := 88) rfl ?_
        refine r_istore_n (vs' := [_, _, _, _]) X dX7_siftBy_88 (pc' := 89) rfl (by decide) rfl ?_
        have l3 := loop3 _ (sbp ω 1 (fun m => rfM a m (ω 3 m)) bit 64) 0 (Nat.lt_succ_self _) (Nat.zero_le _) (fun i hi => by rw [sbp_r (Or.inl (by decide))]; exact h3 i hi) hF
        rw [sbp_0] at l3
        rw [show i = 64 by omega]
        exact l3
      · refine r_aload_n X dX7_siftBy_57 (pc' := 58) rfl rfl ?_
        refine r_iload_n X dX7_siftBy_58 (pc' := 59) rfl rfl ?_
        refine r_aload_n X dX7_siftBy_59 (pc' := 60) rfl rfl ?_
        refine r_get X fX7 lf_X7_21 dX7_siftBy_60 (pc' := 63) rfl (by decide) (by omega) (wC_e32 _ _ _ _ _ _ _ _) rfl ?_
        refine r_iload_n X dX7_siftBy_63 (pc' := 64) rfl rfl ?_
        refine r_iald X dX7_siftBy_64 (pc' := 65) rfl (by omega) (wC_e36 _ _ _ _ _ _ _ _) (by omega) (by omega) ?_
        rw [sbp_r (Or.inl (by decide))]
        refine r_callV (As := [_, _]) X okX6_fitsMarks lm_X7_62 dX7_siftBy_65 (pc' := 68) rfl (ct_X6_fitsMarks P n _ k a b s hk ((wC_out hk2).trans he) ha hb hwp i (ω 3 i) (by omega) (h3 i (by omega))) (by omega) ((wC_out hk2).trans he) rfl rfl rfl rfl (Nat.le_of_ble_eq_true rfl) (by omega) (by omega) (by omega) ?_
        dsimp only [Option.toList, List.cons_append, List.nil_append]
        refine rB_if_eq X dX7_siftBy_68 (tgt := 81) (by decide) (pc' := 71) rfl (fun c_68 => ?_) (fun c_68 => ?_)
        · rw [sbp_f (p := (fun m => rfM a m (ω 3 m))) (m := i) (cB_nf c_68)]
          try rw [sbp_t (p := (fun m => rfM a m (ω 3 m))) (m := i) (cB_of c_68)]
          refine r_iincN (vs' := [_, _, _, _]) X dX7_siftBy_81 (pc' := 84) rfl (by decide) rfl rfl ?_
          refine r_goto (tgt := 51) X dX7_siftBy_84 (by decide) ?_
          exact ih2 ω (i + 1) (by omega) (by omega) h3 hF
        · refine r_aload_n X dX7_siftBy_71 (pc' := 72) rfl rfl ?_
          refine r_get X fX7 lf_X7_15 dX7_siftBy_72 (pc' := 75) rfl (by decide) (by omega) (wC_e32 _ _ _ _ _ _ _ _) rfl ?_
          refine r_iload_n X dX7_siftBy_75 (pc' := 76) rfl rfl ?_
          refine r_dup2 X rfl rfl dX7_siftBy_76 (pc' := 77) rfl ?_
          refine r_iald X dX7_siftBy_77 (pc' := 78) rfl (by omega) (wC_e34 _ _ _ _ _ _ _ _) (by omega) (by omega) ?_
          rw [sbp_r (Or.inr (Nat.le_refl _))]
          refine r_iload_n X dX7_siftBy_78 (pc' := 79) rfl rfl ?_
          first | refine rN_ior X dX7_siftBy_79 (pc' := 80) rfl ?_ | refine r_ior X dX7_siftBy_79 (pc' := 80) rfl ?_
          refine r_iast X dX7_siftBy_80 (pc' := 81) rfl (by omega) (wC_e34 _ _ _ _ _ _ _ _) (by omega) (by omega) ?_
          rw [wC_s34]
          try rw [sbp_t (p := (fun m => rfM a m (ω 3 m))) (m := i) (cB_of c_68)]
          refine r_iincN (vs' := [_, _, _, _]) X dX7_siftBy_81 (pc' := 84) rfl (by decide) rfl rfl ?_
          refine r_goto (tgt := 51) X dX7_siftBy_84 (by decide) ?_
          exact ih2 ω (i + 1) (by omega) (by omega) h3 hF
  have loop1 : ∀ (mloop1 : Nat) (ω : Nat → Nat → Nat) (i : Nat), 16 - i < mloop1 → (i ≤ 16) → (∀ i, i < 64 → ω 3 i < 2 ^ 31) → (sbp (sbp (sbp ω 0 (rfR a) bit 16) 1 (fun m => rfM a m (ω 3 m)) bit 64) 2 (rfS b) bit 80 = Ω) → Z K P n (wC P h ι φ ℓ lt ρ (sbp ω 0 (rfR a) bit i)) 0 0 19 [some (.ref (Bs P + 32)), some (.ref (Bs P + k)), some (.int (nI bit)), some (.int (nI i))] [] := by
    intro mloop1
    induction mloop1 with
    | zero => intro ω i hmloop1; exact absurd hmloop1 (Nat.not_lt_zero _)
    | succ mloop1 ih1 =>
      intro ω i hmloop1 hi h3 hF
      refine r_iload_n X dX7_siftBy_19 (pc' := 20) rfl rfl ?_
      refine r_bipush (v := nI 16) X (by decide) dX7_siftBy_20 (pc' := 22) rfl ?_
      refine rN_icmp_ge X dX7_siftBy_22 (tgt := 49) (by decide) (pc' := 25) rfl (by omega) (by omega) (fun c_22 => ?_) (fun c_22 => ?_)
      · refine r_iconst (v := nI 0) X (by decide) dX7_siftBy_49 (pc' := 50) rfl ?_
        refine r_istore_n (vs' := [_, _, _, _]) X dX7_siftBy_50 (pc' := 51) rfl (by decide) rfl ?_
        have l2 := loop2 _ (sbp ω 0 (rfR a) bit 16) 0 (Nat.lt_succ_self _) (Nat.zero_le _) (fun i hi => by rw [sbp_r (Or.inl (by decide))]; exact h3 i hi) (by rw [show (fun m => rfM a m (sbp ω 0 (rfR a) bit 16 3 m)) = (fun m => rfM a m (ω 3 m)) by funext m; rw [sbp_r (Or.inl (by decide))]]; exact hF)
        rw [sbp_0] at l2
        rw [show i = 16 by omega]
        exact l2
      · refine r_aload_n X dX7_siftBy_25 (pc' := 26) rfl rfl ?_
        refine r_iload_n X dX7_siftBy_26 (pc' := 27) rfl rfl ?_
        refine r_callV (As := [_]) X okX6_fitsRoles lm_X7_58 dX7_siftBy_27 (pc' := 30) rfl (ct_X6_fitsRoles P n _ k a b s hk ((wC_out hk2).trans he) ha hb i (by omega)) (by omega) ((wC_out hk2).trans he) rfl rfl rfl rfl (Nat.le_of_ble_eq_true rfl) (by omega) (by omega) (by omega) ?_
        dsimp only [Option.toList, List.cons_append, List.nil_append]
        refine rB_if_eq X dX7_siftBy_30 (tgt := 43) (by decide) (pc' := 33) rfl (fun c_30 => ?_) (fun c_30 => ?_)
        · rw [sbp_f (p := (rfR a)) (m := i) (cB_nf c_30)]
          try rw [sbp_t (p := (rfR a)) (m := i) (cB_of c_30)]
          refine r_iincN (vs' := [_, _, _, _]) X dX7_siftBy_43 (pc' := 46) rfl (by decide) rfl rfl ?_
          refine r_goto (tgt := 19) X dX7_siftBy_46 (by decide) ?_
          exact ih1 ω (i + 1) (by omega) (by omega) h3 hF
        · refine r_aload_n X dX7_siftBy_33 (pc' := 34) rfl rfl ?_
          refine r_get X fX7 lf_X7_9 dX7_siftBy_34 (pc' := 37) rfl (by decide) (by omega) (wC_e32 _ _ _ _ _ _ _ _) rfl ?_
          refine r_iload_n X dX7_siftBy_37 (pc' := 38) rfl rfl ?_
          refine r_dup2 X rfl rfl dX7_siftBy_38 (pc' := 39) rfl ?_
          refine r_iald X dX7_siftBy_39 (pc' := 40) rfl (by omega) (wC_e33 _ _ _ _ _ _ _ _) (by omega) (by omega) ?_
          rw [sbp_r (Or.inr (Nat.le_refl _))]
          refine r_iload_n X dX7_siftBy_40 (pc' := 41) rfl rfl ?_
          first | refine rN_ior X dX7_siftBy_41 (pc' := 42) rfl ?_ | refine r_ior X dX7_siftBy_41 (pc' := 42) rfl ?_
          refine r_iast X dX7_siftBy_42 (pc' := 43) rfl (by omega) (wC_e33 _ _ _ _ _ _ _ _) (by omega) (by omega) ?_
          rw [wC_s33]
          try rw [sbp_t (p := (rfR a)) (m := i) (cB_of c_30)]
          refine r_iincN (vs' := [_, _, _, _]) X dX7_siftBy_43 (pc' := 46) rfl (by decide) rfl rfl ?_
          refine r_goto (tgt := 19) X dX7_siftBy_46 (by decide) ?_
          exact ih1 ω (i + 1) (by omega) (by omega) h3 hF
  refine r_aload_n X dX7_siftBy_0 (pc' := 1) rfl rfl ?_
  refine r_getN X fX6 lf_X7_53 dX7_siftBy_1 (pc' := 4) rfl (by decide) (by omega) ((wC_out hk2).trans he) rfl ?_
  refine rN_if_ne X dX7_siftBy_4 (tgt := 17) (by decide) (pc' := 7) rfl (by omega) (fun c_4 => ?_) (fun c_4 => ?_)
  · have e1 : sb1 ω s bit = ω := if_neg c_4
    refine r_iconst (v := nI 0) X (by decide) dX7_siftBy_17 (pc' := 18) rfl ?_
    refine r_istore_n (vs' := [_, _, _, _]) X dX7_siftBy_18 (pc' := 19) rfl (by decide) rfl ?_
    rw [← e1]
    have l1 := loop1 _ (sb1 ω s bit) 0 (Nat.lt_succ_self _) (Nat.zero_le _) (fun i hi => by rw [show sb1 ω s bit 3 i = ω 3 i by unfold sb1; split <;> rfl]; exact h3 i hi) (by rw [hΩ, show (fun m => rfM a m (sb1 ω s bit 3 m)) = (fun m => rfM a m (ω 3 m)) by funext m; unfold sb1; split <;> rfl] <;> rfl)
    rw [sbp_0] at l1
    exact l1
  · have e1 : sb1 ω s bit = up2 ω 4 0 (ω 4 0 ||| bit) := if_pos c_4
    refine r_aload_n X dX7_siftBy_7 (pc' := 8) rfl rfl ?_
    refine r_dup X rfl dX7_siftBy_8 (pc' := 9) rfl ?_
    refine r_get X fX7 lf_X7_24 dX7_siftBy_9 (pc' := 12) rfl (by decide) (by omega) (wC_e32 _ _ _ _ _ _ _ _) rfl ?_
    refine r_iload_n X dX7_siftBy_12 (pc' := 13) rfl rfl ?_
    first | refine rN_ior X dX7_siftBy_13 (pc' := 14) rfl ?_ | refine r_ior X dX7_siftBy_13 (pc' := 14) rfl ?_
    refine r_put X fX7 lf_X7_24 rfl dX7_siftBy_14 (pc' := 17) rfl (by decide) (by omega) (wC_e32 _ _ _ _ _ _ _ _) (Nat.le_of_ble_eq_true rfl) rfl rfl ?_
    rw [wC_let]
    refine r_iconst (v := nI 0) X (by decide) dX7_siftBy_17 (pc' := 18) rfl ?_
    refine r_istore_n (vs' := [_, _, _, _]) X dX7_siftBy_18 (pc' := 19) rfl (by decide) rfl ?_
    rw [← e1]
    have l1 := loop1 _ (sb1 ω s bit) 0 (Nat.lt_succ_self _) (Nat.zero_le _) (fun i hi => by rw [show sb1 ω s bit 3 i = ω 3 i by unfold sb1; split <;> rfl]; exact h3 i hi) (by rw [hΩ, show (fun m => rfM a m (sb1 ω s bit 3 m)) = (fun m => rfM a m (ω 3 m)) by funext m; unfold sb1; split <;> rfl] <;> rfl)
    rw [sbp_0] at l1
    exact l1

def sy (ω φ : Nat → Nat → Nat) (m : Nat) : Nat → Nat → Nat := fun c i => if c = 3 ∧ i < m then sm φ i 3 else ω c i
theorem sy_0 {ω φ : Nat → Nat → Nat} : sy ω φ 0 = ω := by
  funext c i
  unfold sy
  rw [if_neg (by omega)]
theorem sy_s {ω φ : Nat → Nat → Nat} {m : Nat} : up2 (sy ω φ m) 3 m (sm φ m 3) = sy ω φ (m + 1) := by
  funext c i
  unfold up2 sy
  by_cases h1 : c = 3 ∧ i = m
  · obtain ⟨rfl, rfl⟩ := h1
    rw [if_pos ⟨rfl, rfl⟩, if_pos ⟨rfl, by omega⟩]
  · rw [if_neg h1]
    by_cases h2 : c = 3 ∧ i < m
    · rw [if_pos h2, if_pos ⟨h2.1, by omega⟩]
    · rw [if_neg h2, if_neg (fun z => h2 ⟨z.1, by have : i ≠ m := fun e => h1 ⟨z.1, e⟩; omega⟩)]
noncomputable def swN (φ : Nat → Nat → Nat) (hp : Nat) (ω : Nat → Nat → Nat) : Nat → Nat → Nat → Nat
  | 0 => ω
  | i + 1 => sbA (swN φ hp ω i) (φ 8 (12 * hp + i)) (φ 9 (12 * hp + i)) (φ 10 (12 * hp + i)) (1 * 2 ^ i)
theorem sb1_3 {ω : Nat → Nat → Nat} {s bit c i : Nat} (hc : c ≠ 4) : sb1 ω s bit c i = ω c i := by
  unfold sb1
  split
  · exact up2_n _ _ (Or.inl hc)
  · rfl
theorem sbA_3 {ω : Nat → Nat → Nat} {a b s bit i : Nat} : sbA ω a b s bit 3 i = ω 3 i := by
  unfold sbA
  rw [sbp_r (Or.inl (by decide)), sbp_r (Or.inl (by decide)), sbp_r (Or.inl (by decide)), sb1_3 (by decide)]
theorem swN_3 {φ : Nat → Nat → Nat} {hp : Nat} {ω : Nat → Nat → Nat} {i : Nat} : ∀ k, swN φ hp ω k 3 i = ω 3 i
  | 0 => rfl
  | k + 1 => sbA_3.trans (swN_3 k)
theorem sm_le {ι : Nat → Nat} {φ : Nat → Nat → Nat} (W : Wf ι φ) (m : Nat) : sm φ m 3 ≤ 81 := by
  simp only [sm]
  have a0 := Nat.mul_le_mul (mvN_le m 0) (W.v4 0)
  have a1 := Nat.mul_le_mul (mvN_le m 1) (W.v4 1)
  have a2 := Nat.mul_le_mul (mvN_le m 2) (W.v4 2)
  omega
def wz (ω : Nat → Nat → Nat) : Nat → Nat → Nat := zr (zr (zr (up2 ω 4 0 0) 0 16) 1 64) 2 80
noncomputable def siftN (φ : Nat → Nat → Nat) (hp : Nat) (ω : Nat → Nat → Nat) : Nat → Nat → Nat := swN φ hp (sy (wz ω) φ 64) (φ 7 hp)
set_option maxRecDepth 100000 in
set_option maxHeartbeats 1000000 in
theorem ct_X7_sift (P : Px) (n : Nat) (hn : 59 ≤ n) (h : hw) (ι : Nat → Nat) (φ : Nat → Nat → Nat) (ℓ : Nat → Nat) (lt : Nat → Option Nat) (ρ : Nat → Nat → Option Nat) (ω : Nat → Nat → Nat) (W : Wf ι φ) (hp : Nat) (hh : hp < 2) (Rr : RR φ ρ n h) : Ct P MX7_sift 3 0 0 [.ref (Bs P + 32), .ref (Bs P + (16 + 2 * hp)), .ref (Bs P + 4)] n (wC P h ι φ ℓ lt ρ ω) none n (wC P h ι φ ℓ lt ρ (siftN φ hp ω)) := by
  refine Ct.of (by decide +kernel) (Nat.le_of_ble_eq_true rfl) rfl (fun K X hnm r => ?_)
  have X : Cx K P RX7 cX7_sift 5 3 0 0 := X
  have r : Rt K P none 0 0 _ _ _ := r
  show Z K P _ _ 0 0 0 [some (.ref (Bs P + 32)), some (.ref (Bs P + (16 + 2 * hp))), some (.ref (Bs P + 4)), none, none] []
  obtain ⟨ωs, hωe⟩ : ∃ z, z = sy (wz ω) φ 64 := ⟨_, rfl⟩
  have hωs : ∀ i, i < 64 → ωs 3 i < 2 ^ 31 := fun i hi => by rw [hωe]; unfold sy; rw [if_pos ⟨rfl, hi⟩]; have := sm_le W i; omega
  have loopB : ∀ (mB : Nat) (i : Nat) (o : Option Value), φ 7 hp - i < mB → (i ≤ φ 7 hp) → Z K P n (wC P h ι φ ℓ lt ρ (swN φ hp ωs i)) 0 0 56 [some (.ref (Bs P + 32)), some (.ref (Bs P + (16 + 2 * hp))), some (.ref (Bs P + 4)), some (.int (nI i)), o] [] := by
    intro mB
    induction mB with
    | zero => intro i o hmB; exact absurd hmB (Nat.not_lt_zero _)
    | succ mB ihB =>
      intro i o hmB hi
      refine r_iload_n X dX7_sift_56 (pc' := 57) rfl rfl ?_
      refine r_aload_n X dX7_sift_57 (pc' := 58) rfl rfl ?_
      have b7 := W.v7 hp
      refine r_getN X fX1 lf_X7_40 dX7_sift_58 (pc' := 61) rfl (by decide) (by omega) (wC_hp _ _ _ _ _ _ _ _ hh) rfl ?_
      refine rN_icmp_ge X dX7_sift_61 (tgt := 91) (by decide) (pc' := 64) rfl (by omega) (by omega) (fun c_61 => ?_) (fun c_61 => ?_)
      · exact r_vret X r dX7_sift_91 (by omega) (by omega) rfl rfl (by rw [show i = φ 7 hp by omega, hωe] <;> rfl)
      · obtain ⟨k, hk0, hk1, hk2, hk3, hk4⟩ := Rr hp i hh c_61
        refine r_aload_n X dX7_sift_64 (pc' := 65) rfl rfl ?_
        refine r_iload_n X dX7_sift_65 (pc' := 66) rfl rfl ?_
        refine r_callV (As := [_]) X okX1_ruleAt lm_X7_45 dX7_sift_66 (pc' := 69) rfl (ct_X1_ruleAt_t P n hn h ι φ ℓ lt ρ (swN φ hp ωs i) W hp hh i k c_61 hk0) (by omega) (wC_hp _ _ _ _ _ _ _ _ hh) rfl rfl rfl rfl (Nat.le_of_ble_eq_true rfl) (by omega) (by omega) (by omega) ?_
        dsimp only [Option.toList, List.cons_append, List.nil_append]
        refine r_astore (vs' := [_, _, _, _, _]) X dX7_sift_69 (pc' := 71) rfl (by decide) rfl ?_
        refine r_aload X dX7_sift_71 (pc' := 73) rfl rfl ?_
        refine r_ifnull X dX7_sift_73 (pc' := 76) rfl ?_
        refine r_aload_n X dX7_sift_76 (pc' := 77) rfl rfl ?_
        refine r_aload X dX7_sift_77 (pc' := 79) rfl rfl ?_
        refine r_iconst (v := nI 1) X (by decide) dX7_sift_79 (pc' := 80) rfl ?_
        refine r_iload_n X dX7_sift_80 (pc' := 81) rfl rfl ?_
        refine rN_ishl X dX7_sift_81 (pc' := 82) rfl (by omega) (by rw [Nat.one_mul]; exact Nat.pow_lt_pow_right (by decide) (by omega)) ?_
        refine r_callV (As := [_, _]) X okX7_siftBy lm_X7_49 dX7_sift_82 (pc' := 85) rfl (ct_X7_siftBy P n hn h ι φ ℓ lt ρ (swN φ hp ωs i) W k _ _ _ hk2 (by omega) hk3 (W.v8 _) (W.v9 _) hk4 (W.v10 _) (1 * 2 ^ i) (fun q hq => by rw [swN_3]; exact hωs q hq)) (by omega) (wC_e32 _ _ _ _ _ _ _ _) rfl rfl rfl rfl (Nat.le_of_ble_eq_true rfl) (by omega) (by omega) (by omega) ?_
        dsimp only [Option.toList, List.cons_append, List.nil_append]
        refine r_iincN (vs' := [_, _, _, _, _]) X dX7_sift_85 (pc' := 88) rfl (by decide) rfl rfl ?_
        refine r_goto (tgt := 56) X dX7_sift_88 (by decide) ?_
        exact ihB (i + 1) _ (by omega) (by omega)
  have loopA : ∀ (mA : Nat) (i : Nat), 64 - i < mA → (i ≤ 64) → Z K P n (wC P h ι φ ℓ lt ρ (sy (wz ω) φ i)) 0 0 31 [some (.ref (Bs P + 32)), some (.ref (Bs P + (16 + 2 * hp))), some (.ref (Bs P + 4)), some (.int (nI i)), none] [] := by
    intro mA
    induction mA with
    | zero => intro i hmA; exact absurd hmA (Nat.not_lt_zero _)
    | succ mA ihA =>
      intro i hmA hi
      refine r_iload_n X dX7_sift_31 (pc' := 32) rfl rfl ?_
      refine r_bipush (v := nI 64) X (by decide) dX7_sift_32 (pc' := 34) rfl ?_
      refine rN_icmp_ge X dX7_sift_34 (tgt := 54) (by decide) (pc' := 37) rfl (by omega) (by omega) (fun c_34 => ?_) (fun c_34 => ?_)
      · refine r_iconst (v := nI 0) X (by decide) dX7_sift_54 (pc' := 55) rfl ?_
        refine r_istore_n (vs' := [_, _, _, _, _]) X dX7_sift_55 (pc' := 56) rfl (by decide) rfl ?_
        rw [show i = 64 by omega, ← hωe]
        exact loopB _ 0 none (Nat.lt_succ_self _) (Nat.zero_le _)
      · refine r_aload_n X dX7_sift_37 (pc' := 38) rfl rfl ?_
        refine r_get X fX7 lf_X7_21 dX7_sift_38 (pc' := 41) rfl (by decide) (by omega) (wC_e32 _ _ _ _ _ _ _ _) rfl ?_
        refine r_iload_n X dX7_sift_41 (pc' := 42) rfl rfl ?_
        refine r_aload_n X dX7_sift_42 (pc' := 43) rfl rfl ?_
        refine r_iload_n X dX7_sift_43 (pc' := 44) rfl rfl ?_
        refine r_callV (As := [_]) X okX5_sureOf lm_X7_34 dX7_sift_44 (pc' := 47) rfl (ct_X5_sureOf P n hn h ι φ ℓ lt ρ _ W i (by omega)) (by omega) (wC_e4 _ _ _ _ _ _ _ _) rfl rfl rfl rfl (Nat.le_of_ble_eq_true rfl) (by omega) (by omega) (by omega) ?_
        dsimp only [Option.toList, List.cons_append, List.nil_append]
        refine r_iast X dX7_sift_47 (pc' := 48) rfl (by omega) (wC_e36 _ _ _ _ _ _ _ _) (by omega) (by omega) ?_
        rw [wC_s36]
        rw [sy_s]
        refine r_iincN (vs' := [_, _, _, _, _]) X dX7_sift_48 (pc' := 51) rfl (by decide) rfl rfl ?_
        refine r_goto (tgt := 31) X dX7_sift_51 (by decide) ?_
        exact ihA (i + 1) (by omega) (by omega)
  refine r_aload_n X dX7_sift_0 (pc' := 1) rfl rfl ?_
  refine r_iconst (v := nI 0) X (by decide) dX7_sift_1 (pc' := 2) rfl ?_
  refine r_put X fX7 lf_X7_24 rfl dX7_sift_2 (pc' := 5) rfl (by decide) (by omega) (wC_e32 _ _ _ _ _ _ _ _) (Nat.le_of_ble_eq_true rfl) rfl rfl ?_
  rw [wC_let]
  refine r_aload_n X dX7_sift_5 (pc' := 6) rfl rfl ?_
  refine r_get X fX7 lf_X7_9 dX7_sift_6 (pc' := 9) rfl (by decide) (by omega) (wC_e32 _ _ _ _ _ _ _ _) rfl ?_
  refine r_iconst (v := nI 0) X (by decide) dX7_sift_9 (pc' := 10) rfl ?_
  refine r_callS (As := [_, _]) X okJ7_fill_53178 lm_X7_28 dX7_sift_10 (pc' := 13) rfl (ct_J7_fill_53178 P n _ 33 16 _ (nI 0) (by omega) (wC_e33 _ _ _ _ _ _ _ _) (by decide)) rfl rfl (Nat.le_of_ble_eq_true rfl) (by omega) (by omega) (by omega) ?_
  dsimp only [Option.toList, List.cons_append, List.nil_append]
  rw [wC_z33]
  refine r_aload_n X dX7_sift_13 (pc' := 14) rfl rfl ?_
  refine r_get X fX7 lf_X7_15 dX7_sift_14 (pc' := 17) rfl (by decide) (by omega) (wC_e32 _ _ _ _ _ _ _ _) rfl ?_
  refine r_iconst (v := nI 0) X (by decide) dX7_sift_17 (pc' := 18) rfl ?_
  refine r_callS (As := [_, _]) X okJ7_fill_53178 lm_X7_28 dX7_sift_18 (pc' := 21) rfl (ct_J7_fill_53178 P n _ 34 64 _ (nI 0) (by omega) (wC_e34 _ _ _ _ _ _ _ _) (by decide)) rfl rfl (Nat.le_of_ble_eq_true rfl) (by omega) (by omega) (by omega) ?_
  dsimp only [Option.toList, List.cons_append, List.nil_append]
  rw [wC_z34]
  refine r_aload_n X dX7_sift_21 (pc' := 22) rfl rfl ?_
  refine r_get X fX7 lf_X7_18 dX7_sift_22 (pc' := 25) rfl (by decide) (by omega) (wC_e32 _ _ _ _ _ _ _ _) rfl ?_
  refine r_iconst (v := nI 0) X (by decide) dX7_sift_25 (pc' := 26) rfl ?_
  refine r_callS (As := [_, _]) X okJ7_fill_53178 lm_X7_28 dX7_sift_26 (pc' := 29) rfl (ct_J7_fill_53178 P n _ 35 80 _ (nI 0) (by omega) (wC_e35 _ _ _ _ _ _ _ _) (by decide)) rfl rfl (Nat.le_of_ble_eq_true rfl) (by omega) (by omega) (by omega) ?_
  dsimp only [Option.toList, List.cons_append, List.nil_append]
  rw [wC_z35]
  refine r_iconst (v := nI 0) X (by decide) dX7_sift_29 (pc' := 30) rfl ?_
  refine r_istore_n (vs' := [_, _, _, _, _]) X dX7_sift_30 (pc' := 31) rfl (by decide) rfl ?_
  have l0 := loopA _ 0 (Nat.lt_succ_self _) (Nat.zero_le _)
  rw [sy_0] at l0
  exact l0
