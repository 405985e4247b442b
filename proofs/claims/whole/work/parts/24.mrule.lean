/-! ===== rule, unrule of the model ===== -/
theorem chg1_n {ι : Nat → Nat} {φ : Nat → Nat → Nat} {j k i : Nat} (h13 : k ≠ 13) (h15 : k ≠ 15) : chg1 ι φ j k i = φ k i := by
  unfold chg1
  split
  · exact fgt_n h13
  · exact up2_n _ _ (Or.inl h15)
theorem chg_n {ι : Nat → Nat} {φ : Nat → Nat → Nat} : ∀ (j : Nat) {k i : Nat}, k ≠ 13 → k ≠ 15 → chg ι φ j k i = φ k i
  | 0, _, _, _, _ => rfl
  | j + 1, _, _, h1, h2 => (chg1_n h1 h2).trans (chg_n j h1 h2)
def whatP (k : Nat) : Prop := k / 10000 ≤ 15 ∧ k / 1000 % 10 ≤ 3 ∧ k / 100 % 10 ≤ 3
def whereP (k : Nat) : Prop := k / 10000 ≤ 15 ∧ k / 100 % 100 ≤ 15 ∧ k % 10 ≤ 4 ∧ k / 10 % 10 ≤ k % 10
def ruleOK (φ : Nat → Nat → Nat) (hp what wh says : Int32) : Prop := inQ hp (nI 1) = true ∧ (¬ what < 0 ∧ whatP (tn what)) ∧ (¬ wh < 0 ∧ whereP (tn wh)) ∧ (says = nI 0 ∨ says = nI 2) ∧ ¬ φ 7 (tn hp) = 12
def putR (φ : Nat → Nat → Nat) (hp what wh says : Nat) : Nat → Nat → Nat := up2 (up2 (up2 (up2 φ 8 (12 * hp + φ 7 hp) what) 9 (12 * hp + φ 7 hp) wh) 10 (12 * hp + φ 7 hp) says) 7 hp (φ 7 hp + 1)
noncomputable def aRule (φ : Nat → Nat → Nat) (hp what wh says : Int32) : Int32 := pif (ruleOK φ hp what wh says) (nI (φ 7 (tn hp) + 1)) (-1)
noncomputable def sRule (ι : Nat → Nat) (φ : Nat → Nat → Nat) (hp what wh says : Int32) : Nat → Nat → Nat := pif (ruleOK φ hp what wh says) (chg ι (putR φ (tn hp) (tn what) (tn wh) (tn says)) 4) φ
theorem Wf.putR {ι : Nat → Nat} {φ : Nat → Nat → Nat} (W : Wf ι φ) {hp what wh says : Nat} (h1 : what < 160000) (h2 : wh < 160000) (h3 : says ≤ 2) (h4 : φ 7 hp < 12) : Wf ι (putR φ hp what wh says) :=
  (((W.up 8 _ _ (by simp [bdM]; omega)).up 9 _ _ (by simp [bdM]; omega)).up 10 _ _ (by simp [bdM]; omega)).up 7 _ _ (by simp [bdM]; omega)
def ush (φ : Nat → Nat → Nat) (b e : Nat) : Nat → Nat → Nat := fun k i => if (k = 8 ∨ k = 9 ∨ k = 10) ∧ b ≤ i ∧ i < e then φ k (i + 1) else φ k i
theorem ush_0 (φ : Nat → Nat → Nat) (b : Nat) : ush φ b b = φ := by
  funext k i
  unfold ush
  rw [if_neg (by omega)]
theorem ush_r {φ : Nat → Nat → Nat} {b e k i : Nat} (h : e ≤ i) : ush φ b e k i = φ k i := by unfold ush; rw [if_neg (by omega)]
theorem ush_s {φ : Nat → Nat → Nat} {b e : Nat} (hb : b ≤ e) : up2 (up2 (up2 (ush φ b e) 8 e (φ 8 (e + 1))) 9 e (φ 9 (e + 1))) 10 e (φ 10 (e + 1)) = ush φ b (e + 1) := by
  funext k i
  by_cases hi : i = e
  · subst hi
    by_cases h8 : k = 8
    · subst h8; simp [up2, ush, hb]
    · by_cases h9 : k = 9
      · subst h9; simp [up2, ush, hb]
      · by_cases h10 : k = 10
        · subst h10; simp [up2, ush, hb]
        · simp [up2, ush, h8, h9, h10]
  · rw [up2_n _ _ (Or.inr hi), up2_n _ _ (Or.inr hi), up2_n _ _ (Or.inr hi)]
    unfold ush
    by_cases hc : (k = 8 ∨ k = 9 ∨ k = 10) ∧ b ≤ i ∧ i < e
    · rw [if_pos hc, if_pos ⟨hc.1, hc.2.1, by omega⟩]
    · rw [if_neg hc, if_neg (fun q => hc ⟨q.1, q.2.1, by omega⟩)]
theorem ush_n {φ : Nat → Nat → Nat} {b e k i : Nat} (h8 : k ≠ 8) (h9 : k ≠ 9) (h10 : k ≠ 10) : ush φ b e k i = φ k i := by unfold ush; rw [if_neg (by omega)]
theorem ush_b {φ : Nat → Nat → Nat} {b e k c : Nat} (h : ∀ i, φ k i ≤ c) (i : Nat) : ush φ b e k i ≤ c := by unfold ush; split <;> exact h _
theorem Wf.ush {ι : Nat → Nat} {φ : Nat → Nat → Nat} (W : Wf ι φ) (b e : Nat) : Wf ι (ush φ b e) :=
  ⟨W.now, W.inF, W.asks, ush_b W.v0, ush_b W.v1, ush_b W.v2, ush_b W.v3, ush_b W.v4, ush_b W.v5, ush_b W.v6, ush_b W.v7, fun i => Nat.lt_succ_of_le (ush_b (fun i => Nat.le_of_lt_succ (W.v8 i)) i), fun i => Nat.lt_succ_of_le (ush_b (fun i => Nat.le_of_lt_succ (W.v9 i)) i), ush_b W.v10, ush_b W.v11, ush_b W.v12, ush_b W.v13, ush_b W.v14, ush_b W.v15, fun i => Nat.lt_succ_of_le (ush_b (fun i => Nat.le_of_lt_succ (W.v18 i)) i)⟩
def delR (φ : Nat → Nat → Nat) (hp r : Nat) : Nat → Nat → Nat := up2 (ush φ (12 * hp + r) (12 * hp + (φ 7 hp - 1))) 7 hp (φ 7 hp - 1)
noncomputable def sUnrule (ι : Nat → Nat) (φ : Nat → Nat → Nat) (x y : Int32) : Nat → Nat → Nat := pif (ruleQ φ x y = true) (chg ι (delR φ (tn x) (tn y)) 4) φ
theorem Wf.delR {ι : Nat → Nat} {φ : Nat → Nat → Nat} (W : Wf ι φ) (hp r : Nat) : Wf ι (delR φ hp r) := (W.ush _ _).up 7 _ _ (by have := W.v7 hp; simp [bdM]; omega)
set_option maxRecDepth 100000 in
set_option maxHeartbeats 4000000 in
theorem ct_X9_rule (P : Px) (n : Nat) (hn : 59 ≤ n) (h : hw) (ι : Nat → Nat) (φ : Nat → Nat → Nat) (W : Wf ι φ) (hp what wh says : Int32) : Ct P MX9_rule 2 0 0 [.ref (Bs P + 37), .int hp, .int what, .int wh, .int says] n (wM P h ι φ) (some (.int (aRule φ hp what wh says))) n (wM P h ι (sRule ι φ hp what wh says)) := by
  refine Ct.of (by decide +kernel) (Nat.le_of_ble_eq_true rfl) rfl (fun K X hnm r => ?_)
  have X : Cx K P RX9 cX9_rule 6 2 0 0 := X
  have r : Rt K P (some .int) 0 0 _ _ _ := r
  show Z K P _ _ 0 0 0 [some (.ref (Bs P + 37)), some (.int hp), some (.int what), some (.int wh), some (.int says), none] []
  have hno : ¬ ruleOK φ hp what wh says → aRule φ hp what wh says = -1 ∧ sRule ι φ hp what wh says = φ := fun q => ⟨pif_f q, pif_f q⟩
  have hno_ : ∀ q : ¬ ruleOK φ hp what wh says, ¬ ruleOK φ hp what wh says := fun q => q
  refine r_iload_n X dX9_rule_0 (pc' := 1) rfl rfl ?_
  refine r_callS (As := [_]) X okX9_isHeap lm_X9_95 dX9_rule_1 (pc' := 4) rfl (ct_X9_isHeap P n _ _) rfl rfl (Nat.le_of_ble_eq_true rfl) (by omega) (by omega) (by omega) ?_
  dsimp only [Option.toList, List.cons_append, List.nil_append]
  refine rB_if_eq X dX9_rule_4 (tgt := 44) (by decide) (pc' := 7) rfl (fun c_4 => ?_) (fun c_4 => ?_)
  · have no_ := hno_ (fun q => by
      obtain ⟨q1, ⟨q2, q3⟩, ⟨q4, q5⟩, q6, q7⟩ := q
      first
        | exact absurd q1 (by rw [c_4]; decide)
        | exact q2 c_8
        | (rw [tn_n ha] at q3; unfold whatP at q3; omega)
        | exact q4 c_47
        | (rw [tn_n hb] at q5; unfold whereP at q5; omega)
        | (rcases q6 with z | z
           · exact c_98 (z.trans nI_0)
           · exact c_104 z)
        | (rw [tn_n (k := h0) (by omega)] at q7; exact q7 c_115))
    refine r_iconst (v := (-1)) X (by decide) dX9_rule_44 (pc' := 45) rfl ?_
    exact r_iret X r dX9_rule_45 (by omega) (by omega) rfl (by rw [(hno no_).1]) rfl (by rw [(hno no_).2])
  · obtain ⟨h0, hh0, rfl⟩ := inQ_of (by decide) c_4
    have b7 := W.v7 h0
    refine r_iload_n X dX9_rule_7 (pc' := 8) rfl rfl ?_
    refine r_if_lt X dX9_rule_8 (tgt := 44) (by decide) (pc' := 11) rfl (fun c_8 => ?_) (fun c_8 => ?_)
    · have no_ := hno_ (fun q => by
        obtain ⟨q1, ⟨q2, q3⟩, ⟨q4, q5⟩, q6, q7⟩ := q
        first
          | exact absurd q1 (by rw [c_4]; decide)
          | exact q2 c_8
          | (rw [tn_n ha] at q3; unfold whatP at q3; omega)
          | exact q4 c_47
          | (rw [tn_n hb] at q5; unfold whereP at q5; omega)
          | (rcases q6 with z | z
             · exact c_98 (z.trans nI_0)
             · exact c_104 z)
          | (rw [tn_n (k := h0) (by omega)] at q7; exact q7 c_115))
      refine r_iconst (v := (-1)) X (by decide) dX9_rule_44 (pc' := 45) rfl ?_
      exact r_iret X r dX9_rule_45 (by omega) (by omega) rfl (by rw [(hno no_).1]) rfl (by rw [(hno no_).2])
    · obtain ⟨a, ha, rfl⟩ := nI_of c_8
      refine r_iload_n X dX9_rule_11 (pc' := 12) rfl rfl ?_
      refine r_sipush (v := nI 10000) X (by decide) dX9_rule_12 (pc' := 15) rfl ?_
      first | refine rN_idiv X dX9_rule_15 (pc' := 16) rfl (by omega) (by omega) (by omega) ?_ | refine r_idiv X (by decide) dX9_rule_15 (pc' := 16) rfl ?_
      refine r_bipush (v := nI 15) X (by decide) dX9_rule_16 (pc' := 18) rfl ?_
      refine rN_icmp_gt X dX9_rule_18 (tgt := 44) (by decide) (pc' := 21) rfl (by omega) (by omega) (fun c_18 => ?_) (fun c_18 => ?_)
      · have no_ := hno_ (fun q => by
          obtain ⟨q1, ⟨q2, q3⟩, ⟨q4, q5⟩, q6, q7⟩ := q
          first
            | exact absurd q1 (by rw [c_4]; decide)
            | exact q2 c_8
            | (rw [tn_n ha] at q3; unfold whatP at q3; omega)
            | exact q4 c_47
            | (rw [tn_n hb] at q5; unfold whereP at q5; omega)
            | (rcases q6 with z | z
               · exact c_98 (z.trans nI_0)
               · exact c_104 z)
            | (rw [tn_n (k := h0) (by omega)] at q7; exact q7 c_115))
        refine r_iconst (v := (-1)) X (by decide) dX9_rule_44 (pc' := 45) rfl ?_
        exact r_iret X r dX9_rule_45 (by omega) (by omega) rfl (by rw [(hno no_).1]) rfl (by rw [(hno no_).2])
      · refine r_iload_n X dX9_rule_21 (pc' := 22) rfl rfl ?_
        refine r_sipush (v := nI 1000) X (by decide) dX9_rule_22 (pc' := 25) rfl ?_
        first | refine rN_idiv X dX9_rule_25 (pc' := 26) rfl (by omega) (by omega) (by omega) ?_ | refine r_idiv X (by decide) dX9_rule_25 (pc' := 26) rfl ?_
        refine r_bipush (v := nI 10) X (by decide) dX9_rule_26 (pc' := 28) rfl ?_
        first | refine rN_irem X dX9_rule_28 (pc' := 29) rfl (by omega) (by omega) (by omega) ?_ | refine r_irem X (by decide) dX9_rule_28 (pc' := 29) rfl ?_
        refine r_iconst (v := nI 3) X (by decide) dX9_rule_29 (pc' := 30) rfl ?_
        refine rN_icmp_gt X dX9_rule_30 (tgt := 44) (by decide) (pc' := 33) rfl (by omega) (by omega) (fun c_30 => ?_) (fun c_30 => ?_)
        · have no_ := hno_ (fun q => by
            obtain ⟨q1, ⟨q2, q3⟩, ⟨q4, q5⟩, q6, q7⟩ := q
            first
              | exact absurd q1 (by rw [c_4]; decide)
              | exact q2 c_8
              | (rw [tn_n ha] at q3; unfold whatP at q3; omega)
              | exact q4 c_47
              | (rw [tn_n hb] at q5; unfold whereP at q5; omega)
              | (rcases q6 with z | z
                 · exact c_98 (z.trans nI_0)
                 · exact c_104 z)
              | (rw [tn_n (k := h0) (by omega)] at q7; exact q7 c_115))
          refine r_iconst (v := (-1)) X (by decide) dX9_rule_44 (pc' := 45) rfl ?_
          exact r_iret X r dX9_rule_45 (by omega) (by omega) rfl (by rw [(hno no_).1]) rfl (by rw [(hno no_).2])
        · refine r_iload_n X dX9_rule_33 (pc' := 34) rfl rfl ?_
          refine r_bipush (v := nI 100) X (by decide) dX9_rule_34 (pc' := 36) rfl ?_
          first | refine rN_idiv X dX9_rule_36 (pc' := 37) rfl (by omega) (by omega) (by omega) ?_ | refine r_idiv X (by decide) dX9_rule_36 (pc' := 37) rfl ?_
          refine r_bipush (v := nI 10) X (by decide) dX9_rule_37 (pc' := 39) rfl ?_
          first | refine rN_irem X dX9_rule_39 (pc' := 40) rfl (by omega) (by omega) (by omega) ?_ | refine r_irem X (by decide) dX9_rule_39 (pc' := 40) rfl ?_
          refine r_iconst (v := nI 3) X (by decide) dX9_rule_40 (pc' := 41) rfl ?_
          refine rN_icmp_le X dX9_rule_41 (tgt := 46) (by decide) (pc' := 44) rfl (by omega) (by omega) (fun c_41 => ?_) (fun c_41 => ?_)
          · refine r_iload_n X dX9_rule_46 (pc' := 47) rfl rfl ?_
            refine r_if_lt X dX9_rule_47 (tgt := 94) (by decide) (pc' := 50) rfl (fun c_47 => ?_) (fun c_47 => ?_)
            · have no_ := hno_ (fun q => by
                obtain ⟨q1, ⟨q2, q3⟩, ⟨q4, q5⟩, q6, q7⟩ := q
                first
                  | exact absurd q1 (by rw [c_4]; decide)
                  | exact q2 c_8
                  | (rw [tn_n ha] at q3; unfold whatP at q3; omega)
                  | exact q4 c_47
                  | (rw [tn_n hb] at q5; unfold whereP at q5; omega)
                  | (rcases q6 with z | z
                     · exact c_98 (z.trans nI_0)
                     · exact c_104 z)
                  | (rw [tn_n (k := h0) (by omega)] at q7; exact q7 c_115))
              refine r_iconst (v := (-1)) X (by decide) dX9_rule_94 (pc' := 95) rfl ?_
              exact r_iret X r dX9_rule_95 (by omega) (by omega) rfl (by rw [(hno no_).1]) rfl (by rw [(hno no_).2])
            · obtain ⟨b, hb, rfl⟩ := nI_of c_47
              refine r_iload_n X dX9_rule_50 (pc' := 51) rfl rfl ?_
              refine r_sipush (v := nI 10000) X (by decide) dX9_rule_51 (pc' := 54) rfl ?_
              first | refine rN_idiv X dX9_rule_54 (pc' := 55) rfl (by omega) (by omega) (by omega) ?_ | refine r_idiv X (by decide) dX9_rule_54 (pc' := 55) rfl ?_
              refine r_bipush (v := nI 15) X (by decide) dX9_rule_55 (pc' := 57) rfl ?_
              refine rN_icmp_gt X dX9_rule_57 (tgt := 94) (by decide) (pc' := 60) rfl (by omega) (by omega) (fun c_57 => ?_) (fun c_57 => ?_)
              · have no_ := hno_ (fun q => by
                  obtain ⟨q1, ⟨q2, q3⟩, ⟨q4, q5⟩, q6, q7⟩ := q
                  first
                    | exact absurd q1 (by rw [c_4]; decide)
                    | exact q2 c_8
                    | (rw [tn_n ha] at q3; unfold whatP at q3; omega)
                    | exact q4 c_47
                    | (rw [tn_n hb] at q5; unfold whereP at q5; omega)
                    | (rcases q6 with z | z
                       · exact c_98 (z.trans nI_0)
                       · exact c_104 z)
                    | (rw [tn_n (k := h0) (by omega)] at q7; exact q7 c_115))
                refine r_iconst (v := (-1)) X (by decide) dX9_rule_94 (pc' := 95) rfl ?_
                exact r_iret X r dX9_rule_95 (by omega) (by omega) rfl (by rw [(hno no_).1]) rfl (by rw [(hno no_).2])
              · refine r_iload_n X dX9_rule_60 (pc' := 61) rfl rfl ?_
                refine r_bipush (v := nI 100) X (by decide) dX9_rule_61 (pc' := 63) rfl ?_
                first | refine rN_idiv X dX9_rule_63 (pc' := 64) rfl (by omega) (by omega) (by omega) ?_ | refine r_idiv X (by decide) dX9_rule_63 (pc' := 64) rfl ?_
                refine r_bipush (v := nI 100) X (by decide) dX9_rule_64 (pc' := 66) rfl ?_
                first | refine rN_irem X dX9_rule_66 (pc' := 67) rfl (by omega) (by omega) (by omega) ?_ | refine r_irem X (by decide) dX9_rule_66 (pc' := 67) rfl ?_
                refine r_bipush (v := nI 15) X (by decide) dX9_rule_67 (pc' := 69) rfl ?_
                refine rN_icmp_gt X dX9_rule_69 (tgt := 94) (by decide) (pc' := 72) rfl (by omega) (by omega) (fun c_69 => ?_) (fun c_69 => ?_)
                · have no_ := hno_ (fun q => by
                    obtain ⟨q1, ⟨q2, q3⟩, ⟨q4, q5⟩, q6, q7⟩ := q
                    first
                      | exact absurd q1 (by rw [c_4]; decide)
                      | exact q2 c_8
                      | (rw [tn_n ha] at q3; unfold whatP at q3; omega)
                      | exact q4 c_47
                      | (rw [tn_n hb] at q5; unfold whereP at q5; omega)
                      | (rcases q6 with z | z
                         · exact c_98 (z.trans nI_0)
                         · exact c_104 z)
                      | (rw [tn_n (k := h0) (by omega)] at q7; exact q7 c_115))
                  refine r_iconst (v := (-1)) X (by decide) dX9_rule_94 (pc' := 95) rfl ?_
                  exact r_iret X r dX9_rule_95 (by omega) (by omega) rfl (by rw [(hno no_).1]) rfl (by rw [(hno no_).2])
                · refine r_iload_n X dX9_rule_72 (pc' := 73) rfl rfl ?_
                  refine r_bipush (v := nI 10) X (by decide) dX9_rule_73 (pc' := 75) rfl ?_
                  first | refine rN_irem X dX9_rule_75 (pc' := 76) rfl (by omega) (by omega) (by omega) ?_ | refine r_irem X (by decide) dX9_rule_75 (pc' := 76) rfl ?_
                  refine r_iconst (v := nI 4) X (by decide) dX9_rule_76 (pc' := 77) rfl ?_
                  refine rN_icmp_gt X dX9_rule_77 (tgt := 94) (by decide) (pc' := 80) rfl (by omega) (by omega) (fun c_77 => ?_) (fun c_77 => ?_)
                  · have no_ := hno_ (fun q => by
                      obtain ⟨q1, ⟨q2, q3⟩, ⟨q4, q5⟩, q6, q7⟩ := q
                      first
                        | exact absurd q1 (by rw [c_4]; decide)
                        | exact q2 c_8
                        | (rw [tn_n ha] at q3; unfold whatP at q3; omega)
                        | exact q4 c_47
                        | (rw [tn_n hb] at q5; unfold whereP at q5; omega)
                        | (rcases q6 with z | z
                           · exact c_98 (z.trans nI_0)
                           · exact c_104 z)
                        | (rw [tn_n (k := h0) (by omega)] at q7; exact q7 c_115))
                    refine r_iconst (v := (-1)) X (by decide) dX9_rule_94 (pc' := 95) rfl ?_
                    exact r_iret X r dX9_rule_95 (by omega) (by omega) rfl (by rw [(hno no_).1]) rfl (by rw [(hno no_).2])
                  · refine r_iload_n X dX9_rule_80 (pc' := 81) rfl rfl ?_
                    refine r_bipush (v := nI 10) X (by decide) dX9_rule_81 (pc' := 83) rfl ?_
                    first | refine rN_idiv X dX9_rule_83 (pc' := 84) rfl (by omega) (by omega) (by omega) ?_ | refine r_idiv X (by decide) dX9_rule_83 (pc' := 84) rfl ?_
                    refine r_bipush (v := nI 10) X (by decide) dX9_rule_84 (pc' := 86) rfl ?_
                    first | refine rN_irem X dX9_rule_86 (pc' := 87) rfl (by omega) (by omega) (by omega) ?_ | refine r_irem X (by decide) dX9_rule_86 (pc' := 87) rfl ?_
                    refine r_iload_n X dX9_rule_87 (pc' := 88) rfl rfl ?_
                    refine r_bipush (v := nI 10) X (by decide) dX9_rule_88 (pc' := 90) rfl ?_
                    first | refine rN_irem X dX9_rule_90 (pc' := 91) rfl (by omega) (by omega) (by omega) ?_ | refine r_irem X (by decide) dX9_rule_90 (pc' := 91) rfl ?_
                    refine rN_icmp_le X dX9_rule_91 (tgt := 96) (by decide) (pc' := 94) rfl (by omega) (by omega) (fun c_91 => ?_) (fun c_91 => ?_)
                    · refine r_iload X dX9_rule_96 (pc' := 98) rfl rfl ?_
                      refine r_if_eq X dX9_rule_98 (tgt := 107) (by decide) (pc' := 101) rfl (fun c_98 => ?_) (fun c_98 => ?_)
                      · have hsay : says = nI 0 ∨ says = nI 2 := by first | exact Or.inl (c_98.trans nI_0.symm) | exact Or.inr c_104
                        refine r_aload_n X dX9_rule_107 (pc' := 108) rfl rfl ?_
                        refine r_get X fX9 lf_X9_31 dX9_rule_108 (pc' := 111) rfl (by decide) (by omega) (wM_e37 _ _ _ _) rfl ?_
                        refine r_iload_n X dX9_rule_111 (pc' := 112) rfl rfl ?_
                        refine r_iald X dX9_rule_112 (pc' := 113) rfl (by omega) (wM_e45 _ _ _ _) (by omega) (by omega) ?_
                        refine r_bipush (v := nI 12) X (by decide) dX9_rule_113 (pc' := 115) rfl ?_
                        refine rN_icmp_ne X dX9_rule_115 (tgt := 120) (by decide) (pc' := 118) rfl (by omega) (by omega) (fun c_115 => ?_) (fun c_115 => ?_)
                        · have yes_ : ruleOK φ (nI h0) (nI a) (nI b) says := ⟨c_4, ⟨nI_pos ha, by rw [tn_n ha]; unfold whatP; omega⟩, ⟨nI_pos hb, by rw [tn_n hb]; unfold whereP; omega⟩, hsay, by rw [tn_n (by omega)]; exact c_115⟩
                          obtain ⟨z, hz, hzz⟩ : ∃ z : Nat, z ≤ 2 ∧ says = nI z := by rcases hsay with q | q <;> exact ⟨_, by decide, q⟩
                          subst hzz
                          refine r_bipush (v := nI 12) X (by decide) dX9_rule_120 (pc' := 122) rfl ?_
                          refine r_iload_n X dX9_rule_122 (pc' := 123) rfl rfl ?_
                          first | refine rN_imul X dX9_rule_123 (pc' := 124) rfl ?_ | refine r_imul X dX9_rule_123 (pc' := 124) rfl ?_
                          refine r_aload_n X dX9_rule_124 (pc' := 125) rfl rfl ?_
                          refine r_get X fX9 lf_X9_31 dX9_rule_125 (pc' := 128) rfl (by decide) (by omega) (wM_e37 _ _ _ _) rfl ?_
                          refine r_iload_n X dX9_rule_128 (pc' := 129) rfl rfl ?_
                          refine r_iald X dX9_rule_129 (pc' := 130) rfl (by omega) (wM_e45 _ _ _ _) (by omega) (by omega) ?_
                          first | refine rN_iadd X dX9_rule_130 (pc' := 131) rfl ?_ | refine r_iadd X dX9_rule_130 (pc' := 131) rfl ?_
                          refine r_istore (vs' := [_, _, _, _, _, _]) X dX9_rule_131 (pc' := 133) rfl (by decide) rfl ?_
                          refine r_aload_n X dX9_rule_133 (pc' := 134) rfl rfl ?_
                          refine r_get X fX9 lf_X9_34 dX9_rule_134 (pc' := 137) rfl (by decide) (by omega) (wM_e37 _ _ _ _) rfl ?_
                          refine r_iload X dX9_rule_137 (pc' := 139) rfl rfl ?_
                          refine r_iload_n X dX9_rule_139 (pc' := 140) rfl rfl ?_
                          refine r_iast X dX9_rule_140 (pc' := 141) rfl (by omega) (wM_e46 _ _ _ _) (by omega) (by omega) ?_
                          rw [wM_s46]
                          refine r_aload_n X dX9_rule_141 (pc' := 142) rfl rfl ?_
                          refine r_get X fX9 lf_X9_37 dX9_rule_142 (pc' := 145) rfl (by decide) (by omega) (wM_e37 _ _ _ _) rfl ?_
                          refine r_iload X dX9_rule_145 (pc' := 147) rfl rfl ?_
                          refine r_iload_n X dX9_rule_147 (pc' := 148) rfl rfl ?_
                          refine r_iast X dX9_rule_148 (pc' := 149) rfl (by omega) (wM_e47 _ _ _ _) (by omega) (by omega) ?_
                          rw [wM_s47]
                          refine r_aload_n X dX9_rule_149 (pc' := 150) rfl rfl ?_
                          refine r_get X fX9 lf_X9_40 dX9_rule_150 (pc' := 153) rfl (by decide) (by omega) (wM_e37 _ _ _ _) rfl ?_
                          refine r_iload X dX9_rule_153 (pc' := 155) rfl rfl ?_
                          refine r_iload X dX9_rule_155 (pc' := 157) rfl rfl ?_
                          refine r_iast X dX9_rule_157 (pc' := 158) rfl (by omega) (wM_e48 _ _ _ _) (by omega) (by omega) ?_
                          rw [wM_s48]
                          refine r_aload_n X dX9_rule_158 (pc' := 159) rfl rfl ?_
                          refine r_get X fX9 lf_X9_31 dX9_rule_159 (pc' := 162) rfl (by decide) (by omega) (wM_e37 _ _ _ _) rfl ?_
                          refine r_iload_n X dX9_rule_162 (pc' := 163) rfl rfl ?_
                          refine r_dup2 X rfl rfl dX9_rule_163 (pc' := 164) rfl ?_
                          refine r_iald X dX9_rule_164 (pc' := 165) rfl (by omega) (wM_e45 _ _ _ _) (by omega) (by omega) ?_
                          rw [show up2 (up2 (up2 φ 8 (12 * h0 + φ 7 h0) a) 9 (12 * h0 + φ 7 h0) b) 10 (12 * h0 + φ 7 h0) z 7 h0 = φ 7 h0 from by simp [up2]]
                          refine r_iconst (v := nI 1) X (by decide) dX9_rule_165 (pc' := 166) rfl ?_
                          first | refine rN_iadd X dX9_rule_166 (pc' := 167) rfl ?_ | refine r_iadd X dX9_rule_166 (pc' := 167) rfl ?_
                          refine r_iast X dX9_rule_167 (pc' := 168) rfl (by omega) (wM_e45 _ _ _ _) (by omega) (by omega) ?_
                          rw [wM_s45]
                          rw [show up2 (up2 (up2 (up2 φ 8 (12 * h0 + φ 7 h0) a) 9 (12 * h0 + φ 7 h0) b) 10 (12 * h0 + φ 7 h0) z) 7 h0 (φ 7 h0 + 1) = putR φ h0 a b z from rfl]
                          have WP : Wf ι (putR φ h0 a b z) := W.putR (by omega) (by omega) hz (by omega)
                          refine r_aload_n X dX9_rule_168 (pc' := 169) rfl rfl ?_
                          refine r_callV (As := []) X okX9_changes lm_X9_92 dX9_rule_169 (pc' := 172) rfl (ct_X9_changes P n hn h ι _ WP) (by omega) (wM_e37 _ _ _ _) rfl rfl rfl rfl (Nat.le_of_ble_eq_true rfl) (by omega) (by omega) (by omega) ?_
                          dsimp only [Option.toList, List.cons_append, List.nil_append]
                          refine r_aload_n X dX9_rule_172 (pc' := 173) rfl rfl ?_
                          refine r_get X fX9 lf_X9_31 dX9_rule_173 (pc' := 176) rfl (by decide) (by omega) (wM_e37 _ _ _ _) rfl ?_
                          refine r_iload_n X dX9_rule_176 (pc' := 177) rfl rfl ?_
                          refine r_iald X dX9_rule_177 (pc' := 178) rfl (by omega) (wM_e45 _ _ _ _) (by omega) (by omega) ?_
                          rw [chg_n 4 (by decide) (by decide), show putR φ h0 a b z 7 h0 = φ 7 h0 + 1 from up2_s _ _ _ _]
                          exact r_iret X r dX9_rule_178 (by omega) (by omega) rfl (by unfold aRule; rw [pif_t yes_, tn_n (by omega)]) rfl (by unfold sRule; rw [pif_t yes_, tn_n (by omega), tn_n ha, tn_n hb, tn_n (by omega)])
                        · have no_ := hno_ (fun q => by
                            obtain ⟨q1, ⟨q2, q3⟩, ⟨q4, q5⟩, q6, q7⟩ := q
                            first
                              | exact absurd q1 (by rw [c_4]; decide)
                              | exact q2 c_8
                              | (rw [tn_n ha] at q3; unfold whatP at q3; omega)
                              | exact q4 c_47
                              | (rw [tn_n hb] at q5; unfold whereP at q5; omega)
                              | (rcases q6 with z | z
                                 · exact c_98 (z.trans nI_0)
                                 · exact c_104 z)
                              | (rw [tn_n (k := h0) (by omega)] at q7; exact q7 c_115))
                          refine r_iconst (v := (-1)) X (by decide) dX9_rule_118 (pc' := 119) rfl ?_
                          exact r_iret X r dX9_rule_119 (by omega) (by omega) rfl (by rw [(hno no_).1]) rfl (by rw [(hno no_).2])
                      · refine r_iload X dX9_rule_101 (pc' := 103) rfl rfl ?_
                        refine r_iconst (v := nI 2) X (by decide) dX9_rule_103 (pc' := 104) rfl ?_
                        refine r_icmp_ne X dX9_rule_104 (tgt := 118) (by decide) (pc' := 107) rfl (fun c_104 => ?_) (fun c_104 => ?_)
                        · have no_ := hno_ (fun q => by
                            obtain ⟨q1, ⟨q2, q3⟩, ⟨q4, q5⟩, q6, q7⟩ := q
                            first
                              | exact absurd q1 (by rw [c_4]; decide)
                              | exact q2 c_8
                              | (rw [tn_n ha] at q3; unfold whatP at q3; omega)
                              | exact q4 c_47
                              | (rw [tn_n hb] at q5; unfold whereP at q5; omega)
                              | (rcases q6 with z | z
                                 · exact c_98 (z.trans nI_0)
                                 · exact c_104 z)
                              | (rw [tn_n (k := h0) (by omega)] at q7; exact q7 c_115))
                          refine r_iconst (v := (-1)) X (by decide) dX9_rule_118 (pc' := 119) rfl ?_
                          exact r_iret X r dX9_rule_119 (by omega) (by omega) rfl (by rw [(hno no_).1]) rfl (by rw [(hno no_).2])
                        · have hsay : says = nI 0 ∨ says = nI 2 := by first | exact Or.inl (c_98.trans nI_0.symm) | exact Or.inr c_104
                          refine r_aload_n X dX9_rule_107 (pc' := 108) rfl rfl ?_
                          refine r_get X fX9 lf_X9_31 dX9_rule_108 (pc' := 111) rfl (by decide) (by omega) (wM_e37 _ _ _ _) rfl ?_
                          refine r_iload_n X dX9_rule_111 (pc' := 112) rfl rfl ?_
                          refine r_iald X dX9_rule_112 (pc' := 113) rfl (by omega) (wM_e45 _ _ _ _) (by omega) (by omega) ?_
                          refine r_bipush (v := nI 12) X (by decide) dX9_rule_113 (pc' := 115) rfl ?_
                          refine rN_icmp_ne X dX9_rule_115 (tgt := 120) (by decide) (pc' := 118) rfl (by omega) (by omega) (fun c_115 => ?_) (fun c_115 => ?_)
                          · have yes_ : ruleOK φ (nI h0) (nI a) (nI b) says := ⟨c_4, ⟨nI_pos ha, by rw [tn_n ha]; unfold whatP; omega⟩, ⟨nI_pos hb, by rw [tn_n hb]; unfold whereP; omega⟩, hsay, by rw [tn_n (by omega)]; exact c_115⟩
                            obtain ⟨z, hz, hzz⟩ : ∃ z : Nat, z ≤ 2 ∧ says = nI z := by rcases hsay with q | q <;> exact ⟨_, by decide, q⟩
                            subst hzz
                            refine r_bipush (v := nI 12) X (by decide) dX9_rule_120 (pc' := 122) rfl ?_
                            refine r_iload_n X dX9_rule_122 (pc' := 123) rfl rfl ?_
                            first | refine rN_imul X dX9_rule_123 (pc' := 124) rfl ?_ | refine r_imul X dX9_rule_123 (pc' := 124) rfl ?_
                            refine r_aload_n X dX9_rule_124 (pc' := 125) rfl rfl ?_
                            refine r_get X fX9 lf_X9_31 dX9_rule_125 (pc' := 128) rfl (by decide) (by omega) (wM_e37 _ _ _ _) rfl ?_
                            refine r_iload_n X dX9_rule_128 (pc' := 129) rfl rfl ?_
                            refine r_iald X dX9_rule_129 (pc' := 130) rfl (by omega) (wM_e45 _ _ _ _) (by omega) (by omega) ?_
                            first | refine rN_iadd X dX9_rule_130 (pc' := 131) rfl ?_ | refine r_iadd X dX9_rule_130 (pc' := 131) rfl ?_
                            refine r_istore (vs' := [_, _, _, _, _, _]) X dX9_rule_131 (pc' := 133) rfl (by decide) rfl ?_
                            refine r_aload_n X dX9_rule_133 (pc' := 134) rfl rfl ?_
                            refine r_get X fX9 lf_X9_34 dX9_rule_134 (pc' := 137) rfl (by decide) (by omega) (wM_e37 _ _ _ _) rfl ?_
                            refine r_iload X dX9_rule_137 (pc' := 139) rfl rfl ?_
                            refine r_iload_n X dX9_rule_139 (pc' := 140) rfl rfl ?_
                            refine r_iast X dX9_rule_140 (pc' := 141) rfl (by omega) (wM_e46 _ _ _ _) (by omega) (by omega) ?_
                            rw [wM_s46]
                            refine r_aload_n X dX9_rule_141 (pc' := 142) rfl rfl ?_
                            refine r_get X fX9 lf_X9_37 dX9_rule_142 (pc' := 145) rfl (by decide) (by omega) (wM_e37 _ _ _ _) rfl ?_
                            refine r_iload X dX9_rule_145 (pc' := 147) rfl rfl ?_
                            refine r_iload_n X dX9_rule_147 (pc' := 148) rfl rfl ?_
                            refine r_iast X dX9_rule_148 (pc' := 149) rfl (by omega) (wM_e47 _ _ _ _) (by omega) (by omega) ?_
                            rw [wM_s47]
                            refine r_aload_n X dX9_rule_149 (pc' := 150) rfl rfl ?_
                            refine r_get X fX9 lf_X9_40 dX9_rule_150 (pc' := 153) rfl (by decide) (by omega) (wM_e37 _ _ _ _) rfl ?_
                            refine r_iload X dX9_rule_153 (pc' := 155) rfl rfl ?_
                            refine r_iload X dX9_rule_155 (pc' := 157) rfl rfl ?_
                            refine r_iast X dX9_rule_157 (pc' := 158) rfl (by omega) (wM_e48 _ _ _ _) (by omega) (by omega) ?_
                            rw [wM_s48]
                            refine r_aload_n X dX9_rule_158 (pc' := 159) rfl rfl ?_
                            refine r_get X fX9 lf_X9_31 dX9_rule_159 (pc' := 162) rfl (by decide) (by omega) (wM_e37 _ _ _ _) rfl ?_
                            refine r_iload_n X dX9_rule_162 (pc' := 163) rfl rfl ?_
                            refine r_dup2 X rfl rfl dX9_rule_163 (pc' := 164) rfl ?_
                            refine r_iald X dX9_rule_164 (pc' := 165) rfl (by omega) (wM_e45 _ _ _ _) (by omega) (by omega) ?_
                            rw [show up2 (up2 (up2 φ 8 (12 * h0 + φ 7 h0) a) 9 (12 * h0 + φ 7 h0) b) 10 (12 * h0 + φ 7 h0) z 7 h0 = φ 7 h0 from by simp [up2]]
                            refine r_iconst (v := nI 1) X (by decide) dX9_rule_165 (pc' := 166) rfl ?_
                            first | refine rN_iadd X dX9_rule_166 (pc' := 167) rfl ?_ | refine r_iadd X dX9_rule_166 (pc' := 167) rfl ?_
                            refine r_iast X dX9_rule_167 (pc' := 168) rfl (by omega) (wM_e45 _ _ _ _) (by omega) (by omega) ?_
                            rw [wM_s45]
                            rw [show up2 (up2 (up2 (up2 φ 8 (12 * h0 + φ 7 h0) a) 9 (12 * h0 + φ 7 h0) b) 10 (12 * h0 + φ 7 h0) z) 7 h0 (φ 7 h0 + 1) = putR φ h0 a b z from rfl]
                            have WP : Wf ι (putR φ h0 a b z) := W.putR (by omega) (by omega) hz (by omega)
                            refine r_aload_n X dX9_rule_168 (pc' := 169) rfl rfl ?_
                            refine r_callV (As := []) X okX9_changes lm_X9_92 dX9_rule_169 (pc' := 172) rfl (ct_X9_changes P n hn h ι _ WP) (by omega) (wM_e37 _ _ _ _) rfl rfl rfl rfl (Nat.le_of_ble_eq_true rfl) (by omega) (by omega) (by omega) ?_
                            dsimp only [Option.toList, List.cons_append, List.nil_append]
                            refine r_aload_n X dX9_rule_172 (pc' := 173) rfl rfl ?_
                            refine r_get X fX9 lf_X9_31 dX9_rule_173 (pc' := 176) rfl (by decide) (by omega) (wM_e37 _ _ _ _) rfl ?_
                            refine r_iload_n X dX9_rule_176 (pc' := 177) rfl rfl ?_
                            refine r_iald X dX9_rule_177 (pc' := 178) rfl (by omega) (wM_e45 _ _ _ _) (by omega) (by omega) ?_
                            rw [chg_n 4 (by decide) (by decide), show putR φ h0 a b z 7 h0 = φ 7 h0 + 1 from up2_s _ _ _ _]
                            exact r_iret X r dX9_rule_178 (by omega) (by omega) rfl (by unfold aRule; rw [pif_t yes_, tn_n (by omega)]) rfl (by unfold sRule; rw [pif_t yes_, tn_n (by omega), tn_n ha, tn_n hb, tn_n (by omega)])
                          · have no_ := hno_ (fun q => by
                              obtain ⟨q1, ⟨q2, q3⟩, ⟨q4, q5⟩, q6, q7⟩ := q
                              first
                                | exact absurd q1 (by rw [c_4]; decide)
                                | exact q2 c_8
                                | (rw [tn_n ha] at q3; unfold whatP at q3; omega)
                                | exact q4 c_47
                                | (rw [tn_n hb] at q5; unfold whereP at q5; omega)
                                | (rcases q6 with z | z
                                   · exact c_98 (z.trans nI_0)
                                   · exact c_104 z)
                                | (rw [tn_n (k := h0) (by omega)] at q7; exact q7 c_115))
                            refine r_iconst (v := (-1)) X (by decide) dX9_rule_118 (pc' := 119) rfl ?_
                            exact r_iret X r dX9_rule_119 (by omega) (by omega) rfl (by rw [(hno no_).1]) rfl (by rw [(hno no_).2])
                    · have no_ := hno_ (fun q => by
                        obtain ⟨q1, ⟨q2, q3⟩, ⟨q4, q5⟩, q6, q7⟩ := q
                        first
                          | exact absurd q1 (by rw [c_4]; decide)
                          | exact q2 c_8
                          | (rw [tn_n ha] at q3; unfold whatP at q3; omega)
                          | exact q4 c_47
                          | (rw [tn_n hb] at q5; unfold whereP at q5; omega)
                          | (rcases q6 with z | z
                             · exact c_98 (z.trans nI_0)
                             · exact c_104 z)
                          | (rw [tn_n (k := h0) (by omega)] at q7; exact q7 c_115))
                      refine r_iconst (v := (-1)) X (by decide) dX9_rule_94 (pc' := 95) rfl ?_
                      exact r_iret X r dX9_rule_95 (by omega) (by omega) rfl (by rw [(hno no_).1]) rfl (by rw [(hno no_).2])
          · have no_ := hno_ (fun q => by
              obtain ⟨q1, ⟨q2, q3⟩, ⟨q4, q5⟩, q6, q7⟩ := q
              first
                | exact absurd q1 (by rw [c_4]; decide)
                | exact q2 c_8
                | (rw [tn_n ha] at q3; unfold whatP at q3; omega)
                | exact q4 c_47
                | (rw [tn_n hb] at q5; unfold whereP at q5; omega)
                | (rcases q6 with z | z
                   · exact c_98 (z.trans nI_0)
                   · exact c_104 z)
                | (rw [tn_n (k := h0) (by omega)] at q7; exact q7 c_115))
            refine r_iconst (v := (-1)) X (by decide) dX9_rule_44 (pc' := 45) rfl ?_
            exact r_iret X r dX9_rule_45 (by omega) (by omega) rfl (by rw [(hno no_).1]) rfl (by rw [(hno no_).2])
set_option maxRecDepth 100000 in
set_option maxHeartbeats 4000000 in
theorem ct_X9_unrule (P : Px) (n : Nat) (hn : 59 ≤ n) (h : hw) (ι : Nat → Nat) (φ : Nat → Nat → Nat) (W : Wf ι φ) (x y : Int32) : Ct P MX9_unrule 2 0 0 [.ref (Bs P + 37), .int x, .int y] n (wM P h ι φ) (some (.int (bI (ruleQ φ x y)))) n (wM P h ι (sUnrule ι φ x y)) := by
  refine Ct.of (by decide +kernel) (Nat.le_of_ble_eq_true rfl) rfl (fun K X hnm r => ?_)
  have X : Cx K P RX9 cX9_unrule 5 2 0 0 := X
  have r : Rt K P (some .boolean) 0 0 _ _ _ := r
  show Z K P _ _ 0 0 0 [some (.ref (Bs P + 37)), some (.int x), some (.int y), none, none] []
  refine r_iload_n X dX9_unrule_0 (pc' := 1) rfl rfl ?_
  refine r_callS (As := [_]) X okX9_isHeap lm_X9_95 dX9_unrule_1 (pc' := 4) rfl (ct_X9_isHeap P n _ _) rfl rfl (Nat.le_of_ble_eq_true rfl) (by omega) (by omega) (by omega) ?_
  dsimp only [Option.toList, List.cons_append, List.nil_append]
  refine rB_if_eq X dX9_unrule_4 (tgt := 23) (by decide) (pc' := 7) rfl (fun c_4 => ?_) (fun c_4 => ?_)
  · refine r_iconst (v := nI 0) X (by decide) dX9_unrule_23 (pc' := 24) rfl ?_
    exact r_iret X r dX9_unrule_24 (by omega) (by omega) rfl (by first | exact hvF (ruleQ_f c_4) | exact hvF (by rw [ruleQ_n (by omega)]; exact c_20)) rfl (by unfold sUnrule; rw [pif_f (by first | (rw [ruleQ_f c_4]; decide) | (rw [ruleQ_n (by omega), c_20]; decide))])
  · obtain ⟨h0, hh0, rfl⟩ := inQ_of (by decide) c_4
    have b7 := W.v7 h0
    refine r_iload_n X dX9_unrule_7 (pc' := 8) rfl rfl ?_
    refine r_iconst (v := nI 0) X (by decide) dX9_unrule_8 (pc' := 9) rfl ?_
    refine r_aload_n X dX9_unrule_9 (pc' := 10) rfl rfl ?_
    refine r_get X fX9 lf_X9_31 dX9_unrule_10 (pc' := 13) rfl (by decide) (by omega) (wM_e37 _ _ _ _) rfl ?_
    refine r_iload_n X dX9_unrule_13 (pc' := 14) rfl rfl ?_
    refine r_iald X dX9_unrule_14 (pc' := 15) rfl (by omega) (wM_e45 _ _ _ _) (by omega) (by omega) ?_
    refine r_iconst (v := nI 1) X (by decide) dX9_unrule_15 (pc' := 16) rfl ?_
    first | refine rN_isub X dX9_unrule_16 (pc' := 17) rfl (by omega) ?_ | refine r_isub X dX9_unrule_16 (pc' := 17) rfl ?_
    refine r_callS (As := [_, _, _]) X okX9_in lm_X9_80 dX9_unrule_17 (pc' := 20) rfl (ct_X9_in P n _ _ _ _) rfl rfl (Nat.le_of_ble_eq_true rfl) (by omega) (by omega) (by omega) ?_
    dsimp only [Option.toList, List.cons_append, List.nil_append]
    rw [inL_pred (by omega)]
    refine rB_if_ne X dX9_unrule_20 (tgt := 25) (by decide) (pc' := 23) rfl (fun c_20 => ?_) (fun c_20 => ?_)
    · obtain ⟨j, hj, rfl⟩ := inB_of (by omega) c_20
      have hok : ruleQ φ (nI h0) (nI j) = true := by rw [ruleQ_n (by omega)]; exact c_20
      refine r_iload_n X dX9_unrule_25 (pc' := 26) rfl rfl ?_
      refine r_istore_n (vs' := [_, _, _, _, _]) X dX9_unrule_26 (pc' := 27) rfl (by decide) rfl ?_
      have loop : ∀ (m_ : Nat) (k : Nat) (o : Option Value), φ 7 h0 - k < m_ → (j ≤ k) → (k < φ 7 h0) → (Wf ι (ush φ (12 * h0 + j) (12 * h0 + k))) → Z K P n (wM P h ι (ush φ (12 * h0 + j) (12 * h0 + k))) 0 0 27 [some (.ref (Bs P + 37)), some (.int (nI h0)), some (.int (nI j)), some (.int (nI k)), o] [] := by
        intro m_
        induction m_ with
        | zero => intro k o hm_; exact absurd hm_ (Nat.not_lt_zero _)
        | succ m_ ih =>
          intro k o hm_ hk1 hk2 W1
          refine r_iload_n X dX9_unrule_27 (pc' := 28) rfl rfl ?_
          refine r_iconst (v := nI 1) X (by decide) dX9_unrule_28 (pc' := 29) rfl ?_
          first | refine rN_iadd X dX9_unrule_29 (pc' := 30) rfl ?_ | refine r_iadd X dX9_unrule_29 (pc' := 30) rfl ?_
          refine r_aload_n X dX9_unrule_30 (pc' := 31) rfl rfl ?_
          refine r_get X fX9 lf_X9_31 dX9_unrule_31 (pc' := 34) rfl (by decide) (by omega) (wM_e37 _ _ _ _) rfl ?_
          refine r_iload_n X dX9_unrule_34 (pc' := 35) rfl rfl ?_
          refine r_iald X dX9_unrule_35 (pc' := 36) rfl (by omega) (wM_e45 _ _ _ _) (by omega) (by omega) ?_
          rw [ush_n (by decide) (by decide) (by decide)]
          refine rN_icmp_ge X dX9_unrule_36 (tgt := 101) (by decide) (pc' := 39) rfl (by omega) (by omega) (fun c_36 => ?_) (fun c_36 => ?_)
          · refine r_aload_n X dX9_unrule_101 (pc' := 102) rfl rfl ?_
            refine r_get X fX9 lf_X9_31 dX9_unrule_102 (pc' := 105) rfl (by decide) (by omega) (wM_e37 _ _ _ _) rfl ?_
            refine r_iload_n X dX9_unrule_105 (pc' := 106) rfl rfl ?_
            refine r_dup2 X rfl rfl dX9_unrule_106 (pc' := 107) rfl ?_
            refine r_iald X dX9_unrule_107 (pc' := 108) rfl (by omega) (wM_e45 _ _ _ _) (by omega) (by omega) ?_
            rw [ush_n (by decide) (by decide) (by decide)]
            refine r_iconst (v := nI 1) X (by decide) dX9_unrule_108 (pc' := 109) rfl ?_
            first | refine rN_isub X dX9_unrule_109 (pc' := 110) rfl (by omega) ?_ | refine r_isub X dX9_unrule_109 (pc' := 110) rfl ?_
            refine r_iast X dX9_unrule_110 (pc' := 111) rfl (by omega) (wM_e45 _ _ _ _) (by omega) (by omega) ?_
            rw [wM_s45]
            rw [show k = φ 7 h0 - 1 by omega]
            rw [show up2 (ush φ (12 * h0 + j) (12 * h0 + (φ 7 h0 - 1))) 7 h0 (φ 7 h0 - 1) = delR φ h0 j from rfl]
            refine r_aload_n X dX9_unrule_111 (pc' := 112) rfl rfl ?_
            refine r_callV (As := []) X okX9_changes lm_X9_92 dX9_unrule_112 (pc' := 115) rfl (ct_X9_changes P n hn h ι _ (W.delR h0 j)) (by omega) (wM_e37 _ _ _ _) rfl rfl rfl rfl (Nat.le_of_ble_eq_true rfl) (by omega) (by omega) (by omega) ?_
            dsimp only [Option.toList, List.cons_append, List.nil_append]
            refine r_iconst (v := nI 1) X (by decide) dX9_unrule_115 (pc' := 116) rfl ?_
            exact r_iret X r dX9_unrule_116 (by omega) (by omega) rfl (hvT hok) rfl (by unfold sUnrule; rw [pif_t hok, tn_n (by omega), tn_n (by omega)])
          · refine r_bipush (v := nI 12) X (by decide) dX9_unrule_39 (pc' := 41) rfl ?_
            refine r_iload_n X dX9_unrule_41 (pc' := 42) rfl rfl ?_
            first | refine rN_imul X dX9_unrule_42 (pc' := 43) rfl ?_ | refine r_imul X dX9_unrule_42 (pc' := 43) rfl ?_
            refine r_iload_n X dX9_unrule_43 (pc' := 44) rfl rfl ?_
            first | refine rN_iadd X dX9_unrule_44 (pc' := 45) rfl ?_ | refine r_iadd X dX9_unrule_44 (pc' := 45) rfl ?_
            refine r_istore (vs' := [_, _, _, _, _]) X dX9_unrule_45 (pc' := 47) rfl (by decide) rfl ?_
            refine r_aload_n X dX9_unrule_47 (pc' := 48) rfl rfl ?_
            refine r_get X fX9 lf_X9_34 dX9_unrule_48 (pc' := 51) rfl (by decide) (by omega) (wM_e37 _ _ _ _) rfl ?_
            refine r_iload X dX9_unrule_51 (pc' := 53) rfl rfl ?_
            refine r_aload_n X dX9_unrule_53 (pc' := 54) rfl rfl ?_
            refine r_get X fX9 lf_X9_34 dX9_unrule_54 (pc' := 57) rfl (by decide) (by omega) (wM_e37 _ _ _ _) rfl ?_
            refine r_iload X dX9_unrule_57 (pc' := 59) rfl rfl ?_
            refine r_iconst (v := nI 1) X (by decide) dX9_unrule_59 (pc' := 60) rfl ?_
            first | refine rN_iadd X dX9_unrule_60 (pc' := 61) rfl ?_ | refine r_iadd X dX9_unrule_60 (pc' := 61) rfl ?_
            refine r_iald X dX9_unrule_61 (pc' := 62) rfl (by omega) (wM_e46 _ _ _ _) (by omega) (by omega) ?_
            rw [ush_r (by omega)]
            refine r_iast X dX9_unrule_62 (pc' := 63) rfl (by omega) (wM_e46 _ _ _ _) (by omega) (by omega) ?_
            rw [wM_s46]
            refine r_aload_n X dX9_unrule_63 (pc' := 64) rfl rfl ?_
            refine r_get X fX9 lf_X9_37 dX9_unrule_64 (pc' := 67) rfl (by decide) (by omega) (wM_e37 _ _ _ _) rfl ?_
            refine r_iload X dX9_unrule_67 (pc' := 69) rfl rfl ?_
            refine r_aload_n X dX9_unrule_69 (pc' := 70) rfl rfl ?_
            refine r_get X fX9 lf_X9_37 dX9_unrule_70 (pc' := 73) rfl (by decide) (by omega) (wM_e37 _ _ _ _) rfl ?_
            refine r_iload X dX9_unrule_73 (pc' := 75) rfl rfl ?_
            refine r_iconst (v := nI 1) X (by decide) dX9_unrule_75 (pc' := 76) rfl ?_
            first | refine rN_iadd X dX9_unrule_76 (pc' := 77) rfl ?_ | refine r_iadd X dX9_unrule_76 (pc' := 77) rfl ?_
            refine r_iald X dX9_unrule_77 (pc' := 78) rfl (by omega) (wM_e47 _ _ _ _) (by omega) (by omega) ?_
            rw [up2_n _ _ (Or.inl (by decide)), ush_r (by omega)]
            refine r_iast X dX9_unrule_78 (pc' := 79) rfl (by omega) (wM_e47 _ _ _ _) (by omega) (by omega) ?_
            rw [wM_s47]
            refine r_aload_n X dX9_unrule_79 (pc' := 80) rfl rfl ?_
            refine r_get X fX9 lf_X9_40 dX9_unrule_80 (pc' := 83) rfl (by decide) (by omega) (wM_e37 _ _ _ _) rfl ?_
            refine r_iload X dX9_unrule_83 (pc' := 85) rfl rfl ?_
            refine r_aload_n X dX9_unrule_85 (pc' := 86) rfl rfl ?_
            refine r_get X fX9 lf_X9_40 dX9_unrule_86 (pc' := 89) rfl (by decide) (by omega) (wM_e37 _ _ _ _) rfl ?_
            refine r_iload X dX9_unrule_89 (pc' := 91) rfl rfl ?_
            refine r_iconst (v := nI 1) X (by decide) dX9_unrule_91 (pc' := 92) rfl ?_
            first | refine rN_iadd X dX9_unrule_92 (pc' := 93) rfl ?_ | refine r_iadd X dX9_unrule_92 (pc' := 93) rfl ?_
            refine r_iald X dX9_unrule_93 (pc' := 94) rfl (by omega) (wM_e48 _ _ _ _) (by omega) (by omega) ?_
            rw [up2_n _ _ (Or.inl (by decide)), up2_n _ _ (Or.inl (by decide)), ush_r (by omega)]
            refine r_iast X dX9_unrule_94 (pc' := 95) rfl (by omega) (wM_e48 _ _ _ _) (by omega) (by omega) ?_
            rw [wM_s48]
            rw [ush_s (by omega)]
            refine r_iincN (vs' := [_, _, _, _, _]) X dX9_unrule_95 (pc' := 98) rfl (by decide) rfl rfl ?_
            refine r_goto (tgt := 27) X dX9_unrule_98 (by decide) ?_
            exact ih (k + 1) _ (by omega) (by omega) (by omega) (W.ush _ _)
      have l0 := loop _ j none (Nat.lt_succ_self _) (Nat.le_refl _) hj (by rw [ush_0]; exact W)
      rw [ush_0] at l0
      exact l0
    · refine r_iconst (v := nI 0) X (by decide) dX9_unrule_23 (pc' := 24) rfl ?_
      exact r_iret X r dX9_unrule_24 (by omega) (by omega) rfl (by first | exact hvF (ruleQ_f c_4) | exact hvF (by rw [ruleQ_n (by omega)]; exact c_20)) rfl (by unfold sUnrule; rw [pif_f (by first | (rw [ruleQ_f c_4]; decide) | (rw [ruleQ_n (by omega), c_20]; decide))])
