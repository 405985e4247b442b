/-! ===== go, rule, unrule of the model ===== -/
def arrv (ι : Nat → Nat) (φ : Nat → Nat → Nat) : Nat → Nat → Nat → Nat
  | 0 => φ
  | j + 1 => if arrv ι φ j 15 (5030 * j + ι 0) = 0 then arrv ι φ j else fgt (arrv ι φ j) j 10000
theorem Wf.arrv {ι : Nat → Nat} {φ : Nat → Nat → Nat} (W : Wf ι φ) : ∀ j, Wf ι (arrv ι φ j)
  | 0 => W
  | j + 1 => by
    show Wf ι (if _ = 0 then _ else _)
    split
    · exact Wf.arrv W j
    · exact (Wf.arrv W j).fgt j 10000
def goS : Nat → (Nat → Nat) → (Nat → Nat → Nat) → (Nat → Nat) × (Nat → Nat → Nat)
  | 0, ι, φ => (ι, φ)
  | m + 1, ι, φ => if ι 0 < 5000 then goS m (up1 ι 0 (ι 0 + 1)) (arrv (up1 ι 0 (ι 0 + 1)) φ 4) else (ι, φ)
abbrev goSA := @goS
theorem Wf.tick {ι : Nat → Nat} {φ : Nat → Nat → Nat} (W : Wf ι φ) (h : ι 0 < 5000) : Wf (up1 ι 0 (ι 0 + 1)) φ := by
  have e0 : up1 ι 0 (ι 0 + 1) 0 = ι 0 + 1 := rfl
  refine ⟨by rw [e0]; omega, W.inF, W.asks, W.v0, W.v1, fun i => by rw [e0]; exact Nat.le_succ_of_le (W.v2 i), W.v3, W.v4, W.v5, W.v6, W.v7, W.v8, W.v9, W.v10, W.v11, W.v12, fun i => by rw [e0]; exact Nat.le_succ_of_le (W.v13 i), W.v14, W.v15, W.v18⟩
theorem Wf.goS : ∀ (m : Nat) {ι : Nat → Nat} {φ : Nat → Nat → Nat}, Wf ι φ → Wf (goS m ι φ).1 (goS m ι φ).2
  | 0, ι, φ, W => W
  | m + 1, ι, φ, W => by
    show Wf (if ι 0 < 5000 then goSA m _ _ else (ι, φ)).1 (if ι 0 < 5000 then goSA m _ _ else (ι, φ)).2
    split
    · rename_i h; exact Wf.goS m ((W.tick h).arrv 4)
    · exact W
noncomputable def aGo (ι : Nat → Nat) (φ : Nat → Nat → Nat) (x : Int32) : Int32 := pif (inQ x (nI 200) = true) (nI ((goS (tn x) ι φ).1 0)) (-1)
noncomputable def sGo (ι : Nat → Nat) (φ : Nat → Nat → Nat) (x : Int32) : (Nat → Nat) × (Nat → Nat → Nat) := pif (inQ x (nI 200) = true) (goS (tn x) ι φ) (ι, φ)
set_option maxRecDepth 100000 in
set_option maxHeartbeats 4000000 in
theorem ct_X9_go (P : Px) (n : Nat) (hn : 59 ≤ n) (h : hw) (ι : Nat → Nat) (φ : Nat → Nat → Nat) (W : Wf ι φ) (x : Int32) : Ct P MX9_go 2 0 0 [.ref (Bs P + 37), .int x] n (wM P h ι φ) (some (.int (aGo ι φ x))) n (wM P h (sGo ι φ x).1 (sGo ι φ x).2) := by
  refine Ct.of (by decide +kernel) (Nat.le_of_ble_eq_true rfl) rfl (fun K X hnm r => ?_)
  have X : Cx K P RX9 cX9_go 4 2 0 0 := X
  have r : Rt K P (some .int) 0 0 _ _ _ := r
  show Z K P _ _ 0 0 0 [some (.ref (Bs P + 37)), some (.int x), none, none] []
  refine r_iload_n X dX9_go_0 (pc' := 1) rfl rfl ?_
  refine r_iconst (v := nI 0) X (by decide) dX9_go_1 (pc' := 2) rfl ?_
  refine r_sipush (v := nI 200) X (by decide) dX9_go_2 (pc' := 5) rfl ?_
  refine r_callS (As := [_, _, _]) X okX9_in lm_X9_80 dX9_go_5 (pc' := 8) rfl (ct_X9_in P n _ _ _ _) rfl rfl (Nat.le_of_ble_eq_true rfl) (by omega) (by omega) (by omega) ?_
  dsimp only [Option.toList, List.cons_append, List.nil_append]
  refine rB_if_ne X dX9_go_8 (tgt := 13) (by decide) (pc' := 11) rfl (fun c_8 => ?_) (fun c_8 => ?_)
  · obtain ⟨x0, hx, rfl⟩ := inQ_of (by decide) (show inQ x (nI 200) = true from c_8)
    refine r_iconst (v := nI 0) X (by decide) dX9_go_13 (pc' := 14) rfl ?_
    refine r_istore_n (vs' := [_, _, _, _]) X dX9_go_14 (pc' := 15) rfl (by decide) rfl ?_
    have ea : aGo ι φ (nI x0) = nI ((goS x0 ι φ).1 0) := by unfold aGo; rw [pif_t (show inQ _ _ = true from c_8), tn_n (by omega)]
    have es : sGo ι φ (nI x0) = goS x0 ι φ := by unfold sGo; rw [pif_t (show inQ _ _ = true from c_8), tn_n (by omega)]
    rw [ea, es] at r
    obtain ⟨F, hFF⟩ : ∃ F, F = goS x0 ι φ := ⟨_, rfl⟩
    obtain ⟨vv, hr⟩ : ∃ vv, vv = some (Value.int (nI (F.1 0))) := ⟨_, rfl⟩
    obtain ⟨ww, hw2⟩ : ∃ ww, ww = wM P h F.1 F.2 := ⟨_, rfl⟩
    rw [← hFF, ← hr, ← hw2] at r
    clear ea es
    have loop : ∀ (m_ : Nat) (k : Nat) (ι : Nat → Nat) (φ : Nat → Nat → Nat) (o : Option Value), x0 - k < m_ → (k ≤ x0) → (Wf ι φ) → (goS (x0 - k) ι φ = F) → Z K P n (wM P h ι φ) 0 0 15 [some (.ref (Bs P + 37)), some (.int (nI x0)), some (.int (nI k)), o] [] := by
      intro m_
      induction m_ with
      | zero => intro k ι φ o hm_; exact absurd hm_ (Nat.not_lt_zero _)
      | succ m_ ih =>
        intro k ι φ o hm_ hk W hF
        refine r_iload_n X dX9_go_15 (pc' := 16) rfl rfl ?_
        refine r_iload_n X dX9_go_16 (pc' := 17) rfl rfl ?_
        refine rN_icmp_ge X dX9_go_17 (tgt := 82) (by decide) (pc' := 20) rfl (by omega) (by omega) (fun c_17 => ?_) (fun c_17 => ?_)
        · refine r_aload_n X dX9_go_82 (pc' := 83) rfl rfl ?_
          refine r_get X fX9 lf_X9_84 dX9_go_83 (pc' := 86) rfl (by decide) (by omega) (wM_e37 _ _ _ _) rfl ?_
          exact r_iret X r dX9_go_86 (by omega) (by omega) rfl (by rw [hr, ← hF]; first | (rw [show x0 - k = 0 by omega]; rfl) | (rw [show goS (x0 - k) ι φ = (ι, φ) from by cases hz : x0 - k with | zero => rfl | succ z => exact if_neg (by omega)])) rfl (by rw [hw2, ← hF]; first | (rw [show x0 - k = 0 by omega]; rfl) | (rw [show goS (x0 - k) ι φ = (ι, φ) from by cases hz : x0 - k with | zero => rfl | succ z => exact if_neg (by omega)]))
        · refine r_aload_n X dX9_go_20 (pc' := 21) rfl rfl ?_
          refine r_get X fX9 lf_X9_84 dX9_go_21 (pc' := 24) rfl (by decide) (by omega) (wM_e37 _ _ _ _) rfl ?_
          refine r_sipush (v := nI 5000) X (by decide) dX9_go_24 (pc' := 27) rfl ?_
          have bn := W.now
          refine rN_icmp_ge X dX9_go_27 (tgt := 82) (by decide) (pc' := 30) rfl (by omega) (by omega) (fun c_27 => ?_) (fun c_27 => ?_)
          · refine r_aload_n X dX9_go_82 (pc' := 83) rfl rfl ?_
            refine r_get X fX9 lf_X9_84 dX9_go_83 (pc' := 86) rfl (by decide) (by omega) (wM_e37 _ _ _ _) rfl ?_
            exact r_iret X r dX9_go_86 (by omega) (by omega) rfl (by rw [hr, ← hF]; first | (rw [show x0 - k = 0 by omega]; rfl) | (rw [show goS (x0 - k) ι φ = (ι, φ) from by cases hz : x0 - k with | zero => rfl | succ z => exact if_neg (by omega)])) rfl (by rw [hw2, ← hF]; first | (rw [show x0 - k = 0 by omega]; rfl) | (rw [show goS (x0 - k) ι φ = (ι, φ) from by cases hz : x0 - k with | zero => rfl | succ z => exact if_neg (by omega)]))
          · refine r_aload_n X dX9_go_30 (pc' := 31) rfl rfl ?_
            refine r_dup X rfl dX9_go_31 (pc' := 32) rfl ?_
            refine r_get X fX9 lf_X9_84 dX9_go_32 (pc' := 35) rfl (by decide) (by omega) (wM_e37 _ _ _ _) rfl ?_
            refine r_iconst (v := nI 1) X (by decide) dX9_go_35 (pc' := 36) rfl ?_
            first | refine rN_iadd X dX9_go_36 (pc' := 37) rfl ?_ | refine r_iadd X dX9_go_36 (pc' := 37) rfl ?_
            refine r_put X fX9 lf_X9_84 rfl dX9_go_37 (pc' := 40) rfl (by decide) (by omega) (wM_e37 _ _ _ _) (Nat.le_of_ble_eq_true rfl) rfl rfl ?_
            rw [wM_i0]
            have WA := W.tick c_27
            obtain ⟨ι1, hι1⟩ : ∃ z, z = up1 ι 0 (ι 0 + 1) := ⟨_, rfl⟩
            rw [← hι1] at WA ⊢
            refine r_iconst (v := nI 0) X (by decide) dX9_go_40 (pc' := 41) rfl ?_
            refine r_istore_n (vs' := [_, _, _, _]) X dX9_go_41 (pc' := 42) rfl (by decide) rfl ?_
            have inner : ∀ (m2 : Nat) (j : Nat), 4 - j < m2 → (j ≤ 4) → (Wf ι1 (arrv ι1 φ j)) → Z K P n (wM P h ι1 (arrv ι1 φ j)) 0 0 42 [some (.ref (Bs P + 37)), some (.int (nI x0)), some (.int (nI k)), some (.int (nI j))] [] := by
              intro m2
              induction m2 with
              | zero => intro j hm2; exact absurd hm2 (Nat.not_lt_zero _)
              | succ m2 ih2 =>
                intro j hm2 hj W1
                refine r_iload_n X dX9_go_42 (pc' := 43) rfl rfl ?_
                refine r_iconst (v := nI 4) X (by decide) dX9_go_43 (pc' := 44) rfl ?_
                refine rN_icmp_ge X dX9_go_44 (tgt := 76) (by decide) (pc' := 47) rfl (by omega) (by omega) (fun c_44 => ?_) (fun c_44 => ?_)
                · refine r_iincN (vs' := [_, _, _, _]) X dX9_go_76 (pc' := 79) rfl (by decide) rfl rfl ?_
                  refine r_goto (tgt := 15) X dX9_go_79 (by decide) ?_
                  exact ih (k + 1) ι1 (arrv ι1 φ j) _ (by omega) (by omega) W1 (by rw [show j = 4 by omega, ← hF, show x0 - k = (x0 - (k + 1)) + 1 by omega, hι1]; show _ = if ι 0 < 5000 then _ else _; rw [if_pos c_27])
                · refine r_aload_n X dX9_go_47 (pc' := 48) rfl rfl ?_
                  refine r_get X fX9 lf_X9_56 dX9_go_48 (pc' := 51) rfl (by decide) (by omega) (wM_e37 _ _ _ _) rfl ?_
                  refine r_sipush (v := nI 5030) X (by decide) dX9_go_51 (pc' := 54) rfl ?_
                  refine r_iload_n X dX9_go_54 (pc' := 55) rfl rfl ?_
                  first | refine rN_imul X dX9_go_55 (pc' := 56) rfl ?_ | refine r_imul X dX9_go_55 (pc' := 56) rfl ?_
                  refine r_aload_n X dX9_go_56 (pc' := 57) rfl rfl ?_
                  refine r_get X fX9 lf_X9_84 dX9_go_57 (pc' := 60) rfl (by decide) (by omega) (wM_e37 _ _ _ _) rfl ?_
                  first | refine rN_iadd X dX9_go_60 (pc' := 61) rfl ?_ | refine r_iadd X dX9_go_60 (pc' := 61) rfl ?_
                  have b5 := W1.now
                  have b15 := W1.v15 (5030 * j + ι1 0)
                  refine r_zald X dX9_go_61 (pc' := 62) rfl (by omega) (wM_e53 _ _ _ _) (by omega) (by omega) ?_
                  refine rN_if_eq X dX9_go_62 (tgt := 70) (by decide) (pc' := 65) rfl (by omega) (fun c_62 => ?_) (fun c_62 => ?_)
                  · have hst : arrv ι1 φ (j + 1) = arrv ι1 φ j := if_pos c_62
                    rw [← hst]
                    have W2 : Wf ι1 (arrv ι1 φ (j + 1)) := WA.arrv (j + 1)
                    refine r_iincN (vs' := [_, _, _, _]) X dX9_go_70 (pc' := 73) rfl (by decide) rfl rfl ?_
                    refine r_goto (tgt := 42) X dX9_go_73 (by decide) ?_
                    exact ih2 (j + 1) (by omega) (by omega) W2
                  · have hst : arrv ι1 φ (j + 1) = fgt (arrv ι1 φ j) j 10000 := if_neg c_62
                    refine r_aload_n X dX9_go_65 (pc' := 66) rfl rfl ?_
                    refine r_iload_n X dX9_go_66 (pc' := 67) rfl rfl ?_
                    refine r_callV (As := [_]) X okX9_forgets lm_X9_76 dX9_go_67 (pc' := 70) rfl (ct_X9_forgets P n hn h ι1 _ W1 j (by omega)) (by omega) (wM_e37 _ _ _ _) rfl rfl rfl rfl (Nat.le_of_ble_eq_true rfl) (by omega) (by omega) (by omega) ?_
                    dsimp only [Option.toList, List.cons_append, List.nil_append]
                    rw [← hst]
                    have W2 : Wf ι1 (arrv ι1 φ (j + 1)) := WA.arrv (j + 1)
                    refine r_iincN (vs' := [_, _, _, _]) X dX9_go_70 (pc' := 73) rfl (by decide) rfl rfl ?_
                    refine r_goto (tgt := 42) X dX9_go_73 (by decide) ?_
                    exact ih2 (j + 1) (by omega) (by omega) W2
            exact inner _ 0 (Nat.lt_succ_self _) (Nat.zero_le _) WA
    exact loop _ 0 ι φ _ (Nat.lt_succ_self _) (Nat.zero_le _) W hFF.symm
  · refine r_iconst (v := (-1)) X (by decide) dX9_go_11 (pc' := 12) rfl ?_
    exact r_iret X r dX9_go_12 (by omega) (by omega) rfl (by unfold aGo; rw [pif_f (by rw [show inQ _ _ = false from c_8]; decide)]) rfl (by unfold sGo; rw [pif_f (by rw [show inQ _ _ = false from c_8]; decide)])
