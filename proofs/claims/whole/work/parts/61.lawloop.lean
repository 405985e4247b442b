/-! ===== the law's loop ===== -/
section ZLL
variable {K : Kx} {P : Px} {b L : Nat} {xs : Nat → Int32}
theorem l_small : ∀ l, l < 5 → nI l - nI 5 < nI 0 := by decide
set_option maxRecDepth 100000 in
set_option maxHeartbeats 2000000 in
theorem law_loop (X : Cx K P RL cL_law 4 9 600000 7302250) (S : Sc K P b L xs) (E : Ed K b) : ∀ (mm q n : Nat) (h : hw), L - 5 * q < mm → Iw P n h → 5 * q ≤ L → Z K P n h (83 + q) (104235 + 9 * q) 18 (lvL P b (5 * q)) [] := by
  intro mm
  induction mm with
  | zero => intro q n h hm; exact absurd hm (Nat.not_lt_zero _)
  | succ mm ih =>
    intro q n h hm I hq
    have hL := S.le
    have hE : Z K P n h (83 + q) (104235 + 9 * q) 837 (lvL P b (5 * q)) [] := by
      refine r_iconst (v := 1) X (by decide) dL_law_837 (pc' := 838) rfl ?_
      exact r_lend X S E dL_law_838 (by omega) (by omega)
    refine r_iload_n X dL_law_18 (pc' := 19) rfl rfl ?_
    refine r_aload_n X dL_law_19 (pc' := 20) rfl rfl ?_
    refine r_slen X S dL_law_20 (pc' := 21) rfl ?_
    refine r_iconst (v := nI 5) X (by decide) dL_law_21 (pc' := 22) rfl ?_
    by_cases h5 : 5 ≤ L
    · refine rN_isub X dL_law_22 (pc' := 23) rfl h5 ?_
      refine rN_icmp_gt X dL_law_23 (tgt := 837) (by decide) (pc' := 26) rfl (by omega) (by omega) (fun _ => hE) (fun c => ?_)
      have hi : 5 * q + 5 ≤ L := by omega
      have back : ∀ (n' : Nat) (h' : hw), Iw P n' h' → Z K P n' h' (83 + q + 1) (104235 + 9 * q + 9) 831 (lvL P b (5 * q)) [] := by
        intro n' h' I'
        have e5 : nI (5 * q) + Int32.ofInt 5 = nI (5 * (q + 1)) := by
          rw [show Int32.ofInt 5 = nI 5 from by decide, nI_add]
          rfl
        refine r_iinc (vs' := lvL P b (5 * (q + 1))) X dL_law_831 (pc' := 834) rfl (by decide) rfl e5 rfl ?_
        refine r_goto (tgt := 18) X dL_law_834 (by decide) ?_
        exact Z.mono (by omega) (by omega) (ih (q + 1) n' h' (by omega) I' (by omega))
      refine r_aload_n X dL_law_26 (pc' := 27) rfl rfl ?_
      refine r_iload_n X dL_law_27 (pc' := 28) rfl rfl ?_
      refine r_sld X S (by omega) dL_law_28 (pc' := 29) rfl ?_
      refine r_bipush (v := nI 31) X (by decide) dL_law_29 (pc' := 31) rfl ?_
      refine r_iand X dL_law_31 (pc' := 32) rfl ?_
      generalize xs (5 * q) &&& nI 31 = v
      by_cases e0 : v = nI 0
      · exact r_tabIn X dL_law_32 (by rw [e0]; decide) (by rw [e0]; decide) (off := 100) (by rw [e0]; rfl) (tgt := 132) (by decide) (lc_go X S I hi (by omega) (by omega) back)
      by_cases e1 : v = nI 1
      · exact r_tabIn X dL_law_32 (by rw [e1]; decide) (by rw [e1]; decide) (off := 123) (by rw [e1]; rfl) (tgt := 155) (by decide) (lc_roles X S I hi (by omega) (by omega) back)
      by_cases e2 : v = nI 2
      · exact r_tabIn X dL_law_32 (by rw [e2]; decide) (by rw [e2]; decide) (off := 156) (by rw [e2]; rfl) (tgt := 188) (by decide) (lc_mark X S I hi (by omega) (by omega) back)
      by_cases e3 : v = nI 3
      · exact r_tabIn X dL_law_32 (by rw [e3]; decide) (by rw [e3]; decide) (off := 199) (by rw [e3]; rfl) (tgt := 231) (by decide) (lc_thing X S I hi (by omega) (by omega) back)
      by_cases e4 : v = nI 4
      · exact r_tabIn X dL_law_32 (by rw [e4]; decide) (by rw [e4]; decide) (off := 242) (by rw [e4]; rfl) (tgt := 274) (by decide) (lc_sort X S I hi (by omega) (by omega) back)
      by_cases e5 : v = nI 5
      · exact r_tabIn X dL_law_32 (by rw [e5]; decide) (by rw [e5]; decide) (off := 285) (by rw [e5]; rfl) (tgt := 317) (by decide) (lc_rule X S I hi (by omega) (by omega) back)
      by_cases e6 : v = nI 6
      · exact r_tabIn X dL_law_32 (by rw [e6]; decide) (by rw [e6]; decide) (off := 338) (by rw [e6]; rfl) (tgt := 370) (by decide) (lc_unrule X S I hi (by omega) (by omega) back)
      by_cases e7 : v = nI 7
      · exact r_tabIn X dL_law_32 (by rw [e7]; decide) (by rw [e7]; decide) (off := 371) (by rw [e7]; rfl) (tgt := 403) (by decide) (lc_ask X S I hi (by omega) (by omega) back)
      by_cases e8 : v = nI 8
      · exact r_tabIn X dL_law_32 (by rw [e8]; decide) (by rw [e8]; decide) (off := 394) (by rw [e8]; rfl) (tgt := 426) (by decide) (lc_behalf X S I hi (by omega) (by omega) back)
      by_cases e9 : v = nI 9
      · exact r_tabIn X dL_law_32 (by rw [e9]; decide) (by rw [e9]; decide) (off := 427) (by rw [e9]; rfl) (tgt := 459) (by decide) (lc_why X S I hi (by omega) (by omega) back)
      by_cases e10 : v = nI 10
      · exact r_tabIn X dL_law_32 (by rw [e10]; decide) (by rw [e10]; decide) (off := 460) (by rw [e10]; rfl) (tgt := 492) (by decide) (lc_facts X S I hi (by omega) (by omega) back)
      by_cases e11 : v = nI 11
      · exact r_tabIn X dL_law_32 (by rw [e11]; decide) (by rw [e11]; decide) (off := 483) (by rw [e11]; rfl) (tgt := 515) (by decide) (lc_judge X S I hi (by omega) (by omega) back)
      by_cases e12 : v = nI 12
      · exact r_tabIn X dL_law_32 (by rw [e12]; decide) (by rw [e12]; decide) (off := 526) (by rw [e12]; rfl) (tgt := 558) (by decide) (lc_judged X S I hi (by omega) (by omega) back)
      by_cases e13 : v = nI 13
      · exact r_tabIn X dL_law_32 (by rw [e13]; decide) (by rw [e13]; decide) (off := 559) (by rw [e13]; rfl) (tgt := 591) (by decide) (lc_keeps X S I hi (by omega) (by omega) back)
      by_cases e14 : v = nI 14
      · exact r_tabIn X dL_law_32 (by rw [e14]; decide) (by rw [e14]; decide) (off := 582) (by rw [e14]; rfl) (tgt := 614) (by decide) (lc_law X S I hi (by omega) (by omega) back)
      by_cases e15 : v = nI 15
      · exact r_tabIn X dL_law_32 (by rw [e15]; decide) (by rw [e15]; decide) (off := 615) (by rw [e15]; rfl) (tgt := 647) (by decide) (lc_idle X S I hi (by omega) (by omega) back)
      by_cases e16 : v = nI 16
      · exact r_tabIn X dL_law_32 (by rw [e16]; decide) (by rw [e16]; decide) (off := 648) (by rw [e16]; rfl) (tgt := 680) (by decide) (lc_quarrel X S I hi (by omega) (by omega) back)
      by_cases e17 : v = nI 17
      · exact r_tabIn X dL_law_32 (by rw [e17]; decide) (by rw [e17]; decide) (off := 691) (by rw [e17]; rfl) (tgt := 723) (by decide) (lc_log X S I hi (by omega) (by omega) back)
      by_cases e18 : v = nI 18
      · exact r_tabIn X dL_law_32 (by rw [e18]; decide) (by rw [e18]; decide) (off := 724) (by rw [e18]; rfl) (tgt := 756) (by decide) (lc_lost X S I hi (by omega) (by omega) back)
      by_cases e19 : v = nI 19
      · exact r_tabIn X dL_law_32 (by rw [e19]; decide) (by rw [e19]; decide) (off := 737) (by rw [e19]; rfl) (tgt := 769) (by decide) (lc_move X S I hi (by omega) (by omega) back)
      by_cases e20 : v = nI 20
      · exact r_tabIn X dL_law_32 (by rw [e20]; decide) (by rw [e20]; decide) (off := 776) (by rw [e20]; rfl) (tgt := 808) (by decide) (lc_count X S I hi (by omega) (by omega) back)
      exact r_tabOut X dL_law_32 (by have t0 := neT e0 (by decide); have t1 := neT e1 (by decide); have t2 := neT e2 (by decide); have t3 := neT e3 (by decide); have t4 := neT e4 (by decide); have t5 := neT e5 (by decide); have t6 := neT e6 (by decide); have t7 := neT e7 (by decide); have t8 := neT e8 (by decide); have t9 := neT e9 (by decide); have t10 := neT e10 (by decide); have t11 := neT e11 (by decide); have t12 := neT e12 (by decide); have t13 := neT e13 (by decide); have t14 := neT e14 (by decide); have t15 := neT e15 (by decide); have t16 := neT e16 (by decide); have t17 := neT e17 (by decide); have t18 := neT e18 (by decide); have t19 := neT e19 (by decide); have t20 := neT e20 (by decide); omega) (tgt := 831) (by decide) (Z.mono (by omega) (by omega) (back n h I))
    · have q0 : q = 0 := by omega
      subst q0
      refine r_isub X dL_law_22 (pc' := 23) rfl ?_
      exact r_icmp_gt X dL_law_23 (tgt := 837) (by decide) (pc' := 26) rfl (fun _ => hE) (fun c => absurd (l_small L (by omega)) c)
set_option maxRecDepth 100000 in
set_option maxHeartbeats 2000000 in
theorem law_body (X : Cx K P RL cL_law 4 9 600000 7302250) (S : Sc K P b L xs) (E : Ed K b) (h : hw) : Z K P 0 h 0 0 0 [some (.ref b), none, none, none] [] := by
  refine r_new (fs := [.null, .null, .null, .null, .null, .null, .null, .null, .int 0, .int 0, .int 0]) X fX8 lc_L_7 insX8 iniX8 (fun q hq => by match q, hq with | 0, _ => rfl | 1, _ => rfl | 2, _ => rfl | 3, _ => rfl | 4, _ => rfl | 5, _ => rfl | 6, _ => rfl | 7, _ => rfl | 8, _ => rfl | 9, _ => rfl | 10, _ => rfl | j + 11, hj => omega) (by omega) (by omega) dL_law_0 (pc' := 3) rfl ?_
  refine Z_w lw0_1 ?_
  refine r_dup X rfl dL_law_3 (pc' := 4) rfl ?_
  refine r_callI (As := []) X okX8_init lm_L_9 dL_law_4 (pc' := 7) rfl (ct_X8_init P h) rfl rfl (Nat.le_of_ble_eq_true rfl) (by omega) (by omega) (by omega) ?_
  dsimp only [Option.toList, List.cons_append, List.nil_append]
  refine r_astore_n (vs' := [_, _, _, _]) X dL_law_7 (pc' := 8) rfl (by decide) rfl ?_
  refine r_new (fs := [.int 0, .null, .null, .null, .null, .null, .null, .null, .null, .null, .null, .null, .int 0, .null, .null, .null, .null, .null, .int 0, .null, .null, .null, .null, .null, .int 0, .int 0]) X fX9 lc_L_10 insX9 iniX9 (fun q hq => by match q, hq with | 0, _ => rfl | 1, _ => rfl | 2, _ => rfl | 3, _ => rfl | 4, _ => rfl | 5, _ => rfl | 6, _ => rfl | 7, _ => rfl | 8, _ => rfl | 9, _ => rfl | 10, _ => rfl | 11, _ => rfl | 12, _ => rfl | 13, _ => rfl | 14, _ => rfl | 15, _ => rfl | 16, _ => rfl | 17, _ => rfl | 18, _ => rfl | 19, _ => rfl | 20, _ => rfl | 21, _ => rfl | 22, _ => rfl | 23, _ => rfl | 24, _ => rfl | 25, _ => rfl | j + 26, hj => omega) (by omega) (by omega) dL_law_8 (pc' := 11) rfl ?_
  refine Z_w lw37_1 ?_
  refine r_dup X rfl dL_law_11 (pc' := 12) rfl ?_
  refine r_callI (As := []) X okX9_init lm_L_12 dL_law_12 (pc' := 15) rfl (ct_X9_init P _) rfl rfl (Nat.le_of_ble_eq_true rfl) (by omega) (by omega) (by omega) ?_
  dsimp only [Option.toList, List.cons_append, List.nil_append]
  refine r_astore_n (vs' := [_, _, _, _]) X dL_law_15 (pc' := 16) rfl (by decide) rfl ?_
  refine r_iconst (v := nI 0) X (by decide) dL_law_16 (pc' := 17) rfl ?_
  refine r_istore_n (vs' := [_, _, _, _]) X dL_law_17 (pc' := 18) rfl (by decide) rfl ?_
  exact Z.mono (by omega) (by omega) (law_loop X S E (L + 1) 0 59 _ (by omega) (start_w P h) (by omega))
end ZLL

