/-! ===== the start: what the constructors leave is the invariant's world ===== -/
theorem phi0_n {k i : Nat} (h : k ≠ 13) : phi0 k i = fg2 phi1 30 k i := by
  show fgt (fgt (fgt (fgt (fg2 phi1 30) 0 10000) 1 10000) 2 10000) 3 10000 k i = _
  rw [fgt_n h, fgt_n h, fgt_n h, fgt_n h]
theorem phi0_1 {k i : Nat} (h : k ≠ 13) (h2 : k ≠ 2) : phi0 k i = phi1 k i := by
  rw [phi0_n h]
  exact if_neg (fun q => h2 q.1)
theorem phi0_z {k i : Nat} (h : k ≠ 13) (h2 : k ≠ 2) (h3 : k ≠ 3) (h4 : k ≠ 4) (h11 : k ≠ 11) (h12 : k ≠ 12) (h20 : k ≠ 20) : phi0 k i = 0 := by
  rw [phi0_1 h h2]
  unfold phi1
  rw [if_neg h3, if_neg h4, if_neg h11, if_neg h12, if_neg h2, if_neg h, if_neg h20]
theorem phi0_2 {i : Nat} : phi0 2 i - 1 = 0 := by
  rw [phi0_n (by decide)]
  unfold fg2 phi1
  split <;> simp
theorem phi0_13 {j w : Nat} (hj : j < 4) (hw : w < 10000) : phi0 13 (10000 * j + w) = 0 := by
  show fgt (fgt (fgt (fgt (fg2 phi1 30) 0 10000) 1 10000) 2 10000) 3 10000 13 (10000 * j + w) = 0
  unfold fgt
  by_cases h3 : j = 3
  · rw [if_pos ⟨rfl, by omega, by omega⟩]
  rw [if_neg (by omega)]
  by_cases h2 : j = 2
  · rw [if_pos ⟨rfl, by omega, by omega⟩]
  rw [if_neg (by omega)]
  by_cases h1 : j = 1
  · rw [if_pos ⟨rfl, by omega, by omega⟩]
  rw [if_neg (by omega), if_pos ⟨rfl, by omega, by omega⟩]
theorem zI (x : Nat) (h : x = 0) : nI x = 0 := by rw [h]; rfl
theorem f3_0 {i : Nat} : nI (phi0 3 i) = upd (upd (upd (fun _ => 0) 0 (nI 20)) 1 (nI 20)) 2 (nI 20) i := by
  rw [phi0_1 (by decide) (by decide)]
  unfold phi1 upd
  by_cases h0 : i = 0
  · subst h0; rfl
  by_cases h1 : i = 1
  · subst h1; rfl
  by_cases h2 : i = 2
  · subst h2; rfl
  rw [if_pos rfl, if_neg (by omega), if_neg h2, if_neg h1, if_neg h0]; rfl
theorem f4_0 {i : Nat} : nI (phi0 4 i) = upd (upd (upd (fun _ => 0) 0 (nI 1)) 1 (nI 1)) 2 (nI 1) i := by
  rw [phi0_1 (by decide) (by decide)]
  unfold phi1 upd
  by_cases h0 : i = 0
  · subst h0; rfl
  by_cases h1 : i = 1
  · subst h1; rfl
  by_cases h2 : i = 2
  · subst h2; rfl
  rw [if_neg (by decide), if_pos rfl, if_neg (by omega), if_neg h2, if_neg h1, if_neg h0]; rfl
theorem f20_0 {i : Nat} : mi (phi0 20 i) = 0 := by
  rw [phi0_1 (by decide) (by decide), show phi1 20 i = 1 from rfl]; exact mi_1.symm
theorem Wf_phi0 : Wf io0 phi0 := ((((Wf_phi1.fg2 30).fgt 0 10000).fgt 1 10000).fgt 2 10000).fgt 3 10000
theorem cinit_eq (P : Px) (h : hw) : lw 0 [.inr (8, [.ref (Bs P + 1), .ref (Bs P + 2), .ref (Bs P + 3), .ref (Bs P + 4), .ref (Bs P + 15), .ref (Bs P + 20), .ref (Bs P + 25), .ref (Bs P + 32), .int 0, .int 0, .int 0]), .inl (P.2.2.1 0, 10, .inl (fun _ => 0)), .inl (P.2.2.1 0, 10, .inl (fun _ => 0)), .inl (P.2.2.1 0, 10, .inl (fun _ => 0)), .inr (5, [.ref (Bs P + 5), .ref (Bs P + 9), .ref (Bs P + 13), .ref (Bs P + 14)]), .inl (P.2.2.1 2, 3, .inr (.inr (.inr (.inr (fun i => if i < 3 then some (Bs P + 6 + i) else none))))), .inl (P.2.2.1 0, 10, .inl (fun _ => 0)), .inl (P.2.2.1 0, 10, .inl (fun _ => 0)), .inl (P.2.2.1 0, 10, .inl (fun _ => 0)), .inl (P.2.2.1 2, 3, .inr (.inr (.inr (.inr (fun i => if i < 3 then some (Bs P + 10 + i) else none))))), .inl (P.2.2.1 0, 10, .inl (fun _ => 0)), .inl (P.2.2.1 0, 10, .inl (fun _ => 0)), .inl (P.2.2.1 0, 10, .inl (fun _ => 0)), .inl (P.2.2.1 0, 3, .inl (upd (upd (upd (fun _ => 0) 0 (nI 20)) 1 (nI 20)) 2 (nI 20))), .inl (P.2.2.1 0, 3, .inl (upd (upd (upd (fun _ => 0) 0 (nI 1)) 1 (nI 1)) 2 (nI 1))), .inl (P.2.2.1 3, 2, .inr (.inr (.inr (.inr (va_up (va_up (fun _ => none) 0 (some (Bs P + 16))) 1 (some (Bs P + 18))))))), .inr (1, [.ref (Bs P + 17), .int 0]), .inl (P.2.2.1 5, 12, .inr (.inr (.inr (.inr (fun _ => none))))), .inr (1, [.ref (Bs P + 19), .int 0]), .inl (P.2.2.1 5, 12, .inr (.inr (.inr (.inr (fun _ => none))))), .inl (P.2.2.1 4, 4, .inr (.inr (.inr (.inr (va_up (va_up (va_up (va_up (fun _ => none) 0 (some (Bs P + 21))) 1 (some (Bs P + 22))) 2 (some (Bs P + 23))) 3 (some (Bs P + 24))))))), .inr (2, [.int (nI 5), .int (nI 2), .int 0, .null]), .inr (2, [.int (nI 5), .int (nI 2), .int 0, .null]), .inr (2, [.int (nI 5), .int (nI 2), .int 0, .null]), .inr (2, [.int (nI 5), .int (nI 2), .int 0, .null]), .inr (0, [.ref (Bs P + 26), .int 0, .int 0]), .inl (P.2.2.1 2, 5, .inr (.inr (.inr (.inr (fun i => if i < 5 then some (Bs P + 27 + i) else none))))), .inl (P.2.2.1 0, 300, .inl (fun _ => 0)), .inl (P.2.2.1 0, 300, .inl (fun _ => 0)), .inl (P.2.2.1 0, 300, .inl (fun _ => 0)), .inl (P.2.2.1 0, 300, .inl (fun _ => 0)), .inl (P.2.2.1 0, 300, .inl (fun _ => 0)), .inr (7, [.ref (Bs P + 33), .ref (Bs P + 34), .ref (Bs P + 35), .ref (Bs P + 36), .int 0]), .inl (P.2.2.1 0, 16, .inl (fun _ => 0)), .inl (P.2.2.1 0, 64, .inl (fun _ => 0)), .inl (P.2.2.1 0, 80, .inl (fun _ => 0)), .inl (P.2.2.1 0, 64, .inl (fun _ => 0))] h = wC P h io0 phi0 (fun _ => 0) (fun _ => none) (fun _ _ => none) (fun _ _ => 0) := by
  have hz : ∀ k, k ≠ 13 → k ≠ 2 → k ≠ 3 → k ≠ 4 → k ≠ 11 → k ≠ 12 → k ≠ 20 → (fun i => nI (phi0 k i)) = fun _ => (0 : Int32) := fun k a b c d e f g => funext (fun i => zI _ (phi0_z a b c d e f g))
  have z2 : ∀ s, (fun i => nI (if i < 10 then phi0 2 (10 * s + i) - 1 else 0)) = fun _ => (0 : Int32) := fun s => funext (fun i => zI _ (by split; exact phi0_2; rfl))
  have z1 : ∀ s, (fun i => nI (if i < 10 then phi0 1 (10 * s + i) else 0)) = fun _ => (0 : Int32) := fun s => funext (fun i => zI _ (by split; exact phi0_z (by decide) (by decide) (by decide) (by decide) (by decide) (by decide) (by decide); rfl))
  have z7 : ∀ i, phi0 7 i = 0 := fun i => phi0_z (by decide) (by decide) (by decide) (by decide) (by decide) (by decide) (by decide)
  have hc : ∀ j, j < 37 → ([.inr (8, [.ref (Bs P + 1), .ref (Bs P + 2), .ref (Bs P + 3), .ref (Bs P + 4), .ref (Bs P + 15), .ref (Bs P + 20), .ref (Bs P + 25), .ref (Bs P + 32), .int 0, .int 0, .int 0]), .inl (P.2.2.1 0, 10, .inl (fun _ => 0)), .inl (P.2.2.1 0, 10, .inl (fun _ => 0)), .inl (P.2.2.1 0, 10, .inl (fun _ => 0)), .inr (5, [.ref (Bs P + 5), .ref (Bs P + 9), .ref (Bs P + 13), .ref (Bs P + 14)]), .inl (P.2.2.1 2, 3, .inr (.inr (.inr (.inr (fun i => if i < 3 then some (Bs P + 6 + i) else none))))), .inl (P.2.2.1 0, 10, .inl (fun _ => 0)), .inl (P.2.2.1 0, 10, .inl (fun _ => 0)), .inl (P.2.2.1 0, 10, .inl (fun _ => 0)), .inl (P.2.2.1 2, 3, .inr (.inr (.inr (.inr (fun i => if i < 3 then some (Bs P + 10 + i) else none))))), .inl (P.2.2.1 0, 10, .inl (fun _ => 0)), .inl (P.2.2.1 0, 10, .inl (fun _ => 0)), .inl (P.2.2.1 0, 10, .inl (fun _ => 0)), .inl (P.2.2.1 0, 3, .inl (upd (upd (upd (fun _ => 0) 0 (nI 20)) 1 (nI 20)) 2 (nI 20))), .inl (P.2.2.1 0, 3, .inl (upd (upd (upd (fun _ => 0) 0 (nI 1)) 1 (nI 1)) 2 (nI 1))), .inl (P.2.2.1 3, 2, .inr (.inr (.inr (.inr (va_up (va_up (fun _ => none) 0 (some (Bs P + 16))) 1 (some (Bs P + 18))))))), .inr (1, [.ref (Bs P + 17), .int 0]), .inl (P.2.2.1 5, 12, .inr (.inr (.inr (.inr (fun _ => none))))), .inr (1, [.ref (Bs P + 19), .int 0]), .inl (P.2.2.1 5, 12, .inr (.inr (.inr (.inr (fun _ => none))))), .inl (P.2.2.1 4, 4, .inr (.inr (.inr (.inr (va_up (va_up (va_up (va_up (fun _ => none) 0 (some (Bs P + 21))) 1 (some (Bs P + 22))) 2 (some (Bs P + 23))) 3 (some (Bs P + 24))))))), .inr (2, [.int (nI 5), .int (nI 2), .int 0, .null]), .inr (2, [.int (nI 5), .int (nI 2), .int 0, .null]), .inr (2, [.int (nI 5), .int (nI 2), .int 0, .null]), .inr (2, [.int (nI 5), .int (nI 2), .int 0, .null]), .inr (0, [.ref (Bs P + 26), .int 0, .int 0]), .inl (P.2.2.1 2, 5, .inr (.inr (.inr (.inr (fun i => if i < 5 then some (Bs P + 27 + i) else none))))), .inl (P.2.2.1 0, 300, .inl (fun _ => 0)), .inl (P.2.2.1 0, 300, .inl (fun _ => 0)), .inl (P.2.2.1 0, 300, .inl (fun _ => 0)), .inl (P.2.2.1 0, 300, .inl (fun _ => 0)), .inl (P.2.2.1 0, 300, .inl (fun _ => 0)), .inr (7, [.ref (Bs P + 33), .ref (Bs P + 34), .ref (Bs P + 35), .ref (Bs P + 36), .int 0]), .inl (P.2.2.1 0, 16, .inl (fun _ => 0)), .inl (P.2.2.1 0, 64, .inl (fun _ => 0)), .inl (P.2.2.1 0, 80, .inl (fun _ => 0)), .inl (P.2.2.1 0, 64, .inl (fun _ => 0))] : List va_E)[j]? = some (ccell P io0 phi0 (fun _ => 0) (fun _ => none) (fun _ _ => none) (fun _ _ => 0) j) := by
    refine lt37 ?_ ?_ ?_ ?_ ?_ ?_ ?_ ?_ ?_ ?_ ?_ ?_ ?_ ?_ ?_ ?_ ?_ ?_ ?_ ?_ ?_ ?_ ?_ ?_ ?_ ?_ ?_ ?_ ?_ ?_ ?_ ?_ ?_ ?_ ?_ ?_ ?_
    all_goals first
      | rfl
      | (refine congrArg some ?_; show _ = Sum.inl (_, _, Sum.inl (fun i => nI (phi0 _ i))); rw [hz _ (by decide) (by decide) (by decide) (by decide) (by decide) (by decide) (by decide)]; done)
      | (refine congrArg some ?_; show _ = Sum.inl (_, _, Sum.inl (fun i => nI (if i < 10 then phi0 1 _ else 0))); rw [z1]; done)
      | (refine congrArg some ?_; show _ = Sum.inl (_, _, Sum.inl (fun i => nI (if i < 10 then phi0 2 _ - 1 else 0))); rw [z2]; done)
      | (refine congrArg some ?_; show _ = Sum.inl (_, _, Sum.inl (fun i => nI (phi0 3 i))); rw [show (fun i => nI (phi0 3 i)) = _ from funext (fun i => f3_0)]; done)
      | (refine congrArg some ?_; show _ = Sum.inl (_, _, Sum.inl (fun i => nI (phi0 4 i))); rw [show (fun i => nI (phi0 4 i)) = _ from funext (fun i => f4_0)]; done)
      | (refine congrArg some ?_; show _ = Sum.inl (_, _, Sum.inl (fun i => mi (phi0 20 i))); rw [show (fun i => mi (phi0 20 i)) = fun _ => (0 : Int32) from funext (fun i => f20_0)]; done)
      | (refine congrArg some ?_; show _ = Sum.inr (1, [_, Value.int (nI (phi0 7 _))]); rw [z7]; rfl)
  funext k
  by_cases hk : k < 37
  · rw [wC_in hk, lw_at k (by omega) (hc k hk)]
  · rw [wC_out (by omega)]
    show (if k < 0 then h k else match ([.inr (8, [.ref (Bs P + 1), .ref (Bs P + 2), .ref (Bs P + 3), .ref (Bs P + 4), .ref (Bs P + 15), .ref (Bs P + 20), .ref (Bs P + 25), .ref (Bs P + 32), .int 0, .int 0, .int 0]), .inl (P.2.2.1 0, 10, .inl (fun _ => 0)), .inl (P.2.2.1 0, 10, .inl (fun _ => 0)), .inl (P.2.2.1 0, 10, .inl (fun _ => 0)), .inr (5, [.ref (Bs P + 5), .ref (Bs P + 9), .ref (Bs P + 13), .ref (Bs P + 14)]), .inl (P.2.2.1 2, 3, .inr (.inr (.inr (.inr (fun i => if i < 3 then some (Bs P + 6 + i) else none))))), .inl (P.2.2.1 0, 10, .inl (fun _ => 0)), .inl (P.2.2.1 0, 10, .inl (fun _ => 0)), .inl (P.2.2.1 0, 10, .inl (fun _ => 0)), .inl (P.2.2.1 2, 3, .inr (.inr (.inr (.inr (fun i => if i < 3 then some (Bs P + 10 + i) else none))))), .inl (P.2.2.1 0, 10, .inl (fun _ => 0)), .inl (P.2.2.1 0, 10, .inl (fun _ => 0)), .inl (P.2.2.1 0, 10, .inl (fun _ => 0)), .inl (P.2.2.1 0, 3, .inl (upd (upd (upd (fun _ => 0) 0 (nI 20)) 1 (nI 20)) 2 (nI 20))), .inl (P.2.2.1 0, 3, .inl (upd (upd (upd (fun _ => 0) 0 (nI 1)) 1 (nI 1)) 2 (nI 1))), .inl (P.2.2.1 3, 2, .inr (.inr (.inr (.inr (va_up (va_up (fun _ => none) 0 (some (Bs P + 16))) 1 (some (Bs P + 18))))))), .inr (1, [.ref (Bs P + 17), .int 0]), .inl (P.2.2.1 5, 12, .inr (.inr (.inr (.inr (fun _ => none))))), .inr (1, [.ref (Bs P + 19), .int 0]), .inl (P.2.2.1 5, 12, .inr (.inr (.inr (.inr (fun _ => none))))), .inl (P.2.2.1 4, 4, .inr (.inr (.inr (.inr (va_up (va_up (va_up (va_up (fun _ => none) 0 (some (Bs P + 21))) 1 (some (Bs P + 22))) 2 (some (Bs P + 23))) 3 (some (Bs P + 24))))))), .inr (2, [.int (nI 5), .int (nI 2), .int 0, .null]), .inr (2, [.int (nI 5), .int (nI 2), .int 0, .null]), .inr (2, [.int (nI 5), .int (nI 2), .int 0, .null]), .inr (2, [.int (nI 5), .int (nI 2), .int 0, .null]), .inr (0, [.ref (Bs P + 26), .int 0, .int 0]), .inl (P.2.2.1 2, 5, .inr (.inr (.inr (.inr (fun i => if i < 5 then some (Bs P + 27 + i) else none))))), .inl (P.2.2.1 0, 300, .inl (fun _ => 0)), .inl (P.2.2.1 0, 300, .inl (fun _ => 0)), .inl (P.2.2.1 0, 300, .inl (fun _ => 0)), .inl (P.2.2.1 0, 300, .inl (fun _ => 0)), .inl (P.2.2.1 0, 300, .inl (fun _ => 0)), .inr (7, [.ref (Bs P + 33), .ref (Bs P + 34), .ref (Bs P + 35), .ref (Bs P + 36), .int 0]), .inl (P.2.2.1 0, 16, .inl (fun _ => 0)), .inl (P.2.2.1 0, 64, .inl (fun _ => 0)), .inl (P.2.2.1 0, 80, .inl (fun _ => 0)), .inl (P.2.2.1 0, 64, .inl (fun _ => 0))] : List va_E)[k - 0]? with | some e => e | none => h k) = h k
    rw [if_neg (by omega), List.getElem?_eq_none (by simp; omega)]
theorem lw37_1 {e : va_E} {h : hw} : hset h 37 e = lw 37 [e] h := by
  funext k
  show (if k = 37 then e else h k) = (if k < 37 then h k else match ([e] : List va_E)[k - 37]? with | some e => e | none => h k)
  by_cases h1 : k = 37
  · subst h1; rfl
  · rw [if_neg h1]
    by_cases h2 : k < 37
    · rw [if_pos h2]
    · rw [if_neg h2, List.getElem?_eq_none (by simp; omega)]
theorem lw0_1 {e : va_E} {h : hw} : hset h 0 e = lw 0 [e] h := by
  funext k
  show (if k = 0 then e else h k) = (if k < 0 then h k else match ([e] : List va_E)[k - 0]? with | some e => e | none => h k)
  by_cases h1 : k = 0
  · subst h1; rfl
  · rw [if_neg h1, if_neg (by omega), List.getElem?_eq_none (by simp; omega)]
theorem iv_start (P : Px) (g : hw) : Iv P 59 g io0 phi0 (fun _ => 0) (fun _ => none) (fun _ _ => none) := by
  refine ⟨Nat.le_refl _, Wf_phi0, fun i => ?_, fun k _ => phi0_z (by decide) (by decide) (by decide) (by decide) (by decide) (by decide) (by decide), fun hp i hh hi => ?_, ⟨fun j hj t h1 h2 => ?_, fun j hj t h1 h2 => phi0_z (by decide) (by decide) (by decide) (by decide) (by decide) (by decide) (by decide), fun j t _ => Nat.zero_testBit t⟩, fun _ => [], fun _ => 0, fun _ => 0, fun _ => 0, fun j hj => ⟨rfl, fun k hk => (List.not_mem_nil hk).elim, fun w hw hz => absurd (phi0_13 hj hw) hz, List.Pairwise.nil, fun i _ _ k hk => (List.not_mem_nil hk).elim⟩⟩
  · rw [phi0_z (by decide) (by decide) (by decide) (by decide) (by decide) (by decide) (by decide)]; omega
  · rw [phi0_z (by decide) (by decide) (by decide) (by decide) (by decide) (by decide) (by decide)] at hi; omega
  · rw [Nat.zero_testBit, phi0_z (by decide) (by decide) (by decide) (by decide) (by decide) (by decide) (by decide)]; simp
theorem start_w (P : Px) (h : hw) : Iw P 59 (wM P (lw 0 [.inr (8, [.ref (Bs P + 1), .ref (Bs P + 2), .ref (Bs P + 3), .ref (Bs P + 4), .ref (Bs P + 15), .ref (Bs P + 20), .ref (Bs P + 25), .ref (Bs P + 32), .int 0, .int 0, .int 0]), .inl (P.2.2.1 0, 10, .inl (fun _ => 0)), .inl (P.2.2.1 0, 10, .inl (fun _ => 0)), .inl (P.2.2.1 0, 10, .inl (fun _ => 0)), .inr (5, [.ref (Bs P + 5), .ref (Bs P + 9), .ref (Bs P + 13), .ref (Bs P + 14)]), .inl (P.2.2.1 2, 3, .inr (.inr (.inr (.inr (fun i => if i < 3 then some (Bs P + 6 + i) else none))))), .inl (P.2.2.1 0, 10, .inl (fun _ => 0)), .inl (P.2.2.1 0, 10, .inl (fun _ => 0)), .inl (P.2.2.1 0, 10, .inl (fun _ => 0)), .inl (P.2.2.1 2, 3, .inr (.inr (.inr (.inr (fun i => if i < 3 then some (Bs P + 10 + i) else none))))), .inl (P.2.2.1 0, 10, .inl (fun _ => 0)), .inl (P.2.2.1 0, 10, .inl (fun _ => 0)), .inl (P.2.2.1 0, 10, .inl (fun _ => 0)), .inl (P.2.2.1 0, 3, .inl (upd (upd (upd (fun _ => 0) 0 (nI 20)) 1 (nI 20)) 2 (nI 20))), .inl (P.2.2.1 0, 3, .inl (upd (upd (upd (fun _ => 0) 0 (nI 1)) 1 (nI 1)) 2 (nI 1))), .inl (P.2.2.1 3, 2, .inr (.inr (.inr (.inr (va_up (va_up (fun _ => none) 0 (some (Bs P + 16))) 1 (some (Bs P + 18))))))), .inr (1, [.ref (Bs P + 17), .int 0]), .inl (P.2.2.1 5, 12, .inr (.inr (.inr (.inr (fun _ => none))))), .inr (1, [.ref (Bs P + 19), .int 0]), .inl (P.2.2.1 5, 12, .inr (.inr (.inr (.inr (fun _ => none))))), .inl (P.2.2.1 4, 4, .inr (.inr (.inr (.inr (va_up (va_up (va_up (va_up (fun _ => none) 0 (some (Bs P + 21))) 1 (some (Bs P + 22))) 2 (some (Bs P + 23))) 3 (some (Bs P + 24))))))), .inr (2, [.int (nI 5), .int (nI 2), .int 0, .null]), .inr (2, [.int (nI 5), .int (nI 2), .int 0, .null]), .inr (2, [.int (nI 5), .int (nI 2), .int 0, .null]), .inr (2, [.int (nI 5), .int (nI 2), .int 0, .null]), .inr (0, [.ref (Bs P + 26), .int 0, .int 0]), .inl (P.2.2.1 2, 5, .inr (.inr (.inr (.inr (fun i => if i < 5 then some (Bs P + 27 + i) else none))))), .inl (P.2.2.1 0, 300, .inl (fun _ => 0)), .inl (P.2.2.1 0, 300, .inl (fun _ => 0)), .inl (P.2.2.1 0, 300, .inl (fun _ => 0)), .inl (P.2.2.1 0, 300, .inl (fun _ => 0)), .inl (P.2.2.1 0, 300, .inl (fun _ => 0)), .inr (7, [.ref (Bs P + 33), .ref (Bs P + 34), .ref (Bs P + 35), .ref (Bs P + 36), .int 0]), .inl (P.2.2.1 0, 16, .inl (fun _ => 0)), .inl (P.2.2.1 0, 64, .inl (fun _ => 0)), .inl (P.2.2.1 0, 80, .inl (fun _ => 0)), .inl (P.2.2.1 0, 64, .inl (fun _ => 0))] h) io0 phi0) :=
  ⟨h, io0, phi0, fun _ => 0, fun _ => none, fun _ _ => none, fun _ _ => 0, iv_start P h, by rw [wCM, cinit_eq]⟩

