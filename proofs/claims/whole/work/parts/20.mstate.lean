/-! ===== the model's state: five numbers (ι) and twenty-one rows of numbers (φ), and its cells 37 .. 58 ===== -/
def nv (x : Nat) : Int32 := if x = 0 then -100000 else nI (x - 1)
def mi (x : Nat) : Int32 := nI x - 1
def up1 (f : Nat → Nat) (k x : Nat) : Nat → Nat := fun j => if j = k then x else f j
def up2 (f : Nat → Nat → Nat) (k i x : Nat) : Nat → Nat → Nat := fun k' i' => if k' = k ∧ i' = i then x else f k' i'
theorem up1_s (f : Nat → Nat) (k x : Nat) : up1 f k x k = x := if_pos rfl
theorem up1_n (f : Nat → Nat) {k j : Nat} (x : Nat) (h : j ≠ k) : up1 f k x j = f j := if_neg h
theorem up2_s (f : Nat → Nat → Nat) (k i x : Nat) : up2 f k i x k i = x := if_pos ⟨rfl, rfl⟩
theorem up2_n (f : Nat → Nat → Nat) {k i k' i' : Nat} (x : Nat) (h : k' ≠ k ∨ i' ≠ i) : up2 f k i x k' i' = f k' i' := if_neg (fun q => h.elim (fun z => z q.1) (fun z => z q.2))
def mfs (P : Px) (ι : Nat → Nat) : List Value := [.int (nI (ι 0)), .ref (Bs P + 38), .ref (Bs P + 39), .ref (Bs P + 40), .ref (Bs P + 41), .ref (Bs P + 42), .ref (Bs P + 43), .ref (Bs P + 44), .ref (Bs P + 45), .ref (Bs P + 46), .ref (Bs P + 47), .ref (Bs P + 48), .int (nI (ι 1)), .ref (Bs P + 49), .ref (Bs P + 50), .ref (Bs P + 51), .ref (Bs P + 52), .ref (Bs P + 53), .int (nI (ι 2)), .ref (Bs P + 54), .ref (Bs P + 55), .ref (Bs P + 56), .ref (Bs P + 57), .ref (Bs P + 58), .int (nI (ι 3)), .int (nI (ι 4))]
def tyM (k : Nat) : Nat := match k with | 15 => 1 | _ => 0
def lenM (k : Nat) : Nat := match k with | 0 => 10 | 1 => 30 | 2 => 30 | 3 => 3 | 4 => 3 | 5 => 10 | 6 => 10 | 7 => 2 | 8 => 24 | 9 => 24 | 10 => 24 | 11 => 4 | 12 => 4 | 13 => 40000 | 14 => 40000 | 15 => 20120 | 16 => 300 | 17 => 300 | 18 => 300 | 19 => 300 | _ => 300
def encM (k : Nat) : Nat → Int32 := match k with | 2 => nv | 13 => nv | 20 => mi | _ => nI
def mcell (P : Px) (ι : Nat → Nat) (φ : Nat → Nat → Nat) (k : Nat) : va_E := match k with
  | 0 => .inr (9, mfs P ι)
  | j + 1 => .inl (P.2.2.1 (tyM j), lenM j, .inl (fun i => encM j (φ j i)))
def wM (P : Px) (h : hw) (ι : Nat → Nat) (φ : Nat → Nat → Nat) : hw := fun k => if 37 ≤ k ∧ k < 59 then mcell P ι φ (k - 37) else h k
theorem wM_out {P : Px} {h : hw} {ι : Nat → Nat} {φ : Nat → Nat → Nat} {k : Nat} (hk : k < 37 ∨ 59 ≤ k) : wM P h ι φ k = h k := if_neg (by omega)
theorem wM_set {P : Px} {h : hw} {ι : Nat → Nat} {φ : Nat → Nat → Nat} (j : Nat) (hj : j < 21) {a x : Nat} : hset (wM P h ι φ) (38 + j) (.inl (P.2.2.1 (tyM j), lenM j, .inl (upd (fun i => encM j (φ j i)) a (encM j x)))) = wM P h ι (up2 φ j a x) := by
  funext k
  unfold hset wM
  by_cases hk : k = 38 + j
  · subst hk
    rw [if_pos rfl, if_pos (by omega), show 38 + j - 37 = j + 1 by omega]
    simp only [mcell]
    congr 4
    funext i
    unfold upd up2
    by_cases hi : i = a <;> simp [hi]
  · rw [if_neg hk]
    by_cases hr : 37 ≤ k ∧ k < 59
    · rw [if_pos hr, if_pos hr]
      obtain ⟨q, hq⟩ : ∃ q, k - 37 = q := ⟨_, rfl⟩
      rw [hq]
      cases q with
      | zero => rfl
      | succ q =>
        have : q ≠ j := by omega
        simp only [mcell, up2, this, false_and, if_false]
    · rw [if_neg hr, if_neg hr]
theorem wM_seti {P : Px} {h : hw} {ι : Nat → Nat} {φ : Nat → Nat → Nat} {ι' : Nat → Nat} {fs : List Value} (hf : fs = mfs P ι') : hset (wM P h ι φ) 37 (.inr (9, fs)) = wM P h ι' φ := by
  subst hf
  funext k
  unfold hset wM
  by_cases hk : k = 37
  · subst hk; rfl
  · rw [if_neg hk]
    by_cases hr : 37 ≤ k ∧ k < 59
    · rw [if_pos hr, if_pos hr]
      obtain ⟨q, hq⟩ : ∃ q, k - 37 = q + 1 := ⟨k - 38, by omega⟩
      rw [hq]
      rfl
    · rw [if_neg hr, if_neg hr]
theorem wM_g {P : Px} {h : hw} {ι : Nat → Nat} {φ : Nat → Nat → Nat} {k : Nat} {e : va_E} (hk : k < 37 ∨ 59 ≤ k) : hset (wM P h ι φ) k e = wM P (hset h k e) ι φ := by
  funext j
  unfold hset wM
  by_cases hj : j = k
  · subst hj
    rw [if_pos rfl, if_neg (by omega)]
    show e = if j = j then e else h j
    rw [if_pos rfl]
  · rw [if_neg hj]
    show _ = if 37 ≤ j ∧ j < 59 then mcell P ι φ (j - 37) else if j = k then e else h j
    rw [if_neg hj]
theorem wM_e37 (P : Px) (h : hw) (ι : Nat → Nat) (φ : Nat → Nat → Nat) : wM P h ι φ 37 = .inr (9, mfs P ι) := rfl
theorem wM_e38 (P : Px) (h : hw) (ι : Nat → Nat) (φ : Nat → Nat → Nat) : wM P h ι φ 38 = .inl (P.2.2.1 0, 10, .inl (fun i => nI (φ 0 i))) := rfl
theorem wM_s38 {P : Px} {h : hw} {ι : Nat → Nat} {φ : Nat → Nat → Nat} {a x : Nat} : hset (wM P h ι φ) 38 (.inl (P.2.2.1 0, 10, .inl (upd (fun i => nI (φ 0 i)) a (nI x)))) = wM P h ι (up2 φ 0 a x) := wM_set 0 (by decide)
theorem wM_e39 (P : Px) (h : hw) (ι : Nat → Nat) (φ : Nat → Nat → Nat) : wM P h ι φ 39 = .inl (P.2.2.1 0, 30, .inl (fun i => nI (φ 1 i))) := rfl
theorem wM_s39 {P : Px} {h : hw} {ι : Nat → Nat} {φ : Nat → Nat → Nat} {a x : Nat} : hset (wM P h ι φ) 39 (.inl (P.2.2.1 0, 30, .inl (upd (fun i => nI (φ 1 i)) a (nI x)))) = wM P h ι (up2 φ 1 a x) := wM_set 1 (by decide)
theorem wM_e40 (P : Px) (h : hw) (ι : Nat → Nat) (φ : Nat → Nat → Nat) : wM P h ι φ 40 = .inl (P.2.2.1 0, 30, .inl (fun i => nv (φ 2 i))) := rfl
theorem wM_s40 {P : Px} {h : hw} {ι : Nat → Nat} {φ : Nat → Nat → Nat} {a x : Nat} : hset (wM P h ι φ) 40 (.inl (P.2.2.1 0, 30, .inl (upd (fun i => nv (φ 2 i)) a (nv x)))) = wM P h ι (up2 φ 2 a x) := wM_set 2 (by decide)
theorem wM_e41 (P : Px) (h : hw) (ι : Nat → Nat) (φ : Nat → Nat → Nat) : wM P h ι φ 41 = .inl (P.2.2.1 0, 3, .inl (fun i => nI (φ 3 i))) := rfl
theorem wM_s41 {P : Px} {h : hw} {ι : Nat → Nat} {φ : Nat → Nat → Nat} {a x : Nat} : hset (wM P h ι φ) 41 (.inl (P.2.2.1 0, 3, .inl (upd (fun i => nI (φ 3 i)) a (nI x)))) = wM P h ι (up2 φ 3 a x) := wM_set 3 (by decide)
theorem wM_e42 (P : Px) (h : hw) (ι : Nat → Nat) (φ : Nat → Nat → Nat) : wM P h ι φ 42 = .inl (P.2.2.1 0, 3, .inl (fun i => nI (φ 4 i))) := rfl
theorem wM_s42 {P : Px} {h : hw} {ι : Nat → Nat} {φ : Nat → Nat → Nat} {a x : Nat} : hset (wM P h ι φ) 42 (.inl (P.2.2.1 0, 3, .inl (upd (fun i => nI (φ 4 i)) a (nI x)))) = wM P h ι (up2 φ 4 a x) := wM_set 4 (by decide)
theorem wM_e43 (P : Px) (h : hw) (ι : Nat → Nat) (φ : Nat → Nat → Nat) : wM P h ι φ 43 = .inl (P.2.2.1 0, 10, .inl (fun i => nI (φ 5 i))) := rfl
theorem wM_s43 {P : Px} {h : hw} {ι : Nat → Nat} {φ : Nat → Nat → Nat} {a x : Nat} : hset (wM P h ι φ) 43 (.inl (P.2.2.1 0, 10, .inl (upd (fun i => nI (φ 5 i)) a (nI x)))) = wM P h ι (up2 φ 5 a x) := wM_set 5 (by decide)
theorem wM_e44 (P : Px) (h : hw) (ι : Nat → Nat) (φ : Nat → Nat → Nat) : wM P h ι φ 44 = .inl (P.2.2.1 0, 10, .inl (fun i => nI (φ 6 i))) := rfl
theorem wM_s44 {P : Px} {h : hw} {ι : Nat → Nat} {φ : Nat → Nat → Nat} {a x : Nat} : hset (wM P h ι φ) 44 (.inl (P.2.2.1 0, 10, .inl (upd (fun i => nI (φ 6 i)) a (nI x)))) = wM P h ι (up2 φ 6 a x) := wM_set 6 (by decide)
theorem wM_e45 (P : Px) (h : hw) (ι : Nat → Nat) (φ : Nat → Nat → Nat) : wM P h ι φ 45 = .inl (P.2.2.1 0, 2, .inl (fun i => nI (φ 7 i))) := rfl
theorem wM_s45 {P : Px} {h : hw} {ι : Nat → Nat} {φ : Nat → Nat → Nat} {a x : Nat} : hset (wM P h ι φ) 45 (.inl (P.2.2.1 0, 2, .inl (upd (fun i => nI (φ 7 i)) a (nI x)))) = wM P h ι (up2 φ 7 a x) := wM_set 7 (by decide)
theorem wM_e46 (P : Px) (h : hw) (ι : Nat → Nat) (φ : Nat → Nat → Nat) : wM P h ι φ 46 = .inl (P.2.2.1 0, 24, .inl (fun i => nI (φ 8 i))) := rfl
theorem wM_s46 {P : Px} {h : hw} {ι : Nat → Nat} {φ : Nat → Nat → Nat} {a x : Nat} : hset (wM P h ι φ) 46 (.inl (P.2.2.1 0, 24, .inl (upd (fun i => nI (φ 8 i)) a (nI x)))) = wM P h ι (up2 φ 8 a x) := wM_set 8 (by decide)
theorem wM_e47 (P : Px) (h : hw) (ι : Nat → Nat) (φ : Nat → Nat → Nat) : wM P h ι φ 47 = .inl (P.2.2.1 0, 24, .inl (fun i => nI (φ 9 i))) := rfl
theorem wM_s47 {P : Px} {h : hw} {ι : Nat → Nat} {φ : Nat → Nat → Nat} {a x : Nat} : hset (wM P h ι φ) 47 (.inl (P.2.2.1 0, 24, .inl (upd (fun i => nI (φ 9 i)) a (nI x)))) = wM P h ι (up2 φ 9 a x) := wM_set 9 (by decide)
theorem wM_e48 (P : Px) (h : hw) (ι : Nat → Nat) (φ : Nat → Nat → Nat) : wM P h ι φ 48 = .inl (P.2.2.1 0, 24, .inl (fun i => nI (φ 10 i))) := rfl
theorem wM_s48 {P : Px} {h : hw} {ι : Nat → Nat} {φ : Nat → Nat → Nat} {a x : Nat} : hset (wM P h ι φ) 48 (.inl (P.2.2.1 0, 24, .inl (upd (fun i => nI (φ 10 i)) a (nI x)))) = wM P h ι (up2 φ 10 a x) := wM_set 10 (by decide)
theorem wM_e49 (P : Px) (h : hw) (ι : Nat → Nat) (φ : Nat → Nat → Nat) : wM P h ι φ 49 = .inl (P.2.2.1 0, 4, .inl (fun i => nI (φ 11 i))) := rfl
theorem wM_s49 {P : Px} {h : hw} {ι : Nat → Nat} {φ : Nat → Nat → Nat} {a x : Nat} : hset (wM P h ι φ) 49 (.inl (P.2.2.1 0, 4, .inl (upd (fun i => nI (φ 11 i)) a (nI x)))) = wM P h ι (up2 φ 11 a x) := wM_set 11 (by decide)
theorem wM_e50 (P : Px) (h : hw) (ι : Nat → Nat) (φ : Nat → Nat → Nat) : wM P h ι φ 50 = .inl (P.2.2.1 0, 4, .inl (fun i => nI (φ 12 i))) := rfl
theorem wM_s50 {P : Px} {h : hw} {ι : Nat → Nat} {φ : Nat → Nat → Nat} {a x : Nat} : hset (wM P h ι φ) 50 (.inl (P.2.2.1 0, 4, .inl (upd (fun i => nI (φ 12 i)) a (nI x)))) = wM P h ι (up2 φ 12 a x) := wM_set 12 (by decide)
theorem wM_e51 (P : Px) (h : hw) (ι : Nat → Nat) (φ : Nat → Nat → Nat) : wM P h ι φ 51 = .inl (P.2.2.1 0, 40000, .inl (fun i => nv (φ 13 i))) := rfl
theorem wM_s51 {P : Px} {h : hw} {ι : Nat → Nat} {φ : Nat → Nat → Nat} {a x : Nat} : hset (wM P h ι φ) 51 (.inl (P.2.2.1 0, 40000, .inl (upd (fun i => nv (φ 13 i)) a (nv x)))) = wM P h ι (up2 φ 13 a x) := wM_set 13 (by decide)
theorem wM_e52 (P : Px) (h : hw) (ι : Nat → Nat) (φ : Nat → Nat → Nat) : wM P h ι φ 52 = .inl (P.2.2.1 0, 40000, .inl (fun i => nI (φ 14 i))) := rfl
theorem wM_s52 {P : Px} {h : hw} {ι : Nat → Nat} {φ : Nat → Nat → Nat} {a x : Nat} : hset (wM P h ι φ) 52 (.inl (P.2.2.1 0, 40000, .inl (upd (fun i => nI (φ 14 i)) a (nI x)))) = wM P h ι (up2 φ 14 a x) := wM_set 14 (by decide)
theorem wM_e53 (P : Px) (h : hw) (ι : Nat → Nat) (φ : Nat → Nat → Nat) : wM P h ι φ 53 = .inl (P.2.2.1 1, 20120, .inl (fun i => nI (φ 15 i))) := rfl
theorem wM_s53 {P : Px} {h : hw} {ι : Nat → Nat} {φ : Nat → Nat → Nat} {a x : Nat} : hset (wM P h ι φ) 53 (.inl (P.2.2.1 1, 20120, .inl (upd (fun i => nI (φ 15 i)) a (nI x)))) = wM P h ι (up2 φ 15 a x) := wM_set 15 (by decide)
theorem wM_e54 (P : Px) (h : hw) (ι : Nat → Nat) (φ : Nat → Nat → Nat) : wM P h ι φ 54 = .inl (P.2.2.1 0, 300, .inl (fun i => nI (φ 16 i))) := rfl
theorem wM_s54 {P : Px} {h : hw} {ι : Nat → Nat} {φ : Nat → Nat → Nat} {a x : Nat} : hset (wM P h ι φ) 54 (.inl (P.2.2.1 0, 300, .inl (upd (fun i => nI (φ 16 i)) a (nI x)))) = wM P h ι (up2 φ 16 a x) := wM_set 16 (by decide)
theorem wM_e55 (P : Px) (h : hw) (ι : Nat → Nat) (φ : Nat → Nat → Nat) : wM P h ι φ 55 = .inl (P.2.2.1 0, 300, .inl (fun i => nI (φ 17 i))) := rfl
theorem wM_s55 {P : Px} {h : hw} {ι : Nat → Nat} {φ : Nat → Nat → Nat} {a x : Nat} : hset (wM P h ι φ) 55 (.inl (P.2.2.1 0, 300, .inl (upd (fun i => nI (φ 17 i)) a (nI x)))) = wM P h ι (up2 φ 17 a x) := wM_set 17 (by decide)
theorem wM_e56 (P : Px) (h : hw) (ι : Nat → Nat) (φ : Nat → Nat → Nat) : wM P h ι φ 56 = .inl (P.2.2.1 0, 300, .inl (fun i => nI (φ 18 i))) := rfl
theorem wM_s56 {P : Px} {h : hw} {ι : Nat → Nat} {φ : Nat → Nat → Nat} {a x : Nat} : hset (wM P h ι φ) 56 (.inl (P.2.2.1 0, 300, .inl (upd (fun i => nI (φ 18 i)) a (nI x)))) = wM P h ι (up2 φ 18 a x) := wM_set 18 (by decide)
theorem wM_e57 (P : Px) (h : hw) (ι : Nat → Nat) (φ : Nat → Nat → Nat) : wM P h ι φ 57 = .inl (P.2.2.1 0, 300, .inl (fun i => nI (φ 19 i))) := rfl
theorem wM_s57 {P : Px} {h : hw} {ι : Nat → Nat} {φ : Nat → Nat → Nat} {a x : Nat} : hset (wM P h ι φ) 57 (.inl (P.2.2.1 0, 300, .inl (upd (fun i => nI (φ 19 i)) a (nI x)))) = wM P h ι (up2 φ 19 a x) := wM_set 19 (by decide)
theorem wM_e58 (P : Px) (h : hw) (ι : Nat → Nat) (φ : Nat → Nat → Nat) : wM P h ι φ 58 = .inl (P.2.2.1 0, 300, .inl (fun i => mi (φ 20 i))) := rfl
theorem wM_s58 {P : Px} {h : hw} {ι : Nat → Nat} {φ : Nat → Nat → Nat} {a x : Nat} : hset (wM P h ι φ) 58 (.inl (P.2.2.1 0, 300, .inl (upd (fun i => mi (φ 20 i)) a (mi x)))) = wM P h ι (up2 φ 20 a x) := wM_set 20 (by decide)
theorem wM_i0 {P : Px} {h : hw} {ι : Nat → Nat} {φ : Nat → Nat → Nat} {x : Nat} : hset (wM P h ι φ) 37 (.inr (9, (mfs P ι).set 0 (.int (nI x)))) = wM P h (up1 ι 0 x) φ := wM_seti rfl
theorem wM_i1 {P : Px} {h : hw} {ι : Nat → Nat} {φ : Nat → Nat → Nat} {x : Nat} : hset (wM P h ι φ) 37 (.inr (9, (mfs P ι).set 12 (.int (nI x)))) = wM P h (up1 ι 1 x) φ := wM_seti rfl
theorem wM_i2 {P : Px} {h : hw} {ι : Nat → Nat} {φ : Nat → Nat → Nat} {x : Nat} : hset (wM P h ι φ) 37 (.inr (9, (mfs P ι).set 18 (.int (nI x)))) = wM P h (up1 ι 2 x) φ := wM_seti rfl
theorem wM_i3 {P : Px} {h : hw} {ι : Nat → Nat} {φ : Nat → Nat → Nat} {x : Nat} : hset (wM P h ι φ) 37 (.inr (9, (mfs P ι).set 24 (.int (nI x)))) = wM P h (up1 ι 3 x) φ := wM_seti rfl
theorem wM_i4 {P : Px} {h : hw} {ι : Nat → Nat} {φ : Nat → Nat → Nat} {x : Nat} : hset (wM P h ι φ) 37 (.inr (9, (mfs P ι).set 25 (.int (nI x)))) = wM P h (up1 ι 4 x) φ := wM_seti rfl

/-! ===== what the numbers may be ===== -/
def Wf (ι : Nat → Nat) (φ : Nat → Nat → Nat) : Prop := ι 0 ≤ 5000 ∧ ι 1 ≤ 1 ∧ ι 2 ≤ 300 ∧ (∀ i, φ 0 i ≤ 15) ∧ (∀ i, φ 1 i ≤ 3) ∧ (∀ i, φ 2 i ≤ ι 0 + 1) ∧ (∀ i, φ 3 i ≤ 500) ∧ (∀ i, φ 4 i ≤ 9) ∧ (∀ i, φ 5 i ≤ 3) ∧ (∀ i, φ 6 i ≤ 4) ∧ (∀ i, φ 7 i ≤ 12) ∧ (∀ i, φ 8 i < 160000) ∧ (∀ i, φ 9 i < 160000) ∧ (∀ i, φ 10 i ≤ 2) ∧ (∀ i, φ 11 i ≤ 50) ∧ (∀ i, φ 12 i ≤ 20) ∧ (∀ i, φ 13 i ≤ ι 0 + 1) ∧ (∀ i, φ 14 i ≤ 2) ∧ (∀ i, φ 15 i ≤ 1) ∧ (∀ i, φ 18 i < 81920)
theorem Wf.now {ι : Nat → Nat} {φ : Nat → Nat → Nat} (W : Wf ι φ) : ι 0 ≤ 5000 := W.1
theorem Wf.inF {ι : Nat → Nat} {φ : Nat → Nat → Nat} (W : Wf ι φ) : ι 1 ≤ 1 := W.2.1
theorem Wf.asks {ι : Nat → Nat} {φ : Nat → Nat → Nat} (W : Wf ι φ) : ι 2 ≤ 300 := W.2.2.1
theorem Wf.v0 {ι : Nat → Nat} {φ : Nat → Nat → Nat} (W : Wf ι φ) (i : Nat) : φ 0 i ≤ 15 := W.2.2.2.1 i
theorem Wf.v1 {ι : Nat → Nat} {φ : Nat → Nat → Nat} (W : Wf ι φ) (i : Nat) : φ 1 i ≤ 3 := W.2.2.2.2.1 i
theorem Wf.v2 {ι : Nat → Nat} {φ : Nat → Nat → Nat} (W : Wf ι φ) (i : Nat) : φ 2 i ≤ ι 0 + 1 := W.2.2.2.2.2.1 i
theorem Wf.v3 {ι : Nat → Nat} {φ : Nat → Nat → Nat} (W : Wf ι φ) (i : Nat) : φ 3 i ≤ 500 := W.2.2.2.2.2.2.1 i
theorem Wf.v4 {ι : Nat → Nat} {φ : Nat → Nat → Nat} (W : Wf ι φ) (i : Nat) : φ 4 i ≤ 9 := W.2.2.2.2.2.2.2.1 i
theorem Wf.v5 {ι : Nat → Nat} {φ : Nat → Nat → Nat} (W : Wf ι φ) (i : Nat) : φ 5 i ≤ 3 := W.2.2.2.2.2.2.2.2.1 i
theorem Wf.v6 {ι : Nat → Nat} {φ : Nat → Nat → Nat} (W : Wf ι φ) (i : Nat) : φ 6 i ≤ 4 := W.2.2.2.2.2.2.2.2.2.1 i
theorem Wf.v7 {ι : Nat → Nat} {φ : Nat → Nat → Nat} (W : Wf ι φ) (i : Nat) : φ 7 i ≤ 12 := W.2.2.2.2.2.2.2.2.2.2.1 i
theorem Wf.v8 {ι : Nat → Nat} {φ : Nat → Nat → Nat} (W : Wf ι φ) (i : Nat) : φ 8 i < 160000 := W.2.2.2.2.2.2.2.2.2.2.2.1 i
theorem Wf.v9 {ι : Nat → Nat} {φ : Nat → Nat → Nat} (W : Wf ι φ) (i : Nat) : φ 9 i < 160000 := W.2.2.2.2.2.2.2.2.2.2.2.2.1 i
theorem Wf.v10 {ι : Nat → Nat} {φ : Nat → Nat → Nat} (W : Wf ι φ) (i : Nat) : φ 10 i ≤ 2 := W.2.2.2.2.2.2.2.2.2.2.2.2.2.1 i
theorem Wf.v11 {ι : Nat → Nat} {φ : Nat → Nat → Nat} (W : Wf ι φ) (i : Nat) : φ 11 i ≤ 50 := W.2.2.2.2.2.2.2.2.2.2.2.2.2.2.1 i
theorem Wf.v12 {ι : Nat → Nat} {φ : Nat → Nat → Nat} (W : Wf ι φ) (i : Nat) : φ 12 i ≤ 20 := W.2.2.2.2.2.2.2.2.2.2.2.2.2.2.2.1 i
theorem Wf.v13 {ι : Nat → Nat} {φ : Nat → Nat → Nat} (W : Wf ι φ) (i : Nat) : φ 13 i ≤ ι 0 + 1 := W.2.2.2.2.2.2.2.2.2.2.2.2.2.2.2.2.1 i
theorem Wf.v14 {ι : Nat → Nat} {φ : Nat → Nat → Nat} (W : Wf ι φ) (i : Nat) : φ 14 i ≤ 2 := W.2.2.2.2.2.2.2.2.2.2.2.2.2.2.2.2.2.1 i
theorem Wf.v15 {ι : Nat → Nat} {φ : Nat → Nat → Nat} (W : Wf ι φ) (i : Nat) : φ 15 i ≤ 1 := W.2.2.2.2.2.2.2.2.2.2.2.2.2.2.2.2.2.2.1 i
theorem Wf.v18 {ι : Nat → Nat} {φ : Nat → Nat → Nat} (W : Wf ι φ) (i : Nat) : φ 18 i < 81920 := W.2.2.2.2.2.2.2.2.2.2.2.2.2.2.2.2.2.2.2 i

/-! ===== what the model answers, as numbers ===== -/
def markN (code s : Nat) : Nat := if s = 0 then code / 1280 % 4 else if s = 1 then code / 320 % 4 else code / 80 % 4
theorem markN_le (code s : Nat) : markN code s ≤ 3 := by
  unfold markN
  repeat' split
  all_goals omega
def sureN (φ : Nat → Nat → Nat) (code : Nat) : Nat := markN code 0 * φ 4 0 + markN code 1 * φ 4 1 + markN code 2 * φ 4 2
theorem sureN_le {ι : Nat → Nat} {φ : Nat → Nat → Nat} (W : Wf ι φ) (code : Nat) : sureN φ code ≤ 81 := by
  unfold sureN
  have a0 := Nat.mul_le_mul (markN_le code 0) (W.v4 0)
  have a1 := Nat.mul_le_mul (markN_le code 1) (W.v4 1)
  have a2 := Nat.mul_le_mul (markN_le code 2) (W.v4 2)
  omega
def FitP (what wh sure code : Nat) : Prop := (code / 5120 &&& what / 10000) = what / 10000 ∧ (what / 1000 % 10 < 3 → what / 100 % 10 ≤ markN code (what / 1000 % 10)) ∧ what % 100 ≤ sure ∧ ¬ (wh / 10000 / 2 ^ (code / 20 % 4) &&& 1) = 0 ∧ ¬ (wh / 100 % 100 / 2 ^ (code / 5 % 4) &&& 1) = 0 ∧ wh / 10 % 10 ≤ code % 5 ∧ code % 5 ≤ wh % 10
noncomputable def fitN (what wh sure code : Nat) : Bool := @decide (FitP what wh sure code) (Classical.propDecidable _)
theorem fitN_iff {what wh sure code : Nat} : fitN what wh sure code = true ↔ FitP what wh sure code := by
  unfold fitN
  exact @decide_eq_true_iff _ (Classical.propDecidable _)
noncomputable def fitsN (φ : Nat → Nat → Nat) (a code : Nat) : Bool := fitN (φ 8 a) (φ 9 a) (sureN φ code) code
def firstFrom (p : Nat → Bool) : Nat → Nat → Option Nat
  | 0, _ => none
  | m + 1, k => if p k = true then some k else firstFrom p m (k + 1)
def firstN (p : Nat → Bool) (n : Nat) : Option Nat := firstFrom p n 0
theorem firstFrom_some {p : Nat → Bool} : ∀ {m k j : Nat}, k ≤ j → j < k + m → p j = true → (∀ i, k ≤ i → i < j → p i = false) → firstFrom p m k = some j
  | 0, k, j, h1, h2, _, _ => by omega
  | m + 1, k, j, h1, h2, h3, h4 => by
    unfold firstFrom
    by_cases hk : k = j
    · subst hk; rw [if_pos h3]
    · rw [if_neg (by rw [h4 k (Nat.le_refl _) (by omega)]; decide)]
      exact firstFrom_some (by omega) (by omega) h3 (fun i a b => h4 i (by omega) b)
theorem firstFrom_none {p : Nat → Bool} : ∀ {m k : Nat}, (∀ i, k ≤ i → i < k + m → p i = false) → firstFrom p m k = none
  | 0, k, _ => rfl
  | m + 1, k, h => by
    unfold firstFrom
    rw [if_neg (by rw [h k (Nat.le_refl _) (by omega)]; decide)]
    exact firstFrom_none (fun i a b => h i (by omega) (by omega))
theorem firstN_some {p : Nat → Bool} {n j : Nat} (h1 : j < n) (h2 : p j = true) (h3 : ∀ i, i < j → p i = false) : firstN p n = some j := firstFrom_some (Nat.zero_le _) (by omega) h2 (fun i _ h => h3 i h)
theorem firstN_none {p : Nat → Bool} {n : Nat} (h : ∀ i, i < n → p i = false) : firstN p n = none := firstFrom_none (fun i _ hi => h i (by omega))
theorem firstN_cases (p : Nat → Bool) (n : Nat) : (∃ j, j < n ∧ p j = true ∧ (∀ i, i < j → p i = false) ∧ firstN p n = some j) ∨ ((∀ i, i < n → p i = false) ∧ firstN p n = none) := by
  by_cases h : ∃ j, j < n ∧ p j = true
  · obtain ⟨j, ⟨h1, h2⟩, h3⟩ := pk_least (fun j => j < n ∧ p j = true) h
    have h4 : ∀ i, i < j → p i = false := fun i hi => by
      cases hp : p i with
      | false => rfl
      | true => exact absurd ⟨by omega, hp⟩ (h3 i hi)
    exact Or.inl ⟨j, h1, h2, h4, firstN_some h1 h2 h4⟩
  · have h4 : ∀ i, i < n → p i = false := fun i hi => by
      cases hp : p i with
      | false => rfl
      | true => exact absurd ⟨i, hi, hp⟩ h
    exact Or.inr ⟨h4, firstN_none h4⟩
def oI (o : Option Nat) : Int32 := match o with
  | none => -1
  | some k => nI k
noncomputable def decN (φ : Nat → Nat → Nat) (hp code : Nat) : Option Nat := firstN (fun k => fitsN φ (12 * hp + k) code) (φ 7 hp)
noncomputable def letN (φ : Nat → Nat → Nat) (hp code : Nat) : Bool := match decN φ hp code with
  | none => false
  | some k => φ 10 (12 * hp + k) == 0
noncomputable def ansN (φ : Nat → Nat → Nat) (hp code : Nat) : Nat := if letN φ hp code = true then 0 else if letN φ hp (code + 80 * (3 - markN code 2)) = true then 1 else 2
theorem ansN_le (φ : Nat → Nat → Nat) (hp code : Nat) : ansN φ hp code ≤ 2 := by
  unfold ansN
  repeat' split
  all_goals omega
def valN (ι : Nat → Nat) (φ : Nat → Nat → Nat) (whose s : Nat) : Nat := if ¬ φ 2 (10 * s + whose) = 0 ∧ ι 0 - (φ 2 (10 * s + whose) - 1) ≤ φ 3 s then φ 1 (10 * s + whose) else 0
theorem valN_le {ι : Nat → Nat} {φ : Nat → Nat → Nat} (W : Wf ι φ) (whose s : Nat) : valN ι φ whose s ≤ 3 := by
  unfold valN
  have := W.v1 (10 * s + whose)
  split <;> omega
def factN (ι : Nat → Nat) (φ : Nat → Nat → Nat) (who : Nat) : Nat := (((((φ 0 (who / 1000) * 4 + valN ι φ (who / 100 % 10) 0) * 4 + valN ι φ (who / 100 % 10) 1) * 4 + valN ι φ (who / 1000) 2) * 4 + who % 10) * 4 + φ 5 (who / 10 % 10)) * 5 + φ 6 (who / 10 % 10)
theorem factN_lt {ι : Nat → Nat} {φ : Nat → Nat → Nat} (W : Wf ι φ) {who : Nat} (hw : who % 10 < 4) : factN ι φ who < 81920 := by
  unfold factN
  have a0 := W.v0 (who / 1000)
  have a1 := valN_le W (who / 100 % 10) 0
  have a2 := valN_le W (who / 100 % 10) 1
  have a3 := valN_le W (who / 1000) 2
  have a4 := W.v5 (who / 10 % 10)
  have a5 := W.v6 (who / 10 % 10)
  omega
theorem markN_add {code : Nat} (hc : code < 81920) : code + 80 * (3 - markN code 2) < 81920 := by
  have e : markN code 2 = code / 80 % 4 := by simp [markN]
  rw [e]
  omega
theorem nv_toInt {x : Nat} (hx : x ≤ 6000) : (nv x).toInt = if x = 0 then -100000 else (x : Int) - 1 := by
  unfold nv
  by_cases h : x = 0
  · rw [if_pos h, if_pos h]; decide
  · rw [if_neg h, if_neg h, nI_toInt (by omega)]; omega
theorem sub_toInt {a : Nat} (ha : a ≤ 6000) {x : Nat} (hx : x ≤ 6000) : (nI a - nv x).toInt = (a : Int) - (if x = 0 then -100000 else (x : Int) - 1) := by
  rw [Int32.toInt_sub, nI_toInt (by omega), nv_toInt hx]
  split <;> (rw [Int.bmod_def]; split <;> omega)
theorem nv_gt {lim now x : Nat} (hl : lim ≤ 600) (hn : now ≤ 5000) (hx : x ≤ now + 1) : (nI lim < nI now - nv x) ↔ (x = 0 ∨ lim < now - (x - 1)) := by
  rw [Int32.lt_iff_toInt_lt, nI_toInt (by omega), sub_toInt (by omega) (by omega)]
  split <;> omega
theorem hvt {p : Prop} {q : Decidable p} (hp : p) : some (Value.int (nI 1)) = some (.int (bI (@decide p q))) := by rw [decide_eq_true hp]; rfl
theorem hvf {p : Prop} {q : Decidable p} (hp : ¬ p) : some (Value.int (nI 0)) = some (.int (bI (@decide p q))) := by rw [decide_eq_false hp]; rfl
theorem hvT {b : Bool} (hp : b = true) : some (Value.int (nI 1)) = some (.int (bI b)) := by rw [hp]; rfl
theorem hvF {b : Bool} (hp : b = false) : some (Value.int (nI 0)) = some (.int (bI b)) := by rw [hp]; rfl
theorem hvE {b b' : Bool} (hp : b = b') : some (Value.int (bI b)) = some (.int (bI b')) := by rw [hp]
theorem hvN {a b : Nat} (hp : a = b) : some (Value.int (nI a)) = some (.int (nI b)) := by rw [hp]
theorem fitN_f {what wh sure code : Nat} (hp : ¬ FitP what wh sure code) : fitN what wh sure code = false := by
  cases h : fitN what wh sure code with
  | false => rfl
  | true => exact absurd (fitN_iff.mp h) hp

