/-! ===== every call is a step ===== -/
theorem oq2_of {x y : Int32} {a b : Nat} (h : ok2 x y a b = true) : inQ x (nI a) = true ∧ inQ y (nI b) = true := by unfold ok2 at h; rw [Bool.and_eq_true] at h; exact h
theorem oq3_of {x y z : Int32} {a b c : Nat} (h : ok3 x y z a b c = true) : inQ x (nI a) = true ∧ inQ y (nI b) = true ∧ inQ z (nI c) = true := by unfold ok3 at h; rw [Bool.and_eq_true, Bool.and_eq_true] at h; exact ⟨h.1.1, h.1.2, h.2⟩
theorem ok2_mk {x y : Int32} {a b : Nat} (h1 : inQ x (nI a) = true) (h2 : inQ y (nI b) = true) : ok2 x y a b = true := by unfold ok2; rw [h1, h2]; rfl
theorem ok3_mk {x y z : Int32} {a b c : Nat} (h1 : inQ x (nI a) = true) (h2 : inQ y (nI b) = true) (h3 : inQ z (nI c) = true) : ok3 x y z a b c = true := by unfold ok3; rw [h1, h2, h3]; rfl
theorem bf {b : Bool} (h : ¬ b = true) : b = false := Bool.eq_false_iff.mpr h
theorem kd2 {φ : Nat → Nat → Nat} {k a x : Nat} (h : k ≠ 7 ∧ k ≠ 8 ∧ k ≠ 9 ∧ k ≠ 10 ∧ k ≠ 13 ∧ k ≠ 14 ∧ k ≠ 15) : Kd φ (up2 φ k a x) := fun k' i hk => up2_o (fun e => by omega)
theorem Kd.tr {φ ψ χ : Nat → Nat → Nat} (h : Kd φ ψ) (h2 : Kd ψ χ) : Kd φ χ := fun k i hk => (h2 k i hk).trans (h k i hk)
theorem Kd.rf {φ : Nat → Nat → Nat} : Kd φ φ := fun _ _ _ => rfl
theorem hg_rf {g : hw} {n : Nat} : ∀ k, 59 ≤ k → k < n → g k = g k := fun _ _ _ => rfl

theorem st_roles (P : Px) (n : Nat) (H : hw) (I0 : Iw P n H) (x y : Int32) : StpX P MX8_roles MX9_roles [.int x, .int y] n H := by
  obtain ⟨g, ι, φ, ℓ, lt, ρ, ω, I, rfl⟩ := I0
  by_cases c : ok2 x y 9 15 = true
  · have c0 := oq2_of c
    obtain ⟨cx, cy⟩ := c0
    obtain ⟨x0, hx, rfl⟩ := inQ_of (by decide) cx
    obtain ⟨y0, hy, rfl⟩ := inQ_of (by decide) cy
    have hM := ct_X9_roles P n I.n (wC P g ι (up2 φ 0 x0 y0) (slN (up2 φ 0 x0 y0) ℓ 4) (stN (up2 φ 0 x0 y0) lt 4) ρ ω) ι φ I.W (nI x0) (nI y0)
    unfold sRoles at hM
    rw [pif_t c, c, tn_n (k := x0) (by omega), tn_n (k := y0) (by omega)] at hM
    have I1 : Iv P n g ι (up2 φ 0 x0 y0) ℓ lt ρ := iv_mod I (Nat.le_refl _) hg_rf (I.W.up 0 _ _ (by simp [bdM]; omega)) rfl (fun i => Wf.v19 I.H (by decide)) (fun k hk => by rw [up2_o (by decide)] at hk ⊢; exact I.V k hk) (kd2 (by decide))
    exact stp_mk (ct_X8_roles_t P n I.n (wM P g ι φ) ι φ ℓ lt ρ ω I.W x0 y0 (by omega) (by omega)) hM (fun k i h8 h9 h10 h13 h14 h15 => (chg_n 4 h13 h15).symm) (iv_chg I1 (fun _ => rfl)) (Nat.le_refl _) (by decide) (by decide) (by decide) (by decide)
  · have hM := ct_X9_roles P n I.n (wC P g ι φ ℓ lt ρ ω) ι φ I.W x y
    unfold sRoles at hM
    rw [pif_f c, bf c] at hM
    exact stp_mk (ct_X8_roles_f P n I.n (wM P g ι φ) ι φ ℓ lt ρ ω I.W x y (fun q => c (ok2_mk ((inB_Q x 9 (by decide)).symm.trans q.1) ((inB_Q y 15 (by decide)).symm.trans q.2)))) hM Sn.rf I (Nat.le_refl _) (by decide) (by decide) (by decide) (by decide)

theorem st_mark (P : Px) (n : Nat) (H : hw) (I0 : Iw P n H) (x y z : Int32) : StpX P MX8_mark MX9_mark [.int x, .int y, .int z] n H := by
  obtain ⟨g, ι, φ, ℓ, lt, ρ, ω, I, rfl⟩ := I0
  by_cases c : ok3 x y z 9 2 3 = true
  · have c0 := oq3_of c
    obtain ⟨cx, cy, cz⟩ := c0
    obtain ⟨x0, hx, rfl⟩ := inQ_of (by decide) cx
    obtain ⟨y0, hy, rfl⟩ := inQ_of (by decide) cy
    obtain ⟨z0, hz, rfl⟩ := inQ_of (by decide) cz
    have hM := ct_X9_mark P n I.n (wC P g ι (up2 (up2 φ 1 (10 * y0 + x0) z0) 2 (10 * y0 + x0) (ι 0 + 1)) (slN (up2 (up2 φ 1 (10 * y0 + x0) z0) 2 (10 * y0 + x0) (ι 0 + 1)) ℓ 4) (stN (up2 (up2 φ 1 (10 * y0 + x0) z0) 2 (10 * y0 + x0) (ι 0 + 1)) lt 4) ρ ω) ι φ I.W (nI x0) (nI y0) (nI z0)
    unfold sMark at hM
    rw [pif_t c, c, tn_n (k := x0) (by omega), tn_n (k := y0) (by omega), tn_n (k := z0) (by omega)] at hM
    have I1 : Iv P n g ι (up2 (up2 φ 1 (10 * y0 + x0) z0) 2 (10 * y0 + x0) (ι 0 + 1)) ℓ lt ρ := iv_mod I (Nat.le_refl _) hg_rf ((I.W.up 1 _ _ (by simp [bdM]; omega)).up 2 _ _ (by simp [bdM])) rfl (fun i => Wf.v19 (fun _ => Wf.v19 I.H (by decide)) (by decide)) (fun k hk => by
        by_cases e : k = 10 * y0 + x0
        · subst e; rw [up2_s] at hk; omega
        · rw [up2_n _ _ (Or.inr e), up2_o (by decide)] at hk
          rw [up2_o (by decide), up2_n _ _ (Or.inr e)]
          exact I.V k hk) (Kd.tr (kd2 (by decide)) (kd2 (by decide)))
    exact stp_mk (ct_X8_mark_t P n I.n (wM P g ι φ) ι φ ℓ lt ρ ω I.W x0 y0 z0 (by omega) (by omega) (by omega)) hM (fun k i h8 h9 h10 h13 h14 h15 => (chg_n 4 h13 h15).symm) (iv_chg I1 (fun _ => rfl)) (Nat.le_refl _) (by decide) (by decide) (by decide) (by decide)
  · have hM := ct_X9_mark P n I.n (wC P g ι φ ℓ lt ρ ω) ι φ I.W x y z
    unfold sMark at hM
    rw [pif_f c, bf c] at hM
    exact stp_mk (ct_X8_mark_f P n I.n (wM P g ι φ) ι φ ℓ lt ρ ω I.W x y z (fun q => c (ok3_mk ((inB_Q x 9 (by decide)).symm.trans q.1) ((inB_Q y 2 (by decide)).symm.trans q.2.1) q.2.2))) hM Sn.rf I (Nat.le_refl _) (by decide) (by decide) (by decide) (by decide)

theorem st_thing (P : Px) (n : Nat) (H : hw) (I0 : Iw P n H) (x y z : Int32) : StpX P MX8_thing MX9_thing [.int x, .int y, .int z] n H := by
  obtain ⟨g, ι, φ, ℓ, lt, ρ, ω, I, rfl⟩ := I0
  by_cases c : ok3 x y z 9 3 4 = true
  · have c0 := oq3_of c
    obtain ⟨cx, cy, cz⟩ := c0
    obtain ⟨x0, hx, rfl⟩ := inQ_of (by decide) cx
    obtain ⟨y0, hy, rfl⟩ := inQ_of (by decide) cy
    obtain ⟨z0, hz, rfl⟩ := inQ_of (by decide) cz
    have hM := ct_X9_thing P n I.n (wC P g ι (up2 (up2 φ 5 x0 y0) 6 x0 z0) (slN (up2 (up2 φ 5 x0 y0) 6 x0 z0) ℓ 4) (stN (up2 (up2 φ 5 x0 y0) 6 x0 z0) lt 4) ρ ω) ι φ I.W (nI x0) (nI y0) (nI z0)
    unfold sThing at hM
    rw [pif_t c, c, tn_n (k := x0) (by omega), tn_n (k := y0) (by omega), tn_n (k := z0) (by omega)] at hM
    have I1 : Iv P n g ι (up2 (up2 φ 5 x0 y0) 6 x0 z0) ℓ lt ρ := iv_mod I (Nat.le_refl _) hg_rf ((I.W.up 5 _ _ (by simp [bdM]; omega)).up 6 _ _ (by simp [bdM]; omega)) rfl (fun i => Wf.v19 (fun _ => Wf.v19 I.H (by decide)) (by decide)) (fun k hk => by rw [up2_o (by decide), up2_o (by decide)] at hk ⊢; exact I.V k hk) (Kd.tr (kd2 (by decide)) (kd2 (by decide)))
    exact stp_mk (ct_X8_thing_t P n I.n (wM P g ι φ) ι φ ℓ lt ρ ω I.W x0 y0 z0 (by omega) (by omega) (by omega)) hM (fun k i h8 h9 h10 h13 h14 h15 => (chg_n 4 h13 h15).symm) (iv_chg I1 (fun _ => rfl)) (Nat.le_refl _) (by decide) (by decide) (by decide) (by decide)
  · have hM := ct_X9_thing P n I.n (wC P g ι φ ℓ lt ρ ω) ι φ I.W x y z
    unfold sThing at hM
    rw [pif_f c, bf c] at hM
    exact stp_mk (ct_X8_thing_f P n I.n (wM P g ι φ) ι φ ℓ lt ρ ω I.W x y z (fun q => c (ok3_mk ((inB_Q x 9 (by decide)).symm.trans q.1) ((inB_Q y 3 (by decide)).symm.trans q.2.1) ((inB_Q z 4 (by decide)).symm.trans q.2.2)))) hM Sn.rf I (Nat.le_refl _) (by decide) (by decide) (by decide) (by decide)

theorem st_sort (P : Px) (n : Nat) (H : hw) (I0 : Iw P n H) (x y z : Int32) : StpX P MX8_sort MX9_sort [.int x, .int y, .int z] n H := by
  obtain ⟨g, ι, φ, ℓ, lt, ρ, ω, I, rfl⟩ := I0
  by_cases c : ok3 x y z 2 500 9 = true
  · have c0 := oq3_of c
    obtain ⟨cx, cy, cz⟩ := c0
    obtain ⟨x0, hx, rfl⟩ := inQ_of (by decide) cx
    obtain ⟨y0, hy, rfl⟩ := inQ_of (by decide) cy
    obtain ⟨z0, hz, rfl⟩ := inQ_of (by decide) cz
    have hM := ct_X9_sort P n I.n (wC P g ι (up2 (up2 φ 3 x0 y0) 4 x0 z0) (slN (up2 (up2 φ 3 x0 y0) 4 x0 z0) ℓ 4) (stN (up2 (up2 φ 3 x0 y0) 4 x0 z0) lt 4) ρ ω) ι φ I.W (nI x0) (nI y0) (nI z0)
    unfold sSort at hM
    rw [pif_t c, c, tn_n (k := x0) (by omega), tn_n (k := y0) (by omega), tn_n (k := z0) (by omega)] at hM
    have I1 : Iv P n g ι (up2 (up2 φ 3 x0 y0) 4 x0 z0) ℓ lt ρ := iv_mod I (Nat.le_refl _) hg_rf ((I.W.up 3 _ _ (by simp [bdM]; omega)).up 4 _ _ (by simp [bdM]; omega)) rfl (fun i => Wf.v19 (fun _ => Wf.v19 I.H (by decide)) (by decide)) (fun k hk => by rw [up2_o (by decide), up2_o (by decide)] at hk ⊢; exact I.V k hk) (Kd.tr (kd2 (by decide)) (kd2 (by decide)))
    exact stp_mk (ct_X8_sort_t P n I.n (wM P g ι φ) ι φ ℓ lt ρ ω I.W x0 y0 z0 (by omega) (by omega) (by omega)) hM (fun k i h8 h9 h10 h13 h14 h15 => (chg_n 4 h13 h15).symm) (iv_chg I1 (fun _ => rfl)) (Nat.le_refl _) (by decide) (by decide) (by decide) (by decide)
  · have hM := ct_X9_sort P n I.n (wC P g ι φ ℓ lt ρ ω) ι φ I.W x y z
    unfold sSort at hM
    rw [pif_f c, bf c] at hM
    exact stp_mk (ct_X8_sort_f P n I.n (wM P g ι φ) ι φ ℓ lt ρ ω I.W x y z (fun q => c (ok3_mk ((inB_Q x 2 (by decide)).symm.trans q.1) q.2.1 q.2.2))) hM Sn.rf I (Nat.le_refl _) (by decide) (by decide) (by decide) (by decide)

theorem st_judge (P : Px) (n : Nat) (H : hw) (I0 : Iw P n H) (x y z : Int32) : StpX P MX8_judge MX9_judge [.int x, .int y, .int z] n H := by
  obtain ⟨g, ι, φ, ℓ, lt, ρ, ω, I, rfl⟩ := I0
  by_cases c : ok3 x y z 3 50 20 = true
  · obtain ⟨cx, cy, cz⟩ := oq3_of c
    obtain ⟨x0, hx, rfl⟩ := inQ_of (by decide) cx
    obtain ⟨y0, hy, rfl⟩ := inQ_of (by decide) cy
    obtain ⟨z0, hz, rfl⟩ := inQ_of (by decide) cz
    have hM := ct_X9_judge P n I.n (wC P g ι (up2 (up2 φ 11 x0 y0) 12 x0 z0) ℓ lt ρ ω) ι φ I.W (nI x0) (nI y0) (nI z0)
    unfold sJudge at hM
    rw [pif_t c, c, tn_n (k := x0) (by omega), tn_n (k := y0) (by omega), tn_n (k := z0) (by omega)] at hM
    have I1 : Iv P n g ι (up2 (up2 φ 11 x0 y0) 12 x0 z0) ℓ lt ρ := iv_mod I (Nat.le_refl _) hg_rf ((I.W.up 11 _ _ (by simp [bdM]; omega)).up 12 _ _ (by simp [bdM]; omega)) rfl (fun i => Wf.v19 (fun _ => Wf.v19 I.H (by decide)) (by decide)) (fun k hk => by rw [up2_o (by decide), up2_o (by decide)] at hk ⊢; exact I.V k hk) (Kd.tr (kd2 (by decide)) (kd2 (by decide)))
    exact stp_mk (ct_X8_judge_t P n I.n (wM P g ι φ) ι φ ℓ lt ρ ω I.W x0 y0 z0 (by omega) hy hz) hM Sn.rf I1 (Nat.le_refl _) (by decide) (by decide) (by decide) (by decide)
  · have hM := ct_X9_judge P n I.n (wC P g ι φ ℓ lt ρ ω) ι φ I.W x y z
    unfold sJudge at hM
    rw [pif_f c, bf c] at hM
    by_cases cx : inQ x (nI 3) = true
    · obtain ⟨x0, hx, rfl⟩ := inQ_of (by decide) cx
      exact stp_mk (ct_X8_judge_g P n I.n (wM P g ι φ) ι φ ℓ lt ρ ω I.W x0 (by omega) y z (fun q => c (ok3_mk cx q.1 q.2))) hM Sn.rf I (Nat.le_refl _) (by decide) (by decide) (by decide) (by decide)
    · exact stp_mk (ct_X8_judge_f P n I.n (wM P g ι φ) ι φ ℓ lt ρ ω I.W x y z (bf cx)) hM Sn.rf I (Nat.le_refl _) (by decide) (by decide) (by decide) (by decide)

theorem st_go (P : Px) (n : Nat) (H : hw) (I0 : Iw P n H) (x : Int32) : StpX P MX8_go MX9_go [.int x] n H := by
  obtain ⟨g, ι, φ, ℓ, lt, ρ, ω, I, rfl⟩ := I0
  by_cases c : inQ x (nI 200) = true
  · obtain ⟨a, ha, rfl⟩ := inQ_of (by decide) c
    have hb := I.W.now
    have e1 := goS_1 a ι φ hb
    have W1 : Wf (up1 ι 0 (ι 0 + min a (5000 - ι 0))) φ := I.W.later (by show ι 0 ≤ ι 0 + _; omega) (by show ι 0 + min a (5000 - ι 0) ≤ 5000; omega) rfl rfl
    have W2 := I.W.goS a
    have hM := ct_X9_go P n I.n (wC P g (up1 ι 0 (ι 0 + min a (5000 - ι 0))) φ (plN ℓ (min a (5000 - ι 0)) 4) (ptN ℓ lt (min a (5000 - ι 0)) 4) ρ ω) ι φ I.W (nI a)
    unfold aGo sGo at hM
    rw [pif_t c, pif_t c, tn_n (k := a) (by omega), e1] at hM
    rw [e1] at W2
    obtain ⟨h1, W, h19, V0, R, Lh, L, kw, km, ka, K⟩ := I
    have e : ∀ k i, k ≠ 13 → (goS a ι φ).2 k i = φ k i := fun k i h => goS_n a ι φ h
    have I1 : Iv P n g (up1 ι 0 (ι 0 + min a (5000 - ι 0))) (goS a ι φ).2 (plN ℓ (min a (5000 - ι 0)) 4) (ptN ℓ lt (min a (5000 - ι 0)) 4) ρ := ⟨h1, W2, fun i => by rw [e _ _ (by decide)]; exact h19 i, fun k hk => by rw [e _ _ (by decide)] at hk ⊢; exact V0 k hk, R.of (Nat.le_refl _) (fun _ _ _ _ _ _ h => h) (fun i => e _ _ (by decide)) (fun i => e _ _ (by decide)) (fun i => e _ _ (by decide)) (fun i => e _ _ (by decide)), Lh.go (by omega) (fun i => e _ _ (by decide)), _, kw, km, ka, K.go Lh a hb⟩
    exact stp_mk (ct_X8_go_t P n h1 (wM P g ι φ) ι φ ℓ lt ρ ω W (fun j => Lh.lt j) a _ ha rfl _ rfl W1) hM (fun k i h8 h9 h10 h13 h14 h15 => (e k i h13).symm) I1 (Nat.le_refl _) (by decide) (by decide) (by decide) (by decide)
  · have hM := ct_X9_go P n I.n (wC P g ι φ ℓ lt ρ ω) ι φ I.W x
    unfold aGo sGo at hM
    rw [pif_f c, pif_f c] at hM
    exact stp_mk (ct_X8_go_f P n I.n (wM P g ι φ) ι φ ℓ lt ρ ω I.W x (bf c)) hM Sn.rf I (Nat.le_refl _) (by decide) (by decide) (by decide) (by decide)

