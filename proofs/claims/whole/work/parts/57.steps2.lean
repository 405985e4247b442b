/-! ===== every call is a step: the rest ===== -/
theorem iv_put {P : Px} {n : Nat} {g : hw} {ι : Nat → Nat} {φ : Nat → Nat → Nat} {ℓ : Nat → Nat} {lt : Nat → Option Nat} {ρ : Nat → Nat → Option Nat} (I : Iv P n g ι φ ℓ lt ρ) {hp a b s : Nat} (hh : hp < 2) (ha : a < 160000) (hb : b < 160000) (hs : s ≤ 2) (hsz : φ 7 hp < 12) (hw : whatP a) : Iv P (n + 1) (hset g n (rcell a b s)) ι (putR φ hp a b s) ℓ lt (upr ρ hp (φ 7 hp) (some n)) := by
  obtain ⟨h1, W, h19, V0, R, Lh, L, kw, km, ka, K⟩ := I
  have e : ∀ k i, k ≠ 7 → k ≠ 8 → k ≠ 9 → k ≠ 10 → putR φ hp a b s k i = φ k i := fun k i a7 a8 a9 a10 => by unfold putR; rw [up2_o a7, up2_o a10, up2_o a9, up2_o a8]
  refine ⟨by omega, W.putR ha hb hs hsz, fun i => by rw [e _ _ (by decide) (by decide) (by decide) (by decide)]; exact h19 i, fun k hk => by rw [e _ _ (by decide) (by decide) (by decide) (by decide)] at hk ⊢; exact V0 k hk, fun q i hq hi => ?_, Lh.of rfl (fun i => e _ _ (by decide) (by decide) (by decide) (by decide)), L, kw, km, ka, K.of (by omega) hset_b (Nat.le_refl _) (fun i => e _ _ (by decide) (by decide) (by decide) (by decide)) (fun i => e _ _ (by decide) (by decide) (by decide) (by decide))⟩
  have e8 : ∀ i, putR φ hp a b s 8 i = up2 φ 8 (12 * hp + φ 7 hp) a 8 i := fun i => by unfold putR; rw [up2_o (by decide), up2_o (by decide), up2_o (by decide)]
  have e9 : ∀ i, putR φ hp a b s 9 i = up2 φ 9 (12 * hp + φ 7 hp) b 9 i := fun i => by unfold putR; rw [up2_o (by decide), up2_o (by decide)]; unfold up2; simp
  have e10 : ∀ i, putR φ hp a b s 10 i = up2 φ 10 (12 * hp + φ 7 hp) s 10 i := fun i => by unfold putR; rw [up2_o (by decide)]; unfold up2; simp
  have e7 : putR φ hp a b s 7 q = if q = hp then φ 7 hp + 1 else φ 7 q := by unfold putR up2; simp
  rw [e7] at hi
  have h12 := W.v7 q
  by_cases c : q = hp ∧ i = φ 7 hp
  · obtain ⟨rfl, rfl⟩ := c
    refine ⟨n, if_pos ⟨rfl, rfl⟩, h1, by omega, ?_, ?_⟩
    · rw [hset_s, e8, e9, e10, up2_s, up2_s, up2_s]
    · rw [e8, up2_s]; exact hw
  · have hne : 12 * q + i ≠ 12 * hp + φ 7 hp := by
      intro z
      by_cases c2 : q = hp
      · exact c ⟨c2, by subst c2; omega⟩
      · rw [if_neg c2] at hi; omega
    have hi2 : i < φ 7 q := by
      by_cases c2 : q = hp
      · rw [if_pos c2] at hi
        have : ¬ i = φ 7 hp := fun z => c ⟨c2, z⟩
        rw [c2]; omega
      · rw [if_neg c2] at hi; exact hi
    obtain ⟨k, k0, k1, k2, k3, k4⟩ := R q i hq hi2
    rw [e8, e9, e10, up2_n _ _ (Or.inr hne), up2_n _ _ (Or.inr hne), up2_n _ _ (Or.inr hne)]
    exact ⟨k, (if_neg c).trans k0, k1, by omega, (hset_b k k1 k2).trans k3, k4⟩
theorem iv_del {P : Px} {n : Nat} {g : hw} {ι : Nat → Nat} {φ : Nat → Nat → Nat} {ℓ : Nat → Nat} {lt : Nat → Option Nat} {ρ : Nat → Nat → Option Nat} (I : Iv P n g ι φ ℓ lt ρ) {hp r0 : Nat} (hh : hp < 2) (hr : r0 < φ 7 hp) : Iv P n g ι (delR φ hp r0) ℓ lt (upr (dsh ρ hp r0 (φ 7 hp - 1)) hp (φ 7 hp - 1) none) := by
  obtain ⟨h1, W, h19, V0, R, Lh, L, kw, km, ka, K⟩ := I
  have e : ∀ k i, k ≠ 7 → k ≠ 8 → k ≠ 9 → k ≠ 10 → delR φ hp r0 k i = φ k i := fun k i a7 a8 a9 a10 => by unfold delR; rw [up2_o a7]; unfold ush; rw [if_neg (by omega)]
  refine ⟨h1, W.delR hp r0, fun i => by rw [e _ _ (by decide) (by decide) (by decide) (by decide)]; exact h19 i, fun k hk => by rw [e _ _ (by decide) (by decide) (by decide) (by decide)] at hk ⊢; exact V0 k hk, fun q i hq hi => ?_, Lh.of rfl (fun i => e _ _ (by decide) (by decide) (by decide) (by decide)), L, kw, km, ka, K.of (Nat.le_refl _) (fun _ _ _ => rfl) (Nat.le_refl _) (fun i => e _ _ (by decide) (by decide) (by decide) (by decide)) (fun i => e _ _ (by decide) (by decide) (by decide) (by decide))⟩
  have e3 : ∀ k, k = 8 ∨ k = 9 ∨ k = 10 → ∀ i, delR φ hp r0 k i = if 12 * hp + r0 ≤ i ∧ i < 12 * hp + (φ 7 hp - 1) then φ k (i + 1) else φ k i := fun k hk i => by
    unfold delR
    rw [up2_o (by omega)]
    unfold ush
    by_cases c : 12 * hp + r0 ≤ i ∧ i < 12 * hp + (φ 7 hp - 1)
    · rw [if_pos ⟨hk, c⟩, if_pos c]
    · rw [if_neg (fun z => c z.2), if_neg c]
  have e7 : delR φ hp r0 7 q = if q = hp then φ 7 hp - 1 else φ 7 q := by
    unfold delR up2 ush
    by_cases c : q = hp
    · rw [if_pos ⟨rfl, c⟩, if_pos c]
    · rw [if_neg (fun z => c z.2), if_neg c, if_neg (by omega)]
  rw [e7] at hi
  have h12 := W.v7 q
  have h12' := W.v7 hp
  rw [e3 8 (by decide), e3 9 (by decide), e3 10 (by decide)]
  have eρ : upr (dsh ρ hp r0 (φ 7 hp - 1)) hp (φ 7 hp - 1) none q i = if q = hp ∧ r0 ≤ i then ρ q (i + 1) else ρ q i := by
    unfold upr dsh
    by_cases c : q = hp
    · rw [if_pos c] at hi
      rw [if_neg (by omega)]
      by_cases c2 : r0 ≤ i
      · rw [if_pos ⟨c, c2, hi⟩, if_pos ⟨c, c2⟩]
      · rw [if_neg (fun z => c2 z.2.1), if_neg (fun z => c2 z.2)]
    · rw [if_neg (fun z => c z.1), if_neg (fun z => c z.1), if_neg (fun z => c z.1)]
  rw [eρ]
  by_cases c : q = hp ∧ r0 ≤ i
  · obtain ⟨rfl, c2⟩ := c
    rw [if_pos rfl] at hi
    obtain ⟨k, k0, k1, k2, k3, k4⟩ := R q (i + 1) hq (by omega)
    rw [if_pos ⟨rfl, c2⟩, if_pos (by omega), if_pos (by omega), if_pos (by omega)]
    exact ⟨k, k0, k1, k2, k3, k4⟩
  · have hi2 : i < φ 7 q := by
      by_cases c2 : q = hp
      · rw [if_pos c2] at hi; rw [c2]; omega
      · rw [if_neg c2] at hi; exact hi
    obtain ⟨k, k0, k1, k2, k3, k4⟩ := R q i hq hi2
    have hno : ¬ (12 * hp + r0 ≤ 12 * q + i ∧ 12 * q + i < 12 * hp + (φ 7 hp - 1)) := by
      rintro ⟨z1, z2⟩
      exact c ⟨by omega, by omega⟩
    rw [if_neg c, if_neg hno, if_neg hno, if_neg hno]
    exact ⟨k, k0, k1, k2, k3, k4⟩
theorem st_rule (P : Px) (n : Nat) (H : hw) (I0 : Iw P n H) (x y z v : Int32) : StpX P MX8_rule MX9_rule [.int x, .int y, .int z, .int v] n H := by
  obtain ⟨g, ι, φ, ℓ, lt, ρ, ω, I, rfl⟩ := I0
  by_cases c : ruleOK φ x y z v
  · have c' := c
    obtain ⟨cx, ⟨cy, cw⟩, ⟨cz, cv⟩, cs, c7⟩ := c'
    obtain ⟨hp, hh, rfl⟩ := inQ_of (by decide) cx
    obtain ⟨a, ha, rfl⟩ := nI_of cy
    obtain ⟨b, hb, rfl⟩ := nI_of cz
    obtain ⟨s, hs, rfl⟩ : ∃ s, s ≤ 2 ∧ v = nI s := cs.elim (fun e => ⟨0, by omega, e⟩) (fun e => ⟨2, by omega, e⟩)
    rw [tn_n ha] at cw
    rw [tn_n hb] at cv
    rw [tn_n (by omega)] at c7
    have ha2 : a < 160000 := by have := cw.1; omega
    have hb2 : b < 160000 := by have := cv.1; omega
    have h7 := I.W.v7 hp
    have hM := ct_X9_rule P (n + 1) (by have := I.n; omega) (wC P (hset g n (rcell a b s)) ι (up2 φ 7 hp (φ 7 hp + 1)) (slN (up2 φ 7 hp (φ 7 hp + 1)) ℓ 4) (stN (up2 φ 7 hp (φ 7 hp + 1)) lt 4) (upr ρ hp (φ 7 hp) (some n)) ω) ι φ I.W (nI hp) (nI a) (nI b) (nI s)
    unfold aRule sRule at hM
    rw [pif_t c, pif_t c, tn_n (k := hp) (by omega), tn_n ha, tn_n hb, tn_n (k := s) (by omega)] at hM
    have hC := ct_X8_rule_t P n I.n (wM P g ι φ) ι φ ℓ lt ρ ω I.W hp (by omega) a b s ha2 hb2 hs (by omega) ⟨cw, cv, cs⟩
    rw [wM_g (Or.inr I.n)] at hC
    refine stp_mk hC hM (fun k i h8 h9 h10 h13 h14 h15 => ?_) (iv_chg (iv_put I (by omega) ha2 hb2 hs (by omega) cw) (fun j => ?_)) (by omega) (by decide) (by decide) (by decide) (by decide)
    · rw [chg_n 4 h13 h15]; unfold putR up2; simp [h8, h9, h10]
    · unfold putR up2; simp
  · have hM := ct_X9_rule P n I.n (wC P g ι φ ℓ lt ρ ω) ι φ I.W x y z v
    unfold aRule sRule at hM
    rw [pif_f c, pif_f c] at hM
    by_cases cx : inQ x (nI 1) = true
    · obtain ⟨hp, hh, rfl⟩ := inQ_of (by decide) cx
      exact stp_mk (ct_X8_rule_g P n I.n (wM P g ι φ) ι φ ℓ lt ρ ω I.W hp (by omega) y z v (fun q => c ⟨cx, q.2.1, q.2.2.1, q.2.2.2, by rw [tn_n (by omega)]; exact q.1⟩)) hM Sn.rf I (Nat.le_refl _) (by decide) (by decide) (by decide) (by decide)
    · exact stp_mk (ct_X8_rule_f P n I.n (wM P g ι φ) ι φ ℓ lt ρ ω I.W x y z v (bf cx)) hM Sn.rf I (Nat.le_refl _) (by decide) (by decide) (by decide) (by decide)
theorem st_unrule (P : Px) (n : Nat) (H : hw) (I0 : Iw P n H) (x y : Int32) : StpX P MX8_unrule MX9_unrule [.int x, .int y] n H := by
  obtain ⟨g, ι, φ, ℓ, lt, ρ, ω, I, rfl⟩ := I0
  by_cases c : ruleQ φ x y = true
  · obtain ⟨hp, r0, hh, hr, rfl, rfl⟩ := ruleQ_of I.W.v7 c
    have h7 := I.W.v7 hp
    have hM := ct_X9_unrule P n I.n (wC P g ι (up2 φ 7 hp (φ 7 hp - 1)) (slN (up2 φ 7 hp (φ 7 hp - 1)) ℓ 4) (stN (up2 φ 7 hp (φ 7 hp - 1)) lt 4) (upr (dsh ρ hp r0 (φ 7 hp - 1)) hp (φ 7 hp - 1) none) ω) ι φ I.W (nI hp) (nI r0)
    unfold sUnrule at hM
    rw [pif_t c, c, tn_n (k := hp) (by omega), tn_n (k := r0) (by omega)] at hM
    refine stp_mk (ct_X8_unrule_t P n I.n (wM P g ι φ) ι φ ℓ lt ρ ω I.W I.RM hp hh r0 hr) hM (fun k i h8 h9 h10 h13 h14 h15 => ?_) (iv_chg (iv_del I hh hr) (fun j => ?_)) (Nat.le_refl _) (by decide) (by decide) (by decide) (by decide)
    · rw [chg_n 4 h13 h15]; unfold delR up2 ush; simp [h8, h9, h10]
    · unfold delR up2 ush; simp
  · have hM := ct_X9_unrule P n I.n (wC P g ι φ ℓ lt ρ ω) ι φ I.W x y
    unfold sUnrule at hM
    rw [pif_f c, bf c] at hM
    by_cases cx : inQ x (nI 1) = true
    · obtain ⟨hp, hh, rfl⟩ := inQ_of (by decide) cx
      exact stp_mk (ct_X8_unrule_g P n I.n (wM P g ι φ) ι φ ℓ lt ρ ω I.W hp (by omega) y (bf (fun q => c ((ruleQ_n (by omega)).trans q)))) hM Sn.rf I (Nat.le_refl _) (by decide) (by decide) (by decide) (by decide)
    · exact stp_mk (ct_X8_unrule_f P n I.n (wM P g ι φ) ι φ ℓ lt ρ ω I.W x y (bf cx)) hM Sn.rf I (Nat.le_refl _) (by decide) (by decide) (by decide) (by decide)
theorem iv_log {P : Px} {n : Nat} {g : hw} {ι : Nat → Nat} {φ : Nat → Nat → Nat} {ℓ : Nat → Nat} {lt : Nat → Option Nat} {ρ : Nat → Nat → Option Nat} (I : Iv P n g ι φ ℓ lt ρ) {k ans f : Nat} (hk : k % 10 < 4) (ha : ans ≤ 2) (h3 : ι 2 < 300) : Iv P n g (logI ι ans) (logS ι φ k ans f) ℓ lt ρ := by
  have e : ∀ q i, q ≠ 16 → q ≠ 17 → q ≠ 18 → q ≠ 19 → q ≠ 20 → logS ι φ k ans f q i = φ q i := fun q i a b c d e => by unfold logS; rw [up2_o e, up2_o d, up2_o c, up2_o b, up2_o a]
  refine iv_mod I (Nat.le_refl _) hg_rf ((I.W.logS hk ans f).logI h3 ans) ?_ (fun i => ?_) (fun q hq => ?_) (fun q i hq => e q i (by omega) (by omega) (by omega) (by omega) (by omega))
  · unfold logI
    by_cases c : ans = 0
    · rw [if_pos c]; rfl
    · rw [if_neg c]; rfl
  · unfold logS
    rw [up2_o (by decide)]
    refine up2_le ?_ (fun _ => ha)
    rw [up2_o (by decide), up2_o (by decide), up2_o (by decide)]
    exact I.H i
  · rw [e _ _ (by decide) (by decide) (by decide) (by decide) (by decide)] at hq ⊢
    exact I.V q hq
theorem st_ask (P : Px) (n : Nat) (H : hw) (I0 : Iw P n H) (x : Int32) : StpX P MX8_ask MX9_ask [.int x] n H := by
  obtain ⟨g, ι, φ, ℓ, lt, ρ, ω, I, rfl⟩ := I0
  by_cases c : askOK ι x
  · obtain ⟨k, k1, k2, rfl⟩ := askQ_of c.1
    have hM := ct_X9_ask P n I.n (wC P g (logI ι (ansW ι φ k)) (logS ι φ k (ansW ι φ k) 0) ℓ lt ρ ω) ι φ I.W (nI k)
    unfold aAsk sAsk at hM
    rw [pif_t c, pif_t c, tn_n (k := k) (by omega)] at hM
    exact stp_mk (ct_X8_ask_t P n I.n (wM P g ι φ) ι φ ℓ lt ρ ω I.W I.V I.RM k k1 k2 c.2) hM Sn.rf (iv_log I k2 (ansN_le _ _ _) c.2) (Nat.le_refl _) (by decide) (by decide) (by decide) (by decide)
  · have hM := ct_X9_ask P n I.n (wC P g ι φ ℓ lt ρ ω) ι φ I.W x
    unfold aAsk sAsk at hM
    rw [pif_f c, pif_f c] at hM
    exact stp_mk (ct_X8_ask_f P n I.n (wM P g ι φ) ι φ ℓ lt ρ ω I.W x c) hM Sn.rf I (Nat.le_refl _) (by decide) (by decide) (by decide) (by decide)
theorem st_behalf (P : Px) (n : Nat) (H : hw) (I0 : Iw P n H) (x y : Int32) : StpX P MX8_behalf MX9_behalf [.int x, .int y] n H := by
  obtain ⟨g, ι, φ, ℓ, lt, ρ, ω, I, rfl⟩ := I0
  by_cases c : behOK ι x y
  · have c' := c
    obtain ⟨cx, cy, cne, c3⟩ := c'
    obtain ⟨k, k1, k2, rfl⟩ := askQ_of cx
    obtain ⟨y0, hy, rfl⟩ := inQ_of (by decide) cy
    rw [tn_n (k := k) (by omega), tn_n (k := y0) (by omega)] at cne
    have hM := ct_X9_behalf P n I.n (wC P g (logI ι (ansB ι φ k y0)) (logS ι φ k (ansB ι φ k y0) (y0 + 1)) ℓ lt ρ ω) ι φ I.W (nI k) (nI y0)
    unfold aBeh sBeh at hM
    rw [pif_t c, pif_t c, tn_n (k := k) (by omega), tn_n (k := y0) (by omega)] at hM
    exact stp_mk (ct_X8_behalf_t P n I.n (wM P g ι φ) ι φ ℓ lt ρ ω I.W I.V I.RM k y0 k1 k2 (by omega) cne c3) hM Sn.rf (iv_log I k2 (Nat.max_le.mpr ⟨ansN_le _ _ _, ansN_le _ _ _⟩) c3) (Nat.le_refl _) (by decide) (by decide) (by decide) (by decide)
  · have hM := ct_X9_behalf P n I.n (wC P g ι φ ℓ lt ρ ω) ι φ I.W x y
    unfold aBeh sBeh at hM
    rw [pif_f c, pif_f c] at hM
    exact stp_mk (ct_X8_behalf_f P n I.n (wM P g ι φ) ι φ ℓ lt ρ ω I.W x y c) hM Sn.rf I (Nat.le_refl _) (by decide) (by decide) (by decide) (by decide)
theorem st_why (P : Px) (n : Nat) (H : hw) (I0 : Iw P n H) (x y : Int32) : StpX P MX8_why MX9_why [.int x, .int y] n H := by
  obtain ⟨g, ι, φ, ℓ, lt, ρ, ω, I, rfl⟩ := I0
  have hM := ct_X9_why P n I.n (wC P g ι φ ℓ lt ρ ω) ι φ I.W x y
  unfold aWhy at hM
  by_cases cx : inQ x (nI 1) = true
  · by_cases cy : askQ y = true
    · obtain ⟨hp, hh, rfl⟩ := inQ_of (by decide) cx
      obtain ⟨k, k1, k2, rfl⟩ := askQ_of cy
      rw [pif_t ⟨cx, cy⟩, tn_n (k := hp) (by omega), tn_n (k := k) (by omega)] at hM
      exact stp_mk (ct_X8_why_t P n I.n (wM P g ι φ) ι φ ℓ lt ρ ω I.W I.V I.RM hp (by omega) k k1 k2) hM Sn.rf I (Nat.le_refl _) (by decide) (by decide) (by decide) (by decide)
    · obtain ⟨hp, hh, rfl⟩ := inQ_of (by decide) cx
      rw [pif_f (fun q => cy q.2)] at hM
      exact stp_mk (ct_X8_why_g P n I.n (wM P g ι φ) ι φ ℓ lt ρ ω I.W hp (by omega) y (bf cy)) hM Sn.rf I (Nat.le_refl _) (by decide) (by decide) (by decide) (by decide)
  · rw [pif_f (fun q => cx q.1)] at hM
    exact stp_mk (ct_X8_why_f P n I.n (wM P g ι φ) ι φ ℓ lt ρ ω I.W x y (bf cx)) hM Sn.rf I (Nat.le_refl _) (by decide) (by decide) (by decide) (by decide)
theorem st_facts (P : Px) (n : Nat) (H : hw) (I0 : Iw P n H) (x : Int32) : StpX P MX8_facts MX9_facts [.int x] n H := by
  obtain ⟨g, ι, φ, ℓ, lt, ρ, ω, I, rfl⟩ := I0
  exact stp_mk (ct_X8_facts P n I.n (wM P g ι φ) ι φ ℓ lt ρ ω I.W I.V x) (ct_X9_facts P n I.n (wC P g ι φ ℓ lt ρ ω) ι φ I.W x) Sn.rf I (Nat.le_refl _) (by decide) (by decide) (by decide) (by decide)
theorem st_log (P : Px) (n : Nat) (H : hw) (I0 : Iw P n H) (x y : Int32) : StpX P MX8_log MX9_log [.int x, .int y] n H := by
  obtain ⟨g, ι, φ, ℓ, lt, ρ, ω, I, rfl⟩ := I0
  exact stp_mk (ct_X8_log P n I.n (wM P g ι φ) ι φ ℓ lt ρ ω I.W x y) (ct_X9_log P n I.n (wC P g ι φ ℓ lt ρ ω) ι φ I.W x y) Sn.rf I (Nat.le_refl _) (by decide) (by decide) (by decide) (by decide)
theorem st_count (P : Px) (n : Nat) (H : hw) (I0 : Iw P n H) (x : Int32) : StpX P MX8_count MX9_count [.int x] n H := by
  obtain ⟨g, ι, φ, ℓ, lt, ρ, ω, I, rfl⟩ := I0
  exact stp_mk (ct_X8_count P n I.n (wM P g ι φ) ι φ ℓ lt ρ ω I.W x) (ct_X9_count P n I.n (wC P g ι φ ℓ lt ρ ω) ι φ I.W x) Sn.rf I (Nat.le_refl _) (by decide) (by decide) (by decide) (by decide)
theorem st_lost (P : Px) (n : Nat) (H : hw) (I0 : Iw P n H) : StpX P MX8_lost MX9_lost [] n H := by
  obtain ⟨g, ι, φ, ℓ, lt, ρ, ω, I, rfl⟩ := I0
  exact stp_mk (ct_X8_lost P n I.n (wM P g ι φ) ι φ ℓ lt ρ ω I.W I.RM I.H) (ct_X9_lost P n I.n (wC P g ι φ ℓ lt ρ ω) ι φ I.W I.H) Sn.rf I (Nat.le_refl _) (by decide) (by decide) (by decide) (by decide)
theorem st_move (P : Px) (n : Nat) (H : hw) (I0 : Iw P n H) (x : Int32) : StpX P MX8_move MX9_move [.int x] n H := by
  obtain ⟨g, ι, φ, ℓ, lt, ρ, ω, I, rfl⟩ := I0
  by_cases c : movOK ι φ x
  · have hM := ct_X9_move P n I.n (wC P g (up1 ι 1 (1 - ι 1)) φ (slN φ ℓ 4) (stN φ lt 4) ρ ω) ι φ I.W I.H x
    unfold sMove at hM
    rw [pif_t c, movB_t c] at hM
    have I1 : Iv P n g (up1 ι 1 (1 - ι 1)) φ ℓ lt ρ := iv_mod I (Nat.le_refl _) hg_rf (I.W.re rfl (by show 1 - ι 1 ≤ 1; omega) I.W.asks) rfl I.H I.V Kd.rf
    exact stp_mk (ct_X8_move_t P n I.n (wM P g ι φ) ι φ ℓ lt ρ ω I.W I.RM I.H x c) hM (fun k i h8 h9 h10 h13 h14 h15 => (chg_n 4 h13 h15).symm) (iv_chg I1 (fun _ => rfl)) (Nat.le_refl _) (by decide) (by decide) (by decide) (by decide)
  · have hM := ct_X9_move P n I.n (wC P g ι φ ℓ lt ρ ω) ι φ I.W I.H x
    unfold sMove at hM
    rw [pif_f c, movB_f c] at hM
    exact stp_mk (ct_X8_move_f P n I.n (wM P g ι φ) ι φ ℓ lt ρ ω I.W I.RM I.H x c) hM Sn.rf I (Nat.le_refl _) (by decide) (by decide) (by decide) (by decide)
theorem st_law (P : Px) (n : Nat) (H : hw) (I0 : Iw P n H) (x y : Int32) : StpX P MX8_law MX9_law [.int x, .int y] n H := by
  obtain ⟨g, ι, φ, ℓ, lt, ρ, ω, I, rfl⟩ := I0
  by_cases c : lawOK x y
  · have c' := c
    obtain ⟨cx, cy, cl⟩ := c'
    obtain ⟨hp, hh, rfl⟩ := inQ_of (by decide) cx
    obtain ⟨w, hw, rfl⟩ := nI_of cy
    rw [tn_n hw] at cl
    have hw2 : w < 40000 := by have := cl.1; omega
    have hM := ct_X9_law P (n + 1) (by have := I.n; omega) (wC P (hset g n (lcell w)) ι φ ℓ lt ρ (siftN φ hp ω)) ι φ I.W (nI hp) (nI w)
    unfold aLaw at hM
    rw [pif_t c, tn_n (k := hp) (by omega), tn_n hw] at hM
    have hC := ct_X8_law_t P n I.n (wM P g ι φ) ι φ ℓ lt ρ ω I.W I.RM hp (by omega) w hw2 cl
    rw [wM_g (Or.inr I.n)] at hC
    exact stp_mk hC hM Sn.rf (iv_mod I (by omega) hset_b I.W rfl I.H I.V Kd.rf) (by omega) (by decide) (by decide) (by decide) (by decide)
  · have hM := ct_X9_law P n I.n (wC P g ι φ ℓ lt ρ ω) ι φ I.W x y
    unfold aLaw at hM
    rw [pif_f c] at hM
    by_cases cx : inQ x (nI 1) = true
    · obtain ⟨hp, hh, rfl⟩ := inQ_of (by decide) cx
      exact stp_mk (ct_X8_law_g P n I.n (wM P g ι φ) ι φ ℓ lt ρ ω I.W hp (by omega) y (fun q => c ⟨cx, q.1, q.2⟩)) hM Sn.rf I (Nat.le_refl _) (by decide) (by decide) (by decide) (by decide)
    · exact stp_mk (ct_X8_law_f P n I.n (wM P g ι φ) ι φ ℓ lt ρ ω I.W x y (bf cx)) hM Sn.rf I (Nat.le_refl _) (by decide) (by decide) (by decide) (by decide)
theorem st_idle (P : Px) (n : Nat) (H : hw) (I0 : Iw P n H) (x y : Int32) : StpX P MX8_idle MX9_idle [.int x, .int y] n H := by
  obtain ⟨g, ι, φ, ℓ, lt, ρ, ω, I, rfl⟩ := I0
  by_cases c : ruleQ φ x y = true
  · have hM := ct_X9_idle P n I.n (wC P g ι φ ℓ lt ρ (siftN φ (tn x) ω)) ι φ I.W x y
    obtain ⟨hp, r0, hh, hr, rfl, rfl⟩ := ruleQ_of I.W.v7 c
    have h7 := I.W.v7 hp
    have e : idleB φ (nI hp) (nI r0) = cB (¬ ∃ code, code < 81920 ∧ fitsN φ (12 * hp + r0) code = true ∧ decN φ hp code = some r0) := by
      refine cB_iff (p := idleP φ (nI hp) (nI r0)) ?_
      unfold idleP
      rw [tn_n (k := hp) (by omega), tn_n (k := r0) (by omega)]
      constructor
      · rintro ⟨-, q⟩ ⟨code, q1, q2, q3⟩; exact q code q1 ⟨q2, q3⟩
      · intro q; exact ⟨c, fun code q1 q2 => q ⟨code, q1, q2⟩⟩
    rw [e, tn_n (k := hp) (by omega)] at hM
    exact stp_mk (ct_X8_idle_t P n I.n (wM P g ι φ) ι φ ℓ lt ρ ω I.W I.RM hp hh r0 hr) hM Sn.rf I (Nat.le_refl _) (by decide) (by decide) (by decide) (by decide)
  · have hM := ct_X9_idle P n I.n (wC P g ι φ ℓ lt ρ ω) ι φ I.W x y
    have e : idleB φ x y = false := cB_f (p := idleP φ x y) (fun q => c q.1)
    rw [e] at hM
    by_cases cx : inQ x (nI 1) = true
    · obtain ⟨hp, hh, rfl⟩ := inQ_of (by decide) cx
      exact stp_mk (ct_X8_idle_g P n I.n (wM P g ι φ) ι φ ℓ lt ρ ω I.W hp (by omega) y (bf (fun q => c ((ruleQ_n (by omega)).trans q)))) hM Sn.rf I (Nat.le_refl _) (by decide) (by decide) (by decide) (by decide)
    · exact stp_mk (ct_X8_idle_f P n I.n (wM P g ι φ) ι φ ℓ lt ρ ω I.W x y (bf cx)) hM Sn.rf I (Nat.le_refl _) (by decide) (by decide) (by decide) (by decide)
theorem st_quarrel (P : Px) (n : Nat) (H : hw) (I0 : Iw P n H) (x y z : Int32) : StpX P MX8_quarrel MX9_quarrel [.int x, .int y, .int z] n H := by
  obtain ⟨g, ι, φ, ℓ, lt, ρ, ω, I, rfl⟩ := I0
  by_cases cx : inQ x (nI 1) = true
  · obtain ⟨hp, hh, rfl⟩ := inQ_of (by decide) cx
    have h7 := I.W.v7 hp
    have ey : ruleQ φ (nI hp) y = inB y (nI (φ 7 hp)) := ruleQ_n (by omega)
    have ez : ruleQ φ (nI hp) z = inB z (nI (φ 7 hp)) := ruleQ_n (by omega)
    by_cases cy : inB y (nI (φ 7 hp)) = true
    · obtain ⟨a, ha, rfl⟩ := inB_of (by omega) cy
      by_cases cz : inB z (nI (φ 7 hp)) = true
      · obtain ⟨b, hb, rfl⟩ := inB_of (by omega) cz
        by_cases ce : φ 10 (12 * hp + a) = φ 10 (12 * hp + b)
        · have hM := ct_X9_quarrel P n I.n (wC P g ι φ ℓ lt ρ ω) ι φ I.W (nI hp) (nI a) (nI b)
          unfold aQua at hM
          rw [pif_f (fun q => q.2.2 (by rw [tn_n (k := hp) (by omega), tn_n (k := a) (by omega), tn_n (k := b) (by omega)]; exact ce))] at hM
          exact stp_mk (ct_X8_quarrel_j P n I.n (wM P g ι φ) ι φ ℓ lt ρ ω I.W I.RM hp (by omega) a b ha hb ce) hM Sn.rf I (Nat.le_refl _) (by decide) (by decide) (by decide) (by decide)
        · have hM := ct_X9_quarrel P n I.n (wC P g ι φ ℓ lt ρ (siftN φ hp ω)) ι φ I.W (nI hp) (nI a) (nI b)
          unfold aQua at hM
          rw [pif_t ⟨ey.trans cy, ez.trans cz, by rw [tn_n (k := hp) (by omega), tn_n (k := a) (by omega), tn_n (k := b) (by omega)]; exact ce⟩, tn_n (k := hp) (by omega), tn_n (k := a) (by omega), tn_n (k := b) (by omega)] at hM
          exact stp_mk (ct_X8_quarrel_t P n I.n (wM P g ι φ) ι φ ℓ lt ρ ω I.W I.RM hp (by omega) a b ha hb ce) hM Sn.rf I (Nat.le_refl _) (by decide) (by decide) (by decide) (by decide)
      · have hM := ct_X9_quarrel P n I.n (wC P g ι φ ℓ lt ρ ω) ι φ I.W (nI hp) (nI a) z
        unfold aQua at hM
        rw [pif_f (fun q => cz (ez.symm.trans q.2.1))] at hM
        exact stp_mk (ct_X8_quarrel_i P n I.n (wM P g ι φ) ι φ ℓ lt ρ ω I.W I.RM hp (by omega) a ha z (bf cz)) hM Sn.rf I (Nat.le_refl _) (by decide) (by decide) (by decide) (by decide)
    · have hM := ct_X9_quarrel P n I.n (wC P g ι φ ℓ lt ρ ω) ι φ I.W (nI hp) y z
      unfold aQua at hM
      rw [pif_f (fun q => cy (ey.symm.trans q.1))] at hM
      by_cases cz : inB z (nI (φ 7 hp)) = true
      · obtain ⟨b, hb, rfl⟩ := inB_of (by omega) cz
        exact stp_mk (ct_X8_quarrel_h P n I.n (wM P g ι φ) ι φ ℓ lt ρ ω I.W I.RM hp (by omega) y (bf cy) b hb) hM Sn.rf I (Nat.le_refl _) (by decide) (by decide) (by decide) (by decide)
      · exact stp_mk (ct_X8_quarrel_g P n I.n (wM P g ι φ) ι φ ℓ lt ρ ω I.W I.RM hp (by omega) y z (bf cy) (bf cz)) hM Sn.rf I (Nat.le_refl _) (by decide) (by decide) (by decide) (by decide)
  · have hM := ct_X9_quarrel P n I.n (wC P g ι φ ℓ lt ρ ω) ι φ I.W x y z
    unfold aQua at hM
    rw [pif_f (fun q => by have := q.1; rw [ruleQ_f (bf cx)] at this; cases this)] at hM
    exact stp_mk (ct_X8_quarrel_f P n I.n (wM P g ι φ) ι φ ℓ lt ρ ω I.W x y z (bf cx)) hM Sn.rf I (Nat.le_refl _) (by decide) (by decide) (by decide) (by decide)
theorem st_keeps (P : Px) (n : Nat) (H : hw) (I0 : Iw P n H) (x : Int32) : StpX P MX8_keeps MX9_keeps [.int x] n H := by
  obtain ⟨g, ι, φ, ℓ, lt, ρ, ω, I, rfl⟩ := I0
  have hM := ct_X9_keeps P n I.n (wC P g ι φ ℓ lt ρ ω) ι φ I.W x
  unfold aKeeps at hM
  by_cases cx : inQ x (nI 3) = true
  · obtain ⟨j, hj, rfl⟩ := inQ_of (by decide) cx
    obtain ⟨L, kw, km, ka, K⟩ := I.2.2.2.2.2.2
    have KM : KP P n ι φ lt (wM P g ι φ) L kw km ka := K.of (Nat.le_refl _) (fun k k1 k2 => wM_out (Or.inr k1)) (Nat.le_refl _) (fun _ => rfl) (fun _ => rfl)
    obtain ⟨a, b, -⟩ := KM j (by omega)
    rw [pif_t cx, tn_n (k := j) (by omega), KM.cnt (by omega)] at hM
    exact stp_mk (ct_X8_keeps_t P n I.n (wM P g ι φ) ι φ ℓ lt ρ ω I.W j (by omega) kw km ka (L j) a (fun q hq => (b q hq).2.1)) hM Sn.rf I (Nat.le_refl _) (by decide) (by decide) (by decide) (by decide)
  · rw [pif_f cx] at hM
    exact stp_mk (ct_X8_keeps_f P n I.n (wM P g ι φ) ι φ ℓ lt ρ ω I.W x (bf cx)) hM Sn.rf I (Nat.le_refl _) (by decide) (by decide) (by decide) (by decide)
theorem st_judged (P : Px) (n : Nat) (H : hw) (I0 : Iw P n H) (x y : Int32) : StpX P MX8_judged MX9_judged [.int x, .int y] n H := by
  obtain ⟨g, ι, φ, ℓ, lt, ρ, ω, I, rfl⟩ := I0
  by_cases cx : inQ x (nI 3) = true
  · obtain ⟨j, hj, rfl⟩ := inQ_of (by decide) cx
    by_cases cy : askQ y = true
    · obtain ⟨k, k1, k2, rfl⟩ := askQ_of cy
      have hj4 : j < 4 := by omega
      have cj : judOK (nI j) (nI k) := ⟨cx, cy⟩
      obtain ⟨h1, W, h19, V0, R, Lh, L, kw, km, ka, K⟩ := id I
      have KM : KP P n ι φ lt (wM P g ι φ) L kw km ka := K.of (Nat.le_refl _) (fun k k1 k2 => wM_out (Or.inr k1)) (Nat.le_refl _) (fun _ => rfl) (fun _ => rfl)
      obtain ⟨a, b, -⟩ := KM j hj4
      have an2 : ansW ι φ k ≤ 2 := ansN_le _ _ _
      have W2 : Wf ι (up2 (up2 φ 13 (10000 * j + k) (ι 0 + 1)) 14 (10000 * j + k) (ansW ι φ k)) := (W.up 13 _ _ (by simp [bdM])).up 14 _ _ (by simp [bdM]; omega)
      have e2 : ∀ q i, q ≠ 13 → q ≠ 14 → up2 (up2 φ 13 (10000 * j + k) (ι 0 + 1)) 14 (10000 * j + k) (ansW ι φ k) q i = φ q i := fun q i a b => by rw [up2_o b, up2_o a]
      by_cases cz : φ 13 (10000 * j + k) = 0
      · have hM := ct_X9_judged P (n + 1) (by omega) (wC P (hset g n (kcell P k (lt j) (ι 0) (ansW ι φ k))) ι φ ℓ (upo lt j (some n)) ρ ω) ι φ W (nI j) (nI k)
        unfold aJud sJud at hM
        rw [pif_t cj, pif_t cj, tn_n (k := j) (by omega), tn_n (k := k) (by omega), pif_f (fun q => q.1 cz), pif_f (fun q => q.1 cz)] at hM
        have hC := ct_X8_judged_c P n h1 (wM P g ι φ) ι φ ℓ lt ρ ω I.W V0 I.RM j hj4 kw km ka (L j) a (fun q hq => (b q hq).1) k k1 k2 (K.none hj4 cz)
        rw [wM_g (Or.inr h1)] at hC
        have I1 : Iv P (n + 1) (hset g n (kcell P k (lt j) (ι 0) (ansW ι φ k))) ι (up2 (up2 φ 13 (10000 * j + k) (ι 0 + 1)) 14 (10000 * j + k) (ansW ι φ k)) ℓ (upo lt j (some n)) ρ := ⟨by omega, W2, fun i => by rw [e2 _ _ (by decide) (by decide)]; exact h19 i, fun q hq => by rw [e2 _ _ (by decide) (by decide)] at hq ⊢; exact V0 q hq, R.of (by omega) (fun q a b s q1 q2 q3 => (hset_b q q1 q2).trans q3) (fun i => e2 _ _ (by decide) (by decide)) (fun i => e2 _ _ (by decide) (by decide)) (fun i => e2 _ _ (by decide) (by decide)) (fun i => e2 _ _ (by decide) (by decide)), Lh.of rfl (fun i => e2 _ _ (by decide) (by decide)), _, _, _, _, K.push h1 hj4 k1 cz⟩
        exact stp_mk hC hM (fun q i h8 h9 h10 h13 h14 h15 => (e2 q i h13 h14).symm) I1 (by omega) (by decide) (by decide) (by decide) (by decide)
      · obtain ⟨A, B, k0, hAB, hk0, hne⟩ := K.find hj4 k1 cz
        have hmem : k0 ∈ L j := by rw [hAB]; exact List.mem_append_right _ List.mem_cons_self
        obtain ⟨q59, qn, nx, hg0⟩ := (K j hj4).1.lt k0 hmem
        obtain ⟨b1, b2, b3, b4⟩ := b k0 hmem
        rw [hk0] at b3 b4
        have hgM : wM P g ι φ k0 = kcell P (kw k0) nx (km k0) (ka k0) := (wM_out (Or.inr q59)).trans hg0
        rw [hAB] at a
        by_cases cf : ι 0 - km k0 ≤ φ 11 j
        · have hk : keptP ι φ j k := ⟨cz, by rw [b3, Nat.add_sub_cancel]; exact cf⟩
          have hM := ct_X9_judged P n h1 (wC P g (up1 ι 4 (ι 4 + 1)) φ ℓ lt ρ ω) ι φ W (nI j) (nI k)
          unfold aJud sJud at hM
          rw [pif_t cj, pif_t cj, tn_n (k := j) (by omega), tn_n (k := k) (by omega), pif_t hk, pif_t hk, b4] at hM
          have hC := ct_X8_judged_a P n h1 (wM P g ι φ) ι φ ℓ lt ρ ω I.W j hj4 kw km ka A B k0 a (fun q hq => (b q (by rw [hAB]; exact List.mem_append_left _ hq)).1) k k1 k2 hne hk0 nx q59 qn hgM b2 cf
          exact stp_mk hC hM Sn.rf (iv_mod I (Nat.le_refl _) hg_rf (W.re rfl W.inF W.asks) rfl h19 V0 Kd.rf) (Nat.le_refl _) (by decide) (by decide) (by decide) (by decide)
        · have hk : ¬ keptP ι φ j k := fun q => cf (by have := q.2; rw [b3, Nat.add_sub_cancel] at this; exact this)
          have hM := ct_X9_judged P n h1 (wC P (hset g k0 (kcell P (kw k0) nx (ι 0) (ansW ι φ k))) ι φ ℓ lt ρ ω) ι φ W (nI j) (nI k)
          unfold aJud sJud at hM
          rw [pif_t cj, pif_t cj, tn_n (k := j) (by omega), tn_n (k := k) (by omega), pif_f hk, pif_f hk] at hM
          have hC := ct_X8_judged_b P n h1 (wM P g ι φ) ι φ ℓ lt ρ ω I.W V0 I.RM j hj4 kw km ka A B k0 a (fun q hq => (b q (by rw [hAB]; exact List.mem_append_left _ hq)).1) k k1 k2 hne hk0 nx q59 qn hgM b2 cf
          rw [wM_g (Or.inr q59)] at hC
          have KA := K.anew (ans := ansW ι φ k) hj4 hmem hg0
          rw [hk0] at KA hC hM hg0
          have I1 : Iv P n (hset g k0 (kcell P k nx (ι 0) (ansW ι φ k))) ι (up2 (up2 φ 13 (10000 * j + k) (ι 0 + 1)) 14 (10000 * j + k) (ansW ι φ k)) ℓ lt ρ := ⟨h1, W2, fun i => by rw [e2 _ _ (by decide) (by decide)]; exact h19 i, fun q hq => by rw [e2 _ _ (by decide) (by decide)] at hq ⊢; exact V0 q hq, R.of (Nat.le_refl _) (fun q a b s q1 q2 q3 => (hset_n _ _ (fun e => rc_ne ((q3.symm.trans (congrArg g e)).trans hg0))).trans q3) (fun i => e2 _ _ (by decide) (by decide)) (fun i => e2 _ _ (by decide) (by decide)) (fun i => e2 _ _ (by decide) (by decide)) (fun i => e2 _ _ (by decide) (by decide)), Lh.of rfl (fun i => e2 _ _ (by decide) (by decide)), _, _, _, _, KA⟩
          exact stp_mk hC hM (fun q i h8 h9 h10 h13 h14 h15 => (e2 q i h13 h14).symm) I1 (Nat.le_refl _) (by decide) (by decide) (by decide) (by decide)
    · have hM := ct_X9_judged P n I.n (wC P g ι φ ℓ lt ρ ω) ι φ I.W (nI j) y
      unfold aJud sJud at hM
      rw [pif_f (fun q => cy q.2), pif_f (fun q => cy q.2)] at hM
      exact stp_mk (ct_X8_judged_g P n I.n (wM P g ι φ) ι φ ℓ lt ρ ω I.W j (by omega) y (bf cy)) hM Sn.rf I (Nat.le_refl _) (by decide) (by decide) (by decide) (by decide)
  · have hM := ct_X9_judged P n I.n (wC P g ι φ ℓ lt ρ ω) ι φ I.W x y
    unfold aJud sJud at hM
    rw [pif_f (fun q => cx q.1), pif_f (fun q => cx q.1)] at hM
    exact stp_mk (ct_X8_judged_f P n I.n (wM P g ι φ) ι φ ℓ lt ρ ω I.W x y (bf cx)) hM Sn.rf I (Nat.le_refl _) (by decide) (by decide) (by decide) (by decide)

