/-! ===== rows over the heap ===== -/
theorem hOK.set {P : Px} {n k : Nat} {h : hw} {e : va_E} {H H1 : Heap} (hO : hOK P n h H) (hk : k < n) (he : va_at P.2.1 vwCl (Bs P + k, e) H1) (z : H1.size = H.size) (oq : ∀ q : Nat, q ≠ Bs P + k → H1[q]? = H[q]?) : hOK P n (hset h k e) H1 := by
  refine ⟨z.trans hO.1, fun j hj => ?_⟩
  by_cases hjk : j = k
  · subst hjk; rw [hset_s]; exact he
  · rw [hset_n h e hjk]
    exact (hO.2 j hj).kept (oq _ (by show Bs P + j ≠ Bs P + k; omega))
theorem hOK.push {P : Px} {n : Nat} {h : hw} {e : va_E} {H H1 : Heap} (hO : hOK P n h H) (he : va_at P.2.1 vwCl (Bs P + n, e) H1) (z : H1.size = H.size + 1) (oq : ∀ q : Nat, q < H.size → H1[q]? = H[q]?) : hOK P (n + 1) (hset h n e) H1 := by
  refine ⟨by rw [z, hO.1]; omega, fun j hj => ?_⟩
  by_cases hjk : j = n
  · subst hjk; rw [hset_s]; exact he
  · rw [hset_n h e hjk]
    exact (hO.2 j (by omega)).kept (oq _ (by show Bs P + j < H.size; rw [hO.1]; omega))
def fK (ci : Nat) (C : String) (T : u_T) (N : Nat) (ty : Nat → FieldType) : Prop := vwCl[ci]? = some (C, T, N) ∧ (∀ w ∈ u_ws C T N, w ∈ lw_tbl) ∧ (∀ k, k < N → parseFieldDescriptor (T k).2.2.1 = some (ty k)) ∧ (∀ a, a < N → ∀ b, b < N → a ≠ b → (T a).2.1 ≠ (T b).2.1)
theorem uws_ok {C : String} {T : u_T} {N : Nat} {w : Cond} (hw : w ∈ u_ws C T N) : okW w = true := by
  obtain ⟨k, -, rfl⟩ := List.mem_map.mp hw
  unfold u_lay
  split <;> rfl
theorem uws_hts {s : State} {args : Array Value} {C : String} {T : u_T} {N : Nat} (hT : tbOK s) (hin : ∀ w ∈ u_ws C T N, w ∈ lw_tbl) : ∀ w ∈ u_ws C T N, w.before args s = true := fun w hw => hT.use (hin w hw) (uws_ok hw) args
section ZH
variable {K : Kx} {P : Px} {own : String} {cc : ByteArray} {nL d MC MS n u w pc pc' : Nat} {h : hw} {vs : List (Option Value)} {st : List Value}
theorem hget {s : State} {H : Heap} {args : Array Value} {k ci N j : Nat} {fs : List Value} {C : String} {T : u_T} {ty : Nat → FieldType} {v : Value} (hT : tbOK s) (hK : va_K P.2.1 vwCl (tysOf P) s) (hO : hOK P n h H) (F : fK ci C T N ty) (hk : k < n) (he : h k = .inr (ci, fs)) (hj : j < N) (hv : fs[j]? = some v) : ∃ (cf : Nat) (kf : Class) (fi : Nat) (f : Field) (cell : Cell), s.fieldFound? (T j).1 (T j).2.1 (T j).2.2.1 = some (cf, kf, fi, f) ∧ f.isStatic = false ∧ H[Bs P + k]? = some cell ∧ cell.vm = .none ∧ cell.slots[f.slot]? = some v := by
  have hq := hO.2 k hk
  rw [he] at hq
  obtain ⟨r, h1, cell, q1, q2, q3, q4⟩ := hq
  have hr : r = (C, T, N) := Option.some.inj (h1.symm.trans F.1)
  subst hr
  obtain ⟨hS, hfc, kC, hkC, hkind⟩ := hK.1 ci _ F.1
  obtain ⟨cf, kf, fi, f, hi, hsl⟩ := hS j hj
  have hlay := u_lays (args := args) (uws_hts hT F.2.1) (fun _ hw => hw) hj
  refine ⟨cf, kf, fi, f, cell, hi, (u_facts hfc hkC hlay hi).1, q1, q3, ?_⟩
  rw [hsl, q4 j hj]
  simp [vp_V, hv]
theorem r_get (X : Cx K P own cc nL d MC MS) {k ci N j idx : Nat} {fs : List Value} {C : String} {T : u_T} {ty : Nat → FieldType} {v : Value} (F : fK ci C T N ty) (hl : Cond.fieldLink own idx (T j).1 (T j).2.1 (T j).2.2.1 ∈ lw_tbl) (hd : decode cc pc = .ok (.getfield idx, 3)) (hp : pc + 3 = pc') (hj : j < N) (hk : k < n) (he : h k = .inr (ci, fs)) (hv : fs[j]? = some v) (kk : Z K P n h u w pc' vs (v :: st)) : Z K P n h u w pc vs (.ref (Bs P + k) :: st) := by
  subst hp
  obtain ⟨p, e, R, s, m, args, below, meth, c, Q⟩ := K
  obtain ⟨hx, hb, hml, hown, hT, hK, -⟩ := X
  intro H locs cells slots ls a1 a2 a3 a4 a5
  obtain ⟨cf, kf, fi, f, cell, g1, g2, g3, g4, g5⟩ := hget (args := args) hT hK a1 F hk he hj hv
  exact W.getf hx hb hown (hT.use hl rfl args) g1 g2 g3 (by rw [g4]; exact fun h => by cases h) g5 rfl rfl hd (kk H locs cells slots ls a1 a2 a3 a4 a5)
theorem r_getN (X : Cx K P own cc nL d MC MS) {k ci N j idx : Nat} {fs : List Value} {C host : String} {T : u_T} {ty : Nat → FieldType} {v : Value} (F : fK ci C T N ty) (hl : Cond.fieldLinkNest own idx (T j).1 (T j).2.1 (T j).2.2.1 host ∈ lw_tbl) (hd : decode cc pc = .ok (.getfield idx, 3)) (hp : pc + 3 = pc') (hj : j < N) (hk : k < n) (he : h k = .inr (ci, fs)) (hv : fs[j]? = some v) (kk : Z K P n h u w pc' vs (v :: st)) : Z K P n h u w pc vs (.ref (Bs P + k) :: st) := by
  subst hp
  obtain ⟨p, e, R, s, m, args, below, meth, c, Q⟩ := K
  obtain ⟨hx, hb, hml, hown, hT, hK, -⟩ := X
  intro H locs cells slots ls a1 a2 a3 a4 a5
  obtain ⟨cf, kf, fi, f, cell, g1, g2, g3, g4, g5⟩ := hget (args := args) hT hK a1 F hk he hj hv
  exact va_Wgetf hx hb hown (hT.use hl rfl args) g1 g2 g3 (by rw [g4]; exact fun h => by cases h) g5 rfl rfl hd (kk H locs cells slots ls a1 a2 a3 a4 a5)
theorem hapart {s : State} {C : String} {T : u_T} {N ci : Nat} {ty : Nat → FieldType} (hT : tbOK s) (hK : va_K P.2.1 vwCl (tysOf P) s) (F : fK ci C T N ty) : ∀ x y, x < N → y < N → x ≠ y → (P.2.1.2 ci) x ≠ (P.2.1.2 ci) y := va_apart (args := #[]) (own := C) (uws_hts hT F.2.1) (fun _ hw => hw) ty F.2.2.1 F.2.2.2 hK F.1
theorem r_put (X : Cx K P own cc nL d MC MS) {k ci N j idx : Nat} {fs : List Value} {C : String} {T : u_T} {ty : Nat → FieldType} {v : Value} (F : fK ci C T N ty) (hl : Cond.fieldLink own idx (T j).1 (T j).2.1 (T j).2.2.1 ∈ lw_tbl) (hfin : (T j).2.2.2 = false) (hd : decode cc pc = .ok (.putfield idx, 3)) (hp : pc + 3 = pc') (hj : j < N) (hk : k < n) (he : h k = .inr (ci, fs)) (hjl : j < fs.length) (hn : narrow (ty j) v = v) (hfit : fits (ty j) v = true) (kk : Z K P n (hset h k (.inr (ci, fs.set j v))) u w pc' vs st) : Z K P n h u w pc vs (v :: .ref (Bs P + k) :: st) := by
  subst hp
  obtain ⟨p, e, R, s, m, args, below, meth, c, Q⟩ := K
  obtain ⟨hx, hb, hml, hown, hT, hK, -⟩ := X
  intro H locs cells slots ls a1 a2 a3 a4 a5
  have hap := hapart hT hK F
  have hq := a1.2 k hk
  rw [he] at hq
  obtain ⟨r, h1, cell, q1, q2, q3, q4⟩ := hq
  have hr : r = (C, T, N) := Option.some.inj (h1.symm.trans F.1)
  subst hr
  obtain ⟨hS, hfc, kC, hkC, hkind⟩ := hK.1 ci _ F.1
  obtain ⟨cf, kf, fi, f, hi, hsl⟩ := hS j hj
  have hts := uws_hts (args := args) hT F.2.1
  have hlay := hts _ (u_in_lay hj)
  unfold u_lay at hlay
  rw [if_neg (by rw [hfin]; decide)] at hlay
  have hst := (u_facts hfc hkC (u_lays hts (fun _ hw => hw) hj) hi).1
  have h6 := u_store hfc hkC hkind hlay hi (F.2.2.1 j hj) hn hfit
  refine W.putK hx hb (f := f) ⟨hown, hT.use hl rfl args, ⟨_, _, _, hi⟩, hst⟩ (by rw [q2]; exact h6) q1 q3 (by rw [hsl]; exact k2_hasslot (q4 j hj)) rfl rfl hd fun H' e1 e2 e3 => ?_
  rw [hsl] at e1 ⊢
  exact kk H' _ cells slots ls (a1.set hk ⟨_, F.1, t_OB.to (V := updV (vp_V fs) j v) ⟨_, e1, q2, q3, t_set q4 hap hj v⟩ (fun i _ => vp_updV_set hjl v i)⟩ e2 e3) (a2.put e2 e3 (by show Bs P ≤ Bs P + k; omega)) a3 a4 a5
theorem r_putN (X : Cx K P own cc nL d MC MS) {k ci N j idx : Nat} {fs : List Value} {C host : String} {T : u_T} {ty : Nat → FieldType} {v : Value} (F : fK ci C T N ty) (hl : Cond.fieldLinkNest own idx (T j).1 (T j).2.1 (T j).2.2.1 host ∈ lw_tbl) (hfin : (T j).2.2.2 = false) (hd : decode cc pc = .ok (.putfield idx, 3)) (hp : pc + 3 = pc') (hj : j < N) (hk : k < n) (he : h k = .inr (ci, fs)) (hjl : j < fs.length) (hn : narrow (ty j) v = v) (hfit : fits (ty j) v = true) (kk : Z K P n (hset h k (.inr (ci, fs.set j v))) u w pc' vs st) : Z K P n h u w pc vs (v :: .ref (Bs P + k) :: st) := by
  subst hp
  obtain ⟨p, e, R, s, m, args, below, meth, c, Q⟩ := K
  obtain ⟨hx, hb, hml, hown, hT, hK, -⟩ := X
  intro H locs cells slots ls a1 a2 a3 a4 a5
  have hap := hapart hT hK F
  have hq := a1.2 k hk
  rw [he] at hq
  obtain ⟨r, h1, cell, q1, q2, q3, q4⟩ := hq
  have hr : r = (C, T, N) := Option.some.inj (h1.symm.trans F.1)
  subst hr
  obtain ⟨hS, hfc, kC, hkC, hkind⟩ := hK.1 ci _ F.1
  obtain ⟨cf, kf, fi, f, hi, hsl⟩ := hS j hj
  have hts := uws_hts (args := args) hT F.2.1
  have hlay := hts _ (u_in_lay hj)
  unfold u_lay at hlay
  rw [if_neg (by rw [hfin]; decide)] at hlay
  have hst := (u_facts hfc hkC (u_lays hts (fun _ hw => hw) hj) hi).1
  have h6 := u_store hfc hkC hkind hlay hi (F.2.2.1 j hj) hn hfit
  refine va_WputK hx hb (f := f) hown (hT.use hl rfl args) hi hst (by rw [q2]; exact h6) q1 q3 (by rw [hsl]; exact k2_hasslot (q4 j hj)) rfl rfl hd fun H' e1 e2 e3 => ?_
  rw [hsl] at e1 ⊢
  exact kk H' _ cells slots ls (a1.set hk ⟨_, F.1, t_OB.to (V := updV (vp_V fs) j v) ⟨_, e1, q2, q3, t_set q4 hap hj v⟩ (fun i _ => vp_updV_set hjl v i)⟩ e2 e3) (a2.put e2 e3 (by show Bs P ≤ Bs P + k; omega)) a3 a4 a5
theorem r_putF (X : Cx K P own cc nL d MC MS) (hnm : Nm K "<init>") {k ci N j idx : Nat} {fs : List Value} {C : String} {T : u_T} {ty : Nat → FieldType} {v : Value} (F : fK ci C T N ty) (hl : Cond.fieldLink own idx (T j).1 (T j).2.1 (T j).2.2.1 ∈ lw_tbl) (hfin : (T j).2.2.2 = true) (hown' : (T j).1 = own) (hd : decode cc pc = .ok (.putfield idx, 3)) (hp : pc + 3 = pc') (hj : j < N) (hk : k < n) (he : h k = .inr (ci, fs)) (hjl : j < fs.length) (hn : narrow (ty j) v = v) (hfit : fits (ty j) v = true) (kk : Z K P n (hset h k (.inr (ci, fs.set j v))) u w pc' vs st) : Z K P n h u w pc vs (v :: .ref (Bs P + k) :: st) := by
  subst hp
  obtain ⟨p, e, R, s, m, args, below, meth, c, Q⟩ := K
  obtain ⟨hx, hb, hml, hown, hT, hK, -⟩ := X
  intro H locs cells slots ls a1 a2 a3 a4 a5
  have hap := hapart hT hK F
  have hq := a1.2 k hk
  rw [he] at hq
  obtain ⟨r, h1, cell, q1, q2, q3, q4⟩ := hq
  have hr : r = (C, T, N) := Option.some.inj (h1.symm.trans F.1)
  subst hr
  obtain ⟨hS, hfc, kC, hkC, hkind⟩ := hK.1 ci _ F.1
  obtain ⟨cf, kf, fi, f, hi, hsl⟩ := hS j hj
  have hts := uws_hts (args := args) hT F.2.1
  have hlay := u_lays hts (fun _ hw => hw) hj
  have hst := (u_facts hfc hkC hlay hi).1
  have h6 := u_fits hfc hkC hkind hlay hi (F.2.2.1 j hj) hn hfit
  have hcf : m.cls = cf := by
    have hlf := hts _ (u_in_lay hj)
    unfold u_lay at hlf
    rw [if_pos hfin] at hlf
    obtain ⟨_, _, c', _, _, _, -, -, hf', -, -, -, hown2, -⟩ := Cond.laysFinal_spec hlf
    have e1 : c' = cf := by have := hi.symm.trans hf'; simp at this; exact this.1.symm
    rw [hown'] at hown2
    rw [← e1]; exact Option.some.inj (hown.symm.trans hown2)
  refine W.putFinK hx hb hown (hT.use hl rfl args) hi hst hcf hnm (by rw [q2]; exact h6) q1 q3 (by rw [hsl]; exact k2_hasslot (q4 j hj)) rfl rfl hd fun H' e1 e2 e3 => ?_
  rw [hsl] at e1 ⊢
  exact kk H' _ cells slots ls (a1.set hk ⟨_, F.1, t_OB.to (V := updV (vp_V fs) j v) ⟨_, e1, q2, q3, t_set q4 hap hj v⟩ (fun i _ => vp_updV_set hjl v i)⟩ e2 e3) (a2.put e2 e3 (by show Bs P ≤ Bs P + k; omega)) a3 a4 a5
end ZH
section ZA
variable {K : Kx} {P : Px} {own : String} {cc : ByteArray} {nL d MC MS n u w pc pc' : Nat} {h : hw} {vs : List (Option Value)} {st : List Value}
theorem vin_nI {i N : Nat} (hi : i < N) (hN : N < 2 ^ 31) : vp_in (nI i) N := vp_in_nI hi hN
theorem r_iald (X : Cx K P own cc nL d MC MS) {k N i : Nat} {f : Nat → Int32} (hd : decode cc pc = .ok (.iaload, 1)) (hp : pc + 1 = pc') (hk : k < n) (he : h k = .inl (P.2.2.1 0, N, .inl f)) (hi : i < N) (hN : N < 2 ^ 31) (kk : Z K P n h u w pc' vs (.int (f i) :: st)) : Z K P n h u w pc vs (.int (nI i) :: .ref (Bs P + k) :: st) := by
  subst hp
  obtain ⟨p, e, R, s, m, args, below, meth, c, Q⟩ := K
  obtain ⟨hx, hb, hml, hown, hT, hK, -⟩ := X
  intro H locs cells slots ls a1 a2 a3 a4 a5
  have hq := a1.2 k hk
  rw [he] at hq
  have hcl : (nI i).toNatClampNeg = i := nI_clamp (by omega)
  exact W.iald (v := .int (f i)) hx hb hq ((hK.2 0 _ rfl).1 N (fun j => .int (f j))) (fun q => by cases q) (by show ¬ (nI i < 0 ∨ (arrV _ _ _).slots.size ≤ _); rw [arrV_size]; exact nI_in hi hN) (by show (arrV _ _ _).slots[_]? = _; rw [hcl, arrV_read _ _ hi]) rfl rfl hd (kk H locs cells slots ls a1 a2 a3 a4 a5)
theorem r_zald (X : Cx K P own cc nL d MC MS) {k N i : Nat} {f : Nat → Int32} (hd : decode cc pc = .ok (.baload, 1)) (hp : pc + 1 = pc') (hk : k < n) (he : h k = .inl (P.2.2.1 1, N, .inl f)) (hi : i < N) (hN : N < 2 ^ 31) (kk : Z K P n h u w pc' vs (.int (f i) :: st)) : Z K P n h u w pc vs (.int (nI i) :: .ref (Bs P + k) :: st) := by
  subst hp
  obtain ⟨p, e, R, s, m, args, below, meth, c, Q⟩ := K
  obtain ⟨hx, hb, hml, hown, hT, hK, -⟩ := X
  intro H locs cells slots ls a1 a2 a3 a4 a5
  have hq := a1.2 k hk
  rw [he] at hq
  have hcl : (nI i).toNatClampNeg = i := nI_clamp (by omega)
  exact W.zald (v := .int (f i)) hx hb hq ((hK.2 1 _ rfl).1 N (fun j => .int (f j))) (fun q => by cases q) (by show ¬ (nI i < 0 ∨ (arrV _ _ _).slots.size ≤ _); rw [arrV_size]; exact nI_in hi hN) (by show (arrV _ _ _).slots[_]? = _; rw [hcl, arrV_read _ _ hi]) rfl rfl hd (kk H locs cells slots ls a1 a2 a3 a4 a5)
theorem arrI_set {cA : ClassId} {N i : Nat} {f : Nat → Int32} {x : Int32} : (vp_cell cA (N, .inl f)).setSlot i (.int x) = vp_cell cA (N, .inl (upd f i x)) := by
  rw [vp_cell_i, vp_cell_i, arrV_store]
  congr 1
  funext q
  by_cases hq : q = i
  · subst hq; simp [updV, upd]
  · simp [updV, upd, hq]
theorem r_iast (X : Cx K P own cc nL d MC MS) {k N i : Nat} {f : Nat → Int32} {x : Int32} (hd : decode cc pc = .ok (.iastore, 1)) (hp : pc + 1 = pc') (hk : k < n) (he : h k = .inl (P.2.2.1 0, N, .inl f)) (hi : i < N) (hN : N < 2 ^ 31) (kk : Z K P n (hset h k (.inl (P.2.2.1 0, N, .inl (upd f i x)))) u w pc' vs st) : Z K P n h u w pc vs (.int x :: .int (nI i) :: .ref (Bs P + k) :: st) := by
  subst hp
  obtain ⟨p, e, R, s, m, args, below, meth, c, Q⟩ := K
  obtain ⟨hx, hb, hml, hown, hT, hK, -⟩ := X
  intro H locs cells slots ls a1 a2 a3 a4 a5
  have hq := a1.2 k hk
  rw [he] at hq
  have hcl : (nI i).toNatClampNeg = i := nI_clamp (by omega)
  refine W.iast hx hb hq ((hK.2 0 _ rfl).1 N (fun j => .int (f j))) (fun q => by cases q) (by show ¬ (nI i < 0 ∨ (arrV _ _ _).slots.size ≤ _); rw [arrV_size]; exact nI_in hi hN) rfl rfl hd fun H1 e z oq => ?_
  refine kk H1 _ cells slots ls (a1.set hk ?_ z oq) (a2.put z oq (by show Bs P ≤ Bs P + k; omega)) a3 a4 a5
  show H1[Bs P + k]? = some (vp_cell _ _)
  rw [e, hcl, arrI_set]
theorem r_zast (X : Cx K P own cc nL d MC MS) {k N i : Nat} {f : Nat → Int32} {x : Int32} (hd : decode cc pc = .ok (.bastore, 1)) (hp : pc + 1 = pc') (hx1 : narrow .boolean (.int x) = .int x) (hk : k < n) (he : h k = .inl (P.2.2.1 1, N, .inl f)) (hi : i < N) (hN : N < 2 ^ 31) (kk : Z K P n (hset h k (.inl (P.2.2.1 1, N, .inl (upd f i x)))) u w pc' vs st) : Z K P n h u w pc vs (.int x :: .int (nI i) :: .ref (Bs P + k) :: st) := by
  subst hp
  obtain ⟨p, e, R, s, m, args, below, meth, c, Q⟩ := K
  obtain ⟨hx, hb, hml, hown, hT, hK, -⟩ := X
  intro H locs cells slots ls a1 a2 a3 a4 a5
  have hq := a1.2 k hk
  rw [he] at hq
  have hcl : (nI i).toNatClampNeg = i := nI_clamp (by omega)
  refine W.zast hx hb hq ((hK.2 1 _ rfl).1 N (fun j => .int (f j))) (fun q => by cases q) (by show ¬ (nI i < 0 ∨ (arrV _ _ _).slots.size ≤ _); rw [arrV_size]; exact nI_in hi hN) rfl rfl hd fun H1 e z oq => ?_
  refine kk H1 _ cells slots ls (a1.set hk ?_ z oq) (a2.put z oq (by show Bs P ≤ Bs P + k; omega)) a3 a4 a5
  show H1[Bs P + k]? = some (vp_cell _ _)
  rw [e, hcl, hx1, arrI_set]
theorem r_aald (X : Cx K P own cc nL d MC MS) {k N i t : Nat} {f : Nat → Option Nat} {ty : FieldType} (hty : (tysOf P)[t]? = some (P.2.2.1 t, ty)) (hr : ty.isReference = true) (hd : decode cc pc = .ok (.aaload, 1)) (hp : pc + 1 = pc') (hk : k < n) (he : h k = .inl (P.2.2.1 t, N, .inr (.inr (.inr (.inr f))))) (hi : i < N) (hN : N < 2 ^ 31) (kk : Z K P n h u w pc' vs (va_rf (f i) :: st)) : Z K P n h u w pc vs (.int (nI i) :: .ref (Bs P + k) :: st) := by
  subst hp
  obtain ⟨p, e, R, s, m, args, below, meth, c, Q⟩ := K
  obtain ⟨hx, hb, hml, hown, hT, hK, -⟩ := X
  intro H locs cells slots ls a1 a2 a3 a4 a5
  have hq := a1.2 k hk
  rw [he] at hq
  have hcl : (nI i).toNatClampNeg = i := nI_clamp (by omega)
  exact W.aald (v := va_rf (f i)) (ty := ty) hx hb hq ((hK.2 t _ hty).1 N (fun j => va_rf (f j))) hr (fun q => by cases q) (by show ¬ (nI i < 0 ∨ (arrV _ _ _).slots.size ≤ _); rw [arrV_size]; exact nI_in hi hN) (by show (arrV _ _ _).slots[_]? = _; rw [hcl, arrV_read _ _ hi]) rfl rfl hd (kk H locs cells slots ls a1 a2 a3 a4 a5)
theorem r_alen (X : Cx K P own cc nL d MC MS) {k t : Nat} {x : vp_A} {ty : FieldType} (hty : (tysOf P)[t]? = some (P.2.2.1 t, ty)) (hd : decode cc pc = .ok (.arraylength, 1)) (hp : pc + 1 = pc') (hk : k < n) (he : h k = .inl (P.2.2.1 t, x)) (kk : Z K P n h u w pc' vs (.int (nI x.1) :: st)) : Z K P n h u w pc vs (.ref (Bs P + k) :: st) := by
  subst hp
  obtain ⟨p, e, R, s, m, args, below, meth, c, Q⟩ := K
  obtain ⟨hx, hb, hml, hown, hT, hK, -⟩ := X
  intro H locs cells slots ls a1 a2 a3 a4 a5
  have hq := a1.2 k hk
  rw [he] at hq
  refine va_alen (D := P.2.1) (cl := vwCl) (tys := tysOf P) (ws := [(Bs P + k, .inl (P.2.2.1 t, x))]) hx hb hK (fun j q hj => ?_) 0 t rfl hty rfl hd (kk H locs cells slots ls a1 a2 a3 a4 a5)
  have h0 : j < 1 := (List.getElem?_eq_some_iff.mp hj).1
  rw [show j = 0 by omega] at hj
  cases hj
  exact hq
theorem arrQ_set {cA : ClassId} {N i : Nat} {f : Nat → Option Nat} {x : Option Nat} : (vp_cell cA (N, .inr (.inr (.inr (.inr f))))).setSlot i (va_rf x) = vp_cell cA (N, .inr (.inr (.inr (.inr (va_up f i x))))) := by
  rw [vp_cell_q, vp_cell_q, arrV_store]
  congr 1
  funext q
  by_cases hq : q = i
  · subst hq; simp [updV, va_up]
  · simp [updV, va_up, hq]
theorem r_aast (X : Cx K P own cc nL d MC MS) {k N i t kv ci : Nat} {fs : List Value} {f : Nat → Option Nat} {r : vw_C} (hty : (tysOf P)[t]? = some (P.2.2.1 t, .object r.1)) (hd : decode cc pc = .ok (.aastore, 1)) (hp : pc + 1 = pc') (hk : k < n) (he : h k = .inl (P.2.2.1 t, N, .inr (.inr (.inr (.inr f))))) (hkv : kv < n) (hev : h kv = .inr (ci, fs)) (hc : vwCl[ci]? = some r) (hi : i < N) (hN : N < 2 ^ 31) (kk : Z K P n (hset h k (.inl (P.2.2.1 t, N, .inr (.inr (.inr (.inr (va_up f i (some (Bs P + kv))))))))) u w pc' vs st) : Z K P n h u w pc vs (.ref (Bs P + kv) :: .int (nI i) :: .ref (Bs P + k) :: st) := by
  subst hp
  obtain ⟨p, e, R, s, m, args, below, meth, c, Q⟩ := K
  obtain ⟨hx, hb, hml, hown, hT, hK, -⟩ := X
  intro H locs cells slots ls a1 a2 a3 a4 a5
  have hq := a1.2 k hk
  rw [he] at hq
  have hqv := a1.2 kv hkv
  rw [hev] at hqv
  obtain ⟨r', hr', cellV, g1, g2, g3, -⟩ := hqv
  have hcl : (nI i).toNatClampNeg = i := nI_clamp (by omega)
  have hcls := (hK.1 ci r hc).2
  obtain ⟨kA, comp, k1, k2, k3, -⟩ := (hK.2 t _ hty).2
  have hcomp : comp = P.2.1.1 ci := Option.some.inj (k3.symm.trans hcls.1)
  subst hcomp
  obtain ⟨kC, hkC, -⟩ := hcls.2
  refine W.aast hx hb hq (fun q h => by cases h) (fun h => by cases h) k1 k2 rfl hkC ⟨nI_pos (by omega), by show _ < (arrV _ _ _).slots.size; rw [arrV_size, hcl]; exact hi⟩ g1 (fun q h => by rw [g3] at h; cases h) (by rw [g2]; exact hkC) (by rw [g2]; exact va_assign hcls) rfl rfl hd fun H1 e z oq => ?_
  refine kk H1 _ cells slots ls (a1.set hk ?_ z oq) (a2.put z oq (by show Bs P ≤ Bs P + k; omega)) a3 a4 a5
  show H1[Bs P + k]? = some (vp_cell _ _)
  rw [e, hcl]
  exact congrArg some (arrQ_set (x := some (Bs P + kv)))
theorem r_aastN (X : Cx K P own cc nL d MC MS) {k N i t : Nat} {f : Nat → Option Nat} {C : String} (hty : (tysOf P)[t]? = some (P.2.2.1 t, .object C)) (hd : decode cc pc = .ok (.aastore, 1)) (hp : pc + 1 = pc') (hk : k < n) (he : h k = .inl (P.2.2.1 t, N, .inr (.inr (.inr (.inr f))))) (hi : i < N) (hN : N < 2 ^ 31) (kk : Z K P n (hset h k (.inl (P.2.2.1 t, N, .inr (.inr (.inr (.inr (va_up f i none))))))) u w pc' vs st) : Z K P n h u w pc vs (.null :: .int (nI i) :: .ref (Bs P + k) :: st) := by
  subst hp
  obtain ⟨p, e, R, s, m, args, below, meth, c, Q⟩ := K
  obtain ⟨hx, hb, hml, hown, hT, hK, -⟩ := X
  intro H locs cells slots ls a1 a2 a3 a4 a5
  have hq := a1.2 k hk
  rw [he] at hq
  have hcl : (nI i).toNatClampNeg = i := nI_clamp (by omega)
  refine va_WaastN (C := C) hx hb hq ((hK.2 t _ hty).1 N (fun j => va_rf (f j))) (fun h => by cases h) (by show ¬ (nI i < 0 ∨ (arrV _ _ _).slots.size ≤ _); rw [arrV_size]; exact nI_in hi hN) rfl rfl hd fun H1 e z oq => ?_
  refine kk H1 _ cells slots ls (a1.set hk ?_ z oq) (a2.put z oq (by show Bs P ≤ Bs P + k; omega)) a3 a4 a5
  show H1[Bs P + k]? = some (vp_cell _ _)
  rw [e, hcl]
  exact congrArg some (arrQ_set (x := none))
theorem hS_push {A : Nat → Prop} {H0 H H1 : Heap} {locs : List Loc} (hS : va_S A H0 H locs) (z : H.size ≤ H1.size) (o : ∀ q : Nat, q < H.size → H1[q]? = H[q]?) : va_S A H0 H1 locs := ⟨Nat.le_trans hS.1 z, fun x h1 h2 => (o x (Nat.lt_of_lt_of_le h1 hS.1)).trans (hS.2.1 x h1 h2), hS.2.2⟩
theorem r_new (X : Cx K P own cc nL d MC MS) {ci N idx : Nat} {C : String} {T : u_T} {ty : Nat → FieldType} {fs : List Value} (F : fK ci C T N ty) (hcl : Cond.classLink own idx C ∈ lw_tbl) (hins : Cond.instantiable C N ∈ lw_tbl) (hini : Cond.initialized C ∈ lw_tbl) (hfs : ∀ j, j < N → defaultValue (ty j) = vp_V fs j) (hu : u + 1 ≤ MC) (hw' : w + N ≤ MS) (hd : decode cc pc = .ok (.new idx, 3)) (hp : pc + 3 = pc') (kk : Z K P (n + 1) (hset h n (.inr (ci, fs))) (u + 1) (w + N) pc' vs (.ref (Bs P + n) :: st)) : Z K P n h u w pc vs st := by
  subst hp
  obtain ⟨p, e, R, s, m, args, below, meth, c, Q⟩ := K
  obtain ⟨hx, hb, hml, hown, hT, hK, -, -, -, hMC, hMS⟩ := X
  intro H locs cells slots ls a1 a2 a3 a4 a5
  have hKn := hK.1 ci _ F.1
  have hts := uws_hts (args := args) hT F.2.1
  refine W.newcK hx hb hown (hT.use hcl rfl args) (hT.use hins rfl args) (hT.use hini rfl args) rfl hd (by omega) (by omega) hKn.2.1 a1.1 fun H1 kC hkC e1 z1 o1 => ?_
  refine kk H1 locs (cells + 1) (slots + N) ls (a1.push ⟨_, F.1, (u_born ty hts (fun _ hw => hw) hKn hkC e1 F.2.2.1).to hfs⟩ (by rw [z1, a1.1]) (fun q hq => o1 q (by rw [← a1.1]; exact hq))) (hS_push a2 (by rw [z1, a1.1]; omega) (fun q hq => o1 q (by rw [← a1.1]; exact hq))) (by omega) (by omega) a5
theorem r_newa (X : Cx K P own cc nL d MC MS) {N t : Nat} {atype : ArrayType} {ty : FieldType} {x : Int32} (ht : newarray.typeOf atype = ty) (hty : (tysOf P)[t]? = some (P.2.2.1 t, ty)) (hnr : va_RA = va_RA) (hfind : ∀ (U : State) (cA : ClassId), va_RA U cA ty → U.vm.findClass ("[" ++ ty.toString) = some cA) (hdef : defaultValue ty = .int 0) (harr : Cond.arrayClass ty ∈ lw_tbl) (hx0 : x = nI N) (hN : N < 2 ^ 31) (hby : N * componentBytes ty ≤ 536870912) (hu : u + 1 ≤ MC) (hw' : w + N ≤ MS) (hd : decode cc pc = .ok (.newarray atype, 2)) (hp : pc + 2 = pc') (kk : Z K P (n + 1) (hset h n (.inl (P.2.2.1 t, N, .inl (fun _ => 0)))) (u + 1) (w + N) pc' vs (.ref (Bs P + n) :: st)) : Z K P n h u w pc vs (.int x :: st) := by
  subst hp
  subst hx0
  subst ht
  obtain ⟨p, e, R, s, m, args, below, meth, c, Q⟩ := K
  obtain ⟨hx, hb, hml, hown, hT, hK, -, -, -, hMC, hMS⟩ := X
  intro H locs cells slots ls a1 a2 a3 a4 a5
  refine va_newaK hx hb (hT.use harr rfl args) rfl hd rfl (nI_pos hN) (nI_clamp hN) hby (by omega) (by omega) a1.1 fun H1 cA e1 z1 o1 hAr hNm => ?_
  have hcA : cA = P.2.2.1 t := Option.some.inj (hNm.symm.trans (hfind s _ (hK.2 t _ hty).2))
  subst hcA
  refine kk H1 locs (cells + 1) (slots + N) ls (a1.push ?_ (by rw [z1, a1.1]) (fun q hq => o1 q (by rw [← a1.1]; exact hq))) (hS_push a2 (by rw [z1, a1.1]; omega) (fun q hq => o1 q (by rw [← a1.1]; exact hq))) (by omega) (by omega) a5
  show H1[Bs P + n]? = some (vp_cell _ _)
  rw [e1, vp_cell_i, hdef]
theorem r_newi (X : Cx K P own cc nL d MC MS) {N : Nat} (harr : Cond.arrayClass .int ∈ lw_tbl) (hN : N < 2 ^ 27) (hu : u + 1 ≤ MC) (hw' : w + N ≤ MS) (hd : decode cc pc = .ok (.newarray .int, 2)) (hp : pc + 2 = pc') (kk : Z K P (n + 1) (hset h n (.inl (P.2.2.1 0, N, .inl (fun _ => 0)))) (u + 1) (w + N) pc' vs (.ref (Bs P + n) :: st)) : Z K P n h u w pc vs (.int (nI N) :: st) := r_newa (t := 0) (atype := .int) (ty := .int) X rfl rfl rfl (fun _ _ q => q) rfl harr rfl (by omega) (by show N * 4 ≤ _; omega) hu hw' hd hp kk
theorem r_newz (X : Cx K P own cc nL d MC MS) {N : Nat} (harr : Cond.arrayClass .boolean ∈ lw_tbl) (hN : N < 2 ^ 27) (hu : u + 1 ≤ MC) (hw' : w + N ≤ MS) (hd : decode cc pc = .ok (.newarray .boolean, 2)) (hp : pc + 2 = pc') (kk : Z K P (n + 1) (hset h n (.inl (P.2.2.1 1, N, .inl (fun _ => 0)))) (u + 1) (w + N) pc' vs (.ref (Bs P + n) :: st)) : Z K P n h u w pc vs (.int (nI N) :: st) := r_newa (t := 1) (atype := .boolean) (ty := .boolean) X rfl rfl rfl (fun _ _ q => q) rfl harr rfl (by omega) (by show N * 1 ≤ _; omega) hu hw' hd hp kk
theorem r_anew (X : Cx K P own cc nL d MC MS) {N t idx : Nat} {C : String} (hty : (tysOf P)[t]? = some (P.2.2.1 t, .object C)) (hcl : Cond.classLink own idx C ∈ lw_tbl) (hao : Cond.arrayOver (.object C) ∈ lw_tbl) (hN : N < 2 ^ 27) (hu : u + 1 ≤ MC) (hw' : w + N ≤ MS) (hd : decode cc pc = .ok (.anewarray idx, 3)) (hp : pc + 3 = pc') (kk : Z K P (n + 1) (hset h n (.inl (P.2.2.1 t, N, .inr (.inr (.inr (.inr (fun _ => none))))))) (u + 1) (w + N) pc' vs (.ref (Bs P + n) :: st)) : Z K P n h u w pc vs (.int (nI N) :: st) := by
  subst hp
  obtain ⟨p, e, R, s, m, args, below, meth, c, Q⟩ := K
  obtain ⟨hx, hb, hml, hown, hT, hK, -, -, -, hMC, hMS⟩ := X
  intro H locs cells slots ls a1 a2 a3 a4 a5
  have hcl0 : (nI N).toNatClampNeg = N := nI_clamp (by omega)
  refine W.anew hx hb hown (hT.use hcl rfl args) (hT.use hao rfl args) rfl hd rfl (nI_pos (by omega)) (by rw [hcl0]; omega) (by omega) (by rw [hcl0]; omega) fun cA kA comp f1 f2 f3 f4 => ?_
  obtain ⟨kA', comp', k1, k2, k3, k4⟩ := (hK.2 t _ hty).2
  have hcA : cA = P.2.2.1 t := Option.some.inj (f1.symm.trans k4)
  subst hcA
  rw [hcl0]
  generalize hH1 : H.push ({ cls := P.2.2.1 t, slots := Array.replicate N .null, vm := .none } : Cell) = H1
  have z1 : H1.size = H.size + 1 := by rw [← hH1, Array.size_push]
  have e1 : H1[H.size]? = some (arrV (P.2.2.1 t) N (fun _ => .null)) := by rw [← hH1, Array.getElem?_push_size, ← arrV_new]
  have o1 : ∀ q : Nat, q < H.size → H1[q]? = H[q]? := fun q hq => by rw [← hH1, Array.getElem?_push, if_neg (Nat.ne_of_lt hq)]
  rw [a1.1] at e1
  show W _ _ _ _ _ _ _ _ _ _ _ _ _ _ _ (F0 m (pc + 3) ls (.ref H.size :: st))
  rw [a1.1]
  exact kk H1 locs (cells + 1) (slots + N) ls (a1.push e1 z1 o1) (hS_push a2 (by omega) o1) (by omega) (by omega) a5
end ZA
