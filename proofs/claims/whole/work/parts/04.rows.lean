/-! ===== rows of the judgement Z: one an instruction ===== -/
def bI (b : Bool) : Int32 := cond b 1 0
section ZR
variable {K : Kx} {P : Px} {own : String} {cc : ByteArray} {nL d MC MS n u w pc pc' tgt : Nat} {h : hw} {vs vs' : List (Option Value)} {st : List Value}
theorem Z.lift {st' : List Value} (X : Cx K P own cc nL d MC MS) (k : Z K P n h u w pc' vs st') (f : ∀ (p : Program) (l : Launch) (e : Env) (R : Room) (s : State) (m : MethodId) (args : Array Value) (below : List Frame) (meth : Method) (c : Code) (H : Heap) (locs : List Loc) (cells slots : Nat) (Q : State → Prop) (ls : Array Slot), p.tables.exec = Jvm.exec → c.code = cc → s.vm.findClass own = some m.cls → tbOK s → W p l e R s m args below meth c H locs cells slots Q (F0 m pc' ls st') → W p l e R s m args below meth c H locs cells slots Q (F0 m pc ls st)) : Z K P n h u w pc vs st := by
  obtain ⟨p, e, R, s, m, args, below, meth, c, Q⟩ := K
  obtain ⟨hx, hb, hml, hown, hT, -⟩ := X
  intro H locs cells slots ls a1 a2 a3 a4 a5
  exact f _ _ _ _ _ _ _ _ _ _ _ _ _ _ _ _ hx hb hown hT (k H locs cells slots ls a1 a2 a3 a4 a5)
theorem Z.lift2 {pc2 : Nat} {st1 st2 : List Value} {A1 A2 : Prop} (X : Cx K P own cc nL d MC MS) (k1 : A1 → Z K P n h u w pc' vs st1) (k2 : A2 → Z K P n h u w pc2 vs st2) (f : ∀ (p : Program) (l : Launch) (e : Env) (R : Room) (s : State) (m : MethodId) (args : Array Value) (below : List Frame) (meth : Method) (c : Code) (H : Heap) (locs : List Loc) (cells slots : Nat) (Q : State → Prop) (ls : Array Slot), p.tables.exec = Jvm.exec → c.code = cc → (A1 → W p l e R s m args below meth c H locs cells slots Q (F0 m pc' ls st1)) → (A2 → W p l e R s m args below meth c H locs cells slots Q (F0 m pc2 ls st2)) → W p l e R s m args below meth c H locs cells slots Q (F0 m pc ls st)) : Z K P n h u w pc vs st := by
  obtain ⟨p, e, R, s, m, args, below, meth, c, Q⟩ := K
  obtain ⟨hx, hb, -⟩ := X
  intro H locs cells slots ls a1 a2 a3 a4 a5
  exact f _ _ _ _ _ _ _ _ _ _ _ _ _ _ _ _ hx hb (fun q => k1 q H locs cells slots ls a1 a2 a3 a4 a5) (fun q => k2 q H locs cells slots ls a1 a2 a3 a4 a5)
theorem Z.liftL {st' : List Value} (X : Cx K P own cc nL d MC MS) (k : Z K P n h u w pc' vs st') (f : ∀ (p : Program) (l : Launch) (e : Env) (R : Room) (s : State) (m : MethodId) (args : Array Value) (below : List Frame) (meth : Method) (c : Code) (H : Heap) (locs : List Loc) (cells slots : Nat) (Q : State → Prop) (ls : Array Slot), p.tables.exec = Jvm.exec → c.code = cc → hasL ls c.maxLocals vs → W p l e R s m args below meth c H locs cells slots Q (F0 m pc' ls st') → W p l e R s m args below meth c H locs cells slots Q (F0 m pc ls st)) : Z K P n h u w pc vs st := by
  obtain ⟨p, e, R, s, m, args, below, meth, c, Q⟩ := K
  obtain ⟨hx, hb, -⟩ := X
  intro H locs cells slots ls a1 a2 a3 a4 a5
  exact f _ _ _ _ _ _ _ _ _ _ _ _ _ _ _ _ hx hb a5 (k H locs cells slots ls a1 a2 a3 a4 a5)

theorem r_iadd (X : Cx K P own cc nL d MC MS) {x y : Int32} (hd : decode cc pc = .ok (.iadd, 1)) (hp : pc + 1 = pc') (k : Z K P n h u w pc' vs (.int (x + y) :: st)) : Z K P n h u w pc vs (.int y :: .int x :: st) := by
  subst hp
  exact Z.lift X k (fun _ _ _ _ _ _ _ _ _ _ _ _ _ _ _ _ hx hb ho hT hW => lv_iadd hx hb hd hW)
theorem r_isub (X : Cx K P own cc nL d MC MS) {x y : Int32} (hd : decode cc pc = .ok (.isub, 1)) (hp : pc + 1 = pc') (k : Z K P n h u w pc' vs (.int (x - y) :: st)) : Z K P n h u w pc vs (.int y :: .int x :: st) := by
  subst hp
  exact Z.lift X k (fun _ _ _ _ _ _ _ _ _ _ _ _ _ _ _ _ hx hb ho hT hW => lv_isub hx hb hd hW)
theorem r_imul (X : Cx K P own cc nL d MC MS) {x y : Int32} (hd : decode cc pc = .ok (.imul, 1)) (hp : pc + 1 = pc') (k : Z K P n h u w pc' vs (.int (x * y) :: st)) : Z K P n h u w pc vs (.int y :: .int x :: st) := by
  subst hp
  exact Z.lift X k (fun _ _ _ _ _ _ _ _ _ _ _ _ _ _ _ _ hx hb ho hT hW => lv_imul hx hb hd hW)
theorem r_iand (X : Cx K P own cc nL d MC MS) {x y : Int32} (hd : decode cc pc = .ok (.iand, 1)) (hp : pc + 1 = pc') (k : Z K P n h u w pc' vs (.int (x &&& y) :: st)) : Z K P n h u w pc vs (.int y :: .int x :: st) := by
  subst hp
  exact Z.lift X k (fun _ _ _ _ _ _ _ _ _ _ _ _ _ _ _ _ hx hb ho hT hW => lv_iand hx hb hd hW)
theorem r_ior (X : Cx K P own cc nL d MC MS) {x y : Int32} (hd : decode cc pc = .ok (.ior, 1)) (hp : pc + 1 = pc') (k : Z K P n h u w pc' vs (.int (x ||| y) :: st)) : Z K P n h u w pc vs (.int y :: .int x :: st) := by
  subst hp
  exact Z.lift X k (fun _ _ _ _ _ _ _ _ _ _ _ _ _ _ _ _ hx hb ho hT hW => lv_ior hx hb hd hW)
theorem r_ishl (X : Cx K P own cc nL d MC MS) {x y : Int32} (hd : decode cc pc = .ok (.ishl, 1)) (hp : pc + 1 = pc') (k : Z K P n h u w pc' vs (.int (x <<< (y &&& 31)) :: st)) : Z K P n h u w pc vs (.int y :: .int x :: st) := by
  subst hp
  exact Z.lift X k (fun _ _ _ _ _ _ _ _ _ _ _ _ _ _ _ _ hx hb ho hT hW => lv_ishl hx hb hd hW)
theorem r_ishr (X : Cx K P own cc nL d MC MS) {x y : Int32} (hd : decode cc pc = .ok (.ishr, 1)) (hp : pc + 1 = pc') (k : Z K P n h u w pc' vs (.int (x >>> (y &&& 31)) :: st)) : Z K P n h u w pc vs (.int y :: .int x :: st) := by
  subst hp
  exact Z.lift X k (fun _ _ _ _ _ _ _ _ _ _ _ _ _ _ _ _ hx hb ho hT hW => lv_ishr hx hb hd hW)
theorem r_idiv (X : Cx K P own cc nL d MC MS) {x y : Int32} (hne : ¬ y = 0) (hd : decode cc pc = .ok (.idiv, 1)) (hp : pc + 1 = pc') (k : Z K P n h u w pc' vs (.int (x / y) :: st)) : Z K P n h u w pc vs (.int y :: .int x :: st) := by
  subst hp
  exact Z.lift X k (fun _ _ _ _ _ _ _ _ _ _ _ _ _ _ _ _ hx hb ho hT hW => lv_idiv hx hb hd hne hW)
theorem r_irem (X : Cx K P own cc nL d MC MS) {x y : Int32} (hne : ¬ y = 0) (hd : decode cc pc = .ok (.irem, 1)) (hp : pc + 1 = pc') (k : Z K P n h u w pc' vs (.int (x - x / y * y) :: st)) : Z K P n h u w pc vs (.int y :: .int x :: st) := by
  subst hp
  exact Z.lift X k (fun _ _ _ _ _ _ _ _ _ _ _ _ _ _ _ _ hx hb ho hT hW => lv_irem hx hb hd hne hW)
theorem r_ineg (X : Cx K P own cc nL d MC MS) {x : Int32} (hd : decode cc pc = .ok (.ineg, 1)) (hp : pc + 1 = pc') (k : Z K P n h u w pc' vs (.int (-x) :: st)) : Z K P n h u w pc vs (.int x :: st) := by
  subst hp
  exact Z.lift X k (fun _ _ _ _ _ _ _ _ _ _ _ _ _ _ _ _ hx hb ho hT hW => lv_ineg hx hb hd (by first | exact hW | simpa using hW))
theorem r_iconst (X : Cx K P own cc nL d MC MS) {z : Int} {v : Int32} (hv : Int32.ofInt z = v) (hd : decode cc pc = .ok (.iconst z, 1)) (hp : pc + 1 = pc') (k : Z K P n h u w pc' vs (.int v :: st)) : Z K P n h u w pc vs (st) := by
  subst hp
  exact Z.lift X k (fun _ _ _ _ _ _ _ _ _ _ _ _ _ _ _ _ hx hb ho hT hW => lv_iconst hx hb hd hv hW)
theorem r_bipush (X : Cx K P own cc nL d MC MS) {z : Int} {v : Int32} (hv : (Int8.ofInt z).toInt32 = v) (hd : decode cc pc = .ok (.bipush z, 2)) (hp : pc + 2 = pc') (k : Z K P n h u w pc' vs (.int v :: st)) : Z K P n h u w pc vs (st) := by
  subst hp
  exact Z.lift X k (fun _ _ _ _ _ _ _ _ _ _ _ _ _ _ _ _ hx hb ho hT hW => lv_bipush hx hb hd hv hW)
theorem r_sipush (X : Cx K P own cc nL d MC MS) {z : Int} {v : Int32} (hv : (Int16.ofInt z).toInt32 = v) (hd : decode cc pc = .ok (.sipush z, 3)) (hp : pc + 3 = pc') (k : Z K P n h u w pc' vs (.int v :: st)) : Z K P n h u w pc vs (st) := by
  subst hp
  exact Z.lift X k (fun _ _ _ _ _ _ _ _ _ _ _ _ _ _ _ _ hx hb ho hT hW => lv_sipush hx hb hd hv hW)
theorem r_ldc (X : Cx K P own cc nL d MC MS) {i : Nat} {v : Int32} (hw : Cond.constant own i v ∈ lw_tbl) (hd : decode cc pc = .ok (.ldc i, 2)) (hp : pc + 2 = pc') (k : Z K P n h u w pc' vs (.int v :: st)) : Z K P n h u w pc vs (st) := by
  subst hp
  exact Z.lift X k (fun _ _ _ _ _ _ _ _ _ _ _ _ _ _ _ _ hx hb ho hT hW => lv_ldc hx hb ho (hT.use hw rfl _) hd hW)
theorem r_dup (X : Cx K P own cc nL d MC MS) {a : Value} (ha : a.category = 1) (hd : decode cc pc = .ok (.dup, 1)) (hp : pc + 1 = pc') (k : Z K P n h u w pc' vs (a :: a :: st)) : Z K P n h u w pc vs (a :: st) := by
  subst hp
  exact Z.lift X k (fun _ _ _ _ _ _ _ _ _ _ _ _ _ _ _ _ hx hb ho hT hW => lv_dup hx hb hd ha hW)
theorem r_pop (X : Cx K P own cc nL d MC MS) {a : Value} (ha : a.category = 1) (hd : decode cc pc = .ok (.pop, 1)) (hp : pc + 1 = pc') (k : Z K P n h u w pc' vs (st)) : Z K P n h u w pc vs (a :: st) := by
  subst hp
  exact Z.lift X k (fun _ _ _ _ _ _ _ _ _ _ _ _ _ _ _ _ hx hb ho hT hW => lv_pop hx hb hd ha hW)
theorem r_dup2 (X : Cx K P own cc nL d MC MS) {a b : Value} (ha : a.category = 1) (hb1 : b.category = 1) (hd : decode cc pc = .ok (.dup2, 1)) (hp : pc + 1 = pc') (k : Z K P n h u w pc' vs (a :: b :: a :: b :: st)) : Z K P n h u w pc vs (a :: b :: st) := by
  subst hp
  exact Z.lift X k (fun _ _ _ _ _ _ _ _ _ _ _ _ _ _ _ _ hx hb ho hT hW => lv_dup2_11 hx hb hd ha hb1 hW)
theorem r_null (X : Cx K P own cc nL d MC MS)  (hd : decode cc pc = .ok (.aconst_null, 1)) (hp : pc + 1 = pc') (k : Z K P n h u w pc' vs (.null :: st)) : Z K P n h u w pc vs (st) := by
  subst hp
  exact Z.lift X k (fun _ _ _ _ _ _ _ _ _ _ _ _ _ _ _ _ hx hb ho hT hW => lv_null hx hb hd hW)
theorem r_goto (X : Cx K P own cc nL d MC MS) {off : Int} (hd : decode cc pc = .ok (.goto off, 3)) (ht : (pc : Int) + off = (tgt : Int)) (k : Z K P n h u w tgt vs st) : Z K P n h u w pc vs st := Z.lift X k (fun _ _ _ _ _ _ _ _ _ _ _ _ _ _ _ _ hx hb ho hT hW => lv_goto hx hb hd ht hW)
theorem r_iload_n (X : Cx K P own cc nL d MC MS) {k : Fin 4} {x : Int32} (hd : decode cc pc = .ok (.iload_n k, 1)) (hp : pc + 1 = pc') (hv : vs[(k : Nat)]? = some (some (.int x))) (k : Z K P n h u w pc' vs (.int x :: st)) : Z K P n h u w pc vs st := by
  subst hp
  exact Z.liftL X k (fun _ _ _ _ _ _ _ _ _ _ _ _ _ _ _ _ hx hb hl hW => lv_iload_n hx hb hd rfl (hl.2.2 _ _ hv).1 hW)
theorem r_iload (X : Cx K P own cc nL d MC MS) {i : Nat} {x : Int32} (hd : decode cc pc = .ok (.iload i, 2)) (hp : pc + 2 = pc') (hv : vs[i]? = some (some (.int x))) (k : Z K P n h u w pc' vs (.int x :: st)) : Z K P n h u w pc vs st := by
  subst hp
  exact Z.liftL X k (fun _ _ _ _ _ _ _ _ _ _ _ _ _ _ _ _ hx hb hl hW => lv_iload hx hb hd (hl.2.2 _ _ hv).1 hW)
theorem r_aload_n (X : Cx K P own cc nL d MC MS) {k : Fin 4} {x : Nat} (hd : decode cc pc = .ok (.aload_n k, 1)) (hp : pc + 1 = pc') (hv : vs[(k : Nat)]? = some (some (.ref x))) (k : Z K P n h u w pc' vs (.ref x :: st)) : Z K P n h u w pc vs st := by
  subst hp
  exact Z.liftL X k (fun _ _ _ _ _ _ _ _ _ _ _ _ _ _ _ _ hx hb hl hW => lv_aload_n hx hb hd rfl (hl.2.2 _ _ hv).1 hW)
theorem r_aload (X : Cx K P own cc nL d MC MS) {i : Nat} {x : Nat} (hd : decode cc pc = .ok (.aload i, 2)) (hp : pc + 2 = pc') (hv : vs[i]? = some (some (.ref x))) (k : Z K P n h u w pc' vs (.ref x :: st)) : Z K P n h u w pc vs st := by
  subst hp
  exact Z.liftL X k (fun _ _ _ _ _ _ _ _ _ _ _ _ _ _ _ _ hx hb hl hW => lv_aload hx hb hd (hl.2.2 _ _ hv).1 hW)
theorem r_aload_nN (X : Cx K P own cc nL d MC MS) {k : Fin 4} (hd : decode cc pc = .ok (.aload_n k, 1)) (hp : pc + 1 = pc') (hv : vs[(k : Nat)]? = some (some (.null))) (k : Z K P n h u w pc' vs (.null :: st)) : Z K P n h u w pc vs st := by
  subst hp
  exact Z.liftL X k (fun _ _ _ _ _ _ _ _ _ _ _ _ _ _ _ _ hx hb hl hW => lv_aload_nN hx hb hd rfl (hl.2.2 _ _ hv).1 hW)
theorem r_aloadN (X : Cx K P own cc nL d MC MS) {i : Nat} (hd : decode cc pc = .ok (.aload i, 2)) (hp : pc + 2 = pc') (hv : vs[i]? = some (some (.null))) (k : Z K P n h u w pc' vs (.null :: st)) : Z K P n h u w pc vs st := by
  subst hp
  exact Z.liftL X k (fun _ _ _ _ _ _ _ _ _ _ _ _ _ _ _ _ hx hb hl hW => lv_aloadN hx hb hd (hl.2.2 _ _ hv).1 hW)
def lvE (nL : Nat) (vs : List (Option Value)) : List (Nat × Value) := (List.range nL).filterMap (fun i => match vs[i]? with | some (some v) => some (i, v) | _ => none)
theorem lvE_mem {nL : Nat} {vs : List (Option Value)} {q : Nat × Value} (hq : q ∈ lvE nL vs) : vs[q.1]? = some (some q.2) := by
  obtain ⟨i, hi, h2⟩ := List.mem_filterMap.mp hq
  cases hv : vs[i]? with
  | none => rw [hv] at h2; cases h2
  | some o =>
    cases o with
    | none => rw [hv] at h2; cases h2
    | some v => rw [hv] at h2; cases h2; exact hv
theorem lvE_in {nL : Nat} {vs : List (Option Value)} {i : Nat} {v : Value} (hi : i < nL) (hv : vs[i]? = some (some v)) : (i, v) ∈ lvE nL vs := List.mem_filterMap.mpr ⟨i, List.mem_range.mpr hi, by rw [hv]⟩
theorem hasL.has {ls : Array Slot} {nL : Nat} {vs : List (Option Value)} (hl : hasL ls nL vs) : lv_has ls nL (lvE nL vs) := ⟨hl.1, hl.2.1, fun q hq => (hl.2.2 _ _ (lvE_mem hq)).1⟩
theorem hasL.store {ls ls' : Array Slot} {nL i : Nat} {vs vs' : List (Option Value)} {v : Value} (hl : hasL ls nL vs) (hc : v.category = 1) (h' : lv_has ls' nL ((i, v) :: (lvE nL vs).filter (fun q => !(q.1 == i) && !(q.1 + 1 == i && q.2.category == 2)))) (hs : vs.set i (some v) = vs') : hasL ls' nL vs' := by
  subst hs
  refine ⟨h'.1, h'.2.1, fun j x hj => ?_⟩
  by_cases hji : j = i
  · subst hji
    have hx : x = v := by
      rw [List.getElem?_set] at hj
      simp at hj
      exact hj.2.symm
    subst hx
    exact ⟨h'.2.2 (j, x) List.mem_cons_self, hc⟩
  · rw [List.getElem?_set_ne (fun q => hji q.symm)] at hj
    obtain ⟨g1, g2⟩ := hl.2.2 j x hj
    have hjl : j < nL := by rw [← hl.1]; exact lv_lt g1
    refine ⟨h'.2.2 (j, x) (List.mem_cons_of_mem _ (List.mem_filter.mpr ⟨lvE_in hjl hj, ?_⟩)), g2⟩
    simp [hji, g2]
theorem r_istore_n (X : Cx K P own cc nL d MC MS) {k : Fin 4} {x : Int32} (hd : decode cc pc = .ok (.istore_n k, 1)) (hp : pc + 1 = pc') (hi : ((k : Nat)) < nL) (hs : vs.set ((k : Nat)) (some (.int x)) = vs') (k : Z K P n h u w pc' vs' st) : Z K P n h u w pc vs (.int x :: st) := by
  subst hp
  obtain ⟨p, e, R, s, m, args, below, meth, c, Q⟩ := K
  obtain ⟨hx, hb, hml, -⟩ := X
  intro H locs cells slots ls a1 a2 a3 a4 a5
  exact lv_istore_n hx hb hd rfl a5.has (by rw [hml]; exact hi) rfl (fun ls' h' => k H locs cells slots ls' a1 a2 a3 a4 (a5.store rfl h' hs))
theorem r_istore (X : Cx K P own cc nL d MC MS) {i : Nat} {x : Int32} (hd : decode cc pc = .ok (.istore i, 2)) (hp : pc + 2 = pc') (hi : (i) < nL) (hs : vs.set (i) (some (.int x)) = vs') (k : Z K P n h u w pc' vs' st) : Z K P n h u w pc vs (.int x :: st) := by
  subst hp
  obtain ⟨p, e, R, s, m, args, below, meth, c, Q⟩ := K
  obtain ⟨hx, hb, hml, -⟩ := X
  intro H locs cells slots ls a1 a2 a3 a4 a5
  exact lv_istore hx hb hd a5.has (by rw [hml]; exact hi) rfl (fun ls' h' => k H locs cells slots ls' a1 a2 a3 a4 (a5.store rfl h' hs))
theorem r_astore_n (X : Cx K P own cc nL d MC MS) {k : Fin 4} {x : Nat} (hd : decode cc pc = .ok (.astore_n k, 1)) (hp : pc + 1 = pc') (hi : ((k : Nat)) < nL) (hs : vs.set ((k : Nat)) (some (.ref x)) = vs') (k : Z K P n h u w pc' vs' st) : Z K P n h u w pc vs (.ref x :: st) := by
  subst hp
  obtain ⟨p, e, R, s, m, args, below, meth, c, Q⟩ := K
  obtain ⟨hx, hb, hml, -⟩ := X
  intro H locs cells slots ls a1 a2 a3 a4 a5
  exact lv_astore_n hx hb hd rfl a5.has (by rw [hml]; exact hi) rfl (fun ls' h' => k H locs cells slots ls' a1 a2 a3 a4 (a5.store rfl h' hs))
theorem r_astore (X : Cx K P own cc nL d MC MS) {i : Nat} {x : Nat} (hd : decode cc pc = .ok (.astore i, 2)) (hp : pc + 2 = pc') (hi : (i) < nL) (hs : vs.set (i) (some (.ref x)) = vs') (k : Z K P n h u w pc' vs' st) : Z K P n h u w pc vs (.ref x :: st) := by
  subst hp
  obtain ⟨p, e, R, s, m, args, below, meth, c, Q⟩ := K
  obtain ⟨hx, hb, hml, -⟩ := X
  intro H locs cells slots ls a1 a2 a3 a4 a5
  exact lv_astore hx hb hd a5.has (by rw [hml]; exact hi) rfl (fun ls' h' => k H locs cells slots ls' a1 a2 a3 a4 (a5.store rfl h' hs))
theorem r_astore_nN (X : Cx K P own cc nL d MC MS) {k : Fin 4} (hd : decode cc pc = .ok (.astore_n k, 1)) (hp : pc + 1 = pc') (hi : ((k : Nat)) < nL) (hs : vs.set ((k : Nat)) (some (.null)) = vs') (k : Z K P n h u w pc' vs' st) : Z K P n h u w pc vs (.null :: st) := by
  subst hp
  obtain ⟨p, e, R, s, m, args, below, meth, c, Q⟩ := K
  obtain ⟨hx, hb, hml, -⟩ := X
  intro H locs cells slots ls a1 a2 a3 a4 a5
  exact lv_astore_nN hx hb hd rfl a5.has (by rw [hml]; exact hi) rfl (fun ls' h' => k H locs cells slots ls' a1 a2 a3 a4 (a5.store rfl h' hs))
theorem r_astoreN (X : Cx K P own cc nL d MC MS) {i : Nat} (hd : decode cc pc = .ok (.astore i, 2)) (hp : pc + 2 = pc') (hi : (i) < nL) (hs : vs.set (i) (some (.null)) = vs') (k : Z K P n h u w pc' vs' st) : Z K P n h u w pc vs (.null :: st) := by
  subst hp
  obtain ⟨p, e, R, s, m, args, below, meth, c, Q⟩ := K
  obtain ⟨hx, hb, hml, -⟩ := X
  intro H locs cells slots ls a1 a2 a3 a4 a5
  exact lv_astoreN hx hb hd a5.has (by rw [hml]; exact hi) rfl (fun ls' h' => k H locs cells slots ls' a1 a2 a3 a4 (a5.store rfl h' hs))
theorem r_iinc (X : Cx K P own cc nL d MC MS) {i : Nat} {z : Int} {x v : Int32} (hd : decode cc pc = .ok (.iinc i z, 3)) (hp : pc + 3 = pc') (hi : i < nL) (hv : vs[i]? = some (some (.int x))) (hx' : x + Int32.ofInt z = v) (hs : vs.set i (some (.int v)) = vs') (k : Z K P n h u w pc' vs' st) : Z K P n h u w pc vs st := by
  subst hp
  obtain ⟨p, e, R, s, m, args, below, meth, c, Q⟩ := K
  obtain ⟨hx, hb, hml, -⟩ := X
  intro H locs cells slots ls a1 a2 a3 a4 a5
  obtain ⟨j, hj⟩ := List.getElem?_of_mem (lvE_in (nL := nL) hi hv)
  exact lv_iinc hx hb hd a5.has (by rw [hml]; exact hj) hx' (by rw [hml]; exact hi) rfl (fun ls' h' => k H locs cells slots ls' a1 a2 a3 a4 (a5.store rfl h' hs))
theorem r_iincN (X : Cx K P own cc nL d MC MS) {i a : Nat} (hd : decode cc pc = .ok (.iinc i 1, 3)) (hp : pc + 3 = pc') (hi : i < nL) (hv : vs[i]? = some (some (.int (nI a)))) (hs : vs.set i (some (.int (nI (a + 1)))) = vs') (k : Z K P n h u w pc' vs' st) : Z K P n h u w pc vs st := r_iinc X hd hp hi hv (nI_1 a) hs k
theorem r_if_eq (X : Cx K P own cc nL d MC MS) {off : Int} {x : Int32} (hd : decode cc pc = .ok (.ifCond .eq off, 3)) (ht : (pc : Int) + off = (tgt : Int)) (hp : pc + 3 = pc') (kt : x = 0 → Z K P n h u w tgt vs st) (kf : ¬ x = 0 → Z K P n h u w pc' vs st) : Z K P n h u w pc vs (.int x :: st) := by
  subst hp
  exact Z.lift2 X kt kf (fun _ _ _ _ _ _ _ _ _ _ _ _ _ _ _ _ hx hb k1 k2 => lv_if_eq hx hb hd ht k1 k2)
theorem r_if_ne (X : Cx K P own cc nL d MC MS) {off : Int} {x : Int32} (hd : decode cc pc = .ok (.ifCond .ne off, 3)) (ht : (pc : Int) + off = (tgt : Int)) (hp : pc + 3 = pc') (kt : ¬ x = 0 → Z K P n h u w tgt vs st) (kf : x = 0 → Z K P n h u w pc' vs st) : Z K P n h u w pc vs (.int x :: st) := by
  subst hp
  exact Z.lift2 X kt kf (fun _ _ _ _ _ _ _ _ _ _ _ _ _ _ _ _ hx hb k1 k2 => lv_if_ne hx hb hd ht k1 k2)
theorem r_if_lt (X : Cx K P own cc nL d MC MS) {off : Int} {x : Int32} (hd : decode cc pc = .ok (.ifCond .lt off, 3)) (ht : (pc : Int) + off = (tgt : Int)) (hp : pc + 3 = pc') (kt : x < 0 → Z K P n h u w tgt vs st) (kf : ¬ x < 0 → Z K P n h u w pc' vs st) : Z K P n h u w pc vs (.int x :: st) := by
  subst hp
  exact Z.lift2 X kt kf (fun _ _ _ _ _ _ _ _ _ _ _ _ _ _ _ _ hx hb k1 k2 => lv_if_lt hx hb hd ht k1 k2)
theorem r_if_ge (X : Cx K P own cc nL d MC MS) {off : Int} {x : Int32} (hd : decode cc pc = .ok (.ifCond .ge off, 3)) (ht : (pc : Int) + off = (tgt : Int)) (hp : pc + 3 = pc') (kt : 0 ≤ x → Z K P n h u w tgt vs st) (kf : ¬ 0 ≤ x → Z K P n h u w pc' vs st) : Z K P n h u w pc vs (.int x :: st) := by
  subst hp
  exact Z.lift2 X kt kf (fun _ _ _ _ _ _ _ _ _ _ _ _ _ _ _ _ hx hb k1 k2 => lv_if_ge hx hb hd ht k1 k2)
theorem r_if_gt (X : Cx K P own cc nL d MC MS) {off : Int} {x : Int32} (hd : decode cc pc = .ok (.ifCond .gt off, 3)) (ht : (pc : Int) + off = (tgt : Int)) (hp : pc + 3 = pc') (kt : 0 < x → Z K P n h u w tgt vs st) (kf : ¬ 0 < x → Z K P n h u w pc' vs st) : Z K P n h u w pc vs (.int x :: st) := by
  subst hp
  exact Z.lift2 X kt kf (fun _ _ _ _ _ _ _ _ _ _ _ _ _ _ _ _ hx hb k1 k2 => lv_if_gt hx hb hd ht k1 k2)
theorem r_if_le (X : Cx K P own cc nL d MC MS) {off : Int} {x : Int32} (hd : decode cc pc = .ok (.ifCond .le off, 3)) (ht : (pc : Int) + off = (tgt : Int)) (hp : pc + 3 = pc') (kt : x ≤ 0 → Z K P n h u w tgt vs st) (kf : ¬ x ≤ 0 → Z K P n h u w pc' vs st) : Z K P n h u w pc vs (.int x :: st) := by
  subst hp
  exact Z.lift2 X kt kf (fun _ _ _ _ _ _ _ _ _ _ _ _ _ _ _ _ hx hb k1 k2 => lv_if_le hx hb hd ht k1 k2)
theorem r_icmp_eq (X : Cx K P own cc nL d MC MS) {off : Int} {x y : Int32} (hd : decode cc pc = .ok (.if_icmp .eq off, 3)) (ht : (pc : Int) + off = (tgt : Int)) (hp : pc + 3 = pc') (kt : x = y → Z K P n h u w tgt vs st) (kf : ¬ x = y → Z K P n h u w pc' vs st) : Z K P n h u w pc vs (.int y :: .int x :: st) := by
  subst hp
  exact Z.lift2 X kt kf (fun _ _ _ _ _ _ _ _ _ _ _ _ _ _ _ _ hx hb k1 k2 => lv_icmp_eq hx hb hd ht k1 k2)
theorem r_icmp_ne (X : Cx K P own cc nL d MC MS) {off : Int} {x y : Int32} (hd : decode cc pc = .ok (.if_icmp .ne off, 3)) (ht : (pc : Int) + off = (tgt : Int)) (hp : pc + 3 = pc') (kt : ¬ x = y → Z K P n h u w tgt vs st) (kf : x = y → Z K P n h u w pc' vs st) : Z K P n h u w pc vs (.int y :: .int x :: st) := by
  subst hp
  exact Z.lift2 X kt kf (fun _ _ _ _ _ _ _ _ _ _ _ _ _ _ _ _ hx hb k1 k2 => lv_icmp_ne hx hb hd ht k1 k2)
theorem r_icmp_lt (X : Cx K P own cc nL d MC MS) {off : Int} {x y : Int32} (hd : decode cc pc = .ok (.if_icmp .lt off, 3)) (ht : (pc : Int) + off = (tgt : Int)) (hp : pc + 3 = pc') (kt : x < y → Z K P n h u w tgt vs st) (kf : ¬ x < y → Z K P n h u w pc' vs st) : Z K P n h u w pc vs (.int y :: .int x :: st) := by
  subst hp
  exact Z.lift2 X kt kf (fun _ _ _ _ _ _ _ _ _ _ _ _ _ _ _ _ hx hb k1 k2 => lv_icmp_lt hx hb hd ht k1 k2)
theorem r_icmp_ge (X : Cx K P own cc nL d MC MS) {off : Int} {x y : Int32} (hd : decode cc pc = .ok (.if_icmp .ge off, 3)) (ht : (pc : Int) + off = (tgt : Int)) (hp : pc + 3 = pc') (kt : y ≤ x → Z K P n h u w tgt vs st) (kf : ¬ y ≤ x → Z K P n h u w pc' vs st) : Z K P n h u w pc vs (.int y :: .int x :: st) := by
  subst hp
  exact Z.lift2 X kt kf (fun _ _ _ _ _ _ _ _ _ _ _ _ _ _ _ _ hx hb k1 k2 => lv_icmp_ge hx hb hd ht k1 k2)
theorem r_icmp_gt (X : Cx K P own cc nL d MC MS) {off : Int} {x y : Int32} (hd : decode cc pc = .ok (.if_icmp .gt off, 3)) (ht : (pc : Int) + off = (tgt : Int)) (hp : pc + 3 = pc') (kt : y < x → Z K P n h u w tgt vs st) (kf : ¬ y < x → Z K P n h u w pc' vs st) : Z K P n h u w pc vs (.int y :: .int x :: st) := by
  subst hp
  exact Z.lift2 X kt kf (fun _ _ _ _ _ _ _ _ _ _ _ _ _ _ _ _ hx hb k1 k2 => lv_icmp_gt hx hb hd ht k1 k2)
theorem r_icmp_le (X : Cx K P own cc nL d MC MS) {off : Int} {x y : Int32} (hd : decode cc pc = .ok (.if_icmp .le off, 3)) (ht : (pc : Int) + off = (tgt : Int)) (hp : pc + 3 = pc') (kt : x ≤ y → Z K P n h u w tgt vs st) (kf : ¬ x ≤ y → Z K P n h u w pc' vs st) : Z K P n h u w pc vs (.int y :: .int x :: st) := by
  subst hp
  exact Z.lift2 X kt kf (fun _ _ _ _ _ _ _ _ _ _ _ _ _ _ _ _ hx hb k1 k2 => lv_icmp_le hx hb hd ht k1 k2)
theorem rN_icmp_eq (X : Cx K P own cc nL d MC MS) {off : Int} {a b : Nat} (hd : decode cc pc = .ok (.if_icmp .eq off, 3)) (ht : (pc : Int) + off = (tgt : Int)) (hp : pc + 3 = pc') (ha : a < 2 ^ 31) (hb : b < 2 ^ 31) (kt : a = b → Z K P n h u w tgt vs st) (kf : ¬ a = b → Z K P n h u w pc' vs st) : Z K P n h u w pc vs (.int (nI b) :: .int (nI a) :: st) := r_icmp_eq X hd ht hp (fun c => kt ((nI_eq ha hb).mp c)) (fun c => kf (fun q => c ((nI_eq ha hb).mpr q)))
theorem rN_icmp_ne (X : Cx K P own cc nL d MC MS) {off : Int} {a b : Nat} (hd : decode cc pc = .ok (.if_icmp .ne off, 3)) (ht : (pc : Int) + off = (tgt : Int)) (hp : pc + 3 = pc') (ha : a < 2 ^ 31) (hb : b < 2 ^ 31) (kt : ¬ a = b → Z K P n h u w tgt vs st) (kf : a = b → Z K P n h u w pc' vs st) : Z K P n h u w pc vs (.int (nI b) :: .int (nI a) :: st) := r_icmp_ne X hd ht hp (fun c => kt (fun q => c ((nI_eq ha hb).mpr q))) (fun c => kf ((nI_eq ha hb).mp c))
theorem rN_icmp_lt (X : Cx K P own cc nL d MC MS) {off : Int} {a b : Nat} (hd : decode cc pc = .ok (.if_icmp .lt off, 3)) (ht : (pc : Int) + off = (tgt : Int)) (hp : pc + 3 = pc') (ha : a < 2 ^ 31) (hb : b < 2 ^ 31) (kt : a < b → Z K P n h u w tgt vs st) (kf : b ≤ a → Z K P n h u w pc' vs st) : Z K P n h u w pc vs (.int (nI b) :: .int (nI a) :: st) := r_icmp_lt X hd ht hp (fun c => kt ((nI_ltI ha hb).mp c)) (fun c => kf (Nat.not_lt.mp (fun q => c ((nI_ltI ha hb).mpr q))))
theorem rN_icmp_ge (X : Cx K P own cc nL d MC MS) {off : Int} {a b : Nat} (hd : decode cc pc = .ok (.if_icmp .ge off, 3)) (ht : (pc : Int) + off = (tgt : Int)) (hp : pc + 3 = pc') (ha : a < 2 ^ 31) (hb : b < 2 ^ 31) (kt : b ≤ a → Z K P n h u w tgt vs st) (kf : a < b → Z K P n h u w pc' vs st) : Z K P n h u w pc vs (.int (nI b) :: .int (nI a) :: st) := r_icmp_ge X hd ht hp (fun c => kt ((nI_leI hb ha).mp c)) (fun c => kf (Nat.not_le.mp (fun q => c ((nI_leI hb ha).mpr q))))
theorem rN_icmp_gt (X : Cx K P own cc nL d MC MS) {off : Int} {a b : Nat} (hd : decode cc pc = .ok (.if_icmp .gt off, 3)) (ht : (pc : Int) + off = (tgt : Int)) (hp : pc + 3 = pc') (ha : a < 2 ^ 31) (hb : b < 2 ^ 31) (kt : b < a → Z K P n h u w tgt vs st) (kf : a ≤ b → Z K P n h u w pc' vs st) : Z K P n h u w pc vs (.int (nI b) :: .int (nI a) :: st) := r_icmp_gt X hd ht hp (fun c => kt ((nI_ltI hb ha).mp c)) (fun c => kf (Nat.not_lt.mp (fun q => c ((nI_ltI hb ha).mpr q))))
theorem rN_icmp_le (X : Cx K P own cc nL d MC MS) {off : Int} {a b : Nat} (hd : decode cc pc = .ok (.if_icmp .le off, 3)) (ht : (pc : Int) + off = (tgt : Int)) (hp : pc + 3 = pc') (ha : a < 2 ^ 31) (hb : b < 2 ^ 31) (kt : a ≤ b → Z K P n h u w tgt vs st) (kf : b < a → Z K P n h u w pc' vs st) : Z K P n h u w pc vs (.int (nI b) :: .int (nI a) :: st) := r_icmp_le X hd ht hp (fun c => kt ((nI_leI ha hb).mp c)) (fun c => kf (Nat.not_le.mp (fun q => c ((nI_leI ha hb).mpr q))))
theorem rN_if_eq (X : Cx K P own cc nL d MC MS) {off : Int} {a : Nat} (hd : decode cc pc = .ok (.ifCond .eq off, 3)) (ht : (pc : Int) + off = (tgt : Int)) (hp : pc + 3 = pc') (ha : a < 2 ^ 31) (kt : a = 0 → Z K P n h u w tgt vs st) (kf : ¬ a = 0 → Z K P n h u w pc' vs st) : Z K P n h u w pc vs (.int (nI a) :: st) := r_if_eq X hd ht hp (fun c => kt (by rw [← nI_0] at c; exact (nI_eq ha (by omega)).mp c)) (fun c => kf (fun q => c (by rw [q]; exact nI_0)))
theorem rN_if_ne (X : Cx K P own cc nL d MC MS) {off : Int} {a : Nat} (hd : decode cc pc = .ok (.ifCond .ne off, 3)) (ht : (pc : Int) + off = (tgt : Int)) (hp : pc + 3 = pc') (ha : a < 2 ^ 31) (kt : ¬ a = 0 → Z K P n h u w tgt vs st) (kf : a = 0 → Z K P n h u w pc' vs st) : Z K P n h u w pc vs (.int (nI a) :: st) := r_if_ne X hd ht hp (fun c => kt (fun q => c (by rw [q]; exact nI_0))) (fun c => kf (by rw [← nI_0] at c; exact (nI_eq ha (by omega)).mp c))
theorem rN_if_le (X : Cx K P own cc nL d MC MS) {off : Int} {a : Nat} (hd : decode cc pc = .ok (.ifCond .le off, 3)) (ht : (pc : Int) + off = (tgt : Int)) (hp : pc + 3 = pc') (ha : a < 2 ^ 31) (kt : a = 0 → Z K P n h u w tgt vs st) (kf : ¬ a = 0 → Z K P n h u w pc' vs st) : Z K P n h u w pc vs (.int (nI a) :: st) := r_if_le X hd ht hp (fun c => kt (by rw [← nI_0] at c; have := (nI_leI ha (by omega)).mp c; omega)) (fun c => kf (fun q => c (by rw [q, nI_0]; exact Int32.le_refl 0)))
theorem rN_if_lt (X : Cx K P own cc nL d MC MS) {off : Int} {a : Nat} (hd : decode cc pc = .ok (.ifCond .lt off, 3)) (ht : (pc : Int) + off = (tgt : Int)) (hp : pc + 3 = pc') (ha : a < 2 ^ 31) (kf : Z K P n h u w pc' vs st) : Z K P n h u w pc vs (.int (nI a) :: st) := r_if_lt X hd ht hp (fun c => absurd c (nI_pos ha)) (fun c => kf)
theorem rB_if_eq (X : Cx K P own cc nL d MC MS) {off : Int} {b : Bool} (hd : decode cc pc = .ok (.ifCond .eq off, 3)) (ht : (pc : Int) + off = (tgt : Int)) (hp : pc + 3 = pc') (kt : b = false → Z K P n h u w tgt vs st) (kf : b = true → Z K P n h u w pc' vs st) : Z K P n h u w pc vs (.int (bI b) :: st) := by
  cases b with
  | false => exact r_if_eq X hd ht hp (fun _ => kt rfl) (fun c => absurd rfl c)
  | true => exact r_if_eq X hd ht hp (fun c => absurd c (by decide)) (fun c => kf rfl)
theorem rB_if_ne (X : Cx K P own cc nL d MC MS) {off : Int} {b : Bool} (hd : decode cc pc = .ok (.ifCond .ne off, 3)) (ht : (pc : Int) + off = (tgt : Int)) (hp : pc + 3 = pc') (kt : b = true → Z K P n h u w tgt vs st) (kf : b = false → Z K P n h u w pc' vs st) : Z K P n h u w pc vs (.int (bI b) :: st) := by
  cases b with
  | false => exact r_if_ne X hd ht hp (fun c => absurd rfl c) (fun _ => kf rfl)
  | true => exact r_if_ne X hd ht hp (fun _ => kt rfl) (fun c => absurd c (by decide))
theorem r_ifnull (X : Cx K P own cc nL d MC MS) {off : Int} {x : Nat} (hd : decode cc pc = .ok (.ifnull off, 3)) (hp : pc + 3 = pc') (k : Z K P n h u w pc' vs st) : Z K P n h u w pc vs (.ref x :: st) := by
  subst hp
  exact Z.lift X k (fun _ _ _ _ _ _ _ _ _ _ _ _ _ _ _ _ hx hb ho hT hW => lv_ifnull hx hb hd hW)
theorem r_ifnullN (X : Cx K P own cc nL d MC MS) {off : Int} (hd : decode cc pc = .ok (.ifnull off, 3)) (ht : (pc : Int) + off = (tgt : Int)) (k : Z K P n h u w tgt vs st) : Z K P n h u w pc vs (.null :: st) := Z.lift X k (fun _ _ _ _ _ _ _ _ _ _ _ _ _ _ _ _ hx hb ho hT hW => lv_ifnullN hx hb hd ht hW)
theorem r_ifnonnull (X : Cx K P own cc nL d MC MS) {off : Int} {x : Nat} (hd : decode cc pc = .ok (.ifnonnull off, 3)) (ht : (pc : Int) + off = (tgt : Int)) (k : Z K P n h u w tgt vs st) : Z K P n h u w pc vs (.ref x :: st) := Z.lift X k (fun _ _ _ _ _ _ _ _ _ _ _ _ _ _ _ _ hx hb ho hT hW => lv_ifnonnull hx hb hd ht hW)
theorem r_ifnonnullN (X : Cx K P own cc nL d MC MS) {off : Int} (hd : decode cc pc = .ok (.ifnonnull off, 3)) (hp : pc + 3 = pc') (k : Z K P n h u w pc' vs st) : Z K P n h u w pc vs (.null :: st) := by
  subst hp
  exact Z.lift X k (fun _ _ _ _ _ _ _ _ _ _ _ _ _ _ _ _ hx hb ho hT hW => lv_ifnonnullN hx hb hd hW)
theorem r_tabOut (X : Cx K P own cc nL d MC MS) {dflt lo hi : Int} {offs : Array Int} {len : Nat} {x : Int32} (hd : decode cc pc = .ok (.tableswitch dflt lo hi offs, len)) (hh : x.toInt < lo ∨ hi < x.toInt) (ht : (pc : Int) + dflt = (tgt : Int)) (k : Z K P n h u w tgt vs st) : Z K P n h u w pc vs (.int x :: st) := Z.lift X k (fun _ _ _ _ _ _ _ _ _ _ _ _ _ _ _ _ hx hb ho hT hW => lv_tableOut hx hb hd hh ht hW)
theorem r_tabIn (X : Cx K P own cc nL d MC MS) {dflt lo hi : Int} {offs : Array Int} {len : Nat} {x : Int32} {off : Int} (hd : decode cc pc = .ok (.tableswitch dflt lo hi offs, len)) (h1 : ¬ x.toInt < lo) (h2 : ¬ hi < x.toInt) (ho' : offs[(x.toInt - lo).toNat]? = some off) (ht : (pc : Int) + off = (tgt : Int)) (k : Z K P n h u w tgt vs st) : Z K P n h u w pc vs (.int x :: st) := Z.lift X k (fun _ _ _ _ _ _ _ _ _ _ _ _ _ _ _ _ hx hb ho hT hW => lv_tableIn hx hb hd h1 h2 ho' ht hW)
theorem rN_iadd (X : Cx K P own cc nL d MC MS) {a b : Nat} (hd : decode cc pc = .ok (.iadd, 1)) (hp : pc + 1 = pc') (k : Z K P n h u w pc' vs (.int (nI (a + b)) :: st)) : Z K P n h u w pc vs (.int (nI b) :: .int (nI a) :: st) := r_iadd X hd hp (by rw [nI_add]; exact k)
theorem rN_imul (X : Cx K P own cc nL d MC MS) {a b : Nat} (hd : decode cc pc = .ok (.imul, 1)) (hp : pc + 1 = pc') (k : Z K P n h u w pc' vs (.int (nI (a * b)) :: st)) : Z K P n h u w pc vs (.int (nI b) :: .int (nI a) :: st) := r_imul X hd hp (by rw [pk_mul]; exact k)
theorem rN_isub (X : Cx K P own cc nL d MC MS) {a b : Nat} (hd : decode cc pc = .ok (.isub, 1)) (hp : pc + 1 = pc') (hab : b ≤ a) (k : Z K P n h u w pc' vs (.int (nI (a - b)) :: st)) : Z K P n h u w pc vs (.int (nI b) :: .int (nI a) :: st) := r_isub X hd hp (by rw [pk_sub hab]; exact k)
theorem nI_nz {b : Nat} (h0 : 0 < b) (hb : b < 2 ^ 31) : ¬ nI b = 0 := nI_ne0 h0 hb
theorem rN_idiv (X : Cx K P own cc nL d MC MS) {a b : Nat} (hd : decode cc pc = .ok (.idiv, 1)) (hp : pc + 1 = pc') (ha : a < 2 ^ 31) (h0 : 0 < b) (hb : b < 2 ^ 31) (k : Z K P n h u w pc' vs (.int (nI (a / b)) :: st)) : Z K P n h u w pc vs (.int (nI b) :: .int (nI a) :: st) := r_idiv X (nI_ne0 h0 hb) hd hp (by rw [pk_div ha h0 hb]; exact k)
theorem rN_irem (X : Cx K P own cc nL d MC MS) {a b : Nat} (hd : decode cc pc = .ok (.irem, 1)) (hp : pc + 1 = pc') (ha : a < 2 ^ 31) (h0 : 0 < b) (hb : b < 2 ^ 31) (k : Z K P n h u w pc' vs (.int (nI (a % b)) :: st)) : Z K P n h u w pc vs (.int (nI b) :: .int (nI a) :: st) := r_irem X (nI_ne0 h0 hb) hd hp (by rw [pk_rem ha h0 hb]; exact k)
theorem nI_and (a b : Nat) : nI a &&& nI b = nI (a &&& b) := by
  apply Int32.toBitVec_inj.mp
  show BitVec.ofNat 32 a &&& BitVec.ofNat 32 b = BitVec.ofNat 32 (a &&& b)
  exact BitVec.ofNat_and.symm
theorem nI_or (a b : Nat) : nI a ||| nI b = nI (a ||| b) := by
  apply Int32.toBitVec_inj.mp
  show BitVec.ofNat 32 a ||| BitVec.ofNat 32 b = BitVec.ofNat 32 (a ||| b)
  exact BitVec.ofNat_or.symm
theorem rN_iand (X : Cx K P own cc nL d MC MS) {a b : Nat} (hd : decode cc pc = .ok (.iand, 1)) (hp : pc + 1 = pc') (k : Z K P n h u w pc' vs (.int (nI (a &&& b)) :: st)) : Z K P n h u w pc vs (.int (nI b) :: .int (nI a) :: st) := r_iand X hd hp (by rw [nI_and]; exact k)
theorem rN_ior (X : Cx K P own cc nL d MC MS) {a b : Nat} (hd : decode cc pc = .ok (.ior, 1)) (hp : pc + 1 = pc') (k : Z K P n h u w pc' vs (.int (nI (a ||| b)) :: st)) : Z K P n h u w pc vs (.int (nI b) :: .int (nI a) :: st) := r_ior X hd hp (by rw [nI_or]; exact k)
theorem sh_cnt : ∀ k, k < 32 → ((nI k &&& 31).toBitVec.smod 32).toNat = k := by decide +kernel
theorem rN_ishr (X : Cx K P own cc nL d MC MS) {a b : Nat} (hd : decode cc pc = .ok (.ishr, 1)) (hp : pc + 1 = pc') (ha : a < 2 ^ 31) (hb : b < 32) (k : Z K P n h u w pc' vs (.int (nI (a / 2 ^ b)) :: st)) : Z K P n h u w pc vs (.int (nI b) :: .int (nI a) :: st) := r_ishr X hd hp (by rw [pk_shrN ha _ b (sh_cnt b hb)]; exact k)
theorem rN_ishl (X : Cx K P own cc nL d MC MS) {a b : Nat} (hd : decode cc pc = .ok (.ishl, 1)) (hp : pc + 1 = pc') (hb : b < 32) (ha : a * 2 ^ b < 2 ^ 32) (k : Z K P n h u w pc' vs (.int (nI (a * 2 ^ b)) :: st)) : Z K P n h u w pc vs (.int (nI b) :: .int (nI a) :: st) := r_ishl X hd hp (by rw [pk_shlN _ b (sh_cnt b hb) ha]; exact k)
end ZR
