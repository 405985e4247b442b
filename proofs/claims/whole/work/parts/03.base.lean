/-! ===== the world layer: every cell from a base on is known, by its distance from the base ===== -/
def okW (w : Cond) : Bool := goodWord w || (match w with | .fieldLinkNest .. => true | .methodLinkNest .. => true | .arrayOver .. => true | _ => false)
def tbOK (U : State) : Prop := ∀ w ∈ lw_tbl, okW w = true → w.before #[] U = true
theorem ao_vm {ty : FieldType} {A A' : Array Value} {s U : State} (hv : s.vm = U.vm) (h : (Cond.arrayOver ty).before A s = true) : (Cond.arrayOver ty).before A' U = true := by
  have e : (Cond.arrayOver ty).before A' U = (Cond.arrayOver ty).before A s := by
    cases ty <;> simp only [Cond.before, Cond.holds, Cond.value, hv]
  rw [e]; exact h
theorem ao_any {ty : FieldType} {A A' : Array Value} {U : State} (h : (Cond.arrayOver ty).before A U = true) : (Cond.arrayOver ty).before A' U = true := ao_vm rfl h
theorem okW_any {w : Cond} (ho : okW w = true) {A A' : Array Value} {U : State} (h : w.before A U = true) : w.before A' U = true := by
  by_cases hg : goodWord w = true
  · rcases good_of_word hg with hg | ⟨ty, rfl⟩
    · simp only [Bool.and_eq_true] at hg
      exact va_any hg.1 h
    · exact h
  · cases w <;> first | exact va_any rfl h | exact ao_any h | (simp [okW, hg] at ho; done)
theorem tbOK.use {U : State} (h : tbOK U) {w : Cond} (hw : w ∈ lw_tbl) (ho : okW w = true) (A : Array Value) : w.before A U = true := okW_any ho (h w hw ho)
theorem tbOK.moved {s U : State} (hW : s.WarmedH U.vm) (h : tbOK s) : tbOK U := by
  intro w hw ho
  have hb := h w hw ho
  by_cases hg : goodWord w = true
  · exact word_at hW (good_of_word hg) hb
  · cases w <;> first | exact va_Nw.warmF hW hb | exact va_Nw.warmM hW hb | exact ao_vm (rfl : (s.setVm U.vm).vm = U.vm) (by rw [Cond.arrayOver_setVmC hW.alike]; exact hb) | (simp [okW, hg] at ho; done)
theorem tbOK.same {s U : State} (hv : s.vm = U.vm) (h : tbOK s) : tbOK U := by
  intro w hw ho
  have hb := h w hw ho
  by_cases hg : goodWord w = true
  · rcases good_of_word hg with hg | ⟨ty, rfl⟩
    · simp only [Bool.and_eq_true] at hg
      exact va_tabs hg.1 hv hb
    · have e : (Cond.arrayClass ty).before #[] U = (Cond.arrayClass ty).before #[] s := by simp only [Cond.before, Cond.holds, Cond.value, hv]
      rw [e]; exact hb
  · cases w <;> first | exact va_tabs rfl hv hb | exact ao_vm hv hb | (simp [okW, hg] at ho; done)
abbrev Px : Type := Launch × va_G × (Nat → ClassId) × Nat
abbrev Kx : Type := Program × Env × Room × State × MethodId × Array Value × List Frame × Method × Code × (State → Prop)
abbrev hw : Type := Nat → va_E
abbrev Mx : Type := MethodName × ByteArray × Nat × Option FieldType
def Bs (P : Px) : Nat := P.2.2.2
def tysOf (P : Px) : List (ClassId × FieldType) := [(P.2.2.1 0, .int), (P.2.2.1 1, .boolean), (P.2.2.1 2, .array .int), (P.2.2.1 3, .object "AskTrust$Heap"), (P.2.2.1 4, .object "AskTrust$Judge"), (P.2.2.1 5, .object "AskTrust$Rule")]
def Ag (P : Px) : Nat → Prop := fun q => Bs P ≤ q
def hOK (P : Px) (n : Nat) (h : hw) (H : Heap) : Prop := H.size = Bs P + n ∧ ∀ k, k < n → va_at P.2.1 vwCl (Bs P + k, h k) H
def hset (h : hw) (k : Nat) (e : va_E) : hw := fun j => if j = k then e else h j
theorem hset_s (h : hw) (k : Nat) (e : va_E) : hset h k e k = e := if_pos rfl
theorem hset_n (h : hw) {k j : Nat} (e : va_E) (hj : j ≠ k) : hset h k e j = h j := if_neg hj
theorem hset_ss (h : hw) (k : Nat) (e e' : va_E) : hset (hset h k e) k e' = hset h k e' := by
  funext j
  unfold hset
  by_cases hj : j = k <;> simp [hj]
theorem hset_id {h : hw} {k : Nat} {e : va_E} (he : h k = e) : hset h k e = h := by
  funext j
  unfold hset
  by_cases hj : j = k
  · rw [if_pos hj, hj, he]
  · rw [if_neg hj]
theorem hset_comm (h : hw) {k j : Nat} (e e' : va_E) (hj : k ≠ j) : hset (hset h k e) j e' = hset (hset h j e') k e := by
  funext i
  unfold hset
  by_cases h1 : i = k <;> by_cases h2 : i = j <;> simp [h1, h2]
  · exact absurd (h1.symm.trans h2) hj
  · intro h3; exact absurd h3 hj
  · intro h3; exact absurd h3.symm hj
def hasL (ls : Array Slot) (nL : Nat) (vs : List (Option Value)) : Prop := ls.size = nL ∧ lv_wf ls ∧ ∀ (i : Nat) (v : Value), vs[i]? = some (some v) → ls[i]? = some (.val v) ∧ v.category = 1
def Z (K : Kx) (P : Px) (n : Nat) (h : hw) (u w pc : Nat) (vs : List (Option Value)) (st : List Value) : Prop := match K with
  | (p, e, R, s, m, args, below, meth, c, Q) => ∀ (H : Heap) (locs : List Loc) (cells slots : Nat) (ls : Array Slot), hOK P n h H → va_S (Ag P) s.heap H locs → cells ≤ u → slots ≤ w → hasL ls c.maxLocals vs → W p P.1 e R s m args below meth c H locs cells slots Q (F0 m pc ls st)
def Cx (K : Kx) (P : Px) (own : String) (cc : ByteArray) (nL d MC MS : Nat) : Prop := match K with
  | (p, e, R, s, m, args, below, meth, c, Q) => p.tables.exec = Jvm.exec ∧ c.code = cc ∧ c.maxLocals = nL ∧ s.vm.findClass own = some m.cls ∧ tbOK s ∧ va_K P.2.1 vwCl (tysOf P) s ∧ Bs P ≤ s.heap.size ∧ d ≤ R.frames ∧ 31 * d ≤ R.locals ∧ MC ≤ R.cells ∧ MS ≤ R.slots
def Nm (K : Kx) (x : String) : Prop := match K with
  | (p, e, R, s, m, args, below, meth, c, Q) => meth.name = x
def PcD (P : Px) (av : List Value) (n : Nat) (h : hw) : Array Value → State → Prop := va_Pc av (fun U => hOK P n h U.heap ∧ va_K P.2.1 vwCl (tysOf P) U ∧ tbOK U)
def QcD (P : Px) (v : Option Value) (n : Nat) (h : hw) : Array Value → State → Outcome → State → Prop := fun _ st oc t => oc = .returned v ∧ hOK P n h t.heap ∧ va_F (Ag P) st t
def rmD (d mc ms : Nat) : Room := { frames := d, cells := mc, slots := ms, locals := 31 * d }
def Ct (P : Px) (M : Mx) (d mc ms : Nat) (av : List Value) (n : Nat) (h : hw) (v : Option Value) (n' : Nat) (h' : hw) : Prop :=
  Met P.1 M.1 [Cond.code M.1 M.2.1 M.2.2.1 M.2.2.2] (rmD d mc ms) (PcD P av n h) (QcD P v n' h') mc ms (Ag P)
def Rt (K : Kx) (P : Px) (ret : Option FieldType) (mc ms : Nat) (v : Option Value) (n : Nat) (h : hw) : Prop := match K with
  | (p, e, R, s, m, args, below, meth, c, Q) => meth.sig.returnType = ret ∧ meth.locks = false ∧ Q = MQ below (QcD P v n h) args s mc ms (Ag P)
theorem PcD_blind (P : Px) (av : List Value) (n : Nat) (h : hw) : FrameBlind (PcD P av n h) := by
  intro a U g mk q
  obtain ⟨q0, q1, q2, q3⟩ := q
  exact ⟨q0, q1, va_K.moved (u := U) (U := U.calling g mk a) (Vm.Alike.refl U.vm) q2, tbOK.same (s := U) (U := U.calling g mk a) rfl q3⟩
theorem lvargs_get : ∀ (vs : List Value) (k i : Nat) (v : Value), (∀ x ∈ vs, x.category = 1) → vs[i]? = some v → (k + i, v) ∈ lv_args k vs := by
  intro vs
  induction vs with
  | nil => intro k i v _ h; simp at h
  | cons a t ih =>
    intro k i v hc h
    have ha := hc a List.mem_cons_self
    cases i with
    | zero =>
      simp at h
      subst h
      simp [lv_args]
    | succ i =>
      have h' : t[i]? = some v := by simpa using h
      have := ih (k + 1) i v (fun x hx => hc x (List.mem_cons_of_mem _ hx)) h'
      simp only [lv_args, ha]
      rw [show k + (i + 1) = k + 1 + i by omega]
      exact List.mem_cons_of_mem _ this
theorem lgsl_len : ∀ (vs : List Value), (∀ x ∈ vs, x.category = 1) → (lg_sl vs).length = vs.length := by
  intro vs
  induction vs with
  | nil => intro _; rfl
  | cons a t ih =>
    intro hc
    have ha := hc a List.mem_cons_self
    have := ih (fun x hx => hc x (List.mem_cons_of_mem _ hx))
    simp only [lg_sl, List.flatMap_cons, ha] at *
    simp [this]
theorem Ct.of {P : Px} {M : Mx} {d mc ms : Nat} {av : List Value} {n : Nat} {h : hw} {v : Option Value} {n' : Nat} {h' : hw} (hy : plainName M.1.cls = true) (ha : av.length ≤ M.2.2.1) (hcat : av.all (fun x => x.category == 1) = true)
    (body : ∀ K : Kx, Cx K P M.1.cls M.2.1 M.2.2.1 d mc ms → Nm K M.1.name → Rt K P M.2.2.2 mc ms v n' h' → Z K P n h 0 0 0 (av.map some ++ List.replicate (M.2.2.1 - av.length) none) []) : Ct P M d mc ms av n h v n' h' := by
  have hc : ∀ x ∈ av, x.category = 1 := fun x hx => by simpa using List.all_eq_true.mp hcat x hx
  refine Met.ofW (cc := M.2.1) (maxL := M.2.2.1) (ret := M.2.2.2) (ws' := []) hy rfl ?_
  intro p e s m args below meth c s₁ B hml hv
  obtain ⟨rfl, hO, hK, hT⟩ := hv
  have hlen := lgsl_len av hc
  have hl := lv_entry av (n := M.2.2.1) (by rw [hlen]; exact ha)
  rw [lg_entry_eq]
  generalize (lg_sl av ++ List.replicate (M.2.2.1 - (lg_sl av).length) Slot.unset).toArray = ls at hl ⊢
  refine body (p, e, rmD d mc ms, s, m, av.toArray, below, meth, c, MQ below (QcD P v n' h') av.toArray s mc ms (Ag P)) ⟨B.exec, B.bytes, hml, findClass_of_methodNamed B.named, hT, hK, by rw [hO.1]; omega, Nat.le_refl _, Nat.le_refl _, Nat.le_refl _, Nat.le_refl _⟩ (name_of_methodNamed B.named B.method).1 ⟨B.returns, B.notSynchronized, rfl⟩ s.heap [] 0 0 ls hO va_S.rf (Nat.le_refl _) (Nat.le_refl _) ?_
  refine ⟨by rw [hml]; exact hl.1, hl.2.1, fun i x hi => ?_⟩
  have hi' : av[i]? = some x := by
    by_cases hlt : i < av.length
    · rw [List.getElem?_append_left (by simpa using hlt), List.getElem?_map] at hi
      cases hav : av[i]? with
      | none => rw [hav] at hi; simp at hi
      | some z => rw [hav] at hi; simp at hi; rw [hi]
    · rw [List.getElem?_append_right (by simpa using hlt)] at hi
      have := List.mem_of_getElem? hi
      have := (List.mem_replicate.mp this).2
      cases this
  have hm := lvargs_get av 0 i x hc hi'
  rw [Nat.zero_add] at hm
  exact ⟨hl.2.2 (i, x) hm, hc x (List.mem_of_getElem? hi')⟩
