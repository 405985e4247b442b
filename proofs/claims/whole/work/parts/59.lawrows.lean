/-! THE CLAIM OUT OF ONE WALK OF THE LAW'S BODY. Your part is whole_start (and what it stands on); all else here is the same for every law, but numbers. -/
def R_law : String := "AskTrustLaw"
def lw_P (b : Addr) (xs : List Int32) (args : Array Value) (s : State) : Prop := args = #[.ref b] ∧ s.IntsAt b xs ∧ xs.length ≤ 2560 ∧ (Jvm.Cond.and given_1 narrow_1).before args s = true
def lw_Q (_ : Array Value) (s : State) (o : Outcome) (t : State) : Prop := o = .returned (some (.int 1)) ∧ Framed s o t [] 600000 7302250
def lw_Z (below : List Frame) (a : Array Value) (s : State) : State → Prop := fun t => ∃ o, t.status = .running ∧ Ended t below o ∧ lw_Q a s o t
/-- the law's own end, with 1 on the stack, nothing written that was there before, its room as the claim has it -/
theorem lw_ret {p : Program} {l : Launch} {e : Env} {s : State} {m : MethodId} {below : List Frame} {meth : Method} {c : Code} {b : Nat} (hx : p.tables.exec = Jvm.exec) (hb : c.code = code) (hr : meth.sig.returnType = ret) (hlocks : meth.locks = false) {pc : Nat} {H : Heap} {ls : Array Slot} (hdg : decode code pc = .ok (.ireturn, 1)) : W p l e room_1 s m #[Value.ref b] below meth c H [] 600000 7302250 (lw_Z below #[Value.ref b] s) (F0 m pc ls [.int 1]) := by
  intro T hT X
  obtain ⟨fs, hret, hrun, hended, hW, hframe⟩ := X.leave (v := some (.int 1)) (hlocks := hlocks) (fun h => by rw [hr] at h; cases h)
  have hmeth' : T.vm.method? m = some meth := X.method'
  refine ⟨T.setFrames fs, ?_, .returned (some (.int 1)), hrun, hended, rfl, ⟨_, rfl⟩, hW, hframe⟩
  jvm_step X.here [X.here.top, hx, hb, hdg, hmeth', hr, ret, narrow_b1]
  (try refine ⟨rfl, ?_⟩); (try refine ⟨rfl, ?_⟩)
  first | (intro acts; rw [hret _ acts rfl rfl rfl]) | rw [hret _ _ rfl rfl rfl]
  exact Steps.refl _
/-- what holds at the law's entry: the machine, the code, the tables' words (any of lw_tbl by 'hts w (by decide +kernel)'), the script of L ints xs at the cell b, what the Statement gives of the start (any of its parts by flat_of_before) -/
def lw_At (p : Program) (s : State) (m : MethodId) (meth : Method) (c : Code) (b L : Nat) (xs : Nat → Int32) : Prop :=
  p.tables.exec = Jvm.exec ∧ c.code = code ∧ meth.sig.returnType = ret ∧ c.maxLocals = 4 ∧ s.vm.findClass R_law = some m.cls ∧ (∀ w ∈ lw_tbl, w.before #[Value.ref b] s = true) ∧ va_X b L xs s s.heap ∧ b < s.heap.size ∧ meth.locks = false ∧ (Jvm.Cond.and given_1 narrow_1).before #[Value.ref b] s = true
/-! ===== rows of the law: its script, its end ===== -/
section ZL
variable {K : Kx} {P : Px} {own : String} {cc : ByteArray} {nL d MC MS n u w pc pc' : Nat} {h : hw} {vs : List (Option Value)} {st : List Value} {b L : Nat} {xs : Nat → Int32}
def Sc (K : Kx) (P : Px) (b L : Nat) (xs : Nat → Int32) : Prop := match K with
  | (p, e, R, s, m, args, below, meth, c, Q) => va_X b L xs s s.heap ∧ b < s.heap.size ∧ s.heap.size = Bs P ∧ L ≤ 2560
def Ed (K : Kx) (b : Nat) : Prop := match K with
  | (p, e, R, s, m, args, below, meth, c, Q) => R = room_1 ∧ args = #[Value.ref b] ∧ meth.sig.returnType = ret ∧ meth.locks = false ∧ Q = lw_Z below #[Value.ref b] s
theorem Sc.le (S : Sc K P b L xs) : L ≤ 2560 := by
  obtain ⟨p, e, R, s, m, args, below, meth, c, Q⟩ := K
  exact S.2.2.2
theorem r_sld (X : Cx K P own cc nL d MC MS) (S : Sc K P b L xs) {i : Nat} (hi : i < L) (hd : decode cc pc = .ok (.iaload, 1)) (hp : pc + 1 = pc') (kk : Z K P n h u w pc' vs (.int (xs i) :: st)) : Z K P n h u w pc vs (.int (nI i) :: .ref b :: st) := by
  subst hp
  obtain ⟨p, e, R, s, m, args, below, meth, c, Q⟩ := K
  obtain ⟨hx, hb, hml, hown, hT, hK, -⟩ := X
  obtain ⟨s1, s2, s3, s4⟩ := S
  intro H locs cells slots ls a1 a2 a3 a4 a5
  have hcl : (nI i).toNatClampNeg = i := nI_clamp (by omega)
  refine va_sld hx hb s1 s2 (show ¬ Bs P ≤ b by omega) a2 (nI_in hi (by omega)) hd ?_
  rw [hcl]
  exact kk H locs cells slots ls a1 a2 a3 a4 a5
theorem r_slen (X : Cx K P own cc nL d MC MS) (S : Sc K P b L xs) (hd : decode cc pc = .ok (.arraylength, 1)) (hp : pc + 1 = pc') (kk : Z K P n h u w pc' vs (.int (nI L) :: st)) : Z K P n h u w pc vs (.ref b :: st) := by
  subst hp
  obtain ⟨p, e, R, s, m, args, below, meth, c, Q⟩ := K
  obtain ⟨hx, hb, hml, hown, hT, hK, -⟩ := X
  obtain ⟨s1, s2, s3, s4⟩ := S
  intro H locs cells slots ls a1 a2 a3 a4 a5
  exact va_slen hx hb s1 s2 (show ¬ Bs P ≤ b by omega) a2 hd (kk H locs cells slots ls a1 a2 a3 a4 a5)
theorem Z.mono {u' w' : Nat} (hu : u ≤ u') (hw' : w ≤ w') (k : Z K P n h u' w' pc vs st) : Z K P n h u w pc vs st := by
  obtain ⟨p, e, R, s, m, args, below, meth, c, Q⟩ := K
  intro H locs cells slots ls a1 a2 a3 a4 a5
  exact k H locs cells slots ls a1 a2 (by omega) (by omega) a5
theorem r_lend (X : Cx K P own code nL d MC MS) (S : Sc K P b L xs) (E : Ed K b) (hd : decode code pc = .ok (.ireturn, 1)) (hu : u ≤ 600000) (hw' : w ≤ 7302250) : Z K P n h u w pc vs [.int 1] := by
  obtain ⟨p, e, R, s, m, args, below, meth, c, Q⟩ := K
  obtain ⟨hx, hb, hml, hown, hT, hK, -⟩ := X
  obtain ⟨s1, s2, s3, s4⟩ := S
  obtain ⟨rfl, rfl, hr, hlo, rfl⟩ := E
  intro H locs cells slots ls a1 a2 a3 a4 a5
  refine va_forget (fun q hq => by rw [s3]; exact a2.2.2 q hq) ?_
  refine W.widen (k := 600000) (n := 7302250) (by omega) (by omega) ?_
  exact lw_ret hx hb hr hlo hd
abbrev lvL (P : Px) (b i : Nat) : List (Option Value) := [some (.ref b), some (.ref (Bs P + 0)), some (.ref (Bs P + 37)), some (.int (nI i))]
theorem r_arg (X : Cx K P own cc 4 d MC MS) (S : Sc K P b L xs) {i k p1 p2 p3 p4 p5 : Nat} {z : Int} (d0 : decode cc pc = .ok (.aload_n 0, 1)) (e1 : pc + 1 = p1) (d1 : decode cc p1 = .ok (.iload_n 3, 1)) (e2 : p1 + 1 = p2) (d2 : decode cc p2 = .ok (.iconst z, 1)) (hz : Int32.ofInt z = nI k) (e3 : p2 + 1 = p3) (d3 : decode cc p3 = .ok (.iadd, 1)) (e4 : p3 + 1 = p4) (d4 : decode cc p4 = .ok (.iaload, 1)) (e5 : p4 + 1 = p5) (hi : i + k < L) (kk : Z K P n h u w p5 (lvL P b i) (.int (xs (i + k)) :: st)) : Z K P n h u w pc (lvL P b i) st := by
  refine r_aload_n X d0 e1 rfl ?_
  refine r_iload_n X d1 e2 rfl ?_
  refine r_iconst X hz d2 e3 ?_
  refine rN_iadd X d3 e4 ?_
  exact r_sld X S hi d4 e5 kk
theorem Iw.e0 (I : Iw P n h) : ∃ fs, h 0 = .inr (8, fs) := by
  obtain ⟨g, ι, φ, ℓ, lt, ρ, ω, I, rfl⟩ := I
  exact ⟨_, wC_e0 _ _ _ _ _ _ _ _⟩
theorem Iw.n59 (I : Iw P n h) : 59 ≤ n := by
  obtain ⟨g, ι, φ, ℓ, lt, ρ, ω, I, rfl⟩ := I
  exact I.n
end ZL

