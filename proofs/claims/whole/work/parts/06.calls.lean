/-! ===== rows of returns and calls ===== -/
section ZC
variable {K : Kx} {P : Px} {own : String} {cc : ByteArray} {nL d MC MS n u w pc pc' : Nat} {h : hw} {vs : List (Option Value)} {st : List Value}
theorem r_iret (X : Cx K P own cc nL d MC MS) {ty : FieldType} {mc ms n' : Nat} {h' : hw} {v : Option Value} {x : Int32} (r : Rt K P (some ty) mc ms v n' h') (hd : decode cc pc = .ok (.ireturn, 1)) (hu : u ≤ mc) (hw' : w ≤ ms) (hn : narrow ty (.int x) = .int x) (hv : some (.int x) = v) (hn' : n = n') (hh : h = h') : Z K P n h u w pc vs [.int x] := by
  subst hv; subst hn'; subst hh
  obtain ⟨p, e, R, s, m, args, below, meth, c, Q⟩ := K
  obtain ⟨hx, hb, hml, hown, hT, hK, -⟩ := X
  obtain ⟨r1, r2, rfl⟩ := r
  intro H locs cells slots ls a1 a2 a3 a4 a5
  refine W.widen (k := mc) (n := ms) (by omega) (by omega) ?_
  exact W.zret hx hb r1 hn (fun t ht hW => ⟨rfl, by rw [ht]; exact a1, a2.F ht⟩) a2.2.2 hd r2
theorem r_vret (X : Cx K P own cc nL d MC MS) {mc ms n' : Nat} {h' : hw} {v : Option Value} (r : Rt K P none mc ms v n' h') (hd : decode cc pc = .ok (.return_, 1)) (hu : u ≤ mc) (hw' : w ≤ ms) (hv : none = v) (hn' : n = n') (hh : h = h') : Z K P n h u w pc vs [] := by
  subst hv; subst hn'; subst hh
  obtain ⟨p, e, R, s, m, args, below, meth, c, Q⟩ := K
  obtain ⟨hx, hb, hml, hown, hT, hK, -⟩ := X
  obtain ⟨r1, r2, rfl⟩ := r
  intro H locs cells slots ls a1 a2 a3 a4 a5
  refine W.widen (k := mc) (n := ms) (by omega) (by omega) ?_
  exact W.vret hx hb r1 (fun t ht hW => ⟨rfl, by rw [ht]; exact a1, a2.F ht⟩) a2.2.2 hd r2
theorem r_aret (X : Cx K P own cc nL d MC MS) {C : String} {mc ms n' : Nat} {h' : hw} {v : Option Value} {x : Value} (r : Rt K P (some (.object C)) mc ms v n' h') (hd : decode cc pc = .ok (.areturn, 1)) (hu : u ≤ mc) (hw' : w ≤ ms) (hx0 : x = .null ∨ ∃ a, x = .ref a) (hv : some x = v) (hn' : n = n') (hh : h = h') : Z K P n h u w pc vs [x] := by
  subst hv; subst hn'; subst hh
  obtain ⟨p, e, R, s, m, args, below, meth, c, Q⟩ := K
  obtain ⟨hx, hb, hml, hown, hT, hK, -⟩ := X
  obtain ⟨r1, r2, rfl⟩ := r
  intro H locs cells slots ls a1 a2 a3 a4 a5
  refine W.widen (k := mc) (n := ms) (by omega) (by omega) ?_
  exact W.aret hx hb r1 (Or.inl ⟨_, rfl⟩) hx0 (fun t ht hW => ⟨rfl, by rw [ht]; exact a1, a2.F ht⟩) a2.2.2 hd r2
theorem r_obj (X : Cx K P own cc nL d MC MS) {idx k : Nat} (hl : Cond.methodLink own idx objectInit ∈ lw_tbl) (hi : Cond.instanceMethod objectInit ∈ lw_tbl) (hc : Cond.code objectInit ⟨#[0xb1]⟩ 1 none ∈ lw_tbl) (hd : decode cc pc = .ok (.invokespecial idx, 3)) (hp : pc + 3 = pc') (h1 : 1 ≤ d) (hst : (st.map fun v => v.category).sum ≤ 8) (kk : Z K P n h u w pc' vs st) : Z K P n h u w pc vs (.ref k :: st) := by
  subst hp
  obtain ⟨p, e, R, s, m, args, below, meth, c, Q⟩ := K
  obtain ⟨hx, hb, hml, hown, hT, hK, -, hf, hlo, -⟩ := X
  intro H locs cells slots ls a1 a2 a3 a4 a5
  refine W.objInit hx hb hown (hT.use hl rfl args) (hT.use hi rfl args) (hT.use hc rfl args) rfl a5.1 rfl hd (by omega) ?_ (kk H locs cells slots ls a1 a2 a3 a4 a5)
  have := lv_room (m := m) (pc := pc) (ls := ls) (rest := Value.ref k :: st) hst
  omega
def vOK (M : Mx) (na : Nat) : Prop := Cond.code M.1 M.2.1 M.2.2.1 M.2.2.2 ∈ lw_tbl ∧ Cond.instanceMethod M.1 ∈ lw_tbl ∧ Cond.selects M.1.cls M.1 M.1 ∈ lw_tbl ∧ Cond.initialized M.1.cls ∈ lw_tbl ∧ (M.1.cls ≠ "java/lang/invoke/MethodHandle" ∧ M.1.cls ≠ "java/lang/invoke/VarHandle") ∧ (parseMethodDescriptor M.1.desc).map (fun d => d.parameters.length) = some na ∧ M.2.2.1 ≤ 12
def sOK (M : Mx) (na : Nat) : Prop := Cond.code M.1 M.2.1 M.2.2.1 M.2.2.2 ∈ lw_tbl ∧ Cond.static M.1 ∈ lw_tbl ∧ Cond.initialized M.1.cls ∈ lw_tbl ∧ (M.1.cls ≠ "java/lang/invoke/MethodHandle" ∧ M.1.cls ≠ "java/lang/invoke/VarHandle") ∧ (parseMethodDescriptor M.1.desc).map (fun d => d.parameters.length) = some na ∧ M.2.2.1 ≤ 12
def iOK (M : Mx) (na : Nat) : Prop := Cond.code M.1 M.2.1 M.2.2.1 M.2.2.2 ∈ lw_tbl ∧ Cond.instanceMethod M.1 ∈ lw_tbl ∧ Cond.initialized M.1.cls ∈ lw_tbl ∧ (M.1.cls ≠ "java/lang/invoke/MethodHandle" ∧ M.1.cls ≠ "java/lang/invoke/VarHandle") ∧ (parseMethodDescriptor M.1.desc).map (fun d => d.parameters.length) = some na ∧ M.2.2.1 ≤ 12 ∧ M.1.name = "<init>" ∧ M.2.2.2 = none
theorem nparm {desc : String} {n : Nat} (h2 : (parseMethodDescriptor desc).map (fun d => d.parameters.length) = some n) : ∀ sig, parseMethodDescriptor desc = some sig → n = sig.parameters.length := fun sig h => by
  rw [h] at h2
  exact (Option.some.inj h2).symm
theorem payD {s : State} {M : Mx} (hT : tbOK s) (hc : Cond.code M.1 M.2.1 M.2.2.1 M.2.2.2 ∈ lw_tbl) : ∀ w ∈ [Cond.code M.1 M.2.1 M.2.2.1 M.2.2.2], ∀ (a' : Array Value) (U : State), s.WarmedH U.vm → w.before a' U = true := fun w hw a' U hW => by
  rw [List.mem_singleton.mp hw]
  exact (hT.moved hW).use hc rfl a'
theorem Z.ofRun {M : Mx} {d' mc ms n' : Nat} {av : List Value} {v : Option Value} {h' : hw} {st0 rest : List Value} {aa : Array Value}
    (hu : True) (hr : ∀ (p : Program) (e : Env) (R : Room) (s : State) (m : MethodId) (args : Array Value) (below : List Frame) (meth : Method) (c : Code) (Q : State → Prop), K = (p, e, R, s, m, args, below, meth, c, Q) → ∀ (H : Heap) (locs : List Loc) (cells slots : Nat) (ls : Array Slot), hOK P n h H → cells ≤ u → slots ≤ w → hasL ls c.maxLocals vs → va_Run p P.1 e R s m args below meth c H locs cells slots mc ms (F0 m pc ls st0) rest (QcD P v n' h' aa) (Ag P))
    (kk : Z K P n' h' (u + mc) (w + ms) (pc + 3) vs (v.toList ++ rest)) : Z K P n h u w pc vs st0 := by
  obtain ⟨p, e, R, s, m, args, below, meth, c, Q⟩ := K
  intro H locs cells slots ls a1 a2 a3 a4 a5
  intro T hT X
  obtain ⟨v1, st₀, t, T', L, h0, X', hL, e1, e2, ⟨hv, hO, hz, hk⟩, stp⟩ := hr p e R s m args below meth c Q rfl H locs cells slots ls a1 a3 a4 a5 T hT X
  cases hv
  rw [h0] at hz hk
  obtain ⟨t2, b1, b2⟩ := kk T'.heap (locs ++ L) (cells + mc) (slots + ms) ls (by rw [e1]; exact hO) ⟨Nat.le_trans a2.1 (by rw [e1]; exact hz), fun q h1 h2 => by rw [e1, hk q (Nat.lt_of_lt_of_le h1 a2.1) h2]; exact a2.2.1 q h1 h2, fun q hq => by
      rcases List.mem_append.mp hq with h | h
      · exact a2.2.2 q h
      · exact hL q h⟩ (by omega) (by omega) a5 T' rfl X'
  exact ⟨t2, stp t2 b1, b2⟩
theorem PreD {s : State} {H : Heap} {av : List Value} (hT : tbOK s) (hK : va_K P.2.1 vwCl (tysOf P) s) (hO : hOK P n h H) : PreS s H (PcD P av n h) av := ⟨PcD_blind P av n h, fun U hU hW => ⟨rfl, by rw [hU]; exact hO, va_K.moved hW.alike hK, hT.moved hW⟩⟩
theorem hrecv {s : State} {H : Heap} {k ci : Nat} {fs : List Value} {q : vw_C} (hK : va_K P.2.1 vwCl (tysOf P) s) (hO : hOK P n h H) (hk : k < n) (he : h k = .inr (ci, fs)) (hc : vwCl[ci]? = some q) : ∃ cell : Cell, H[Bs P + k]? = some cell ∧ cell.vm.isStatics = false ∧ s.vm.findClass q.1 = some cell.cls := by
  have hq := hO.2 k hk
  rw [he] at hq
  obtain ⟨q', h1, cell, g1, g2, g3, -⟩ := hq
  exact ⟨cell, g1, by rw [g3]; rfl, by rw [g2]; exact (hK.1 ci q hc).2.1⟩
theorem r_callV (X : Cx K P own cc nL d MC MS) {M : Mx} {na d' mc ms n' k ci idx : Nat} {fs : List Value} {q : vw_C} {As rest : List Value} {v : Option Value} {h' : hw} (V : vOK M na) (hl : Cond.methodLink own idx M.1 ∈ lw_tbl) (hd : decode cc pc = .ok (.invokevirtual idx, 3)) (hp : pc + 3 = pc') (hC : Ct P M d' mc ms (.ref (Bs P + k) :: As) n h v n' h') (hk : k < n) (he : h k = .inr (ci, fs)) (hc : vwCl[ci]? = some q) (hq : q.1 = M.1.cls) (hna : As.length = na) (hst : st = As.reverse ++ .ref (Bs P + k) :: rest) (hcat : (rest.map fun v => v.category).sum ≤ 8) (hdd : d' + 1 ≤ d) (hu : u + mc ≤ MC) (hw' : w + ms ≤ MS) (kk : Z K P n' h' (u + mc) (w + ms) pc' vs (v.toList ++ rest)) : Z K P n h u w pc vs st := by
  subst hp
  subst hst
  obtain ⟨v1, v2, v3, v4, v5, v6, v7⟩ := V
  refine Z.ofRun (M := M) (d' := d') (av := .ref (Bs P + k) :: As) (aa := (Value.ref (Bs P + k) :: As).toArray) trivial ?_ kk
  intro p e R s m args below meth c Q hKe H locs cells slots ls a1 a3 a4 a5
  subst hKe
  obtain ⟨hx, hb, hml, hown, hT, hK, hBs, hf, hlo, hMC, hMS⟩ := X
  refine va_runV (As := As) (C := M.1.cls) (Ts := []) (rest := rest) (ws := [Cond.code M.1 M.2.1 M.2.2.1 M.2.2.2]) (rm := rmD d' mc ms) ⟨hx, hb, hml, hown, fun w hw => by cases hw⟩ hC ⟨⟨rfl, rfl, by show d' + 1 ≤ R.frames; omega, by show 8 + (M.2.2.1 + 11) + 31 * d' ≤ R.locals; omega, payD hT v1, List.mem_singleton.mpr rfl, hT.use v1 rfl args, hT.use v4 rfl args, v5, nparm v6, hT.use hl rfl args⟩, hT.use v2 rfl args, hT.use v3 rfl args⟩ ⟨PcD_blind _ _ _ _, by rw [← hq]; exact hrecv hK a1 hk he hc, (PreD hT hK a1).2⟩ rfl hna (by rw [← hml]; exact a5.1) rfl (lv_room hcat) hd ⟨by omega, by omega⟩
theorem r_callVN (X : Cx K P own cc nL d MC MS) {M : Mx} {host : String} {na d' mc ms n' k ci idx : Nat} {fs : List Value} {q : vw_C} {As rest : List Value} {v : Option Value} {h' : hw} (V : vOK M na) (hl : Cond.methodLinkNest own idx M.1 host ∈ lw_tbl) (hd : decode cc pc = .ok (.invokevirtual idx, 3)) (hp : pc + 3 = pc') (hC : Ct P M d' mc ms (.ref (Bs P + k) :: As) n h v n' h') (hk : k < n) (he : h k = .inr (ci, fs)) (hc : vwCl[ci]? = some q) (hq : q.1 = M.1.cls) (hna : As.length = na) (hst : st = As.reverse ++ .ref (Bs P + k) :: rest) (hcat : (rest.map fun v => v.category).sum ≤ 8) (hdd : d' + 1 ≤ d) (hu : u + mc ≤ MC) (hw' : w + ms ≤ MS) (kk : Z K P n' h' (u + mc) (w + ms) pc' vs (v.toList ++ rest)) : Z K P n h u w pc vs st := by
  subst hp
  subst hst
  obtain ⟨v1, v2, v3, v4, v5, v6, v7⟩ := V
  refine Z.ofRun (M := M) (d' := d') (av := .ref (Bs P + k) :: As) (aa := (Value.ref (Bs P + k) :: As).toArray) trivial ?_ kk
  intro p e R s m args below meth c Q hKe H locs cells slots ls a1 a3 a4 a5
  subst hKe
  obtain ⟨hx, hb, hml, hown, hT, hK, hBs, hf, hlo, hMC, hMS⟩ := X
  refine va_runVN (As := As) (C := M.1.cls) (Ts := []) (rest := rest) (host := host) (ws := [Cond.code M.1 M.2.1 M.2.2.1 M.2.2.2]) (rm := rmD d' mc ms) ⟨hx, hb, hml, hown, fun w hw => by cases hw⟩ hC ⟨⟨⟨rfl, rfl, by show d' + 1 ≤ R.frames; omega, by show 8 + (M.2.2.1 + 11) + 31 * d' ≤ R.locals; omega, payD hT v1, List.mem_singleton.mpr rfl⟩, hT.use v1 rfl args, hT.use v4 rfl args, v5, nparm v6, hT.use hl rfl args⟩, hT.use v2 rfl args, hT.use v3 rfl args⟩ ⟨PcD_blind _ _ _ _, by rw [← hq]; exact hrecv hK a1 hk he hc, (PreD hT hK a1).2⟩ rfl hna (by rw [← hml]; exact a5.1) rfl (lv_room hcat) hd ⟨by omega, by omega⟩
theorem r_callS (X : Cx K P own cc nL d MC MS) {M : Mx} {na d' mc ms n' idx : Nat} {As rest : List Value} {v : Option Value} {h' : hw} (V : sOK M na) (hl : Cond.methodLink own idx M.1 ∈ lw_tbl) (hd : decode cc pc = .ok (.invokestatic idx, 3)) (hp : pc + 3 = pc') (hC : Ct P M d' mc ms As n h v n' h') (hna : As.length = na) (hst : st = As.reverse ++ rest) (hcat : (rest.map fun v => v.category).sum ≤ 8) (hdd : d' + 1 ≤ d) (hu : u + mc ≤ MC) (hw' : w + ms ≤ MS) (kk : Z K P n' h' (u + mc) (w + ms) pc' vs (v.toList ++ rest)) : Z K P n h u w pc vs st := by
  subst hp
  subst hst
  obtain ⟨v1, v2, v4, v5, v6, v7⟩ := V
  refine Z.ofRun (M := M) (d' := d') (av := As) (aa := As.toArray) trivial ?_ kk
  intro p e R s m args below meth c Q hKe H locs cells slots ls a1 a3 a4 a5
  subst hKe
  obtain ⟨hx, hb, hml, hown, hT, hK, hBs, hf, hlo, hMC, hMS⟩ := X
  refine va_runS (As := As) (Ts := []) (rest := rest) (ws := [Cond.code M.1 M.2.1 M.2.2.1 M.2.2.2]) (rm := rmD d' mc ms) ⟨hx, hb, hml, hown, fun w hw => by cases hw⟩ hC ⟨⟨rfl, rfl, by show d' + 1 ≤ R.frames; omega, by show 8 + (M.2.2.1 + 11) + 31 * d' ≤ R.locals; omega, payD hT v1, List.mem_singleton.mpr rfl, hT.use v1 rfl args, hT.use v4 rfl args, v5, nparm v6, hT.use hl rfl args⟩, hT.use v2 rfl args⟩ (PreD hT hK a1) rfl hna (by rw [← hml]; exact a5.1) rfl (lv_room hcat) hd ⟨by omega, by omega⟩
theorem r_callSN (X : Cx K P own cc nL d MC MS) {M : Mx} {host : String} {na d' mc ms n' idx : Nat} {As rest : List Value} {v : Option Value} {h' : hw} (V : sOK M na) (hl : Cond.methodLinkNest own idx M.1 host ∈ lw_tbl) (hd : decode cc pc = .ok (.invokestatic idx, 3)) (hp : pc + 3 = pc') (hC : Ct P M d' mc ms As n h v n' h') (hna : As.length = na) (hst : st = As.reverse ++ rest) (hcat : (rest.map fun v => v.category).sum ≤ 8) (hdd : d' + 1 ≤ d) (hu : u + mc ≤ MC) (hw' : w + ms ≤ MS) (kk : Z K P n' h' (u + mc) (w + ms) pc' vs (v.toList ++ rest)) : Z K P n h u w pc vs st := by
  subst hp
  subst hst
  obtain ⟨v1, v2, v4, v5, v6, v7⟩ := V
  refine Z.ofRun (M := M) (d' := d') (av := As) (aa := As.toArray) trivial ?_ kk
  intro p e R s m args below meth c Q hKe H locs cells slots ls a1 a3 a4 a5
  subst hKe
  obtain ⟨hx, hb, hml, hown, hT, hK, hBs, hf, hlo, hMC, hMS⟩ := X
  refine va_runSN (As := As) (Ts := []) (rest := rest) (host := host) (ws := [Cond.code M.1 M.2.1 M.2.2.1 M.2.2.2]) (rm := rmD d' mc ms) ⟨hx, hb, hml, hown, fun w hw => by cases hw⟩ hC ⟨⟨⟨rfl, rfl, by show d' + 1 ≤ R.frames; omega, by show 8 + (M.2.2.1 + 11) + 31 * d' ≤ R.locals; omega, payD hT v1, List.mem_singleton.mpr rfl⟩, hT.use v1 rfl args, hT.use v4 rfl args, v5, nparm v6, hT.use hl rfl args⟩, hT.use v2 rfl args, trivial⟩ (PreD hT hK a1) rfl hna (by rw [← hml]; exact a5.1) rfl (lv_room hcat) hd ⟨by omega, by omega⟩
theorem r_callI (X : Cx K P own cc nL d MC MS) {y : MethodName} {cy : ByteArray} {ny na d' mc ms n' k idx : Nat} {As rest : List Value} {v : Option Value} {h' : hw} (V : iOK (y, cy, ny, none) na) (hl : Cond.methodLink own idx y ∈ lw_tbl) (hd : decode cc pc = .ok (.invokespecial idx, 3)) (hp : pc + 3 = pc') (hC : Ct P (y, cy, ny, none) d' mc ms (.ref (Bs P + k) :: As) n h v n' h') (hna : As.length = na) (hst : st = As.reverse ++ .ref (Bs P + k) :: rest) (hcat : (rest.map fun v => v.category).sum ≤ 8) (hdd : d' + 1 ≤ d) (hu : u + mc ≤ MC) (hw' : w + ms ≤ MS) (kk : Z K P n' h' (u + mc) (w + ms) pc' vs (v.toList ++ rest)) : Z K P n h u w pc vs st := by
  subst hp
  subst hst
  obtain ⟨v1, v2, v4, v5, v6, v7, v8, v9⟩ := V
  refine Z.ofRun (M := (y, cy, ny, none)) (d' := d') (av := .ref (Bs P + k) :: As) (aa := (Value.ref (Bs P + k) :: As).toArray) trivial ?_ kk
  intro p e R s m args below meth c Q hKe H locs cells slots ls a1 a3 a4 a5
  subst hKe
  obtain ⟨hx, hb, hml, hown, hT, hK, hBs, hf, hlo, hMC, hMS⟩ := X
  refine va_runI (As := As) (Ts := []) (rest := rest) (ws := [Cond.code y cy ny none]) (rm := rmD d' mc ms) ⟨hx, hb, hml, hown, fun w hw => by cases hw⟩ hC ⟨⟨rfl, rfl, by show d' + 1 ≤ R.frames; omega, by have : ny ≤ 12 := v7; show 8 + (ny + 11) + 31 * d' ≤ R.locals; omega, payD (M := (y, cy, ny, none)) hT v1, List.mem_singleton.mpr rfl, hT.use v1 rfl args, hT.use v4 rfl args, v5, nparm v6, hT.use hl rfl args⟩, v8, hT.use v2 rfl args⟩ (PreD hT hK a1) rfl hna (by rw [← hml]; exact a5.1) rfl (lv_room hcat) hd ⟨by omega, by omega⟩
end ZC
