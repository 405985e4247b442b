/-! ===== a contract of a method of the JDK's: the same, by its own name ===== -/
theorem Met.ofWF {l : Launch} {y : MethodName} {ws ws' : List Cond} {rm : Room} {Pc : Array Value → State → Prop} {Qc : Array Value → State → Outcome → State → Prop} {mc ms : Nat} {free : Addr → Prop} {cc : ByteArray} {maxL : Nat} {ret : Option FieldType}
    (hy : plainFor y = true) (hw : ws = Cond.code y cc maxL ret :: ws')
    (body : ∀ p e s m args below meth c s₁, BodyLoose p l y (headSpec ws rm) cc maxL ret e s m args below meth c s₁ → c.maxLocals = maxL → Pc args s →
      W p l e (headSpec ws rm).room s m args below meth c s.heap [] 0 0 (MQ below Qc args s mc ms free) (entryFrame m args maxL)) : Met l y ws rm Pc Qc mc ms free := by
  refine MetFree.of_bodySF (code := cc) (maxLocals := maxL) (ret := ret) hy ?_ ?_
  · intro args s m h hn
    obtain ⟨meth, c, h1, h2, h3, h4, h5, h6, -, -⟩ := Cond.code_spec hn (atoms_spec (ws := ws) h _ (by rw [hw]; exact List.mem_cons_self))
    exact ⟨meth, c, h1, h2, h3, h4, h5, h6⟩
  · intro p e s m args below meth c s₁ B hml hP _
    have hh0 : s₁.heap = s.heap := by rw [B.state]; rfl
    obtain ⟨t, a1, o, b1, b2, b3⟩ := body p e s m args below meth c s₁ B hml hP s₁ hh0 (Stand.of_body B)
    exact ⟨t, o, a1, b1, b2, ⟨b3.1, b3.2⟩⟩
theorem Ct.ofF {P : Px} {M : Mx} {d mc ms : Nat} {av : List Value} {n : Nat} {h : hw} {v : Option Value} {n' : Nat} {h' : hw} (hy : plainFor M.1 = true) (ha : av.length ≤ M.2.2.1) (hcat : av.all (fun x => x.category == 1) = true)
    (body : ∀ K : Kx, Cx K P M.1.cls M.2.1 M.2.2.1 d mc ms → Nm K M.1.name → Rt K P M.2.2.2 mc ms v n' h' → Z K P n h 0 0 0 (av.map some ++ List.replicate (M.2.2.1 - av.length) none) []) : Ct P M d mc ms av n h v n' h' := by
  have hc : ∀ x ∈ av, x.category = 1 := fun x hx => by simpa using List.all_eq_true.mp hcat x hx
  refine Met.ofWF (cc := M.2.1) (maxL := M.2.2.1) (ret := M.2.2.2) (ws' := []) hy rfl ?_
  intro p e s m args below meth c s₁ B hml hv
  obtain ⟨rfl, hO, hK, hT⟩ := hv
  have hlen := lgsl_len av hc
  have hl := lv_entry av (n := M.2.2.1) (by rw [hlen]; exact ha)
  rw [lg_entry_eq]
  generalize (lg_sl av ++ List.replicate (M.2.2.1 - (lg_sl av).length) Slot.unset).toArray = ls at hl ⊢
  refine body (p, e, rmD d mc ms, s, m, av.toArray, below, meth, c, MQ below (QcD P v n' h') av.toArray s mc ms (Ag P)) ⟨B.exec, B.bytes, hml, findClass_of_methodNamed B.named, hT, hK, by rw [hO.1]; omega, Nat.le_refl _, Nat.le_refl _, Nat.le_refl _, Nat.le_refl _⟩ (name_of_methodNamed B.named B.method).1 ⟨B.returns, B.notSynchronized, rfl⟩ s.heap [] 0 0 ls hO va_S.rf (Nat.le_refl _) (Nat.le_refl _) ?_
  refine ⟨by rw [hml]; exact hl.1, hl.2.1, fun i x hi => ?_⟩
  have hi' : av[i]? = some x := by
    by_cases hlt : i < av.length
    · rw [List.getElem?_append_left (by simpa using hlt), List.getElem?_map] at hi
      cases hav : av[i]? with
      | none => rw [hav] at hi; simp at hi
      | some z => rw [hav] at hi; simp at hi; rw [hi]
    · rw [List.getElem?_append_right (by simpa using hlt)] at hi
      have := List.mem_of_getElem? hi
      have := (List.mem_replicate.mp this).2
      cases this
  have hm := lvargs_get av 0 i x hc hi'
  rw [Nat.zero_add] at hm
  exact ⟨hl.2.2 (i, x) hm, hc x (List.mem_of_getElem? hi')⟩

