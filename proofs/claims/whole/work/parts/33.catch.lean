section QC
/-- the search of a handler ends with h, and leaves the tables vm' -/
def qh_F (e : Env) (s : State) (f : JFrame) (a : Addr) (h : Handler) (vm' : Vm) : Prop := ∀ (Q : Handler → Pre) (E : CtlPost) (d : Bool) (acts : List Action), wp (findHandler f a) Q E e d acts s ↔ Q h d acts (s.setVm vm')
/-- one row of the table whose range holds the pc: it takes the object or not, as its class can be assigned -/
theorem qh_row {Q : Handler → Pre} {E : CtlPost} {e : Env} {d : Bool} {acts : List Action} {s : State} {f : JFrame} {a : Addr} {x : ExceptionTableEntry} {t : List ExceptionTableEntry} {k : ClassId} {ce : Cell} (hx : covers x f.pc = true) (h0 : x.catchType ≠ 0) (hl : s.vm.ClassLinks e.platform f.method.cls x.catchType k) (hce : s.heap[a]? = some ce) (hob : ∀ z, ce.vm ≠ .statics z) (h1 : ∃ z, s.vm.classes[ce.cls]? = some z) (h2 : ∃ z, s.vm.classes[k]? = some z) :
    wp (findHandler.go f a (x :: t)) Q E e d acts s ↔ if s.vm.assignable ce.cls k = true then Q (.found x.handlerPc) d acts (s.setVm (s.vm.noted f.method.cls x.catchType (.cls k))) else wp (findHandler.go f a t) Q E e d acts (s.setVm (s.vm.noted f.method.cls x.catchType (.cls k))) := by
  simp only [covers] at hx
  have hA : s.vm.Alike (s.vm.noted f.method.cls x.catchType (.cls k)) := (Vm.Alike.refl s.vm).noted _ _ _
  obtain ⟨ra, rt⟩ := (resolveClass_links e.toSetting hl).op (op := VmOp.resolveClass f.method.cls x.catchType) rfl
  obtain ⟨z1, hz1⟩ := h1
  obtain ⟨z2, hz2⟩ := h2
  obtain ⟨w1, hw1, -⟩ := hA.2.2 _ _ hz1
  obtain ⟨w2, hw2, -⟩ := hA.2.2 _ _ hz2
  cases hf : s.vm.assignable ce.cls k with
  | true =>
    have hf' : (s.vm.noted f.method.cls x.catchType (.cls k)).assignable ce.cls k = true := by rw [hA.assignable]; exact hf
    simp [findHandler.go, hx, h0, ra, rt, hce, hob, hw1, hw2, hf', VmOp.dirties, VmOp.acts]
  | false =>
    have hf' : (s.vm.noted f.method.cls x.catchType (.cls k)).assignable ce.cls k = false := by rw [hA.assignable]; exact hf
    simp [findHandler.go, hx, h0, ra, rt, hce, hob, hw1, hw2, hf', VmOp.dirties, VmOp.acts]
/-- what a row does with an object of class C, by the tables of s0 -/
def qh_R (pl : Platform) (s0 : State) (own C : ClassId) (x : ExceptionTableEntry) (b : Bool) : Prop := x.catchType ≠ 0 ∧ ∃ k, s0.vm.ClassLinks pl own x.catchType k ∧ s0.vm.assignable C k = b
theorem qh_go {e : Env} {s0 : State} {f : JFrame} {a : Addr} {ce : Cell} (hob : ∀ z, ce.vm ≠ .statics z) (hk : ∃ z, s0.vm.classes[ce.cls]? = some z) (x : ExceptionTableEntry) (suf : List ExceptionTableEntry) (hx : covers x f.pc = true) (hc : qh_R e.platform s0 f.method.cls ce.cls x true) :
    ∀ (pre : List ExceptionTableEntry) (S : State), s0.WarmedH S.vm → S.heap[a]? = some ce → (∀ z ∈ pre, covers z f.pc = false ∨ qh_R e.platform s0 f.method.cls ce.cls z false) → ∃ vm', s0.WarmedH vm' ∧ ∀ (Q : Handler → Pre) (E : CtlPost) (d : Bool) (acts : List Action), wp (findHandler.go f a (pre ++ x :: suf)) Q E e d acts S ↔ Q (.found x.handlerPc) d acts (S.setVm vm') := by
  have one : ∀ (z : ExceptionTableEntry) (b : Bool) (S : State), s0.WarmedH S.vm → S.heap[a]? = some ce → covers z f.pc = true → qh_R e.platform s0 f.method.cls ce.cls z b → ∃ vm', s0.WarmedH vm' ∧ ∀ (t : List ExceptionTableEntry) (Q : Handler → Pre) (E : CtlPost) (d : Bool) (acts : List Action), wp (findHandler.go f a (z :: t)) Q E e d acts S ↔ if b = true then Q (.found z.handlerPc) d acts (S.setVm vm') else wp (findHandler.go f a t) Q E e d acts (S.setVm vm') := by
    intro z b S hW hce hz hR
    obtain ⟨h0, k, hl, hb⟩ := hR
    obtain ⟨dk, _, _, kt, hd, _, _, _, _, hkt, _, hopen⟩ := hl.here
    obtain ⟨k1, hk1⟩ := hk
    obtain ⟨k1', hk1', -⟩ := hW.alike.2.2 _ _ hk1
    obtain ⟨kt', hkt', -⟩ := hW.alike.2.2 _ _ hkt
    refine ⟨_, hW.noted hd hopen (State.rightAt_cls hl), fun t Q E d acts => ?_⟩
    rw [qh_row hz h0 (hW.classLinks hl) hce hob ⟨_, hk1'⟩ ⟨_, hkt'⟩, hW.alike.assignable, hb]
  intro pre
  induction pre with
  | nil =>
    intro S hW hce _
    obtain ⟨vm', h1, h2⟩ := one x true S hW hce hx hc
    exact ⟨vm', h1, fun Q E d acts => by rw [List.nil_append, h2 suf Q E d acts, if_pos rfl]⟩
  | cons z zs ih =>
    intro S hW hce hp
    have hps : ∀ y ∈ zs, covers y f.pc = false ∨ qh_R e.platform s0 f.method.cls ce.cls y false := fun y hy => hp y (List.mem_cons_of_mem _ hy)
    cases hz : covers z f.pc with
    | false =>
      obtain ⟨vm', h1, h2⟩ := ih S hW hce hps
      exact ⟨vm', h1, fun Q E d acts => by rw [List.cons_append, W.findHandler_go_skip hz]; exact h2 Q E d acts⟩
    | true =>
      rcases hp z (List.mem_cons_self ..) with h | h
      · rw [h] at hz; cases hz
      · obtain ⟨vm1, h1, h2⟩ := one z false S hW hce hz h
        obtain ⟨vm', h3, h4⟩ := ih (S.setVm vm1) h1 hce hps
        exact ⟨vm', h3, fun Q E d acts => by rw [List.cons_append, h2 (zs ++ x :: suf) Q E d acts, if_neg (by decide)]; exact h4 Q E d acts⟩
theorem qh_step {e : Env} {s : State} {a : Addr} {f : JFrame} {r : List Frame} {pc : Nat} {vm' : Vm} (hf : qh_F e s f a (.found pc) vm') : (stepThrowing e s a (.java f :: r)).Is ((s.setVm vm').setFrames (.java { f with pc := pc, stack := [.ref a] } :: r)) [] := by
  simp only [stepThrowing, searchFrame, vmDo]
  generalize hr : Sem.go _ e false [] s = res
  obtain ⟨as, rfl, ha⟩ := Sem.eq_ok_of hr (a := Handler.found pc) (s' := s.setVm vm') (acts' := []) (by simp [hf _ _ _ _])
  exact ⟨rfl, ha⟩
theorem qh_to {tb : Tables} {e : Env} {s target : State} {g : JFrame} {c : Code} {below : List Frame} {a : Addr} {pc : Nat} {vm' : Vm} (h : At s g.method c below) (hf : qh_F e ((s.setTop g).pushFrame (.throwing a)) g a (.found pc) vm') (hr : Steps tb e below ((s.setVm vm').setTop { g with pc := pc, stack := [.ref a] }) target) : Steps tb e below ((s.setTop g).pushFrame (.throwing a)) target := by
  have turn : ∀ (u : State) (F G : List Frame), ((u.setFrames F).setVm vm').setFrames G = (u.setVm vm').setFrames G := fun u F G => by
    show ((u.setVm vm').setFrames F).setFrames G = _
    rw [State.setFrames_setFrames]
  obtain ⟨hgo, hw⟩ := h.throwing a
  obtain ⟨g0, hg⟩ := Option.isSome_iff_exists.mp h.top
  obtain ⟨r, hfr⟩ := State.topJava?_eq_some.mp hg
  refine Steps.head hgo hw ?_
  rw [stepThread_throwing (frames_entered h.top _), (qh_step (s := (s.setTop g).pushFrame (.throwing a)) hf).1]
  have hfr' : (s.setVm vm').frames = .java g0 :: r := hfr
  rw [State.setTop_of_frames _ hfr'] at hr
  rw [hfr, List.tail_cons, State.pushFrame, turn, State.setTop_of_frames _ hfr, turn]
  exact hr
variable {p : Program} {l : Launch} {e : Env} {R : Room} {s : State} {m : MethodId} {args : Array Value} {below : List Frame} {meth : Method} {c : Code} {H : Heap} {locs : List Loc} {cells slots : Nat} {Q : State → Prop} {pc : Nat} {ls : Array Slot} {rest : List Value}
/-- caught by the row x of this method's table; the rows ahead don't take it -/
theorem qh_catch {own name : String} {E : String} {ce : Cell} {q : Addr} (hown : s.vm.findClass own = some m.cls) (pre : List ExceptionTableEntry) (x : ExceptionTableEntry) (suf : List ExceptionTableEntry) (hsplit : c.exceptionTable.toList = pre ++ x :: suf)
    (hpass : ∀ z ∈ pre, covers z pc = false ∨ (z.catchType ≠ 0 ∧ ∃ nm : String, (Cond.classLink own z.catchType nm).before args s = true ∧ va_Nc E nm s)) (hx : covers x pc = true) (h0 : x.catchType ≠ 0)
    (hlink : (Cond.classLink own x.catchType name).before args s = true) (hcast : (Cond.castable E name).before args s = true) (hcell : H[q]? = some ce) (hv : ce.vm = .none) (hcl : s.vm.findClass E = some ce.cls)
    (kk : W p l e R s m args below meth c H locs cells slots Q (F0 m x.handlerPc ls [.ref q])) : vx_W p l e R s m args below meth c H locs cells slots Q (F0 m pc ls rest) q := by
  intro T hT X
  have hpl : e.platform.magicAccessors = ({} : Platform).magicAccessors := by rw [X.admits.platform]
  have hk : ∃ z, s.vm.classes[ce.cls]? = some z := by
    obtain ⟨k9, h9, -⟩ := Vm.findClass_spec hcl
    exact ⟨k9, h9⟩
  have hxc : qh_R e.platform s (F0 m pc ls rest).method.cls ce.cls x true := by
    obtain ⟨c1, c2, h1, h2, h3⟩ := Cond.castable_spec hcast
    cases Option.some.inj (h1.symm.trans hcl)
    obtain ⟨c5, h5, h6⟩ := Cond.classLink_spec hown hlink e.platform hpl
    cases Option.some.inj (h2.symm.trans h5)
    exact ⟨h0, c2, h6, h3⟩
  obtain ⟨vm', hW', hq⟩ := qh_go (e := e) (s0 := s) (f := F0 m pc ls rest) (a := q) (ce := ce) (fun z => by rw [hv]; exact fun h => nomatch h) hk x suf hx hxc pre ((T.setTop (F0 m pc ls rest)).pushFrame (.throwing q)) X.warmed (by rw [← hT] at hcell; exact hcell) (fun z hz => by
    rcases hpass z hz with h | ⟨hz0, nm, hl1, c1, c2, h1, h2, h3⟩
    · exact Or.inl h
    · obtain ⟨c6, hc6, hcl6⟩ := Cond.classLink_spec hown hl1 e.platform hpl
      cases Option.some.inj (h1.symm.trans hcl)
      cases Option.some.inj (h2.symm.trans hc6)
      exact Or.inr ⟨hz0, _, hcl6, h3⟩)
  obtain ⟨t, a1, b1⟩ := kk (T.setVm vm') hT (X.noted hW')
  refine ⟨t, qh_to (g := F0 m pc ls rest) (vm' := vm') (pc := x.handlerPc) X.here (fun Q E d acts => ?_) a1, b1⟩
  rw [W.findHandler_eq (s := (T.setTop (F0 m pc ls rest)).pushFrame (.throwing q)) (f := F0 m pc ls rest) X.method' X.code, hsplit]
  exact hq Q E d acts
end QC
