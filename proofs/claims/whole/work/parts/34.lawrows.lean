/-! THE CLAIM OUT OF ONE WALK OF THE LAW'S BODY. Your part is whole_start (and what it stands on); all else here is the same for every law, but numbers. -/
def R_law : String := "PartitionWorksLaw"
def lw_P (b : Addr) (xs : List Int32) (args : Array Value) (s : State) : Prop := args = #[.ref b] ∧ s.IntsAt b xs ∧ xs.length ≤ 384 ∧ (Jvm.Cond.and given_1 narrow_1).before args s = true
def lw_Q (_ : Array Value) (s : State) (o : Outcome) (t : State) : Prop := o = .returned (some (.int 1)) ∧ Framed s o t [] 600128 7301098
def lw_Z (below : List Frame) (a : Array Value) (s : State) : State → Prop := fun t => ∃ o, t.status = .running ∧ Ended t below o ∧ lw_Q a s o t
/-- the law's own end, with 1 on the stack, nothing written that was there before, its room as the claim has it -/
theorem lw_ret {p : Program} {l : Launch} {e : Env} {s : State} {m : MethodId} {below : List Frame} {meth : Method} {c : Code} {b : Nat} (hx : p.tables.exec = Jvm.exec) (hb : c.code = code) (hr : meth.sig.returnType = ret) (hlocks : meth.locks = false) {pc : Nat} {H : Heap} {ls : Array Slot} (hdg : decode code pc = .ok (.ireturn, 1)) : W p l e room_1 s m #[Value.ref b] below meth c H [] 600128 7301098 (lw_Z below #[Value.ref b] s) (F0 m pc ls [.int 1]) := by
  intro T hT X
  obtain ⟨fs, hret, hrun, hended, hW, hframe⟩ := X.leave (v := some (.int 1)) (hlocks := hlocks) (fun h => by rw [hr] at h; cases h)
  have hmeth' : T.vm.method? m = some meth := X.method'
  refine ⟨T.setFrames fs, ?_, .returned (some (.int 1)), hrun, hended, rfl, ⟨_, rfl⟩, hW, hframe⟩
  jvm_step X.here [X.here.top, hx, hb, hdg, hmeth', hr, ret, narrow_b1]
  (try refine ⟨rfl, ?_⟩); (try refine ⟨rfl, ?_⟩)
  first | (intro acts; rw [hret _ acts rfl rfl rfl]) | rw [hret _ _ rfl rfl rfl]
  exact Steps.refl _
/-- what holds at the law's entry: the machine, the code, the tables' words (any of lw_tbl by 'hts w (by decide +kernel)'), the script of L ints xs at the cell b, what the Statement gives of the start (any of its parts by flat_of_before) -/
def lw_At (p : Program) (s : State) (m : MethodId) (meth : Method) (c : Code) (b L : Nat) (xs : Nat → Int32) : Prop :=
  p.tables.exec = Jvm.exec ∧ c.code = code ∧ meth.sig.returnType = ret ∧ c.maxLocals = 7 ∧ s.vm.findClass R_law = some m.cls ∧ (∀ w ∈ lw_tbl, w.before #[Value.ref b] s = true) ∧ va_X b L xs s s.heap ∧ b < s.heap.size ∧ meth.locks = false ∧ (Jvm.Cond.and given_1 narrow_1).before #[Value.ref b] s = true
section QL
variable {p : Program} {l : Launch} {e : Env} {R : Room} {s : State} {m : MethodId} {args : Array Value} {below : List Frame} {meth : Method} {c : Code} {H : Heap} {locs : List Loc} {cells slots : Nat} {Q : State → Prop}
variable {own : String} {cc : ByteArray} {nL pc : Nat} {ret : Option FieldType} {D : va_G} {cy : Nat → ClassId} {lo : Nat} {S : q_S} {ls : Array Slot} {rest : List Value} {a : Nat}
/-- exceptions that are not of one another's classes -/
def q_Nc (U : State) : Prop := va_Nc "java/lang/IllegalStateException" "java/lang/IndexOutOfBoundsException" U ∧ va_Nc "java/lang/IllegalArgumentException" "java/lang/IndexOutOfBoundsException" U ∧ va_Nc "java/lang/IllegalStateException" "java/lang/IllegalArgumentException" U ∧ va_Nc "java/lang/IllegalArgumentException" "java/lang/IllegalStateException" U
theorem q_Nc.moved {u U : State} (h : u.vm.Alike U.vm) (n : q_Nc u) : q_Nc U := ⟨n.1.moved h, n.2.1.moved h, n.2.2.1.moved h, n.2.2.2.moved h⟩
/-- a method of the law that catches -/
def q_MetW (l : Launch) (D : va_G) (cy : Nat → ClassId) (lo : Nat) (y : MethodName) (b : ByteArray) (n : Nat) (r : Option FieldType) (hh : List (Nat × Nat × Nat × Nat)) (fr lc mc ms : Nat) (As : List Value) (S : q_S) (Post : Option Value → q_S → Prop) : Prop :=
  Met l y (Cond.codeWith y b n r hh :: q_G) { frames := fr, cells := mc, slots := ms, locals := lc } (va_Pc As (fun U => q_U D cy lo S U ∧ q_Nc U)) (q_Q D cy lo Post) mc ms (fun q => lo ≤ q)
theorem q_bodyW {y : MethodName} {b : ByteArray} {n : Nat} {r : Option FieldType} {hh : List (Nat × Nat × Nat × Nat)} {fr lc mc ms : Nat} {As : List Value} {S : q_S} {Post : Option Value → q_S → Prop} (hy : plainName y.cls = true) (hn : (lg_sl As).length ≤ n)
    (body : ∀ (p : Program) (e : Env) (s : State) (m : MethodId) (below : List Frame) (meth : Method) (c : Code) (ls : Array Slot), q_X p s m As.toArray meth c y.cls b n r D cy lo → q_Nc s → c.exceptionTable.toList = tableOf hh → q_Y D cy lo s S s.heap [] → lv_has ls n (lv_args 0 As) →
      W p l e { frames := fr, cells := mc, slots := ms, locals := lc } s m As.toArray below meth c s.heap [] 0 0 (MQ below (q_Q D cy lo Post) As.toArray s mc ms (fun q => lo ≤ q)) (F0 m 0 ls [])) : q_MetW l D cy lo y b n r hh fr lc mc ms As S Post := by
  unfold q_MetW Met
  refine MetFree.of_bodyS (code := b) (maxLocals := n) (ret := r) hy ?_ ?_
  · intro args s m h hn
    obtain ⟨m9, meth, c, hn9, h1, h2, h3, h4, -, h5, h6, -⟩ := Cond.codeWith_spec (atoms_spec (ws := Cond.codeWith y b n r hh :: q_G) h _ List.mem_cons_self)
    cases hn.symm.trans hn9
    exact ⟨meth, c, h1, h2, h3, h4, h5, h6⟩
  · intro p e s m args below meth c s₁ B hml hP _
    have hh0 : s₁.heap = s.heap := by rw [B.state]; rfl
    obtain ⟨rfl, ⟨hK, hN, hW, hlo⟩, hNc⟩ := hP
    have hts := atoms_spec (ws := Cond.codeWith y b n r hh :: q_G) B.pre
    have hl := lv_entry As (n := n) hn
    have K := body p e s m below meth c _ ⟨B.exec, B.bytes, hml, findClass_of_methodNamed B.named, fun w hw => hts w (List.mem_cons_of_mem _ hw), hK, hN, hlo, B.returns, B.notSynchronized⟩ hNc (vx_table (x := y) B (hts _ List.mem_cons_self)) ⟨hW, va_S.rf⟩ hl
    rw [← lg_entry_eq] at K
    obtain ⟨t, a1, o, b1, b2, b3⟩ := K s₁ hh0 (Stand.of_body B)
    exact ⟨t, o, a1, b1, b2, ⟨b3.1, b3.2⟩⟩
/-- a call whose throws are caught here -/
theorem q_callVC {As st0 : List Value} {b : Nat} {lv : List (Nat × Value)} {idx np ci N : Nat} {T : u_T} {y : MethodName} {by0 : ByteArray} {n : Nat} {r : Option FieldType} {fr lc mc ms : Nat} {Post : Option Value → q_S → Prop} {E : String → q_S → Prop} (X : q_X p s m args meth c own cc nL ret D cy lo) (Y : q_Y D cy lo s S H locs) (hl : lv_has ls nL lv)
    (hM : q_MetX l D cy lo y by0 n r fr lc mc ms (.ref b :: As) S Post E) (hy : q_Mt y by0 n r np) (hi : Cond.instanceMethod y ∈ q_G ∧ Cond.selects y.cls y y ∈ q_G) (hk : Cond.methodLink own idx y ∈ q_G) (hC : vwCl[ci]? = some (y.cls, T, N)) (hK : q_K S b = ci + 1) (hci : ci < 19) (hst : st0 = As.reverse ++ .ref b :: rest) (hn : As.length = np) (hw : (rest.map fun v => v.category).sum ≤ 8) (hR : fr + 1 ≤ R.frames ∧ 8 + (n + 11) + lc ≤ R.locals) (hf : cells + mc ≤ R.cells ∧ slots + ms ≤ R.slots) (hd : decode cc pc = .ok (.invokevirtual idx, 3))
    (kk : ∀ (r : Option Value) (S' : q_S) (H1 : Heap) (locs1 : List Loc), Post r S' → q_Y D cy lo s S' H1 locs1 → W p l e R s m args below meth c H1 locs1 (cells + mc) (slots + ms) Q (F0 m (pc + 3) ls (r.toList ++ rest)))
    (kx : ∀ (C : String) (ce : Cell) (q9 : Addr) (S' : q_S) (H1 : Heap) (locs1 : List Loc), E C S' → q_Y D cy lo s S' H1 locs1 → H1[q9]? = some ce → ce.vm = .none → s.vm.findClass C = some ce.cls → vx_W p l e R s m args below meth c H1 locs1 (cells + mc) (slots + ms) Q (F0 m pc ls rest) q9) : W p l e R s m args below meth c H locs cells slots Q (F0 m pc ls st0) :=
  q_goonX (vx_runV (q_fix X) hM ⟨q_cb X hy hk hR, X.2.2.2.2.1 _ hi.1, X.2.2.2.2.1 _ hi.2⟩ ⟨q_blind, va_recv X.2.2.2.2.2.1 (q_one Y (q_E_ob hK hci)) hC (q0 := 0) rfl, q_pre X Y⟩ rfl hn hl.1 hst (lv_room hw) hd hf) Y kx kk
/-- the law calls one of its methods that catch -/
def q_MtW (y : MethodName) (b : ByteArray) (n : Nat) (r : Option FieldType) (hh : List (Nat × Nat × Nat × Nat)) (np : Nat) : Prop := Cond.codeWith y b n r hh ∈ q_G ∧ Cond.initialized y.cls ∈ q_G ∧ y.cls ≠ "java/lang/invoke/MethodHandle" ∧ y.cls ≠ "java/lang/invoke/VarHandle" ∧ (parseMethodDescriptor y.desc).map (fun d => d.parameters.length) = some np
theorem q_callW {As st0 : List Value} {lv : List (Nat × Value)} {idx np : Nat} {y : MethodName} {by0 : ByteArray} {n : Nat} {r : Option FieldType} {hh : List (Nat × Nat × Nat × Nat)} {fr lc mc ms : Nat} {Post : Option Value → q_S → Prop} (X : q_X p s m args meth c own cc nL ret D cy lo) (hNc : q_Nc s) (Y : q_Y D cy lo s S H locs) (hl : lv_has ls nL lv)
    (hM : q_MetW l D cy lo y by0 n r hh fr lc mc ms As S Post) (hy : q_MtW y by0 n r hh np) (hi : Cond.static y ∈ q_G) (hk : Cond.methodLink own idx y ∈ q_G) (hst : st0 = As.reverse ++ rest) (hn : As.length = np) (hw : (rest.map fun v => v.category).sum ≤ 8) (hR : fr + 1 ≤ R.frames ∧ 8 + (n + 11) + lc ≤ R.locals) (hf : cells + mc ≤ R.cells ∧ slots + ms ≤ R.slots) (hd : decode cc pc = .ok (.invokestatic idx, 3))
    (kk : ∀ (r : Option Value) (S' : q_S) (H1 : Heap) (locs1 : List Loc), Post r S' → q_Y D cy lo s S' H1 locs1 → W p l e R s m args below meth c H1 locs1 (cells + mc) (slots + ms) Q (F0 m (pc + 3) ls (r.toList ++ rest))) : W p l e R s m args below meth c H locs cells slots Q (F0 m pc ls st0) := by
  have hts := X.2.2.2.2.1
  have hG : GoodIn q_G (Cond.codeWith y by0 n r hh :: q_G) := by
    intro w hw
    rcases List.mem_cons.mp hw with rfl | hw
    · exact ⟨hy.1, good_of_word (q_Gg _ hy.1)⟩
    · exact ⟨hw, good_of_word (q_Gg _ hw)⟩
  have cw : vx_CSW R s args own idx y by0 n r hh (Cond.codeWith y by0 n r hh :: q_G) { frames := fr, cells := mc, slots := ms, locals := lc } mc ms np := by
    refine ⟨⟨rfl, rfl, hR.1, hR.2, pay_in hts hG, List.mem_cons_self⟩, hts _ hy.1, hts _ hy.2.1, ⟨hy.2.2.1, hy.2.2.2.1⟩, fun sig h => ?_, hts _ hk, hts _ hi⟩
    have h2 := hy.2.2.2.2
    rw [h] at h2
    exact (Option.some.inj h2).symm
  exact q_goon (vx_runSW (q_fix X) hM cw ⟨fun a U g mk q => ⟨q.1, (q_blind a U g mk ⟨q.1, q.2.1⟩).2, q_Nc.moved (u := U) (U := U.calling g mk a) (Vm.Alike.refl U.vm) q.2.2⟩, fun U hU hW => ⟨rfl, (q_pre (As := As) X Y U hU hW).2, hNc.moved hW.alike⟩⟩ rfl hn hl.1 hst (lv_room hw) hd hf) Y kk
end QL
/-- the law's end -/
theorem q_lawret {p : Program} {l : Launch} {e : Env} {s : State} {m : MethodId} {below : List Frame} {meth : Method} {c : Code} {b : Nat} {H : Heap} {locs : List Loc} {u v pc : Nat} {ls : Array Slot} {D : va_G} {cy : Nat → ClassId} {S : q_S} {x : Int32} (X : q_X p s m #[Value.ref b] meth c RL cL_law 7 (some .boolean) D cy s.heap.size) (Y : q_Y D cy s.heap.size s S H locs) (hu : u ≤ 600128 ∧ v ≤ 7301098) (h : x = 1) (hd : decode cL_law pc = .ok (.ireturn, 1)) : W p l e room_1 s m #[Value.ref b] below meth c H locs u v (lw_Z below #[Value.ref b] s) (F0 m pc ls [.int x]) := by
  subst h
  exact va_forget (fun q hq => Y.2.2.2 q hq) (W.widen hu.1 hu.2 (lw_ret X.1 X.2.1 X.2.2.2.2.2.2.2.2.1 X.2.2.2.2.2.2.2.2.2 hd))
