section QX
variable {p : Program} {l : Launch} {e : Env} {R : Room} {s : State} {m : MethodId} {args : Array Value} {below : List Frame} {meth : Method} {c : Code} {H : Heap} {locs : List Loc} {cells slots : Nat} {Q : State → Prop}
variable {own : String} {cc : ByteArray} {nL pc : Nat} {ret : Option FieldType} {D : va_G} {cy : Nat → ClassId} {lo : Nat} {S : q_S} {ls : Array Slot} {rest : List Value} {a : Nat}
/-- a method that may throw: what holds behind a throw of class C -/
def q_XE (D : va_G) (cy : Nat → ClassId) (lo : Nat) (E : String → q_S → Prop) : String → State → State → Prop := fun C st t => ∃ S' : q_S, E C S' ∧ q_W D cy lo S' t.heap ∧ va_F (fun q => lo ≤ q) st t
def q_MetX (l : Launch) (D : va_G) (cy : Nat → ClassId) (lo : Nat) (y : MethodName) (b : ByteArray) (n : Nat) (r : Option FieldType) (fr lc mc ms : Nat) (As : List Value) (S : q_S) (Post : Option Value → q_S → Prop) (E : String → q_S → Prop) : Prop :=
  vx_Met l y (Cond.code y b n r :: q_G) { frames := fr, cells := mc, slots := ms, locals := lc } (va_Pc As (q_U D cy lo S)) (q_Q D cy lo Post) (q_XE D cy lo E) mc ms (fun q => lo ≤ q)
theorem q_bodyX {y : MethodName} {b : ByteArray} {n : Nat} {r : Option FieldType} {fr lc mc ms : Nat} {As : List Value} {S : q_S} {Post : Option Value → q_S → Prop} {E : String → q_S → Prop} (hy : plainName y.cls = true) (hn : (lg_sl As).length ≤ n)
    (body : ∀ (p : Program) (e : Env) (s : State) (m : MethodId) (below : List Frame) (meth : Method) (c : Code) (ls : Array Slot), q_X p s m As.toArray meth c y.cls b n r D cy lo → (∀ x ∈ c.exceptionTable.toList, False) → q_Y D cy lo s S s.heap [] → lv_has ls n (lv_args 0 As) →
      W p l e { frames := fr, cells := mc, slots := ms, locals := lc } s m As.toArray below meth c s.heap [] 0 0 (vx_MQ below (q_Q D cy lo Post) (q_XE D cy lo E) As.toArray s mc ms (fun q => lo ≤ q)) (F0 m 0 ls [])) : q_MetX l D cy lo y b n r fr lc mc ms As S Post E := by
  refine vx_ofW (cc := b) (maxL := n) (ret := r) hy rfl ?_
  intro p e s m args below meth c s₁ B hml hex hv
  obtain ⟨rfl, hK, hN, hW, hlo⟩ := hv
  have hts := atoms_spec (ws := Cond.code y b n r :: q_G) B.pre
  have hl := lv_entry As (n := n) hn
  rw [lg_entry_eq]
  exact body p e s m below meth c _ ⟨B.exec, B.bytes, hml, findClass_of_methodNamed B.named, fun w hw => hts w (List.mem_cons_of_mem _ hw), hK, hN, hlo, B.returns, B.notSynchronized⟩ hex ⟨hW, va_S.rf⟩ hl
theorem q_goonX {st0 : List Value} {mc ms : Nat} {av : Array Value} {Post : Option Value → q_S → Prop} {E : String → q_S → Prop} (hr : vx_Run p l e R s m args below meth c H locs cells slots mc ms (F0 m pc ls st0) rest (q_Q D cy lo Post av) (q_XE D cy lo E) (fun q => lo ≤ q)) (Y : q_Y D cy lo s S H locs)
    (kx : ∀ (C : String) (ce : Cell) (q9 : Addr) (S' : q_S) (H1 : Heap) (locs1 : List Loc), E C S' → q_Y D cy lo s S' H1 locs1 → H1[q9]? = some ce → ce.vm = .none → s.vm.findClass C = some ce.cls → vx_W p l e R s m args below meth c H1 locs1 (cells + mc) (slots + ms) Q (F0 m pc ls rest) q9)
    (kk : ∀ (r : Option Value) (S' : q_S) (H1 : Heap) (locs1 : List Loc), Post r S' → q_Y D cy lo s S' H1 locs1 → W p l e R s m args below meth c H1 locs1 (cells + mc) (slots + ms) Q (F0 m (pc + 3) ls (r.toList ++ rest))) : W p l e R s m args below meth c H locs cells slots Q (F0 m pc ls st0) := by
  intro T hT X
  have hS := Y.2
  rcases hr T hT X with ⟨v, st₀, t, T', L, h0, X', hL, e1, e2, ⟨⟨r, S', hv, hp, hK, hN, hWt, hlo⟩, hz, hk⟩, st⟩ | ⟨q, st₀, t, T', L, C, ce, h0, X', hL, e1, e2, ⟨S', hp, hWt, hz, hk⟩, hce, hcv, hcl, st⟩
  · cases hv
    rw [h0] at hz hk
    obtain ⟨t2, a1, b1⟩ := kk v S' T'.heap (locs ++ L) hp ⟨by rw [e1]; exact hWt, Nat.le_trans hS.1 (by rw [e1]; exact hz), fun q h1 h2 => by rw [e1, hk q (Nat.lt_of_lt_of_le h1 hS.1) h2]; exact hS.2.1 q h1 h2, fun q hq => by
        rcases List.mem_append.mp hq with h | h
        · exact hS.2.2 q h
        · exact hL q h⟩ T' rfl X'
    exact ⟨t2, st t2 a1, b1⟩
  · rw [h0] at hz hk
    obtain ⟨t2, a1, b1⟩ := kx C ce q S' T'.heap (locs ++ L) hp ⟨by rw [e1]; exact hWt, Nat.le_trans hS.1 (by rw [e1]; exact hz), fun q h1 h2 => by rw [e1, hk q (Nat.lt_of_lt_of_le h1 hS.1) h2]; exact hS.2.1 q h1 h2, fun q hq => by
        rcases List.mem_append.mp hq with h | h
        · exact hS.2.2 q h
        · exact hL q h⟩ (by rw [e1]; exact hce) hcv hcl T' rfl X'
    exact ⟨t2, st.trans a1, b1⟩
/-- a throw of a callee goes on to the caller -/
theorem q_on {mc ms : Nat} {Post : Option Value → q_S → Prop} {E : String → q_S → Prop} {C : String} {ce : Cell} {q9 : Addr} (X : q_X p s m args meth c own cc nL ret D cy lo) (hex : ∀ x ∈ c.exceptionTable.toList, False) (Y : q_Y D cy lo s S H locs) (hE : E C S) (h1 : H[q9]? = some ce) (h2 : ce.vm = .none) (h3 : s.vm.findClass C = some ce.cls) (hc : cells ≤ mc ∧ slots ≤ ms) : vx_W p l e R s m args below meth c H locs cells slots (vx_MQ below (q_Q D cy lo Post) (q_XE D cy lo E) args s mc ms (fun q => lo ≤ q)) (F0 m pc ls rest) q9 :=
  vx_out (fun x hx => (hex x hx).elim) X.2.2.2.2.2.2.2.2.2 h1 h2 h3 (fun t ht _ => ⟨S, hE, by rw [ht]; exact Y.1, Y.2.F ht⟩) Y.2.2.2 hc.1 hc.2
theorem q_callVX {As st0 : List Value} {b : Nat} {lv : List (Nat × Value)} {idx np ci N : Nat} {T : u_T} {y : MethodName} {by0 : ByteArray} {n : Nat} {r : Option FieldType} {fr lc mc ms bc bs : Nat} {Post : Option Value → q_S → Prop} {Pm : Option Value → q_S → Prop} {E : String → q_S → Prop} (X : q_X p s m args meth c own cc nL ret D cy lo) (hex : ∀ x ∈ c.exceptionTable.toList, False) (Y : q_Y D cy lo s S H locs) (hl : lv_has ls nL lv)
    (hM : q_MetX l D cy lo y by0 n r fr lc mc ms (.ref b :: As) S Post E) (hy : q_Mt y by0 n r np) (hi : Cond.instanceMethod y ∈ q_G ∧ Cond.selects y.cls y y ∈ q_G) (hk : Cond.methodLink own idx y ∈ q_G) (hC : vwCl[ci]? = some (y.cls, T, N)) (hK : q_K S b = ci + 1) (hci : ci < 19) (hst : st0 = As.reverse ++ .ref b :: rest) (hn : As.length = np) (hw : (rest.map fun v => v.category).sum ≤ 8) (hR : fr + 1 ≤ R.frames ∧ 8 + (n + 11) + lc ≤ R.locals) (hf : cells + mc ≤ R.cells ∧ slots + ms ≤ R.slots) (hb : cells + mc ≤ bc ∧ slots + ms ≤ bs) (hd : decode cc pc = .ok (.invokevirtual idx, 3))
    (kk : ∀ (r : Option Value) (S' : q_S) (H1 : Heap) (locs1 : List Loc), Post r S' → q_Y D cy lo s S' H1 locs1 → W p l e R s m args below meth c H1 locs1 (cells + mc) (slots + ms) (vx_MQ below (q_Q D cy lo Pm) (q_XE D cy lo E) args s bc bs (fun q => lo ≤ q)) (F0 m (pc + 3) ls (r.toList ++ rest))) : W p l e R s m args below meth c H locs cells slots (vx_MQ below (q_Q D cy lo Pm) (q_XE D cy lo E) args s bc bs (fun q => lo ≤ q)) (F0 m pc ls st0) :=
  q_goonX (vx_runV (q_fix X) hM ⟨q_cb X hy hk hR, X.2.2.2.2.1 _ hi.1, X.2.2.2.2.1 _ hi.2⟩ ⟨q_blind, va_recv X.2.2.2.2.2.1 (q_one Y (q_E_ob hK hci)) hC (q0 := 0) rfl, q_pre X Y⟩ rfl hn hl.1 hst (lv_room hw) hd hf) Y (fun C ce q9 S' H1 locs1 hE hY h1 h2 h3 => q_on X hex hY hE h1 h2 h3 hb) kk
/-- a method that is there, with its code: what 'declares' asks -/
def q_dc (w : Cond) : Bool := match w with
  | .declares y => decide (Cond.instanceMethod y ∈ lw_tbl) && lw_tbl.any (fun v => match v with
    | .code z _ _ _ => decide (z = y)
    | _ => false)
  | _ => false
theorem q_dcl {w : Cond} {args : Array Value} {s : State} (h : q_dc w = true) (hts : ∀ w ∈ q_G, w.before args s = true) : w.before args s = true ∧ w.onTables = true := by
  cases w with
  | declares y =>
    simp only [q_dc, Bool.and_eq_true, decide_eq_true_eq, List.any_eq_true] at h
    obtain ⟨h1, v, hv, h2⟩ := h
    have hi := hts (.instanceMethod y) (List.mem_filter.mpr ⟨h1, rfl⟩)
    cases v with
    | code z b n r =>
      have h3 : z = y := by simpa using h2
      subst h3
      have hc := hts _ (List.mem_filter.mpr ⟨hv, rfl⟩)
      obtain ⟨m, meth, hn, hm, hst, -⟩ := Cond.instanceMethod_spec hi
      obtain ⟨meth', c, hm', -, -, -, -, -, -, hsig⟩ := Cond.code_spec hn hc
      cases hm.symm.trans hm'
      exact ⟨by simp [Cond.before, Cond.holds, Cond.value, hn, hm, hst, hsig], rfl⟩
    | _ => simp at h2
  | _ => simp [q_dc] at h
/-- 'throw new C("text")' -/
theorem q_throw {mc ms i ik is ic : Nat} {cls tx : String} {names : List String} {Post : Option Value → q_S → Prop} {E : String → q_S → Prop} (X : q_X p s m args meth c own cc nL ret D cy lo) (hex : ∀ x ∈ c.exceptionTable.toList, False) (Y : q_Y D cy lo s S H locs) (hst : l.stackTraces = false) {lv : List (Nat × Value)} (hl : lv_has ls nL lv)
    (hcls : Bundle.fit cls = true) (hnames : ∀ n ∈ names, Bundle.fit n = true) (hk : Cond.classLink own ik cls ∈ q_G) (hini : Cond.initialized cls ∈ q_G) (hr : q_sr[i]? = some (own, is, tx))
    (hg : ∀ w ∈ (vx_atS own ic cls names).filter goodWord, w ∈ q_G) (hng : ∀ w ∈ (vx_atS own ic cls names).filter (fun w => !goodWord w), w ∈ q_Nw ∨ q_dc w = true) (hot : ∀ w ∈ q_Nw, w.onTables = true)
    (hR : names.length + 3 < R.frames ∧ (rest.map fun v => v.category).sum + (13 * (names.length + 1) + 43) ≤ R.locals ∧ cells + 1 ≤ R.cells ∧ slots + 6 ≤ R.slots) (hb : cells + 1 ≤ mc ∧ slots + 6 ≤ ms)
    (d0 : decode cc pc = .ok (.new ik, 3)) (d3 : decode cc (pc + 3) = .ok (.dup, 1)) (d4 : decode cc (pc + 4) = .ok (.ldc is, 2)) (d6 : decode cc (pc + 6) = .ok (.invokespecial ic, 3)) (d9 : decode cc (pc + 9) = .ok (.athrow, 1)) (hE : E cls S) :
    W p l e R s m args below meth c H locs cells slots (vx_MQ below (q_Q D cy lo Post) (q_XE D cy lo E) args s mc ms (fun q => lo ≤ q)) (F0 m pc ls rest) := by
  obtain ⟨hx, hbb, hml, ho, hts, hK, hN, hlo, hrr, hlk⟩ := id X
  have hat : ∀ w ∈ vx_atS own ic cls names, w.before args s = true := vx_hat (B := (vx_atS own ic cls names).filter (fun w => !goodWord w)) (fun w hw => hts w (hg w hw)) (fun w hw => hw) (fun w hw => by
    rcases hng w hw with h | h
    · exact va_Nw.use (hot w h) (hN.1 w h)
    · exact (q_dcl h hts).1)
  have hot2 : ∀ w ∈ Cond.classLink own ik cls :: Cond.initialized cls :: vx_atS own ic cls names, vx_ot w = true := by
    intro w hw
    unfold vx_ot
    rcases List.mem_cons.mp hw with rfl | hw
    · rw [q_Gg _ hk, Bool.or_true]
    · rcases List.mem_cons.mp hw with rfl | hw
      · rw [q_Gg _ hini, Bool.or_true]
      · by_cases g : goodWord w = true
        · rw [g, Bool.or_true]
        · rcases hng w (List.mem_filter.mpr ⟨hw, by rw [Bool.not_eq_true] at g; rw [g]; rfl⟩) with h | h
          · rw [hot w h, Bool.true_or]
          · rw [(q_dcl h hts).2, Bool.true_or]
  refine vx_throwS hx hbb hst ho hcls hnames (hts _ hk) (hts _ hini) (hN.2.2.2.1 i _ hr) hat hot2 hN.2.2.2.2.1 hN.2.2.2.2.2.1 Y.2 (by rw [hml]; exact hl.1) d0 d3 d4 d6 d9 (fun x hx => (hex x hx).elim) hR.1 hR.2.1 hR.2.2.1 hR.2.2.2 hlk (fun t hA hz hk => ?_) Y.2.2.2 hb.1 hb.2
  refine ⟨S, hE, ⟨fun a x ha => (Y.1.1 a x ha).kept (hk a (Y.1.1 a x ha).lt), Y.1.2⟩, Nat.le_trans Y.2.1 hz, fun q h1 h2 => (hk q (Nat.lt_of_lt_of_le h1 Y.2.1)).trans (Y.2.2.1 q h1 h2)⟩
end QX
