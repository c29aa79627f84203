section QR3
variable {p : Program} {l : Launch} {e : Env} {R : Room} {s : State} {m : MethodId} {args : Array Value} {below : List Frame} {meth : Method} {c : Code} {H : Heap} {locs : List Loc} {cells slots : Nat} {Q : State → Prop}
variable {own : String} {cc : ByteArray} {nL pc : Nat} {ret : Option FieldType} {D : va_G} {cy : Nat → ClassId} {lo : Nat} {S : q_S} {ls : Array Slot} {rest : List Value} {a : Nat}
theorem q_cst (X : q_X p s m args meth c own cc nL ret D cy lo) (Y : q_Y D cy lo s S H locs) {i : Int32} {k t v ci : Nat} {r : vw_C} (hK : q_K S a = k) (hk : 24 ≤ k ∧ k < 30) (ht : (q_T cy)[t]? = some (cy k, .object r.1)) (hin : vp_in i (q_N S a)) (hv : q_K S v = ci + 1) (hci : ci < 19) (hc : vwCl[ci]? = some r) (hd : decode cc pc = .ok (.aastore, 1))
    (kk : ∀ (H1 : Heap) (locs1 : List Loc), q_Y D cy lo s (qs_C S a i.toNatClampNeg (some v)) H1 locs1 → W p l e R s m args below meth c H1 locs1 cells slots Q (F0 m (pc + 1) ls rest)) : W p l e R s m args below meth c H locs cells slots Q (F0 m pc ls (.ref v :: .int i :: .ref a :: rest)) := by
  have hlt : i.toNatClampNeg < q_N S a := Nat.not_le.mp fun q => hin (Or.inr q)
  have h0 : ¬ i < 0 := fun q => hin (Or.inl q)
  have hKs := X.2.2.2.2.2.1
  obtain ⟨r', hr', cellV, g1, g2, g3, -⟩ := Y.1.1 v _ (q_E_ob hv hci)
  have hcls := (hKs.1 ci r hc).2
  obtain ⟨kA, comp, k1, k2, k3, -⟩ := (hKs.2 t _ ht).2
  have hcomp : comp = D.1 ci := Option.some.inj (k3.symm.trans hcls.1)
  subst hcomp
  obtain ⟨kC, hkC, -⟩ := id hcls.2
  refine W.aast X.1 X.2.1 (Y.1.1 a _ (q_E_cr hK hk.1 hk.2)) (fun q h => by cases h) (fun h => by cases h) k1 k2 rfl hkC ⟨h0, by show _ < (arrV _ _ _).slots.size; rw [arrV_size]; exact hlt⟩ g1 (fun q h => by rw [g3] at h; cases h) (by rw [g2]; exact hkC) (by rw [g2]; exact va_assign hcls) rfl rfl hd fun H1 e z oq => ?_
  refine kk H1 _ (q_wr Y (q_lo Y ⟨by rw [hK]; omega, by rw [hK]; omega⟩) z oq (fun b hb => q_E_V rfl rfl rfl rfl rfl (q_C_ne hb)) (fun _ => rfl) (fun _ => rfl) fun y hy => ?_)
  rw [q_E_cr (S := qs_C S a i.toNatClampNeg (some v)) (k := k) hK hk.1 hk.2] at hy
  cases hy
  show H1[a]? = some (vp_cell _ _)
  rw [e, vp_cell_q, vp_cell_q, arrV_store, q_C_self]
  congr 2
  funext q
  by_cases hq : q = i.toNatClampNeg
  · subst hq; simp [updV, va_up, va_rf]
  · simp [updV, va_up, hq]
def q_dv (t : Nat) : Value := match t with
  | 0 => .int 0
  | 1 => .long 0
  | _ => .null
theorem qs_O_K {ci b : Nat} (h : b ≠ a) : q_K (qs_O S ci a) b = q_K S b := by
  show qs_1 S.1 a (ci + 1) b = _
  unfold qs_1
  rw [if_neg h]; rfl
theorem qs_O_Ks {ci : Nat} : q_K (qs_O S ci a) a = ci + 1 := by
  show qs_1 S.1 a (ci + 1) a = _
  unfold qs_1
  rw [if_pos rfl]
theorem qs_O_keep {ci b k : Nat} (h0 : q_K S b = 0) (h : q_K S a = k) (hk : k ≠ 0) : q_K (qs_O S ci b) a = k := by
  rw [qs_O_K (fun z => by rw [z] at h; omega)]; exact h
theorem qs_O_V {ci b : Nat} (h : b ≠ a) : q_V (qs_O S ci a) b = q_V S b := by
  funext q
  unfold q_V
  split
  · show Value.int (if b = a then 0 else q_I S q.2 b) = _
    rw [if_neg h]
  · show Value.long (if b = a then 0 else q_J S q.2 b) = _
    rw [if_neg h]
  · show va_rf (if b = a then none else q_P S q.2 b) = _
    rw [if_neg h]
theorem qs_O_Vs {ci : Nat} (q : Nat × Nat) : q_V (qs_O S ci a) a q = q_dv q.1 := by
  obtain ⟨t, f⟩ := q
  match t with
  | 0 =>
    show Value.int (if a = a then 0 else q_I S f a) = _
    rw [if_pos rfl]; rfl
  | 1 =>
    show Value.long (if a = a then 0 else q_J S f a) = _
    rw [if_pos rfl]; rfl
  | _ + 2 =>
    show va_rf (if a = a then none else q_P S f a) = _
    rw [if_pos rfl]; rfl
theorem q_new (X : q_X p s m args meth c own cc nL ret D cy lo) (Y : q_Y D cy lo s S H locs) {C : String} {T : u_T} {N ci idx : Nat} (hC : q_Cl ci C T N) (ty0 : Nat → FieldType) (hty : ∀ k, k < N → parseFieldDescriptor (T k).2.2.1 = some (ty0 k)) (hdv : ∀ k, k < N → defaultValue (ty0 k) = vp_V ((q_F ci).map (fun q => q_dv q.1)) k) (hl : Cond.classLink own idx C ∈ q_G) (hi : Cond.instantiable C N ∈ q_G) (hn : Cond.initialized C ∈ q_G) (hR : cells + 1 ≤ R.cells ∧ slots + N ≤ R.slots) (hd : decode cc pc = .ok (.new idx, 3))
    (kk : ∀ (b : Nat) (H1 : Heap), q_K S b = 0 → H1.size = b + 1 → q_Y D cy lo s (qs_O S ci b) H1 locs → W p l e R s m args below meth c H1 locs (cells + 1) (slots + N) Q (F0 m (pc + 3) ls (.ref b :: rest))) : W p l e R s m args below meth c H locs cells slots Q (F0 m pc ls rest) := by
  obtain ⟨hx, hb, hml, ho, hts, hk, hN, hlo, hr, hlk⟩ := id X
  have hKn := hk.1 ci _ hC.1
  refine W.newcK hx hb ho (hts _ hl) (hts _ hi) (hts _ hn) rfl hd hR.1 hR.2 hKn.2.1 rfl fun H1 kC hkC e1 z1 o1 => ?_
  refine kk H.size H1 (q_fresh (Nat.le_trans X.2.2.2.2.2.2.2.1 Y.2.1) Y) z1 (q_nw X Y z1 o1 (fun b hb => q_E_V (qs_O_K hb) (qs_O_V hb) rfl rfl rfl rfl) (fun b hb => qs_O_K hb) (fun _ _ => rfl) (by rw [qs_O_Ks]; have := hC.2.2.1; omega) fun x hx => ?_)
  rw [q_E_ob (S := qs_O S ci H.size) (ci := ci) qs_O_Ks hC.2.2.1] at hx
  cases hx
  refine ⟨_, hC.1, (u_born ty0 hts hC.2.1 hKn hkC e1 hty).to fun j hj => ?_⟩
  rw [hdv j hj]
  show vp_V _ j = vp_V _ j
  congr 1
  exact List.map_congr_left fun q _ => (qs_O_Vs q).symm
theorem qs_R_K {k n b : Nat} (h : b ≠ a) : q_K (qs_R S k n a) b = q_K S b := by
  show qs_1 S.1 a k b = _
  unfold qs_1
  rw [if_neg h]; rfl
theorem qs_R_keep {j n b k : Nat} (h0 : q_K S b = 0) (h : q_K S a = k) (hk : k ≠ 0) : q_K (qs_R S j n b) a = k := by
  rw [qs_R_K (fun z => by rw [z] at h; omega)]; exact h
theorem qs_R_Ks {k n : Nat} : q_K (qs_R S k n a) a = k := by
  show qs_1 S.1 a k a = _
  unfold qs_1
  rw [if_pos rfl]
theorem qs_R_N {k n b : Nat} (h : b ≠ a) : q_N (qs_R S k n a) b = q_N S b := by
  show qs_1 _ a n b = _
  unfold qs_1
  rw [if_neg h]; rfl
theorem qs_R_Ns {k n : Nat} : q_N (qs_R S k n a) a = n := by
  show qs_1 _ a n a = _
  unfold qs_1
  rw [if_pos rfl]
theorem qs_R_A {k n b : Nat} (h : b ≠ a) : q_A (qs_R S k n a) b = q_A S b := by
  funext i
  show (if b = a then 0 else q_A S b i) = _
  rw [if_neg h]
theorem qs_R_As {k n : Nat} : q_A (qs_R S k n a) a = fun _ => 0 := by
  funext i
  show (if a = a then 0 else q_A S a i) = _
  rw [if_pos rfl]
theorem qs_R_B {k n b : Nat} (h : b ≠ a) : q_B (qs_R S k n a) b = q_B S b := by
  funext i
  show (if b = a then 0 else q_B S b i) = _
  rw [if_neg h]
theorem qs_R_Bs {k n : Nat} : q_B (qs_R S k n a) a = fun _ => 0 := by
  funext i
  show (if a = a then 0 else q_B S a i) = _
  rw [if_pos rfl]
theorem qs_R_C {k n b : Nat} (h : b ≠ a) : q_C (qs_R S k n a) b = q_C S b := by
  funext i
  show (if b = a then none else q_C S b i) = _
  rw [if_neg h]
theorem qs_R_Cs {k n : Nat} : q_C (qs_R S k n a) a = fun _ => none := by
  funext i
  show (if a = a then none else q_C S a i) = _
  rw [if_pos rfl]
theorem qs_R_E {k n b : Nat} (h : b ≠ a) : q_E cy (qs_R S k n a) b = q_E cy S b := q_E_V (qs_R_K h) rfl (qs_R_N h) (qs_R_A h) (qs_R_B h) (qs_R_C h)
/-- a new row of numbers; its kind and type fit the tables of types -/
theorem q_newa (X : q_X p s m args meth c own cc nL ret D cy lo) (Y : q_Y D cy lo s S H locs) {at0 : ArrayType} {k t n : Nat} {i : Int32} {ty : FieldType} (hty : newarray.typeOf at0 = ty) (h20 : 20 ≤ k ∧ k < 24) (ht : (q_T cy)[t]? = some (cy k, ty)) (hra : ∀ (U : State) (cA : ClassId), va_RA U cA ty = (U.vm.findClass ("[" ++ ty.toString) = some cA)) (hdv : if k = 23 then defaultValue ty = .long 0 else defaultValue ty = .int 0) (harr : Cond.arrayClass ty ∈ q_G) (hi : i = nI n) (hn : n < 1000000) (hby : n * componentBytes ty ≤ 536870912) (hR : cells + 1 ≤ R.cells ∧ slots + n ≤ R.slots) (hd : decode cc pc = .ok (.newarray at0, 2))
    (kk : ∀ (b : Nat) (H1 : Heap), q_K S b = 0 → H1.size = b + 1 → q_Y D cy lo s (qs_R S k n b) H1 locs → W p l e R s m args below meth c H1 locs (cells + 1) (slots + n) Q (F0 m (pc + 2) ls (.ref b :: rest))) : W p l e R s m args below meth c H locs cells slots Q (F0 m pc ls (.int i :: rest)) := by
  subst hty
  subst hi
  obtain ⟨hx, hb, hml, ho, hts, hk, hN, hlo, hr, hlk⟩ := id X
  refine va_newaK hx hb (hts _ harr) rfl hd rfl (nI_pos (by omega)) (nI_clamp (by omega)) hby hR.1 hR.2 rfl fun H1 cA e1 z1 o1 hAr hNm => ?_
  have hcA : cA = cy k := by
    have h1 := (hk.2 t _ ht).2
    rw [hra] at h1
    exact Option.some.inj (hNm.symm.trans h1)
  subst hcA
  refine kk H.size H1 (q_fresh (Nat.le_trans X.2.2.2.2.2.2.2.1 Y.2.1) Y) z1 (q_nw X Y z1 o1 (fun b hb => qs_R_E hb) (fun b hb => qs_R_K hb) (fun b hb => qs_R_N hb) (by rw [qs_R_Ks]; omega) fun x hx => ?_)
  by_cases h : k = 23
  · subst h
    rw [q_E_jr (S := qs_R S 23 n H.size) qs_R_Ks] at hx
    cases hx
    show H1[H.size]? = some (vp_cell _ _)
    rw [e1, qs_R_Ns, qs_R_Bs, vp_cell_l]
    rw [if_pos rfl] at hdv
    rw [hdv]
  · rw [q_E_ir (S := qs_R S k n H.size) (k := k) qs_R_Ks h20.1 (by omega)] at hx
    cases hx
    show H1[H.size]? = some (vp_cell _ _)
    rw [e1, qs_R_Ns, qs_R_As, vp_cell_i]
    rw [if_neg h] at hdv
    rw [hdv]
theorem q_newq (X : q_X p s m args meth c own cc nL ret D cy lo) (Y : q_Y D cy lo s S H locs) {C : String} {k t n idx : Nat} {i : Int32} (h24 : 24 ≤ k ∧ k < 30) (ht : (q_T cy)[t]? = some (cy k, .object C)) (hl : Cond.classLink own idx C ∈ q_G) (hov : va_AO C s) (hi : i = nI n) (hn : n < 1000000) (hR : cells + 1 ≤ R.cells ∧ slots + n ≤ R.slots) (hd : decode cc pc = .ok (.anewarray idx, 3))
    (kk : ∀ (b : Nat) (H1 : Heap), q_K S b = 0 → H1.size = b + 1 → q_Y D cy lo s (qs_R S k n b) H1 locs → W p l e R s m args below meth c H1 locs (cells + 1) (slots + n) Q (F0 m (pc + 3) ls (.ref b :: rest))) : W p l e R s m args below meth c H locs cells slots Q (F0 m pc ls (.int i :: rest)) := by
  subst hi
  obtain ⟨hx, hb, hml, ho, hts, hk, hN, hlo, hr, hlk⟩ := id X
  have hcl : (nI n).toNatClampNeg = n := nI_clamp (by omega)
  refine W.anew hx hb ho (hts _ hl) (va_AO.use hov) rfl hd rfl (nI_pos (by omega)) (by rw [hcl]; omega) hR.1 (by rw [hcl]; exact hR.2) fun cA kA comp f1 f2 f3 f4 => ?_
  rw [hcl]
  have hcA : cA = cy k := by
    obtain ⟨kB, compB, g1, g2, g3, g4⟩ := (hk.2 t _ ht).2
    exact Option.some.inj (f1.symm.trans g4)
  subst hcA
  generalize hH1 : H.push ({ cls := cy k, slots := Array.replicate n .null, vm := .none } : Cell) = H1
  have z1 : H1.size = H.size + 1 := by rw [← hH1, Array.size_push]
  have e1 : H1[H.size]? = some (arrV (cy k) n (fun _ => .null)) := by rw [← hH1, Array.getElem?_push_size, ← arrV_new]
  have o1 : ∀ q : Nat, q < H.size → H1[q]? = H[q]? := fun q hq => by rw [← hH1, Array.getElem?_push, if_neg (Nat.ne_of_lt hq)]
  refine kk H.size H1 (q_fresh (Nat.le_trans X.2.2.2.2.2.2.2.1 Y.2.1) Y) z1 (q_nw X Y z1 o1 (fun b hb => qs_R_E hb) (fun b hb => qs_R_K hb) (fun b hb => qs_R_N hb) (by rw [qs_R_Ks]; omega) fun x hx => ?_)
  rw [q_E_cr (S := qs_R S k n H.size) (k := k) qs_R_Ks h24.1 h24.2] at hx
  cases hx
  show H1[H.size]? = some (vp_cell _ _)
  rw [e1, qs_R_Ns, qs_R_Cs, vp_cell_q]
  rfl
/-- ends -/
theorem q_post {Post : Option Value → q_S → Prop} {r : Option Value} (X : q_X p s m args meth c own cc nL ret D cy lo) (Y : q_Y D cy lo s S H locs) (h : Post r S) : ∀ t : State, t.heap = H → s.WarmedH t.vm → q_Q D cy lo Post args s (.returned r) t := fun t ht hW =>
  ⟨⟨r, S, rfl, h, va_K.moved hW.alike X.2.2.2.2.2.1, by rw [ht]; exact q_NW.warm hW Y.2 X.2.2.2.2.2.2.1, by rw [ht]; exact Y.1, by rw [ht]; exact Nat.le_trans X.2.2.2.2.2.2.2.1 Y.2.1⟩, Y.2.F ht⟩
theorem q_iret {Post : Option Value → q_S → Prop} {v : Int32} {mc ms : Nat} {ty : FieldType} (X : q_X p s m args meth c own cc nL (some ty) D cy lo) (Y : q_Y D cy lo s S H locs) (hn : narrow ty (.int v) = .int v) (h1 : cells ≤ mc) (h2 : slots ≤ ms) (h : Post (some (.int v)) S) (hd : decode cc pc = .ok (.ireturn, 1)) : W p l e R s m args below meth c H locs cells slots (MQ below (q_Q D cy lo Post) args s mc ms (fun q => lo ≤ q)) (F0 m pc ls [.int v]) :=
  W.widen h1 h2 (W.zret X.1 X.2.1 X.2.2.2.2.2.2.2.2.1 hn (q_post X Y h) Y.2.2.2 hd X.2.2.2.2.2.2.2.2.2)
theorem q_lret {Post : Option Value → q_S → Prop} {v : Int64} {mc ms : Nat} (X : q_X p s m args meth c own cc nL (some .long) D cy lo) (Y : q_Y D cy lo s S H locs) (h1 : cells ≤ mc) (h2 : slots ≤ ms) (h : Post (some (.long v)) S) (hd : decode cc pc = .ok (.lreturn, 1)) : W p l e R s m args below meth c H locs cells slots (MQ below (q_Q D cy lo Post) args s mc ms (fun q => lo ≤ q)) (F0 m pc ls [.long v]) :=
  W.widen h1 h2 (W.lret X.1 X.2.1 X.2.2.2.2.2.2.2.2.1 (q_post X Y h) Y.2.2.2 hd X.2.2.2.2.2.2.2.2.2)
theorem q_vret {Post : Option Value → q_S → Prop} {mc ms : Nat} (X : q_X p s m args meth c own cc nL none D cy lo) (Y : q_Y D cy lo s S H locs) (h1 : cells ≤ mc) (h2 : slots ≤ ms) (h : Post none S) (hd : decode cc pc = .ok (.return_, 1)) : W p l e R s m args below meth c H locs cells slots (MQ below (q_Q D cy lo Post) args s mc ms (fun q => lo ≤ q)) (F0 m pc ls []) :=
  W.widen h1 h2 (W.vret X.1 X.2.1 X.2.2.2.2.2.2.2.2.1 (q_post X Y h) Y.2.2.2 hd X.2.2.2.2.2.2.2.2.2)
theorem q_aret {Post : Option Value → q_S → Prop} {v : Value} {mc ms : Nat} {rt : FieldType} (X : q_X p s m args meth c own cc nL (some rt) D cy lo) (Y : q_Y D cy lo s S H locs) (hrt : (∃ n, rt = .object n) ∨ ∃ t, rt = .array t) (hv : v = .null ∨ ∃ a, v = .ref a) (h1 : cells ≤ mc) (h2 : slots ≤ ms) (h : Post (some v) S) (hd : decode cc pc = .ok (.areturn, 1)) : W p l e R s m args below meth c H locs cells slots (MQ below (q_Q D cy lo Post) args s mc ms (fun q => lo ≤ q)) (F0 m pc ls [v]) :=
  W.widen h1 h2 (W.aret X.1 X.2.1 X.2.2.2.2.2.2.2.2.1 hrt hv (q_post X Y h) Y.2.2.2 hd X.2.2.2.2.2.2.2.2.2)
/-- calls -/
def q_Mt (y : MethodName) (b : ByteArray) (n : Nat) (r : Option FieldType) (np : Nat) : Prop := Cond.code y b n r ∈ q_G ∧ Cond.initialized y.cls ∈ q_G ∧ y.cls ≠ "java/lang/invoke/MethodHandle" ∧ y.cls ≠ "java/lang/invoke/VarHandle" ∧ (parseMethodDescriptor y.desc).map (fun d => d.parameters.length) = some np
theorem q_goon {st0 : List Value} {mc ms : Nat} {av : Array Value} {Post : Option Value → q_S → Prop} (hr : va_Run p l e R s m args below meth c H locs cells slots mc ms (F0 m pc ls st0) rest (q_Q D cy lo Post av) (fun q => lo ≤ q)) (Y : q_Y D cy lo s S H locs)
    (kk : ∀ (r : Option Value) (S' : q_S) (H1 : Heap) (locs1 : List Loc), Post r S' → q_Y D cy lo s S' H1 locs1 → W p l e R s m args below meth c H1 locs1 (cells + mc) (slots + ms) Q (F0 m (pc + 3) ls (r.toList ++ rest))) : W p l e R s m args below meth c H locs cells slots Q (F0 m pc ls st0) := by
  intro T hT X
  obtain ⟨v, st₀, t, T', L, h0, X', hL, e1, e2, ⟨⟨r, S', hv, hp, hK, hN, hWt, hlo⟩, hz, hk⟩, st⟩ := hr T hT X
  cases hv
  rw [h0] at hz hk
  have hS := Y.2
  obtain ⟨t2, a1, b1⟩ := kk v S' T'.heap (locs ++ L) hp ⟨by rw [e1]; exact hWt, Nat.le_trans hS.1 (by rw [e1]; exact hz), fun q h1 h2 => by rw [e1, hk q (Nat.lt_of_lt_of_le h1 hS.1) h2]; exact hS.2.1 q h1 h2, fun q hq => by
      rcases List.mem_append.mp hq with h | h
      · exact hS.2.2 q h
      · exact hL q h⟩ T' rfl X'
  exact ⟨t2, st t2 a1, b1⟩
theorem q_pre {As : List Value} (X : q_X p s m args meth c own cc nL ret D cy lo) (Y : q_Y D cy lo s S H locs) : ∀ U : State, U.heap = H → s.WarmedH U.vm → va_Pc As (q_U D cy lo S) As.toArray U := fun U hU hW =>
  ⟨rfl, va_K.moved hW.alike X.2.2.2.2.2.1, by rw [hU]; exact q_NW.warm hW Y.2 X.2.2.2.2.2.2.1, by rw [hU]; exact Y.1, by rw [hU]; exact Nat.le_trans X.2.2.2.2.2.2.2.1 Y.2.1⟩
theorem q_cb {idx np : Nat} {y : MethodName} {b : ByteArray} {n : Nat} {r : Option FieldType} {fr lc mc ms : Nat} (X : q_X p s m args meth c own cc nL ret D cy lo) (hy : q_Mt y b n r np) (hl : Cond.methodLink own idx y ∈ q_G) (hR : fr + 1 ≤ R.frames ∧ 8 + (n + 11) + lc ≤ R.locals) : CallB R s args own idx y b n r (Cond.code y b n r :: q_G) { frames := fr, cells := mc, slots := ms, locals := lc } mc ms np := by
  have hts : ∀ w ∈ Cond.code y b n r :: q_G, w.before args s = true := fun w hw => (List.mem_cons.mp hw).elim (fun h => h ▸ X.2.2.2.2.1 _ hy.1) (X.2.2.2.2.1 w)
  exact callB_of np hts (q_GG hy.1) rfl rfl rfl (X.2.2.2.2.1 _ hy.2.1) (X.2.2.2.2.1 _ hl) hy.2.2 hR
theorem q_fix (X : q_X p s m args meth c own cc nL ret D cy lo) : CallFix p m c cc nL s args q_G own := ⟨X.1, X.2.1, X.2.2.1, X.2.2.2.1, X.2.2.2.2.1⟩
theorem q_callV {As st0 : List Value} {b : Nat} {lv : List (Nat × Value)} {idx np ci N : Nat} {T : u_T} {y : MethodName} {by0 : ByteArray} {n : Nat} {r : Option FieldType} {fr lc mc ms : Nat} {Post : Option Value → q_S → Prop} (X : q_X p s m args meth c own cc nL ret D cy lo) (Y : q_Y D cy lo s S H locs) (hl : lv_has ls nL lv)
    (hM : q_Met l D cy lo y by0 n r fr lc mc ms (.ref b :: As) S Post) (hy : q_Mt y by0 n r np) (hi : Cond.instanceMethod y ∈ q_G ∧ Cond.selects y.cls y y ∈ q_G) (hk : Cond.methodLink own idx y ∈ q_G) (hC : vwCl[ci]? = some (y.cls, T, N)) (hK : q_K S b = ci + 1) (hci : ci < 19) (hst : st0 = As.reverse ++ .ref b :: rest) (hn : As.length = np) (hw : (rest.map fun v => v.category).sum ≤ 8) (hR : fr + 1 ≤ R.frames ∧ 8 + (n + 11) + lc ≤ R.locals) (hf : cells + mc ≤ R.cells ∧ slots + ms ≤ R.slots) (hd : decode cc pc = .ok (.invokevirtual idx, 3))
    (kk : ∀ (r : Option Value) (S' : q_S) (H1 : Heap) (locs1 : List Loc), Post r S' → q_Y D cy lo s S' H1 locs1 → W p l e R s m args below meth c H1 locs1 (cells + mc) (slots + ms) Q (F0 m (pc + 3) ls (r.toList ++ rest))) : W p l e R s m args below meth c H locs cells slots Q (F0 m pc ls st0) :=
  q_goon (va_runV (q_fix X) hM ⟨q_cb X hy hk hR, X.2.2.2.2.1 _ hi.1, X.2.2.2.2.1 _ hi.2⟩ ⟨q_blind, va_recv X.2.2.2.2.2.1 (q_one Y (q_E_ob hK hci)) hC (q0 := 0) rfl, q_pre X Y⟩ rfl hn hl.1 hst (lv_room hw) hd hf) Y kk
theorem q_callS {As st0 : List Value} {lv : List (Nat × Value)} {idx np : Nat} {y : MethodName} {by0 : ByteArray} {n : Nat} {r : Option FieldType} {fr lc mc ms : Nat} {Post : Option Value → q_S → Prop} (X : q_X p s m args meth c own cc nL ret D cy lo) (Y : q_Y D cy lo s S H locs) (hl : lv_has ls nL lv)
    (hM : q_Met l D cy lo y by0 n r fr lc mc ms As S Post) (hy : q_Mt y by0 n r np) (hi : Cond.static y ∈ q_G) (hk : Cond.methodLink own idx y ∈ q_G) (hst : st0 = As.reverse ++ rest) (hn : As.length = np) (hw : (rest.map fun v => v.category).sum ≤ 8) (hR : fr + 1 ≤ R.frames ∧ 8 + (n + 11) + lc ≤ R.locals) (hf : cells + mc ≤ R.cells ∧ slots + ms ≤ R.slots) (hd : decode cc pc = .ok (.invokestatic idx, 3))
    (kk : ∀ (r : Option Value) (S' : q_S) (H1 : Heap) (locs1 : List Loc), Post r S' → q_Y D cy lo s S' H1 locs1 → W p l e R s m args below meth c H1 locs1 (cells + mc) (slots + ms) Q (F0 m (pc + 3) ls (r.toList ++ rest))) : W p l e R s m args below meth c H locs cells slots Q (F0 m pc ls st0) :=
  q_goon (va_runS (q_fix X) hM ⟨q_cb X hy hk hR, X.2.2.2.2.1 _ hi⟩ ⟨q_blind, q_pre X Y⟩ rfl hn hl.1 hst (lv_room hw) hd hf) Y kk
theorem q_callI {As st0 : List Value} {b : Nat} {lv : List (Nat × Value)} {idx np : Nat} {y : MethodName} {by0 : ByteArray} {n : Nat} {fr lc mc ms : Nat} {Post : Option Value → q_S → Prop} (X : q_X p s m args meth c own cc nL ret D cy lo) (Y : q_Y D cy lo s S H locs) (hl : lv_has ls nL lv)
    (hM : q_Met l D cy lo y by0 n none fr lc mc ms (.ref b :: As) S Post) (hy : q_Mt y by0 n none np) (hi : Cond.instanceMethod y ∈ q_G) (hyn : y.name = "<init>") (hk : Cond.methodLink own idx y ∈ q_G) (hst : st0 = As.reverse ++ .ref b :: rest) (hn : As.length = np) (hw : (rest.map fun v => v.category).sum ≤ 8) (hR : fr + 1 ≤ R.frames ∧ 8 + (n + 11) + lc ≤ R.locals) (hf : cells + mc ≤ R.cells ∧ slots + ms ≤ R.slots) (hd : decode cc pc = .ok (.invokespecial idx, 3))
    (kk : ∀ (r : Option Value) (S' : q_S) (H1 : Heap) (locs1 : List Loc), Post r S' → q_Y D cy lo s S' H1 locs1 → W p l e R s m args below meth c H1 locs1 (cells + mc) (slots + ms) Q (F0 m (pc + 3) ls (r.toList ++ rest))) : W p l e R s m args below meth c H locs cells slots Q (F0 m pc ls st0) :=
  q_goon (va_runI (q_fix X) hM ⟨q_cb X hy hk hR, hyn, X.2.2.2.2.1 _ hi⟩ ⟨q_blind, q_pre X Y⟩ rfl hn hl.1 hst (lv_room hw) hd hf) Y kk
/-- a private constructor of a nest mate -/
theorem q_callN {As st0 : List Value} {b : Nat} {lv : List (Nat × Value)} {idx np : Nat} {host : String} {y : MethodName} {by0 : ByteArray} {n : Nat} {fr lc mc ms : Nat} {Post : Option Value → q_S → Prop} (X : q_X p s m args meth c own cc nL ret D cy lo) (Y : q_Y D cy lo s S H locs) (hl : lv_has ls nL lv)
    (hM : q_Met l D cy lo y by0 n none fr lc mc ms (.ref b :: As) S Post) (hy : q_Mt y by0 n none np) (hi : Cond.instanceMethod y ∈ q_G) (hyn : y.name = "<init>") (hk : Cond.methodLinkNest own idx y host ∈ q_Nw) (hst : st0 = As.reverse ++ .ref b :: rest) (hn : As.length = np) (hw : (rest.map fun v => v.category).sum ≤ 8) (hR : fr + 1 ≤ R.frames ∧ 8 + (n + 11) + lc ≤ R.locals) (hf : cells + mc ≤ R.cells ∧ slots + ms ≤ R.slots) (hd : decode cc pc = .ok (.invokespecial idx, 3))
    (kk : ∀ (r : Option Value) (S' : q_S) (H1 : Heap) (locs1 : List Loc), Post r S' → q_Y D cy lo s S' H1 locs1 → W p l e R s m args below meth c H1 locs1 (cells + mc) (slots + ms) Q (F0 m (pc + 3) ls (r.toList ++ rest))) : W p l e R s m args below meth c H locs cells slots Q (F0 m pc ls st0) := by
  have hts : ∀ w ∈ Cond.code y by0 n none :: q_G, w.before args s = true := fun w hw => (List.mem_cons.mp hw).elim (fun h => h ▸ X.2.2.2.2.1 _ hy.1) (X.2.2.2.2.1 w)
  exact q_goon (va_runIN (q_fix X) hM ⟨va_cnB np hts (q_GG hy.1) rfl rfl rfl (X.2.2.2.2.2.2.1.1 _ hk) (X.2.2.2.2.1 _ hy.2.1) hy.2.2 hR, hyn, X.2.2.2.2.1 _ hi⟩ ⟨q_blind, q_pre X Y⟩ rfl hn hl.1 hst (lv_room hw) hd hf) Y kk
/-- Object.<init> -/
theorem q_obj {lv : List (Nat × Value)} {idx : Nat} (X : q_X p s m args meth c own cc nL ret D cy lo) (hl : lv_has ls nL lv) (hk : Cond.methodLink own idx Lib.objectInit ∈ q_G) (h1 : Cond.instanceMethod Lib.objectInit ∈ q_G) (h2 : Cond.code Lib.objectInit ⟨#[0xb1]⟩ 1 none ∈ q_G) (hR : 1 ≤ R.frames ∧ (rest.map fun v => v.category).sum + 12 ≤ R.locals) (hd : decode cc pc = .ok (.invokespecial idx, 3))
    (kk : W p l e R s m args below meth c H locs cells slots Q (F0 m (pc + 3) ls rest)) : W p l e R s m args below meth c H locs cells slots Q (F0 m pc ls (.ref a :: rest)) :=
  W.objInit X.1 X.2.1 X.2.2.2.1 (X.2.2.2.2.1 _ hk) (X.2.2.2.2.1 _ h1) (X.2.2.2.2.1 _ h2) rfl (by rw [X.2.2.1]; exact hl.1) rfl hd hR.1 (by have := hR.2; simpa [JFrame.monitorRoom] using this) kk
end QR3
