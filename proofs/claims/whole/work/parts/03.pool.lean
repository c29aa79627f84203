/-! A pure pool: what the cells of our classes and arrays hold, by their addresses. K kinds (0: not ours; k + 1: an object of class k; 20 byte rows, 21 int rows, 22 boolean rows, 23 long rows, 24 .. 27 rows of references), I, J, P fields by their numbers, N lengths, A, B, C what rows hold. -/
def q_S : Type := (Nat → Nat) × (Nat → Nat → Int32) × (Nat → Nat → Int64) × (Nat → Nat → Option Nat) × (Nat → Nat) × (Nat → Nat → Int32) × (Nat → Nat → Int64) × (Nat → Nat → Option Nat)
def q_K (S : q_S) (a : Nat) : Nat := S.1 a
def q_I (S : q_S) (f a : Nat) : Int32 := S.2.1 f a
def q_J (S : q_S) (f a : Nat) : Int64 := S.2.2.1 f a
def q_P (S : q_S) (f a : Nat) : Option Nat := S.2.2.2.1 f a
def q_N (S : q_S) (a : Nat) : Nat := S.2.2.2.2.1 a
def q_A (S : q_S) (a i : Nat) : Int32 := S.2.2.2.2.2.1 a i
def q_B (S : q_S) (a i : Nat) : Int64 := S.2.2.2.2.2.2.1 a i
def q_C (S : q_S) (a i : Nat) : Option Nat := S.2.2.2.2.2.2.2 a i
def qs_2 {α : Type} (g : Nat → Nat → α) (f a : Nat) (v : α) : Nat → Nat → α := fun f' a' => if f' = f ∧ a' = a then v else g f' a'
def qs_1 {α : Type} (g : Nat → α) (a : Nat) (v : α) : Nat → α := fun a' => if a' = a then v else g a'
def qs_I (S : q_S) (f a : Nat) (v : Int32) : q_S := (S.1, qs_2 S.2.1 f a v, S.2.2)
def qs_J (S : q_S) (f a : Nat) (v : Int64) : q_S := (S.1, S.2.1, qs_2 S.2.2.1 f a v, S.2.2.2)
def qs_P (S : q_S) (f a : Nat) (v : Option Nat) : q_S := (S.1, S.2.1, S.2.2.1, qs_2 S.2.2.2.1 f a v, S.2.2.2.2)
def qs_A (S : q_S) (a i : Nat) (v : Int32) : q_S := (S.1, S.2.1, S.2.2.1, S.2.2.2.1, S.2.2.2.2.1, qs_2 S.2.2.2.2.2.1 a i v, S.2.2.2.2.2.2)
def qs_B (S : q_S) (a i : Nat) (v : Int64) : q_S := (S.1, S.2.1, S.2.2.1, S.2.2.2.1, S.2.2.2.2.1, S.2.2.2.2.2.1, qs_2 S.2.2.2.2.2.2.1 a i v, S.2.2.2.2.2.2.2)
def qs_C (S : q_S) (a i : Nat) (v : Option Nat) : q_S := (S.1, S.2.1, S.2.2.1, S.2.2.2.1, S.2.2.2.2.1, S.2.2.2.2.2.1, S.2.2.2.2.2.2.1, qs_2 S.2.2.2.2.2.2.2 a i v)
/-- a new object of class ci at a: all its fields 0, null -/
def qs_O (S : q_S) (ci a : Nat) : q_S := (qs_1 S.1 a (ci + 1), (fun f' a' => if a' = a then 0 else S.2.1 f' a'), (fun f' a' => if a' = a then 0 else S.2.2.1 f' a'), (fun f' a' => if a' = a then none else S.2.2.2.1 f' a'), S.2.2.2.2)
/-- a new row of kind k and length n at a: all 0, null -/
def qs_R (S : q_S) (k n a : Nat) : q_S := (qs_1 S.1 a k, S.2.1, S.2.2.1, S.2.2.2.1, qs_1 S.2.2.2.2.1 a n, (fun a' i => if a' = a then 0 else S.2.2.2.2.2.1 a' i), (fun a' i => if a' = a then 0 else S.2.2.2.2.2.2.1 a' i), (fun a' i => if a' = a then none else S.2.2.2.2.2.2.2 a' i))
/-- a field's value -/
def q_V (S : q_S) (a : Nat) (q : Nat × Nat) : Value := match q.1 with
  | 0 => .int (q_I S q.2 a)
  | 1 => .long (q_J S q.2 a)
  | _ => va_rf (q_P S q.2 a)
def q_E (cy : Nat → ClassId) (S : q_S) (a : Nat) : Option va_E :=
  if q_K S a = 0 then none else
  if q_K S a < 20 then some (.inr (q_K S a - 1, (q_F (q_K S a - 1)).map (q_V S a))) else
  if q_K S a < 23 then some (.inl (cy (q_K S a), q_N S a, .inl (q_A S a))) else
  if q_K S a = 23 then some (.inl (cy (q_K S a), q_N S a, .inr (.inl (q_B S a)))) else
  some (.inl (cy (q_K S a), q_N S a, .inr (.inr (.inr (.inr (q_C S a))))))
theorem q_E_ob {cy : Nat → ClassId} {S : q_S} {a ci : Nat} (h : q_K S a = ci + 1) (hc : ci < 19) : q_E cy S a = some (.inr (ci, (q_F ci).map (q_V S a))) := by
  unfold q_E
  rw [h, if_neg (by omega), if_pos (by omega)]
  rfl
theorem q_E_ir {cy : Nat → ClassId} {S : q_S} {a k : Nat} (h : q_K S a = k) (h1 : 20 ≤ k) (h2 : k < 23) : q_E cy S a = some (.inl (cy k, q_N S a, .inl (q_A S a))) := by
  unfold q_E
  rw [h, if_neg (by omega), if_neg (by omega), if_pos (by omega)]
theorem q_E_jr {cy : Nat → ClassId} {S : q_S} {a : Nat} (h : q_K S a = 23) : q_E cy S a = some (.inl (cy 23, q_N S a, .inr (.inl (q_B S a)))) := by
  unfold q_E
  rw [h, if_neg (by omega), if_neg (by omega), if_neg (by omega), if_pos rfl]
theorem q_E_cr {cy : Nat → ClassId} {S : q_S} {a k : Nat} (h : q_K S a = k) (h1 : 24 ≤ k) : q_E cy S a = some (.inl (cy k, q_N S a, .inr (.inr (.inr (.inr (q_C S a)))))) := by
  unfold q_E
  rw [h, if_neg (by omega), if_neg (by omega), if_neg (by omega), if_neg (by omega)]
/-- the heap holds the pool, which lies from lo on -/
def q_W (D : va_G) (cy : Nat → ClassId) (lo : Nat) (S : q_S) (H : Heap) : Prop := (∀ (a : Nat) (e : va_E), q_E cy S a = some e → va_at D vwCl (a, e) H) ∧ ∀ a : Nat, q_K S a ≠ 0 → lo ≤ a
def q_T (cy : Nat → ClassId) : List (ClassId × FieldType) := [(cy 20, .byte), (cy 21, .int), (cy 22, .boolean), (cy 23, .long), (cy 24, .object RX1), (cy 25, .object RX5), (cy 26, .object RX7), (cy 27, .object RX10)]
/-- the good words of the tables, and those of private constructors of nest mates -/
def q_G : List Cond := lw_tbl.filter goodWord
theorem q_tb {i : Nat} {w : Cond} (h : tables_1[i]? = some w) (hg : goodWord w = true) : w ∈ q_G := List.mem_filter.mpr ⟨List.mem_append_right _ (List.mem_of_getElem? h), hg⟩
theorem q_tp {i : Nat} {q : MethodName × Nat} (h : lw_privs[i]? = some q) (hg : goodWord (.selects q.1.cls q.1 q.1) = true) : Cond.selects q.1.cls q.1 q.1 ∈ q_G := List.mem_filter.mpr ⟨List.mem_append_left _ (List.mem_map.mpr ⟨q, List.mem_of_getElem? h, rfl⟩), hg⟩
theorem q_sub {ws : List Cond} (ps : List Nat) (h : ws = ps.filterMap (fun i => tables_1[i]?)) (hg : ws.all goodWord = true) : ∀ w ∈ ws, w ∈ q_G := by
  intro w hw
  have h1 := List.all_eq_true.mp hg w hw
  rw [h] at hw
  obtain ⟨i, -, hi⟩ := List.mem_filterMap.mp hw
  exact q_tb hi h1
theorem q_Gg : ∀ w ∈ q_G, goodWord w = true := fun w hw => (List.mem_filter.mp hw).2
theorem q_GG {y z : MethodName} {b d : ByteArray} {n k : Nat} {r t : Option FieldType} (h : Cond.code y b n r ∈ q_G) : GoodIn (Cond.code z d k t :: q_G) (Cond.code y b n r :: q_G) := by
  intro w hw
  rcases List.mem_cons.mp hw with rfl | hw
  · exact ⟨List.mem_cons_of_mem _ h, good_of_word (q_Gg _ h)⟩
  · exact ⟨List.mem_cons_of_mem _ hw, good_of_word (q_Gg _ hw)⟩
/-- private constructors of nest mates: words that a state keeps but that aren't good ones -/
def q_isN (w : Cond) : Bool := match w with
  | .methodLinkNest _ _ _ _ => true
  | _ => false
def q_Nw : List Cond := tables_1.filter q_isN
def q_NW (U : State) : Prop := ∀ w ∈ q_Nw, va_Nw w U
theorem q_NW.warm {s U : State} (hW : s.WarmedH U.vm) (h : q_NW s) : q_NW U := by
  intro w hw
  have h2 := (List.mem_filter.mp hw).2
  cases w <;> first | exact va_Nw.warmM hW (h _ hw) | (simp [q_isN] at h2; done)
theorem q_NW.same {s U : State} (hv : s.vm = U.vm) (h : q_NW s) : q_NW U := by
  intro w hw
  have h2 := (List.mem_filter.mp hw).2
  cases w <;> first | exact va_Nw.same rfl hv (h _ hw) | (simp [q_isN] at h2; done)
/-- a state that holds the pool S -/
def q_U (D : va_G) (cy : Nat → ClassId) (lo : Nat) (S : q_S) (U : State) : Prop := va_K D vwCl (q_T cy) U ∧ q_NW U ∧ q_W D cy lo S U.heap ∧ lo ≤ U.heap.size
def q_Q (D : va_G) (cy : Nat → ClassId) (lo : Nat) (Post : Option Value → q_S → Prop) : Array Value → State → Outcome → State → Prop := fun _ st oc t => (∃ (r : Option Value) (S' : q_S), oc = .returned r ∧ Post r S' ∧ q_U D cy lo S' t) ∧ va_F (fun q => lo ≤ q) st t
/-- THE CONTRACT of a method: called with As over the pool S it returns r with the pool S' where Post r S'; fr frames, lc words of locals, mc cells and ms slots at most -/
def q_Met (l : Launch) (D : va_G) (cy : Nat → ClassId) (lo : Nat) (y : MethodName) (b : ByteArray) (n : Nat) (r : Option FieldType) (fr lc mc ms : Nat) (As : List Value) (S : q_S) (Post : Option Value → q_S → Prop) : Prop :=
  Met l y (Cond.code y b n r :: q_G) { frames := fr, cells := mc, slots := ms, locals := lc } (va_Pc As (q_U D cy lo S)) (q_Q D cy lo Post) mc ms (fun q => lo ≤ q)
/-- what stands fixed in a method's walk -/
def q_X (p : Program) (s : State) (m : MethodId) (args : Array Value) (meth : Method) (c : Code) (own : String) (cc : ByteArray) (nL : Nat) (ret : Option FieldType) (D : va_G) (cy : Nat → ClassId) (lo : Nat) : Prop :=
  p.tables.exec = Jvm.exec ∧ c.code = cc ∧ c.maxLocals = nL ∧ s.vm.findClass own = some m.cls ∧ (∀ w ∈ q_G, w.before args s = true) ∧ va_K D vwCl (q_T cy) s ∧ q_NW s ∧ lo ≤ s.heap.size ∧ meth.sig.returnType = ret ∧ meth.locks = false
/-- where the walk is: the heap holds the pool S, nothing below lo has changed -/
def q_Y (D : va_G) (cy : Nat → ClassId) (lo : Nat) (s : State) (S : q_S) (H : Heap) (locs : List Loc) : Prop := q_W D cy lo S H ∧ va_S (fun q => lo ≤ q) s.heap H locs
theorem q_blind {D : va_G} {cy : Nat → ClassId} {lo : Nat} {S : q_S} {As : List Value} : FrameBlind (va_Pc As (q_U D cy lo S)) := fun a U g mk q => ⟨q.1, va_K.moved (u := U) (U := U.calling g mk a) (Vm.Alike.refl U.vm) q.2.1, q_NW.same (s := U) (U := U.calling g mk a) rfl q.2.2.1, q.2.2.2.1, q.2.2.2.2⟩
theorem q_body {l : Launch} {D : va_G} {cy : Nat → ClassId} {lo : Nat} {y : MethodName} {b : ByteArray} {n : Nat} {r : Option FieldType} {fr lc mc ms : Nat} {As : List Value} {S : q_S} {Post : Option Value → q_S → Prop} (hy : plainName y.cls = true) (hn : (lg_sl As).length ≤ n)
    (body : ∀ (p : Program) (e : Env) (s : State) (m : MethodId) (below : List Frame) (meth : Method) (c : Code) (ls : Array Slot), q_X p s m As.toArray meth c y.cls b n r D cy lo → meth.name = y.name → q_Y D cy lo s S s.heap [] → lv_has ls n (lv_args 0 As) →
      W p l e { frames := fr, cells := mc, slots := ms, locals := lc } s m As.toArray below meth c s.heap [] 0 0 (MQ below (q_Q D cy lo Post) As.toArray s mc ms (fun q => lo ≤ q)) (F0 m 0 ls [])) : q_Met l D cy lo y b n r fr lc mc ms As S Post := by
  refine Met.ofW (cc := b) (maxL := n) (ret := r) hy rfl ?_
  intro p e s m args below meth c s₁ B hml hv
  obtain ⟨rfl, hK, hN, hW, hlo⟩ := hv
  have hts := atoms_spec (ws := Cond.code y b n r :: q_G) B.pre
  have hl := lv_entry As (n := n) hn
  rw [lg_entry_eq]
  exact body p e s m below meth c _ ⟨B.exec, B.bytes, hml, findClass_of_methodNamed B.named, fun w hw => hts w (List.mem_cons_of_mem _ hw), hK, hN, hlo, B.returns, B.notSynchronized⟩ (name_of_methodNamed B.named B.method).1 ⟨hW, va_S.rf⟩ hl
