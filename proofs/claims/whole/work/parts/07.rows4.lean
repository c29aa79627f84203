section QR4
variable {p : Program} {l : Launch} {e : Env} {R : Room} {s : State} {m : MethodId} {args : Array Value} {below : List Frame} {meth : Method} {c : Code} {H : Heap} {locs : List Loc} {cells slots : Nat} {Q : State → Prop}
variable {own : String} {cc : ByteArray} {nL pc : Nat} {ret : Option FieldType} {D : va_G} {cy : Nat → ClassId} {lo : Nat} {S : q_S} {ls : Array Slot} {rest : List Value} {a : Nat}
theorem q_cat (r : Option Nat) : (va_rf r).category = 1 := by cases r <;> rfl
theorem q_catI (x : Int32) : (Value.int x).category = 1 := rfl
theorem q_catJ (x : Int64) : (Value.long x).category = 2 := rfl
theorem q_catR (x : Nat) : (Value.ref x).category = 1 := rfl
theorem q_nn {r : Option Nat} (pre : List Value) (h : r = some a) (k : W p l e R s m args below meth c H locs cells slots Q (F0 m pc ls (pre ++ .ref a :: rest))) : W p l e R s m args below meth c H locs cells slots Q (F0 m pc ls (pre ++ va_rf r :: rest)) := by rw [h]; exact k
theorem q_aload_n {k : Fin 4} {i : Nat} {r : Option Nat} (hx : p.tables.exec = Jvm.exec) (hb : c.code = cc) (hd : decode cc pc = .ok (.aload_n k, 1)) (hi : (k : Nat) = i) (hl : ls[i]? = some (.val (va_rf r))) (kk : W p l e R s m args below meth c H locs cells slots Q (F0 m (pc + 1) ls (va_rf r :: rest))) : W p l e R s m args below meth c H locs cells slots Q (F0 m pc ls rest) := by
  cases r with
  | none => exact lv_aload_nN hx hb hd hi hl kk
  | some a => exact lv_aload_n hx hb hd hi hl kk
theorem q_aload {i : Nat} {r : Option Nat} (hx : p.tables.exec = Jvm.exec) (hb : c.code = cc) (hd : decode cc pc = .ok (.aload i, 2)) (hl : ls[i]? = some (.val (va_rf r))) (kk : W p l e R s m args below meth c H locs cells slots Q (F0 m (pc + 2) ls (va_rf r :: rest))) : W p l e R s m args below meth c H locs cells slots Q (F0 m pc ls rest) := by
  cases r with
  | none => exact lv_aloadN hx hb hd hl kk
  | some a => exact lv_aload hx hb hd hl kk
theorem q_astore_n {k : Fin 4} {i : Nat} {r : Option Nat} {lv lv' : List (Nat × Value)} (hx : p.tables.exec = Jvm.exec) (hb : c.code = cc) (hd : decode cc pc = .ok (.astore_n k, 1)) (hi : (k : Nat) = i) (h : lv_has ls nL lv) (hn : i < nL) (hl : (i, va_rf r) :: lv.filter (fun q => !(q.1 == i) && !(q.1 + 1 == i && q.2.category == 2)) = lv')
    (kk : ∀ ls' : Array Slot, lv_has ls' nL lv' → W p l e R s m args below meth c H locs cells slots Q (F0 m (pc + 1) ls' rest)) : W p l e R s m args below meth c H locs cells slots Q (F0 m pc ls (va_rf r :: rest)) := by
  cases r with
  | none => exact lv_astore_nN hx hb hd hi h hn hl kk
  | some a => exact lv_astore_n hx hb hd hi h hn hl kk
theorem q_astore {i : Nat} {r : Option Nat} {lv lv' : List (Nat × Value)} (hx : p.tables.exec = Jvm.exec) (hb : c.code = cc) (hd : decode cc pc = .ok (.astore i, 2)) (h : lv_has ls nL lv) (hn : i < nL) (hl : (i, va_rf r) :: lv.filter (fun q => !(q.1 == i) && !(q.1 + 1 == i && q.2.category == 2)) = lv')
    (kk : ∀ ls' : Array Slot, lv_has ls' nL lv' → W p l e R s m args below meth c H locs cells slots Q (F0 m (pc + 2) ls' rest)) : W p l e R s m args below meth c H locs cells slots Q (F0 m pc ls (va_rf r :: rest)) := by
  cases r with
  | none => exact lv_astoreN hx hb hd h hn hl kk
  | some a => exact lv_astore hx hb hd h hn hl kk
theorem q_ifnull {r : Option Nat} {off : Int} {tgt : Nat} (hx : p.tables.exec = Jvm.exec) (hb : c.code = cc) (hd : decode cc pc = .ok (.ifnull off, 3)) (ht : (pc : Int) + off = (tgt : Int)) (kt : r = none → W p l e R s m args below meth c H locs cells slots Q (F0 m tgt ls rest)) (kf : ¬ r = none → W p l e R s m args below meth c H locs cells slots Q (F0 m (pc + 3) ls rest)) : W p l e R s m args below meth c H locs cells slots Q (F0 m pc ls (va_rf r :: rest)) := by
  cases r with
  | none => exact lv_ifnullN hx hb hd ht (kt rfl)
  | some a => exact lv_ifnull hx hb hd (kf (fun h => by cases h))
theorem q_ifnonnull {r : Option Nat} {off : Int} {tgt : Nat} (hx : p.tables.exec = Jvm.exec) (hb : c.code = cc) (hd : decode cc pc = .ok (.ifnonnull off, 3)) (ht : (pc : Int) + off = (tgt : Int)) (kt : ¬ r = none → W p l e R s m args below meth c H locs cells slots Q (F0 m tgt ls rest)) (kf : r = none → W p l e R s m args below meth c H locs cells slots Q (F0 m (pc + 3) ls rest)) : W p l e R s m args below meth c H locs cells slots Q (F0 m pc ls (va_rf r :: rest)) := by
  cases r with
  | none => exact lv_ifnonnullN hx hb hd (kf rfl)
  | some a => exact lv_ifnonnull hx hb hd ht (kt (fun h => by cases h))
theorem q_eqI {x v : Int32} {n : Int} (h : x.toInt = n) (hv : v.toInt = n) : x = v := Int32.toInt_inj.mp (h.trans hv.symm)
/-- a table of cases -/
theorem q_tsw {dflt lo0 hi : Int} {offs : Array Int} {len : Nat} {x : Int32} {tgt : Nat} (hx : p.tables.exec = Jvm.exec) (hb : c.code = cc) (hd : decode cc pc = .ok (.tableswitch dflt lo0 hi offs, len)) (hz : hi = lo0 + offs.size - 1) (ht : (pc : Int) + dflt = (tgt : Int))
    (kd : (x.toInt < lo0 ∨ hi < x.toInt) → W p l e R s m args below meth c H locs cells slots Q (F0 m tgt ls rest))
    (kc : ∀ j : Nat, j < offs.size → x.toInt = lo0 + j → ∃ (off : Int) (t : Nat), offs[j]? = some off ∧ (pc : Int) + off = (t : Int) ∧ W p l e R s m args below meth c H locs cells slots Q (F0 m t ls rest)) : W p l e R s m args below meth c H locs cells slots Q (F0 m pc ls (.int x :: rest)) := by
  by_cases h1 : x.toInt < lo0
  · exact lv_tableOut hx hb hd (Or.inl h1) ht (kd (Or.inl h1))
  · by_cases h2 : hi < x.toInt
    · exact lv_tableOut hx hb hd (Or.inr h2) ht (kd (Or.inr h2))
    · obtain ⟨off, t, g1, g2, g3⟩ := kc (x.toInt - lo0).toNat (by omega) (by omega)
      exact lv_tableIn hx hb hd h1 h2 g1 g2 g3
end QR4
