section QR2
variable {p : Program} {l : Launch} {e : Env} {R : Room} {s : State} {m : MethodId} {args : Array Value} {below : List Frame} {meth : Method} {c : Code} {H : Heap} {locs : List Loc} {cells slots : Nat} {Q : State → Prop}
variable {own : String} {cc : ByteArray} {nL pc : Nat} {ret : Option FieldType} {D : va_G} {cy : Nat → ClassId} {lo : Nat} {S : q_S} {ls : Array Slot} {rest : List Value} {a : Nat}
/-- all that is known of a class of ours by its number -/
def q_Cl (ci : Nat) (C : String) (T : u_T) (N : Nat) : Prop := vwCl[ci]? = some (C, T, N) ∧ (∀ w ∈ u_ws C T N, w ∈ q_G) ∧ ci < 19 ∧ (q_F ci).length = N ∧ (∃ ty0 : Nat → FieldType, ∀ k, k < N → parseFieldDescriptor (T k).2.2.1 = some (ty0 k)) ∧ (∀ a, a < N → ∀ b, b < N → a ≠ b → (T a).2.1 ≠ (T b).2.1)
theorem q_len {ci k : Nat} {q : Nat × Nat} (h : (q_F ci)[k]? = some q) : k < (q_F ci).length := (List.getElem?_eq_some_iff.mp h).1
theorem q_getI (X : q_X p s m args meth c own cc nL ret D cy lo) (Y : q_Y D cy lo s S H locs) {C : String} {T : u_T} {N ci idx f : Nat} (hC : q_Cl ci C T N) (k : Nat) (hf : (q_F ci)[k]? = some (0, f)) (hl : Cond.fieldLink own idx (T k).1 (T k).2.1 (T k).2.2.1 ∈ q_G) (hK : q_K S a = ci + 1) (hd : decode cc pc = .ok (.getfield idx, 3))
    (kk : W p l e R s m args below meth c H locs cells slots Q (F0 m (pc + 3) ls (.int (q_I S f a) :: rest))) : W p l e R s m args below meth c H locs cells slots Q (F0 m pc ls (.ref a :: rest)) :=
  q_get X Y k hC.1 hC.2.1 hl hK ⟨hC.2.2.2.1 ▸ q_len hf, hC.2.2.1⟩ (by rw [List.getElem?_map, hf]; rfl) hd kk
theorem q_getJ (X : q_X p s m args meth c own cc nL ret D cy lo) (Y : q_Y D cy lo s S H locs) {C : String} {T : u_T} {N ci idx f : Nat} (hC : q_Cl ci C T N) (k : Nat) (hf : (q_F ci)[k]? = some (1, f)) (hl : Cond.fieldLink own idx (T k).1 (T k).2.1 (T k).2.2.1 ∈ q_G) (hK : q_K S a = ci + 1) (hd : decode cc pc = .ok (.getfield idx, 3))
    (kk : W p l e R s m args below meth c H locs cells slots Q (F0 m (pc + 3) ls (.long (q_J S f a) :: rest))) : W p l e R s m args below meth c H locs cells slots Q (F0 m pc ls (.ref a :: rest)) :=
  q_get X Y k hC.1 hC.2.1 hl hK ⟨hC.2.2.2.1 ▸ q_len hf, hC.2.2.1⟩ (by rw [List.getElem?_map, hf]; rfl) hd kk
theorem q_getP (X : q_X p s m args meth c own cc nL ret D cy lo) (Y : q_Y D cy lo s S H locs) {C : String} {T : u_T} {N ci idx f : Nat} (hC : q_Cl ci C T N) (k : Nat) (hf : (q_F ci)[k]? = some (2, f)) (hl : Cond.fieldLink own idx (T k).1 (T k).2.1 (T k).2.2.1 ∈ q_G) (hK : q_K S a = ci + 1) {v : Value} (hv : va_rf (q_P S f a) = v) (hd : decode cc pc = .ok (.getfield idx, 3))
    (kk : W p l e R s m args below meth c H locs cells slots Q (F0 m (pc + 3) ls (v :: rest))) : W p l e R s m args below meth c H locs cells slots Q (F0 m pc ls (.ref a :: rest)) :=
  q_get X Y k hC.1 hC.2.1 hl hK ⟨hC.2.2.2.1 ▸ q_len hf, hC.2.2.1⟩ (by rw [List.getElem?_map, hf, ← hv]; rfl) hd kk
theorem q_getR (X : q_X p s m args meth c own cc nL ret D cy lo) (Y : q_Y D cy lo s S H locs) {C : String} {T : u_T} {N ci idx f b : Nat} (hC : q_Cl ci C T N) (k : Nat) (hf : (q_F ci)[k]? = some (2, f)) (hl : Cond.fieldLink own idx (T k).1 (T k).2.1 (T k).2.2.1 ∈ q_G) (hK : q_K S a = ci + 1) (hv : q_P S f a = some b) (hd : decode cc pc = .ok (.getfield idx, 3))
    (kk : W p l e R s m args below meth c H locs cells slots Q (F0 m (pc + 3) ls (.ref b :: rest))) : W p l e R s m args below meth c H locs cells slots Q (F0 m pc ls (.ref a :: rest)) :=
  q_getP X Y hC k hf hl hK (v := .ref b) (by rw [hv]; rfl) hd kk
theorem q_putI (X : q_X p s m args meth c own cc nL ret D cy lo) (Y : q_Y D cy lo s S H locs) {C : String} {T : u_T} {N ci idx f : Nat} {x : Int32} (hC : q_Cl ci C T N) (k : Nat) (hf : (q_F ci)[k]? = some (0, f)) (hl : Cond.fieldLink own idx (T k).1 (T k).2.1 (T k).2.2.1 ∈ q_G) (hK : q_K S a = ci + 1) (ty : FieldType) (ht : parseFieldDescriptor (T k).2.2.1 = some ty) (hx : narrow ty (.int x) = .int x ∧ fits ty (.int x) = true) (hfin : (T k).2.2.2 = false) (hd : decode cc pc = .ok (.putfield idx, 3))
    (kk : ∀ (H1 : Heap) (locs1 : List Loc), q_Y D cy lo s (qs_I S f a x) H1 locs1 → W p l e R s m args below meth c H1 locs1 cells slots Q (F0 m (pc + 3) ls rest)) : W p l e R s m args below meth c H locs cells slots Q (F0 m pc ls (.int x :: .ref a :: rest)) := by
  obtain ⟨h1, h2, h3, h4, ⟨ty0, h5⟩, h6⟩ := hC
  have hfl := q_len hf
  refine q_put X Y k (ty := ty) (S' := qs_I S f a x) h1 h2 ty0 h5 h6 hl (Or.inl hfin) hK ⟨h4 ▸ hfl, h3, hfl⟩ ht hx.1 hx.2 (fun b hb => q_E_V rfl (q_V_I hb) rfl rfl rfl rfl) (fun _ => rfl) (fun _ => rfl) (q_map hf ?_ ?_) hd kk
  · show Value.int (qs_2 S.2.1 f a x f a) = _
    rw [qs_2_self]
  · intro q hq
    unfold q_V
    split
    · show Value.int (qs_2 S.2.1 f a x q.2 a) = _
      rw [qs_2_f _ _ hq]; rfl
    · rfl
    · rfl
theorem q_putJ (X : q_X p s m args meth c own cc nL ret D cy lo) (Y : q_Y D cy lo s S H locs) {C : String} {T : u_T} {N ci idx f : Nat} {x : Int64} (hC : q_Cl ci C T N) (k : Nat) (hf : (q_F ci)[k]? = some (1, f)) (hl : Cond.fieldLink own idx (T k).1 (T k).2.1 (T k).2.2.1 ∈ q_G) (hK : q_K S a = ci + 1) (ht : parseFieldDescriptor (T k).2.2.1 = some .long) (hfin : (T k).2.2.2 = false) (hd : decode cc pc = .ok (.putfield idx, 3))
    (kk : ∀ (H1 : Heap) (locs1 : List Loc), q_Y D cy lo s (qs_J S f a x) H1 locs1 → W p l e R s m args below meth c H1 locs1 cells slots Q (F0 m (pc + 3) ls rest)) : W p l e R s m args below meth c H locs cells slots Q (F0 m pc ls (.long x :: .ref a :: rest)) := by
  obtain ⟨h1, h2, h3, h4, ⟨ty0, h5⟩, h6⟩ := hC
  have hfl := q_len hf
  refine q_put X Y k (ty := .long) (S' := qs_J S f a x) h1 h2 ty0 h5 h6 hl (Or.inl hfin) hK ⟨h4 ▸ hfl, h3, hfl⟩ ht rfl rfl (fun b hb => q_E_V rfl (q_V_J hb) rfl rfl rfl rfl) (fun _ => rfl) (fun _ => rfl) (q_map hf ?_ ?_) hd kk
  · show Value.long (qs_2 S.2.2.1 f a x f a) = _
    rw [qs_2_self]
  · intro q hq
    unfold q_V
    split
    · rfl
    · show Value.long (qs_2 S.2.2.1 f a x q.2 a) = _
      rw [qs_2_f _ _ hq]; rfl
    · rfl
theorem q_putP (X : q_X p s m args meth c own cc nL ret D cy lo) (Y : q_Y D cy lo s S H locs) {C : String} {T : u_T} {N ci idx f : Nat} (x : Option Nat) {v : Value} (hv : v = va_rf x) (hC : q_Cl ci C T N) (k : Nat) (hf : (q_F ci)[k]? = some (2, f)) (hl : Cond.fieldLink own idx (T k).1 (T k).2.1 (T k).2.2.1 ∈ q_G) (hK : q_K S a = ci + 1) (ty : FieldType) (ht : parseFieldDescriptor (T k).2.2.1 = some ty) (hty : (∃ n, ty = .object n) ∨ ∃ t, ty = .array t) (hfin : (T k).2.2.2 = false ∨ ((T k).2.2.2 = true ∧ meth.name = "<init>" ∧ (T k).1 = own)) (hd : decode cc pc = .ok (.putfield idx, 3))
    (kk : ∀ (H1 : Heap) (locs1 : List Loc), q_Y D cy lo s (qs_P S f a x) H1 locs1 → W p l e R s m args below meth c H1 locs1 cells slots Q (F0 m (pc + 3) ls rest)) : W p l e R s m args below meth c H locs cells slots Q (F0 m pc ls (v :: .ref a :: rest)) := by
  obtain ⟨h1, h2, h3, h4, ⟨ty0, h5⟩, h6⟩ := hC
  have hfl := q_len hf
  have hx : narrow ty v = v ∧ fits ty v = true := by
    subst hv
    rcases hty with ⟨n, rfl⟩ | ⟨n, rfl⟩ <;> cases x <;> exact ⟨rfl, rfl⟩
  refine q_put X Y k (ty := ty) (S' := qs_P S f a x) h1 h2 ty0 h5 h6 hl hfin hK ⟨h4 ▸ hfl, h3, hfl⟩ ht hx.1 hx.2 (fun b hb => q_E_V rfl (q_V_P hb) rfl rfl rfl rfl) (fun _ => rfl) (fun _ => rfl) (q_map hf ?_ ?_) hd kk
  · show va_rf (qs_2 S.2.2.2.1 f a x f a) = _
    rw [qs_2_self, hv]
  · intro q hq
    unfold q_V
    split
    · rfl
    · rfl
    · show va_rf (qs_2 S.2.2.2.1 f a x q.2 a) = _
      rw [qs_2_f _ _ hq]; rfl
/-- rows: one cell as a world of its own -/
theorem q_one {x : va_E} (Y : q_Y D cy lo s S H locs) (h : q_E cy S a = some x) : va_P D vwCl [(a, x)] H := fun i q hq => by
  have hz : i < 1 := (List.getElem?_eq_some_iff.mp hq).1
  rw [show i = 0 by omega] at hq
  cases hq
  exact Y.1.1 a _ h
theorem q_ild (X : q_X p s m args meth c own cc nL ret D cy lo) (Y : q_Y D cy lo s S H locs) {i : Int32} (hK : q_K S a = 21) (hin : vp_in i (q_N S a)) (hd : decode cc pc = .ok (.iaload, 1))
    (kk : W p l e R s m args below meth c H locs cells slots Q (F0 m (pc + 1) ls (.int (q_A S a i.toNatClampNeg) :: rest))) : W p l e R s m args below meth c H locs cells slots Q (F0 m pc ls (.int i :: .ref a :: rest)) :=
  va_iald X.1 X.2.1 X.2.2.2.2.2.1 (q_one Y (q_E_ir hK (by omega) (by omega))) 0 1 rfl rfl hin hd kk
theorem q_bld (X : q_X p s m args meth c own cc nL ret D cy lo) (Y : q_Y D cy lo s S H locs) {i : Int32} (hK : q_K S a = 20) (hin : vp_in i (q_N S a)) (hd : decode cc pc = .ok (.baload, 1))
    (kk : W p l e R s m args below meth c H locs cells slots Q (F0 m (pc + 1) ls (.int (q_A S a i.toNatClampNeg) :: rest))) : W p l e R s m args below meth c H locs cells slots Q (F0 m pc ls (.int i :: .ref a :: rest)) :=
  va_bald X.1 X.2.1 X.2.2.2.2.2.1 (q_one Y (q_E_ir hK (by omega) (by omega))) 0 0 rfl rfl hin hd kk
theorem q_zld (X : q_X p s m args meth c own cc nL ret D cy lo) (Y : q_Y D cy lo s S H locs) {i : Int32} (hK : q_K S a = 22) (hin : vp_in i (q_N S a)) (hd : decode cc pc = .ok (.baload, 1))
    (kk : W p l e R s m args below meth c H locs cells slots Q (F0 m (pc + 1) ls (.int (q_A S a i.toNatClampNeg) :: rest))) : W p l e R s m args below meth c H locs cells slots Q (F0 m pc ls (.int i :: .ref a :: rest)) :=
  va_zald X.1 X.2.1 X.2.2.2.2.2.1 (q_one Y (q_E_ir hK (by omega) (by omega))) 0 2 rfl rfl hin hd kk
theorem q_lld (X : q_X p s m args meth c own cc nL ret D cy lo) (Y : q_Y D cy lo s S H locs) {i : Int32} (hK : q_K S a = 23) (hin : vp_in i (q_N S a)) (hd : decode cc pc = .ok (.laload, 1))
    (kk : W p l e R s m args below meth c H locs cells slots Q (F0 m (pc + 1) ls (.long (q_B S a i.toNatClampNeg) :: rest))) : W p l e R s m args below meth c H locs cells slots Q (F0 m pc ls (.int i :: .ref a :: rest)) :=
  va_lald X.1 X.2.1 X.2.2.2.2.2.1 (q_one Y (q_E_jr hK)) 0 3 rfl rfl hin hd kk
theorem q_cld (X : q_X p s m args meth c own cc nL ret D cy lo) (Y : q_Y D cy lo s S H locs) {i : Int32} {k t : Nat} {C : String} (hK : q_K S a = k) (hk : 24 ≤ k ∧ k < 30) (ht : (q_T cy)[t]? = some (cy k, .object C)) (hin : vp_in i (q_N S a)) {v : Value} (hv : va_rf (q_C S a i.toNatClampNeg) = v) (hd : decode cc pc = .ok (.aaload, 1))
    (kk : W p l e R s m args below meth c H locs cells slots Q (F0 m (pc + 1) ls (v :: rest))) : W p l e R s m args below meth c H locs cells slots Q (F0 m pc ls (.int i :: .ref a :: rest)) := by
  subst hv
  exact va_aldq X.1 X.2.1 X.2.2.2.2.2.1 (q_one Y (q_E_cr hK hk.1 hk.2)) 0 t rfl ht hin hd kk
theorem q_alen (X : q_X p s m args meth c own cc nL ret D cy lo) (Y : q_Y D cy lo s S H locs) {k t : Nat} {ty : FieldType} (hK : q_K S a = k) (hk : 20 ≤ k ∧ k < 30) (ht : (q_T cy)[t]? = some (cy k, ty)) (hd : decode cc pc = .ok (.arraylength, 1))
    (kk : W p l e R s m args below meth c H locs cells slots Q (F0 m (pc + 1) ls (.int (nI (q_N S a)) :: rest))) : W p l e R s m args below meth c H locs cells slots Q (F0 m pc ls (.ref a :: rest)) := by
  by_cases h1 : k < 23
  · exact va_alen X.1 X.2.1 X.2.2.2.2.2.1 (q_one Y (q_E_ir hK hk.1 h1)) 0 t rfl ht rfl hd kk
  · by_cases h2 : k = 23
    · subst h2
      exact va_alen X.1 X.2.1 X.2.2.2.2.2.1 (q_one Y (q_E_jr hK)) 0 t rfl ht rfl hd kk
    · exact va_alen X.1 X.2.1 X.2.2.2.2.2.1 (q_one Y (q_E_cr hK (by omega) hk.2)) 0 t rfl ht rfl hd kk
theorem q_A_ne {b i : Nat} {v : Int32} (h : b ≠ a) : q_A (qs_A S a i v) b = q_A S b := by
  funext j
  exact qs_2_f _ _ h
theorem q_B_ne {b i : Nat} {v : Int64} (h : b ≠ a) : q_B (qs_B S a i v) b = q_B S b := by
  funext j
  exact qs_2_f _ _ h
theorem q_C_ne {b i : Nat} {v : Option Nat} (h : b ≠ a) : q_C (qs_C S a i v) b = q_C S b := by
  funext j
  exact qs_2_f _ _ h
theorem q_A_self {i : Nat} {v : Int32} : q_A (qs_A S a i v) a = upd (q_A S a) i v := by
  funext j
  by_cases h : j = i
  · subst h
    show qs_2 _ a j v a j = _
    rw [qs_2_self]; simp [upd]
  · show qs_2 _ a i v a j = _
    rw [qs_2_a _ _ h]; simp [upd, h]; rfl
theorem q_B_self {i : Nat} {v : Int64} : q_B (qs_B S a i v) a = vp_updL (q_B S a) i v := by
  funext j
  by_cases h : j = i
  · subst h
    show qs_2 _ a j v a j = _
    rw [qs_2_self]; simp [vp_updL]
  · show qs_2 _ a i v a j = _
    rw [qs_2_a _ _ h]; simp [vp_updL, h]; rfl
theorem q_C_self {i : Nat} {v : Option Nat} : q_C (qs_C S a i v) a = va_up (q_C S a) i v := by
  funext j
  by_cases h : j = i
  · subst h
    show qs_2 _ a j v a j = _
    rw [qs_2_self]; simp [va_up]
  · show qs_2 _ a i v a j = _
    rw [qs_2_a _ _ h]; simp [va_up, h]; rfl
theorem q_ist (X : q_X p s m args meth c own cc nL ret D cy lo) (Y : q_Y D cy lo s S H locs) {i x : Int32} (hK : q_K S a = 21) (hin : vp_in i (q_N S a)) (hd : decode cc pc = .ok (.iastore, 1))
    (kk : ∀ (H1 : Heap) (locs1 : List Loc), q_Y D cy lo s (qs_A S a i.toNatClampNeg x) H1 locs1 → W p l e R s m args below meth c H1 locs1 cells slots Q (F0 m (pc + 1) ls rest)) : W p l e R s m args below meth c H locs cells slots Q (F0 m pc ls (.int x :: .int i :: .ref a :: rest)) := by
  refine W.iast X.1 X.2.1 (Y.1.1 a _ (q_E_ir hK (by omega) (by omega))) ((X.2.2.2.2.2.1.2 1 _ rfl).1 _ (fun j => .int (q_A S a j))) (fun q => by cases q) (by show ¬ (i < 0 ∨ (arrV _ _ _).slots.size ≤ _); rw [arrV_size]; exact hin) rfl rfl hd fun H1 e z oq => ?_
  refine kk H1 _ (q_wr Y (q_lo Y ⟨by rw [hK]; omega, by rw [hK]; omega⟩) z oq (fun b hb => q_E_V rfl rfl rfl (q_A_ne hb) rfl rfl) (fun _ => rfl) (fun _ => rfl) fun y hy => ?_)
  rw [q_E_ir (S := qs_A S a i.toNatClampNeg x) (k := 21) hK (by omega) (by omega)] at hy
  cases hy
  show H1[a]? = some (vp_cell _ _)
  rw [e, vp_cell_i, vp_cell_i, arrV_store, q_A_self]
  congr 2
  funext q
  by_cases hq : q = i.toNatClampNeg
  · subst hq; simp [updV, upd]
  · simp [updV, upd, hq]
theorem q_bst (X : q_X p s m args meth c own cc nL ret D cy lo) (Y : q_Y D cy lo s S H locs) {i x : Int32} (hK : q_K S a = 20) (hin : vp_in i (q_N S a)) (hd : decode cc pc = .ok (.bastore, 1))
    (kk : ∀ (H1 : Heap) (locs1 : List Loc), q_Y D cy lo s (qs_A S a i.toNatClampNeg (vp_nar .byte x)) H1 locs1 → W p l e R s m args below meth c H1 locs1 cells slots Q (F0 m (pc + 1) ls rest)) : W p l e R s m args below meth c H locs cells slots Q (F0 m pc ls (.int x :: .int i :: .ref a :: rest)) := by
  refine W.bast X.1 X.2.1 (Y.1.1 a _ (q_E_ir hK (by omega) (by omega))) ((X.2.2.2.2.2.1.2 0 _ rfl).1 _ (fun j => .int (q_A S a j))) (fun q => by cases q) (by show ¬ (i < 0 ∨ (arrV _ _ _).slots.size ≤ _); rw [arrV_size]; exact hin) rfl rfl hd fun H1 e z oq => ?_
  refine kk H1 _ (q_wr Y (q_lo Y ⟨by rw [hK]; omega, by rw [hK]; omega⟩) z oq (fun b hb => q_E_V rfl rfl rfl (q_A_ne hb) rfl rfl) (fun _ => rfl) (fun _ => rfl) fun y hy => ?_)
  rw [q_E_ir (S := qs_A S a i.toNatClampNeg (vp_nar .byte x)) (k := 20) hK (by omega) (by omega)] at hy
  cases hy
  show H1[a]? = some (vp_cell _ _)
  rw [e, vp_cell_i, vp_cell_i, arrV_store, q_A_self]
  congr 2
  funext q
  by_cases hq : q = i.toNatClampNeg
  · subst hq
    simp [updV, upd, vp_nar]
    try rfl
  · simp [updV, upd, hq]
theorem q_zst (X : q_X p s m args meth c own cc nL ret D cy lo) (Y : q_Y D cy lo s S H locs) {i x : Int32} (hK : q_K S a = 22) (hin : vp_in i (q_N S a)) (hd : decode cc pc = .ok (.bastore, 1))
    (kk : ∀ (H1 : Heap) (locs1 : List Loc), q_Y D cy lo s (qs_A S a i.toNatClampNeg (vp_nar .boolean x)) H1 locs1 → W p l e R s m args below meth c H1 locs1 cells slots Q (F0 m (pc + 1) ls rest)) : W p l e R s m args below meth c H locs cells slots Q (F0 m pc ls (.int x :: .int i :: .ref a :: rest)) := by
  refine W.zast X.1 X.2.1 (Y.1.1 a _ (q_E_ir hK (by omega) (by omega))) ((X.2.2.2.2.2.1.2 2 _ rfl).1 _ (fun j => .int (q_A S a j))) (fun q => by cases q) (by show ¬ (i < 0 ∨ (arrV _ _ _).slots.size ≤ _); rw [arrV_size]; exact hin) rfl rfl hd fun H1 e z oq => ?_
  refine kk H1 _ (q_wr Y (q_lo Y ⟨by rw [hK]; omega, by rw [hK]; omega⟩) z oq (fun b hb => q_E_V rfl rfl rfl (q_A_ne hb) rfl rfl) (fun _ => rfl) (fun _ => rfl) fun y hy => ?_)
  rw [q_E_ir (S := qs_A S a i.toNatClampNeg (vp_nar .boolean x)) (k := 22) hK (by omega) (by omega)] at hy
  cases hy
  show H1[a]? = some (vp_cell _ _)
  rw [e, vp_cell_i, vp_cell_i, arrV_store, q_A_self]
  congr 2
  funext q
  by_cases hq : q = i.toNatClampNeg
  · subst hq
    simp [updV, upd, vp_nar]
    try rfl
  · simp [updV, upd, hq]
theorem q_lst (X : q_X p s m args meth c own cc nL ret D cy lo) (Y : q_Y D cy lo s S H locs) {i : Int32} {x : Int64} (hK : q_K S a = 23) (hin : vp_in i (q_N S a)) (hd : decode cc pc = .ok (.lastore, 1))
    (kk : ∀ (H1 : Heap) (locs1 : List Loc), q_Y D cy lo s (qs_B S a i.toNatClampNeg x) H1 locs1 → W p l e R s m args below meth c H1 locs1 cells slots Q (F0 m (pc + 1) ls rest)) : W p l e R s m args below meth c H locs cells slots Q (F0 m pc ls (.long x :: .int i :: .ref a :: rest)) := by
  refine W.last X.1 X.2.1 (Y.1.1 a _ (q_E_jr hK)) ((X.2.2.2.2.2.1.2 3 _ rfl).1 _ (fun j => .long (q_B S a j))) (fun q => by cases q) (by show ¬ (i < 0 ∨ (arrV _ _ _).slots.size ≤ _); rw [arrV_size]; exact hin) rfl rfl hd fun H1 e z oq => ?_
  refine kk H1 _ (q_wr Y (q_lo Y ⟨by rw [hK]; omega, by rw [hK]; omega⟩) z oq (fun b hb => q_E_V rfl rfl rfl rfl (q_B_ne hb) rfl) (fun _ => rfl) (fun _ => rfl) fun y hy => ?_)
  rw [q_E_jr (S := qs_B S a i.toNatClampNeg x) hK] at hy
  cases hy
  show H1[a]? = some (vp_cell _ _)
  rw [e, vp_cell_l, vp_cell_l, arrV_store, q_B_self]
  congr 2
  funext q
  by_cases hq : q = i.toNatClampNeg
  · subst hq; simp [updV, vp_updL]
  · simp [updV, vp_updL, hq]
end QR2
