section QR
variable {p : Program} {l : Launch} {e : Env} {R : Room} {s : State} {m : MethodId} {args : Array Value} {below : List Frame} {meth : Method} {c : Code} {H : Heap} {locs : List Loc} {cells slots : Nat} {Q : State → Prop}
variable {own : String} {cc : ByteArray} {nL pc : Nat} {ret : Option FieldType} {D : va_G} {cy : Nat → ClassId} {lo : Nat} {S : q_S} {ls : Array Slot} {rest : List Value} {a : Nat}
theorem q_at {k : Nat} {x : va_E} (Y : q_Y D cy lo s S H locs) (h : q_E cy S a = some x) : va_at D vwCl (a, x) H := Y.1.1 a x h
theorem q_lo (Y : q_Y D cy lo s S H locs) (h : q_K S a ≠ 0 ∧ q_K S a < 30) : lo ≤ a := Y.1.2.1 a h.1 h.2
/-- after a write at a alone -/
theorem q_wr {S' : q_S} {H1 : Heap} {k : Nat} (Y : q_Y D cy lo s S H locs) (ha : lo ≤ a) (z : H1.size = H.size) (oq : ∀ q : Nat, q ≠ a → H1[q]? = H[q]?) (hE : ∀ b, b ≠ a → q_E cy S' b = q_E cy S b) (hK : ∀ b, q_K S' b = q_K S b) (hN : ∀ b, q_N S' b = q_N S b) (hx : ∀ x, q_E cy S' a = some x → va_at D vwCl (a, x) H1) : q_Y D cy lo s S' H1 (locs ++ [⟨a, k⟩]) := by
  refine ⟨⟨fun b x hb => ?_, fun b hb hb2 => Y.1.2.1 b (by rw [← hK]; exact hb) (by rw [← hK]; exact hb2), Y.1.2.2.same hK hN⟩, Y.2.put z oq ha⟩
  by_cases h : b = a
  · subst h; exact hx x hb
  · rw [hE b h] at hb
    exact (Y.1.1 b x hb).kept (oq b h)
/-- after a cell was made at the heap's end -/
theorem q_nw {S' : q_S} {H1 : Heap} (X : q_X p s m args meth c own cc nL ret D cy lo) (Y : q_Y D cy lo s S H locs) (z : H1.size = H.size + 1) (oq : ∀ q : Nat, q < H.size → H1[q]? = H[q]?) (hE : ∀ b, b ≠ H.size → q_E cy S' b = q_E cy S b) (hK : ∀ b, b ≠ H.size → q_K S' b = q_K S b) (hN : ∀ b, b ≠ H.size → q_N S' b = q_N S b) (hk30 : q_K S' H.size < 30) (hx : ∀ x, q_E cy S' H.size = some x → va_at D vwCl (H.size, x) H1) : q_Y D cy lo s S' H1 locs := by
  have hlo : lo ≤ H.size := Nat.le_trans X.2.2.2.2.2.2.2.1 Y.2.1
  refine ⟨⟨fun b x hb => ?_, fun b hb hb2 => ?_, Y.1.2.2.grow hlo hK hN hk30⟩, Nat.le_trans Y.2.1 (by omega), fun q h1 h2 => (oq q (Nat.lt_of_lt_of_le h1 Y.2.1)).trans (Y.2.2.1 q h1 h2), Y.2.2.2⟩
  · by_cases h : b = H.size
    · subst h; exact hx x hb
    · rw [hE b h] at hb
      exact (Y.1.1 b x hb).kept (oq b (Y.1.1 b x hb).lt)
  · by_cases h : b = H.size
    · rw [h]; exact hlo
    · exact Y.1.2.1 b (by rw [← hK b h]; exact hb) (by rw [← hK b h]; exact hb2)
theorem q_fresh (hlo : lo ≤ H.size) (Y : q_Y D cy lo s S H locs) : q_K S H.size = 0 := by
  by_cases h : q_K S H.size = 0
  · exact h
  · by_cases h3 : 30 ≤ q_K S H.size
    · have h4 := Y.1.2.2.2.2.2 H.size
      by_cases h5 : q_K S H.size = 30
      · have h6 := Y.1.2.2.2.1 _ h5
        have h7 := (Y.1.2.2.1 _ h6.2).2.2.2.2.1
        rw [← h6.1] at h7
        exact absurd h7 (Nat.not_lt.mpr hlo)
      · have h6 := Y.1.2.2.2.2.1 H.size (by omega)
        have h7 := (Y.1.2.2.1 _ h6.2).2.2.2.2.2
        rw [← h6.1] at h7
        exact absurd h7 (Nat.not_lt.mpr hlo)
    · have : ∃ x, q_E cy S H.size = some x := by
        unfold q_E
        rw [if_neg h, if_neg h3]
        split
        · exact ⟨_, rfl⟩
        · split
          · exact ⟨_, rfl⟩
          · split <;> exact ⟨_, rfl⟩
      obtain ⟨x, hx⟩ := this
      exact absurd (Y.1.1 _ x hx).lt (Nat.lt_irrefl _)
/-- a field is read -/
theorem q_get (X : q_X p s m args meth c own cc nL ret D cy lo) (Y : q_Y D cy lo s S H locs) {C : String} {T : u_T} {N ci idx : Nat} (k : Nat) {v : Value} (hc : vwCl[ci]? = some (C, T, N)) (hi : ∀ w ∈ u_ws C T N, w ∈ q_G) (hl : Cond.fieldLink own idx (T k).1 (T k).2.1 (T k).2.2.1 ∈ q_G) (hK : q_K S a = ci + 1) (hn : k < N ∧ ci < 19) (hv : ((q_F ci).map (q_V S a))[k]? = some v) (hd : decode cc pc = .ok (.getfield idx, 3))
    (kk : W p l e R s m args below meth c H locs cells slots Q (F0 m (pc + 3) ls (v :: rest))) : W p l e R s m args below meth c H locs cells slots Q (F0 m pc ls (.ref a :: rest)) := by
  obtain ⟨hx, hb, hml, ho, hts, hk, hN, hlo, hr, hlk⟩ := X
  have hP : va_P D vwCl [(a, .inr (ci, (q_F ci).map (q_V S a)))] H := fun i q hq => by
    have hz : i < 1 := (List.getElem?_eq_some_iff.mp hq).1
    rw [show i = 0 by omega] at hq
    cases hq
    exact Y.1.1 a _ (q_E_ob hK hn.2)
  exact va_get hx hb hts hi ho hk hP 0 rfl hc k hn.1 (hts _ hl) (fun _ h => h) hv hd kk
theorem q_put (X : q_X p s m args meth c own cc nL ret D cy lo) (Y : q_Y D cy lo s S H locs) {C : String} {T : u_T} {N ci idx : Nat} (k : Nat) {v : Value} {ty : FieldType} {S' : q_S} (hc : vwCl[ci]? = some (C, T, N)) (hi : ∀ w ∈ u_ws C T N, w ∈ q_G) (ty0 : Nat → FieldType) (hty : ∀ k, k < N → parseFieldDescriptor (T k).2.2.1 = some (ty0 k)) (hnm : ∀ a, a < N → ∀ b, b < N → a ≠ b → (T a).2.1 ≠ (T b).2.1) (hl : Cond.fieldLink own idx (T k).1 (T k).2.1 (T k).2.2.1 ∈ q_G) (hfin : (T k).2.2.2 = false ∨ ((T k).2.2.2 = true ∧ meth.name = "<init>" ∧ (T k).1 = own)) (hK : q_K S a = ci + 1) (hn : k < N ∧ ci < 19 ∧ k < (q_F ci).length)
    (hd : parseFieldDescriptor (T k).2.2.1 = some ty) (hna : narrow ty v = v) (hfit : fits ty v = true)
    (hE : ∀ b, b ≠ a → q_E cy S' b = q_E cy S b) (hKK : ∀ b, q_K S' b = q_K S b) (hNN : ∀ b, q_N S' b = q_N S b) (hS : (q_F ci).map (q_V S' a) = ((q_F ci).map (q_V S a)).set k v) (hdg : decode cc pc = .ok (.putfield idx, 3))
    (kk : ∀ (H1 : Heap) (locs1 : List Loc), q_Y D cy lo s S' H1 locs1 → W p l e R s m args below meth c H1 locs1 cells slots Q (F0 m (pc + 3) ls rest)) : W p l e R s m args below meth c H locs cells slots Q (F0 m pc ls (v :: .ref a :: rest)) := by
  obtain ⟨hx, hb, hml, ho, hts, hk, hN, hlo, hr, hlk⟩ := X
  have hap := va_apart (own := own) hts hi ty0 hty hnm hk hc
  obtain ⟨r, h1, cell, q1, q2, q3, q4⟩ := Y.1.1 a _ (q_E_ob hK hn.2.1)
  have hrr : r = (C, T, N) := Option.some.inj (h1.symm.trans hc)
  subst hrr
  obtain ⟨hSl, hfc, kC, hkC, hkind⟩ := hk.1 ci _ hc
  obtain ⟨cf, kf, fi, f, hif, hsl⟩ := hSl k hn.1
  have hst := (u_facts hfc hkC (u_lays hts hi hn.1) hif).1
  have hla : lo ≤ a := Y.1.2.1 a (by rw [hK]; omega) (by rw [hK]; omega)
  have fin : ∀ (H1 : Heap), H1[a]? = some (cell.setSlot f.slot v) → H1.size = H.size → (∀ q, q ≠ a → H1[q]? = H[q]?) → q_Y D cy lo s S' H1 (locs ++ [⟨a, f.slot⟩]) := by
    intro H1 e1 e2 e3
    refine q_wr Y hla e2 e3 hE hKK hNN fun x hxx => ?_
    rw [q_E_ob (S := S') (by rw [hKK]; exact hK) hn.2.1] at hxx
    cases hxx
    rw [hS]
    rw [hsl] at e1
    exact ⟨_, hc, t_OB.to (V := updV (vp_V ((q_F ci).map (q_V S a))) k v) ⟨_, e1, q2, q3, t_set q4 hap hn.1 v⟩ (fun j _ => vp_updV_set (by rw [List.length_map]; exact hn.2.2) v j)⟩
  rcases hfin with hfin | ⟨hfin, hin2, hdecl⟩
  · have hlay := hts _ (hi _ (u_in_lay hn.1))
    unfold u_lay at hlay
    rw [if_neg (by rw [hfin]; decide)] at hlay
    have h6 := u_store hfc hkC hkind hlay hif hd hna hfit
    exact W.putK hx hb (f := f) ⟨ho, hts _ hl, ⟨_, _, _, hif⟩, hst⟩ (by rw [q2]; exact h6) q1 q3 (by rw [hsl]; exact k2_hasslot (q4 k hn.1)) rfl rfl hdg fun H' e1 e2 e3 => kk H' _ (fin H' e1 e2 e3)
  · have hlay := hts _ (hi _ (u_in_lay hn.1))
    unfold u_lay at hlay
    rw [if_pos hfin] at hlay
    have hcf : m.cls = cf := by
      obtain ⟨_, _, c', _, _, _, -, -, hf', -, -, -, hown2, -⟩ := Cond.laysFinal_spec hlay
      have e1 : c' = cf := by have := hif.symm.trans hf'; simp at this; exact this.1.symm
      rw [hdecl] at hown2
      rw [← e1]; exact Option.some.inj (ho.symm.trans hown2)
    have h6 := u_fits hfc hkC hkind (Or.inr hlay) hif hd hna hfit
    exact W.putFinK hx hb ho (hts _ hl) hif hst hcf hin2 (by rw [q2]; exact h6) q1 q3 (by rw [hsl]; exact k2_hasslot (q4 k hn.1)) rfl rfl hdg fun H' e1 e2 e3 => kk H' _ (fin H' e1 e2 e3)
theorem q_V_I {f b : Nat} {v : Int32} (h : b ≠ a) : q_V (qs_I S f a v) b = q_V S b := by
  funext q
  unfold q_V
  split
  · show Value.int (if q.2 = f ∧ b = a then v else q_I S q.2 b) = _
    rw [if_neg (fun z => h z.2)]
  · rfl
  · rfl
theorem q_V_J {f b : Nat} {v : Int64} (h : b ≠ a) : q_V (qs_J S f a v) b = q_V S b := by
  funext q
  unfold q_V
  split
  · rfl
  · show Value.long (if q.2 = f ∧ b = a then v else q_J S q.2 b) = _
    rw [if_neg (fun z => h z.2)]
  · rfl
theorem q_V_P {f b : Nat} {v : Option Nat} (h : b ≠ a) : q_V (qs_P S f a v) b = q_V S b := by
  funext q
  unfold q_V
  split
  · rfl
  · rfl
  · show va_rf (if q.2 = f ∧ b = a then v else q_P S q.2 b) = _
    rw [if_neg (fun z => h z.2)]
theorem q_E_V {S' : q_S} {b : Nat} (hK : q_K S' b = q_K S b) (hV : q_V S' b = q_V S b) (hN : q_N S' b = q_N S b) (hA : q_A S' b = q_A S b) (hB : q_B S' b = q_B S b) (hC : q_C S' b = q_C S b) : q_E cy S' b = q_E cy S b := by
  unfold q_E
  rw [hK, hV, hN, hA, hB, hC]
theorem q_Fid {ci j : Nat} {q : Nat × Nat} (h : (q_F ci)[j]? = some q) : q.2 = 200 * ci + j := by
  have key : ∀ ci, (q_F ci).map (·.2) = (List.range (q_F ci).length).map (200 * ci + ·) := by
    intro ci
    match ci with
    | 0 => decide
    | 1 => decide
    | 2 => decide
    | 3 => decide
    | 4 => decide
    | 5 => decide
    | 6 => decide
    | 7 => decide
    | 8 => decide
    | 9 => decide
    | 10 => decide
    | 11 => decide
    | 12 => decide +kernel
    | _ + 13 => rfl
  have h1 : ((q_F ci).map (·.2))[j]? = some q.2 := by rw [List.getElem?_map, h]; rfl
  rw [key ci, List.getElem?_map] at h1
  have hlt : j < (q_F ci).length := (List.getElem?_eq_some_iff.mp h).1
  rw [List.getElem?_range hlt] at h1
  exact (Option.some.inj h1).symm
theorem q_map {S' : q_S} {ci k f : Nat} {t : Nat} {v : Value} (hk : (q_F ci)[k]? = some (t, f)) (h1 : q_V S' a (t, f) = v) (h2 : ∀ q : Nat × Nat, q.2 ≠ f → q_V S' a q = q_V S a q) : (q_F ci).map (q_V S' a) = ((q_F ci).map (q_V S a)).set k v := by
  refine List.ext_getElem? fun j => ?_
  rw [List.getElem?_map, List.getElem?_set, List.length_map, List.getElem?_map]
  have hlt : k < (q_F ci).length := (List.getElem?_eq_some_iff.mp hk).1
  by_cases h : k = j
  · subst h
    rw [if_pos rfl, if_pos hlt, hk]
    exact congrArg some h1
  · rw [if_neg h]
    cases hj : (q_F ci)[j]? with
    | none => rfl
    | some q =>
      refine congrArg some (h2 q fun z => h ?_)
      have e1 := q_Fid hj
      have e2 : f = 200 * ci + k := q_Fid hk
      omega
theorem qs_2_self {α : Type} (g : Nat → Nat → α) (f a : Nat) (v : α) : qs_2 g f a v f a = v := by unfold qs_2; rw [if_pos ⟨rfl, rfl⟩]
theorem qs_2_f {α : Type} (g : Nat → Nat → α) {f a f' a' : Nat} (v : α) (h : f' ≠ f) : qs_2 g f a v f' a' = g f' a' := by unfold qs_2; rw [if_neg (fun z => h z.1)]
theorem qs_2_a {α : Type} (g : Nat → Nat → α) {f a f' a' : Nat} (v : α) (h : a' ≠ a) : qs_2 g f a v f' a' = g f' a' := by unfold qs_2; rw [if_neg (fun z => h z.2)]
end QR
