section QR5
variable {p : Program} {l : Launch} {e : Env} {R : Room} {s : State} {m : MethodId} {args : Array Value} {below : List Frame} {meth : Method} {c : Code} {H : Heap} {locs : List Loc} {cells slots : Nat} {Q : State → Prop}
variable {own : String} {cc : ByteArray} {nL pc : Nat} {ret : Option FieldType} {D : va_G} {cy : Nat → ClassId} {lo : Nat} {S : q_S} {ls : Array Slot} {rest : List Value} {a : Nat}
theorem q_txt (Y : q_Y D cy lo s S H locs) {i : Nat} (hi : i < 15) : q_K S (cy (100 + 2 * i)) = 30 ∧ q_N S (cy (100 + 2 * i)) = i := ⟨(Y.1.2.2.1 i hi).1, (Y.1.2.2.1 i hi).2.1⟩
theorem q_ldcs (X : q_X p s m args meth c own cc nL ret D cy lo) (Y : q_Y D cy lo s S H locs) {idx : Nat} {tx : String} (i : Nat) (hr : q_sr[i]? = some (own, idx, tx)) (hi : i < 15) (hd : decode cc pc = .ok (.ldc idx, 2))
    (kk : ∀ b : Nat, q_K S b = 30 → q_N S b = i → W p l e R s m args below meth c H locs cells slots Q (F0 m (pc + 2) ls (.ref b :: rest))) : W p l e R s m args below meth c H locs cells slots Q (F0 m pc ls rest) :=
  va_ldcS X.1 X.2.1 X.2.2.2.1 (X.2.2.2.2.2.2.1.2.2.2.1 i _ hr) hd (kk _ (q_txt Y hi).1 (q_txt Y hi).2)
theorem q_ldcsw (X : q_X p s m args meth c own cc nL ret D cy lo) (Y : q_Y D cy lo s S H locs) {idx : Nat} {tx : String} (i : Nat) (hr : q_sr[i]? = some (own, idx, tx)) (hi : i < 15) (hd : decode cc pc = .ok (.ldc_w idx, 3))
    (kk : ∀ b : Nat, q_K S b = 30 → q_N S b = i → W p l e R s m args below meth c H locs cells slots Q (F0 m (pc + 3) ls (.ref b :: rest))) : W p l e R s m args below meth c H locs cells slots Q (F0 m pc ls rest) := by
  intro T hT X0
  have hZ := X.2.2.2.2.2.2.1.2.2.2.1 i _ hr
  obtain ⟨k, cf, i', a', hk, hcf, hcp, -, hrr, hev'⟩ := Cond.stringRef_spec X.2.2.2.1 hZ.1
  cases hZ.2.symm.trans hev'
  obtain ⟨k', hk', he⟩ := X0.warmed.alike.2.2 _ _ hk
  have hr' : k'.resolved[idx]? = some (some (.string (cy (100 + 2 * i)))) := by
    rcases X0.warmed.entry hk hk' idx with h | ⟨h, -⟩
    · rw [h]; exact hrr
    · rw [hrr] at h; cases h
  obtain ⟨t, a1, b1⟩ := kk _ (q_txt Y hi).1 (q_txt Y hi).2 T hT X0
  refine ⟨t, ?_, b1⟩
  have hdg : decode c.code pc = .ok (.ldc_w idx, 3) := by rw [X.2.1]; exact hd
  jvm_step X0.here [X.1, hdg, ldc_w.wp_string (e := e) (s := T) (f := F0 m pc ls rest) X0.here.top hk' (by rw [he]; exact hcf) hcp hr']
  exact a1
theorem q_tK (Y : q_Y D cy lo s S H locs) (h : q_K S a = 30) : ∃ i, i < 15 ∧ q_N S a = i ∧ a = cy (100 + 2 * i) := ⟨_, (Y.1.2.2.2.1 a h).2, rfl, (Y.1.2.2.2.1 a h).1⟩
theorem q_tV (Y : q_Y D cy lo s S H locs) (h : q_K S a = 31) : ∃ i, i < 15 ∧ q_N S a = i ∧ a = cy (101 + 2 * i) := ⟨_, (Y.1.2.2.2.2.1 a h).2, rfl, (Y.1.2.2.2.2.1 a h).1⟩
/-- a text's bytes -/
theorem q_sval (X : q_X p s m args meth c own cc nL ret D cy lo) (Y : q_Y D cy lo s S H locs) {idx : Nat} (hl : Cond.fieldLink own idx "java/lang/String" "value" "[B" ∈ q_G) (hK : q_K S a = 30) (hd : decode cc pc = .ok (.getfield idx, 3))
    (kk : ∀ b : Nat, q_K S b = 31 → q_N S b = q_N S a → W p l e R s m args below meth c H locs cells slots Q (F0 m (pc + 3) ls (.ref b :: rest))) : W p l e R s m args below meth c H locs cells slots Q (F0 m pc ls (.ref a :: rest)) := by
  obtain ⟨i, hi, e1, rfl⟩ := q_tK Y hK
  have h1 := Y.1.2.2.1 i hi
  exact vk_getf X.1 X.2.1 (X.2.2.2.2.2.2.1.2.2.1.1 i hi).2.2.1 Y.2 X.2.2.2.1 (X.2.2.2.2.1 _ hl) (fun _ h => h) hd (kk _ h1.2.2.1 (h1.2.2.2.1.trans e1.symm))
theorem q_scod (X : q_X p s m args meth c own cc nL ret D cy lo) (Y : q_Y D cy lo s S H locs) {idx : Nat} (hl : Cond.fieldLink own idx "java/lang/String" "coder" "B" ∈ q_G) (hK : q_K S a = 30) (hd : decode cc pc = .ok (.getfield idx, 3))
    (kk : W p l e R s m args below meth c H locs cells slots Q (F0 m (pc + 3) ls (.int 0 :: rest))) : W p l e R s m args below meth c H locs cells slots Q (F0 m pc ls (.ref a :: rest)) := by
  obtain ⟨i, hi, e1, rfl⟩ := q_tK Y hK
  exact vk_getf X.1 X.2.1 (X.2.2.2.2.2.2.1.2.2.1.1 i hi).2.1 Y.2 X.2.2.2.1 (X.2.2.2.2.1 _ hl) (fun _ h => h) hd kk
theorem q_scmp (X : q_X p s m args meth c own cc nL ret D cy lo) (Y : q_Y D cy lo s S H locs) {idx : Nat} (hl : Cond.fieldLink own idx "java/lang/String" "COMPACT_STRINGS" "Z" ∈ q_G) (hd : decode cc pc = .ok (.getstatic idx, 3))
    (kk : W p l e R s m args below meth c H locs cells slots Q (F0 m (pc + 3) ls (.int 1 :: rest))) : W p l e R s m args below meth c H locs cells slots Q (F0 m pc ls rest) :=
  va_gets X.1 X.2.1 X.2.2.2.2.2.2.1.2.2.2.2.2.2.1 Y.2 X.2.2.2.1 (X.2.2.2.2.1 _ hl) (fun _ h => h) hd kk
theorem q_sfmt (X : q_X p s m args meth c own cc nL ret D cy lo) (Y : q_Y D cy lo s S H locs) {idx : Nat} (hl : Cond.fieldLink own idx "jdk/internal/util/Preconditions" "SIOOBE_FORMATTER" "Ljava/util/function/BiFunction;" ∈ q_G) (hd : decode cc pc = .ok (.getstatic idx, 3))
    (kk : ∀ r : Option Nat, W p l e R s m args below meth c H locs cells slots Q (F0 m (pc + 3) ls (va_rf r :: rest))) : W p l e R s m args below meth c H locs cells slots Q (F0 m pc ls rest) := by
  rcases X.2.2.2.2.2.2.1.2.2.2.2.2.2.2 with h | ⟨t, h⟩
  · exact va_gets X.1 X.2.1 h Y.2 X.2.2.2.1 (X.2.2.2.2.1 _ hl) (fun _ h => h) hd (kk none)
  · exact va_gets X.1 X.2.1 h Y.2 X.2.2.2.1 (X.2.2.2.2.1 _ hl) (fun _ h => h) hd (kk (some t))
theorem q_slen (X : q_X p s m args meth c own cc nL ret D cy lo) (Y : q_Y D cy lo s S H locs) (hK : q_K S a = 31) (hd : decode cc pc = .ok (.arraylength, 1))
    (kk : W p l e R s m args below meth c H locs cells slots Q (F0 m (pc + 1) ls (.int (nI (q_sl.getD (q_N S a) 0)) :: rest))) : W p l e R s m args below meth c H locs cells slots Q (F0 m pc ls (.ref a :: rest)) := by
  obtain ⟨i, hi, e1, rfl⟩ := q_tV Y hK
  rw [e1] at kk
  exact va_tlen X.1 X.2.1 (X.2.2.2.2.2.2.1.2.2.1.1 i hi).2.2.2 Y.2 rfl hd kk
theorem q_sbld (X : q_X p s m args meth c own cc nL ret D cy lo) (Y : q_Y D cy lo s S H locs) {j : Int32} (hK : q_K S a = 31) (hin : vp_in j (q_sl.getD (q_N S a) 0)) (hd : decode cc pc = .ok (.baload, 1))
    (kk : W p l e R s m args below meth c H locs cells slots Q (F0 m (pc + 1) ls (.int ((q_sb.getD (q_N S a) []).getD j.toNatClampNeg 0) :: rest))) : W p l e R s m args below meth c H locs cells slots Q (F0 m pc ls (.int j :: .ref a :: rest)) := by
  obtain ⟨i, hi, e1, rfl⟩ := q_tV Y hK
  rw [e1] at kk hin
  exact va_tb X.1 X.2.1 (X.2.2.2.2.2.2.1.2.2.1.1 i hi).2.2.2 Y.2 hin rfl hd kk
theorem q_callT {As st0 : List Value} {b : Nat} {lv : List (Nat × Value)} {idx np : Nat} {y : MethodName} {by0 : ByteArray} {n : Nat} {r : Option FieldType} {fr lc mc ms : Nat} {Post : Option Value → q_S → Prop} (X : q_X p s m args meth c own cc nL ret D cy lo) (Y : q_Y D cy lo s S H locs) (hl : lv_has ls nL lv)
    (hM : q_Met l D cy lo y by0 n r fr lc mc ms (.ref b :: As) S Post) (hy : q_Mt y by0 n r np) (hi : Cond.instanceMethod y ∈ q_G ∧ Cond.selects y.cls y y ∈ q_G) (hk : Cond.methodLink own idx y ∈ q_G) (hC : y.cls = "java/lang/String") (hK : q_K S b = 30) (hst : st0 = As.reverse ++ .ref b :: rest) (hn : As.length = np) (hw : (rest.map fun v => v.category).sum ≤ 8) (hR : fr + 1 ≤ R.frames ∧ 8 + (n + 11) + lc ≤ R.locals) (hf : cells + mc ≤ R.cells ∧ slots + ms ≤ R.slots) (hd : decode cc pc = .ok (.invokevirtual idx, 3))
    (kk : ∀ (r : Option Value) (S' : q_S) (H1 : Heap) (locs1 : List Loc), Post r S' → q_Y D cy lo s S' H1 locs1 → W p l e R s m args below meth c H1 locs1 (cells + mc) (slots + ms) Q (F0 m (pc + 3) ls (r.toList ++ rest))) : W p l e R s m args below meth c H locs cells slots Q (F0 m pc ls st0) := by
  obtain ⟨i, hi2, e1, rfl⟩ := q_tK Y hK
  have hrc := vk_recv X.2.2.2.2.2.2.1.2.2.1 hi2 Y.2
  exact q_goon (va_runV (C := y.cls) (q_fix X) hM ⟨q_cb X hy hk hR, X.2.2.2.2.1 _ hi.1, X.2.2.2.2.1 _ hi.2⟩ ⟨q_blind, by rw [hC]; exact hrc, q_pre X Y⟩ rfl hn hl.1 hst (lv_room hw) hd hf) Y kk
/-- a private static method of a nest mate -/
theorem q_callSN {As st0 : List Value} {lv : List (Nat × Value)} {idx np : Nat} {host : String} {y : MethodName} {by0 : ByteArray} {n : Nat} {r : Option FieldType} {fr lc mc ms : Nat} {Post : Option Value → q_S → Prop} (X : q_X p s m args meth c own cc nL ret D cy lo) (Y : q_Y D cy lo s S H locs) (hl : lv_has ls nL lv)
    (hM : q_Met l D cy lo y by0 n r fr lc mc ms As S Post) (hy : q_Mt y by0 n r np) (hi : Cond.static y ∈ q_G) (hk : Cond.methodLinkNest own idx y host ∈ q_Nw) (hst : st0 = As.reverse ++ rest) (hn : As.length = np) (hw : (rest.map fun v => v.category).sum ≤ 8) (hR : fr + 1 ≤ R.frames ∧ 8 + (n + 11) + lc ≤ R.locals) (hf : cells + mc ≤ R.cells ∧ slots + ms ≤ R.slots) (hd : decode cc pc = .ok (.invokestatic idx, 3))
    (kk : ∀ (r : Option Value) (S' : q_S) (H1 : Heap) (locs1 : List Loc), Post r S' → q_Y D cy lo s S' H1 locs1 → W p l e R s m args below meth c H1 locs1 (cells + mc) (slots + ms) Q (F0 m (pc + 3) ls (r.toList ++ rest))) : W p l e R s m args below meth c H locs cells slots Q (F0 m pc ls st0) := by
  have hts : ∀ w ∈ Cond.code y by0 n r :: q_G, w.before args s = true := fun w hw => (List.mem_cons.mp hw).elim (fun h => h ▸ X.2.2.2.2.1 _ hy.1) (X.2.2.2.2.1 w)
  exact q_goon (va_runSN (q_fix X) hM ⟨va_cnB np hts (q_GG hy.1) rfl rfl rfl (X.2.2.2.2.2.2.1.1 _ hk) (X.2.2.2.2.1 _ hy.2.1) hy.2.2 hR, X.2.2.2.2.1 _ hi, trivial⟩ ⟨q_blind, q_pre X Y⟩ rfl hn hl.1 hst (lv_room hw) hd hf) Y kk
/-- a row's whole contents -/
def qs_G (S : q_S) (a : Nat) (g : Nat → Int32) : q_S := (S.1, S.2.1, S.2.2.1, S.2.2.2.1, S.2.2.2.2.1, (fun a' i => if a' = a then g i else S.2.2.2.2.2.1 a' i), S.2.2.2.2.2.2)
theorem qs_G_ne {b : Nat} {g : Nat → Int32} (h : b ≠ a) : q_A (qs_G S a g) b = q_A S b := by
  funext i
  show (if b = a then g i else q_A S b i) = _
  rw [if_neg h]
theorem qs_G_self {g : Nat → Int32} : q_A (qs_G S a g) a = g := by
  funext i
  show (if a = a then g i else q_A S a i) = _
  rw [if_pos rfl]
/-- System.arraycopy between two rows of ints, or of bytes -/
theorem q_copy (X : q_X p s m args meth c own cc nL ret D cy lo) (Y : q_Y D cy lo s S H locs) {lv : List (Nat × Value)} (hl : lv_has ls nL lv) {idx k t a0 : Nat} {ty : FieldType} (hlink : Cond.methodLink own idx arraycopyName ∈ q_G) (hnat : Cond.native arraycopyName ∈ q_G) (hstat : Cond.static arraycopyName ∈ q_G) (hini : Cond.initialized "java/lang/System" ∈ q_G) (hk : k = 20 ∨ k = 21) (h0 : q_K S a0 = k) (h1 : q_K S a = k) (ht : (q_T cy)[t]? = some (cy k, ty)) (hprim : refKind ty = false)
    {sp dp n : Int32} (g1 : ¬ sp < 0) (g2 : ¬ dp < 0) (g3 : ¬ n < 0) (g4 : sp.toNatClampNeg + n.toNatClampNeg ≤ q_N S a0) (g5 : dp.toNatClampNeg + n.toNatClampNeg ≤ q_N S a) (hfit : ∀ i, i < n.toNatClampNeg → fits ty (.int (q_A S a0 (sp.toNatClampNeg + i))) = true)
    (hR : 1 ≤ R.frames ∧ (rest.map fun v => v.category).sum + (nativeFrameWords "java/lang/System" "arraycopy" 5 + 11) ≤ R.locals) (hd : decode cc pc = .ok (.invokestatic idx, 3))
    (kk : ∀ (H1 : Heap) (locs1 : List Loc), q_Y D cy lo s (qs_G S a (va_cpy (q_A S a0) (q_A S a) sp.toNatClampNeg dp.toNatClampNeg n.toNatClampNeg)) H1 locs1 → W p l e R s m args below meth c H1 locs1 cells slots Q (F0 m (pc + 3) ls rest)) : W p l e R s m args below meth c H locs cells slots Q (F0 m pc ls (.int n :: .int dp :: .ref a :: .int sp :: .ref a0 :: rest)) := by
  have nn : ∀ z : Int32, ¬ z < 0 → z.toInt = (z.toNatClampNeg : Int) := by
    intro z hz
    have hz0 : (0 : Int) ≤ z.toInt := by
      have := Int32.not_lt.mp hz
      simpa using Int32.le_iff_toInt_le.mp this
    show z.toInt = ((z.toInt.toNat : Nat) : Int)
    omega
  have hkl : 20 ≤ k ∧ k < 23 := by omega
  intro T hT X0
  obtain ⟨hx, hb, hml, ho, hts, hK, hN, hlo, hr, hlk⟩ := X
  have hc0 : H[a0]? = some (vp_cell (cy k) (q_N S a0, .inl (q_A S a0))) := Y.1.1 a0 _ (q_E_ir h0 hkl.1 hkl.2)
  have hc1 : H[a]? = some (vp_cell (cy k) (q_N S a, .inl (q_A S a))) := Y.1.1 a _ (q_E_ir h1 hkl.1 hkl.2)
  obtain ⟨-, k0, hk0, cm0, hkk0⟩ := (hK.2 t _ ht).1 (q_N S a0) (fun j => .int (q_A S a0 j))
  obtain ⟨-, k1, hk1, cm1, hkk1⟩ := (hK.2 t _ ht).1 (q_N S a) (fun j => .int (q_A S a j))
  obtain ⟨vm', X', step⟩ := X0.arraycopy hx ho (hts _ hlink) (hts _ hnat) (hts _ hstat) (hts _ hini) (src := a0) (dst := a) (cs := vp_cell (cy k) (q_N S a0, .inl (q_A S a0))) (cd := vp_cell (cy k) (q_N S a, .inl (q_A S a))) (srcPos := sp) (destPos := dp) (n := n) (by rw [hT]; exact hc0) (by rw [hT]; exact hc1)
    (fun _ h => by cases h) (fun _ h => by cases h) (fun h => by cases h) (fun h => by cases h) hk0 hk1 hkk0 hkk1 (by simp [hprim]) g1 g2 g3
    (by rw [nn sp g1, nn n g3]; show ¬ _ > ((arrV (cy k) (q_N S a0) (fun j => .int (q_A S a0 j))).slots.size : Int); rw [arrV_size]; omega)
    (by rw [nn dp g2, nn n g3]; show ¬ _ > ((arrV (cy k) (q_N S a) (fun j => .int (q_A S a j))).slots.size : Int); rw [arrV_size]; omega)
    (fun vm₁ _ i hi => by
      have e : (vp_cell (cy k) (q_N S a0, .inl (q_A S a0))).slots.getD (sp.toNatClampNeg + i) .null = .int (q_A S a0 (sp.toNatClampNeg + i)) := by
        show (arrV (cy k) (q_N S a0) (fun j => .int (q_A S a0 j))).slots.getD _ _ = _
        rw [Array.getD_eq_getD_getElem?, arrV_read _ _ (by omega)]
        rfl
      refine ⟨?_, ?_⟩
      · rw [e]
        exact hfit i hi
      · rw [e]
        exact trivial)
    (g := F0 m pc ls (.int n :: .int dp :: .ref a :: .int sp :: .ref a0 :: rest)) rfl (by rw [hml]; exact hl.1) (rest := rest) rfl (by rw [hb]; exact hd) hR.1 (by have := hR.2; show 2 * 0 + _ + _ ≤ _; omega)
  have e1 : copied (vp_cell (cy k) (q_N S a0, .inl (q_A S a0))) (vp_cell (cy k) (q_N S a, .inl (q_A S a))) sp dp n = vp_cell (cy k) (q_N S a, .inl (va_cpy (q_A S a0) (q_A S a) sp.toNatClampNeg dp.toNatClampNeg n.toNatClampNeg)) := va_copied (fun z => .int z) (cy k) (cy k) (q_A S a0) (q_A S a) g4
  rw [e1] at X' step
  have hlt : a < H.size := (Array.getElem?_eq_some_iff.mp hc1).1
  generalize hH1 : H.setIfInBounds a (vp_cell (cy k) (q_N S a, .inl (va_cpy (q_A S a0) (q_A S a) sp.toNatClampNeg dp.toNatClampNeg n.toNatClampNeg))) = H1
  have hheap : ((T.setVm vm').setCell a (vp_cell (cy k) (q_N S a, .inl (va_cpy (q_A S a0) (q_A S a) sp.toNatClampNeg dp.toNatClampNeg n.toNatClampNeg)))).heap = H1 := by rw [← hH1, ← hT]; rfl
  have oq : ∀ q : Nat, q ≠ a → H1[q]? = H[q]? := fun q hq => by rw [← hH1]; simp [Array.getElem?_setIfInBounds, Ne.symm hq]
  have ea : H1[a]? = some (vp_cell (cy k) (q_N S a, .inl (va_cpy (q_A S a0) (q_A S a) sp.toNatClampNeg dp.toNatClampNeg n.toNatClampNeg))) := by rw [← hH1]; simp [Array.getElem?_setIfInBounds, hlt]
  have hz : H1.size = H.size := by rw [← hH1]; simp
  have hla : lo ≤ a := q_lo Y ⟨by rw [h1]; omega, by rw [h1]; omega⟩
  have hY0 := q_wr (S' := qs_G S a (va_cpy (q_A S a0) (q_A S a) sp.toNatClampNeg dp.toNatClampNeg n.toNatClampNeg)) (H1 := H1) (k := 0) Y hla hz oq (fun b hb => q_E_V rfl rfl rfl (qs_G_ne hb) rfl rfl) (fun _ => rfl) (fun _ => rfl) (fun y hy => by
    rw [q_E_ir (S := qs_G S a _) (k := k) h1 hkl.1 hkl.2] at hy
    cases hy
    show H1[a]? = some (vp_cell _ _)
    rw [qs_G_self]
    exact ea)
  obtain ⟨t2, a1, b1⟩ := kk H1 _ ⟨hY0.1, hY0.2.1, hY0.2.2.1, fun q hq => by
      rcases List.mem_append.mp hq with h | h
      · exact Y.2.2.2 q h
      · obtain ⟨z, -, hz⟩ := List.mem_map.mp h
        rw [← hz]
        exact hla⟩ _ hheap X'
  exact ⟨t2, step t2 a1, b1⟩
end QR5
