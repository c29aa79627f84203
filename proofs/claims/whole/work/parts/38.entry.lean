/-! The law's entry: the tables' words and what the statement gives of the start make the world of the pool; nothing of ours is there yet but the texts. -/
def en_tm (i : Nat) : Term := Term.string (q_sr.getD i ("", 0, "")).1 (q_sr.getD i ("", 0, "")).2.1
def en_fl : List Cond := flatC (Jvm.Cond.and given_1 narrow_1)
def en_b : List Nat := [56, 263, 332, 345, 380, 433, 468, 504, 547, 577, 632, 662, 694, 914, 965]
def en_va (i : Nat) : Term := .field (en_tm i) "java/lang/String" "value" "[B"
theorem en_ex : ∀ i : Nat, i < 15 → en_fl[en_b.getD i 0]? = some (Cond.exactly (en_tm i) "java/lang/String") := by decide +kernel
theorem en_co : ∀ i : Nat, i < 15 → en_fl[en_b.getD i 0 + 1]? = some (Cond.eq (.field (en_tm i) "java/lang/String" "coder" "B") (.int 0)) := by decide +kernel
theorem en_ar : ∀ i : Nat, i < 15 → en_fl[en_b.getD i 0 + 2]? = some (Cond.arrayOf (en_va i) .byte) := by decide +kernel
theorem en_le : ∀ i : Nat, i < 15 → en_fl[en_b.getD i 0 + 3]? = some (Cond.eq (.length (en_va i)) (.int (Int32.ofNat (q_sl.getD i 0)))) := by decide +kernel
theorem en_el : ∀ i : Nat, i < 15 → ∀ j : Nat, j < q_sl.getD i 0 → en_fl[en_b.getD i 0 + 4 + j]? = some (Cond.eq (.elem (en_va i) (.int (Int32.ofNat j))) (.int ((q_sb.getD i []).getD j 0))) := by decide +kernel
def en_nx : List Nat := [331, 343, 344, 377, 378, 379, 429, 430, 431, 432, 463, 464, 465, 466, 467, 498, 499, 500, 501, 502, 503, 540, 541, 542, 543, 544, 545, 546, 569, 570, 571, 572, 573, 574, 575, 576, 623, 624, 625, 626, 627, 628, 629, 630, 631, 652, 653, 654, 655, 656, 657, 658, 659, 660, 661, 683, 684, 685, 686, 687, 688, 689, 690, 691, 692, 693, 902, 903, 904, 905, 906, 907, 908, 909, 910, 911, 912, 913, 952, 953, 954, 955, 956, 957, 958, 959, 960, 961, 962, 963, 964, 1008, 1009, 1010, 1011, 1012, 1013, 1014, 1015, 1016, 1017, 1018, 1019, 1020, 1021]
theorem en_ne : ∀ j : Nat, j < 15 → ∀ i : Nat, i < j → en_fl[en_nx.getD (j * (j - 1) / 2 + i) 0]? = some (Cond.not (Cond.eq (en_tm i) (en_tm j))) := by decide +kernel
theorem en_sr : ∀ i : Nat, i < 15 → Cond.stringRef (q_sr.getD i ("", 0, "")).1 (q_sr.getD i ("", 0, "")).2.1 (q_sr.getD i ("", 0, "")).2.2 ∈ lw_tbl := by decide +kernel
theorem en_slb : ∀ i : Nat, i < 15 → q_sl.getD i 0 < 2 ^ 31 := by decide +kernel
theorem en_df : ∀ i : Nat, i < 15 → ∀ j : Nat, j < i → q_sl.getD i 0 ≠ q_sl.getD j 0 ∨ (q_sb.getD i []).getD 8 0 ≠ (q_sb.getD j []).getD 8 0 := by decide +kernel
theorem en_d8 : ∀ i : Nat, i < 15 → ∀ j : Nat, j < i → q_sl.getD i 0 = q_sl.getD j 0 → 8 < q_sl.getD i 0 := by decide +kernel
theorem en_code : code = cL_law := rfl
theorem en_ret : ret = some .boolean := rfl
theorem en_nw : ∀ w ∈ q_Nw, w ∈ lw_tbl := fun w hw => List.mem_append_right _ (List.mem_filter.mp hw).1
theorem en_nt : ∀ w ∈ q_Nw, w.onTables = true := by decide +kernel
def en_f (g : Nat → Nat) (a : Nat) : Option Nat := (List.range 15).find? (fun i => g i == a)
theorem en_f1 {g : Nat → Nat} (hg : ∀ i j : Nat, i < 15 → j < 15 → g i = g j → i = j) {i : Nat} (hi : i < 15) : en_f g (g i) = some i := by
  unfold en_f
  cases h : (List.range 15).find? (fun k => g k == g i) with
  | none =>
    have h1 := List.find?_eq_none.mp h i (List.mem_range.mpr hi)
    simp at h1
  | some k =>
    have h1 := List.find?_some h
    have h2 := List.mem_range.mp (List.mem_of_find?_eq_some h)
    rw [hg k i h2 hi (by simpa using h1)]
theorem en_f2 {g : Nat → Nat} {a i : Nat} (h : en_f g a = some i) : g i = a ∧ i < 15 := by
  unfold en_f at h
  have h1 := List.find?_some h
  exact ⟨by simpa using h1, List.mem_range.mp (List.mem_of_find?_eq_some h)⟩
/-- the pool at the law's entry: the texts alone -/
def en_S (ak av : Nat → Nat) : q_S := ((fun a => match en_f ak a with | some _ => 30 | none => (match en_f av a with | some _ => 31 | none => 0)), (fun _ _ => 0), (fun _ _ => 0), (fun _ _ => none), (fun a => match en_f ak a with | some i => i | none => (en_f av a).getD 0), (fun _ _ => 0), (fun _ _ => 0), (fun _ _ => none))
/-- what the pool at the entry is like -/
def q_P0 (S : q_S) : Prop := ∃ st : Nat → Nat, (∀ k : Nat, k < 15 → q_K S (st k) = 30 ∧ q_N S (st k) = k) ∧ (∀ b : Nat, q_K S b = 30 → b = st (q_N S b)) ∧ (∀ k : Nat, k < 15 → ∃ b : Nat, q_K S b = 31 ∧ q_N S b = k) ∧ ∀ a : Nat, q_K S a = 0 ∨ 30 ≤ q_K S a
theorem en_K {ak av : Nat → Nat} {a : Nat} : q_K (en_S ak av) a = (match en_f ak a with | some _ => 30 | none => (match en_f av a with | some _ => 31 | none => 0)) := rfl
theorem en_N {ak av : Nat → Nat} {a : Nat} : q_N (en_S ak av) a = (match en_f ak a with | some i => i | none => (en_f av a).getD 0) := rfl
theorem en_k {ak av : Nat → Nat} (h1 : ∀ i j : Nat, i < 15 → j < 15 → ak i = ak j → i = j) {i : Nat} (hi : i < 15) : q_K (en_S ak av) (ak i) = 30 ∧ q_N (en_S ak av) (ak i) = i := by
  rw [en_K, en_N, en_f1 h1 hi]
  exact ⟨rfl, rfl⟩
theorem en_v {ak av : Nat → Nat} (h1 : ∀ i j : Nat, i < 15 → j < 15 → ak i = ak j → i = j) (h2 : ∀ i j : Nat, i < 15 → j < 15 → av i = av j → i = j) (h3 : ∀ i j : Nat, i < 15 → j < 15 → ak i ≠ av j) {i : Nat} (hi : i < 15) : q_K (en_S ak av) (av i) = 31 ∧ q_N (en_S ak av) (av i) = i := by
  have e : en_f ak (av i) = none := by
    cases h : en_f ak (av i) with
    | none => rfl
    | some k => exact absurd (en_f2 h).1 (h3 k i (en_f2 h).2 hi)
  rw [en_K, en_N, e, en_f1 h2 hi]
  exact ⟨rfl, rfl⟩
theorem en_30 {ak av : Nat → Nat} {a : Nat} (h : q_K (en_S ak av) a = 30) : a = ak (q_N (en_S ak av) a) ∧ q_N (en_S ak av) a < 15 := by
  rw [en_K] at h
  rw [en_N]
  cases e : en_f ak a with
  | some i =>
    show a = ak i ∧ i < 15
    exact ⟨(en_f2 e).1.symm, (en_f2 e).2⟩
  | none =>
    rw [e] at h
    cases e2 : en_f av a with
    | some i => rw [e2] at h; exact absurd (show (31 : Nat) = 30 from h) (by decide)
    | none => rw [e2] at h; exact absurd (show (0 : Nat) = 30 from h) (by decide)
theorem en_31 {ak av : Nat → Nat} {a : Nat} (h : q_K (en_S ak av) a = 31) : a = av (q_N (en_S ak av) a) ∧ q_N (en_S ak av) a < 15 := by
  rw [en_K] at h
  rw [en_N]
  cases e : en_f ak a with
  | some i => rw [e] at h; exact absurd (show (30 : Nat) = 31 from h) (by decide)
  | none =>
    rw [e] at h
    cases e2 : en_f av a with
    | some i =>
      show a = av i ∧ i < 15
      exact ⟨(en_f2 e2).1.symm, (en_f2 e2).2⟩
    | none => rw [e2] at h; exact absurd (show (0 : Nat) = 31 from h) (by decide)
theorem en_0 {ak av : Nat → Nat} (a : Nat) : q_K (en_S ak av) a = 0 ∨ q_K (en_S ak av) a = 30 ∨ q_K (en_S ak av) a = 31 := by
  rw [en_K]
  cases e : en_f ak a with
  | some i => exact Or.inr (Or.inl rfl)
  | none =>
    cases e2 : en_f av a with
    | some i => exact Or.inr (Or.inr rfl)
    | none => exact Or.inl rfl
theorem en_P0 {ak av : Nat → Nat} (h1 : ∀ i j : Nat, i < 15 → j < 15 → ak i = ak j → i = j) (h2 : ∀ i j : Nat, i < 15 → j < 15 → av i = av j → i = j) (h3 : ∀ i j : Nat, i < 15 → j < 15 → ak i ≠ av j) : q_P0 (en_S ak av) := ⟨ak, fun k hk => en_k h1 hk, fun b hb => (en_30 hb).1, fun k hk => ⟨av k, en_v h1 h2 h3 hk⟩, fun a => by
  rcases en_0 (ak := ak) (av := av) a with h | h | h
  · exact Or.inl h
  · exact Or.inr (by rw [h]; decide)
  · exact Or.inr (by rw [h]; decide)⟩
theorem en_W {ak av : Nat → Nat} (h1 : ∀ i j : Nat, i < 15 → j < 15 → ak i = ak j → i = j) (h2 : ∀ i j : Nat, i < 15 → j < 15 → av i = av j → i = j) (h3 : ∀ i j : Nat, i < 15 → j < 15 → ak i ≠ av j) {D : va_G} {cy : Nat → ClassId} {lo : Nat} {H : Heap} (hk : ∀ i : Nat, cy (100 + 2 * i) = ak i) (hv : ∀ i : Nat, cy (101 + 2 * i) = av i) (hl : ∀ i : Nat, i < 15 → ak i < lo ∧ av i < lo) : q_W D cy lo (en_S ak av) H := by
  have hE : ∀ a : Nat, q_E cy (en_S ak av) a = none := fun a => by
    unfold q_E
    rcases en_0 (ak := ak) (av := av) a with h | h | h
    · rw [h, if_pos rfl]
    · rw [h, if_neg (by decide), if_pos (by decide)]
    · rw [h, if_neg (by decide), if_pos (by decide)]
  refine ⟨fun a x ha => (by rw [hE] at ha; cases ha), fun a ha hb => ?_, fun i hi => ?_, fun a ha => ?_, fun a ha => ?_, fun a => ?_⟩
  · rcases en_0 (ak := ak) (av := av) a with h | h | h
    · exact absurd h ha
    · rw [h] at hb; exact absurd hb (by decide)
    · rw [h] at hb; exact absurd hb (by decide)
  · rw [hk, hv]
    exact ⟨(en_k h1 hi).1, (en_k h1 hi).2, (en_v h1 h2 h3 hi).1, (en_v h1 h2 h3 hi).2, hl i hi⟩
  · rw [hk]
    exact en_30 ha
  · rw [hv]
    exact en_31 ha
  · rcases en_0 (ak := ak) (av := av) a with h | h | h
    · rw [h]; decide
    · rw [h]; decide
    · rw [h]; decide
theorem en_kn {args : Array Value} {s : State} {ci : Nat} {C : String} {T : u_T} {N : Nat} (hts : ∀ w ∈ q_G, w.before args s = true) (hk : q_Cl ci C T N) (hi : Cond.instantiable C N ∈ q_G) : ∃ q : ClassId × (Nat → Nat), ∀ r : vw_C, vwCl[ci]? = some r → u_Kn s r.1 r.2.1 r.2.2 q.1 q.2 := by
  obtain ⟨cC, iS, h⟩ := u_known (C := C) (T := T) (N := N) (n := N) hts hk.2.1 (hts _ hi)
  exact ⟨(cC, iS), fun r hr => by cases hk.1.symm.trans hr; exact h⟩
theorem en_arP {args : Array Value} {s : State} {ty : FieldType} (h : (Cond.arrayClass ty).before args s = true) (hR : ∀ cA : ClassId, s.vm.findClass ("[" ++ ty.toString) = some cA → va_RA s cA ty) : ∃ cA : ClassId, ArrOfT s cA ty ∧ va_RA s cA ty := by
  obtain ⟨cA, kA, comp, e1, e2, e3⟩ := Cond.arrayClass_spec h
  exact ⟨cA, fun n z => ⟨fun k h => (by cases h), kA, e2, comp, e3⟩, hR cA e1⟩
theorem en_arO {args : Array Value} {s : State} {C : String} (h : (Cond.arrayOver (.object C)).before args s = true) : ∃ cA : ClassId, ArrOfT s cA (.object C) ∧ va_RA s cA (.object C) := by
  obtain ⟨comp, cA, kA, e1, -, e2, e3, e4⟩ := Cond.arrayOver_spec h
  exact ⟨cA, fun n z => ⟨fun k h => (by cases h), kA, e2, comp, e3⟩, kA, comp, e2, e3, e1, e4⟩
/-- texts' bytes lie apart: they differ -/
theorem en_av {s : State} {H : Heap} {A : Nat → Prop} {ak av : Nat → Nat} (h : vk_S 15 q_sl q_sb ak av A s H) : ∀ i j : Nat, i < 15 → j < 15 → av i = av j → i = j := by
  have one : ∀ i j : Nat, i < 15 → j < i → av i ≠ av j := by
    intro i j hi hj e
    obtain ⟨c1, a1, -, -, n1, z1, f1, -⟩ := (h.1 i hi).2.2.2
    obtain ⟨c2, a2, -, -, n2, z2, f2, -⟩ := (h.1 j (Nat.lt_trans hj hi)).2.2.2
    rw [e] at a1
    cases Option.some.inj (a1.symm.trans a2)
    have b1 := en_slb i hi
    have b2 := en_slb j (Nat.lt_trans hj hi)
    have hz : nI (q_sl.getD i 0) = nI (q_sl.getD j 0) := z1.symm.trans z2
    have hz2 := (nI_eq b1 b2).mp hz
    rcases en_df i hi j hj with g | g
    · exact g hz2
    · have g8 := en_d8 i hi j hj hz2
      have q1 := f1 8 g8
      have q2 := f2 8 (hz2 ▸ g8)
      exact g (Value.int.inj (Option.some.inj (q1.symm.trans q2)))
  intro i j hi hj e
  rcases Nat.lt_trichotomy i j with g | g | g
  · exact absurd e.symm (one j i hj g)
  · exact g
  · exact absurd e (one i j hi g)
/-- a text is no row of bytes: what it holds wouldn't fit -/
theorem en_kv {s : State} {A : Nat → Prop} {ak av : Nat → Nat} (hf : heapFits s = true) (h : vk_S 15 q_sl q_sb ak av A s s.heap) : ∀ i j : Nat, i < 15 → j < 15 → ak i ≠ av j := by
  intro i j hi hj e
  obtain ⟨cf, k, fi, f, c1, -, -, a1, -, v1, -⟩ := (h.1 i hi).2.2.1
  obtain ⟨c2, a2, ⟨ns, kA, hkA, comp, hkk⟩, -⟩ := (h.1 j hj).2.2.2
  rw [e] at a1
  cases Option.some.inj (a1.symm.trans a2)
  obtain ⟨hlt, hget⟩ := Array.getElem?_eq_some_iff.mp a2
  have h1 := (Array.all_eq_true_iff_forall_mem.mp hf) _ (Array.getElem_mem hlt)
  rw [hget] at h1
  have hs : f.slot < c1.slots.size := (Array.getElem?_eq_some_iff.mp v1).1
  have h2 := (List.all_eq_true.mp h1) f.slot (List.mem_range.mpr hs)
  rw [v1] at h2
  have h3 : s.slotType? c1.cls c1.vm f.slot = some .byte := by
    unfold State.slotType?
    rw [hkA]
    cases hv : c1.vm with
    | statics z => exact absurd hv (ns z)
    | _ => simp [hkk]
  have h4 : s.fitsSlot c1.cls c1.vm f.slot (.ref (av i)) = true := h2
  unfold State.fitsSlot at h4
  rw [h3] at h4
  exact absurd h4 (by simp [fits])
