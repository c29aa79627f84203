/-! New objects as a list: place, and what lies there. -/
def lno (l : List (Nat × (Nat × Nat))) (a : Nat) : Option (Nat × Nat) := (l.find? (fun x => decide (x.1 = a))).map Prod.snd
def lbo (l : List (Nat × (Nat × Nat))) (c i : Nat) : Nat := match l.find? (fun x => decide (x.2 = (c, i))) with | some x => x.1 | none => 0
def lk (l : List (Nat × (Nat × Nat))) (c i : Nat) : Prop := ∃ a : Nat, (a, (c, i)) ∈ l
def lnd (l : List (Nat × (Nat × Nat))) : Prop := (l.map Prod.fst).Nodup ∧ (l.map Prod.snd).Nodup
theorem lno_m {l : List (Nat × (Nat × Nat))} {a : Nat} {q : Nat × Nat} (h : lno l a = some q) : (a, q) ∈ l := by
  unfold lno at h
  cases e : l.find? (fun x => decide (x.1 = a)) with
  | none => rw [e] at h; cases h
  | some x =>
    rw [e] at h
    have h : some x.2 = some q := h
    injection h with h
    have m := List.mem_of_find?_eq_some e
    have z0 := List.find?_some e
    have z : x.1 = a := of_decide_eq_true z0
    rw [← h, ← z]
    exact m
theorem ln_fst : ∀ {l : List (Nat × (Nat × Nat))}, (l.map Prod.fst).Nodup → ∀ {x y : Nat × (Nat × Nat)}, x ∈ l → y ∈ l → x.1 = y.1 → x = y
  | [], _, _, _, hx, _, _ => by cases hx
  | z :: l, n, x, y, hx, hy, e => by
    rw [List.map_cons, List.nodup_cons] at n
    rcases List.mem_cons.mp hx with hx | hx
    · rcases List.mem_cons.mp hy with hy | hy
      · rw [hx, hy]
      · exact absurd (List.mem_map.mpr ⟨y, hy, by rw [← e, hx]⟩) n.1
    · rcases List.mem_cons.mp hy with hy | hy
      · exact absurd (List.mem_map.mpr ⟨x, hx, by rw [e, hy]⟩) n.1
      · exact ln_fst n.2 hx hy e
theorem ln_snd : ∀ {l : List (Nat × (Nat × Nat))}, (l.map Prod.snd).Nodup → ∀ {x y : Nat × (Nat × Nat)}, x ∈ l → y ∈ l → x.2 = y.2 → x = y
  | [], _, _, _, hx, _, _ => by cases hx
  | z :: l, n, x, y, hx, hy, e => by
    rw [List.map_cons, List.nodup_cons] at n
    rcases List.mem_cons.mp hx with hx | hx
    · rcases List.mem_cons.mp hy with hy | hy
      · rw [hx, hy]
      · exact absurd (List.mem_map.mpr ⟨y, hy, by rw [← e, hx]⟩) n.1
    · rcases List.mem_cons.mp hy with hy | hy
      · exact absurd (List.mem_map.mpr ⟨x, hx, by rw [e, hy]⟩) n.1
      · exact ln_snd n.2 hx hy e
theorem lno_s {l : List (Nat × (Nat × Nat))} {a : Nat} {q : Nat × Nat} (n : lnd l) (h : (a, q) ∈ l) : lno l a = some q := by
  unfold lno
  cases e : l.find? (fun x => decide (x.1 = a)) with
  | none => exact absurd rfl (of_decide_eq_false (Bool.eq_false_iff.mpr (List.find?_eq_none.mp e _ h)))
  | some x =>
    have m := List.mem_of_find?_eq_some e
    have z0 := List.find?_some e
    have z : x.1 = a := of_decide_eq_true z0
    have := ln_fst n.1 m h z
    rw [this]
    rfl
theorem lbo_s {l : List (Nat × (Nat × Nat))} {a c i : Nat} (n : lnd l) (h : (a, (c, i)) ∈ l) : lbo l c i = a := by
  unfold lbo
  cases e : l.find? (fun x => decide (x.2 = (c, i))) with
  | none => exact absurd rfl (of_decide_eq_false (Bool.eq_false_iff.mpr (List.find?_eq_none.mp e _ h)))
  | some x =>
    have m := List.mem_of_find?_eq_some e
    have z0 := List.find?_some e
    have z : x.2 = (c, i) := of_decide_eq_true z0
    have := ln_snd n.2 m h z
    rw [this]
theorem l_nO {l : List (Nat × (Nat × Nat))} {c i : Nat} (n : lnd l) : nO (lno l) (lbo l) c i ↔ lk l c i := by
  constructor
  · intro h
    exact ⟨_, lno_m h⟩
  · rintro ⟨a, h⟩
    unfold nO
    rw [lbo_s n h]
    exact lno_s n h
theorem l_mk {L : c_L} {S : q_S} {lo la : List (Nat × (Nat × Nat))} {nl : Nat → Nat → Nat} (g : c_G L S) (no : lnd lo) (c1 : ∀ x ∈ lo, q_K S x.1 = 0) {c i : Nat} : c_mk (c_xt L (lno lo) (lno la) (lbo lo) (lbo la) nl) c i ↔ lk lo c i ∨ (¬ lk lo c i ∧ c_mk L c i) := by
  have fr : ∀ {c i : Nat}, c_mk L c i → lno lo (c_ob L c i) = none := fun {c i} m => by
    cases e : lno lo (c_ob L c i) with
    | none => rfl
    | some q =>
      have this : q_K S (c_ob L c i) = 0 := c1 _ (lno_m e)
      rw [g.2.1 c i m] at this
      omega
  constructor
  · intro m
    rcases xt_mkc (fun a q h => (lbo_s no (lno_m h)).symm) m with h | h
    · exact Or.inl ((l_nO no).mp h)
    · exact Or.inr ⟨fun z => h.1 ((l_nO no).mpr z), h.2⟩
  · intro h
    rcases h with h | h
    · exact xt_mk ((l_nO no).mpr h)
    · exact (xt_mko (fun z => h.1 ((l_nO no).mp z)) (fr h.2)).mpr h.2
theorem NWl {L : c_L} {S S' : q_S} {lo la : List (Nat × (Nat × Nat))} {nl : Nat → Nat → Nat} (g : c_G L S) (no : lnd lo) (na : lnd la)
  (c0 : ∀ a : Nat, q_K S a = 0 → q_K S' a ≠ 30)
  (c1 : ∀ x ∈ lo, q_K S x.1 = 0 ∧ q_K S' x.1 = x.2.1 + 1 ∧ (∀ f : Nat, q_I S' f x.1 = 0 ∧ q_J S' f x.1 = 0) ∧ ∀ f : Nat, c_dy f = true → q_P S' f x.1 = none)
  (c2 : ∀ x ∈ la, q_K S x.1 = 0 ∧ q_K S' x.1 = c_kd x.2.1 ∧ q_N S' x.1 = nl x.2.1 x.2.2 ∧ ∀ j : Nat, q_A S' x.1 j = 0)
  (c3 : ∀ f i : Nat, f ∈ c_af → (lk la f i ↔ lk lo (f / 200) i))
  (c4 : ∀ q ∈ c_pf, ∀ i : Nat, (lk lo (q.1 / 200) i ↔ lk lo q.2 i) ∧ ∀ a b : Nat, (a, (q.1 / 200, i)) ∈ lo → (b, (q.2, i)) ∈ lo → q_P S' q.1 a = some b)
  (c5 : ∀ f ∈ c_af, ∀ i a b : Nat, (a, (f / 200, i)) ∈ lo → (b, (f, i)) ∈ la → q_P S' f a = some b)
  (c6 : ∀ q ∈ c_fl, ∀ i : Nat, lk la q.1 i → nl q.1 i = q.2)
  (c7 : ∀ i : Nat, (lk lo 1 i ↔ lk lo 8 (1000 + i)) ∧ ∀ a b : Nat, (a, (1, i)) ∈ lo → (b, (8, 1000 + i)) ∈ lo → q_P S' 204 a = some b)
  (c8 : ∀ i : Nat, (∀ j : Nat, c_qu i = some j → (lk lo 10 i ↔ lk lo 8 j)) ∧ ∀ a : Nat, (a, (10, i)) ∈ lo → (∀ j b : Nat, c_qu i = some j → (b, (8, j)) ∈ lo → q_P S' 2009 a = some b) ∧ (c_qu i = none → q_P S' 2009 a = none))
  (c12 : ∀ c i : Nat, lk lo c i → ¬ (c = 11 ∨ c = 9 ∨ c = 6 ∨ c = 2 ∨ c = 3 ∨ c = 0))
  (d7 : ∀ p j : Nat, c_mk L 5 p → ¬ lk lo 5 p → (∀ b : Nat, j < 16 → (b, (7, 16 * p + j)) ∈ lo → q_C S' (c_ar L 1003 p) j = some b) ∧ (¬ (j < 16 ∧ lk lo 7 (16 * p + j)) → q_C S' (c_ar L 1003 p) j = q_C S (c_ar L 1003 p) j) ∧ (∀ b : Nat, j < 48 → (b, (10, 48 * p + j)) ∈ lo → q_C S' (c_ar L 1005 p) j = some b) ∧ (¬ (j < 48 ∧ lk lo 10 (48 * p + j)) → q_C S' (c_ar L 1005 p) j = q_C S (c_ar L 1005 p) j))
  (d5 : ∀ p : Nat, lk lo 5 p → (∀ a j : Nat, (a, (1003, p)) ∈ la ∨ (a, (1005, p)) ∈ la → q_C S' a j = none) ∧ (∀ j : Nat, j < 16 → ¬ lk lo 7 (16 * p + j) ∧ ¬ c_mk L 7 (16 * p + j)) ∧ ∀ j : Nat, j < 48 → ¬ lk lo 10 (48 * p + j) ∧ ¬ c_mk L 10 (48 * p + j))
  (d6 : ∀ j : Nat, (∀ b : Nat, j < 16 → (b, (5, j)) ∈ lo → q_C S' (c_ar L 1200 0) j = some b) ∧ (¬ (j < 16 ∧ lk lo 5 j) → q_C S' (c_ar L 1200 0) j = q_C S (c_ar L 1200 0) j) ∧ (∀ b : Nat, j < 24 → (b, (1, j)) ∈ lo → q_C S' (c_ar L 1202 0) j = some b) ∧ (¬ (j < 24 ∧ lk lo 1 j) → q_C S' (c_ar L 1202 0) j = q_C S (c_ar L 1202 0) j)) :
  NWH L S S' (lno lo) (lno la) (lbo lo) (lbo la) nl := by
  have oo : ∀ {c i : Nat}, nO (lno lo) (lbo lo) c i ↔ lk lo c i := l_nO no
  have aa : ∀ {c i : Nat}, nO (lno la) (lbo la) c i ↔ lk la c i := l_nO na
  have fr : ∀ {c i : Nat}, c_mk L c i → lno lo (c_ob L c i) = none := fun {c i} m => by
    cases e : lno lo (c_ob L c i) with
    | none => rfl
    | some q =>
      have := (c1 _ (lno_m e)).1
      have k := g.2.1 c i m
      have this : q_K S (c_ob L c i) = 0 := this
      rw [k] at this
      omega
  have mk : ∀ {c i : Nat}, c_mk (c_xt L (lno lo) (lno la) (lbo lo) (lbo la) nl) c i ↔ lk lo c i ∨ (¬ lk lo c i ∧ c_mk L c i) := fun {c i} => by
    constructor
    · intro m
      rcases xt_mkc (fun a q h => (lbo_s no (lno_m h)).symm) m with h | h
      · exact Or.inl (oo.mp h)
      · exact Or.inr ⟨fun z => h.1 (oo.mpr z), h.2⟩
    · intro h
      rcases h with h | h
      · exact xt_mk (oo.mpr h)
      · exact (xt_mko (fun z => h.1 (oo.mp z)) (fr h.2)).mpr h.2
  have g9 := g.2.2.2.2.2.2.2.2.1
  have g10 := g.2.2.2.2.2.2.2.2.2.1
  have nrow : ∀ f : Nat, f ∈ c_af → ∀ i : Nat, ¬ lk lo (f / 200) i → c_ar (c_xt L (lno lo) (lno la) (lbo lo) (lbo la) nl) f i = c_ar L f i := fun f hf i h => xt_arn (fun z => h ((c3 f i hf).mp (aa.mp z)))
  refine ⟨c0, fun a q h => ?_, fun a q h => ?_, fun f i hf => ?_, fun q hq i => ?_, fun f hf i h => ?_, fun q hq i h => ?_, fun i => ?_, fun i => ?_, fun c i h => c12 c i (oo.mp h), fun p j m => ?_, fun j => ?_⟩
  · exact ⟨(lbo_s no (lno_m h)).symm, c1 _ (lno_m h)⟩
  · exact ⟨(lbo_s na (lno_m h)).symm, c2 _ (lno_m h)⟩
  · rw [oo, aa]
    exact c3 f i hf
  · rw [oo, oo]
    refine ⟨(c4 q hq i).1, fun h => ?_⟩
    obtain ⟨a, ha⟩ := h
    obtain ⟨b, hb⟩ := (c4 q hq i).1.mp ⟨a, ha⟩
    rw [lbo_s no ha, lbo_s no hb]
    exact (c4 q hq i).2 a b ha hb
  · obtain ⟨a, ha⟩ := oo.mp h
    obtain ⟨b, hb⟩ := (c3 f i hf).mpr ⟨a, ha⟩
    rw [lbo_s no ha, lbo_s na hb]
    exact c5 f hf i a b ha hb
  · exact c6 q hq i (aa.mp h)
  · rw [oo, oo]
    refine ⟨(c7 i).1, fun h => ?_⟩
    obtain ⟨a, ha⟩ := h
    obtain ⟨b, hb⟩ := (c7 i).1.mp ⟨a, ha⟩
    rw [lbo_s no ha, lbo_s no hb]
    exact (c7 i).2 a b ha hb
  · rw [oo]
    refine ⟨fun j hj => by rw [oo]; exact (c8 i).1 j hj, fun h => ?_⟩
    obtain ⟨a, ha⟩ := h
    rw [lbo_s no ha]
    cases hq : c_qu i with
    | none => exact ((c8 i).2 a ha).2 hq
    | some j =>
      obtain ⟨b, hb⟩ := ((c8 i).1 j hq).mp ⟨a, ha⟩
      exact (((c8 i).2 a ha).1 j b hq hb).trans (congrArg some (lbo_s no hb).symm)
  · rcases mk.mp m with h | ⟨h, m'⟩
    · obtain ⟨y1, y2, y3⟩ := d5 p h
      obtain ⟨a3, h3⟩ := (c3 1003 p (by decide)).mpr h
      obtain ⟨a5, h5⟩ := (c3 1005 p (by decide)).mpr h
      rw [xt_ar (aa.mpr ⟨a3, h3⟩), xt_ar (aa.mpr ⟨a5, h5⟩), lbo_s na h3, lbo_s na h5, y1 a3 j (Or.inl h3), y1 a5 j (Or.inr h5)]
      constructor
      · have : c_e7 (c_xt L (lno lo) (lno la) (lbo lo) (lbo la) nl) p j = none := if_neg (fun z => by
          rcases mk.mp (show c_mk _ 7 (16 * p + j) from z.2) with h | h
          · exact (y2 j z.1).1 h
          · exact (y2 j z.1).2 h.2)
        rw [this]
        rfl
      · have : c_e10 (c_xt L (lno lo) (lno la) (lbo lo) (lbo la) nl) p j = none := if_neg (fun z => by
          rcases mk.mp (show c_mk _ 10 (48 * p + j) from z.2) with h | h
          · exact (y3 j z.1).1 h
          · exact (y3 j z.1).2 h.2)
        rw [this]
        rfl
    · obtain ⟨y1, y2, y3, y4⟩ := d7 p j m' h
      rw [nrow 1003 (by decide) p h, nrow 1005 (by decide) p h]
      constructor
      · by_cases z : j < 16 ∧ lk lo 7 (16 * p + j)
        · obtain ⟨b, hb⟩ := z.2
          rw [y1 b z.1 hb, c_m7 z.1 (mk.mpr (Or.inl z.2))]
          exact congrArg some ((xt_ob (oo.mpr z.2)).trans (lbo_s no hb)).symm
        · rw [y2 z, (g9 p j m').1]
          by_cases w : j < 16 ∧ c_mk L 7 (16 * p + j)
          · have nk : ¬ lk lo 7 (16 * p + j) := fun y => z ⟨w.1, y⟩
            rw [c_m7 w.1 w.2, c_m7 w.1 (mk.mpr (Or.inr ⟨nk, w.2⟩))]
            exact congrArg some (xt_obn (fun y => nk (oo.mp y))).symm
          · have e1 : c_e7 L p j = none := if_neg w
            have e2 : c_e7 (c_xt L (lno lo) (lno la) (lbo lo) (lbo la) nl) p j = none := if_neg (fun y => by
              rcases mk.mp (show c_mk _ 7 (16 * p + j) from y.2) with h | h
              · exact z ⟨y.1, h⟩
              · exact w ⟨y.1, h.2⟩)
            rw [e1, e2]
            rfl
      · by_cases z : j < 48 ∧ lk lo 10 (48 * p + j)
        · obtain ⟨b, hb⟩ := z.2
          rw [y3 b z.1 hb, c_m10 z.1 (mk.mpr (Or.inl z.2))]
          exact congrArg some ((xt_ob (oo.mpr z.2)).trans (lbo_s no hb)).symm
        · rw [y4 z, (g9 p j m').2]
          by_cases w : j < 48 ∧ c_mk L 10 (48 * p + j)
          · have nk : ¬ lk lo 10 (48 * p + j) := fun y => z ⟨w.1, y⟩
            rw [c_m10 w.1 w.2, c_m10 w.1 (mk.mpr (Or.inr ⟨nk, w.2⟩))]
            exact congrArg some (xt_obn (fun y => nk (oo.mp y))).symm
          · have e1 : c_e10 L p j = none := if_neg w
            have e2 : c_e10 (c_xt L (lno lo) (lno la) (lbo lo) (lbo la) nl) p j = none := if_neg (fun y => by
              rcases mk.mp (show c_mk _ 10 (48 * p + j) from y.2) with h | h
              · exact z ⟨y.1, h⟩
              · exact w ⟨y.1, h.2⟩)
            rw [e1, e2]
            rfl
  · obtain ⟨y1, y2, y3, y4⟩ := d6 j
    have s6 : ¬ lk lo 6 0 := fun z => c12 6 0 z (by decide)
    rw [nrow 1200 (by decide) 0 s6, nrow 1202 (by decide) 0 s6]
    constructor
    · by_cases z : j < 16 ∧ lk lo 5 j
      · obtain ⟨b, hb⟩ := z.2
        rw [y1 b z.1 hb, c_m5 z.1 (mk.mpr (Or.inl z.2))]
        exact congrArg some ((xt_ob (oo.mpr z.2)).trans (lbo_s no hb)).symm
      · rw [y2 z, (g10 j).1]
        by_cases w : j < 16 ∧ c_mk L 5 j
        · have nk : ¬ lk lo 5 j := fun y => z ⟨w.1, y⟩
          rw [c_m5 w.1 w.2, c_m5 w.1 (mk.mpr (Or.inr ⟨nk, w.2⟩))]
          exact congrArg some (xt_obn (fun y => nk (oo.mp y))).symm
        · have e1 : c_e5 L j = none := if_neg w
          have e2 : c_e5 (c_xt L (lno lo) (lno la) (lbo lo) (lbo la) nl) j = none := if_neg (fun y => by
            rcases mk.mp (show c_mk _ 5 j from y.2) with h | h
            · exact z ⟨y.1, h⟩
            · exact w ⟨y.1, h.2⟩)
          rw [e1, e2]
          rfl
    · by_cases z : j < 24 ∧ lk lo 1 j
      · obtain ⟨b, hb⟩ := z.2
        rw [y3 b z.1 hb, c_m1 z.1 (mk.mpr (Or.inl z.2))]
        exact congrArg some ((xt_ob (oo.mpr z.2)).trans (lbo_s no hb)).symm
      · rw [y4 z, (g10 j).2]
        by_cases w : j < 24 ∧ c_mk L 1 j
        · have nk : ¬ lk lo 1 j := fun y => z ⟨w.1, y⟩
          rw [c_m1 w.1 w.2, c_m1 w.1 (mk.mpr (Or.inr ⟨nk, w.2⟩))]
          exact congrArg some (xt_obn (fun y => nk (oo.mp y))).symm
        · have e1 : c_e1 L j = none := if_neg w
          have e2 : c_e1 (c_xt L (lno lo) (lno la) (lbo lo) (lbo la) nl) j = none := if_neg (fun y => by
            rcases mk.mp (show c_mk _ 1 j from y.2) with h | h
            · exact z ⟨y.1, h⟩
            · exact w ⟨y.1, h.2⟩)
          rw [e1, e2]
          rfl
