/-! The references that load finds are of no use to it: they get numbers of their own. -/
def rj (L : c_L) : c_L := (fun c i => if 1000000 ≤ i then i - 1000000 else L.1 c i, fun f i => if 1000000 ≤ i then i - 1000000 else L.2.1 f i, L.2.2.1, fun a => (match L.2.2.2.1 a with | some q => if q.2 < 1000000 then some q else none | none => none), L.2.2.2.2)
def rjK (L : c_L) (K : c_S) : c_S := (K.1, K.2.1, K.2.2.1, fun f i => (K.2.2.2 f i).map (fun x => 1000000 + c_tg L f x))
theorem rj_ob {L : c_L} {c i : Nat} (h : i < 1000000) : c_ob (rj L) c i = c_ob L c i := if_neg (by omega)
theorem rj_ar {L : c_L} {f i : Nat} (h : i < 1000000) : c_ar (rj L) f i = c_ar L f i := if_neg (by omega)
theorem rj_mk {L : c_L} (w : c_WF L) (li : LI L) {c i : Nat} : c_mk (rj L) c i ↔ c_mk L c i := by
  constructor
  · intro h
    have e : c_ob (rj L) c i = c_ob L c i := w.1 _ _ h
    show c_ow L (c_ob L c i) = some (c, i)
    rw [← e]
    exact h
  · intro h
    have := li.2.2.2.2.2.1 c i h
    show c_ow L (c_ob (rj L) c i) = some (c, i)
    rw [rj_ob this]
    exact h
theorem rj_mo {L : c_L} (li : LI L) {c i : Nat} (h : c_mk L c i) : c_ob (rj L) c i = c_ob L c i := rj_ob (li.2.2.2.2.2.1 c i h)
theorem rj_aw {L : c_L} {a : Nat} {q : Nat × Nat} (h : c_aw (rj L) a = some q) : c_aw L a = some q ∧ q.2 < 1000000 := by
  have h : (match c_aw L a with | some q => if q.2 < 1000000 then some q else none | none => none) = some q := h
  cases e : c_aw L a with
  | none => rw [e] at h; cases h
  | some x =>
    rw [e] at h
    have h : (if x.2 < 1000000 then some x else none) = some q := h
    by_cases z : x.2 < 1000000
    · rw [if_pos z] at h
      injection h with h
      subst h
      exact ⟨rfl, z⟩
    · rw [if_neg z] at h
      cases h
theorem rj_ma {L : c_L} (w : c_WF L) {f i : Nat} (h : c_ma (rj L) f i) : (c_ma L f i ∧ i < 1000000) ∧ c_ar (rj L) f i = c_ar L f i := by
  obtain ⟨h1, h2⟩ := rj_aw h
  have e : c_ar (rj L) f i = c_ar L f i := w.2 _ _ h1
  refine ⟨⟨?_, h2⟩, e⟩
  show c_aw L (c_ar L f i) = some (f, i)
  rw [← e]
  exact h1
theorem rj_am {L : c_L} {f i : Nat} (h : c_ma L f i) (hi : i < 1000000) : c_ma (rj L) f i := by
  show (match c_aw L (c_ar (rj L) f i) with | some q => if q.2 < 1000000 then some q else none | none => none) = some (f, i)
  rw [rj_ar hi, show c_aw L (c_ar L f i) = some (f, i) from h]
  exact if_pos hi
theorem rj_li {L : c_L} (w : c_WF L) (li : LI L) : LI (rj L) := by
  have k : ∀ c i : Nat, c_mk (rj L) c i ↔ c_mk L c i := fun c i => rj_mk w li
  obtain ⟨h1, h2, h3, h4, h5, h6, h7, h8⟩ := li
  refine ⟨fun p m => h1 p ((k _ _).mp m), fun i m => h2 i ((k _ _).mp m), fun c m => h3 c ((k _ _).mp m), fun p j hj m => (k _ _).mpr (h4 p j hj ((k _ _).mp m)), fun p j hj m => (k _ _).mpr (h5 p j hj ((k _ _).mp m)), fun c i m => h6 c i ((k _ _).mp m), fun i m => ?_, fun p m => (k _ _).mpr (h8 p ((k _ _).mp m))⟩
  exact (h7 i ((k _ _).mp m)).elim (fun z => Or.inl ⟨z.1, (k _ _).mpr z.2⟩) (fun z => Or.inr ⟨z.1, (k _ _).mpr z.2⟩)
theorem rj_e {L : c_L} (w : c_WF L) (li : LI L) {P : Prop} {c i : Nat} [d1 : Decidable (P ∧ c_ow (rj L) (c_ob (rj L) c i) = some (c, i))] [d2 : Decidable (P ∧ c_ow L (c_ob L c i) = some (c, i))] : (if P ∧ c_ow (rj L) (c_ob (rj L) c i) = some (c, i) then some i else none).map (c_ob (rj L) c) = (if P ∧ c_ow L (c_ob L c i) = some (c, i) then some i else none).map (c_ob L c) := by
  by_cases h : P ∧ c_ow L (c_ob L c i) = some (c, i)
  · have h' : P ∧ c_ow (rj L) (c_ob (rj L) c i) = some (c, i) := ⟨h.1, (rj_mk w li).mpr h.2⟩
    rw [if_pos h, if_pos h']
    show some (c_ob (rj L) c i) = some (c_ob L c i)
    rw [rj_mo li h.2]
  · have h' : ¬ (P ∧ c_ow (rj L) (c_ob (rj L) c i) = some (c, i)) := fun z => h ⟨z.1, (rj_mk w li).mp z.2⟩
    rw [if_neg h, if_neg h']
    rfl
theorem rj_G {L : c_L} {T : q_S} (g : c_G L T) (li : LI L) : c_G (rj L) T := by
  obtain ⟨g1, g2, g3, g4, g5, g6, g7, g8, g9, g10, g11, g12, g13⟩ := g
  have k : ∀ {c i : Nat}, c_mk (rj L) c i ↔ c_mk L c i := fun {c i} => rj_mk g1 li
  have b : ∀ {c i : Nat}, c_mk L c i → i < 1000000 := fun {c i} m => li.2.2.2.2.2.1 c i m
  refine ⟨⟨fun a q h => ?_, fun a q h => ?_⟩, fun c i m => ?_, fun f i m => ?_, fun q hq i m => ?_, fun f hf i m => ?_, fun q hq i m => g6 q hq i (rj_ma g1 m).1.1, fun i m => ?_, fun i m => ?_, fun p j m => ?_, fun j => ⟨?_, ?_⟩, ?_, fun c i h m => g12 c i h (k.mp m), fun i => ?_⟩
  · have e := g1.1 a q h
    have h : c_ow L a = some q := h
    have m : c_mk L q.1 q.2 := by
      show c_ow L (c_ob L q.1 q.2) = some (q.1, q.2)
      rw [← e]
      exact h
    rw [rj_mo li m]
    exact e
  · obtain ⟨h1, h2⟩ := rj_aw h
    rw [rj_ar h2]
    exact g1.2 a q h1
  · rw [rj_mo li (k.mp m)]
    exact g2 c i (k.mp m)
  · obtain ⟨⟨h1, h2⟩, e⟩ := rj_ma g1 m
    rw [e]
    exact g3 f i h1
  · obtain ⟨h1, h2⟩ := g4 q hq i (k.mp m)
    rw [rj_mo li (k.mp m), rj_mo li h1]
    exact ⟨k.mpr h1, h2⟩
  · obtain ⟨h1, h2⟩ := g5 f hf i (k.mp m)
    rw [rj_mo li (k.mp m), rj_ar (b (k.mp m))]
    exact ⟨rj_am h1 (b (k.mp m)), h2⟩
  · obtain ⟨h1, h2⟩ := g7 i (k.mp m)
    rw [rj_mo li (k.mp m), rj_mo li h1]
    exact ⟨k.mpr h1, h2⟩
  · obtain ⟨h1, h2⟩ := g8 i (k.mp m)
    rw [rj_mo li (k.mp m)]
    refine ⟨fun j hj => k.mpr (h1 j hj), h2.trans ?_⟩
    cases e : c_qu i with
    | none => rfl
    | some j =>
      show some (c_ob L 8 j) = some (c_ob (rj L) 8 j)
      rw [rj_mo li (h1 j e)]
  · obtain ⟨h1, h2⟩ := g9 p j (k.mp m)
    rw [rj_ar (b (k.mp m)), rj_ar (b (k.mp m))]
    exact ⟨h1.trans (rj_e g1 li).symm, h2.trans (rj_e g1 li).symm⟩
  · exact (g10 j).1.trans (rj_e g1 li).symm
  · exact (g10 j).2.trans (rj_e g1 li).symm
  · exact ⟨k.mpr g11.1, k.mpr g11.2.1, k.mpr g11.2.2.1, k.mpr g11.2.2.2.1, k.mpr g11.2.2.2.2.1, k.mpr g11.2.2.2.2.2⟩
  · exact g13 i
theorem cG_E {L L' : c_L} {K : c_S} {S : q_S} (g : c_G L' S) : c_G L' (c_E L K S) := by
  obtain ⟨g1, g2, g3, g4, g5, g6, g7, g8, g9, g10, g11, g12, g13⟩ := g
  exact ⟨g1, g2, g3, fun q hq i m => ⟨(g4 q hq i m).1, (c_eP ((by decide : ∀ q ∈ c_pf, c_dy q.1 = false) q hq)).trans (g4 q hq i m).2⟩, fun f hf i m => ⟨(g5 f hf i m).1, (c_eP ((by decide : ∀ f ∈ c_af, c_dy f = false) f hf)).trans (g5 f hf i m).2⟩, g6, fun i m => ⟨(g7 i m).1, (c_eP rfl).trans (g7 i m).2⟩, fun i m => ⟨(g8 i m).1, (c_eP rfl).trans (g8 i m).2⟩, g9, g10, g11, g12, g13⟩
theorem rj_tg {L : c_L} {f x : Nat} : c_tg (rj L) f (1000000 + x) = x := by
  have e : ∀ c : Nat, c_ob (rj L) c (1000000 + x) = x := fun c => by
    show (if 1000000 ≤ 1000000 + x then 1000000 + x - 1000000 else _) = x
    rw [if_pos (by omega)]; omega
  have e' : ∀ f : Nat, c_ar (rj L) f (1000000 + x) = x := fun f => by
    show (if 1000000 ≤ 1000000 + x then 1000000 + x - 1000000 else _) = x
    rw [if_pos (by omega)]; omega
  unfold c_tg
  split
  · exact e 6
  · exact e 5
  · exact e 7
  · exact e' 1411
  · exact e 5
theorem rj_E {L : c_L} {K : c_S} {T : q_S} : c_E (rj L) (rjK L K) (c_E L K T) = c_E L K T := by
  have eI : ∀ {α : Type} (G g : Nat → Nat → α) (f a : Nat), (match c_ow L a with | some q => (if f / 200 = q.1 then G f q.2 else (match c_ow L a with | some q => (if f / 200 = q.1 then G f q.2 else g f a) | none => g f a)) | none => (match c_ow L a with | some q => (if f / 200 = q.1 then G f q.2 else g f a) | none => g f a)) = (match c_ow L a with | some q => (if f / 200 = q.1 then G f q.2 else g f a) | none => g f a) := fun G g f a => by
    cases c_ow L a with
    | none => rfl
    | some q =>
      show (if f / 200 = q.1 then G f q.2 else (if f / 200 = q.1 then G f q.2 else g f a)) = (if f / 200 = q.1 then G f q.2 else g f a)
      by_cases z : f / 200 = q.1
      · rw [if_pos z, if_pos z]
      · rw [if_neg z]
  refine Prod.ext rfl (Prod.ext (funext fun f => funext fun a => eI K.1 T.2.1 f a) (Prod.ext (funext fun f => funext fun a => eI K.2.1 T.2.2.1 f a) (Prod.ext (funext fun f => funext fun a => ?_) (Prod.ext rfl (Prod.ext (funext fun a => funext fun j => ?_) rfl)))))
  · show (if c_dy f = true then (match c_ow L a with | some q => (if f / 200 = q.1 then ((K.2.2.2 f q.2).map (fun x => 1000000 + c_tg L f x)).map (c_tg (rj L) f) else (c_E L K T).2.2.2.1 f a) | none => (c_E L K T).2.2.2.1 f a) else (c_E L K T).2.2.2.1 f a) = (c_E L K T).2.2.2.1 f a
    by_cases d : c_dy f = true
    · rw [if_pos d]
      have e : (c_E L K T).2.2.2.1 f a = (match c_ow L a with | some q => (if f / 200 = q.1 then (K.2.2.2 f q.2).map (c_tg L f) else T.2.2.2.1 f a) | none => T.2.2.2.1 f a) := if_pos d
      rw [e]
      cases c_ow L a with
      | none => rfl
      | some q =>
        show (if f / 200 = q.1 then ((K.2.2.2 f q.2).map (fun x => 1000000 + c_tg L f x)).map (c_tg (rj L) f) else (if f / 200 = q.1 then (K.2.2.2 f q.2).map (c_tg L f) else T.2.2.2.1 f a)) = (if f / 200 = q.1 then (K.2.2.2 f q.2).map (c_tg L f) else T.2.2.2.1 f a)
        by_cases z : f / 200 = q.1
        · rw [if_pos z, if_pos z]
          cases K.2.2.2 f q.2 with
          | none => rfl
          | some x =>
            show some (c_tg (rj L) f (1000000 + c_tg L f x)) = some (c_tg L f x)
            rw [rj_tg]
        · rw [if_neg z]
    · rw [if_neg d]
  · show (match (match c_aw L a with | some q => if q.2 < 1000000 then some q else none | none => none) with | some q => K.2.2.1 q.1 q.2 j | none => (match c_aw L a with | some q => K.2.2.1 q.1 q.2 j | none => T.2.2.2.2.2.1 a j)) = (match c_aw L a with | some q => K.2.2.1 q.1 q.2 j | none => T.2.2.2.2.2.1 a j)
    cases c_aw L a with
    | none => rfl
    | some q =>
      show (match (if q.2 < 1000000 then some q else none) with | some q => K.2.2.1 q.1 q.2 j | none => K.2.2.1 q.1 q.2 j) = K.2.2.1 q.1 q.2 j
      by_cases z : q.2 < 1000000
      · rw [if_pos z]
      · rw [if_neg z]
theorem rj_all {ob m out : Nat} {ad : Nat → Nat} {fo : Nat → Option Nat} {st : Nat → Nat} {L : c_L} {T : q_S} {K : c_S} {R : r_S} (lb : l_B L m ad fo st T) (ot : OT fo out L T) (eo : c_ob L 11 0 = ob) : lp_S m fo L T K R = c_E (rj L) (rjK L K) (lp_S m fo L T K R) ∧ WD (ob, m, out, ad, fo, st, R) (rj L) (lp_S m fo L T K R) ∧ RI (rjK L K) := by
  obtain ⟨g, w, sep⟩ := lb
  obtain ⟨⟨o1, o2, o3, o4⟩, li⟩ := ot
  refine ⟨rj_E.symm, ⟨⟨cG_E (rj_G (lp_G g) li), lp_WF sep w, sep.1, fun a f h => ?_⟩, ⟨⟨o1, o2, o3, o4⟩, rj_li g.1 li⟩, eo, ?_⟩, fun f i x hd h => ?_⟩
  · show (match c_aw L a with | some q => if q.2 < 1000000 then some q else none | none => none) = none
    rw [sep.2 a f h]
  · show r_E m fo R (c_E L K (r_E m fo R T)) = c_E L K (r_E m fo R T)
    rw [lp_com sep, r_EE]
  · have h : (K.2.2.2 f i).map (fun x => 1000000 + c_tg L f x) = some x := h
    cases e : K.2.2.2 f i with
    | none => rw [e] at h; cases h
    | some y =>
      rw [e] at h
      injection h with h
      have h : 1000000 + c_tg L f y = x := h
      omega
