/-! A row made anew. -/
theorem c_same {L : c_L} {K : c_S} {S : q_S} (w : c_WF L) (hI : ∀ f i : Nat, c_mk L (f / 200) i → q_I S f (c_ob L (f / 200) i) = c_I K f i) (hJ : ∀ f i : Nat, c_mk L (f / 200) i → q_J S f (c_ob L (f / 200) i) = c_J K f i) (hP : ∀ f i : Nat, c_dy f = true → c_mk L (f / 200) i → q_P S f (c_ob L (f / 200) i) = (c_P K f i).map (c_tg L f)) (hA : ∀ f i j : Nat, c_ma L f i → q_A S (c_ar L f i) j = c_A K f i j) : c_E L K S = S := by
  have mk : ∀ {f a : Nat} {q : Nat × Nat}, c_ow L a = some q → f / 200 = q.1 → c_mk L (f / 200) q.2 ∧ a = c_ob L (f / 200) q.2 := fun {f a q} ho e => by
    have ha := w.1 a q ho
    refine ⟨?_, by rw [e]; exact ha⟩
    show c_ow L (c_ob L (f / 200) q.2) = some (f / 200, q.2)
    rw [e, ← ha, ho]
  refine Prod.ext rfl (Prod.ext (funext fun f => funext fun a => ?_) (Prod.ext (funext fun f => funext fun a => ?_) (Prod.ext (funext fun f => funext fun a => ?_) (Prod.ext rfl (Prod.ext (funext fun a => funext fun j => ?_) rfl)))))
  · show (match c_ow L a with | some q => (if f / 200 = q.1 then K.1 f q.2 else S.2.1 f a) | none => S.2.1 f a) = S.2.1 f a
    cases ho : c_ow L a with
    | none => rfl
    | some q =>
      show (if f / 200 = q.1 then K.1 f q.2 else S.2.1 f a) = _
      by_cases e : f / 200 = q.1
      · rw [if_pos e, (mk ho e).2]; exact (hI f q.2 (mk ho e).1).symm
      · rw [if_neg e]
  · show (match c_ow L a with | some q => (if f / 200 = q.1 then K.2.1 f q.2 else S.2.2.1 f a) | none => S.2.2.1 f a) = S.2.2.1 f a
    cases ho : c_ow L a with
    | none => rfl
    | some q =>
      show (if f / 200 = q.1 then K.2.1 f q.2 else S.2.2.1 f a) = _
      by_cases e : f / 200 = q.1
      · rw [if_pos e, (mk ho e).2]; exact (hJ f q.2 (mk ho e).1).symm
      · rw [if_neg e]
  · show (if c_dy f = true then (match c_ow L a with | some q => (if f / 200 = q.1 then (K.2.2.2 f q.2).map (c_tg L f) else S.2.2.2.1 f a) | none => S.2.2.2.1 f a) else S.2.2.2.1 f a) = S.2.2.2.1 f a
    by_cases e1 : c_dy f = true
    · rw [if_pos e1]
      cases ho : c_ow L a with
      | none => rfl
      | some q =>
        show (if f / 200 = q.1 then (K.2.2.2 f q.2).map (c_tg L f) else S.2.2.2.1 f a) = _
        by_cases e : f / 200 = q.1
        · rw [if_pos e, (mk ho e).2]; exact (hP f q.2 e1 (mk ho e).1).symm
        · rw [if_neg e]
    · rw [if_neg e1]
  · show (match c_aw L a with | some q => K.2.2.1 q.1 q.2 j | none => S.2.2.2.2.2.1 a j) = S.2.2.2.2.2.1 a j
    cases ho : c_aw L a with
    | none => rfl
    | some q =>
      show K.2.2.1 q.1 q.2 j = _
      have ha := w.2 a q ho
      have m : c_ma L q.1 q.2 := by
        show c_aw L (c_ar L q.1 q.2) = some (q.1, q.2)
        rw [← ha, ho]
      rw [ha]
      exact (hA q.1 q.2 j m).symm
/-- row f of channel c is at b, 60 long -/
def c_nw (L : c_L) (f c b : Nat) : c_L := (L.1, fun f' i => if f' = f ∧ i = c then b else c_ar L f' i, L.2.2.1, fun a => if a = b then some (f, c) else if a = c_ar L f c then none else c_aw L a, fun f' i => if f' = f ∧ i = c then 60 else c_ln L f' i)
theorem nw_a {L : c_L} {f c b f' i : Nat} (h : ¬ (f' = f ∧ i = c)) : c_ar (c_nw L f c b) f' i = c_ar L f' i := if_neg h
theorem nw_b {L : c_L} {f c b : Nat} : c_ar (c_nw L f c b) f c = b := if_pos ⟨rfl, rfl⟩
theorem nw_m {L : c_L} {f c b : Nat} : c_ma (c_nw L f c b) f c := by
  show (if c_ar (c_nw L f c b) f c = b then some (f, c) else _) = _
  rw [if_pos nw_b]
theorem nw_ma {L : c_L} {f c b f' i : Nat} (h : ¬ (f' = f ∧ i = c)) (m : c_ma (c_nw L f c b) f' i) : c_ma L f' i := by
  have m : (if c_ar (c_nw L f c b) f' i = b then some (f, c) else if c_ar (c_nw L f c b) f' i = c_ar L f c then none else c_aw L (c_ar (c_nw L f c b) f' i)) = some (f', i) := m
  rw [nw_a h] at m
  by_cases e : c_ar L f' i = b
  · rw [if_pos e] at m
    injection m with m
    injection m with m1 m2
    exact absurd ⟨m1.symm, m2.symm⟩ h
  · rw [if_neg e] at m
    by_cases e2 : c_ar L f' i = c_ar L f c
    · rw [if_pos e2] at m; cases m
    · rw [if_neg e2] at m; exact m
theorem nw_am {L : c_L} {f c b f' i : Nat} (h : ¬ (f' = f ∧ i = c)) (mf : c_ma L f c) (hb : c_ar L f' i ≠ b) (m : c_ma L f' i) : c_ma (c_nw L f c b) f' i := by
  show (if c_ar (c_nw L f c b) f' i = b then some (f, c) else if c_ar (c_nw L f c b) f' i = c_ar L f c then none else c_aw L (c_ar (c_nw L f c b) f' i)) = some (f', i)
  rw [nw_a h, if_neg hb]
  by_cases e2 : c_ar L f' i = c_ar L f c
  · have m : c_aw L (c_ar L f' i) = some (f', i) := m
    rw [e2, show c_aw L (c_ar L f c) = some (f, c) from mf] at m
    injection m with m
    injection m with m1 m2
    exact absurd ⟨m1.symm, m2.symm⟩ h
  · rw [if_neg e2]; exact m
theorem c_kd0 (f : Nat) : c_kd f ≠ 0 := by
  unfold c_kd
  repeat' split
  all_goals decide
theorem nw_G {L : c_L} {S : q_S} {f c b : Nat} (g : c_G L S) (hf : f = 213 ∨ f = 214) (mc : c_mk L 1 c) (hb : q_K S b = 0) : c_G (c_nw L f c b) (qs_P (qs_R S 21 60 b) f (c_ob L 1 c) (some b)) := by
  have f1 : f / 200 = 1 := by rcases hf with rfl | rfl <;> rfl
  have fa : f ∈ c_af := by rcases hf with rfl | rfl <;> decide
  have mf : c_ma L f c := c_gA g f f1 fa mc
  have ob_b : ∀ c' i : Nat, c_mk L c' i → c_ob L c' i ≠ b := fun c' i m z => by
    have := g.2.1 c' i m
    rw [z, hb] at this
    omega
  have ar_b : ∀ f' i : Nat, c_ma L f' i → c_ar L f' i ≠ b := fun f' i m z => by
    have := (g.2.2.1 f' i m).1
    rw [z, hb] at this
    exact c_kd0 f' this.symm
  have qK : ∀ a : Nat, a ≠ b → q_K (qs_P (qs_R S 21 60 b) f (c_ob L 1 c) (some b)) a = q_K S a := fun a ha => if_neg ha
  have qN : ∀ a : Nat, a ≠ b → q_N (qs_P (qs_R S 21 60 b) f (c_ob L 1 c) (some b)) a = q_N S a := fun a ha => if_neg ha
  have qC : ∀ a j : Nat, a ≠ b → q_C (qs_P (qs_R S 21 60 b) f (c_ob L 1 c) (some b)) a j = q_C S a j := fun a j ha => if_neg ha
  have qB : ∀ a j : Nat, a ≠ b → q_B (qs_P (qs_R S 21 60 b) f (c_ob L 1 c) (some b)) a j = q_B S a j := fun a j ha => if_neg ha
  have qP : ∀ f' a : Nat, ¬ (f' = f ∧ a = c_ob L 1 c) → q_P (qs_P (qs_R S 21 60 b) f (c_ob L 1 c) (some b)) f' a = q_P S f' a := fun f' a h => if_neg h
  have ne : ∀ {f' : Nat}, f' ≠ 213 → f' ≠ 214 → f' ≠ f := fun {f'} h1 h2 z => by rcases hf with e | e <;> omega
  have inj : ∀ {c' i c2 i2 : Nat}, c_mk L c' i → c_mk L c2 i2 → c_ob L c' i = c_ob L c2 i2 → i = i2 := fun {c' i c2 i2} h1 h2 e => by
    have h1 : c_ow L (c_ob L c' i) = some (c', i) := h1
    rw [e, show c_ow L (c_ob L c2 i2) = some (c2, i2) from h2] at h1
    injection h1 with h1
    injection h1 with _ h1
    exact h1.symm
  obtain ⟨g1, g2, g3, g4, g5, g6, g7, g8, g9, g10, g11, g12, g13⟩ := g
  have m6 : c_mk L 6 0 := g11.2.2.1
  have m9 : c_mk L 9 0 := g11.2.1
  refine ⟨⟨g1.1, fun a q h => ?_⟩, fun c' i m => ?_, fun f' i m => ?_, fun q hq i m => ?_, fun f' hf' i m => ?_, fun q hq i m => ?_, fun i m => ?_, fun i m => ?_, fun p j m => ?_, fun j => ?_, g11, g12, fun i => ?_⟩
  · have h : (if a = b then some (f, c) else if a = c_ar L f c then none else c_aw L a) = some q := h
    by_cases e : a = b
    · rw [if_pos e] at h
      injection h with h
      subst h
      rw [e]; exact nw_b.symm
    · rw [if_neg e] at h
      by_cases e2 : a = c_ar L f c
      · rw [if_pos e2] at h; cases h
      · rw [if_neg e2] at h
        have := g1.2 a q h
        rw [nw_a (fun z => e2 (by rw [this, z.1, z.2]))]
        exact this
  · exact (qK _ (ob_b c' i m)).trans (g2 c' i m)
  · by_cases e : f' = f ∧ i = c
    · obtain ⟨rfl, rfl⟩ := e
      rw [nw_b]
      refine ⟨(if_pos rfl).trans ?_, (if_pos rfl).trans ?_⟩
      · rcases hf with rfl | rfl <;> rfl
      · exact (if_pos ⟨rfl, rfl⟩).symm
    · have m' := nw_ma e m
      rw [nw_a e, qK _ (ar_b f' i m'), qN _ (ar_b f' i m')]
      exact ⟨(g3 f' i m').1, (g3 f' i m').2.trans (if_neg e).symm⟩
  · refine ⟨(g4 q hq i m).1, (qP _ _ (fun z => ?_)).trans (g4 q hq i m).2⟩
    have : q.1 ≠ 213 ∧ q.1 ≠ 214 := (by decide : ∀ q ∈ c_pf, q.1 ≠ 213 ∧ q.1 ≠ 214) q hq
    exact ne this.1 this.2 z.1
  · by_cases e : f' = f ∧ i = c
    · obtain ⟨rfl, rfl⟩ := e
      refine ⟨nw_m, ?_⟩
      rw [nw_b]
      show (if f' = f' ∧ c_ob (c_nw L f' i b) (f' / 200) i = c_ob L 1 i then some b else _) = some b
      rw [f1]
      exact if_pos ⟨rfl, rfl⟩
    · have ma := (g5 f' hf' i m).1
      refine ⟨nw_am e mf (ar_b f' i ma) ma, ?_⟩
      rw [nw_a e]
      refine (qP _ _ (fun z => e ⟨z.1, ?_⟩)).trans (g5 f' hf' i m).2
      have m' : c_mk L 1 i := by have := m; rw [z.1, f1] at this; exact this
      have z2 : c_ob L (f' / 200) i = c_ob L 1 c := z.2
      rw [z.1, f1] at z2
      exact inj m' mc z2
  · have : q.1 ≠ 213 ∧ q.1 ≠ 214 := (by decide : ∀ q ∈ c_fl, q.1 ≠ 213 ∧ q.1 ≠ 214) q hq
    have e : ¬ (q.1 = f ∧ i = c) := fun z => ne this.1 this.2 z.1
    exact (if_neg e).trans (g6 q hq i (nw_ma e m))
  · exact ⟨(g7 i m).1, (qP _ _ (fun z => ne (f' := 204) (by decide) (by decide) z.1)).trans (g7 i m).2⟩
  · exact ⟨(g8 i m).1, (qP _ _ (fun z => ne (f' := 2009) (by decide) (by decide) z.1)).trans (g8 i m).2⟩
  · have m : c_mk L 5 p := m
    rw [nw_a (f' := 1003) (fun z => ne (by decide) (by decide) z.1), nw_a (f' := 1005) (fun z => ne (by decide) (by decide) z.1), qC _ _ (ar_b _ _ (g5 1003 (by decide) p m).1), qC _ _ (ar_b _ _ (g5 1005 (by decide) p m).1)]
    exact g9 p j m
  · rw [nw_a (f' := 1200) (fun z => ne (by decide) (by decide) z.1), nw_a (f' := 1202) (fun z => ne (by decide) (by decide) z.1), qC _ _ (ar_b _ _ (g5 1200 (by decide) 0 m6).1), qC _ _ (ar_b _ _ (g5 1202 (by decide) 0 m6).1)]
    exact g10 j
  · rw [nw_a (f' := 1801) (fun z => ne (by decide) (by decide) z.1), qB _ _ (ar_b _ _ (g5 1801 (by decide) 0 m9).1)]
    exact g13 i
