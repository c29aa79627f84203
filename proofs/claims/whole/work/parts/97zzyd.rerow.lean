/-! A row made anew, of a memory or a queue. -/
/-- row f of channel c is at b, n long -/
def c_nv (L : c_L) (f c b n : Nat) : c_L := (L.1, fun f' i => if f' = f ∧ i = c then b else c_ar L f' i, L.2.2.1, fun a => if a = b then some (f, c) else if a = c_ar L f c then none else c_aw L a, fun f' i => if f' = f ∧ i = c then n else c_ln L f' i)
theorem nv_a {L : c_L} {f c b n f' i : Nat} (h : ¬ (f' = f ∧ i = c)) : c_ar (c_nv L f c b n) f' i = c_ar L f' i := if_neg h
theorem nv_b {L : c_L} {f c b n : Nat} : c_ar (c_nv L f c b n) f c = b := if_pos ⟨rfl, rfl⟩
theorem nv_m {L : c_L} {f c b n : Nat} : c_ma (c_nv L f c b n) f c := by
  show (if c_ar (c_nv L f c b n) f c = b then some (f, c) else _) = _
  rw [if_pos nv_b]
theorem nv_ma {L : c_L} {f c b n f' i : Nat} (h : ¬ (f' = f ∧ i = c)) (m : c_ma (c_nv L f c b n) f' i) : c_ma L f' i := by
  have m : (if c_ar (c_nv L f c b n) f' i = b then some (f, c) else if c_ar (c_nv L f c b n) f' i = c_ar L f c then none else c_aw L (c_ar (c_nv L f c b n) f' i)) = some (f', i) := m
  rw [nv_a h] at m
  by_cases e : c_ar L f' i = b
  · rw [if_pos e] at m
    injection m with m
    injection m with m1 m2
    exact absurd ⟨m1.symm, m2.symm⟩ h
  · rw [if_neg e] at m
    by_cases e2 : c_ar L f' i = c_ar L f c
    · rw [if_pos e2] at m; cases m
    · rw [if_neg e2] at m; exact m
theorem nv_am {L : c_L} {f c b n f' i : Nat} (h : ¬ (f' = f ∧ i = c)) (mf : c_ma L f c) (hb : c_ar L f' i ≠ b) (m : c_ma L f' i) : c_ma (c_nv L f c b n) f' i := by
  show (if c_ar (c_nv L f c b n) f' i = b then some (f, c) else if c_ar (c_nv L f c b n) f' i = c_ar L f c then none else c_aw L (c_ar (c_nv L f c b n) f' i)) = some (f', i)
  rw [nv_a h, if_neg hb]
  by_cases e2 : c_ar L f' i = c_ar L f c
  · have m : c_aw L (c_ar L f' i) = some (f', i) := m
    rw [e2, show c_aw L (c_ar L f c) = some (f, c) from mf] at m
    injection m with m
    injection m with m1 m2
    exact absurd ⟨m1.symm, m2.symm⟩ h
  · rw [if_neg e2]; exact m
theorem nv_G {L : c_L} {S : q_S} {f c b n : Nat} (g : c_G L S) (hf : f = 801 ∨ f = 802 ∨ f = 1600) (mc : c_mk L (f / 200) c) (hb : q_K S b = 0) : c_G (c_nv L f c b n) (qs_P (qs_R S 21 n b) f (c_ob L (f / 200) c) (some b)) := by
  have f1 : f / 200 = f / 200 := rfl
  have fa : f ∈ c_af := by rcases hf with rfl | rfl | rfl <;> decide
  have mf : c_ma L f c := c_gA g f f1 fa mc
  have ob_b : ∀ c' i : Nat, c_mk L c' i → c_ob L c' i ≠ b := fun c' i m z => by
    have := g.2.1 c' i m
    rw [z, hb] at this
    omega
  have ar_b : ∀ f' i : Nat, c_ma L f' i → c_ar L f' i ≠ b := fun f' i m z => by
    have := (g.2.2.1 f' i m).1
    rw [z, hb] at this
    exact c_kd0 f' this.symm
  have qK : ∀ a : Nat, a ≠ b → q_K (qs_P (qs_R S 21 n b) f (c_ob L (f / 200) c) (some b)) a = q_K S a := fun a ha => if_neg ha
  have qN : ∀ a : Nat, a ≠ b → q_N (qs_P (qs_R S 21 n b) f (c_ob L (f / 200) c) (some b)) a = q_N S a := fun a ha => if_neg ha
  have qC : ∀ a j : Nat, a ≠ b → q_C (qs_P (qs_R S 21 n b) f (c_ob L (f / 200) c) (some b)) a j = q_C S a j := fun a j ha => if_neg ha
  have qB : ∀ a j : Nat, a ≠ b → q_B (qs_P (qs_R S 21 n b) f (c_ob L (f / 200) c) (some b)) a j = q_B S a j := fun a j ha => if_neg ha
  have qP : ∀ f' a : Nat, ¬ (f' = f ∧ a = c_ob L (f / 200) c) → q_P (qs_P (qs_R S 21 n b) f (c_ob L (f / 200) c) (some b)) f' a = q_P S f' a := fun f' a h => if_neg h
  have ne : ∀ {f' : Nat}, f' ≠ 801 → f' ≠ 802 → f' ≠ 1600 → f' ≠ f := fun {f'} h1 h2 h3 z => by rcases hf with e | e | e <;> omega
  have inj : ∀ {c' i c2 i2 : Nat}, c_mk L c' i → c_mk L c2 i2 → c_ob L c' i = c_ob L c2 i2 → i = i2 := fun {c' i c2 i2} h1 h2 e => by
    have h1 : c_ow L (c_ob L c' i) = some (c', i) := h1
    rw [e, show c_ow L (c_ob L c2 i2) = some (c2, i2) from h2] at h1
    injection h1 with h1
    injection h1 with _ h1
    exact h1.symm
  obtain ⟨g1, g2, g3, g4, g5, g6, g7, g8, g9, g10, g11, g12, g13⟩ := g
  have m6 : c_mk L 6 0 := g11.2.2.1
  have m9 : c_mk L 9 0 := g11.2.1
  refine ⟨⟨g1.1, fun a q h => ?_⟩, fun c' i m => ?_, fun f' i m => ?_, fun q hq i m => ?_, fun f' hf' i m => ?_, fun q hq i m => ?_, fun i m => ?_, fun i m => ?_, fun p j m => ?_, fun j => ?_, g11, g12, fun i => ?_⟩
  · have h : (if a = b then some (f, c) else if a = c_ar L f c then none else c_aw L a) = some q := h
    by_cases e : a = b
    · rw [if_pos e] at h
      injection h with h
      subst h
      rw [e]; exact nv_b.symm
    · rw [if_neg e] at h
      by_cases e2 : a = c_ar L f c
      · rw [if_pos e2] at h; cases h
      · rw [if_neg e2] at h
        have := g1.2 a q h
        rw [nv_a (fun z => e2 (by rw [this, z.1, z.2]))]
        exact this
  · exact (qK _ (ob_b c' i m)).trans (g2 c' i m)
  · by_cases e : f' = f ∧ i = c
    · obtain ⟨rfl, rfl⟩ := e
      rw [nv_b]
      refine ⟨(if_pos rfl).trans ?_, (if_pos rfl).trans ?_⟩
      · rcases hf with rfl | rfl | rfl <;> rfl
      · exact (if_pos ⟨rfl, rfl⟩).symm
    · have m' := nv_ma e m
      rw [nv_a e, qK _ (ar_b f' i m'), qN _ (ar_b f' i m')]
      exact ⟨(g3 f' i m').1, (g3 f' i m').2.trans (if_neg e).symm⟩
  · refine ⟨(g4 q hq i m).1, (qP _ _ (fun z => ?_)).trans (g4 q hq i m).2⟩
    have : q.1 ≠ 801 ∧ q.1 ≠ 802 ∧ q.1 ≠ 1600 := (by decide : ∀ q ∈ c_pf, q.1 ≠ 801 ∧ q.1 ≠ 802 ∧ q.1 ≠ 1600) q hq
    exact ne this.1 this.2.1 this.2.2 z.1
  · by_cases e : f' = f ∧ i = c
    · obtain ⟨rfl, rfl⟩ := e
      refine ⟨nv_m, ?_⟩
      rw [nv_b]
      show (if f' = f' ∧ c_ob (c_nv L f' i b n) (f' / 200) i = c_ob L (f' / 200) i then some b else _) = some b
      exact if_pos ⟨rfl, rfl⟩
    · have ma := (g5 f' hf' i m).1
      refine ⟨nv_am e mf (ar_b f' i ma) ma, ?_⟩
      rw [nv_a e]
      refine (qP _ _ (fun z => e ⟨z.1, ?_⟩)).trans (g5 f' hf' i m).2
      have m' : c_mk L (f / 200) i := by have := m; rw [z.1] at this; exact this
      have z2 : c_ob L (f' / 200) i = c_ob L (f / 200) c := z.2
      rw [z.1] at z2
      exact inj m' mc z2
  · have : q.1 ≠ 801 ∧ q.1 ≠ 802 ∧ q.1 ≠ 1600 := (by decide : ∀ q ∈ c_fl, q.1 ≠ 801 ∧ q.1 ≠ 802 ∧ q.1 ≠ 1600) q hq
    have e : ¬ (q.1 = f ∧ i = c) := fun z => ne this.1 this.2.1 this.2.2 z.1
    exact (if_neg e).trans (g6 q hq i (nv_ma e m))
  · exact ⟨(g7 i m).1, (qP _ _ (fun z => ne (f' := 204) (by decide) (by decide) (by decide) z.1)).trans (g7 i m).2⟩
  · exact ⟨(g8 i m).1, (qP _ _ (fun z => ne (f' := 2009) (by decide) (by decide) (by decide) z.1)).trans (g8 i m).2⟩
  · have m : c_mk L 5 p := m
    rw [nv_a (f' := 1003) (fun z => ne (by decide) (by decide) (by decide) z.1), nv_a (f' := 1005) (fun z => ne (by decide) (by decide) (by decide) z.1), qC _ _ (ar_b _ _ (g5 1003 (by decide) p m).1), qC _ _ (ar_b _ _ (g5 1005 (by decide) p m).1)]
    exact g9 p j m
  · rw [nv_a (f' := 1200) (fun z => ne (by decide) (by decide) (by decide) z.1), nv_a (f' := 1202) (fun z => ne (by decide) (by decide) (by decide) z.1), qC _ _ (ar_b _ _ (g5 1200 (by decide) 0 m6).1), qC _ _ (ar_b _ _ (g5 1202 (by decide) 0 m6).1)]
    exact g10 j
  · rw [nv_a (f' := 1801) (fun z => ne (by decide) (by decide) (by decide) z.1), qB _ _ (ar_b _ _ (g5 1801 (by decide) 0 m9).1)]
    exact g13 i
theorem nv_E {L : c_L} {K : c_S} {S : q_S} {f c b n : Nat} (g : c_G L S) (hf : f = 801 ∨ f = 802 ∨ f = 1600) (mc : c_mk L (f / 200) c) (hb : q_K S b = 0) (hS : c_E L K S = S) : c_E (c_nv L f c b n) (cs_G K f c (fun _ => 0)) (qs_P (qs_R S 21 n b) f (c_ob L (f / 200) c) (some b)) = qs_P (qs_R S 21 n b) f (c_ob L (f / 200) c) (some b) := by
  refine c_same (c_gw (nv_G g hf mc hb)) (fun f' i m => ?_) (fun f' i m => ?_) (fun f' i hd m => ?_) (fun f' i j m => ?_)
  · show q_I S f' (c_ob L (f' / 200) i) = c_I K f' i
    rw [← hS]
    exact c_eI (L := L) m rfl
  · show q_J S f' (c_ob L (f' / 200) i) = c_J K f' i
    rw [← hS]
    exact c_eJ (L := L) m rfl
  · have nf : ¬ f' = f := fun z => by
      rw [z] at hd
      rcases hf with rfl | rfl | rfl <;> cases hd
    show (if f' = f ∧ c_ob L (f' / 200) i = c_ob L (f / 200) c then some b else q_P S f' (c_ob L (f' / 200) i)) = _
    rw [if_neg (fun z => nf z.1)]
    have e : q_P (c_E L K S) f' (c_ob L (f' / 200) i) = (c_P K f' i).map (c_tg L f') := c_eD m rfl hd
    rw [hS] at e
    refine e.trans ?_
    have h6 : f' = 0 ∨ f' = 1 ∨ f' = 2 ∨ f' = 3 ∨ f' = 209 ∨ f' = 211 := by
      unfold c_dy at hd
      split at hd
      · exact Or.inl rfl
      · exact Or.inr (Or.inl rfl)
      · exact Or.inr (Or.inr (Or.inl rfl))
      · exact Or.inr (Or.inr (Or.inr (Or.inl rfl)))
      · exact Or.inr (Or.inr (Or.inr (Or.inr (Or.inl rfl))))
      · exact Or.inr (Or.inr (Or.inr (Or.inr (Or.inr rfl))))
      · cases hd
    have et : c_tg (c_nv L f c b n) f' = c_tg L f' := by
      rcases h6 with rfl | rfl | rfl | rfl | rfl | rfl
      · rfl
      · rfl
      · rfl
      · exact funext fun x => nv_a (fun z => by rcases hf with rfl | rfl | rfl <;> exact absurd z.1 (by decide))
      · rfl
      · rfl
    rw [et]
    rfl
  · rw [c_AGr]
    by_cases e : f' = f ∧ i = c
    · rw [if_pos e, e.1, e.2, nv_b]
      exact if_pos rfl
    · rw [if_neg e, nv_a e]
      have ma := nv_ma e m
      have nb : c_ar L f' i ≠ b := fun z => by
        have := (g.2.2.1 f' i ma).1
        rw [z, hb] at this
        exact c_kd0 f' this.symm
      refine (if_neg nb).trans ?_
      show q_A S (c_ar L f' i) j = _
      rw [← hS]
      exact c_eA ma
theorem nv_R {m : Nat} {fo : Nat → Option Nat} {R : r_S} {S : q_S} {f o b n : Nat} (hb : fo b = none) (hS : r_E m fo R S = S) : r_E m fo R (qs_P (qs_R S 21 n b) f o (some b)) = qs_P (qs_R S 21 n b) f o (some b) := by
  refine Prod.ext rfl (Prod.ext ?_ (Prod.ext rfl (Prod.ext rfl (Prod.ext rfl (Prod.ext (funext fun a => funext fun i => ?_) rfl)))))
  · have e := congrArg (fun T : q_S => T.2.1) hS
    exact e
  · have e : (match fo a with | some f => R.2 f i | none => S.2.2.2.2.2.1 a i) = S.2.2.2.2.2.1 a i := congrFun (congrFun (congrArg (fun T : q_S => T.2.2.2.2.2.1) hS) a) i
    show (match fo a with | some f => R.2 f i | none => (if a = b then 0 else S.2.2.2.2.2.1 a i)) = (if a = b then 0 else S.2.2.2.2.2.1 a i)
    by_cases c : a = b
    · rw [c, hb]
    · rw [if_neg c]; exact e
theorem nv_WF {m : Nat} {ad : Nat → Nat} {fo : Nat → Option Nat} {st : Nat → Nat} {S : q_S} {f o b n : Nat} (w : r_WF m ad fo st S) (hb : q_K S b = 0) (ho : q_K S o ≠ 13) : r_WF m ad fo st (qs_P (qs_R S 21 n b) f o (some b)) := by
  have qK : ∀ a : Nat, a ≠ b → q_K (qs_P (qs_R S 21 n b) f o (some b)) a = q_K S a := fun a ha => if_neg ha
  have qN : ∀ a : Nat, a ≠ b → q_N (qs_P (qs_R S 21 n b) f o (some b)) a = q_N S a := fun a ha => if_neg ha
  have kb : q_K (qs_P (qs_R S 21 n b) f o (some b)) b = 21 := if_pos rfl
  obtain ⟨w1, w2, w3, w4, w5, w6⟩ := w
  have nb : ∀ a : Nat, q_K S a ≠ 0 → a ≠ b := fun a ha z => ha (by rw [z]; exact hb)
  refine ⟨(qK m (nb m (by rw [w1]; decide))).trans w1, fun f' hf => ?_, w3, fun k hk => ?_, fun b' h => ?_, fun k hk => ?_⟩
  · obtain ⟨a1, a2, a3, a4⟩ := w2 f' hf
    have na := nb (ad f') (by rw [a2]; exact r_Kd1 hf)
    refine ⟨?_, (qK _ na).trans a2, (qN _ na).trans a3, a4⟩
    rw [← a1]
    exact if_neg (fun z => ho (by rw [← z.2]; exact w1))
  · have na := nb (st k) (by rw [(w4 k hk).1]; decide)
    exact ⟨(qK _ na).trans (w4 k hk).1, (qN _ na).trans (w4 k hk).2⟩
  · by_cases e : b' = b
    · rw [e, kb] at h; cases h
    · rw [qK _ e] at h
      rw [qN _ e]
      exact w5 b' h
  · obtain ⟨b', h1, h2⟩ := w6 k hk
    have na := nb b' (by rw [h1]; decide)
    exact ⟨b', (qK _ na).trans h1, (qN _ na).trans h2⟩
theorem nv_Sep {L : c_L} {m : Nat} {fo : Nat → Option Nat} {f c b n : Nat} (s : l_Sep L m fo) (hb : fo b = none) : l_Sep (c_nv L f c b n) m fo := by
  refine ⟨s.1, fun a f' h => ?_⟩
  show (if a = b then some (f, c) else if a = c_ar L f c then none else c_aw L a) = none
  have : a ≠ b := fun z => by rw [z, hb] at h; cases h
  rw [if_neg this]
  split
  · rfl
  · exact s.2 a f' h
theorem nv_OT {L : c_L} {fo : Nat → Option Nat} {out : Nat} {S : q_S} {f c b o n : Nat} (ot : OT0 fo out L S) (hb : q_K S b = 0) (hf : f ≠ 1801) : OT0 fo out (c_nv L f c b n) (qs_P (qs_R S 21 n b) f o (some b)) := by
  have nb : out ≠ b := fun z => by
    have := ot.1
    rw [z, hb] at this
    cases this
  refine ⟨(if_neg nb).trans ot.1, (if_neg nb).trans ot.2.1, ?_, ot.2.2.2⟩
  rw [nv_a (fun z => hf z.1.symm)]
  exact ot.2.2.1
