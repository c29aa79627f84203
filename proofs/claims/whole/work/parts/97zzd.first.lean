/-! The first state. -/
def Z_0 : z_C := (0, fun _ => 0, fun _ => none, fun _ _ => 0, 0, 0, 0, fun _ => 0, fun _ => 0, fun _ => 0, fun _ _ => 0, fun _ => 0, fun _ => 0, fun _ => none, fun _ _ => none, fun _ => 0, fun _ => 0, 0, 0, 0, 0, 0)
theorem WR_0 {L : c_L} {K : c_S} (hI : ∀ f : Nat, f / 200 = 6 ∨ f / 200 = 2 ∨ f / 200 = 9 → c_I K f 0 = if f = 1805 then -1 else 0) (hA : ∀ f i : Nat, f = 400 ∨ f = 401 ∨ f = 1802 ∨ f = 2204 → c_A K f 0 i = 0) : WR 0 L Z_0 K r_0 := by
  have np : ∀ p : Nat, ¬ p < z_np Z_0 := fun p => Nat.not_lt_zero p
  have nc : ∀ p : Nat, ¬ p < z_nc Z_0 := fun p => Nat.not_lt_zero p
  have ni : ∀ p : Nat, ¬ p < z_ni Z_0 := fun p => Nat.not_lt_zero p
  have nw : ∀ p : Nat, ¬ p < z_nw Z_0 := fun p => Nat.not_lt_zero p
  have i0 : ∀ f : Nat, f / 200 = 6 ∨ f / 200 = 2 ∨ f / 200 = 9 → f ≠ 1805 → c_I K f 0 = 0 := fun f h1 h2 => (hI f h1).trans (if_neg h2)
  have fb : fits .byte (.int 0) = true := by decide
  refine ⟨⟨⟨?cq, ?ct, ?cc, ?cm, ?nm⟩, ?th, ?ch, ?inn, ?me, ?jr, ?gl, ?tx⟩, ?dp, ?op, ?ti, ?pd, ?jb⟩
  case cq => exact ⟨by decide, fun p hp => absurd hp (np p)⟩
  case ct => exact fun p hp => absurd hp (np p)
  case cc =>
    refine ⟨⟨by decide, by decide, by decide⟩, ⟨i0 1201 (by decide) (by decide), rfl⟩, ⟨i0 1203 (by decide) (by decide), rfl⟩, ⟨i0 1205 (by decide) (by decide), rfl⟩, ⟨i0 1209 (by decide) (by decide), rfl⟩, i0 1206 (by decide) (by decide), fun c hc => absurd hc (nc c), fun i hi => absurd hi (ni i), fun i j hi => absurd hi (ni i), rfl, fun _ => rfl, fun i hi => absurd hi (nw i)⟩
  case cm => exact fun p hp => absurd hp (np p)
  case nm => exact fun p hp => absurd hp (np p)
  case th => exact fun p hp => absurd hp (np p)
  case ch => exact fun c hc => absurd hc (nc c)
  case inn => exact fun i hi => absurd hi (ni i)
  case me => exact ⟨fun p hp => absurd hp (np p), fun _ => fb, fun _ => fb⟩
  case jr => exact ⟨i0 402 (by decide) (by decide), i0 403 (by decide) (by decide), fun i => hA 400 i (by decide), fun i => hA 401 i (by decide)⟩
  case gl => exact ⟨i0 1211 (by decide) (by decide), i0 1212 (by decide) (by decide), ⟨i0 1213 (by decide) (by decide), Or.inl rfl, rfl⟩, ⟨i0 1214 (by decide) (by decide), Or.inl rfl⟩, fun z => absurd z (by decide), rfl, rfl, rfl⟩
  case tx => exact ⟨⟨0, by decide, i0 1803 (by decide) (by decide), rfl⟩, i0 1804 (by decide) (by decide), (hI 1805 (by decide)).trans (if_pos rfl), fun i => hA 1802 i (by decide), fun i => hA 2204 i (by decide), fun _ => fb, fun _ => fb⟩
  case dp => exact ⟨fun p hp => absurd hp (np p), fun _ _ _ => rfl⟩
  case op => exact ⟨⟨by decide, by decide⟩, fun p hp => absurd hp (np p)⟩
  case ti => exact ⟨⟨by decide, by decide⟩, fun p hp => absurd hp (np p)⟩
  case pd => exact fun p hp => absurd hp (np p)
  case jb => exact ⟨⟨by decide, by decide⟩, by decide, by decide⟩
def fo_n (fo : Nat → Option Nat) (a : Nat) : Option Nat := match fo a with | some f => if (r_N f == 0) = true then none else some f | none => none
theorem fo_n1 {fo : Nat → Option Nat} {a f : Nat} (h : fo_n fo a = some f) : fo a = some f ∧ (r_N f == 0) = false := by
  unfold fo_n at h
  cases e : fo a with
  | none => rw [e] at h; cases h
  | some f' =>
    rw [e] at h
    simp only at h
    by_cases c : (r_N f' == 0) = true
    · rw [if_pos c] at h; cases h
    · rw [if_neg c] at h
      injection h with h
      subst h
      exact ⟨rfl, Bool.eq_false_iff.mpr c⟩
theorem fo_n2 {fo : Nat → Option Nat} {a f : Nat} (h : fo a = some f) (h2 : (r_N f == 0) = false) : fo_n fo a = some f := by
  unfold fo_n
  rw [h]
  simp only
  rw [if_neg (by rw [h2]; decide)]
theorem fo_nB {L : c_L} {m : Nat} {ad : Nat → Nat} {fo : Nat → Option Nat} {st : Nat → Nat} {T : q_S} (h : l_B L m ad fo st T) : l_B L m ad (fo_n fo) st T := by
  obtain ⟨g, ⟨w1, w2, w3, w4⟩, s1, s2⟩ := h
  exact ⟨g, ⟨w1, fun f hf => ⟨(w2 f hf).1, (w2 f hf).2.1, (w2 f hf).2.2.1, fo_n2 (w2 f hf).2.2.2 hf⟩, fun a f hf => w3 a f (fo_n1 hf).1, w4⟩, s1, fun a f hf => s2 a f (fo_n1 hf).1⟩
theorem fo_nE {m : Nat} {fo : Nat → Option Nat} {R : r_S} {T : q_S} (h : r_E m fo R T = T) : r_E m (fo_n fo) R T = T := by
  refine Prod.ext rfl (Prod.ext ?_ (Prod.ext rfl (Prod.ext rfl (Prod.ext rfl (Prod.ext (funext fun a => funext fun i => ?_) rfl)))))
  · have e := congrArg (fun T : q_S => T.2.1) h
    exact e
  · have e : (match fo a with | some f => R.2 f i | none => T.2.2.2.2.2.1 a i) = T.2.2.2.2.2.1 a i := congrFun (congrFun (congrArg (fun T : q_S => T.2.2.2.2.2.1) h) a) i
    show (match fo_n fo a with | some f => R.2 f i | none => T.2.2.2.2.2.1 a i) = T.2.2.2.2.2.1 a i
    cases c : fo_n fo a with
    | none => rfl
    | some f => rw [(fo_n1 c).1] at e; exact e
theorem l_first {Ln : Nat} {xs : Nat → Int32} (hL : Ln ≤ 384) (h2 : ∀ (ob m out : Nat) (ad : Nat → Nat) (fo : Nat → Option Nat) (st : Nat → Nat), lh_2 ob m out ad fo st) (h5 : ∀ (ob m out : Nat) (ad : Nat → Nat) (fo : Nat → Option Nat) (st : Nat → Nat), lh_5 ob m out ad fo st) (T : q_S) (L : c_L) (m : Nat) (ad : Nat → Nat) (fo : Nat → Option Nat) (st : Nat → Nat) (out : Nat) (lb : l_B L m ad fo st T) (cz : c_Z0 L T) (er : r_E m fo r_0 T = T) (k23 : q_K T out = 23) (n1 : q_N T out = 1) (ne : out ≠ c_ar L 1801 0) : ∃ n : Nat, wl_L_law_23 Ln xs n (0 + 1 + 15 + 1 + 87 + 1) (0 + 5 + 5496 + 114 + 308032 + 1) T (some (c_ob L 11 0)) (some m) (some out) 0 := by
  have lb := fo_nB lb
  have er := fo_nE er
  have g := lb.1
  have m11 := lp_11 g
  have m6 : c_mk L 6 0 := g.2.2.2.2.2.2.2.2.2.2.1.2.2.1
  have m9 : c_mk L 9 0 := g.2.2.2.2.2.2.2.2.2.2.1.2.1
  have m2 : c_mk L 2 0 := g.2.2.2.2.2.2.2.2.2.2.1.2.2.2.1
  have w : WR 0 L Z_0 (c_of L T) r_0 := by
    refine WR_0 (fun f hf => ?_) (fun f i hf => ?_)
    · refine cz.2.1 f ?_
      rcases hf with e | e | e
      · rw [e]; exact m6
      · rw [e]; exact m2
      · rw [e]; exact m9
    · refine cz.2.2.1 f i ?_
      rcases hf with rfl | rfl | rfl | rfl
      · exact c_gA g 400 rfl (by decide) m2
      · exact c_gA g 401 rfl (by decide) m2
      · exact c_gA g 1802 rfl (by decide) m9
      · exact c_gA g 2204 rfl (by decide) m11
  have eT : lp_S m (fo_n fo) L T (c_of L T) r_0 = T := by
    unfold lp_S
    rw [er]
    refine c_id (c_gw g) T (fun f i hd hm => ?_)
    obtain ⟨e0, hc⟩ := cz.1 _ _ hm
    subst e0
    have hf : f = 0 ∨ f = 1 ∨ f = 2 ∨ f = 3 ∨ f = 209 ∨ f = 211 := by
      unfold c_dy at hd
      split at hd
      · exact Or.inl rfl
      · exact Or.inr (Or.inl rfl)
      · exact Or.inr (Or.inr (Or.inl rfl))
      · exact Or.inr (Or.inr (Or.inr (Or.inl rfl)))
      · exact Or.inr (Or.inr (Or.inr (Or.inr (Or.inl rfl))))
      · exact Or.inr (Or.inr (Or.inr (Or.inr (Or.inr rfl))))
      · cases hd
    rcases hf with rfl | rfl | rfl | rfl | rfl | rfl
    · exact cz.2.2.2 0 (by decide)
    · exact cz.2.2.2 1 (by decide)
    · exact cz.2.2.2 2 (by decide)
    · exact cz.2.2.2 3 (by decide)
    · exact absurd hc (by decide)
    · exact absurd hc (by decide)
  have := l_loop (xs := xs) hL l_end (h2 _ _ _ _ _ _) l_image (h5 _ _ _ _ _ _) l_begin l_run 64 0 105 313648 L T (c_of L T) r_0 Z_0 (by decide) (ob := c_ob L 11 0) (m := m) (out := out) (ad := ad) (fo := fo_n fo) (st := st) ⟨lb, w, ⟨fun _ => ⟨⟨rfl, rfl⟩, fun p hp => absurd hp (Nat.not_lt_zero p)⟩, fun z => absurd rfl z, fun z => absurd rfl z, fun z => absurd rfl z⟩, ⟨⟨k23, n1, ne, fun a f h => (fo_n1 h).2⟩, fun p m => absurd (cz.1 _ _ m).2 (by decide), fun p m => absurd (cz.1 _ _ m).2 (by decide), fun p m => absurd (cz.1 _ _ m).2 (by decide), fun p j _ m => absurd (cz.1 _ _ m).2 (by decide), fun p j _ m => absurd (cz.1 _ _ m).2 (by decide), fun c i m => by rw [(cz.1 c i m).1]; decide, fun i m => absurd (cz.1 _ _ m).2 (by decide), fun p m => absurd (cz.1 _ _ m).2 (by decide)⟩, rfl, Nat.le_refl _⟩ (by decide) (by decide)
  rw [eT] at this
  exact ⟨65, this⟩
