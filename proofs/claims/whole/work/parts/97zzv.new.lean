/-! Objects made anew, with their rows. -/
def EV : Type := Nat × Nat × Nat × (Nat → Nat) × (Nat → Option Nat) × (Nat → Nat) × r_S
def WD (e : EV) (L : c_L) (T : q_S) : Prop := l_B L e.2.1 e.2.2.2.1 e.2.2.2.2.1 e.2.2.2.2.2.1 T ∧ OT e.2.2.2.2.1 e.2.2.1 L T ∧ c_ob L 11 0 = e.1 ∧ r_E e.2.1 e.2.2.2.2.1 e.2.2.2.2.2.2 T = T
theorem WD_g {e : EV} {L : c_L} {T : q_S} (h : WD e L T) : c_G L T := h.1.1
theorem WD_2 {e : EV} {L : c_L} {T : q_S} (h : WD e L T) : ∃ z : Nat, q_K T z = 31 ∧ q_N T z = 2 := h.1.2.1.2.2.2.2.2 2 (by decide)
/-- the pool is its own state -/
theorem WD_E {e : EV} {L : c_L} {T : q_S} {K : c_S} (h : WD e L T) : WD e L (c_E L K T) ∧ c_E L K (c_E L K T) = c_E L K T := by
  refine ⟨⟨⟨c_GE h.1.1, lp_WF h.1.2.2 h.1.2.1, h.1.2.2⟩, h.2.1, h.2.2.1, ?_⟩, c_EE (c_gw h.1.1)⟩
  rw [← lp_com h.1.2.2, h.2.2.2]
/-- S' is S where S had something, but for the slots sa -/
def AGR (S S' : q_S) (sa : Nat → Nat → Prop) : Prop := ∀ a : Nat, q_K S a ≠ 0 → q_K S' a = q_K S a ∧ q_N S' a = q_N S a ∧ (∀ f : Nat, q_I S' f a = q_I S f a ∧ q_J S' f a = q_J S f a ∧ q_P S' f a = q_P S f a) ∧ (∀ j : Nat, q_A S' a j = q_A S a j ∧ q_B S' a j = q_B S a j) ∧ ∀ j : Nat, ¬ sa a j → q_C S' a j = q_C S a j
/-- which are new: by their places -/
def nO (no : Nat → Option (Nat × Nat)) (bo : Nat → Nat → Nat) (c i : Nat) : Prop := no (bo c i) = some (c, i)
def c_xt (L : c_L) (no na : Nat → Option (Nat × Nat)) (bo ba nl : Nat → Nat → Nat) : c_L := (fun c i => if no (bo c i) = some (c, i) then bo c i else c_ob L c i, fun f i => if na (ba f i) = some (f, i) then ba f i else c_ar L f i, fun a => match no a with | some q => some q | none => (match c_ow L a with | some q => if no (bo q.1 q.2) = some q then none else some q | none => none), fun a => match na a with | some q => some q | none => (match c_aw L a with | some q => if na (ba q.1 q.2) = some q then none else some q | none => none), fun f i => if na (ba f i) = some (f, i) then nl f i else c_ln L f i)
def k_xt (K : c_S) (no na : Nat → Option (Nat × Nat)) (bo ba : Nat → Nat → Nat) : c_S := (fun f i => if no (bo (f / 200) i) = some (f / 200, i) then 0 else c_I K f i, fun f i => if no (bo (f / 200) i) = some (f / 200, i) then 0 else c_J K f i, fun f i => if na (ba f i) = some (f, i) then (fun _ => 0) else c_A K f i, fun f i => if no (bo (f / 200) i) = some (f / 200, i) then none else c_P K f i)
theorem xt_ob {L : c_L} {no na : Nat → Option (Nat × Nat)} {bo ba nl : Nat → Nat → Nat} {c i : Nat} (h : nO no bo c i) : c_ob (c_xt L no na bo ba nl) c i = bo c i := if_pos h
theorem xt_obn {L : c_L} {no na : Nat → Option (Nat × Nat)} {bo ba nl : Nat → Nat → Nat} {c i : Nat} (h : ¬ nO no bo c i) : c_ob (c_xt L no na bo ba nl) c i = c_ob L c i := if_neg h
theorem xt_ar {L : c_L} {no na : Nat → Option (Nat × Nat)} {bo ba nl : Nat → Nat → Nat} {c i : Nat} (h : nO na ba c i) : c_ar (c_xt L no na bo ba nl) c i = ba c i := if_pos h
theorem xt_arn {L : c_L} {no na : Nat → Option (Nat × Nat)} {bo ba nl : Nat → Nat → Nat} {c i : Nat} (h : ¬ nO na ba c i) : c_ar (c_xt L no na bo ba nl) c i = c_ar L c i := if_neg h
theorem xt_ln {L : c_L} {no na : Nat → Option (Nat × Nat)} {bo ba nl : Nat → Nat → Nat} {c i : Nat} (h : nO na ba c i) : c_ln (c_xt L no na bo ba nl) c i = nl c i := if_pos h
theorem xt_lnn {L : c_L} {no na : Nat → Option (Nat × Nat)} {bo ba nl : Nat → Nat → Nat} {c i : Nat} (h : ¬ nO na ba c i) : c_ln (c_xt L no na bo ba nl) c i = c_ln L c i := if_neg h
theorem xt_mk {L : c_L} {no na : Nat → Option (Nat × Nat)} {bo ba nl : Nat → Nat → Nat} {c i : Nat} (h : nO no bo c i) : c_mk (c_xt L no na bo ba nl) c i := by
  unfold c_mk
  rw [xt_ob h]
  show (match no (bo c i) with | some q => some q | none => _) = some (c, i)
  rw [show no (bo c i) = some (c, i) from h]
theorem xt_ma {L : c_L} {no na : Nat → Option (Nat × Nat)} {bo ba nl : Nat → Nat → Nat} {c i : Nat} (h : nO na ba c i) : c_ma (c_xt L no na bo ba nl) c i := by
  unfold c_ma
  rw [xt_ar h]
  show (match na (ba c i) with | some q => some q | none => _) = some (c, i)
  rw [show na (ba c i) = some (c, i) from h]
theorem xt_mko {L : c_L} {no na : Nat → Option (Nat × Nat)} {bo ba nl : Nat → Nat → Nat} {c i : Nat} (h : ¬ nO no bo c i) (ho : no (c_ob L c i) = none) : c_mk (c_xt L no na bo ba nl) c i ↔ c_mk L c i := by
  unfold c_mk
  rw [xt_obn h]
  show (match no (c_ob L c i) with | some q => some q | none => (match c_ow L (c_ob L c i) with | some q => if no (bo q.1 q.2) = some q then none else some q | none => none)) = some (c, i) ↔ _
  rw [ho]
  show (match c_ow L (c_ob L c i) with | some q => if no (bo q.1 q.2) = some q then none else some q | none => none) = some (c, i) ↔ _
  cases e : c_ow L (c_ob L c i) with
  | none => exact Iff.rfl
  | some q =>
    show (if no (bo q.1 q.2) = some q then none else some q) = some (c, i) ↔ _
    by_cases z : no (bo q.1 q.2) = some q
    · rw [if_pos z]
      refine ⟨fun y => (by cases y), fun y => ?_⟩
      injection y with y
      subst y
      exact absurd z h
    · rw [if_neg z]
theorem xt_mao {L : c_L} {no na : Nat → Option (Nat × Nat)} {bo ba nl : Nat → Nat → Nat} {c i : Nat} (h : ¬ nO na ba c i) (ho : na (c_ar L c i) = none) : c_ma (c_xt L no na bo ba nl) c i ↔ c_ma L c i := by
  unfold c_ma
  rw [xt_arn h]
  show (match na (c_ar L c i) with | some q => some q | none => (match c_aw L (c_ar L c i) with | some q => if na (ba q.1 q.2) = some q then none else some q | none => none)) = some (c, i) ↔ _
  rw [ho]
  show (match c_aw L (c_ar L c i) with | some q => if na (ba q.1 q.2) = some q then none else some q | none => none) = some (c, i) ↔ _
  cases e : c_aw L (c_ar L c i) with
  | none => exact Iff.rfl
  | some q =>
    show (if na (ba q.1 q.2) = some q then none else some q) = some (c, i) ↔ _
    by_cases z : na (ba q.1 q.2) = some q
    · rw [if_pos z]
      refine ⟨fun y => (by cases y), fun y => ?_⟩
      injection y with y
      subst y
      exact absurd z h
    · rw [if_neg z]
/-- made in the new layout: new, or made before -/
theorem xt_mkc {L : c_L} {no na : Nat → Option (Nat × Nat)} {bo ba nl : Nat → Nat → Nat} {c i : Nat} (hb : ∀ (a : Nat) (q : Nat × Nat), no a = some q → a = bo q.1 q.2) (m : c_mk (c_xt L no na bo ba nl) c i) : nO no bo c i ∨ (¬ nO no bo c i ∧ c_mk L c i) := by
  by_cases h : nO no bo c i
  · exact Or.inl h
  · refine Or.inr ⟨h, ?_⟩
    cases e : no (c_ob L c i) with
    | none => exact (xt_mko h e).mp m
    | some q =>
      unfold c_mk at m
      rw [xt_obn h] at m
      have m : (match no (c_ob L c i) with | some q => some q | none => (match c_ow L (c_ob L c i) with | some q => if no (bo q.1 q.2) = some q then none else some q | none => none)) = some (c, i) := m
      rw [e] at m
      have m : some q = some (c, i) := m
      injection m with m
      subst m
      have := hb _ _ e
      exact absurd (by unfold nO; rw [← this]; exact e) h
theorem xt_mac {L : c_L} {no na : Nat → Option (Nat × Nat)} {bo ba nl : Nat → Nat → Nat} {c i : Nat} (hb : ∀ (a : Nat) (q : Nat × Nat), na a = some q → a = ba q.1 q.2) (m : c_ma (c_xt L no na bo ba nl) c i) : nO na ba c i ∨ (¬ nO na ba c i ∧ c_ma L c i) := by
  by_cases h : nO na ba c i
  · exact Or.inl h
  · refine Or.inr ⟨h, ?_⟩
    cases e : na (c_ar L c i) with
    | none => exact (xt_mao h e).mp m
    | some q =>
      unfold c_ma at m
      rw [xt_arn h] at m
      have m : (match na (c_ar L c i) with | some q => some q | none => (match c_aw L (c_ar L c i) with | some q => if na (ba q.1 q.2) = some q then none else some q | none => none)) = some (c, i) := m
      rw [e] at m
      have m : some q = some (c, i) := m
      injection m with m
      subst m
      have := hb _ _ e
      exact absurd (by unfold nO; rw [← this]; exact e) h
