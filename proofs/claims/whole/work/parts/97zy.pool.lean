/-! The two of them in one pool. -/
theorem lp_com {L : c_L} {m : Nat} {fo : Nat → Option Nat} {K : c_S} {R : r_S} {T : q_S} (s : l_Sep L m fo) : c_E L K (r_E m fo R T) = r_E m fo R (c_E L K T) := by
  refine Prod.ext rfl (Prod.ext ?_ (Prod.ext rfl (Prod.ext rfl (Prod.ext rfl (Prod.ext ?_ rfl)))))
  · refine funext fun f => funext fun a => ?_
    show (match c_ow L a with | some q => (if f / 200 = q.1 then K.1 f q.2 else (if a = m then R.1 f else T.2.1 f a)) | none => (if a = m then R.1 f else T.2.1 f a)) = (if a = m then R.1 f else (match c_ow L a with | some q => (if f / 200 = q.1 then K.1 f q.2 else T.2.1 f a) | none => T.2.1 f a))
    by_cases e : a = m
    · rw [if_pos e, e, s.1]
      simp only [if_true]
    · rw [if_neg e, if_neg e]
  · refine funext fun a => funext fun i => ?_
    show (match c_aw L a with | some q => K.2.2.1 q.1 q.2 i | none => (match fo a with | some f => R.2 f i | none => T.2.2.2.2.2.1 a i)) = (match fo a with | some f => R.2 f i | none => (match c_aw L a with | some q => K.2.2.1 q.1 q.2 i | none => T.2.2.2.2.2.1 a i))
    cases e : fo a with
    | none => rfl
    | some f => rw [s.2 a f e]
theorem lp_G {L : c_L} {m : Nat} {fo : Nat → Option Nat} {R : r_S} {T : q_S} (g : c_G L T) : c_G L (r_E m fo R T) := g
theorem lp_WF {L : c_L} {m : Nat} {ad : Nat → Nat} {fo : Nat → Option Nat} {st : Nat → Nat} {K : c_S} {T : q_S} (s : l_Sep L m fo) (w : r_WF m ad fo st T) : r_WF m ad fo st (c_E L K T) := by
  refine ⟨w.1, fun f hf => ⟨?_, (w.2.1 f hf).2⟩, w.2.2⟩
  rw [← (w.2.1 f hf).1]
  show (if c_dy f = true then (match c_ow L m with | some q => (if f / 200 = q.1 then (K.2.2.2 f q.2).map (c_tg L f) else T.2.2.2.1 f m) | none => T.2.2.2.1 f m) else T.2.2.2.1 f m) = _
  rw [s.1]
  split <;> rfl
theorem lp_gk {L : c_L} {T : q_S} (g : c_G L T) : GK L := ⟨g.2.2.2.2.2.2.2.2.2.2.1.2.2.1, fun _ _ m h => c_gU g m h, fun _ m => c_gQ g m⟩
theorem lp_54 {L : c_L} {T : q_S} (g : c_G L T) (i : Nat) (m : c_mk L 5 i) : c_mk L 4 i := c_gO g 1002 4 rfl (by decide) m
theorem lp_11 {L : c_L} {T : q_S} (g : c_G L T) : c_mk L 11 0 := g.2.2.2.2.2.2.2.2.2.2.1.1
/-- what is known between two calls -/
def ZI (Z : z_C) (R : r_S) : Prop := NB Z R ∧ (¬ z_bg Z = 0 → z_mv Z = z_np Z) ∧ (¬ z_ld Z = 0 → ZW Z) ∧ (¬ z_bg Z = 0 → ¬ z_ld Z = 0)
def OT0 (fo : Nat → Option Nat) (out : Nat) (L : c_L) (T : q_S) : Prop := q_K T out = 23 ∧ q_N T out = 1 ∧ out ≠ c_ar L 1801 0 ∧ ∀ a f : Nat, fo a = some f → (r_N f == 0) = false
/-- the rows whose lengths change -/
def LI (L : c_L) : Prop := (∀ p : Nat, c_mk L 4 p → c_ln L 801 p = c_ln L 802 p ∧ c_ln L 801 p < 2 ^ 31) ∧ (∀ i : Nat, c_mk L 8 i → c_ln L 1600 i < 2 ^ 31) ∧ (∀ c : Nat, c_mk L 1 c → (c_ln L 213 c = 60 ∧ c_ln L 214 c = 60) ∨ (c_ln L 213 c = 0 ∧ c_ln L 214 c = 0)) ∧ (∀ p j : Nat, j < 16 → c_mk L 7 (16 * p + j) → c_mk L 5 p) ∧ (∀ p j : Nat, j < 48 → c_mk L 10 (48 * p + j) → c_mk L 5 p) ∧ (∀ c i : Nat, c_mk L c i → i < 1000000) ∧ (∀ i : Nat, c_mk L 8 i → (i < 768 ∧ c_mk L 10 i) ∨ (1000 ≤ i ∧ c_mk L 1 (i - 1000))) ∧ ∀ p : Nat, c_mk L 4 p → c_mk L 5 p
def OT (fo : Nat → Option Nat) (out : Nat) (L : c_L) (T : q_S) : Prop := OT0 fo out L T ∧ LI L
def lp_I (ob m out : Nat) (ad : Nat → Nat) (fo : Nat → Option Nat) (st : Nat → Nat) (n : Nat) (L : c_L) (T : q_S) (K : c_S) (R : r_S) (Z : z_C) : Prop := l_B L m ad fo st T ∧ WR (1000000 * n) L Z K R ∧ ZI Z R ∧ OT fo out L T ∧ c_ob L 11 0 = ob ∧ z_tm Z ≤ 500 * n
/-- what the pool is then -/
def lp_S (m : Nat) (fo : Nat → Option Nat) (L : c_L) (T : q_S) (K : c_S) (R : r_S) : q_S := c_E L K (r_E m fo R T)
/-- the calls that come -/
def lp_C (ob m out : Nat) (ad : Nat → Nat) (fo : Nat → Option Nat) (st : Nat → Nat) (n u v : Nat) (B : Nat → Nat → q_S → Prop) : Prop := ∀ (L : c_L) (T : q_S) (K : c_S) (R : r_S) (Z : z_C) (u' v' : Nat), lp_I ob m out ad fo st n L T K R Z → u' ≤ u + 5000 → v' ≤ v + 109000 → B u' v' (lp_S m fo L T K R)
theorem ZI_th {Z : z_C} {R : r_S} {v : Int32} (h : ZI Z R) : ZI (zs_th Z v) (rs_I R 2400 v) := h
theorem lp_ask {ob m out : Nat} {ad : Nat → Nat} {fo : Nat → Option Nat} {st : Nat → Nat} {n : Nat} {L : c_L} {T : q_S} {K : c_S} {R : r_S} {Z : z_C} (h : lp_I ob m out ad fo st n L T K R Z) : lp_I ob m out ad fo st (n + 1) L T K (rs_I R 2400 0) (zs_th Z 0) := ⟨h.1, WR_w (WR_400 h.2.1) (by omega), ZI_th h.2.2.1, h.2.2.2.1, h.2.2.2.2.1, Nat.le_trans h.2.2.2.2.2 (by omega)⟩
theorem lq {ob m out : Nat} {ad : Nat → Nat} {fo : Nat → Option Nat} {st : Nat → Nat} {n : Nat} {L : c_L} {T : q_S} {K : c_S} {R : r_S} {Z : z_C} {WK WM : q_S → (Option Value → q_S → Prop) → Prop} {KM : (Int32 → c_S → Prop) → Prop} {RM : (Option Value → r_S → Prop) → Prop} {N : Int32 → q_S → Prop} {C : q_S → Prop} (li : lp_I ob m out ad fo st n L T K R Z) (um : ∀ (Q1 : Int32 → c_S → Prop) (Q : Option Value → q_S → Prop), KM Q1 → (∀ (v : Int32) (K' : c_S), Q1 v K' → Q (some (.int v)) (c_E L K' (r_E m fo R T))) → WK (lp_S m fo L T K R) Q) (em : ∀ (S0 : q_S), r_WF m ad fo st S0 → ∀ Q : Option Value → q_S → Prop, WM (r_E m fo R S0) Q ↔ RM (fun r S => Q r (r_E m fo S S0))) (qa : QA K R KM RM) (hN : ∀ x : Int32, WM (lp_S m fo L T K R) (fun r S => ∃ x' : Int32, r = some (.int x') ∧ ((x = x' → C S) ∧ (¬ x = x' → (0 : Int32) = 1))) → N x (lp_S m fo L T K R)) (hC : C (lp_S m fo L T K (rs_I R 2400 0))) : WK (lp_S m fo L T K R) (fun r S => ∃ x : Int32, r = some (.int x) ∧ N x S) := by
  obtain ⟨v, q1, q2⟩ := qa
  have sep := li.1.2.2
  refine um (fun x K' => x = v ∧ K' = K) _ (q1 _ ⟨rfl, rfl⟩) (fun x K' hx => ?_)
  obtain ⟨rfl, rfl⟩ := hx
  refine ⟨_, rfl, hN _ ?_⟩
  unfold lp_S at hC ⊢
  rw [lp_com sep] at hC ⊢
  exact (em _ (lp_WF sep li.1.2.1) _).mpr (q2 _ ⟨_, rfl, bt_ rfl hC⟩)
