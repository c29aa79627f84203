/-! A channel: its goals, its source. -/
theorem PC_m {D : CD} {np nc : Nat} {sp sp' : Nat → Option (Nat × Nat)} {gp gp' : Nat → Nat → Option (Nat × Nat)} {ng ng' : Nat → Nat} {K K' : c_S} {R R' : r_S} (h : PC D np nc sp gp ng K R) (k : ∀ j : Nat, c_I K' 2008 j = c_I K 2008 j) (r : ∀ f j : Nat, f ∈ [2448, 2449, 2450, 2454] → r_A R' f j = r_A R f j) (s1 : ∀ (c' : Nat) (q : Nat × Nat), c' < nc → sp c' = some q → sp' c' = some q) (s2 : ∀ (c' : Nat) (q : Nat × Nat), c' < nc → (∃ g : Nat, g < ng c' ∧ gp c' g = some q) → ∃ g : Nat, g < ng' c' ∧ gp' c' g = some q) : PC D np nc sp' gp' ng' K' R' := fun p i hp hi => by
  obtain ⟨h1, h2⟩ := h p i hp hi
  rw [k, r 2450 _ (by decide), r 2448 _ (by decide), r 2449 _ (by decide)]
  exact ⟨h1, h2.elim Or.inl (fun ⟨c, a1, a2, a3, a4, a5⟩ => Or.inr ⟨c, a1, a2, (r 2454 _ (by decide)).trans a3, fun z => s1 c _ a1 (a4 z), fun z => s2 c _ a1 (a5 z)⟩)⟩
/-- where the head of a channel's body changes something -/
def oI (c f i : Nat) : Prop := (f / 200 = 9 ∧ 1806 < f) ∨ (f = 202 ∧ i = c)
def oa (c f i : Nat) : Prop := (f = 2456 ∨ f = 2458) ∧ i = c
theorem CP_of {e : EV} {B : Nat} {K0 Ks K K' : c_S} {R0 Rs R R' : r_S} {D : CD} {np lm nc ni : Nat} {sp : Nat → Option (Nat × Nat)} {gp : Nat → Nat → Option (Nat × Nat)} {ng ic : Nat → Nat} {fl : Int32} {L : c_L} {T : q_S} (cp : CP e B K0 R0 D np lm Ks Rs nc sp gp ng ic ni fl L T K R) (of : OF (oI nc) (fun _ _ => False) mi (oa nc) K R K' R') (av' : AV B K0 R0 K' R') : CP e B K0 R0 D np lm Ks Rs nc sp gp ng ic ni fl L T K' R' := by
  obtain ⟨wd, av, cb, pc, icc, ⟨c24, hl⟩, ⟨k03, r16⟩, ⟨hni, k05, r18⟩, k06⟩ := cp
  have g := WD_g wd
  have ofd : OF (dI nc) (dA nc) di (da nc) K R K' R' := OF_w of (fun f i z => by unfold oI at z; unfold dI; omega) (fun f i z => z.elim) (fun f z => by unfold mi at z; unfold di; omega) (fun f i z => by unfold oa at z; unfold da; omega)
  have r1 : ∀ f i : Nat, f ≠ 2456 → f ≠ 2458 → r_A R' f i = r_A R f i := fun f i a b => of.2.2.2 f i (fun z => by unfold oa at z; omega)
  have i2 : ∀ f : Nat, ¬ (2404 ≤ f ∧ f ≤ 2411) → r_I R' f = r_I R f := fun f h => of.2.2.1 f h
  have k1 : ∀ f i : Nat, f / 200 ≠ 9 → f ≠ 202 → c_I K' f i = c_I K f i := fun f i a b => (of.1 f i (fun z => by unfold oI at z; omega)).1
  refine ⟨wd, av', CB_of cb g LX_0 (by omega) ofd (fun j c hc h => (r1 _ _ (by decide) (by decide)).trans h) (fun c hc => ⟨rfl, rfl, rfl⟩), PC_m pc (fun j => k1 _ _ (by decide) (by decide)) (fun f j m => r1 f j (fun z => by rw [z] at m; exact absurd m (by decide)) (fun z => by rw [z] at m; exact absurd m (by decide))) (fun _ _ _ h => h) (fun _ _ _ h => h), ⟨fun i hi => ?_, icc.2⟩, ⟨c24, hl⟩, ⟨(k1 _ _ (by decide) (by decide)).trans k03, (i2 _ (by omega)).trans r16⟩, ⟨hni, (k1 _ _ (by decide) (by decide)).trans k05, (i2 _ (by omega)).trans r18⟩, ?_⟩
  · obtain ⟨a1, a2, a3, a4⟩ := icc.1 i hi
    exact ⟨a1, (of.2.1 1204 0 i (fun z => z)).trans a2, (r1 _ _ (by decide) (by decide)).trans a3, a4⟩
  · rw [k1 1206 0 (by decide) (by decide), i2 2419 (by omega)]
    exact k06
theorem GS_t {e : EV} {B : Nat} {K0 Ks K K' : c_S} {R0 Rs R R' : r_S} {D : CD} {np lm nc ni : Nat} {sp : Nat → Option (Nat × Nat)} {gp : Nat → Nat → Option (Nat × Nat)} {ng ic : Nat → Nat} {L : c_L} {T : q_S} (gs : GS e B K0 R0 D np lm Ks Rs nc sp gp ng ic ni L T K R) (t : TOKf K K' R R') (av' : AV B K0 R0 K' R') : GS e B K0 R0 D np lm Ks Rs nc sp gp ng ic ni L T K' R' := by
  obtain ⟨cp, c0, c1, c2, c3⟩ := gs
  have k1 : ∀ f i : Nat, f / 200 ≠ 9 → c_I K' f i = c_I K f i := fun f i h => t.1 f i (fun m => h ((by decide : ∀ f ∈ [1807, 1808, 1809, 1811], f / 200 = 9) f m))
  have m9 : ∀ l : List Nat, (∀ f ∈ l, f / 200 = 1) → ∀ f ∈ l, ∀ i : Nat, c_I K' f i = c_I K f i := fun l h f m i => k1 f i (by have := h f m; omega)
  exact ⟨CP_of cp (OF_w (TOKf_of t) (fun f i z => by unfold oI; omega) (fun f i z => z) (fun f z => z) (fun f i z => z.elim)) av', C0_c c0 LX_0 (fun f m => m9 _ (by decide) f m _) (TOKf_a t _ _), C1_c c1 (Nat.le_refl _) (fun f m => m9 _ (by decide) f m _) (fun f h => k1 f _ (by omega)) (fun f _ => TOKf_a t _ _), C2_c c2 ⟨TOKf_P t _ _, k1 _ _ (by decide)⟩ (TOKf_a t _ _) (fun j h => (TOKf_a t _ _).trans h) (fun j => TOKf_a t _ _), C3_c c3 (fun f m => m9 _ (by decide) f m _) (TOKf_P t _ _) ⟨TOKf_a t _ _, TOKf_a t _ _⟩ (fun g _ => TOKf_a t _ _) (fun j h => (TOKf_a t _ _).trans h) (fun j => TOKf_a t _ _)⟩
theorem OF_v {c n : Nat} {K K1 K2 : c_S} {R R1 R2 : r_S} (h : OF (vI c) (fun _ _ => False) mi (va c n) K R K1 R1) (t : TOKf K1 K2 R1 R2) : OF (vI c) (fun _ _ => False) mi (va c n) K R K2 R2 := OF_k h t (fun f i z => by unfold vI; omega) (fun f a b => ⟨a, b⟩)
theorem gl_one {e : EV} {B bc bs u v : Nat} {K0 Ks K : c_S} {R0 Rs R : r_S} {D : CD} {np lm nc ni n d : Nat} {sp : Nat → Option (Nat × Nat)} {gp : Nat → Nat → Option (Nat × Nat)} {ng ic : Nat → Nat} {L : c_L} {T : q_S} {X : Nat → Nat → q_S → Prop} {E : String → q_S → Prop} {RM : (Option Value → r_S → Prop) → Prop} (gs : GS e B K0 R0 D np lm Ks Rs nc sp gp ng ic ni L T K R) (hn : ng nc = n) (n3 : n < 4) (q0 : r_A R 2454 nc = 1 → n = 0) (hu : u + 1 ≤ bc) (hv : v + 6 ≤ bs)
  (hr : ∀ Q : Option Value → r_S → Prop, rb_X12_readChannel_203 (fun S x1 x2 x3 => rl_X12_readChannel_203 (d + 1) S x1 x2 x3 Q) R (nI nc) (fl1 (cno (gp nc) n)) 1 Q → RM Q)
  (hX : ∀ (K' : c_S) (R' : r_S) (w q : Int32), CZ K0 K' → FD w q R0 R' → (∀ Q : Option Value → r_S → Prop, Q none R' → RM Q) → E "java/lang/IllegalArgumentException" (c_E L (k_fl K' w q) T))
  (hN : ∀ (K' : c_S) (R' : r_S) (gp' : Nat → Nat → Option (Nat × Nat)), GS e B K0 R0 D np lm Ks Rs nc sp gp' (fun c => if c = nc then n + 1 else ng c) ic ni L T K' R' → (∀ Q : Option Value → r_S → Prop, r_gq (fun S x1 x2 x3 => rl_X12_readChannel_203 (d + 1) S x1 x2 x3 Q) R' nc (nI nc) (fl1 (cno (gp' nc) (n + 1))) Q → RM Q) → X 1 6 (c_E L K' T)) :
  ∃ m m' : Nat, (u + m ≤ bc ∧ v + m' ≤ bs) ∧ wm_X9_readGoal m m' (c_E L K T) (c_ob L 9 0) (some (c_ob L 1 nc)) (fun r S' => r = none ∧ X m m' S') E := by
  have gs0 := gs
  obtain ⟨⟨wd, av, cb, pc, icc, ⟨c24, hl⟩, ⟨k03, r16⟩, ⟨hni, k05, r18⟩, k06⟩, c0, c1, c2, c3⟩ := gs
  rw [hn] at c3 k06
  have g := WD_g wd
  have hx2 := fl1_b (n := cno (gp nc) n)
  have h8 : r_A R 2458 nc = nI n := c3.1.2.1
  unfold rb_X12_readChannel_203 at hr
  have hr := g_and (g_neg hr (by decide)) (vp_in_nI (N := 24) c24 (by decide))
  refine c_goal (D := D) (np := np) (lm := lm) (c := nc) (ng := n) (no := cno (gp nc) n) (Y := fun x R' Q => r_gl (fun S x1 x2 x3 => rl_X12_readChannel_203 (d + 1) S x1 x2 x3 Q) R R' (nI nc) (fl1 (cno (gp nc) n)) x Q) wd av cb.1 cb.2.1 (fun p i hp hi => (pc p i hp hi).1) c0.1.1 c0.1.2.1 c0.1.2.2 c3.1.1 c3.2.2.1 (Nat.le_trans cno_le (by omega)) c24 hl hu hv hr (fun K' R' w q x cz hf hd hr => ?_) (fun K1 R' av1 tf1 hr => ?_) (fun p i K1 K2 R1 R2 hp hi tf1 av2 tf2 h48 h49 h50 hr => ?_)
  · obtain ⟨R2, hf, hr⟩ := fd_gl (d := d) c24 n3 h8 (hd.elim Or.inl (fun z => Or.inr ((z _ _ (by decide)).trans h8))) hx2 hf hr
    exact hX K' R2 w q cz hf hr
  · have hr2 := g_gl (B203 := fun Q S x1 x2 x3 => rl_X12_readChannel_203 (d + 1) S x1 x2 x3 Q) c24 n3 h8 ((TOKf_a tf1 _ _).trans h8) (by rw [av1.2.2.2.1]; decide) hx2 hr
    rw [if_pos rfl] at hr2
    have e1 : ∀ f i : Nat, f / 200 ≠ 9 → c_I K1 f i = c_I (cs_I K 207 nc (nI (n + 1))) f i := fun f i h => tf1.1 f i (fun m => h ((by decide : ∀ f ∈ [1807, 1808, 1809, 1811], f / 200 = 9) f m))
    have of : OF (vI nc) (fun _ _ => False) mi (va nc n) K R (cs_I (cs_I K1 1206 0 (if cno (gp nc) n = 0 then c_I K 1206 0 + 1 else c_I K 1206 0)) 208 nc (nI (cno (gp nc) n + 1))) (rs_A (rs_A R' 2459 (4 * nc + n) (-2)) 2458 nc (nI (n + 1))) := OF_a (OF_a (OF_I (OF_I (OF_v (OF_I OF_0 (Or.inr (Or.inl ⟨rfl, Or.inl rfl⟩))) tf1) (Or.inr (Or.inr (Or.inr ⟨rfl, rfl⟩)))) (Or.inr (Or.inl ⟨rfl, Or.inr (Or.inl rfl)⟩))) (Or.inr (Or.inr ⟨rfl, rfl⟩))) (Or.inr (Or.inl ⟨rfl, rfl⟩))
    have rr : ∀ f j : Nat, f ≠ 2458 → f ≠ 2459 → r_A (rs_A (rs_A R' 2459 (4 * nc + n) (-2)) 2458 nc (nI (n + 1))) f j = r_A R f j := fun f j a b => by
      rw [r_AA, if_neg (fun z => a z.1), r_AA, if_neg (fun z => b z.1)]
      exact TOKf_a tf1 _ _
    have hgs := gl_add (s := none) gs0 hn n3 q0 of (AV_a (AV_a (AV_I (AV_I av1 (by decide)) (by decide)) (by decide)) (by decide)) (fun j c _ h => (rr _ _ (by decide) (by decide)).trans h) ?_ ?_ ?_ ?_ (fun z => ?_) ?_ ?_
    · refine hN _ _ _ hgs (fun Q h => hr2 Q ?_)
      have : fl1 (cno (fun g => if nc = nc ∧ g = n then none else gp nc g) (n + 1)) = 1 := by
        rw [cno_n]
        rfl
      rw [this] at h
      exact h
    · rw [c_II, if_neg (by omega), c_II, if_neg (by omega), e1 207 nc (by decide), c_II, if_pos ⟨rfl, rfl⟩]
    · rw [r_AA, if_pos ⟨rfl, rfl⟩]
    · show r_A (rs_A (rs_A R' 2459 (4 * nc + n) (-2)) 2458 nc (nI (n + 1))) 2459 (4 * nc + n) = -2
      rw [r_AA, if_neg (by omega), r_AA, if_pos ⟨rfl, rfl⟩]
    · rw [c_II, if_pos ⟨rfl, rfl⟩]
      rfl
    · show c_P K1 211 nc = none
      rw [TOKf_P tf1]
      exact c3.2.2.2.2.2 z
    · refine PC_m pc (fun j => ?_) (fun f j m => rr f j (fun z => by rw [z] at m; exact absurd m (by decide)) (fun z => by rw [z] at m; exact absurd m (by decide))) (fun _ _ _ h => h) (fun c' q hc h => ?_)
      · rw [c_II, if_neg (by omega), c_II, if_neg (by omega), e1 2008 j (by decide), c_II, if_neg (by omega)]
      · obtain ⟨g', g1, g2⟩ := h
        by_cases y : c' = nc
        · subst y
          rw [hn] at g1
          refine ⟨g', ?_, ?_⟩
          · show g' < if c' = c' then n + 1 else ng c'
            rw [if_pos rfl]; omega
          · show (if c' = c' ∧ g' = n then none else gp c' g') = some q
            rw [if_neg (by omega)]; exact g2
        · refine ⟨g', ?_, ?_⟩
          · show g' < if c' = nc then n + 1 else ng c'
            rw [if_neg y]; exact g1
          · show (if c' = nc ∧ g' = n then none else gp c' g') = some q
            rw [if_neg (fun z => y z.1)]; exact g2
    · rw [c_II, if_neg (by omega), c_II, if_pos ⟨rfl, rfl⟩, k06]
      by_cases z : cno (gp nc) n = 0
      · rw [if_pos z, z]
        show r_I R 2419 + 0 + 1 = r_I R 2419 + 1
        rw [Int32.add_zero]
      · rw [if_neg z]
        have f1 : fl1 (cno (gp nc) n) = 1 := if_neg z
        rw [f1]
        rfl
  · have ni2 : nI (16 * p + i) ≠ -2 := by
      have n4 : D.1 p 4 ≤ 16 := (cb.2.1 p hp).2.2.2.1.1 4 (by decide)
      have np16 := cb.1.1
      intro z
      have := congrArg Int32.toInt z
      rw [nI_toInt (by omega)] at this
      have e : (-2 : Int32).toInt = -2 := rfl
      omega
    have n4 : ∀ p : Nat, p < np → D.1 p 4 ≤ 16 := fun p hp => (cb.2.1 p hp).2.2.2.1.1 4 (by decide)
    have rr2 : ∀ f j : Nat, r_A R2 f j = if f = 2450 ∧ j = 16 * p + i then nI nc else r_A R f j := fun f j => by
      rw [TOKf_a tf2, r_AA, TOKf_a tf1]
    have hr2 := g_gl (B203 := fun Q S x1 x2 x3 => rl_X12_readChannel_203 (d + 1) S x1 x2 x3 Q) c24 n3 h8 (by rw [rr2, if_neg (by omega)]; exact h8) (by rw [av2.2.2.2.1]; decide) hx2 hr
    rw [if_neg ni2] at hr2
    have e1 : ∀ f i : Nat, f / 200 ≠ 9 → c_I K1 f i = c_I (cs_I K 207 nc (nI (n + 1))) f i := fun f i h => tf1.1 f i (fun m => h ((by decide : ∀ f ∈ [1807, 1808, 1809, 1811], f / 200 = 9) f m))
    have e2 : ∀ f j : Nat, f / 200 ≠ 9 → c_I K2 f j = if f = 2008 ∧ j = 48 * p + (32 + i) then nI nc else c_I K1 f j := fun f j h => by
      rw [tf2.1 f j (fun m => h ((by decide : ∀ f ∈ [1807, 1808, 1809, 1811], f / 200 = 9) f m)), c_II]
      rfl
    have of : OF (vI nc) (fun _ _ => False) mi (va nc n) K R (cs_I K2 212 nc (nI (32 + i))) (rs_A (rs_A R2 2459 (4 * nc + n) (nI (16 * p + i))) 2458 nc (nI (n + 1))) := OF_a (OF_a (OF_I (OF_v (OF_a (OF_I (OF_P (OF_v (OF_I OF_0 (Or.inr (Or.inl ⟨rfl, Or.inl rfl⟩))) tf1) (Or.inr (Or.inl ⟨rfl, Or.inr (Or.inr (Or.inl rfl))⟩))) (Or.inr (Or.inr (Or.inl rfl)))) (Or.inl rfl)) tf2) (Or.inr (Or.inl ⟨rfl, Or.inr (Or.inr (Or.inr rfl))⟩))) (Or.inr (Or.inr ⟨rfl, rfl⟩))) (Or.inr (Or.inl ⟨rfl, rfl⟩))
    have rr : ∀ f j : Nat, f ≠ 2458 → f ≠ 2459 → r_A (rs_A (rs_A R2 2459 (4 * nc + n) (nI (16 * p + i))) 2458 nc (nI (n + 1))) f j = if f = 2450 ∧ j = 16 * p + i then nI nc else r_A R f j := fun f j a b => by
      rw [r_AA, if_neg (fun z => a z.1), r_AA, if_neg (fun z => b z.1), rr2]
    have hgs := gl_add (s := some (p, i)) gs0 hn n3 q0 of (AV_a (AV_a (AV_I av2 (by decide)) (by decide)) (by decide)) (fun j c hc h => ?_) ?_ ?_ ?_ ?_ (fun z => ?_) ?_ ?_
    · refine hN _ _ _ hgs (fun Q h => hr2 Q ?_)
      have : fl1 (cno (fun g => if nc = nc ∧ g = n then some (p, i) else gp nc g) (n + 1)) = fl1 (cno (gp nc) n) := by
        rw [cno_n]
        rfl
      rw [this] at h
      exact h
    · rw [rr 2450 _ (by decide) (by decide)]
      by_cases y : j = 16 * p + i
      · rw [y, h50] at h
        exact absurd h.symm (nI_m1 (by omega))
      · rw [if_neg (fun z => y z.2)]
        exact h
    · rw [c_II, if_neg (by omega), e2 207 nc (by decide), if_neg (by omega), e1 207 nc (by decide), c_II, if_pos ⟨rfl, rfl⟩]
    · rw [r_AA, if_pos ⟨rfl, rfl⟩]
    · refine ⟨⟨hp, hi⟩, ?_, ?_, ?_⟩
      · rw [r_AA, if_neg (by omega), r_AA, if_pos ⟨rfl, rfl⟩]
      · rw [rr _ _ (by decide) (by decide), if_pos ⟨rfl, rfl⟩]
      · rw [rr _ _ (by decide) (by decide), if_neg (by omega)]
        exact h48
    · rw [c_II, if_neg (by omega), e2 208 nc (by decide), if_neg (by omega), e1 208 nc (by decide), c_II, if_neg (by omega)]
      exact c3.2.2.1
    · refine ⟨?_, ?_⟩
      · show c_P K2 211 nc = some p
        rw [TOKf_P tf2]
        show c_P (cs_P K1 211 nc (some p)) 211 nc = some p
        rw [c_PP, if_pos ⟨rfl, rfl⟩]
      · rw [c_II, if_pos ⟨rfl, rfl⟩]
    · refine PC_add pc (c := nc) (by omega) hp hi n4 (fun j => ?_) (fun j => ?_) (fun f j m => ?_) h49 (fun _ _ _ h => h) (fun c' q hc h => ?_) (fun z => absurd (h48.symm.trans z) (by decide)) (fun _ => ⟨n, ?_, ?_⟩)
      · rw [c_II, if_neg (by omega), e2 2008 j (by decide)]
        by_cases y : j = 48 * p + (32 + i)
        · rw [if_pos ⟨rfl, y⟩, if_pos y]
        · rw [if_neg (fun z => y z.2), if_neg y, e1 2008 j (by decide), c_II, if_neg (by omega)]
      · rw [rr _ _ (by decide) (by decide)]
        by_cases y : j = 16 * p + i
        · rw [if_pos ⟨rfl, y⟩, if_pos y]
        · rw [if_neg (fun z => y z.2), if_neg y]
      · have := (by decide : ∀ f ∈ [2448, 2449, 2454], f ≠ 2458 ∧ f ≠ 2459 ∧ f ≠ 2450) f m
        rw [rr f j this.1 this.2.1, if_neg (fun z => this.2.2 z.1)]
      · obtain ⟨g', g1, g2⟩ := h
        by_cases y : c' = nc
        · subst y
          rw [hn] at g1
          refine ⟨g', ?_, ?_⟩
          · show g' < if c' = c' then n + 1 else ng c'
            rw [if_pos rfl]; omega
          · show (if c' = c' ∧ g' = n then some (p, i) else gp c' g') = some q
            rw [if_neg (by omega)]; exact g2
        · refine ⟨g', ?_, ?_⟩
          · show g' < if c' = nc then n + 1 else ng c'
            rw [if_neg y]; exact g1
          · show (if c' = nc ∧ g' = n then some (p, i) else gp c' g') = some q
            rw [if_neg (fun z => y z.1)]; exact g2
      · show n < if nc = nc then n + 1 else ng nc
        rw [if_pos rfl]; omega
      · show (if nc = nc ∧ n = n then some (p, i) else gp nc n) = some (p, i)
        rw [if_pos ⟨rfl, rfl⟩]
    · rw [c_II, if_neg (by omega), e2 1206 0 (by decide), if_neg (by omega), e1 1206 0 (by decide), c_II, if_neg (by omega)]
      exact k06
