/-! All channels. -/
theorem ch_loop {e : EV} {B bc bs u0 v0 : Nat} {K0 Ks : c_S} {R0 Rs : r_S} {D : CD} {np lm : Nat} {Q : Option Value → q_S → Prop} {E : String → q_S → Prop} {RM : (Option Value → r_S → Prop) → Prop} (hbc : u0 + 13 * 25 ≤ bc) (hbs : v0 + 95 * 25 ≤ bs)
  (hX : ∀ (L' : c_L) (T' : q_S) (K' : c_S) (R' : r_S) (w q : Int32), WD e L' T' → CZ K0 K' → FD w q R0 R' → r_DE R' → (∀ Q : Option Value → r_S → Prop, rb_X12_load_88 R' 0 Q → RM Q) → E "java/lang/IllegalArgumentException" (c_E L' (k_fl K' w q) T'))
  (hN : ∀ (L' : c_L) (T' : q_S) (K' : c_S) (R' : r_S) (nc : Nat) (sp : Nat → Option (Nat × Nat)) (gp : Nat → Nat → Option (Nat × Nat)) (ng ic : Nat → Nat) (ni u v : Nat), CS e B K0 R0 D np lm Ks Rs nc sp gp ng ic ni L' T' K' R' → u ≤ u0 + 13 * 24 → v ≤ v0 + 95 * 24 → (∀ Q : Option Value → r_S → Prop, rm_X12_readFrame R' (fun r S => r = none ∧ ((¬ r_I S 2411 = 0 → rb_X12_load_88 S 0 Q) ∧ (r_I S 2411 = 0 → rb_X12_load_88 S 1 Q))) → RM Q) → wb_X9_read_102 bc bs u v (c_E L' K' T') (c_ob L' 9 0) Q E) :
  ∀ (d nc : Nat) (L : c_L) (T : q_S) (K : c_S) (R : r_S) (sp : Nat → Option (Nat × Nat)) (gp : Nat → Nat → Option (Nat × Nat)) (ng ic : Nat → Nat) (ni : Nat), nc + d = 25 → CS e B K0 R0 D np lm Ks Rs nc sp gp ng ic ni L T K R → (∀ Q : Option Value → r_S → Prop, rl_X12_load_55 (d + 1) R Q → RM Q) → wl_X9_read_76 bc bs d (u0 + 13 * nc) (v0 + 95 * nc) (c_E L K T) (c_ob L 9 0) (nI nc) Q E := by
  intro d
  induction d with
  | zero =>
    intro nc L T K R sp gp ng ic ni h2 cs hr
    have := cs.2.2.2.2.2.1.1
    omega
  | succ d ih =>
    intro nc L T K R sp gp ng ic ni h2 cs hr
    have wd := cs.1
    have av := cs.2.1
    have g := WD_g wd
    have r0 := av.2.2.2.1
    have hr : ∀ Q : Option Value → r_S → Prop, rb_X12_load_55 (fun S => rl_X12_load_55 (d + 1) S Q) R Q → RM Q := hr
    unfold rb_X12_load_55 at hr
    show ((4000 : Int32) < nI nc → _) ∧ (¬ (4000 : Int32) < nI nc → _)
    refine bf_ ?_ ⟨K10 g, ?_⟩
    · rw [show (4000 : Int32) = nI 4000 from rfl]
      exact nI_nlt (by omega) (by omega)
    by_cases c : c_I K 1808 0 = 5 ∧ c_I K 1809 0 = 24
    · have c' := (AV_K av).mp c
      have hr : ∀ Q : Option Value → r_S → Prop, rm_X12_readChannel R (fun r R' => r = none ∧ rl_X12_load_55 (d + 1) R' Q) → RM Q := fun Q h => hr Q (v_key1 r0 c' _ ⟨_, rfl, bf_ (by decide) h⟩)
      refine u_sees1 g c _ ⟨_, rfl, bf_ (by decide) ⟨K10 g, 13, 95, ⟨by omega, by omega⟩, ?_⟩⟩
      refine c_chan (RM := rm_X12_readChannel R) cs (Nat.le_refl _) (Nat.le_refl _) (fun Q h => h) (fun L' T' K' R1 w q wd' cz hf hr' => ?_) (fun L' T' K' R' sp gp ng ic ni lx cs' hr' => ⟨rfl, ?_⟩)
      · obtain ⟨R2, hf, de, hr⟩ := fd_55 (d := d) hf (fun Q h => hr Q (hr' _ ⟨rfl, h⟩))
        exact hX L' T' K' R2 w q wd' cz hf de hr
      · have := ih (nc + 1) L' T' K' R' sp gp ng ic ni (by omega) cs' (fun Q h => hr Q (hr' _ ⟨rfl, h⟩))
        rw [show u0 + 13 * (nc + 1) = u0 + 13 * nc + 13 by omega, show v0 + 95 * (nc + 1) = v0 + 95 * nc + 95 by omega] at this
        rw [nI_1, ← (lx.1 9 0 (g_m9 g)).2]
        exact this
    · have c' := fun z => c ((AV_K (k := 24) av).mpr z)
      have hr : ∀ Q : Option Value → r_S → Prop, rm_X12_readFrame R (fun r S => r = none ∧ ((¬ r_I S 2411 = 0 → rb_X12_load_88 S 0 Q) ∧ (r_I S 2411 = 0 → rb_X12_load_88 S 1 Q))) → RM Q := fun Q h => hr Q (v_key0 r0 c' _ ⟨_, rfl, bt_ rfl h⟩)
      have n24 := cs.2.2.2.2.2.1.1
      exact u_sees0 g c _ ⟨_, rfl, bt_ rfl (hN L T K R nc sp gp ng ic ni _ _ cs (by omega) (by omega) hr)⟩
/-- what is known of the regions of every partition -/
def DH (D : CD) (np : Nat) : Prop := ∀ p : Nat, p < np → 1 ≤ D.2.2.2.1 p ∧ D.2.2.2.2 p (D.2.2.2.1 p) = 256 * D.2.2.1 p
theorem ch_start {e : EV} {B : Nat} {K0 Ks K : c_S} {R0 Rs R : r_S} {L : c_L} {T : q_S} {np lm : Nat} (ps : PS e B K0 R0 Ks Rs L T K R np lm) (k : c_I K 1203 0 = 0 ∧ c_I K 1205 0 = 0 ∧ c_I K 1206 0 = 0) (r : r_I R 2416 = 0 ∧ r_I R 2418 = 0 ∧ r_I R 2419 = 0) : ∃ D : CD, DH D np ∧ CS e B K0 R0 D np lm K R 0 (fun _ => none) (fun _ _ => none) (fun _ => 0) (fun _ => 0) 0 L T K R := by
  obtain ⟨wd, av, ri, pp, fz, h22, hl, rps, ofs⟩ := ps
  have np16 := pp.1
  have ex : ∀ p : Nat, ∃ x : (Nat → Nat) × Option Nat × Nat × Nat × (Nat → Nat), p < np → RP L K R p lm x.1 x.2.1 x.2.2.1 x.2.2.2.1 x.2.2.2.2 (x.2.1 ≠ none) ∧ 1 ≤ x.2.2.2.1 ∧ x.2.2.2.2 x.2.2.2.1 = 256 * x.2.2.1 := fun p => by
    by_cases hp : p < np
    · obtain ⟨cn, hd, k, nr, re, h1, h2⟩ := rps p hp
      exact ⟨(cn, hd, k, nr, re), fun _ => ⟨h1, h2⟩⟩
    · exact ⟨(fun _ => 0, none, 0, 0, fun _ => 0), fun z => absurd z hp⟩
  have F : ∀ p : Nat, p < np → _ := fun p => Classical.choose_spec (ex p)
  refine ⟨(fun p => (Classical.choose (ex p)).1, fun p => (Classical.choose (ex p)).2.1, fun p => (Classical.choose (ex p)).2.2.1, fun p => (Classical.choose (ex p)).2.2.2.1, fun p => (Classical.choose (ex p)).2.2.2.2), fun p hp => (F p hp).2, wd, av, ⟨pp, fun p hp => RP_q (F p hp).1, fun c hc => absurd hc (Nat.not_lt_zero c), OF_0⟩, fun p i hp hi => ?_, ⟨fun i hi => absurd hi (Nat.not_lt_zero i), fun i j hi => absurd hi (Nat.not_lt_zero i)⟩, ⟨by omega, by omega⟩, ⟨k.1, r.1⟩, ⟨Nat.le_refl _, k.2.1, r.2.1⟩, k.2.2.trans r.2.2.symm⟩
  obtain ⟨h1, h2⟩ := (F p hp).1.2.2.2.2.2.2.2 i hi
  exact ⟨h1.trans h2.symm, Or.inl h2⟩
