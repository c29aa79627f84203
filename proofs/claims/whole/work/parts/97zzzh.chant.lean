/-! A channel: its second half. -/
/-- what the reference does with the goal that it has read -/
def r_gl (B203 : r_S → Int32 → Int32 → Int32 → Prop) (S S1 : r_S) (x1 x2 x : Int32) (Q : Option Value → r_S → Prop) : Prop := vp_in (((4 : Int32) * x1) + (r_A S 2458 x1.toNatClampNeg)) (r_N 2459) ∧ (((r_I (rs_A S1 2459 (((4 : Int32) * x1) + (r_A S 2458 x1.toNatClampNeg)).toNatClampNeg x) 2411) ≤ 0 → ((¬ x2 = 0 → (rb_X12_readChannel_262 B203 (rs_A S1 2459 (((4 : Int32) * x1) + (r_A S 2458 x1.toNatClampNeg)).toNatClampNeg x) x1 Q)) ∧ (x2 = 0 → (vp_in x1 (r_N 2458) ∧ (vp_in (((4 : Int32) * x1) + (r_A (rs_A S1 2459 (((4 : Int32) * x1) + (r_A S 2458 x1.toNatClampNeg)).toNatClampNeg x) 2458 x1.toNatClampNeg)) (r_N 2459) ∧ ((¬ (r_A (rs_A S1 2459 (((4 : Int32) * x1) + (r_A S 2458 x1.toNatClampNeg)).toNatClampNeg x) 2459 (((4 : Int32) * x1) + (r_A (rs_A S1 2459 (((4 : Int32) * x1) + (r_A S 2458 x1.toNatClampNeg)).toNatClampNeg x) 2458 x1.toNatClampNeg)).toNatClampNeg) = (-2 : Int32) → (rb_X12_readChannel_267 B203 (rs_A S1 2459 (((4 : Int32) * x1) + (r_A S 2458 x1.toNatClampNeg)).toNatClampNeg x) x1 (0 : Int32) Q)) ∧ ((r_A (rs_A S1 2459 (((4 : Int32) * x1) + (r_A S 2458 x1.toNatClampNeg)).toNatClampNeg x) 2459 (((4 : Int32) * x1) + (r_A (rs_A S1 2459 (((4 : Int32) * x1) + (r_A S 2458 x1.toNatClampNeg)).toNatClampNeg x) 2458 x1.toNatClampNeg)).toNatClampNeg) = (-2 : Int32) → (rb_X12_readChannel_262 B203 (rs_A S1 2459 (((4 : Int32) * x1) + (r_A S 2458 x1.toNatClampNeg)).toNatClampNeg x) x1 Q)))))))) ∧ (¬ (r_I (rs_A S1 2459 (((4 : Int32) * x1) + (r_A S 2458 x1.toNatClampNeg)).toNatClampNeg x) 2411) ≤ 0 → (Q none (rs_A S1 2459 (((4 : Int32) * x1) + (r_A S 2458 x1.toNatClampNeg)).toNatClampNeg x))))
/-- what the reference does behind a goal -/
def r_gq (B203 : r_S → Int32 → Int32 → Int32 → Prop) (S : r_S) (c : Nat) (x1 x2 : Int32) (Q : Option Value → r_S → Prop) : Prop := (¬ r_A S 2454 c = 0 → rb_X12_readChannel_300 B203 S x1 x2 Q) ∧ (r_A S 2454 c = 0 → rm_X12_isSign S (44 : Int32) (fun r25_ S26_ => ∃ x27_ : Int32, r25_ = some (.int x27_) ∧ ((x27_ = 0 → (rb_X12_readChannel_300 B203 S26_ x1 x2 Q)) ∧ (¬ x27_ = 0 → (rb_X12_readChannel_301 B203 S26_ x1 x2 (1 : Int32) Q)))))
theorem fd_gq {w q : Int32} {R0 R : r_S} {c d : Nat} {x1 x2 : Int32} {RM : (Option Value → r_S → Prop) → Prop} (hf : FD w q R0 R) (hr : ∀ Q : Option Value → r_S → Prop, r_gq (fun S x1 x2 x3 => rl_X12_readChannel_203 (d + 1) S x1 x2 x3 Q) R c x1 x2 Q → RM Q) : ∃ R' : r_S, FD w q R0 R' ∧ ∀ Q : Option Value → r_S → Prop, Q none R' → RM Q := by
  unfold r_gq rb_X12_readChannel_300 rb_X12_readChannel_301 at hr
  by_cases z : r_A R 2454 c = 0
  · exact fd_203 (d := d) hf (g_npos (g_pos (fs_isSign hf (g_npos hr z)) rfl) rfl)
  · exact fd_203 (d := d) hf (g_npos (g_nneg hr z) rfl)
theorem g_267 {R : r_S} {c n : Nat} {x2 : Int32} {B203 : (Option Value → r_S → Prop) → r_S → Int32 → Int32 → Int32 → Prop} {RM : (Option Value → r_S → Prop) → Prop} (c24 : c < 24) (h8 : r_A R 2458 c = nI n) (hr : ∀ Q : Option Value → r_S → Prop, rb_X12_readChannel_267 (B203 Q) R (nI c) x2 Q → RM Q) : ∀ Q : Option Value → r_S → Prop, r_gq (B203 Q) (rs_A R 2458 c (nI (n + 1))) c (nI c) x2 Q → RM Q := by
  have vc : (nI c).toNatClampNeg = c := nI_clamp (by omega)
  unfold rb_X12_readChannel_267 at hr
  have hr := g_and (g_and (g_and hr (vp_in_nI (N := 24) c24 (by decide))) (vp_in_nI (N := 24) c24 (by decide))) (vp_in_nI (N := 24) c24 (by decide))
  rw [vc, h8, nI_1] at hr
  exact hr
/-- the reference, when a goal is read: on with the flag -/
theorem g_gl {S R : r_S} {c n : Nat} {x x2 : Int32} {B203 : (Option Value → r_S → Prop) → r_S → Int32 → Int32 → Int32 → Prop} {RM : (Option Value → r_S → Prop) → Prop} (c24 : c < 24) (n4 : n < 4) (h8 : r_A S 2458 c = nI n) (h8' : r_A R 2458 c = nI n) (h11 : r_I R 2411 ≤ 0) (hx2 : x2 = 0 ∨ x2 = 1) (hr : ∀ Q : Option Value → r_S → Prop, r_gl (B203 Q) S R (nI c) x2 x Q → RM Q) : ∀ Q : Option Value → r_S → Prop, r_gq (B203 Q) (rs_A (rs_A R 2459 (4 * c + n) x) 2458 c (nI (n + 1))) c (nI c) (if x = -2 then 1 else x2) Q → RM Q := by
  have vc : (nI c).toNatClampNeg = c := nI_clamp (by omega)
  have ix : (4 : Int32) * nI c + nI n = nI (4 * c + n) := by rw [show (4 : Int32) = nI 4 from rfl, pk_mul, nI_add]
  have v9 : vp_in (nI (4 * c + n)) (r_N 2459) := vp_in_nI (N := 96) (by omega) (by decide)
  have v8 : vp_in (nI c) (r_N 2458) := vp_in_nI (N := 24) c24 (by decide)
  have e8 : r_A (rs_A R 2459 (4 * c + n) x) 2458 c = nI n := by
    rw [r_AA, if_neg (by omega)]
    exact h8'
  unfold r_gl rb_X12_readChannel_262 at hr
  rw [vc, h8, ix] at hr
  have hr := g_and hr v9
  rw [nI_clamp (n := 4 * c + n) (by omega)] at hr
  have hr := g_pos hr h11
  rw [e8, ix, nI_clamp (n := 4 * c + n) (by omega), r_AA, if_pos ⟨rfl, rfl⟩] at hr
  rcases hx2 with rfl | rfl
  · have hr := g_and (g_and (g_npos hr rfl) v8) v9
    by_cases z : x = -2
    · rw [if_pos z]
      exact g_267 c24 e8 (g_npos hr z)
    · rw [if_neg z]
      exact g_267 c24 e8 (g_nneg hr z)
  · rw [show (if x = -2 then (1 : Int32) else 1) = 1 by split <;> rfl]
    exact g_267 c24 e8 (g_nneg hr (by decide))
theorem fd_gl {w q : Int32} {R0 S R : r_S} {c n d : Nat} {x x2 : Int32} {RM : (Option Value → r_S → Prop) → Prop} (c24 : c < 24) (n4 : n < 4) (h8 : r_A S 2458 c = nI n) (hd : r_DE R ∨ r_A R 2458 c = nI n) (hx2 : x2 = 0 ∨ x2 = 1) (hf : FD w q R0 R) (hr : ∀ Q : Option Value → r_S → Prop, r_gl (fun S x1 x2 x3 => rl_X12_readChannel_203 (d + 1) S x1 x2 x3 Q) S R (nI c) x2 x Q → RM Q) : ∃ R' : r_S, FD w q R0 R' ∧ ∀ Q : Option Value → r_S → Prop, Q none R' → RM Q := by
  have dead : r_DE R → ∃ R' : r_S, FD w q R0 R' ∧ ∀ Q : Option Value → r_S → Prop, Q none R' → RM Q := fun de => by
    have vc : (nI c).toNatClampNeg = c := nI_clamp (by omega)
    have ix : (4 : Int32) * nI c + nI n = nI (4 * c + n) := by rw [show (4 : Int32) = nI 4 from rfl, pk_mul, nI_add]
    unfold r_gl at hr
    rw [vc, h8, ix] at hr
    have hr := g_and hr (vp_in_nI (N := 96) (by omega) (by decide))
    exact ⟨_, FD_A hf (by decide), g_neg hr (de_nle de)⟩
  rcases hd with de | h8'
  · exact dead de
  · rcases FD_c hf with de | pe
    · exact dead de
    · exact fd_gq (d := d) (FD_A (FD_A hf (by decide)) (by decide)) (g_gl (B203 := fun Q S x1 x2 x3 => rl_X12_readChannel_203 (d + 1) S x1 x2 x3 Q) c24 n4 h8 h8' (pe_le pe) hx2 hr)
/-- the failed reference before a goal -/
theorem fd_203b {w q : Int32} {R0 R : r_S} {c n d : Nat} {x2 : Int32} {RM : (Option Value → r_S → Prop) → Prop} (c24 : c < 24) (n4 : n < 4) (h8 : r_A R 2458 c = nI n) (hx2 : x2 = 0 ∨ x2 = 1) (hf : FD w q R0 R) (hr : ∀ Q : Option Value → r_S → Prop, rb_X12_readChannel_203 (fun S x1 x2 x3 => rl_X12_readChannel_203 (d + 1) S x1 x2 x3 Q) R (nI c) x2 1 Q → RM Q) : ∃ R' : r_S, FD w q R0 R' ∧ ∀ Q : Option Value → r_S → Prop, Q none R' → RM Q := by
  unfold rb_X12_readChannel_203 at hr
  have hr := g_and (g_neg hr (by decide)) (vp_in_nI (N := 24) c24 (by decide))
  obtain ⟨R1, hf, de, hr⟩ := fd_end (Y := fun x R' Q => r_gl (fun S x1 x2 x3 => rl_X12_readChannel_203 (d + 1) S x1 x2 x3 Q) R R' (nI c) x2 x Q) hf hr
  exact fd_gl (d := d) c24 n4 h8 (Or.inl de) hx2 hf hr
def fl1 (n : Nat) : Int32 := if n = 0 then 0 else 1
theorem fl1_b {n : Nat} : fl1 n = 0 ∨ fl1 n = 1 := by
  unfold fl1
  split
  · exact Or.inl rfl
  · exact Or.inr rfl
/-- among the goals of channel nc -/
def GS (e : EV) (B : Nat) (K0 : c_S) (R0 : r_S) (D : CD) (np lm : Nat) (Ks : c_S) (Rs : r_S) (nc : Nat) (sp : Nat → Option (Nat × Nat)) (gp : Nat → Nat → Option (Nat × Nat)) (ng : Nat → Nat) (ic : Nat → Nat) (ni : Nat) (L : c_L) (T : q_S) (K : c_S) (R : r_S) : Prop :=
  CP e B K0 R0 D np lm Ks Rs nc sp gp ng ic ni (fl1 (cno (gp nc) (ng nc))) L T K R ∧ C0 L K R nc ∧ C1 L K R nc ∧ C2 D np K R nc (sp nc) ∧ C3 D np K R nc (gp nc) (ng nc)
/-- where a goal changes something -/
def vI (c f i : Nat) : Prop := (f / 200 = 9 ∧ 1806 < f) ∨ (i = c ∧ (f = 207 ∨ f = 208 ∨ f = 211 ∨ f = 212)) ∨ f = 2008 ∨ (f = 1206 ∧ i = 0)
def va (c n f i : Nat) : Prop := f = 2450 ∨ (f = 2458 ∧ i = c) ∨ (f = 2459 ∧ i = 4 * c + n)
theorem cno_n {G : Nat → Option (Nat × Nat)} {c n : Nat} {s : Option (Nat × Nat)} : cno (fun g => if c = c ∧ g = n then s else G g) (n + 1) = cno G n + if s.isNone = true then 1 else 0 := by
  have e : (if c = c ∧ n = n then s else G n) = s := if_pos ⟨rfl, rfl⟩
  rw [cno_1, cno_c (G := G) (fun g hg => if_neg (by omega)), e]
theorem gl_add {e : EV} {B : Nat} {K0 Ks K K' : c_S} {R0 Rs R R' : r_S} {D : CD} {np lm nc ni n : Nat} {sp : Nat → Option (Nat × Nat)} {gp : Nat → Nat → Option (Nat × Nat)} {ng ic : Nat → Nat} {L : c_L} {T : q_S} {s : Option (Nat × Nat)} (gs : GS e B K0 R0 D np lm Ks Rs nc sp gp ng ic ni L T K R) (hn : ng nc = n) (n3 : n < 4) (q0 : r_A R 2454 nc = 1 → n = 0) (of : OF (vI nc) (fun _ _ => False) mi (va nc n) K R K' R') (av' : AV B K0 R0 K' R') (mn : ∀ j c : Nat, c ≤ nc → r_A R 2450 j = nI c → r_A R' 2450 j = nI c) (k7 : c_I K' 207 nc = nI (n + 1)) (r8 : r_A R' 2458 nc = nI (n + 1)) (hg : C3g D np R' nc n s) (k8 : c_I K' 208 nc = nI (cno (gp nc) n + if s.isNone = true then 1 else 0)) (hq : n = 0 → C3q K' nc s) (pc' : PC D np (nc + 1) sp (fun c g => if c = nc ∧ g = n then s else gp c g) (fun c => if c = nc then n + 1 else ng c) K' R') (k06 : c_I K' 1206 0 = r_I R 2419 + fl1 (cno (gp nc) n + if s.isNone = true then 1 else 0)) : GS e B K0 R0 D np lm Ks Rs nc sp (fun c g => if c = nc ∧ g = n then s else gp c g) (fun c => if c = nc then n + 1 else ng c) ic ni L T K' R' := by
  obtain ⟨⟨wd, av, cb, pc, icc, ⟨c24, hl⟩, ⟨k03, r16⟩, ⟨hni, k05, r18⟩, k06'⟩, c0, c1, c2, c3⟩ := gs
  have g := WD_g wd
  subst hn
  have cn' : cno (fun g => if nc = nc ∧ g = ng nc then s else gp nc g) (ng nc + 1) = cno (gp nc) (ng nc) + if s.isNone = true then 1 else 0 := cno_n
  have ngn : (if nc = nc then ng nc + 1 else ng nc) = ng nc + 1 := if_pos rfl
  have i1 : ∀ f i : Nat, f / 200 ≠ 9 → f ≠ 207 → f ≠ 208 → f ≠ 212 → f ≠ 2008 → f ≠ 1206 → f ≠ 211 → c_I K' f i = c_I K f i := fun f i a b c d e f' z => (of.1 f i (fun z => by unfold vI at z; omega)).1
  have ofd : OF (dI nc) (dA nc) di (da nc) K R K' R' := OF_w of (fun f i z => by unfold vI at z; unfold dI; omega) (fun f i z => z.elim) (fun f z => by unfold mi at z; unfold di; omega) (fun f i z => by unfold va at z; unfold da; omega)
  have r1 : ∀ f i : Nat, f ≠ 2450 → f ≠ 2458 → f ≠ 2459 → r_A R' f i = r_A R f i := fun f i a b c => of.2.2.2 f i (fun z => by unfold va at z; omega)
  have kI : ∀ f : Nat, f ∈ [200, 201, 205, 206, 215, 216, 202, 203, 210] → c_I K' f nc = c_I K f nc := fun f m => (of.1 f nc (fun z => by
    have := (by decide : ∀ f ∈ [200, 201, 205, 206, 215, 216, 202, 203, 210], f / 200 = 1 ∧ f ≠ 207 ∧ f ≠ 208 ∧ f ≠ 211 ∧ f ≠ 212) f m
    unfold vI at z; omega)).1
  have i2 : ∀ f : Nat, ¬ (2404 ≤ f ∧ f ≤ 2411) → r_I R' f = r_I R f := fun f h => of.2.2.1 f h
  refine ⟨⟨wd, av', CB_of cb g LX_0 (by omega) ofd (fun j c hc => mn j c (by omega)) (fun c hc => ⟨rfl, funext fun g => if_neg (by omega), if_neg (by omega)⟩), pc', ⟨fun i hi => ?_, icc.2⟩, ⟨c24, hl⟩, ⟨?_, ?_⟩, ⟨hni, ?_, ?_⟩, ?_⟩, ?_, ?_, ?_, ?_⟩
  · obtain ⟨a1, a2, a3, a4⟩ := icc.1 i hi
    exact ⟨a1, (of.2.1 1204 0 i (fun z => z)).trans a2, (r1 _ _ (by decide) (by decide) (by decide)).trans a3, a4⟩
  · exact (of.1 1203 0 (fun z => by unfold vI at z; omega)).1.trans k03
  · exact (i2 _ (by omega)).trans r16
  · exact (of.1 1205 0 (fun z => by unfold vI at z; omega)).1.trans k05
  · exact (i2 _ (by omega)).trans r18
  · show c_I K' 1206 0 = r_I R' 2419 + fl1 (cno (fun g => if nc = nc ∧ g = ng nc then s else gp nc g) (if nc = nc then ng nc + 1 else ng nc))
    rw [ngn, cn', k06, i2 2419 (by omega)]
  · exact C0_c c0 LX_0 (fun f m => kI f ((by decide : ∀ f ∈ [200, 201, 205, 206, 215, 216], f ∈ [200, 201, 205, 206, 215, 216, 202, 203, 210]) f m)) (r1 _ _ (by decide) (by decide) (by decide))
  · exact C1_c c1 (Nat.le_refl _) (fun f m => kI f ((by decide : ∀ f ∈ [202, 203], f ∈ [200, 201, 205, 206, 215, 216, 202, 203, 210]) f m)) (fun f hf => (of.1 f _ (fun z => by unfold vI at z; omega)).1) (fun f m => by
      have := (by decide : ∀ f ∈ [2454, 2455, 2456], f < 2457) f m
      have h2 := (by decide : ∀ f ∈ [2454, 2455, 2456], 2450 < f) f m
      exact r1 f _ (by omega) (by omega) (by omega))
  · exact C2_c c2 ⟨(of.1 209 nc (fun z => by unfold vI at z; omega)).2.2, kI 210 (by decide)⟩ (r1 _ _ (by decide) (by decide) (by decide)) (fun j => mn j nc (Nat.le_refl _)) (fun j => r1 _ _ (by decide) (by decide) (by decide))
  · show C3 D np K' R' nc (fun g => if nc = nc ∧ g = ng nc then s else gp nc g) (if nc = nc then ng nc + 1 else ng nc)
    rw [ngn]
    obtain ⟨⟨a1, a2, a3⟩, a4, a5, a6, a7, a8⟩ := c3
    have e54 : r_A R' 2454 nc = r_A R 2454 nc := r1 _ _ (by decide) (by decide) (by decide)
    refine ⟨⟨k7, r8, by omega⟩, fun g hg' => ?_, by rw [k8, cn'], fun z => ?_, fun _ z => ?_, fun z => by omega⟩
    · show C3g D np R' nc g (if nc = nc ∧ g = ng nc then s else gp nc g)
      by_cases y : g = ng nc
      · rw [if_pos ⟨rfl, y⟩, y]
        exact hg
      · rw [if_neg (fun z => y z.2)]
        exact C3g_c (a4 g (by omega)) (of.2.2.2 _ _ (fun z => by unfold va at z; omega)) (fun j => mn j nc (Nat.le_refl _)) (fun j => r1 _ _ (by decide) (by decide) (by decide))
    · have := q0 (e54.symm.trans z)
      omega
    · have := q0 (e54.symm.trans z)
      show C3q K' nc (if nc = nc ∧ 0 = ng nc then s else gp nc 0)
      rw [if_pos ⟨rfl, this.symm⟩]
      exact hq this
