/-! A channel: whole. -/
theorem GS_fin {e : EV} {B : Nat} {K0 Ks K K' : c_S} {R0 Rs R R' : r_S} {D : CD} {np lm nc ni : Nat} {sp : Nat → Option (Nat × Nat)} {gp : Nat → Nat → Option (Nat × Nat)} {ng ic : Nat → Nat} {L : c_L} {T : q_S} (gs : GS e B K0 R0 D np lm Ks Rs nc sp gp ng ic ni L T K R) (n1 : 1 ≤ ng nc) (t : TOKf K K' (rs_I R 2419 (r_I R 2419 + fl1 (cno (gp nc) (ng nc)))) R') (av' : AV B K0 R0 K' R') : CS e B K0 R0 D np lm Ks Rs (nc + 1) sp gp ng ic ni L T K' R' := by
  obtain ⟨⟨wd, av, cb, pc, icc, ⟨c24, hl⟩, ⟨k03, r16⟩, ⟨hni, k05, r18⟩, k06⟩, c0, c1, c2, c3⟩ := gs
  have g := WD_g wd
  have cb1 : CB D np lm Ks Rs (nc + 1) sp gp ng L K R := ⟨cb.1, cb.2.1, fun c hc => by
    by_cases z : c = nc
    · subst z
      exact ⟨⟨c0, c1, c2, c3⟩, n1⟩
    · exact cb.2.2.1 c (by omega), cb.2.2.2⟩
  have of : OF (fun f _ => f / 200 = 9 ∧ 1806 < f) (fun _ _ => False) (fun f => mi f ∨ f = 2419) (fun _ _ => False) K R K' R' := OF_k (OF_i OF_0 (Or.inr rfl)) t (fun f i z => by omega) (fun f a b => Or.inl ⟨a, b⟩)
  have ofd : OF (dI (nc + 1)) (dA (nc + 1)) di (da (nc + 1)) K R K' R' := OF_w of (fun f i z => Or.inl z) (fun f i z => z.elim) (fun f z => by unfold mi at z; unfold di; omega) (fun f i z => z.elim)
  have k1 : ∀ f i : Nat, f / 200 ≠ 9 → c_I K' f i = c_I K f i := fun f i h => (of.1 f i (fun z => h z.1)).1
  have r1 : ∀ f i : Nat, r_A R' f i = r_A R f i := fun f i => of.2.2.2 f i (fun z => z)
  have i1 : ∀ f : Nat, ¬ (2404 ≤ f ∧ f ≤ 2411) → f ≠ 2419 → r_I R' f = r_I R f := fun f a b => of.2.2.1 f (fun z => z.elim a b)
  refine ⟨wd, av', CB_of cb1 g LX_0 (by omega) ofd (fun j c hc h => (r1 _ _).trans h) (fun c hc => ⟨rfl, rfl, rfl⟩), PC_m pc (fun j => k1 _ _ (by decide)) (fun f j m => r1 f j) (fun _ _ _ h => h) (fun _ _ _ h => h), ⟨fun i hi => ?_, icc.2⟩, ⟨by omega, hl⟩, ⟨(k1 _ _ (by decide)).trans k03, (i1 _ (by omega) (by omega)).trans r16⟩, ⟨hni, (k1 _ _ (by decide)).trans k05, (i1 _ (by omega) (by omega)).trans r18⟩, ?_⟩
  · obtain ⟨a1, a2, a3, a4⟩ := icc.1 i hi
    exact ⟨a1, (of.2.1 1204 0 i (fun z => z)).trans a2, (r1 _ _).trans a3, a4⟩
  · rw [k1 1206 0 (by decide), k06, t.2.2.2.1 2419 (by decide), r_II, if_pos rfl]
theorem gl_loop {e : EV} {B bc bs : Nat} {K0 Ks : c_S} {R0 Rs : r_S} {D : CD} {np lm nc ni : Nat} {sp : Nat → Option (Nat × Nat)} {ic : Nat → Nat} {L : c_L} {T : q_S} {Q : Option Value → q_S → Prop} {E : String → q_S → Prop} {RM : (Option Value → r_S → Prop) → Prop}
  (hX : ∀ (K' : c_S) (R' : r_S) (w q : Int32), CZ K0 K' → FD w q R0 R' → (∀ Q : Option Value → r_S → Prop, Q none R' → RM Q) → E "java/lang/IllegalArgumentException" (c_E L (k_fl K' w q) T))
  (hN : ∀ (K' : c_S) (R' : r_S) (gp : Nat → Nat → Option (Nat × Nat)) (ng : Nat → Nat), CS e B K0 R0 D np lm Ks Rs (nc + 1) sp gp ng ic ni L T K' R' → (∀ Q : Option Value → r_S → Prop, Q none R' → RM Q) → Q none (c_E L K' T)) :
  ∀ (d n u v : Nat) (gp : Nat → Nat → Option (Nat × Nat)) (ng : Nat → Nat) (K : c_S) (R : r_S), 1 ≤ n → n + d = 5 → ng nc = n → u + d + 1 ≤ bc → v + 6 * d + 6 ≤ bs → GS e B K0 R0 D np lm Ks Rs nc sp gp ng ic ni L T K R → (∀ Q : Option Value → r_S → Prop, r_gq (fun S x1 x2 x3 => rl_X12_readChannel_203 d S x1 x2 x3 Q) R nc (nI nc) (fl1 (cno (gp nc) n)) Q → RM Q) → wl_X9_readChannel_116 bc bs d u v (c_E L K T) (c_ob L 9 0) (some (c_ob L 1 nc)) (nI (n - 1)) Q E := by
  intro d
  induction d with
  | zero =>
    intro n u v gp ng K R h1 h2 hn hu hv gs hr
    have := gs.2.2.2.2.1.2.2
    omega
  | succ d ih =>
    intro n u v gp ng K R h1 h2 hn hu hv gs hr
    have wd := gs.1.1
    have av := gs.1.2.1
    have c24 := gs.1.2.2.2.2.2.1.1
    have m1 := gs.2.1.1.1
    have k1 := gs.2.1.1.2.2
    have q01 := gs.2.1.2.1
    have k7 := gs.2.2.2.2.1.1
    have h8 := gs.2.2.2.2.1.2.1
    have g := WD_g wd
    have r0 := av.2.2.2.1
    have hx2 := fl1_b (n := cno (gp nc) n)
    rw [hn] at k7 h8
    unfold r_gq rb_X12_readChannel_300 rb_X12_readChannel_301 at hr
    have fin : (∀ Q : Option Value → r_S → Prop, rl_X12_readChannel_203 (d + 1) R (nI nc) (fl1 (cno (gp nc) n)) 0 Q → RM Q) → wb_X9_readChannel_169 bc bs u v (c_E L K T) (c_ob L 9 0) Q E := fun hr => by
      have hr : ∀ Q : Option Value → r_S → Prop, rb_X12_readChannel_203 (fun S x1 x2 x3 => rl_X12_readChannel_203 d S x1 x2 x3 Q) R (nI nc) (fl1 (cno (gp nc) n)) 0 Q → RM Q := hr
      unfold rb_X12_readChannel_203 rb_X12_readChannel_344 at hr
      have hr := g_pos hr rfl
      have hr : ∀ Q : Option Value → r_S → Prop, rm_X12_sign (rs_I R 2419 (r_I R 2419 + fl1 (cno (gp nc) n))) 125 (fun r S => ∃ x : Int32, r = some (.int x) ∧ Q none S) → RM Q := by
        rcases hx2 with z | z
        · have hr := g_pos hr z
          rw [z]
          exact hr
        · have hr := g_neg hr (by rw [z]; decide)
          rw [z]
          exact hr
      refine ⟨K10 g, c_sign wd (AV_i av (by decide) (by decide)) (by omega) (by omega) hr (fun K' R' w q x cz hf hr => hX K' R' w q cz hf hr) (fun K' R' av' tf hr => ?_)⟩
      refine hN K' R' gp ng (GS_fin gs (by omega) ?_ av') hr
      rw [hn]
      exact tf
    show ((4 : Int32) ≤ nI (n - 1) → _) ∧ (¬ (4 : Int32) ≤ nI (n - 1) → _)
    refine bf_ ?_ ⟨_, rfl, c_gk g m1 2 rfl, ?_⟩
    · rw [show (4 : Int32) = nI 4 from rfl]
      exact nI_ge (by omega) (by omega)
    rw [c_eI m1 rfl, k1]
    by_cases z : r_A R 2454 nc = 0
    · have hr := g_npos hr z
      refine nt_ z ⟨K10 g, ?_⟩
      by_cases c : c_I K 1808 0 = 4 ∧ c_I K 1809 0 = 44
      · have hr : ∀ Q : Option Value → r_S → Prop, rm_X12_next R (fun r3_ S4_ => r3_ = none ∧ (vp_in (nI nc) (r_N 2458) ∧ ((¬ (r_A S4_ 2458 (nI nc).toNatClampNeg) = (4 : Int32) → (rl_X12_readChannel_203 (d + 1) S4_ (nI nc) (fl1 (cno (gp nc) n)) 1 Q)) ∧ ((r_A S4_ 2458 (nI nc).toNatClampNeg) = (4 : Int32) → (rm_X12_failHere S4_ (4 : Int32) (fun r11_ S12_ => ∃ x13_ : Int32, r11_ = some (.int x13_) ∧ (Q none S12_))))))) → RM Q := fun Q h => hr Q (v_sign1 r0 ((AV_S av).mp c) _ ⟨_, rfl, bf_ (by decide) (nf_ (by decide) h)⟩)
        rw [nI_clamp (n := nc) (by omega)] at hr
        have n4 : n ≤ 4 := by omega
        refine u_seesSign1 g c _ ⟨_, rfl, bf_ (by decide) ⟨K10 g, c_adv1 wd av (by omega) (by omega) hr (fun K' R1 w q cz hf tf hr => ?_) (fun K1 R1 av1 tf1 hr => ⟨c_gk g m1 2 rfl, ?_⟩)⟩⟩
        · have h8' : r_A R1 2458 nc = nI n := (TOKf_a tf _ _).trans h8
          have hr := g_and hr (vp_in_nI (N := 24) c24 (by decide))
          rw [h8'] at hr
          by_cases y : n = 4
          · obtain ⟨R2, hf, de, hr⟩ := fs_failHere hf (g_npos hr (by rw [y]; rfl))
            exact hX K' R2 w q cz hf hr
          · have hr := g_nneg hr (fun x => y ((nI_eq (by omega) (by decide)).mp (x.trans (show (4 : Int32) = nI 4 from rfl))))
            obtain ⟨d', rfl⟩ : ∃ d', d = d' + 1 := ⟨d - 1, by omega⟩
            obtain ⟨R2, hf, hr⟩ := fd_203b (d := d') c24 (by omega) h8' hx2 hf hr
            exact hX K' R2 w q cz hf hr
        · have h8' : r_A R1 2458 nc = nI n := (TOKf_a tf1 _ _).trans h8
          have hr := g_and hr (vp_in_nI (N := 24) c24 (by decide))
          rw [h8'] at hr
          rw [c_eI m1 rfl, (tf1.1 207 nc (by decide)).trans k7]
          by_cases y : n = 4
          · have hr := g_npos hr (by rw [y]; rfl)
            exact bf_ (by rw [y]; decide) ⟨K10 g, c_flH wd av1 (by omega) (by omega) (by decide) hr (fun R' cz hf hr => hX K1 R' _ _ cz hf hr)⟩
          · have hr := g_nneg hr (fun x => y ((nI_eq (by omega) (by decide)).mp (x.trans (show (4 : Int32) = nI 4 from rfl))))
            obtain ⟨d', rfl⟩ : ∃ d', d = d' + 1 := ⟨d - 1, by omega⟩
            refine bt_ (by rw [show (4 : Int32) = nI 4 from rfl]; exact nI_lt (by omega) (by decide)) ⟨K10 g, gl_one (d := d') (GS_t gs tf1 av1) hn (by omega) (fun x => ?_) (by omega) (by omega) hr hX (fun K' R' gp' gs' hr => ?_)⟩
            · rw [TOKf_a tf1, z] at x
              exact absurd x (by decide)
            · have := ih (n + 1) (u + 0 + 1) (v + 0 + 6) gp' (fun c => if c = nc then n + 1 else ng c) K' R' (by omega) (by omega) (if_pos rfl) (by omega) (by omega) gs' hr
              rw [show nI (n - 1) + 1 = nI (n + 1 - 1) by rw [nI_1]; congr 1; omega]
              exact this
      · have hr : ∀ Q : Option Value → r_S → Prop, rl_X12_readChannel_203 (d + 1) R (nI nc) (fl1 (cno (gp nc) n)) 0 Q → RM Q := fun Q h => hr Q (v_sign0 r0 (fun x => c ((AV_S (k := 44) av).mpr x)) _ ⟨_, rfl, bt_ rfl (nt_ rfl h)⟩)
        exact u_seesSign0 g c _ ⟨_, rfl, bt_ rfl (fin hr)⟩
    · exact nf_ z (fin (g_npos (g_nneg hr z) rfl))
/-- where a source changes something -/
def wI (c f i : Nat) : Prop := (f / 200 = 9 ∧ 1806 < f) ∨ (i = c ∧ (f = 209 ∨ f = 210)) ∨ f = 2008 ∨ (f = 1205 ∧ i = 0)
def wA (f i : Nat) : Prop := f = 1204 ∧ i = 0
def wi (f : Nat) : Prop := mi f ∨ f = 2418
def wa (c f i : Nat) : Prop := f = 2450 ∨ (f = 2457 ∧ i = c) ∨ f = 2460
theorem OF_ws {c : Nat} {K K1 K2 : c_S} {R R1 R2 : r_S} (h : OF (wI c) wA wi (wa c) K R K1 R1) (t : TOKf K1 K2 R1 R2) : OF (wI c) wA wi (wa c) K R K2 R2 := OF_k h t (fun f i z => by unfold wI; omega) (fun f a b => Or.inl ⟨a, b⟩)
theorem gs_src {e : EV} {B : Nat} {K0 Ks K K' : c_S} {R0 Rs R R' : r_S} {D : CD} {np lm nc ni ni' : Nat} {sp sp' : Nat → Option (Nat × Nat)} {gp : Nat → Nat → Option (Nat × Nat)} {ng ic ic' : Nat → Nat} {L : c_L} {T : q_S} (cp : CP e B K0 R0 D np lm Ks Rs nc sp gp ng ic ni 0 L T K R) (c0 : C0 L K R nc) (c1 : C1 L K R nc) (hz : c_I K 207 nc = 0 ∧ c_I K 208 nc = 0 ∧ c_P K 211 nc = none) (h58 : r_A R 2458 nc = 0) (hng : ng nc = 0) (of : OF (wI nc) wA wi (wa nc) K R K' R') (av' : AV B K0 R0 K' R') (mn : ∀ j c : Nat, c < nc → r_A R 2450 j = nI c → r_A R' 2450 j = nI c) (hs : ∀ c : Nat, c < nc → sp' c = sp c) (c2 : C2 D np K' R' nc (sp' nc)) (pc' : PC D np (nc + 1) sp' gp ng K' R') (ic1 : IC K' R' (nc + 1) ni' sp' ic') (hni' : ni' ≤ nc + 1 ∧ c_I K' 1205 0 = nI ni' ∧ r_I R' 2418 = nI ni') : GS e B K0 R0 D np lm Ks Rs nc sp' gp ng ic' ni' L T K' R' := by
  obtain ⟨wd, av, cb, pc, icc, ⟨c24, hl⟩, ⟨k03, r16⟩, ⟨hni, k05, r18⟩, k06⟩ := cp
  have g := WD_g wd
  have ofd : OF (dI nc) (dA nc) di (da nc) K R K' R' := OF_w of (fun f i z => by unfold wI at z; unfold dI; omega) (fun f i z => by unfold wA at z; unfold dA; omega) (fun f z => by unfold wi mi at z; unfold di; omega) (fun f i z => by unfold wa at z; unfold da; omega)
  have k1 : ∀ f i : Nat, f / 200 ≠ 9 → f ≠ 209 → f ≠ 210 → f ≠ 2008 → f ≠ 1205 → c_I K' f i = c_I K f i := fun f i a b c d e => (of.1 f i (fun z => by unfold wI at z; omega)).1
  have m1 : ∀ l : List Nat, (∀ f ∈ l, f / 200 = 1 ∧ f ≠ 209 ∧ f ≠ 210) → ∀ f ∈ l, ∀ i : Nat, c_I K' f i = c_I K f i := fun l h f m i => by
    have := h f m
    exact k1 f i (by omega) this.2.1 this.2.2 (by omega) (by omega)
  have r1 : ∀ f i : Nat, f ≠ 2450 → f ≠ 2457 → f ≠ 2460 → r_A R' f i = r_A R f i := fun f i a b c => of.2.2.2 f i (fun z => by unfold wa at z; omega)
  have i1 : ∀ f : Nat, ¬ (2404 ≤ f ∧ f ≤ 2411) → f ≠ 2418 → r_I R' f = r_I R f := fun f a b => of.2.2.1 f (fun z => z.elim a b)
  refine ⟨⟨wd, av', CB_of cb g LX_0 (by omega) ofd mn (fun c hc => ⟨hs c hc, rfl, rfl⟩), pc', ic1, ⟨c24, hl⟩, ⟨(k1 _ _ (by decide) (by decide) (by decide) (by decide) (by decide)).trans k03, (i1 _ (by omega) (by omega)).trans r16⟩, hni', ?_⟩, C0_c c0 LX_0 (fun f m => m1 _ (by decide) f m _) (r1 _ _ (by decide) (by decide) (by decide)), C1_c c1 (Nat.le_refl _) (fun f m => m1 _ (by decide) f m _) (fun f h => k1 f _ (by omega) (by omega) (by omega) (by omega) (by omega)) (fun f m => by
      have := (by decide : ∀ f ∈ [2454, 2455, 2456], f ≠ 2450 ∧ f ≠ 2457 ∧ f ≠ 2460) f m
      exact r1 f _ this.1 this.2.1 this.2.2), c2, ?_⟩
  · rw [hng, k1 1206 0 (by decide) (by decide) (by decide) (by decide) (by decide), i1 2419 (by omega) (by omega), k06]
    rfl
  · rw [hng]
    exact ⟨⟨(m1 [207] (by decide) 207 (by decide) _).trans hz.1, (r1 _ _ (by decide) (by decide) (by decide)).trans h58, by omega⟩, fun g hg => absurd hg (Nat.not_lt_zero g), (m1 [208] (by decide) 208 (by decide) _).trans hz.2.1, fun _ => Nat.zero_le _, fun h => absurd h (by decide), fun _ => (of.1 211 nc (fun z => by unfold wI at z; omega)).2.2.trans hz.2.2⟩
theorem f_sign1 {L : c_L} {T : q_S} {B : Nat} {K0 K : c_S} {R0 R : r_S} {k : Int32} (g : c_G L T) (h2 : ∃ z : Nat, q_K T z = 31 ∧ q_N T z = 2) (av : AV B K0 R0 K R) :
  (∃ (K' : c_S) (R' : r_S), AV B K0 R0 K' R' ∧ TOKf K K' R R' ∧ (∀ (bc bs : Nat) (Q : Option Value → q_S → Prop) (E : String → q_S → Prop), Q none (c_E L K' T) → wm_X9_expectSign bc bs (c_E L K T) (c_ob L 9 0) k Q E) ∧ ∀ Q : Option Value → r_S → Prop, Q (some (.int 1)) R' → rm_X12_sign R k Q) ∨
  ∃ (K' : c_S) (R' : r_S) (w q x : Int32), CZ K0 K' ∧ (FD w q R0 R' ∧ (r_DE R' ∨ TOKf K K' R R')) ∧ (∀ (bc bs : Nat) (Q : Option Value → q_S → Prop) (E : String → q_S → Prop), 1 ≤ bc → 6 ≤ bs → E "java/lang/IllegalArgumentException" (c_E L (k_fl K' w q) T) → wm_X9_expectSign bc bs (c_E L K T) (c_ob L 9 0) k Q E) ∧ ∀ Q : Option Value → r_S → Prop, Q (some (.int x)) R' → rm_X12_sign R k Q := by
  have r0 := av.2.2.2.1
  have le : r_I R 2411 ≤ 0 := by rw [r0]; decide
  by_cases c : c_I K 1808 0 = 4 ∧ c_I K 1809 0 = k
  · have c' := (AV_S av).mp c
    have cl : ∀ (bc bs : Nat) (Q : Option Value → q_S → Prop) (E : String → q_S → Prop), (∃ m m' : Nat, (0 + m ≤ bc ∧ 0 + m' ≤ bs) ∧ wm_X9_advance m m' (c_E L K T) (c_ob L 9 0) (fun r S' => r = none ∧ Q none S') E) → wm_X9_expectSign bc bs (c_E L K T) (c_ob L 9 0) k Q E := fun bc bs Q E h => ⟨K10 g, u_seesSign1 g c _ ⟨_, rfl, nf_ (by decide) ⟨K10 g, h⟩⟩⟩
    have rl : ∀ Q : Option Value → r_S → Prop, rm_X12_next R (fun r R' => r = none ∧ Q (some (.int 1)) R') → rm_X12_sign R k Q := fun Q h => bt_ le (v_sign1 r0 c' _ ⟨_, rfl, nf_ (by decide) h⟩)
    rcases f_adv1 g h2 av with ⟨K', R', a1, a2, a3, a4⟩ | ⟨K', R', w, q, a1, ⟨a2, _, a7⟩, a3, a4⟩
    · exact Or.inl ⟨K', R', a1, a2, fun bc bs Q E h => cl bc bs Q E ⟨0, 0, ⟨by omega, by omega⟩, a3 _ _ _ _ ⟨rfl, h⟩⟩, fun Q h => rl Q (a4 _ ⟨rfl, h⟩)⟩
    · exact Or.inr ⟨K', R', w, q, 1, a1, ⟨a2, Or.inr a7⟩, fun bc bs Q E hu hv h => cl bc bs Q E ⟨1, 6, ⟨by omega, by omega⟩, a3 _ _ _ _ (by omega) (by omega) h⟩, fun Q h => rl Q (a4 _ ⟨rfl, h⟩)⟩
  · have c' := fun z => c ((AV_S (k := k) av).mpr z)
    obtain ⟨R', a1, a2, a3, a4, a5⟩ := f_fl (w := 1) (z := r_I R 2407) g av (by decide)
    refine Or.inr ⟨K, R', 1, r_I R 2407, 0, a1, ⟨a2, Or.inl (FD_pos a2 (by decide))⟩, fun bc bs Q E hu hv h => ⟨K10 g, u_seesSign0 g c _ ⟨_, rfl, nt_ rfl ⟨K10 g, 1, 6, ⟨by omega, by omega⟩, ?_⟩⟩⟩, fun Q h => bt_ le (v_sign0 r0 c' _ ⟨_, rfl, nt_ rfl (a5 rfl _ ⟨_, rfl, nb_0, h⟩)⟩)⟩
    rw [I9 g 1811 rfl, AV_pl av]
    exact a3 _ _ _ _ (by omega) (by omega) h
theorem c_sign1 {e : EV} {L : c_L} {T : q_S} {B bc bs u v : Nat} {K0 K : c_S} {R0 R : r_S} {k : Int32} {X : Nat → Nat → q_S → Prop} {E : String → q_S → Prop} {Y : Int32 → r_S → (Option Value → r_S → Prop) → Prop} {RM : (Option Value → r_S → Prop) → Prop} (wd : WD e L T) (av : AV B K0 R0 K R) (hu : u + 1 ≤ bc) (hv : v + 6 ≤ bs)  (hr : ∀ Q : Option Value → r_S → Prop, rm_X12_sign R k (fun r R' => ∃ x : Int32, r = some (.int x) ∧ Y x R' Q) → RM Q)
  (hX : ∀ (K' : c_S) (R' : r_S) (w q x : Int32), CZ K0 K' → FD w q R0 R' → (r_DE R' ∨ TOKf K K' R R') → (∀ Q : Option Value → r_S → Prop, Y x R' Q → RM Q) → E "java/lang/IllegalArgumentException" (c_E L (k_fl K' w q) T))
  (hN : ∀ (K' : c_S) (R' : r_S), AV B K0 R0 K' R' → TOKf K K' R R' → (∀ Q : Option Value → r_S → Prop, Y 1 R' Q → RM Q) → X 0 0 (c_E L K' T)) :
  ∃ m m' : Nat, (u + m ≤ bc ∧ v + m' ≤ bs) ∧ wm_X9_expectSign m m' (c_E L K T) (c_ob L 9 0) k (fun r S' => r = none ∧ X m m' S') E := by
  rcases f_sign1 (WD_g wd) (WD_2 wd) av with ⟨K', R', a1, a2, a3, a4⟩ | ⟨K', R', w, q, x, a1, ⟨a2, a5⟩, a3, a4⟩
  · exact ⟨0, 0, ⟨by omega, by omega⟩, a3 _ _ _ _ ⟨rfl, hN K' R' a1 a2 (fun Q h => hr Q (a4 _ ⟨_, rfl, h⟩))⟩⟩
  · exact ⟨1, 6, ⟨hu, hv⟩, a3 _ _ _ _ (by omega) (by omega) (hX K' R' w q x a1 a2 a5 (fun Q h => hr Q (a4 _ ⟨_, rfl, h⟩)))⟩
theorem g_src1 {R : r_S} {c : Nat} {x : Int32} {RM : (Option Value → r_S → Prop) → Prop} (c24 : c < 24) (h11 : r_I R 2411 = 0) (hx : x ≠ -2) (hr : ∀ Q : Option Value → r_S → Prop, r_src R (nI c) x Q → RM Q) : ∀ Q : Option Value → r_S → Prop, rb_X12_readChannel_181 (rs_A R 2457 c x) (nI c) Q → RM Q := by
  have vp : vp_in (nI c) (r_N 2457) ∧ (nI c).toNatClampNeg = c := ⟨vp_in_nI (N := 24) c24 (by decide), nI_clamp (by omega)⟩
  unfold r_src at hr
  have hr := g_and hr vp.1
  rw [vp.2] at hr
  have hr := g_and (g_npos hr h11) vp.1
  have e57 : r_A (rs_A R 2457 c x) 2457 c = x := by rw [r_AA, if_pos ⟨rfl, rfl⟩]
  rw [e57] at hr
  exact g_nneg hr hx
theorem g_src0 {R : r_S} {c ni : Nat} {RM : (Option Value → r_S → Prop) → Prop} (c24 : c < 24) (n24 : ni < 24) (h11 : r_I R 2411 = 0) (h18 : r_I R 2418 = nI ni) (hr : ∀ Q : Option Value → r_S → Prop, r_src R (nI c) (-2) Q → RM Q) : ∀ Q : Option Value → r_S → Prop, rb_X12_readChannel_181 (rs_I (rs_A (rs_A R 2457 c (-2)) 2460 ni (nI c)) 2418 (nI (ni + 1))) (nI c) Q → RM Q := by
  have vp : vp_in (nI c) (r_N 2457) ∧ (nI c).toNatClampNeg = c := ⟨vp_in_nI (N := 24) c24 (by decide), nI_clamp (by omega)⟩
  unfold r_src at hr
  have hr := g_and hr vp.1
  rw [vp.2] at hr
  have hr := g_and (g_npos hr h11) vp.1
  have e57 : r_A (rs_A R 2457 c (-2)) 2457 c = -2 := by rw [r_AA, if_pos ⟨rfl, rfl⟩]
  rw [e57] at hr
  have hr := g_npos hr rfl
  have e18' : r_I (rs_A R 2457 c (-2)) 2418 = nI ni := h18
  rw [e18', nI_clamp (n := ni) (by omega)] at hr
  have hr := g_so (g_and hr (vp_in_nI (N := 24) n24 (by decide)))
  have e18 : r_I (rs_A (rs_A R 2457 c (-2)) 2460 ni (nI c)) 2418 = nI ni := h18
  rw [e18, nI_1] at hr
  exact hr
theorem c_chanG {e : EV} {B bc bs u v : Nat} {K0 Ks K : c_S} {R0 Rs R : r_S} {D : CD} {np lm nc ni : Nat} {sp : Nat → Option (Nat × Nat)} {gp : Nat → Nat → Option (Nat × Nat)} {ng ic : Nat → Nat} {L : c_L} {T : q_S} {Q : Option Value → q_S → Prop} {E : String → q_S → Prop} {RM : (Option Value → r_S → Prop) → Prop} (gs : GS e B K0 R0 D np lm Ks Rs nc sp gp ng ic ni L T K R) (hng : ng nc = 0) (hu : u + 6 ≤ bc) (hv : v + 36 ≤ bs)
  (hr : ∀ Q : Option Value → r_S → Prop, rb_X12_readChannel_181 R (nI nc) Q → RM Q)
  (hX : ∀ (K' : c_S) (R' : r_S) (w q : Int32), CZ K0 K' → FD w q R0 R' → (∀ Q : Option Value → r_S → Prop, Q none R' → RM Q) → E "java/lang/IllegalArgumentException" (c_E L (k_fl K' w q) T))
  (hN : ∀ (K' : c_S) (R' : r_S) (gp : Nat → Nat → Option (Nat × Nat)) (ng : Nat → Nat), CS e B K0 R0 D np lm Ks Rs (nc + 1) sp gp ng ic ni L T K' R' → (∀ Q : Option Value → r_S → Prop, Q none R' → RM Q) → Q none (c_E L K' T)) :
  ∃ m56_ m57_ : Nat, (u + m56_ ≤ bc ∧ v + m57_ ≤ bs) ∧ (wm_X9_expectSign m56_ m57_ (c_E L K T) (c_ob L 9 0) (62 : Int32) (fun r54_ S55_ => r54_ = none ∧ (q_K S55_ (c_ob L 9 0) = 10 ∧ (∃ m62_ m63_ : Nat, ((u + m56_) + m62_ ≤ bc ∧ (v + m57_) + m63_ ≤ bs) ∧ (wm_X9_readGoal m62_ m63_ S55_ (c_ob L 9 0) (some (c_ob L 1 nc)) (fun r60_ S61_ => r60_ = none ∧ (∃ n65_ : Nat, wl_X9_readChannel_116 bc bs n65_ ((u + m56_) + m62_) ((v + m57_) + m63_) S61_ (c_ob L 9 0) (some (c_ob L 1 nc)) (0 : Int32) Q E)) E)))) E) := by
  have wd := gs.1.1
  have av := gs.1.2.1
  have c24 := gs.1.2.2.2.2.2.1.1
  have h8 := gs.2.2.2.2.1.2.1
  have g := WD_g wd
  rw [hng] at h8
  unfold rb_X12_readChannel_181 rb_X12_readChannel_202 at hr
  refine c_sign1 wd av (by omega) (by omega) hr (fun K' R1 w q x cz hf hd hr => ?_) (fun K1 R1 av1 tf1 hr => ⟨K10 g, ?_⟩)
  · rcases FD_c hf with de | pe
    · have hr := g_nneg hr (de_n0 de)
      obtain ⟨R2, hf, hr⟩ := fd_203 (d := 0) hf (fun Q h => hr Q ⟨1, h⟩)
      exact hX K' R2 w q cz hf hr
    · have tf : TOKf K K' R R1 := hd.resolve_left (fun de => de_n0 de pe.1)
      have hr := g_npos hr pe.1
      obtain ⟨R2, hf, hr⟩ := fd_203b (n := 0) (d := 0) c24 (by decide) ((TOKf_a tf _ _).trans h8) (Or.inl rfl) hf (fun Q h => hr Q ⟨2, h⟩)
      exact hX K' R2 w q cz hf hr
  · have hr := g_npos hr av1.2.2.2.1
    have hr : ∀ Q : Option Value → r_S → Prop, rb_X12_readChannel_203 (fun S x1 x2 x3 => rl_X12_readChannel_203 (3 + 1) S x1 x2 x3 Q) R1 (nI nc) (fl1 (cno (gp nc) 0)) 1 Q → RM Q := fun Q h => hr Q ⟨5, h⟩
    exact gl_one (d := 3) (GS_t gs tf1 av1) hng (by decide) (fun _ => rfl) (by omega) (by omega) hr hX (fun K' R' gp' gs' hr => ⟨4, gl_loop hX hN 4 1 (u + 0 + 1) (v + 0 + 6) gp' (fun c => if c = nc then 0 + 1 else ng c) K' R' (by omega) (by omega) (if_pos rfl) (by omega) (by omega) gs' hr⟩)
theorem c_chanT {e : EV} {B bc bs u v : Nat} {K0 Ks K : c_S} {R0 Rs R : r_S} {D : CD} {np lm nc ni : Nat} {sp : Nat → Option (Nat × Nat)} {gp : Nat → Nat → Option (Nat × Nat)} {ng ic : Nat → Nat} {x : Int32} {L : c_L} {T : q_S} {Q : Option Value → q_S → Prop} {E : String → q_S → Prop} {RM : (Option Value → r_S → Prop) → Prop} (cp : CP e B K0 R0 D np lm Ks Rs nc sp gp ng ic ni 0 L T K R) (hsp : sp nc = none) (hng : ng nc = 0) (hx : x = 0 ∨ x = 1) (c0 : C0 L K R nc) (c1 : C1 L (cs_I K 202 nc x) (rs_A R 2456 nc x) nc) (hz : c_I K 207 nc = 0 ∧ c_I K 208 nc = 0 ∧ c_P K 209 nc = none ∧ c_P K 211 nc = none) (hni : ni ≤ nc) (hic : ∀ i : Nat, i < ni → ic i < nc) (hu : u + 7 ≤ bc) (hv : v + 42 ≤ bs)
  (hr : ∀ Q : Option Value → r_S → Prop, rb_X12_readChannel_114 R (nI nc) (nI nc) x Q → RM Q)
  (hX : ∀ (K' : c_S) (R' : r_S) (w q : Int32), CZ K0 K' → FD w q R0 R' → (∀ Q : Option Value → r_S → Prop, Q none R' → RM Q) → E "java/lang/IllegalArgumentException" (c_E L (k_fl K' w q) T))
  (hN : ∀ (K' : c_S) (R' : r_S) (sp : Nat → Option (Nat × Nat)) (gp : Nat → Nat → Option (Nat × Nat)) (ng ic : Nat → Nat) (ni : Nat), CS e B K0 R0 D np lm Ks Rs (nc + 1) sp gp ng ic ni L T K' R' → (∀ Q : Option Value → r_S → Prop, Q none R' → RM Q) → Q none (c_E L K' T)) :
  wb_X9_readChannel_89 bc bs u v (c_E L K T) (c_ob L 9 0) (some (c_ob L 1 nc)) (some (c_ob L 1 nc)) x Q E := by
  have wd := cp.1
  have av := cp.2.1
  have c24 := cp.2.2.2.2.2.1.1
  have g := WD_g wd
  have m1 := c0.1.1
  have vc : (nI nc).toNatClampNeg = nc := nI_clamp (by omega)
  unfold rb_X12_readChannel_114 at hr
  have hr := g_and (g_and hr (vp_in_nI (N := 24) c24 (by decide))) (vp_in_nI (N := 24) c24 (by decide))
  have es : rs_A (rs_A R 2456 (nI nc).toNatClampNeg (vp_nar .boolean x)) 2458 (nI nc).toNatClampNeg 0 = rs_A (rs_A R 2456 nc x) 2458 nc 0 := by rw [vc, vnb hx]
  rw [es] at hr
  refine ⟨_, rfl, c_gk g m1 2 rfl, nfb hx, ?_⟩
  rw [c_eIs (c_gw g) m1 rfl]
  have av1 : AV B K0 R0 (cs_I K 202 nc x) (rs_A (rs_A R 2456 nc x) 2458 nc 0) := AV_a (AV_a (AV_I av (by decide)) (by decide)) (by decide)
  have of1 : OF (oI nc) (fun _ _ => False) mi (oa nc) K R (cs_I K 202 nc x) (rs_A (rs_A R 2456 nc x) 2458 nc 0) := OF_a (OF_a (OF_I OF_0 (Or.inr ⟨rfl, rfl⟩)) ⟨Or.inl rfl, rfl⟩) ⟨Or.inr rfl, rfl⟩
  refine ⟨K10 g, c_sign wd av1 (by omega) (by omega) hr (fun K' R1 w q x cz hf hr => ?_) (fun K2 R2 av2 tf2 hr => ⟨K10 g, ?_⟩)⟩
  · obtain ⟨R3, hf, de, hr⟩ := fd_end (Y := fun x R' Q => r_src R' (nI nc) x Q) hf hr
    obtain ⟨R4, hf, hr⟩ := fd_src (ni := 0) c24 (by decide) hf (fun _ => Or.inl de) hr
    exact hX K' R4 w q cz hf hr
  have of2 : OF (oI nc) (fun _ _ => False) mi (oa nc) K R K2 R2 := OF_k of1 tf2 (fun f i z => by unfold oI; omega) (fun f a b => ⟨a, b⟩)
  have cp2 := CP_of cp of2 av2
  have cp2' := cp2
  obtain ⟨_, _, cb2, pc2, icc2, ⟨_, hl⟩, ⟨_, _⟩, ⟨_, k05, r18⟩, _⟩ := cp2'
  have k2 : ∀ f i : Nat, f / 200 ≠ 9 → f ≠ 202 → c_I K2 f i = c_I K f i := fun f i a b => (of2.1 f i (fun z => by unfold oI at z; omega)).1
  have p2 : ∀ f i : Nat, f / 200 ≠ 9 → f ≠ 202 → c_P K2 f i = c_P K f i := fun f i a b => (of2.1 f i (fun z => by unfold oI at z; omega)).2.2
  have m2 : ∀ l : List Nat, (∀ f ∈ l, f / 200 = 1 ∧ f ≠ 202) → ∀ f ∈ l, ∀ i : Nat, c_I K2 f i = c_I K f i := fun l h f m i => by
    have := h f m
    exact k2 f i (by omega) this.2
  have c02 : C0 L K2 R2 nc := C0_c c0 LX_0 (fun f m => m2 _ (by decide) f m _) (of2.2.2.2 _ _ (fun z => by unfold oa at z; omega))
  have t1 : ∀ f i : Nat, f / 200 ≠ 9 → c_I K2 f i = c_I (cs_I K 202 nc x) f i := fun f i h => tf2.1 f i (fun m => h ((by decide : ∀ f ∈ [1807, 1808, 1809, 1811], f / 200 = 9) f m))
  have c12 : C1 L K2 R2 nc := C1_c c1 (Nat.le_refl _) (fun f m => t1 f nc (by have := (by decide : ∀ f ∈ [202, 203], f / 200 = 1) f m; omega)) (fun f h => t1 f _ (by omega)) (fun f m => by
    rw [TOKf_a tf2, r_AA, if_neg (fun z => by rw [z.1] at m; exact absurd m (by decide))])
  have h58 : r_A R2 2458 nc = 0 := by rw [TOKf_a tf2, r_AA, if_pos ⟨rfl, rfl⟩]
  have hz2 : c_I K2 207 nc = 0 ∧ c_I K2 208 nc = 0 ∧ c_P K2 211 nc = none := ⟨(k2 _ _ (by decide) (by decide)).trans hz.1, (k2 _ _ (by decide) (by decide)).trans hz.2.1, (p2 _ _ (by decide) (by decide)).trans hz.2.2.2⟩
  have z9 : c_P K2 209 nc = none := (p2 _ _ (by decide) (by decide)).trans hz.2.2.1
  refine c_source (D := D) (np := np) (lm := lm) (c := nc) (ni := ni) (Y := fun x R' Q => r_src R' (nI nc) x Q) wd av2 cb2.1 cb2.2.1 (fun p i hp hi => (pc2 p i hp hi).1) m1 c02.1.2.1 c02.1.2.2 k05 c24 (by omega) hl (by omega) (by omega) hr (fun K' R1 w q x cz hf h18 hr => ?_) (fun K3 R3 av3 tf3 hr => ⟨K10 g, ?_⟩) (fun p i K3 K4 R3 R4 hp hi tf3 av4 tf4 h48 h49 h50 hr => ⟨K10 g, ?_⟩)
  · obtain ⟨R4, hf, hr⟩ := fd_src (ni := ni) c24 (by omega) hf (fun z => Or.inr ((h18 z).trans r18)) hr
    exact hX K' R4 w q cz hf hr
  · have hr := g_src0 (ni := ni) c24 (by omega) av3.2.2.2.1 ((tf3.2.2.2.1 2418 (by decide)).trans r18) hr
    have of : OF (wI nc) wA wi (wa nc) K2 R2 (cs_I (cs_A K3 1204 0 ni (nI nc)) 1205 0 (nI (ni + 1))) (rs_I (rs_A (rs_A R3 2457 nc (-2)) 2460 ni (nI nc)) 2418 (nI (ni + 1))) := OF_i (OF_a (OF_a (OF_I (OF_A (OF_ws OF_0 tf3) ⟨rfl, rfl⟩) (Or.inr (Or.inr (Or.inr ⟨rfl, rfl⟩)))) (Or.inr (Or.inl ⟨rfl, rfl⟩))) (Or.inr (Or.inr rfl))) (Or.inr rfl)
    have av' : AV B K0 R0 (cs_I (cs_A K3 1204 0 ni (nI nc)) 1205 0 (nI (ni + 1))) (rs_I (rs_A (rs_A R3 2457 nc (-2)) 2460 ni (nI nc)) 2418 (nI (ni + 1))) := AV_i (AV_a (AV_a (AV_I (AV_A av3 (by decide)) (by decide)) (by decide)) (by decide)) (by decide) (by decide)
    have rr : ∀ f j : Nat, f ≠ 2457 → f ≠ 2460 → r_A (rs_I (rs_A (rs_A R3 2457 nc (-2)) 2460 ni (nI nc)) 2418 (nI (ni + 1))) f j = r_A R2 f j := fun f j a b => by
      show r_A (rs_A (rs_A R3 2457 nc (-2)) 2460 ni (nI nc)) f j = _
      rw [r_AA, if_neg (fun z => b z.1), r_AA, if_neg (fun z => a z.1)]
      exact TOKf_a tf3 _ _
    have gs := gs_src (sp' := sp) (ic' := fun i => if i = ni then nc else ic i) (ni' := ni + 1) cp2 c02 c12 hz2 h58 hng of av' (fun j c _ h => (rr _ _ (by decide) (by decide)).trans h) (fun _ _ => rfl) ?_ ?_ ?_ ⟨by omega, ?_, ?_⟩
    · exact c_chanG gs hng (by omega) (by omega) hr hX (fun K' R' gp ng => hN K' R' sp gp ng _ _)
    · rw [hsp]
      refine ⟨(TOKf_P tf3 _ _).trans z9, ?_⟩
      show r_A (rs_A (rs_A R3 2457 nc (-2)) 2460 ni (nI nc)) 2457 nc = -2
      rw [r_AA, if_neg (by omega), r_AA, if_pos ⟨rfl, rfl⟩]
    · refine PC_m pc2 (fun j => ?_) (fun f j m => rr f j (fun z => by rw [z] at m; exact absurd m (by decide)) (fun z => by rw [z] at m; exact absurd m (by decide))) (fun _ _ _ h => h) (fun _ _ _ h => h)
      rw [c_II, if_neg (by omega)]
      exact tf3.1 2008 j (by decide)
    · refine ⟨fun i hi => ?_, fun i j hi hj => ?_⟩
      · show (if i = ni then nc else ic i) < nc + 1 ∧ c_A (cs_A K3 1204 0 ni (nI nc)) 1204 0 i = nI (if i = ni then nc else ic i) ∧ r_A (rs_A (rs_A R3 2457 nc (-2)) 2460 ni (nI nc)) 2460 i = nI (if i = ni then nc else ic i) ∧ sp (if i = ni then nc else ic i) = none
        by_cases y : i = ni
        · rw [if_pos y, y, c_AA, if_pos ⟨rfl, rfl, rfl⟩, r_AA, if_pos ⟨rfl, rfl⟩]
          exact ⟨by omega, rfl, rfl, hsp⟩
        · obtain ⟨a1, a2, a3, a4⟩ := icc2.1 i (by omega)
          rw [if_neg y, c_AA, if_neg (fun z => y z.2.2), r_AA, if_neg (fun z => y z.2), r_AA, if_neg (by omega), TOKf_A tf3, TOKf_a tf3]
          exact ⟨a1, a2, a3, a4⟩
      · show (if i = ni then nc else ic i) = (if j = ni then nc else ic j) → i = j
        by_cases y : i = ni
        · by_cases y' : j = ni
          · intro _; omega
          · rw [if_pos y, if_neg y']
            have := hic j (by omega)
            intro z; omega
        · by_cases y' : j = ni
          · rw [if_neg y, if_pos y']
            have := hic i (by omega)
            intro z; omega
          · rw [if_neg y, if_neg y']
            exact icc2.2 i j (by omega) (by omega)
    · rw [c_II, if_pos ⟨rfl, rfl⟩]
    · rw [r_II, if_pos rfl]
  · have n4 : ∀ p : Nat, p < np → D.1 p 4 ≤ 16 := fun p hp => (cb2.2.1 p hp).2.2.2.1.1 4 (by decide)
    have np16 := cb2.1.1
    have ni2 : nI (16 * p + i) ≠ -2 := by
      have := n4 p hp
      intro z
      have := congrArg Int32.toInt z
      rw [nI_toInt (by omega)] at this
      have e : (-2 : Int32).toInt = -2 := rfl
      omega
    have hr := g_src1 c24 av4.2.2.2.1 ni2 hr
    have rr4 : ∀ f j : Nat, r_A R4 f j = if f = 2450 ∧ j = 16 * p + i then nI nc else r_A R2 f j := fun f j => by
      rw [TOKf_a tf4, r_AA, TOKf_a tf3]
    have e3 : ∀ f i : Nat, f / 200 ≠ 9 → c_I K3 f i = c_I K2 f i := fun f i h => tf3.1 f i (fun m => h ((by decide : ∀ f ∈ [1807, 1808, 1809, 1811], f / 200 = 9) f m))
    have e4 : ∀ f j : Nat, f / 200 ≠ 9 → c_I K4 f j = if f = 2008 ∧ j = 48 * p + (32 + i) then nI nc else c_I K2 f j := fun f j h => by
      rw [tf4.1 f j (fun m => h ((by decide : ∀ f ∈ [1807, 1808, 1809, 1811], f / 200 = 9) f m)), c_II]
      by_cases y : f = 2008 ∧ j = 48 * p + (32 + i)
      · rw [if_pos y, if_pos y]
      · rw [if_neg y, if_neg y]
        exact e3 f j h
    have of : OF (wI nc) wA wi (wa nc) K2 R2 (cs_I K4 210 nc (nI (32 + i))) (rs_A R4 2457 nc (nI (16 * p + i))) := OF_a (OF_I (OF_ws (OF_a (OF_I (OF_P (OF_ws OF_0 tf3) (Or.inr (Or.inl ⟨rfl, Or.inl rfl⟩))) (Or.inr (Or.inr (Or.inl rfl)))) (Or.inl rfl)) tf4) (Or.inr (Or.inl ⟨rfl, Or.inr rfl⟩))) (Or.inr (Or.inl ⟨rfl, rfl⟩))
    have rr : ∀ f j : Nat, f ≠ 2457 → r_A (rs_A R4 2457 nc (nI (16 * p + i))) f j = if f = 2450 ∧ j = 16 * p + i then nI nc else r_A R2 f j := fun f j a => by
      rw [r_AA, if_neg (fun z => a z.1), rr4]
    have av' : AV B K0 R0 (cs_I K4 210 nc (nI (32 + i))) (rs_A R4 2457 nc (nI (16 * p + i))) := AV_a (AV_I av4 (by decide)) (by decide)
    have gs := gs_src (sp' := fun c => if c = nc then some (p, i) else sp c) (ic' := ic) (ni' := ni) cp2 c02 c12 hz2 h58 hng of av' (fun j c hc h => ?_) (fun c hc => if_neg (by omega)) ?_ ?_ ⟨fun j hj => ?_, icc2.2⟩ ⟨by omega, ?_, ?_⟩
    · exact c_chanG gs hng (by omega) (by omega) hr hX (fun K' R' gp ng => hN K' R' _ gp ng _ _)
    · rw [rr 2450 _ (by decide)]
      by_cases y : j = 16 * p + i
      · rw [y, h50] at h
        exact absurd h.symm (nI_m1 (by omega))
      · rw [if_neg (fun z => y z.2)]
        exact h
    · show C2 D np (cs_I K4 210 nc (nI (32 + i))) (rs_A R4 2457 nc (nI (16 * p + i))) nc (if nc = nc then some (p, i) else sp nc)
      rw [if_pos rfl]
      refine ⟨⟨hp, hi⟩, ?_, ?_, ?_, ?_, ?_⟩
      · show c_P K4 209 nc = some p
        rw [TOKf_P tf4]
        show c_P (cs_P K3 209 nc (some p)) 209 nc = some p
        rw [c_PP, if_pos ⟨rfl, rfl⟩]
      · rw [c_II, if_pos ⟨rfl, rfl⟩]
      · rw [r_AA, if_pos ⟨rfl, rfl⟩]
      · rw [rr _ _ (by decide), if_pos ⟨rfl, rfl⟩]
      · rw [rr _ _ (by decide), if_neg (by omega)]
        exact h48
    · refine PC_add pc2 (c := nc) (by omega) hp hi n4 (fun j => ?_) (fun j => ?_) (fun f j m => ?_) h49 (fun c' q hc h => ?_) (fun _ _ _ h => h) (fun _ => if_pos rfl) (fun z => absurd (h48.symm.trans z) (by decide))
      · rw [c_II, if_neg (by omega), e4 2008 j (by decide)]
        by_cases y : j = 48 * p + (32 + i)
        · rw [if_pos ⟨rfl, y⟩, if_pos y]
        · rw [if_neg (fun z => y z.2), if_neg y]
      · rw [rr _ _ (by decide)]
        by_cases y : j = 16 * p + i
        · rw [if_pos ⟨rfl, y⟩, if_pos y]
        · rw [if_neg (fun z => y z.2), if_neg y]
      · have := (by decide : ∀ f ∈ [2448, 2449, 2454], f ≠ 2457 ∧ f ≠ 2450) f m
        rw [rr f j this.1, if_neg (fun z => this.2 z.1)]
      · by_cases y : c' = nc
        · rw [y, hsp] at h
          cases h
        · show (if c' = nc then some (p, i) else sp c') = some q
          rw [if_neg y]
          exact h
    · obtain ⟨a1, a2, a3, a4⟩ := icc2.1 j hj
      refine ⟨a1, ?_, ?_, ?_⟩
      · show c_A K4 1204 0 j = nI (ic j)
        rw [TOKf_A tf4]
        show c_A K3 1204 0 j = nI (ic j)
        rw [TOKf_A tf3]
        exact a2
      · rw [rr _ _ (by decide), if_neg (by omega)]
        exact a3
      · show (if ic j = nc then some (p, i) else sp (ic j)) = none
        have := hic j hj
        rw [if_neg (by omega)]
        exact a4
    · rw [c_II, if_neg (by omega), e4 1205 0 (by decide), if_neg (by omega)]
      exact k05
    · show r_I R4 2418 = nI ni
      rw [tf4.2.2.2.1 2418 (by decide)]
      show r_I R3 2418 = nI ni
      exact (tf3.2.2.2.1 2418 (by decide)).trans r18
/-- one channel -/
theorem c_chan {e : EV} {B bc bs : Nat} {K0 Ks K : c_S} {R0 Rs R : r_S} {D : CD} {np lm nc ni : Nat} {sp : Nat → Option (Nat × Nat)} {gp : Nat → Nat → Option (Nat × Nat)} {ng ic : Nat → Nat} {L : c_L} {T : q_S} {Q : Option Value → q_S → Prop} {E : String → q_S → Prop} {RM : (Option Value → r_S → Prop) → Prop} (cs : CS e B K0 R0 D np lm Ks Rs nc sp gp ng ic ni L T K R) (hu : 13 ≤ bc) (hv : 95 ≤ bs)
  (hr : ∀ Q : Option Value → r_S → Prop, rm_X12_readChannel R Q → RM Q)
  (hX : ∀ (L' : c_L) (T' : q_S) (K' : c_S) (R' : r_S) (w q : Int32), WD e L' T' → CZ K0 K' → FD w q R0 R' → (∀ Q : Option Value → r_S → Prop, Q none R' → RM Q) → E "java/lang/IllegalArgumentException" (c_E L' (k_fl K' w q) T'))
  (hN : ∀ (L' : c_L) (T' : q_S) (K' : c_S) (R' : r_S) (sp : Nat → Option (Nat × Nat)) (gp : Nat → Nat → Option (Nat × Nat)) (ng ic : Nat → Nat) (ni : Nat), LX L L' → CS e B K0 R0 D np lm Ks Rs (nc + 1) sp gp ng ic ni L' T' K' R' → (∀ Q : Option Value → r_S → Prop, Q none R' → RM Q) → Q none (c_E L' K' T')) :
  wm_X9_readChannel bc bs (c_E L K T) (c_ob L 9 0) Q E :=
  c_chanH cs (by omega) (by omega) hr hX (fun L' T' K' R' x cp lx hx c0 c1 hz hni hic hr => c_chanT cp (if_pos rfl) (if_pos rfl) hx c0 c1 hz hni hic (by omega) (by omega) hr (fun K' R' w q => hX L' T' K' R' w q cp.1) (fun K' R' sp gp ng ic ni => hN L' T' K' R' sp gp ng ic ni lx))
