/-! All things of a partition. -/
theorem fd_174 {w q : Int32} {R0 R : r_S} {p : Nat} {RM : (Option Value → r_S → Prop) → Prop} (hf : FD w q R0 R) (de : r_DE R) (hr : ∀ Q : Option Value → r_S → Prop, rb_X12_readPartition_174 R (nI p) Q → RM Q) : ∃ R' : r_S, FD w q R0 R' ∧ ∀ Q : Option Value → r_S → Prop, Q none R' → RM Q := by
  unfold rb_X12_readPartition_174 at hr
  have hr := g_nneg hr (de_n0 de)
  unfold rb_X12_readPartition_210 at hr
  obtain ⟨R, hf, de, hr⟩ := fs_sign hf hr
  exact ⟨R, hf, hr⟩
theorem fd_150d {w q : Int32} {R0 R : r_S} {p d : Nat} {RM : (Option Value → r_S → Prop) → Prop} (hf : FD w q R0 R) (de : r_DE R) (hr : ∀ Q : Option Value → r_S → Prop, rl_X12_readPartition_150 (d + 1) R (nI p) Q → RM Q) : ∃ R' : r_S, FD w q R0 R' ∧ ∀ Q : Option Value → r_S → Prop, Q none R' → RM Q := by
  have hr : ∀ Q : Option Value → r_S → Prop, rb_X12_readPartition_150 (fun S x1 => rl_X12_readPartition_150 d S x1 Q) R (nI p) Q → RM Q := hr
  unfold rb_X12_readPartition_150 at hr
  exact fd_174 hf de (g_nneg hr (de_n0 de))
theorem fd_150 {w q : Int32} {R0 R : r_S} {p d : Nat} {RM : (Option Value → r_S → Prop) → Prop} (hf : FD w q R0 R) (hr : ∀ Q : Option Value → r_S → Prop, rl_X12_readPartition_150 (d + 2) R (nI p) Q → RM Q) : ∃ R' : r_S, FD w q R0 R' ∧ ∀ Q : Option Value → r_S → Prop, Q none R' → RM Q := by
  rcases FD_c hf with de | pe
  · exact fd_150d hf de hr
  · have hr : ∀ Q : Option Value → r_S → Prop, rb_X12_readPartition_150 (fun S x1 => rl_X12_readPartition_150 (d + 1) S x1 Q) R (nI p) Q → RM Q := hr
    unfold rb_X12_readPartition_150 at hr
    have hr := g_npos (fs_isSign hf (g_npos hr pe.1)) rfl
    unfold rm_X12_readThing at hr
    obtain ⟨R, hf, de, hr⟩ := fs_failHere hf (g_neg hr (by rw [pe.2]; decide))
    exact fd_150d hf de (fun Q h => hr Q ⟨rfl, h⟩)
theorem RP_t {L : c_L} {K K' : c_S} {R R' : r_S} {p lm : Nat} {cn : Nat → Nat} {hd : Option Nat} {k nr : Nat} {re : Nat → Nat} {hp : Prop} (h : RP L K R p lm cn hd k nr re hp) (t : TOKf K K' R R') : RP L K' R' p lm cn hd k nr re hp := by
  obtain ⟨h1, h2, h3, h4, h5, h6, h7, h8⟩ := h
  have e : ∀ f i : Nat, f / 200 ≠ 9 → c_I K' f i = c_I K f i := fun f i hf => t.1 f i (fun m => hf ((by decide : ∀ f ∈ [1807, 1808, 1809, 1811], f / 200 = 9) f m))
  exact ⟨PH_c h1 LX_0 (fun f hf _ => e f p (by omega)) (TOKf_a t _ _), PA_c h2 (fun j => by rw [TOKf_A t]) (fun j _ => TOKf_a t _ _) id, PM_c h3 (Nat.le_refl _) (Nat.le_refl _) (fun f hf => e f p (by omega)) (fun f j hf => by rw [TOKf_A t]) ⟨TOKf_a t _ _, TOKf_a t _ _⟩ (fun f i _ _ _ => TOKf_a t _ _), PN_t h4 t, h5, fun j hj => PQ1_c (h6 j hj) (fun f hf => e f _ (by omega)) (fun x => by rw [TOKf_A t]) (fun f _ _ => TOKf_a t _ _) Iff.rfl, fun s i hs hi => PT1_c (h7 s i hs hi) (fun _ => Nat.le_refl _) (fun f hf _ => e f _ (by omega)) (fun f _ => TOKf_a t _ _) (fun _ => ⟨TOKf_a t _ _, TOKf_a t _ _⟩), fun i hi => ⟨(e _ _ (by decide)).trans (h8 i hi).1, (TOKf_a t _ _).trans (h8 i hi).2⟩⟩
theorem th_step {e : EV} {B bc bs : Nat} {K0 : c_S} {R0 : r_S} {Ls : c_L} {Ks : c_S} {Rs : r_S} {p lm0 k nr : Nat} {re : Nat → Nat} {Q : Option Value → q_S → Prop} {E : String → q_S → Prop} {RM : (Option Value → r_S → Prop) → Prop} {d : Nat} {L : c_L} {T : q_S} {K : c_S} {R : r_S} {cn : Nat → Nat} {hd : Option Nat} {lm er u v : Nat} (p16 : p < 16) (hl0 : lm0 + 780 ≤ 14000) (hbc : 230 ≤ bc) (hbs : 2220 ≤ bs) (hby : ∀ i : Nat, fits .byte (.int (r_A R0 2402 i)) = true)
  (hX : ∀ (L' : c_L) (T' : q_S) (K' : c_S) (R' : r_S) (w q : Int32), WD e L' T' → CZ K0 K' → FD w q R0 R' → (∀ Q : Option Value → r_S → Prop, Q none R' → RM Q) → E "java/lang/IllegalArgumentException" (c_E L' (k_fl K' w q) T'))
  (hN : ∀ (L' : c_L) (T' : q_S) (K' : c_S) (R' : r_S) (cn' : Nat → Nat) (hd' : Option Nat) (lm' : Nat), WD e L' T' → LX Ls L' → AV B K0 R0 K' R' → RI K' → RP L' K' R' p lm' cn' hd' k nr re (hd' ≠ none) → OF (pI p) (pA p) pi (pa p lm0) Ks Rs K' R' → r_I R' 2422 = nI lm' → lm0 ≤ lm' → lm' ≤ lm0 + 768 → (∀ Q : Option Value → r_S → Prop, Q none R' → RM Q) → Q none (c_E L' K' T'))
  (ls : LST e B K0 R0 Ls Ks Rs p lm0 k nr re L T K R cn hd lm er u v) (ht : tmn cn + er ≤ 65) (hr : ∀ Q : Option Value → r_S → Prop, rl_X12_readPartition_150 (d + 3) R (nI p) Q → RM Q)
  (hS : ∀ (L' : c_L) (T' : q_S) (K' : c_S) (R' : r_S) (cn' : Nat → Nat) (hd' : Option Nat) (lm' er' u' v' : Nat), LST e B K0 R0 Ls Ks Rs p lm0 k nr re L' T' K' R' cn' hd' lm' er' u' v' → LX L L' → tmn cn' + er' = tmn cn + er + 1 → (∀ Q : Option Value → r_S → Prop, rl_X12_readPartition_150 (d + 2) R' (nI p) Q → RM Q) → wl_X9_readThings_12 bc bs d u' v' (c_E L' K' T') (c_ob L 9 0) (some (c_ob L 5 p)) (nI (tmn cn + er) + 1) Q E) :
  wl_X9_readThings_12 bc bs (d + 1) u v (c_E L K T) (c_ob L 9 0) (some (c_ob L 5 p)) (nI (tmn cn + er)) Q E := by
  have ls0 := ls
  obtain ⟨wd, lxs, av, ri, rp, ⟨e13, e12, e51, er1⟩, ofs, h22, hl1, hl2, hu, hv⟩ := ls
  have g := WD_g wd
  have m5 := rp.1.1.1
  obtain ⟨t64, cost⟩ := tm_64 rp.2.2.2.1
  obtain ⟨cu, cv⟩ := cost er er1
  have r0 := av.2.2.2.1
  have hr : ∀ Q : Option Value → r_S → Prop, rb_X12_readPartition_150 (fun S x1 => rl_X12_readPartition_150 (d + 2) S x1 Q) R (nI p) Q → RM Q := hr
  unfold rb_X12_readPartition_150 at hr
  have hr := g_npos hr r0
  show ((4000 : Int32) < nI (tmn cn + er) → _) ∧ (¬ (4000 : Int32) < nI (tmn cn + er) → _)
  refine bf_ ?_ ⟨K10 g, ?_⟩
  · rw [show (4000 : Int32) = nI 4000 from rfl]
    exact nI_nlt (by omega) (by omega)
  by_cases c : c_I K 1808 0 = 4 ∧ c_I K 1809 0 = 125
  · have c' := (AV_S av).mp c
    have hr : ∀ Q : Option Value → r_S → Prop, _ → RM Q := fun Q h => hr Q (v_sign1 r0 c' _ ⟨_, rfl, nf_ (by decide) h⟩)
    unfold rb_X12_readPartition_174 at hr
    have hr := g_npos hr r0
    have vp : vp_in (nI p) (r_N 2442) ∧ (nI p).toNatClampNeg = p := ⟨vp_in_nI (N := 16) p16 (by decide), nI_clamp (by omega)⟩
    have lm7 : lm ≤ lm0 + 768 := by omega
    have fin : ∀ hd2 : (r_I R 2453 ≠ -1 → hd ≠ none), (∀ Q : Option Value → r_S → Prop, rb_X12_readPartition_210 R Q → RM Q) → wb_X9_readThings_241 bc bs u v (c_E L K T) (c_ob L 9 0) Q E := fun hd2 hr => by
      unfold rb_X12_readPartition_210 at hr
      have hr : ∀ Q : Option Value → r_S → Prop, rm_X12_next R (fun r R' => r = none ∧ ∃ x : Int32, some (Value.int 1) = some (.int x) ∧ Q none R') → RM Q := fun Q h => hr Q (bt_ (by rw [r0]; decide) (v_sign1 r0 c' _ ⟨_, rfl, nf_ (by decide) h⟩))
      exact ⟨K10 g, c_adv wd av (by omega) (by omega) hr (fun K' R' w q cz hf pe hr => hX L T K' R' w q wd cz hf (fun Q h => hr Q ⟨1, rfl, h⟩)) (fun K2 R2 av2 tf2 hr => hN L T K2 R2 cn hd lm wd lxs av2 (fun f i x hdd h => ri f i x hdd (by rw [← TOKf_P tf2]; exact h)) (RP_t (RP_hp rp hd2) tf2) (OF_k ofs tf2 (fun f i z => Or.inl (by omega)) (fun f a b => Or.inl ⟨a, b⟩)) ((tf2.2.2.2.1 2422 (by decide)).trans h22) hl1 lm7 (fun Q h => hr Q ⟨1, rfl, h⟩))⟩
    refine u_seesSign1 g c _ ⟨_, rfl, nf_ (by decide) ⟨K10 g, ?_⟩⟩
    rw [I9 g 1813 rfl, e13]
    by_cases hpl : r_I R 2453 = -1
    · exact bt_ hpl (fin (fun z => absurd hpl z) (g_pos hr hpl))
    · have hr := g_and (g_neg hr hpl) vp.1
      rw [vp.2] at hr
      refine bf_ hpl ⟨_, rfl, c_gk g m5 6 rfl, ?_⟩
      rw [c_eI m5 rfl]
      have ph := rp.1.2.1
      cases hh : hd with
      | none =>
        rw [hh] at ph
        rw [ph.1]
        have hr := g_npos hr ph.2
        refine nt_ rfl (c_flP wd av (by omega) (by omega) (by decide) rfl hr (fun R' cz hf hr => ?_))
        unfold rb_X12_readPartition_210 at hr
        obtain ⟨R, hf, de, hr⟩ := fs_sign hf hr
        exact hX L T K R _ _ wd cz hf hr
      | some h =>
        rw [hh] at ph
        rw [ph.2.1]
        have hr := g_nneg hr (by rw [ph.2.2]; exact nI_m1 (by omega))
        exact nf_ (nI_m1 (by omega)) (fin (fun _ => by rw [hh]; exact fun z => by cases z) hr)
  · have c' := fun z => c ((AV_S (k := 125) av).mpr z)
    have hr : ∀ Q : Option Value → r_S → Prop, _ → RM Q := fun Q h => hr Q (v_sign0 r0 c' _ ⟨_, rfl, nt_ rfl h⟩)
    refine u_seesSign0 g c _ ⟨_, rfl, nt_ rfl ⟨K10 g, ?_⟩⟩
    rw [I9 g 1808 rfl, I9 g 1809 rfl]
    exact th_one (B12 := fun u v S a0 r1 x2 => wl_X9_readThings_12 bc bs d u v S a0 r1 x2 Q E) ls0 p16 hl0 hbc hbs hby (fun L' T' K' R' w q wd' cz hf hr1 => by
      obtain ⟨R, hf, hr⟩ := fd_150 hf (fun Q h => hr Q (hr1 _ ⟨rfl, h⟩))
      exact hX L' T' K' R w q wd' cz hf hr) (fun L' T' K' R' cn' hd' lm' er' u' v' ls' lx ht hr1 => hS L' T' K' R' cn' hd' lm' er' u' v' ls' lx ht (fun Q h => hr Q (hr1 _ ⟨rfl, h⟩)))
theorem th_loop {e : EV} {B bc bs : Nat} {K0 : c_S} {R0 : r_S} {Ls : c_L} {Ks : c_S} {Rs : r_S} {p lm0 k nr : Nat} {re : Nat → Nat} {Q : Option Value → q_S → Prop} {E : String → q_S → Prop} {RM : (Option Value → r_S → Prop) → Prop} (p16 : p < 16) (hl0 : lm0 + 780 ≤ 14000) (hbc : 230 ≤ bc) (hbs : 2220 ≤ bs) (hby : ∀ i : Nat, fits .byte (.int (r_A R0 2402 i)) = true)
  (hX : ∀ (L' : c_L) (T' : q_S) (K' : c_S) (R' : r_S) (w q : Int32), WD e L' T' → CZ K0 K' → FD w q R0 R' → (∀ Q : Option Value → r_S → Prop, Q none R' → RM Q) → E "java/lang/IllegalArgumentException" (c_E L' (k_fl K' w q) T'))
  (hN : ∀ (L' : c_L) (T' : q_S) (K' : c_S) (R' : r_S) (cn' : Nat → Nat) (hd' : Option Nat) (lm' : Nat), WD e L' T' → LX Ls L' → AV B K0 R0 K' R' → RI K' → RP L' K' R' p lm' cn' hd' k nr re (hd' ≠ none) → OF (pI p) (pA p) pi (pa p lm0) Ks Rs K' R' → r_I R' 2422 = nI lm' → lm0 ≤ lm' → lm' ≤ lm0 + 768 → (∀ Q : Option Value → r_S → Prop, Q none R' → RM Q) → Q none (c_E L' K' T')) :
  ∀ (d : Nat) (L : c_L) (T : q_S) (K : c_S) (R : r_S) (cn : Nat → Nat) (hd : Option Nat) (lm er u v : Nat), LST e B K0 R0 Ls Ks Rs p lm0 k nr re L T K R cn hd lm er u v → tmn cn + er + d = 65 → (∀ Q : Option Value → r_S → Prop, rl_X12_readPartition_150 (d + 3) R (nI p) Q → RM Q) → wl_X9_readThings_12 bc bs (d + 1) u v (c_E L K T) (c_ob L 9 0) (some (c_ob L 5 p)) (nI (tmn cn + er)) Q E := by
  intro d
  induction d with
  | zero =>
    intro L T K R cn hd lm er u v ls hd0 hr
    exact th_step p16 hl0 hbc hbs hby hX hN ls (by omega) hr (fun L' T' K' R' cn' hd' lm' er' u' v' ls' lx ht hr => by
      have a := (tm_64 ls'.2.2.2.2.1.2.2.2.1).1
      have b := ls'.2.2.2.2.2.1.2.2.2
      omega)
  | succ d ih =>
    intro L T K R cn hd lm er u v ls hd0 hr
    exact th_step p16 hl0 hbc hbs hby hX hN ls (by omega) hr (fun L' T' K' R' cn' hd' lm' er' u' v' ls' lx ht hr => by
      have := ih L' T' K' R' cn' hd' lm' er' u' v' ls' (by omega) hr
      rw [(lx.1 9 0 (g_m9 (WD_g ls.1))).2, (lx.1 5 p ls.2.2.2.2.1.1.1.1).2, ht] at this
      rw [nI_1]
      exact this)
