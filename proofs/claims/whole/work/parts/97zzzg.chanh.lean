/-! A channel: its first half. -/
theorem fd_344 {w q : Int32} {R0 R : r_S} {a b : Int32} {RM : (Option Value → r_S → Prop) → Prop} (hf : FD w q R0 R) (hr : ∀ Q : Option Value → r_S → Prop, rb_X12_readChannel_344 R a b Q → RM Q) : ∃ R' : r_S, FD w q R0 R' ∧ ∀ Q : Option Value → r_S → Prop, Q none R' → RM Q := by
  unfold rb_X12_readChannel_344 at hr
  obtain ⟨R, hf, de, hr⟩ := fs_sign (FD_I hf (by decide) (by decide)) hr
  exact ⟨R, hf, hr⟩
theorem fd_203 {w q : Int32} {R0 R : r_S} {x1 x2 : Int32} {d : Nat} {RM : (Option Value → r_S → Prop) → Prop} (hf : FD w q R0 R) (hr : ∀ Q : Option Value → r_S → Prop, rl_X12_readChannel_203 (d + 1) R x1 x2 0 Q → RM Q) : ∃ R' : r_S, FD w q R0 R' ∧ ∀ Q : Option Value → r_S → Prop, Q none R' → RM Q := by
  have hr : ∀ Q : Option Value → r_S → Prop, rb_X12_readChannel_203 (fun S x1 x2 x3 => rl_X12_readChannel_203 d S x1 x2 x3 Q) R x1 x2 0 Q → RM Q := hr
  unfold rb_X12_readChannel_203 at hr
  have hr := g_pos hr rfl
  by_cases z : x2 = 0
  · exact fd_344 hf (g_pos hr z)
  · exact fd_344 hf (g_neg hr z)
theorem fd_181 {w q : Int32} {R0 R : r_S} {x1 : Int32} {RM : (Option Value → r_S → Prop) → Prop} (hf : FD w q R0 R) (hr : ∀ Q : Option Value → r_S → Prop, rb_X12_readChannel_181 R x1 Q → RM Q) : ∃ R' : r_S, FD w q R0 R' ∧ ∀ Q : Option Value → r_S → Prop, Q none R' → RM Q := by
  unfold rb_X12_readChannel_181 at hr
  obtain ⟨R, hf, de, hr⟩ := fs_sign hf hr
  have hr := g_nneg hr (de_n0 de)
  exact fd_203 (d := 0) hf (fun Q h => hr Q ⟨1, h⟩)
/-- what the reference does with the source that it has read -/
def r_src (S : r_S) (x1 x : Int32) (Q : Option Value → r_S → Prop) : Prop := vp_in x1 (r_N 2457) ∧ ((¬ (r_I (rs_A S 2457 x1.toNatClampNeg x) 2411) = 0 → (rb_X12_readChannel_181 (rs_A S 2457 x1.toNatClampNeg x) x1 Q)) ∧ ((r_I (rs_A S 2457 x1.toNatClampNeg x) 2411) = 0 → (vp_in x1 (r_N 2457) ∧ ((¬ (r_A (rs_A S 2457 x1.toNatClampNeg x) 2457 x1.toNatClampNeg) = (-2 : Int32) → (rb_X12_readChannel_181 (rs_A S 2457 x1.toNatClampNeg x) x1 Q)) ∧ ((r_A (rs_A S 2457 x1.toNatClampNeg x) 2457 x1.toNatClampNeg) = (-2 : Int32) → (vp_in (r_I (rs_A S 2457 x1.toNatClampNeg x) 2418) (r_N 2460) ∧ (∀ S99_ : r_S, S99_ = (rs_A (rs_A S 2457 x1.toNatClampNeg x) 2460 (r_I (rs_A S 2457 x1.toNatClampNeg x) 2418).toNatClampNeg x1) → (rb_X12_readChannel_181 (rs_I S99_ 2418 ((r_I S99_ 2418) + (1 : Int32))) x1 Q))))))))
theorem fd_src {w q : Int32} {R0 R : r_S} {c ni : Nat} {x : Int32} {RM : (Option Value → r_S → Prop) → Prop} (c24 : c < 24) (n24 : ni < 24) (hf : FD w q R0 R) (h18 : x = -2 → r_DE R ∨ r_I R 2418 = nI ni) (hr : ∀ Q : Option Value → r_S → Prop, r_src R (nI c) x Q → RM Q) : ∃ R' : r_S, FD w q R0 R' ∧ ∀ Q : Option Value → r_S → Prop, Q none R' → RM Q := by
  have vp : vp_in (nI c) (r_N 2457) ∧ (nI c).toNatClampNeg = c := ⟨vp_in_nI (N := 24) c24 (by decide), nI_clamp (by omega)⟩
  unfold r_src at hr
  have hr := g_and hr vp.1
  rw [vp.2] at hr
  have hf1 := FD_A (f := 2457) (i := c) (v := x) hf (by decide)
  by_cases z : r_I (rs_A R 2457 c x) 2411 = 0
  · have hr := g_and (g_npos hr z) vp.1
    have e57 : r_A (rs_A R 2457 c x) 2457 c = x := by rw [r_AA, if_pos ⟨rfl, rfl⟩]
    rw [e57] at hr
    by_cases y : x = -2
    · rcases h18 y with de | e18
      · exact absurd z (de_n0 de)
      · have hr := g_npos hr y
        have e18' : r_I (rs_A R 2457 c x) 2418 = nI ni := e18
        rw [e18'] at hr
        have hr := g_so (g_and hr (vp_in_nI (N := 24) n24 (by decide)))
        exact fd_181 (FD_I (FD_A hf1 (by decide)) (by decide) (by decide)) hr
    · exact fd_181 hf1 (g_nneg hr y)
  · exact fd_181 hf1 (g_nneg hr z)
theorem fd_114 {w q : Int32} {R0 R : r_S} {c : Nat} {x : Int32} {RM : (Option Value → r_S → Prop) → Prop} (c24 : c < 24) (hf : FD w q R0 R) (hr : ∀ Q : Option Value → r_S → Prop, rb_X12_readChannel_114 R (nI c) (nI c) x Q → RM Q) : ∃ R' : r_S, FD w q R0 R' ∧ ∀ Q : Option Value → r_S → Prop, Q none R' → RM Q := by
  unfold rb_X12_readChannel_114 at hr
  have hr := g_and (g_and hr (vp_in_nI (N := 24) c24 (by decide))) (vp_in_nI (N := 24) c24 (by decide))
  obtain ⟨R, hf, de, hr⟩ := fs_sign (FD_A (FD_A hf (by decide)) (by decide)) hr
  obtain ⟨R, hf, de, hr⟩ := fd_end (Y := fun x R' Q => r_src R' (nI c) x Q) hf hr
  exact fd_src (ni := 0) c24 (by decide) hf (fun _ => Or.inl de) hr
theorem fd_87 {w q : Int32} {R0 R : r_S} {c : Nat} {x : Int32} {RM : (Option Value → r_S → Prop) → Prop} (c24 : c < 24) (hf : FD w q R0 R) (hr : ∀ Q : Option Value → r_S → Prop, rb_X12_readChannel_87 R (nI c) (nI c) x Q → RM Q) : ∃ R' : r_S, FD w q R0 R' ∧ ∀ Q : Option Value → r_S → Prop, Q none R' → RM Q := by
  unfold rb_X12_readChannel_87 at hr
  have hr := g_and (g_and hr (vp_in_nI (N := 24) c24 (by decide))) (vp_in_nI (N := 24) c24 (by decide))
  have hf1 := FD_A (f := 2455) (i := (nI c).toNatClampNeg) (v := x) hf (by decide)
  by_cases z : r_A (rs_A R 2455 (nI c).toNatClampNeg x) 2454 (nI c).toNatClampNeg = 0
  · exact fd_114 c24 hf1 (g_pos hr z)
  · exact fd_114 c24 hf1 (g_pos (fs_isFifo hf1 (g_neg hr z)) rfl)
theorem fd_54 {w q : Int32} {R0 R : r_S} {c : Nat} {x : Int32} {RM : (Option Value → r_S → Prop) → Prop} (c24 : c < 24) (hf : FD w q R0 R) (hr : ∀ Q : Option Value → r_S → Prop, (vp_in (nI c) (r_N 2454) ∧ (vp_in (nI c) (r_N 2454) ∧ (((r_A (rs_A R 2454 (nI c).toNatClampNeg (vp_nar .boolean x)) 2454 (nI c).toNatClampNeg) = 0 → (rm_X12_number (rs_A R 2454 (nI c).toNatClampNeg (vp_nar .boolean x)) (0 : Int32) (100000 : Int32) (1 : Int32) (fun r132_ S133_ => ∃ x134_ : Int32, r132_ = some (.int x134_) ∧ (rb_X12_readChannel_87 S133_ (nI c) (nI c) x134_ Q)))) ∧ (¬ (r_A (rs_A R 2454 (nI c).toNatClampNeg (vp_nar .boolean x)) 2454 (nI c).toNatClampNeg) = 0 → (rm_X12_number (rs_A R 2454 (nI c).toNatClampNeg (vp_nar .boolean x)) (1 : Int32) (32 : Int32) (1 : Int32) (fun r135_ S136_ => ∃ x137_ : Int32, r135_ = some (.int x137_) ∧ (rb_X12_readChannel_87 S136_ (nI c) (nI c) x137_ Q))))))) → RM Q) : ∃ R' : r_S, FD w q R0 R' ∧ ∀ Q : Option Value → r_S → Prop, Q none R' → RM Q := by
  have hr := g_and (g_and hr (vp_in_nI (N := 24) c24 (by decide))) (vp_in_nI (N := 24) c24 (by decide))
  have hf1 := FD_A (f := 2454) (i := (nI c).toNatClampNeg) (v := vp_nar .boolean x) hf (by decide)
  by_cases z : r_A (rs_A R 2454 (nI c).toNatClampNeg (vp_nar .boolean x)) 2454 (nI c).toNatClampNeg = 0
  · obtain ⟨R, hf, de, hr⟩ := fs_number hf1 (g_pos hr z)
    exact fd_87 c24 hf hr
  · obtain ⟨R, hf, de, hr⟩ := fs_number hf1 (g_neg hr z)
    exact fd_87 c24 hf hr
/-- within channel nc; fl: a goal of it is a device -/
def CP (e : EV) (B : Nat) (K0 : c_S) (R0 : r_S) (D : CD) (np lm : Nat) (Ks : c_S) (Rs : r_S) (nc : Nat) (sp : Nat → Option (Nat × Nat)) (gp : Nat → Nat → Option (Nat × Nat)) (ng : Nat → Nat) (ic : Nat → Nat) (ni : Nat) (fl : Int32) (L : c_L) (T : q_S) (K : c_S) (R : r_S) : Prop :=
  WD e L T ∧ AV B K0 R0 K R ∧ CB D np lm Ks Rs nc sp gp ng L K R ∧ PC D np (nc + 1) sp gp ng K R ∧ IC K R (nc + 1) ni sp ic ∧ (nc < 24 ∧ lm ≤ 14000) ∧ (c_I K 1203 0 = nI (nc + 1) ∧ r_I R 2416 = nI (nc + 1)) ∧ (ni ≤ nc + 1 ∧ c_I K 1205 0 = nI ni ∧ r_I R 2418 = nI ni) ∧ c_I K 1206 0 = r_I R 2419 + fl
/-- between two channels -/
def CS (e : EV) (B : Nat) (K0 : c_S) (R0 : r_S) (D : CD) (np lm : Nat) (Ks : c_S) (Rs : r_S) (nc : Nat) (sp : Nat → Option (Nat × Nat)) (gp : Nat → Nat → Option (Nat × Nat)) (ng : Nat → Nat) (ic : Nat → Nat) (ni : Nat) (L : c_L) (T : q_S) (K : c_S) (R : r_S) : Prop :=
  WD e L T ∧ AV B K0 R0 K R ∧ CB D np lm Ks Rs nc sp gp ng L K R ∧ PC D np nc sp gp ng K R ∧ IC K R nc ni sp ic ∧ (nc ≤ 24 ∧ lm ≤ 14000) ∧ (c_I K 1203 0 = nI nc ∧ r_I R 2416 = nI nc) ∧ (ni ≤ nc ∧ c_I K 1205 0 = nI ni ∧ r_I R 2418 = nI ni) ∧ c_I K 1206 0 = r_I R 2419
theorem c_adv1 {e : EV} {L : c_L} {T : q_S} {B bc bs u v : Nat} {K0 K : c_S} {R0 R : r_S}  {X : Nat → Nat → q_S → Prop} {E : String → q_S → Prop} {Y : r_S → (Option Value → r_S → Prop) → Prop} {RM : (Option Value → r_S → Prop) → Prop} (wd : WD e L T) (av : AV B K0 R0 K R) (hu : u + 1 ≤ bc) (hv : v + 6 ≤ bs)  (hr : ∀ Q : Option Value → r_S → Prop, rm_X12_next R (fun r R' => r = none ∧ Y R' Q) → RM Q)
  (hX : ∀ (K' : c_S) (R' : r_S) (w q : Int32), CZ K0 K' → FD w q R0 R' → TOKf K K' R R' → (∀ Q : Option Value → r_S → Prop, Y R' Q → RM Q) → E "java/lang/IllegalArgumentException" (c_E L (k_fl K' w q) T))
  (hN : ∀ (K' : c_S) (R' : r_S), AV B K0 R0 K' R' → TOKf K K' R R' → (∀ Q : Option Value → r_S → Prop, Y R' Q → RM Q) → X 0 0 (c_E L K' T)) :
  ∃ m m' : Nat, (u + m ≤ bc ∧ v + m' ≤ bs) ∧ wm_X9_advance m m' (c_E L K T) (c_ob L 9 0) (fun r S' => r = none ∧ X m m' S') E := by
  rcases f_adv1 (WD_g wd) (WD_2 wd) av with ⟨K', R', a1, a2, a3, a4⟩ | ⟨K', R', w, q, a1, ⟨a2, a6, a7⟩, a3, a4⟩
  · exact ⟨0, 0, ⟨by omega, by omega⟩, a3 _ _ _ _ ⟨rfl, hN K' R' a1 a2 (fun Q h => hr Q (a4 _ ⟨rfl, h⟩))⟩⟩
  · exact ⟨1, 6, ⟨hu, hv⟩, a3 _ _ _ _ (by omega) (by omega) (hX K' R' w q a1 a2 a7 (fun Q h => hr Q (a4 _ ⟨rfl, h⟩)))⟩
def lI (c f i : Nat) : Prop := (1807 ≤ f ∧ f ≤ 1811) ∨ (f / 200 = 1 ∧ i = c) ∨ (f / 200 = 8 ∧ i = 1000 + c) ∨ (f = 1203 ∧ i = 0)
def lA (c f i : Nat) : Prop := (f / 200 = 1 ∧ i = c) ∨ (f / 200 = 8 ∧ i = 1000 + c)
def li (f : Nat) : Prop := (2404 ≤ f ∧ f ≤ 2411) ∨ f = 2416
def la (c f i : Nat) : Prop := 2454 ≤ f ∧ f ≤ 2455 ∧ i = c
theorem OF_l {c : Nat} {K K1 K2 : c_S} {R R1 R2 : r_S} (h : OF (lI c) (lA c) li (la c) K R K1 R1) (t : TOKf K1 K2 R1 R2) : OF (lI c) (lA c) li (la c) K R K2 R2 := OF_k h t (fun f i z => Or.inl z) (fun f a b => Or.inl ⟨a, b⟩)
theorem c_chanH {e : EV} {B bc bs : Nat} {K0 Ks K : c_S} {R0 Rs R : r_S} {D : CD} {np lm nc ni : Nat} {sp : Nat → Option (Nat × Nat)} {gp : Nat → Nat → Option (Nat × Nat)} {ng ic : Nat → Nat} {L : c_L} {T : q_S} {Q : Option Value → q_S → Prop} {E : String → q_S → Prop} {RM : (Option Value → r_S → Prop) → Prop} (cs : CS e B K0 R0 D np lm Ks Rs nc sp gp ng ic ni L T K R) (hu : 7 ≤ bc) (hv : 59 ≤ bs)
  (hr : ∀ Q : Option Value → r_S → Prop, rm_X12_readChannel R Q → RM Q)
  (hX : ∀ (L' : c_L) (T' : q_S) (K' : c_S) (R' : r_S) (w q : Int32), WD e L' T' → CZ K0 K' → FD w q R0 R' → (∀ Q : Option Value → r_S → Prop, Q none R' → RM Q) → E "java/lang/IllegalArgumentException" (c_E L' (k_fl K' w q) T'))
  (hN : ∀ (L' : c_L) (T' : q_S) (K' : c_S) (R' : r_S) (x : Int32), CP e B K0 R0 D np lm Ks Rs nc (fun y => if y = nc then none else sp y) gp (fun y => if y = nc then 0 else ng y) ic ni 0 L' T' K' R' → LX L L' → (x = 0 ∨ x = 1) → C0 L' K' R' nc → C1 L' (cs_I K' 202 nc x) (rs_A R' 2456 nc x) nc → (c_I K' 207 nc = 0 ∧ c_I K' 208 nc = 0 ∧ c_P K' 209 nc = none ∧ c_P K' 211 nc = none) → ni ≤ nc → (∀ i : Nat, i < ni → ic i < nc) → (∀ Q : Option Value → r_S → Prop, rb_X12_readChannel_114 R' (nI nc) (nI nc) x Q → RM Q) → wb_X9_readChannel_89 bc bs 6 53 (c_E L' K' T') (c_ob L' 9 0) (some (c_ob L' 1 nc)) (some (c_ob L' 1 nc)) x Q E) :
  wm_X9_readChannel bc bs (c_E L K T) (c_ob L 9 0) Q E := by
  obtain ⟨wd, av, cb, pc, icc, ⟨c24, hl⟩, ⟨k03, r16⟩, ⟨hni, k05, r18⟩, k06⟩ := cs
  have g := WD_g wd
  unfold rm_X12_readChannel at hr
  refine ⟨K10 g, _, P18 g, K7 g, ?_⟩
  rw [I6 g 1203 rfl, k03]
  by_cases z24 : nc = 24
  · have hr := g_npos hr (by rw [r16, z24]; rfl)
    refine bf_ (by rw [z24]; decide) ?_
    rw [I9 g 1811 rfl]
    exact c_flP wd av (by omega) (by omega) (by decide) (AV_pl av) hr (fun R' cz hf hr => hX L T K R' _ _ wd cz hf hr)
  have n24 : nc < 24 := by omega
  have v24 : ∀ f : Nat, r_N f = 24 → vp_in (nI nc) (r_N f) := fun f h => by rw [h]; exact vp_in_nI n24 (by decide)
  have vc : (nI nc).toNatClampNeg = nc := nI_clamp (by omega)
  have hr := g_nneg hr (fun z => z24 ((nI_eq (by omega) (by decide)).mp ((r16.symm.trans z).trans (show (24 : Int32) = nI 24 from rfl))))
  refine bt_ (by rw [show (24 : Int32) = nI 24 from rfl]; exact nI_lt n24 (by decide)) ⟨K10 g, c_adv1 wd av (by omega) (by omega) hr (fun K' R1 w q cz hf tf hr => ?_) (fun K1 R1 av1 tf1 hr => ⟨K10 g, ?_⟩)⟩
  · have e16 : r_I R1 2416 = nI nc := (tf.2.2.2.1 2416 (by decide)).trans r16
    rw [e16] at hr
    obtain ⟨R2, hf, de, hr⟩ := fs_either (FD_I hf (by decide) (by decide)) hr
    obtain ⟨R, hf, hr⟩ := fd_54 n24 hf hr
    exact hX L T K' R w q wd cz hf hr
  have e16 : r_I R1 2416 = nI nc := (tf1.2.2.2.1 2416 (by decide)).trans r16
  rw [e16, nI_1] at hr
  have av1' : AV B K0 R0 K1 (rs_I R1 2416 (nI (nc + 1))) := AV_i av1 (by decide) (by decide)
  refine c_queuing wd av1' (by omega) (by omega) hr (fun K' R2 w q x cz hf hx hr => ?_) (fun K2 R2 x av2 tf2 hx hr => ⟨_, P18 g, K7 g, 5, 21, ⟨by omega, by omega⟩, ?_⟩)
  · obtain ⟨R, hf, hr⟩ := fd_54 n24 hf hr
    exact hX L T K' R w q wd cz hf hr
  have of2 : OF (lI nc) (lA nc) li (la nc) K R K2 R2 := OF_l (OF_i (OF_l OF_0 tf1) (Or.inr rfl)) tf2
  have k032 : c_I K2 1203 0 = nI nc := (tf2.1 1203 0 (by decide)).trans ((tf1.1 1203 0 (by decide)).trans k03)
  refine c_addChannel wd n24 hx k032 (Nat.le_refl _) (Nat.le_refl _) (fun L3 T3 K3 wd3 lx3 m1 nc' => ⟨_, rfl, ?_⟩)
  obtain ⟨n1, n2, n3, n4, n5, n6, n7, n8, ⟨n9, n10, n11, n12, n13⟩, n14, n15⟩ := nc'
  have g3 := WD_g wd3
  rw [← (lx3.1 9 0 (g_m9 g)).2]
  refine ⟨_, rfl, c_gk g3 m1 2 rfl, ?_⟩
  rw [c_eI m1 rfl, n7]
  have hr := g_and (g_and hr (v24 2454 rfl)) (v24 2454 rfl)
  rw [vc, vnb hx, r_AA, if_pos ⟨rfl, rfl⟩] at hr
  have q9 : ∀ f i : Nat, f / 200 ≠ 1 → f / 200 ≠ 8 → ¬ ((f / 200 = 1 ∧ i = nc) ∨ (f / 200 = 8 ∧ i = 1000 + nc)) := fun f i h1 h2 z => by omega
  have av3 : AV B K0 R0 K3 (rs_A R2 2454 nc x) := AV_a (AV_c av2 (fun f m => n1 f 0 (by
        have := (by decide : ∀ f ∈ [1806, 1807, 1808, 1809, 1811, 1803, 402, 403, 1211, 1212, 1214], f / 200 ≠ 1 ∧ f / 200 ≠ 8) f m
        exact q9 f 0 this.1 this.2) (fun z => by rw [z.1] at m; exact absurd m (by decide))) (n2 1810 0 (q9 _ _ (by decide) (by decide))) (fun f i m => n3 f 0 i (by
        have := (by decide : ∀ f ∈ [1802, 2204, 400, 401], f / 200 ≠ 1 ∧ f / 200 ≠ 8) f m
        exact q9 f 0 this.1 this.2)) (fun _ _ => rfl) av2.2.2.2.2.1) (by decide)
  have of3 : OF (lI nc) (lA nc) li (la nc) K R K3 (rs_A R2 2454 nc x) := by
    refine OF_a (OF_t of2 ⟨fun f i z => ?_, fun f i j z => n3 f i j (fun y => z (by unfold lA; omega)), fun _ _ => rfl, fun _ _ _ => rfl⟩) ⟨by omega, by omega, rfl⟩
    have h1 : ¬ ((f / 200 = 1 ∧ i = nc) ∨ (f / 200 = 8 ∧ i = 1000 + nc)) := fun y => z (by unfold lI; omega)
    exact ⟨n1 f i h1 (fun y => z (by unfold lI; omega)), n2 f i h1, n4 f i h1⟩
  have go : ∀ (d : Nat) (y : Int32) (K4 : c_S) (R4 : r_S), 1 ≤ d → d ≤ 32 → (x = 1 → y = nI d) → (x = 0 → d = 1) → 0 ≤ y.toInt → AV B K0 R0 K4 R4 → TOKf K3 K4 (rs_A R2 2454 nc x) R4 → (∀ Q : Option Value → r_S → Prop, rb_X12_readChannel_87 R4 (nI nc) (nI nc) y Q → RM Q) → wb_X9_readChannel_64 bc bs 5 21 (c_E L3 K4 T3) (c_ob L3 9 0) (some (c_ob L3 1 nc)) (some (c_ob L3 1 nc)) y Q E := fun d y K4 R4 hd1 hd2 y1 y0 yp av4 tf4 hr => by
    have m8 := c_gQ g3 m1
    have of4 := OF_l of3 tf4
    have rest : ∀ (L5 : c_L) (T5 : q_S) (K5 : c_S), WD e L5 T5 → LX L3 L5 → d ≤ c_ln L5 1600 (1000 + nc) → ND (cs_I K4 203 nc y) K5 (1000 + nc) d → ∃ a74_ : Nat, some (c_ob L3 1 nc) = some a74_ ∧ (q_K (c_E L5 K5 T5) a74_ = 2 ∧ ((((q_I (c_E L5 K5 T5) 201 a74_) = 0 → (wb_X9_readChannel_88 bc bs 6 53 (c_E L5 K5 T5) (c_ob L3 9 0) (some (c_ob L3 1 nc)) (some (c_ob L3 1 nc)) Q E)) ∧ (¬ (q_I (c_E L5 K5 T5) 201 a74_) = 0 → (q_K (c_E L5 K5 T5) (c_ob L3 9 0) = 10 ∧ (∃ m81_ m82_ : Nat, (6 + m81_ ≤ bc ∧ 53 + m82_ ≤ bs) ∧ (wm_X9_takes m81_ m82_ (c_E L5 K5 T5) (c_ob L3 9 0) (18 : Int32) (fun r79_ S80_ => ∃ x84_ : Int32, r79_ = some (.int x84_) ∧ (((x84_ = 0 → (wb_X9_readChannel_88 bc bs (6 + m81_) (53 + m82_) S80_ (c_ob L3 9 0) (some (c_ob L3 1 nc)) (some (c_ob L3 1 nc)) Q E)) ∧ (¬ x84_ = 0 → (wb_X9_readChannel_89 bc bs (6 + m81_) (53 + m82_) S80_ (c_ob L3 9 0) (some (c_ob L3 1 nc)) (some (c_ob L3 1 nc)) (1 : Int32) Q E))))) E))))))) := fun L5 T5 K5 wd5 lx5 ln5 nd => by
      obtain ⟨d1, d2, d3, d4, d5, d6, d7⟩ := nd
      have g5 := WD_g wd5
      have m1' := (lx5.1 1 nc m1).1
      rw [← (lx5.1 9 0 (g_m9 g3)).2, ← (lx5.1 1 nc m1).2]
      have q8 : ∀ f i : Nat, f / 200 ≠ 8 → ¬ (f / 200 = 8 ∧ i = 1000 + nc) := fun f i h z => h z.1
      have av5 : AV B K0 R0 K5 (rs_A R4 2455 nc y) := AV_a (AV_c (AV_I (f := 203) (i := nc) (v := y) av4 (by decide)) (fun f hf => d1 f 0 (q8 f 0 ((by decide : ∀ f ∈ [1806, 1807, 1808, 1809, 1811, 1803, 402, 403, 1211, 1212, 1214], f / 200 ≠ 8) f hf))) (d2 1810 0) (fun f i hf => d3 f 0 i (fun z => absurd z.1 ((by decide : ∀ f ∈ [1802, 2204, 400, 401], f ≠ 1600) f hf))) (fun _ _ => rfl) av4.2.2.2.2.1) (by decide)
      have of5 : OF (lI nc) (lA nc) li (la nc) K R K5 (rs_A R4 2455 nc y) := OF_a (OF_t (OF_I (f := 203) (i := nc) (v := y) of4 (Or.inr (Or.inl ⟨rfl, rfl⟩))) ⟨fun f i z => ⟨d1 f i (fun y => z (by unfold lI; omega)), d2 f i, d4 f i⟩, fun f i j z => d3 f i j (fun y => z (by unfold lA; omega)), fun _ _ => rfl, fun _ _ _ => rfl⟩) ⟨by omega, by omega, rfl⟩
      have e4 : ∀ f i : Nat, f / 200 ≠ 9 → c_I K4 f i = c_I K3 f i := fun f i h => tf4.1 f i (fun m => h ((by decide : ∀ f ∈ [1807, 1808, 1809, 1811], f / 200 = 9) f m))
      have e5 : ∀ f : Nat, f / 200 = 1 → f ≠ 203 → c_I K5 f nc = c_I K3 f nc := fun f h h' => by
        rw [d1 f nc (q8 f nc (by omega)), c_II, if_neg (fun z => h' z.1)]
        exact e4 f nc (by omega)
      have e53 : c_I K5 203 nc = y := by
        rw [d1 203 nc (q8 203 nc (by decide)), c_II, if_pos ⟨rfl, rfl⟩]
      refine ⟨_, rfl, c_gk g5 m1' 2 rfl, ?_⟩
      rw [c_eI m1' rfl, e5 201 rfl (by decide), n7]
      unfold rb_X12_readChannel_87 at hr
      have hr := g_and (g_and hr (v24 2455 rfl)) (v24 2454 rfl)
      rw [vc] at hr
      have e54 : r_A (rs_A R4 2455 nc y) 2454 nc = x := by
        rw [r_AA, if_neg (by omega), TOKf_a tf4, r_AA, if_pos ⟨rfl, rfl⟩]
      rw [e54] at hr
      have fin : ∀ (K6 : c_S) (R6 : r_S) (x' : Int32), (x' = 0 ∨ x' = 1) → AV B K0 R0 K6 R6 → TOKf K5 K6 (rs_A R4 2455 nc y) R6 → (∀ Q : Option Value → r_S → Prop, rb_X12_readChannel_114 R6 (nI nc) (nI nc) x' Q → RM Q) → wb_X9_readChannel_89 bc bs 6 53 (c_E L5 K6 T5) (c_ob L5 9 0) (some (c_ob L5 1 nc)) (some (c_ob L5 1 nc)) x' Q E := fun K6 R6 x' hx' av6 tf6 hr => by
        have of6 := OF_l of5 tf6
        have e6 : ∀ f i : Nat, f / 200 ≠ 9 → c_I K6 f i = c_I K5 f i := fun f i h => tf6.1 f i (fun m => h ((by decide : ∀ f ∈ [1807, 1808, 1809, 1811], f / 200 = 9) f m))
        have kk : ∀ f : Nat, f / 200 = 1 → f ≠ 203 → c_I K6 f nc = c_I K3 f nc := fun f h h' => (e6 f nc (by omega)).trans (e5 f h h')
        have kp : ∀ f i : Nat, c_P K6 f i = c_P K3 f i := fun f i => (TOKf_P tf6 f i).trans ((d4 f i).trans (TOKf_P tf4 f i))
        have rr : r_A R6 2454 nc = x ∧ r_A R6 2455 nc = y := ⟨(TOKf_a tf6 _ _).trans e54, (TOKf_a tf6 _ _).trans (by rw [r_AA, if_pos ⟨rfl, rfl⟩])⟩
        have lx := LX_t lx3 lx5
        have of6d : OF (dI nc) (dA nc) di (da nc) K R K6 R6 := OF_w of6 (fun f i z => by unfold lI at z; unfold dI; omega) (fun f i z => by unfold lA at z; unfold dA; omega) (fun f z => by unfold li at z; unfold di; omega) (fun f i z => by unfold la at z; unfold da; omega)
        have r6 : ∀ f j : Nat, (f < 2454 ∨ 2455 < f ∨ j ≠ nc) → r_A R6 f j = r_A R f j := fun f j h => of6.2.2.2 f j (fun z => by unfold la at z; omega)
        have i6 : ∀ f : Nat, (f < 2404 ∨ 2412 < f) → f ≠ 2416 → r_I R6 f = r_I R f := fun f h h' => of6.2.2.1 f (fun z => by unfold li at z; omega)
        have c6 : ∀ f i : Nat, f / 200 ≠ 9 → f / 200 ≠ 1 → f / 200 ≠ 8 → f ≠ 1203 → c_I K6 f i = c_I K f i := fun f i h1 h2 h3 h4 => (of6.1 f i (fun z => by unfold lI at z; omega)).1
        refine hN L5 T5 K6 R6 x' ⟨wd5, av6, CB_of cb g lx c24 of6d (fun j c _ hj => (r6 _ _ (by omega)).trans hj) (fun c hc => ⟨if_neg (by omega), rfl, if_neg (by omega)⟩), PC_c pc (by omega) (fun j => c6 _ _ (by decide) (by decide) (by decide) (by decide)) (fun f j m => r6 f j (by have := (by decide : ∀ f ∈ [2448, 2449, 2450], f < 2454) f m; omega)) (fun c hc => r6 _ _ (by omega)) (fun c hc => ⟨if_neg (by omega), rfl, if_neg (by omega)⟩), ⟨fun i hi => ?_, icc.2⟩, ⟨n24, hl⟩, ⟨?_, ?_⟩, ⟨by omega, (c6 _ _ (by decide) (by decide) (by decide) (by decide)).trans k05, (i6 _ (by omega) (by omega)).trans r18⟩, ?_⟩ lx hx' ⟨⟨m1', (kk 200 rfl (by decide)).trans n6, (kk 201 rfl (by decide)).trans (n7.trans rr.1.symm)⟩, by rw [rr.1]; exact hx, (kk 206 rfl (by decide)).trans n9, (kk 205 rfl (by decide)).trans n8, (kk 215 rfl (by decide)).trans n12, (kk 216 rfl (by decide)).trans n13⟩ ?_ ⟨(kk 207 rfl (by decide)).trans n10, (kk 208 rfl (by decide)).trans n11, (kp _ _).trans n14, (kp _ _).trans n15⟩ hni (fun i hi => (icc.1 i hi).1) hr
        · obtain ⟨a1, a2, a3, a4⟩ := icc.1 i hi
          refine ⟨by omega, (of6.2.1 1204 0 i (fun z => by unfold lA at z; omega)).trans a2, (r6 _ _ (by omega)).trans a3, ?_⟩
          show (if ic i = nc then none else sp (ic i)) = none
          rw [if_neg (by omega)]
          exact a4
        · rw [e6 1203 0 (by decide), d1 1203 0 (q8 _ _ (by decide)), c_II, if_neg (by omega), e4 1203 0 (by decide)]
          exact n5
        · rw [tf6.2.2.2.1 2416 (by decide)]
          show r_I R4 2416 = _
          rw [tf4.2.2.2.1 2416 (by decide)]
          show r_I R2 2416 = _
          rw [tf2.2.2.2.1 2416 (by decide), r_II, if_pos rfl]
        · rw [c6 1206 0 (by decide) (by decide) (by decide) (by decide), i6 2419 (by omega) (by omega), k06]
          exact (Int32.add_zero _).symm
        · have c1 : ∀ f i : Nat, f ≠ 202 → c_I (cs_I K6 202 nc x') f i = c_I K6 f i := fun f i h => by rw [c_II, if_neg (fun z => h z.1)]
          have c2 : ∀ f i : Nat, f ≠ 2456 → r_A (rs_A R6 2456 nc x') f i = r_A R6 f i := fun f i h => by rw [r_AA, if_neg (fun z => h z.1)]
          have c3 : c_I (cs_I K6 202 nc x') 202 nc = x' := by rw [c_II, if_pos ⟨rfl, rfl⟩]
          have c4 : r_A (rs_A R6 2456 nc x') 2456 nc = x' := by rw [r_AA, if_pos ⟨rfl, rfl⟩]
          unfold C1
          rw [c3, c4, c1 203 nc (by decide), c1 1601 _ (by decide), c1 1602 _ (by decide), c1 1603 _ (by decide), c2 2455 _ (by decide), c2 2454 _ (by decide), rr.1, rr.2, e6 203 nc (by decide), e53]
          exact ⟨⟨rfl, hx', rfl, yp⟩, d, ⟨(e6 1601 _ (by decide)).trans d5, hd1, hd2, ln5, y1, y0⟩, (e6 1602 _ (by decide)).trans d6, (e6 1603 _ (by decide)).trans d7⟩
      rcases hx with rfl | rfl
      · exact bt_ rfl (fin K5 _ 0 (Or.inl rfl) av5 TOKf_0 (g_pos hr rfl))
      · refine bf_ (by decide) ⟨K10 g5, c_takes wd5 av5 (by omega) (by omega) (g_neg hr (by decide)) (fun K' R w q cz hf hr => ?_) (fun hr => bt_ rfl (fin K5 _ 0 (Or.inl rfl) av5 TOKf_0 (fun Q h => hr Q ⟨_, rfl, bt_ rfl h⟩))) (fun K6 R6 av6 tf6 hr => bf_ (by decide) (fin K6 R6 1 (Or.inr rfl) av6 tf6 (fun Q h => hr Q ⟨_, rfl, bf_ (by decide) h⟩)))⟩
        obtain ⟨R, hf, hr⟩ := fd_114 n24 hf (fun Q h => hr Q ⟨1, rfl, bf_ (by decide) h⟩)
        exact hX L5 T5 K' R w q wd5 cz hf hr
    refine ⟨_, rfl, c_gk g3 m1 2 rfl, 1, 32, ⟨by omega, by omega⟩, c_gk g3 m1 2 rfl, ?_⟩
    rw [c_eIs (c_gw g3) m1 rfl, c_eI m1 rfl, c_gq g3 m1]
    have e201 : c_I (cs_I K4 203 nc y) 201 nc = x := by
      rw [c_II, if_neg (by omega)]
      exact (tf4.1 201 nc (by decide)).trans n7
    rw [e201]
    rcases hx with rfl | rfl
    · have := y0 rfl
      subst this
      exact bt_ rfl ⟨_, rfl, c_gk g3 m8 9 rfl, 1, 32, ⟨by omega, by omega⟩, c_setDepth (d := 1) wd3 m8 hd1 hd2 (by omega) (by omega) (fun L5 T5 K5 wd5 lx5 ln5 nd => ⟨rfl, rfl, rest L5 T5 K5 wd5 lx5 ln5 nd⟩)⟩
    · have := y1 rfl
      subst this
      exact bf_ (by decide) ⟨_, rfl, c_gk g3 m8 9 rfl, 1, 32, ⟨by omega, by omega⟩, c_setDepth (d := d) wd3 m8 hd1 hd2 (by omega) (by omega) (fun L5 T5 K5 wd5 lx5 ln5 nd => ⟨rfl, rfl, rest L5 T5 K5 wd5 lx5 ln5 nd⟩)⟩
  rcases hx with rfl | rfl
  · refine bt_ rfl ⟨K10 g3, c_num wd3 av3 (by omega) (by omega) (by decide) (fun v _ => Iff.rfl) (g_pos hr rfl) (fun K' R w q x cz hf hr => ?_) (fun K4 R4 y av4 tf4 hy hr => ?_)⟩
    · obtain ⟨R, hf, hr⟩ := fd_87 n24 hf hr
      exact hX L3 T3 K' R w q wd3 cz hf hr
    · obtain ⟨n0, rfl, n31, m1', m2'⟩ := num_of hy.1 (by decide)
      exact go 1 (nI n0) K4 R4 (by omega) (by omega) (fun z => absurd z (by decide)) (fun _ => rfl) (by rw [nI_toInt n31]; omega) av4 tf4 hr
  · refine bf_ (by decide) ⟨K10 g3, c_num wd3 av3 (by omega) (by omega) (by decide) (fun v _ => Iff.rfl) (g_neg hr (by decide)) (fun K' R w q x cz hf hr => ?_) (fun K4 R4 y av4 tf4 hy hr => ?_)⟩
    · obtain ⟨R, hf, hr⟩ := fd_87 n24 hf hr
      exact hX L3 T3 K' R w q wd3 cz hf hr
    · obtain ⟨n0, rfl, n31, m1', m2'⟩ := num_of hy.1 (by decide)
      have a1 : (1 : Int32).toInt = 1 := rfl
      have a2 : (32 : Int32).toInt = 32 := rfl
      exact go n0 (nI n0) K4 R4 (by omega) (by omega) (fun _ => rfl) (fun z => absurd z (by decide)) (by rw [nI_toInt n31]; omega) av4 tf4 hr
