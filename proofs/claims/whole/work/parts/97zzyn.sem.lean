/-! Events, boards, semaphores. -/
theorem OF_x {p s n tm lm : Nat} {K K' : c_S} {R R' : r_S} (h : OF (xI p s n) (xA p s n) xi (xa p s tm lm) K R K' R') : OF (xI p s n) (xA p s n) xi (ya p s n tm lm) K R K' R' := OF_w h (fun _ _ z => z) (fun _ _ z => z) (fun _ z => z) (fun _ _ z => Or.inl z)
theorem OF_xk {p s n tm lm : Nat} {K K1 K2 : c_S} {R R1 R2 : r_S} (h : OF (xI p s n) (xA p s n) xi (ya p s n tm lm) K R K1 R1) (t : TOKf K1 K2 R1 R2) : OF (xI p s n) (xA p s n) xi (ya p s n tm lm) K R K2 R2 := OF_k h t (fun _ _ z => Or.inl z) (fun _ z1 z2 => Or.inl ⟨z1, z2⟩)
theorem RI_of {cI cA : Nat → Nat → Prop} {rI : Nat → Prop} {rA : Nat → Nat → Prop} {K K' : c_S} {R R' : r_S} (h : OF cI cA rI rA K R K' R') (hc : ∀ f i : Nat, c_dy f = true → ¬ cI f i) (ri : RI K) : RI K' := fun f i x hd hx => ri f i x hd (by rw [← (h.1 f i (hc f i hd)).2.2]; exact hx)
theorem dy_200 {f : Nat} (h : c_dy f = true) : f / 200 = 0 ∨ f / 200 = 1 := by
  unfold c_dy at h
  split at h
  · exact Or.inl rfl
  · exact Or.inl rfl
  · exact Or.inl rfl
  · exact Or.inl rfl
  · exact Or.inr rfl
  · exact Or.inr rfl
  · cases h
theorem num_of {n d1 d2 : Int32} (h : ¬ n < d1 ∧ ¬ d2 < n) (h0 : 0 ≤ d1.toInt) : ∃ m : Nat, n = nI m ∧ m < 2 ^ 31 ∧ d1.toInt ≤ m ∧ (m : Int) ≤ d2.toInt := by
  have h1 := i_nlt.mp h.1
  have h2 := i_nlt.mp h.2
  have h1' := i_le.mp h1
  have h2' := i_le.mp h2
  obtain ⟨m, hm, rfl⟩ := nI_of (x := n) (fun z => by have := i_lt0.mp z; omega)
  rw [nI_toInt hm] at h1' h2'
  exact ⟨m, rfl, hm, h1', h2'⟩
theorem PN_I {L : c_L} {K : c_S} {R : r_S} {p lm f i : Nat} {cn : Nat → Nat} {v : Int32} (h : PN L K R p lm cn) (hf : f ≠ 1004) : PN L (cs_I K f i v) R p lm cn := PN_c h LX_0 (Nat.le_refl _) (if_neg (fun z : 1004 = f ∧ p = i => hf z.1.symm)) (fun _ _ => rfl) (fun _ _ _ _ => rfl) (fun _ _ => rfl) rfl (fun _ _ _ _ _ => rfl) (fun _ _ => rfl)
theorem PN_a {L : c_L} {K : c_S} {R : r_S} {p lm f i : Nat} {cn : Nat → Nat} {v : Int32} (h : PN L K R p lm cn) (hf : 2436 ≤ f) : PN L K (rs_A R f i v) p lm cn := PN_c h LX_0 (Nat.le_refl _) rfl (fun _ _ => rfl) (fun _ _ _ _ => rfl) (fun s _ => if_neg (fun z : 2435 = f ∧ 6 * p + s = i => by omega)) (if_neg (fun z : 2430 = f ∧ p = i => by omega)) (fun f' k a b _ => if_neg (fun z : f' = f ∧ 64 * p + k = i => by omega)) (fun x _ => if_neg (fun z : 2421 = f ∧ x = i => by omega))
theorem c_event {e : EV} {L : c_L} {T : q_S} {B bc bs : Nat} {K0 K : c_S} {R0 R : r_S} {p lm tm : Nat} {cn : Nat → Nat} {hd : Option Nat} {k nr : Nat} {re : Nat → Nat} {hp : Prop} {X : Nat → Nat → Nat → Nat → q_S → Prop} {E : String → q_S → Prop} {RM : (Option Value → r_S → Prop) → Prop} (wd : WD e L T) (av : AV B K0 R0 K R) (ri : RI K) (rp : RP L K R p lm cn hd k nr re hp) (p16 : p < 16) (hl : lm + 12 ≤ 14000) (h22 : r_I R 2422 = nI lm) (htm : tm = cn 0 + cn 1 + cn 2 + cn 3 + cn 4 + cn 5) (hby : ∀ i : Nat, fits .byte (.int (r_A R0 2402 i)) = true) {u v : Nat} (hu : u + 3 ≤ bc) (hv : v + 22 ≤ bs)
  (hr : ∀ Q : Option Value → r_S → Prop, rm_X12_newThing R (nI p) 1 8 (fun r R' => ∃ x : Int32, r = some (.int x) ∧ (rm_X12_sign R' 59 (fun r R'' => ∃ x : Int32, r = some (.int x) ∧ Q none R''))) → RM Q)
  (hX : ∀ (L' : c_L) (T' : q_S) (K' : c_S) (R' : r_S) (w q : Int32), WD e L' T' → CZ K0 K' → FD w q R0 R' → (∀ Q : Option Value → r_S → Prop, Q none R' → RM Q) → E "java/lang/IllegalArgumentException" (c_E L' (k_fl K' w q) T'))
  (hN : ∀ (L' : c_L) (T' : q_S) (K' : c_S) (R' : r_S) (lm' : Nat), WD e L' T' → LX L L' → AV B K0 R0 K' R' → OF (xI p 1 (cn 1)) (xA p 1 (cn 1)) xi (ya p 1 (cn 1) tm lm) K R K' R' → lm ≤ lm' → lm' ≤ lm + 12 → r_I R' 2422 = nI lm' → RP L' K' R' p lm' (cn1 cn 1) hd k nr re hp → cn 1 < 8 → (∀ Q : Option Value → r_S → Prop, Q none R' → RM Q) → X 2 16 0 0 (c_E L' K' T')) :
  ∃ m m' : Nat, (u + m ≤ bc ∧ v + m' ≤ bs) ∧ wm_X9_readNewThing m m' (c_E L K T) (c_ob L 9 0) (some (c_ob L 5 p)) 1 (fun r26 S27 => ∃ r31 : Option Nat, r26 = some (va_rf r31) ∧ (q_K S27 (c_ob L 9 0) = 10 ∧ (∃ m35 m36 : Nat, ((u + m) + m35 ≤ bc ∧ (v + m') + m36 ≤ bs) ∧ (wm_X9_expectSign m35 m36 S27 (c_ob L 9 0) 59 (fun r33 S34 => r33 = none ∧ X m m' m35 m36 S34) E)))) E := by
  have g := WD_g wd
  refine ⟨2, 16, ⟨by omega, by omega⟩, c_rnt (s := 1) (mx := 8) wd av ri rp.2.2.2.1 rp.1.1.1 p16 (by decide) rfl hl h22 htm (by decide) (by decide) hby hr (fun L' T' K' R w q j wd cz hf hj hr => ?_) (fun L' T' K1 R1 sz wd1 lx av1 m10 hlt of1 hsz pn1 h22' vals hr => ⟨_, rfl, ?_⟩)⟩
  · obtain ⟨R, hf, de, hr⟩ := fs_sign hf hr
    exact hX L' T' K' R w q wd cz hf hr
  · rw [← (lx.1 9 0 (g_m9 g)).2]
    refine ⟨K10 (WD_g wd1), c_sign wd1 av1 (by omega) (by omega) hr (fun K' R w q x cz hf hr => hX L' T' K' R w q wd1 cz hf hr) (fun K2 R2 av2 tf2 hr => ?_)⟩
    have of2 := OF_xk (OF_x of1) tf2
    refine hN L' T' K2 R2 (lm + sz) wd1 lx av2 of2 (by omega) (by omega) ((tf2.2.2.2.1 2422 (by decide)).trans h22') (RP_thing g rp lx (by decide) (by simpa using hlt) htm of2 (PN_t pn1 tf2) ⟨fun z => absurd z (by decide), fun _ => ?_, fun z => absurd z (by decide), fun z => absurd z (by decide)⟩ (fun z => absurd z (by decide))) hlt hr
    rw [tf2.1 2002 _ (by decide), tf2.1 2001 _ (by decide)]
    exact ⟨vals.1.2.1, vals.1.1⟩
theorem c_board {e : EV} {L : c_L} {T : q_S} {B bc bs : Nat} {K0 K : c_S} {R0 R : r_S} {p lm tm : Nat} {cn : Nat → Nat} {hd : Option Nat} {k nr : Nat} {re : Nat → Nat} {hp : Prop} {X : Nat → Nat → Nat → Nat → q_S → Prop} {E : String → q_S → Prop} {RM : (Option Value → r_S → Prop) → Prop} (wd : WD e L T) (av : AV B K0 R0 K R) (ri : RI K) (rp : RP L K R p lm cn hd k nr re hp) (p16 : p < 16) (hl : lm + 12 ≤ 14000) (h22 : r_I R 2422 = nI lm) (htm : tm = cn 0 + cn 1 + cn 2 + cn 3 + cn 4 + cn 5) (hby : ∀ i : Nat, fits .byte (.int (r_A R0 2402 i)) = true) {u v : Nat} (hu : u + 3 ≤ bc) (hv : v + 22 ≤ bs)
  (hr : ∀ Q : Option Value → r_S → Prop, rm_X12_newThing R (nI p) 3 8 (fun r R' => ∃ x : Int32, r = some (.int x) ∧ (rm_X12_sign R' 59 (fun r R'' => ∃ x : Int32, r = some (.int x) ∧ Q none R''))) → RM Q)
  (hX : ∀ (L' : c_L) (T' : q_S) (K' : c_S) (R' : r_S) (w q : Int32), WD e L' T' → CZ K0 K' → FD w q R0 R' → (∀ Q : Option Value → r_S → Prop, Q none R' → RM Q) → E "java/lang/IllegalArgumentException" (c_E L' (k_fl K' w q) T'))
  (hN : ∀ (L' : c_L) (T' : q_S) (K' : c_S) (R' : r_S) (lm' : Nat), WD e L' T' → LX L L' → AV B K0 R0 K' R' → OF (xI p 3 (cn 3)) (xA p 3 (cn 3)) xi (ya p 3 (cn 3) tm lm) K R K' R' → lm ≤ lm' → lm' ≤ lm + 12 → r_I R' 2422 = nI lm' → RP L' K' R' p lm' (cn1 cn 3) hd k nr re hp → cn 3 < 8 → (∀ Q : Option Value → r_S → Prop, Q none R' → RM Q) → X 2 16 0 0 (c_E L' K' T')) :
  ∃ m m' : Nat, (u + m ≤ bc ∧ v + m' ≤ bs) ∧ wm_X9_readNewThing m m' (c_E L K T) (c_ob L 9 0) (some (c_ob L 5 p)) 3 (fun r26 S27 => ∃ r31 : Option Nat, r26 = some (va_rf r31) ∧ (q_K S27 (c_ob L 9 0) = 10 ∧ (∃ m35 m36 : Nat, ((u + m) + m35 ≤ bc ∧ (v + m') + m36 ≤ bs) ∧ (wm_X9_expectSign m35 m36 S27 (c_ob L 9 0) 59 (fun r33 S34 => r33 = none ∧ X m m' m35 m36 S34) E)))) E := by
  have g := WD_g wd
  refine ⟨2, 16, ⟨by omega, by omega⟩, c_rnt (s := 3) (mx := 8) wd av ri rp.2.2.2.1 rp.1.1.1 p16 (by decide) rfl hl h22 htm (by decide) (by decide) hby hr (fun L' T' K' R w q j wd cz hf hj hr => ?_) (fun L' T' K1 R1 sz wd1 lx av1 m10 hlt of1 hsz pn1 h22' vals hr => ⟨_, rfl, ?_⟩)⟩
  · obtain ⟨R, hf, de, hr⟩ := fs_sign hf hr
    exact hX L' T' K' R w q wd cz hf hr
  · rw [← (lx.1 9 0 (g_m9 g)).2]
    refine ⟨K10 (WD_g wd1), c_sign wd1 av1 (by omega) (by omega) hr (fun K' R w q x cz hf hr => hX L' T' K' R w q wd1 cz hf hr) (fun K2 R2 av2 tf2 hr => ?_)⟩
    have of2 := OF_xk (OF_x of1) tf2
    refine hN L' T' K2 R2 (lm + sz) wd1 lx av2 of2 (by omega) (by omega) ((tf2.2.2.2.1 2422 (by decide)).trans h22') (RP_thing g rp lx (by decide) (by simpa using hlt) htm of2 (PN_t pn1 tf2) ⟨fun z => absurd z (by decide), fun _ => ?_, fun z => absurd z (by decide), fun z => absurd z (by decide)⟩ (fun z => absurd z (by decide))) hlt hr
    rw [tf2.1 2002 _ (by decide), tf2.1 2001 _ (by decide)]
    exact ⟨vals.1.2.1, vals.1.1⟩
theorem c_semaphore {e : EV} {L : c_L} {T : q_S} {B bc bs : Nat} {K0 K : c_S} {R0 R : r_S} {p lm tm : Nat} {cn : Nat → Nat} {hd : Option Nat} {k nr : Nat} {re : Nat → Nat} {hp : Prop} {Q : Option Value → q_S → Prop} {E : String → q_S → Prop} {RM : (Option Value → r_S → Prop) → Prop} (wd : WD e L T) (av : AV B K0 R0 K R) (ri : RI K) (rp : RP L K R p lm cn hd k nr re hp) (p16 : p < 16) (hl : lm + 12 ≤ 14000) (h22 : r_I R 2422 = nI lm) (htm : tm = cn 0 + cn 1 + cn 2 + cn 3 + cn 4 + cn 5) (hby : ∀ i : Nat, fits .byte (.int (r_A R0 2402 i)) = true) (hu : 3 ≤ bc) (hv : 22 ≤ bs)
  (hr : ∀ Q : Option Value → r_S → Prop, rm_X12_newThing R (nI p) (0 : Int32) (8 : Int32) (fun r31_ S32_ => ∃ x33_ : Int32, r31_ = some (.int x33_) ∧ (rm_X12_number S32_ (0 : Int32) (100 : Int32) (1 : Int32) (fun r35_ S36_ => ∃ x37_ : Int32, r35_ = some (.int x37_) ∧ (vp_in (((8 : Int32) * (nI p)) + x33_) (r_N 2443) ∧ (rm_X12_sign (rs_A S36_ 2443 (((8 : Int32) * (nI p)) + x33_).toNatClampNeg x37_) (58 : Int32) (fun r43_ S44_ => ∃ x45_ : Int32, r43_ = some (.int x45_) ∧ (vp_in (((8 : Int32) * (nI p)) + x33_) (r_N 2443) ∧ (((r_A S44_ 2443 (((8 : Int32) * (nI p)) + x33_).toNatClampNeg) ≤ (1 : Int32) → (rb_X12_readThing_167 S44_ (((8 : Int32) * (nI p)) + x33_) (((8 : Int32) * (nI p)) + x33_) (1 : Int32) Q)) ∧ (¬ (r_A S44_ 2443 (((8 : Int32) * (nI p)) + x33_).toNatClampNeg) ≤ (1 : Int32) → (vp_in (((8 : Int32) * (nI p)) + x33_) (r_N 2443) ∧ (rb_X12_readThing_167 S44_ (((8 : Int32) * (nI p)) + x33_) (((8 : Int32) * (nI p)) + x33_) (r_A S44_ 2443 (((8 : Int32) * (nI p)) + x33_).toNatClampNeg) Q))))))))))) → RM Q)
  (hX : ∀ (L' : c_L) (T' : q_S) (K' : c_S) (R' : r_S) (w q : Int32), WD e L' T' → CZ K0 K' → FD w q R0 R' → (∀ Q : Option Value → r_S → Prop, Q none R' → RM Q) → E "java/lang/IllegalArgumentException" (c_E L' (k_fl K' w q) T'))
  (hN : ∀ (L' : c_L) (T' : q_S) (K' : c_S) (R' : r_S) (lm' : Nat), WD e L' T' → LX L L' → AV B K0 R0 K' R' → OF (xI p 0 (cn 0)) (xA p 0 (cn 0)) xi (ya p 0 (cn 0) tm lm) K R K' R' → lm ≤ lm' → lm' ≤ lm + 12 → r_I R' 2422 = nI lm' → RP L' K' R' p lm' (cn1 cn 0) hd k nr re hp → cn 0 < 8 → (∀ Q : Option Value → r_S → Prop, Q none R' → RM Q) → Q none (c_E L' K' T')) :
  wm_X9_readSemaphore bc bs (c_E L K T) (c_ob L 9 0) (some (c_ob L 5 p)) Q E := by
  have g := WD_g wd
  have vv : ∀ j : Nat, j < 8 → vp_in ((8 : Int32) * nI p + nI j) (r_N 2443) ∧ ((8 : Int32) * nI p + nI j).toNatClampNeg = 8 * p + j := fun j hj => by
    rw [show (8 : Int32) = nI 8 from rfl, pk_mul, nI_add, nI_clamp (by omega)]
    exact ⟨vp_in_nI (N := 128) (by omega) (by decide), rfl⟩
  refine ⟨K10 g, 2, 16, ⟨by omega, by omega⟩, c_rnt (s := 0) (mx := 8) wd av ri rp.2.2.2.1 rp.1.1.1 p16 (by decide) rfl hl h22 htm (by decide) (by decide) hby hr (fun L' T' K' R w q jj wd cz hf hjj hr => ?_) (fun L' T' K1 R1 sz wd lx av1 m10 hlt of1 hsz pn1 h22' vals hr => ⟨_, rfl, ?_⟩)⟩
  · obtain ⟨R, hf, de, hr⟩ := fs_number hf hr
    have hr := g_and hr (vv jj hjj).1
    obtain ⟨R, hf, de, hr⟩ := fs_sign (FD_A hf (by decide)) hr
    have hr := g_and hr (vv jj hjj).1
    by_cases c1 : r_A R 2443 ((8 : Int32) * nI p + nI jj).toNatClampNeg ≤ 1
    · have hr := g_pos hr c1
      unfold rb_X12_readThing_167 at hr
      obtain ⟨R, hf, de, hr⟩ := fs_number hf hr
      (have hr := g_and hr (vv jj hjj).1; have hr := fs_isFifo (FD_A hf (by decide)) hr; (have hr := g_and hr (vv jj hjj).1; obtain ⟨R, hf, de, hr⟩ := fs_sign (FD_A (FD_A hf (by decide)) (by decide)) hr; exact hX _ _ _ R w q wd cz hf hr))
    · have hr := g_and (g_neg hr c1) (vv jj hjj).1
      unfold rb_X12_readThing_167 at hr
      obtain ⟨R, hf, de, hr⟩ := fs_number hf hr
      (have hr := g_and hr (vv jj hjj).1; have hr := fs_isFifo (FD_A hf (by decide)) hr; (have hr := g_and hr (vv jj hjj).1; obtain ⟨R, hf, de, hr⟩ := fs_sign (FD_A (FD_A hf (by decide)) (by decide)) hr; exact hX _ _ _ R w q wd cz hf hr))
  · rw [← (lx.1 9 0 (g_m9 g)).2]
    have g1 := WD_g wd
    have hlt8 : cn 0 < 8 := hlt
    obtain ⟨jj, hjj⟩ : ∃ jj : Nat, jj = cn 0 := ⟨_, rfl⟩
    have ejj := hjj
    have hjj : jj < 8 := by omega
    rw [← ejj] at hr
    refine ⟨K10 g1, c_num wd av1 (by omega) (by omega) (by decide) (fun _ _ => Iff.rfl) hr (fun K' R w q x cz hf hr => ?_) (fun K2 R2 n av2 tf2 hn hr => ⟨_, rfl, c_gk g1 m10 11 rfl, fun S18 e18 => ?_⟩)⟩
    · have hr := g_and hr (vv jj hjj).1
      obtain ⟨R, hf, de, hr⟩ := fs_sign (FD_A hf (by decide)) hr
      have hr := g_and hr (vv jj hjj).1
      by_cases c1 : r_A R 2443 ((8 : Int32) * nI p + nI jj).toNatClampNeg ≤ 1
      · have hr := g_pos hr c1
        unfold rb_X12_readThing_167 at hr
        obtain ⟨R, hf, de, hr⟩ := fs_number hf hr
        (have hr := g_and hr (vv jj hjj).1; have hr := fs_isFifo (FD_A hf (by decide)) hr; (have hr := g_and hr (vv jj hjj).1; obtain ⟨R, hf, de, hr⟩ := fs_sign (FD_A (FD_A hf (by decide)) (by decide)) hr; exact hX _ _ _ R w q wd cz hf hr))
      · have hr := g_and (g_neg hr c1) (vv jj hjj).1
        unfold rb_X12_readThing_167 at hr
        obtain ⟨R, hf, de, hr⟩ := fs_number hf hr
        (have hr := g_and hr (vv jj hjj).1; have hr := fs_isFifo (FD_A hf (by decide)) hr; (have hr := g_and hr (vv jj hjj).1; obtain ⟨R, hf, de, hr⟩ := fs_sign (FD_A (FD_A hf (by decide)) (by decide)) hr; exact hX _ _ _ R w q wd cz hf hr))
    · rw [c_eIs (c_gw g1) m10 rfl, c_eI m10 rfl, c_eIs (c_gw g1) m10 rfl] at e18
      subst e18
      obtain ⟨n0, rfl, n31, n1, n2⟩ := num_of hn.1 (by decide)
      have n2 : n0 ≤ 100 := by have : (100 : Int32).toInt = 100 := rfl; omega
      have i2 : c_I (cs_I K2 2002 (48 * p + (8 * 0 + cn 0)) (nI n0)) 2002 (48 * p + (8 * 0 + cn 0)) = nI n0 := if_pos ⟨rfl, rfl⟩
      rw [i2]
      have hr := g_and hr (vv jj hjj).1
      rw [(vv jj hjj).2] at hr
      have av3 := AV_a (f := 2443) (i := 8 * p + jj) (v := nI n0) (AV_I (f := 2001) (i := 48 * p + (8 * 0 + cn 0)) (v := nI n0) (AV_I (f := 2002) (i := 48 * p + (8 * 0 + cn 0)) (v := nI n0) av2 (by decide)) (by decide)) (by decide)
      have of3 : OF (xI p 0 (cn 0)) (xA p 0 (cn 0)) xi (ya p 0 (cn 0) tm lm) K R (cs_I (cs_I K2 2002 (48 * p + (8 * 0 + cn 0)) (nI n0)) 2001 (48 * p + (8 * 0 + cn 0)) (nI n0)) (rs_A R2 2443 (8 * p + jj) (nI n0)) := OF_a (OF_I (OF_I (OF_xk (OF_x of1) tf2) (Or.inr ⟨Or.inl rfl, rfl⟩)) (Or.inr ⟨Or.inl rfl, rfl⟩)) (Or.inr (Or.inl ⟨by omega, by omega, rfl⟩))
      refine ⟨K10 g1, c_sign wd av3 (by omega) (by omega) hr (fun K' R w q x cz hf hr => ?_) (fun K4 R4 av4 tf4 hr => ⟨c_gk g1 m10 11 rfl, K10 g1, ?_⟩)⟩
      · rw [← (vv jj hjj).2] at hr
        have hr := g_and hr (vv jj hjj).1
        by_cases c1 : r_A R 2443 ((8 : Int32) * nI p + nI jj).toNatClampNeg ≤ 1
        · have hr := g_pos hr c1
          unfold rb_X12_readThing_167 at hr
          obtain ⟨R, hf, de, hr⟩ := fs_number hf hr
          (have hr := g_and hr (vv jj hjj).1; have hr := fs_isFifo (FD_A hf (by decide)) hr; (have hr := g_and hr (vv jj hjj).1; obtain ⟨R, hf, de, hr⟩ := fs_sign (FD_A (FD_A hf (by decide)) (by decide)) hr; exact hX _ _ _ R w q wd cz hf hr))
        · have hr := g_and (g_neg hr c1) (vv jj hjj).1
          unfold rb_X12_readThing_167 at hr
          obtain ⟨R, hf, de, hr⟩ := fs_number hf hr
          (have hr := g_and hr (vv jj hjj).1; have hr := fs_isFifo (FD_A hf (by decide)) hr; (have hr := g_and hr (vv jj hjj).1; obtain ⟨R, hf, de, hr⟩ := fs_sign (FD_A (FD_A hf (by decide)) (by decide)) hr; exact hX _ _ _ R w q wd cz hf hr))
      · have r43 : r_A R4 2443 (8 * p + jj) = nI n0 := (TOKf_a tf4 _ _).trans (if_pos ⟨rfl, rfl⟩)
        have k02 : c_I K4 2002 (48 * p + (8 * 0 + cn 0)) = nI n0 := (tf4.1 2002 _ (by decide)).trans (by simp [c_II, c_IJ, c_IG, c_IA, c_IP, c_fi])
        have hr := g_and hr (vv jj hjj).1
        rw [c_eI m10 rfl, k02]
        have hr2 : ∀ Q : Option Value → r_S → Prop, rm_X12_number R4 (if (1 : Int32) < nI n0 then nI n0 else 1) 100 1 (fun r2_ S3_ => ∃ x4_ : Int32, r2_ = some (.int x4_) ∧ (vp_in ((8 : Int32) * nI p + nI jj) (r_N 2444) ∧ (rm_X12_isFifo (rs_A S3_ 2444 ((8 : Int32) * nI p + nI jj).toNatClampNeg x4_) (fun r10_ S11_ => ∃ x12_ : Int32, r10_ = some (.int x12_) ∧ (vp_in ((8 : Int32) * nI p + nI jj) (r_N 2445) ∧ (rm_X12_sign (rs_A S11_ 2445 ((8 : Int32) * nI p + nI jj).toNatClampNeg (vp_nar .boolean x12_)) (59 : Int32) (fun r18_ S19_ => ∃ x20_ : Int32, r18_ = some (.int x20_) ∧ (Q none S19_)))))))) → RM Q := by
          by_cases c1 : nI n0 ≤ 1
          · rw [if_neg (fun z => absurd c1 (i_nle.mpr z))]
            exact g_pos hr (by rw [r43]; exact c1)
          · rw [if_pos (i_nle.mp c1)]
            have hr := g_and (g_neg hr (by rw [r43]; exact c1)) (vv jj hjj).1
            rw [r43] at hr
            exact hr
        have lo : ∃ l0 : Nat, (if (1 : Int32) < nI n0 then nI n0 else 1) = nI l0 ∧ n0 ≤ l0 ∧ l0 ≤ 100 := by
          by_cases c1 : (1 : Int32) < nI n0
          · exact ⟨n0, if_pos c1, Nat.le_refl _, n2⟩
          · refine ⟨1, (if_neg c1).trans rfl, ?_, by decide⟩
            exact Nat.le_of_not_lt (fun z => c1 (by rw [show (1 : Int32) = nI 1 from rfl]; exact nI_lt z n31))
        obtain ⟨l0, el0, l1, l2⟩ := lo
        rw [el0] at hr2 ⊢
        refine c_num wd av4 (by omega) (by omega) (by decide) (fun _ _ => Iff.rfl) hr2 (fun K' R w q x cz hf hr => by (have hr := g_and hr (vv jj hjj).1; have hr := fs_isFifo (FD_A hf (by decide)) hr; (have hr := g_and hr (vv jj hjj).1; obtain ⟨R, hf, de, hr⟩ := fs_sign (FD_A (FD_A hf (by decide)) (by decide)) hr; exact hX _ _ _ R w q wd cz hf hr))) (fun K5 R5 n' av5 tf5 hn' hr => ⟨c_gk g1 m10 11 rfl, ?_⟩)
        obtain ⟨n5, rfl, n531, n51, n52⟩ := num_of hn'.1 (by rw [nI_toInt (by omega)]; omega)
        rw [nI_toInt (by omega)] at n51
        have n52 : n5 ≤ 100 := by have : (100 : Int32).toInt = 100 := rfl; omega
        rw [c_eIs (c_gw g1) m10 rfl]
        have hr := g_and hr (vv jj hjj).1
        rw [(vv jj hjj).2] at hr
        have av6 := AV_a (f := 2444) (i := 8 * p + jj) (v := nI n5) (AV_I (f := 2003) (i := 48 * p + (8 * 0 + cn 0)) (v := nI n5) av5 (by decide)) (by decide)
        have of6 : OF (xI p 0 (cn 0)) (xA p 0 (cn 0)) xi (ya p 0 (cn 0) tm lm) K R (cs_I K5 2003 (48 * p + (8 * 0 + cn 0)) (nI n5)) (rs_A R5 2444 (8 * p + jj) (nI n5)) := OF_a (OF_I (OF_xk (OF_xk of3 tf4) tf5) (Or.inr ⟨Or.inl rfl, rfl⟩)) (Or.inr (Or.inl ⟨by omega, by omega, rfl⟩))
        have go : ∀ (K7 : c_S) (R7 : r_S) (x : Int32), (x = 0 ∨ x = 1) → AV B K0 R0 K7 R7 → TOKf (cs_I K5 2003 (48 * p + (8 * 0 + cn 0)) (nI n5)) K7 (rs_A R5 2444 (8 * p + jj) (nI n5)) R7 → (∀ Q : Option Value → r_S → Prop, (vp_in ((8 : Int32) * nI p + nI jj) (r_N 2445) ∧ (rm_X12_sign (rs_A R7 2445 (8 * p + jj) (vp_nar .boolean x)) (59 : Int32) (fun r18_ S19_ => ∃ x20_ : Int32, r18_ = some (.int x20_) ∧ (Q none S19_)))) → RM Q) → q_K (c_E L' K7 T') (c_ob L' 10 (48 * p + (8 * 0 + cn 0))) = 11 ∧ ((narrow .boolean (.int x) = .int x ∧ fits .boolean (.int x) = true) ∧ (q_K (qs_I (c_E L' K7 T') 2004 (c_ob L' 10 (48 * p + (8 * 0 + cn 0))) x) (c_ob L' 9 0) = 10 ∧ (∃ m46_ m47_ : Nat, ((((((0 + 2) + 0) + 0) + 0) + 0) + m46_ ≤ bc ∧ (((((0 + 16) + 0) + 0) + 0) + 0) + m47_ ≤ bs) ∧ (wm_X9_expectSign m46_ m47_ (qs_I (c_E L' K7 T') 2004 (c_ob L' 10 (48 * p + (8 * 0 + cn 0))) x) (c_ob L' 9 0) (59 : Int32) (fun r44_ S45_ => r44_ = none ∧ (Q none S45_)) E)))) := fun K7 R7 x hx av7 tf7 hr => by
          refine ⟨c_gk g1 m10 11 rfl, nfb hx, ?_⟩
          rw [c_eIs (c_gw g1) m10 rfl]
          have hr := g_and hr (vv jj hjj).1
          rw [vnb hx] at hr
          have av8 := AV_a (f := 2445) (i := 8 * p + jj) (v := x) (AV_I (f := 2004) (i := 48 * p + (8 * 0 + cn 0)) (v := x) av7 (by decide)) (by decide)
          have of8 : OF (xI p 0 (cn 0)) (xA p 0 (cn 0)) xi (ya p 0 (cn 0) tm lm) K R (cs_I K7 2004 (48 * p + (8 * 0 + cn 0)) x) (rs_A R7 2445 (8 * p + jj) x) := OF_a (OF_I (OF_xk of6 tf7) (Or.inr ⟨Or.inl rfl, rfl⟩)) (Or.inr (Or.inl ⟨by omega, by omega, rfl⟩))
          refine ⟨K10 g1, c_sign wd av8 (by omega) (by omega) hr (fun K' R w q x cz hf hr => hX _ _ _ R w q wd cz hf hr) (fun K9 R9 av9 tf9 hr => ?_)⟩
          have of9 := OF_xk of8 tf9
          have q2 : ∀ f : Nat, f ∉ [1807, 1808, 1809, 1811] → c_I K9 f (48 * p + (8 * 0 + cn 0)) = if f = 2004 then x else if f = 2003 then nI n5 else if f = 2001 then nI n0 else if f = 2002 then nI n0 else c_I K1 f (48 * p + (8 * 0 + cn 0)) := fun f hf => by
            rw [tf9.1 f _ hf, c_II]
            by_cases z1 : f = 2004
            · rw [if_pos ⟨z1, rfl⟩, if_pos z1]
            · rw [if_neg (fun y => z1 y.1), if_neg z1, tf7.1 f _ hf, c_II]
              by_cases z2 : f = 2003
              · rw [if_pos ⟨z2, rfl⟩, if_pos z2]
              · rw [if_neg (fun y => z2 y.1), if_neg z2, tf5.1 f _ hf, tf4.1 f _ hf, c_II]
                by_cases z3 : f = 2001
                · rw [if_pos ⟨z3, rfl⟩, if_pos z3]
                · rw [if_neg (fun y => z3 y.1), if_neg z3, c_II]
                  by_cases z4 : f = 2002
                  · rw [if_pos ⟨z4, rfl⟩, if_pos z4]
                  · rw [if_neg (fun y => z4 y.1), if_neg z4, tf2.1 f _ hf]
          have rr : r_A R9 2445 (8 * p + cn 0) = x ∧ r_A R9 2444 (8 * p + cn 0) = nI n5 ∧ r_A R9 2443 (8 * p + cn 0) = nI n0 := by
            rw [TOKf_a tf9, TOKf_a tf9, TOKf_a tf9, ← ejj, r_AA, r_AA, r_AA, if_pos ⟨rfl, rfl⟩, if_neg (by omega), if_neg (by omega), TOKf_a tf7, TOKf_a tf7, r_AA, r_AA, if_pos ⟨rfl, rfl⟩, if_neg (by omega), TOKf_a tf5]
            exact ⟨rfl, rfl, r43⟩
          refine hN L' T' K9 R9 (lm + sz) wd lx av9 of9 (by omega) (by omega) ?_ (RP_thing g rp lx (by decide) (by simpa using hlt) htm of9 ?_ ⟨fun _ => ?_, fun z => absurd rfl z, fun z => absurd z (by decide), fun z => absurd z (by decide)⟩ (fun z => absurd z (by decide))) hlt hr
          · exact (tf9.2.2.2.1 2422 (by decide)).trans ((tf7.2.2.2.1 2422 (by decide)).trans ((tf5.2.2.2.1 2422 (by decide)).trans ((tf4.2.2.2.1 2422 (by decide)).trans ((tf2.2.2.2.1 2422 (by decide)).trans h22'))))
          · exact PN_t (PN_a (PN_I (PN_t (PN_a (PN_I (PN_t (PN_t (PN_a (PN_I (PN_I (PN_t pn1 tf2) (by decide)) (by decide)) (by decide)) tf4) tf5) (by decide)) (by decide)) tf7) (by decide)) (by decide)) tf9
          · rw [q2 2002 (by decide), q2 2003 (by decide), q2 2004 (by decide), q2 2001 (by decide), rr.1, rr.2.1, rr.2.2, nI_toInt (by omega), nI_toInt (by omega)]
            exact ⟨rfl, rfl, rfl, rfl, by omega, by omega, by omega⟩
        refine ⟨K10 g1, c_takes wd av6 (by omega) (by omega) hr (fun K' R w q cz hf hr => ?_) (fun hr => go _ _ 0 (Or.inl rfl) av6 TOKf_0 (fun Q h => hr Q ⟨_, rfl, h⟩)) (fun K7 R7 av7 tf7 hr => go K7 R7 1 (Or.inr rfl) av7 tf7 (fun Q h => hr Q ⟨_, rfl, h⟩))⟩
        have hr := g_and (g_and (g_ex hr 1) rfl) (vv jj hjj).1
        obtain ⟨R, hf, de, hr⟩ := fs_sign (FD_A hf (by decide)) hr
        exact hX _ _ _ R w q wd cz hf hr
