/-! Buffers and ports. -/
theorem c_queuing {e : EV} {L : c_L} {T : q_S} {B bc bs u v : Nat} {K0 K : c_S} {R0 R : r_S} {X : Nat → Nat → Int32 → q_S → Prop} {E : String → q_S → Prop} {Y : Int32 → r_S → (Option Value → r_S → Prop) → Prop} {RM : (Option Value → r_S → Prop) → Prop} (wd : WD e L T) (av : AV B K0 R0 K R) (hu : u + 1 ≤ bc) (hv : v + 6 ≤ bs) (hr : ∀ Q : Option Value → r_S → Prop, rm_X12_either R 25 26 (fun r R' => ∃ x : Int32, r = some (.int x) ∧ Y x R' Q) → RM Q)
  (hX : ∀ (K' : c_S) (R' : r_S) (w q x : Int32), CZ K0 K' → FD w q R0 R' → (x = 0 ∨ x = 1) → (∀ Q : Option Value → r_S → Prop, Y x R' Q → RM Q) → E "java/lang/IllegalArgumentException" (c_E L (k_fl K' w q) T))
  (hN : ∀ (K' : c_S) (R' : r_S) (x : Int32), AV B K0 R0 K' R' → TOKf K K' R R' → (x = 0 ∨ x = 1) → (∀ Q : Option Value → r_S → Prop, Y x R' Q → RM Q) → X 0 0 x (c_E L K' T)) :
  ∃ m m' : Nat, (u + m ≤ bc ∧ v + m' ≤ bs) ∧ wm_X9_readIsQueuing m m' (c_E L K T) (c_ob L 9 0) (fun r S' => ∃ x : Int32, r = some (.int x) ∧ X m m' x S') E := by
  have g := WD_g wd
  have r0 := av.2.2.2.1
  have le : r_I R 2411 ≤ 0 := by rw [r0]; decide
  have fin : ∀ x : Int32, (x = 0 ∨ x = 1) → (∀ (bc bs : Nat) (Q : Option Value → q_S → Prop), (q_K (c_E L K T) (c_ob L 9 0) = 10 ∧ ∃ m m' : Nat, (0 + m ≤ bc ∧ 0 + m' ≤ bs) ∧ wm_X9_advance m m' (c_E L K T) (c_ob L 9 0) (fun r S' => r = none ∧ (narrow .boolean (.int x) = .int x ∧ Q (some (.int x)) S')) E) → wm_X9_readIsQueuing bc bs (c_E L K T) (c_ob L 9 0) Q E) → (∀ Q : Option Value → r_S → Prop, rm_X12_next R (fun r R' => r = none ∧ (narrow .boolean (.int x) = .int x ∧ (∃ y : Int32, some (Value.int x) = some (.int y) ∧ Y y R' Q))) → RM Q) → ∃ m m' : Nat, (u + m ≤ bc ∧ v + m' ≤ bs) ∧ wm_X9_readIsQueuing m m' (c_E L K T) (c_ob L 9 0) (fun r S' => ∃ x : Int32, r = some (.int x) ∧ X m m' x S') E := fun x hx cl rl => by
    rcases f_adv g (WD_2 wd) av with ⟨K', R', a1, a2, a3, a4⟩ | ⟨K', R', w, q, a1, ⟨a2, _⟩, a3, a4⟩
    · exact ⟨0, 0, ⟨by omega, by omega⟩, cl _ _ _ ⟨K10 g, 0, 0, ⟨by omega, by omega⟩, a3 _ _ _ _ ⟨rfl, (nfb hx).1, _, rfl, hN K' R' x a1 a2 hx (fun Q h => rl Q (a4 _ ⟨rfl, (nfb hx).1, _, rfl, h⟩))⟩⟩⟩
    · exact ⟨1, 6, ⟨hu, hv⟩, cl _ _ _ ⟨K10 g, 1, 6, ⟨by omega, by omega⟩, a3 _ _ _ _ (by omega) (by omega) (hX K' R' w q x a1 a2 hx (fun Q h => rl Q (a4 _ ⟨rfl, (nfb hx).1, _, rfl, h⟩)))⟩⟩
  by_cases c : c_I K 1808 0 = 5 ∧ c_I K 1809 0 = 26
  · exact fin 1 (Or.inr rfl) (fun bc bs Q h => ⟨K10 g, u_sees1 g c _ ⟨_, rfl, nf_ (by decide) h⟩⟩) (fun Q h => hr Q (bt_ le (v_key1 r0 ((AV_K av).mp c) _ ⟨_, rfl, nf_ (by decide) h⟩)))
  · have c' := fun z => c ((AV_K (k := 26) av).mpr z)
    by_cases d : c_I K 1808 0 = 5 ∧ c_I K 1809 0 = 25
    · exact fin 0 (Or.inl rfl) (fun bc bs Q h => ⟨K10 g, u_sees0 g c _ ⟨_, rfl, nt_ rfl ⟨K10 g, u_sees1 g d _ ⟨_, rfl, nf_ (by decide) h⟩⟩⟩⟩) (fun Q h => hr Q (bt_ le (v_key0 r0 c' _ ⟨_, rfl, nt_ rfl (v_key1 r0 ((AV_K av).mp d) _ ⟨_, rfl, nf_ (by decide) h⟩)⟩)))
    · have d' := fun z => d ((AV_K (k := 25) av).mpr z)
      obtain ⟨R', a1, a2, a3, a4, a5⟩ := f_fl (w := 1) (z := c_I K 1811 0) g av (by decide)
      refine ⟨1, 6, ⟨hu, hv⟩, K10 g, u_sees0 g c _ ⟨_, rfl, nt_ rfl ⟨K10 g, u_sees0 g d _ ⟨_, rfl, nt_ rfl ⟨K10 g, 1, 6, ⟨by omega, by omega⟩, ?_⟩⟩⟩⟩⟩
      rw [I9 g 1811 rfl]
      exact a3 _ _ _ _ (by omega) (by omega) (hX K R' 1 _ 0 a1 a2 (Or.inl rfl) (fun Q h => hr Q (bt_ le (v_key0 r0 c' _ ⟨_, rfl, nt_ rfl (v_key0 r0 d' _ ⟨_, rfl, nt_ rfl (a5 (AV_pl av) _ ⟨_, rfl, nb_0, _, rfl, h⟩)⟩)⟩))))
theorem c_buffer {e : EV} {L : c_L} {T : q_S} {B bc bs : Nat} {K0 K : c_S} {R0 R : r_S} {p lm tm : Nat} {cn : Nat → Nat} {hd : Option Nat} {k nr : Nat} {re : Nat → Nat} {hp : Prop} {Q : Option Value → q_S → Prop} {E : String → q_S → Prop} {RM : (Option Value → r_S → Prop) → Prop} (wd : WD e L T) (av : AV B K0 R0 K R) (ri : RI K) (rp : RP L K R p lm cn hd k nr re hp) (p16 : p < 16) (hl : lm + 12 ≤ 14000) (h22 : r_I R 2422 = nI lm) (htm : tm = cn 0 + cn 1 + cn 2 + cn 3 + cn 4 + cn 5) (hby : ∀ i : Nat, fits .byte (.int (r_A R0 2402 i)) = true) (hu : 6 ≤ bc) (hv : 42 ≤ bs)
  (hr : ∀ Q : Option Value → r_S → Prop, rm_X12_newThing R (nI p) (2 : Int32) (8 : Int32) (fun r60_ S61_ => ∃ x62_ : Int32, r60_ = some (.int x62_) ∧ (rm_X12_number S61_ (1 : Int32) (16 : Int32) (1 : Int32) (fun r64_ S65_ => ∃ x66_ : Int32, r64_ = some (.int x66_) ∧ (vp_in (((8 : Int32) * (nI p)) + x62_) (r_N 2446) ∧ (rm_X12_isFifo (rs_A S65_ 2446 (((8 : Int32) * (nI p)) + x62_).toNatClampNeg x66_) (fun r72_ S73_ => ∃ x74_ : Int32, r72_ = some (.int x74_) ∧ (vp_in (((8 : Int32) * (nI p)) + x62_) (r_N 2447) ∧ (rm_X12_sign (rs_A S73_ 2447 (((8 : Int32) * (nI p)) + x62_).toNatClampNeg (vp_nar .boolean x74_)) (59 : Int32) (fun r80_ S81_ => ∃ x82_ : Int32, r80_ = some (.int x82_) ∧ (Q none S81_)))))))))) → RM Q)
  (hX : ∀ (L' : c_L) (T' : q_S) (K' : c_S) (R' : r_S) (w q : Int32), WD e L' T' → CZ K0 K' → FD w q R0 R' → (∀ Q : Option Value → r_S → Prop, Q none R' → RM Q) → E "java/lang/IllegalArgumentException" (c_E L' (k_fl K' w q) T'))
  (hN : ∀ (L' : c_L) (T' : q_S) (K' : c_S) (R' : r_S) (lm' : Nat), WD e L' T' → LX L L' → AV B K0 R0 K' R' → OF (xI p 2 (cn 2)) (xA p 2 (cn 2)) xi (ya p 2 (cn 2) tm lm) K R K' R' → lm ≤ lm' → lm' ≤ lm + 12 → r_I R' 2422 = nI lm' → RP L' K' R' p lm' (cn1 cn 2) hd k nr re hp → cn 2 < 8 → (∀ Q : Option Value → r_S → Prop, Q none R' → RM Q) → Q none (c_E L' K' T')) :
  wm_X9_readBuffer bc bs (c_E L K T) (c_ob L 9 0) (some (c_ob L 5 p)) Q E := by
  have g := WD_g wd
  have vv : ∀ j : Nat, j < 8 → vp_in ((8 : Int32) * nI p + nI j) (r_N 2446) ∧ ((8 : Int32) * nI p + nI j).toNatClampNeg = 8 * p + j := fun j hj => by
    rw [show (8 : Int32) = nI 8 from rfl, pk_mul, nI_add, nI_clamp (by omega)]
    exact ⟨vp_in_nI (N := 128) (by omega) (by decide), rfl⟩
  refine ⟨K10 g, 4, 20, ⟨by omega, by omega⟩, c_rnt (s := 2) (mx := 8) wd av ri rp.2.2.2.1 rp.1.1.1 p16 (by decide) rfl hl h22 htm (by decide) (by decide) hby hr (fun L' T' K' R w q jj wd cz hf hjj hr => ?_) (fun L' T' K1 R1 sz wd lx av1 m10 hlt of1 hsz pn1 h22' vals hr => ⟨_, rfl, ?_⟩)⟩
  · obtain ⟨R, hf, de, hr⟩ := fs_number hf hr
    have hr := g_and hr (vv jj hjj).1
    have hr := fs_isFifo (FD_A hf (by decide)) hr
    have hr := g_and hr (vv jj hjj).1
    obtain ⟨R, hf, de, hr⟩ := fs_sign (FD_A (FD_A hf (by decide)) (by decide)) hr
    exact hX _ _ _ R w q wd cz hf hr
  · rw [← (lx.1 9 0 (g_m9 g)).2]
    have g1 := WD_g wd
    have hlt8 : cn 2 < 8 := hlt
    obtain ⟨jj, ejj⟩ : ∃ jj : Nat, jj = cn 2 := ⟨_, rfl⟩
    have hjj : jj < 8 := by omega
    have qu : c_qu (48 * p + (8 * 2 + cn 2)) = some (48 * p + (8 * 2 + cn 2)) := by
      unfold c_qu
      rw [if_pos (by omega)]
    have m8 := c_gU g1 m10 qu
    rw [← ejj] at hr
    refine ⟨K10 g1, c_num wd av1 (by omega) (by omega) (by decide) (fun _ _ => Iff.rfl) hr (fun K' R w q x cz hf hr => ?_) (fun K2 R2 n av2 tf2 hn hr => ⟨_, rfl, c_gk g1 m10 11 rfl, ?_⟩)⟩
    · have hr := g_and hr (vv jj hjj).1
      have hr := fs_isFifo (FD_A hf (by decide)) hr
      have hr := g_and hr (vv jj hjj).1
      obtain ⟨R, hf, de, hr⟩ := fs_sign (FD_A (FD_A hf (by decide)) (by decide)) hr
      exact hX _ _ _ R w q wd cz hf hr
    · obtain ⟨n0, rfl, n31, n1, n2⟩ := num_of hn.1 (by decide)
      have n1 : 1 ≤ n0 := by have : (1 : Int32).toInt = 1 := rfl; omega
      have n2 : n0 ≤ 16 := by have : (16 : Int32).toInt = 16 := rfl; omega
      rw [c_gu g1 m10, qu]
      have hr := g_and hr (vv jj hjj).1
      rw [(vv jj hjj).2] at hr
      refine bf_ (by intro z; cases z) ⟨_, rfl, c_gk g1 m8 9 rfl, 1, 16, ⟨by omega, by omega⟩, c_setDepth wd m8 n1 (by omega) (by omega) (by omega) (fun L3 T3 K3 wd3 lx3 ln3 nd => ⟨rfl, ?_⟩)⟩
      obtain ⟨d1, d2, d3, d4, d5, d6, d7⟩ := nd
      have g3 := WD_g wd3
      have m10' := (lx3.1 _ _ m10).1
      have lx' := LX_t lx lx3
      have q9 : ∀ f i : Nat, f / 200 ≠ 8 → ¬ (f / 200 = 8 ∧ i = 48 * p + (8 * 2 + cn 2)) := fun f i h z => h z.1
      have av3 : AV B K0 R0 K3 R2 := AV_c av2 (fun f hf => d1 f 0 (q9 f 0 ((by decide : ∀ f ∈ [1806, 1807, 1808, 1809, 1811, 1803, 402, 403, 1211, 1212, 1214], f / 200 ≠ 8) f hf))) (d2 1810 0) (fun f i hf => d3 f 0 i (fun z => absurd z.1 ((by decide : ∀ f ∈ [1802, 2204, 400, 401], f ≠ 1600) f hf))) (fun _ _ => rfl) av2.2.2.2.2.1
      have of3 : OF (xI p 2 (cn 2)) (xA p 2 (cn 2)) xi (ya p 2 (cn 2) tm lm) K R K3 R2 := OF_t (OF_xk (OF_x of1) tf2) ⟨fun f i z => ⟨d1 f i (fun y => z (Or.inr ⟨Or.inr y.1, y.2⟩)), d2 f i, d4 f i⟩, fun f i j z => d3 f i j (fun y => z (Or.inl ⟨Or.inr (by rw [y.1]), y.2⟩)), fun _ _ => rfl, fun _ _ _ => rfl⟩
      have pn3 : PN L3 K3 R2 p (lm + sz) (cn1 cn 2) := PN_c (PN_t pn1 tf2) lx3 (Nat.le_refl _) (d1 1004 p (q9 _ _ (by decide))) (fun s _ => d3 1006 p s (fun z => absurd z.1 (by decide))) (fun s i _ _ => d2 _ _) (fun _ _ => rfl) rfl (fun _ _ _ _ _ => rfl) (fun _ _ => rfl)
      rw [← (lx3.1 10 _ m10).2, ← (lx3.1 9 0 (g_m9 g1)).2]
      have av4 := AV_a (f := 2446) (i := 8 * p + jj) (v := nI n0) av3 (by decide)
      have of4 : OF (xI p 2 (cn 2)) (xA p 2 (cn 2)) xi (ya p 2 (cn 2) tm lm) K R K3 (rs_A R2 2446 (8 * p + jj) (nI n0)) := OF_a of3 (Or.inr (Or.inr (Or.inl ⟨by omega, by omega, rfl⟩)))
      have go : ∀ (K7 : c_S) (R7 : r_S) (x : Int32), (x = 0 ∨ x = 1) → AV B K0 R0 K7 R7 → TOKf K3 K7 (rs_A R2 2446 (8 * p + jj) (nI n0)) R7 → (∀ Q : Option Value → r_S → Prop, (vp_in ((8 : Int32) * nI p + nI jj) (r_N 2447) ∧ (rm_X12_sign (rs_A R7 2447 (8 * p + jj) (vp_nar .boolean x)) (59 : Int32) (fun r18_ S19_ => ∃ x20_ : Int32, r18_ = some (.int x20_) ∧ (Q none S19_)))) → RM Q) → ∃ a8_ : Nat, some (c_ob L3 10 (48 * p + (8 * 2 + cn 2))) = some a8_ ∧ (q_K (c_E L3 K7 T3) a8_ = 11 ∧ ((narrow .boolean (.int x) = .int x ∧ fits .boolean (.int x) = true) ∧ (q_K (qs_I (c_E L3 K7 T3) 2004 a8_ x) (c_ob L3 9 0) = 10 ∧ (∃ m15_ m16_ : Nat, ((((0 + 4) + 0) + 1) + 0 + m15_ ≤ bc ∧ (((0 + 20) + 0) + 16) + 0 + m16_ ≤ bs) ∧ (wm_X9_expectSign m15_ m16_ (qs_I (c_E L3 K7 T3) 2004 a8_ x) (c_ob L3 9 0) (59 : Int32) (fun r13_ S14_ => r13_ = none ∧ (Q none S14_)) E))))) := fun K7 R7 x hx av7 tf7 hr => by
        refine ⟨_, rfl, c_gk g3 m10' 11 rfl, nfb hx, ?_⟩
        rw [c_eIs (c_gw g3) m10' rfl]
        have hr := g_and hr (vv jj hjj).1
        rw [vnb hx] at hr
        have av8 := AV_a (f := 2447) (i := 8 * p + jj) (v := x) (AV_I (f := 2004) (i := 48 * p + (8 * 2 + cn 2)) (v := x) av7 (by decide)) (by decide)
        have of8 : OF (xI p 2 (cn 2)) (xA p 2 (cn 2)) xi (ya p 2 (cn 2) tm lm) K R (cs_I K7 2004 (48 * p + (8 * 2 + cn 2)) x) (rs_A R7 2447 (8 * p + jj) x) := OF_a (OF_I (OF_xk of4 tf7) (Or.inr ⟨Or.inl rfl, rfl⟩)) (Or.inr (Or.inr (Or.inl ⟨by omega, by omega, rfl⟩)))
        refine ⟨K10 g3, c_sign wd3 av8 (by omega) (by omega) hr (fun K' R w q x cz hf hr => hX _ _ _ R w q wd3 cz hf hr) (fun K9 R9 av9 tf9 hr => ?_)⟩
        have of9 := OF_xk of8 tf9
        have q2 : ∀ f : Nat, f ∉ [1807, 1808, 1809, 1811] → c_I K9 f (48 * p + (8 * 2 + cn 2)) = if f = 2004 then x else c_I K3 f (48 * p + (8 * 2 + cn 2)) := fun f hf => by
          rw [tf9.1 f _ hf, c_II]
          by_cases z1 : f = 2004
          · rw [if_pos ⟨z1, rfl⟩, if_pos z1]
          · rw [if_neg (fun y => z1 y.1), if_neg z1, tf7.1 f _ hf]
        have rr : r_A R9 2447 (8 * p + cn 2) = x ∧ r_A R9 2446 (8 * p + cn 2) = nI n0 := by
          rw [TOKf_a tf9, TOKf_a tf9, ← ejj, r_AA, r_AA, if_pos ⟨rfl, rfl⟩, if_neg (by omega), TOKf_a tf7, r_AA, if_pos ⟨rfl, rfl⟩]
          exact ⟨rfl, rfl⟩
        have k3 : ∀ f : Nat, f / 200 = 10 → c_I K3 f (48 * p + (8 * 2 + cn 2)) = c_I K1 f (48 * p + (8 * 2 + cn 2)) := fun f hf => (d1 f _ (q9 f _ (by omega))).trans (tf2.1 f _ (fun m => by have := (by decide : ∀ f ∈ [1807, 1808, 1809, 1811], f / 200 ≠ 10) f m; omega))
        refine hN L3 T3 K9 R9 (lm + sz) wd3 lx' av9 of9 (by omega) (by omega) ?_ (RP_thing g rp lx' (by decide) (by simpa using hlt) htm of9 ?_ ⟨fun z => absurd z (by decide), fun _ => ?_, fun _ => ?_, fun z => absurd z (by decide)⟩ (fun z => absurd z (by decide))) hlt hr
        · exact (tf9.2.2.2.1 2422 (by decide)).trans ((tf7.2.2.2.1 2422 (by decide)).trans ((tf2.2.2.2.1 2422 (by decide)).trans h22'))
        · exact PN_t (PN_a (PN_I (PN_t (PN_a pn3 (by decide)) tf7) (by decide)) (by decide)) tf9
        · rw [q2 2002 (by decide), q2 2001 (by decide), if_neg (by decide), if_neg (by decide), k3 2002 rfl, k3 2001 rfl]
          exact ⟨vals.1.2.1, vals.1.1⟩
        · rw [q2 2004 (by decide), if_pos rfl, rr.1, rr.2]
          refine ⟨rfl, n0, ?_, rfl, n1, n2, ln3, ?_, ?_⟩
          · rw [q2 1601 (by decide), if_neg (by decide)]; exact d5
          · rw [q2 1602 (by decide), if_neg (by decide)]; exact d6
          · rw [q2 1603 (by decide), if_neg (by decide)]; exact d7
      refine ⟨K10 g3, c_takes wd3 av4 (by omega) (by omega) hr (fun K' R w q cz hf hr => ?_) (fun hr => go _ _ 0 (Or.inl rfl) av4 TOKf_0 (fun Q h => hr Q ⟨_, rfl, h⟩)) (fun K7 R7 av7 tf7 hr => go K7 R7 1 (Or.inr rfl) av7 tf7 (fun Q h => hr Q ⟨_, rfl, h⟩))⟩
      have hr := g_and (g_and (g_ex hr 1) rfl) (vv jj hjj).1
      obtain ⟨R, hf, de, hr⟩ := fs_sign (FD_A hf (by decide)) hr
      exact hX _ _ _ R w q wd3 cz hf hr
theorem c_port {e : EV} {L : c_L} {T : q_S} {B bc bs : Nat} {K0 K : c_S} {R0 R : r_S} {p lm tm : Nat} {cn : Nat → Nat} {hd : Option Nat} {k nr : Nat} {re : Nat → Nat} {hp : Prop} {Q : Option Value → q_S → Prop} {E : String → q_S → Prop} {RM : (Option Value → r_S → Prop) → Prop} (wd : WD e L T) (av : AV B K0 R0 K R) (ri : RI K) (rp : RP L K R p lm cn hd k nr re hp) (p16 : p < 16) (hl : lm + 12 ≤ 14000) (h22 : r_I R 2422 = nI lm) (htm : tm = cn 0 + cn 1 + cn 2 + cn 3 + cn 4 + cn 5) (hby : ∀ i : Nat, fits .byte (.int (r_A R0 2402 i)) = true) (hu : 3 ≤ bc) (hv : 22 ≤ bs)
  (hr : ∀ Q : Option Value → r_S → Prop, rm_X12_newThing R (nI p) (4 : Int32) (16 : Int32) (fun r90_ S91_ => ∃ x92_ : Int32, r90_ = some (.int x92_) ∧ (rm_X12_either S91_ (21 : Int32) (22 : Int32) (fun r94_ S95_ => ∃ x96_ : Int32, r94_ = some (.int x96_) ∧ (vp_in (((16 : Int32) * (nI p)) + x92_) (r_N 2448) ∧ (rm_X12_either (rs_A S95_ 2448 (((16 : Int32) * (nI p)) + x92_).toNatClampNeg (vp_nar .boolean x96_)) (25 : Int32) (26 : Int32) (fun r102_ S103_ => ∃ x104_ : Int32, r102_ = some (.int x104_) ∧ (vp_in (((16 : Int32) * (nI p)) + x92_) (r_N 2449) ∧ (vp_in (((16 : Int32) * (nI p)) + x92_) (r_N 2450) ∧ (rm_X12_sign (rs_A (rs_A S103_ 2449 (((16 : Int32) * (nI p)) + x92_).toNatClampNeg (vp_nar .boolean x104_)) 2450 (((16 : Int32) * (nI p)) + x92_).toNatClampNeg (-1 : Int32)) (59 : Int32) (fun r112_ S113_ => ∃ x114_ : Int32, r112_ = some (.int x114_) ∧ (Q none S113_))))))))))) → RM Q)
  (hX : ∀ (L' : c_L) (T' : q_S) (K' : c_S) (R' : r_S) (w q : Int32), WD e L' T' → CZ K0 K' → FD w q R0 R' → (∀ Q : Option Value → r_S → Prop, Q none R' → RM Q) → E "java/lang/IllegalArgumentException" (c_E L' (k_fl K' w q) T'))
  (hN : ∀ (L' : c_L) (T' : q_S) (K' : c_S) (R' : r_S) (lm' : Nat), WD e L' T' → LX L L' → AV B K0 R0 K' R' → OF (xI p 4 (cn 4)) (xA p 4 (cn 4)) xi (ya p 4 (cn 4) tm lm) K R K' R' → lm ≤ lm' → lm' ≤ lm + 12 → r_I R' 2422 = nI lm' → RP L' K' R' p lm' (cn1 cn 4) hd k nr re hp → cn 4 < 16 → (∀ Q : Option Value → r_S → Prop, Q none R' → RM Q) → Q none (c_E L' K' T')) :
  wm_X9_readPort bc bs (c_E L K T) (c_ob L 9 0) (some (c_ob L 5 p)) Q E := by
  have g := WD_g wd
  have vv : ∀ j : Nat, j < 16 → vp_in ((16 : Int32) * nI p + nI j) (r_N 2448) ∧ ((16 : Int32) * nI p + nI j).toNatClampNeg = 16 * p + j := fun j hj => by
    rw [show (16 : Int32) = nI 16 from rfl, pk_mul, nI_add, nI_clamp (by omega)]
    exact ⟨vp_in_nI (N := 256) (by omega) (by decide), rfl⟩
  refine ⟨K10 g, 2, 16, ⟨by omega, by omega⟩, c_rnt (s := 4) (mx := 16) wd av ri rp.2.2.2.1 rp.1.1.1 p16 (by decide) rfl hl h22 htm (by decide) (by decide) hby hr (fun L' T' K' R w q jj wd cz hf hjj hr => ?_) (fun L' T' K1 R1 sz wd lx av1 m10 hlt of1 hsz pn1 h22' vals hr => ⟨_, rfl, ?_⟩)⟩
  · obtain ⟨R, hf, de, hr⟩ := fs_either hf hr
    have hr := g_and hr (vv jj hjj).1
    obtain ⟨R, hf, de, hr⟩ := fs_either (FD_A hf (by decide)) hr
    have hr := g_and (g_and hr (vv jj hjj).1) (vv jj hjj).1
    obtain ⟨R, hf, de, hr⟩ := fs_sign (FD_A (FD_A hf (by decide)) (by decide)) hr
    exact hX _ _ _ R w q wd cz hf hr
  · rw [← (lx.1 9 0 (g_m9 g)).2]
    have g1 := WD_g wd
    have hlt16 : cn 4 < 16 := hlt
    obtain ⟨jj, ejj⟩ : ∃ jj : Nat, jj = cn 4 := ⟨_, rfl⟩
    have hjj : jj < 16 := by omega
    rw [← ejj] at hr
    have r0 := av1.2.2.2.1
    have le : r_I R1 2411 ≤ 0 := by rw [r0]; decide
    have hr := g_pos hr le
    have go : ∀ x : Int32, (x = 0 ∨ x = 1) → (∀ Q : Option Value → r_S → Prop, rm_X12_next R1 (fun r R' => r = none ∧ (narrow .boolean (.int x) = .int x ∧ (∃ y : Int32, some (Value.int x) = some (.int y) ∧ (vp_in ((16 : Int32) * nI p + nI jj) (r_N 2448) ∧ (rm_X12_either (rs_A R' 2448 ((16 : Int32) * nI p + nI jj).toNatClampNeg (vp_nar .boolean y)) (25 : Int32) (26 : Int32) (fun r102_ S103_ => ∃ x104_ : Int32, r102_ = some (.int x104_) ∧ (vp_in ((16 : Int32) * nI p + nI jj) (r_N 2449) ∧ (vp_in ((16 : Int32) * nI p + nI jj) (r_N 2450) ∧ (rm_X12_sign (rs_A (rs_A S103_ 2449 ((16 : Int32) * nI p + nI jj).toNatClampNeg (vp_nar .boolean x104_)) 2450 ((16 : Int32) * nI p + nI jj).toNatClampNeg (-1 : Int32)) (59 : Int32) (fun r112_ S113_ => ∃ x114_ : Int32, r112_ = some (.int x114_) ∧ (Q none S113_))))))))))) → RM Q) → wb_X9_readPort_42 bc bs (0 + 2) (0 + 16) (c_E L' (cs_I K1 2006 (48 * p + (8 * 4 + cn 4)) x) T') (c_ob L' 9 0) (some (c_ob L' 10 (48 * p + (8 * 4 + cn 4)))) Q E := fun x hx hr => by
      refine ⟨K10 g1, c_adv wd (AV_I av1 (by decide)) (by omega) (by omega) hr (fun K' R w q cz hf pe hr => ?_) (fun K2 R2 av2 tf2 hr => ⟨K10 g1, ?_⟩)⟩
      · have hr := g_and (g_and (g_ex (g_and hr (nfb hx).1) x) rfl) (vv jj hjj).1
        obtain ⟨R, hf, de, hr⟩ := fs_either (FD_A hf (by decide)) hr
        have hr := g_and (g_and hr (vv jj hjj).1) (vv jj hjj).1
        obtain ⟨R, hf, de, hr⟩ := fs_sign (FD_A (FD_A hf (by decide)) (by decide)) hr
        exact hX _ _ _ R w q wd cz hf hr
      · have hr := g_and (g_and (g_ex (g_and hr (nfb hx).1) x) rfl) (vv jj hjj).1
        rw [(vv jj hjj).2, vnb hx] at hr
        refine c_queuing wd (AV_a (f := 2448) (i := 16 * p + jj) (v := x) av2 (by decide)) (by omega) (by omega) hr (fun K' R w q y cz hf hy hr => ?_) (fun K3 R3 y av3 tf3 hy hr => ⟨_, rfl, c_gk g1 m10 11 rfl, nfb hy, ?_⟩)
        · have hr := g_and (g_and hr (vv jj hjj).1) (vv jj hjj).1
          obtain ⟨R, hf, de, hr⟩ := fs_sign (FD_A (FD_A hf (by decide)) (by decide)) hr
          exact hX _ _ _ R w q wd cz hf hr
        · have hr := g_and (g_and hr (vv jj hjj).1) (vv jj hjj).1
          rw [vnb hy] at hr
          rw [c_eIs (c_gw g1) m10 rfl]
          have av4 := AV_a (f := 2450) (i := 16 * p + jj) (v := -1) (AV_a (f := 2449) (i := 16 * p + jj) (v := y) (AV_I (f := 2007) (i := 48 * p + (8 * 4 + cn 4)) (v := y) av3 (by decide)) (by decide)) (by decide)
          have of4 : OF (xI p 4 (cn 4)) (xA p 4 (cn 4)) xi (ya p 4 (cn 4) tm lm) K R (cs_I K3 2007 (48 * p + (8 * 4 + cn 4)) y) (rs_A (rs_A R3 2449 (16 * p + jj) y) 2450 (16 * p + jj) (-1)) := OF_a (OF_a (OF_I (OF_xk (OF_a (OF_xk (OF_I (OF_x of1) (Or.inr ⟨Or.inl rfl, rfl⟩)) tf2) (Or.inr (Or.inr (Or.inr ⟨by omega, by omega, rfl⟩)))) tf3) (Or.inr ⟨Or.inl rfl, rfl⟩)) (Or.inr (Or.inr (Or.inr ⟨by omega, by omega, rfl⟩)))) (Or.inr (Or.inr (Or.inr ⟨by omega, by omega, rfl⟩)))
          refine ⟨K10 g1, c_sign wd av4 (by omega) (by omega) hr (fun K' R w q x cz hf hr => hX _ _ _ R w q wd cz hf hr) (fun K9 R9 av9 tf9 hr => ?_)⟩
          have of9 := OF_xk of4 tf9
          have q2 : ∀ f : Nat, f ∉ [1807, 1808, 1809, 1811] → c_I K9 f (48 * p + (8 * 4 + cn 4)) = if f = 2007 then y else if f = 2006 then x else c_I K1 f (48 * p + (8 * 4 + cn 4)) := fun f hf => by
            rw [tf9.1 f _ hf, c_II]
            by_cases z1 : f = 2007
            · rw [if_pos ⟨z1, rfl⟩, if_pos z1]
            · rw [if_neg (fun y => z1 y.1), if_neg z1, tf3.1 f _ hf, tf2.1 f _ hf, c_II]
              by_cases z2 : f = 2006
              · rw [if_pos ⟨z2, rfl⟩, if_pos z2]
              · rw [if_neg (fun y => z2 y.1), if_neg z2]
          have rr : r_A R9 2450 (16 * p + cn 4) = -1 ∧ r_A R9 2449 (16 * p + cn 4) = y ∧ r_A R9 2448 (16 * p + cn 4) = x := by
            rw [TOKf_a tf9, TOKf_a tf9, TOKf_a tf9, ← ejj]
            refine ⟨?_, ?_, ?_⟩
            · rw [r_AA, if_pos ⟨rfl, rfl⟩]
            · rw [r_AA, if_neg (by omega), r_AA, if_pos ⟨rfl, rfl⟩]
            · rw [r_AA, if_neg (by omega), r_AA, if_neg (by omega), TOKf_a tf3, r_AA, if_pos ⟨rfl, rfl⟩]
          refine hN L' T' K9 R9 (lm + sz) wd lx av9 of9 (by omega) (by omega) ?_ (RP_thing g rp lx (by decide) (by simpa using hlt) htm of9 ?_ ⟨fun z => absurd z (by decide), fun _ => ?_, fun z => absurd z (by decide), fun _ => ?_⟩ (fun _ => ⟨?_, rr.1⟩)) hlt hr
          · exact (tf9.2.2.2.1 2422 (by decide)).trans ((tf3.2.2.2.1 2422 (by decide)).trans ((tf2.2.2.2.1 2422 (by decide)).trans h22'))
          · exact PN_t (PN_a (PN_a (PN_I (PN_t (PN_a (PN_t (PN_I pn1 (by decide)) tf2) (by decide)) tf3) (by decide)) (by decide)) (by decide)) tf9
          · rw [q2 2002 (by decide), q2 2001 (by decide), if_neg (by decide), if_neg (by decide), if_neg (by decide), if_neg (by decide)]
            exact ⟨vals.1.2.1, vals.1.1⟩
          · rw [q2 2006 (by decide), q2 2007 (by decide), if_neg (by decide), if_pos rfl, if_pos rfl, rr.2.1, rr.2.2]
            exact ⟨rfl, rfl, hx, hy⟩
          · have := q2 2008 (by decide)
            rw [if_neg (by decide), if_neg (by decide)] at this
            exact this.trans vals.2
    have cl : ∀ (x : Int32) (S : q_S), S = c_E L' (cs_I K1 2006 (48 * p + (8 * 4 + cn 4)) x) T' → q_I S 2006 (c_ob L' 10 (48 * p + (8 * 4 + cn 4))) = x := fun x S e => by
      rw [e, c_eI m10 rfl]
      exact if_pos ⟨rfl, rfl⟩
    refine ⟨K10 g1, ?_⟩
    by_cases c : c_I K1 1808 0 = 5 ∧ c_I K1 1809 0 = 22
    · refine u_sees1 g1 c _ ⟨_, rfl, _, rfl, c_gk g1 m10 11 rfl, nfb (Or.inr rfl), ?_⟩
      rw [c_eIs (c_gw g1) m10 rfl, cl 1 _ rfl]
      exact nf_ (by decide) (go 1 (Or.inr rfl) (fun Q h => hr Q (v_key1 r0 ((AV_K av1).mp c) _ ⟨_, rfl, nf_ (by decide) h⟩)))
    · have c' := fun z => c ((AV_K (k := 22) av1).mpr z)
      refine u_sees0 g1 c _ ⟨_, rfl, _, rfl, c_gk g1 m10 11 rfl, nfb (Or.inl rfl), ?_⟩
      rw [c_eIs (c_gw g1) m10 rfl, cl 0 _ rfl]
      refine nt_ rfl ⟨K10 g1, ?_⟩
      have av1' : AV B K0 R0 (cs_I K1 2006 (48 * p + (8 * 4 + cn 4)) 0) R1 := AV_I av1 (by decide)
      have e8 : c_I (cs_I K1 2006 (48 * p + (8 * 4 + cn 4)) 0) 1808 0 = c_I K1 1808 0 := by simp [c_II, c_IJ, c_IG, c_IA, c_IP, c_fi]
      have e9 : c_I (cs_I K1 2006 (48 * p + (8 * 4 + cn 4)) 0) 1809 0 = c_I K1 1809 0 := by simp [c_II, c_IJ, c_IG, c_IA, c_IP, c_fi]
      by_cases d : c_I K1 1808 0 = 5 ∧ c_I K1 1809 0 = 21
      · exact u_sees1 (K := cs_I K1 2006 (48 * p + (8 * 4 + cn 4)) 0) g1 (by rw [e8, e9]; exact d) _ ⟨_, rfl, nf_ (by decide) (go 0 (Or.inl rfl) (fun Q h => hr Q (v_key0 r0 c' _ ⟨_, rfl, nt_ rfl (v_key1 r0 ((AV_K av1).mp d) _ ⟨_, rfl, nf_ (by decide) h⟩)⟩)))⟩
      · have d' := fun z => d ((AV_K (k := 21) av1).mpr z)
        refine u_sees0 (K := cs_I K1 2006 (48 * p + (8 * 4 + cn 4)) 0) g1 (by rw [e8, e9]; exact d) _ ⟨_, rfl, nt_ rfl ⟨K10 g1, c_flH wd av1' (by omega) (by omega) (by decide) (fun Q h => hr Q (v_key0 r0 c' _ ⟨_, rfl, nt_ rfl (v_key0 r0 d' _ ⟨_, rfl, nt_ rfl h⟩)⟩)) (fun R cz hf hr => ?_)⟩⟩
        have hr := g_and (g_and (g_ex (g_and hr nb_0) 0) rfl) (vv jj hjj).1
        obtain ⟨R, hf, de, hr⟩ := fs_either (FD_A hf (by decide)) hr
        have hr := g_and (g_and hr (vv jj hjj).1) (vv jj hjj).1
        obtain ⟨R, hf, de, hr⟩ := fs_sign (FD_A (FD_A hf (by decide)) (by decide)) hr
        exact hX _ _ _ R _ _ wd cz hf hr
