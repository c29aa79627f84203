/-! Regions, or the one that is all. -/
theorem PM_0 {L : c_L} {K : c_S} {R : r_S} {p k : Nat} (k1 : 1 ≤ k) (k2 : k ≤ 32) (h0 : c_I K 800 p = nI (256 * k)) (h3 : c_I K 803 p = 0) (r25 : r_A R 2425 p = nI (256 * k)) (l1 : 64 * k ≤ c_ln L 801 p) (l2 : 64 * k ≤ c_ln L 802 p) (z : ∀ x : Nat, x < 64 * k → c_A K 801 p x = 0 ∧ c_A K 802 p x = 0) : PM L K (rs_A R 2426 p 0) p k 0 (fun _ => 0) := ⟨⟨k1, k2, h0, by rw [r_AA, if_neg (by omega)]; exact r25, l1, l2⟩, ⟨by omega, h3, by rw [r_AA, if_pos ⟨rfl, rfl⟩]; rfl, rfl⟩, fun i hi => absurd hi (Nat.not_lt_zero i), z⟩
theorem c_readRegions {e : EV} {L : c_L} {T : q_S} {B bc bs : Nat} {K0 K : c_S} {R0 R : r_S} {p k : Nat} {Q : Option Value → q_S → Prop} {E : String → q_S → Prop} {RM : (Option Value → r_S → Prop) → Prop} (wd : WD e L T) (av : AV B K0 R0 K R) (c : c_I K 1808 0 = 5 ∧ c_I K 1809 0 = 2) (m4 : c_mk L 4 p) (p16 : p < 16) (hu : 1 ≤ bc) (hv : 6 ≤ bs) (pm : PM L K (rs_A R 2426 p 0) p k 0 (fun _ => 0))
  (hr : ∀ Q : Option Value → r_S → Prop, rm_X12_readRegions R (nI p) Q → RM Q)
  (hX : ∀ (K' : c_S) (R' : r_S) (w q : Int32), CZ K0 K' → FD w q R0 R' → (∀ Q : Option Value → r_S → Prop, Q none R' → RM Q) → E "java/lang/IllegalArgumentException" (c_E L (k_fl K' w q) T))
  (hN : ∀ (K' : c_S) (R' : r_S) (nr : Nat) (re : Nat → Nat), AV B K0 R0 K' R' → OF (mI p) (mA p) mi (ma p) K R K' R' → PM L K' R' p k nr re → 1 ≤ nr → re nr = 256 * k → (∀ Q : Option Value → r_S → Prop, Q none R' → RM Q) → Q none (c_E L K' T)) :
  wm_X9_readRegions bc bs (c_E L K T) (c_ob L 9 0) (some (c_ob L 4 p)) Q E := by
  have g := WD_g wd
  have vp : vp_in (nI p) (r_N 2426) ∧ (nI p).toNatClampNeg = p := ⟨vp_in_nI (N := 16) p16 (by decide), nI_clamp (by omega)⟩
  have r0 := av.2.2.2.1
  unfold rm_X12_readRegions at hr
  have hr := g_and hr vp.1
  rw [vp.2] at hr
  have av1 : AV B K0 R0 K (rs_A R 2426 p 0) := AV_a av (by decide)
  have hr : ∀ Q : Option Value → r_S → Prop, _ → RM Q := fun Q h => hr Q (v_key1 (R := rs_A R 2426 p 0) r0 ((AV_K av).mp c) _ ⟨_, rfl, nf_ (by decide) h⟩)
  have pl : r_I (rs_A R 2426 p 0) 2407 = c_I K 1811 0 := (AV_pl av).symm
  rw [pl] at hr
  refine ⟨K10 g, c_adv wd av1 (by omega) (by omega) hr (fun K' R' w q cz hf pe hr => ?_) (fun K2 R2 av2 tf2 hr => ⟨K10 g, c_sign wd av2 (by omega) (by omega) hr (fun K' R' w q x cz hf hr => ?_) (fun K3 R3 av3 tf3 hr => ⟨8, ?_⟩)⟩)⟩
  · obtain ⟨R, hf, de, hr⟩ := fs_sign hf hr
    obtain ⟨R, hf, de, hr⟩ := fd_76 (d := 0) p16 hf (fun Q h => hr Q ⟨1, h⟩)
    exact hX K' R w q cz hf hr
  · obtain ⟨R, hf, de, hr⟩ := fd_76 (d := 0) p16 hf (fun Q h => hr Q ⟨1, h⟩)
    exact hX K' R w q cz hf hr
  · rw [I9 g 1811 rfl]
    have of1 : OF (mI p) (mA p) mi (ma p) K R K (rs_A R 2426 p 0) := OF_a OF_0 (Or.inl ⟨rfl, rfl⟩)
    exact rg_loop wd m4 p16 (by omega) (by omega) (fun K' R' w q cz hf _ hr => hX K' R' w q cz hf hr) hX hN 7 0 K3 R3 (fun _ => 0) (by omega) av3 (OF_k (OF_k of1 tf2 (fun f i z => Or.inl z) (fun f a b => ⟨a, b⟩)) tf3 (fun f i z => Or.inl z) (fun f a b => ⟨a, b⟩)) (PM_t (PM_t pm tf2) tf3) (fun Q h => hr Q ⟨8, h⟩)
theorem c_allRegion {L : c_L} {T : q_S} {B : Nat} {K0 K : c_S} {R0 R : r_S} {p k : Nat} {Q : Option Value → q_S → Prop} {RM : (Option Value → r_S → Prop) → Prop} (g : c_G L T) (av : AV B K0 R0 K R) (c : ¬ (c_I K 1808 0 = 5 ∧ c_I K 1809 0 = 2)) (m4 : c_mk L 4 p) (p16 : p < 16) (pm : PM L K (rs_A R 2426 p 0) p k 0 (fun _ => 0))
  (hr : ∀ Q : Option Value → r_S → Prop, rm_X12_readRegions R (nI p) Q → RM Q)
  (hN : ∀ (K' : c_S) (R' : r_S) (nr : Nat) (re : Nat → Nat), AV B K0 R0 K' R' → OF (mI p) (mA p) mi (ma p) K R K' R' → PM L K' R' p k nr re → 1 ≤ nr → re nr = 256 * k → (∀ Q : Option Value → r_S → Prop, Q none R' → RM Q) → Q none (c_E L K' T)) :
  wm_X4_addRegion (c_E L K T) (c_ob L 4 p) (nI (256 * k)) 3 Q := by
  have vp : vp_in (nI p) (r_N 2426) ∧ (nI p).toNatClampNeg = p := ⟨vp_in_nI (N := 16) p16 (by decide), nI_clamp (by omega)⟩
  have v6 : vp_in ((6 : Int32) * nI p) (r_N 2427) ∧ ((6 : Int32) * nI p).toNatClampNeg = 6 * p := by
    rw [show (6 : Int32) = nI 6 from rfl, pk_mul, nI_clamp (by omega)]
    exact ⟨vp_in_nI (N := 96) (by omega) (by decide), rfl⟩
  have r0 := av.2.2.2.1
  have c' := fun z => c ((AV_K (k := 2) av).mpr z)
  unfold rm_X12_readRegions at hr
  have hr := g_and hr vp.1
  rw [vp.2] at hr
  have hr : ∀ Q : Option Value → r_S → Prop, _ → RM Q := fun Q h => hr Q (v_key0 (R := rs_A R 2426 p 0) r0 c' _ ⟨_, rfl, nt_ rfl h⟩)
  have hr := g_and (g_so (g_and (g_and (g_and (g_and hr vp.1) v6.1) vp.1) v6.1)) v6.1
  rw [v6.2] at hr
  have e25 : r_A (rs_A (rs_A (rs_A R 2426 p 0) 2426 p 1) 2427 (6 * p) 0) 2425 p = nI (256 * k) := by
    rw [r_AA, if_neg (by omega), r_AA, if_neg (by omega)]
    exact pm.1.2.2.2.1
  rw [e25] at hr
  have k1 := pm.1.1
  have k2 := pm.1.2.1
  have pm1 := PM_add (n := 256 * k) (s := 3) pm (by decide) (by omega) (by omega) (by omega) (by decide)
  have z0 : (0 : Nat) + 256 * k = 256 * k := by omega
  have e6 : 6 * p + 0 = 6 * p := rfl
  refine um_X4_addRegion g K p (nI (256 * k)) 3 m4 (Q1 := fun K4 => K4 = cs_I (cs_A (cs_A K 804 p 0 (nI (256 * k))) 805 p 0 3) 803 p 1) ?_ (fun K4 e4 => ?_)
  · unfold km_X4_addRegion
    rw [pm.2.1.2.1]
    refine bf_ (by decide) (ke_cov pm ?_)
    have e03 : c_I (cs_A K 804 p 0 (nI (256 * k))) 803 p = nI 0 := pm.2.1.2.1
    rw [nI_clamp (by decide), nI_add, z0]
    refine ⟨vp_in_nI (by decide) (by decide), ?_⟩
    rw [e03, nI_clamp (by decide)]
    refine ⟨vp_in_nI (by decide) (by decide), fun S15 e15 => ?_⟩
    rw [e15]
    have e04 : c_I (cs_A (cs_A K 804 p 0 (nI (256 * k))) 805 p 0 3) 803 p = nI 0 := pm.2.1.2.1
    show cs_I _ 803 p (c_I (cs_A (cs_A K 804 p 0 (nI (256 * k))) 805 p 0 3) 803 p + 1) = _
    rw [e04]
    rfl
  · rw [e4]
    refine hN _ _ 1 (re1 (fun _ => 0) 0 (256 * k)) (AV_a (AV_a (AV_a (AV_a (AV_a (AV_I (AV_A (AV_A av (by decide)) (by decide)) (by decide)) (by decide)) (by decide)) (by decide)) (by decide)) (by decide)) (OF_a (OF_a (OF_a (OF_a (OF_a (OF_I (OF_A (OF_A OF_0 ⟨Or.inl rfl, rfl⟩) ⟨Or.inr rfl, rfl⟩) (Or.inr ⟨rfl, rfl⟩)) (Or.inl ⟨rfl, rfl⟩)) (Or.inl ⟨rfl, rfl⟩)) (Or.inr ⟨by omega, by omega⟩)) (Or.inr ⟨by omega, by omega⟩)) (Or.inr ⟨by omega, by omega⟩)) ?_ (by decide) (if_pos rfl |>.trans z0) hr
    have rr : ∀ f x : Nat, r_A (rs_A (rs_A (rs_A (rs_A (rs_A R 2426 p 0) 2426 p 1) 2427 (6 * p) 0) 2428 (6 * p) (nI (256 * k))) 2429 (6 * p) 3) f x = r_A (rs_A (rs_A (rs_A (rs_A (rs_A R 2426 p 0) 2427 (6 * p + 0) (nI ((fun _ => 0) 0))) 2428 (6 * p + 0) (nI (256 * k))) 2429 (6 * p + 0) (nI 3)) 2426 p (nI (0 + 1))) f x := fun f x => by
      rw [r_AA, r_AA, r_AA, r_AA, r_AA, r_AA, r_AA, r_AA, r_AA, r_AA]
      by_cases h6 : f = 2426 ∧ x = p
      · rw [if_neg (by omega), if_neg (by omega), if_neg (by omega), if_pos h6, if_pos h6]
        rfl
      · rw [if_neg h6, if_neg h6, if_neg h6]
        rfl
    exact PM_c (K := cs_I (cs_A (cs_A K 804 p 0 (nI ((fun _ => 0) 0 + 256 * k))) 805 p 0 (nI 3)) 803 p (nI (0 + 1))) pm1 (Nat.le_refl _) (Nat.le_refl _) (fun f _ => rfl) (fun f j _ => by
      show c_A (cs_A (cs_A K 804 p 0 (nI (256 * k))) 805 p 0 3) f p j = c_A (cs_A (cs_A K 804 p 0 (nI (0 + 256 * k))) 805 p 0 (nI 3)) f p j
      rw [z0]
      rfl) ⟨rr _ _, rr _ _⟩ (fun f i _ _ _ => rr _ _)
