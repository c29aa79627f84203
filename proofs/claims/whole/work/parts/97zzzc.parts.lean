/-! All partitions. -/
/-- the failed reference, from the channels on -/
theorem fd_frame {w q : Int32} {R0 R : r_S} {Y : r_S → (Option Value → r_S → Prop) → Prop} {RM : (Option Value → r_S → Prop) → Prop} (hf : FD w q R0 R) (hr : ∀ Q : Option Value → r_S → Prop, rm_X12_readFrame R (fun r R' => r = none ∧ Y R' Q) → RM Q) : ∃ R' : r_S, FD w q R0 R' ∧ r_DE R' ∧ ∀ Q : Option Value → r_S → Prop, Y R' Q → RM Q := by
  unfold rm_X12_readFrame at hr
  obtain ⟨R, hf, de, hr⟩ := fs_key hf hr
  obtain ⟨R, hf, de, hr⟩ := fs_sign hf hr
  have hr : ∀ Q : Option Value → r_S → Prop, rb_X12_readFrame_14 (fun S => rl_X12_readFrame_14 0 S (fun r R' => r = none ∧ Y R' Q)) R (fun r R' => r = none ∧ Y R' Q) → RM Q := fun Q h => hr Q ⟨1, h⟩
  unfold rb_X12_readFrame_14 rb_X12_readFrame_160 at hr
  obtain ⟨R, hf, de, hr⟩ := fs_sign hf (g_nneg hr (de_n0 de))
  exact ⟨R, hf, de, fun Q h => g_nneg hr (de_n0 de) Q ⟨rfl, h⟩⟩
theorem fd_55 {w q : Int32} {R0 R : r_S} {d : Nat} {RM : (Option Value → r_S → Prop) → Prop} (hf : FD w q R0 R) (hr : ∀ Q : Option Value → r_S → Prop, rl_X12_load_55 (d + 1) R Q → RM Q) : ∃ R' : r_S, FD w q R0 R' ∧ r_DE R' ∧ ∀ Q : Option Value → r_S → Prop, rb_X12_load_88 R' 0 Q → RM Q := by
  have hr : ∀ Q : Option Value → r_S → Prop, rb_X12_load_55 (fun S => rl_X12_load_55 d S Q) R Q → RM Q := hr
  unfold rb_X12_load_55 at hr
  obtain ⟨R, hf, de, hr⟩ := fd_frame (Y := fun R' Q => (¬ r_I R' 2411 = 0 → rb_X12_load_88 R' 0 Q) ∧ (r_I R' 2411 = 0 → rb_X12_load_88 R' 1 Q)) hf (g_pos (fs_isKey hf hr) rfl)
  exact ⟨R, hf, de, g_nneg hr (de_n0 de)⟩
theorem fd_47 {w q : Int32} {R0 R : r_S} {B : (Option Value → r_S → Prop) → r_S → Prop} {RM : (Option Value → r_S → Prop) → Prop} (hf : FD w q R0 R) (hr : ∀ Q : Option Value → r_S → Prop, rb_X12_load_47 (B Q) R Q → RM Q) : ∃ R' : r_S, FD w q R0 R' ∧ r_DE R' ∧ ∀ Q : Option Value → r_S → Prop, rb_X12_load_88 R' 0 Q → RM Q := by
  unfold rb_X12_load_47 at hr
  have hr := g_npos (fs_isKey hf hr) rfl
  exact fd_55 (d := 0) hf (fun Q h => hr Q ⟨1, h⟩)
theorem RP_of {L L' : c_L} {T : q_S} {K K' : c_S} {R R' : r_S} {p lm lm' : Nat} {cn : Nat → Nat} {hd : Option Nat} {k nr : Nat} {re : Nat → Nat} {hp : Prop} {cI cA : Nat → Nat → Prop} {rI : Nat → Prop} {rA : Nat → Nat → Prop} (h : RP L K R p lm cn hd k nr re hp) (g : c_G L T) (lx : LX L L') (of : OF cI cA rI rA K R K' R') (hl : lm ≤ lm') (c1 : ∀ f i : Nat, sI p f i → ¬ cI f i) (c2 : ∀ f i : Nat, sA p f i → ¬ cA f i) (c4 : ∀ f i : Nat, sa p lm f i → ¬ rA f i) (c8 : ∀ i : Nat, i < 16 → ¬ cI 2008 (48 * p + (32 + i)) ∧ ¬ rA 2450 (16 * p + i)) : RP L' K' R' p lm' cn hd k nr re hp := by
  have n4 : cn 4 ≤ 16 := h.2.2.2.1.1 4 (by decide)
  obtain ⟨h1, h2, h3, h4, h5, h6, h7⟩ := RQ_of (RP_q h) g lx of hl c1 c2 c4
  exact ⟨h1, h2, h3, h4, h5, h6, h7, fun i hi => ⟨(of.1 _ _ (c8 i (by omega)).1).1.trans (h.2.2.2.2.2.2.2 i hi).1, (of.2.2.2 _ _ (c8 i (by omega)).2).trans (h.2.2.2.2.2.2.2 i hi).2⟩⟩
theorem RP_hn {L L' : c_L} {T : q_S} {K K' : c_S} {R R' : r_S} {p np lm lm' : Nat} {cn : Nat → Nat} {hd : Option Nat} {k nr : Nat} {re : Nat → Nat} {hp : Prop} (h : RP L K R p lm cn hd k nr re hp) (g : c_G L T) (lx : LX L L') (of : OF (hI np) (pA np) hi (ha np lm) K R K' R') (hl : lm ≤ lm') (hn : p < np) (n16 : np < 16) : RP L' K' R' p lm' cn hd k nr re hp := by
  refine RP_of h g lx of hl (fun f i a b => ?_) (fun f i a b => ?_) (fun f i a b => ?_) (fun i hi => ⟨fun z => ?_, fun z => ?_⟩)
  · unfold sI at a; unfold hI pI at b; omega
  · unfold sA at a; unfold pA at b; omega
  · unfold sa at a; unfold ha pa at b
    generalize pst f = x at *
    omega
  · unfold hI pI at z; omega
  · unfold ha pa at z
    rw [show pst 2450 = 16 from rfl] at z
    omega
/-- where reading partitions changes something -/
def gI (f i : Nat) : Prop := (f / 200 = 9 ∧ 1806 < f) ∨ f / 200 = 5 ∨ f / 200 = 4 ∨ f / 200 = 7 ∨ ((f / 200 = 10 ∨ f / 200 = 8) ∧ i < 768) ∨ (f = 1201 ∧ i = 0)
def gA (f i : Nat) : Prop := f / 200 = 5 ∨ f / 200 = 4 ∨ f / 200 = 7 ∨ ((f / 200 = 10 ∨ f / 200 = 8) ∧ i < 768)
def ga (f i : Nat) : Prop := 2421 ≤ f ∧ f ≤ 2452
/-- partition p is read -/
def PD1 (L : c_L) (K : c_S) (R : r_S) (p lm : Nat) : Prop := ∃ (cn : Nat → Nat) (hd : Option Nat) (k nr : Nat) (re : Nat → Nat), RP L K R p lm cn hd k nr re (hd ≠ none) ∧ 1 ≤ nr ∧ re nr = 256 * k
/-- between two partitions -/
def PS (e : EV) (B : Nat) (K0 : c_S) (R0 : r_S) (Ks : c_S) (Rs : r_S) (L : c_L) (T : q_S) (K : c_S) (R : r_S) (np lm : Nat) : Prop :=
  WD e L T ∧ AV B K0 R0 K R ∧ RI K ∧ PP L K R np lm ∧ FZ R np ∧ r_I R 2422 = nI lm ∧ lm ≤ 780 * np ∧ (∀ p : Nat, p < np → PD1 L K R p lm) ∧ OF gI gA hi ga Ks Rs K R
theorem pt_one {e : EV} {B bc bs u v : Nat} {K0 K Ks : c_S} {R0 R Rs : r_S} {L : c_L} {T : q_S} {np lm : Nat} {Q : Option Value → q_S → Prop} {E : String → q_S → Prop} {B41 : Nat → Nat → q_S → Nat → Int32 → Prop} {BR : (Option Value → r_S → Prop) → r_S → Prop} {RM : (Option Value → r_S → Prop) → Prop} (ps : PS e B K0 R0 Ks Rs L T K R np lm) (c : c_I K 1808 0 = 5 ∧ c_I K 1809 0 = 0) (hu : u + 13 ≤ bc ∧ (np < 16 → u + 243 ≤ bc)) (hv : v + 4213 ≤ bs ∧ (np < 16 → v + 6433 ≤ bs)) (hby : ∀ i : Nat, fits .byte (.int (r_A R0 2402 i)) = true)
  (hr : ∀ Q : Option Value → r_S → Prop, rm_X12_readPartition R (fun r R' => r = none ∧ rb_X12_load_47 (BR Q) R' Q) → RM Q)
  (hX : ∀ (L' : c_L) (T' : q_S) (K' : c_S) (R' : r_S) (w q : Int32), WD e L' T' → CZ K0 K' → FD w q R0 R' → r_DE R' → (∀ Q : Option Value → r_S → Prop, rb_X12_load_88 R' 0 Q → RM Q) → E "java/lang/IllegalArgumentException" (c_E L' (k_fl K' w q) T'))
  (hN : ∀ (L' : c_L) (T' : q_S) (K' : c_S) (R' : r_S) (lm' : Nat), PS e B K0 R0 Ks Rs L' T' K' R' (np + 1) lm' → LX L L' → (∀ Q : Option Value → r_S → Prop, rb_X12_load_47 (BR Q) R' Q → RM Q) → B41 (u + 13 + 230) (v + 4213 + 2220) (c_E L' K' T') (c_ob L' 9 0) (nI (np + 1))) :
  wb_X9_read_60 bc bs B41 u v (c_E L K T) (c_ob L 9 0) (nI np) Q E := by
  obtain ⟨wd, av, ri, pp, fz, h22, hl, rps, ofs⟩ := ps
  have g := WD_g wd
  have np16 := pp.1
  have bad : ∀ (L' : c_L) (T' : q_S) (K' : c_S) (R' : r_S) (w q : Int32), WD e L' T' → CZ K0 K' → FD w q R0 R' → (∀ Q : Option Value → r_S → Prop, Q none R' → rm_X12_readPartition R Q) → E "java/lang/IllegalArgumentException" (c_E L' (k_fl K' w q) T') := fun L' T' K' R' w q wd' cz hf hr' => by
    obtain ⟨R, hf, de, hr⟩ := fd_47 hf (fun Q h => hr Q (hr' _ ⟨rfl, h⟩))
    exact hX L' T' K' R w q wd' cz hf de hr
  refine ⟨K10 g, 13, 4213, ⟨by omega, by omega⟩, c_head (RM := rm_X12_readPartition R) wd av ri c pp fz (by omega) h22 (Nat.le_refl _) (Nat.le_refl _) hby (fun Q h => h) bad (fun L1 T1 K1 R1 sz k nr re wd1 lx1 av1 ri1 n16 hsz pp1 h221 rp1 r51 of1 hre hr1 => ⟨_, rfl, ?_⟩)⟩
  have g1 := WD_g wd1
  rw [← (lx1.1 9 0 (g_m9 g)).2]
  have hu2 := hu.2 n16
  have hv2 := hv.2 n16
  refine ⟨K10 g1, 230, 2220, ⟨by omega, by omega⟩, K10 g1, 66, ?_⟩
  rw [c_eIs (c_gw g1) (g_m9 g1) rfl, c_eIs (c_gw g1) (g_m9 g1) rfl]
  have of2 : OF (fun f _ => f = 1812 ∨ f = 1813) (fun _ _ => False) (fun f => f = 2453) (fun _ _ => False) K1 R1 (cs_I (cs_I K1 1812 0 0) 1813 0 (-1)) (rs_I R1 2453 (-1)) := OF_i (OF_I (OF_I OF_0 (Or.inl rfl)) (Or.inr rfl)) rfl
  have rp2 : RP L1 (cs_I (cs_I K1 1812 0 0) 1813 0 (-1)) (rs_I R1 2453 (-1)) np (lm + sz) (fun _ => 0) none k nr re (r_I (rs_I R1 2453 (-1)) 2453 ≠ -1) := RP_hp (RP_of rp1 g1 LX_0 of2 (Nat.le_refl _) (fun f i a b => by unfold sI at a; omega) (fun f i a b => b) (fun f i a b => b) (fun i hi => ⟨fun z => by omega, fun z => z⟩)) (fun z => z.elim)
  have ls : LST e B K0 R0 L1 (cs_I (cs_I K1 1812 0 0) 1813 0 (-1)) (rs_I R1 2453 (-1)) np (lm + sz) k nr re L1 T1 (cs_I (cs_I K1 1812 0 0) 1813 0 (-1)) (rs_I R1 2453 (-1)) (fun _ => 0) none (lm + sz) 0 0 0 := ⟨wd1, LX_0, AV_i (AV_I (AV_I av1 (by decide)) (by decide)) (by decide) (by decide), ri1, rp2, ⟨rfl, rfl, r51, by omega⟩, OF_0, h221, Nat.le_refl _, by omega, by omega, by omega⟩
  have th := th_loop (bc := 230) (bs := 2220) (Q := fun r9 S10 => r9 = none ∧ B41 (u + 13 + 230) (v + 4213 + 2220) S10 (c_ob L1 9 0) (nI np + 1)) (E := E) (RM := rm_X12_readPartition R) n16 (by omega) (Nat.le_refl _) (Nat.le_refl _) hby bad (fun L3 T3 K3 R3 cn' hd' lm' wd3 lx3 av3 ri3 rp3 of3 h223 hl3 hl3' hr3 => ⟨rfl, ?_⟩) 65 L1 T1 _ _ (fun _ => 0) none (lm + sz) 0 0 0 ls rfl (fun Q h => hr1 Q ⟨68, h⟩)
  · rw [show nI (tmn (fun _ => 0) + 0) = 0 from rfl] at th
    exact th
  · rw [nI_1, ← (lx3.1 9 0 (g_m9 g1)).2]
    have oh : OF (hI np) (pA np) hi (ha np lm) K R K3 R3 := OF_t of1 (OF_t (OF_w of2 (fun f i z => by unfold hI pI; omega) (fun f i z => z.elim) (fun f z => Or.inl (Or.inr (Or.inr z))) (fun f i z => z.elim)) (OF_w of3 (fun f i z => Or.inl z) (fun f i z => z) (fun f z => Or.inl z) (fun f i z => Or.inl (by unfold pa at z ⊢; omega))))
    refine hN L3 T3 K3 R3 lm' ⟨wd3, av3, ri3, ?_, ?_, h223, by omega, fun p hp => ?_, OF_t ofs (OF_w oh (fun f i z => ?_) (fun f i z => ?_) (fun f z => z) (fun f i z => ?_))⟩ (LX_t lx1 lx3) (fun Q h => hr Q (hr3 _ ⟨rfl, h⟩))
    · refine PP_c pp1 lx3 hl3 ?_ ?_ (fun p hp => ?_) (fun p hp => ⟨?_, ?_⟩) (fun i hi => ?_)
      · exact (of3.1 1201 0 (fun z => by unfold pI at z; omega)).1
      · exact of3.2.2.1 2415 (fun z => by unfold pi at z; omega)
      · exact (of3.1 1001 p (fun z => by unfold pI at z; omega)).2.1
      · exact of3.2.2.2 2423 p (fun z => by unfold pa at z; omega)
      · exact of3.2.2.2 2424 p (fun z => by unfold pa at z; omega)
      · exact of3.2.2.2 2421 i (fun z => by unfold pa at z; omega)
    · refine FZ_c fz (by omega) (fun f i a b cc => oh.2.2.2 f i (fun z => ?_))
      unfold ha pa at z
      generalize pst f = x at *
      omega
    · by_cases y : p = np
      · subst y
        exact ⟨cn', hd', k, nr, re, rp3, hre⟩
      · obtain ⟨cn2, hd2, k2, nr2, re2, rp2, q2⟩ := rps p (by omega)
        exact ⟨cn2, hd2, k2, nr2, re2, RP_hn rp2 g (LX_t lx1 lx3) oh (by omega) (by omega) n16, q2⟩
    · unfold hI pI at z; unfold gI; omega
    · unfold pA at z; unfold gA; omega
    · unfold ha pa at z; unfold ga; omega
theorem pt_loop {e : EV} {B bc bs : Nat} {K0 Ks : c_S} {R0 Rs : r_S} {Q : Option Value → q_S → Prop} {E : String → q_S → Prop} {RM : (Option Value → r_S → Prop) → Prop} (hbc : 4200 ≤ bc) (hbs : 109000 ≤ bs) (hby : ∀ i : Nat, fits .byte (.int (r_A R0 2402 i)) = true)
  (hX : ∀ (L' : c_L) (T' : q_S) (K' : c_S) (R' : r_S) (w q : Int32), WD e L' T' → CZ K0 K' → FD w q R0 R' → r_DE R' → (∀ Q : Option Value → r_S → Prop, rb_X12_load_88 R' 0 Q → RM Q) → E "java/lang/IllegalArgumentException" (c_E L' (k_fl K' w q) T'))
  (hN : ∀ (L' : c_L) (T' : q_S) (K' : c_S) (R' : r_S) (np lm' u v : Nat), PS e B K0 R0 Ks Rs L' T' K' R' np lm' → 1 ≤ np → u ≤ 243 * 16 → v ≤ 6433 * 16 → (∀ Q : Option Value → r_S → Prop, (∃ n : Nat, rl_X12_load_55 n R' Q) → RM Q) → wb_X9_read_74 bc bs u v (c_E L' K' T') (c_ob L' 9 0) Q E) :
  ∀ (d np : Nat) (L : c_L) (T : q_S) (K : c_S) (R : r_S) (lm : Nat), 1 ≤ np → np + d = 17 → PS e B K0 R0 Ks Rs L T K R np lm → (∀ Q : Option Value → r_S → Prop, rb_X12_load_47 (fun S => rl_X12_load_26 d S Q) R Q → RM Q) → wl_X9_read_41 bc bs d (243 * np) (6433 * np) (c_E L K T) (c_ob L 9 0) (nI np) Q E := by
  intro d
  induction d with
  | zero =>
    intro np L T K R lm h1 h2 ps hr
    have := ps.2.2.2.1.1
    omega
  | succ d ih =>
    intro np L T K R lm h1 h2 ps hr
    have wd := ps.1
    have av := ps.2.1
    have g := WD_g wd
    have np16 := ps.2.2.2.1.1
    have r0 := av.2.2.2.1
    unfold rb_X12_load_47 at hr
    show ((4000 : Int32) < nI np → _) ∧ (¬ (4000 : Int32) < nI np → _)
    refine bf_ ?_ (bf_ ?_ ⟨K10 g, ?_⟩)
    · rw [show (4000 : Int32) = nI 4000 from rfl]
      exact nI_nlt (by omega) (by omega)
    · exact fun z => absurd ((nI_eq (by omega) (by decide)).mp (z.trans (show (0 : Int32) = nI 0 from rfl))) (by omega)
    by_cases c : c_I K 1808 0 = 5 ∧ c_I K 1809 0 = 0
    · have c' := (AV_K av).mp c
      have hr : ∀ Q : Option Value → r_S → Prop, rb_X12_load_26 (fun S => rl_X12_load_26 d S Q) R Q → RM Q := fun Q h => hr Q (v_key1 r0 c' _ ⟨_, rfl, nf_ (by decide) h⟩)
      unfold rb_X12_load_26 at hr
      have hr : ∀ Q : Option Value → r_S → Prop, rm_X12_readPartition R (fun r R' => r = none ∧ rb_X12_load_47 (fun S => rl_X12_load_26 d S Q) R' Q) → RM Q := fun Q h => hr Q (v_key1 r0 c' _ ⟨_, rfl, bf_ (by decide) h⟩)
      refine u_sees1 g c _ ⟨_, rfl, bf_ (by decide) ?_⟩
      by_cases z16 : np = 16
      · refine pt_one (B41 := fun u v S a0 x1 => wl_X9_read_41 bc bs d u v S a0 x1 Q E) (BR := fun Q S => rl_X12_load_26 d S Q) ps c ⟨by omega, by omega⟩ ⟨by omega, by omega⟩ hby hr hX (fun L' T' K' R' lm' ps' lx hr => ?_)
        have := ps'.2.2.2.1.1
        omega
      · refine pt_one (B41 := fun u v S a0 x1 => wl_X9_read_41 bc bs d u v S a0 x1 Q E) (BR := fun Q S => rl_X12_load_26 d S Q) ps c ⟨by omega, by omega⟩ ⟨by omega, by omega⟩ hby hr hX (fun L' T' K' R' lm' ps' lx hr => ?_)
        have := ih (np + 1) L' T' K' R' lm' (by omega) (by omega) ps' hr
        rw [show 243 * (np + 1) = 243 * np + 13 + 230 by omega, show 6433 * (np + 1) = 6433 * np + 4213 + 2220 by omega] at this
        exact this
    · have c' := fun z => c ((AV_K (k := 0) av).mpr z)
      have hr : ∀ Q : Option Value → r_S → Prop, (∃ n : Nat, rl_X12_load_55 n R Q) → RM Q := fun Q h => hr Q (v_key0 r0 c' _ ⟨_, rfl, nt_ rfl h⟩)
      exact u_sees0 g c _ ⟨_, rfl, bt_ rfl (hN L T K R np lm _ _ ps h1 (by omega) (by omega) hr)⟩
theorem pt_all {e : EV} {B bc bs : Nat} {K0 K : c_S} {R0 R : r_S} {L : c_L} {T : q_S} {Q : Option Value → q_S → Prop} {E : String → q_S → Prop} {RM : (Option Value → r_S → Prop) → Prop} (hbc : 4200 ≤ bc) (hbs : 109000 ≤ bs) (hby : ∀ i : Nat, fits .byte (.int (r_A R0 2402 i)) = true) (ps : PS e B K0 R0 K R L T K R 0 0)
  (hr : ∀ Q : Option Value → r_S → Prop, (∃ n : Nat, rl_X12_load_26 n R Q) → RM Q)
  (hX : ∀ (L' : c_L) (T' : q_S) (K' : c_S) (R' : r_S) (w q : Int32), WD e L' T' → CZ K0 K' → FD w q R0 R' → r_DE R' → (∀ Q : Option Value → r_S → Prop, rb_X12_load_88 R' 0 Q → RM Q) → E "java/lang/IllegalArgumentException" (c_E L' (k_fl K' w q) T'))
  (hN : ∀ (L' : c_L) (T' : q_S) (K' : c_S) (R' : r_S) (np lm' u v : Nat), PS e B K0 R0 K R L' T' K' R' np lm' → 1 ≤ np → u ≤ 243 * 16 → v ≤ 6433 * 16 → (∀ Q : Option Value → r_S → Prop, (∃ n : Nat, rl_X12_load_55 n R' Q) → RM Q) → wb_X9_read_74 bc bs u v (c_E L' K' T') (c_ob L' 9 0) Q E) :
  wl_X9_read_41 bc bs 17 0 0 (c_E L K T) (c_ob L 9 0) 0 Q E := by
  have wd := ps.1
  have av := ps.2.1
  have g := WD_g wd
  have r0 := av.2.2.2.1
  have hr : ∀ Q : Option Value → r_S → Prop, rb_X12_load_26 (fun S => rl_X12_load_26 16 S Q) R Q → RM Q := fun Q h => hr Q ⟨17, h⟩
  unfold rb_X12_load_26 at hr
  show ((4000 : Int32) < 0 → _) ∧ (¬ (4000 : Int32) < 0 → _)
  refine bf_ (by decide) (bt_ rfl ?_)
  by_cases c : c_I K 1808 0 = 5 ∧ c_I K 1809 0 = 0
  · have c' := (AV_K av).mp c
    have hr : ∀ Q : Option Value → r_S → Prop, rm_X12_readPartition R (fun r R' => r = none ∧ rb_X12_load_47 (fun S => rl_X12_load_26 16 S Q) R' Q) → RM Q := fun Q h => hr Q (v_key1 r0 c' _ ⟨_, rfl, bf_ (by decide) h⟩)
    exact pt_one (B41 := fun u v S a0 x1 => wl_X9_read_41 bc bs 16 u v S a0 x1 Q E) (BR := fun Q S => rl_X12_load_26 16 S Q) ps c ⟨by omega, by omega⟩ ⟨by omega, by omega⟩ hby hr hX (fun L' T' K' R' lm' ps' lx hr => pt_loop hbc hbs hby hX hN 16 1 L' T' K' R' lm' (by omega) (by omega) ps' hr)
  · have c' := fun z => c ((AV_K (k := 0) av).mpr z)
    have hr : ∀ Q : Option Value → r_S → Prop, rm_X12_failHere R 1 (fun r R' => ∃ x : Int32, r = some (.int x) ∧ rb_X12_load_47 (fun S => rl_X12_load_26 16 S Q) R' Q) → RM Q := fun Q h => hr Q (v_key0 r0 c' _ ⟨_, rfl, bt_ rfl h⟩)
    refine ⟨K10 g, 1, 6, ⟨by omega, by omega⟩, K10 g, 1, 6, ⟨by omega, by omega⟩, ?_⟩
    refine ⟨K10 g, u_sees0 g c _ ⟨_, rfl, nt_ rfl ⟨K10 g, ?_⟩⟩⟩
    exact c_flH wd av (by omega) (by omega) (by decide) hr (fun R' cz hf hr => by
      obtain ⟨R, hf, de, hr⟩ := fd_47 (B := fun Q S => rl_X12_load_26 16 S Q) hf hr
      exact hX L T K R _ _ wd cz hf de hr)
