/-! The head of a partition. -/
theorem c_exp {e : EV} {L : c_L} {T : q_S} {B bc bs u v : Nat} {K0 K : c_S} {R0 R : r_S} {k : Int32} {X : Nat → Nat → q_S → Prop} {E : String → q_S → Prop} {Y : r_S → (Option Value → r_S → Prop) → Prop} {RM : (Option Value → r_S → Prop) → Prop} (wd : WD e L T) (av : AV B K0 R0 K R) (c : c_I K 1808 0 = 5 ∧ c_I K 1809 0 = k) (hu : u + 1 ≤ bc) (hv : v + 6 ≤ bs) (hr : ∀ Q : Option Value → r_S → Prop, rm_X12_next R (fun r R' => r = none ∧ Y R' Q) → RM Q)
  (hX : ∀ (K' : c_S) (R' : r_S) (w q : Int32), CZ K0 K' → FD w q R0 R' → r_PE R' → (∀ Q : Option Value → r_S → Prop, Y R' Q → RM Q) → E "java/lang/IllegalArgumentException" (c_E L (k_fl K' w q) T))
  (hN : ∀ (K' : c_S) (R' : r_S), AV B K0 R0 K' R' → TOKf K K' R R' → (∀ Q : Option Value → r_S → Prop, Y R' Q → RM Q) → X 0 0 (c_E L K' T)) :
  ∃ m m' : Nat, (u + m ≤ bc ∧ v + m' ≤ bs) ∧ wm_X9_expect m m' (c_E L K T) (c_ob L 9 0) k (fun r S' => r = none ∧ X m m' S') E := by
  have g := WD_g wd
  rcases f_adv g (WD_2 wd) av with ⟨K', R', a1, a2, a3, a4⟩ | ⟨K', R', w, q, a1, ⟨a2, a6⟩, a3, a4⟩
  · exact ⟨0, 0, ⟨by omega, by omega⟩, K10 g, u_sees1 g c _ ⟨_, rfl, nf_ (by decide) ⟨K10 g, 0, 0, ⟨by omega, by omega⟩, a3 _ _ _ _ ⟨rfl, rfl, hN K' R' a1 a2 (fun Q h => hr Q (a4 _ ⟨rfl, h⟩))⟩⟩⟩⟩
  · exact ⟨1, 6, ⟨hu, hv⟩, K10 g, u_sees1 g c _ ⟨_, rfl, nf_ (by decide) ⟨K10 g, 1, 6, ⟨by omega, by omega⟩, a3 _ _ _ _ (by omega) (by omega) (hX K' R' w q a1 a2 a6 (fun Q h => hr Q (a4 _ ⟨rfl, h⟩)))⟩⟩⟩
/-- the reference with a partition more -/
def r_hd (R : r_S) (p b sz lm : Nat) : r_S := rs_I (rs_A (rs_A (rs_I (r_kp R lm b sz) 2422 (nI (lm + sz))) 2423 p (nI lm)) 2424 p (nI sz)) 2415 (nI (p + 1))
theorem hd_A {R : r_S} {p b sz lm f i : Nat} : r_A (r_hd R p b sz lm) f i = if f = 2424 ∧ i = p then nI sz else if f = 2423 ∧ i = p then nI lm else if f = 2421 ∧ lm ≤ i ∧ i < lm + sz then r_A R 2402 (b + (i - lm)) else r_A R f i := rfl
theorem hd_I {R : r_S} {p b sz lm f : Nat} : r_I (r_hd R p b sz lm) f = if f = 2415 then nI (p + 1) else if f = 2422 then nI (lm + sz) else r_I R f := rfl
theorem hd_rz {R0 R : r_S} {p b sz lm : Nat} (h : RZ R0 R) : RZ R0 (r_hd R p b sz lm) := by
  refine ⟨fun f z => ?_, fun f i z => ?_⟩
  · rw [hd_I, if_neg (by omega), if_neg (by omega)]
    exact h.1 f z
  · rw [hd_A, if_neg (by omega), if_neg (by omega), if_neg (by omega)]
    exact h.2 f i z
/-- where the rest of the head changes something -/
def zI (p f i : Nat) : Prop := (f / 200 = 9 ∧ 1806 < f) ∨ (f / 200 = 4 ∧ i = p)
def zA (p f i : Nat) : Prop := f / 200 = 4 ∧ i = p
def za (p f i : Nat) : Prop := 2425 ≤ f ∧ f ≤ 2429 ∧ i / pst f = p
def hI (p f i : Nat) : Prop := pI p f i ∨ (f = 1201 ∧ i = 0) ∨ (f = 1001 ∧ i = p)
def hi (f : Nat) : Prop := pi f ∨ f = 2415
def ha (p lm f i : Nat) : Prop := pa p lm f i ∨ ((f = 2423 ∨ f = 2424) ∧ i = p)
/-- what forget has left -/
def FZ (R : r_S) (np : Nat) : Prop := ∀ p : Nat, np ≤ p → p < 16 → r_A R 2430 p = 0 ∧ r_A R 2442 p = -1 ∧ r_A R 2451 p = 0 ∧ (∀ s : Nat, s < 6 → r_A R 2435 (6 * p + s) = 0) ∧ ∀ j : Nat, j < 5 → r_A R 2452 (5 * p + j) = 0
theorem FZ_c {R R' : r_S} {np np' : Nat} (h : FZ R np) (hn : np ≤ np') (e : ∀ f i : Nat, 2430 ≤ f → f ≤ 2452 → ¬ i / pst f < np' → r_A R' f i = r_A R f i) : FZ R' np' := fun p h1 h2 => by
  obtain ⟨a1, a2, a3, a4, a5⟩ := h p (by omega) h2
  refine ⟨(e _ _ (by decide) (by decide) ?_).trans a1, (e _ _ (by decide) (by decide) ?_).trans a2, (e _ _ (by decide) (by decide) ?_).trans a3, fun s hs => (e _ _ (by decide) (by decide) ?_).trans (a4 s hs), fun j hj => (e _ _ (by decide) (by decide) ?_).trans (a5 j hj)⟩
  · rw [show pst 2430 = 1 from rfl]; omega
  · rw [show pst 2442 = 1 from rfl]; omega
  · rw [show pst 2451 = 1 from rfl]; omega
  · rw [show pst 2435 = 6 from rfl]; omega
  · rw [show pst 2452 = 5 from rfl]; omega
theorem c_headR {e : EV} {L : c_L} {T : q_S} {B bc bs u v : Nat} {K0 K : c_S} {R0 R : r_S} {np : Nat} {Q : Option Value → q_S → Prop} {E : String → q_S → Prop} {RM : (Option Value → r_S → Prop) → Prop} (wd : WD e L T) (av : AV B K0 R0 K R) (m5 : c_mk L 5 np) (p16 : np < 16) (hu : u + 3 ≤ bc) (hv : v + 4102 ≤ bs)
  (hr : ∀ Q : Option Value → r_S → Prop, rm_X12_next R (fun r R' => r = none ∧ rm_X12_sign R' 123 (fun r R' => ∃ x : Int32, r = some (.int x) ∧ rm_X12_key R' 1 (fun r R' => ∃ x : Int32, r = some (.int x) ∧ rm_X12_number R' 256 8192 256 (fun r R' => ∃ x : Int32, r = some (.int x) ∧ vp_in (nI np) (r_N 2425) ∧ rm_X12_sign (rs_A R' 2425 (nI np).toNatClampNeg x) 59 (fun r R' => ∃ x : Int32, r = some (.int x) ∧ ((r_I R' 2411 ≤ 0 → rm_X12_readRegions R' (nI np) (fun r R' => r = none ∧ ∃ n : Nat, rl_X12_readPartition_150 n (rs_I R' 2453 (-1)) (nI np) Q)) ∧ (¬ r_I R' 2411 ≤ 0 → Q none R'))))))) → RM Q)
  (hX : ∀ (L' : c_L) (T' : q_S) (K' : c_S) (R' : r_S) (w q : Int32), WD e L' T' → CZ K0 K' → FD w q R0 R' → (∀ Q : Option Value → r_S → Prop, Q none R' → RM Q) → E "java/lang/IllegalArgumentException" (c_E L' (k_fl K' w q) T'))
  (hN : ∀ (L' : c_L) (T' : q_S) (K' : c_S) (R' : r_S) (k nr : Nat) (re : Nat → Nat), WD e L' T' → LX L L' → AV B K0 R0 K' R' → OF (zI np) (zA np) mi (za np) K R K' R' → PM L' K' R' np k nr re → (1 ≤ nr ∧ re nr = 256 * k) → (∀ Q : Option Value → r_S → Prop, (∃ n : Nat, rl_X12_readPartition_150 n (rs_I R' 2453 (-1)) (nI np) Q) → RM Q) → Q (some (va_rf (some (c_ob L' 5 np)))) (c_E L' K' T')) :
  ∃ m14_ m15_ : Nat, (u + m14_ ≤ bc ∧ v + m15_ ≤ bs) ∧ (wm_X9_advance m14_ m15_ (c_E L K T) (c_ob L 9 0) (fun r12_ S13_ => r12_ = none ∧ (q_K S13_ (c_ob L 9 0) = 10 ∧ (∃ m20_ m21_ : Nat, ((u + m14_) + m20_ ≤ bc ∧ (v + m15_) + m21_ ≤ bs) ∧ (wm_X9_expectSign m20_ m21_ S13_ (c_ob L 9 0) (123 : Int32) (fun r18_ S19_ => r18_ = none ∧ (q_K S19_ (c_ob L 9 0) = 10 ∧ (∃ m26_ m27_ : Nat, (((u + m14_) + m20_) + m26_ ≤ bc ∧ ((v + m15_) + m21_) + m27_ ≤ bs) ∧ (wm_X9_expect m26_ m27_ S19_ (c_ob L 9 0) (1 : Int32) (fun r24_ S25_ => r24_ = none ∧ (∃ a29_ : Nat, (some (c_ob L 5 np)) = some a29_ ∧ (q_K S25_ a29_ = 6 ∧ (q_K S25_ (c_ob L 9 0) = 10 ∧ (∃ m35_ m36_ : Nat, ((((u + m14_) + m20_) + m26_) + m35_ ≤ bc ∧ (((v + m15_) + m21_) + m27_) + m36_ ≤ bs) ∧ (wm_X9_number m35_ m36_ S25_ (c_ob L 9 0) (256 : Int32) (8192 : Int32) (256 : Int32) (fun r33_ S34_ => ∃ x38_ : Int32, r33_ = some (.int x38_) ∧ (∃ a39_ : Nat, (q_P S25_ 1002 a29_) = some a39_ ∧ (q_K S34_ a39_ = 5 ∧ (∃ m44_ m45_ : Nat, (((((u + m14_) + m20_) + m26_) + m35_) + m44_ ≤ bc ∧ ((((v + m15_) + m21_) + m27_) + m36_) + m45_ ≤ bs) ∧ (wm_X4_setBytes m44_ m45_ S34_ a39_ x38_ (fun r42_ S43_ => r42_ = none ∧ (q_K S43_ (c_ob L 9 0) = 10 ∧ (∃ m50_ m51_ : Nat, ((((((u + m14_) + m20_) + m26_) + m35_) + m44_) + m50_ ≤ bc ∧ (((((v + m15_) + m21_) + m27_) + m36_) + m45_) + m51_ ≤ bs) ∧ (wm_X9_expectSign m50_ m51_ S43_ (c_ob L 9 0) (59 : Int32) (fun r48_ S49_ => r48_ = none ∧ (q_K S49_ (c_ob L 9 0) = 10 ∧ (wm_X9_sees S49_ (c_ob L 9 0) (2 : Int32) (fun r54_ S55_ => ∃ x56_ : Int32, r54_ = some (.int x56_) ∧ (((x56_ = 0 → (q_K S55_ a29_ = 6 ∧ (∃ a59_ : Nat, (q_P S55_ 1002 a29_) = some a59_ ∧ (q_K S55_ a59_ = 5 ∧ (wm_X4_addRegion S55_ a59_ (q_I S55_ 800 a59_) (3 : Int32) (fun r62_ S63_ => r62_ = none ∧ (wb_X9_readHead_154 bc bs ((((((u + m14_) + m20_) + m26_) + m35_) + m44_) + m50_) ((((((v + m15_) + m21_) + m27_) + m36_) + m45_) + m51_) S63_ (some (c_ob L 5 np)) Q E))))))) ∧ (¬ x56_ = 0 → (q_K S55_ a29_ = 6 ∧ (q_K S55_ (c_ob L 9 0) = 10 ∧ (∃ m68_ m69_ : Nat, (((((((u + m14_) + m20_) + m26_) + m35_) + m44_) + m50_) + m68_ ≤ bc ∧ ((((((v + m15_) + m21_) + m27_) + m36_) + m45_) + m51_) + m69_ ≤ bs) ∧ (wm_X9_readRegions m68_ m69_ S55_ (c_ob L 9 0) (q_P S55_ 1002 a29_) (fun r66_ S67_ => r66_ = none ∧ (wb_X9_readHead_154 bc bs (((((((u + m14_) + m20_) + m26_) + m35_) + m44_) + m50_) + m68_) (((((((v + m15_) + m21_) + m27_) + m36_) + m45_) + m51_) + m69_) S67_ (some (c_ob L 5 np)) Q E)) E))))))))))) E))))))))) E)))))) E)))) E)))) E) := by
  have g := WD_g wd
  have m4 := c_gO g 1002 4 rfl (by decide) m5
  have vp : vp_in (nI np) (r_N 2425) ∧ (nI np).toNatClampNeg = np := ⟨vp_in_nI (N := 16) p16 (by decide), nI_clamp (by omega)⟩
  have kt : ∀ {K K1 K2 : c_S} {R R1 R2 : r_S}, OF (zI np) (zA np) mi (za np) K R K1 R1 → TOKf K1 K2 R1 R2 → OF (zI np) (zA np) mi (za np) K R K2 R2 := fun h t => OF_k h t (fun f i z => Or.inl (by omega)) (fun f a b => ⟨a, b⟩)
  refine c_adv wd av (by omega) (by omega) hr (fun K' R w q cz hf pe hr => ?_) (fun K1 R1 av1 tf1 hr => ⟨K10 g, c_sign wd av1 (by omega) (by omega) hr (fun K' R w q x cz hf hr => ?_) (fun K2 R2 av2 tf2 hr => ⟨K10 g, c_key wd av2 (by omega) (by omega) hr (fun K' R w q x cz hf hr => ?_) (fun K3 R3 av3 tf3 hr => ⟨_, rfl, c_gk g m5 6 rfl, K10 g, c_num wd av3 (by omega) (by omega) (by decide) (fun _ _ => Iff.rfl) hr (fun K' R w q x cz hf hr => ?_) (fun K4 R4 n av4 tf4 hn hr => ⟨_, c_gp g 1002 4 rfl rfl (by decide) m5, c_gk g m4 5 rfl, 2, 4096, ⟨by omega, by omega⟩, ?_⟩)⟩)⟩)⟩)
  · obtain ⟨R, hf, de, hr⟩ := fs_sign hf hr
    obtain ⟨R, hf, de, hr⟩ := fs_key hf hr
    obtain ⟨R, hf, de, hr⟩ := fs_number hf hr
    obtain ⟨R, hf, de, hr⟩ := fs_sign (FD_A hf (by decide)) (g_and hr vp.1)
    obtain ⟨R, hf, hr⟩ := fd_hd p16 hf hr
    exact hX L T K' R w q wd cz hf hr
  · obtain ⟨R, hf, de, hr⟩ := fs_key hf hr
    obtain ⟨R, hf, de, hr⟩ := fs_number hf hr
    obtain ⟨R, hf, de, hr⟩ := fs_sign (FD_A hf (by decide)) (g_and hr vp.1)
    obtain ⟨R, hf, hr⟩ := fd_hd p16 hf hr
    exact hX L T K' R w q wd cz hf hr
  · obtain ⟨R, hf, de, hr⟩ := fs_number hf hr
    obtain ⟨R, hf, de, hr⟩ := fs_sign (FD_A hf (by decide)) (g_and hr vp.1)
    obtain ⟨R, hf, hr⟩ := fd_hd p16 hf hr
    exact hX L T K' R w q wd cz hf hr
  · obtain ⟨R, hf, de, hr⟩ := fs_sign (FD_A hf (by decide)) (g_and hr vp.1)
    obtain ⟨R, hf, hr⟩ := fd_hd p16 hf hr
    exact hX L T K' R w q wd cz hf hr
  · obtain ⟨n0, rfl, n31, n1, n2⟩ := num_of hn.1 (by decide)
    have c1 : (256 : Int32).toInt = 256 ∧ (8192 : Int32).toInt = 8192 := ⟨rfl, rfl⟩
    have hm : n0 % 256 = 0 := by
      have h := hn.2
      rw [show (256 : Int32) = nI 256 from rfl, pk_rem n31 (by decide) (by decide)] at h
      exact (nI_eq (by omega) (by decide)).mp (h.trans (show (0 : Int32) = nI 0 from rfl))
    obtain ⟨k, rfl⟩ : ∃ k : Nat, n0 = 256 * k := ⟨n0 / 256, by omega⟩
    have hr := g_and hr vp.1
    rw [vp.2] at hr
    refine c_setBytes wd m4 (by omega) (by omega) (Nat.le_refl _) (Nat.le_refl _) (fun L' T' K5 wd' lx l1 l2 nm => ⟨rfl, ?_⟩)
    obtain ⟨x1, x2, x3, x4, x5, x6, x7⟩ := nm
    rw [← (lx.1 9 0 (g_m9 g)).2, ← (lx.1 5 np m5).2]
    have m5' := (lx.1 5 np m5).1
    have m4' := (lx.1 4 np m4).1
    have g' := WD_g wd'
    have of4 : OF (zI np) (zA np) mi (za np) K R K4 R4 := kt (kt (kt (kt OF_0 tf1) tf2) tf3) tf4
    have of5 : OF (zI np) (zA np) mi (za np) K R K5 (rs_A R4 2425 np (nI (256 * k))) := OF_a (OF_t of4 ⟨fun f i z => ⟨x1 f i (fun y => z (Or.inr y)), x2 f i, x4 f i⟩, fun f i j z => x3 f i j (fun y => z (by unfold zA; omega)), fun _ _ => rfl, fun _ _ _ => rfl⟩) (by refine ⟨by omega, by omega, ?_⟩; rw [show pst 2425 = 1 from rfl]; omega)
    have av5 : AV B K0 R0 K5 (rs_A R4 2425 np (nI (256 * k))) := AV_a (AV_c av4 (fun f m => x1 f 0 (fun z => by
      have := (by decide : ∀ f ∈ [1806, 1807, 1808, 1809, 1811, 1803, 402, 403, 1211, 1212, 1214], f / 200 ≠ 4) f m
      exact this z.1)) (x2 _ _) (fun f i m => x3 f 0 i (fun z => by
      have := (by decide : ∀ f ∈ [1802, 2204, 400, 401], f ≠ 801 ∧ f ≠ 802) f m
      omega)) (fun _ _ => rfl) av4.2.2.2.2.1) (by decide)
    have pm0 : ∀ {K' : c_S} {R' : r_S}, TOKf K5 K' (rs_A R4 2425 np (nI (256 * k))) R' → PM L' K' (rs_A R' 2426 np 0) np k 0 (fun _ => 0) := fun t => by
      refine PM_0 (by omega) (by omega) ((t.1 800 np (by decide)).trans x5) ((t.1 803 np (by decide)).trans x6) ((TOKf_a t _ _).trans ?_) l1 l2 (fun x hx => ?_)
      · rw [r_AA, if_pos ⟨rfl, rfl⟩]
      · rw [TOKf_A t, TOKf_A t]
        exact x7 x (by omega)
    refine ⟨K10 g', c_sign wd' av5 (by omega) (by omega) hr (fun K' R w q x cz hf hr => ?_) (fun K6 R6 av6 tf6 hr => ⟨K10 g', ?_⟩)⟩
    · obtain ⟨R, hf, hr⟩ := fd_hd p16 hf hr
      exact hX L' T' K' R w q wd' cz hf hr
    · have hr := g_pos hr (by rw [av6.2.2.2.1]; decide)
      have of6 := kt of5 tf6
      have done : ∀ (K' : c_S) (R' : r_S) (nr : Nat) (re : Nat → Nat), AV B K0 R0 K' R' → OF (mI np) (mA np) mi (ma np) K6 R6 K' R' → PM L' K' R' np k nr re → 1 ≤ nr → re nr = 256 * k → (∀ Q : Option Value → r_S → Prop, Q none R' → rm_X12_readRegions R6 (nI np) Q) → Q (some (va_rf (some (c_ob L' 5 np)))) (c_E L' K' T') := fun K' R' nr re av' of' pm' n1 n2 hr' => by
        refine hN L' T' K' R' k nr re wd' lx av' (OF_t of6 (OF_w of' (fun f i z => ?_) (fun f i z => ?_) (fun f z => z) (fun f i z => ?_))) pm' ⟨n1, n2⟩ (fun Q h => hr Q (hr' _ ⟨rfl, h⟩))
        · unfold mI at z; unfold zI; omega
        · unfold mA at z; unfold zA; omega
        · unfold ma at z
          rcases z with ⟨a, b⟩ | ⟨a, b⟩
          · refine ⟨by omega, by omega, ?_⟩
            rw [a, show pst 2426 = 1 from rfl]; omega
          · refine ⟨by omega, by omega, ?_⟩
            have : pst f = 6 := by unfold pst; rw [if_pos (Or.inl a)]
            rw [this]; exact b
      by_cases c : c_I K6 1808 0 = 5 ∧ c_I K6 1809 0 = 2
      · refine u_sees1 g' c _ ⟨_, rfl, bf_ (by decide) ⟨c_gk g' m5' 6 rfl, K10 g', 1, 6, ⟨by omega, by omega⟩, ?_⟩⟩
        rw [c_gp g' 1002 4 rfl rfl (by decide) m5']
        exact c_readRegions (RM := rm_X12_readRegions R6 (nI np)) wd' av6 c m4' p16 (Nat.le_refl _) (Nat.le_refl _) (pm0 tf6) (fun Q h => h) (fun K' R w q cz hf hr' => by
          obtain ⟨R, hf, hr⟩ := fd_150 (d := 0) (FD_I (f := 2453) (v := -1) hf (by decide) (by decide)) (fun Q h => hr Q (hr' _ ⟨rfl, 2, h⟩))
          exact hX L' T' K' R w q wd' cz hf hr) (fun K' R' nr re a b c d e f => ⟨rfl, done K' R' nr re a b c d e f⟩)
      · refine u_sees0 g' c _ ⟨_, rfl, bt_ rfl ⟨c_gk g' m5' 6 rfl, _, c_gp g' 1002 4 rfl rfl (by decide) m5', c_gk g' m4' 5 rfl, ?_⟩⟩
        rw [c_eI m4' rfl, (pm0 tf6).1.2.2.1]
        exact c_allRegion (RM := rm_X12_readRegions R6 (nI np)) g' av6 c m4' p16 (pm0 tf6) (fun Q h => h) (fun K' R' nr re a b c d e f => ⟨rfl, done K' R' nr re a b c d e f⟩)
theorem c_head {e : EV} {L : c_L} {T : q_S} {B bc bs : Nat} {K0 K : c_S} {R0 R : r_S} {np lm : Nat} {Q : Option Value → q_S → Prop} {E : String → q_S → Prop} {RM : (Option Value → r_S → Prop) → Prop} (wd : WD e L T) (av : AV B K0 R0 K R) (ri : RI K) (c : c_I K 1808 0 = 5 ∧ c_I K 1809 0 = 0) (pp : PP L K R np lm) (fz : FZ R np) (hl : lm + 12 ≤ 14000) (h22 : r_I R 2422 = nI lm) (hu : 13 ≤ bc) (hv : 4213 ≤ bs) (hby : ∀ i : Nat, fits .byte (.int (r_A R0 2402 i)) = true)
  (hr : ∀ Q : Option Value → r_S → Prop, rm_X12_readPartition R Q → RM Q)
  (hX : ∀ (L' : c_L) (T' : q_S) (K' : c_S) (R' : r_S) (w q : Int32), WD e L' T' → CZ K0 K' → FD w q R0 R' → (∀ Q : Option Value → r_S → Prop, Q none R' → RM Q) → E "java/lang/IllegalArgumentException" (c_E L' (k_fl K' w q) T'))
  (hN : ∀ (L' : c_L) (T' : q_S) (K' : c_S) (R' : r_S) (sz k nr : Nat) (re : Nat → Nat), WD e L' T' → LX L L' → AV B K0 R0 K' R' → RI K' → np < 16 → sz ≤ 12 → PP L' K' R' (np + 1) (lm + sz) → r_I R' 2422 = nI (lm + sz) → RP L' K' R' np (lm + sz) (fun _ => 0) none k nr re False → r_A R' 2451 np = 0 → OF (hI np) (pA np) hi (ha np lm) K R K' R' → (1 ≤ nr ∧ re nr = 256 * k) → (∀ Q : Option Value → r_S → Prop, (∃ n : Nat, rl_X12_readPartition_150 n (rs_I R' 2453 (-1)) (nI np) Q) → RM Q) → Q (some (va_rf (some (c_ob L' 5 np)))) (c_E L' K' T')) :
  wm_X9_readHead bc bs (c_E L K T) (c_ob L 9 0) Q E := by
  have g := WD_g wd
  have np16 := pp.1
  unfold rm_X12_readPartition at hr
  refine ⟨K10 g, c_exp wd av c (by omega) (by omega) hr (fun K' R1 w q cz hf pe hr => ?_) (fun K1 R1 av1 tf1 hr => ⟨K10 g, _, P18 g, K7 g, ?_⟩)⟩
  · by_cases z : r_I R1 2415 = 16
    · obtain ⟨R, hf, de, hr⟩ := fs_failHere hf (g_npos hr z)
      exact hX L T K' R w q wd cz hf hr
    · obtain ⟨R, hf, de, hr⟩ := fs_failHere hf (g_neg (g_nneg hr z) (by rw [pe.2]; decide))
      exact hX L T K' R w q wd cz hf hr
  have k01 : c_I K1 1201 0 = nI np := (tf1.1 1201 0 (by decide)).trans pp.2.1.1
  have r15 : r_I R1 2415 = nI np := (tf1.2.2.2.1 2415 (by decide)).trans pp.2.1.2
  have pp1 : PP L K1 R1 np lm := PP_c pp LX_0 (Nat.le_refl _) (tf1.1 1201 0 (by decide)) (tf1.2.2.2.1 2415 (by decide)) (fun p _ => tf1.2.1 _ _ (by decide)) (fun p _ => ⟨TOKf_a tf1 _ _, TOKf_a tf1 _ _⟩) (fun i _ => TOKf_a tf1 _ _)
  rw [I6 g 1201 rfl, k01]
  rw [r15] at hr
  by_cases z16 : np = 16
  · have hr := g_npos hr (by rw [z16]; rfl)
    exact bf_ (by rw [z16]; decide) (c_flH wd av1 (by omega) (by omega) (by decide) hr (fun R' cz hf hr => hX L T K1 R' _ _ wd cz hf hr))
  have p16 : np < 16 := by omega
  have hr := g_nneg hr (fun z => z16 ((nI_eq (by omega) (by decide)).mp (z.trans (show (16 : Int32) = nI 16 from rfl))))
  refine bt_ (by rw [show (16 : Int32) = nI 16 from rfl]; exact nI_lt p16 (by decide)) ⟨K10 g, ?_⟩
  rw [I9 g 1808 rfl]
  by_cases kd : c_I K1 1808 0 = 2
  · have hr := g_pos hr ((AV_name av1).1.mp kd)
    obtain ⟨b, sz, z1, z2, z3, z4, z5, z6, z7⟩ := AV_wrd av1 kd
    refine bt_ kd ⟨K10 g, _, P18 g, K7 g, ?_⟩
    rw [c_eJ (g_m9 g) rfl]
    by_cases kn : ∃ p : Nat, p < np ∧ c_J K1 1001 p = c_J K1 1810 0
    · obtain ⟨p, p1, p2⟩ := kn
      have hr2 : ∀ Q : Option Value → r_S → Prop, rm_X12_fail R1 3 (r_I R1 2407) (fun r R'' => ∃ x : Int32, r = some (.int x) ∧ Q none R'') → RM Q := fun Q h => hr Q (re_partitionNamed pp1 (by omega) z4 z5 z2 z3 z6 (fun p' a1 a2 => ⟨_, rfl, bf_ (nI_m1 (by omega)) h⟩) (fun z => absurd (p2.trans z7) (z p p1)))
      refine um_X6_partitionNamed g K1 0 _ (g_m6 g) (Q1 := fun v K3 => K3 = K1 ∧ v ≠ -1) (kn_part pp1 (fun p' a1 a2 => ⟨rfl, nI_m1 (by omega)⟩) (fun z => absurd p2 (z p p1))) (fun v K3 h3 => ⟨_, rfl, ?_⟩)
      obtain ⟨rfl, hv1⟩ := h3
      refine bf_ hv1 ⟨K10 g, ?_⟩
      rw [I9 g 1811 rfl]
      exact c_flP wd av1 (by omega) (by omega) (by decide) (AV_pl av1) hr2 (fun R' cz hf hr => hX L T _ R' _ _ wd cz hf hr)
    · have nk : ∀ p : Nat, p < np → c_J K1 1001 p ≠ c_J K1 1810 0 := fun p h1 h2 => kn ⟨p, h1, h2⟩
      have h22' : r_I R1 2422 = nI lm := (tf1.2.2.2.1 2422 (by decide)).trans h22
      have hby' : ∀ i : Nat, fits .byte (.int (r_A R1 2402 i)) = true := fun i => by rw [av1.2.2.2.2.1.2 2402 i (by decide)]; exact hby i
      have vp : vp_in (nI np) (r_N 2423) ∧ (nI np).toNatClampNeg = np := ⟨vp_in_nI (N := 16) p16 (by decide), nI_clamp (by omega)⟩
      have hr3 : ∀ Q : Option Value → r_S → Prop, rm_X12_next (r_hd R1 np b sz lm) (fun r R' => r = none ∧ rm_X12_sign R' 123 (fun r R' => ∃ x : Int32, r = some (.int x) ∧ rm_X12_key R' 1 (fun r R' => ∃ x : Int32, r = some (.int x) ∧ rm_X12_number R' 256 8192 256 (fun r R' => ∃ x : Int32, r = some (.int x) ∧ vp_in (nI np) (r_N 2425) ∧ rm_X12_sign (rs_A R' 2425 (nI np).toNatClampNeg x) 59 (fun r R' => ∃ x : Int32, r = some (.int x) ∧ ((r_I R' 2411 ≤ 0 → rm_X12_readRegions R' (nI np) (fun r R' => r = none ∧ ∃ n : Nat, rl_X12_readPartition_150 n (rs_I R' 2453 (-1)) (nI np) Q)) ∧ (¬ r_I R' 2411 ≤ 0 → Q none R'))))))) → RM Q := fun Q h => hr Q (by
        refine re_partitionNamed pp1 (by omega) z4 z5 z2 z3 z6 (fun p' a1 a2 => absurd (a2.trans z7.symm) (nk p' a1)) (fun _ => ⟨_, rfl, bt_ rfl ?_⟩)
        refine re_keep z4 z5 h22' z2 z3 (by omega) hby' ⟨_, rfl, ?_⟩
        rw [r15, vp.2]
        refine ⟨vp.1, vp.1, fun S48 e48 => ?_⟩
        subst e48
        have q15 : r_I (rs_A (rs_A (rs_I (r_kp R1 lm b sz) 2422 (nI (lm + sz))) 2423 np (nI lm)) 2424 np (r_I (rs_A (rs_I (r_kp R1 lm b sz) 2422 (nI (lm + sz))) 2423 np (nI lm)) 2410)) 2415 = nI np := r15
        have q10 : r_I (rs_A (rs_I (r_kp R1 lm b sz) 2422 (nI (lm + sz))) 2423 np (nI lm)) 2410 = nI sz := z5
        rw [q15, q10, nI_1]
        rw [vp.2] at h
        exact h)
      refine um_X6_partitionNamed g K1 0 _ (g_m6 g) (Q1 := fun v K3 => K3 = K1 ∧ v = -1) (kn_part pp1 (fun p' a1 a2 => absurd a2 (nk p' a1)) (fun z => ⟨rfl, rfl⟩)) (fun v K3 h3 => ⟨_, rfl, ?_⟩)
      obtain ⟨rfl, rfl⟩ := h3
      refine bt_ rfl ⟨K10 g, _, P18 g, K7 g, 10, 111, ⟨by omega, by omega⟩, ?_⟩
      rw [c_eJ (g_m9 g) rfl]
      have ri1 : RI K3 := fun f i x hd h => ri f i x hd (by rw [← TOKf_P tf1]; exact h)
      refine c_addPartition wd ri1 p16 k01 (Nat.le_refl _) (Nat.le_refl _) (fun L' T' K4 wd' lx m5' np' => ⟨_, rfl, ?_⟩)
      obtain ⟨n1, n2, n3, n4, n5, n6, n7, ⟨n8, n9, n10, n11, n12, n13⟩, ⟨n14, n15, n16, n17⟩, n18⟩ := np'
      rw [← (lx.1 9 0 (g_m9 g)).2]
      have g' := WD_g wd'
      have q9 : ∀ f i : Nat, f / 200 ≠ 5 → f / 200 ≠ 4 → ¬ ((f / 200 = 5 ∨ f / 200 = 4) ∧ i = np) := fun f i h1 h2 z => by omega
      have av4 : AV B K0 R0 K4 (r_hd R1 np b sz lm) := AV_c av1 (fun f m => n1 f 0 (by
        have := (by decide : ∀ f ∈ [1806, 1807, 1808, 1809, 1811, 1803, 402, 403, 1211, 1212, 1214], f / 200 ≠ 5 ∧ f / 200 ≠ 4) f m
        exact q9 f 0 this.1 this.2) (fun z => by rw [z.1] at m; exact absurd m (by decide))) (n2 1810 0 (q9 _ _ (by decide) (by decide))) (fun f i m => n3 f 0 i (by
        have := (by decide : ∀ f ∈ [1802, 2204, 400, 401], f / 200 ≠ 5 ∧ f / 200 ≠ 4) f m
        exact q9 f 0 this.1 this.2)) (fun f m => by
        rw [hd_I, if_neg (fun z => by rw [z] at m; exact absurd m (by decide)), if_neg (fun z => by rw [z] at m; exact absurd m (by decide))]) (hd_rz av1.2.2.2.2.1)
      have pp4 : PP L' K4 (r_hd R1 np b sz lm) (np + 1) (lm + sz) := by
        refine PP_add pp1 lx p16 ⟨z1, z2⟩ z6 (fun p hp => by rw [← z7]; exact nk p hp) n5 (by rw [hd_I, if_pos rfl]) (fun p hp => n2 1001 p (fun z => by omega)) (n6.trans z7) m5' (fun p hp => ?_) ?_ (fun i => ?_)
        · rw [hd_A, hd_A, if_neg (by omega), if_neg (by omega), if_neg (by omega), if_neg (by omega), if_neg (by omega), if_neg (by omega)]
          exact ⟨rfl, rfl⟩
        · rw [hd_A, hd_A, if_neg (by omega), if_pos ⟨rfl, rfl⟩, if_pos ⟨rfl, rfl⟩]
          exact ⟨rfl, rfl⟩
        · rw [hd_A, if_neg (by omega), if_neg (by omega)]
          by_cases y : lm ≤ i ∧ i < lm + sz
          · rw [if_pos ⟨rfl, y⟩, if_pos y]
          · rw [if_neg (fun x => y x.2), if_neg y]
      have rr : ∀ f i : Nat, 2425 ≤ f → r_A (r_hd R1 np b sz lm) f i = r_A R f i := fun f i hf => by
        rw [hd_A, if_neg (by omega), if_neg (by omega), if_neg (by omega)]
        exact TOKf_a tf1 _ _
      obtain ⟨f1, f2, f3, f4, f5⟩ := fz np (Nat.le_refl _) p16
      have of4 : OF (hI np) (pA np) hi (ha np lm) K R K4 (r_hd R1 np b sz lm) := by
        refine OF_t (OF_k OF_0 tf1 (fun f i z => Or.inl (Or.inl (by omega))) (fun f a b => Or.inl (Or.inl ⟨a, b⟩))) ⟨fun f i z => ?_, fun f i j z => n3 f i j (fun y => z (Or.inl y)), fun f z => ?_, fun f i z => ?_⟩
        · have h1 : ¬ ((f / 200 = 5 ∨ f / 200 = 4) ∧ i = np) := fun y => z (by unfold hI pI; omega)
          exact ⟨n1 f i h1 (fun y => z (Or.inr (Or.inl y))), n2 f i h1, n4 f i h1⟩
        · rw [hd_I, if_neg (fun y => z (Or.inr y)), if_neg (fun y => z (Or.inl (Or.inr (Or.inl y))))]
        · rw [hd_A, if_neg (fun y => z (Or.inr ⟨Or.inr y.1, y.2⟩)), if_neg (fun y => z (Or.inr ⟨Or.inl y.1, y.2⟩)), if_neg (fun y => z (Or.inl (Or.inl ⟨y.1, y.2.1⟩)))]
      have ph4 : PH L' K4 (r_hd R1 np b sz lm) np none := ⟨⟨m5', n7⟩, ⟨n14, (rr _ _ (by decide)).trans f2⟩, n9, n15, n10, n11, n12, n16, n13, n17⟩
      have pa4 : PA K4 (r_hd R1 np b sz lm) np False := fun j hj => by
        have e : r_A (r_hd R1 np b sz lm) 2452 (5 * np + j) = 0 := (rr _ _ (by decide)).trans (f5 j hj)
        rw [e]
        exact ⟨(n18 j hj).2, by decide, by decide, fun z => absurd z (by decide)⟩
      have pn4 : PN L' K4 (r_hd R1 np b sz lm) np (lm + sz) (fun _ => 0) := by
        refine ⟨fun s _ => Nat.zero_le _, ⟨n8, (rr _ _ (by decide)).trans (f4 5 (by decide))⟩, fun s hs => ⟨(n18 s hs).1, (rr _ _ (by decide)).trans (f4 s (by omega))⟩, fun j hj => absurd hj (Nat.not_lt_zero j), fun s i _ hi => absurd hi (Nat.not_lt_zero i), ⟨0, rfl, (rr _ _ (by decide)).trans f1, fun k hk => absurd hk (Nat.not_lt_zero k), fun s i _ hi => absurd hi (Nat.not_lt_zero i)⟩, fun s i s' i' _ hi => absurd hi (Nat.not_lt_zero i)⟩
      refine ⟨K10 g', c_headR wd' av4 m5' p16 (by omega) (by omega) hr3 hX (fun L2 T2 K5 R5 k nr re wd2 lx2 av5 of5 pm5 hn5 hr5 => ?_)⟩
      obtain ⟨o1, o2, o3, o4⟩ := of5
      have nz : ∀ f i : Nat, f / 200 = 5 ∨ f / 200 = 6 → ¬ zI np f i := fun f i h z => by unfold zI at z; omega
      have na : ∀ f i : Nat, (f < 2425 ∨ 2429 < f) → ¬ za np f i := fun f i h z => by unfold za at z; omega
      have ofa : OF (hI np) (pA np) hi (ha np lm) K4 (r_hd R1 np b sz lm) K5 R5 := by
        refine OF_w ⟨o1, o2, o3, o4⟩ (fun f i z => ?_) (fun f i z => ?_) (fun f z => ?_) (fun f i z => ?_)
        · unfold zI at z; unfold hI pI; omega
        · unfold zA at z; unfold pA; omega
        · unfold mi at z; unfold hi pi; omega
        · exact Or.inl (Or.inr ⟨by unfold za at z; omega, by unfold za at z; omega, z.2.2⟩)
      have of := OF_t of4 ofa
      refine hN L2 T2 K5 R5 sz k nr re wd2 (LX_t lx lx2) av5 (RI_of of (fun f i hd z => by have := dy_200 hd; unfold hI pI at z; omega) ri) p16 z2 ?_ ((o3 2422 (fun z => by unfold mi at z; omega)).trans (by rw [hd_I, if_neg (by decide), if_pos rfl])) ⟨?_, ?_, pm5, ?_, fun h z => (by cases z), fun j hj => absurd hj (Nat.not_lt_zero j), fun s i _ hi => absurd hi (Nat.not_lt_zero i), fun i hi => absurd hi (Nat.not_lt_zero i)⟩ ((o4 _ _ (na _ _ (by decide))).trans ((rr _ _ (by decide)).trans f3)) of hn5 hr5
      · exact PP_c pp4 lx2 (Nat.le_refl _) (o1 _ _ (nz _ _ (by decide))).1 (o3 _ (fun z => by unfold mi at z; omega)) (fun p _ => (o1 _ _ (nz _ _ (by decide))).2.1) (fun p _ => ⟨o4 _ _ (na _ _ (by decide)), o4 _ _ (na _ _ (by decide))⟩) (fun i _ => o4 _ _ (na _ _ (by decide)))
      · exact PH_c ph4 lx2 (fun f hf _ => (o1 f np (nz f np (Or.inl hf))).1) (o4 _ _ (na _ _ (by decide)))
      · exact PA_c pa4 (fun j => o2 _ _ _ (fun z => by unfold zA at z; omega)) (fun j _ => o4 _ _ (na _ _ (by decide))) id
      · exact PN_c pn4 lx2 (Nat.le_refl _) (o1 _ _ (nz _ _ (by decide))).1 (fun s _ => o2 _ _ _ (fun z => by unfold zA at z; omega)) (fun s i _ hi => absurd hi (Nat.not_lt_zero i)) (fun s _ => o4 _ _ (na _ _ (by decide))) (o4 _ _ (na _ _ (by decide))) (fun f k a b _ => o4 _ _ (na _ _ (by omega))) (fun i _ => o4 _ _ (na _ _ (by decide)))
  · exact bf_ kd (c_flH wd av1 (by omega) (by omega) (by decide) (g_neg hr (fun z => kd ((AV_name av1).1.mpr z))) (fun R' cz hf hr => hX L T K1 R' _ _ wd cz hf hr))
