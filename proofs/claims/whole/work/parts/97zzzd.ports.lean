/-! Names of partitions and ports, in channels and windows. -/
def r_en2 (S : r_S) (x1 y x3 : Int32) (Q : Option Value → r_S → Prop) : Prop := ((r_I S 2406) = (1 : Int32) → (rm_X12_thingNamed S y (fun r31_ S32_ => ∃ x33_ : Int32, r31_ = some (.int x33_) ∧ ((x33_ = (-1 : Int32) → (rb_X12_end_126 S32_ Q)) ∧ (¬ x33_ = (-1 : Int32) → (vp_in x33_ (r_N 2433) ∧ (((r_A S32_ 2433 x33_.toNatClampNeg) = (4 : Int32) → (vp_in x33_ (r_N 2434) ∧ (vp_in (((16 : Int32) * y) + (r_A S32_ 2434 x33_.toNatClampNeg)) (r_N 2448) ∧ ((¬ (r_A S32_ 2448 (((16 : Int32) * y) + (r_A S32_ 2434 x33_.toNatClampNeg)).toNatClampNeg) = x3 → (rb_X12_end_192 S32_ Q)) ∧ ((r_A S32_ 2448 (((16 : Int32) * y) + (r_A S32_ 2434 x33_.toNatClampNeg)).toNatClampNeg) = x3 → (vp_in (((16 : Int32) * y) + (r_A S32_ 2434 x33_.toNatClampNeg)) (r_N 2449) ∧ (vp_in x1 (r_N 2454) ∧ ((¬ (r_A S32_ 2449 (((16 : Int32) * y) + (r_A S32_ 2434 x33_.toNatClampNeg)).toNatClampNeg) = (r_A S32_ 2454 x1.toNatClampNeg) → (rb_X12_end_192 S32_ Q)) ∧ ((r_A S32_ 2449 (((16 : Int32) * y) + (r_A S32_ 2434 x33_.toNatClampNeg)).toNatClampNeg) = (r_A S32_ 2454 x1.toNatClampNeg) → (vp_in (((16 : Int32) * y) + (r_A S32_ 2434 x33_.toNatClampNeg)) (r_N 2450) ∧ (((r_A S32_ 2450 (((16 : Int32) * y) + (r_A S32_ 2434 x33_.toNatClampNeg)).toNatClampNeg) = (-1 : Int32) → (vp_in (((16 : Int32) * y) + (r_A S32_ 2434 x33_.toNatClampNeg)) (r_N 2450) ∧ (rm_X12_next (rs_A S32_ 2450 (((16 : Int32) * y) + (r_A S32_ 2434 x33_.toNatClampNeg)).toNatClampNeg x1) (fun r65_ S66_ => r65_ = none ∧ (Q (some (.int (((16 : Int32) * y) + (r_A S32_ 2434 x33_.toNatClampNeg)))) S66_))))) ∧ (¬ (r_A S32_ 2450 (((16 : Int32) * y) + (r_A S32_ 2434 x33_.toNatClampNeg)).toNatClampNeg) = (-1 : Int32) → (rb_X12_end_192 S32_ Q))))))))))))) ∧ (¬ (r_A S32_ 2433 x33_.toNatClampNeg) = (4 : Int32) → (rb_X12_end_126 S32_ Q))))))))) ∧ (¬ (r_I S 2406) = (1 : Int32) → (rm_X12_failHere S (1 : Int32) (fun r67_ S68_ => ∃ x69_ : Int32, r67_ = some (.int x69_) ∧ (Q (some (.int (-1 : Int32))) S68_))))
theorem f_adv1 {L : c_L} {T : q_S} {B : Nat} {K0 K : c_S} {R0 R : r_S} (g : c_G L T) (h2 : ∃ z : Nat, q_K T z = 31 ∧ q_N T z = 2) (av : AV B K0 R0 K R) :
  (∃ (K' : c_S) (R' : r_S), AV B K0 R0 K' R' ∧ TOKf K K' R R' ∧ (∀ (bc bs : Nat) (Q : Option Value → q_S → Prop) (E : String → q_S → Prop), Q none (c_E L K' T) → wm_X9_advance bc bs (c_E L K T) (c_ob L 9 0) Q E) ∧ ∀ Q : Option Value → r_S → Prop, Q none R' → rm_X12_next R Q) ∨
  ∃ (K' : c_S) (R' : r_S) (w q : Int32), CZ K0 K' ∧ (FD w q R0 R' ∧ r_PE R' ∧ TOKf K K' R R') ∧ (∀ (bc bs : Nat) (Q : Option Value → q_S → Prop) (E : String → q_S → Prop), 1 ≤ bc → 6 ≤ bs → E "java/lang/IllegalArgumentException" (c_E L (k_fl K' w q) T) → wm_X9_advance bc bs (c_E L K T) (c_ob L 9 0) Q E) ∧ ∀ Q : Option Value → r_S → Prop, Q none R' → rm_X12_next R Q := by
  obtain ⟨tx, ⟨a, p, h1, ha, k7, r5, _⟩, _, r11, rz, cz⟩ := av
  obtain ⟨K', R', f1, f2, tok, tf⟩ := P_adv (L := L) (B - a) a K R tx (by omega) k7 r5
  by_cases c : c_I K' 1808 0 = 1
  · right
    have k5 : r_I R' 2406 = 5 := by
      obtain ⟨_, _, _, _, _, _, _, _, tk⟩ := tok
      rcases tk with h | h | h | h | h | h
      · rw [c] at h; exact absurd h.1 (by decide)
      · exact h.2
      · rw [c] at h; exact absurd h.1 (by decide)
      · rw [c] at h; exact absurd h.1 (by decide)
      · rw [c] at h; exact absurd h.1 (by decide)
      · rw [c] at h; exact absurd h.1 (by decide)
    refine ⟨K', R', 2, c_I K' 1811 0, CZ_t cz tf, ⟨⟨RZ_t rz tf, Or.inr ⟨(tf.2.2.2.1 2411 (by decide)).trans r11, k5, ?_, rfl⟩⟩, ⟨(tf.2.2.2.1 2411 (by decide)).trans r11, k5⟩, tf⟩, fun bc bs Q E hu hv h => ⟨B - a + 1, ?_⟩, fun Q h => ⟨B - a + 1, f2 _ h⟩⟩
    · obtain ⟨_, _, _, _, _, _, e1, e2, _⟩ := tok
      rw [e1, e2]
    · exact um_adv (Q1 := fun K2 => K2 = K') g h2 (fun K2 e n => absurd (by rw [e]; exact c) n) (fun K2 e _ => ⟨1, 6, ⟨by omega, by omega⟩, um_fail g (by omega) (by omega) (by rw [e]; exact h)⟩) _ K (AV_by (B := B) (R0 := R0) (R := R) cz) (f1 _ rfl)
  · left
    refine ⟨K', R', ⟨TXr_t tx tf, tok, c, (tf.2.2.2.1 2411 (by decide)).trans r11, RZ_t rz tf, CZ_t cz tf⟩, tf, fun bc bs Q E h => ⟨B - a + 1, ?_⟩, fun Q h => ⟨B - a + 1, f2 _ h⟩⟩
    exact um_adv (Q1 := fun K2 => K2 = K') g h2 (fun K2 e _ => by rw [e]; exact h) (fun K2 e n => absurd (by rw [← e]; exact n) c) _ K (AV_by (B := B) (R0 := R0) (R := R) cz) (f1 _ rfl)
theorem c_takes2 {e : EV} {L : c_L} {T : q_S} {B bc bs u v : Nat} {K0 K : c_S} {R0 R : r_S} {k : Int32} {X : Nat → Nat → Int32 → q_S → Prop} {E : String → q_S → Prop} {Y0 Y1 : r_S → (Option Value → r_S → Prop) → Prop} {RM : (Option Value → r_S → Prop) → Prop} (wd : WD e L T) (av : AV B K0 R0 K R) (hu : u + 1 ≤ bc) (hv : v + 6 ≤ bs) (hr : ∀ Q : Option Value → r_S → Prop, rm_X12_isKey R k (fun r R' => ∃ x : Int32, r = some (.int x) ∧ ((x = 0 → Y0 R' Q) ∧ (¬ x = 0 → rm_X12_next R' (fun r R' => r = none ∧ Y1 R' Q)))) → RM Q)
  (hX : ∀ (K' : c_S) (R' : r_S) (w q : Int32), CZ K0 K' → FD w q R0 R' → TOKf K K' R R' → r_PE R' → (∀ Q : Option Value → r_S → Prop, Y1 R' Q → RM Q) → E "java/lang/IllegalArgumentException" (c_E L (k_fl K' w q) T))
  (h0 : (∀ Q : Option Value → r_S → Prop, Y0 R Q → RM Q) → X 0 0 0 (c_E L K T))
  (h1 : ∀ (K' : c_S) (R' : r_S), AV B K0 R0 K' R' → TOKf K K' R R' → (∀ Q : Option Value → r_S → Prop, Y1 R' Q → RM Q) → X 0 0 1 (c_E L K' T)) :
  ∃ m m' : Nat, (u + m ≤ bc ∧ v + m' ≤ bs) ∧ wm_X9_takes m m' (c_E L K T) (c_ob L 9 0) k (fun r S' => ∃ x : Int32, r = some (.int x) ∧ X m m' x S') E := by
  have g := WD_g wd
  have r0 := av.2.2.2.1
  by_cases c : c_I K 1808 0 = 5 ∧ c_I K 1809 0 = k
  · have c' := (AV_K av).mp c
    have rl : ∀ Q : Option Value → r_S → Prop, rm_X12_next R (fun r R' => r = none ∧ Y1 R' Q) → RM Q := fun Q h => hr Q (v_key1 r0 c' _ ⟨_, rfl, bf_ (by decide) h⟩)
    rcases f_adv1 g (WD_2 wd) av with ⟨K', R', a1, a2, a3, a4⟩ | ⟨K', R', w, q, a1, ⟨a2, a6, a7⟩, a3, a4⟩
    · exact ⟨0, 0, ⟨by omega, by omega⟩, K10 g, u_sees1 g c _ ⟨_, rfl, nf_ (by decide) ⟨K10 g, 0, 0, ⟨by omega, by omega⟩, a3 _ _ _ _ ⟨rfl, _, rfl, h1 K' R' a1 a2 (fun Q h => rl Q (a4 _ ⟨rfl, h⟩))⟩⟩⟩⟩
    · exact ⟨1, 6, ⟨hu, hv⟩, K10 g, u_sees1 g c _ ⟨_, rfl, nf_ (by decide) ⟨K10 g, 1, 6, ⟨by omega, by omega⟩, a3 _ _ _ _ (by omega) (by omega) (hX K' R' w q a1 a2 a7 a6 (fun Q h => rl Q (a4 _ ⟨rfl, h⟩)))⟩⟩⟩
  · have c' := fun z => c ((AV_K (k := k) av).mpr z)
    exact ⟨0, 0, ⟨by omega, by omega⟩, K10 g, u_sees0 g c _ ⟨_, rfl, nt_ rfl ⟨_, rfl, h0 (fun Q h => hr Q (v_key0 r0 c' _ ⟨_, rfl, bt_ rfl h⟩))⟩⟩⟩
theorem FD_pos {w q : Int32} {R0 R : r_S} (h : FD w q R0 R) (hw : w ≠ 2) : r_DE R := by
  rcases h.2 with h2 | h2
  · unfold r_DE; rw [h2.2.1]; exact h2.1
  · exact absurd h2.2.2.2 hw
theorem c_pname {e : EV} {L : c_L} {T : q_S} {B bc bs u v : Nat} {K0 K : c_S} {R0 R : r_S} {np lm : Nat} {X : Nat → Nat → Option Nat → q_S → Prop} {E : String → q_S → Prop} {A : Int32 → r_S → (Option Value → r_S → Prop) → Prop} {D : r_S → (Option Value → r_S → Prop) → Prop} {Y : Nat → r_S → (Option Value → r_S → Prop) → Prop} {F : Nat → r_S} {RM : (Option Value → r_S → Prop) → Prop} (wd : WD e L T) (av : AV B K0 R0 K R) (pp : PP L K R np lm) (hl : lm ≤ 14000) (hu : u + 1 ≤ bc) (hv : v + 6 ≤ bs)
  (hr : ∀ Q : Option Value → r_S → Prop, ((r_I R 2406 = 1 → rm_X12_partitionNamed R (fun r R' => ∃ x : Int32, r = some (.int x) ∧ ((¬ x = -1 → A x R' Q) ∧ (x = -1 → rm_X12_fail R' 6 (r_I R' 2407) (fun r R'' => ∃ y : Int32, r = some (.int y) ∧ D R'' Q))))) ∧ (¬ r_I R 2406 = 1 → rm_X12_failHere R 1 (fun r R' => ∃ y : Int32, r = some (.int y) ∧ D R' Q))) → RM Q)
  (hF : ∀ p : Nat, p < np → AV B K0 R0 K (F p) ∧ ∀ Q : Option Value → r_S → Prop, rm_X12_next (F p) (fun r R' => r = none ∧ Y p R' Q) → A (nI p) R Q)
  (hX1 : ∀ (p : Nat) (K' : c_S) (R' : r_S) (w q : Int32), p < np → CZ K0 K' → FD w q R0 R' → r_PE R' → TOKf K K' (F p) R' → (∀ Q : Option Value → r_S → Prop, Y p R' Q → RM Q) → E "java/lang/IllegalArgumentException" (c_E L (k_fl K' w q) T))
  (hX2 : ∀ (K' : c_S) (R' : r_S) (w q : Int32), CZ K0 K' → FD w q R0 R' → r_DE R' → (∀ Q : Option Value → r_S → Prop, D R' Q → RM Q) → E "java/lang/IllegalArgumentException" (c_E L (k_fl K' w q) T))
  (hN : ∀ (p : Nat) (K' : c_S) (R' : r_S), p < np → AV B K0 R0 K' R' → TOKf K K' (F p) R' → (∀ Q : Option Value → r_S → Prop, Y p R' Q → RM Q) → X 0 0 (some (c_ob L 5 p)) (c_E L K' T)) :
  ∃ m m' : Nat, (u + m ≤ bc ∧ v + m' ≤ bs) ∧ wm_X9_readPartitionName m m' (c_E L K T) (c_ob L 9 0) (fun r S' => ∃ r15 : Option Nat, r = some (va_rf r15) ∧ X m m' r15 S') E := by
  have g := WD_g wd
  have np16 := pp.1
  by_cases kd : c_I K 1808 0 = 2
  · have hr := g_pos hr ((AV_name av).1.mp kd)
    obtain ⟨b, sz, z1, z2, z3, z4, z5, z6, z7⟩ := AV_wrd av kd
    have start : ∀ (bc bs : Nat) (Q : Option Value → q_S → Prop) (E : String → q_S → Prop), wb_X9_readPartitionName_17 bc bs 0 0 (c_E L K T) (c_ob L 9 0) Q E → wm_X9_readPartitionName bc bs (c_E L K T) (c_ob L 9 0) Q E := fun bc bs Q E h => ⟨K10 g, by rw [I9 g 1808 rfl]; exact bt_ kd h⟩
    by_cases kn : ∃ p : Nat, p < np ∧ c_J K 1001 p = c_J K 1810 0
    · obtain ⟨p, p1, p2⟩ := kn
      obtain ⟨avF, hF1⟩ := hF p p1
      have m5 := (pp.2.2.1 p p1).1
      have uni : ∀ p' : Nat, p' < np → c_J K 1001 p' = c_J K 1810 0 → p' = p := fun p' a b => pp.2.2.2 p' p a p1 (b.trans p2.symm)
      have hr2 : ∀ Q : Option Value → r_S → Prop, rm_X12_next (F p) (fun r R' => r = none ∧ Y p R' Q) → RM Q := fun Q h => hr Q (re_partitionNamed pp hl z4 z5 z2 z3 z6 (fun p' a1 a2 => by
        rw [uni p' a1 (a2.trans z7.symm)]
        exact ⟨_, rfl, nf_ (nI_m1 (by omega)) (hF1 Q h)⟩) (fun z => absurd (p2.trans z7) (z p p1)))
      have nm : ∀ (bc bs : Nat) (Q : Option Value → q_S → Prop) (E : String → q_S → Prop), wb_X9_readPartitionName_44 bc bs 0 0 (c_E L K T) (c_ob L 9 0) (nI p) Q E → wb_X9_readPartitionName_17 bc bs 0 0 (c_E L K T) (c_ob L 9 0) Q E := fun bc bs Q E h => by
        refine ⟨K10 g, _, P18 g, K7 g, ?_⟩
        rw [c_eJ (g_m9 g) rfl]
        refine um_X6_partitionNamed g K 0 _ (g_m6 g) (Q1 := fun v K3 => K3 = K ∧ v = nI p) (kn_part pp (fun p' a1 a2 => ⟨rfl, by rw [uni p' a1 a2]⟩) (fun z => absurd p2 (z p p1))) (fun v K3 h3 => ⟨_, rfl, ?_⟩)
        obtain ⟨rfl, rfl⟩ := h3
        exact nf_ (nI_m1 (by omega)) h
      have m6 := g_m6 g
      have ma := c_gA g 1200 rfl (by decide) m6
      rcases f_adv1 g (WD_2 wd) avF with ⟨K', R', a1, a2, a3, a4⟩ | ⟨K', R', w, q, a1, ⟨a2, a6, a7⟩, a3, a4⟩
      · refine ⟨0, 0, ⟨by omega, by omega⟩, start _ _ _ _ (nm _ _ _ _ ⟨K10 g, 0, 0, ⟨by omega, by omega⟩, a3 _ _ _ _ ⟨rfl, K10 g, _, P18 g, K7 g, _, c_ga g 1200 rfl rfl (by decide) m6, c_gr g ma 25 rfl, ?_⟩⟩)⟩
        rw [c_gN g ma 16 (by decide), nI_clamp (by omega), c_g5 g m6, c_m5 (by omega) m5]
        exact ⟨vp_in_nI (by omega) (by decide), _, rfl, hN p K' R' p1 a1 a2 (fun Q h => hr2 Q (a4 _ ⟨rfl, h⟩))⟩
      · exact ⟨1, 6, ⟨by omega, by omega⟩, start _ _ _ _ (nm _ _ _ _ ⟨K10 g, 1, 6, ⟨by omega, by omega⟩, a3 _ _ _ _ (by omega) (by omega) (hX1 p K' R' w q p1 a1 a2 a6 a7 (fun Q h => hr2 Q (a4 _ ⟨rfl, h⟩)))⟩)⟩
    · have nk : ∀ p : Nat, p < np → c_J K 1001 p ≠ c_J K 1810 0 := fun p h1 h2 => kn ⟨p, h1, h2⟩
      have hr2 : ∀ Q : Option Value → r_S → Prop, rm_X12_fail R 6 (r_I R 2407) (fun r R' => ∃ x : Int32, r = some (.int x) ∧ D R' Q) → RM Q := fun Q h => hr Q (re_partitionNamed pp hl z4 z5 z2 z3 z6 (fun p' a1 a2 => absurd (a2.trans z7.symm) (nk p' a1)) (fun z => ⟨_, rfl, nt_ rfl h⟩))
      refine ⟨1, 6, ⟨by omega, by omega⟩, start _ _ _ _ ⟨K10 g, _, P18 g, K7 g, ?_⟩⟩
      rw [c_eJ (g_m9 g) rfl]
      refine um_X6_partitionNamed g K 0 _ (g_m6 g) (Q1 := fun v K3 => K3 = K ∧ v = -1) (kn_part pp (fun p' a1 a2 => absurd a2 (nk p' a1)) (fun z => ⟨rfl, rfl⟩)) (fun v K3 h3 => ⟨_, rfl, ?_⟩)
      obtain ⟨rfl, rfl⟩ := h3
      refine nt_ rfl ⟨K10 g, ?_⟩
      rw [I9 g 1811 rfl]
      exact c_flP wd av (by omega) (by omega) (by decide) (AV_pl av) hr2 (fun R' cz hf hr => hX2 _ R' _ _ cz hf (FD_pos hf (by decide)) hr)
  · refine ⟨1, 6, ⟨by omega, by omega⟩, K10 g, ?_⟩
    have hr := g_neg hr (fun z => kd ((AV_name av).1.mpr z))
    rw [I9 g 1808 rfl]
    exact bf_ kd (c_flH wd av (by omega) (by omega) (by decide) hr (fun R' cz hf hr => hX2 K R' _ _ cz hf (FD_pos hf (by decide)) hr))
theorem c_portname {e : EV} {L : c_L} {T : q_S} {B bc bs u v : Nat} {K0 K : c_S} {R0 R : r_S} {p c lm : Nat} {cn : Nat → Nat} {x3 : Int32} {X : Nat → Nat → Int32 → q_S → Prop} {E : String → q_S → Prop} {Y : Int32 → r_S → (Option Value → r_S → Prop) → Prop} {RM : (Option Value → r_S → Prop) → Prop} (wd : WD e L T) (av : AV B K0 R0 K R) (pn : PN L K R p lm cn) (pt : ∀ i : Nat, i < cn 4 → PT1 L K R p 4 i) (p8 : ∀ i : Nat, i < cn 4 → c_I K 2008 (48 * p + (32 + i)) = r_A R 2450 (16 * p + i)) (m5 : c_mk L 5 p) (m1 : c_mk L 1 c) (k0 : c_I K 200 c = nI c) (k1 : c_I K 201 c = r_A R 2454 c) (p16 : p < 16) (c24 : c < 24) (hl : lm ≤ 14000) (hu : u + 1 ≤ bc) (hv : v + 6 ≤ bs)
  (hr : ∀ Q : Option Value → r_S → Prop, r_en2 R (nI c) (nI p) x3 (fun r R' => ∃ x : Int32, r = some (.int x) ∧ Y x R' Q) → RM Q)
  (hX : ∀ (K' : c_S) (R' : r_S) (w q x : Int32), CZ K0 K' → FD w q R0 R' → x ≠ -2 → (r_DE R' ∨ ∀ f i : Nat, f ≠ 2450 → r_A R' f i = r_A R f i) → (∀ Q : Option Value → r_S → Prop, Y x R' Q → RM Q) → E "java/lang/IllegalArgumentException" (c_E L (k_fl K' w q) T))
  (hN : ∀ (i : Nat) (K' : c_S) (R' : r_S), i < cn 4 → AV B K0 R0 K' R' → TOKf (cs_I K 2008 (48 * p + (32 + i)) (nI c)) K' (rs_A R 2450 (16 * p + i) (nI c)) R' → r_A R 2448 (16 * p + i) = x3 → r_A R 2449 (16 * p + i) = r_A R 2454 c → r_A R 2450 (16 * p + i) = -1 → (∀ Q : Option Value → r_S → Prop, Y (nI (16 * p + i)) R' Q → RM Q) → X 0 0 (nI (32 + i)) (c_E L K' T)) :
  ∃ m m' : Nat, (u + m ≤ bc ∧ v + m' ≤ bs) ∧ wm_X9_readPortName m m' (c_E L K T) (c_ob L 9 0) (some (c_ob L 5 p)) (some (c_ob L 1 c)) x3 (fun r S' => ∃ x : Int32, r = some (.int x) ∧ X m m' x S') E := by
  have g := WD_g wd
  have n4 : cn 4 ≤ 16 := pn.1 4 (by decide)
  have nx : ∀ i : Nat, i < 16 → nI (16 * p + i) ≠ -2 := fun i hi => by
    intro z
    have := congrArg Int32.toInt z
    rw [nI_toInt (by omega)] at this
    have e : (-2 : Int32).toInt = -2 := rfl
    omega
  unfold r_en2 at hr
  by_cases kd : c_I K 1808 0 = 2
  · have hr := g_pos hr ((AV_name av).1.mp kd)
    obtain ⟨b, sz, z1, z2, z3, z4, z5, z6, z7⟩ := AV_wrd av kd
    have start : ∀ (bc bs : Nat) (Q : Option Value → q_S → Prop) (E : String → q_S → Prop), wb_X9_readPortName_17 bc bs 0 0 (c_E L K T) (c_ob L 9 0) (some (c_ob L 5 p)) (some (c_ob L 1 c)) x3 Q E → wm_X9_readPortName bc bs (c_E L K T) (c_ob L 9 0) (some (c_ob L 5 p)) (some (c_ob L 1 c)) x3 Q E := fun bc bs Q E h => ⟨K10 g, by rw [I9 g 1808 rfl]; exact bt_ kd h⟩
    by_cases kn : ∃ i : Nat, i < cn 4 ∧ c_J K (n_f 4) (n_i p 4 i) = c_J K 1810 0
    · obtain ⟨i, i1, i2⟩ := kn
      have m10 := pn.2.2.2.2.1 4 i (by decide) i1
      have ix : (16 : Int32) * nI p + nI i = nI (16 * p + i) := by rw [show (16 : Int32) = nI 16 from rfl, pk_mul, nI_add]
      have vi : ∀ f : Nat, r_N f = 256 → vp_in (nI (16 * p + i)) (r_N f) := fun f h => by rw [h]; exact vp_in_nI (by omega) (by decide)
      have hr2 : ∀ Q : Option Value → r_S → Prop, ((¬ r_A R 2448 (16 * p + i) = x3 → rb_X12_end_192 R (fun r R' => ∃ x : Int32, r = some (.int x) ∧ Y x R' Q)) ∧ (r_A R 2448 (16 * p + i) = x3 → ((¬ r_A R 2449 (16 * p + i) = r_A R 2454 c → rb_X12_end_192 R (fun r R' => ∃ x : Int32, r = some (.int x) ∧ Y x R' Q)) ∧ (r_A R 2449 (16 * p + i) = r_A R 2454 c → ((r_A R 2450 (16 * p + i) = -1 → rm_X12_next (rs_A R 2450 (16 * p + i) (nI c)) (fun r R' => r = none ∧ ∃ x : Int32, some (Value.int (nI (16 * p + i))) = some (.int x) ∧ Y x R' Q)) ∧ (¬ r_A R 2450 (16 * p + i) = -1 → rb_X12_end_192 R (fun r R' => ∃ x : Int32, r = some (.int x) ∧ Y x R' Q))))))) → RM Q := fun Q h => hr Q (by
        refine re_thingNamed pn p16 hl z4 z5 z2 z3 z6 (fun k s i' k64 s5 hi' e33 e34 ej => ⟨_, rfl, ?_⟩) (fun z => absurd (i2.trans z7) (z 4 i (by decide) i1))
        obtain ⟨rfl, rfl⟩ := pn.2.2.2.2.2.2 s i' 4 i s5 hi' (by decide) i1 (ej.trans (z7.symm.trans i2.symm))
        refine bf_ (nI_m1 (by omega)) ⟨vp_in_nI (N := 1024) (by omega) (by decide), bt_ ?_ ⟨vp_in_nI (N := 1024) (by omega) (by decide), ?_⟩⟩
        · rw [nI_clamp (by omega)]; exact e33
        · rw [nI_clamp (by omega), e34, ix, nI_clamp (by omega), nI_clamp (by omega)]
          refine ⟨vi _ rfl, fun y => h.1 y, fun y => ⟨vi _ rfl, vp_in_nI (N := 24) c24 (by decide), fun y2 => (h.2 y).1 y2, fun y2 => ⟨vi _ rfl, fun y3 => ⟨vi _ rfl, ((h.2 y).2 y2).1 y3⟩, fun y3 => ((h.2 y).2 y2).2 y3⟩⟩⟩)
      have nm : ∀ (bc bs : Nat) (Q : Option Value → q_S → Prop) (E : String → q_S → Prop), ((¬ c_I K 2006 (48 * p + (32 + i)) = x3 → wb_X9_readPortName_85 bc bs 0 0 (c_E L K T) (c_ob L 9 0) (some (c_ob L 1 c)) (nI i) (some (c_ob L 10 (48 * p + (32 + i)))) Q E) ∧ (c_I K 2006 (48 * p + (32 + i)) = x3 → ((¬ c_I K 2007 (48 * p + (32 + i)) = c_I K 201 c → wb_X9_readPortName_85 bc bs 0 0 (c_E L K T) (c_ob L 9 0) (some (c_ob L 1 c)) (nI i) (some (c_ob L 10 (48 * p + (32 + i)))) Q E) ∧ (c_I K 2007 (48 * p + (32 + i)) = c_I K 201 c → ((c_I K 2008 (48 * p + (32 + i)) = -1 → wb_X9_readPortName_95 bc bs 0 0 (c_E L K T) (c_ob L 9 0) (some (c_ob L 1 c)) (nI i) (some (c_ob L 10 (48 * p + (32 + i)))) Q E) ∧ (¬ c_I K 2008 (48 * p + (32 + i)) = -1 → wb_X9_readPortName_85 bc bs 0 0 (c_E L K T) (c_ob L 9 0) (some (c_ob L 1 c)) (nI i) (some (c_ob L 10 (48 * p + (32 + i)))) Q E)))))) → wb_X9_readPortName_17 bc bs 0 0 (c_E L K T) (c_ob L 9 0) (some (c_ob L 5 p)) (some (c_ob L 1 c)) x3 Q E := fun bc bs Q E h => by
        refine ⟨K10 g, _, rfl, c_gk g m5 6 rfl, ?_⟩
        rw [c_eJ (g_m9 g) rfl]
        refine um_X5_named g K p 4 _ m5 (Q1 := fun v K3 => v = nI i ∧ K3 = K) (kn_named (s := 4) pn (by decide) (nI i) (Or.inl ⟨i, i1, i2, rfl⟩) ⟨rfl, rfl⟩) (fun v K3 h3 => ⟨_, rfl, ?_⟩)
        obtain ⟨rfl, rfl⟩ := h3
        refine ⟨c_gk g m5 6 rfl, um_X5_thingAt g K3 p 4 (nI i) m5 (Q1 := fun r K4 => r = some (48 * p + (32 + i)) ∧ K4 = K3) ?_ (fun r K4 h4 => ⟨_, rfl, ?_⟩)⟩
        · refine bf_ (by decide) (bf_ (by decide) (bf_ ?_ ⟨show vp_in (nI 4) 5 from vp_in_nI (by decide) (by decide), bt_ ?_ ⟨?_, ?_⟩⟩))
          · exact nI_pos (by omega)
          · rw [show (4 : Int32).toNatClampNeg = 4 from rfl, (pn.2.2.1 4 (by decide)).1]
            exact nI_lt i1 (by omega)
          · rw [show (4 : Int32) * 8 = nI 32 from rfl, nI_add]
            exact vp_in_nI (by omega) (by decide)
          · rw [show (4 : Int32) * 8 = nI 32 from rfl, nI_add, nI_clamp (by omega)]
            exact ⟨c_m10 (by omega) m10, rfl⟩
        · obtain ⟨rfl, rfl⟩ := h4
          have k6 : ∀ f : Nat, f / 200 = 10 → q_I (c_E L K4 T) f (c_ob L 10 (48 * p + (32 + i))) = c_I K4 f (48 * p + (32 + i)) := fun f hf => c_eI m10 hf
          have k1' : q_I (c_E L K4 T) 201 (c_ob L 1 c) = c_I K4 201 c := c_eI m1 rfl
          refine nf_ (by intro z; cases z) ⟨_, rfl, c_gk g m10 11 rfl, ?_⟩
          rw [k6 2006 rfl, k6 2007 rfl, k6 2008 rfl]
          refine ⟨h.1, fun y => ⟨_, rfl, c_gk g m1 2 rfl, ?_⟩⟩
          rw [k1']
          exact h.2 y
      have e6 : c_I K 2006 (48 * p + (32 + i)) = r_A R 2448 (16 * p + i) := ((pt i i1).2.2.2 rfl).1
      have e7 : c_I K 2007 (48 * p + (32 + i)) = r_A R 2449 (16 * p + i) := ((pt i i1).2.2.2 rfl).2.1
      rw [e6, e7, k1, p8 i i1] at nm
      have f85 : (∀ Q : Option Value → r_S → Prop, rb_X12_end_192 R (fun r R' => ∃ x : Int32, r = some (.int x) ∧ Y x R' Q) → RM Q) → wb_X9_readPortName_85 1 6 0 0 (c_E L K T) (c_ob L 9 0) (some (c_ob L 1 c)) (nI i) (some (c_ob L 10 (48 * p + (32 + i)))) (fun r S' => ∃ x : Int32, r = some (.int x) ∧ X 1 6 x S') E := fun hr => by
        unfold rb_X12_end_192 at hr
        refine ⟨K10 g, ?_⟩
        rw [I9 g 1811 rfl]
        exact c_flP wd av (by omega) (by omega) (by decide) (AV_pl av) hr (fun R' cz hf hr => hX _ R' _ _ (-1) cz hf (by decide) (Or.inl (FD_pos hf (by decide))) (fun Q h => hr Q ⟨_, rfl, h⟩))
      by_cases c6 : r_A R 2448 (16 * p + i) = x3
      · have hr := g_npos hr2 c6
        by_cases c7 : r_A R 2449 (16 * p + i) = r_A R 2454 c
        · have hr := g_npos hr c7
          by_cases c8 : r_A R 2450 (16 * p + i) = -1
          · have hr := g_pos hr c8
            have av2 : AV B K0 R0 (cs_I K 2008 (48 * p + (32 + i)) (nI c)) (rs_A R 2450 (16 * p + i) (nI c)) := AV_a (AV_I av (by decide)) (by decide)
            have e95 : ∀ (bc bs : Nat) (Q : Option Value → q_S → Prop) (E : String → q_S → Prop), wb_X9_readPortName_104 bc bs 0 0 (c_E L (cs_I K 2008 (48 * p + (32 + i)) (nI c)) T) (c_ob L 9 0) (nI i) Q E → wb_X9_readPortName_95 bc bs 0 0 (c_E L K T) (c_ob L 9 0) (some (c_ob L 1 c)) (nI i) (some (c_ob L 10 (48 * p + (32 + i)))) Q E := fun bc bs Q E h => by
              refine ⟨_, rfl, c_gk g m1 2 rfl, _, rfl, c_gk g m10 11 rfl, ?_⟩
              rw [c_eI m1 rfl, k0, c_eIs (c_gw g) m10 rfl]
              exact h
            rcases f_adv1 g (WD_2 wd) av2 with ⟨K', R', a1, a2, a3, a4⟩ | ⟨K', R', w, q, a1, ⟨a2, a6, a7⟩, a3, a4⟩
            · refine ⟨0, 0, ⟨by omega, by omega⟩, start _ _ _ _ (nm _ _ _ _ (nt_ c6 (nt_ c7 (bt_ c8 (e95 _ _ _ _ ⟨K10 g, 0, 0, ⟨by omega, by omega⟩, a3 _ _ _ _ ⟨rfl, _, rfl, ?_⟩⟩)))))⟩
              rw [show (32 : Int32) = nI 32 from rfl, nI_add]
              exact hN i K' R' i1 a1 a2 c6 c7 c8 (fun Q h => hr Q (a4 _ ⟨rfl, _, rfl, h⟩))
            · exact ⟨1, 6, ⟨by omega, by omega⟩, start _ _ _ _ (nm _ _ _ _ (nt_ c6 (nt_ c7 (bt_ c8 (e95 _ _ _ _ ⟨K10 g, 1, 6, ⟨by omega, by omega⟩, a3 _ _ _ _ (by omega) (by omega) (hX K' R' w q _ a1 a2 (nx i (by omega)) (Or.inr (fun f j hf => (TOKf_a a7 f j).trans (by rw [r_AA, if_neg (fun z => hf z.1)]))) (fun Q h => hr Q (a4 _ ⟨rfl, _, rfl, h⟩)))⟩)))))⟩
          · exact ⟨1, 6, ⟨by omega, by omega⟩, start _ _ _ _ (nm _ _ _ _ (nt_ c6 (nt_ c7 (bf_ c8 (f85 (g_neg hr c8))))))⟩
        · exact ⟨1, 6, ⟨by omega, by omega⟩, start _ _ _ _ (nm _ _ _ _ (nt_ c6 (nf_ c7 (f85 (g_nneg hr c7)))))⟩
      · exact ⟨1, 6, ⟨by omega, by omega⟩, start _ _ _ _ (nm _ _ _ _ (nf_ c6 (f85 (g_nneg hr2 c6))))⟩
    · have nk : ∀ i : Nat, i < cn 4 → c_J K (n_f 4) (n_i p 4 i) ≠ c_J K 1810 0 := fun i h1 h2 => kn ⟨i, h1, h2⟩
      have hr2 : ∀ Q : Option Value → r_S → Prop, rb_X12_end_126 R (fun r R' => ∃ x : Int32, r = some (.int x) ∧ Y x R' Q) → RM Q := fun Q h => hr Q (by
        refine re_thingNamed pn p16 hl z4 z5 z2 z3 z6 (fun k s i' k64 s5 hi' e33 e34 ej => ⟨_, rfl, ?_⟩) (fun z => ⟨_, rfl, bt_ rfl h⟩)
        refine bf_ (nI_m1 (by omega)) ⟨vp_in_nI (N := 1024) (by omega) (by decide), bf_ ?_ h⟩
        rw [nI_clamp (by omega), e33]
        intro y
        have : s = 4 := (nI_eq (by omega) (by decide)).mp (y.trans (show (4 : Int32) = nI 4 from rfl))
        subst this
        exact nk i' hi' (ej.trans z7.symm))
      unfold rb_X12_end_126 at hr2
      refine ⟨1, 6, ⟨by omega, by omega⟩, start _ _ _ _ ⟨K10 g, _, rfl, c_gk g m5 6 rfl, ?_⟩⟩
      rw [c_eJ (g_m9 g) rfl]
      refine um_X5_named g K p 4 _ m5 (Q1 := fun v K3 => v = -1 ∧ K3 = K) (kn_named (s := 4) pn (by decide) (-1) (Or.inr ⟨nk, rfl⟩) ⟨rfl, rfl⟩) (fun v K3 h3 => ⟨_, rfl, ?_⟩)
      obtain ⟨rfl, rfl⟩ := h3
      refine ⟨c_gk g m5 6 rfl, um_X5_thingAt g K3 p 4 (-1) m5 (Q1 := fun r K4 => r = none ∧ K4 = K3) (bf_ (by decide) (bf_ (by decide) (bt_ (by decide) ⟨rfl, rfl⟩))) (fun r K4 h4 => ⟨_, rfl, ?_⟩)⟩
      obtain ⟨rfl, rfl⟩ := h4
      refine nt_ rfl ⟨K10 g, ?_⟩
      rw [I9 g 1811 rfl]
      exact c_flP wd av (by omega) (by omega) (by decide) (AV_pl av) hr2 (fun R' cz hf hr => hX _ R' _ _ (-1) cz hf (by decide) (Or.inl (FD_pos hf (by decide))) (fun Q h => hr Q ⟨_, rfl, h⟩))
  · refine ⟨1, 6, ⟨by omega, by omega⟩, K10 g, ?_⟩
    have hr := g_neg hr (fun z => kd ((AV_name av).1.mpr z))
    rw [I9 g 1808 rfl]
    exact bf_ kd (c_flH wd av (by omega) (by omega) (by decide) hr (fun R' cz hf hr => hX K R' _ _ (-1) cz hf (by decide) (Or.inl (FD_pos hf (by decide))) (fun Q h => hr Q ⟨_, rfl, h⟩)))
