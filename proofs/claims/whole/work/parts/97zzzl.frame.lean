/-! The frame. -/
theorem fs_number1 {w q : Int32} {R0 R : r_S} {c d e : Int32} {Y : Int32 → r_S → (Option Value → r_S → Prop) → Prop} {RM : (Option Value → r_S → Prop) → Prop} (hf : FD w q R0 R) (hr : ∀ Q : Option Value → r_S → Prop, rm_X12_number R c d e (fun r R' => ∃ x : Int32, r = some (.int x) ∧ Y x R' Q) → RM Q) : ∃ R' : r_S, FD w q R0 R' ∧ r_DE R' ∧ (∀ f : Nat, f < 2405 ∨ 2412 < f → r_I R' f = r_I R f) ∧ ∀ Q : Option Value → r_S → Prop, Y 0 R' Q → RM Q := by
  rcases FD_c hf with d | p
  · exact ⟨R, hf, d, fun _ _ => rfl, fun Q h => hr Q (re_number_d d ⟨_, rfl, h⟩)⟩
  · exact ⟨r_bad R, FD_bad hf p, bad_de, fun f hf => by unfold r_bad; rw [r_II, if_neg (by omega), r_II, if_neg (by omega)], fun Q h => hr Q (re_number_p p ⟨_, rfl, h⟩)⟩
theorem f_fl1 {L : c_L} {T : q_S} {B : Nat} {K0 K : c_S} {R0 R : r_S} {w z : Int32} (g : c_G L T) (av : AV B K0 R0 K R) (hw : 0 < w.toInt) :
  ∃ R' : r_S, R' = rs_I (rs_I R 2411 w) 2412 z ∧ CZ K0 K ∧ FD w z R0 R' ∧ (∀ (bc bs : Nat) (Q : Option Value → q_S → Prop) (E : String → q_S → Prop), 1 ≤ bc → 6 ≤ bs → E "java/lang/IllegalArgumentException" (c_E L (k_fl K w z) T) → wm_X9_fail bc bs (c_E L K T) (c_ob L 9 0) w z Q E) ∧ (∀ Q : Option Value → r_S → Prop, Q (some (.int 0)) R' → rm_X12_fail R w z Q) ∧ (z = r_I R 2407 → ∀ Q : Option Value → r_S → Prop, Q (some (.int 0)) R' → rm_X12_failHere R w Q) := by
  refine ⟨rs_I (rs_I R 2411 w) 2412 z, rfl, av.2.2.2.2.2, ⟨RZ_I (RZ_I av.2.2.2.2.1 (by decide)) (by decide), Or.inl ⟨hw, rfl, rfl⟩⟩, fun bc bs Q E hu hv h => um_fail g hu hv h, fun Q h => nt_ av.2.2.2.1 h, fun e Q h => nf_ (AV_n5 av) (nt_ av.2.2.2.1 ⟨_, rfl, nb_0, ?_⟩)⟩
  rw [← e]
  exact h
theorem f_num1 {L : c_L} {T : q_S} {B : Nat} {K0 K : c_S} {R0 R : r_S} {c1 c2 c3 d1 d2 : Int32} (g : c_G L T) (h2 : ∃ z : Nat, q_K T z = 31 ∧ q_N T z = 2) (av : AV B K0 R0 K R) (h3 : ¬ c3 ≤ 0) (hq : ∀ v : Int32, v - v / c3 * c3 = 0 → ((¬ v < c1 ∧ ¬ c2 < v) ↔ (¬ v < d1 ∧ ¬ d2 < v))) :
  (∃ (K' : c_S) (R' : r_S) (n : Int32), AV B K0 R0 K' R' ∧ TOKf K K' R R' ∧ ((¬ n < d1 ∧ ¬ d2 < n) ∧ n - n / c3 * c3 = 0) ∧ (∀ (bc bs : Nat) (Q : Option Value → q_S → Prop) (E : String → q_S → Prop), Q (some (.int n)) (c_E L K' T) → wm_X9_number bc bs (c_E L K T) (c_ob L 9 0) c1 c2 c3 Q E) ∧ ∀ Q : Option Value → r_S → Prop, Q (some (.int n)) R' → rm_X12_number R d1 d2 c3 Q) ∨
  ∃ (K' : c_S) (R' : r_S) (w q x : Int32), CZ K0 K' ∧ (FD w q R0 R' ∧ ∀ f : Nat, f < 2405 ∨ 2412 < f → r_I R' f = r_I R f) ∧ (∀ (bc bs : Nat) (Q : Option Value → q_S → Prop) (E : String → q_S → Prop), 1 ≤ bc → 6 ≤ bs → E "java/lang/IllegalArgumentException" (c_E L (k_fl K' w q) T) → wm_X9_number bc bs (c_E L K T) (c_ob L 9 0) c1 c2 c3 Q E) ∧ ∀ Q : Option Value → r_S → Prop, Q (some (.int x)) R' → rm_X12_number R d1 d2 c3 Q := by
  have r0 := av.2.2.2.1
  have le : r_I R 2411 ≤ 0 := by rw [r0]; decide
  have n0 : ¬ c3 = 0 := fun z => h3 (by rw [z]; decide)
  by_cases c : c_I K 1808 0 = 3
  · have c' := (AV_num av).1.mp c
    have ev := (AV_num av).2 c
    by_cases ok : (¬ r_I R 2408 < d1 ∧ ¬ d2 < r_I R 2408) ∧ r_I R 2408 - r_I R 2408 / c3 * c3 = 0
    · have ok' := (hq _ ok.2).mpr ok.1
      have cl : ∀ (bc bs : Nat) (Q : Option Value → q_S → Prop) (E : String → q_S → Prop), (∃ m m' : Nat, (0 + m ≤ bc ∧ 0 + m' ≤ bs) ∧ wm_X9_advance m m' (c_E L K T) (c_ob L 9 0) (fun r S' => r = none ∧ Q (some (.int (r_I R 2408))) S') E) → wm_X9_number bc bs (c_E L K T) (c_ob L 9 0) c1 c2 c3 Q E := fun bc bs Q E h => ⟨K10 g, by
        unfold wb_X9_number_17 wb_X9_number_55
        rw [I9 g 1808 rfl, I9 g 1809 rfl, ev]
        exact bt_ c ⟨K10 g, bf_ ok'.1 (bf_ ok'.2 (bf_ h3 ⟨n0, bt_ ok.2 ⟨K10 g, h⟩⟩))⟩⟩
      have rl : ∀ Q : Option Value → r_S → Prop, rm_X12_next R (fun r R' => r = none ∧ Q (some (.int (r_I R 2408))) R') → rm_X12_number R d1 d2 c3 Q := fun Q h => bt_ le (bt_ c' (bf_ ok.1.1 (bf_ ok.1.2 ⟨n0, bt_ ok.2 h⟩)))
      rcases f_adv1 g h2 av with ⟨K', R', a1, a2, a3, a4⟩ | ⟨K', R', w, q, a1, ⟨a2, _, a7⟩, a3, a4⟩
      · exact Or.inl ⟨K', R', _, a1, a2, ok, fun bc bs Q E h => cl bc bs Q E ⟨0, 0, ⟨by omega, by omega⟩, a3 _ _ _ _ ⟨rfl, h⟩⟩, fun Q h => rl Q (a4 _ ⟨rfl, h⟩)⟩
      · exact Or.inr ⟨K', R', w, q, _, a1, ⟨a2, fun f hf => a7.2.2.2.1 f (fun m => by have := (by decide : ∀ f ∈ [2405, 2406, 2407, 2408, 2409, 2410], 2405 ≤ f ∧ f ≤ 2412) f m; omega)⟩, fun bc bs Q E hu hv h => cl bc bs Q E ⟨1, 6, ⟨by omega, by omega⟩, a3 _ _ _ _ (by omega) (by omega) h⟩, fun Q h => rl Q (a4 _ ⟨rfl, h⟩)⟩
    · obtain ⟨R', eR, a1, a2, a3, a4, a5⟩ := f_fl1 (w := 5) (z := r_I R 2407) g av (by decide)
      refine Or.inr ⟨K, R', 5, r_I R 2407, r_I R 2408, a1, ⟨a2, fun f hf => by rw [eR, r_II, if_neg (by omega), r_II, if_neg (by omega)]⟩, fun bc bs Q E hu hv h => ⟨K10 g, ?_⟩, fun Q h => bt_ le (bt_ c' ?_)⟩
      · unfold wb_X9_number_17 wb_X9_number_46
        rw [I9 g 1808 rfl, I9 g 1809 rfl, I9 g 1811 rfl, AV_pl av, ev]
        have f : q_K (c_E L K T) (c_ob L 9 0) = 10 ∧ ∃ m m' : Nat, (0 + m ≤ bc ∧ 0 + m' ≤ bs) ∧ wm_X9_fail m m' (c_E L K T) (c_ob L 9 0) 5 (r_I R 2407) (fun r S' => r = none ∧ wb_X9_number_55 bc bs (0 + m) (0 + m') S' (c_ob L 9 0) Q E) E := ⟨K10 g, 1, 6, ⟨by omega, by omega⟩, a3 _ _ _ _ (by omega) (by omega) h⟩
        refine bt_ c ⟨K10 g, ?_⟩
        by_cases o1 : r_I R 2408 < c1
        · exact bt_ o1 f
        · refine bf_ o1 ?_
          by_cases o2 : c2 < r_I R 2408
          · exact bt_ o2 f
          · exact bf_ o2 (bf_ h3 ⟨n0, bf_ (fun z => ok ⟨(hq _ z).mp ⟨o1, o2⟩, z⟩) f⟩)
      · have f : rb_X12_number_50 R (r_I R 2408) Q := a4 _ ⟨_, rfl, h⟩
        by_cases o1 : r_I R 2408 < d1
        · exact bt_ o1 f
        · refine bf_ o1 ?_
          by_cases o2 : d2 < r_I R 2408
          · exact bt_ o2 f
          · exact bf_ o2 ⟨n0, bf_ (fun z => ok ⟨⟨o1, o2⟩, z⟩) f⟩
  · have c' := fun z => c ((AV_num av).1.mpr z)
    obtain ⟨R', eR, a1, a2, a3, a4, a5⟩ := f_fl1 (w := 1) (z := r_I R 2407) g av (by decide)
    refine Or.inr ⟨K, R', 1, r_I R 2407, 0, a1, ⟨a2, fun f hf => by rw [eR, r_II, if_neg (by omega), r_II, if_neg (by omega)]⟩, fun bc bs Q E hu hv h => ⟨K10 g, ?_⟩, fun Q h => bt_ le (bf_ c' (a5 rfl _ ⟨_, rfl, h⟩))⟩
    rw [I9 g 1808 rfl, I9 g 1811 rfl, AV_pl av]
    exact bf_ c ⟨1, 6, ⟨by omega, by omega⟩, a3 _ _ _ _ (by omega) (by omega) h⟩

theorem c_num1 {e : EV} {L : c_L} {T : q_S} {B bc bs u v : Nat} {K0 K : c_S} {R0 R : r_S} {c1 c2 c3 d1 d2 : Int32} {X : Nat → Nat → Int32 → q_S → Prop} {E : String → q_S → Prop} {Y : Int32 → r_S → (Option Value → r_S → Prop) → Prop} {RM : (Option Value → r_S → Prop) → Prop} (wd : WD e L T) (av : AV B K0 R0 K R) (hu : u + 1 ≤ bc) (hv : v + 6 ≤ bs) (h3 : ¬ c3 ≤ 0) (hq : ∀ v : Int32, v - v / c3 * c3 = 0 → ((¬ v < c1 ∧ ¬ c2 < v) ↔ (¬ v < d1 ∧ ¬ d2 < v))) (hr : ∀ Q : Option Value → r_S → Prop, rm_X12_number R d1 d2 c3 (fun r R' => ∃ x : Int32, r = some (.int x) ∧ Y x R' Q) → RM Q)
  (hX : ∀ (K' : c_S) (R' : r_S) (w q x : Int32), CZ K0 K' → FD w q R0 R' → (∀ f : Nat, f < 2405 ∨ 2412 < f → r_I R' f = r_I R f) → (∀ Q : Option Value → r_S → Prop, Y x R' Q → RM Q) → E "java/lang/IllegalArgumentException" (c_E L (k_fl K' w q) T))
  (hN : ∀ (K' : c_S) (R' : r_S) (n : Int32), AV B K0 R0 K' R' → TOKf K K' R R' → ((¬ n < d1 ∧ ¬ d2 < n) ∧ n - n / c3 * c3 = 0) → (∀ Q : Option Value → r_S → Prop, Y n R' Q → RM Q) → X 0 0 n (c_E L K' T)) :
  ∃ m m' : Nat, (u + m ≤ bc ∧ v + m' ≤ bs) ∧ wm_X9_number m m' (c_E L K T) (c_ob L 9 0) c1 c2 c3 (fun r S' => ∃ x : Int32, r = some (.int x) ∧ X m m' x S') E := by
  rcases f_num1 (WD_g wd) (WD_2 wd) av h3 hq with ⟨K', R', n, a1, a2, a5, a3, a4⟩ | ⟨K', R', w, q, x, a1, ⟨a2, a5⟩, a3, a4⟩
  · exact ⟨0, 0, ⟨by omega, by omega⟩, a3 _ _ _ _ ⟨_, rfl, hN K' R' n a1 a2 a5 (fun Q h => hr Q (a4 _ ⟨_, rfl, h⟩))⟩⟩
  · exact ⟨1, 6, ⟨hu, hv⟩, a3 _ _ _ _ (by omega) (by omega) (hX K' R' w q x a1 a2 a5 (fun Q h => hr Q (a4 _ ⟨_, rfl, h⟩)))⟩
/-- what the reference does with a window's length -/
def r_wn (B14 : r_S → Prop) (S S1 : r_S) (x : Int32) (Q : Option Value → r_S → Prop) : Prop := vp_in (r_I S 2417) (r_N 2462) ∧ (vp_in (r_I (rs_A S1 2462 (r_I S 2417).toNatClampNeg x) 2417) (r_N 2462) ∧ (∀ S28_ : r_S, S28_ = (rs_I (rs_A S1 2462 (r_I S 2417).toNatClampNeg x) 2420 ((r_I (rs_A S1 2462 (r_I S 2417).toNatClampNeg x) 2420) + (r_A (rs_A S1 2462 (r_I S 2417).toNatClampNeg x) 2462 (r_I (rs_A S1 2462 (r_I S 2417).toNatClampNeg x) 2417).toNatClampNeg))) → (rm_X12_sign (rs_I S28_ 2417 ((r_I S28_ 2417) + (1 : Int32))) (59 : Int32) (fun r29_ S30_ => ∃ x31_ : Int32, r29_ = some (.int x31_) ∧ (B14 S30_)))))
theorem g_wn {S R : r_S} {nw : Nat} {x : Int32} {BR : (Option Value → r_S → Prop) → r_S → Prop} {RM : (Option Value → r_S → Prop) → Prop} (n24 : nw < 24) (h1 : r_I S 2417 = nI nw) (h2 : r_I R 2417 = nI nw) (hr : ∀ Q : Option Value → r_S → Prop, r_wn (BR Q) S R x Q → RM Q) : ∀ Q : Option Value → r_S → Prop, rm_X12_sign (rs_I (rs_I (rs_A R 2462 nw x) 2420 (r_I R 2420 + x)) 2417 (nI (nw + 1))) 59 (fun r S => ∃ x : Int32, r = some (.int x) ∧ BR Q S) → RM Q := by
  have v : vp_in (nI nw) (r_N 2462) := vp_in_nI (N := 24) n24 (by decide)
  have vc : (nI nw).toNatClampNeg = nw := nI_clamp (by omega)
  unfold r_wn at hr
  rw [h1] at hr
  have hr := g_and hr v
  rw [vc] at hr
  have h2' : r_I (rs_A R 2462 nw x) 2417 = nI nw := h2
  rw [h2'] at hr
  have hr := g_so (g_and hr v)
  have e : r_A (rs_A R 2462 nw x) 2462 nw = x := by rw [r_AA, if_pos ⟨rfl, rfl⟩]
  rw [vc, e] at hr
  have e2 : r_I (rs_I (rs_A R 2462 nw x) 2420 (r_I (rs_A R 2462 nw x) 2420 + x)) 2417 = nI nw := by
    rw [r_II, if_neg (by decide)]
    exact h2
  rw [e2, nI_1] at hr
  exact hr
theorem fd_wn {w q : Int32} {R0 S R : r_S} {nw : Nat} {x : Int32} {BR : (Option Value → r_S → Prop) → r_S → Prop} {RM : (Option Value → r_S → Prop) → Prop} (n24 : nw < 24) (h1 : r_I S 2417 = nI nw) (h2 : r_I R 2417 = nI nw) (hf : FD w q R0 R) (hr : ∀ Q : Option Value → r_S → Prop, r_wn (BR Q) S R x Q → RM Q) : ∃ R' : r_S, FD w q R0 R' ∧ ∀ Q : Option Value → r_S → Prop, BR Q R' → RM Q := by
  obtain ⟨R', hf, de, hr⟩ := fs_sign (FD_I (FD_I (FD_A hf (by decide)) (by decide) (by decide)) (by decide) (by decide)) (g_wn n24 h1 h2 hr)
  exact ⟨R', hf, hr⟩
theorem fd_14 {w q : Int32} {R0 R : r_S} {d : Nat} {RM : (Option Value → r_S → Prop) → Prop} (hf : FD w q R0 R) (hr : ∀ Q : Option Value → r_S → Prop, rl_X12_readFrame_14 (d + 1) R Q → RM Q) : ∃ R' : r_S, FD w q R0 R' ∧ r_DE R' ∧ ∀ Q : Option Value → r_S → Prop, Q none R' → RM Q := by
  have hr : ∀ Q : Option Value → r_S → Prop, rb_X12_readFrame_14 (fun S => rl_X12_readFrame_14 d S Q) R Q → RM Q := hr
  unfold rb_X12_readFrame_14 rb_X12_readFrame_160 rb_X12_readFrame_187 at hr
  rcases FD_c hf with de | pe
  · obtain ⟨R', hf, de, hr⟩ := fs_sign hf (g_nneg hr (de_n0 de))
    exact ⟨R', hf, de, g_nneg hr (de_n0 de)⟩
  · have hr := g_npos hr pe.1
    have go : (∀ Q : Option Value → r_S → Prop, rb_X12_readFrame_37 (fun S => rl_X12_readFrame_14 d S Q) R Q → RM Q) → ∃ R' : r_S, FD w q R0 R' ∧ r_DE R' ∧ ∀ Q : Option Value → r_S → Prop, Q none R' → RM Q := fun hr => by
      unfold rb_X12_readFrame_37 at hr
      by_cases z : r_I R 2417 = 24
      · obtain ⟨R', hf, de, hr⟩ := fs_failHere hf (g_npos hr z)
        exact ⟨R', hf, de, hr⟩
      · obtain ⟨R', hf, de, hr⟩ := fs_failHere hf (g_neg (g_nneg hr z) (by rw [pe.2]; decide))
        exact ⟨R', hf, de, hr⟩
    by_cases z : r_I R 2417 = 0
    · exact go (g_pos hr z)
    · exact go (g_npos (fs_isSign hf (g_neg hr z)) rfl)
/-- the windows as read -/
def WNS (np : Nat) (K : c_S) (R : r_S) (nw : Nat) (wo we : Nat → Nat) : Prop := (nw ≤ 24 ∧ c_I K 1209 0 = nI nw ∧ r_I R 2417 = nI nw) ∧ (we 0 = 0 ∧ r_I R 2420 = nI (we nw)) ∧ ∀ i : Nat, i < nw → wo i < np ∧ c_A K 1207 0 i = nI (wo i) ∧ r_A R 2461 i = nI (wo i) ∧ c_A K 1208 0 i = nI (we (i + 1)) ∧ we i < we (i + 1) ∧ we (i + 1) ≤ we i + 200 ∧ r_A R 2462 i = nI (we (i + 1) - we i)
def uI (f i : Nat) : Prop := (f / 200 = 9 ∧ 1806 < f) ∨ (f = 1209 ∧ i = 0)
def uA (f i : Nat) : Prop := (f = 1207 ∨ f = 1208) ∧ i = 0
def ui (f : Nat) : Prop := mi f ∨ f = 2417 ∨ f = 2420
def ua (f i : Nat) : Prop := f = 2461 ∨ f = 2462
theorem OF_u {K K1 K2 : c_S} {R R1 R2 : r_S} (h : OF uI uA ui ua K R K1 R1) (t : TOKf K1 K2 R1 R2) : OF uI uA ui ua K R K2 R2 := OF_k h t (fun f i z => by unfold uI; omega) (fun f a b => Or.inl ⟨a, b⟩)
/-- between two windows -/
def FS (e : EV) (B : Nat) (K0 : c_S) (R0 : r_S) (np lm : Nat) (Kf : c_S) (Rf : r_S) (L : c_L) (T : q_S) (K : c_S) (R : r_S) (nw : Nat) (wo we : Nat → Nat) : Prop := WD e L T ∧ AV B K0 R0 K R ∧ PP L K R np lm ∧ (∀ p : Nat, p < np → c_I K 1000 p = nI p) ∧ WNS np K R nw wo we ∧ OF uI uA ui ua Kf Rf K R ∧ lm ≤ 14000
theorem FS_t {e : EV} {B : Nat} {K0 Kf K K' : c_S} {R0 Rf R R' : r_S} {np lm : Nat} {L : c_L} {T : q_S} {nw : Nat} {wo we : Nat → Nat} (fs : FS e B K0 R0 np lm Kf Rf L T K R nw wo we) (t : TOKf K K' R R') (av' : AV B K0 R0 K' R') : FS e B K0 R0 np lm Kf Rf L T K' R' nw wo we := by
  obtain ⟨wd, av, pp, p1, ⟨⟨a1, a2, a3⟩, ⟨b1, b2⟩, c⟩, of, hl⟩ := fs
  refine ⟨wd, av', PP_t pp t, fun p hp => (t.1 1000 p (by decide)).trans (p1 p hp), ⟨⟨a1, (t.1 1209 0 (by decide)).trans a2, (t.2.2.2.1 2417 (by decide)).trans a3⟩, ⟨b1, (t.2.2.2.1 2420 (by decide)).trans b2⟩, fun i hi => ?_⟩, OF_u of t, hl⟩
  rw [TOKf_A t, TOKf_A t, TOKf_a t, TOKf_a t]
  exact c i hi
theorem ke_addWindow {L : c_L} {K : c_S} {R : r_S} {np nw n : Nat} {wo we : Nat → Nat} {x : Int32} {Q : c_S → Prop} (wn : WNS np K R nw wo we) (n24 : nw < 24) (h : Q (cs_I (cs_A (cs_A K 1207 0 nw x) 1208 0 nw (nI (we nw + n))) 1209 0 (nI (nw + 1)))) : km_X6_addWindow L K 0 x (nI n) Q := by
  obtain ⟨⟨a1, a2, a3⟩, ⟨b1, b2⟩, c⟩ := wn
  have v : vp_in (nI nw) 24 := vp_in_nI n24 (by decide)
  have vc : (nI nw).toNatClampNeg = nw := nI_clamp (by omega)
  have a2' : c_I (cs_A K 1207 0 nw x) 1209 0 = nI nw := a2
  unfold km_X6_addWindow km_X6_frameTicks kb_X6_addWindow_44 kb_X6_frameTicks_22
  rw [a2, vc, a2', vc]
  have fin : vp_in (nI nw) 24 ∧ ∀ S15_ : c_S, S15_ = cs_I (cs_A (cs_A K 1207 0 nw x) 1208 0 nw (nI (we nw) + nI n)) 1209 0 (c_I (cs_A (cs_A K 1207 0 nw x) 1208 0 nw (nI (we nw) + nI n)) 1209 0 + 1) → Q S15_ := ⟨v, fun S15 e => by
    have a3 : c_I (cs_A (cs_A K 1207 0 nw x) 1208 0 nw (nI (we nw) + nI n)) 1209 0 = nI nw := a2
    rw [e, a3, nI_1, nI_add]
    exact h⟩
  refine bf_ (by rw [show (24 : Int32) = nI 24 from rfl]; exact nI_ge n24 (by decide)) ⟨v, ?_⟩
  by_cases z : nw = 0
  · refine nt_ (by rw [z]; rfl) ?_
    have : (0 : Int32) = nI (we nw) := by rw [z, b1]; rfl
    rw [this]
    exact fin
  · refine nf_ (fun y => z ((nI_eq (by omega) (by decide)).mp (y.trans (show (0 : Int32) = nI 0 from rfl)))) ?_
    rw [show nI nw - (1 : Int32) = nI (nw - 1) from nI_sub (a := nw) (b := 1) (by omega), nI_clamp (n := nw - 1) (by omega)]
    refine ⟨vp_in_nI (by omega) (by decide), ?_⟩
    have e : c_A (cs_A K 1207 0 nw x) 1208 0 (nw - 1) = nI (we nw) := by
      rw [c_AA, if_neg (by omega), (c (nw - 1) (by omega)).2.2.2.1, show nw - 1 + 1 = nw by omega]
    rw [e]
    exact fin
theorem fr_one {e : EV} {B bc bs u v : Nat} {K0 Kf K : c_S} {R0 Rf R : r_S} {np lm nw : Nat} {wo we : Nat → Nat} {L : c_L} {T : q_S} {Q : Option Value → q_S → Prop} {E : String → q_S → Prop} {B14 : Nat → Nat → q_S → Nat → Int32 → Prop} {BR : (Option Value → r_S → Prop) → r_S → Prop} {RM : (Option Value → r_S → Prop) → Prop} (fs : FS e B K0 R0 np lm Kf Rf L T K R nw wo we) (hu : u + 1 ≤ bc) (hv : v + 6 ≤ bs)
  (hr : ∀ Q : Option Value → r_S → Prop, rb_X12_readFrame_37 (BR Q) R Q → RM Q)
  (hX : ∀ (K' : c_S) (R' : r_S) (w q : Int32), CZ K0 K' → FD w q R0 R' → ((∀ Q : Option Value → r_S → Prop, BR Q R' → RM Q) ∨ (r_DE R' ∧ ∀ Q : Option Value → r_S → Prop, Q none R' → RM Q)) → E "java/lang/IllegalArgumentException" (c_E L (k_fl K' w q) T))
  (hN : ∀ (K' : c_S) (R' : r_S) (wo we : Nat → Nat), FS e B K0 R0 np lm Kf Rf L T K' R' (nw + 1) wo we → (∀ Q : Option Value → r_S → Prop, BR Q R' → RM Q) → B14 u v (c_E L K' T) (c_ob L 9 0) (nI (nw + 1))) :
  wb_X9_readFrame_36 bc bs B14 u v (c_E L K T) (c_ob L 9 0) (nI nw) Q E := by
  have fs0 := fs
  obtain ⟨wd, av, pp, p1, ⟨⟨a1, a2, a3⟩, ⟨b1, b2⟩, c⟩, of, hl⟩ := fs
  have g := WD_g wd
  unfold rb_X12_readFrame_37 at hr
  refine ⟨K10 g, _, P18 g, K7 g, ?_⟩
  rw [I6 g 1209 rfl, a2]
  by_cases z24 : nw = 24
  · have hr := g_npos hr (by rw [a3, z24]; rfl)
    exact bf_ (by rw [z24]; decide) (c_flH wd av (by omega) (by omega) (by decide) hr (fun R' cz hf hr => hX K R' _ _ cz hf (Or.inr ⟨FD_pos hf (by decide), hr⟩)))
  have n24 : nw < 24 := by omega
  have hr := g_nneg hr (fun z => z24 ((nI_eq (by omega) (by decide)).mp ((a3.symm.trans z).trans (show (24 : Int32) = nI 24 from rfl))))
  have vc : (nI nw).toNatClampNeg = nw := nI_clamp (by omega)
  refine bt_ (by rw [show (24 : Int32) = nI 24 from rfl]; exact nI_lt n24 (by decide)) ⟨K10 g, c_pname (F := fun p => rs_A R 2461 nw (nI p)) (Y := fun p S Q => rm_X12_number S (1 : Int32) (200 : Int32) (1 : Int32) (fun r16_ S17_ => ∃ x18_ : Int32, r16_ = some (.int x18_) ∧ r_wn (BR Q) S S17_ x18_ Q)) wd av pp hl (by omega) (by omega) hr (fun p hp => ⟨AV_a av (by decide), fun Q h => ?_⟩) (fun p K' R1 w q hp cz hf pe tf hr => ?_) (fun K' R1 w q cz hf de hr => hX K' R1 w q cz hf (Or.inr ⟨de, hr⟩)) (fun p K1 R1 hp av1 tf1 hr => ⟨K10 g, _, rfl, c_gk g (pp.2.2.1 p hp).1 6 rfl, c_num1 wd av1 (by omega) (by omega) (by decide) (fun v _ => Iff.rfl) hr (fun K' R2 w q x cz hf he hr => ?_) (fun K2 R2 x av2 tf2 hx hr => ⟨_, P18 g, K7 g, ?_⟩)⟩)⟩
  · rw [a3, vc]
    exact ⟨vp_in_nI (N := 24) n24 (by decide), h⟩
  · have e17 : r_I R1 2417 = nI nw := (tf.2.2.2.1 2417 (by decide)).trans a3
    obtain ⟨R2, hf, de, e2, hr⟩ := fs_number1 hf hr
    obtain ⟨R3, hf, hr⟩ := fd_wn n24 e17 ((e2 2417 (by decide)).trans e17) hf hr
    exact hX K' R3 w q cz hf (Or.inl hr)
  · have e17 : r_I R1 2417 = nI nw := (tf1.2.2.2.1 2417 (by decide)).trans a3
    obtain ⟨R3, hf, hr⟩ := fd_wn n24 e17 ((he 2417 (by decide)).trans e17) hf hr
    exact hX K' R3 w q cz hf (Or.inl hr)
  · have m5 := (pp.2.2.1 p hp).1
    have e17 : r_I R1 2417 = nI nw := (tf1.2.2.2.1 2417 (by decide)).trans a3
    have e17' : r_I R2 2417 = nI nw := (tf2.2.2.2.1 2417 (by decide)).trans e17
    obtain ⟨n0, rfl, n31, n1, n2⟩ := num_of hx.1 (by decide)
    have n1 : 1 ≤ n0 := by have : (1 : Int32).toInt = 1 := rfl; omega
    have n2 : n0 ≤ 200 := by have : (200 : Int32).toInt = 200 := rfl; omega
    have hr := g_wn n24 e17 e17' hr
    have e20 : r_I R2 2420 = nI (we nw) := (tf2.2.2.2.1 2420 (by decide)).trans ((tf1.2.2.2.1 2420 (by decide)).trans b2)
    rw [e20, nI_add] at hr
    rw [c_eI m5 rfl, tf1.1 1000 p (by decide), p1 p hp]
    have av1' : AV B K0 R0 K (rs_A R 2461 nw (nI p)) := AV_a av (by decide)
    have rr : ∀ f i : Nat, r_A R2 f i = if f = 2461 ∧ i = nw then nI p else r_A R f i := fun f i => by
      rw [TOKf_a tf2, TOKf_a tf1, r_AA]
    have tf : TOKf K K2 (rs_A R 2461 nw (nI p)) R2 := TOKf_t tf1 tf2
    have wn2 : WNS np K2 R2 nw wo we := by
      refine ⟨⟨a1, (tf.1 1209 0 (by decide)).trans a2, e17'⟩, ⟨b1, e20⟩, fun i hi => ?_⟩
      rw [TOKf_A tf, TOKf_A tf, rr, rr, if_neg (by omega), if_neg (by omega)]
      exact c i hi
    refine um_X6_addWindow g K2 0 _ _ (g_m6 g) (Q1 := fun K3 => K3 = cs_I (cs_A (cs_A K2 1207 0 nw (nI p)) 1208 0 nw (nI (we nw + n0))) 1209 0 (nI (nw + 1))) (ke_addWindow wn2 n24 rfl) (fun K3 h3 => ⟨rfl, K10 g, ?_⟩)
    rw [h3]
    have av3 : AV B K0 R0 (cs_I (cs_A (cs_A K2 1207 0 nw (nI p)) 1208 0 nw (nI (we nw + n0))) 1209 0 (nI (nw + 1))) (rs_I (rs_I (rs_A R2 2462 nw (nI n0)) 2420 (nI (we nw + n0))) 2417 (nI (nw + 1))) := AV_i (AV_i (AV_a (AV_I (AV_A (AV_A av2 (by decide)) (by decide)) (by decide)) (by decide)) (by decide) (by decide)) (by decide) (by decide)
    have of3 : OF uI uA ui ua Kf Rf (cs_I (cs_A (cs_A K2 1207 0 nw (nI p)) 1208 0 nw (nI (we nw + n0))) 1209 0 (nI (nw + 1))) (rs_I (rs_I (rs_A R2 2462 nw (nI n0)) 2420 (nI (we nw + n0))) 2417 (nI (nw + 1))) := OF_i (OF_i (OF_a (OF_I (OF_A (OF_A (OF_u (OF_a of (Or.inl rfl)) tf) ⟨Or.inl rfl, rfl⟩) ⟨Or.inr rfl, rfl⟩) (Or.inr ⟨rfl, rfl⟩)) (Or.inr rfl)) (Or.inr (Or.inr rfl))) (Or.inr (Or.inl rfl))
    refine c_sign wd av3 (by omega) (by omega) hr (fun K' R' w q x cz hf hr => hX K' R' w q cz hf (Or.inl hr)) (fun K4 R4 av4 tf4 hr => ?_)
    rw [nI_1]
    refine hN K4 R4 (fun i => if i = nw then p else wo i) (fun i => if i = nw + 1 then we nw + n0 else we i) (FS_t ⟨wd, av3, ?_, fun p hp => (tf.1 1000 p (by decide)).trans (p1 p hp), ⟨⟨by omega, ?_, ?_⟩, ⟨?_, ?_⟩, fun i hi => ?_⟩, of3, hl⟩ tf4 av4) hr
    · refine PP_c pp LX_0 (Nat.le_refl _) (tf.1 1201 0 (by decide)) ?_ (fun p _ => tf.2.1 _ _ (by decide)) (fun p _ => ⟨?_, ?_⟩) (fun i _ => ?_)
      · rw [r_II, if_neg (by decide), r_II, if_neg (by decide)]
        exact tf.2.2.2.1 2415 (by decide)
      · show r_A (rs_A R2 2462 nw (nI n0)) 2423 p = _
        rw [r_AA, if_neg (by omega), rr, if_neg (by omega)]
      · show r_A (rs_A R2 2462 nw (nI n0)) 2424 p = _
        rw [r_AA, if_neg (by omega), rr, if_neg (by omega)]
      · show r_A (rs_A R2 2462 nw (nI n0)) 2421 i = _
        rw [r_AA, if_neg (by omega), rr, if_neg (by omega)]
    · rw [c_II, if_pos ⟨rfl, rfl⟩]
    · rw [r_II, if_pos rfl]
    · show (if 0 = nw + 1 then we nw + n0 else we 0) = 0
      rw [if_neg (by omega)]
      exact b1
    · show r_I (rs_I (rs_I (rs_A R2 2462 nw (nI n0)) 2420 (nI (we nw + n0))) 2417 (nI (nw + 1))) 2420 = nI (if nw + 1 = nw + 1 then we nw + n0 else we (nw + 1))
      rw [r_II, if_neg (by decide), r_II, if_pos rfl, if_pos rfl]
    · show (if i = nw then p else wo i) < np ∧ c_A (cs_A (cs_A K2 1207 0 nw (nI p)) 1208 0 nw (nI (we nw + n0))) 1207 0 i = nI (if i = nw then p else wo i) ∧ r_A (rs_A R2 2462 nw (nI n0)) 2461 i = nI (if i = nw then p else wo i) ∧ c_A (cs_A (cs_A K2 1207 0 nw (nI p)) 1208 0 nw (nI (we nw + n0))) 1208 0 i = nI (if i + 1 = nw + 1 then we nw + n0 else we (i + 1)) ∧ (if i = nw + 1 then we nw + n0 else we i) < (if i + 1 = nw + 1 then we nw + n0 else we (i + 1)) ∧ (if i + 1 = nw + 1 then we nw + n0 else we (i + 1)) ≤ (if i = nw + 1 then we nw + n0 else we i) + 200 ∧ r_A (rs_A R2 2462 nw (nI n0)) 2462 i = nI ((if i + 1 = nw + 1 then we nw + n0 else we (i + 1)) - (if i = nw + 1 then we nw + n0 else we i))
      by_cases y : i = nw
      · rw [if_pos y, if_pos (show i + 1 = nw + 1 by omega), if_neg (show ¬ i = nw + 1 by omega), y, c_AA, if_neg (by omega), c_AA, if_pos ⟨rfl, rfl, rfl⟩, r_AA, if_neg (by omega), rr, if_pos ⟨rfl, rfl⟩, c_AA, if_pos ⟨rfl, rfl, rfl⟩, r_AA, if_pos ⟨rfl, rfl⟩]
        refine ⟨hp, rfl, rfl, rfl, by omega, by omega, ?_⟩
        congr 1
        omega
      · have := c i (by omega)
        rw [if_neg y, if_neg (show ¬ i + 1 = nw + 1 by omega), if_neg (show ¬ i = nw + 1 by omega), c_AA, if_neg (by omega), c_AA, if_neg (by omega), r_AA, if_neg (by omega), rr, if_neg (by omega), c_AA, if_neg (by omega), c_AA, if_neg (by omega), r_AA, if_neg (by omega), rr, if_neg (by omega), TOKf_A tf, TOKf_A tf]
        exact this
theorem fr_loop {e : EV} {B bc bs u v : Nat} {K0 Kf : c_S} {R0 Rf : r_S} {np lm : Nat} {L : c_L} {T : q_S} {Q : Option Value → q_S → Prop} {E : String → q_S → Prop} {RM : (Option Value → r_S → Prop) → Prop} (hu : u + 1 ≤ bc) (hv : v + 6 ≤ bs)
  (hX : ∀ (K' : c_S) (R' : r_S) (w q : Int32), CZ K0 K' → FD w q R0 R' → r_DE R' → (∀ Q : Option Value → r_S → Prop, Q none R' → RM Q) → E "java/lang/IllegalArgumentException" (c_E L (k_fl K' w q) T))
  (hN : ∀ (K' : c_S) (R' : r_S) (nw : Nat) (wo we : Nat → Nat), FS e B K0 R0 np lm Kf Rf L T K' R' nw wo we → 1 ≤ nw → (∀ Q : Option Value → r_S → Prop, Q none R' → RM Q) → Q none (c_E L K' T)) :
  ∀ (d nw : Nat) (K : c_S) (R : r_S) (wo we : Nat → Nat), nw + d = 25 → FS e B K0 R0 np lm Kf Rf L T K R nw wo we → (∀ Q : Option Value → r_S → Prop, rl_X12_readFrame_14 (d + 1) R Q → RM Q) → wl_X9_readFrame_14 bc bs d u v (c_E L K T) (c_ob L 9 0) (nI nw) Q E := by
  intro d
  induction d with
  | zero =>
    intro nw K R wo we h fs hr
    have := fs.2.2.2.2.1.1.1
    omega
  | succ d ih =>
    intro nw K R wo we h fs hr
    have wd := fs.1
    have av := fs.2.1
    have g := WD_g wd
    have r0 := av.2.2.2.1
    have r17 := fs.2.2.2.2.1.1.2.2
    have hr : ∀ Q : Option Value → r_S → Prop, rb_X12_readFrame_14 (fun S => rl_X12_readFrame_14 (d + 1) S Q) R Q → RM Q := hr
    unfold rb_X12_readFrame_14 at hr
    have hr := g_npos hr r0
    show ((24 : Int32) < nI nw → _) ∧ (¬ (24 : Int32) < nI nw → _)
    refine bf_ ?_ ?_
    · rw [show (24 : Int32) = nI 24 from rfl]
      exact nI_nlt (by omega) (by omega)
    have bad : ∀ (K' : c_S) (R' : r_S) (w q : Int32), CZ K0 K' → FD w q R0 R' → ((∀ Q : Option Value → r_S → Prop, rl_X12_readFrame_14 (d + 1) R' Q → RM Q) ∨ (r_DE R' ∧ ∀ Q : Option Value → r_S → Prop, Q none R' → RM Q)) → E "java/lang/IllegalArgumentException" (c_E L (k_fl K' w q) T) := fun K' R' w q cz hf hr => by
      rcases hr with hr | hr
      · obtain ⟨R2, hf, de, hr⟩ := fd_14 (d := d) hf hr
        exact hX K' R2 w q cz hf de hr
      · exact hX K' R' w q cz hf hr.1 hr.2
    have one : (∀ Q : Option Value → r_S → Prop, rb_X12_readFrame_37 (fun S => rl_X12_readFrame_14 (d + 1) S Q) R Q → RM Q) → wb_X9_readFrame_36 bc bs (fun u v S a0 x1 => wl_X9_readFrame_14 bc bs d u v S a0 x1 Q E) u v (c_E L K T) (c_ob L 9 0) (nI nw) Q E := fun hr => fr_one (BR := fun Q S => rl_X12_readFrame_14 (d + 1) S Q) fs hu hv hr bad (fun K' R' wo we fs' hr => ih (nw + 1) K' R' wo we (by omega) fs' hr)
    by_cases z : nw = 0
    · exact bt_ (by rw [z]; decide) (one (g_pos hr (by rw [r17, z]; rfl)))
    · have hr := g_neg hr (fun y => z ((nI_eq (by omega) (by decide)).mp ((r17.symm.trans y).trans (show (0 : Int32) = nI 0 from rfl))))
      refine bf_ ?_ ⟨K10 g, ?_⟩
      · rw [show (0 : Int32) = nI 0 from rfl]
        exact nI_ge (by omega) (by omega)
      by_cases c : c_I K 1808 0 = 4 ∧ c_I K 1809 0 = 125
      · have hr : ∀ Q : Option Value → r_S → Prop, rb_X12_readFrame_160 R Q → RM Q := fun Q h => hr Q (v_sign1 r0 ((AV_S av).mp c) _ ⟨_, rfl, nf_ (by decide) h⟩)
        unfold rb_X12_readFrame_160 rb_X12_readFrame_187 at hr
        refine u_seesSign1 g c _ ⟨_, rfl, bf_ (by decide) ⟨K10 g, c_sign wd av (by omega) (by omega) hr (fun K' R1 w q x cz hf hr => ?_) (fun K1 R1 av1 tf1 hr => ⟨K10 g, ?_⟩)⟩⟩
        · rcases FD_c hf with de | pe
          · exact hX K' R1 w q cz hf de (g_nneg hr (de_n0 de))
          · obtain ⟨R2, hf, de, hr⟩ := fs_failHere hf (g_neg (g_npos hr pe.1) (by rw [pe.2]; decide))
            exact hX K' R2 w q cz hf de hr
        · have hr := g_npos hr av1.2.2.2.1
          rw [I9 g 1808 rfl]
          by_cases y : c_I K1 1808 0 = 0
          · exact bt_ y (hN K1 R1 nw wo we (FS_t fs tf1 av1) (by omega) (g_pos hr ((AV_name av1).2.mp y)))
          · exact bf_ y (c_flH wd av1 (by omega) (by omega) (by decide) (g_neg hr (fun x => y ((AV_name av1).2.mpr x))) (fun R' cz hf hr => hX K1 R' _ _ cz hf (FD_pos hf (by decide)) hr))
      · have hr : ∀ Q : Option Value → r_S → Prop, rb_X12_readFrame_37 (fun S => rl_X12_readFrame_14 (d + 1) S Q) R Q → RM Q := fun Q h => hr Q (v_sign0 r0 (fun x => c ((AV_S (k := 125) av).mpr x)) _ ⟨_, rfl, nt_ rfl h⟩)
        exact u_seesSign0 g c _ ⟨_, rfl, bt_ rfl (one hr)⟩
theorem c_frame {e : EV} {B bc bs : Nat} {K0 Kf K : c_S} {R0 Rf R : r_S} {np lm : Nat} {L : c_L} {T : q_S} {Q : Option Value → q_S → Prop} {E : String → q_S → Prop} {RM : (Option Value → r_S → Prop) → Prop} (fs : FS e B K0 R0 np lm Kf Rf L T K R 0 (fun _ => 0) (fun _ => 0)) (hu : 1 ≤ bc) (hv : 6 ≤ bs)
  (hr : ∀ Q : Option Value → r_S → Prop, rm_X12_readFrame R Q → RM Q)
  (hX : ∀ (K' : c_S) (R' : r_S) (w q : Int32), CZ K0 K' → FD w q R0 R' → r_DE R' → (∀ Q : Option Value → r_S → Prop, Q none R' → RM Q) → E "java/lang/IllegalArgumentException" (c_E L (k_fl K' w q) T))
  (hN : ∀ (K' : c_S) (R' : r_S) (nw : Nat) (wo we : Nat → Nat), FS e B K0 R0 np lm Kf Rf L T K' R' nw wo we → 1 ≤ nw → (∀ Q : Option Value → r_S → Prop, Q none R' → RM Q) → Q none (c_E L K' T)) :
  wm_X9_readFrame bc bs (c_E L K T) (c_ob L 9 0) Q E := by
  have wd := fs.1
  have av := fs.2.1
  have g := WD_g wd
  unfold rm_X12_readFrame at hr
  refine ⟨K10 g, c_key wd av (by omega) (by omega) hr (fun K' R1 w q x cz hf hr => ?_) (fun K1 R1 av1 tf1 hr => ⟨K10 g, c_sign wd av1 (by omega) (by omega) hr (fun K' R2 w q x cz hf hr => ?_) (fun K2 R2 av2 tf2 hr => ⟨25, fr_loop (by omega) (by omega) hX hN 25 0 K2 R2 (fun _ => 0) (fun _ => 0) rfl (FS_t fs (TOKf_t tf1 tf2) av2) (fun Q h => hr Q ⟨26, h⟩)⟩)⟩)⟩
  · obtain ⟨R2, hf, de, hr⟩ := fs_sign hf hr
    obtain ⟨R3, hf, de, hr⟩ := fd_14 (d := 0) hf (fun Q h => hr Q ⟨1, h⟩)
    exact hX K' R3 w q cz hf de hr
  · obtain ⟨R3, hf, de, hr⟩ := fd_14 (d := 0) hf (fun Q h => hr Q ⟨1, h⟩)
    exact hX K' R3 w q cz hf de hr
