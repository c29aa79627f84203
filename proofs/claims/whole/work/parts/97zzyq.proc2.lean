/-! A process: its parts, the last first. -/
theorem c_takes1 {e : EV} {L : c_L} {T : q_S} {B bc bs u v : Nat} {K0 K : c_S} {R0 R : r_S} {k : Int32} {X : Nat → Nat → Int32 → q_S → Prop} {E : String → q_S → Prop} {Y : r_S → (Option Value → r_S → Prop) → Prop} {RM : (Option Value → r_S → Prop) → Prop} (wd : WD e L T) (av : AV B K0 R0 K R) (c : c_I K 1808 0 = 5 ∧ c_I K 1809 0 = k) (hu : u + 1 ≤ bc) (hv : v + 6 ≤ bs) (hr : ∀ Q : Option Value → r_S → Prop, rm_X12_next R (fun r R' => r = none ∧ Y R' Q) → RM Q)
  (hX : ∀ (K' : c_S) (R' : r_S) (w q : Int32), CZ K0 K' → FD w q R0 R' → (∀ Q : Option Value → r_S → Prop, Y R' Q → RM Q) → E "java/lang/IllegalArgumentException" (c_E L (k_fl K' w q) T))
  (h1 : ∀ (K' : c_S) (R' : r_S), AV B K0 R0 K' R' → TOKf K K' R R' → (∀ Q : Option Value → r_S → Prop, Y R' Q → RM Q) → X 0 0 1 (c_E L K' T)) :
  ∃ m m' : Nat, (u + m ≤ bc ∧ v + m' ≤ bs) ∧ wm_X9_takes m m' (c_E L K T) (c_ob L 9 0) k (fun r S' => ∃ x : Int32, r = some (.int x) ∧ X m m' x S') E := by
  have g := WD_g wd
  rcases f_adv g (WD_2 wd) av with ⟨K', R', a1, a2, a3, a4⟩ | ⟨K', R', w, q, a1, ⟨a2, _⟩, a3, a4⟩
  · exact ⟨0, 0, ⟨by omega, by omega⟩, K10 g, u_sees1 g c _ ⟨_, rfl, nf_ (by decide) ⟨K10 g, 0, 0, ⟨by omega, by omega⟩, a3 _ _ _ _ ⟨rfl, _, rfl, h1 K' R' a1 a2 (fun Q h => hr Q (a4 _ ⟨rfl, h⟩))⟩⟩⟩⟩
  · exact ⟨1, 6, ⟨hu, hv⟩, K10 g, u_sees1 g c _ ⟨_, rfl, nf_ (by decide) ⟨K10 g, 1, 6, ⟨by omega, by omega⟩, a3 _ _ _ _ (by omega) (by omega) (hX K' R' w q a1 a2 (fun Q h => hr Q (a4 _ ⟨rfl, h⟩)))⟩⟩⟩
theorem c_takes0 {e : EV} {L : c_L} {T : q_S} {bc bs u v : Nat} {K : c_S} {k : Int32} {X : Nat → Nat → Int32 → q_S → Prop} {E : String → q_S → Prop} (wd : WD e L T) (c : ¬ (c_I K 1808 0 = 5 ∧ c_I K 1809 0 = k)) (hu : u ≤ bc) (hv : v ≤ bs) (h0 : X 0 0 0 (c_E L K T)) : ∃ m m' : Nat, (u + m ≤ bc ∧ v + m' ≤ bs) ∧ wm_X9_takes m m' (c_E L K T) (c_ob L 9 0) k (fun r S' => ∃ x : Int32, r = some (.int x) ∧ X m m' x S') E := ⟨0, 0, ⟨by omega, by omega⟩, K10 (WD_g wd), u_sees0 (WD_g wd) c _ ⟨_, rfl, nt_ rfl ⟨_, rfl, h0⟩⟩⟩
/-- what is known while a process is read -/
def QST (B : Nat) (K0 : c_S) (R0 : r_S) (L : c_L) (Ks : c_S) (Rs : r_S) (p n tm lm lm' : Nat) (cn : Nat → Nat) (vv ww : Nat → Int32) (c8 d42 : Int32) (K : c_S) (R : r_S) : Prop := AV B K0 R0 K R ∧ QV K (16 * p + n) n vv ∧ RV R (16 * p + n) ww ∧ OF (qI p n) (qA p n) xi (qa p n tm lm) Ks Rs K R ∧ PN L K R p lm' cn ∧ r_I R 2422 = nI lm' ∧ c_I K 1008 p = c8 ∧ r_A R 2442 p = d42 ∧ r_A R 2425 p = r_A Rs 2425 p
theorem QST_t {B : Nat} {K0 : c_S} {R0 : r_S} {L : c_L} {Ks : c_S} {Rs : r_S} {p n tm lm lm' : Nat} {cn : Nat → Nat} {vv ww : Nat → Int32} {c8 d42 : Int32} {K K' : c_S} {R R' : r_S} (h : QST B K0 R0 L Ks Rs p n tm lm lm' cn vv ww c8 d42 K R) (av : AV B K0 R0 K' R') (t : TOKf K K' R R') : QST B K0 R0 L Ks Rs p n tm lm lm' cn vv ww c8 d42 K' R' := by
  obtain ⟨h1, h2, h3, h4, h5, h6, h7, h8, h9⟩ := h
  exact ⟨av, QV_t h2 t, RV_t h3 t, OF_qk h4 t, PN_t h5 t, (t.2.2.2.1 2422 (by decide)).trans h6, (t.1 1008 p (by decide)).trans h7, (TOKf_a t _ _).trans h8, (TOKf_a t _ _).trans h9⟩
theorem QST_I {B : Nat} {K0 : c_S} {R0 : r_S} {L : c_L} {Ks : c_S} {Rs : r_S} {p n tm lm lm' F : Nat} {cn : Nat → Nat} {vv ww : Nat → Int32} {c8 d42 x : Int32} {K : c_S} {R : r_S} (h : QST B K0 R0 L Ks Rs p n tm lm lm' cn vv ww c8 d42 K R) (h1 : 1402 ≤ F) (h2 : F ≤ 1408) : QST B K0 R0 L Ks Rs p n tm lm lm' cn (fun f => if f = F then x else vv f) ww c8 d42 (cs_I K F (16 * p + n) x) R := by
  obtain ⟨a1, a2, a3, a4, a5, a6, a7, a8, a9⟩ := h
  exact ⟨AV_I a1 (fun m => by have := (by decide : ∀ f ∈ [1806, 1807, 1808, 1809, 1811, 1803, 402, 403, 1211, 1212, 1214], ¬ (1402 ≤ f ∧ f ≤ 1408)) F m; omega), QV_I a2 h1 h2, a3, OF_I a4 (Or.inr (Or.inl ⟨by omega, rfl⟩)), PN_I a5 (by omega), a6, (if_neg (fun z : 1008 = F ∧ p = 16 * p + n => by omega)).trans a7, a8, a9⟩
theorem QST_a {B : Nat} {K0 : c_S} {R0 : r_S} {L : c_L} {Ks : c_S} {Rs : r_S} {p n tm lm lm' F : Nat} {cn : Nat → Nat} {vv ww : Nat → Int32} {c8 d42 x : Int32} {K : c_S} {R : r_S} (h : QST B K0 R0 L Ks Rs p n tm lm lm' cn vv ww c8 d42 K R) (h1 : 2436 ≤ F) (h2 : F ≤ 2441) : QST B K0 R0 L Ks Rs p n tm lm lm' cn vv (fun f => if f = F then x else ww f) c8 d42 K (rs_A R F (16 * p + n) x) := by
  obtain ⟨a1, a2, a3, a4, a5, a6, a7, a8, a9⟩ := h
  exact ⟨AV_a a1 (by omega), a2, RV_a a3, OF_a a4 (Or.inr (Or.inl ⟨⟨h1, h2⟩, rfl⟩)), PN_a a5 h1, a6, a7, (if_neg (fun z : 2442 = F ∧ p = 16 * p + n => by omega)).trans a8, (if_neg (fun z : 2425 = F ∧ p = 16 * p + n => by omega)).trans a9⟩
theorem QST_h {B : Nat} {K0 : c_S} {R0 : r_S} {L : c_L} {Ks : c_S} {Rs : r_S} {p n tm lm lm' : Nat} {cn : Nat → Nat} {vv ww : Nat → Int32} {c8 d42 x y : Int32} {K : c_S} {R : r_S} (h : QST B K0 R0 L Ks Rs p n tm lm lm' cn vv ww c8 d42 K R) : QST B K0 R0 L Ks Rs p n tm lm lm' cn vv ww x y (cs_I K 1008 p x) (rs_A R 2442 p y) := by
  obtain ⟨a1, a2, a3, a4, a5, a6, a7, a8, a9⟩ := h
  refine ⟨AV_a (AV_I a1 (by decide)) (by decide), ?_, RV_o a3 rfl, OF_a (OF_I a4 (Or.inr (Or.inr ⟨Or.inr rfl, rfl⟩))) (Or.inr (Or.inr ⟨rfl, rfl⟩)), PN_a (PN_I a5 (by decide)) (by decide), a6, if_pos ⟨rfl, rfl⟩, if_pos ⟨rfl, rfl⟩, by rw [r_AA, if_neg (by omega)]; exact a9⟩
  have e : ∀ f : Nat, f ≠ 1008 → c_I (cs_I K 1008 p x) f (16 * p + n) = c_I K f (16 * p + n) := fun f hf => if_neg (fun z => hf z.1)
  unfold QV at a2 ⊢
  rw [e 1400 (by decide), e 1409 (by decide), e 1410 (by decide), e 1414 (by decide), e 1415 (by decide), e 1416 (by decide), e 1412 (by decide), e 1413 (by decide), e 1418 (by decide)]
  exact ⟨fun f h1 h2 => (e f (by omega)).trans (a2.1 f h1 h2), a2.2⟩
theorem QST_e {B : Nat} {K0 : c_S} {R0 : r_S} {L : c_L} {Ks : c_S} {Rs : r_S} {p n tm lm lm' : Nat} {cn : Nat → Nat} {vv vv' ww : Nat → Int32} {c8 d42 : Int32} {K : c_S} {R : r_S} (h : QST B K0 R0 L Ks Rs p n tm lm lm' cn vv ww c8 d42 K R) (e : ∀ f : Nat, 1402 ≤ f → f ≤ 1408 → vv' f = vv f) : QST B K0 R0 L Ks Rs p n tm lm lm' cn vv' ww c8 d42 K R := ⟨h.1, ⟨fun f a b => (h.2.1.1 f a b).trans (e f a b).symm, h.2.1.2⟩, h.2.2⟩
theorem v16 {p n : Nat} (p16 : p < 16) (n16 : n < 16) : vp_in ((16 : Int32) * nI p + nI n) (r_N 2436) ∧ ((16 : Int32) * nI p + nI n).toNatClampNeg = 16 * p + n := by
  rw [show (16 : Int32) = nI 16 from rfl, pk_mul, nI_add, nI_clamp (by omega)]
  exact ⟨vp_in_nI (N := 256) (by omega) (by decide), rfl⟩
theorem fd_170 {w q x : Int32} {R0 R : r_S} {p : Nat} {RM : (Option Value → r_S → Prop) → Prop} (vx : vp_in ((16 : Int32) * nI p + x) (r_N 2436)) (hf : FD w q R0 R) (hr : ∀ Q : Option Value → r_S → Prop, rb_X12_readProcess_170 R ((16 : Int32) * nI p + x) Q → RM Q) : ∃ R' : r_S, FD w q R0 R' ∧ ∀ Q : Option Value → r_S → Prop, Q none R' → RM Q := by
  unfold rb_X12_readProcess_170 at hr
  have hr := g_pos (g_and (g_and (fs_isKey hf hr) vx) vx) (if_pos ⟨rfl, rfl⟩)
  unfold rb_X12_readProcess_202 at hr
  obtain ⟨R, hf, de, hr⟩ := fs_sign (FD_A hf (by decide)) hr
  exact ⟨R, hf, hr⟩
theorem pr_219 {e : EV} {L : c_L} {T : q_S} {B bc bs u v : Nat} {K0 K : c_S} {R0 R : r_S} {Ks : c_S} {Rs : r_S} {p n tm lm lm' : Nat} {cn : Nat → Nat} {vv ww : Nat → Int32} {c8 d42 : Int32} {Q : Option Value → q_S → Prop} {E : String → q_S → Prop} {RM : (Option Value → r_S → Prop) → Prop} (wd : WD e L T) (st : QST B K0 R0 L Ks Rs p n tm lm lm' cn vv ww c8 d42 K R) (m5 : c_mk L 5 p) (m7 : c_mk L 7 (16 * p + n)) (p16 : p < 16) (n16 : n < 16) (hu : u + 1 ≤ bc) (hv : v + 6 ≤ bs) (v8 : vv 1408 = 0) (hr : ∀ Q : Option Value → r_S → Prop, rb_X12_readProcess_170 R ((16 : Int32) * nI p + nI n) Q → RM Q)
  (hX : ∀ (K' : c_S) (R' : r_S) (w q : Int32), CZ K0 K' → FD w q R0 R' → (∀ Q : Option Value → r_S → Prop, Q none R' → RM Q) → E "java/lang/IllegalArgumentException" (c_E L (k_fl K' w q) T))
  (hN : ∀ (K' : c_S) (R' : r_S) (x : Int32), (x = 0 ∨ x = 1) → QST B K0 R0 L Ks Rs p n tm lm lm' cn (fun f => if f = 1408 then x else vv f) (fun f => if f = 2441 then x else ww f) c8 d42 K' R' → (∀ Q : Option Value → r_S → Prop, Q none R' → RM Q) → Q none (c_E L K' T)) :
  wb_X9_readProcess_219 bc bs u v (c_E L K T) (c_ob L 9 0) (some (c_ob L 7 (16 * p + n))) Q E := by
  have g := WD_g wd
  have av := st.1
  have r0 := av.2.2.2.1
  have go : ∀ (K2 : c_S) (R2 : r_S) (x : Int32), (x = 0 ∨ x = 1) → QST B K0 R0 L Ks Rs p n tm lm lm' cn (fun f => if f = 1408 then x else vv f) (fun f => if f = 2441 then x else ww f) c8 d42 K2 R2 → (∀ Q : Option Value → r_S → Prop, rb_X12_readProcess_202 R2 Q → RM Q) → wb_X9_readProcess_239 bc bs u v (c_E L K2 T) (c_ob L 9 0) Q E := fun K2 R2 x hx st hr => by
    unfold rb_X12_readProcess_202 at hr
    exact ⟨K10 g, c_sign wd st.1 hu hv hr (fun K' R' w q y cz hf hr => hX K' R' w q cz hf hr) (fun K3 R3 av3 tf3 hr => hN K3 R3 x hx (QST_t st av3 tf3) hr)⟩
  unfold rb_X12_readProcess_170 at hr
  have e1 : ∀ (R : r_S) (x : Int32), r_A (rs_A R 2441 (16 * p + n) x) 2441 (16 * p + n) = x := fun R x => if_pos ⟨rfl, rfl⟩
  by_cases c : c_I K 1808 0 = 5 ∧ c_I K 1809 0 = 14
  · have hr : ∀ Q : Option Value → r_S → Prop, _ → RM Q := fun Q h => hr Q (v_key1 r0 ((AV_K av).mp c) _ ⟨_, rfl, h⟩)
    have hr := g_and (g_and hr (v16 p16 n16).1) (v16 p16 n16).1
    rw [(v16 p16 n16).2, vnb (Or.inr rfl), e1] at hr
    have hr := g_neg hr (by decide)
    have st1 := QST_a (F := 2441) (x := 1) st (by decide) (by decide)
    refine ⟨K10 g, c_takes1 wd st1.1 c hu hv hr (fun K' R' w q cz hf hr => ?_) (fun K2 R2 av2 tf2 hr => bf_ (by decide) ⟨_, rfl, c_gk g m7 8 rfl, ?_⟩)⟩
    · obtain ⟨R, hf, de, hr⟩ := fs_sign hf hr
      unfold rb_X12_readProcess_202 at hr
      obtain ⟨R, hf, de, hr⟩ := fs_sign hf hr
      exact hX K' R w q cz hf hr
    · rw [c_eIs (c_gw g) m7 rfl]
      have st2 := QST_I (F := 1408) (x := 1) (QST_t st1 av2 tf2) (by decide) (by decide)
      refine ⟨K10 g, c_sign wd st2.1 (by omega) (by omega) hr (fun K' R' w q y cz hf hr => ?_) (fun K3 R3 av3 tf3 hr => go K3 R3 1 (Or.inr rfl) (QST_t st2 av3 tf3) hr)⟩
      unfold rb_X12_readProcess_202 at hr
      obtain ⟨R, hf, de, hr⟩ := fs_sign hf hr
      exact hX K' R w q cz hf hr
  · have c' := fun z => c ((AV_K (k := 14) av).mpr z)
    have hr : ∀ Q : Option Value → r_S → Prop, _ → RM Q := fun Q h => hr Q (v_key0 r0 c' _ ⟨_, rfl, h⟩)
    have hr := g_and (g_and hr (v16 p16 n16).1) (v16 p16 n16).1
    rw [(v16 p16 n16).2, vnb (Or.inl rfl), e1] at hr
    have hr := g_pos hr rfl
    have st1 := QST_a (F := 2441) (x := 0) st (by decide) (by decide)
    exact ⟨K10 g, c_takes0 wd c (by omega) (by omega) (bt_ rfl (go _ _ 0 (Or.inl rfl) (QST_e st1 (fun f a b => by
      show (if f = 1408 then 0 else vv f) = vv f
      by_cases z : f = 1408
      · rw [if_pos z, z, v8]
      · rw [if_neg z])) hr))⟩
theorem pr_169 {e : EV} {L : c_L} {T : q_S} {B bc bs u v : Nat} {K0 K : c_S} {R0 R : r_S} {Ks : c_S} {Rs : r_S} {p n tm lm lm' : Nat} {cn : Nat → Nat} {vv ww : Nat → Int32} {c8 d42 : Int32} {Q : Option Value → q_S → Prop} {E : String → q_S → Prop} {RM : (Option Value → r_S → Prop) → Prop} (wd : WD e L T) (st : QST B K0 R0 L Ks Rs p n tm lm lm' cn vv ww c8 d42 K R) (m5 : c_mk L 5 p) (m7 : c_mk L 7 (16 * p + n)) (p16 : p < 16) (n16 : n < 16) (hu : u + 1 ≤ bc) (hv : v + 6 ≤ bs) (v8 : vv 1408 = 0) (v7 : vv 1407 = 0) (h8 : c8 = -1 ↔ d42 = -1) (hr : ∀ Q : Option Value → r_S → Prop, rm_X12_isKey R (13 : Int32) (fun r94_ S95_ => ∃ x96_ : Int32, r94_ = some (.int x96_) ∧ ((x96_ = 0 → (rb_X12_readProcess_170 S95_ (((16 : Int32) * nI p) + nI n) Q)) ∧ (¬ x96_ = 0 → (vp_in (nI p) (r_N 2442) ∧ (((r_A S95_ 2442 (nI p).toNatClampNeg) = (-1 : Int32) → (vp_in (nI p) (r_N 2442) ∧ (rm_X12_next (rs_A S95_ 2442 (nI p).toNatClampNeg (((16 : Int32) * nI p) + nI n)) (fun r105_ S106_ => r105_ = none ∧ (rm_X12_sign S106_ (59 : Int32) (fun r108_ S109_ => ∃ x110_ : Int32, r108_ = some (.int x110_) ∧ (rb_X12_readProcess_170 S109_ (((16 : Int32) * nI p) + nI n) Q))))))) ∧ (¬ (r_A S95_ 2442 (nI p).toNatClampNeg) = (-1 : Int32) → (rm_X12_fail S95_ (7 : Int32) (r_I S95_ 2407) (fun r111_ S112_ => ∃ x113_ : Int32, r111_ = some (.int x113_) ∧ (Q none S112_))))))))) → RM Q)
  (hX : ∀ (K' : c_S) (R' : r_S) (w q : Int32), CZ K0 K' → FD w q R0 R' → (∀ Q : Option Value → r_S → Prop, Q none R' → RM Q) → E "java/lang/IllegalArgumentException" (c_E L (k_fl K' w q) T))
  (hN : ∀ (K' : c_S) (R' : r_S) (x : Int32), (x = 0 ∨ x = 1) → QST B K0 R0 L Ks Rs p n tm lm lm' cn (fun f => if f = 1408 then x else vv f) (fun f => if f = 2441 then x else ww f) c8 d42 K' R' → (∀ Q : Option Value → r_S → Prop, Q none R' → RM Q) → Q none (c_E L K' T))
  (hH : ∀ (K' : c_S) (R' : r_S) (x : Int32), (x = 0 ∨ x = 1) → c8 = -1 → QST B K0 R0 L Ks Rs p n tm lm lm' cn (fun f => if f = 1408 then x else if f = 1407 then 1 else vv f) (fun f => if f = 2441 then x else ww f) (nI n) (nI (16 * p + n)) K' R' → (∀ Q : Option Value → r_S → Prop, Q none R' → RM Q) → Q none (c_E L K' T)) :
  wb_X9_readProcess_169 bc bs u v (c_E L K T) (c_ob L 9 0) (some (c_ob L 5 p)) (some (c_ob L 7 (16 * p + n))) Q E := by
  have g := WD_g wd
  have av := st.1
  have r0 := av.2.2.2.1
  have vp : vp_in (nI p) (r_N 2442) ∧ (nI p).toNatClampNeg = p := ⟨vp_in_nI (N := 16) p16 (by decide), nI_clamp (by omega)⟩
  have e16 : (16 : Int32) * nI p + nI n = nI (16 * p + n) := by rw [show (16 : Int32) = nI 16 from rfl, pk_mul, nI_add]
  refine ⟨K10 g, ?_⟩
  by_cases c : c_I K 1808 0 = 5 ∧ c_I K 1809 0 = 13
  · have hr : ∀ Q : Option Value → r_S → Prop, _ → RM Q := fun Q h => hr Q (v_key1 r0 ((AV_K av).mp c) _ ⟨_, rfl, bf_ (by decide) h⟩)
    have hr := g_and hr vp.1
    rw [vp.2, st.2.2.2.2.2.2.2.1] at hr
    refine u_sees1 g c _ ⟨_, rfl, bf_ (by decide) ⟨_, rfl, c_gk g m5 6 rfl, ?_⟩⟩
    rw [c_eI m5 rfl, st.2.2.2.2.2.2.1]
    by_cases h : c8 = -1
    · have hr := g_and (g_pos hr (h8.mp h)) vp.1
      refine bt_ h ⟨_, rfl, c_gk g m7 8 rfl, _, rfl, c_gk g m5 6 rfl, ?_⟩
      rw [c_eI m7 rfl, st.2.1.2.1, c_eIs (c_gw g) m5 rfl, c_eIs (c_gw g) m7 rfl]
      have st1 := QST_I (F := 1407) (x := 1) (QST_h (x := nI n) (y := nI (16 * p + n)) st) (by decide) (by decide)
      have hr : ∀ Q : Option Value → r_S → Prop, _ → RM Q := hr
      rw [e16] at hr
      refine ⟨K10 g, c_adv wd st1.1 (by omega) (by omega) hr (fun K' R' w q cz hf pe hr => ?_) (fun K2 R2 av2 tf2 hr => ⟨K10 g, ?_⟩)⟩
      · obtain ⟨R, hf, de, hr⟩ := fs_sign hf hr
        rw [← e16] at hr
        obtain ⟨R, hf, hr⟩ := fd_170 (v16 p16 n16).1 hf hr
        exact hX K' R w q cz hf hr
      · have st2 := QST_t st1 av2 tf2
        refine c_sign wd av2 (by omega) (by omega) hr (fun K' R' w q y cz hf hr => ?_) (fun K3 R3 av3 tf3 hr => ?_)
        · rw [← e16] at hr
          obtain ⟨R, hf, hr⟩ := fd_170 (v16 p16 n16).1 hf hr
          exact hX K' R w q cz hf hr
        · rw [← e16] at hr
          exact pr_219 wd (QST_t st2 av3 tf3) m5 m7 p16 n16 (by omega) (by omega) ((if_neg (by decide)).trans v8) hr hX (fun K' R' x hx st hr => hH K' R' x hx h st hr)
    · have hr := g_neg hr (fun z => h (h8.mpr z))
      refine bf_ h ⟨K10 g, ?_⟩
      rw [I9 g 1811 rfl]
      exact c_flP wd av hu hv (by decide) (AV_pl av) hr (fun R' cz hf hr => hX K R' _ _ cz hf hr)
  · have c' := fun z => c ((AV_K (k := 13) av).mpr z)
    have hr : ∀ Q : Option Value → r_S → Prop, _ → RM Q := fun Q h => hr Q (v_key0 r0 c' _ ⟨_, rfl, bt_ rfl h⟩)
    exact u_sees0 g c _ ⟨_, rfl, bt_ rfl (pr_219 wd st m5 m7 p16 n16 hu hv v8 hr hX hN)⟩
