/-! The table of errors: the loop. -/
theorem fd_err {w q : Int32} {R0 R : r_S} {p d : Nat} {x2 : Int32} {RM : (Option Value → r_S → Prop) → Prop} (hf : FD w q R0 R) (hr : ∀ Q : Option Value → r_S → Prop, rl_X12_readErrors_41 (d + 1) R (nI p) x2 Q → RM Q) : ∃ R' : r_S, FD w q R0 R' ∧ ∀ Q : Option Value → r_S → Prop, Q none R' → RM Q := by
  have hr : ∀ Q : Option Value → r_S → Prop, rb_X12_readErrors_41 (fun S x1 x2 => rl_X12_readErrors_41 d S x1 x2 Q) R (nI p) x2 Q → RM Q := hr
  unfold rb_X12_readErrors_41 at hr
  rcases FD_c hf with de | pe
  · have hr := g_nneg hr (de_n0 de)
    unfold rb_X12_readErrors_228 at hr
    obtain ⟨R, hf, de, hr⟩ := fs_sign hf hr
    exact ⟨R, hf, hr⟩
  · have hr := g_npos hr pe.1
    have n61 : ∀ {RM : (Option Value → r_S → Prop) → Prop}, (∀ Q : Option Value → r_S → Prop, rb_X12_readErrors_61 (fun S x1 x2 => rl_X12_readErrors_41 d S x1 x2 Q) R (nI p) x2 Q → RM Q) → ∃ R' : r_S, FD w q R0 R' ∧ ∀ Q : Option Value → r_S → Prop, Q none R' → RM Q := fun {RM} hr => by
      unfold rb_X12_readErrors_61 at hr
      have hr := g_nneg (g_neg hr (by rw [pe.2]; decide)) (by rw [pe.2]; decide)
      unfold rb_X12_readErrors_88 at hr
      obtain ⟨R, hf, de, hr⟩ := fs_failHere hf (g_neg hr (by decide))
      exact ⟨R, hf, hr⟩
    by_cases c : x2 = 0
    · exact n61 (g_pos hr c)
    · have hr := g_neg hr c
      exact n61 (g_npos (fs_isSign hf hr) rfl)
/-- where the table of errors changes something -/
def eI (f _i : Nat) : Prop := (f / 200 = 9 ∧ 1806 < f)
def eA (p f i : Nat) : Prop := f = 1007 ∧ i = p
def ei (f : Nat) : Prop := (2404 ≤ f ∧ f ≤ 2411) ∨ f = 2453
def ea (p f i : Nat) : Prop := (f = 2452 ∧ 5 * p ≤ i ∧ i < 5 * p + 5) ∨ (f = 2451 ∧ i = p)
/-- what is known while the table is read -/
def ES (B : Nat) (K0 : c_S) (R0 : r_S) (Ks : c_S) (Rs : r_S) (p : Nat) (K : c_S) (R : r_S) : Prop := AV B K0 R0 K R ∧ OF eI (eA p) ei (ea p) Ks Rs K R ∧ PA K R p (r_I R 2453 ≠ -1) ∧ c_I K 1813 0 = r_I R 2453 ∧ c_I K 1812 0 = 1 ∧ r_A R 2451 p = 1
theorem ES_t {B : Nat} {K0 : c_S} {R0 : r_S} {Ks : c_S} {Rs : r_S} {p : Nat} {K K' : c_S} {R R' : r_S} (h : ES B K0 R0 Ks Rs p K R) (av : AV B K0 R0 K' R') (t : TOKf K K' R R') : ES B K0 R0 Ks Rs p K' R' := by
  obtain ⟨h1, h2, h3, h4, h5, h6⟩ := h
  have e : r_I R' 2453 = r_I R 2453 := t.2.2.2.1 2453 (by decide)
  refine ⟨av, OF_k h2 t (fun f _ z => (show f / 200 = 9 ∧ 1806 < f by omega)) (fun _ z1 z2 => Or.inl ⟨z1, z2⟩), PA_c h3 (fun j => by rw [TOKf_A t]) (fun j _ => TOKf_a t _ _) (by rw [e]; exact id), ?_, (t.1 1812 0 (by decide)).trans h5, (TOKf_a t _ _).trans h6⟩
  rw [e]
  exact (t.1 1813 0 (by decide)).trans h4
theorem v5 {p j : Nat} (p16 : p < 16) (hj : j < 5) : vp_in ((5 : Int32) * nI p + nI j) (r_N 2452) ∧ ((5 : Int32) * nI p + nI j).toNatClampNeg = 5 * p + j := by
  rw [show (5 : Int32) = nI 5 from rfl, pk_mul, nI_add, nI_clamp (by omega)]
  exact ⟨vp_in_nI (N := 80) (by omega) (by decide), rfl⟩
theorem er_loop {e : EV} {L : c_L} {T : q_S} {B bc bs u v : Nat} {K0 : c_S} {R0 : r_S} {Ks : c_S} {Rs : r_S} {p : Nat} {Q : Option Value → q_S → Prop} {E : String → q_S → Prop} {RM : (Option Value → r_S → Prop) → Prop} (wd : WD e L T) (m5 : c_mk L 5 p) (p16 : p < 16) (hu : u + 1 ≤ bc) (hv : v + 6 ≤ bs)
  (hX : ∀ (K' : c_S) (R' : r_S) (w q : Int32), CZ K0 K' → FD w q R0 R' → (∀ Q : Option Value → r_S → Prop, Q none R' → RM Q) → E "java/lang/IllegalArgumentException" (c_E L (k_fl K' w q) T))
  (hN : ∀ (K' : c_S) (R' : r_S), ES B K0 R0 Ks Rs p K' R' → (∀ Q : Option Value → r_S → Prop, Q none R' → RM Q) → Q none (c_E L K' T)) :
  ∀ (d m : Nat) (K : c_S) (R : r_S), m < 32 → pc m + d = 6 → ES B K0 R0 Ks Rs p K R → (∀ Q : Option Value → r_S → Prop, rl_X12_readErrors_41 (d + 1) R (nI p) (nI m) Q → RM Q) → wl_X9_readErrors_36 bc bs (d + 1) u v (c_E L K T) (c_ob L 9 0) (some (c_ob L 5 p)) (nI m) (nI (pc m)) Q E := by
  have g := WD_g wd
  intro d
  induction d with
  | zero =>
    intro m K R hm hd
    have := (pc_0 m hm).2
    omega
  | succ d ih =>
    intro m K R hm hd es hr
    have av := es.1
    have r0 := av.2.2.2.1
    have hr : ∀ Q : Option Value → r_S → Prop, rb_X12_readErrors_41 (fun S x1 x2 => rl_X12_readErrors_41 (d + 1) S x1 x2 Q) R (nI p) (nI m) Q → RM Q := hr
    unfold rb_X12_readErrors_41 at hr
    have hr := g_npos hr r0
    have p5 := (pc_0 m hm).2
    have c57 : (∀ Q : Option Value → r_S → Prop, rb_X12_readErrors_61 (fun S x1 x2 => rl_X12_readErrors_41 (d + 1) S x1 x2 Q) R (nI p) (nI m) Q → RM Q) → wb_X9_readErrors_57 bc bs (fun u v S a0 r1 x2 x3 => wl_X9_readErrors_36 bc bs (d + 1) u v S a0 r1 x2 x3 Q E) u v (c_E L K T) (c_ob L 9 0) (some (c_ob L 5 p)) (nI m) (nI (pc m)) Q E := fun hr => by
      refine ⟨K10 g, ?_⟩
      rcases f_kind (L := L) av with ⟨j, hj, fc, fr⟩ | ⟨fc, fr⟩
      · have hr : ∀ Q : Option Value → r_S → Prop, _ → RM Q := fun Q h => hr Q (fr _ _ _ _ h)
        unfold rb_X12_readErrors_88 at hr
        have hr := g_pos hr ((by decide : ∀ j : Nat, j < 5 → (0 : Int32) ≤ nI j) j hj)
        rw [bit_s m hm j hj] at hr
        refine um_X9_errorKind g K 0 (g_m9 g) (Q1 := fun v K2 => v = nI j ∧ K2 = K) (fc _ ⟨rfl, rfl⟩) (fun v K2 h2 => ⟨_, rfl, ?_⟩)
        obtain ⟨rfl, rfl⟩ := h2
        refine nf_ (nI_m1 (by omega)) ?_
        show ((((nI m >>> (nI j &&& 31)) &&& (1 : Int32)) = 0 → _) ∧ (¬ ((nI m >>> (nI j &&& 31)) &&& (1 : Int32)) = 0 → _))
        rw [bit_s m hm j hj]
        by_cases b : m / 2 ^ j % 2 = 0
        · obtain ⟨o1, o2⟩ := bit_o m hm j hj b
          obtain ⟨c1, c2⟩ := pc_o m hm j hj b
          have hr := g_nneg hr (by rw [b]; decide)
          rw [o1] at hr
          refine bt_ (by rw [b]; rfl) ⟨K10 g, c_adv wd av hu hv hr (fun K' R w q cz hf pe hr => ?_) (fun K3 R3 av3 tf3 hr => ⟨K10 g, c_sign wd av3 (by omega) (by omega) hr (fun K' R w q x cz hf hr => ?_) (fun K4 R4 av4 tf4 hr => ⟨K10 g, ?_⟩)⟩)⟩
          · obtain ⟨R, hf, de, hr⟩ := fs_sign hf hr
            exact hX K' R w q cz hf (g_neg hr (de_nle de))
          · rcases FD_c hf with de | pe
            · exact hX K' R w q cz hf (g_neg hr (de_nle de))
            · have hr := g_nneg (g_pos hr (pe_le pe)) (by rw [pe.2]; decide)
              unfold rb_X12_readErrors_165 at hr
              obtain ⟨R, hf, de, hr⟩ := fs_failHere hf (g_neg hr (by decide))
              exact hX K' R w q cz hf hr
          · have es4 := ES_t (ES_t es av3 tf3) av4 tf4
            have hr := g_pos hr (by rw [av4.2.2.2.1]; decide)
            rw [o1]
            have fl : (∀ Q : Option Value → r_S → Prop, rm_X12_failHere R4 1 (fun r R' => ∃ x : Int32, r = some (.int x) ∧ Q none R') → RM Q) → (∀ (bc bs : Nat) (Q : Option Value → q_S → Prop), wb_X9_readAction_26 bc bs 0 0 (c_E L K4 T) (c_ob L 9 0) Q E → wm_X9_readAction bc bs (c_E L K4 T) (c_ob L 9 0) Q E) → ∃ m22 m23 : Nat, (u + 0 + 0 + m22 ≤ bc ∧ v + 0 + 0 + m23 ≤ bs) ∧ wm_X9_readAction m22 m23 (c_E L K4 T) (c_ob L 9 0) (fun r20_ S21_ => ∃ x25_ : Int32, r20_ = some (.int x25_) ∧ (∃ a26_ : Nat, some (c_ob L 5 p) = some a26_ ∧ (q_K S21_ a26_ = 6 ∧ (wm_X5_setAction S21_ a26_ (nI j) x25_ (fun r29_ S30_ => r29_ = none ∧ (q_K S30_ (c_ob L 9 0) = 10 ∧ (∃ m34_ m35_ : Nat, (u + 0 + 0 + m22 + m34_ ≤ bc ∧ v + 0 + 0 + m23 + m35_ ≤ bs) ∧ (wm_X9_expectSign m34_ m35_ S30_ (c_ob L 9 0) (59 : Int32) (fun r32_ S33_ => r32_ = none ∧ (wl_X9_readErrors_36 bc bs (d + 1) (u + 0 + 0 + m22 + m34_) (v + 0 + 0 + m23 + m35_) S33_ (c_ob L 9 0) (some (c_ob L 5 p)) (nI (m + 2 ^ j)) (nI (pc m) + 1) Q E)) E)))))))) E := fun hr cl => by
              obtain ⟨R', a1, a2, a3, a4, a5⟩ := f_fl (w := 1) (z := c_I K4 1811 0) g av4 (by decide)
              refine ⟨1, 6, ⟨by omega, by omega⟩, cl _ _ _ ⟨K10 g, 1, 6, ⟨by omega, by omega⟩, ?_⟩⟩
              rw [I9 g 1811 rfl]
              exact a3 _ _ _ _ (by omega) (by omega) (hX K4 R' 1 _ a1 a2 (fun Q h => hr Q (a5 (AV_pl av4) _ ⟨_, rfl, h⟩)))
            by_cases kd : c_I K4 1808 0 = 2
            · obtain ⟨⟨b0, n0, w1, w2, w3, w4, w5, w6, w7⟩, _, kk⟩ := AV_kw av4 (Or.inl kd)
              obtain ⟨k1, k2⟩ := kk kd
              have hr := g_npos hr ((AV_name av4).1.mp kd)
              by_cases ex : ∃ i : Nat, i < 7 ∧ kw K4 = some (34 + i)
              · obtain ⟨i, hi, ei'⟩ := ex
                have hr : ∀ Q : Option Value → r_S → Prop, _ → RM Q := fun Q h => hr Q (re_n14 w2 w3 w4 w5 w6 w7 (fun i2 hi2 z => ⟨_, rfl, by
                  rw [ei'] at z
                  injection z with z
                  have : i2 = i := by omega
                  rw [this]
                  exact h⟩) (fun z => absurd ei' (z i hi)))
                unfold rb_X12_readErrors_165 at hr
                have hr := g_pos hr ((by decide : ∀ i : Nat, i < 7 → (0 : Int32) ≤ nI i) i hi)
                have ev : c_I K4 1809 0 = nI (34 + i) := by rw [k1, ei']; rfl
                have fin : ∀ (K5 : c_S) (R5 : r_S), AV B K0 R0 K5 R5 → OF eI (eA p) ei (ea p) Ks Rs K5 R5 → PA K5 R5 p (r_I R5 2453 ≠ -1) → c_I K5 1813 0 = r_I R5 2453 → c_I K5 1812 0 = 1 → r_A R5 2451 p = 1 → (nI i = 6 → r_I R5 2453 ≠ -1) → c_I K5 1809 0 = nI (34 + i) → (∀ (bc bs : Nat) (Q : Option Value → q_S → Prop), wb_X9_readAction_60 bc bs 0 0 (c_E L K5 T) (c_ob L 9 0) Q E → wm_X9_readAction bc bs (c_E L K4 T) (c_ob L 9 0) Q E) → (∀ Q : Option Value → r_S → Prop, rb_X12_readErrors_202 (fun S x1 x2 => rl_X12_readErrors_41 (d + 1) S x1 x2 Q) R5 (nI p) (nI (m + 2 ^ j)) (nI j) (nI i) Q → RM Q) → ∃ m22 m23 : Nat, (u + 0 + 0 + m22 ≤ bc ∧ v + 0 + 0 + m23 ≤ bs) ∧ wm_X9_readAction m22 m23 (c_E L K4 T) (c_ob L 9 0) (fun r20_ S21_ => ∃ x25_ : Int32, r20_ = some (.int x25_) ∧ (∃ a26_ : Nat, some (c_ob L 5 p) = some a26_ ∧ (q_K S21_ a26_ = 6 ∧ (wm_X5_setAction S21_ a26_ (nI j) x25_ (fun r29_ S30_ => r29_ = none ∧ (q_K S30_ (c_ob L 9 0) = 10 ∧ (∃ m34_ m35_ : Nat, (u + 0 + 0 + m22 + m34_ ≤ bc ∧ v + 0 + 0 + m23 + m35_ ≤ bs) ∧ (wm_X9_expectSign m34_ m35_ S30_ (c_ob L 9 0) (59 : Int32) (fun r32_ S33_ => r32_ = none ∧ (wl_X9_readErrors_36 bc bs (d + 1) (u + 0 + 0 + m22 + m34_) (v + 0 + 0 + m23 + m35_) S33_ (c_ob L 9 0) (some (c_ob L 5 p)) (nI (m + 2 ^ j)) (nI (pc m) + 1) Q E)) E)))))))) E := fun K5 R5 av5 of5 pa5 e13 e12 e51 six e09 cl hr => by
                  unfold rb_X12_readErrors_202 at hr
                  have hr := g_and hr (v5 p16 hj).1
                  rw [(v5 p16 hj).2] at hr
                  have av5' := AV_a (f := 2452) (i := 5 * p + j) (v := nI i) av5 (by decide)
                  have s34 : nI (34 + i) - 34 = nI i := (by decide : ∀ i : Nat, i < 7 → nI (34 + i) - 34 = nI i) i hi
                  rcases f_adv g (WD_2 wd) av5' with ⟨K6, R6, a1, a2, a3, a4⟩ | ⟨K6, R6, w, q, a1, ⟨a2, a6⟩, a3, a4⟩
                  · refine ⟨0, 0, ⟨by omega, by omega⟩, cl _ _ _ ⟨K10 g, 0, 0, ⟨by omega, by omega⟩, a3 _ _ _ _ ⟨rfl, _, rfl, _, rfl, c_gk g m5 6 rfl, ?_⟩⟩⟩
                    have hr : ∀ Q : Option Value → r_S → Prop, _ → RM Q := fun Q h => hr Q (a4 _ ⟨rfl, h⟩)
                    rw [I9 g 1809 rfl, e09, s34]
                    refine um_X5_setAction g K6 p (nI j) (nI i) m5 (Q1 := fun K7 => K7 = cs_A K6 1007 p j (nI i)) ?_ (fun K7 e7 => ⟨rfl, K10 g, ?_⟩)
                    · refine bf_ ((by decide : ∀ j : Nat, j < 5 → ¬ nI j < 0) j hj) (bf_ ((by decide : ∀ j : Nat, j < 5 → ¬ (5 : Int32) ≤ nI j) j hj) ⟨vp_in_nI hj (by decide), ?_⟩)
                      rw [nI_clamp (by omega)]
                      rfl
                    · rw [e7]
                      refine c_sign wd (AV_A a1 (by decide)) (by omega) (by omega) hr (fun K' R w q x cz hf hr => ?_) (fun K8 R8 av8 tf8 hr => ?_)
                      · obtain ⟨R, hf, hr⟩ := fd_err hf hr
                        exact hX K' R w q cz hf hr
                      · rw [nI_1, ← c1]
                        have r53 : r_I R8 2453 = r_I R5 2453 := (tf8.2.2.2.1 2453 (by decide)).trans (a2.2.2.2.1 2453 (by decide))
                        refine ih (m + 2 ^ j) K8 R8 o2 (by omega) ⟨av8, OF_k (OF_A (OF_k (OF_a of5 (Or.inl ⟨rfl, by omega, by omega⟩)) a2 (fun f _ z => (show f / 200 = 9 ∧ 1806 < f by omega)) (fun _ z1 z2 => Or.inl ⟨z1, z2⟩)) ⟨rfl, rfl⟩) tf8 (fun f _ z => (show f / 200 = 9 ∧ 1806 < f by omega)) (fun _ z1 z2 => Or.inl ⟨z1, z2⟩), fun j' hj' => ?_, ?_, ?_, ?_⟩ hr
                        · rw [TOKf_A tf8, TOKf_a tf8, TOKf_a a2, c_AA, TOKf_A a2, r_AA, r53]
                          by_cases z : j' = j
                          · rw [if_pos ⟨rfl, rfl, z⟩, if_pos ⟨rfl, by omega⟩, nI_toInt (by omega)]
                            exact ⟨rfl, by omega, by omega, six⟩
                          · rw [if_neg (fun y => z y.2.2), if_neg (fun y => by omega)]
                            exact pa5 j' hj'
                        · rw [r53, tf8.1 1813 0 (by decide)]
                          exact (a2.1 1813 0 (by decide)).trans e13
                        · exact (tf8.1 1812 0 (by decide)).trans ((a2.1 1812 0 (by decide)).trans e12)
                        · rw [TOKf_a tf8, TOKf_a a2, r_AA, if_neg (by omega)]
                          exact e51
                  · refine ⟨1, 6, ⟨by omega, by omega⟩, cl _ _ _ ⟨K10 g, 1, 6, ⟨by omega, by omega⟩, a3 _ _ _ _ (by omega) (by omega) ?_⟩⟩
                    have hr : ∀ Q : Option Value → r_S → Prop, _ → RM Q := fun Q h => hr Q (a4 _ ⟨rfl, h⟩)
                    obtain ⟨R, hf, de, hr⟩ := fs_sign a2 hr
                    obtain ⟨R, hf, hr⟩ := fd_err hf hr
                    exact hX K6 R w q a1 hf hr
                have c35 : ∀ (bc bs : Nat) (Q : Option Value → q_S → Prop), wb_X9_readAction_35 bc bs 0 0 (c_E L K4 T) (c_ob L 9 0) Q E → wm_X9_readAction bc bs (c_E L K4 T) (c_ob L 9 0) Q E := fun bc bs Q h => ⟨K10 g, by
                  rw [I9 g 1808 rfl, I9 g 1809 rfl, ev]
                  exact nt_ kd (bf_ ((by decide : ∀ i : Nat, i < 7 → ¬ nI (34 + i) < 34) i hi) (bt_ ((by decide : ∀ i : Nat, i < 7 → nI (34 + i) ≤ 40) i hi) h))⟩
                by_cases i6 : i = 6
                · have hr := g_npos hr (by rw [i6]; rfl)
                  by_cases hpl : r_I R4 2453 = -1
                  · have hr := g_npos hr hpl
                    obtain ⟨pl, epl⟩ : ∃ pl : Nat, r_I R4 2407 = nI pl ∧ pl < 2 ^ 31 := by
                      obtain ⟨tx, ⟨a, p0, z1, z2, z3, z4, z5, z6, _⟩, _⟩ := av4
                      exact ⟨p0, z6, by have := tx.1; omega⟩
                    have n53 : r_I (rs_I R4 2453 (r_I R4 2407)) 2453 ≠ -1 := by
                      show r_I R4 2407 ≠ -1
                      rw [epl.1]
                      exact nI_m1 epl.2
                    refine fin (cs_I K4 1813 0 (c_I K4 1811 0)) (rs_I R4 2453 (r_I R4 2407)) (AV_i (AV_I av4 (by decide)) (by decide) (by decide)) (OF_i (OF_I es4.2.1 ⟨rfl, by decide⟩) (Or.inr rfl)) (PA_c es4.2.2.1 (fun _ => rfl) (fun _ _ => rfl) (fun _ => n53)) ?_ (by rw [c_II, if_neg (by omega)]; exact es4.2.2.2.2.1) es4.2.2.2.2.2 (fun _ => n53) (by rw [c_II, if_neg (by omega)]; exact ev) (fun bc bs Q h => c35 bc bs Q ⟨K10 g, ?_⟩) hr
                    · rw [c_II, if_pos ⟨rfl, rfl⟩]
                      exact AV_pl av4
                    · rw [I9 g 1809 rfl, I9 g 1813 rfl, I9 g 1811 rfl, ev, c_eIs (c_gw g) (g_m9 g) rfl]
                      exact nt_ (by rw [i6]; rfl) (nt_ (es4.2.2.2.1.trans hpl) h)
                  · have hr := g_nneg hr hpl
                    refine fin K4 R4 av4 es4.2.1 es4.2.2.1 es4.2.2.2.1 es4.2.2.2.2.1 es4.2.2.2.2.2 (fun _ => hpl) ev (fun bc bs Q h => c35 bc bs Q ⟨K10 g, ?_⟩) hr
                    rw [I9 g 1809 rfl, I9 g 1813 rfl, ev]
                    exact nt_ (by rw [i6]; rfl) (nf_ (fun z => hpl (es4.2.2.2.1.symm.trans z)) h)
                · have n6 : ¬ nI i = 6 := fun z => i6 ((nI_eq (by omega) (by decide)).mp (z.trans (show (6 : Int32) = nI 6 from rfl)))
                  have hr := g_nneg hr n6
                  refine fin K4 R4 av4 es4.2.1 es4.2.2.1 es4.2.2.2.1 es4.2.2.2.2.1 es4.2.2.2.2.2 (fun z => absurd z n6) ev (fun bc bs Q h => c35 bc bs Q ⟨K10 g, ?_⟩) hr
                  rw [I9 g 1809 rfl, ev]
                  exact nf_ ((by decide : ∀ i : Nat, i < 7 → i ≠ 6 → ¬ nI (34 + i) = 40) i hi i6) h
              · have hr : ∀ Q : Option Value → r_S → Prop, _ → RM Q := fun Q h => hr Q (re_n14 w2 w3 w4 w5 w6 w7 (fun i2 hi2 z => absurd ⟨i2, hi2, z⟩ ex) (fun z => ⟨_, rfl, h⟩))
                unfold rb_X12_readErrors_165 at hr
                refine fl (g_neg hr (by decide)) (fun bc bs Q h => ⟨K10 g, ?_⟩)
                rw [I9 g 1808 rfl, I9 g 1809 rfl, k1]
                refine nt_ kd (bt_ ?_ h)
                cases ho : kw K4 with
                | none => decide
                | some i0 =>
                  have i41 := (kx_s ho).1
                  have : i0 < 34 := Nat.lt_of_not_le (fun z => ex ⟨i0 - 34, by omega, ho.trans (congrArg some (by omega))⟩)
                  exact (by decide : ∀ i : Nat, i < 34 → kx_c (some i) < 34) i0 this
            · have hr := g_nneg hr (fun z => kd ((AV_name av4).1.mpr z))
              unfold rb_X12_readErrors_165 at hr
              refine fl (g_neg hr (by decide)) (fun bc bs Q h => ⟨K10 g, ?_⟩)
              rw [I9 g 1808 rfl]
              exact nf_ kd h
        · have b1 : m / 2 ^ j % 2 = 1 := by omega
          have hr := g_npos hr (by rw [b1]; rfl)
          refine bf_ (by rw [b1]; decide) ⟨K10 g, ?_⟩
          rw [I9 g 1811 rfl]
          exact c_flP wd av hu hv (by decide) (AV_pl av) hr (fun R' cz hf hr => hX _ R' _ _ cz hf hr)
      · have hr : ∀ Q : Option Value → r_S → Prop, _ → RM Q := fun Q h => hr Q (fr _ _ _ _ h)
        unfold rb_X12_readErrors_88 at hr
        have hr := g_neg hr (by decide)
        refine um_X9_errorKind g K 0 (g_m9 g) (Q1 := fun v K2 => v = -1 ∧ K2 = K) (fc _ ⟨rfl, rfl⟩) (fun v K2 h2 => ⟨_, rfl, ?_⟩)
        obtain ⟨rfl, rfl⟩ := h2
        exact nt_ rfl ⟨K10 g, c_flH wd av hu hv (by decide) hr (fun R' cz hf hr => hX _ R' _ _ cz hf hr)⟩
    show ((5 : Int32) < nI (pc m) → _) ∧ (¬ (5 : Int32) < nI (pc m) → _)
    refine bf_ ((by decide : ∀ n : Nat, n ≤ 5 → ¬ (5 : Int32) < nI n) _ p5) ?_
    by_cases m0 : m = 0
    · subst m0
      exact bt_ (by decide) (c57 (g_pos hr rfl))
    · have hr := g_neg hr (fun z => m0 ((nI_eq (by omega) (by decide)).mp (z.trans (show (0 : Int32) = nI 0 from rfl))))
      have pc1 : 1 ≤ pc m := Nat.lt_of_not_le (fun z => m0 ((pc_0 m hm).1.mp (by omega)))
      refine bf_ ((by decide : ∀ n : Nat, n ≤ 5 → 1 ≤ n → ¬ nI n ≤ 0) _ p5 pc1) ⟨K10 g, ?_⟩
      by_cases c : c_I K 1808 0 = 4 ∧ c_I K 1809 0 = 125
      · have hr : ∀ Q : Option Value → r_S → Prop, _ → RM Q := fun Q h => hr Q (v_sign1 r0 ((AV_S av).mp c) _ ⟨_, rfl, nf_ (by decide) h⟩)
        unfold rb_X12_readErrors_228 at hr
        exact u_seesSign1 g c _ ⟨_, rfl, bf_ (by decide) ⟨K10 g, c_sign wd av hu hv hr (fun K' R w q x cz hf hr => hX K' R w q cz hf hr) (fun K3 R3 av3 tf3 hr => hN K3 R3 (ES_t es av3 tf3) hr)⟩⟩
      · have c' := fun z => c ((AV_S (k := 125) av).mpr z)
        have hr : ∀ Q : Option Value → r_S → Prop, _ → RM Q := fun Q h => hr Q (v_sign0 r0 c' _ ⟨_, rfl, nt_ rfl h⟩)
        exact u_seesSign0 g c _ ⟨_, rfl, bt_ rfl (c57 hr)⟩
theorem RP_err {L : c_L} {K K' : c_S} {R R' : r_S} {p lm : Nat} {cn : Nat → Nat} {hd : Option Nat} {k nr : Nat} {re : Nat → Nat} {hp hp' : Prop} (h : RP L K R p lm cn hd k nr re hp) (of : OF eI (eA p) ei (ea p) K R K' R') (pa : PA K' R' p hp') : RP L K' R' p lm cn hd k nr re hp' := by
  obtain ⟨h1, h2, h3, h4, h5, h6, h7, h8⟩ := h
  obtain ⟨o1, o2, o3, o4⟩ := of
  have nI9 : ∀ f i : Nat, f / 200 ≠ 9 → ¬ eI f i := fun f i a z => a z.1
  have nA : ∀ f i : Nat, f ≠ 1007 → ¬ eA p f i := fun f i a z => a z.1
  have na : ∀ f i : Nat, f ≠ 2451 → f ≠ 2452 → ¬ ea p f i := fun f i a b z => by unfold ea at z; omega
  refine ⟨PH_c h1 LX_0 (fun f hf _ => (o1 f p (nI9 f p (by omega))).1) (o4 _ _ (na _ _ (by decide) (by decide))), pa, PM_c h3 (Nat.le_refl _) (Nat.le_refl _) (fun f hf => (o1 f p (nI9 f p (by omega))).1) (fun f j hf => o2 _ _ _ (nA f p (by omega))) ⟨o4 _ _ (na _ _ (by decide) (by decide)), o4 _ _ (na _ _ (by decide) (by decide))⟩ (fun f i a b _ => o4 _ _ (na _ _ (by omega) (by omega))), PN_c h4 LX_0 (Nat.le_refl _) (o1 1004 p (nI9 _ _ (by decide))).1 (fun s _ => o2 _ _ _ (nA _ _ (by decide))) (fun s i _ _ => (o1 _ _ (nI9 _ _ (by unfold n_f; split <;> decide))).2.1) (fun s _ => o4 _ _ (na _ _ (by decide) (by decide))) (o4 _ _ (na _ _ (by decide) (by decide))) (fun f k a b _ => o4 _ _ (na _ _ (by omega) (by omega))) (fun i _ => o4 _ _ (na _ _ (by decide) (by decide))), h5, fun j hj => PQ1_c (h6 j hj) (fun f hf => (o1 f _ (nI9 f _ (by omega))).1) (fun x => o2 _ _ _ (nA _ _ (by decide))) (fun f a b => o4 _ _ (na _ _ (by omega) (by omega))) Iff.rfl, fun s i hs hi => PT1_c (h7 s i hs hi) (fun _ => Nat.le_refl _) (fun f hf _ => (o1 f _ (nI9 f _ (by omega))).1) (fun f a => o4 _ _ (na _ _ (by omega) (by omega))) (fun _ => ⟨o4 _ _ (na _ _ (by decide) (by decide)), o4 _ _ (na _ _ (by decide) (by decide))⟩), fun i hi => ⟨(o1 _ _ (nI9 _ _ (by decide))).1.trans (h8 i hi).1, (o4 _ _ (na _ _ (by decide) (by decide))).trans (h8 i hi).2⟩⟩
theorem c_errors {e : EV} {L : c_L} {T : q_S} {B bc bs : Nat} {K0 K : c_S} {R0 R : r_S} {p lm : Nat} {cn : Nat → Nat} {hd : Option Nat} {k nr : Nat} {re : Nat → Nat} {Q : Option Value → q_S → Prop} {E : String → q_S → Prop} {RM : (Option Value → r_S → Prop) → Prop} (wd : WD e L T) (av : AV B K0 R0 K R) (rp : RP L K R p lm cn hd k nr re (r_I R 2453 ≠ -1)) (p16 : p < 16) (e13 : c_I K 1813 0 = r_I R 2453) (e12 : c_I K 1812 0 = r_A R 2451 p) (hu : 1 ≤ bc) (hv : 6 ≤ bs)
  (hr : ∀ Q : Option Value → r_S → Prop, rm_X12_readErrors R (nI p) Q → RM Q)
  (hX : ∀ (K' : c_S) (R' : r_S) (w q : Int32), CZ K0 K' → FD w q R0 R' → (∀ Q : Option Value → r_S → Prop, Q none R' → RM Q) → E "java/lang/IllegalArgumentException" (c_E L (k_fl K' w q) T))
  (hN : ∀ (K' : c_S) (R' : r_S), AV B K0 R0 K' R' → OF eI (eA p) ei (ea p) K R K' R' → RP L K' R' p lm cn hd k nr re (r_I R' 2453 ≠ -1) → c_I K' 1813 0 = r_I R' 2453 → r_A R 2451 p = 0 → c_I K' 1812 0 = 1 → r_A R' 2451 p = 1 → (∀ Q : Option Value → r_S → Prop, Q none R' → RM Q) → Q none (c_E L K' T)) :
  wm_X9_readErrors bc bs (c_E L K T) (c_ob L 9 0) (some (c_ob L 5 p)) Q E := by
  have g := WD_g wd
  have vp : vp_in (nI p) (r_N 2451) ∧ (nI p).toNatClampNeg = p := ⟨vp_in_nI (N := 16) p16 (by decide), nI_clamp (by omega)⟩
  unfold rm_X12_readErrors at hr
  have hr := g_and hr vp.1
  rw [vp.2] at hr
  refine ⟨K10 g, ?_⟩
  rw [I9 g 1812 rfl, e12]
  by_cases c : r_A R 2451 p = 0
  · have hr := g_and (g_pos hr c) vp.1
    rw [vnb (Or.inr rfl)] at hr
    refine bt_ c ⟨K10 g, ?_⟩
    rw [c_eIs (c_gw g) (g_m9 g) rfl]
    have av1 : AV B K0 R0 (cs_I K 1812 0 1) (rs_A R 2451 p 1) := AV_a (AV_I av (by decide)) (by decide)
    have es1 : ES B K0 R0 K R p (cs_I K 1812 0 1) (rs_A R 2451 p 1) := ⟨av1, OF_a (OF_I OF_0 ⟨rfl, by decide⟩) (Or.inr ⟨rfl, rfl⟩), PA_c rp.2.1 (fun _ => rfl) (fun j _ => by rw [r_AA, if_neg (by omega)]) id, by rw [c_II, if_neg (by omega)]; exact e13, by rw [c_II, if_pos ⟨rfl, rfl⟩], by rw [r_AA, if_pos ⟨rfl, rfl⟩]⟩
    have fd : ∀ (K' : c_S) (R : r_S) (w q : Int32), CZ K0 K' → FD w q R0 R → (∀ Q : Option Value → r_S → Prop, (∃ n80_ : Nat, rl_X12_readErrors_41 n80_ R (nI p) (0 : Int32) Q) → RM Q) → E "java/lang/IllegalArgumentException" (c_E L (k_fl K' w q) T) := fun K' R w q cz hf hr => by
      obtain ⟨R, hf, hr⟩ := fd_err (d := 0) hf (fun Q h => hr Q ⟨1, h⟩)
      exact hX K' R w q cz hf hr
    refine c_adv wd av1 (by omega) (by omega) hr (fun K' R w q cz hf pe hr => ?_) (fun K2 R2 av2 tf2 hr => ⟨K10 g, c_sign wd av2 (by omega) (by omega) hr (fun K' R w q x cz hf hr => fd K' R w q cz hf hr) (fun K3 R3 av3 tf3 hr => ⟨7, ?_⟩)⟩)
    · obtain ⟨R, hf, de, hr⟩ := fs_sign hf hr
      exact fd K' R w q cz hf hr
    · exact er_loop wd rp.1.1.1 p16 (by omega) (by omega) hX (fun K' R' es hr => hN K' R' es.1 es.2.1 (RP_err rp es.2.1 es.2.2.1) es.2.2.2.1 c es.2.2.2.2.1 es.2.2.2.2.2 hr) 6 0 K3 R3 (by decide) (by decide) (ES_t (ES_t es1 av2 tf2) av3 tf3) (fun Q h => hr Q ⟨7, h⟩)
  · have hr := g_neg hr c
    refine bf_ c ?_
    rw [I9 g 1811 rfl]
    exact c_flP wd av (by omega) (by omega) (by decide) (AV_pl av) hr (fun R' cz hf hr => hX K R' _ _ cz hf hr)
