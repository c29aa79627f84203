/-! A word of a first memory. -/
def i_b (V : Int32) (k : Nat) : Int32 := (V >>> (nI (8 * k) &&& 31)).toInt8.toInt32
def r_im (R : r_S) (a : Nat) (V : Int32) : Nat → r_S
  | 0 => R
  | k + 1 => rs_A (r_im R a V k) 2465 (a + k) (i_b V k)
theorem im_o {R : r_S} {a f i : Nat} {V : Int32} (m : Nat) (h : f ≠ 2465 ∨ ¬ (a ≤ i ∧ i < a + m)) : r_A (r_im R a V m) f i = r_A R f i := by
  induction m with
  | zero => rfl
  | succ m ih =>
    show r_A (rs_A (r_im R a V m) 2465 (a + m) _) f i = _
    rw [r_An (by omega)]
    exact ih (by omega)
theorem im_w {R : r_S} {a : Nat} {V : Int32} (m k : Nat) (h : k < m) : r_A (r_im R a V m) 2465 (a + k) = i_b V k := by
  induction m with
  | zero => omega
  | succ m ih =>
    show r_A (rs_A (r_im R a V m) 2465 (a + m) _) 2465 (a + k) = _
    by_cases c : k = m
    · subst c; rw [r_As]
    · rw [r_An (Or.inr (by omega))]
      exact ih (by omega)
theorem bw_im (V : Int32) : b_w (fun k => i_b V k) = V := by
  refine b_ext (fun y hy => ?_)
  have key : ∀ z : Nat, z < 4 → 8 * z ≤ y → y < 8 * z + 8 → bt (i_b V z) (y - 8 * z) = bt V y := fun z hz h1 h2 => by
    unfold i_b
    rw [i8_b _ (by omega), b_sshr (8 * z) (by omega) _ (show y - 8 * z < 32 by omega), if_pos (by omega), show 8 * z + (y - 8 * z) = y by omega]
  rw [bw_b _ hy]
  by_cases y1 : y < 8
  · rw [if_pos y1]
    exact key 0 (by decide) (by omega) (by omega)
  · rw [if_neg y1]
    by_cases y2 : y < 16
    · rw [if_pos y2]
      exact key 1 (by decide) (by omega) (by omega)
    · rw [if_neg y2]
      by_cases y3 : y < 24
      · rw [if_pos y3]
        exact key 2 (by decide) (by omega) (by omega)
      · rw [if_neg y3]
        exact key 3 (by decide) (by omega) (by omega)
theorem ME_im {Z : z_C} {K : c_S} {R : r_S} {p i a N : Nat} {V : Int32} (me : ME Z K R) (hN : N = 4) (ha : a = 8192 * p + 4 * i) (b8 : ∀ p : Nat, p < z_np Z → z_by Z p ≤ 8192) (hp : p < z_np Z) (hi : i < z_by Z p / 4) : ME Z (cs_A K 802 p i V) (r_im R a V N) := by
  refine ⟨fun p' hp' i' hi' => ⟨fun hm' => ?_, ?_⟩, fun j => ?_, fun j => ?_⟩
  · show c_A (cs_A K 802 p i V) 801 p' i' = b_w (fun x => r_A (r_im R a V N) 2466 (8192 * p' + (4 * i' + x)))
    rw [c_An (Or.inl (by decide)), show c_A K 801 p' i' = b_w (fun x => r_A R 2466 (8192 * p' + (4 * i' + x))) from (me.1 p' hp' i' hi').1 hm']
    exact bw_c (fun x hx => (im_o N (Or.inl (by decide))).symm)
  · show c_A (cs_A K 802 p i V) 802 p' i' = b_w (fun x => r_A (r_im R a V N) 2465 (8192 * p' + (4 * i' + x)))
    by_cases c : p' = p ∧ i' = i
    · obtain ⟨rfl, rfl⟩ := c
      rw [c_As]
      refine (bw_im V).symm.trans (bw_c (fun x hx => ?_))
      have e : r_A (r_im R a V N) 2465 (a + x) = i_b V x := im_w N x (by omega)
      rw [show a + x = 8192 * p' + (4 * i' + x) by omega] at e
      exact e.symm
    · have y1 := b8 p' hp'
      have y2 := b8 p hp
      rw [c_AA, if_neg (fun z => c ⟨z.2.1, z.2.2⟩), show c_A K 802 p' i' = b_w (fun x => r_A R 2465 (8192 * p' + (4 * i' + x))) from (me.1 p' hp' i' hi').2]
      refine bw_c (fun x hx => (im_o N (Or.inr (fun z => c ?_))).symm)
      omega
  · show fits .byte (.int (r_A (r_im R a V N) 2465 j)) = true
    by_cases c : a ≤ j ∧ j < a + 4
    · obtain ⟨d, rfl⟩ : ∃ d : Nat, j = a + d := ⟨j - a, by omega⟩
      rw [im_w N d (by omega)]
      exact pk_fb _
    · rw [im_o N (Or.inr (by omega))]
      exact me.2.1 j
  · show fits .byte (.int (r_A (r_im R a V N) 2466 j)) = true
    rw [im_o N (Or.inl (by decide))]
    exact me.2.2 j
theorem WR_im {b : Nat} {L : c_L} {Z : z_C} {K : c_S} {R : r_S} {p i : Nat} {V : Int32} (w : WR b L Z K R) (hp : p < z_np Z) (hi : i < z_by Z p / 4) : WR b L Z (cs_A K 802 p i V) (r_im R (8192 * p + 4 * i) V 4) := by
  have me' := ME_im (V := V) w.1.2.2.2.2.1 (N := 4) rfl rfl (fun p hp => (CM_p (WR_cm w) hp).1) hp hi
  generalize 8192 * p + 4 * i = a at me' ⊢
  obtain ⟨⟨⟨cq, ct, cc, cm⟩, th, ch, inn, me, jr, gl, tx⟩, dp, op, ti, pd, jb⟩ := w
  refine ⟨⟨⟨?_, ?_, ?_, ?_⟩, ?_, ?_, ?_, me', ?_, ?_, ?_⟩, ?_, ?_, ?_, ?_, ?_⟩
  all_goals (simp (disch := decide) only [r_im, CQ_I, CQ_A, CQ_G, CQ_P, CQ_J, CQ_i, CQ_a, CQ_z, CT_I, CT_A, CT_G, CT_P, CT_J, CT_i, CT_a, CT_z, CC_I, CC_A, CC_G, CC_P, CC_J, CC_i, CC_a, CC_z, CM_I, CM_A, CM_G, CM_P, CM_J, CM_i, CM_a, CM_z, NM_I, NM_A, NM_G, NM_P, NM_J, NM_i, NM_a, NM_z, TH_I, TH_A, TH_G, TH_P, TH_J, TH_i, TH_a, TH_z, CH_I, CH_A, CH_G, CH_P, CH_J, CH_i, CH_a, CH_z, IN_I, IN_A, IN_G, IN_P, IN_J, IN_i, IN_a, IN_z, ME_I, ME_A, ME_G, ME_P, ME_J, ME_i, ME_a, ME_z, JR_I, JR_A, JR_G, JR_P, JR_J, JR_i, JR_a, JR_z, GL_I, GL_A, GL_G, GL_P, GL_J, GL_i, GL_a, GL_z, TX_I, TX_A, TX_G, TX_P, TX_J, TX_i, TX_a, TX_z, PD_I, PD_A, PD_G, PD_P, PD_J, PD_i, PD_a, PD_z, JB_i, JB_a, JB_z, DP_I, DP_A, DP_G, DP_P, DP_i, DP_a, OP_I, OP_A, OP_G, OP_P, OP_i, OP_a, TI_i, TI_a]; assumption)
/-- image, as the class has it: 0 done, 1 no such place, 2 not now -/
def kt_image (L : c_L) (K : c_S) (x1 x2 x3 : Int32) (Q : Int32 → c_S → Prop) : Prop := (c_I K 1213 0 = 0 → Q 2 K) ∧ (¬ c_I K 1213 0 = 0 → (c_I K 1214 0 = 0 → km_X6_partitionAt L K 0 x1 (fun r S => (r = none → Q 1 S) ∧ (¬ r = none → ∃ a : Nat, r = some a ∧ c_mk L 5 a ∧ km_X4_hasWord L S a x2 (fun x S => (¬ x = 0 → vp_in (x2 >>> ((2 : Int32) &&& 31)) (c_ln L 802 a) ∧ Q 0 (cs_A S 802 a (x2 >>> ((2 : Int32) &&& 31)).toNatClampNeg x3)) ∧ (x = 0 → Q 1 S))))) ∧ (¬ c_I K 1214 0 = 0 → Q 2 K))
theorem re_image {R : r_S} {p v : Nat} {V : Int32} {Q : Option Value → r_S → Prop} (hp : p < 16) (hv : v + 3 < 8192) (h : Q none (r_im R (8192 * p + v) V 4)) : rl_X12_image_47 5 R (nI p) (nI v) V 0 Q := by
  have e : ∀ n : Nat, n < 4 → (8192 : Int32) * nI p + nI v + nI n = nI (8192 * p + v + n) := fun n hn => by
    rw [show (8192 : Int32) = nI 8192 from rfl, pk_mul, nI_add, nI_add]
  have st : ∀ (R : r_S) (n m : Nat), n < 4 → rl_X12_image_47 m (rs_A R 2465 (8192 * p + v + n) (i_b V n)) (nI p) (nI v) V (nI n + 1) Q → rl_X12_image_47 (m + 1) R (nI p) (nI v) V (nI n) Q := fun R n m hn hQ => by
    refine bf_ (nI_ge (a := n) (b := 4) hn (by decide)) ?_
    rw [e n hn, nI_clamp (by omega), show (8 : Int32) * nI n = nI (8 * n) by rw [show (8 : Int32) = nI 8 from rfl, pk_mul], nar_b (pk_fb _)]
    exact ⟨ri_v (n := 131072) rfl (by omega) (by decide), hQ⟩
  exact st _ 0 4 (by decide) (st _ 1 3 (by decide) (st _ 2 2 (by decide) (st _ 3 1 (by decide) (bt_ (by decide) h))))
theorem P_image {b : Nat} {L : c_L} {Z : z_C} {K : c_S} {R : r_S} {x1 x2 x3 : Int32} (w : WR b L Z K R) : ∃ (v : Int32) (K' : c_S) (R' : r_S), (∀ Q : Int32 → c_S → Prop, Q v K' → kt_image L K x1 x2 x3 Q) ∧ (∀ Q : Option Value → r_S → Prop, Q none R' → rm_X12_image R x1 x2 x3 Q) ∧ WR b L (zs_th Z v) K' R' ∧ (∀ f i : Nat, f ≠ 2465 → r_A R' f i = r_A R f i) := by
  have np16 : z_np Z ≤ 16 := CQ_np (WR_cq w)
  have e13 : c_I K 1213 0 = r_I R 2413 := (GL_el w).2.2.1.1
  have e14 : c_I K 1214 0 = r_I R 2414 := (GL_el w).2.2.2.1.1
  have n2 : ∀ Q : Option Value → r_S → Prop, Q none (rs_I R 2400 2) → rb_X12_image_15 R x1 x2 x3 Q := fun Q hQ => bf_ (by show ¬ (2 : Int32) ≤ 0; decide) hQ
  have n1 : ∀ Q : Option Value → r_S → Prop, Q none (rs_I R 2400 1) → rb_X12_image_33 R x1 x2 x3 1 Q := fun Q hQ => bf_ (by show ¬ (1 : Int32) ≤ 0; decide) hQ
  by_cases c13 : r_I R 2413 = 0
  · exact ⟨2, K, _, fun Q hQ => bt_ (e13.trans c13) hQ, fun Q hQ => bt_ c13 (n2 Q hQ), WR_400 w, fun _ _ _ => rfl⟩
  have k13 : ¬ c_I K 1213 0 = 0 := fun z => c13 (e13.symm.trans z)
  by_cases c14 : r_I R 2414 = 0
  case neg => exact ⟨2, K, _, fun Q hQ => bf_ k13 (bf_ (fun z => c14 (e14.symm.trans z)) hQ), fun Q hQ => bf_ c13 (bf_ c14 (n2 Q hQ)), WR_400 w, fun _ _ _ => rfl⟩
  case pos =>
    have k14 := e14.trans c14
    rcases pa_cases w x1 with ⟨hk, hr⟩ | ⟨p, hp, rfl, hk, hr⟩
    · exact ⟨1, K, _, fun Q hQ => bf_ k13 (bt_ k14 (hk _ (bt_ rfl hQ))), fun Q hQ => bf_ c13 (bt_ c14 (hr _ ⟨_, rfl, bt_ rfl ⟨nb_0, _, rfl, nt_ rfl (n1 Q hQ)⟩⟩)), WR_400 w, fun _ _ _ => rfl⟩
    · have m5 := (CQ_p (WR_cq w) hp).1
      obtain ⟨b1, b2, b3, b4, b5, b6, b7, b8, b9⟩ := CM_p (WR_cm w) hp
      have cp := nI_clamp (n := p) (by omega)
      have vpp : ∀ f : Nat, r_N f = 16 → vp_in (nI p) (r_N f) := fun f hf => ri_v hf (by omega) (by decide)
      have al := al_4 x2 (N := 4) (k := 2) rfl (by decide) (n := 4) rfl (m := 3) rfl
      have kgo : ∀ Q : Int32 → c_S → Prop, km_X4_hasWord L K p x2 (fun x S => (¬ x = 0 → vp_in (x2 >>> ((2 : Int32) &&& 31)) (c_ln L 802 p) ∧ Q 0 (cs_A S 802 p (x2 >>> ((2 : Int32) &&& 31)).toNatClampNeg x3)) ∧ (x = 0 → Q 1 S)) → kt_image L K (nI p) x2 x3 Q := fun Q hQ => bf_ k13 (bt_ k14 (hk _ (bf_ (fun z => (by cases z)) ⟨_, rfl, m5, hQ⟩)))
      have rgo : ∀ Q : Option Value → r_S → Prop, ((x2 < 0 → (rb_X12_image_33 R (nI p) x2 x3 1 Q)) ∧ (¬ x2 < 0 → ((nI (z_by Z p) ≤ x2 → (rb_X12_image_33 R (nI p) x2 x3 1 Q)) ∧ (¬ nI (z_by Z p) ≤ x2 → ((¬ (x2 - x2 / (4 : Int32) * (4 : Int32)) = 0 → (rb_X12_image_33 R (nI p) x2 x3 1 Q)) ∧ ((x2 - x2 / (4 : Int32) * (4 : Int32)) = 0 → (rb_X12_image_33 R (nI p) x2 x3 0 Q))))))) → rm_X12_image R (nI p) x2 x3 Q := fun Q hQ => by
        refine bf_ c13 (bt_ c14 (hr _ ⟨_, rfl, bf_ (by decide) ?_⟩))
        refine ⟨fun z => ⟨nb_0, _, rfl, nt_ rfl (hQ.1 z)⟩, fun z => ⟨vpp _ rfl, ?_⟩⟩
        rw [cp, b5]
        exact ⟨fun z2 => ⟨nb_0, _, rfl, nt_ rfl ((hQ.2 z).1 z2)⟩, fun z2 => ⟨fun z3 => ⟨nb_0, _, rfl, nt_ rfl (((hQ.2 z).2 z2).1 z3)⟩, fun z3 => ⟨nb_1, _, rfl, nf_ (by decide) (((hQ.2 z).2 z2).2 z3)⟩⟩⟩
      have no : (x2 < 0 ∨ nI (z_by Z p) ≤ x2 ∨ ¬ x2 &&& 3 = 0) → ∃ (v : Int32) (K' : c_S) (R' : r_S), (∀ Q : Int32 → c_S → Prop, Q v K' → kt_image L K (nI p) x2 x3 Q) ∧ (∀ Q : Option Value → r_S → Prop, Q none R' → rm_X12_image R (nI p) x2 x3 Q) ∧ WR b L (zs_th Z v) K' R' ∧ (∀ f i : Nat, f ≠ 2465 → r_A R' f i = r_A R f i) := fun ho => by
        refine ⟨1, K, _, fun Q hQ => kgo Q ?_, fun Q hQ => rgo Q ?_, WR_400 w, fun _ _ _ => rfl⟩
        · by_cases c : x2 < 0
          · exact bt_ c ⟨nb_0, nt_ rfl hQ⟩
          · by_cases c2 : nI (z_by Z p) ≤ x2
            · exact bf_ c (bt_ (by rw [b4]; exact c2) ⟨nb_0, nt_ rfl hQ⟩)
            · exact bf_ c (bf_ (by rw [b4]; exact c2) (nf_ (ho.elim (fun z => absurd z c) (fun z => z.elim (fun z => absurd z c2) id)) ⟨nb_0, nt_ rfl hQ⟩))
        · by_cases c : x2 < 0
          · exact bt_ c (n1 Q hQ)
          · by_cases c2 : nI (z_by Z p) ≤ x2
            · exact bf_ c (bt_ c2 (n1 Q hQ))
            · exact bf_ c (bf_ c2 (nf_ (fun z => (ho.elim (fun z => absurd z c) (fun z => z.elim (fun z => absurd z c2) id)) (al.mpr z)) (n1 Q hQ)))
      by_cases c : x2 < 0
      · exact no (Or.inl c)
      by_cases c2 : nI (z_by Z p) ≤ x2
      · exact no (Or.inr (Or.inl c2))
      by_cases c3 : x2 &&& 3 = 0
      · obtain ⟨v, hv, rfl⟩ := nI_of c
        have hvb : v < z_by Z p := Classical.byContradiction fun z => c2 (nI_le (by omega) hv)
        have hm : v % 4 = 0 := by
          rw [pl_a hv] at c3
          exact (nI_eq (a := v % 4) (b := 0) (by omega) (by decide)).mp c3
        obtain ⟨i, rfl⟩ : ∃ i : Nat, v = 4 * i := ⟨v / 4, by omega⟩
        have hi : i < z_by Z p / 4 := by omega
        have es : nI (4 * i) >>> ((2 : Int32) &&& 31) = nI i := by rw [pl_s hv, Nat.mul_div_cancel_left _ (by decide)]
        have ci := nI_clamp (n := i) (by omega)
        refine ⟨0, cs_A K 802 p i x3, r_im (rs_I R 2400 0) (8192 * p + 4 * i) x3 4, fun Q hQ => kgo Q (bf_ c (bf_ (by rw [b4]; exact c2) (nt_ c3 ⟨nb_1, nf_ (by decide) ?_⟩))), fun Q hQ => rgo Q (bf_ c (bf_ c2 (nt_ (al.mp c3) (bt_ (by show (0 : Int32) ≤ 0; decide) ⟨5, re_image (by omega) (by omega) hQ⟩)))), WR_im (WR_400 w) hp hi, fun f i hf => im_o 4 (Or.inl hf)⟩
        rw [es, ci]
        exact ⟨vp_in_nI (by omega) (by omega), hQ⟩
      · exact no (Or.inr (Or.inr c3))
