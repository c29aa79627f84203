/-! All that wait for a thing go on. -/
theorem re_lastOf {R : r_S} {p n : Nat} {Q : Option Value → r_S → Prop} (hp : p < 16) (hn : r_A R 2435 (6 * p + 5) = nI n) (h : Q (some (.int (nI (16 * p + n)))) R) : rm_X12_lastOf R (nI p) Q := by
  unfold rm_X12_lastOf
  rw [show (6 : Int32) = nI 6 from rfl, show (5 : Int32) = nI 5 from rfl, pk_mul, nI_add, nI_clamp (by omega), hn, q_16]
  exact ⟨ri_v (n := 96) rfl (by omega) (by decide), h⟩
theorem P_wakeL {L : c_L} {Z : z_C} {p s k : Nat} (hp : p < z_np Z) (hs : 1 ≤ s ∧ s ≤ 5) (hk : k < 8) : ∀ (d x b : Nat) (K : c_S) (R : r_S), x + d = z_nq Z p → WR b L Z K R → b + d < 1999999990 → ∃ (K' : c_S) (R' : r_S), (∀ Q : c_S → Prop, Q K' → kl_X5_wakeAll_2 L (d + 1) K p (nI (b_co s + k)) (nI x) Q) ∧ (∀ Q : Option Value → r_S → Prop, Q none R' → rl_X12_allGet_6 (d + 1) R (nI p) (nI s) (nI (8 * p + k)) 0 0 (nI (16 * p + x)) Q) ∧ WR (b + d) L Z K' R' ∧ ∀ f i : Nat, c_P K' f i = c_P K f i := by
  intro d
  induction d with
  | zero =>
    intro x b K R hx w hb
    have cq := WR_cq w
    have np16 := CQ_np cq
    have n16 := CQ_nq cq p hp
    obtain ⟨m5, -, hn, hn2⟩ := CQ_p cq hp
    refine ⟨K, R, fun Q hQ => ⟨fun _ => hQ, fun z => absurd ?_ z⟩, fun Q hQ => ?_, w, fun _ _ => rfl⟩
    · rw [hn]; exact nI_le (by omega) (by omega)
    · show rb_X12_allGet_6 _ R _ _ _ _ _ _ Q
      unfold rb_X12_allGet_6
      exact re_lastOf (by omega) hn2 ⟨_, rfl, fun _ => hQ, fun z => absurd (nI_le (by omega) (by omega)) z⟩
  | succ d ih =>
    intro x b K R hx w hb
    have cq := WR_cq w
    have np16 := CQ_np cq
    have n16 := CQ_nq cq p hp
    obtain ⟨m5, -, hn, hn2⟩ := CQ_p cq hp
    have hxn : x < z_nq Z p := by omega
    have mx := (CQ_q cq hp hxn).1
    have mt := mt_thing w hp hxn hs hk
    have ec : c_e7 L p (nI x).toNatClampNeg = some (16 * p + x) := by rw [nI_clamp (by omega)]; exact c_m7 (by omega) mx
    have v16 : vp_in (nI x) 16 := vp_in_nI (by omega) (by decide)
    have v256 : ∀ f : Nat, r_N f = 256 → vp_in (nI (16 * p + x)) (r_N f) := fun f hf => ri_v hf (by omega) (by decide)
    have c256 := nI_clamp (n := 16 * p + x) (by omega)
    unfold r_mt at mt
    rw [decide_eq_true_eq] at mt
    by_cases c : c_I K 1418 (16 * p + x) = nI (b_co s + k)
    · obtain ⟨m1, m2, m3⟩ := mt.mp c
      have w1 := WR_get (v := 0) w (by omega) hp hxn m1 (fun z => by
        have := m2.symm.trans z
        rw [show (0 : Int32) = nI 0 from rfl, nI_eq (by omega) (by omega)] at this
        omega)
      obtain ⟨K', R', g1, g2, g3, g4⟩ := ih (x + 1) (b + 1) _ _ (by omega) w1 (by omega)
      refine ⟨K', R', fun Q hQ => ⟨fun z => absurd z (by rw [hn]; exact nI_ge (by omega) (by omega)), fun _ => ⟨v16, _, ec, mx, fun z => absurd c z, fun _ => ⟨v16, ?_⟩⟩⟩, fun Q hQ => ?_, WR_w g3 (by omega), fun f i => (g4 f i).trans rfl⟩
      · rw [ec]
        refine ke_answerWaiter mx ?_
        show kl_X5_wakeAll_2 L (d + 1) _ p (nI (b_co s + k)) (nI x + 1) Q
        rw [nI_1]
        exact g1 Q hQ
      · show rb_X12_allGet_6 _ R _ _ _ _ _ _ Q
        unfold rb_X12_allGet_6
        refine re_lastOf (by omega) hn2 ⟨_, rfl, fun z => absurd z (nI_ge (by omega) (by omega)), fun _ => ⟨v256 _ rfl, ?_⟩⟩
        rw [c256]
        refine ⟨fun z => absurd m1 z, fun _ => ⟨v256 _ rfl, fun z => absurd m2 z, fun _ => ⟨v256 _ rfl, fun _ => ⟨fun _ => re_gets (by omega) ⟨rfl, ?_⟩, fun z => absurd rfl z⟩, fun z => absurd m3 z⟩⟩⟩
        show rl_X12_allGet_6 (d + 1) _ (nI p) (nI s) (nI (8 * p + k)) 0 0 (nI (16 * p + x) + 1) Q
        rw [nI_1]
        exact g2 Q hQ
    · obtain ⟨K', R', g1, g2, g3, g4⟩ := ih (x + 1) b K R (by omega) w (by omega)
      have go : ∀ Q : Option Value → r_S → Prop, Q none R' → rb_X12_allGet_78 (fun S x1 x2 x3 x4 x5 x6 => rl_X12_allGet_6 (d + 1) S x1 x2 x3 x4 x5 x6 Q) R (nI p) (nI s) (nI (8 * p + k)) 0 0 (nI (16 * p + x)) Q := fun Q hQ => by
        show rl_X12_allGet_6 (d + 1) R (nI p) (nI s) (nI (8 * p + k)) 0 0 (nI (16 * p + x) + 1) Q
        rw [nI_1]
        exact g2 Q hQ
      refine ⟨K', R', fun Q hQ => ⟨fun z => absurd z (by rw [hn]; exact nI_ge (by omega) (by omega)), fun _ => ⟨v16, _, ec, mx, fun _ => ?_, fun z => absurd z c⟩⟩, fun Q hQ => ?_, WR_w g3 (by omega), g4⟩
      · show kl_X5_wakeAll_2 L (d + 1) K p (nI (b_co s + k)) (nI x + 1) Q
        rw [nI_1]
        exact g1 Q hQ
      · show rb_X12_allGet_6 _ R _ _ _ _ _ _ Q
        unfold rb_X12_allGet_6
        refine re_lastOf (by omega) hn2 ⟨_, rfl, fun z => absurd z (nI_ge (by omega) (by omega)), fun _ => ⟨v256 _ rfl, ?_⟩⟩
        rw [c256]
        exact ⟨fun _ => go Q hQ, fun z1 => ⟨v256 _ rfl, fun _ => go Q hQ, fun z2 => ⟨v256 _ rfl, fun z3 => absurd (mt.mpr ⟨z1, z2, z3⟩) c, fun _ => go Q hQ⟩⟩⟩
theorem P_wake {b : Nat} {L : c_L} {Z : z_C} {K : c_S} {R : r_S} {p s k : Nat} (w : WR b L Z K R) (hb : b < 1999999900) (hp : p < z_np Z) (hs : 1 ≤ s ∧ s ≤ 5) (hk : k < 8) : ∃ (K' : c_S) (R' : r_S), (∀ Q : c_S → Prop, Q K' → km_X5_wakeAll L K p (nI (b_co s + k)) Q) ∧ (∀ Q : Option Value → r_S → Prop, Q none R' → rm_X12_allGet R (nI p) (nI s) (nI (8 * p + k)) 0 0 Q) ∧ WR (b + 16) L Z K' R' ∧ ∀ f i : Nat, c_P K' f i = c_P K f i := by
  have n16 := CQ_nq (WR_cq w) p hp
  obtain ⟨K', R', g1, g2, g3, g4⟩ := P_wakeL (L := L) hp hs hk (z_nq Z p) 0 b K R (by omega) w (by omega)
  refine ⟨K', R', fun Q hQ => ⟨_, g1 Q hQ⟩, fun Q hQ => ⟨z_nq Z p + 1, ?_⟩, WR_w g3 (by omega), g4⟩
  rw [show (16 : Int32) * nI p = nI (16 * p + 0) by rw [show (16 : Int32) = nI 16 from rfl, pk_mul, Nat.add_zero]]
  exact g2 Q hQ
/-! with a word -/
def a_w (K : c_S) (P : Nat → Bool) (v : Int32) : c_S := (K.1, K.2.1, (fun f q n => if f = 1411 ∧ n = 11 ∧ P q = true then v else K.2.2.1 f q n), K.2.2.2)
theorem a_wI {K : c_S} {P : Nat → Bool} {v : Int32} {f i : Nat} : c_I (a_w K P v) f i = c_I K f i := rfl
/-- one more of them -/
theorem a_ws {K : c_S} {P P' : Nat → Bool} {v : Int32} {q : Nat} (h : ∀ q' : Nat, P' q' = true ↔ P q' = true ∨ q' = q) : cs_A (a_w K P v) 1411 q 11 v = a_w K P' v := by
  refine Prod.ext rfl (Prod.ext rfl (Prod.ext (funext fun f => funext fun i => funext fun n => ?_) rfl))
  show c_A (cs_A (a_w K P v) 1411 q 11 v) f i n = _
  rw [c_AA]
  show (if f = 1411 ∧ i = q ∧ n = 11 then v else if f = 1411 ∧ n = 11 ∧ P i = true then v else K.2.2.1 f i n) = (if f = 1411 ∧ n = 11 ∧ P' i = true then v else K.2.2.1 f i n)
  by_cases c : f = 1411 ∧ n = 11
  · by_cases c2 : i = q
    · rw [if_pos ⟨c.1, c2, c.2⟩, if_pos ⟨c.1, c.2, (h i).mpr (Or.inr c2)⟩]
    · rw [if_neg (fun z => c2 z.2.1)]
      by_cases c3 : P i = true
      · rw [if_pos ⟨c.1, c.2, c3⟩, if_pos ⟨c.1, c.2, (h i).mpr (Or.inl c3)⟩]
      · rw [if_neg (fun z => c3 z.2.2), if_neg (fun z => ((h i).mp z.2.2).elim c3 c2)]
  · rw [if_neg (fun z => c ⟨z.1, z.2.2⟩), if_neg (fun z => c ⟨z.1, z.2.1⟩), if_neg (fun z => c ⟨z.1, z.2.1⟩)]
theorem a_w0 {K : c_S} {P : Nat → Bool} {v : Int32} (h : ∀ q : Nat, P q = false) : a_w K P v = K := by
  refine Prod.ext rfl (Prod.ext rfl (Prod.ext (funext fun f => funext fun i => funext fun n => ?_) rfl))
  exact if_neg (fun z => by rw [h i] at z; exact absurd z.2.2 (by decide))
/-- the next of them goes on -/
theorem a_wg {K : c_S} {P P' : Nat → Bool} {v : Int32} {p q : Nat} (h : ∀ q' : Nat, P q' = true ↔ P' q' = true ∨ q' = q) : cs_A (k_rdy (a_w K P v) p q) 1411 q 10 0 = a_w (cs_A (k_rdy (cs_A K 1411 q 11 v) p q) 1411 q 10 0) P' v := by
  refine Prod.ext rfl (Prod.ext rfl (Prod.ext (funext fun f => funext fun i => funext fun n => ?_) rfl))
  show c_A (cs_A (k_rdy (a_w K P v) p q) 1411 q 10 0) f i n = (if f = 1411 ∧ n = 11 ∧ P' i = true then v else c_A (cs_A (k_rdy (cs_A K 1411 q 11 v) p q) 1411 q 10 0) f i n)
  rw [c_AA, c_AA, show c_A (k_rdy (cs_A K 1411 q 11 v) p q) f i n = c_A (cs_A K 1411 q 11 v) f i n from rfl, c_AA]
  show (if f = 1411 ∧ i = q ∧ n = 10 then 0 else if f = 1411 ∧ n = 11 ∧ P i = true then v else c_A K f i n) = (if f = 1411 ∧ n = 11 ∧ P' i = true then v else if f = 1411 ∧ i = q ∧ n = 10 then 0 else if f = 1411 ∧ i = q ∧ n = 11 then v else c_A K f i n)
  by_cases c1 : f = 1411 ∧ i = q ∧ n = 10
  · rw [if_pos c1, if_neg (fun z => absurd (z.2.1.symm.trans c1.2.2) (by decide)), if_pos c1]
  · rw [if_neg c1, if_neg c1]
    by_cases c2 : f = 1411 ∧ n = 11 ∧ P i = true
    · rw [if_pos c2]
      by_cases c3 : P' i = true
      · rw [if_pos ⟨c2.1, c2.2.1, c3⟩]
      · have := ((h i).mp c2.2.2).resolve_left c3
        rw [if_neg (fun z => c3 z.2.2), if_pos ⟨c2.1, this, c2.2.1⟩]
    · rw [if_neg c2, if_neg (fun z => c2 ⟨z.1, z.2.1, (h i).mpr (Or.inl z.2.2)⟩), if_neg (fun z => c2 ⟨z.1, z.2.2, (h i).mpr (Or.inr z.2.1)⟩)]
def s_r (K : c_S) (p x n : Nat) (code : Int32) (q : Nat) : Bool := decide (16 * p + x ≤ q ∧ q < 16 * p + n ∧ c_I K 1418 q = code)
theorem a_wc {K : c_S} {P P' : Nat → Bool} {v : Int32} (h : ∀ q : Nat, P q = P' q) : a_w K P v = a_w K P' v := by rw [show P = P' from funext h]
theorem P_showL {L : c_L} {Z : z_C} {p s k : Nat} {v : Int32} (hp : p < z_np Z) (hs : 1 ≤ s ∧ s ≤ 5) (hk : k < 8) : ∀ (d x b : Nat) (K : c_S) (R : r_S), x + d = z_nq Z p → WR b L Z K R → b + d < 1999999990 → ∃ (K' : c_S) (R' : r_S), (∀ Q : c_S → Prop, Q K' → kl_X5_wakeAll_2 L (d + 1) (a_w K (s_r K p x (z_nq Z p) (nI (b_co s + k))) v) p (nI (b_co s + k)) (nI x) Q) ∧ (∀ Q : Option Value → r_S → Prop, Q none R' → rl_X12_allGet_6 (d + 1) R (nI p) (nI s) (nI (8 * p + k)) 1 v (nI (16 * p + x)) Q) ∧ WR (b + d) L Z K' R' ∧ ∀ f i : Nat, c_P K' f i = c_P K f i := by
  intro d
  induction d with
  | zero =>
    intro x b K R hx w hb
    have cq := WR_cq w
    have np16 := CQ_np cq
    have n16 := CQ_nq cq p hp
    obtain ⟨m5, -, hn, hn2⟩ := CQ_p cq hp
    have e0 : a_w K (s_r K p x (z_nq Z p) (nI (b_co s + k))) v = K := a_w0 (fun q => decide_eq_false (fun z => by omega))
    refine ⟨K, R, fun Q hQ => ⟨fun _ => by rw [e0]; exact hQ, fun z => absurd ?_ z⟩, fun Q hQ => ?_, w, fun _ _ => rfl⟩
    · show c_I K 1004 p ≤ nI x
      rw [hn]; exact nI_le (by omega) (by omega)
    · show rb_X12_allGet_6 _ R _ _ _ _ _ _ Q
      unfold rb_X12_allGet_6
      exact re_lastOf (by omega) hn2 ⟨_, rfl, fun _ => hQ, fun z => absurd (nI_le (by omega) (by omega)) z⟩
  | succ d ih =>
    intro x b K R hx w hb
    have cq := WR_cq w
    have np16 := CQ_np cq
    have n16 := CQ_nq cq p hp
    obtain ⟨m5, -, hn, hn2⟩ := CQ_p cq hp
    have hxn : x < z_nq Z p := by omega
    have mx := (CQ_q cq hp hxn).1
    have mt := mt_thing w hp hxn hs hk
    have ec : c_e7 L p (nI x).toNatClampNeg = some (16 * p + x) := by rw [nI_clamp (by omega)]; exact c_m7 (by omega) mx
    have v16 : vp_in (nI x) 16 := vp_in_nI (by omega) (by decide)
    have v256 : ∀ f : Nat, r_N f = 256 → vp_in (nI (16 * p + x)) (r_N f) := fun f hf => ri_v hf (by omega) (by decide)
    have c256 := nI_clamp (n := 16 * p + x) (by omega)
    have hng : ¬ c_I (a_w K (s_r K p x (z_nq Z p) (nI (b_co s + k))) v) 1004 p ≤ nI x := by
      show ¬ c_I K 1004 p ≤ nI x
      rw [hn]; exact nI_ge (by omega) (by omega)
    unfold r_mt at mt
    rw [decide_eq_true_eq] at mt
    by_cases c : c_I K 1418 (16 * p + x) = nI (b_co s + k)
    · obtain ⟨m1, m2, m3⟩ := mt.mp c
      have w0 := WR_x (v := v) w hp hxn (i := 11) (by decide)
      have w1 := WR_get (v := 0) w0 (by omega) hp hxn m1 (fun z => by
        have z : r_A R 2478 (16 * p + x) = 0 := z
        have := m2.symm.trans z
        rw [show (0 : Int32) = nI 0 from rfl, nI_eq (by omega) (by omega)] at this
        omega)
      obtain ⟨K', R', g1, g2, g3, g4⟩ := ih (x + 1) (b + 1) _ _ (by omega) w1 (by omega)
      refine ⟨K', R', fun Q hQ => ⟨fun z => absurd z hng, fun _ => ⟨v16, _, ec, mx, fun z => absurd c z, fun _ => ⟨v16, ?_⟩⟩⟩, fun Q hQ => ?_, WR_w g3 (by omega), fun f i => (g4 f i).trans rfl⟩
      · rw [ec]
        refine ke_answerWaiter mx ?_
        show kl_X5_wakeAll_2 L (d + 1) _ p (nI (b_co s + k)) (nI x + 1) Q
        rw [nI_1, a_wg (P' := s_r (cs_A (k_rdy (cs_A K 1411 (16 * p + x) 11 v) p (16 * p + x)) 1411 (16 * p + x) 10 0) p (x + 1) (z_nq Z p) (nI (b_co s + k))) (fun q' => ?_)]
        · exact g1 Q hQ
        · unfold s_r
          rw [decide_eq_true_eq, decide_eq_true_eq]
          have e1 : q' ≠ 16 * p + x → c_I (cs_A (k_rdy (cs_A K 1411 (16 * p + x) 11 v) p (16 * p + x)) 1411 (16 * p + x) 10 0) 1418 q' = c_I K 1418 q' := fun hq => congrFun (EX_rdy (p := p) (K := K) (R := R) q' hq).1 18
          by_cases eq : q' = 16 * p + x
          · subst eq
            exact ⟨fun _ => Or.inr rfl, fun _ => ⟨by omega, by omega, c⟩⟩
          · rw [e1 eq]
            refine ⟨fun z => Or.inl ⟨by omega, z.2.1, z.2.2⟩, fun z => ?_⟩
            rcases z with z | z
            · exact ⟨by omega, z.2.1, z.2.2⟩
            · exact absurd z eq
      · show rb_X12_allGet_6 _ R _ _ _ _ _ _ Q
        unfold rb_X12_allGet_6
        refine re_lastOf (by omega) hn2 ⟨_, rfl, fun z => absurd z (nI_ge (by omega) (by omega)), fun _ => ⟨v256 _ rfl, ?_⟩⟩
        rw [c256]
        refine ⟨fun z => absurd m1 z, fun _ => ⟨v256 _ rfl, fun z => absurd m2 z, fun _ => ⟨v256 _ rfl, fun _ => ⟨fun z => absurd z (by decide), fun _ => ?_⟩, fun z => absurd m3 z⟩⟩⟩
        rw [show (11 : Int32) = nI 11 from rfl, q_32, nI_clamp (by omega)]
        refine ⟨ri_v (n := 8192) rfl (by omega) (by decide), re_gets (by omega) ⟨rfl, ?_⟩⟩
        show rl_X12_allGet_6 (d + 1) _ (nI p) (nI s) (nI (8 * p + k)) 1 v (nI (16 * p + x) + 1) Q
        rw [nI_1]
        exact g2 Q hQ
    · obtain ⟨K', R', g1, g2, g3, g4⟩ := ih (x + 1) b K R (by omega) w (by omega)
      have go : ∀ Q : Option Value → r_S → Prop, Q none R' → rb_X12_allGet_78 (fun S x1 x2 x3 x4 x5 x6 => rl_X12_allGet_6 (d + 1) S x1 x2 x3 x4 x5 x6 Q) R (nI p) (nI s) (nI (8 * p + k)) 1 v (nI (16 * p + x)) Q := fun Q hQ => by
        show rl_X12_allGet_6 (d + 1) R (nI p) (nI s) (nI (8 * p + k)) 1 v (nI (16 * p + x) + 1) Q
        rw [nI_1]
        exact g2 Q hQ
      refine ⟨K', R', fun Q hQ => ⟨fun z => absurd z hng, fun _ => ⟨v16, _, ec, mx, fun _ => ?_, fun z => absurd z c⟩⟩, fun Q hQ => ?_, WR_w g3 (by omega), g4⟩
      · show kl_X5_wakeAll_2 L (d + 1) _ p (nI (b_co s + k)) (nI x + 1) Q
        rw [nI_1, a_wc (P' := s_r K p (x + 1) (z_nq Z p) (nI (b_co s + k))) (fun q => ?_)]
        · exact g1 Q hQ
        · unfold s_r
          by_cases eq : q = 16 * p + x
          · subst eq
            rw [decide_eq_false (fun z => c z.2.2), decide_eq_false (fun z => c z.2.2)]
          · by_cases z : 16 * p + x ≤ q ∧ q < 16 * p + z_nq Z p ∧ c_I K 1418 q = nI (b_co s + k)
            · rw [decide_eq_true z, decide_eq_true ⟨by omega, z.2.1, z.2.2⟩]
            · rw [decide_eq_false z, decide_eq_false (fun z2 => z ⟨by omega, z2.2.1, z2.2.2⟩)]
      · show rb_X12_allGet_6 _ R _ _ _ _ _ _ Q
        unfold rb_X12_allGet_6
        refine re_lastOf (by omega) hn2 ⟨_, rfl, fun z => absurd z (nI_ge (by omega) (by omega)), fun _ => ⟨v256 _ rfl, ?_⟩⟩
        rw [c256]
        exact ⟨fun _ => go Q hQ, fun z1 => ⟨v256 _ rfl, fun _ => go Q hQ, fun z2 => ⟨v256 _ rfl, fun z3 => absurd (mt.mpr ⟨z1, z2, z3⟩) c, fun _ => go Q hQ⟩⟩⟩
def s_d (K : c_S) (p x : Nat) (code : Int32) (q : Nat) : Bool := decide (16 * p ≤ q ∧ q < 16 * p + x ∧ c_I K 1418 q = code)
theorem P_show {b : Nat} {L : c_L} {Z : z_C} {K : c_S} {R : r_S} {p s k : Nat} {v : Int32} (w : WR b L Z K R) (hb : b < 1999999900) (hp : p < z_np Z) (hs : 1 ≤ s ∧ s ≤ 5) (hk : k < 8) : ∃ (K' : c_S) (R' : r_S), (∀ Q : c_S → Prop, Q K' → km_X5_showAll L K p (nI (b_co s + k)) v Q) ∧ (∀ Q : Option Value → r_S → Prop, Q none R' → rm_X12_allGet R (nI p) (nI s) (nI (8 * p + k)) 1 v Q) ∧ WR (b + 16) L Z K' R' ∧ ∀ f i : Nat, c_P K' f i = c_P K f i := by
  have cq := WR_cq w
  have np16 := CQ_np cq
  have n16 := CQ_nq cq p hp
  obtain ⟨m5, -, hn, hn2⟩ := CQ_p cq hp
  obtain ⟨K', R', g1, g2, g3, g4⟩ := P_showL (L := L) (v := v) hp hs hk (z_nq Z p) 0 b K R (by omega) w (by omega)
  refine ⟨K', R', fun Q hQ => ⟨z_nq Z p + 1, ?_⟩, fun Q hQ => ⟨z_nq Z p + 1, ?_⟩, WR_w g3 (by omega), g4⟩
  · have lp : ∀ d x : Nat, x + d = z_nq Z p → kl_X5_showAll_2 L (d + 1) (a_w K (s_d K p x (nI (b_co s + k))) v) p (nI (b_co s + k)) v (nI x) Q := by
      intro d
      induction d with
      | zero =>
        intro x hx
        refine ⟨fun _ => ⟨z_nq Z p + 1, ?_⟩, fun z => absurd ?_ z⟩
        · rw [a_wc (P' := s_r K p 0 (z_nq Z p) (nI (b_co s + k))) (fun q => ?_)]
          · exact g1 Q hQ
          · unfold s_r s_d
            rw [show x = z_nq Z p by omega, Nat.add_zero]
        · show c_I K 1004 p ≤ nI x
          rw [hn]; exact nI_le (by omega) (by omega)
      | succ d ih =>
        intro x hx
        have hxn : x < z_nq Z p := by omega
        have mx := (CQ_q cq hp hxn).1
        have ec : c_e7 L p (nI x).toNatClampNeg = some (16 * p + x) := by rw [nI_clamp (by omega)]; exact c_m7 (by omega) mx
        have v16 : vp_in (nI x) 16 := vp_in_nI (by omega) (by decide)
        have nx := ih (x + 1) (by omega)
        refine ⟨fun z => absurd z ?_, fun _ => ⟨v16, _, ec, mx, fun c => ?_, fun c => ⟨v16, v32 (n := 11) (by decide), ?_⟩⟩⟩
        · show ¬ c_I K 1004 p ≤ nI x
          rw [hn]; exact nI_ge (by omega) (by omega)
        · have c : ¬ c_I K 1418 (16 * p + x) = nI (b_co s + k) := c
          show kl_X5_showAll_2 L (d + 1) _ p (nI (b_co s + k)) v (nI x + 1) Q
          rw [nI_1, a_wc (P' := s_d K p (x + 1) (nI (b_co s + k))) (fun q => ?_)]
          · exact nx
          · unfold s_d
            by_cases eq : q = 16 * p + x
            · subst eq
              rw [decide_eq_false (fun z => c z.2.2), decide_eq_false (fun z => c z.2.2)]
            · by_cases z : 16 * p ≤ q ∧ q < 16 * p + x ∧ c_I K 1418 q = nI (b_co s + k)
              · rw [decide_eq_true z, decide_eq_true ⟨z.1, by omega, z.2.2⟩]
              · rw [decide_eq_false z, decide_eq_false (fun z2 => z ⟨z2.1, by omega, z2.2.2⟩)]
        · have c : c_I K 1418 (16 * p + x) = nI (b_co s + k) := c
          show kl_X5_showAll_2 L (d + 1) (cs_A (a_w K (s_d K p x (nI (b_co s + k))) v) 1411 (16 * p + x) 11 v) p (nI (b_co s + k)) v (nI x + 1) Q
          rw [nI_1, a_ws (P' := s_d K p (x + 1) (nI (b_co s + k))) (fun q => ?_)]
          · exact nx
          · unfold s_d
            rw [decide_eq_true_eq, decide_eq_true_eq]
            refine ⟨fun z => ?_, fun z => ?_⟩
            · by_cases eq : q = 16 * p + x
              · exact Or.inr eq
              · exact Or.inl ⟨z.1, by omega, z.2.2⟩
            · rcases z with z | z
              · exact ⟨z.1, by omega, z.2.2⟩
              · subst z
                exact ⟨by omega, by omega, c⟩
    have z := lp (z_nq Z p) 0 (by omega)
    have e0 : a_w K (s_d K p 0 (nI (b_co s + k))) v = K := a_w0 (fun q => decide_eq_false (fun z => by omega))
    rw [e0] at z
    exact z
  · rw [show (16 : Int32) * nI p = nI (16 * p + 0) by rw [show (16 : Int32) = nI 16 from rfl, pk_mul, Nat.add_zero]]
    exact g2 Q hQ
