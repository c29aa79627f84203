/-! A word along a channel. -/
theorem dmo {α β : Type} {p : (α → β → Prop) → Prop} (d : dt2 p) {P Q : α → β → Prop} (h : p P) (hm : ∀ (v : α) (s : β), P v s → Q v s) : p Q := by
  obtain ⟨v, s, hv, hr⟩ := d _ h
  exact hr _ (hm v s hv)
/-- who waits to receive -/
theorem fw_recv {b : Nat} {L : c_L} {Z : z_C} {K : c_S} {R : r_S} {p c a : Nat} {fifo : Int32} (w : WR b L Z K R) (hp : p < z_np Z) (hc : c < z_nc Z) (hq : r_A R 2454 c = 1) (hg : z_gp Z c 0 = some (p, a)) : (∀ Q : Option Nat → c_S → Prop, Q ((k_fw K p (z_nq Z p) (nI (32 + a)) fifo).map (fun i => 16 * p + i)) K → km_X5_firstWaiting L K p (nI (32 + a)) fifo Q) ∧ (∀ Q : Option Value → r_S → Prop, Q (some (.int (o_i ((k_fw K p (z_nq Z p) (nI (32 + a)) fifo).map (fun i => 16 * p + i))))) R → rm_X12_waiter R 6 (nI c) fifo Q) ∧ ∀ i : Nat, k_fw K p (z_nq Z p) (nI (32 + a)) fifo = some i → i < z_nq Z p ∧ r_A R 2467 (16 * p + i) = 2 ∧ r_A R 2478 (16 * p + i) = 6 ∧ r_A R 2478 (16 * p + i) ≠ 0 := by
  have cq := WR_cq w
  have n16 := CQ_nq cq p hp
  obtain ⟨m5, -, hn, hn2⟩ := CQ_p cq hp
  have e := fw_eq (fifo := fifo) w hp (s := 6) (by decide) (fun i hi => mt_recv w hp hi hc hq hg) (fun q hq' ho => mt_other w hp hq' ho (Or.inr (Or.inl ⟨c, a, hc, hq, hg, rfl, rfl⟩)))
  refine ⟨fun Q hQ => ke_fw hn n16 (fun i hi => (CQ_q cq hp hi).1) hQ, fun Q hQ => re_fw (by rw [e]; exact hQ), fun i hi => ?_⟩
  obtain ⟨h1, h2⟩ := b_fw_lt hi
  have h3 := (mt_recv w hp h1 hc hq hg).mp (of_decide_eq_true h2)
  unfold r_mt at h3
  rw [decide_eq_true_eq] at h3
  exact ⟨h1, h3.1, h3.2.1, fun z => absurd (h3.2.1.symm.trans z) (by decide)⟩
/-- who waits to send -/
theorem fw_send {b : Nat} {L : c_L} {Z : z_C} {K : c_S} {R : r_S} {p c a : Nat} {fifo : Int32} (w : WR b L Z K R) (hp : p < z_np Z) (hc : c < z_nc Z) (hg : z_sp Z c = some (p, a)) : (∀ Q : Option Nat → c_S → Prop, Q ((k_fw K p (z_nq Z p) (nI (96 + a)) fifo).map (fun i => 16 * p + i)) K → km_X5_firstWaiting L K p (nI (96 + a)) fifo Q) ∧ (∀ Q : Option Value → r_S → Prop, Q (some (.int (o_i ((k_fw K p (z_nq Z p) (nI (96 + a)) fifo).map (fun i => 16 * p + i))))) R → rm_X12_waiter R 7 (nI c) fifo Q) ∧ ∀ i : Nat, k_fw K p (z_nq Z p) (nI (96 + a)) fifo = some i → i < z_nq Z p ∧ r_A R 2467 (16 * p + i) = 2 ∧ r_A R 2478 (16 * p + i) = 7 ∧ r_A R 2478 (16 * p + i) ≠ 0 := by
  have cq := WR_cq w
  have n16 := CQ_nq cq p hp
  obtain ⟨m5, -, hn, hn2⟩ := CQ_p cq hp
  have e := fw_eq (fifo := fifo) w hp (s := 7) (by decide) (fun i hi => mt_send w hp hi hc hg) (fun q hq' ho => mt_other w hp hq' ho (Or.inr (Or.inr ⟨c, a, hc, hg, rfl, rfl⟩)))
  refine ⟨fun Q hQ => ke_fw hn n16 (fun i hi => (CQ_q cq hp hi).1) hQ, fun Q hQ => re_fw (by rw [e]; exact hQ), fun i hi => ?_⟩
  obtain ⟨h1, h2⟩ := b_fw_lt hi
  have h3 := (mt_send w hp h1 hc hg).mp (of_decide_eq_true h2)
  unfold r_mt at h3
  rw [decide_eq_true_eq] at h3
  exact ⟨h1, h3.1, h3.2.1, fun z => absurd (h3.2.1.symm.trans z) (by decide)⟩
theorem CC_q1 {L : c_L} {Z : z_C} {K : c_S} {R : r_S} (h : CC L Z K R) {c p a : Nat} (hc : c < z_nc Z) (hq : r_A R 2454 c = 1) (e : z_gp Z c 0 = some (p, a)) : c_P K 211 c = some p ∧ c_I K 212 c = nI (32 + a) := by
  have := (h.2.2.2.2.2.2.1 c hc).2.2.2.2.2.2.2.2 hq
  rw [e] at this
  exact this
/-- the reference's way of a word -/
def r_car (R : r_S) (c : Nat) (w : Int32) (Q : Int32 → r_S → Prop) : Prop := rm_X12_traced R (nI c) w (fun r S => r = none ∧ ((¬ r_A S 2454 c = 0 → ((r_A S 2459 (4 * c) = -2 → Q 1 S) ∧ (¬ r_A S 2459 (4 * c) = -2 → rm_X12_passes S (nI c) w (fun r20 S21 => ∃ x22 : Int32, r20 = some (.int x22) ∧ Q x22 S21)))) ∧ (r_A S 2454 c = 0 → rm_X12_sample S (nI c) w (fun r37 S38 => r37 = none ∧ Q 1 S38))))
theorem P_carry {b : Nat} {L : c_L} {Z : z_C} {K : c_S} {R : r_S} {c : Nat} {w : Int32} (h : WR b L Z K R) (gk : GK L) (hb : b < 1999999900) (hc : c < z_nc Z) : ∃ (v : Int32) (K' : c_S) (R' : r_S), (v = 1 ∨ (v = 0 ∧ r_A R 2454 c = 1 ∧ K' = K ∧ R' = R)) ∧ (∀ Q : Int32 → c_S → Prop, Q v K' → km_X6_carry L K 0 (some c) w Q) ∧ (∀ Q : Int32 → r_S → Prop, Q v R' → r_car R c w Q) ∧ WR (b + 8) L Z K' R' ∧ (∀ f i : Nat, c_P K' f i = c_P K f i) ∧ r_I R' 2513 = r_I R 2513 := by
  have cc := WR_cc h
  have nc24 : z_nc Z ≤ 24 := cc.1.1
  obtain ⟨⟨m1, h200, h201, h202, h203, h207, h58, n1, n4⟩, hq01, -⟩ := CC_c cc hc
  have h208 : c_I K 208 c = nI (g_o Z c (z_ng Z c)) := CC_o cc hc
  obtain ⟨c2, c4, c5, c6, c7, c8, c9⟩ := CC_d cc hc
  have go := g_ol (Z := Z) (c := c) (n := z_ng Z c)
  have ck := nI_clamp (n := c) (by omega)
  have vc : ∀ f : Nat, r_N f = 24 → vp_in (nI c) (r_N f) := fun f hf => ri_v hf (by omega) (by decide)
  have w1 := WR_trn (c := nI c) (w := w) (g_o Z c (z_ng Z c)) b K R h (by omega)
  have fI := (k_trn_f (K := K) (t := r_I R 2463) (c := nI c) (w := w) (g_o Z c (z_ng Z c))).1
  have fP := (k_trn_f (K := K) (t := r_I R 2463) (c := nI c) (w := w) (g_o Z c (z_ng Z c))).2.2
  have gI := (r_trn_f (R := R) (c := nI c) (w := w) (g_o Z c (z_ng Z c))).1
  have gA := (r_trn_f (R := R) (c := nI c) (w := w) (g_o Z c (z_ng Z c))).2
  rcases hq01 with hq | hq
  · -- sampling
    refine ⟨1, _, _, Or.inl rfl, fun Q hQ => ke_carry h hb hc (fun S eS => ?_), fun Q hQ => P_traced h hb hc ⟨rfl, fun z => ?_, fun _ => ?_⟩, WR_w (WR_samp (w := w) w1 hc (by rw [gA _ _ (by decide)]; exact hq)) (by omega), fun f i => fP f i, gI _ (by decide)⟩
    · subst eS
      refine ⟨fun z => absurd (by rw [fI _ _ (by decide), h201]; exact hq) z, fun _ => ?_⟩
      rw [fI 1211 0 (by decide), show c_I K 1211 0 = r_I R 2463 from h.1.2.2.2.2.2.2.1.1]
      rw [gI 2463 (by decide)] at hQ
      exact ke_sample (by rw [fI _ _ (by decide), c2, c9 hq]) (by omega) c7 hQ
    · exact absurd (by rw [gA _ _ (by decide)]; exact hq) z
    · refine ⟨vc _ rfl, vc _ rfl, vc _ rfl, fun S eS => ?_⟩
      rw [ck] at eS
      subst eS
      exact ⟨rfl, hQ⟩
  · have ng1 := (c8 hq).2
    have e4 : ((4 : Int32) * nI c) = nI (4 * c) := by rw [show (4 : Int32) = nI 4 from rfl, pk_mul]
    have hq0 : ¬ r_A R 2454 c = 0 := by rw [hq]; decide
    cases eg : z_gp Z c 0 with
    | none =>
      have g1 : g_o Z c (z_ng Z c) = 1 := by
        rw [ng1, g_os, eg]; rfl
      refine ⟨1, _, _, Or.inl rfl, fun Q hQ => ke_carry h hb hc (fun S eS => ?_), fun Q hQ => P_traced h hb hc ⟨rfl, fun _ => ⟨fun _ => hQ, fun z => ?_⟩, fun z => ?_⟩, WR_w w1 (by omega), fP, gI _ (by decide)⟩
      · subst eS
        refine ⟨fun _ => ⟨fun _ => hQ, fun z => ?_⟩, fun z => ?_⟩
        · rw [fI _ _ (by decide), h208, g1] at z
          exact absurd (by decide) z
        · rw [fI _ _ (by decide), h201] at z
          exact absurd z hq0
      · rw [gA _ _ (by decide)] at z
        exact absurd (CC_g0 cc hc (g := 0) (by omega) eg) z
      · rw [gA _ _ (by decide)] at z
        exact absurd z hq0
    | some q =>
      obtain ⟨p, a⟩ := q
      have g0 : g_o Z c (z_ng Z c) = 0 := by
        rw [ng1, g_os, eg]; rfl
      obtain ⟨hp, ha, k1, k2, k3⟩ := CC_g1 cc hc (by omega) eg
      obtain ⟨u1, u2⟩ := CC_q1 cc hc hq eg
      have cq := WR_cq h
      have np16 := CQ_np cq
      have n16 := CQ_nq cq p hp
      have t16 := (CT_n (WR_ct h) hp (s := 4) (by decide)).1
      rw [if_pos rfl] at t16
      have m5 := (CQ_p cq hp).1
      obtain ⟨f1, f2, f3⟩ := fw_recv (fifo := r_A R 2456 c) h hp hc hq eg
      have ke : ∀ Q : Int32 → c_S → Prop, km_X5_giveTaker L K p (nI (32 + a)) (r_A R 2456 c) w (fun x22_ S21_ => ((x22_ = 0 → (kb_X6_carry_85 L S21_ (some c) w Q)) ∧ (¬ x22_ = 0 → (kb_X6_carry_83 L S21_ Q)))) → km_X6_carry L K 0 (some c) w Q := fun Q hQ => ke_carry h hb hc (fun S eS => by
        rw [g0] at eS
        have eS : S = K := eS
        rw [eS]
        refine ⟨fun _ => ⟨fun z => ?_, fun _ => ⟨fun z => ?_, fun _ => ⟨p, u1, m5, ?_⟩⟩⟩, fun z => ?_⟩
        · have z : 0 < c_I K 208 c := z
          rw [h208, g0] at z
          exact absurd z (by decide)
        · exact absurd (u1.symm.trans z) (by simp)
        · show km_X5_giveTaker L K p (c_I K 212 c) (c_I K 202 c) w _
          rw [u2, h202]
          exact hQ
        · exact absurd (h201.symm.trans z) hq0)
      have re : ∀ Q : Int32 → r_S → Prop, rm_X12_passes R (nI c) w (fun r20 S21 => ∃ x22 : Int32, r20 = some (.int x22) ∧ Q x22 S21) → r_car R c w Q := fun Q hQ => P_traced h hb hc ⟨rfl, fun _ => ⟨fun z => by
          rw [g0] at z
          have z : r_A R 2459 (4 * c) = -2 := z
          rw [show 4 * c = 4 * c + 0 from rfl, k1] at z
          have z2 := congrArg Int32.toInt z
          rw [nI_toInt (by omega)] at z2
          have t : (-2 : Int32).toInt = -2 := by decide
          omega, fun _ => by
          rw [g0]
          exact hQ⟩, fun z => by
          rw [g0] at z
          exact absurd z hq0⟩
      have re2 : ∀ Q : Int32 → r_S → Prop, _ → r_car R c w Q := fun Q hQ => re Q ⟨vc 2456 rfl, by rw [ck]; exact f2 _ hQ⟩
      cases e : k_fw K p (z_nq Z p) (nI (32 + a)) (r_A R 2456 c) with
      | some i =>
        obtain ⟨i1, i2, i3, i4⟩ := f3 i e
        have mi := (CQ_q cq hp i1).1
        refine ⟨1, _, _, Or.inl rfl, fun Q hQ => ke Q (f1 _ ?_), fun Q hQ => re2 Q ⟨_, rfl, fun z => ?_, fun _ => ?_⟩, WR_w (WR_getw (v := w) h (by omega) hp i1 i2 i4) (by omega), fun _ _ => rfl, rfl⟩
        · rw [e]
          exact ⟨fun _ => ke_answerWaiter mi ⟨_, rfl, mi, v32 (n := 11) (by decide), fun z => absurd z (by decide), fun _ => hQ⟩, fun z => (by cases z)⟩
        · rw [e] at z
          exact absurd z (nI_m1 (by show 16 * p + i < 2 ^ 31; omega))
        · rw [e, show (o_i (Option.map (fun i => 16 * p + i) (some i))) = nI (16 * p + i) from rfl, show (11 : Int32) = nI 11 from rfl, q_32, nI_clamp (by omega)]
          exact ⟨ri_v (n := 8192) rfl (by omega) (by decide), re_gets (by omega) ⟨rfl, _, rfl, hQ⟩⟩
      | none =>
        obtain ⟨-, qa, n, q1, q2, q3, q4, q5, q6⟩ := CH_u h hc hq
        have ke2 : ∀ Q : Int32 → c_S → Prop, km_X8_add L K (1000 + c) w (fun x9_ S8_ => (narrow .boolean (.int x9_) = .int x9_ ∧ (Q x9_ S8_))) → km_X6_carry L K 0 (some c) w Q := fun Q hQ => ke Q (f1 _ (by
          rw [e]
          exact ⟨fun z => absurd rfl z, fun _ => ⟨fun _ => ⟨c, rfl, m1, hQ⟩, fun z => absurd rfl z⟩⟩))
        by_cases cf : n < z_dc Z (1000 + c)
        · obtain ⟨K', g1, g2, g3⟩ := WR_cadd (w := w) h hc hq q5 cf
          refine ⟨1, K', _, Or.inl rfl, fun Q hQ => ke2 Q (g1 _ ⟨nb_1, hQ⟩), fun Q hQ => re2 Q ⟨_, rfl, fun _ => ⟨vc _ rfl, vc _ rfl, fun _ => ?_, fun z => ?_⟩, fun z => ?_⟩, WR_w g2 (by omega), g3, rfl⟩
          · rw [q5, show (32 : Int32) = nI 32 from rfl, pk_mul, nI_add, nI_clamp (by omega)]
            refine ⟨vc _ rfl, ri_v (n := 768) rfl (by omega) (by decide), vc _ rfl, vc _ rfl, fun S eS => ?_⟩
            subst eS
            rw [r_An (Or.inl (by decide))]
            exact ⟨_, rfl, by rw [q5] at hQ ⊢; exact hQ⟩
          · rw [q5, (c8 hq).1, nI_eq (by omega) (by omega)] at z
            omega
          · rw [e] at z
            exact absurd rfl z
        · refine ⟨0, K, R, Or.inr ⟨rfl, hq, rfl, rfl⟩, fun Q hQ => ke2 Q (ke_add0 c2 q4 (by omega) (by omega) ⟨nb_0, hQ⟩), fun Q hQ => re2 Q ⟨_, rfl, fun _ => ⟨vc _ rfl, vc _ rfl, fun z => ?_, fun _ => ⟨_, rfl, hQ⟩⟩, fun z => ?_⟩, WR_w h (by omega), fun _ _ => rfl, rfl⟩
          · rw [q5, (c8 hq).1] at z
            exact absurd (by rw [show n = z_dc Z (1000 + c) by omega]) z
          · rw [e] at z
            exact absurd rfl z
