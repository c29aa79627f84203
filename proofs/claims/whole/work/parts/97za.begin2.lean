/-! A partition begins anew, on. -/
theorem bw_c {f g : Nat → Int32} (h : ∀ n : Nat, n < 4 → f n = g n) : b_w f = b_w g := by
  unfold b_w
  rw [h 0 (by decide), h 1 (by decide), h 2 (by decide), h 3 (by decide)]
theorem re_rests {R : r_S} {p nq : Nat} {Q : Option Value → r_S → Prop} (hp : p < 16) (n16 : nq ≤ 16) (h35 : r_A R 2435 (6 * p + 5) = nI nq) (hl : r_A R 2486 p = 0) (h : ∃ n : Nat, rl_X12_begins_127 n (r_slA R p nq) (nI p) (nI (16 * p + 0)) Q) : rb_X12_begins_93 R (nI p) Q := by
  have e16 : (16 : Int32) * nI p = nI (16 * p + 0) := by rw [show (16 : Int32) = nI 16 from rfl, pk_mul]; rfl
  have lp : ∀ d x : Nat, x + d = nq → rl_X12_begins_99 (d + 1) (r_slA R p x) (nI p) (nI (16 * p + x)) Q := by
    intro d
    induction d with
    | zero =>
      intro x hx
      obtain rfl : x = nq := by omega
      rw [rl_X12_begins_99, rb_X12_begins_99]
      refine re_lastOf hp ((sl_o (by decide)).trans h35) ⟨_, rfl, bt_ (nI_le (Nat.le_refl _) (by omega)) ?_⟩
      rw [e16]
      exact h
    | succ d ih =>
      intro x hx
      rw [rl_X12_begins_99, rb_X12_begins_99]
      refine re_lastOf hp ((sl_o (by decide)).trans h35) ⟨_, rfl, bf_ (nI_ge (by omega) (by omega)) (re_sl0 hp (by omega) ((sl_o (by decide)).trans hl) ⟨rfl, ?_⟩)⟩
      rw [sl_s, nI_1]
      exact ih (x + 1) (by omega)
  refine ⟨nq + 1, ?_⟩
  have z := lp nq 0 (by omega)
  rw [sl_0] at z
  rw [e16]
  exact z
theorem P_starts {L : c_L} {Z : z_C} {p : Nat} (hp : p < z_np Z) : ∀ (d x b : Nat) (K : c_S) (R : r_S), x + d = z_nq Z p → WR b L Z K R → b + d < 1999999990 → r_A R 2483 p = 0 → c_I K 1013 p = 0 → ∃ (K' : c_S) (R' : r_S), (∀ Q : c_S → Prop, Q K' → kl_X5_beginAnew_85 L (d + 1) K p (r_I R 2463) (nI x) Q) ∧ (∀ Q : Option Value → r_S → Prop, Q none R' → rl_X12_begins_127 (d + 1) R (nI p) (nI (16 * p + x)) Q) ∧ WR (b + d) L Z K' R' ∧ (∀ f i : Nat, c_P K' f i = c_P K f i) ∧ (∀ f : Nat, f ≠ 2464 → r_I R' f = r_I R f) ∧ ∀ p' : Nat, r_A R' 2483 p' = r_A R 2483 p' := by
  intro d
  induction d with
  | zero =>
    intro x b K R hx w hb hm hl
    have cq := WR_cq w
    have np16 := CQ_np cq
    have n16 := CQ_nq cq p hp
    obtain ⟨-, -, hn, hn2⟩ := CQ_p cq hp
    obtain rfl : x = z_nq Z p := by omega
    refine ⟨K, R, fun Q hQ => bt_ (by rw [hn]; exact nI_le (Nat.le_refl _) (by omega)) hQ, fun Q hQ => ?_, w, fun _ _ => rfl, fun _ _ => rfl, fun _ => rfl⟩
    rw [rl_X12_begins_127, rb_X12_begins_127]
    exact re_lastOf (by omega) hn2 ⟨_, rfl, bt_ (nI_le (Nat.le_refl _) (by omega)) hQ⟩
  | succ d ih =>
    intro x b K R hx w hb hm hl
    have cq := WR_cq w
    have np16 := CQ_np cq
    have n16 := CQ_nq cq p hp
    obtain ⟨-, -, hn, hn2⟩ := CQ_p cq hp
    have hxn : x < z_nq Z p := by omega
    obtain ⟨mi, -, -, hfl⟩ := CQ_q cq hp hxn
    have e8 : c_I K 1408 (16 * p + x) = r_A R 2441 (16 * p + x) := (CQ_e cq hp hxn).2.2.2.2
    have e6 : c_I K 1406 (16 * p + x) = r_A R 2440 (16 * p + x) := (CQ_e cq hp hxn).2.2.2.1
    have b6 := (CQ_b cq hp hxn).2.2
    have t0 := w.2.2.2.1.1
    have ci := nI_clamp (n := 16 * p + x) (by omega)
    have vi : ∀ f : Nat, r_N f = 256 → vp_in (nI (16 * p + x)) (r_N f) := fun f hf => ri_v hf (by omega) (by decide)
    have hxl : ¬ c_I K 1004 p ≤ nI x := by rw [hn]; exact nI_ge hxn (by omega)
    have e7 : c_e7 L p (nI x).toNatClampNeg = some (16 * p + x) := by rw [nI_clamp (by omega), c_m7 (by omega) mi]
    have skip : (∀ Q : c_S → Prop, kl_X5_beginAnew_85 L (d + 1) K p (r_I R 2463) (nI (x + 1)) Q → kl_X5_beginAnew_85 L (d + 1 + 1) K p (r_I R 2463) (nI x) Q) → (∀ Q : Option Value → r_S → Prop, rl_X12_begins_127 (d + 1) R (nI p) (nI (16 * p + (x + 1))) Q → rl_X12_begins_127 (d + 1 + 1) R (nI p) (nI (16 * p + x)) Q) → ∃ (K' : c_S) (R' : r_S), (∀ Q : c_S → Prop, Q K' → kl_X5_beginAnew_85 L (d + 1 + 1) K p (r_I R 2463) (nI x) Q) ∧ (∀ Q : Option Value → r_S → Prop, Q none R' → rl_X12_begins_127 (d + 1 + 1) R (nI p) (nI (16 * p + x)) Q) ∧ WR (b + (d + 1)) L Z K' R' ∧ (∀ f i : Nat, c_P K' f i = c_P K f i) ∧ (∀ f : Nat, f ≠ 2464 → r_I R' f = r_I R f) ∧ ∀ p' : Nat, r_A R' 2483 p' = r_A R 2483 p' := fun h1 h2 => by
      obtain ⟨K', R', a1, a2, a3, a4, a5, a6⟩ := ih (x + 1) b K R (by omega) w (by omega) hm hl
      exact ⟨K', R', fun Q hQ => h1 Q (a1 Q hQ), fun Q hQ => h2 Q (a2 Q hQ), WR_w a3 (by omega), a4, a5, a6⟩
    by_cases ch : z_hd Z p = some x
    · refine skip (fun Q hQ => bf_ hxl ⟨vp_in_nI (by omega) (by decide), _, e7, mi, nf_ (by rw [hfl, if_pos ch]; decide) ?_⟩) (fun Q hQ => ?_)
      · show kl_X5_beginAnew_85 L (d + 1) K p (r_I R 2463) (nI x + 1) Q
        rw [nI_1]; exact hQ
      · rw [rl_X12_begins_127, rb_X12_begins_127]
        refine re_lastOf (by omega) hn2 ⟨_, rfl, bf_ (nI_ge (by omega) (by omega)) (re_isH cq hp hxn ⟨_, rfl, nf_ (by rw [if_pos ch]; decide) ?_⟩)⟩
        show rl_X12_begins_127 (d + 1) R (nI p) (nI (16 * p + x) + 1) Q
        rw [nI_1]; exact hQ
    · have h70 : c_I K 1407 (16 * p + x) = 0 := by rw [hfl, if_neg ch]
      by_cases c8 : r_A R 2441 (16 * p + x) = 0
      · have ea := i_add (x := r_I R 2463) (y := r_A R 2440 (16 * p + x)) t0.1 b6.1 (by omega)
        obtain ⟨K1, R1, g1, g2, g3, g4, g5, g6, g7, g8, g9, g10, g11, g12, g13, g14⟩ := P_startX (t := r_I R 2463 + r_A R 2440 (16 * p + x)) w (by omega) hp hxn hm (by omega) (by omega) (Or.inr ⟨Or.inl hl, ch⟩)
        obtain ⟨K', R', a1, a2, a3, a4, a5, a6⟩ := ih (x + 1) (b + 1) K1 R1 (by omega) g3 (by omega) (g5.trans hm) (g6.trans hl)
        refine ⟨K', R', fun Q hQ => bf_ hxl ⟨vp_in_nI (by omega) (by decide), _, e7, mi, nt_ h70 (nt_ (e8.trans c8) ?_)⟩, fun Q hQ => ?_, by rw [show b + (d + 1) = b + 1 + d by omega]; exact a3, fun f i => (a4 f i).trans (g8 f i), fun f hf => (a5 f hf).trans (g11 f hf), fun p' => (a6 p').trans (g14 p')⟩
        · rw [e6, e7]
          refine g1 _ ?_
          show kl_X5_beginAnew_85 L (d + 1) K1 p (r_I R 2463) (nI x + 1) Q
          rw [nI_1, ← g4]
          exact a1 Q hQ
        · rw [rl_X12_begins_127, rb_X12_begins_127]
          refine re_lastOf (by omega) hn2 ⟨_, rfl, bf_ (nI_ge (by omega) (by omega)) (re_isH cq hp hxn ⟨_, rfl, nt_ (by rw [if_neg ch]) ⟨vi _ rfl, nt_ (by rw [ci]; exact c8) ⟨vi _ rfl, ?_⟩⟩⟩)⟩
          rw [ci]
          refine g2 _ ⟨rfl, ?_⟩
          show rl_X12_begins_127 (d + 1) R1 (nI p) (nI (16 * p + x) + 1) Q
          rw [nI_1]
          exact a2 Q hQ
      · refine skip (fun Q hQ => bf_ hxl ⟨vp_in_nI (by omega) (by decide), _, e7, mi, nt_ h70 (nf_ (by rw [e8]; exact c8) ?_)⟩) (fun Q hQ => ?_)
        · show kl_X5_beginAnew_85 L (d + 1) K p (r_I R 2463) (nI x + 1) Q
          rw [nI_1]; exact hQ
        · rw [rl_X12_begins_127, rb_X12_begins_127]
          refine re_lastOf (by omega) hn2 ⟨_, rfl, bf_ (nI_ge (by omega) (by omega)) (re_isH cq hp hxn ⟨_, rfl, nt_ (by rw [if_neg ch]) ⟨vi _ rfl, nf_ (by rw [ci]; exact c8) ?_⟩⟩)⟩
          show rl_X12_begins_127 (d + 1) R (nI p) (nI (16 * p + x) + 1) Q
          rw [nI_1]; exact hQ
theorem ke_restore {L : c_L} {S : c_S} {p B : Nat} {Q : c_S → Prop} (hB : c_I S 800 p = nI B) (B31 : B < 2 ^ 31) (h1 : B / 4 ≤ c_ln L 801 p) (h2 : B / 4 ≤ c_ln L 802 p) (h : Q (cs_G S 801 p (va_cpy (c_A S 802 p) (c_A S 801 p) 0 0 (B / 4)))) : km_X4_restore L S p Q := by
  unfold km_X4_restore
  rw [hB, pl_s B31, nI_clamp (by omega), show (0 : Int32).toNatClampNeg = 0 from by decide, Nat.zero_add]
  exact ⟨by decide, by decide, nI_pos (by omega), h2, h1, h⟩
theorem P_begin {b m : Nat} {L : c_L} {Z : z_C} {K : c_S} {R : r_S} {p : Nat} {cold how : Int32} (w : WR b L Z K R) (gk : GK L) (hb : b < 1999999800) (hp : p < z_np Z) (hm : r_A R 2483 p = 0) (hcold : cold = 0 ∨ cold = 1) (hmv : m = z_mv Z ∨ cold = 1 ∧ z_mv Z = p ∧ m = p + 1) : ∃ (K' : c_S) (R' : r_S), (∀ Q : c_S → Prop, Q K' → km_X5_beginAnew L K p cold how (r_I R 2463) Q) ∧ (∀ Q : Option Value → r_S → Prop, Q none R' → rm_X12_begins R (nI p) how cold Q) ∧ WR (b + 32) L (zs_mv Z m) K' R' ∧ (∀ f i : Nat, c_P K' f i = c_P K f i) ∧ (∀ f : Nat, f ≠ 2464 → r_I R' f = r_I R f) ∧ ∀ p' : Nat, r_A R' 2483 p' = r_A R 2483 p' := by
  have cq := WR_cq w
  have ct := WR_ct w
  have np16 := CQ_np cq
  have n16 := CQ_nq cq p hp
  obtain ⟨m5, -, hn, hn2⟩ := CQ_p cq hp
  have pv := PD_v w.2.2.2.2.1 hp
  have cp := nI_clamp (n := p) (by omega)
  have vp : ∀ f : Nat, r_N f = 16 → vp_in (nI p) (r_N f) := fun f hf => ri_v hf (by omega) (by decide)
  have nts : ∀ s' : Nat, s' < 5 → z_nt Z p s' ≤ (if s' = 4 then 16 else 8) := fun s' hs' => (CT_n ct hp hs').1
  obtain ⟨y1, y2, y3, y4, y5, y6, y7, y8, y9⟩ := CM_p (WR_cm w) hp
  obtain ⟨K2, hK2⟩ : ∃ K2 : c_S, K2 = cs_I (cs_I (cs_I (cs_I (cs_I (k_lvA K p (z_nq Z p)) 1013 p 0) 1014 p (-1)) 1016 p (-1)) 1010 p how) 1011 p (c_I K 1011 p + 1) := ⟨_, rfl⟩
  obtain ⟨R1, hR1⟩ : ∃ R1 : r_S, R1 = rs_A (rs_A (rs_A (rs_A (rs_A R 2483 p 0) 2484 p how) 2485 p (r_A R 2485 p + 1)) 2486 p 0) 2488 p (-1) := ⟨_, rfl⟩
  have rI1 : ∀ f : Nat, r_I R1 f = r_I R f := fun f => by rw [hR1]; rfl
  have rA1 : ∀ f i : Nat, f ∉ [2483, 2484, 2485, 2486, 2488] → r_A R1 f i = r_A R f i := fun f i hf => by
    simp only [List.mem_cons, List.not_mem_nil, or_false, not_or] at hf
    rw [hR1, r_An (Or.inl hf.2.2.2.2), r_An (Or.inl hf.2.2.2.1), r_An (Or.inl hf.2.2.1), r_An (Or.inl hf.2.1), r_An (Or.inl hf.1)]
  have w0 : W0 (b + z_nq Z p) L Z K2 (r_slA R1 p (z_nq Z p)) := by
    have a : W0 b L Z K R1 := by rw [hR1]; exact W0_pr (by decide) (W0_pr (by decide) (W0_pr (by decide) (W0_pr (by decide) (W0_pr (by decide) (W0_of w)))))
    have c := W0_rests a (by omega) hp (z_nq Z p) (Nat.le_refl _)
    rw [hK2]
    exact W0_pk (by decide) (W0_pk (by decide) (W0_pk (by decide) (W0_pk (by decide) (W0_pk (by decide) c))))
  have ek : ∀ p' : Nat, pd_k (k_lvA K p (z_nq Z p)) p' = pd_k K p' := pd_ko (m_Ie fun f i hf => (lvA_f _).1 f i (by
    intro z
    simp only [List.mem_cons, List.not_mem_nil, or_false] at hf z
    omega))
  have er : ∀ p' : Nat, pd_r (r_slA R1 p (z_nq Z p)) p' = pd_r R1 p' := pd_ro (n_Ae fun f i hf => sl_o (by
    simp only [List.mem_cons, List.not_mem_nil, or_false] at hf
    omega))
  have wB : WR (b + z_nq Z p) L Z K2 (r_slA R1 p (z_nq Z p)) := by
    refine WR_of w0 (PD_p (p := p) w.2.2.2.2.1 (CQ_nq cq) (fun p' hp' => by rw [hK2, pd_kn hp', pd_kn hp', pd_kn hp', pd_kn hp', pd_kn hp', ek]) (fun p' hp' => by rw [er, hR1, pd_rn hp', pd_rn hp', pd_rn hp', pd_rn hp', pd_rn hp']) (fun q hq => by rw [sl_n (by omega), rA1 _ _ (by decide)]) (fun _ => ?_))
    rw [er, hR1, hK2, pd_kw (by decide), pd_kw (by decide), pd_kw (by decide), pd_kw (by decide), pd_kw (by decide), pd_rw (by decide), pd_rw (by decide), pd_rw (by decide), pd_rw (by decide), pd_rw (by decide), ek]
    refine PDv_rest pv ⟨?_, rfl, ?_, pv.1.2.2.2.1⟩ (Or.inl rfl) rfl rfl rfl rfl (Or.inl rfl) (fun j hj => ?_)
    · show pd_k K p 1009 = 0
      exact pv.1.1.trans hm
    · show c_I K 1011 p + 1 = r_A R 2485 p + 1
      rw [show c_I K 1011 p = r_A R 2485 p from pv.1.2.2.1]
    · rw [← hR1]
      exact sl_7 hj
  have lA := lvA_f (K := K) (p := p) (z_nq Z p)
  have kA2 : ∀ f i n : Nat, c_A K2 f i n = c_A K f i n := fun f i n => by rw [hK2]; exact lA.2.1 f i n
  have kP2 : ∀ f i : Nat, c_P K2 f i = c_P K f i := fun f i => by rw [hK2]; exact lA.2.2.1 f i
  obtain ⟨K3, e3, k3⟩ := ke_things (L := L) (Z := Z) (K := K2) (p := p) (x1 := cold) (x3 := r_I R 2463) gk nts (fun s i hs hi => (CT_n ct hp hs).2.2.2 i hi) (fun s hs => (kA2 _ _ _).trans (CT_n ct hp hs).2.1)
  obtain ⟨R2, e2, r2⟩ := re_things (Z := Z) (R := R1) (p := p) (by omega) (nts 0 (by decide)) ((rA1 _ _ (by decide)).trans (CT_n ct hp (s := 0) (by decide)).2.2.1)
  obtain ⟨f1, f2, f3, f4, f5⟩ := e3
  obtain ⟨h1, h2, h3⟩ := e2
  have h800 : c_I K3 800 p = nI (z_by Z p) := by
    rw [f1 _ _ (Or.inl (by decide)), hK2, c_In (Or.inl (by decide)), c_In (Or.inl (by decide)), c_In (Or.inl (by decide)), c_In (Or.inl (by decide)), c_In (Or.inl (by decide)), lA.1 _ _ (by decide)]
    exact y4
  obtain ⟨K4, hK4⟩ : ∃ K4 : c_S, K4 = if cold = 0 then K3 else cs_G K3 801 p (va_cpy (c_A K3 802 p) (c_A K3 801 p) 0 0 (z_by Z p / 4)) := ⟨_, rfl⟩
  obtain ⟨R3, hR3⟩ : ∃ R3 : r_S, R3 = if cold = 0 then R2 else r_mm R2 p (z_by Z p) := ⟨_, rfl⟩
  have k4I : ∀ f i : Nat, c_I K4 f i = c_I K3 f i := fun f i => by rw [hK4]; split <;> rfl
  have k4P : ∀ f i : Nat, c_P K4 f i = c_P K3 f i := fun f i => by rw [hK4]; split <;> rfl
  have k4J : ∀ f i : Nat, c_J K4 f i = c_J K3 f i := fun f i => by rw [hK4]; split <;> rfl
  have k4A : ∀ f i n : Nat, f ≠ 801 ∨ i ≠ p → c_A K4 f i n = c_A K3 f i n := fun f i n hf => by
    rw [hK4]
    split
    · rfl
    · rw [c_AGr, if_neg (fun z => by omega)]
  have r3I : ∀ f : Nat, r_I R3 f = r_I R1 f := fun f => by rw [hR3]; split <;> exact h1 f
  have r3A : ∀ f i : Nat, f ≠ 2466 ∨ ¬ (8192 * p ≤ i ∧ i < 8192 * p + z_by Z p) → r_A R3 f i = r_A R2 f i := fun f i hf => by
    rw [hR3]
    split
    · rfl
    · exact mm_o hf
  have ctB := WR_ct wB p hp
  have wC : WR (b + z_nq Z p) L (zs_mv Z m) K4 (r_slA R3 p (z_nq Z p)) := by
    have fitB := wB.1.2.2.2.2.1
    have o66 : ∀ i : Nat, r_A (r_slA R3 p (z_nq Z p)) 2466 i = r_A R3 2466 i := fun i => sl_o (by decide)
    have g66 : ∀ i : Nat, r_A (r_slA R1 p (z_nq Z p)) 2466 i = r_A R1 2466 i := fun i => sl_o (by decide)
    have g65 : ∀ i : Nat, r_A (r_slA R1 p (z_nq Z p)) 2465 i = r_A R1 2465 i := fun i => sl_o (by decide)
    have e66 : ∀ i : Nat, ¬ (8192 * p ≤ i ∧ i < 8192 * p + z_by Z p) → r_A R3 2466 i = r_A R1 2466 i := fun i hi => (r3A _ _ (Or.inr hi)).trans (h2 _ _ (Or.inl (by decide)))
    refine WR_g wB (fun f i hf => (k4I f i).trans (f1 f i (Or.inl hf))) (fun f i n hf => (k4A f i n (Or.inl hf)).trans (f2 f i n)) (fun f i => (k4P f i).trans (f3 f i)) (fun f i => (k4J f i).trans (f4 f i)) (fun f => (r3I f)) (fun f i hf => ?_) ?_ ?_ ?_
    · simp only [List.mem_cons, List.not_mem_nil, or_false, not_or] at hf
      exact sl_c (fun i => (r3A f i (Or.inl hf.1)).trans (h2 f i (Or.inl (by
        simp only [List.mem_cons, List.not_mem_nil, or_false, not_or]
        exact ⟨hf.2.1, hf.2.2.1, hf.2.2.2.1, hf.2.2.2.2⟩)))) i
    · refine TH_q (p := p) wB.1.2.1 (NT_of (WR_ct wB)) (fun f i _ hi _ => (k4I f i).trans (f1 f i (Or.inr hi))) (fun i n _ _ => (k4A _ i n (Or.inl (by decide))).trans (f2 _ i n)) (fun f i hf hi => ?_) (fun i _ => ?_) np16 (fun _ => ?_)
      · simp only [List.mem_cons, List.not_mem_nil, or_false] at hf
        rw [sl_o (by omega), sl_o (by omega), r3A f i (Or.inl (by omega))]
        exact h2 f i (Or.inr hi)
      · rw [sl_o (by decide), sl_o (by decide), r3A _ i (Or.inl (by decide))]
        exact h2 _ i (Or.inl (by decide))
      · have q2 : ∀ f i : Nat, f ≠ 2466 → (f ≠ 2472 ∧ f ≠ 2467 ∧ f ≠ 2478 ∧ f ≠ 2475 ∧ f ≠ 2470) → r_A (r_slA R3 p (z_nq Z p)) f i = r_A R2 f i := fun f i hf hf2 => (sl_o hf2).trans (r3A f i (Or.inl hf))
        refine ⟨fun i hi => ?_, fun i hi => ?_, fun i hi => ?_, fun i hi => ?_, fun i hi => ?_⟩
        · have n0 := nts 0 (by decide)
          rw [if_neg (by decide)] at n0
          have c := ctB.2.1 i hi
          have c1 : c_I K2 2002 (48 * p + i) = r_A (r_slA R1 p (z_nq Z p)) 2443 (8 * p + i) := c.1
          have c4 : 0 ≤ (r_A (r_slA R1 p (z_nq Z p)) 2443 (8 * p + i)).toInt := c.2.2.2.1
          have c5 : (r_A (r_slA R1 p (z_nq Z p)) 2443 (8 * p + i)).toInt ≤ (r_A (r_slA R1 p (z_nq Z p)) 2444 (8 * p + i)).toInt := c.2.2.2.2.1
          have v := (f5 0 i (by decide) hi (Or.inl (by decide))).1
          rw [show 8 * 0 + i = i by omega] at v
          have u := (h3 i (by omega) (by omega)).1 hi
          rw [sl_o (by decide)] at c1 c4 c5
          rw [sl_o (by decide)] at c5
          rw [k4I, v, q2 2492 _ (by decide) (by decide), u, q2 2444 _ (by decide) (by decide), h2 2444 _ (Or.inl (by decide))]
          exact ⟨c1, c4, c5⟩
        · have n0 := nts 1 (by decide)
          rw [if_neg (by decide)] at n0
          have v := (f5 1 i (by decide) hi (Or.inl (by decide))).1
          rw [show 8 * 1 + i = 8 + i by omega] at v
          have u := (h3 i (by omega) (by omega)).2.1
          have c : c_I K2 2002 (48 * p + (8 + i)) = 0 := ctB.2.2.1 i hi
          rw [k4I, v, q2 2493 _ (by decide) (by decide), u]
          exact ⟨c, Or.inl rfl⟩
        · have n0 := nts 2 (by decide)
          rw [if_neg (by decide)] at n0
          have v := (f5 2 i (by decide) hi (Or.inl (by decide))).2 rfl
          have u := (h3 i (by omega) (by omega)).2.2.1
          rw [k4I, k4I, v.1, v.2, q2 2494 _ (by decide) (by decide), u]
          have d1 := (CT_b (WR_ct wB) hp hi).2.2.2.1
          exact ⟨0, 0, by omega, by omega, rfl, rfl, rfl, fun i hi => by omega⟩
        · have n0 := nts 3 (by decide)
          rw [if_neg (by decide)] at n0
          have v := (f5 3 i (by decide) hi (Or.inl (by decide))).1
          rw [show 8 * 3 + i = 24 + i by omega] at v
          have u := (h3 i (by omega) (by omega)).2.2.2
          have c : c_I K2 2002 (48 * p + (24 + i)) = 0 := ctB.2.2.2.2.1 i hi
          rw [k4I, v, q2 2496 _ (by decide) (by decide), u]
          exact ⟨c, Or.inl rfl, fun z => absurd z (by decide)⟩
        · have v := (f5 4 i (by decide) hi (Or.inl (by decide))).1
          rw [show 8 * 4 + i = 32 + i by omega] at v
          have c : c_I K2 2002 (48 * p + (32 + i)) = 0 := (ctB.2.2.2.2.2 i hi).1
          rw [k4I, v]
          exact c
    · refine CH_s wB.1.2.2.1 (fun f c hf => ?_) (fun f i hf hi => ?_) (fun i n hi => (k4A _ i n (Or.inl (by decide))).trans (f2 _ i n)) (fun f i hf => ?_)
      · refine (k4I f c).trans (f1 f c (Or.inl ?_))
        simp only [List.mem_cons, List.not_mem_nil, or_false] at hf ⊢
        omega
      · exact (k4I f i).trans (f1 f i (Or.inr (by omega)))
      · simp only [List.mem_cons, List.not_mem_nil, or_false] at hf
        rw [sl_o (by omega), sl_o (by omega), r3A f i (Or.inl (by omega))]
        refine h2 f i (Or.inl ?_)
        simp only [List.mem_cons, List.not_mem_nil, or_false]
        omega
    · have o65 : ∀ i : Nat, r_A (r_slA R3 p (z_nq Z p)) 2465 i = r_A R1 2465 i := fun i => (sl_o (by decide)).trans ((r3A _ i (Or.inl (by decide))).trans (h2 _ i (Or.inl (by decide))))
      have a802 : ∀ p' i : Nat, c_A K4 802 p' i = c_A K2 802 p' i := fun p' i => (k4A _ _ _ (Or.inl (by decide))).trans (f2 _ _ _)
      refine ⟨fun p' hp' i hi => ⟨fun hm' => ?_, ?_⟩, fun i => ?_, fun i => ?_⟩
      · show c_A K4 801 p' i = b_w (fun n => r_A (r_slA R3 p (z_nq Z p)) 2466 (8192 * p' + (4 * i + n)))
        have hi : i < z_by Z p' / 4 := hi
        have hm' : p' < m := hm'
        have y1' := (CM_p (WR_cm w) (p := p') hp').1
        by_cases c : p' = p
        · subst c
          rcases hcold with c0 | c0
          · have mm : m = z_mv Z := hmv.resolve_right (fun z => by rw [c0] at z; exact absurd z.1 (by decide))
            have e : c_A K2 801 p' i = b_w (fun n => r_A (r_slA R1 p' (z_nq Z p')) 2466 (8192 * p' + (4 * i + n))) := (fitB.1 p' hp' i hi).1 (by omega)
            rw [show c_A K4 801 p' i = c_A K2 801 p' i by rw [hK4, if_pos c0]; exact f2 _ _ _, e]
            refine bw_c (fun n hn => ?_)
            rw [g66, o66, hR3, if_pos c0]
            exact (h2 _ _ (Or.inl (by decide))).symm
          · have e : c_A K2 802 p' i = b_w (fun n => r_A (r_slA R1 p' (z_nq Z p')) 2465 (8192 * p' + (4 * i + n))) := (fitB.1 p' hp' i hi).2
            have n0 : ¬ cold = 0 := by rw [c0]; decide
            rw [hK4, if_neg n0, c_AGr, if_pos ⟨rfl, rfl⟩, sb_cpy0 hi, f2, e]
            refine bw_c (fun n hn => ?_)
            rw [g65, o66, hR3, if_neg n0, mm_i ⟨by omega, by omega⟩]
            exact (h2 _ _ (Or.inl (by decide))).symm
        · have e : c_A K2 801 p' i = b_w (fun n => r_A (r_slA R1 p (z_nq Z p)) 2466 (8192 * p' + (4 * i + n))) := (fitB.1 p' hp' i hi).1 (by omega)
          rw [k4A _ _ _ (Or.inr c), f2, e]
          refine bw_c (fun n hn => ?_)
          rw [g66, o66, e66 _ (by omega)]
      · show c_A K4 802 p' i = b_w (fun n => r_A (r_slA R3 p (z_nq Z p)) 2465 (8192 * p' + (4 * i + n)))
        have e : c_A K2 802 p' i = b_w (fun n => r_A (r_slA R1 p (z_nq Z p)) 2465 (8192 * p' + (4 * i + n))) := (fitB.1 p' hp' i hi).2
        rw [a802, e]
        refine bw_c (fun n hn => ?_)
        rw [g65, o65]
      · show fits .byte (.int (r_A (r_slA R3 p (z_nq Z p)) 2465 i)) = true
        have e : fits .byte (.int (r_A (r_slA R1 p (z_nq Z p)) 2465 i)) = true := fitB.2.1 i
        rw [g65] at e
        rw [o65]
        exact e
      · show fits .byte (.int (r_A (r_slA R3 p (z_nq Z p)) 2466 i)) = true
        have e5 : fits .byte (.int (r_A (r_slA R1 p (z_nq Z p)) 2465 i)) = true := fitB.2.1 i
        have e6 : fits .byte (.int (r_A (r_slA R1 p (z_nq Z p)) 2466 i)) = true := fitB.2.2 i
        rw [g65] at e5
        rw [g66] at e6
        rw [o66]
        by_cases c : 8192 * p ≤ i ∧ i < 8192 * p + z_by Z p
        · rw [hR3]
          split
          · rw [h2 _ _ (Or.inl (by decide))]; exact e6
          · rw [mm_i c, h2 _ _ (Or.inl (by decide))]; exact e5
        · rw [e66 i c]; exact e6
  have t3 : r_I (r_slA R3 p (z_nq Z p)) 2463 = r_I R 2463 := (r3I 2463).trans (rI1 2463)
  have m3 : ∀ p' : Nat, r_A (r_slA R3 p (z_nq Z p)) 2483 p' = r_A R 2483 p' := fun p' => by
    rw [sl_o (by decide), r3A _ _ (Or.inl (by decide)), h2 _ _ (Or.inl (by decide)), hR1, r_An (Or.inl (by decide)), r_An (Or.inl (by decide)), r_An (Or.inl (by decide)), r_An (Or.inl (by decide))]
    by_cases c : p' = p
    · subst c
      rw [r_As, hm]
    · rw [r_An (Or.inr c)]
  have k13 : c_I K4 1013 p = 0 := by
    rw [k4I, f1 _ _ (Or.inl (by decide)), hK2, c_In (Or.inl (by decide)), c_In (Or.inl (by decide)), c_In (Or.inl (by decide)), c_In (Or.inl (by decide)), c_Is]
  obtain ⟨K', R', a1, a2, a3, a4, a5, a6⟩ := P_starts (L := L) (Z := zs_mv Z m) (p := p) hp (z_nq Z p) 0 (b + z_nq Z p) K4 (r_slA R3 p (z_nq Z p)) (Nat.zero_add _) wC (by omega) ((m3 p).trans hm) k13
  refine ⟨K', R', fun Q hQ => ke_allRest w hp (fun S e => ?_), fun Q hQ => ⟨vp _ rfl, vp _ rfl, vp _ rfl, vp _ rfl, fun S e => ⟨vp _ rfl, vp _ rfl, ?_⟩⟩, WR_w a3 (by omega), fun f i => (a4 f i).trans ((k4P f i).trans ((f3 f i).trans (kP2 f i))), fun f hf => (a5 f hf).trans ((r3I f).trans (rI1 f)), fun p' => (a6 p').trans (m3 p')⟩
  · have e2 : S = K2 := by
      rw [e, hK2, c_In (Or.inl (by decide)), c_In (Or.inl (by decide)), c_In (Or.inl (by decide)), c_In (Or.inl (by decide)), lA.1 _ _ (by decide)]
    subst e2
    refine k3 Q ?_
    have fin : kb_X5_beginAnew_82 L K4 p (r_I R 2463) Q := ⟨z_nq Z p + 1, by rw [← t3]; exact a1 Q hQ⟩
    rcases hcold with c0 | c0
    · rw [hK4, if_pos c0] at fin
      exact bt_ c0 fin
    · have n0 : ¬ cold = 0 := by rw [c0]; decide
      rw [hK4, if_neg n0] at fin
      exact bf_ n0 (ke_restore h800 (by omega) y6 y7 fin)
  · rw [cp] at e ⊢
    have e2 : rs_A (rs_A S 2486 p 0) 2488 p (-1) = R1 := by
      rw [e, hR1, r_An (Or.inl (by decide)), r_An (Or.inl (by decide))]
    rw [e2]
    refine r2 _ ⟨rfl, ?_⟩
    refine re_mem (B := z_by Z p) (by omega) y1 ?_ hcold (fun i => ?_) ?_
    · rw [h2 _ _ (Or.inl (by decide)), rA1 _ _ (by decide)]; exact y5
    · rw [h2 _ _ (Or.inl (by decide)), rA1 _ _ (by decide)]; exact w.1.2.2.2.2.1.2.1 i
    · rw [← hR3]
      refine re_rests (nq := z_nq Z p) (by omega) n16 ?_ ?_ ⟨_, a2 Q hQ⟩
      · rw [r3A _ _ (Or.inl (by decide)), h2 _ _ (Or.inl (by decide)), rA1 _ _ (by decide)]; exact hn2
      · rw [r3A _ _ (Or.inl (by decide)), h2 _ _ (Or.inl (by decide)), hR1, r_An (Or.inl (by decide)), r_As]
