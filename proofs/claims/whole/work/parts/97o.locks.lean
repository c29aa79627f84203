/-! Calls 21, 22, 24, 25: locks, and the handler's. -/
theorem rs_self {R : r_S} {f i : Nat} : rs_A R f i (r_A R f i) = R := by
  refine Prod.ext rfl (funext fun g => funext fun m => ?_)
  show (if g = f ∧ m = i then r_A R f i else R.2 g m) = R.2 g m
  by_cases c : g = f ∧ m = i
  · rw [if_pos c, c.1, c.2]; rfl
  · rw [if_neg c]
theorem rs_c {R : r_S} {f i f' i' : Nat} {v v' : Int32} (h : f ≠ f' ∨ i ≠ i') : rs_A (rs_A R f i v) f' i' v' = rs_A (rs_A R f' i' v') f i v := by
  refine Prod.ext rfl (funext fun g => funext fun m => ?_)
  show (if g = f' ∧ m = i' then v' else if g = f ∧ m = i then v else R.2 g m) = (if g = f ∧ m = i then v else if g = f' ∧ m = i' then v' else R.2 g m)
  by_cases c : g = f' ∧ m = i'
  · rw [if_pos c, if_neg (fun z => by omega), if_pos c]
  · rw [if_neg c, if_neg c]
theorem cs_c {K : c_S} {f i f' i' : Nat} {v v' : Int32} (h : f ≠ f' ∨ i ≠ i') : cs_I (cs_I K f i v) f' i' v' = cs_I (cs_I K f' i' v') f i v := by
  refine Prod.ext (funext fun g => funext fun m => ?_) rfl
  show (if g = f' ∧ m = i' then v' else if g = f ∧ m = i then v else K.1 g m) = (if g = f ∧ m = i then v else if g = f' ∧ m = i' then v' else K.1 g m)
  by_cases c : g = f' ∧ m = i'
  · rw [if_pos c, if_neg (fun z => by omega), if_pos c]
  · rw [if_neg c, if_neg c]
theorem re_isH {L : c_L} {Z : z_C} {K : c_S} {R : r_S} {p j : Nat} {Q : Option Value → r_S → Prop} (cq : CQ L Z K R) (hp : p < z_np Z) (hj : j < z_nq Z p) (h : Q (some (.int (if z_hd Z p = some j then 1 else 0))) R) : rm_X12_isHandler R (nI (16 * p + j)) Q := by
  have np16 := CQ_np cq
  have n16 := CQ_nq cq p hp
  by_cases c : z_hd Z p = some j
  · rw [if_pos c] at h
    exact re_isHandler1 (by omega) (by omega) ((CQ_hq cq hp hj).mpr c) h
  · rw [if_neg c] at h
    exact re_isHandler0 (by omega) (by omega) (fun z => c ((CQ_hq cq hp hj).mp z)) h
theorem WR_pp {b : Nat} {L : c_L} {Z : z_C} {K K' : c_S} {R R' : r_S} {p : Nat} (h : WR b L Z K R) (hw : W0 b L Z K' R') (ek : ∀ p' : Nat, p' ≠ p → pd_k K' p' = pd_k K p') (er : ∀ p' : Nat, p' ≠ p → pd_r R' p' = pd_r R p') (es : ∀ q : Nat, r_A R' 2467 q = r_A R 2467 q) (n : p < z_np Z → PDv Z p (pd_k K' p) (pd_r R' p) (pd_s R p)) : WR b L Z K' R' :=
  WR_of hw (PD_p (p := p) h.2.2.2.2.1 (CQ_nq (WR_cq h)) ek er (fun q _ => es q) (fun z => by rw [show pd_s R' p = pd_s R p from funext fun j => es _]; exact n z))
theorem PDv_lk {Z : z_C} {p j : Nat} {k r s : Nat → Int32} (h : PDv Z p k r s) (hj : j < z_nq Z p) (hh : z_hd Z p ≠ some j) (h1 : s j = 1) (h8 : (r 2486).toInt < 8) : PDv Z p (qs_1 (qs_1 k 1013 (r 2486 + 1)) 1014 (nI j)) (qs_1 (qs_1 r 2486 (r 2486 + 1)) 2487 (nI (16 * p + j))) s := by
  obtain ⟨g1, g2, g3, g4, g5, g6, g7, g8, g9⟩ := h
  have e := i_1 g3.1 (by omega)
  have g3' := g3.1
  refine ⟨⟨g1.1, g1.2.1, g1.2.2.1, g1.2.2.2.1, rfl⟩, g2, ⟨?_, ?_⟩, fun z => ?_, fun _ => ⟨j, hj, hh, rfl, rfl, h1⟩, g6, g7, g8, g9⟩
  · show (0 : Int) ≤ (r 2486 + 1).toInt
    omega
  · show (r 2486 + 1).toInt ≤ 8
    omega
  · have z : r 2486 + 1 = 0 := z
    rw [z] at e
    have : (0 : Int32).toInt = 0 := by decide
    omega
theorem PDv_ulk {Z : z_C} {p : Nat} {k r s : Nat → Int32} (h : PDv Z p k r s) (h0 : r 2486 ≠ 0) : PDv Z p (if r 2486 - 1 = 0 then qs_1 (qs_1 k 1013 (r 2486 - 1)) 1014 (-1) else qs_1 k 1013 (r 2486 - 1)) (qs_1 r 2486 (r 2486 - 1)) s := by
  obtain ⟨g1, g2, g3, g4, g5, g6, g7, g8, g9⟩ := h
  have g3' := g3.1
  have g3'' := g3.2
  have hn : ∃ n : Nat, r 2486 = nI (n + 1) ∧ n < 8 := by
    obtain ⟨n, hn, e⟩ := nI_of (x := r 2486) (fun z => by have := i_lt0.mp z; omega)
    cases n with
    | zero => exact absurd e h0
    | succ n =>
      refine ⟨n, e, ?_⟩
      rw [e, nI_toInt (by omega)] at g3''
      omega
  obtain ⟨n, e, n8⟩ := hn
  have e1 : r 2486 - 1 = nI n := by rw [e, nI_pred]
  have b0 : (0 : Int) ≤ (r 2486 - 1).toInt ∧ (r 2486 - 1).toInt ≤ 8 := by rw [e1, nI_toInt (by omega)]; omega
  by_cases c : r 2486 - 1 = 0
  · rw [if_pos c]
    exact ⟨⟨g1.1, g1.2.1, g1.2.2.1, g1.2.2.2.1, rfl⟩, g2, b0, fun _ => rfl, fun z => absurd c z, g6, g7, g8, g9⟩
  · rw [if_neg c]
    have k13 : k 1013 ≠ 0 := by rw [g1.2.2.2.2]; exact h0
    exact ⟨⟨g1.1, g1.2.1, g1.2.2.1, g1.2.2.2.1, rfl⟩, g2, b0, fun z => absurd z c, fun _ => g5 k13, g6, g7, g8, g9⟩
theorem AN_21 {b : Nat} {L : c_L} {Z : z_C} {K : c_S} {R : r_S} {p j : Nat} (x : CX b L Z K R p j) : AN b L Z (16 * p + j) (km_X0_lock L K 0) (rb_X12_ofPorts_68 R (nI p) (nI (16 * p + j))) := by
  obtain ⟨w, ⟨hp, hj⟩, ⟨p0, p1, p2, p3⟩, hnow, h1, hm, gk⟩ := x
  have cq := WR_cq w
  have np16 := CQ_np cq
  obtain ⟨mq, -, hnum, hfl⟩ := CQ_q cq hp hj
  have m5 := (CQ_p cq hp).1
  have cp := nI_clamp (n := p) (by omega)
  have vp : ∀ f : Nat, r_N f = 16 → vp_in (nI p) (r_N f) := fun f hf => ri_v hf (by omega) (by decide)
  have pv := PD_v w.2.2.2.2.1 hp
  have lk : c_I K 1013 p = r_A R 2486 p := (PD_lk w hp).1
  have l0 := (PD_lk w hp).2
  have l8 : (r_A R 2486 p).toInt ≤ 8 := pv.2.2.1.2
  have t8 : (8 : Int32).toInt = 8 := by decide
  by_cases hh : z_hd Z p = some j
  · exact AN_i 3 K R w p3 (fun Q hQ => ⟨_, p2, mq, fun z => absurd (hfl.symm.trans z) (by rw [if_pos hh]; decide), fun _ => hQ⟩) (fun Q hQ => re_isH cq hp hj ⟨_, rfl, fun z => absurd z (by rw [if_pos hh]; decide), fun _ => hQ⟩)
  · have hf0 : c_I K 1407 (16 * p + j) = 0 := by rw [hfl, if_neg hh]
    have rp : ∀ Q : Option Value → r_S → Prop, _ → rb_X12_ofPorts_68 R (nI p) (nI (16 * p + j)) Q := fun Q hQ => re_isH cq hp hj ⟨_, rfl, fun _ => ⟨vp _ rfl, hQ⟩, fun z => absurd (by rw [if_neg hh]) z⟩
    by_cases c8 : r_A R 2486 p = 8
    · exact AN_i 2 K R w p3 (fun Q hQ => ⟨_, p2, mq, fun _ => ⟨p, p1, m5, fun z => absurd z (by rw [lk, c8]; decide), fun _ => hQ⟩, fun z => absurd hf0 z⟩) (fun Q hQ => rp Q (by rw [cp]; exact ⟨fun z => absurd c8 z, fun _ => hQ⟩))
    · have l8' : (r_A R 2486 p).toInt < 8 := by
        rcases Int.lt_or_eq_of_le l8 with z | z
        · exact z
        · exact absurd (Int32.toInt_inj.mp (z.trans t8.symm)) c8
      refine AN_i 0 (cs_I (cs_I K 1013 p (r_A R 2486 p + 1)) 1014 p (nI j)) (rs_A (rs_A R 2486 p (r_A R 2486 p + 1)) 2487 p (nI (16 * p + j))) ?_ p3 (fun Q hQ => ⟨_, p2, mq, fun _ => ⟨p, p1, m5, fun _ => ⟨_, rfl, mq, fun S eS => ?_⟩, fun z => absurd (by rw [lk, i_lt]; omega) z⟩, fun z => absurd hf0 z⟩) (fun Q hQ => rp Q ?_)
      · refine WR_pp (p := p) w (W0_pk (by decide) (W0_pk (by decide) (W0_pr (by decide) (W0_pr (by decide) (W0_of w))))) (fun p' hp' => by rw [pd_kn hp', pd_kn hp']) (fun p' hp' => by rw [pd_rn hp', pd_rn hp']) (fun q => by rw [r_An (Or.inl (by decide)), r_An (Or.inl (by decide))]) (fun _ => ?_)
        rw [pd_kw (by decide), pd_kw (by decide), pd_rw (by decide), pd_rw (by decide)]
        exact PDv_lk pv hj hh h1 l8'
      · rw [c_In (Or.inl (by decide)), hnum, lk] at eS
        subst eS
        exact hQ
      · rw [cp]
        exact ⟨fun _ => ⟨vp _ rfl, vp _ rfl, vp _ rfl, by rw [cp]; exact hQ⟩, fun z => absurd z c8⟩
theorem AN_22 {b : Nat} {L : c_L} {Z : z_C} {K : c_S} {R : r_S} {p j : Nat} (x : CX b L Z K R p j) : AN b L Z (16 * p + j) (km_X0_unlock L K 0) (rb_X12_ofPorts_110 R (nI p) (nI (16 * p + j))) := by
  obtain ⟨w, ⟨hp, hj⟩, ⟨p0, p1, p2, p3⟩, hnow, h1, hm, gk⟩ := x
  have cq := WR_cq w
  have np16 := CQ_np cq
  obtain ⟨mq, -, hnum, hfl⟩ := CQ_q cq hp hj
  have m5 := (CQ_p cq hp).1
  have cp := nI_clamp (n := p) (by omega)
  have vp : ∀ f : Nat, r_N f = 16 → vp_in (nI p) (r_N f) := fun f hf => ri_v hf (by omega) (by decide)
  have pv := PD_v w.2.2.2.2.1 hp
  have lk : c_I K 1013 p = r_A R 2486 p := (PD_lk w hp).1
  have l0 := (PD_lk w hp).2
  by_cases hh : z_hd Z p = some j
  · exact AN_i 3 K R w p3 (fun Q hQ => ⟨_, p2, mq, fun z => absurd (hfl.symm.trans z) (by rw [if_pos hh]; decide), fun _ => hQ⟩) (fun Q hQ => re_isH cq hp hj ⟨_, rfl, fun z => absurd z (by rw [if_pos hh]; decide), fun _ => hQ⟩)
  · have hf0 : c_I K 1407 (16 * p + j) = 0 := by rw [hfl, if_neg hh]
    have rp : ∀ Q : Option Value → r_S → Prop, _ → rb_X12_ofPorts_110 R (nI p) (nI (16 * p + j)) Q := fun Q hQ => re_isH cq hp hj ⟨_, rfl, fun _ => ⟨vp _ rfl, hQ⟩, fun z => absurd (by rw [if_neg hh]) z⟩
    by_cases c8 : r_A R 2486 p = 0
    · exact AN_i 2 K R w p3 (fun Q hQ => ⟨_, p2, mq, fun _ => ⟨p, p1, m5, fun z => absurd z (by rw [lk, c8]; decide), fun _ => hQ⟩, fun z => absurd hf0 z⟩) (fun Q hQ => rp Q (by rw [cp]; exact ⟨fun z => absurd c8 z, fun _ => hQ⟩))
    · refine AN_i 0 (if r_A R 2486 p - 1 = 0 then cs_I (cs_I K 1013 p (r_A R 2486 p - 1)) 1014 p (-1) else cs_I K 1013 p (r_A R 2486 p - 1)) (rs_A R 2486 p (r_A R 2486 p - 1)) ?_ ?_ (fun Q hQ => ⟨_, p2, mq, fun _ => ⟨p, p1, m5, fun _ => ?_, fun z => absurd ((i_0 l0).mp (by rw [← lk]; exact z)) c8⟩, fun z => absurd hf0 z⟩) (fun Q hQ => rp Q ?_)
      · have pu := PDv_ulk pv c8
        by_cases c : r_A R 2486 p - 1 = 0
        · rw [if_pos c]
          refine WR_pp (p := p) w (W0_pk (by decide) (W0_pk (by decide) (W0_pr (by decide) (W0_of w)))) (fun p' hp' => by rw [pd_kn hp', pd_kn hp']) (fun p' hp' => by rw [pd_rn hp']) (fun q => by rw [r_An (Or.inl (by decide))]) (fun _ => ?_)
          rw [pd_kw (by decide), pd_kw (by decide), pd_rw (by decide)]
          rw [if_pos (show pd_r R p 2486 - 1 = 0 from c)] at pu
          exact pu
        · rw [if_neg c]
          refine WR_pp (p := p) w (W0_pk (by decide) (W0_pr (by decide) (W0_of w))) (fun p' hp' => by rw [pd_kn hp']) (fun p' hp' => by rw [pd_rn hp']) (fun q => by rw [r_An (Or.inl (by decide))]) (fun _ => ?_)
          rw [pd_kw (by decide), pd_rw (by decide)]
          rw [if_neg (show ¬ pd_r R p 2486 - 1 = 0 from c)] at pu
          exact pu
      · split
        · exact p3
        · exact p3
      · unfold km_X5_unlockOnce
        rw [c_Is, lk]
        by_cases c : r_A R 2486 p - 1 = 0
        · rw [if_pos c] at hQ
          exact ⟨fun z => absurd c z, fun _ => hQ⟩
        · rw [if_neg c] at hQ
          exact ⟨fun _ => hQ, fun z => absurd z c⟩
      · rw [cp]
        exact ⟨fun _ => ⟨vp _ rfl, vp _ rfl, hQ⟩, fun z => absurd z c8⟩
/-- who is faulted, on both sides -/
theorem PD_ft {b : Nat} {L : c_L} {Z : z_C} {K : c_S} {R : r_S} (h : WR b L Z K R) {p : Nat} (hp : p < z_np Z) : (c_I K 1016 p = -1 ∧ (∀ j : Nat, j < z_nq Z p → r_A R 2467 (16 * p + j) ≠ 3) ∧ (r_A R 2488 p = -1 ∨ ∃ j : Nat, j < z_nq Z p ∧ r_A R 2488 p = nI (16 * p + j))) ∨ ∃ j h : Nat, j < z_nq Z p ∧ z_hd Z p = some h ∧ j ≠ h ∧ c_I K 1016 p = nI j ∧ r_A R 2488 p = nI (16 * p + j) ∧ (c_I K 1017 p = r_A R 2489 p ∧ 0 ≤ (r_A R 2489 p).toInt) ∧ c_I K 1018 p = r_A R 2490 p ∧ r_A R 2467 (16 * p + j) = 3 ∧ r_A R 2467 (16 * p + h) = 1 := by
  obtain ⟨g1, g2, g3, g4, g5, g6, g7, g8, g9⟩ := PD_v h.2.2.2.2.1 hp
  rcases g6 with ⟨b1, b2⟩ | ⟨i', h', b1, b2, b3, b4, b5, b6, b7, b8, b9, b10⟩
  · exact Or.inl ⟨b1, b2, g7⟩
  · exact Or.inr ⟨i', h', b1, b2, b3, b4, b5, b6, b7, b8, b9⟩
theorem re_isF0 {b : Nat} {L : c_L} {Z : z_C} {K : c_S} {R : r_S} {p : Nat} {Q : Option Value → r_S → Prop} (h : WR b L Z K R) (hp : p < z_np Z) (h1 : ∀ j : Nat, j < z_nq Z p → r_A R 2467 (16 * p + j) ≠ 3) (h2 : r_A R 2488 p = -1 ∨ ∃ j : Nat, j < z_nq Z p ∧ r_A R 2488 p = nI (16 * p + j)) (hQ : Q (some (.int 0)) R) : rm_X12_isFaulted R (nI p) Q := by
  have np16 := CQ_np (WR_cq h)
  have n16 := CQ_nq (WR_cq h) p hp
  refine re_isFaulted0 (by omega) ?_ hQ
  rcases h2 with h2 | ⟨j, hj, e⟩
  · exact Or.inl h2
  · right
    rw [e, nI_clamp (by omega)]
    exact ⟨vp_in_nI (by omega) (by decide), h1 j hj⟩
theorem nI_rem {p j : Nat} (hp : p < 16) (hj : j < 16) : nI (16 * p + j) - nI (16 * p + j) / 16 * 16 = nI j := by
  show nI (16 * p + j) - nI (16 * p + j) / nI 16 * nI 16 = _
  rw [pk_div (by omega) (by decide) (by decide), show (16 * p + j) / 16 = p by omega, pk_mul, pk_sub (by omega), show 16 * p + j - p * 16 = j by omega]
theorem AF_24 {b : Nat} {L : c_L} {Z : z_C} {K : c_S} {R : r_S} {p j : Nat} (x : CX b L Z K R p j) : AF b L Z (16 * p + j) (km_X0_tellFault L K 0) (rb_X12_ofPorts_197 R (nI p) (nI (16 * p + j))) := by
  obtain ⟨w, ⟨hp, hj⟩, ⟨p0, p1, p2, p3⟩, hnow, h1, hm, gk⟩ := x
  have cq := WR_cq w
  have np16 := CQ_np cq
  have n16 := CQ_nq cq p hp
  obtain ⟨mq, -, hnum, hfl⟩ := CQ_q cq hp hj
  obtain ⟨m5, -, hcn, -⟩ := CQ_p cq hp
  have cp := nI_clamp (n := p) (by omega)
  have vp : ∀ f : Nat, r_N f = 16 → vp_in (nI p) (r_N f) := fun f hf => ri_v hf (by omega) (by decide)
  by_cases hh : z_hd Z p = some j
  case neg =>
    have hf0 : c_I K 1407 (16 * p + j) = 0 := by rw [hfl, if_neg hh]
    exact AF_of hp hj (AN_i 3 K R w p3 (fun Q hQ => ⟨_, p2, mq, fun z => absurd hf0 z, fun _ => hQ⟩) (fun Q hQ => re_isH cq hp hj ⟨_, rfl, fun z => absurd (by rw [if_neg hh]) z, fun _ => hQ⟩))
  case pos =>
    have hf1 : ¬ c_I K 1407 (16 * p + j) = 0 := by rw [hfl, if_pos hh]; decide
    rcases PD_ft w hp with ⟨f1, f2, f3⟩ | ⟨i, h', i1, i2, i3, i4, i5, i6, i7, i8, i9⟩
    · exact AF_of hp hj (AN_i 2 K R w p3 (fun Q hQ => ⟨_, p2, mq, fun _ => ⟨p, p1, m5, ke_processAt0 hcn (Or.inl (by rw [f1]; decide)) ⟨fun z => absurd rfl z, fun _ => hQ⟩⟩, fun z => absurd z hf1⟩) (fun Q hQ => re_isH cq hp hj ⟨_, rfl, fun _ => re_isF0 w hp f2 f3 ⟨_, rfl, fun z => absurd rfl z, fun _ => hQ⟩, fun z => absurd z (by rw [if_pos hh]; decide)⟩))
    · obtain ⟨mi, -, hni, -⟩ := CQ_q cq hp i1
      have kn : ¬ r_A R 2489 p = -1 := fun z => by
        have := i6.2
        rw [z] at this
        exact absurd this (by decide)
      have hpc : c_I K 1410 (16 * p + i) = r_A R 2468 (16 * p + i) := (DP_w w hp i1).1.2.2.1
      have ex : ∀ n : Nat, n < 32 → (32 : Int32) * nI (16 * p + j) + nI n = nI (32 * (16 * p + j) + n) := fun n _ => q_32
      have ec : ∀ n : Nat, n < 32 → (nI (32 * (16 * p + j) + n)).toNatClampNeg = 32 * (16 * p + j) + n := fun n hn => nI_clamp (by omega)
      have ev : ∀ n : Nat, n < 32 → vp_in (nI (32 * (16 * p + j) + n)) (r_N 2477) := fun n hn => ri_v (n := 8192) rfl (by omega) (by decide)
      refine ⟨cs_A (cs_A (cs_A (cs_A K 1411 (16 * p + j) 11 (nI i)) 1411 (16 * p + j) 12 (r_A R 2468 (16 * p + i))) 1411 (16 * p + j) 13 (r_A R 2490 p)) 1411 (16 * p + j) 10 (r_A R 2489 p), rs_A (rs_A (rs_A (rs_A R 2477 (32 * (16 * p + j) + 10) (r_A R 2489 p)) 2477 (32 * (16 * p + j) + 11) (nI i)) 2477 (32 * (16 * p + j) + 12) (r_A R 2468 (16 * p + i))) 2477 (32 * (16 * p + j) + 13) (r_A R 2490 p), fun Q hQ => ?_, fun Q hQ => ?_, ?_⟩
      · refine ⟨_, p2, mq, fun _ => ⟨p, p1, m5, ?_⟩, fun z => absurd z hf1⟩
        rw [i4]
        refine ke_processAt hcn i1 n16 mi ⟨fun _ => ⟨_, rfl, mi, _, p3, mq, v32 (n := 11) (by decide), _, p3, mq, v32 (n := 12) (by decide), fun S eS => ?_⟩, fun z => (by cases z)⟩
        rw [hni, show c_I (cs_A K 1411 (16 * p + j) (11 : Int32).toNatClampNeg (nI i)) 1410 (16 * p + i) = c_I K 1410 (16 * p + i) from rfl, hpc] at eS
        subst eS
        refine ⟨p, p1, m5, _, p3, mq, v32 (n := 13) (by decide), p, p1, m5, fun z => ?_, fun _ => ⟨_, p3, mq, v32 (n := 10) (by decide), ?_⟩⟩
        · have z : c_I K 1017 p = -1 := z
          exact absurd (i6.1.symm.trans z) kn
        · show Q (-1) (cs_A (cs_A (cs_A (cs_A K 1411 (16 * p + j) 11 (nI i)) 1411 (16 * p + j) 12 (r_A R 2468 (16 * p + i))) 1411 (16 * p + j) 13 (c_I K 1018 p)) 1411 (16 * p + j) 10 (c_I K 1017 p))
          rw [i7, i6.1]
          exact hQ
      · refine re_isH cq hp hj ⟨_, rfl, fun _ => re_isFaulted1 (by omega) (by omega) i5 i8 ⟨_, rfl, fun _ => ⟨vp _ rfl, ?_⟩, fun z => absurd z (by decide)⟩, fun z => absurd z (by rw [if_pos hh]; decide)⟩
        rw [cp, show (10 : Int32) = nI 10 from rfl, ex 10 (by decide), ec 10 (by decide)]
        refine ⟨ev 10 (by decide), vp _ rfl, ?_⟩
        rw [cp, show (11 : Int32) = nI 11 from rfl, ex 11 (by decide), ec 11 (by decide), r_An (f := 2477) (Or.inl (by decide)), r_An (f := 2477) (Or.inl (by decide)), r_An (f := 2477) (Or.inl (by decide)), i5, nI_rem (by omega) (by omega), nI_clamp (n := 16 * p + i) (by omega), show (12 : Int32) = nI 12 from rfl, ex 12 (by decide), ec 12 (by decide)]
        refine ⟨ev 11 (by decide), vp _ rfl, ri_v (n := 256) rfl (by omega) (by decide), ev 12 (by decide), fun S eS => ?_⟩
        rw [r_An (f := 2477) (Or.inl (by decide))] at eS
        subst eS
        refine ⟨vp _ rfl, ?_⟩
        rw [cp, show (13 : Int32) = nI 13 from rfl, ex 13 (by decide), ec 13 (by decide), r_An (f := 2477) (Or.inl (by decide)), r_An (f := 2477) (Or.inl (by decide)), r_An (f := 2477) (Or.inl (by decide))]
        exact ⟨ev 13 (by decide), _, rfl, fun _ => hQ, fun z => absurd rfl z⟩
      · have wx := WR_x (v := r_A R 2489 p) (WR_x (v := r_A R 2490 p) (WR_x (v := r_A R 2468 (16 * p + i)) (WR_x (v := nI i) w hp hj (i := 11) (by decide)) hp hj (i := 12) (by decide)) hp hj (i := 13) (by decide)) hp hj (i := 10) (by decide)
        rw [rs_c (f := 2477) (i := 32 * (16 * p + j) + 10) (i' := 32 * (16 * p + j) + 11) (Or.inr (by omega)), rs_c (f := 2477) (i := 32 * (16 * p + j) + 10) (i' := 32 * (16 * p + j) + 12) (Or.inr (by omega)), rs_c (f := 2477) (i := 32 * (16 * p + j) + 10) (i' := 32 * (16 * p + j) + 13) (Or.inr (by omega))]
        exact wx
theorem W0_rdy {b : Nat} {L : c_L} {Z : z_C} {K : c_S} {R : r_S} {p j : Nat} (h : W0 b L Z K R) (hb : b < 2000000000) (hp : p < z_np Z) (hj : j < z_nq Z p) (ht : (r_A R 2473 (16 * p + j)).toInt ≤ (r_I R 2463).toInt) : W0 (b + 1) L Z (k_rdy K p (16 * p + j)) (r_rdy R (16 * p + j)) := by
  have hpr := h.2.1.1 p hp j hj
  have hti := h.2.2.2.1.2 p hp j hj
  have elo : c_I (k_rdy K p (16 * p + j)) 1015 p = c_I K 1015 p + 1 := by
    show c_I (cs_I (cs_I (cs_I (cs_I K 1409 (16 * p + j) 1) 1418 (16 * p + j) (-1)) 1413 (16 * p + j) (-1)) 1015 p (c_I K 1015 p + 1)) 1015 p = _
    exact c_Is
  have est : r_I (r_rdy R (16 * p + j)) 2464 = r_I R 2464 + 1 := by unfold r_rdy; rw [r_IA, r_Is]
  refine W0_step h hb hp hj RS_rdy JB_rdy EX_rdy ?_ (fun p' hp' => lo_b hp') (Or.inr elo) (Or.inr est) (fun _ => ⟨elo, est, ?_, ?_⟩) (fun z => ?_) rfl (fun _ => ⟨rfl, rfl, rfl⟩) ?_
  · rw [k_rdy_k, r_rdy_r, r_rdy_y]
    exact PRt_rdy hpr
  · rw [k_rdy_k]; rfl
  · rw [r_rdy_r]; rfl
  · rw [r_rdy_r] at z
    exact absurd z.1 (by decide : ¬ (1 : Int32) = 2)
  · rw [r_rdy_r]
    exact ⟨fun _ => ht, fun z => absurd z (by decide : ¬ (1 : Int32) = 2), hti.2.2.1, hti.2.2.2.1, hti.2.2.2.2.1, fun z => absurd z (by decide : ¬ (1 : Int32) = 2)⟩
theorem PDv_8 {Z : z_C} {p : Nat} {k r s : Nat → Int32} (h : PDv Z p k r s) (hk : k 1016 = -1) (n16 : z_nq Z p ≤ 16) : PDv Z p k (qs_1 r 2488 (-1)) s := by
  obtain ⟨g1, g2, g3, g4, g5, g6, g7, g8, g9⟩ := h
  refine ⟨g1, g2, g3, g4, g5, ?_, Or.inl rfl, g8, g9⟩
  rcases g6 with g6 | ⟨i', h', b1, b2, b3, b4, -⟩
  · exact Or.inl g6
  · exact absurd (b4.symm.trans hk) (nI_m1 (by omega))
theorem WR_8 {b : Nat} {L : c_L} {Z : z_C} {K : c_S} {R : r_S} {p : Nat} (h : WR b L Z K R) (hp : p < z_np Z) (hk : c_I K 1016 p = -1) : WR b L Z K (rs_A R 2488 p (-1)) := by
  refine WR_pp (p := p) h (W0_pr (by decide) (W0_of h)) (fun p' hp' => rfl) (fun p' hp' => by rw [pd_rn hp']) (fun q => by rw [r_An (Or.inl (by decide))]) (fun _ => ?_)
  rw [pd_rw (by decide)]
  exact PDv_8 (PD_v h.2.2.2.2.1 hp) hk (CQ_nq (WR_cq h) p hp)
theorem AN_25 {b : Nat} {L : c_L} {Z : z_C} {K : c_S} {R : r_S} {p j : Nat} {a : Int32} (x : CX b L Z K R p j) (hb : b < 1999999900) : AN (b + 16) L Z (16 * p + j) (km_X0_decide L K 0 a) (rm_X12_decides R (nI p) (nI (16 * p + j)) a) := by
  obtain ⟨w, ⟨hp, hj⟩, ⟨p0, p1, p2, p3⟩, hnow, h1, hm, gk⟩ := x
  have cq := WR_cq w
  have np16 := CQ_np cq
  have n16 := CQ_nq cq p hp
  obtain ⟨mq, -, hnum, hfl⟩ := CQ_q cq hp hj
  obtain ⟨m5, -, hcn, -⟩ := CQ_p cq hp
  have cp := nI_clamp (n := p) (by omega)
  have vp : ∀ f : Nat, r_N f = 16 → vp_in (nI p) (r_N f) := fun f hf => ri_v hf (by omega) (by decide)
  by_cases hh : z_hd Z p = some j
  case neg =>
    have hf0 : c_I K 1407 (16 * p + j) = 0 := by rw [hfl, if_neg hh]
    exact AN_i 3 K R (WR_w w (by omega)) p3 (fun Q hQ => ⟨_, p2, mq, fun z => absurd hf0 z, fun _ => hQ⟩) (fun Q hQ => re_isH cq hp hj ⟨_, rfl, fun z => absurd (by rw [if_neg hh]) z, fun _ => hQ⟩)
  case pos =>
    have hf1 : ¬ c_I K 1407 (16 * p + j) = 0 := by rw [hfl, if_pos hh]; decide
    rcases PD_ft w hp with ⟨f1, f2, f3⟩ | ⟨i, h', i1, i2, i3, i4, i5, i6, i7, i8, i9⟩
    · exact AN_i 2 K R (WR_w w (by omega)) p3 (fun Q hQ => ⟨_, p2, mq, fun _ => ⟨p, p1, m5, ke_processAt0 hcn (Or.inl (by rw [f1]; decide)) ⟨fun z => absurd rfl z, fun _ => hQ⟩⟩, fun z => absurd z hf1⟩) (fun Q hQ => re_isH cq hp hj ⟨_, rfl, fun _ => re_isF0 w hp f2 f3 ⟨_, rfl, fun z => absurd rfl z, fun _ => hQ⟩, fun z => absurd z (by rw [if_pos hh]; decide)⟩)
    · obtain ⟨mi, hli, hni, -⟩ := CQ_q cq hp i1
      have ci := nI_clamp (n := 16 * p + i) (by omega)
      have vi : ∀ f : Nat, r_N f = 256 → vp_in (nI (16 * p + i)) (r_N f) := fun f hf => ri_v hf (by omega) (by decide)
      have hti := w.2.2.2.1.2 p hp i i1
      have t0 := w.2.2.2.1.1
      have kp : ∀ Q : Int32 → c_S → Prop, ((a < 0 → (kb_X0_decide_42 L K Q)) ∧ (¬ a < 0 → ((a ≤ (2 : Int32) → ((¬ a = (1 : Int32) → ((¬ a = (2 : Int32) → (((¬ (c_I (cs_I K 1016 p (-1 : Int32)) 1017 p) = (2 : Int32) → (kb_X0_decide_113 L (cs_I K 1016 p (-1 : Int32)) 0 (some (16 * p + i)) (some (16 * p + i)) (c_I (cs_I K 1016 p (-1 : Int32)) 1410 (16 * p + i)) (4 : Int32) Q)) ∧ ((c_I (cs_I K 1016 p (-1 : Int32)) 1017 p) = (2 : Int32) → (kb_X0_decide_113 L (cs_I K 1016 p (-1 : Int32)) 0 (some (16 * p + i)) (some (16 * p + i)) (c_I (cs_I K 1016 p (-1 : Int32)) 1410 (16 * p + i)) (0 : Int32) Q))))) ∧ (a = (2 : Int32) → (km_X5_start L K p (some (16 * p + i)) (c_I K 4 0) (c_I K 4 0) (fun S42_ => (kb_X0_decide_125 L S42_ Q)))))) ∧ (a = (1 : Int32) → (km_X5_rest L K p (some (16 * p + i)) (fun S48_ => (kb_X0_decide_125 L S48_ Q)))))) ∧ (¬ a ≤ (2 : Int32) → (kb_X0_decide_42 L K Q))))) → km_X0_decide L K 0 a Q := fun Q hQ => ⟨_, p2, mq, fun _ => ⟨p, p1, m5, by
        rw [i4]
        exact ke_processAt hcn i1 n16 mi ⟨fun _ => ⟨hQ.1, fun z => ⟨fun z2 => ⟨fun z3 => ⟨fun z4 => ⟨p, p1, m5, _, rfl, mi, p, p1, m5, ((hQ.2 z).1 z2).1 z3 |>.1 z4⟩, fun z4 => ⟨p, p1, m5, ((hQ.2 z).1 z2).1 z3 |>.2 z4⟩⟩, fun z3 => ⟨p, p1, m5, ((hQ.2 z).1 z2).2 z3⟩⟩, (hQ.2 z).2⟩⟩, fun z => (by cases z)⟩⟩, fun z => absurd z hf1⟩
      have rp : ∀ Q : Option Value → r_S → Prop, ((a < 0 → (rb_X12_decides_29 R Q)) ∧ (¬ a < 0 → ((a ≤ (2 : Int32) → (((¬ a = 0 → ((¬ a = (1 : Int32) → (rm_X12_startsAt R (nI (16 * p + i)) (r_I R 2463) (fun r28_ S29_ => r28_ = none ∧ Q (some (.int 0)) (rs_A S29_ 2488 p (-1))))) ∧ (a = (1 : Int32) → (rm_X12_dormant R (nI (16 * p + i)) (fun r30_ S31_ => r30_ = none ∧ Q (some (.int 0)) (rs_A S31_ 2488 p (-1))))))) ∧ (a = 0 → ((((r_A R 2489 p) = (2 : Int32) → Q (some (.int 0)) (rs_A (r_rdy R (16 * p + i)) 2488 p (-1))) ∧ (¬ (r_A R 2489 p) = (2 : Int32) → Q (some (.int 0)) (rs_A (r_rdy (rs_A R 2468 (16 * p + i) (r_A R 2468 (16 * p + i) + 4)) (16 * p + i)) 2488 p (-1))))))))) ∧ (¬ a ≤ (2 : Int32) → (rb_X12_decides_29 R Q))))) → rm_X12_decides R (nI p) (nI (16 * p + j)) a Q := fun Q hQ => re_isH cq hp hj ⟨_, rfl, fun _ => re_isFaulted1 (by omega) (by omega) i5 i8 ⟨_, rfl, fun _ => ⟨hQ.1, fun z => ⟨fun z2 => ⟨vp _ rfl, by
          rw [cp, i5]
          refine ⟨fun z3 => ⟨fun z4 => ?_, fun z4 => ?_⟩, fun z3 => ⟨vp _ rfl, fun z4 => re_isReady (by omega) ⟨rfl, vp _ rfl, ?_⟩, fun z4 => ⟨vi _ rfl, vi _ rfl, ?_⟩⟩⟩
          · exact dmo (drm_X12_startsAt R (nI (16 * p + i)) (r_I R 2463)) (((hQ.2 z).1 z2).1 z3 |>.1 z4) (fun v s hv => ⟨hv.1, vp _ rfl, by rw [cp]; exact hv.2⟩)
          · exact dmo (drm_X12_dormant R (nI (16 * p + i))) (((hQ.2 z).1 z2).1 z3 |>.2 z4) (fun v s hv => ⟨hv.1, vp _ rfl, by rw [cp]; exact hv.2⟩)
          · rw [cp]; exact ((hQ.2 z).1 z2).2 z3 |>.1 z4
          · rw [ci]
            refine re_isReady (by omega) ⟨rfl, vp _ rfl, ?_⟩
            rw [cp]; exact ((hQ.2 z).1 z2).2 z3 |>.2 z4⟩, (hQ.2 z).2⟩⟩, fun z => absurd z (by decide)⟩, fun z => absurd z (by rw [if_pos hh]; decide)⟩
      by_cases a0 : a < 0
      · exact AN_i 1 K R (WR_w w (by omega)) p3 (fun Q hQ => kp Q ⟨fun _ => hQ, fun z => absurd a0 z⟩) (fun Q hQ => rp Q ⟨fun _ => hQ, fun z => absurd a0 z⟩)
      · by_cases a2 : a ≤ 2
        case neg => exact AN_i 1 K R (WR_w w (by omega)) p3 (fun Q hQ => kp Q ⟨fun z => absurd z a0, fun _ => ⟨fun z => absurd z a2, fun _ => hQ⟩⟩) (fun Q hQ => rp Q ⟨fun z => absurd z a0, fun _ => ⟨fun z => absurd z a2, fun _ => hQ⟩⟩)
        case pos =>
          by_cases e1 : a = 1
          · obtain ⟨K', R', g1, g2, g3, g4, g5, g6, g7, g8, g9⟩ := P_restX w (by omega) hp i1
            have k16 : c_I K' 1016 p = -1 := by
              rcases g5 with z | z
              · exact z
              · rcases PD_ft g3 hp with ⟨f1, -, -⟩ | ⟨i', h', j1, j2, j3, j4, j5, j6, j7, j8, j9⟩
                · exact f1
                · have := j4.symm.trans (z.trans i4)
                  rw [nI_eq (by omega) (by omega)] at this
                  rw [this, g6] at j8
                  exact absurd j8 (by decide)
            have a00 : ¬ a = 0 := by rw [e1]; decide
            exact AN_i 0 K' _ (WR_w (WR_8 g3 hp k16) (by omega)) ((g4 3 0).trans p3) (fun Q hQ => kp Q ⟨fun z => absurd z a0, fun _ => ⟨fun _ => ⟨fun z => absurd e1 z, fun _ => g1 _ hQ⟩, fun z => absurd a2 z⟩⟩) (fun Q hQ => rp Q ⟨fun z => absurd z a0, fun _ => ⟨fun _ => ⟨fun _ => ⟨fun z => absurd e1 z, fun _ => g2 _ ⟨rfl, hQ⟩⟩, fun z => absurd z a00⟩, fun z => absurd a2 z⟩⟩)
          · by_cases e2 : a = 2
            · obtain ⟨K', R', g1, g2, g3, -, -, -, -, g8, g9, -⟩ := P_startX (t := r_I R 2463) w (by omega) hp i1 hm (Int.le_refl _) (by omega) (Or.inl (Int.le_refl _))
              rw [if_pos i4.symm] at g9
              have a00 : ¬ a = 0 := by rw [e2]; decide
              refine AN_i 0 K' _ (WR_w (WR_8 g3 hp g9) (by omega)) ((g8 3 0).trans p3) (fun Q hQ => kp Q ⟨fun z => absurd z a0, fun _ => ⟨fun _ => ⟨fun _ => ⟨fun z => absurd e2 z, fun _ => ?_⟩, fun z => absurd z e1⟩, fun z => absurd a2 z⟩⟩) (fun Q hQ => rp Q ⟨fun z => absurd z a0, fun _ => ⟨fun _ => ⟨fun _ => ⟨fun _ => g2 _ ⟨rfl, hQ⟩, fun z => absurd z e1⟩, fun z => absurd z a00⟩, fun z => absurd a2 z⟩⟩)
              rw [hnow]
              exact g1 _ hQ
            · have a00 : a = 0 := by
                have l1 := i_le.mp a2
                have l0 : ¬ a.toInt < 0 := fun z => a0 (i_lt0.mpr z)
                rw [show (2 : Int32).toInt = 2 from by decide] at l1
                have n1 : a.toInt ≠ 1 := fun z => e1 (Int32.toInt_inj.mp (z.trans (by decide)))
                have n2 : a.toInt ≠ 2 := fun z => e2 (Int32.toInt_inj.mp (z.trans (by decide)))
                refine Int32.toInt_inj.mp ?_
                rw [show (0 : Int32).toInt = 0 from by decide]
                omega
              have hpc : c_I K 1410 (16 * p + i) = r_A R 2468 (16 * p + i) := (DP_w w hp i1).1.2.2.1
              have wd : ∀ v : Int32, WR (b + 1) L Z (k_rdy (cs_I (cs_I K 1016 p (-1)) 1410 (16 * p + i) v) p (16 * p + i)) (rs_A (r_rdy (rs_A R 2468 (16 * p + i) v) (16 * p + i)) 2488 p (-1)) := fun v => by
                have w1 : W0 b L Z (cs_I (cs_I K 1016 p (-1)) 1410 (16 * p + i) v) (rs_A R 2468 (16 * p + i) v) := by
                  rw [cs_c (Or.inl (by decide))]
                  exact W0_pk (by decide) (W0_of (WR_pc (v := v) w hp i1))
                have w2 := W0_rdy w1 (by omega) hp i1 (by rw [r_An (Or.inl (by decide))]; exact hti.1 (Or.inr i8))
                have es : ∀ q : Nat, q ≠ 16 * p + i → r_A (r_rdy (rs_A R 2468 (16 * p + i) v) (16 * p + i)) 2467 q = r_A R 2467 q := fun q hq => by
                  have a := congrFun (EX_rdy (K := K) (R := rs_A R 2468 (16 * p + i) v) (p := p) (q := 16 * p + i) q hq).2.2.1 0
                  exact a.trans (r_An (Or.inl (by decide)))
                have e1 : r_A (r_rdy (rs_A R 2468 (16 * p + i) v) (16 * p + i)) 2467 (16 * p + i) = 1 := congrFun (r_rdy_r (R := rs_A R 2468 (16 * p + i) v) (q := 16 * p + i)) 0
                have epr : ∀ p' : Nat, pd_r (r_rdy (rs_A R 2468 (16 * p + i) v) (16 * p + i)) p' = pd_r R p' := fun p' => by rw [pd_ro r_rdy_PD]; exact pd_ro (n_An (by decide)) p'
                have epk : ∀ p' : Nat, pd_k (k_rdy (cs_I (cs_I K 1016 p (-1)) 1410 (16 * p + i) v) p (16 * p + i)) p' = pd_k (cs_I K 1016 p (-1)) p' := fun p' => by rw [pd_ko k_rdy_PD]; exact pd_ko (m_In (by decide)) p'
                refine WR_of (W0_pr (by decide) w2) (PD_p (p := p) w.2.2.2.2.1 (CQ_nq cq) (fun p' hp' => by rw [epk, pd_kn hp']) (fun p' hp' => by rw [pd_rn hp', epr]) (fun q hq => by rw [r_An (Or.inl (by decide))]; exact es q (by omega)) (fun _ => ?_))
                rw [pd_rw (by decide), epr, epk, pd_kw (by decide)]
                refine PDv_8 (PDv_F (PD_v w.2.2.2.2.1 hp) n16 i1 i4 (fun x hx => ?_) ?_ (Or.inl hm)) rfl n16
                · show r_A (rs_A (r_rdy (rs_A R 2468 (16 * p + i) v) (16 * p + i)) 2488 p (-1)) 2467 (16 * p + x) = r_A R 2467 (16 * p + x)
                  rw [r_An (Or.inl (by decide))]; exact es _ (by omega)
                · show r_A (rs_A (r_rdy (rs_A R 2468 (16 * p + i) v) (16 * p + i)) 2488 p (-1)) 2467 (16 * p + i) ≠ 3
                  rw [r_An (Or.inl (by decide)), e1]; decide
              have kq : ∀ (v : Int32) (Q : Int32 → c_S → Prop), Q 0 (k_rdy (cs_I (cs_I K 1016 p (-1)) 1410 (16 * p + i) (r_A R 2468 (16 * p + i) + v)) p (16 * p + i)) → kb_X0_decide_113 L (cs_I K 1016 p (-1 : Int32)) 0 (some (16 * p + i)) (some (16 * p + i)) (c_I (cs_I K 1016 p (-1 : Int32)) 1410 (16 * p + i)) v Q := fun v Q hQ => ⟨_, rfl, mi, p, p1, m5, by
                rw [c_In (Or.inl (by decide)), hpc]
                exact ke_makeReady mi hQ⟩
              by_cases k2 : r_A R 2489 p = 2
              · refine AN_i 0 _ _ (WR_w (wd (r_A R 2468 (16 * p + i) + 0)) (by omega)) p3 (fun Q hQ => kp Q ⟨fun z => absurd z a0, fun _ => ⟨fun _ => ⟨fun _ => ⟨fun _ => ⟨fun z => absurd ?_ z, fun _ => kq 0 Q hQ⟩, fun z => absurd z e2⟩, fun z => absurd z e1⟩, fun z => absurd a2 z⟩⟩) (fun Q hQ => rp Q ⟨fun z => absurd z a0, fun _ => ⟨fun _ => ⟨fun z => absurd a00 z, fun _ => ⟨fun _ => ?_, fun z => absurd k2 z⟩⟩, fun z => absurd a2 z⟩⟩)
                · rw [c_In (Or.inl (by decide)), i6.1]; exact k2
                · rw [Int32.add_zero, rs_self] at hQ
                  exact hQ
              · refine AN_i 0 _ _ (WR_w (wd (r_A R 2468 (16 * p + i) + 4)) (by omega)) p3 (fun Q hQ => kp Q ⟨fun z => absurd z a0, fun _ => ⟨fun _ => ⟨fun _ => ⟨fun _ => ⟨fun _ => kq 4 Q hQ, fun z => absurd ?_ k2⟩, fun z => absurd z e2⟩, fun z => absurd z e1⟩, fun z => absurd a2 z⟩⟩) (fun Q hQ => rp Q ⟨fun z => absurd z a0, fun _ => ⟨fun _ => ⟨fun z => absurd a00 z, fun _ => ⟨fun z => absurd z k2, fun _ => hQ⟩⟩, fun z => absurd a2 z⟩⟩)
                rw [c_In (Or.inl (by decide)), i6.1] at z
                exact z
