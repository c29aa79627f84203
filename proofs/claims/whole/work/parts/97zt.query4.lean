/-! Questions about words and channels. -/
theorem Q_wordOf {b : Nat} {L : c_L} {Z : z_C} {K : c_S} {R : r_S} {x1 x2 x3 x4 : Int32} (w : WR b L Z K R) (gk : GK L) (gq : ∀ i j : Nat, c_mk L 10 i → c_qu i = some j → c_mk L 8 j) : QA K R (km_X11_wordOf L K 0 x1 x2 x3 x4) (rm_X12_wordOf R x1 x2 x3 x4) := by
  have w0 := WR_400 (v := 0) w
  have np16 : z_np Z ≤ 16 := CQ_np (WR_cq w)
  rcases pa_cases w0 x1 with ⟨hk, hr⟩ | ⟨p, hp, rfl, hk, hr⟩
  · exact ⟨0, fun Q hQ => hk _ (nt_ rfl (nt_ rfl hQ)), fun Q hQ => hr _ ⟨_, rfl, bt_ rfl hQ⟩⟩
  · have hp : p < z_np Z := hp
    have m5 := (CQ_p (WR_cq w) hp).1
    have ct := WR_ct w
    have ct0 := WR_ct w0
    have kno : (∀ Q : Option Nat → c_S → Prop, Q none K → km_X5_thingAt L K p x2 x3 Q) → ∀ Q : Int32 → c_S → Prop, Q 0 K → km_X11_wordOf L K 0 (nI p) x2 x3 x4 Q := fun ht Q hQ => hk _ (nf_ (fun z => (by cases z)) ⟨_, rfl, m5, ht _ (nt_ rfl hQ)⟩)
    by_cases c2 : x2 = 2
    · subst c2
      have t8 := (CT_n ct hp (s := 2) (by decide)).1
      rw [if_neg (by decide)] at t8
      rcases io_ x3 (n := z_nt Z p 2) (by omega) with ⟨i, hi, rfl⟩ | ho
      case inr => exact ⟨0, kno (fun Q hQ => ke_thingAt0 (s := 2) ct hp (by decide) ho hQ), fun Q hQ => hr _ ⟨_, rfl, bf_ (by decide) (bt_ rfl (re_isThing0 (s := 2) ct0 np16 hp (by decide) ho ⟨_, rfl, bt_ rfl hQ⟩))⟩⟩
      case inl =>
        have mt := (CT_n ct hp (s := 2) (by decide)).2.2.2 i hi
        have q0 : c_qu (48 * p + (8 * 2 + i)) = some (48 * p + (16 + i)) := c_qub (by omega)
        have m8 := gq _ _ mt q0
        obtain ⟨-, d1, -, d3, d4, d5, d6⟩ := CT_b ct hp hi
        have qu : QUt (z_dc Z (48 * p + (16 + i))) (c_I K 1602 (48 * p + (16 + i))) (c_I K 1603 (48 * p + (16 + i))) (c_A K 1600 (48 * p + (16 + i))) (r_A R 2494 (8 * p + i)) (fun n => r_A R 2495 (16 * (8 * p + i) + n)) := (TH_w w hp).2.2.1 i hi
        obtain ⟨a, n, u1, u2, u3, u4, u5, u6⟩ := qu
        have e8 : (8 : Int32) * nI p + nI i = nI (8 * p + i) := by rw [show (8 : Int32) = nI 8 from rfl, pk_mul, nI_add]
        have c8 := nI_clamp (n := 8 * p + i) (by omega)
        have v8 : vp_in (nI (8 * p + i)) (r_N 2494) := ri_v (n := 128) rfl (by omega) (by decide)
        have kin : ∀ Q : Int32 → c_S → Prop, km_X8_at L K (48 * p + (16 + i)) x4 Q → km_X11_wordOf L K 0 (nI p) 2 (nI i) x4 Q := fun Q hQ => hk _ (nf_ (fun z => (by cases z)) ⟨_, rfl, m5, ke_thingAt (s := 2) ct hp (by decide) hi (nf_ (fun z => (by cases z)) ⟨_, rfl, mt, bf_ (by rw [q0]; exact fun z => (by cases z)) ⟨_, q0, m8, hQ⟩⟩)⟩)
        have rin : ∀ Q : Option Value → r_S → Prop, ((0 ≤ x4 → ((nI n ≤ x4 → Q (some (.int 0)) (rs_I R 2400 0)) ∧ (¬ nI n ≤ x4 → (vp_in (((16 : Int32) * (nI (8 * p + i))) + x4) (r_N 2495) ∧ Q (some (.int (r_A R 2495 (((16 : Int32) * (nI (8 * p + i))) + x4).toNatClampNeg))) (rs_I R 2400 0))))) ∧ (¬ 0 ≤ x4 → Q (some (.int 0)) (rs_I R 2400 0))) → rm_X12_wordOf R (nI p) 2 (nI i) x4 Q := fun Q hQ => by
          refine hr _ ⟨_, rfl, bf_ (by decide) (bt_ rfl (re_isThing (s := 2) ct0 np16 hp (by decide) hi ⟨_, rfl, bf_ (by decide) ?_⟩))⟩
          rw [e8, c8, show r_A (rs_I R 2400 0) 2494 (8 * p + i) = nI n from u5]
          exact ⟨fun z => nf_ (by decide) ⟨v8, (hQ.1 z).1, (hQ.1 z).2⟩, hQ.2⟩
        by_cases c4 : x4 < 0
        · exact ⟨0, fun Q hQ => kin Q (ke_at0 u4 (Or.inl c4) hQ), fun Q hQ => rin Q (bf_ (fun z => i_nlt.mpr z c4) hQ)⟩
        · obtain ⟨x, hx, rfl⟩ := nI_of c4
          by_cases c5 : x < n
          · refine ⟨r_A R 2495 (16 * (8 * p + i) + x), fun Q hQ => kin Q (ke_at1 d1 u3 u4 u1 u2 (by omega) d5 d6 c5 ?_), fun Q hQ => rin Q (bt_ (i_nlt.mp c4) (bf_ (nI_ge c5 (by omega)) ?_))⟩
            · rw [u6 x c5]; exact hQ
            · rw [show (16 : Int32) * nI (8 * p + i) + nI x = nI (16 * (8 * p + i) + x) by rw [show (16 : Int32) = nI 16 from rfl, pk_mul, nI_add], nI_clamp (by omega)]
              exact ⟨ri_v (n := 2048) rfl (by omega) (by decide), hQ⟩
          · exact ⟨0, fun Q hQ => kin Q (ke_at0 u4 (Or.inr (nI_le (by omega) hx)) hQ), fun Q hQ => rin Q (bt_ (i_nlt.mp c4) (bt_ (nI_le (by omega) hx) hQ))⟩
    by_cases c3 : x2 = 3
    · subst c3
      have t8 := (CT_n ct hp (s := 3) (by decide)).1
      rw [if_neg (by decide)] at t8
      rcases io_ x3 (n := z_nt Z p 3) (by omega) with ⟨i, hi, rfl⟩ | ho
      case inr => exact ⟨0, kno (fun Q hQ => ke_thingAt0 (s := 3) ct hp (by decide) ho hQ), fun Q hQ => hr _ ⟨_, rfl, bf_ (by decide) (bf_ (by decide) (nt_ rfl (re_isThing0 (s := 3) ct0 np16 hp (by decide) ho ⟨_, rfl, bt_ rfl hQ⟩)))⟩⟩
      case inl =>
        have mt := (CT_n ct hp (s := 3) (by decide)).2.2.2 i hi
        have q0 : c_qu (48 * p + (8 * 3 + i)) = none := if_neg (by omega)
        obtain ⟨u1, u2, u3⟩ := (TH_w w hp).2.2.2.1 i hi
        have u1 : c_I K 2001 (48 * p + (8 * 3 + i)) = r_A R 2496 (8 * p + i) := u1
        have u2 : r_A R 2496 (8 * p + i) = 0 ∨ r_A R 2496 (8 * p + i) = 1 := u2
        have u3 : r_A R 2496 (8 * p + i) = 1 → c_I K 2005 (48 * p + (8 * 3 + i)) = r_A R 2497 (8 * p + i) := u3
        have e8 : (8 : Int32) * nI p + nI i = nI (8 * p + i) := by rw [show (8 : Int32) = nI 8 from rfl, pk_mul, nI_add]
        have c8 := nI_clamp (n := 8 * p + i) (by omega)
        have v8 : ∀ f : Nat, r_N f = 128 → vp_in (nI (8 * p + i)) (r_N f) := fun f hf => ri_v hf (by omega) (by decide)
        have kin : ∀ Q : Int32 → c_S → Prop, ((r_A R 2496 (8 * p + i) = 0 → Q 0 K) ∧ (¬ r_A R 2496 (8 * p + i) = 0 → ((¬ x4 = 0 → Q 0 K) ∧ (x4 = 0 → Q (c_I K 2005 (48 * p + (8 * 3 + i))) K)))) → km_X11_wordOf L K 0 (nI p) 3 (nI i) x4 Q := fun Q hQ => hk _ (nf_ (fun z => (by cases z)) ⟨_, rfl, m5, ke_thingAt (s := 3) ct hp (by decide) hi (nf_ (fun z => (by cases z)) ⟨_, rfl, mt, bt_ q0 (nt_ rfl (by rw [u1]; exact hQ))⟩)⟩)
        have rin : ∀ Q : Option Value → r_S → Prop, ((0 ≤ x4 → ((¬ x4 = 0 → Q (some (.int 0)) (rs_I R 2400 0)) ∧ (x4 = 0 → ((r_A R 2496 (8 * p + i) = 0 → Q (some (.int 0)) (rs_I R 2400 0)) ∧ (¬ r_A R 2496 (8 * p + i) = 0 → Q (some (.int (r_A R 2497 (8 * p + i)))) (rs_I R 2400 0)))))) ∧ (¬ 0 ≤ x4 → Q (some (.int 0)) (rs_I R 2400 0))) → rm_X12_wordOf R (nI p) 3 (nI i) x4 Q := fun Q hQ => by
          refine hr _ ⟨_, rfl, bf_ (by decide) (bf_ (by decide) (nt_ rfl (re_isThing (s := 3) ct0 np16 hp (by decide) hi ⟨_, rfl, bf_ (by decide) ?_⟩)))⟩
          rw [e8, c8]
          exact ⟨fun z => nt_ rfl ⟨(hQ.1 z).1, fun z2 => ⟨v8 _ rfl, ((hQ.1 z).2 z2).1, fun z3 => ⟨v8 _ rfl, ((hQ.1 z).2 z2).2 z3⟩⟩⟩, hQ.2⟩
        by_cases c6 : r_A R 2496 (8 * p + i) = 0
        · exact ⟨0, fun Q hQ => kin Q (bt_ c6 hQ), fun Q hQ => rin Q ⟨fun _ => ⟨fun _ => hQ, fun _ => bt_ c6 hQ⟩, fun _ => hQ⟩⟩
        · by_cases c7 : x4 = 0
          · refine ⟨r_A R 2497 (8 * p + i), fun Q hQ => kin Q (bf_ c6 (nt_ c7 ?_)), fun Q hQ => rin Q (bt_ (by rw [c7]; decide) (nt_ c7 (bf_ c6 hQ)))⟩
            rw [u3 (u2.resolve_left c6)]; exact hQ
          · exact ⟨0, fun Q hQ => kin Q (bf_ c6 (nf_ c7 hQ)), fun Q hQ => rin Q ⟨fun _ => nf_ c7 hQ, fun _ => hQ⟩⟩
    · have rno : ∀ Q : Option Value → r_S → Prop, Q (some (.int 0)) (rs_I R 2400 0) → rm_X12_wordOf R (nI p) x2 x3 x4 Q := fun Q hQ => hr _ ⟨_, rfl, bf_ (by decide) (bf_ c2 (nf_ c3 hQ))⟩
      rcases th_cases w hp x2 x3 with ⟨tk, -⟩ | ⟨s, i, hs, hi, rfl, rfl, tk, -⟩
      · exact ⟨0, kno tk, rno⟩
      · have mt := (CT_n ct hp hs).2.2.2 i hi
        have s2 : s ≠ 2 := fun z => c2 (by rw [z]; rfl)
        have s3 : s ≠ 3 := fun z => c3 (by rw [z]; rfl)
        have t8 := (CT_n ct hp hs).1
        have q0 : c_qu (48 * p + (8 * s + i)) = none := if_neg (by
          have : s = 0 ∨ s = 1 ∨ s = 4 := by omega
          rcases this with rfl | rfl | rfl
          · rw [if_neg (by decide)] at t8; omega
          · rw [if_neg (by decide)] at t8; omega
          · rw [if_pos rfl] at t8; omega)
        exact ⟨0, fun Q hQ => hk _ (nf_ (fun z => (by cases z)) ⟨_, rfl, m5, tk _ (nf_ (fun z => (by cases z)) ⟨_, rfl, mt, bt_ q0 (nf_ c3 hQ)⟩)⟩), rno⟩
/-- a channel, or none -/
theorem ch_cases {b : Nat} {L : c_L} {Z : z_C} {K : c_S} {R : r_S} (w : WR b L Z K R) (x1 : Int32) : ((∀ Q : Option Nat → c_S → Prop, Q none K → km_X6_channelAt L K 0 x1 Q) ∧ (∀ Q : Option Value → r_S → Prop, Q (some (.int 0)) R → rm_X12_isChannel R x1 Q)) ∨ ∃ c : Nat, c < z_nc Z ∧ x1 = nI c ∧ (∀ Q : Option Nat → c_S → Prop, Q (some c) K → km_X6_channelAt L K 0 x1 Q) ∧ (∀ Q : Option Value → r_S → Prop, Q (some (.int 1)) R → rm_X12_isChannel R x1 Q) := by
  have cc := WR_cc w
  have nc24 : z_nc Z ≤ 24 := cc.1.1
  have e3 : c_I K 1203 0 = nI (z_nc Z) := cc.2.2.1.1
  have e16 : r_I R 2416 = nI (z_nc Z) := cc.2.2.1.2
  rcases io_ x1 (n := z_nc Z) (by omega) with ⟨c, hc, rfl⟩ | ho
  · exact Or.inr ⟨c, hc, rfl, fun Q hQ => ke_channelAt cc hc hQ, fun Q hQ => bf_ (nI_pos (by omega)) (bf_ (by rw [e16]; exact nI_ge hc (by omega)) ⟨nb_1, hQ⟩)⟩
  · refine Or.inl ⟨fun Q hQ => ?_, fun Q hQ => ?_⟩
    · by_cases c : x1 < 0
      · exact bt_ c hQ
      · exact bf_ c (bf_ (by rw [e3]; exact nlt_of (ho.elim (fun z => absurd z c) id)) hQ)
    · by_cases c : x1 < 0
      · exact bt_ c ⟨nb_0, hQ⟩
      · exact bf_ c (bt_ (by rw [e16]; exact ho.elim (fun z => absurd z c) id) ⟨nb_0, hQ⟩)
theorem Q_channel {b : Nat} {L : c_L} {Z : z_C} {K : c_S} {R : r_S} {x1 x2 : Int32} (w : WR b L Z K R) : QA K R (km_X11_channel L K 0 x1 x2) (rm_X12_channel R x1 x2) := by
  have w0 := WR_400 (v := 0) w
  have nc24 : z_nc Z ≤ 24 := (WR_cc w).1.1
  rcases ch_cases w0 x1 with ⟨hk, hr⟩ | ⟨c, hc, rfl, hk, hr⟩
  · exact ⟨-1, fun Q hQ => hk _ (nt_ rfl hQ), fun Q hQ => hr _ ⟨_, rfl, nt_ rfl hQ⟩⟩
  · have hc : c < z_nc Z := hc
    obtain ⟨⟨m1, -, h201, -, h203, h207, h58, -, -⟩, hq01, -⟩ := CC_c (WR_cc w) hc
    obtain ⟨h206, hq, hs⟩ := w.1.2.2.1 c hc
    have h206 : c_I K 206 c = r_A R 2503 c := h206
    have hq : r_A R 2454 c = 1 → c_I K 205 c = -1 ∧ _ := hq
    have hs : r_A R 2454 c = 0 → (r_A R 2498 c = 0 ∧ c_I K 205 c = -1 ∧ _) ∨ (r_A R 2498 c = 1 ∧ c_I K 205 c = r_A R 2500 c ∧ _) := hs
    have cp := nI_clamp (n := c) (by omega)
    have vc : ∀ f : Nat, r_N f = 24 → vp_in (nI c) (r_N f) := fun f hf => ri_v hf (by omega) (by decide)
    rcases io_ x2 (n := 6) (by decide) with ⟨k, hk6, rfl⟩ | ho
    case inr =>
      have ho2 : x2.toInt < 0 ∨ 5 < x2.toInt := ho.imp i_lt0.mp (fun z => by have := i_le.mp z; have e : (nI 6).toInt = 6 := rfl; omega)
      have hx : ∀ i : Nat, i < 6 → ¬ x2 = nI i := fun i hi z => by
        rw [z, nI_toInt (by omega)] at ho2
        omega
      exact ⟨-1, fun Q hQ => hk _ (nf_ (fun z => (by cases z)) ⟨fun _ => hQ, fun z => absurd z (hx 0 (by decide)), fun z => absurd z (hx 1 (by decide)), fun z => absurd z (hx 2 (by decide)), fun z => absurd z (hx 3 (by decide)), fun z => absurd z (hx 4 (by decide)), fun z => absurd z (hx 5 (by decide))⟩), fun Q hQ => hr _ ⟨_, rfl, nf_ (by decide) ⟨fun _ => hQ, fun z => absurd z (hx 0 (by decide)), fun z => absurd z (hx 1 (by decide)), fun z => absurd z (hx 2 (by decide)), fun z => absurd z (hx 3 (by decide)), fun z => absurd z (hx 4 (by decide)), fun z => absurd z (hx 5 (by decide))⟩⟩⟩
    case inl =>
      have hk' : k = 0 ∨ k = 1 ∨ k = 2 ∨ k = 3 ∨ k = 4 ∨ k = 5 := by omega
      rcases hk' with rfl | rfl | rfl | rfl | rfl | rfl
      · refine ⟨r_A R 2454 c, fun Q hQ => hk _ (nf_ (fun z => (by cases z)) ⟨fun z => absurd z (by decide), fun _ => ⟨_, rfl, m1, ?_⟩, fun z => absurd z (by decide), fun z => absurd z (by decide), fun z => absurd z (by decide), fun z => absurd z (by decide), fun z => absurd z (by decide)⟩), fun Q hQ => hr _ ⟨_, rfl, nf_ (by decide) ⟨fun z => absurd z (by decide), fun _ => ⟨vc _ rfl, ?_⟩, fun z => absurd z (by decide), fun z => absurd z (by decide), fun z => absurd z (by decide), fun z => absurd z (by decide), fun z => absurd z (by decide)⟩⟩⟩
        · rw [h201]
          exact ⟨fun z => by rw [z] at hQ; exact hQ, fun z => by rw [hq01.resolve_left z] at hQ; exact hQ⟩
        · rw [cp]
          exact ⟨fun z => by rw [show r_A R 2454 c = 0 from z] at hQ; exact hQ, fun z => by rw [hq01.resolve_left z] at hQ; exact hQ⟩
      · exact ⟨c_I K 1603 (1000 + c), fun Q hQ => hk _ (nf_ (fun z => (by cases z)) ⟨fun z => absurd z (by decide), fun z => absurd z (by decide), fun _ => ⟨_, rfl, m1, hQ⟩, fun z => absurd z (by decide), fun z => absurd z (by decide), fun z => absurd z (by decide), fun z => absurd z (by decide)⟩), fun Q hQ => hr _ ⟨_, rfl, nf_ (by decide) ⟨fun z => absurd z (by decide), fun z => absurd z (by decide), fun _ => r_wof w0 hc ⟨_, rfl, hQ⟩, fun z => absurd z (by decide), fun z => absurd z (by decide), fun z => absurd z (by decide), fun z => absurd z (by decide)⟩⟩⟩
      · refine ⟨r_A R 2455 c, fun Q hQ => hk _ (nf_ (fun z => (by cases z)) ⟨fun z => absurd z (by decide), fun z => absurd z (by decide), fun z => absurd z (by decide), fun _ => ⟨_, rfl, m1, ?_⟩, fun z => absurd z (by decide), fun z => absurd z (by decide), fun z => absurd z (by decide)⟩), fun Q hQ => hr _ ⟨_, rfl, nf_ (by decide) ⟨fun z => absurd z (by decide), fun z => absurd z (by decide), fun z => absurd z (by decide), fun _ => ⟨vc _ rfl, ?_⟩, fun z => absurd z (by decide), fun z => absurd z (by decide), fun z => absurd z (by decide)⟩⟩⟩
        · rw [h203]; exact hQ
        · rw [cp]; exact hQ
      · refine ⟨c_I K 205 c, fun Q hQ => hk _ (nf_ (fun z => (by cases z)) ⟨fun z => absurd z (by decide), fun z => absurd z (by decide), fun z => absurd z (by decide), fun z => absurd z (by decide), fun _ => ⟨_, rfl, m1, hQ⟩, fun z => absurd z (by decide), fun z => absurd z (by decide)⟩), fun Q hQ => hr _ ⟨_, rfl, nf_ (by decide) ⟨fun z => absurd z (by decide), fun z => absurd z (by decide), fun z => absurd z (by decide), fun z => absurd z (by decide), fun _ => ⟨vc _ rfl, ?_⟩, fun z => absurd z (by decide), fun z => absurd z (by decide)⟩⟩⟩
        rw [cp]
        refine ⟨fun z => ?_, fun z => ⟨vc _ rfl, fun z2 => ?_, fun z2 => ⟨vc _ rfl, ?_⟩⟩⟩
        · rw [(hq (hq01.resolve_left z)).1] at hQ; exact hQ
        · rcases hs z with a | a
          · rw [a.2.1] at hQ; exact hQ
          · exact absurd (show r_A R 2498 c = 0 from z2) (by rw [a.1]; decide)
        · rcases hs z with a | a
          · exact absurd a.1 z2
          · rw [a.2.1] at hQ; exact hQ
      · refine ⟨r_A R 2503 c, fun Q hQ => hk _ (nf_ (fun z => (by cases z)) ⟨fun z => absurd z (by decide), fun z => absurd z (by decide), fun z => absurd z (by decide), fun z => absurd z (by decide), fun z => absurd z (by decide), fun _ => ⟨_, rfl, m1, ?_⟩, fun z => absurd z (by decide)⟩), fun Q hQ => hr _ ⟨_, rfl, nf_ (by decide) ⟨fun z => absurd z (by decide), fun z => absurd z (by decide), fun z => absurd z (by decide), fun z => absurd z (by decide), fun z => absurd z (by decide), fun _ => ⟨vc _ rfl, ?_⟩, fun z => absurd z (by decide)⟩⟩⟩
        · rw [h206]; exact hQ
        · rw [cp]; exact hQ
      · refine ⟨r_A R 2458 c, fun Q hQ => hk _ (nf_ (fun z => (by cases z)) ⟨fun z => absurd z (by decide), fun z => absurd z (by decide), fun z => absurd z (by decide), fun z => absurd z (by decide), fun z => absurd z (by decide), fun z => absurd z (by decide), fun _ => ⟨_, rfl, m1, ?_⟩⟩), fun Q hQ => hr _ ⟨_, rfl, nf_ (by decide) ⟨fun z => absurd z (by decide), fun z => absurd z (by decide), fun z => absurd z (by decide), fun z => absurd z (by decide), fun z => absurd z (by decide), fun z => absurd z (by decide), fun _ => ⟨vc _ rfl, ?_⟩⟩⟩⟩
        · rw [h207, ← h58]; exact hQ
        · rw [cp]; exact hQ
theorem Q_wordAt {b : Nat} {L : c_L} {Z : z_C} {K : c_S} {R : r_S} {x1 x2 : Int32} (w : WR b L Z K R) : QA K R (km_X11_wordAt L K 0 x1 x2) (rm_X12_wordAt R x1 x2) := by
  have w0 := WR_400 (v := 0) w
  have nc24 : z_nc Z ≤ 24 := (WR_cc w).1.1
  rcases ch_cases w0 x1 with ⟨hk, hr⟩ | ⟨c, hc, rfl, hk, hr⟩
  · exact ⟨0, fun Q hQ => hk _ (nt_ rfl hQ), fun Q hQ => hr _ ⟨_, rfl, bt_ rfl hQ⟩⟩
  · have hc : c < z_nc Z := hc
    obtain ⟨⟨m1, -⟩, hq01, -⟩ := CC_c (WR_cc w) hc
    obtain ⟨d1, d2, d3, d4, d5, d6, d7⟩ := CC_d (WR_cc w) hc
    obtain ⟨-, hq, hs⟩ := w.1.2.2.1 c hc
    have cp := nI_clamp (n := c) (by omega)
    have vc : ∀ f : Nat, r_N f = 24 → vp_in (nI c) (r_N f) := fun f hf => ri_v hf (by omega) (by decide)
    obtain ⟨a, n, u1, u2, u3, u4, u6⟩ : ∃ a n : Nat, a < z_dc Z (1000 + c) ∧ n ≤ z_dc Z (1000 + c) ∧ c_I K 1602 (1000 + c) = nI a ∧ c_I K 1603 (1000 + c) = nI n ∧ ∀ i : Nat, i < n → c_A K 1600 (1000 + c) ((a + i) % z_dc Z (1000 + c)) = (if r_A R 2454 c = 0 then r_A R 2499 c else r_A R 2502 (32 * c + i)) := by
      rcases hq01 with h0 | h1
      · rcases hs h0 with ⟨-, -, a3, a4⟩ | ⟨-, -, -, a3, a4, a5⟩
        · exact ⟨0, 0, by omega, by omega, a4, a3, fun i hi => by omega⟩
        · refine ⟨0, 1, by omega, by omega, a4, a3, fun i hi => ?_⟩
          obtain rfl : i = 0 := by omega
          rw [if_pos h0, d7 h0]
          exact a5
      · obtain ⟨-, a, n, q1, q2, q3, q4, q5, q6⟩ := hq h1
        refine ⟨a, n, q1, q2, q3, q4, fun i hi => ?_⟩
        rw [if_neg (by rw [h1]; decide)]
        exact q6 i hi
    have kin : ∀ Q : Int32 → c_S → Prop, km_X8_at L K (1000 + c) x2 Q → km_X11_wordAt L K 0 (nI c) x2 Q := fun Q hQ => hk _ (nf_ (fun z => (by cases z)) ⟨_, rfl, m1, hQ⟩)
    by_cases c4 : x2 < 0
    · exact ⟨0, fun Q hQ => kin Q (ke_at0 u4 (Or.inl c4) hQ), fun Q hQ => hr _ ⟨_, rfl, bf_ (by decide) (bt_ c4 hQ)⟩⟩
    · obtain ⟨x, hx, rfl⟩ := nI_of c4
      have rin : ∀ Q : Option Value → r_S → Prop, ((nI x < nI n → (((r_A R 2454 c) = 0 → Q (some (.int (r_A R 2499 c))) (rs_I R 2400 0)) ∧ (¬ (r_A R 2454 c) = 0 → (vp_in (((32 : Int32) * nI c) + nI x) (r_N 2502) ∧ Q (some (.int (r_A R 2502 (((32 : Int32) * nI c) + nI x).toNatClampNeg))) (rs_I R 2400 0))))) ∧ (¬ nI x < nI n → Q (some (.int 0)) (rs_I R 2400 0))) → rm_X12_wordAt R (nI c) (nI x) Q := fun Q hQ => by
        refine hr _ ⟨_, rfl, bf_ (by decide) (bf_ c4 (r_wof w0 hc ⟨_, rfl, ?_⟩))⟩
        rw [u4, cp]
        exact ⟨fun z => ⟨vc _ rfl, fun z2 => ⟨vc _ rfl, (hQ.1 z).1 z2⟩, fun z2 => (hQ.1 z).2 z2⟩, hQ.2⟩
      by_cases c5 : x < n
      · refine ⟨c_A K 1600 (1000 + c) ((a + x) % z_dc Z (1000 + c)), fun Q hQ => kin Q (ke_at1 d1 u3 u4 u1 u2 (by omega) d4 d5 c5 hQ), fun Q hQ => rin Q (bt_ (nI_lt c5 (by omega)) ?_)⟩
        rw [u6 x c5] at hQ
        rw [show (32 : Int32) * nI c + nI x = nI (32 * c + x) by rw [show (32 : Int32) = nI 32 from rfl, pk_mul, nI_add], nI_clamp (by omega)]
        refine ⟨fun z => ?_, fun z => ⟨ri_v (n := 768) rfl (by omega) (by decide), ?_⟩⟩
        · rw [if_pos z] at hQ; exact hQ
        · rw [if_neg z] at hQ; exact hQ
      · exact ⟨0, fun Q hQ => kin Q (ke_at0 u4 (Or.inr (nI_le (by omega) hx)) hQ), fun Q hQ => rin Q (bf_ (nI_nlt (by omega) hx) hQ)⟩
