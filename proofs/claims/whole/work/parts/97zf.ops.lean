/-! Instructions on registers. -/
theorem MX_reg {b : Nat} {L : c_L} {Z : z_C} {K : c_S} {R : r_S} {p j : Nat} (x : MX b L Z K R p j) {n : Nat} (hn : n < 32) : c_A K 1411 (16 * p + j) n = r_A R 2477 (32 * (16 * p + j) + n) := by
  have e := (DP_w x.1 x.2.2.1.1 x.2.2.1.2).2.1 n hn
  have e : c_A K 1411 (16 * p + j) n = (if n < 32 then r_A R 2477 (32 * (16 * p + j) + n) else 0) := e
  rw [if_pos hn] at e
  exact e
theorem MX_pc {b : Nat} {L : c_L} {Z : z_C} {K : c_S} {R : r_S} {p j : Nat} (x : MX b L Z K R p j) : c_I K 1410 (16 * p + j) = r_A R 2468 (16 * p + j) := (DP_w x.1 x.2.2.1.1 x.2.2.1.2).1.2.2.1
theorem MX_b {b : Nat} {L : c_L} {Z : z_C} {K : c_S} {R : r_S} {p j : Nat} (x : MX b L Z K R p j) : p < 16 ∧ j < 16 ∧ c_mk L 7 (16 * p + j) ∧ c_mk L 4 p := by
  have cq := WR_cq x.1
  have np16 := CQ_np cq
  have n16 := CQ_nq cq p x.2.2.1.1
  have hp := x.2.2.1.1
  have hj := x.2.2.1.2
  exact ⟨by omega, by omega, (CQ_q cq hp hj).1, x.2.2.2.2.2.2.2 p (CQ_p cq hp).1⟩
theorem rg_31 (x : Int32) (n : Int32) : ∃ i : Nat, i < 32 ∧ (x >>> n) &&& (31 : Int32) = nI i := pk_andE _ 5 (by decide)
theorem fq_7 (x : Int32) (n : Int32) : ∃ i : Nat, i < 8 ∧ (x >>> n) &&& (7 : Int32) = nI i := pk_andE _ 3 (by decide)
/-- a result into a register, and on -/
theorem XE_fin {b : Nat} {L : c_L} {Z : z_C} {K : c_S} {R : r_S} {p j : Nat} {w result next : Int32} (x : MX b L Z K R p j) : XE (b + 64) L Z p (16 * p + j) (km_X3_finish L K 0 (some (16 * p + j)) w result next) (fun Q => rm_X12_set R (nI (16 * p + j)) ((w >>> ((7 : Int32) &&& 31)) &&& (31 : Int32)) result (fun r S => r = none ∧ (vp_in (nI (16 * p + j)) (r_N 2468) ∧ (Q none (rs_A S 2468 (16 * p + j) next))))) := by
  obtain ⟨hp16, hj16, mq, -⟩ := MX_b x
  have w0 := x.1
  have hp := x.2.2.1.1
  have hj := x.2.2.1.2
  obtain ⟨d, hd, ed⟩ := rg_31 w ((7 : Int32) &&& 31)
  have vj : vp_in (nI (16 * p + j)) (r_N 2468) := ri_v (n := 256) rfl (by omega) (by decide)
  unfold km_X3_finish rm_X12_set
  rw [ed]
  by_cases d0 : d = 0
  · subst d0
    exact XE_ok _ _ (WR_w (WR_pc (v := next) w0 hp hj) (by omega)) (fun Q hQ => bt_ rfl ⟨_, rfl, mq, hQ⟩) (fun Q hQ => bt_ (by decide) ⟨rfl, vj, hQ⟩)
  · refine XE_ok _ _ (WR_w (WR_pc (v := next) (WR_x (v := result) w0 hp hj hd) hp hj) (by omega)) (fun Q hQ => bf_ (nI_ne0 (by omega) (by omega)) ⟨_, rfl, mq, v32 hd, _, rfl, mq, ?_⟩) (fun Q hQ => bf_ (nI_nle (by omega) (by omega)) ?_)
    · rw [nI_clamp (by omega)]; exact hQ
    · rw [q_32, nI_clamp (by omega)]
      exact ⟨ri_v (n := 8192) rfl (by omega) (by decide), rfl, vj, hQ⟩
theorem cu_0 {r s : Int32} : 0 ≤ c_cu r s ↔ s + (-2147483648 : Int32) ≤ r + (-2147483648 : Int32) := by
  unfold c_cu
  by_cases c : s + (-2147483648 : Int32) ≤ r + (-2147483648 : Int32)
  · rw [if_pos c]
    refine ⟨fun _ => c, fun _ => ?_⟩
    split <;> decide
  · rw [if_neg c]
    exact ⟨fun z => absurd z (by decide), fun z => absurd z c⟩
/-- a computation -/
theorem P_reck {L : c_L} {K : c_S} {R : r_S} {t : Nat} {o r s : Int32} (ht : t < 8) : ∃ v : Int32, (∀ Q : Int32 → c_S → Prop, Q v K → km_X3_reckon L K 0 (nI t) o r s Q) ∧ ((t = 0 ∧ ¬ o = 0) → v = r - s) ∧ (¬ (t = 0 ∧ ¬ o = 0) → ∀ Q : Option Value → r_S → Prop, Q (some (.int v)) R → rm_X12_reckoned R (nI t) r s o Q) := by
  have : t = 0 ∨ t = 1 ∨ t = 2 ∨ t = 3 ∨ t = 4 ∨ t = 5 ∨ t = 6 ∨ t = 7 := by omega
  rcases this with rfl | rfl | rfl | rfl | rfl | rfl | rfl | rfl
  · by_cases o0 : o = 0
    · exact ⟨r + s, fun Q hQ => ⟨fun z => absurd z (by decide), fun _ => bt_ o0 hQ, fun z => absurd z (by decide), fun z => absurd z (by decide), fun z => absurd z (by decide), fun z => absurd z (by decide), fun z => absurd z (by decide), fun z => absurd z (by decide)⟩, fun z => absurd o0 z.2, fun _ Q hQ => ⟨fun z => absurd z (by decide), fun _ => hQ, fun z => absurd z (by decide), fun z => absurd z (by decide), fun z => absurd z (by decide), fun z => absurd z (by decide), fun z => absurd z (by decide), fun z => absurd z (by decide)⟩⟩
    · exact ⟨r - s, fun Q hQ => ⟨fun z => absurd z (by decide), fun _ => bf_ o0 hQ, fun z => absurd z (by decide), fun z => absurd z (by decide), fun z => absurd z (by decide), fun z => absurd z (by decide), fun z => absurd z (by decide), fun z => absurd z (by decide)⟩, fun _ => rfl, fun z => absurd ⟨rfl, o0⟩ z⟩
  · exact ⟨_, fun Q hQ => ⟨fun z => absurd z (by decide), fun z => absurd z (by decide), fun _ => hQ, fun z => absurd z (by decide), fun z => absurd z (by decide), fun z => absurd z (by decide), fun z => absurd z (by decide), fun z => absurd z (by decide)⟩, fun z => absurd z.1 (by decide), fun _ Q hQ => ⟨fun z => absurd z (by decide), fun z => absurd z (by decide), fun _ => hQ, fun z => absurd z (by decide), fun z => absurd z (by decide), fun z => absurd z (by decide), fun z => absurd z (by decide), fun z => absurd z (by decide)⟩⟩
  · by_cases c : s ≤ r
    · exact ⟨0, fun Q hQ => ⟨fun z => absurd z (by decide), fun z => absurd z (by decide), fun z => absurd z (by decide), fun _ => bt_ c hQ, fun z => absurd z (by decide), fun z => absurd z (by decide), fun z => absurd z (by decide), fun z => absurd z (by decide)⟩, fun z => absurd z.1 (by decide), fun _ Q hQ => ⟨fun z => absurd z (by decide), fun z => absurd z (by decide), fun z => absurd z (by decide), fun _ => bt_ c hQ, fun z => absurd z (by decide), fun z => absurd z (by decide), fun z => absurd z (by decide), fun z => absurd z (by decide)⟩⟩
    · exact ⟨1, fun Q hQ => ⟨fun z => absurd z (by decide), fun z => absurd z (by decide), fun z => absurd z (by decide), fun _ => bf_ c hQ, fun z => absurd z (by decide), fun z => absurd z (by decide), fun z => absurd z (by decide), fun z => absurd z (by decide)⟩, fun z => absurd z.1 (by decide), fun _ Q hQ => ⟨fun z => absurd z (by decide), fun z => absurd z (by decide), fun z => absurd z (by decide), fun _ => bf_ c hQ, fun z => absurd z (by decide), fun z => absurd z (by decide), fun z => absurd z (by decide), fun z => absurd z (by decide)⟩⟩
  · by_cases c : s + (-2147483648 : Int32) ≤ r + (-2147483648 : Int32)
    · exact ⟨0, fun Q hQ => ⟨fun z => absurd z (by decide), fun z => absurd z (by decide), fun z => absurd z (by decide), fun z => absurd z (by decide), fun _ => bt_ (cu_0.mpr c) hQ, fun z => absurd z (by decide), fun z => absurd z (by decide), fun z => absurd z (by decide)⟩, fun z => absurd z.1 (by decide), fun _ Q hQ => ⟨fun z => absurd z (by decide), fun z => absurd z (by decide), fun z => absurd z (by decide), fun z => absurd z (by decide), fun _ => bt_ c ⟨nb_0, _, rfl, bt_ rfl hQ⟩, fun z => absurd z (by decide), fun z => absurd z (by decide), fun z => absurd z (by decide)⟩⟩
    · exact ⟨1, fun Q hQ => ⟨fun z => absurd z (by decide), fun z => absurd z (by decide), fun z => absurd z (by decide), fun z => absurd z (by decide), fun _ => bf_ (fun z => c (cu_0.mp z)) hQ, fun z => absurd z (by decide), fun z => absurd z (by decide), fun z => absurd z (by decide)⟩, fun z => absurd z.1 (by decide), fun _ Q hQ => ⟨fun z => absurd z (by decide), fun z => absurd z (by decide), fun z => absurd z (by decide), fun z => absurd z (by decide), fun _ => bf_ c ⟨nb_1, _, rfl, bf_ (by decide) hQ⟩, fun z => absurd z (by decide), fun z => absurd z (by decide), fun z => absurd z (by decide)⟩⟩
  · exact ⟨_, fun Q hQ => ⟨fun z => absurd z (by decide), fun z => absurd z (by decide), fun z => absurd z (by decide), fun z => absurd z (by decide), fun z => absurd z (by decide), fun _ => hQ, fun z => absurd z (by decide), fun z => absurd z (by decide)⟩, fun z => absurd z.1 (by decide), fun _ Q hQ => ⟨fun z => absurd z (by decide), fun z => absurd z (by decide), fun z => absurd z (by decide), fun z => absurd z (by decide), fun z => absurd z (by decide), fun _ => hQ, fun z => absurd z (by decide), fun z => absurd z (by decide)⟩⟩
  · by_cases o0 : o = 0
    · exact ⟨_, fun Q hQ => ⟨fun z => absurd z (by decide), fun z => absurd z (by decide), fun z => absurd z (by decide), fun z => absurd z (by decide), fun z => absurd z (by decide), fun z => absurd z (by decide), fun _ => bt_ o0 hQ, fun z => absurd z (by decide)⟩, fun z => absurd z.1 (by decide), fun _ Q hQ => ⟨fun z => absurd z (by decide), fun z => absurd z (by decide), fun z => absurd z (by decide), fun z => absurd z (by decide), fun z => absurd z (by decide), fun z => absurd z (by decide), fun _ => bt_ o0 hQ, fun z => absurd z (by decide)⟩⟩
    · exact ⟨_, fun Q hQ => ⟨fun z => absurd z (by decide), fun z => absurd z (by decide), fun z => absurd z (by decide), fun z => absurd z (by decide), fun z => absurd z (by decide), fun z => absurd z (by decide), fun _ => bf_ o0 hQ, fun z => absurd z (by decide)⟩, fun z => absurd z.1 (by decide), fun _ Q hQ => ⟨fun z => absurd z (by decide), fun z => absurd z (by decide), fun z => absurd z (by decide), fun z => absurd z (by decide), fun z => absurd z (by decide), fun z => absurd z (by decide), fun _ => bf_ o0 hQ, fun z => absurd z (by decide)⟩⟩
  · exact ⟨_, fun Q hQ => ⟨fun z => absurd z (by decide), fun z => absurd z (by decide), fun z => absurd z (by decide), fun z => absurd z (by decide), fun z => absurd z (by decide), fun z => absurd z (by decide), fun z => absurd z (by decide), fun _ => hQ⟩, fun z => absurd z.1 (by decide), fun _ Q hQ => ⟨fun z => absurd z (by decide), fun z => absurd z (by decide), fun z => absurd z (by decide), fun z => absurd z (by decide), fun z => absurd z (by decide), fun z => absurd z (by decide), fun z => absurd z (by decide), fun _ => hQ⟩⟩
  · exact ⟨_, fun Q hQ => ⟨fun _ => hQ, fun z => absurd z (by decide), fun z => absurd z (by decide), fun z => absurd z (by decide), fun z => absurd z (by decide), fun z => absurd z (by decide), fun z => absurd z (by decide), fun z => absurd z (by decide)⟩, fun z => absurd z.1 (by decide), fun _ Q hQ => ⟨fun _ => hQ, fun z => absurd z (by decide), fun z => absurd z (by decide), fun z => absurd z (by decide), fun z => absurd z (by decide), fun z => absurd z (by decide), fun z => absurd z (by decide), fun z => absurd z (by decide)⟩⟩
theorem lit_8 {t c : Nat} (ht : t < 100) (hc : c < 100) : nI t = nI c ↔ t = c := nI_eq (by omega) (by omega)
/-- with a number -/
theorem XE_19 {b : Nat} {L : c_L} {Z : z_C} {K : c_S} {R : r_S} {p j : Nat} {w : Int32} (x : MX b L Z K R p j) (e6 : c_I K 600 0 = w) : XE (b + 64) L Z p (16 * p + j) (km_X3_reckonWithNumber L K 0 (some (16 * p + j)) w) (rb_X12_execute_651 R (nI (16 * p + j)) (r_A R 2468 (16 * p + j)) w ((w >>> ((7 : Int32) &&& 31)) &&& (31 : Int32)) ((w >>> ((12 : Int32) &&& 31)) &&& (7 : Int32)) (r_A R 2477 (((32 : Int32) * nI (16 * p + j)) + ((w >>> ((15 : Int32) &&& 31)) &&& (31 : Int32))).toNatClampNeg) (w.toUInt32 >>> ((25 : Int32).toUInt32 &&& Int32.toUInt32 31)).toInt32 (w >>> ((20 : Int32) &&& 31))) := by
  obtain ⟨hp16, hj16, mq, -⟩ := MX_b x
  obtain ⟨i1, h1, e1⟩ := rg_31 w ((15 : Int32) &&& 31)
  obtain ⟨t, ht, et⟩ := fq_7 w ((12 : Int32) &&& 31)
  have ej := nI_clamp (n := 16 * p + j) (by omega)
  have e32 : (32 : Int32) * nI (16 * p + j) + nI i1 = nI (32 * (16 * p + j) + i1) := q_32
  have c32 := nI_clamp (n := 32 * (16 * p + j) + i1) (by omega)
  generalize hf7 : (w.toUInt32 >>> ((25 : Int32).toUInt32 &&& Int32.toUInt32 31)).toInt32 = f7
  -- the end of it, with its flag
  have fin : ∀ o : Int32, ¬ (t = 0 ∧ ¬ o = 0) → XE (b + 64) L Z p (16 * p + j) (kb_X3_reckonWithNumber_55 L K 0 (some (16 * p + j)) w (nI t) o) (rb_X12_execute_718 R (nI (16 * p + j)) (r_A R 2468 (16 * p + j)) (nI (16 * p + j)) ((w >>> ((7 : Int32) &&& 31)) &&& (31 : Int32)) (nI t) (r_A R 2477 (32 * (16 * p + j) + i1)) (w >>> ((20 : Int32) &&& 31)) o) := fun o ho => by
    obtain ⟨v, a1, -, a2⟩ := P_reck (L := L) (K := K) (R := R) (t := t) (o := o) (r := r_A R 2477 (32 * (16 * p + j) + i1)) (s := w >>> ((20 : Int32) &&& 31)) ht
    refine XE_c (XE_fin (w := w) (result := v) (next := r_A R 2468 (16 * p + j) + 4) x) (fun Q hQ => ⟨_, rfl, mq, by rw [e1]; exact v32 h1, ?_⟩) (fun Q hQ => a2 ho _ ⟨_, rfl, ?_⟩)
    · rw [e1, nI_clamp (by omega), MX_reg x h1]
      refine a1 _ ?_
      rw [MX_pc x]
      exact hQ
    · unfold rb_X12_execute_837
      rw [ej]
      exact hQ
  unfold km_X3_reckonWithNumber
  rw [et, e1, e32, c32, hf7]
  have bad : XE (b + 64) L Z p (16 * p + j) (fun Q => Q 0 K) (rb_X12_execute_680 R (nI (16 * p + j)) w) := XE_bad (k := 0) x (by decide) e6 (fun Q hQ => hQ) (fun Q hQ => hQ)
  have l5 : nI t = 5 ↔ t = 5 := lit_8 (by omega) (by decide)
  have l1 : nI t = 1 ↔ t = 1 := lit_8 (by omega) (by decide)
  by_cases c5 : t = 5
  · have n1 : ¬ nI t = 1 := fun z => by have := l1.mp z; omega
    have n5 := l5.mpr c5
    by_cases c32' : f7 = 32
    · refine XE_c (fin 1 (fun z => by omega)) (fun Q hQ => nt_ n5 (nt_ c32' (bf_ n1 (nt_ n5 ?_)))) (fun Q hQ => nf_ n1 (nt_ n5 ?_))
      · exact bf_ (by rw [c32']; decide) (nf_ (by decide) hQ)
      · exact bf_ (by rw [c32']; decide) (bt_ c32' (nt_ n5 (nt_ c32' hQ)))
    · by_cases c0 : f7 = 0
      · exact XE_c (fin 0 (fun z => z.2 rfl)) (fun Q hQ => nt_ n5 (nf_ c32' (bf_ n1 (nt_ n5 (bt_ c0 hQ))))) (fun Q hQ => nf_ n1 (nt_ n5 (bt_ c0 (nt_ n5 (nf_ c32' hQ)))))
      · exact XE_c bad (fun Q hQ => nt_ n5 (nf_ c32' (bf_ n1 (nt_ n5 (bf_ c0 (nt_ rfl hQ)))))) (fun Q hQ => nf_ n1 (nt_ n5 (bf_ c0 (bf_ c32' hQ))))
  · have n5 : ¬ nI t = 5 := fun z => c5 (l5.mp z)
    by_cases c1 : t = 1
    · have n1 := l1.mpr c1
      by_cases c0 : f7 = 0
      · exact XE_c (fin 0 (fun z => z.2 rfl)) (fun Q hQ => nf_ n5 (bt_ n1 (bt_ c0 hQ))) (fun Q hQ => nt_ n1 (nt_ c0 (nf_ n5 (nf_ n5 hQ))))
      · exact XE_c bad (fun Q hQ => nf_ n5 (bt_ n1 (bf_ c0 (nt_ rfl hQ)))) (fun Q hQ => nt_ n1 (nf_ c0 hQ))
    · have n1 : ¬ nI t = 1 := fun z => c1 (l1.mp z)
      exact XE_c (fin 0 (fun z => z.2 rfl)) (fun Q hQ => nf_ n5 (bf_ n1 (nf_ n5 hQ))) (fun Q hQ => nf_ n1 (nf_ n5 (nf_ n5 hQ)))
/-- with a register -/
theorem XE_51 {b : Nat} {L : c_L} {Z : z_C} {K : c_S} {R : r_S} {p j : Nat} {w : Int32} (x : MX b L Z K R p j) (e6 : c_I K 600 0 = w) : XE (b + 64) L Z p (16 * p + j) (km_X3_reckonWithRegister L K 0 (some (16 * p + j)) w) (rb_X12_execute_727 R (nI (16 * p + j)) (r_A R 2468 (16 * p + j)) w ((w >>> ((7 : Int32) &&& 31)) &&& (31 : Int32)) ((w >>> ((12 : Int32) &&& 31)) &&& (7 : Int32)) (r_A R 2477 (((32 : Int32) * nI (16 * p + j)) + ((w >>> ((15 : Int32) &&& 31)) &&& (31 : Int32))).toNatClampNeg) (r_A R 2477 (((32 : Int32) * nI (16 * p + j)) + ((w >>> ((20 : Int32) &&& 31)) &&& (31 : Int32))).toNatClampNeg) (w.toUInt32 >>> ((25 : Int32).toUInt32 &&& Int32.toUInt32 31)).toInt32) := by
  obtain ⟨hp16, hj16, mq, -⟩ := MX_b x
  obtain ⟨i1, h1, e1⟩ := rg_31 w ((15 : Int32) &&& 31)
  obtain ⟨i2, h2, e2⟩ := rg_31 w ((20 : Int32) &&& 31)
  obtain ⟨t, ht, et⟩ := fq_7 w ((12 : Int32) &&& 31)
  have ej := nI_clamp (n := 16 * p + j) (by omega)
  generalize hf7 : (w.toUInt32 >>> ((25 : Int32).toUInt32 &&& Int32.toUInt32 31)).toInt32 = f7
  have sets : ∀ (v : Int32), XE (b + 64) L Z p (16 * p + j) (km_X3_finish L K 0 (some (16 * p + j)) w v (r_A R 2468 (16 * p + j) + 4)) (rb_X12_execute_805 R (nI (16 * p + j)) (r_A R 2468 (16 * p + j)) (nI (16 * p + j)) ((w >>> ((7 : Int32) &&& 31)) &&& (31 : Int32)) v) := fun v => XE_c (XE_fin (w := w) (result := v) (next := r_A R 2468 (16 * p + j) + 4) x) (fun Q hQ => hQ) (fun Q hQ => by
    unfold rb_X12_execute_805 rb_X12_execute_837
    rw [ej]
    exact hQ)
  have kf : ∀ (o v : Int32) (Q : Int32 → c_S → Prop), (∀ Q : Int32 → c_S → Prop, Q v K → km_X3_reckon L K 0 (nI t) o (r_A R 2477 (32 * (16 * p + j) + i1)) (r_A R 2477 (32 * (16 * p + j) + i2)) Q) → km_X3_finish L K 0 (some (16 * p + j)) w v (r_A R 2468 (16 * p + j) + 4) Q → kb_X3_reckonWithRegister_49 L K 0 (some (16 * p + j)) w (nI t) o Q := fun o v Q a1 hQ => ⟨_, rfl, mq, by rw [e1]; exact v32 h1, by rw [e2]; exact v32 h2, by
    rw [e1, e2, nI_clamp (n := i1) (by omega), nI_clamp (n := i2) (by omega), MX_reg x h1, MX_reg x h2]
    refine a1 _ ?_
    rw [MX_pc x]
    exact hQ⟩
  have fin : ∀ o : Int32, ¬ (t = 0 ∧ ¬ o = 0) → XE (b + 64) L Z p (16 * p + j) (kb_X3_reckonWithRegister_49 L K 0 (some (16 * p + j)) w (nI t) o) (rb_X12_execute_802 R (nI (16 * p + j)) (r_A R 2468 (16 * p + j)) (nI (16 * p + j)) ((w >>> ((7 : Int32) &&& 31)) &&& (31 : Int32)) (nI t) (r_A R 2477 (32 * (16 * p + j) + i1)) (r_A R 2477 (32 * (16 * p + j) + i2)) o) := fun o ho => by
    obtain ⟨v, a1, -, a2⟩ := P_reck (L := L) (K := K) (R := R) (t := t) (o := o) (r := r_A R 2477 (32 * (16 * p + j) + i1)) (s := r_A R 2477 (32 * (16 * p + j) + i2)) ht
    exact XE_c (sets v) (fun Q hQ => kf o v Q a1 hQ) (fun Q hQ => a2 ho _ ⟨_, rfl, hQ⟩)
  unfold km_X3_reckonWithRegister
  rw [et, e1, e2, q_32, q_32, nI_clamp (n := 32 * (16 * p + j) + i1) (by omega), nI_clamp (n := 32 * (16 * p + j) + i2) (by omega), hf7]
  have bad : XE (b + 64) L Z p (16 * p + j) (fun Q => Q 0 K) (rb_X12_execute_750 R (nI (16 * p + j)) w) := XE_bad (k := 0) x (by decide) e6 (fun Q hQ => hQ) (fun Q hQ => hQ)
  have l5 : nI t = 5 ↔ t = 5 := lit_8 (by omega) (by decide)
  have l0 : nI t = 0 ↔ t = 0 := lit_8 (c := 0) (by omega) (by decide)
  by_cases c32 : f7 = 32
  · have n0 : ¬ f7 = 0 := by rw [c32]; decide
    by_cases t0 : t = 0
    · have z0 := l0.mpr t0
      obtain ⟨v, a1, a3, -⟩ := P_reck (L := L) (K := K) (R := R) (t := t) (o := 1) (r := r_A R 2477 (32 * (16 * p + j) + i1)) (s := r_A R 2477 (32 * (16 * p + j) + i2)) ht
      have ev := a3 ⟨t0, by decide⟩
      subst ev
      exact XE_c (sets _) (fun Q hQ => nt_ c32 (bt_ z0 (bf_ n0 (nf_ (by decide) (kf 1 _ Q a1 hQ))))) (fun Q hQ => bf_ n0 (nt_ c32 (bt_ z0 (nt_ z0 (nt_ c32 hQ)))))
    · have z0 : ¬ nI t = 0 := fun z => t0 (l0.mp z)
      by_cases t5 : t = 5
      · have z5 := l5.mpr t5
        exact XE_c (fin 1 (fun z => t0 z.1)) (fun Q hQ => nt_ c32 (bf_ z0 (nt_ z5 (bf_ n0 (nf_ (by decide) hQ))))) (fun Q hQ => bf_ n0 (nt_ c32 (bf_ z0 (bt_ z5 (nf_ z0 (nt_ c32 hQ))))))
      · have z5 : ¬ nI t = 5 := fun z => t5 (l5.mp z)
        exact XE_c bad (fun Q hQ => nt_ c32 (bf_ z0 (nf_ z5 (bf_ n0 (nt_ rfl hQ))))) (fun Q hQ => bf_ n0 (nt_ c32 (bf_ z0 (bf_ z5 hQ))))
  · by_cases f0 : f7 = 0
    · refine XE_c (fin 0 (fun z => z.2 rfl)) (fun Q hQ => nf_ c32 (bt_ f0 hQ)) (fun Q hQ => bt_ f0 ?_)
      by_cases t0 : nI t = 0
      · exact nt_ t0 (nf_ c32 (nf_ c32 hQ))
      · exact nf_ t0 (nf_ c32 hQ)
    · exact XE_c bad (fun Q hQ => nf_ c32 (bf_ f0 (nt_ rfl hQ))) (fun Q hQ => bf_ f0 (nf_ c32 hQ))
/-! branches -/
theorem brq_f {b : Nat} {L : c_L} {Z : z_C} {K : c_S} {R : r_S} {p j : Nat} {w a t v : Int32} (x : MX b L Z K R p j) (hv : (a = t ∧ v = 0) ∨ (¬ a = t ∧ ¬ v = 0)) : XE (b + 64) L Z p (16 * p + j) (kb_X3_branch_131 L K 0 (some (16 * p + j)) w a t) (rb_X12_execute_498 R (nI (16 * p + j)) (r_A R 2468 (16 * p + j)) w v) := by
  obtain ⟨hp16, hj16, mq, -⟩ := MX_b x
  have ej := nI_clamp (n := 16 * p + j) (by omega)
  have vj : vp_in (nI (16 * p + j)) (r_N 2468) := ri_v (n := 256) rfl (by omega) (by decide)
  have go : ∀ u : Int32, XE (b + 64) L Z p (16 * p + j) (fun Q => Q (-1) (cs_I K 1410 (16 * p + j) u)) (rb_X12_execute_563 R (nI (16 * p + j)) u) := fun u => XE_ok _ _ (WR_w (WR_pc (v := u) x.1 x.2.2.1.1 x.2.2.1.2) (by omega)) (fun Q hQ => hQ) (fun Q hQ => ⟨vj, by rw [ej]; exact hQ⟩)
  rcases hv with ⟨h1, h2⟩ | ⟨h1, h2⟩
  · exact XE_c (go _) (fun Q hQ => ⟨_, rfl, mq, bt_ h1 ⟨_, rfl, mq, by rw [MX_pc x]; exact hQ⟩⟩) (fun Q hQ => bt_ h2 hQ)
  · exact XE_c (go _) (fun Q hQ => ⟨_, rfl, mq, bf_ h1 ⟨_, rfl, mq, by rw [MX_pc x]; exact hQ⟩⟩) (fun Q hQ => bf_ h2 hQ)
theorem fq_3 {w : Int32} {t : Nat} (ht : t < 8) (et : (w >>> ((12 : Int32) &&& 31)) &&& (7 : Int32) = nI t) : (w >>> ((13 : Int32) &&& 31)) &&& (3 : Int32) = nI (t / 2) ∧ (w >>> ((12 : Int32) &&& 31)) &&& (1 : Int32) = nI (t % 2) := by
  have a : (w >>> ((13 : Int32) &&& 31)) &&& (3 : Int32) = (((w >>> ((12 : Int32) &&& 31)) &&& (7 : Int32)) >>> ((1 : Int32) &&& 31)) := by
    refine b_ext (fun i hi => ?_)
    have m3 : ∀ i, i < 32 → bt 3 i = decide (i < 2) := by decide +kernel
    have m7 : ∀ i, i < 32 → bt 7 i = decide (i < 3) := by decide +kernel
    have s13 : bt (w >>> ((13 : Int32) &&& 31)) i = if 13 + i < 32 then bt w (13 + i) else bt w 31 := b_sshr 13 (by decide) w hi
    have s1 : bt (((w >>> ((12 : Int32) &&& 31)) &&& (7 : Int32)) >>> ((1 : Int32) &&& 31)) i = if 1 + i < 32 then bt ((w >>> ((12 : Int32) &&& 31)) &&& (7 : Int32)) (1 + i) else bt ((w >>> ((12 : Int32) &&& 31)) &&& (7 : Int32)) 31 := b_sshr 1 (by decide) _ hi
    have s12 : ∀ x : Nat, x < 32 → bt (w >>> ((12 : Int32) &&& 31)) x = if 12 + x < 32 then bt w (12 + x) else bt w 31 := fun x hx => b_sshr 12 (by decide) w hx
    rw [b_and, s13, s1, m3 i hi]
    by_cases c : i < 2
    · rw [if_pos (show 13 + i < 32 by omega), if_pos (show 1 + i < 32 by omega), b_and, s12 _ (show 1 + i < 32 by omega), if_pos (show 12 + (1 + i) < 32 by omega), m7 _ (by omega), show 12 + (1 + i) = 13 + i by omega, decide_eq_true c, decide_eq_true (show 1 + i < 3 by omega)]
    · rw [decide_eq_false c, Bool.and_false]
      by_cases c2 : 1 + i < 32
      · rw [if_pos c2, b_and, m7 _ c2, decide_eq_false (by omega), Bool.and_false]
      · rw [if_neg c2, b_and, m7 _ (by decide), show decide (31 < 3) = false from rfl, Bool.and_false]
  have c : (w >>> ((12 : Int32) &&& 31)) &&& (1 : Int32) = ((w >>> ((12 : Int32) &&& 31)) &&& (7 : Int32)) &&& (1 : Int32) := by
    refine b_ext (fun i hi => ?_)
    have m1 : ∀ i, i < 32 → bt 1 i = decide (i < 1) := by decide +kernel
    have m7 : ∀ i, i < 32 → bt 7 i = decide (i < 3) := by decide +kernel
    rw [b_and, b_and, b_and, m1 i hi, m7 i hi]
    by_cases c : i < 1
    · rw [decide_eq_true c, decide_eq_true (show i < 3 by omega), Bool.and_true, Bool.and_true]
    · rw [decide_eq_false c, Bool.and_false, Bool.and_false]
  rw [a, c, et]
  exact ⟨pk_shrN (by omega) _ 1 (by decide), pk_andN (by omega) 1 (by decide)⟩
theorem XE_99 {b : Nat} {L : c_L} {Z : z_C} {K : c_S} {R : r_S} {p j : Nat} {w : Int32} (x : MX b L Z K R p j) (e6 : c_I K 600 0 = w) : XE (b + 64) L Z p (16 * p + j) (km_X3_branch L K 0 (some (16 * p + j)) w) (rb_X12_execute_360 R (nI (16 * p + j)) (r_A R 2468 (16 * p + j)) w ((w >>> ((12 : Int32) &&& 31)) &&& (7 : Int32)) (r_A R 2477 (((32 : Int32) * nI (16 * p + j)) + ((w >>> ((15 : Int32) &&& 31)) &&& (31 : Int32))).toNatClampNeg) (r_A R 2477 (((32 : Int32) * nI (16 * p + j)) + ((w >>> ((20 : Int32) &&& 31)) &&& (31 : Int32))).toNatClampNeg)) := by
  obtain ⟨hp16, hj16, mq, -⟩ := MX_b x
  obtain ⟨i1, h1, e1⟩ := rg_31 w ((15 : Int32) &&& 31)
  obtain ⟨i2, h2, e2⟩ := rg_31 w ((20 : Int32) &&& 31)
  obtain ⟨t, ht, et⟩ := fq_7 w ((12 : Int32) &&& 31)
  obtain ⟨f13, f12⟩ := fq_3 ht et
  have v1 : vp_in ((w >>> ((15 : Int32) &&& 31)) &&& (31 : Int32)) 32 := by rw [e1]; exact v32 h1
  have v2 : vp_in ((w >>> ((20 : Int32) &&& 31)) &&& (31 : Int32)) 32 := by rw [e2]; exact v32 h2
  have x1 : c_A K 1411 (16 * p + j) ((w >>> ((15 : Int32) &&& 31)) &&& (31 : Int32)).toNatClampNeg = r_A R 2477 (32 * (16 * p + j) + i1) := by rw [e1, nI_clamp (by omega)]; exact MX_reg x h1
  have x2 : c_A K 1411 (16 * p + j) ((w >>> ((20 : Int32) &&& 31)) &&& (31 : Int32)).toNatClampNeg = r_A R 2477 (32 * (16 * p + j) + i2) := by rw [e2, nI_clamp (by omega)]; exact MX_reg x h2
  refine XE_c ?_ (fun Q hQ => ⟨_, rfl, mq, v1, v2, hQ⟩) (fun Q hQ => hQ)
  rw [x1, x2, e1, e2, et, q_32, q_32, nI_clamp (n := 32 * (16 * p + j) + i1) (by omega), nI_clamp (n := 32 * (16 * p + j) + i2) (by omega)]
  unfold kb_X3_branch_75 kb_X3_branch_91 kb_X3_branch_110 kb_X3_branch_117
  rw [f13, f12]
  generalize r_A R 2477 (32 * (16 * p + j) + i1) = r
  generalize r_A R 2477 (32 * (16 * p + j) + i2) = s
  have bad : XE (b + 64) L Z p (16 * p + j) (fun Q => Q 0 K) (rb_X12_execute_372 R (nI (16 * p + j)) w) := XE_bad (k := 0) x (by decide) e6 (fun Q hQ => hQ) (fun Q hQ => hQ)
  have D : ∀ a t v : Int32, (a = t ∧ v = 0) ∨ (¬ a = t ∧ ¬ v = 0) → XE (b + 64) L Z p (16 * p + j) (kb_X3_branch_131 L K 0 (some (16 * p + j)) w a t) (rb_X12_execute_498 R (nI (16 * p + j)) (r_A R 2468 (16 * p + j)) w v) := fun a t v hv => brq_f x hv
  have : t = 0 ∨ t = 1 ∨ t = 2 ∨ t = 3 ∨ t = 4 ∨ t = 5 ∨ t = 6 ∨ t = 7 := by omega
  rcases this with rfl | rfl | rfl | rfl | rfl | rfl | rfl | rfl
  · by_cases c : r = s
    · exact XE_c (D 1 0 1 (Or.inr ⟨by decide, by decide⟩)) (fun Q hQ => ⟨fun z => absurd z (by decide), fun _ => nt_ c (bt_ (by decide) hQ), fun z => absurd z (by decide), fun z => absurd z (by decide), fun z => absurd z (by decide)⟩) (fun Q hQ => bf_ (by decide) (nf_ (by decide) (nt_ (by decide) (nt_ c hQ))))
    · exact XE_c (D 0 0 0 (Or.inl ⟨rfl, rfl⟩)) (fun Q hQ => ⟨fun z => absurd z (by decide), fun _ => nf_ c (bt_ (by decide) hQ), fun z => absurd z (by decide), fun z => absurd z (by decide), fun z => absurd z (by decide)⟩) (fun Q hQ => bf_ (by decide) (nf_ (by decide) (nt_ (by decide) (nf_ c hQ))))
  · by_cases c : r = s
    · exact XE_c (D 1 1 0 (Or.inl ⟨rfl, rfl⟩)) (fun Q hQ => ⟨fun z => absurd z (by decide), fun _ => nt_ c (bf_ (by decide) hQ), fun z => absurd z (by decide), fun z => absurd z (by decide), fun z => absurd z (by decide)⟩) (fun Q hQ => bf_ (by decide) (nf_ (by decide) (nf_ (by decide) (nt_ (by decide) (bt_ c hQ)))))
    · exact XE_c (D 0 1 1 (Or.inr ⟨by decide, by decide⟩)) (fun Q hQ => ⟨fun z => absurd z (by decide), fun _ => nf_ c (bf_ (by decide) hQ), fun z => absurd z (by decide), fun z => absurd z (by decide), fun z => absurd z (by decide)⟩) (fun Q hQ => bf_ (by decide) (nf_ (by decide) (nf_ (by decide) (nt_ (by decide) (bf_ c hQ)))))
  · exact XE_c bad (fun Q hQ => ⟨fun z => absurd z (by decide), fun z => absurd z (by decide), fun _ => hQ, fun z => absurd z (by decide), fun z => absurd z (by decide)⟩) (fun Q hQ => bt_ (by decide) hQ)
  · exact XE_c bad (fun Q hQ => ⟨fun z => absurd z (by decide), fun z => absurd z (by decide), fun _ => hQ, fun z => absurd z (by decide), fun z => absurd z (by decide)⟩) (fun Q hQ => bf_ (by decide) (nt_ (by decide) hQ))
  · by_cases c : s ≤ r
    · exact XE_c (D 0 0 0 (Or.inl ⟨rfl, rfl⟩)) (fun Q hQ => ⟨fun z => absurd z (by decide), fun z => absurd z (by decide), fun z => absurd z (by decide), fun _ => bt_ c (bt_ (by decide) hQ), fun z => absurd z (by decide)⟩) (fun Q hQ => bf_ (by decide) (nf_ (by decide) (nf_ (by decide) (nf_ (by decide) (nt_ (by decide) (bt_ c hQ))))))
    · exact XE_c (D 1 0 1 (Or.inr ⟨by decide, by decide⟩)) (fun Q hQ => ⟨fun z => absurd z (by decide), fun z => absurd z (by decide), fun z => absurd z (by decide), fun _ => bf_ c (bt_ (by decide) hQ), fun z => absurd z (by decide)⟩) (fun Q hQ => bf_ (by decide) (nf_ (by decide) (nf_ (by decide) (nf_ (by decide) (nt_ (by decide) (bf_ c hQ))))))
  · by_cases c : s ≤ r
    · exact XE_c (D 0 1 1 (Or.inr ⟨by decide, by decide⟩)) (fun Q hQ => ⟨fun z => absurd z (by decide), fun z => absurd z (by decide), fun z => absurd z (by decide), fun _ => bt_ c (bf_ (by decide) hQ), fun z => absurd z (by decide)⟩) (fun Q hQ => bf_ (by decide) (nf_ (by decide) (nf_ (by decide) (nf_ (by decide) (nf_ (by decide) (nt_ (by decide) (bf_ (i_nlt.mpr c) hQ)))))))
    · exact XE_c (D 1 1 0 (Or.inl ⟨rfl, rfl⟩)) (fun Q hQ => ⟨fun z => absurd z (by decide), fun z => absurd z (by decide), fun z => absurd z (by decide), fun _ => bf_ c (bf_ (by decide) hQ), fun z => absurd z (by decide)⟩) (fun Q hQ => bf_ (by decide) (nf_ (by decide) (nf_ (by decide) (nf_ (by decide) (nf_ (by decide) (nt_ (by decide) (bt_ (i_nle.mp c) hQ)))))))
  · by_cases c : s + (-2147483648 : Int32) ≤ r + (-2147483648 : Int32)
    · exact XE_c (D 0 0 0 (Or.inl ⟨rfl, rfl⟩)) (fun Q hQ => ⟨fun z => absurd z (by decide), fun z => absurd z (by decide), fun z => absurd z (by decide), fun z => absurd z (by decide), fun _ => bt_ (cu_0.mpr c) (bt_ (by decide) hQ)⟩) (fun Q hQ => bf_ (by decide) (nf_ (by decide) (nf_ (by decide) (nf_ (by decide) (nf_ (by decide) (nf_ (by decide) (nt_ (by decide) (bt_ c ⟨nb_0, _, rfl, hQ⟩))))))))
    · exact XE_c (D 1 0 1 (Or.inr ⟨by decide, by decide⟩)) (fun Q hQ => ⟨fun z => absurd z (by decide), fun z => absurd z (by decide), fun z => absurd z (by decide), fun z => absurd z (by decide), fun _ => bf_ (fun z => c (cu_0.mp z)) (bt_ (by decide) hQ)⟩) (fun Q hQ => bf_ (by decide) (nf_ (by decide) (nf_ (by decide) (nf_ (by decide) (nf_ (by decide) (nf_ (by decide) (nt_ (by decide) (bf_ c ⟨nb_1, _, rfl, hQ⟩))))))))
  · by_cases c : s + (-2147483648 : Int32) ≤ r + (-2147483648 : Int32)
    · exact XE_c (D 0 1 1 (Or.inr ⟨by decide, by decide⟩)) (fun Q hQ => ⟨fun z => absurd z (by decide), fun z => absurd z (by decide), fun z => absurd z (by decide), fun z => absurd z (by decide), fun _ => bt_ (cu_0.mpr c) (bf_ (by decide) hQ)⟩) (fun Q hQ => bf_ (by decide) (nf_ (by decide) (nf_ (by decide) (nf_ (by decide) (nf_ (by decide) (nf_ (by decide) (nf_ (by decide) (bt_ c ⟨nb_0, _, rfl, nt_ rfl hQ⟩))))))))
    · exact XE_c (D 1 1 0 (Or.inl ⟨rfl, rfl⟩)) (fun Q hQ => ⟨fun z => absurd z (by decide), fun z => absurd z (by decide), fun z => absurd z (by decide), fun z => absurd z (by decide), fun _ => bf_ (fun z => c (cu_0.mp z)) (bf_ (by decide) hQ)⟩) (fun Q hQ => bf_ (by decide) (nf_ (by decide) (nf_ (by decide) (nf_ (by decide) (nf_ (by decide) (nf_ (by decide) (nf_ (by decide) (bf_ c ⟨nb_1, _, rfl, nf_ (by decide) hQ⟩))))))))
