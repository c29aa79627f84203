/-! Questions about what was shown and noted, and about the whole. -/
theorem JR_w {b : Nat} {L : c_L} {Z : z_C} {K : c_S} {R : r_S} (w : WR b L Z K R) : c_I K 402 0 = r_I R 2508 ∧ c_I K 403 0 = r_I R 2509 ∧ (∀ i : Nat, c_A K 400 0 i = r_A R 2511 i) ∧ (∀ i : Nat, c_A K 401 0 i = r_A R 2512 i) := w.1.2.2.2.2.2.1
theorem Q_trace {b : Nat} {L : c_L} {Z : z_C} {K : c_S} {R : r_S} {x1 x2 : Int32} (w : WR b L Z K R) : QA K R (km_X11_trace L K 0 x1 x2) (rm_X12_trace R x1 x2) := by
  obtain ⟨j1, -, j3, -⟩ := JR_w w
  have j1' : r_I (rs_I R 2400 0) 2508 = c_I K 402 0 := j1.symm
  by_cases c1 : x1 < 0
  · exact ⟨-1, fun Q hQ => bt_ c1 hQ, fun Q hQ => bt_ c1 hQ⟩
  by_cases c2 : c_I K 402 0 ≤ x1
  · exact ⟨-1, fun Q hQ => bf_ c1 (bt_ c2 hQ), fun Q hQ => bf_ c1 (bt_ (by rw [j1']; exact c2) hQ)⟩
  by_cases c3 : (300 : Int32) ≤ x1
  · exact ⟨-1, fun Q hQ => bf_ c1 (bf_ c2 (bt_ c3 hQ)), fun Q hQ => bf_ c1 (bf_ (by rw [j1']; exact c2) (bt_ c3 hQ))⟩
  by_cases c4 : x2 < 0
  · exact ⟨-1, fun Q hQ => bf_ c1 (bf_ c2 (bf_ c3 (bt_ c4 hQ))), fun Q hQ => bf_ c1 (bf_ (by rw [j1']; exact c2) (bf_ c3 (bt_ c4 hQ)))⟩
  obtain ⟨i, hi, rfl⟩ := nI_of c1
  obtain ⟨k, hk, rfl⟩ := nI_of c4
  have i300 : i < 300 := Classical.byContradiction fun z => c3 (nI_le (a := 300) (by omega) hi)
  by_cases c5 : k < 3
  · refine ⟨c_A K 400 0 (3 * i + k), fun Q hQ => bf_ c1 (bf_ c2 (bf_ c3 (bf_ c4 (bt_ (nI_lt (b := 3) c5 (by decide)) ?_)))), fun Q hQ => bf_ c1 (bf_ (by rw [j1']; exact c2) (bf_ c3 (bf_ c4 (bt_ (nI_le (b := 2) (by omega) (by decide)) ?_))))⟩
    · rw [show nI i * 3 + nI k = nI (3 * i + k) by rw [show (3 : Int32) = nI 3 from rfl, pk_mul, nI_add, Nat.mul_comm], nI_clamp (by omega)]
      exact ⟨vp_in_nI (by omega) (by decide), hQ⟩
    · rw [show (3 : Int32) * nI i + nI k = nI (3 * i + k) by rw [show (3 : Int32) = nI 3 from rfl, pk_mul, nI_add], nI_clamp (by omega)]
      rw [j3] at hQ
      exact ⟨ri_v (n := 900) rfl (by omega) (by decide), hQ⟩
  · exact ⟨-1, fun Q hQ => bf_ c1 (bf_ c2 (bf_ c3 (bf_ c4 (bf_ (nI_nlt (b := 3) (by omega) hk) hQ)))), fun Q hQ => bf_ c1 (bf_ (by rw [j1']; exact c2) (bf_ c3 (bf_ c4 (bf_ (nI_ge (a := 2) (by omega) hk) hQ))))⟩
theorem Q_error {b : Nat} {L : c_L} {Z : z_C} {K : c_S} {R : r_S} {x1 x2 : Int32} (w : WR b L Z K R) : QA K R (km_X11_error L K 0 x1 x2) (rm_X12_error R x1 x2) := by
  obtain ⟨-, j1, -, j3⟩ := JR_w w
  have j1' : r_I (rs_I R 2400 0) 2509 = c_I K 403 0 := j1.symm
  have jb : 0 ≤ (r_I R 2509).toInt := w.2.2.2.2.2.2.1
  by_cases c1 : x1 < 0
  · exact ⟨-1, fun Q hQ => bt_ c1 hQ, fun Q hQ => bt_ c1 hQ⟩
  by_cases c2 : c_I K 403 0 ≤ x1
  · exact ⟨-1, fun Q hQ => bf_ c1 (bt_ c2 hQ), fun Q hQ => bf_ c1 (bt_ (by rw [j1']; exact c2) hQ)⟩
  by_cases c3 : (64 : Int32) ≤ x1
  · exact ⟨-1, fun Q hQ => bf_ c1 (bf_ c2 (bt_ c3 hQ)), fun Q hQ => bf_ c1 (bf_ (by rw [j1']; exact c2) (bt_ c3 hQ))⟩
  by_cases c4 : x2 < 0
  · exact ⟨-1, fun Q hQ => bf_ c1 (bf_ c2 (bf_ c3 (bt_ c4 hQ))), fun Q hQ => bf_ c1 (bf_ (by rw [j1']; exact c2) (bf_ c3 (bt_ c4 hQ)))⟩
  obtain ⟨i, hi, rfl⟩ := nI_of c1
  obtain ⟨k, hk, rfl⟩ := nI_of c4
  obtain ⟨n, hn, en⟩ := nI_of (x := c_I K 403 0) (fun z => by have := i_lt0.mp z; rw [j1] at this; omega)
  have hin : i < n := Classical.byContradiction fun z => c2 (by rw [en]; exact nI_le (by omega) hi)
  have i64 : i < 64 := Classical.byContradiction fun z => c3 (nI_le (a := 64) (by omega) hi)
  have em : (nI n - 1 - nI i) - (nI n - 1 - nI i) / 64 * 64 = nI ((n - 1 - i) % 64) := by
    rw [show nI n - (1 : Int32) = nI (n - 1) from pk_sub (a := n) (b := 1) (by omega), pk_sub (by omega)]
    exact pk_rem (a := n - 1 - i) (d := 64) (by omega) (by decide) (by decide)
  by_cases c5 : k < 6
  · refine ⟨c_A K 401 0 (6 * ((n - 1 - i) % 64) + k), fun Q hQ => bf_ c1 (bf_ c2 (bf_ c3 (bf_ c4 (bt_ (nI_lt (b := 6) c5 (by decide)) ?_)))), fun Q hQ => bf_ c1 (bf_ (by rw [j1']; exact c2) (bf_ c3 (bf_ c4 (bt_ (nI_le (b := 5) (by omega) (by decide)) ?_))))⟩
    · rw [en, em, show nI ((n - 1 - i) % 64) * 6 + nI k = nI (6 * ((n - 1 - i) % 64) + k) by rw [show (6 : Int32) = nI 6 from rfl, pk_mul, nI_add, Nat.mul_comm], nI_clamp (by omega)]
      exact ⟨vp_in_nI (by omega) (by decide), hQ⟩
    · rw [j1', en, em, show (6 : Int32) * nI ((n - 1 - i) % 64) + nI k = nI (6 * ((n - 1 - i) % 64) + k) by rw [show (6 : Int32) = nI 6 from rfl, pk_mul, nI_add], nI_clamp (by omega)]
      rw [j3] at hQ
      exact ⟨ri_v (n := 384) rfl (by omega) (by decide), hQ⟩
  · exact ⟨-1, fun Q hQ => bf_ c1 (bf_ c2 (bf_ c3 (bf_ c4 (bf_ (nI_nlt (b := 6) (by omega) hk) hQ)))), fun Q hQ => bf_ c1 (bf_ (by rw [j1']; exact c2) (bf_ c3 (bf_ c4 (bf_ (nI_ge (a := 5) (by omega) hk) hQ))))⟩
theorem Q_about {b : Nat} {L : c_L} {Z : z_C} {K : c_S} {R : r_S} {x1 : Int32} (w : WR b L Z K R) (ht : z_tm Z < 2 ^ 31) (hz : ¬ z_bg Z = 0 → ZW Z) : QA K R (km_X11_about L K 0 x1) (rm_X12_about R x1) := by
  obtain ⟨g1, g2, -, g4, -, -, -, g8⟩ := GL_el w
  obtain ⟨j1, j2, -, -⟩ := JR_w w
  have cc := WR_cc w
  have f5 : c_I K 1201 0 = r_I R 2415 := cc.2.1.1.trans cc.2.1.2.symm
  have f6 : c_I K 1203 0 = r_I R 2416 := cc.2.2.1.1.trans cc.2.2.1.2.symm
  have f8 : c_I K 1205 0 = r_I R 2418 := cc.2.2.2.1.1.trans cc.2.2.2.1.2.symm
  have f7 : c_I K 1209 0 = r_I R 2417 := cc.2.2.2.2.1.1.trans cc.2.2.2.2.1.2.symm
  have f9 : c_I K 1206 0 = r_I R 2419 := cc.2.2.2.2.2.1
  rcases io_ x1 (n := 10) (by decide) with ⟨k, hk10, rfl⟩ | ho
  case inr =>
    have ho2 : x1.toInt < 0 ∨ 9 < x1.toInt := ho.imp i_lt0.mp (fun z => by have := i_le.mp z; have e : (nI 10).toInt = 10 := rfl; omega)
    have hx : ∀ i : Nat, i < 10 → ¬ x1 = nI i := fun i hi z => by
      rw [z, nI_toInt (by omega)] at ho2
      omega
    exact ⟨-1, fun Q hQ => ⟨fun _ => hQ, fun z => absurd z (hx 0 (by decide)), fun z => absurd z (hx 1 (by decide)), fun z => absurd z (hx 2 (by decide)), fun z => absurd z (hx 3 (by decide)), fun z => absurd z (hx 4 (by decide)), fun z => absurd z (hx 5 (by decide)), fun z => absurd z (hx 6 (by decide)), fun z => absurd z (hx 7 (by decide)), fun z => absurd z (hx 8 (by decide)), fun z => absurd z (hx 9 (by decide))⟩, fun Q hQ => ⟨fun _ => hQ, fun z => absurd z (hx 0 (by decide)), fun z => absurd z (hx 1 (by decide)), fun z => absurd z (hx 2 (by decide)), fun z => absurd z (hx 3 (by decide)), fun z => absurd z (hx 4 (by decide)), fun z => absurd z (hx 5 (by decide)), fun z => absurd z (hx 6 (by decide)), fun z => absurd z (hx 7 (by decide)), fun z => absurd z (hx 8 (by decide)), fun z => absurd z (hx 9 (by decide))⟩⟩
  case inl =>
    have hk' : k = 0 ∨ k = 1 ∨ k = 2 ∨ k = 3 ∨ k = 4 ∨ k = 5 ∨ k = 6 ∨ k = 7 ∨ k = 8 ∨ k = 9 := by omega
    rcases hk' with rfl | rfl | rfl | rfl | rfl | rfl | rfl | rfl | rfl | rfl
    · refine ⟨r_I R 2463, fun Q hQ => ⟨fun z => absurd z (by decide), fun _ => ?_, fun z => absurd z (by decide), fun z => absurd z (by decide), fun z => absurd z (by decide), fun z => absurd z (by decide), fun z => absurd z (by decide), fun z => absurd z (by decide), fun z => absurd z (by decide), fun z => absurd z (by decide), fun z => absurd z (by decide)⟩, fun Q hQ => ⟨fun z => absurd z (by decide), fun _ => hQ, fun z => absurd z (by decide), fun z => absurd z (by decide), fun z => absurd z (by decide), fun z => absurd z (by decide), fun z => absurd z (by decide), fun z => absurd z (by decide), fun z => absurd z (by decide), fun z => absurd z (by decide), fun z => absurd z (by decide)⟩⟩
      rw [g1]; exact hQ
    · refine ⟨r_I R 2509, fun Q hQ => ⟨fun z => absurd z (by decide), fun z => absurd z (by decide), fun _ => ?_, fun z => absurd z (by decide), fun z => absurd z (by decide), fun z => absurd z (by decide), fun z => absurd z (by decide), fun z => absurd z (by decide), fun z => absurd z (by decide), fun z => absurd z (by decide), fun z => absurd z (by decide)⟩, fun Q hQ => ⟨fun z => absurd z (by decide), fun z => absurd z (by decide), fun _ => hQ, fun z => absurd z (by decide), fun z => absurd z (by decide), fun z => absurd z (by decide), fun z => absurd z (by decide), fun z => absurd z (by decide), fun z => absurd z (by decide), fun z => absurd z (by decide), fun z => absurd z (by decide)⟩⟩
      rw [j2]; exact hQ
    · refine ⟨r_I R 2510, fun Q hQ => ⟨fun z => absurd z (by decide), fun z => absurd z (by decide), fun z => absurd z (by decide), fun _ => ?_, fun z => absurd z (by decide), fun z => absurd z (by decide), fun z => absurd z (by decide), fun z => absurd z (by decide), fun z => absurd z (by decide), fun z => absurd z (by decide), fun z => absurd z (by decide)⟩, fun Q hQ => ⟨fun z => absurd z (by decide), fun z => absurd z (by decide), fun z => absurd z (by decide), fun _ => hQ, fun z => absurd z (by decide), fun z => absurd z (by decide), fun z => absurd z (by decide), fun z => absurd z (by decide), fun z => absurd z (by decide), fun z => absurd z (by decide), fun z => absurd z (by decide)⟩⟩
      rw [g2]; exact hQ
    · by_cases cb : r_I R 2414 = 0
      · exact ⟨-1, fun Q hQ => ⟨fun z => absurd z (by decide), fun z => absurd z (by decide), fun z => absurd z (by decide), fun z => absurd z (by decide), fun _ => bt_ (g4.1.trans cb) hQ, fun z => absurd z (by decide), fun z => absurd z (by decide), fun z => absurd z (by decide), fun z => absurd z (by decide), fun z => absurd z (by decide), fun z => absurd z (by decide)⟩, fun Q hQ => ⟨fun z => absurd z (by decide), fun z => absurd z (by decide), fun z => absurd z (by decide), fun z => absurd z (by decide), fun _ => bt_ cb hQ, fun z => absurd z (by decide), fun z => absurd z (by decide), fun z => absurd z (by decide), fun z => absurd z (by decide), fun z => absurd z (by decide), fun z => absurd z (by decide)⟩⟩
      · have zw := hz (fun z => cb (g8.trans z))
        obtain ⟨kw, rw'⟩ := WR_kw (WR_400 (v := 0) w) zw
        obtain ⟨i, wn⟩ := WN_ex zw (z_tm Z)
        have nw24 : z_nw Z ≤ 24 := cc.1.2.2
        have e61 : r_A R 2461 i = nI (z_wo Z i) := (cc.2.2.2.2.2.2.2.2.2.2.2 i wn.1).2.2.1
        have hi := wn.1
        refine ⟨nI (z_wo Z i), fun Q hQ => ⟨fun z => absurd z (by decide), fun z => absurd z (by decide), fun z => absurd z (by decide), fun z => absurd z (by decide), fun _ => bf_ (fun z => cb (g4.1.symm.trans z)) (ke_partitionNow zw kw ht wn hQ), fun z => absurd z (by decide), fun z => absurd z (by decide), fun z => absurd z (by decide), fun z => absurd z (by decide), fun z => absurd z (by decide), fun z => absurd z (by decide)⟩, fun Q hQ => ⟨fun z => absurd z (by decide), fun z => absurd z (by decide), fun z => absurd z (by decide), fun z => absurd z (by decide), fun _ => bf_ cb (re_window zw rw' ht wn ⟨_, rfl, ri_v (n := 24) rfl (by omega) (by decide), ?_⟩), fun z => absurd z (by decide), fun z => absurd z (by decide), fun z => absurd z (by decide), fun z => absurd z (by decide), fun z => absurd z (by decide), fun z => absurd z (by decide)⟩⟩
        rw [nI_clamp (by omega), show r_A (rs_I R 2400 0) 2461 i = nI (z_wo Z i) from e61]
        exact hQ
    · refine ⟨r_I R 2508, fun Q hQ => ⟨fun z => absurd z (by decide), fun z => absurd z (by decide), fun z => absurd z (by decide), fun z => absurd z (by decide), fun z => absurd z (by decide), fun _ => ?_, fun z => absurd z (by decide), fun z => absurd z (by decide), fun z => absurd z (by decide), fun z => absurd z (by decide), fun z => absurd z (by decide)⟩, fun Q hQ => ⟨fun z => absurd z (by decide), fun z => absurd z (by decide), fun z => absurd z (by decide), fun z => absurd z (by decide), fun z => absurd z (by decide), fun _ => hQ, fun z => absurd z (by decide), fun z => absurd z (by decide), fun z => absurd z (by decide), fun z => absurd z (by decide), fun z => absurd z (by decide)⟩⟩
      rw [j1]; exact hQ
    · refine ⟨r_I R 2415, fun Q hQ => ⟨fun z => absurd z (by decide), fun z => absurd z (by decide), fun z => absurd z (by decide), fun z => absurd z (by decide), fun z => absurd z (by decide), fun z => absurd z (by decide), fun _ => ?_, fun z => absurd z (by decide), fun z => absurd z (by decide), fun z => absurd z (by decide), fun z => absurd z (by decide)⟩, fun Q hQ => ⟨fun z => absurd z (by decide), fun z => absurd z (by decide), fun z => absurd z (by decide), fun z => absurd z (by decide), fun z => absurd z (by decide), fun z => absurd z (by decide), fun _ => hQ, fun z => absurd z (by decide), fun z => absurd z (by decide), fun z => absurd z (by decide), fun z => absurd z (by decide)⟩⟩
      rw [f5]; exact hQ
    · refine ⟨r_I R 2416, fun Q hQ => ⟨fun z => absurd z (by decide), fun z => absurd z (by decide), fun z => absurd z (by decide), fun z => absurd z (by decide), fun z => absurd z (by decide), fun z => absurd z (by decide), fun z => absurd z (by decide), fun _ => ?_, fun z => absurd z (by decide), fun z => absurd z (by decide), fun z => absurd z (by decide)⟩, fun Q hQ => ⟨fun z => absurd z (by decide), fun z => absurd z (by decide), fun z => absurd z (by decide), fun z => absurd z (by decide), fun z => absurd z (by decide), fun z => absurd z (by decide), fun z => absurd z (by decide), fun _ => hQ, fun z => absurd z (by decide), fun z => absurd z (by decide), fun z => absurd z (by decide)⟩⟩
      rw [f6]; exact hQ
    · refine ⟨r_I R 2417, fun Q hQ => ⟨fun z => absurd z (by decide), fun z => absurd z (by decide), fun z => absurd z (by decide), fun z => absurd z (by decide), fun z => absurd z (by decide), fun z => absurd z (by decide), fun z => absurd z (by decide), fun z => absurd z (by decide), fun _ => ?_, fun z => absurd z (by decide), fun z => absurd z (by decide)⟩, fun Q hQ => ⟨fun z => absurd z (by decide), fun z => absurd z (by decide), fun z => absurd z (by decide), fun z => absurd z (by decide), fun z => absurd z (by decide), fun z => absurd z (by decide), fun z => absurd z (by decide), fun z => absurd z (by decide), fun _ => hQ, fun z => absurd z (by decide), fun z => absurd z (by decide)⟩⟩
      rw [f7]; exact hQ
    · refine ⟨r_I R 2418, fun Q hQ => ⟨fun z => absurd z (by decide), fun z => absurd z (by decide), fun z => absurd z (by decide), fun z => absurd z (by decide), fun z => absurd z (by decide), fun z => absurd z (by decide), fun z => absurd z (by decide), fun z => absurd z (by decide), fun z => absurd z (by decide), fun _ => ?_, fun z => absurd z (by decide)⟩, fun Q hQ => ⟨fun z => absurd z (by decide), fun z => absurd z (by decide), fun z => absurd z (by decide), fun z => absurd z (by decide), fun z => absurd z (by decide), fun z => absurd z (by decide), fun z => absurd z (by decide), fun z => absurd z (by decide), fun z => absurd z (by decide), fun _ => hQ, fun z => absurd z (by decide)⟩⟩
      rw [f8]; exact hQ
    · refine ⟨r_I R 2419, fun Q hQ => ⟨fun z => absurd z (by decide), fun z => absurd z (by decide), fun z => absurd z (by decide), fun z => absurd z (by decide), fun z => absurd z (by decide), fun z => absurd z (by decide), fun z => absurd z (by decide), fun z => absurd z (by decide), fun z => absurd z (by decide), fun z => absurd z (by decide), fun _ => ?_⟩, fun Q hQ => ⟨fun z => absurd z (by decide), fun z => absurd z (by decide), fun z => absurd z (by decide), fun z => absurd z (by decide), fun z => absurd z (by decide), fun z => absurd z (by decide), fun z => absurd z (by decide), fun z => absurd z (by decide), fun z => absurd z (by decide), fun z => absurd z (by decide), fun _ => hQ⟩⟩
      rw [f9]; exact hQ
theorem Q_fault {b : Nat} {L : c_L} {Z : z_C} {K : c_S} {R : r_S} {x1 : Int32} (w : WR b L Z K R) : QA K R (km_X11_fault L K 0 x1) (rm_X12_fault R x1) := by
  have tx := w.1.2.2.2.2.2.2.2
  have t4 : c_I K 1804 0 = r_I R 2411 := tx.2.1
  have t5 : c_I K 1805 0 = r_I R 2412 := tx.2.2.1
  by_cases c0 : x1 = 0
  · exact ⟨r_I R 2411, fun Q hQ => nt_ c0 (by rw [t4]; exact hQ), fun Q hQ => nt_ c0 hQ⟩
  · by_cases c1 : x1 = 1
    · exact ⟨r_I R 2412, fun Q hQ => nf_ c0 (nt_ c1 (by rw [t5]; exact hQ)), fun Q hQ => nf_ c0 (nt_ c1 hQ)⟩
    · exact ⟨-1, fun Q hQ => nf_ c0 (nf_ c1 hQ), fun Q hQ => nf_ c0 (nf_ c1 hQ)⟩
