/-! The steps of a process keep both sides alike. -/
theorem PRt_wt {p : Nat} {u x w y u' w' : Nat → Int32} {a til : Int32} (h : PRt p u x w y) (e1 : u' 3 = u 3) (e2 : u' 9 = 2) (e3 : u' 10 = u 10) (e4 : u' 13 = til) (e5 : u' 14 = u 14) (e6 : u' 15 = u 15) (e7 : u' 16 = u 16) (e8 : u' 12 = u 12) (e9 : u' 18 = a) (f1 : w' 2 = w 2) (f2 : w' 0 = 2) (f3 : w' 1 = w 1) (f4 : w' 5 = til) (f5 : w' 7 = w 7) (f6 : w' 6 = w 6) (f7 : w' 8 = w 8) (f8 : w' 3 = w 3) (f9 : w' 4 = w 4) (hc : a = p_wc p w') (hw : w' 11 = 4 ∨ w' 11 = 7 → u' 19 = w' 15) : PRt p u' x w' y := by
  obtain ⟨⟨a1, a2, a3, a4, a5, a6, a7⟩, a8, a9, a10, a11, a12, a13, a14, a15⟩ := h
  refine ⟨⟨by rw [e1, f1, a1], by rw [e2, f2], by rw [e3, f3, a3], by rw [e4, f4], by rw [e5, f5, a5], by rw [e6, f6, a6], by rw [e7, f7, a7]⟩, a8, ?_, ?_, fun _ => hw, Or.inr (Or.inr (Or.inl f2)), fun _ => f2, by rw [f7]; exact a14, by rw [f8]; exact a15⟩
  · rw [e8, f8, f9]; exact a9
  · rw [e9, if_pos f2]; exact hc
theorem WR_wt {b : Nat} {L : c_L} {Z : z_C} {K : c_S} {R : r_S} {p j : Nat} {a c s th : Int32} (h : WR b L Z K R) (hb : b < 2000000000) (hp : p < z_np Z) (hj : j < z_nq Z p) (h1 : r_A R 2467 (16 * p + j) = 1) (hm : r_A R 2483 p = 0) (hl : c_I K 1013 p = 0) (hh : z_hd Z p ≠ some j) (hc : a = p_wc p (p_r (r_wt R (16 * p + j) s th c) (16 * p + j))) (hwg : WGt Z p (fun a => r_A R 2448 (16 * p + a)) (fun a => r_A R 2450 (16 * p + a)) (p_r (r_wt R (16 * p + j) s th c) (16 * p + j))) (hw : s ≠ 4 ∧ s ≠ 7) : WR (b + 1) L Z (k_wt K p (16 * p + j) a c) (r_wt R (16 * p + j) s th c) := by
  have hpr := h.2.1.1 p hp j hj
  have hti := h.2.2.2.1.2 p hp j hj
  have hpd := h.2.2.2.2.1
  have hn := CQ_nq (WR_cq h)
  have elo : c_I (k_wt K p (16 * p + j) a c) 1015 p = c_I K 1015 p + 1 := by
    unfold k_wt
    exact c_Is
  have est : r_I (r_wt R (16 * p + j) s th c) 2464 = r_I R 2464 + 1 := by unfold r_wt; simp only [r_IA]; exact r_Is
  have e0 : r_A (r_wt R (16 * p + j) s th c) 2467 (16 * p + j) = 2 := congrFun (r_wt_r (R := R) (q := 16 * p + j)) 0
  have ex : EX (16 * p + j) K (k_wt K p (16 * p + j) a c) R (r_wt R (16 * p + j) s th c) := fun q' hq => ⟨k_wt_n hq.symm, k_wt_x, r_wt_n hq.symm, r_wt_y⟩
  refine WR_step h hb hp hj (by rw [k_wt_RS, r_wt_RS]) r_wt_JB ex ?_ (fun p' hp' => ?_) (Or.inr elo) (Or.inr est) (fun z => ?_) (fun _ => ⟨elo, est, ?_, ?_⟩) rfl (fun _ => ⟨rfl, rfl, rfl⟩) ?_ ?_
  · rw [k_wt_x, r_wt_y]
    refine PRt_wt (a := a) (til := c) hpr ?_ ?_ ?_ ?_ ?_ ?_ ?_ ?_ ?_ ?_ ?_ ?_ ?_ ?_ ?_ ?_ ?_ ?_ hc (fun hz => ?_)
    all_goals first | (rw [k_wt_k]; rfl) | (rw [r_wt_r]; rfl) | skip
    · rw [r_wt_r] at hz; rcases hz with hz | hz
      · exact absurd hz hw.1
      · exact absurd hz hw.2
  · unfold k_wt
    exact lo_b hp'
  · rw [show p_r (r_wt R (16 * p + j) s th c) (16 * p + j) 0 = 2 from e0] at z
    exact absurd z (by decide)
  · rw [k_wt_k]; rfl
  · rw [r_wt_r]; rfl
  · have e6 : p_r (r_wt R (16 * p + j) s th c) (16 * p + j) 6 = p_r R (16 * p + j) 6 := by rw [r_wt_r]; rfl
    refine ⟨fun z => ?_, fun _ => Or.inl ?_, ?_⟩
    · rw [show p_r (r_wt R (16 * p + j) s th c) (16 * p + j) 0 = 2 from e0] at z
      exact absurd z (by decide)
    · rw [e6]; exact hti.1 (Or.inl h1)
    · rw [e6, show p_r (r_wt R (16 * p + j) s th c) (16 * p + j) 3 = p_r R (16 * p + j) 3 by rw [r_wt_r]; rfl, show p_r (r_wt R (16 * p + j) s th c) (16 * p + j) 4 = p_r R (16 * p + j) 4 by rw [r_wt_r]; rfl]; exact ⟨hti.2.2.1, hti.2.2.2.1, hti.2.2.2.2.1, fun _ => hwg⟩
  · refine PD_1 hpd hp hj hn k_wt_PD r_wt_PD (fun q hq => congrFun (r_wt_n (R := R) (q := 16 * p + j) (q' := q) hq.symm) 0) (Or.inl hm) (by rw [h1]; decide) (by rw [e0]; decide) (fun _ => Or.inl hl) (fun z => absurd z hh)
theorem WR_wtw {b : Nat} {L : c_L} {Z : z_C} {K : c_S} {R : r_S} {p j : Nat} {a c s th wd : Int32} (h : WR b L Z K R) (hb : b < 2000000000) (hp : p < z_np Z) (hj : j < z_nq Z p) (h1 : r_A R 2467 (16 * p + j) = 1) (hm : r_A R 2483 p = 0) (hl : c_I K 1013 p = 0) (hh : z_hd Z p ≠ some j) (hc : a = p_wc p (p_r (r_wtw R (16 * p + j) s th c wd) (16 * p + j))) (hwg : WGt Z p (fun a => r_A R 2448 (16 * p + a)) (fun a => r_A R 2450 (16 * p + a)) (p_r (r_wtw R (16 * p + j) s th c wd) (16 * p + j))) : WR (b + 1) L Z (k_wtw K p (16 * p + j) a c wd) (r_wtw R (16 * p + j) s th c wd) := by
  have hpr := h.2.1.1 p hp j hj
  have hti := h.2.2.2.1.2 p hp j hj
  have hpd := h.2.2.2.2.1
  have hn := CQ_nq (WR_cq h)
  have elo : c_I (k_wtw K p (16 * p + j) a c wd) 1015 p = c_I K 1015 p + 1 := by
    unfold k_wtw
    exact c_Is
  have est : r_I (r_wtw R (16 * p + j) s th c wd) 2464 = r_I R 2464 + 1 := by unfold r_wtw; simp only [r_IA]; exact r_Is
  have e0 : r_A (r_wtw R (16 * p + j) s th c wd) 2467 (16 * p + j) = 2 := congrFun (r_wtw_r (R := R) (q := 16 * p + j)) 0
  have ex : EX (16 * p + j) K (k_wtw K p (16 * p + j) a c wd) R (r_wtw R (16 * p + j) s th c wd) := fun q' hq => ⟨k_wtw_n hq.symm, k_wtw_x, r_wtw_n hq.symm, r_wtw_y⟩
  refine WR_step h hb hp hj (by rw [k_wtw_RS, r_wtw_RS]) r_wtw_JB ex ?_ (fun p' hp' => ?_) (Or.inr elo) (Or.inr est) (fun z => ?_) (fun _ => ⟨elo, est, ?_, ?_⟩) rfl (fun _ => ⟨rfl, rfl, rfl⟩) ?_ ?_
  · rw [k_wtw_x, r_wtw_y]
    refine PRt_wt (a := a) (til := c) hpr ?_ ?_ ?_ ?_ ?_ ?_ ?_ ?_ ?_ ?_ ?_ ?_ ?_ ?_ ?_ ?_ ?_ ?_ hc (fun hz => ?_)
    all_goals first | (rw [k_wtw_k]; rfl) | (rw [r_wtw_r]; rfl) | skip
    · rw [k_wtw_k, r_wtw_r]; rfl
  · unfold k_wtw
    exact lo_b hp'
  · rw [show p_r (r_wtw R (16 * p + j) s th c wd) (16 * p + j) 0 = 2 from e0] at z
    exact absurd z (by decide)
  · rw [k_wtw_k]; rfl
  · rw [r_wtw_r]; rfl
  · have e6 : p_r (r_wtw R (16 * p + j) s th c wd) (16 * p + j) 6 = p_r R (16 * p + j) 6 := by rw [r_wtw_r]; rfl
    refine ⟨fun z => ?_, fun _ => Or.inl ?_, ?_⟩
    · rw [show p_r (r_wtw R (16 * p + j) s th c wd) (16 * p + j) 0 = 2 from e0] at z
      exact absurd z (by decide)
    · rw [e6]; exact hti.1 (Or.inl h1)
    · rw [e6, show p_r (r_wtw R (16 * p + j) s th c wd) (16 * p + j) 3 = p_r R (16 * p + j) 3 by rw [r_wtw_r]; rfl, show p_r (r_wtw R (16 * p + j) s th c wd) (16 * p + j) 4 = p_r R (16 * p + j) 4 by rw [r_wtw_r]; rfl]; exact ⟨hti.2.2.1, hti.2.2.2.1, hti.2.2.2.2.1, fun _ => hwg⟩
  · refine PD_1 hpd hp hj hn k_wtw_PD r_wtw_PD (fun q hq => congrFun (r_wtw_n (R := R) (q := 16 * p + j) (q' := q) hq.symm) 0) (Or.inl hm) (by rw [h1]; decide) (by rw [e0]; decide) (fun _ => Or.inl hl) (fun z => absurd z hh)
theorem WR_wtp {b : Nat} {L : c_L} {Z : z_C} {K : c_S} {R : r_S} {p j : Nat} {a c s th pt : Int32} (h : WR b L Z K R) (hb : b < 2000000000) (hp : p < z_np Z) (hj : j < z_nq Z p) (h1 : r_A R 2467 (16 * p + j) = 1) (hm : r_A R 2483 p = 0) (hl : c_I K 1013 p = 0) (hh : z_hd Z p ≠ some j) (hc : a = p_wc p (p_r (r_wtp R (16 * p + j) s th c pt) (16 * p + j))) (hwg : WGt Z p (fun a => r_A R 2448 (16 * p + a)) (fun a => r_A R 2450 (16 * p + a)) (p_r (r_wtp R (16 * p + j) s th c pt) (16 * p + j))) (hw : s ≠ 4 ∧ s ≠ 7) : WR (b + 1) L Z (k_wt K p (16 * p + j) a c) (r_wtp R (16 * p + j) s th c pt) := by
  have hpr := h.2.1.1 p hp j hj
  have hti := h.2.2.2.1.2 p hp j hj
  have hpd := h.2.2.2.2.1
  have hn := CQ_nq (WR_cq h)
  have elo : c_I (k_wt K p (16 * p + j) a c) 1015 p = c_I K 1015 p + 1 := by
    unfold k_wt
    exact c_Is
  have est : r_I (r_wtp R (16 * p + j) s th c pt) 2464 = r_I R 2464 + 1 := by unfold r_wtp; simp only [r_IA]; exact r_Is
  have e0 : r_A (r_wtp R (16 * p + j) s th c pt) 2467 (16 * p + j) = 2 := congrFun (r_wtp_r (R := R) (q := 16 * p + j)) 0
  have ex : EX (16 * p + j) K (k_wt K p (16 * p + j) a c) R (r_wtp R (16 * p + j) s th c pt) := fun q' hq => ⟨k_wt_n hq.symm, k_wt_x, r_wtp_n hq.symm, r_wtp_y⟩
  refine WR_step h hb hp hj (by rw [k_wt_RS, r_wtp_RS]) r_wtp_JB ex ?_ (fun p' hp' => ?_) (Or.inr elo) (Or.inr est) (fun z => ?_) (fun _ => ⟨elo, est, ?_, ?_⟩) rfl (fun _ => ⟨rfl, rfl, rfl⟩) ?_ ?_
  · rw [k_wt_x, r_wtp_y]
    refine PRt_wt (a := a) (til := c) hpr ?_ ?_ ?_ ?_ ?_ ?_ ?_ ?_ ?_ ?_ ?_ ?_ ?_ ?_ ?_ ?_ ?_ ?_ hc (fun hz => ?_)
    all_goals first | (rw [k_wt_k]; rfl) | (rw [r_wtp_r]; rfl) | skip
    · rw [r_wtp_r] at hz; rcases hz with hz | hz
      · exact absurd hz hw.1
      · exact absurd hz hw.2
  · unfold k_wt
    exact lo_b hp'
  · rw [show p_r (r_wtp R (16 * p + j) s th c pt) (16 * p + j) 0 = 2 from e0] at z
    exact absurd z (by decide)
  · rw [k_wt_k]; rfl
  · rw [r_wtp_r]; rfl
  · have e6 : p_r (r_wtp R (16 * p + j) s th c pt) (16 * p + j) 6 = p_r R (16 * p + j) 6 := by rw [r_wtp_r]; rfl
    refine ⟨fun z => ?_, fun _ => Or.inl ?_, ?_⟩
    · rw [show p_r (r_wtp R (16 * p + j) s th c pt) (16 * p + j) 0 = 2 from e0] at z
      exact absurd z (by decide)
    · rw [e6]; exact hti.1 (Or.inl h1)
    · rw [e6, show p_r (r_wtp R (16 * p + j) s th c pt) (16 * p + j) 3 = p_r R (16 * p + j) 3 by rw [r_wtp_r]; rfl, show p_r (r_wtp R (16 * p + j) s th c pt) (16 * p + j) 4 = p_r R (16 * p + j) 4 by rw [r_wtp_r]; rfl]; exact ⟨hti.2.2.1, hti.2.2.2.1, hti.2.2.2.2.1, fun _ => hwg⟩
  · refine PD_1 hpd hp hj hn k_wt_PD r_wtp_PD (fun q hq => congrFun (r_wtp_n (R := R) (q := 16 * p + j) (q' := q) hq.symm) 0) (Or.inl hm) (by rw [h1]; decide) (by rw [e0]; decide) (fun _ => Or.inl hl) (fun z => absurd z hh)
theorem WR_wts {b : Nat} {L : c_L} {Z : z_C} {K : c_S} {R : r_S} {p j : Nat} {a c s th wd pt : Int32} (h : WR b L Z K R) (hb : b < 2000000000) (hp : p < z_np Z) (hj : j < z_nq Z p) (h1 : r_A R 2467 (16 * p + j) = 1) (hm : r_A R 2483 p = 0) (hl : c_I K 1013 p = 0) (hh : z_hd Z p ≠ some j) (hc : a = p_wc p (p_r (r_wts R (16 * p + j) s th c wd pt) (16 * p + j))) (hwg : WGt Z p (fun a => r_A R 2448 (16 * p + a)) (fun a => r_A R 2450 (16 * p + a)) (p_r (r_wts R (16 * p + j) s th c wd pt) (16 * p + j))) : WR (b + 1) L Z (k_wtw K p (16 * p + j) a c wd) (r_wts R (16 * p + j) s th c wd pt) := by
  have hpr := h.2.1.1 p hp j hj
  have hti := h.2.2.2.1.2 p hp j hj
  have hpd := h.2.2.2.2.1
  have hn := CQ_nq (WR_cq h)
  have elo : c_I (k_wtw K p (16 * p + j) a c wd) 1015 p = c_I K 1015 p + 1 := by
    unfold k_wtw
    exact c_Is
  have est : r_I (r_wts R (16 * p + j) s th c wd pt) 2464 = r_I R 2464 + 1 := by unfold r_wts; simp only [r_IA]; exact r_Is
  have e0 : r_A (r_wts R (16 * p + j) s th c wd pt) 2467 (16 * p + j) = 2 := congrFun (r_wts_r (R := R) (q := 16 * p + j)) 0
  have ex : EX (16 * p + j) K (k_wtw K p (16 * p + j) a c wd) R (r_wts R (16 * p + j) s th c wd pt) := fun q' hq => ⟨k_wtw_n hq.symm, k_wtw_x, r_wts_n hq.symm, r_wts_y⟩
  refine WR_step h hb hp hj (by rw [k_wtw_RS, r_wts_RS]) r_wts_JB ex ?_ (fun p' hp' => ?_) (Or.inr elo) (Or.inr est) (fun z => ?_) (fun _ => ⟨elo, est, ?_, ?_⟩) rfl (fun _ => ⟨rfl, rfl, rfl⟩) ?_ ?_
  · rw [k_wtw_x, r_wts_y]
    refine PRt_wt (a := a) (til := c) hpr ?_ ?_ ?_ ?_ ?_ ?_ ?_ ?_ ?_ ?_ ?_ ?_ ?_ ?_ ?_ ?_ ?_ ?_ hc (fun hz => ?_)
    all_goals first | (rw [k_wtw_k]; rfl) | (rw [r_wts_r]; rfl) | skip
    · rw [k_wtw_k, r_wts_r]; rfl
  · unfold k_wtw
    exact lo_b hp'
  · rw [show p_r (r_wts R (16 * p + j) s th c wd pt) (16 * p + j) 0 = 2 from e0] at z
    exact absurd z (by decide)
  · rw [k_wtw_k]; rfl
  · rw [r_wts_r]; rfl
  · have e6 : p_r (r_wts R (16 * p + j) s th c wd pt) (16 * p + j) 6 = p_r R (16 * p + j) 6 := by rw [r_wts_r]; rfl
    refine ⟨fun z => ?_, fun _ => Or.inl ?_, ?_⟩
    · rw [show p_r (r_wts R (16 * p + j) s th c wd pt) (16 * p + j) 0 = 2 from e0] at z
      exact absurd z (by decide)
    · rw [e6]; exact hti.1 (Or.inl h1)
    · rw [e6, show p_r (r_wts R (16 * p + j) s th c wd pt) (16 * p + j) 3 = p_r R (16 * p + j) 3 by rw [r_wts_r]; rfl, show p_r (r_wts R (16 * p + j) s th c wd pt) (16 * p + j) 4 = p_r R (16 * p + j) 4 by rw [r_wts_r]; rfl]; exact ⟨hti.2.2.1, hti.2.2.2.1, hti.2.2.2.2.1, fun _ => hwg⟩
  · refine PD_1 hpd hp hj hn k_wtw_PD r_wts_PD (fun q hq => congrFun (r_wts_n (R := R) (q := 16 * p + j) (q' := q) hq.symm) 0) (Or.inl hm) (by rw [h1]; decide) (by rw [e0]; decide) (fun _ => Or.inl hl) (fun z => absurd z hh)
theorem WR_wu {b : Nat} {L : c_L} {Z : z_C} {K : c_S} {R : r_S} {p j : Nat} {c : Int32} (h : WR b L Z K R) (hb : b < 2000000000) (hp : p < z_np Z) (hj : j < z_nq Z p) (h1 : r_A R 2467 (16 * p + j) = 1) (hm : r_A R 2483 p = 0) (hl : c_I K 1013 p = 0) (hh : z_hd Z p ≠ some j) : WR (b + 1) L Z (k_wt K p (16 * p + j) 128 c) (r_wu R (16 * p + j) c) := by
  have hpr := h.2.1.1 p hp j hj
  have hti := h.2.2.2.1.2 p hp j hj
  have hpd := h.2.2.2.2.1
  have hn := CQ_nq (WR_cq h)
  have elo : c_I (k_wt K p (16 * p + j) 128 c) 1015 p = c_I K 1015 p + 1 := by
    unfold k_wt
    exact c_Is
  have e0 : r_A (r_wu R (16 * p + j) c) 2467 (16 * p + j) = 2 := congrFun (r_wu_r (R := R) (q := 16 * p + j)) 0
  have ex : EX (16 * p + j) K (k_wt K p (16 * p + j) 128 c) R (r_wu R (16 * p + j) c) := fun q' hq => ⟨k_wt_n hq.symm, k_wt_x, r_wu_n hq.symm, r_wu_y⟩
  refine WR_step h hb hp hj (by rw [k_wt_RS, r_wu_RS]) r_wu_JB ex ?_ (fun p' hp' => ?_) (Or.inr elo) (Or.inl rfl) (fun z => ?_) (fun z => ?_) rfl (fun _ => ⟨rfl, rfl, rfl⟩) ?_ ?_
  · rw [k_wt_x, r_wu_y]
    refine PRt_wt (a := 128) (til := c) hpr ?_ ?_ ?_ ?_ ?_ ?_ ?_ ?_ ?_ ?_ ?_ ?_ ?_ ?_ ?_ ?_ ?_ ?_ ?_ (fun hz => ?_)
    all_goals first | (rw [k_wt_k]; rfl) | (rw [r_wu_r]; rfl) | skip
    · rw [r_wu_r] at hz
      rcases hz with hz | hz
      · exact absurd hz (by decide : ¬ (0 : Int32) = 4)
      · exact absurd hz (by decide : ¬ (0 : Int32) = 7)
  · unfold k_wt
    exact lo_b hp'
  · rw [show p_r (r_wu R (16 * p + j) c) (16 * p + j) 0 = 2 from e0] at z
    exact absurd z (by decide)
  · rw [r_wu_r] at z
    exact absurd rfl z.2
  · have e6 : p_r (r_wu R (16 * p + j) c) (16 * p + j) 6 = p_r R (16 * p + j) 6 := by rw [r_wu_r]; rfl
    refine ⟨fun z => ?_, fun _ => Or.inl ?_, ?_⟩
    · rw [show p_r (r_wu R (16 * p + j) c) (16 * p + j) 0 = 2 from e0] at z
      exact absurd z (by decide)
    · rw [e6]; exact hti.1 (Or.inl h1)
    · rw [e6, show p_r (r_wu R (16 * p + j) c) (16 * p + j) 3 = p_r R (16 * p + j) 3 by rw [r_wu_r]; rfl, show p_r (r_wu R (16 * p + j) c) (16 * p + j) 4 = p_r R (16 * p + j) 4 by rw [r_wu_r]; rfl]; exact ⟨hti.2.2.1, hti.2.2.2.1, hti.2.2.2.2.1, fun _ => Or.inl (by rw [r_wu_r]; rfl)⟩
  · refine PD_1 hpd hp hj hn k_wt_PD r_wu_PD (fun q hq => congrFun (r_wu_n (R := R) (q := 16 * p + j) (q' := q) hq.symm) 0) (Or.inl hm) (by rw [h1]; decide) (by rw [e0]; decide) (fun _ => Or.inl hl) (fun z => absurd z hh)
theorem WR_bk {b : Nat} {L : c_L} {Z : z_C} {K : c_S} {R : r_S} {p j : Nat} (h : WR b L Z K R) (hb : b < 2000000000) (hp : p < z_np Z) (hj : j < z_nq Z p) (h1 : r_A R 2467 (16 * p + j) = 1) : WR (b + 1) L Z (k_bk K p (16 * p + j)) (r_bk R (16 * p + j)) := by
  have hpr := h.2.1.1 p hp j hj
  have hti := h.2.2.2.1.2 p hp j hj
  have hpd := h.2.2.2.2.1
  have elo : c_I (k_bk K p (16 * p + j)) 1015 p = c_I K 1015 p + 1 := by
    unfold k_bk
    exact c_Is
  have est : r_I (r_bk R (16 * p + j)) 2464 = r_I R 2464 + 1 := by unfold r_bk; simp only [r_IA]; exact r_Is
  have e0 : p_r (r_bk R (16 * p + j)) (16 * p + j) 0 = 1 := by rw [r_bk_r]; exact h1
  have ex : EX (16 * p + j) K (k_bk K p (16 * p + j)) R (r_bk R (16 * p + j)) := fun q' hq => ⟨k_bk_n hq.symm, k_bk_x, r_bk_n hq.symm, r_bk_y⟩
  refine WR_step h hb hp hj (by rw [k_bk_RS, r_bk_RS]) r_bk_JB ex ?_ (fun p' hp' => ?_) (Or.inr elo) (Or.inr est) (fun _ => ⟨elo, est, ?_, ?_⟩) (fun z => ?_) rfl (fun _ => ⟨rfl, rfl, rfl⟩) ?_ ?_
  · rw [k_bk_x, r_bk_y, k_bk_k, r_bk_r]
    exact hpr
  · unfold k_bk
    exact lo_b hp'
  · rw [k_bk_k]; rfl
  · rw [r_bk_r]; rfl
  · exact absurd (e0.symm.trans z.1) (by decide)
  · rw [r_bk_r]
    exact hti
  · have : PD Z (k_bk K p (16 * p + j)) (r_bk R (16 * p + j)) = PD Z K R := by
      unfold k_bk r_bk
      simp (disch := decide) only [CQ_I, CQ_A, CQ_G, CQ_P, CQ_J, CQ_i, CQ_a, CQ_z, CT_I, CT_A, CT_G, CT_P, CT_J, CT_i, CT_a, CT_z, CC_I, CC_A, CC_G, CC_P, CC_J, CC_i, CC_a, CC_z, CM_I, CM_A, CM_G, CM_P, CM_J, CM_i, CM_a, CM_z, NM_I, NM_A, NM_G, NM_P, NM_J, NM_i, NM_a, NM_z, TH_I, TH_A, TH_G, TH_P, TH_J, TH_i, TH_a, TH_z, CH_I, CH_A, CH_G, CH_P, CH_J, CH_i, CH_a, CH_z, IN_I, IN_A, IN_G, IN_P, IN_J, IN_i, IN_a, IN_z, ME_I, ME_A, ME_G, ME_P, ME_J, ME_i, ME_a, ME_z, JR_I, JR_A, JR_G, JR_P, JR_J, JR_i, JR_a, JR_z, GL_I, GL_A, GL_G, GL_P, GL_J, GL_i, GL_a, GL_z, TX_I, TX_A, TX_G, TX_P, TX_J, TX_i, TX_a, TX_z, PD_I, PD_A, PD_G, PD_P, PD_J, PD_i, PD_a, PD_z, JB_i, JB_a, JB_z]
    rw [this]; exact hpd
theorem WR_pc {b : Nat} {L : c_L} {Z : z_C} {K : c_S} {R : r_S} {p j : Nat} {v : Int32} (h : WR b L Z K R) (hp : p < z_np Z) (hj : j < z_nq Z p) : WR b L Z (k_pc K p (16 * p + j) v) (r_pc R (16 * p + j) v) := by
  have hpr := h.2.1.1 p hp j hj
  have hti := h.2.2.2.1.2 p hp j hj
  have ex : EX (16 * p + j) K (k_pc K p (16 * p + j) v) R (r_pc R (16 * p + j) v) := fun q' hq => ⟨k_pc_n hq.symm, k_pc_x, r_pc_n hq.symm, r_pc_y⟩
  refine WR_quiet h hp hj (by rw [k_pc_RS, r_pc_RS]) r_pc_JB ?_ ex ?_ (fun _ => rfl) rfl ⟨?_, ?_, ?_, ?_, ?_⟩ rfl (fun _ => ⟨rfl, rfl, rfl⟩) ?_
  · unfold k_pc r_pc
    simp (disch := decide) only [CQ_I, CQ_A, CQ_G, CQ_P, CQ_J, CQ_i, CQ_a, CQ_z, CT_I, CT_A, CT_G, CT_P, CT_J, CT_i, CT_a, CT_z, CC_I, CC_A, CC_G, CC_P, CC_J, CC_i, CC_a, CC_z, CM_I, CM_A, CM_G, CM_P, CM_J, CM_i, CM_a, CM_z, NM_I, NM_A, NM_G, NM_P, NM_J, NM_i, NM_a, NM_z, TH_I, TH_A, TH_G, TH_P, TH_J, TH_i, TH_a, TH_z, CH_I, CH_A, CH_G, CH_P, CH_J, CH_i, CH_a, CH_z, IN_I, IN_A, IN_G, IN_P, IN_J, IN_i, IN_a, IN_z, ME_I, ME_A, ME_G, ME_P, ME_J, ME_i, ME_a, ME_z, JR_I, JR_A, JR_G, JR_P, JR_J, JR_i, JR_a, JR_z, GL_I, GL_A, GL_G, GL_P, GL_J, GL_i, GL_a, GL_z, TX_I, TX_A, TX_G, TX_P, TX_J, TX_i, TX_a, TX_z, PD_I, PD_A, PD_G, PD_P, PD_J, PD_i, PD_a, PD_z, JB_i, JB_a, JB_z]
  · rw [k_pc_x, r_pc_y, k_pc_k, r_pc_r]
    obtain ⟨⟨a1, a2, a3, a4, a5, a6, a7⟩, a8, ⟨a9, a9'⟩, a10, a11, a12, a13, a14, a15⟩ := hpr
    exact ⟨⟨a1, a2, rfl, a4, a5, a6, a7⟩, a8, ⟨a9, a9'⟩, a10, a11, a12, a13, a14, a15⟩
  · rw [k_pc_k]; rfl
  · rw [r_pc_r]; rfl
  · rw [r_pc_r]; rfl
  · rw [r_pc_r]; rfl
  · rw [r_pc_r]; rfl
  · rw [r_pc_r]; exact hti
theorem WR_pr {b : Nat} {L : c_L} {Z : z_C} {K : c_S} {R : r_S} {p j : Nat} {v : Int32} (h : WR b L Z K R) (hp : p < z_np Z) (hj : j < z_nq Z p) : WR b L Z (k_pr K p (16 * p + j) v) (r_pr R (16 * p + j) v) := by
  have hpr := h.2.1.1 p hp j hj
  have hti := h.2.2.2.1.2 p hp j hj
  have ex : EX (16 * p + j) K (k_pr K p (16 * p + j) v) R (r_pr R (16 * p + j) v) := fun q' hq => ⟨k_pr_n hq.symm, k_pr_x, r_pr_n hq.symm, r_pr_y⟩
  refine WR_quiet h hp hj (by rw [k_pr_RS, r_pr_RS]) r_pr_JB ?_ ex ?_ (fun _ => rfl) rfl ⟨?_, ?_, ?_, ?_, ?_⟩ rfl (fun _ => ⟨rfl, rfl, rfl⟩) ?_
  · unfold k_pr r_pr
    simp (disch := decide) only [CQ_I, CQ_A, CQ_G, CQ_P, CQ_J, CQ_i, CQ_a, CQ_z, CT_I, CT_A, CT_G, CT_P, CT_J, CT_i, CT_a, CT_z, CC_I, CC_A, CC_G, CC_P, CC_J, CC_i, CC_a, CC_z, CM_I, CM_A, CM_G, CM_P, CM_J, CM_i, CM_a, CM_z, NM_I, NM_A, NM_G, NM_P, NM_J, NM_i, NM_a, NM_z, TH_I, TH_A, TH_G, TH_P, TH_J, TH_i, TH_a, TH_z, CH_I, CH_A, CH_G, CH_P, CH_J, CH_i, CH_a, CH_z, IN_I, IN_A, IN_G, IN_P, IN_J, IN_i, IN_a, IN_z, ME_I, ME_A, ME_G, ME_P, ME_J, ME_i, ME_a, ME_z, JR_I, JR_A, JR_G, JR_P, JR_J, JR_i, JR_a, JR_z, GL_I, GL_A, GL_G, GL_P, GL_J, GL_i, GL_a, GL_z, TX_I, TX_A, TX_G, TX_P, TX_J, TX_i, TX_a, TX_z, PD_I, PD_A, PD_G, PD_P, PD_J, PD_i, PD_a, PD_z, JB_i, JB_a, JB_z]
  · rw [k_pr_x, r_pr_y, k_pr_k, r_pr_r]
    obtain ⟨⟨a1, a2, a3, a4, a5, a6, a7⟩, a8, ⟨a9, a9'⟩, a10, a11, a12, a13, a14, a15⟩ := hpr
    exact ⟨⟨rfl, a2, a3, a4, a5, a6, a7⟩, a8, ⟨a9, a9'⟩, a10, a11, a12, a13, a14, a15⟩
  · rw [k_pr_k]; rfl
  · rw [r_pr_r]; rfl
  · rw [r_pr_r]; rfl
  · rw [r_pr_r]; rfl
  · rw [r_pr_r]; rfl
  · rw [r_pr_r]; exact hti
theorem WR_he {b : Nat} {L : c_L} {Z : z_C} {K : c_S} {R : r_S} {p j : Nat} {v : Int32} (h : WR b L Z K R) (hp : p < z_np Z) (hj : j < z_nq Z p) (hv : v = 0 ∨ v = 1) : WR b L Z (k_he K p (16 * p + j) v) (r_he R (16 * p + j) v) := by
  have hpr := h.2.1.1 p hp j hj
  have hti := h.2.2.2.1.2 p hp j hj
  have ex : EX (16 * p + j) K (k_he K p (16 * p + j) v) R (r_he R (16 * p + j) v) := fun q' hq => ⟨k_he_n hq.symm, k_he_x, r_he_n hq.symm, r_he_y⟩
  refine WR_quiet h hp hj (by rw [k_he_RS, r_he_RS]) r_he_JB ?_ ex ?_ (fun _ => rfl) rfl ⟨?_, ?_, ?_, ?_, ?_⟩ rfl (fun _ => ⟨rfl, rfl, rfl⟩) ?_
  · unfold k_he r_he
    simp (disch := decide) only [CQ_I, CQ_A, CQ_G, CQ_P, CQ_J, CQ_i, CQ_a, CQ_z, CT_I, CT_A, CT_G, CT_P, CT_J, CT_i, CT_a, CT_z, CC_I, CC_A, CC_G, CC_P, CC_J, CC_i, CC_a, CC_z, CM_I, CM_A, CM_G, CM_P, CM_J, CM_i, CM_a, CM_z, NM_I, NM_A, NM_G, NM_P, NM_J, NM_i, NM_a, NM_z, TH_I, TH_A, TH_G, TH_P, TH_J, TH_i, TH_a, TH_z, CH_I, CH_A, CH_G, CH_P, CH_J, CH_i, CH_a, CH_z, IN_I, IN_A, IN_G, IN_P, IN_J, IN_i, IN_a, IN_z, ME_I, ME_A, ME_G, ME_P, ME_J, ME_i, ME_a, ME_z, JR_I, JR_A, JR_G, JR_P, JR_J, JR_i, JR_a, JR_z, GL_I, GL_A, GL_G, GL_P, GL_J, GL_i, GL_a, GL_z, TX_I, TX_A, TX_G, TX_P, TX_J, TX_i, TX_a, TX_z, PD_I, PD_A, PD_G, PD_P, PD_J, PD_i, PD_a, PD_z, JB_i, JB_a, JB_z]
  · rw [k_he_x, r_he_y, k_he_k, r_he_r]
    obtain ⟨⟨a1, a2, a3, a4, a5, a6, a7⟩, a8, ⟨a9, a9'⟩, a10, a11, a12, a13, a14, a15⟩ := hpr
    exact ⟨⟨a1, a2, a3, a4, a5, a6, rfl⟩, a8, ⟨a9, a9'⟩, a10, a11, a12, a13, hv, a15⟩
  · rw [k_he_k]; rfl
  · rw [r_he_r]; rfl
  · rw [r_he_r]; rfl
  · rw [r_he_r]; rfl
  · rw [r_he_r]; rfl
  · rw [r_he_r]; exact hti
theorem WR_du {b : Nat} {L : c_L} {Z : z_C} {K : c_S} {R : r_S} {p j : Nat} {v : Int32} (h : WR b L Z K R) (hp : p < z_np Z) (hj : j < z_nq Z p) (hv : 0 ≤ v.toInt) (hd : ¬ (r_A R 2439 (16 * p + j)).toInt ≤ 0) (hr : (r_A R 2473 (16 * p + j)).toInt ≤ v.toInt) : WR b L Z (k_du K p (16 * p + j) v) (r_du R (16 * p + j) v) := by
  have hpr := h.2.1.1 p hp j hj
  have hti := h.2.2.2.1.2 p hp j hj
  have ex : EX (16 * p + j) K (k_du K p (16 * p + j) v) R (r_du R (16 * p + j) v) := fun q' hq => ⟨k_du_n hq.symm, k_du_x, r_du_n hq.symm, r_du_y⟩
  refine WR_quiet h hp hj (by rw [k_du_RS, r_du_RS]) r_du_JB ?_ ex ?_ (fun _ => rfl) rfl ⟨?_, ?_, ?_, ?_, ?_⟩ rfl (fun _ => ⟨rfl, rfl, rfl⟩) ?_
  · unfold k_du r_du
    simp (disch := decide) only [CQ_I, CQ_A, CQ_G, CQ_P, CQ_J, CQ_i, CQ_a, CQ_z, CT_I, CT_A, CT_G, CT_P, CT_J, CT_i, CT_a, CT_z, CC_I, CC_A, CC_G, CC_P, CC_J, CC_i, CC_a, CC_z, CM_I, CM_A, CM_G, CM_P, CM_J, CM_i, CM_a, CM_z, NM_I, NM_A, NM_G, NM_P, NM_J, NM_i, NM_a, NM_z, TH_I, TH_A, TH_G, TH_P, TH_J, TH_i, TH_a, TH_z, CH_I, CH_A, CH_G, CH_P, CH_J, CH_i, CH_a, CH_z, IN_I, IN_A, IN_G, IN_P, IN_J, IN_i, IN_a, IN_z, ME_I, ME_A, ME_G, ME_P, ME_J, ME_i, ME_a, ME_z, JR_I, JR_A, JR_G, JR_P, JR_J, JR_i, JR_a, JR_z, GL_I, GL_A, GL_G, GL_P, GL_J, GL_i, GL_a, GL_z, TX_I, TX_A, TX_G, TX_P, TX_J, TX_i, TX_a, TX_z, PD_I, PD_A, PD_G, PD_P, PD_J, PD_i, PD_a, PD_z, JB_i, JB_a, JB_z]
  · rw [k_du_x, r_du_y, k_du_k, r_du_r]
    obtain ⟨⟨a1, a2, a3, a4, a5, a6, a7⟩, a8, ⟨a9, a9'⟩, a10, a11, a12, a13, a14, a15⟩ := hpr
    exact ⟨⟨a1, a2, a3, a4, a5, a6, a7⟩, a8, ⟨(if_neg (by decide : ¬ (1 : Int32) = 0)).symm, fun _ => hv⟩, a10, a11, a12, a13, a14, Or.inr rfl⟩
  · rw [k_du_k]; rfl
  · rw [r_du_r]; rfl
  · rw [r_du_r]; rfl
  · rw [r_du_r]; rfl
  · rw [r_du_r]; rfl
  · rw [r_du_r]; exact ⟨hti.1, hti.2.1, hti.2.2.1, fun z => absurd z hd, fun _ => hr, hti.2.2.2.2.2⟩
theorem WR_nd {b : Nat} {L : c_L} {Z : z_C} {K : c_S} {R : r_S} {p j : Nat}  (h : WR b L Z K R) (hp : p < z_np Z) (hj : j < z_nq Z p) : WR b L Z (k_nd K p (16 * p + j)) (r_nd R (16 * p + j)) := by
  have hpr := h.2.1.1 p hp j hj
  have hti := h.2.2.2.1.2 p hp j hj
  have ex : EX (16 * p + j) K (k_nd K p (16 * p + j)) R (r_nd R (16 * p + j)) := fun q' hq => ⟨k_nd_n hq.symm, k_nd_x, r_nd_n hq.symm, r_nd_y⟩
  refine WR_quiet h hp hj (by rw [k_nd_RS, r_nd_RS]) r_nd_JB ?_ ex ?_ (fun _ => rfl) rfl ⟨?_, ?_, ?_, ?_, ?_⟩ rfl (fun _ => ⟨rfl, rfl, rfl⟩) ?_
  · unfold k_nd r_nd
    simp (disch := decide) only [CQ_I, CQ_A, CQ_G, CQ_P, CQ_J, CQ_i, CQ_a, CQ_z, CT_I, CT_A, CT_G, CT_P, CT_J, CT_i, CT_a, CT_z, CC_I, CC_A, CC_G, CC_P, CC_J, CC_i, CC_a, CC_z, CM_I, CM_A, CM_G, CM_P, CM_J, CM_i, CM_a, CM_z, NM_I, NM_A, NM_G, NM_P, NM_J, NM_i, NM_a, NM_z, TH_I, TH_A, TH_G, TH_P, TH_J, TH_i, TH_a, TH_z, CH_I, CH_A, CH_G, CH_P, CH_J, CH_i, CH_a, CH_z, IN_I, IN_A, IN_G, IN_P, IN_J, IN_i, IN_a, IN_z, ME_I, ME_A, ME_G, ME_P, ME_J, ME_i, ME_a, ME_z, JR_I, JR_A, JR_G, JR_P, JR_J, JR_i, JR_a, JR_z, GL_I, GL_A, GL_G, GL_P, GL_J, GL_i, GL_a, GL_z, TX_I, TX_A, TX_G, TX_P, TX_J, TX_i, TX_a, TX_z, PD_I, PD_A, PD_G, PD_P, PD_J, PD_i, PD_a, PD_z, JB_i, JB_a, JB_z]
  · rw [k_nd_x, r_nd_y, k_nd_k, r_nd_r]
    obtain ⟨⟨a1, a2, a3, a4, a5, a6, a7⟩, a8, ⟨a9, a9'⟩, a10, a11, a12, a13, a14, a15⟩ := hpr
    exact ⟨⟨a1, a2, a3, a4, a5, a6, a7⟩, a8, ⟨(if_pos rfl).symm, fun z => absurd rfl z⟩, a10, a11, a12, a13, a14, Or.inl rfl⟩
  · rw [k_nd_k]; rfl
  · rw [r_nd_r]; rfl
  · rw [r_nd_r]; rfl
  · rw [r_nd_r]; rfl
  · rw [r_nd_r]; rfl
  · rw [r_nd_r]; exact ⟨hti.1, hti.2.1, hti.2.2.1, fun _ => rfl, fun z => absurd rfl z, hti.2.2.2.2.2⟩
theorem WR_dn {b : Nat} {L : c_L} {Z : z_C} {K : c_S} {R : r_S} {p j : Nat} {v : Int32} (h : WR b L Z K R) (hp : p < z_np Z) (hj : j < z_nq Z p) : WR b L Z (k_dn K p (16 * p + j) v) (r_dn R (16 * p + j) v) := by
  have hpr := h.2.1.1 p hp j hj
  have hti := h.2.2.2.1.2 p hp j hj
  have ex : EX (16 * p + j) K (k_dn K p (16 * p + j) v) R (r_dn R (16 * p + j) v) := fun q' hq => ⟨k_dn_n hq.symm, k_dn_x, r_dn_n hq.symm, r_dn_y⟩
  refine WR_quiet h hp hj (by rw [k_dn_RS, r_dn_RS]) r_dn_JB ?_ ex ?_ (fun _ => rfl) rfl ⟨?_, ?_, ?_, ?_, ?_⟩ rfl (fun _ => ⟨rfl, rfl, rfl⟩) ?_
  · unfold k_dn r_dn
    simp (disch := decide) only [CQ_I, CQ_A, CQ_G, CQ_P, CQ_J, CQ_i, CQ_a, CQ_z, CT_I, CT_A, CT_G, CT_P, CT_J, CT_i, CT_a, CT_z, CC_I, CC_A, CC_G, CC_P, CC_J, CC_i, CC_a, CC_z, CM_I, CM_A, CM_G, CM_P, CM_J, CM_i, CM_a, CM_z, NM_I, NM_A, NM_G, NM_P, NM_J, NM_i, NM_a, NM_z, TH_I, TH_A, TH_G, TH_P, TH_J, TH_i, TH_a, TH_z, CH_I, CH_A, CH_G, CH_P, CH_J, CH_i, CH_a, CH_z, IN_I, IN_A, IN_G, IN_P, IN_J, IN_i, IN_a, IN_z, ME_I, ME_A, ME_G, ME_P, ME_J, ME_i, ME_a, ME_z, JR_I, JR_A, JR_G, JR_P, JR_J, JR_i, JR_a, JR_z, GL_I, GL_A, GL_G, GL_P, GL_J, GL_i, GL_a, GL_z, TX_I, TX_A, TX_G, TX_P, TX_J, TX_i, TX_a, TX_z, PD_I, PD_A, PD_G, PD_P, PD_J, PD_i, PD_a, PD_z, JB_i, JB_a, JB_z]
  · rw [k_dn_x, r_dn_y, k_dn_k, r_dn_r]
    obtain ⟨⟨a1, a2, a3, a4, a5, a6, a7⟩, a8, ⟨a9, a9'⟩, a10, a11, a12, a13, a14, a15⟩ := hpr
    exact ⟨⟨a1, a2, a3, a4, rfl, a6, a7⟩, a8, ⟨a9, a9'⟩, a10, a11, a12, a13, a14, a15⟩
  · rw [k_dn_k]; rfl
  · rw [r_dn_r]; rfl
  · rw [r_dn_r]; rfl
  · rw [r_dn_r]; rfl
  · rw [r_dn_r]; rfl
  · rw [r_dn_r]; exact hti
/-- a register -/
theorem WR_x {b : Nat} {L : c_L} {Z : z_C} {K : c_S} {R : r_S} {p j i : Nat} {v : Int32} (h : WR b L Z K R) (hp : p < z_np Z) (hj : j < z_nq Z p) (hi : i < 32) : WR b L Z (cs_A K 1411 (16 * p + j) i v) (rs_A R 2477 (32 * (16 * p + j) + i) v) := by
  have hpr := h.2.1.1 p hp j hj
  have hti := h.2.2.2.1.2 p hp j hj
  refine WR_quiet h hp hj ?_ ?_ ?_ (fun q' hq => ⟨rfl, px_An (Or.inr hq.symm), pr_f (by decide), py_n (fun z => hq (by omega))⟩) ?_ (fun _ => rfl) rfl ⟨rfl, ?_, ?_, ?_, ?_⟩ rfl (fun _ => ⟨rfl, rfl, rfl⟩) ?_
  · unfold RS
    simp (disch := decide) only [CQ_I, CQ_A, CQ_G, CQ_P, CQ_J, CQ_i, CQ_a, CQ_z, CT_I, CT_A, CT_G, CT_P, CT_J, CT_i, CT_a, CT_z, CC_I, CC_A, CC_G, CC_P, CC_J, CC_i, CC_a, CC_z, CM_I, CM_A, CM_G, CM_P, CM_J, CM_i, CM_a, CM_z, NM_I, NM_A, NM_G, NM_P, NM_J, NM_i, NM_a, NM_z, TH_I, TH_A, TH_G, TH_P, TH_J, TH_i, TH_a, TH_z, CH_I, CH_A, CH_G, CH_P, CH_J, CH_i, CH_a, CH_z, IN_I, IN_A, IN_G, IN_P, IN_J, IN_i, IN_a, IN_z, ME_I, ME_A, ME_G, ME_P, ME_J, ME_i, ME_a, ME_z, JR_I, JR_A, JR_G, JR_P, JR_J, JR_i, JR_a, JR_z, GL_I, GL_A, GL_G, GL_P, GL_J, GL_i, GL_a, GL_z, TX_I, TX_A, TX_G, TX_P, TX_J, TX_i, TX_a, TX_z, PD_I, PD_A, PD_G, PD_P, PD_J, PD_i, PD_a, PD_z, JB_i, JB_a, JB_z]
  · simp (disch := decide) only [CQ_I, CQ_A, CQ_G, CQ_P, CQ_J, CQ_i, CQ_a, CQ_z, CT_I, CT_A, CT_G, CT_P, CT_J, CT_i, CT_a, CT_z, CC_I, CC_A, CC_G, CC_P, CC_J, CC_i, CC_a, CC_z, CM_I, CM_A, CM_G, CM_P, CM_J, CM_i, CM_a, CM_z, NM_I, NM_A, NM_G, NM_P, NM_J, NM_i, NM_a, NM_z, TH_I, TH_A, TH_G, TH_P, TH_J, TH_i, TH_a, TH_z, CH_I, CH_A, CH_G, CH_P, CH_J, CH_i, CH_a, CH_z, IN_I, IN_A, IN_G, IN_P, IN_J, IN_i, IN_a, IN_z, ME_I, ME_A, ME_G, ME_P, ME_J, ME_i, ME_a, ME_z, JR_I, JR_A, JR_G, JR_P, JR_J, JR_i, JR_a, JR_z, GL_I, GL_A, GL_G, GL_P, GL_J, GL_i, GL_a, GL_z, TX_I, TX_A, TX_G, TX_P, TX_J, TX_i, TX_a, TX_z, PD_I, PD_A, PD_G, PD_P, PD_J, PD_i, PD_a, PD_z, JB_i, JB_a, JB_z]
  · simp (disch := decide) only [CQ_I, CQ_A, CQ_G, CQ_P, CQ_J, CQ_i, CQ_a, CQ_z, CT_I, CT_A, CT_G, CT_P, CT_J, CT_i, CT_a, CT_z, CC_I, CC_A, CC_G, CC_P, CC_J, CC_i, CC_a, CC_z, CM_I, CM_A, CM_G, CM_P, CM_J, CM_i, CM_a, CM_z, NM_I, NM_A, NM_G, NM_P, NM_J, NM_i, NM_a, NM_z, TH_I, TH_A, TH_G, TH_P, TH_J, TH_i, TH_a, TH_z, CH_I, CH_A, CH_G, CH_P, CH_J, CH_i, CH_a, CH_z, IN_I, IN_A, IN_G, IN_P, IN_J, IN_i, IN_a, IN_z, ME_I, ME_A, ME_G, ME_P, ME_J, ME_i, ME_a, ME_z, JR_I, JR_A, JR_G, JR_P, JR_J, JR_i, JR_a, JR_z, GL_I, GL_A, GL_G, GL_P, GL_J, GL_i, GL_a, GL_z, TX_I, TX_A, TX_G, TX_P, TX_J, TX_i, TX_a, TX_z, PD_I, PD_A, PD_G, PD_P, PD_J, PD_i, PD_a, PD_z, JB_i, JB_a, JB_z]
  · rw [pk_A, px_Aw, pr_f (by decide), py_w hi]
    obtain ⟨a1, a8, a9⟩ := hpr
    refine ⟨a1, fun n hn => ?_, a9⟩
    show (if n = i then v else p_x K (16 * p + j) n) = (if n = i then v else p_y R (16 * p + j) n)
    rw [a8 n hn]
  · rw [pr_f (by decide)]
  · rw [pr_f (by decide)]
  · rw [pr_f (by decide)]
  · rw [pr_f (by decide)]
  · rw [pr_f (by decide)]; exact hti
