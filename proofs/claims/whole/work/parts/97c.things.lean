/-! More frames. -/
theorem DP_I {Z : z_C} {K : c_S} {R : r_S} {f i : Nat} {v : Int32} (h : f < 1400 ∨ 1420 ≤ f) : DP Z (cs_I K f i v) R = DP Z K R := by
  unfold DP
  have e : ∀ q : Nat, p_k (cs_I K f i v) q = p_k K q := fun q => pk_f h
  simp only [e, px_I]
theorem DP_G {Z : z_C} {K : c_S} {R : r_S} {f i : Nat} {g : Nat → Int32} (h : f ≠ 1411) : DP Z (cs_G K f i g) R = DP Z K R := by
  unfold DP
  have e : ∀ q : Nat, p_x (cs_G K f i g) q = p_x K q := fun q => px_n (Or.inl h)
  simp only [e, pk_G]
theorem DP_A {Z : z_C} {K : c_S} {R : r_S} {f i j : Nat} {v : Int32} (h : f ≠ 1411) : DP Z (cs_A K f i j v) R = DP Z K R := DP_G h
theorem DP_P {Z : z_C} {K : c_S} {R : r_S} {f i : Nat} {v : Option Nat} : DP Z (cs_P K f i v) R = DP Z K R := rfl
theorem DP_i {Z : z_C} {K : c_S} {R : r_S} {f : Nat} {v : Int32} : DP Z K (rs_I R f v) = DP Z K R := rfl
theorem DP_a {Z : z_C} {K : c_S} {R : r_S} {f i : Nat} {v : Int32} (h : f < 2467 ∨ 2483 ≤ f) : DP Z K (rs_A R f i v) = DP Z K R := by
  unfold DP
  have e : ∀ q : Nat, p_r (rs_A R f i v) q = p_r R q := fun q => pr_f (by omega)
  have e2 : ∀ q : Nat, p_y (rs_A R f i v) q = p_y R q := fun q => py_f (by omega)
  simp only [e, e2]
theorem OP_I {b : Nat} {Z : z_C} {K : c_S} {R : r_S} {f i : Nat} {v : Int32} (h : (f < 1400 ∨ 1420 ≤ f) ∧ f ≠ 1015) : OP b Z (cs_I K f i v) R = OP b Z K R := by
  unfold OP
  have e : p_k (cs_I K f i v) = p_k K := funext fun q => pk_f h.1
  have e2 : (fun p => c_I (cs_I K f i v) 1015 p) = (fun p => c_I K 1015 p) := funext fun p => if_neg (fun z => h.2 z.1.symm)
  rw [e, e2]
theorem OP_G {b : Nat} {Z : z_C} {K : c_S} {R : r_S} {f i : Nat} {g : Nat → Int32} : OP b Z (cs_G K f i g) R = OP b Z K R := rfl
theorem OP_A {b : Nat} {Z : z_C} {K : c_S} {R : r_S} {f i j : Nat} {v : Int32} : OP b Z (cs_A K f i j v) R = OP b Z K R := rfl
theorem OP_P {b : Nat} {Z : z_C} {K : c_S} {R : r_S} {f i : Nat} {v : Option Nat} : OP b Z (cs_P K f i v) R = OP b Z K R := rfl
theorem OP_i {b : Nat} {Z : z_C} {K : c_S} {R : r_S} {f : Nat} {v : Int32} (h : f ≠ 2464) : OP b Z K (rs_I R f v) = OP b Z K R := by
  unfold OP
  rw [show r_I (rs_I R f v) 2464 = r_I R 2464 from if_neg (fun z => h z.symm)]
  rfl
theorem OP_a {b : Nat} {Z : z_C} {K : c_S} {R : r_S} {f i : Nat} {v : Int32} (h : f < 2467 ∨ 2483 ≤ f) : OP b Z K (rs_A R f i v) = OP b Z K R := by
  unfold OP
  have e : p_r (rs_A R f i v) = p_r R := funext fun q => pr_f (by omega)
  rw [e, r_IA]
theorem TI_i {Z : z_C} {R : r_S} {f : Nat} {v : Int32} (h : f ≠ 2463) : TI Z (rs_I R f v) = TI Z R := by
  unfold TI
  rw [show r_I (rs_I R f v) 2463 = r_I R 2463 from if_neg (fun z => h z.symm)]
  rfl
theorem TI_a {Z : z_C} {R : r_S} {f i : Nat} {v : Int32} (h : (f < 2467 ∨ 2483 ≤ f) ∧ f ∉ [2439, 2448, 2450]) : TI Z (rs_A R f i v) = TI Z R := by
  unfold TI
  have e : ∀ q : Nat, p_r (rs_A R f i v) q = p_r R q := fun q => pr_f (by omega)
  have e2 : ∀ g x : Nat, g ∈ [2439, 2448, 2450] → r_A (rs_A R f i v) g x = r_A R g x := fun g x hg => if_neg (fun z => h.2 (by rw [← z.1]; exact hg))
  simp only [e, r_IA, e2 2439 _ (by decide), e2 2448 _ (by decide), e2 2450 _ (by decide)]
theorem r_An {R : r_S} {f i f' i' : Nat} {v : Int32} (h : f' ≠ f ∨ i' ≠ i) : r_A (rs_A R f i v) f' i' = r_A R f' i' := if_neg (fun z => h.elim (fun n => n z.1) (fun n => n z.2))
theorem c_In {K : c_S} {f i f' i' : Nat} {v : Int32} (h : f' ≠ f ∨ i' ≠ i) : c_I (cs_I K f i v) f' i' = c_I K f' i' := if_neg (fun z => h.elim (fun n => n z.1) (fun n => n z.2))
/-! the things of one partition -/
def THp (Z : z_C) (p : Nat) (K : c_S) (R : r_S) : Prop :=
  (∀ i : Nat, i < z_nt Z p 0 → c_I K 2001 (48 * p + i) = r_A R 2492 (8 * p + i) ∧ 0 ≤ (r_A R 2492 (8 * p + i)).toInt ∧ (r_A R 2492 (8 * p + i)).toInt ≤ (r_A R 2444 (8 * p + i)).toInt) ∧ (∀ i : Nat, i < z_nt Z p 1 → c_I K 2001 (48 * p + (8 + i)) = r_A R 2493 (8 * p + i) ∧ (r_A R 2493 (8 * p + i) = 0 ∨ r_A R 2493 (8 * p + i) = 1)) ∧
    (∀ i : Nat, i < z_nt Z p 2 → QUt (z_dc Z (48 * p + (16 + i))) (c_I K 1602 (48 * p + (16 + i))) (c_I K 1603 (48 * p + (16 + i))) (c_A K 1600 (48 * p + (16 + i))) (r_A R 2494 (8 * p + i)) (fun n => r_A R 2495 (16 * (8 * p + i) + n))) ∧
    (∀ i : Nat, i < z_nt Z p 3 → c_I K 2001 (48 * p + (24 + i)) = r_A R 2496 (8 * p + i) ∧ (r_A R 2496 (8 * p + i) = 0 ∨ r_A R 2496 (8 * p + i) = 1) ∧ (r_A R 2496 (8 * p + i) = 1 → c_I K 2005 (48 * p + (24 + i)) = r_A R 2497 (8 * p + i))) ∧ (∀ i : Nat, i < z_nt Z p 4 → c_I K 2001 (48 * p + (32 + i)) = 0)
theorem TH_v {Z : z_C} {K : c_S} {R : r_S} (h : TH Z K R) {p : Nat} (hp : p < z_np Z) : THp Z p K R := h p hp
theorem TH_of {Z : z_C} {K : c_S} {R : r_S} (h : ∀ p : Nat, p < z_np Z → THp Z p K R) : TH Z K R := h
def NTb (Z : z_C) : Prop := ∀ p : Nat, p < z_np Z → z_nt Z p 0 ≤ 8 ∧ z_nt Z p 1 ≤ 8 ∧ z_nt Z p 2 ≤ 8 ∧ z_nt Z p 3 ≤ 8 ∧ z_nt Z p 4 ≤ 16 ∧ ∀ i : Nat, i < z_nt Z p 2 → 1 ≤ z_dc Z (48 * p + (16 + i)) ∧ z_dc Z (48 * p + (16 + i)) ≤ 16
theorem NT_of {L : c_L} {Z : z_C} {K : c_S} {R : r_S} (h : CT L Z K R) : NTb Z := fun p hp => by
  have a := fun s hs => (CT_n h hp (s := s) hs).1
  exact ⟨a 0 (by decide), a 1 (by decide), a 2 (by decide), a 3 (by decide), a 4 (by decide), fun i hi => ⟨((h p hp).2.2.2.1 i hi).2.2.2.2.1, ((h p hp).2.2.2.1 i hi).2.2.2.2.2.1⟩⟩
/-- another partition's things stay -/
theorem TH_q {Z : z_C} {K K' : c_S} {R R' : r_S} {p : Nat} (h : TH Z K R) (nb : NTb Z) (ek : ∀ f i : Nat, f ∈ [2001, 2005, 1602, 1603] → i / 48 ≠ p → i < 1000 → c_I K' f i = c_I K f i) (ea : ∀ i n : Nat, i / 48 ≠ p → i < 1000 → c_A K' 1600 i n = c_A K 1600 i n) (er : ∀ f i : Nat, f ∈ [2444, 2492, 2493, 2494, 2496, 2497] → i / 8 ≠ p → r_A R' f i = r_A R f i) (er2 : ∀ i : Nat, i / 128 ≠ p → r_A R' 2495 i = r_A R 2495 i) (np16 : z_np Z ≤ 16) (n : p < z_np Z → THp Z p K' R') : TH Z K' R' := by
  refine TH_of fun p' hp' => ?_
  by_cases e : p' = p
  · subst e; exact n hp'
  · obtain ⟨n0, n1, n2, n3, n4, n5⟩ := nb p' hp'
    obtain ⟨h0, h1, h2, h3, h4⟩ := TH_v h hp'
    refine ⟨fun i hi => ?_, fun i hi => ?_, fun i hi => ?_, fun i hi => ?_, fun i hi => ?_⟩
    · rw [ek _ _ (by decide) (by omega) (by omega), er 2492 _ (by decide) (by omega), er 2444 _ (by decide) (by omega)]; exact h0 i hi
    · rw [ek _ _ (by decide) (by omega) (by omega), er _ _ (by decide) (by omega)]; exact h1 i hi
    · rw [ek 1602 _ (by decide) (by omega) (by omega), ek 1603 _ (by decide) (by omega) (by omega), er _ _ (by decide) (by omega)]
      obtain ⟨a, m, q1, q2, q3, q4, q5, q6⟩ := h2 i hi
      refine ⟨a, m, q1, q2, q3, q4, q5, fun k hk => ?_⟩
      have d16 := n5 i hi
      rw [ea _ _ (by omega) (by omega), q6 k hk]
      exact (er2 _ (by omega)).symm
    · rw [ek 2001 _ (by decide) (by omega) (by omega), ek 2005 _ (by decide) (by omega) (by omega), er 2496 _ (by decide) (by omega), er 2497 _ (by decide) (by omega)]; exact h3 i hi
    · rw [ek _ _ (by decide) (by omega) (by omega)]; exact h4 i hi
theorem TH_sem {Z : z_C} {K : c_S} {R : r_S} {p i : Nat} {v : Int32} (h : TH Z K R) (nb : NTb Z) (np16 : z_np Z ≤ 16) (hp : p < z_np Z) (hi : i < z_nt Z p 0) (hv : 0 ≤ v.toInt ∧ v.toInt ≤ (r_A R 2444 (8 * p + i)).toInt) : TH Z (cs_I K 2001 (48 * p + i) v) (rs_A R 2492 (8 * p + i) v) := by
  obtain ⟨n0, n1, n2, n3, n4, n5⟩ := nb p hp
  obtain ⟨h0, h1, h2, h3, h4⟩ := TH_v h hp
  refine TH_q (p := p) h nb (fun f x _ hx _ => c_In (Or.inr (fun e => hx (by omega)))) (fun _ _ _ _ => rfl) (fun f x _ hx => r_An (Or.inr (fun e => hx (by omega)))) (fun _ _ => rfl) np16 (fun _ => ⟨fun x hx => ?_, fun x hx => ?_, fun x hx => ?_, fun x hx => ?_, fun x hx => ?_⟩)
  · by_cases e : x = i
    · subst e; rw [c_Is, r_As, r_An (Or.inl (by decide))]; exact ⟨rfl, hv⟩
    · rw [c_In (Or.inr (by omega)), r_An (Or.inr (by omega)), r_An (Or.inl (by decide))]; exact h0 x hx
  · rw [c_In (Or.inr (by omega))]; exact h1 x hx
  · exact h2 x hx
  · rw [c_In (Or.inr (by omega))]; exact h3 x hx
  · rw [c_In (Or.inr (by omega))]; exact h4 x hx
theorem TH_ev {Z : z_C} {K : c_S} {R : r_S} {p i : Nat} {v : Int32} (h : TH Z K R) (nb : NTb Z) (np16 : z_np Z ≤ 16) (hp : p < z_np Z) (hi : i < z_nt Z p 1) (hv : v = 0 ∨ v = 1) : TH Z (cs_I K 2001 (48 * p + (8 + i)) v) (rs_A R 2493 (8 * p + i) v) := by
  obtain ⟨n0, n1, n2, n3, n4, n5⟩ := nb p hp
  obtain ⟨h0, h1, h2, h3, h4⟩ := TH_v h hp
  refine TH_q (p := p) h nb (fun f x _ hx _ => c_In (Or.inr (fun e => hx (by omega)))) (fun _ _ _ _ => rfl) (fun f x _ hx => r_An (Or.inr (fun e => hx (by omega)))) (fun _ _ => rfl) np16 (fun _ => ⟨fun x hx => ?_, fun x hx => ?_, fun x hx => ?_, fun x hx => ?_, fun x hx => ?_⟩)
  · rw [c_In (Or.inr (by omega))]; exact h0 x hx
  · by_cases e : x = i
    · subst e; rw [c_Is, r_As]; exact ⟨rfl, hv⟩
    · rw [c_In (Or.inr (by omega)), r_An (Or.inr (by omega))]; exact h1 x hx
  · exact h2 x hx
  · rw [c_In (Or.inr (by omega))]; exact h3 x hx
  · rw [c_In (Or.inr (by omega))]; exact h4 x hx
theorem TH_b0 {Z : z_C} {K : c_S} {R : r_S} {p i : Nat} (h : TH Z K R) (nb : NTb Z) (np16 : z_np Z ≤ 16) (hp : p < z_np Z) (hi : i < z_nt Z p 3) : TH Z (cs_I K 2001 (48 * p + (24 + i)) 0) (rs_A R 2496 (8 * p + i) 0) := by
  obtain ⟨n0, n1, n2, n3, n4, n5⟩ := nb p hp
  obtain ⟨h0, h1, h2, h3, h4⟩ := TH_v h hp
  refine TH_q (p := p) h nb (fun f x _ hx _ => c_In (Or.inr (fun e => hx (by omega)))) (fun _ _ _ _ => rfl) (fun f x _ hx => r_An (Or.inr (fun e => hx (by omega)))) (fun _ _ => rfl) np16 (fun _ => ⟨fun x hx => ?_, fun x hx => ?_, fun x hx => ?_, fun x hx => ?_, fun x hx => ?_⟩)
  · rw [c_In (Or.inr (by omega))]; exact h0 x hx
  · rw [c_In (Or.inr (by omega))]; exact h1 x hx
  · exact h2 x hx
  · by_cases e : x = i
    · subst e; rw [c_Is, r_As]; exact ⟨rfl, Or.inl rfl, fun z => absurd z (by decide)⟩
    · rw [c_In (Or.inr (by omega)), r_An (Or.inr (by omega)), r_An (Or.inl (by decide))]; exact h3 x hx
  · rw [c_In (Or.inr (by omega))]; exact h4 x hx
theorem TH_b1 {Z : z_C} {K : c_S} {R : r_S} {p i : Nat} {w : Int32} (h : TH Z K R) (nb : NTb Z) (np16 : z_np Z ≤ 16) (hp : p < z_np Z) (hi : i < z_nt Z p 3) : TH Z (cs_I (cs_I K 2001 (48 * p + (24 + i)) 1) 2005 (48 * p + (24 + i)) w) (rs_A (rs_A R 2496 (8 * p + i) 1) 2497 (8 * p + i) w) := by
  obtain ⟨n0, n1, n2, n3, n4, n5⟩ := nb p hp
  obtain ⟨h0, h1, h2, h3, h4⟩ := TH_v h hp
  refine TH_q (p := p) h nb (fun f x _ hx _ => by rw [c_In (Or.inr (fun e => hx (by omega))), c_In (Or.inr (fun e => hx (by omega)))]) (fun _ _ _ _ => rfl) (fun f x _ hx => by rw [r_An (Or.inr (fun e => hx (by omega))), r_An (Or.inr (fun e => hx (by omega)))]) (fun _ _ => rfl) np16 (fun _ => ⟨fun x hx => ?_, fun x hx => ?_, fun x hx => ?_, fun x hx => ?_, fun x hx => ?_⟩)
  · rw [c_In (Or.inl (by decide)), c_In (Or.inr (by omega))]; exact h0 x hx
  · rw [c_In (Or.inl (by decide)), c_In (Or.inr (by omega))]; exact h1 x hx
  · exact h2 x hx
  · by_cases e : x = i
    · subst e
      rw [c_In (Or.inl (by decide)), c_Is, r_An (Or.inl (by decide)), r_As, c_Is, r_As]
      exact ⟨rfl, Or.inr rfl, fun _ => rfl⟩
    · rw [c_In (Or.inl (by decide)), c_In (Or.inr (by omega)), r_An (Or.inl (by decide)), r_An (Or.inr (by omega)), c_In (Or.inr (by omega)), c_In (Or.inl (by decide)), r_An (Or.inr (by omega)), r_An (Or.inl (by decide))]
      exact h3 x hx
  · rw [c_In (Or.inl (by decide)), c_In (Or.inr (by omega))]; exact h4 x hx
theorem WR_sem {b : Nat} {L : c_L} {Z : z_C} {K : c_S} {R : r_S} {p i : Nat} {v : Int32} (h : WR b L Z K R) (hp : p < z_np Z) (hi : i < z_nt Z p 0) (hv : 0 ≤ v.toInt ∧ v.toInt ≤ (r_A R 2444 (8 * p + i)).toInt) : WR b L Z (cs_I K 2001 (48 * p + i) v) (rs_A R 2492 (8 * p + i) v) := by
  have thn := TH_sem h.1.2.1 (NT_of (WR_ct h)) (CQ_np (WR_cq h)) hp hi hv
  obtain ⟨⟨⟨cq, ct, cc, cm⟩, th, ch, inn, me, jr, gl, tx⟩, dp, op, ti, pd, jb⟩ := h
  refine ⟨⟨⟨?_, ?_, ?_, ?_⟩, thn, ?_, ?_, ?_, ?_, ?_, ?_⟩, ?_, ?_, ?_, ?_, ?_⟩
  all_goals (simp (disch := decide) only [CQ_I, CQ_A, CQ_G, CQ_P, CQ_J, CQ_i, CQ_a, CQ_z, CT_I, CT_A, CT_G, CT_P, CT_J, CT_i, CT_a, CT_z, CC_I, CC_A, CC_G, CC_P, CC_J, CC_i, CC_a, CC_z, CM_I, CM_A, CM_G, CM_P, CM_J, CM_i, CM_a, CM_z, NM_I, NM_A, NM_G, NM_P, NM_J, NM_i, NM_a, NM_z, TH_I, TH_A, TH_G, TH_P, TH_J, TH_i, TH_a, TH_z, CH_I, CH_A, CH_G, CH_P, CH_J, CH_i, CH_a, CH_z, IN_I, IN_A, IN_G, IN_P, IN_J, IN_i, IN_a, IN_z, ME_I, ME_A, ME_G, ME_P, ME_J, ME_i, ME_a, ME_z, JR_I, JR_A, JR_G, JR_P, JR_J, JR_i, JR_a, JR_z, GL_I, GL_A, GL_G, GL_P, GL_J, GL_i, GL_a, GL_z, TX_I, TX_A, TX_G, TX_P, TX_J, TX_i, TX_a, TX_z, PD_I, PD_A, PD_G, PD_P, PD_J, PD_i, PD_a, PD_z, JB_i, JB_a, JB_z, DP_I, DP_A, DP_G, DP_P, DP_i, DP_a, OP_I, OP_A, OP_G, OP_P, OP_i, OP_a, TI_i, TI_a]; assumption)
theorem WR_ev {b : Nat} {L : c_L} {Z : z_C} {K : c_S} {R : r_S} {p i : Nat} {v : Int32} (h : WR b L Z K R) (hp : p < z_np Z) (hi : i < z_nt Z p 1) (hv : v = 0 ∨ v = 1) : WR b L Z (cs_I K 2001 (48 * p + (8 + i)) v) (rs_A R 2493 (8 * p + i) v) := by
  have thn := TH_ev h.1.2.1 (NT_of (WR_ct h)) (CQ_np (WR_cq h)) hp hi hv
  obtain ⟨⟨⟨cq, ct, cc, cm⟩, th, ch, inn, me, jr, gl, tx⟩, dp, op, ti, pd, jb⟩ := h
  refine ⟨⟨⟨?_, ?_, ?_, ?_⟩, thn, ?_, ?_, ?_, ?_, ?_, ?_⟩, ?_, ?_, ?_, ?_, ?_⟩
  all_goals (simp (disch := decide) only [CQ_I, CQ_A, CQ_G, CQ_P, CQ_J, CQ_i, CQ_a, CQ_z, CT_I, CT_A, CT_G, CT_P, CT_J, CT_i, CT_a, CT_z, CC_I, CC_A, CC_G, CC_P, CC_J, CC_i, CC_a, CC_z, CM_I, CM_A, CM_G, CM_P, CM_J, CM_i, CM_a, CM_z, NM_I, NM_A, NM_G, NM_P, NM_J, NM_i, NM_a, NM_z, TH_I, TH_A, TH_G, TH_P, TH_J, TH_i, TH_a, TH_z, CH_I, CH_A, CH_G, CH_P, CH_J, CH_i, CH_a, CH_z, IN_I, IN_A, IN_G, IN_P, IN_J, IN_i, IN_a, IN_z, ME_I, ME_A, ME_G, ME_P, ME_J, ME_i, ME_a, ME_z, JR_I, JR_A, JR_G, JR_P, JR_J, JR_i, JR_a, JR_z, GL_I, GL_A, GL_G, GL_P, GL_J, GL_i, GL_a, GL_z, TX_I, TX_A, TX_G, TX_P, TX_J, TX_i, TX_a, TX_z, PD_I, PD_A, PD_G, PD_P, PD_J, PD_i, PD_a, PD_z, JB_i, JB_a, JB_z, DP_I, DP_A, DP_G, DP_P, DP_i, DP_a, OP_I, OP_A, OP_G, OP_P, OP_i, OP_a, TI_i, TI_a]; assumption)
theorem WR_b0 {b : Nat} {L : c_L} {Z : z_C} {K : c_S} {R : r_S} {p i : Nat} (h : WR b L Z K R) (hp : p < z_np Z) (hi : i < z_nt Z p 3) : WR b L Z (cs_I K 2001 (48 * p + (24 + i)) 0) (rs_A R 2496 (8 * p + i) 0) := by
  have thn := TH_b0 h.1.2.1 (NT_of (WR_ct h)) (CQ_np (WR_cq h)) hp hi
  obtain ⟨⟨⟨cq, ct, cc, cm⟩, th, ch, inn, me, jr, gl, tx⟩, dp, op, ti, pd, jb⟩ := h
  refine ⟨⟨⟨?_, ?_, ?_, ?_⟩, thn, ?_, ?_, ?_, ?_, ?_, ?_⟩, ?_, ?_, ?_, ?_, ?_⟩
  all_goals (simp (disch := decide) only [CQ_I, CQ_A, CQ_G, CQ_P, CQ_J, CQ_i, CQ_a, CQ_z, CT_I, CT_A, CT_G, CT_P, CT_J, CT_i, CT_a, CT_z, CC_I, CC_A, CC_G, CC_P, CC_J, CC_i, CC_a, CC_z, CM_I, CM_A, CM_G, CM_P, CM_J, CM_i, CM_a, CM_z, NM_I, NM_A, NM_G, NM_P, NM_J, NM_i, NM_a, NM_z, TH_I, TH_A, TH_G, TH_P, TH_J, TH_i, TH_a, TH_z, CH_I, CH_A, CH_G, CH_P, CH_J, CH_i, CH_a, CH_z, IN_I, IN_A, IN_G, IN_P, IN_J, IN_i, IN_a, IN_z, ME_I, ME_A, ME_G, ME_P, ME_J, ME_i, ME_a, ME_z, JR_I, JR_A, JR_G, JR_P, JR_J, JR_i, JR_a, JR_z, GL_I, GL_A, GL_G, GL_P, GL_J, GL_i, GL_a, GL_z, TX_I, TX_A, TX_G, TX_P, TX_J, TX_i, TX_a, TX_z, PD_I, PD_A, PD_G, PD_P, PD_J, PD_i, PD_a, PD_z, JB_i, JB_a, JB_z, DP_I, DP_A, DP_G, DP_P, DP_i, DP_a, OP_I, OP_A, OP_G, OP_P, OP_i, OP_a, TI_i, TI_a]; assumption)
theorem WR_b1 {b : Nat} {L : c_L} {Z : z_C} {K : c_S} {R : r_S} {p i : Nat} {w : Int32} (h : WR b L Z K R) (hp : p < z_np Z) (hi : i < z_nt Z p 3) : WR b L Z (cs_I (cs_I K 2001 (48 * p + (24 + i)) 1) 2005 (48 * p + (24 + i)) w) (rs_A (rs_A R 2496 (8 * p + i) 1) 2497 (8 * p + i) w) := by
  have thn := TH_b1 (w := w) h.1.2.1 (NT_of (WR_ct h)) (CQ_np (WR_cq h)) hp hi
  obtain ⟨⟨⟨cq, ct, cc, cm⟩, th, ch, inn, me, jr, gl, tx⟩, dp, op, ti, pd, jb⟩ := h
  refine ⟨⟨⟨?_, ?_, ?_, ?_⟩, thn, ?_, ?_, ?_, ?_, ?_, ?_⟩, ?_, ?_, ?_, ?_, ?_⟩
  all_goals (simp (disch := decide) only [CQ_I, CQ_A, CQ_G, CQ_P, CQ_J, CQ_i, CQ_a, CQ_z, CT_I, CT_A, CT_G, CT_P, CT_J, CT_i, CT_a, CT_z, CC_I, CC_A, CC_G, CC_P, CC_J, CC_i, CC_a, CC_z, CM_I, CM_A, CM_G, CM_P, CM_J, CM_i, CM_a, CM_z, NM_I, NM_A, NM_G, NM_P, NM_J, NM_i, NM_a, NM_z, TH_I, TH_A, TH_G, TH_P, TH_J, TH_i, TH_a, TH_z, CH_I, CH_A, CH_G, CH_P, CH_J, CH_i, CH_a, CH_z, IN_I, IN_A, IN_G, IN_P, IN_J, IN_i, IN_a, IN_z, ME_I, ME_A, ME_G, ME_P, ME_J, ME_i, ME_a, ME_z, JR_I, JR_A, JR_G, JR_P, JR_J, JR_i, JR_a, JR_z, GL_I, GL_A, GL_G, GL_P, GL_J, GL_i, GL_a, GL_z, TX_I, TX_A, TX_G, TX_P, TX_J, TX_i, TX_a, TX_z, PD_I, PD_A, PD_G, PD_P, PD_J, PD_i, PD_a, PD_z, JB_i, JB_a, JB_z, DP_I, DP_A, DP_G, DP_P, DP_i, DP_a, OP_I, OP_A, OP_G, OP_P, OP_i, OP_a, TI_i, TI_a]; assumption)
/-! a thing of the partition -/
theorem ke_thingAt {L : c_L} {Z : z_C} {K : c_S} {R : r_S} {p s i : Nat} {Q : Option Nat → c_S → Prop} (h : CT L Z K R) (hp : p < z_np Z) (hs : s < 5) (hi : i < z_nt Z p s) (hQ : Q (some (48 * p + (8 * s + i))) K) : km_X5_thingAt L K p (nI s) (nI i) Q := by
  obtain ⟨n1, n2, n3, n4⟩ := CT_n h hp hs
  have hb : z_nt Z p s ≤ 16 := by
    by_cases e : s = 4
    · rw [if_pos e] at n1; omega
    · rw [if_neg e] at n1; omega
  have hb2 : 8 * s + i < 48 := by
    by_cases e : s = 4
    · rw [if_pos e] at n1; omega
    · rw [if_neg e] at n1; omega
  unfold km_X5_thingAt
  rw [nI_clamp (by omega), n2, show (8 : Int32) = nI 8 from rfl, pk_mul, nI_add, nI_clamp (by omega), show s * 8 + i = 8 * s + i by omega, c_m10 hb2 (n4 i hi)]
  exact ⟨fun z => absurd z (nI_pos (by omega)), fun _ => ⟨fun z => absurd z (nI_ge (a := s) (b := 5) hs (by decide)), fun _ => ⟨fun z => absurd z (nI_pos (by omega)), fun _ => ⟨vp_in_nI hs (by decide), fun _ => ⟨vp_in_nI hb2 (by decide), hQ⟩, fun z => absurd (nI_lt hi (by omega)) z⟩⟩⟩⟩
theorem ke_thingAt0 {L : c_L} {Z : z_C} {K : c_S} {R : r_S} {p s : Nat} {a : Int32} {Q : Option Nat → c_S → Prop} (h : CT L Z K R) (hp : p < z_np Z) (hs : s < 5) (ha : a < 0 ∨ nI (z_nt Z p s) ≤ a) (hQ : Q none K) : km_X5_thingAt L K p (nI s) a Q := by
  obtain ⟨n1, n2, n3, n4⟩ := CT_n h hp hs
  unfold km_X5_thingAt
  rw [nI_clamp (by omega), n2]
  refine ⟨fun _ => hQ, fun _ => ⟨fun _ => hQ, fun _ => ⟨fun _ => hQ, fun z => ⟨vp_in_nI hs (by decide), fun z2 => ?_, fun _ => hQ⟩⟩⟩⟩
  rcases ha with ha | ha
  · exact absurd ha z
  · exact absurd ha (i_nle.mpr z2)
theorem re_isThing {L : c_L} {Z : z_C} {K : c_S} {R : r_S} {p s i : Nat} {Q : Option Value → r_S → Prop} (h : CT L Z K R) (np16 : z_np Z ≤ 16) (hp : p < z_np Z) (hs : s < 5) (hi : i < z_nt Z p s) (hQ : Q (some (.int 1)) R) : rm_X12_isThing R (nI p) (nI s) (nI i) Q := by
  obtain ⟨n1, n2, n3, n4⟩ := CT_n h hp hs
  have hb : z_nt Z p s ≤ 16 := by
    by_cases e : s = 4
    · rw [if_pos e] at n1; omega
    · rw [if_neg e] at n1; omega
  unfold rm_X12_isThing
  rw [show (6 : Int32) = nI 6 from rfl, pk_mul, nI_add, nI_clamp (by omega), n3]
  exact ⟨fun z => absurd z (nI_pos (by omega)), fun _ => ⟨ri_v (n := 96) rfl (by omega) (by decide), fun z => absurd z (nI_ge hi (by omega)), fun _ => ⟨nb_1, hQ⟩⟩⟩
theorem re_isThing0 {L : c_L} {Z : z_C} {K : c_S} {R : r_S} {p s : Nat} {a : Int32} {Q : Option Value → r_S → Prop} (h : CT L Z K R) (np16 : z_np Z ≤ 16) (hp : p < z_np Z) (hs : s < 5) (ha : a < 0 ∨ nI (z_nt Z p s) ≤ a) (hQ : Q (some (.int 0)) R) : rm_X12_isThing R (nI p) (nI s) a Q := by
  obtain ⟨n1, n2, n3, n4⟩ := CT_n h hp hs
  unfold rm_X12_isThing
  rw [show (6 : Int32) = nI 6 from rfl, pk_mul, nI_add, nI_clamp (by omega), n3]
  refine ⟨fun _ => ⟨nb_0, hQ⟩, fun z => ⟨ri_v (n := 96) rfl (by omega) (by decide), fun _ => ⟨nb_0, hQ⟩, fun z2 => ?_⟩⟩
  rcases ha with ha | ha
  · exact absurd ha z
  · exact absurd ha z2
/-! a waiter gets it -/
theorem WR_get {b : Nat} {L : c_L} {Z : z_C} {K : c_S} {R : r_S} {p j : Nat} {v : Int32} (h : WR b L Z K R) (hb : b < 2000000000) (hp : p < z_np Z) (hj : j < z_nq Z p) (h2 : r_A R 2467 (16 * p + j) = 2) (hw : r_A R 2478 (16 * p + j) ≠ 0) : WR (b + 1) L Z (cs_A (k_rdy K p (16 * p + j)) 1411 (16 * p + j) 10 v) (r_rdy (rs_A R 2477 (32 * (16 * p + j) + 10) v) (16 * p + j)) := by
  have hti := WR_ti h hp hj
  have hm : r_A R 2483 p = 0 := by
    have pv := PD_v h.2.2.2.2.1 hp
    rcases pv.2.1 with e | e
    · exact e
    · have := pv.2.2.2.2.2.2.2.2 e j hj
      exact absurd (h2.symm.trans this) (by decide)
  have w1 := WR_x (v := v) h hp hj (i := 10) (by decide)
  refine WR_rdy w1 hb hp hj (by show r_A R 2467 (16 * p + j) ≠ 3; rw [h2]; decide) hm ?_
  rcases hti.2.1 h2 with e | e
  · exact e
  · exact absurd e.1 hw
theorem nI_o {o : Option Nat} {n : Nat} (h : ∀ q : Nat, o = some q → q < 2 ^ 31) : (o_i o = -1) ↔ o = none := by
  cases o with
  | none => exact ⟨fun _ => rfl, fun _ => rfl⟩
  | some q => exact ⟨fun z => absurd z (nI_m1 (h q rfl)), fun z => by cases z⟩
