/-! A word that is to come. -/
theorem c_GE {L : c_L} {K : c_S} {T : q_S} (g : c_G L T) : c_G L (c_E L K T) := by
  obtain ⟨g1, g2, g3, g4, g5, g6, g7, g8, g9, g10, g11, g12, g13⟩ := g
  refine ⟨g1, g2, g3, fun q hq i m => ?_, fun f hf i m => ?_, g6, fun i m => ?_, fun i m => ?_, g9, g10, g11, g12, g13⟩
  · exact ⟨(g4 q hq i m).1, (c_eP ((by decide : ∀ q ∈ c_pf, c_dy q.1 = false) q hq)).trans (g4 q hq i m).2⟩
  · exact ⟨(g5 f hf i m).1, (c_eP ((by decide : ∀ f ∈ c_af, c_dy f = false) f hf)).trans (g5 f hf i m).2⟩
  · exact ⟨(g7 i m).1, (c_eP rfl).trans (g7 i m).2⟩
  · exact ⟨(g8 i m).1, (c_eP rfl).trans (g8 i m).2⟩
theorem c_EE {L : c_L} {K : c_S} {T : q_S} (w : c_WF L) : c_E L K (c_E L K T) = c_E L K T := c_same w (fun f i m => c_eI m rfl) (fun f i m => c_eJ m rfl) (fun f i hd m => c_eD m rfl hd) (fun f i j m => c_eA m)
theorem r_EE {m : Nat} {fo : Nat → Option Nat} {R : r_S} {T : q_S} : r_E m fo R (r_E m fo R T) = r_E m fo R T := by
  refine Prod.ext rfl (Prod.ext (funext fun f => funext fun a => ?_) (Prod.ext rfl (Prod.ext rfl (Prod.ext rfl (Prod.ext (funext fun a => funext fun i => ?_) rfl)))))
  · show (if a = m then R.1 f else (if a = m then R.1 f else T.2.1 f a)) = (if a = m then R.1 f else T.2.1 f a)
    split <;> rfl
  · show (match fo a with | some f => R.2 f i | none => (match fo a with | some f => R.2 f i | none => T.2.2.2.2.2.1 a i)) = (match fo a with | some f => R.2 f i | none => T.2.2.2.2.2.1 a i)
    cases fo a <;> rfl
/-- the pool stands for itself -/
def lp_T (m : Nat) (fo : Nat → Option Nat) (L : c_L) (S : q_S) (K : c_S) (R : r_S) : Prop := c_E L K S = S ∧ r_E m fo R S = S
theorem lp_TS {m : Nat} {fo : Nat → Option Nat} {L : c_L} {S : q_S} {K : c_S} {R : r_S} (h : lp_T m fo L S K R) : lp_S m fo L S K R = S := by
  unfold lp_S
  rw [h.2, h.1]
theorem lp_T0 {m : Nat} {fo : Nat → Option Nat} {L : c_L} {T : q_S} {K : c_S} {R : r_S} (w : c_WF L) (s : l_Sep L m fo) : lp_T m fo L (lp_S m fo L T K R) K R := by
  refine ⟨c_EE w, ?_⟩
  unfold lp_S
  rw [lp_com s, r_EE]
theorem nw_E {L : c_L} {K : c_S} {S : q_S} {f c b : Nat} (g : c_G L S) (hf : f = 213 ∨ f = 214) (mc : c_mk L 1 c) (hb : q_K S b = 0) (hS : c_E L K S = S) : c_E (c_nw L f c b) (cs_G K f c (fun _ => 0)) (qs_P (qs_R S 21 60 b) f (c_ob L 1 c) (some b)) = qs_P (qs_R S 21 60 b) f (c_ob L 1 c) (some b) := by
  refine c_same (c_gw (nw_G g hf mc hb)) (fun f' i m => ?_) (fun f' i m => ?_) (fun f' i hd m => ?_) (fun f' i j m => ?_)
  · show q_I S f' (c_ob L (f' / 200) i) = c_I K f' i
    rw [← hS]
    exact c_eI (L := L) m rfl
  · show q_J S f' (c_ob L (f' / 200) i) = c_J K f' i
    rw [← hS]
    exact c_eJ (L := L) m rfl
  · have nf : ¬ f' = f := fun z => by
      rw [z] at hd
      rcases hf with rfl | rfl <;> cases hd
    show (if f' = f ∧ c_ob L (f' / 200) i = c_ob L 1 c then some b else q_P S f' (c_ob L (f' / 200) i)) = _
    rw [if_neg (fun z => nf z.1)]
    have e : q_P (c_E L K S) f' (c_ob L (f' / 200) i) = (c_P K f' i).map (c_tg L f') := c_eD m rfl hd
    rw [hS] at e
    refine e.trans ?_
    have h6 : f' = 0 ∨ f' = 1 ∨ f' = 2 ∨ f' = 3 ∨ f' = 209 ∨ f' = 211 := by
      unfold c_dy at hd
      split at hd
      · exact Or.inl rfl
      · exact Or.inr (Or.inl rfl)
      · exact Or.inr (Or.inr (Or.inl rfl))
      · exact Or.inr (Or.inr (Or.inr (Or.inl rfl)))
      · exact Or.inr (Or.inr (Or.inr (Or.inr (Or.inl rfl))))
      · exact Or.inr (Or.inr (Or.inr (Or.inr (Or.inr rfl))))
      · cases hd
    have et : c_tg (c_nw L f c b) f' = c_tg L f' := by
      rcases h6 with rfl | rfl | rfl | rfl | rfl | rfl
      · rfl
      · rfl
      · rfl
      · exact funext fun x => nw_a (fun z => by rcases hf with rfl | rfl <;> exact absurd z.1 (by decide))
      · rfl
      · rfl
    rw [et]
    rfl
  · rw [c_AGr]
    by_cases e : f' = f ∧ i = c
    · rw [if_pos e, e.1, e.2, nw_b]
      exact if_pos rfl
    · rw [if_neg e, nw_a e]
      have ma := nw_ma e m
      have nb : c_ar L f' i ≠ b := fun z => by
        have := (g.2.2.1 f' i ma).1
        rw [z, hb] at this
        exact c_kd0 f' this.symm
      refine (if_neg nb).trans ?_
      show q_A S (c_ar L f' i) j = _
      rw [← hS]
      exact c_eA ma
theorem nw_R {m : Nat} {fo : Nat → Option Nat} {R : r_S} {S : q_S} {f o b : Nat} (hb : fo b = none) (hS : r_E m fo R S = S) : r_E m fo R (qs_P (qs_R S 21 60 b) f o (some b)) = qs_P (qs_R S 21 60 b) f o (some b) := by
  refine Prod.ext rfl (Prod.ext ?_ (Prod.ext rfl (Prod.ext rfl (Prod.ext rfl (Prod.ext (funext fun a => funext fun i => ?_) rfl)))))
  · have e := congrArg (fun T : q_S => T.2.1) hS
    exact e
  · have e : (match fo a with | some f => R.2 f i | none => S.2.2.2.2.2.1 a i) = S.2.2.2.2.2.1 a i := congrFun (congrFun (congrArg (fun T : q_S => T.2.2.2.2.2.1) hS) a) i
    show (match fo a with | some f => R.2 f i | none => (if a = b then 0 else S.2.2.2.2.2.1 a i)) = (if a = b then 0 else S.2.2.2.2.2.1 a i)
    by_cases c : a = b
    · rw [c, hb]
    · rw [if_neg c]; exact e
theorem WR_nw {b n : Nat} {L : c_L} {Z : z_C} {K : c_S} {R : r_S} {i b1 b2 : Nat} (w : WR b L Z K R) (hi : i < z_ni Z) (h5 : c_I K 215 (z_ic Z i) = nI n) (n0 : n = 0) : WR b (c_nw (c_nw L 213 (z_ic Z i) b1) 214 (z_ic Z i) b2) Z (cs_G (cs_G K 213 (z_ic Z i) (fun _ => 0)) 214 (z_ic Z i) (fun _ => 0)) R := by
  have inj : ∀ i j : Nat, i < z_ni Z → j < z_ni Z → z_ic Z i = z_ic Z j → i = j := (WR_cc w).2.2.2.2.2.2.2.2.1
  obtain ⟨⟨⟨cq, ct, cc, cm, nm⟩, th, ch, inn, me, jr, gl, tx⟩, dp, op, ti, pd, jb⟩ := w
  refine ⟨⟨⟨?_, ?_, ?_, ?_, ?_⟩, ?_, ?_, ?inn, ?_, ?_, ?_, ?_⟩, ?_, ?_, ti, ?_, jb⟩
  case inn =>
    intro i' hi'
    obtain ⟨n', m', a1, a2, a3, a4, a5, a6, a7, a8⟩ := inn i' hi'
    by_cases e : z_ic Z i' = z_ic Z i
    · have e' := inj i' i hi' hi e
      subst e'
      have a3' : c_I K 215 (z_ic Z i') = nI n' := a3
      have : n' = 0 := by
        have := (nI_eq (a := n') (b := n) (by omega) (by omega)).mp (a3'.symm.trans h5)
        omega
      subst this
      refine ⟨0, m', a1, a2, a3, a4, a5, a6, Or.inl ⟨?_, ?_⟩, fun j hj => by omega⟩
      · show (if 213 = 214 ∧ z_ic Z i' = z_ic Z i' then 60 else if 213 = 213 ∧ z_ic Z i' = z_ic Z i' then 60 else c_ln L 213 (z_ic Z i')) = 60
        rw [if_neg (fun z => absurd z.1 (by decide)), if_pos ⟨rfl, rfl⟩]
      · show (if 214 = 214 ∧ z_ic Z i' = z_ic Z i' then 60 else _) = 60
        rw [if_pos ⟨rfl, rfl⟩]
    · have l13 : c_ln (c_nw (c_nw L 213 (z_ic Z i) b1) 214 (z_ic Z i) b2) 213 (z_ic Z i') = c_ln L 213 (z_ic Z i') := by
        show (if 213 = 214 ∧ z_ic Z i' = z_ic Z i then 60 else if 213 = 213 ∧ z_ic Z i' = z_ic Z i then 60 else c_ln L 213 (z_ic Z i')) = _
        rw [if_neg (fun z => e z.2), if_neg (fun z => e z.2)]
      have l14 : c_ln (c_nw (c_nw L 213 (z_ic Z i) b1) 214 (z_ic Z i) b2) 214 (z_ic Z i') = c_ln L 214 (z_ic Z i') := by
        show (if 214 = 214 ∧ z_ic Z i' = z_ic Z i then 60 else if 214 = 213 ∧ z_ic Z i' = z_ic Z i then 60 else c_ln L 214 (z_ic Z i')) = _
        rw [if_neg (fun z => e z.2), if_neg (fun z => e z.2)]
      refine ⟨n', m', a1, a2, a3, a4, a5, a6, by rw [l13, l14]; exact a7, fun j hj => ?_⟩
      obtain ⟨q1, q2, q3⟩ := a8 j hj
      refine ⟨?_, ?_, q3⟩
      · show c_A (cs_G (cs_G K 213 (z_ic Z i) (fun _ => 0)) 214 (z_ic Z i) (fun _ => 0)) 213 (z_ic Z i') j = _
        rw [c_AGr, if_neg (fun z => e z.2), c_AGr, if_neg (fun z => e z.2)]
        exact q1
      · show c_A (cs_G (cs_G K 213 (z_ic Z i) (fun _ => 0)) 214 (z_ic Z i) (fun _ => 0)) 214 (z_ic Z i') j = _
        rw [c_AGr, if_neg (fun z => e z.2), c_AGr, if_neg (fun z => e z.2)]
        exact q2
  case refine_1 => simp (disch := decide) only [CQ_I, CQ_A, CQ_G, CQ_P, CQ_J, CQ_i, CQ_a, CQ_z, CT_I, CT_A, CT_G, CT_P, CT_J, CT_i, CT_a, CT_z, CC_I, CC_A, CC_G, CC_P, CC_J, CC_i, CC_a, CC_z, CM_I, CM_A, CM_G, CM_P, CM_J, CM_i, CM_a, CM_z, NM_I, NM_A, NM_G, NM_P, NM_J, NM_i, NM_a, NM_z, TH_I, TH_A, TH_G, TH_P, TH_J, TH_i, TH_a, TH_z, CH_I, CH_A, CH_G, CH_P, CH_J, CH_i, CH_a, CH_z, IN_I, IN_A, IN_G, IN_P, IN_J, IN_i, IN_a, IN_z, ME_I, ME_A, ME_G, ME_P, ME_J, ME_i, ME_a, ME_z, JR_I, JR_A, JR_G, JR_P, JR_J, JR_i, JR_a, JR_z, GL_I, GL_A, GL_G, GL_P, GL_J, GL_i, GL_a, GL_z, TX_I, TX_A, TX_G, TX_P, TX_J, TX_i, TX_a, TX_z, PD_I, PD_A, PD_G, PD_P, PD_J, PD_i, PD_a, PD_z, JB_i, JB_a, JB_z, DP_I, DP_A, DP_G, DP_P, DP_i, DP_a, OP_I, OP_A, OP_G, OP_P, OP_i, OP_a, TI_i, TI_a]; exact cq
  case refine_2 => simp (disch := decide) only [CQ_I, CQ_A, CQ_G, CQ_P, CQ_J, CQ_i, CQ_a, CQ_z, CT_I, CT_A, CT_G, CT_P, CT_J, CT_i, CT_a, CT_z, CC_I, CC_A, CC_G, CC_P, CC_J, CC_i, CC_a, CC_z, CM_I, CM_A, CM_G, CM_P, CM_J, CM_i, CM_a, CM_z, NM_I, NM_A, NM_G, NM_P, NM_J, NM_i, NM_a, NM_z, TH_I, TH_A, TH_G, TH_P, TH_J, TH_i, TH_a, TH_z, CH_I, CH_A, CH_G, CH_P, CH_J, CH_i, CH_a, CH_z, IN_I, IN_A, IN_G, IN_P, IN_J, IN_i, IN_a, IN_z, ME_I, ME_A, ME_G, ME_P, ME_J, ME_i, ME_a, ME_z, JR_I, JR_A, JR_G, JR_P, JR_J, JR_i, JR_a, JR_z, GL_I, GL_A, GL_G, GL_P, GL_J, GL_i, GL_a, GL_z, TX_I, TX_A, TX_G, TX_P, TX_J, TX_i, TX_a, TX_z, PD_I, PD_A, PD_G, PD_P, PD_J, PD_i, PD_a, PD_z, JB_i, JB_a, JB_z, DP_I, DP_A, DP_G, DP_P, DP_i, DP_a, OP_I, OP_A, OP_G, OP_P, OP_i, OP_a, TI_i, TI_a]; exact ct
  case refine_3 => simp (disch := decide) only [CQ_I, CQ_A, CQ_G, CQ_P, CQ_J, CQ_i, CQ_a, CQ_z, CT_I, CT_A, CT_G, CT_P, CT_J, CT_i, CT_a, CT_z, CC_I, CC_A, CC_G, CC_P, CC_J, CC_i, CC_a, CC_z, CM_I, CM_A, CM_G, CM_P, CM_J, CM_i, CM_a, CM_z, NM_I, NM_A, NM_G, NM_P, NM_J, NM_i, NM_a, NM_z, TH_I, TH_A, TH_G, TH_P, TH_J, TH_i, TH_a, TH_z, CH_I, CH_A, CH_G, CH_P, CH_J, CH_i, CH_a, CH_z, IN_I, IN_A, IN_G, IN_P, IN_J, IN_i, IN_a, IN_z, ME_I, ME_A, ME_G, ME_P, ME_J, ME_i, ME_a, ME_z, JR_I, JR_A, JR_G, JR_P, JR_J, JR_i, JR_a, JR_z, GL_I, GL_A, GL_G, GL_P, GL_J, GL_i, GL_a, GL_z, TX_I, TX_A, TX_G, TX_P, TX_J, TX_i, TX_a, TX_z, PD_I, PD_A, PD_G, PD_P, PD_J, PD_i, PD_a, PD_z, JB_i, JB_a, JB_z, DP_I, DP_A, DP_G, DP_P, DP_i, DP_a, OP_I, OP_A, OP_G, OP_P, OP_i, OP_a, TI_i, TI_a]; exact cc
  case refine_4 => simp (disch := decide) only [CQ_I, CQ_A, CQ_G, CQ_P, CQ_J, CQ_i, CQ_a, CQ_z, CT_I, CT_A, CT_G, CT_P, CT_J, CT_i, CT_a, CT_z, CC_I, CC_A, CC_G, CC_P, CC_J, CC_i, CC_a, CC_z, CM_I, CM_A, CM_G, CM_P, CM_J, CM_i, CM_a, CM_z, NM_I, NM_A, NM_G, NM_P, NM_J, NM_i, NM_a, NM_z, TH_I, TH_A, TH_G, TH_P, TH_J, TH_i, TH_a, TH_z, CH_I, CH_A, CH_G, CH_P, CH_J, CH_i, CH_a, CH_z, IN_I, IN_A, IN_G, IN_P, IN_J, IN_i, IN_a, IN_z, ME_I, ME_A, ME_G, ME_P, ME_J, ME_i, ME_a, ME_z, JR_I, JR_A, JR_G, JR_P, JR_J, JR_i, JR_a, JR_z, GL_I, GL_A, GL_G, GL_P, GL_J, GL_i, GL_a, GL_z, TX_I, TX_A, TX_G, TX_P, TX_J, TX_i, TX_a, TX_z, PD_I, PD_A, PD_G, PD_P, PD_J, PD_i, PD_a, PD_z, JB_i, JB_a, JB_z, DP_I, DP_A, DP_G, DP_P, DP_i, DP_a, OP_I, OP_A, OP_G, OP_P, OP_i, OP_a, TI_i, TI_a]; exact cm
  case refine_5 => simp (disch := decide) only [CQ_I, CQ_A, CQ_G, CQ_P, CQ_J, CQ_i, CQ_a, CQ_z, CT_I, CT_A, CT_G, CT_P, CT_J, CT_i, CT_a, CT_z, CC_I, CC_A, CC_G, CC_P, CC_J, CC_i, CC_a, CC_z, CM_I, CM_A, CM_G, CM_P, CM_J, CM_i, CM_a, CM_z, NM_I, NM_A, NM_G, NM_P, NM_J, NM_i, NM_a, NM_z, TH_I, TH_A, TH_G, TH_P, TH_J, TH_i, TH_a, TH_z, CH_I, CH_A, CH_G, CH_P, CH_J, CH_i, CH_a, CH_z, IN_I, IN_A, IN_G, IN_P, IN_J, IN_i, IN_a, IN_z, ME_I, ME_A, ME_G, ME_P, ME_J, ME_i, ME_a, ME_z, JR_I, JR_A, JR_G, JR_P, JR_J, JR_i, JR_a, JR_z, GL_I, GL_A, GL_G, GL_P, GL_J, GL_i, GL_a, GL_z, TX_I, TX_A, TX_G, TX_P, TX_J, TX_i, TX_a, TX_z, PD_I, PD_A, PD_G, PD_P, PD_J, PD_i, PD_a, PD_z, JB_i, JB_a, JB_z, DP_I, DP_A, DP_G, DP_P, DP_i, DP_a, OP_I, OP_A, OP_G, OP_P, OP_i, OP_a, TI_i, TI_a]; exact nm
  case refine_6 => simp (disch := decide) only [CQ_I, CQ_A, CQ_G, CQ_P, CQ_J, CQ_i, CQ_a, CQ_z, CT_I, CT_A, CT_G, CT_P, CT_J, CT_i, CT_a, CT_z, CC_I, CC_A, CC_G, CC_P, CC_J, CC_i, CC_a, CC_z, CM_I, CM_A, CM_G, CM_P, CM_J, CM_i, CM_a, CM_z, NM_I, NM_A, NM_G, NM_P, NM_J, NM_i, NM_a, NM_z, TH_I, TH_A, TH_G, TH_P, TH_J, TH_i, TH_a, TH_z, CH_I, CH_A, CH_G, CH_P, CH_J, CH_i, CH_a, CH_z, IN_I, IN_A, IN_G, IN_P, IN_J, IN_i, IN_a, IN_z, ME_I, ME_A, ME_G, ME_P, ME_J, ME_i, ME_a, ME_z, JR_I, JR_A, JR_G, JR_P, JR_J, JR_i, JR_a, JR_z, GL_I, GL_A, GL_G, GL_P, GL_J, GL_i, GL_a, GL_z, TX_I, TX_A, TX_G, TX_P, TX_J, TX_i, TX_a, TX_z, PD_I, PD_A, PD_G, PD_P, PD_J, PD_i, PD_a, PD_z, JB_i, JB_a, JB_z, DP_I, DP_A, DP_G, DP_P, DP_i, DP_a, OP_I, OP_A, OP_G, OP_P, OP_i, OP_a, TI_i, TI_a]; exact th
  case refine_7 => simp (disch := decide) only [CQ_I, CQ_A, CQ_G, CQ_P, CQ_J, CQ_i, CQ_a, CQ_z, CT_I, CT_A, CT_G, CT_P, CT_J, CT_i, CT_a, CT_z, CC_I, CC_A, CC_G, CC_P, CC_J, CC_i, CC_a, CC_z, CM_I, CM_A, CM_G, CM_P, CM_J, CM_i, CM_a, CM_z, NM_I, NM_A, NM_G, NM_P, NM_J, NM_i, NM_a, NM_z, TH_I, TH_A, TH_G, TH_P, TH_J, TH_i, TH_a, TH_z, CH_I, CH_A, CH_G, CH_P, CH_J, CH_i, CH_a, CH_z, IN_I, IN_A, IN_G, IN_P, IN_J, IN_i, IN_a, IN_z, ME_I, ME_A, ME_G, ME_P, ME_J, ME_i, ME_a, ME_z, JR_I, JR_A, JR_G, JR_P, JR_J, JR_i, JR_a, JR_z, GL_I, GL_A, GL_G, GL_P, GL_J, GL_i, GL_a, GL_z, TX_I, TX_A, TX_G, TX_P, TX_J, TX_i, TX_a, TX_z, PD_I, PD_A, PD_G, PD_P, PD_J, PD_i, PD_a, PD_z, JB_i, JB_a, JB_z, DP_I, DP_A, DP_G, DP_P, DP_i, DP_a, OP_I, OP_A, OP_G, OP_P, OP_i, OP_a, TI_i, TI_a]; exact ch
  case refine_8 => simp (disch := decide) only [CQ_I, CQ_A, CQ_G, CQ_P, CQ_J, CQ_i, CQ_a, CQ_z, CT_I, CT_A, CT_G, CT_P, CT_J, CT_i, CT_a, CT_z, CC_I, CC_A, CC_G, CC_P, CC_J, CC_i, CC_a, CC_z, CM_I, CM_A, CM_G, CM_P, CM_J, CM_i, CM_a, CM_z, NM_I, NM_A, NM_G, NM_P, NM_J, NM_i, NM_a, NM_z, TH_I, TH_A, TH_G, TH_P, TH_J, TH_i, TH_a, TH_z, CH_I, CH_A, CH_G, CH_P, CH_J, CH_i, CH_a, CH_z, IN_I, IN_A, IN_G, IN_P, IN_J, IN_i, IN_a, IN_z, ME_I, ME_A, ME_G, ME_P, ME_J, ME_i, ME_a, ME_z, JR_I, JR_A, JR_G, JR_P, JR_J, JR_i, JR_a, JR_z, GL_I, GL_A, GL_G, GL_P, GL_J, GL_i, GL_a, GL_z, TX_I, TX_A, TX_G, TX_P, TX_J, TX_i, TX_a, TX_z, PD_I, PD_A, PD_G, PD_P, PD_J, PD_i, PD_a, PD_z, JB_i, JB_a, JB_z, DP_I, DP_A, DP_G, DP_P, DP_i, DP_a, OP_I, OP_A, OP_G, OP_P, OP_i, OP_a, TI_i, TI_a]; exact me
  case refine_9 => simp (disch := decide) only [CQ_I, CQ_A, CQ_G, CQ_P, CQ_J, CQ_i, CQ_a, CQ_z, CT_I, CT_A, CT_G, CT_P, CT_J, CT_i, CT_a, CT_z, CC_I, CC_A, CC_G, CC_P, CC_J, CC_i, CC_a, CC_z, CM_I, CM_A, CM_G, CM_P, CM_J, CM_i, CM_a, CM_z, NM_I, NM_A, NM_G, NM_P, NM_J, NM_i, NM_a, NM_z, TH_I, TH_A, TH_G, TH_P, TH_J, TH_i, TH_a, TH_z, CH_I, CH_A, CH_G, CH_P, CH_J, CH_i, CH_a, CH_z, IN_I, IN_A, IN_G, IN_P, IN_J, IN_i, IN_a, IN_z, ME_I, ME_A, ME_G, ME_P, ME_J, ME_i, ME_a, ME_z, JR_I, JR_A, JR_G, JR_P, JR_J, JR_i, JR_a, JR_z, GL_I, GL_A, GL_G, GL_P, GL_J, GL_i, GL_a, GL_z, TX_I, TX_A, TX_G, TX_P, TX_J, TX_i, TX_a, TX_z, PD_I, PD_A, PD_G, PD_P, PD_J, PD_i, PD_a, PD_z, JB_i, JB_a, JB_z, DP_I, DP_A, DP_G, DP_P, DP_i, DP_a, OP_I, OP_A, OP_G, OP_P, OP_i, OP_a, TI_i, TI_a]; exact jr
  case refine_10 => simp (disch := decide) only [CQ_I, CQ_A, CQ_G, CQ_P, CQ_J, CQ_i, CQ_a, CQ_z, CT_I, CT_A, CT_G, CT_P, CT_J, CT_i, CT_a, CT_z, CC_I, CC_A, CC_G, CC_P, CC_J, CC_i, CC_a, CC_z, CM_I, CM_A, CM_G, CM_P, CM_J, CM_i, CM_a, CM_z, NM_I, NM_A, NM_G, NM_P, NM_J, NM_i, NM_a, NM_z, TH_I, TH_A, TH_G, TH_P, TH_J, TH_i, TH_a, TH_z, CH_I, CH_A, CH_G, CH_P, CH_J, CH_i, CH_a, CH_z, IN_I, IN_A, IN_G, IN_P, IN_J, IN_i, IN_a, IN_z, ME_I, ME_A, ME_G, ME_P, ME_J, ME_i, ME_a, ME_z, JR_I, JR_A, JR_G, JR_P, JR_J, JR_i, JR_a, JR_z, GL_I, GL_A, GL_G, GL_P, GL_J, GL_i, GL_a, GL_z, TX_I, TX_A, TX_G, TX_P, TX_J, TX_i, TX_a, TX_z, PD_I, PD_A, PD_G, PD_P, PD_J, PD_i, PD_a, PD_z, JB_i, JB_a, JB_z, DP_I, DP_A, DP_G, DP_P, DP_i, DP_a, OP_I, OP_A, OP_G, OP_P, OP_i, OP_a, TI_i, TI_a]; exact gl
  case refine_11 => simp (disch := decide) only [CQ_I, CQ_A, CQ_G, CQ_P, CQ_J, CQ_i, CQ_a, CQ_z, CT_I, CT_A, CT_G, CT_P, CT_J, CT_i, CT_a, CT_z, CC_I, CC_A, CC_G, CC_P, CC_J, CC_i, CC_a, CC_z, CM_I, CM_A, CM_G, CM_P, CM_J, CM_i, CM_a, CM_z, NM_I, NM_A, NM_G, NM_P, NM_J, NM_i, NM_a, NM_z, TH_I, TH_A, TH_G, TH_P, TH_J, TH_i, TH_a, TH_z, CH_I, CH_A, CH_G, CH_P, CH_J, CH_i, CH_a, CH_z, IN_I, IN_A, IN_G, IN_P, IN_J, IN_i, IN_a, IN_z, ME_I, ME_A, ME_G, ME_P, ME_J, ME_i, ME_a, ME_z, JR_I, JR_A, JR_G, JR_P, JR_J, JR_i, JR_a, JR_z, GL_I, GL_A, GL_G, GL_P, GL_J, GL_i, GL_a, GL_z, TX_I, TX_A, TX_G, TX_P, TX_J, TX_i, TX_a, TX_z, PD_I, PD_A, PD_G, PD_P, PD_J, PD_i, PD_a, PD_z, JB_i, JB_a, JB_z, DP_I, DP_A, DP_G, DP_P, DP_i, DP_a, OP_I, OP_A, OP_G, OP_P, OP_i, OP_a, TI_i, TI_a]; exact tx
  case refine_12 => simp (disch := decide) only [CQ_I, CQ_A, CQ_G, CQ_P, CQ_J, CQ_i, CQ_a, CQ_z, CT_I, CT_A, CT_G, CT_P, CT_J, CT_i, CT_a, CT_z, CC_I, CC_A, CC_G, CC_P, CC_J, CC_i, CC_a, CC_z, CM_I, CM_A, CM_G, CM_P, CM_J, CM_i, CM_a, CM_z, NM_I, NM_A, NM_G, NM_P, NM_J, NM_i, NM_a, NM_z, TH_I, TH_A, TH_G, TH_P, TH_J, TH_i, TH_a, TH_z, CH_I, CH_A, CH_G, CH_P, CH_J, CH_i, CH_a, CH_z, IN_I, IN_A, IN_G, IN_P, IN_J, IN_i, IN_a, IN_z, ME_I, ME_A, ME_G, ME_P, ME_J, ME_i, ME_a, ME_z, JR_I, JR_A, JR_G, JR_P, JR_J, JR_i, JR_a, JR_z, GL_I, GL_A, GL_G, GL_P, GL_J, GL_i, GL_a, GL_z, TX_I, TX_A, TX_G, TX_P, TX_J, TX_i, TX_a, TX_z, PD_I, PD_A, PD_G, PD_P, PD_J, PD_i, PD_a, PD_z, JB_i, JB_a, JB_z, DP_I, DP_A, DP_G, DP_P, DP_i, DP_a, OP_I, OP_A, OP_G, OP_P, OP_i, OP_a, TI_i, TI_a]; exact dp
  case refine_13 => simp (disch := decide) only [CQ_I, CQ_A, CQ_G, CQ_P, CQ_J, CQ_i, CQ_a, CQ_z, CT_I, CT_A, CT_G, CT_P, CT_J, CT_i, CT_a, CT_z, CC_I, CC_A, CC_G, CC_P, CC_J, CC_i, CC_a, CC_z, CM_I, CM_A, CM_G, CM_P, CM_J, CM_i, CM_a, CM_z, NM_I, NM_A, NM_G, NM_P, NM_J, NM_i, NM_a, NM_z, TH_I, TH_A, TH_G, TH_P, TH_J, TH_i, TH_a, TH_z, CH_I, CH_A, CH_G, CH_P, CH_J, CH_i, CH_a, CH_z, IN_I, IN_A, IN_G, IN_P, IN_J, IN_i, IN_a, IN_z, ME_I, ME_A, ME_G, ME_P, ME_J, ME_i, ME_a, ME_z, JR_I, JR_A, JR_G, JR_P, JR_J, JR_i, JR_a, JR_z, GL_I, GL_A, GL_G, GL_P, GL_J, GL_i, GL_a, GL_z, TX_I, TX_A, TX_G, TX_P, TX_J, TX_i, TX_a, TX_z, PD_I, PD_A, PD_G, PD_P, PD_J, PD_i, PD_a, PD_z, JB_i, JB_a, JB_z, DP_I, DP_A, DP_G, DP_P, DP_i, DP_a, OP_I, OP_A, OP_G, OP_P, OP_i, OP_a, TI_i, TI_a]; exact op
  case refine_14 => simp (disch := decide) only [CQ_I, CQ_A, CQ_G, CQ_P, CQ_J, CQ_i, CQ_a, CQ_z, CT_I, CT_A, CT_G, CT_P, CT_J, CT_i, CT_a, CT_z, CC_I, CC_A, CC_G, CC_P, CC_J, CC_i, CC_a, CC_z, CM_I, CM_A, CM_G, CM_P, CM_J, CM_i, CM_a, CM_z, NM_I, NM_A, NM_G, NM_P, NM_J, NM_i, NM_a, NM_z, TH_I, TH_A, TH_G, TH_P, TH_J, TH_i, TH_a, TH_z, CH_I, CH_A, CH_G, CH_P, CH_J, CH_i, CH_a, CH_z, IN_I, IN_A, IN_G, IN_P, IN_J, IN_i, IN_a, IN_z, ME_I, ME_A, ME_G, ME_P, ME_J, ME_i, ME_a, ME_z, JR_I, JR_A, JR_G, JR_P, JR_J, JR_i, JR_a, JR_z, GL_I, GL_A, GL_G, GL_P, GL_J, GL_i, GL_a, GL_z, TX_I, TX_A, TX_G, TX_P, TX_J, TX_i, TX_a, TX_z, PD_I, PD_A, PD_G, PD_P, PD_J, PD_i, PD_a, PD_z, JB_i, JB_a, JB_z, DP_I, DP_A, DP_G, DP_P, DP_i, DP_a, OP_I, OP_A, OP_G, OP_P, OP_i, OP_a, TI_i, TI_a]; exact pd
theorem WR_inp {b n : Nat} {L : c_L} {Z : z_C} {K : c_S} {R : r_S} {i : Nat} {x2 x3 : Int32} (w : WR b L Z K R) (hi : i < z_ni Z) (h5 : c_I K 215 (z_ic Z i) = nI n) (n60 : n < 60) (hl : c_ln L 213 (z_ic Z i) = 60 ∧ c_ln L 214 (z_ic Z i) = 60) (hx : 0 ≤ x2.toInt) : WR b L Z (cs_I (cs_A (cs_A K 213 (z_ic Z i) n x2) 214 (z_ic Z i) n x3) 215 (z_ic Z i) (nI (n + 1))) (rs_A (rs_A (rs_A R 2506 (60 * i + n) x2) 2507 (60 * i + n) x3) 2504 i (nI (n + 1))) := by
  have inj : ∀ i j : Nat, i < z_ni Z → j < z_ni Z → z_ic Z i = z_ic Z j → i = j := (WR_cc w).2.2.2.2.2.2.2.2.1
  obtain ⟨⟨⟨cq, ct, cc, cm⟩, th, ch, inn, me, jr, gl, tx⟩, dp, op, ti, pd, jb⟩ := w
  refine ⟨⟨⟨?_, ?_, ?_, ?_⟩, ?_, ?_, ?inn, ?_, ?_, ?_, ?_⟩, ?_, ?_, ?_, ?_, ?_⟩
  case inn =>
    intro i' hi'
    obtain ⟨n', m', a1, a2, a3, a4, a5, a6, a7, a8⟩ := inn i' hi'
    have a3 : c_I K 215 (z_ic Z i') = nI n' := a3
    have a4 : r_A R 2504 i' = nI n' := a4
    have a5 : c_I K 216 (z_ic Z i') = nI m' := a5
    have a6 : r_A R 2505 i' = nI m' := a6
    have r6 : ∀ k v : Nat, True → r_A (rs_A (rs_A (rs_A R 2506 (60 * i + n) x2) 2507 (60 * i + n) x3) 2504 i (nI (n + 1))) 2506 k = if k = 60 * i + n then x2 else r_A R 2506 k := fun k v _ => by
      rw [r_An (Or.inl (by decide)), r_An (Or.inl (by decide))]
      by_cases e : k = 60 * i + n
      · rw [if_pos e, e, r_As]
      · rw [if_neg e, r_An (Or.inr e)]
    have r7 : ∀ k : Nat, r_A (rs_A (rs_A (rs_A R 2506 (60 * i + n) x2) 2507 (60 * i + n) x3) 2504 i (nI (n + 1))) 2507 k = if k = 60 * i + n then x3 else r_A R 2507 k := fun k => by
      rw [r_An (Or.inl (by decide))]
      by_cases e : k = 60 * i + n
      · rw [if_pos e, e, r_As]
      · rw [if_neg e, r_An (Or.inr e), r_An (Or.inl (by decide))]
    have k3 : ∀ c j : Nat, c_A (cs_I (cs_A (cs_A K 213 (z_ic Z i) n x2) 214 (z_ic Z i) n x3) 215 (z_ic Z i) (nI (n + 1))) 213 c j = if c = z_ic Z i ∧ j = n then x2 else c_A K 213 c j := fun c j => by
      show c_A (cs_A (cs_A K 213 (z_ic Z i) n x2) 214 (z_ic Z i) n x3) 213 c j = _
      rw [c_An (Or.inl (by decide)), c_AA]
      by_cases e : c = z_ic Z i ∧ j = n
      · rw [if_pos e, if_pos ⟨rfl, e⟩]
      · rw [if_neg e, if_neg (fun z => e z.2)]
    have k4 : ∀ c j : Nat, c_A (cs_I (cs_A (cs_A K 213 (z_ic Z i) n x2) 214 (z_ic Z i) n x3) 215 (z_ic Z i) (nI (n + 1))) 214 c j = if c = z_ic Z i ∧ j = n then x3 else c_A K 214 c j := fun c j => by
      show c_A (cs_A (cs_A K 213 (z_ic Z i) n x2) 214 (z_ic Z i) n x3) 214 c j = _
      rw [c_AA]
      by_cases e : c = z_ic Z i ∧ j = n
      · rw [if_pos e, if_pos ⟨rfl, e⟩]
      · rw [if_neg e, if_neg (fun z => e z.2), c_An (Or.inl (by decide))]
    by_cases e : i' = i
    · subst e
      have en : n' = n := (nI_eq (by omega) (by omega)).mp (a3.symm.trans h5)
      subst en
      refine ⟨n' + 1, m', by omega, by omega, ?_, ?_, ?_, ?_, Or.inl hl, fun j hj => ?_⟩
      · exact if_pos (show (215 = 215 ∧ z_ic Z i' = z_ic Z i') from ⟨rfl, rfl⟩)
      · exact r_As
      · exact a5
      · show r_A (rs_A (rs_A (rs_A R 2506 (60 * i' + n') x2) 2507 (60 * i' + n') x3) 2504 i' (nI (n' + 1))) 2505 i' = _
        rw [r_An (Or.inl (by decide)), r_An (Or.inl (by decide)), r_An (Or.inl (by decide))]
        exact a6
      · show c_A _ 213 (z_ic Z i') j = r_A _ 2506 (60 * i' + j) ∧ c_A _ 214 (z_ic Z i') j = r_A _ 2507 (60 * i' + j) ∧ 0 ≤ (r_A _ 2506 (60 * i' + j)).toInt
        rw [k3, k4, r6 _ 0 trivial, r7]
        by_cases c : j = n'
        · have e6 : 60 * i' + j = 60 * i' + n' := by omega
          refine ⟨(if_pos ⟨rfl, c⟩).trans (if_pos e6).symm, (if_pos ⟨rfl, c⟩).trans (if_pos e6).symm, ?_⟩
          rw [if_pos e6]; exact hx
        · have e6 : ¬ 60 * i' + j = 60 * i' + n' := by omega
          obtain ⟨q1, q2, q3⟩ := a8 j (by omega)
          refine ⟨(if_neg (fun z => c z.2)).trans (Eq.trans q1 (if_neg e6).symm), (if_neg (fun z => c z.2)).trans (Eq.trans q2 (if_neg e6).symm), ?_⟩
          rw [if_neg e6]; exact q3
    · have ne : ¬ z_ic Z i' = z_ic Z i := fun z => e (inj i' i hi' hi z)
      refine ⟨n', m', a1, a2, ?_, ?_, a5, ?_, a7, fun j hj => ?_⟩
      · show (if 215 = 215 ∧ z_ic Z i' = z_ic Z i then nI (n + 1) else c_I K 215 (z_ic Z i')) = _
        rw [if_neg (fun z => ne z.2)]; exact a3
      · show r_A (rs_A (rs_A (rs_A R 2506 (60 * i + n) x2) 2507 (60 * i + n) x3) 2504 i (nI (n + 1))) 2504 i' = _
        rw [r_An (Or.inr e), r_An (Or.inl (by decide)), r_An (Or.inl (by decide))]; exact a4
      · show r_A (rs_A (rs_A (rs_A R 2506 (60 * i + n) x2) 2507 (60 * i + n) x3) 2504 i (nI (n + 1))) 2505 i' = _
        rw [r_An (Or.inl (by decide)), r_An (Or.inl (by decide)), r_An (Or.inl (by decide))]; exact a6
      · show c_A _ 213 (z_ic Z i') j = r_A _ 2506 (60 * i' + j) ∧ c_A _ 214 (z_ic Z i') j = r_A _ 2507 (60 * i' + j) ∧ 0 ≤ (r_A _ 2506 (60 * i' + j)).toInt
        rw [k3, k4, r6 _ 0 trivial, r7]
        have e6 : ¬ 60 * i' + j = 60 * i + n := by omega
        obtain ⟨q1, q2, q3⟩ := a8 j hj
        refine ⟨(if_neg (fun z => ne z.1)).trans (Eq.trans q1 (if_neg e6).symm), (if_neg (fun z => ne z.1)).trans (Eq.trans q2 (if_neg e6).symm), ?_⟩
        rw [if_neg e6]; exact q3
  all_goals (simp (disch := decide) only [CQ_I, CQ_A, CQ_G, CQ_P, CQ_J, CQ_i, CQ_a, CQ_z, CT_I, CT_A, CT_G, CT_P, CT_J, CT_i, CT_a, CT_z, CC_I, CC_A, CC_G, CC_P, CC_J, CC_i, CC_a, CC_z, CM_I, CM_A, CM_G, CM_P, CM_J, CM_i, CM_a, CM_z, NM_I, NM_A, NM_G, NM_P, NM_J, NM_i, NM_a, NM_z, TH_I, TH_A, TH_G, TH_P, TH_J, TH_i, TH_a, TH_z, CH_I, CH_A, CH_G, CH_P, CH_J, CH_i, CH_a, CH_z, IN_I, IN_A, IN_G, IN_P, IN_J, IN_i, IN_a, IN_z, ME_I, ME_A, ME_G, ME_P, ME_J, ME_i, ME_a, ME_z, JR_I, JR_A, JR_G, JR_P, JR_J, JR_i, JR_a, JR_z, GL_I, GL_A, GL_G, GL_P, GL_J, GL_i, GL_a, GL_z, TX_I, TX_A, TX_G, TX_P, TX_J, TX_i, TX_a, TX_z, PD_I, PD_A, PD_G, PD_P, PD_J, PD_i, PD_a, PD_z, JB_i, JB_a, JB_z, DP_I, DP_A, DP_G, DP_P, DP_i, DP_a, OP_I, OP_A, OP_G, OP_P, OP_i, OP_a, TI_i, TI_a]; assumption)
