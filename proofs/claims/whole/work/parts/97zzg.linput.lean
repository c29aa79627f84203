/-! input, within the law. -/
theorem r_Kd0 : ∀ k : Nat, k < r_Nl.length → (r_Nl.getD k 0 == 0) = false → r_Kl.getD k 0 ≠ 0 := by decide +kernel
theorem r_Kd1 {f : Nat} (h : (r_N f == 0) = false) : r_Kd f ≠ 0 := by
  refine r_Kd0 (f - 2400) (Nat.lt_of_not_le fun z => ?_) h
  unfold r_N at h
  rw [List.getD_eq_getElem?_getD, List.getElem?_eq_none z] at h
  cases h
theorem fo_fr {L : c_L} {m out : Nat} {ad : Nat → Nat} {fo : Nat → Option Nat} {st : Nat → Nat} {T : q_S} {b : Nat} (lb : l_B L m ad fo st T) (ot : OT0 fo out L T) (hb : q_K T b = 0) : fo b = none := by
  cases e : fo b with
  | none => rfl
  | some f =>
    have h := ot.2.2.2 b f e
    have ea := lb.2.1.2.2.1 b f e
    have ek := (lb.2.1.2.1 f h).2.1
    rw [← ea, hb] at ek
    exact absurd ek.symm (r_Kd1 h)
theorem um_add {L : c_L} {T : q_S} {K : c_S} {c n bc bs u v : Nat} {x1 x2 : Int32} {Q : Option Value → q_S → Prop} (g : c_G L T) (mc : c_mk L 1 c) (h5 : c_I K 215 c = nI n) (n60 : n < 60) (hl : c_ln L 213 c = 60 ∧ c_ln L 214 c = 60) (h : Q none (c_E L (cs_I (cs_A (cs_A K 213 c n x1) 214 c n x2) 215 c (nI (n + 1))) T)) : wb_X1_addInput_24 bc bs u v (c_E L K T) (c_ob L 1 c) x1 x2 Q := by
  have m3 := c_gA g 213 rfl (by decide) mc
  have m4 := c_gA g 214 rfl (by decide) mc
  have ck := nI_clamp (n := n) (by omega)
  refine ⟨c_gk g mc 2 rfl, ?_⟩
  rw [c_eI mc rfl, h5, ck]
  refine bf_ (nI_ge (a := n) (b := 60) n60 (by decide)) ⟨_, c_ga g 213 rfl rfl (by decide) mc, c_gr g m3 21 rfl, by rw [c_gn g m3, hl.1]; exact vp_in_nI n60 (by decide), ?_⟩
  rw [c_eAs (c_gw g) m3]
  refine ⟨_, c_ga g 214 rfl rfl (by decide) mc, c_gr g m4 21 rfl, ?_, fun S eS => ?_⟩
  · rw [c_gn g m4, hl.2, c_eI mc rfl]
    rw [show c_I (cs_A K 213 c n x1) 215 c = nI n from h5]
    exact vp_in_nI n60 (by decide)
  · have e : S = c_E L (cs_A (cs_A K 213 c n x1) 214 c n x2) T := by
      rw [eS, c_eI mc rfl, show c_I (cs_A K 213 c n x1) 215 c = nI n from h5, ck, c_eAs (c_gw g) m4]
    rw [e, c_eI mc rfl, c_eIs (c_gw g) mc rfl, show c_I (cs_A (cs_A K 213 c n x1) 214 c n x2) 215 c = nI n from h5, nI_1]
    exact h
theorem re_inp {R : r_S} {i n : Nat} {x2 x3 : Int32} {Q : Option Value → r_S → Prop} (hl : ¬ r_I R 2413 = 0) (hg : r_I R 2414 = 0) (e18 : nI i < r_I R 2418) (hi : i < 24) (h4 : r_A R 2504 i = nI n) (n60 : n ≤ 60) (hx : ¬ x2 < 0) (hn : ∀ k : Nat, n = k + 1 → r_A R 2506 (60 * i + k) < x2) (h : (n < 60 → Q none (rs_A (rs_A (rs_A (rs_I (rs_I R 2400 0) 2400 0) 2506 (60 * i + n) x2) 2507 (60 * i + n) x3) 2504 i (nI (n + 1)))) ∧ (n = 60 → Q none (rs_I (rs_I R 2400 0) 2400 3))) : rm_X12_input R (nI i) x2 x3 Q := by
  have ck := nI_clamp (n := i) (by omega)
  have v4 : vp_in (nI i) (r_N 2504) := ri_v (n := 24) rfl (by omega) (by decide)
  have h87 : rb_X12_input_87 (rs_I R 2400 0) (nI i) x2 x3 (nI n) Q := by
    by_cases c : n = 60
    · subst c
      exact nt_ rfl (bf_ (by show ¬ (3 : Int32) ≤ 0; decide) (h.2 rfl))
    · refine nf_ (fun z => c ((nI_eq (a := n) (b := 60) (by omega) (by decide)).mp z)) (bt_ (by show (0 : Int32) ≤ 0; decide) ?_)
      rw [show (60 : Int32) * nI i + nI n = nI (60 * i + n) by rw [show (60 : Int32) = nI 60 from rfl, pk_mul, nI_add], nI_clamp (n := 60 * i + n) (by omega)]
      refine ⟨ri_v (n := 1440) rfl (by omega) (by decide), ri_v (n := 1440) rfl (by omega) (by decide), fun S eS => ⟨v4, v4, ?_⟩⟩
      subst eS
      rw [ck, r_An (Or.inl (by decide)), r_An (Or.inl (by decide)), show r_A (rs_I (rs_I R 2400 0) 2400 0) 2504 i = nI n from h4, nI_1]
      exact h.1 (by omega)
  refine bf_ hl (bt_ hg (bf_ (nI_pos (by omega)) (bt_ e18 (bt_ (by show (0 : Int32) ≤ 0; decide) ⟨v4, bf_ hx ?_⟩))))
  rw [ck, show r_A (rs_I R 2400 0) 2504 i = nI n from h4]
  by_cases c : n = 0
  · subst c
    exact bt_ (by decide) h87
  · obtain ⟨k, rfl⟩ : ∃ k : Nat, n = k + 1 := ⟨n - 1, by omega⟩
    have e6 : (60 : Int32) * nI i + nI (k + 1) - 1 = nI (60 * i + k) := by
      rw [show (60 : Int32) = nI 60 from rfl, pk_mul, nI_add, show 60 * i + (k + 1) = 60 * i + k + 1 by omega, ← nI_1 (a := 60 * i + k)]
      exact Int32.add_sub_cancel _ _
    rw [e6, nI_clamp (n := 60 * i + k) (by omega)]
    exact bf_ (nI_nle (by omega) (by omega)) ⟨ri_v (n := 1440) rfl (by omega) (by decide), bt_ (hn k rfl) h87⟩
theorem re_inp2 {R : r_S} {i n : Nat} {x2 x3 : Int32} {Q : Option Value → r_S → Prop} (hl : ¬ r_I R 2413 = 0) (hg : r_I R 2414 = 0) (e18 : nI i < r_I R 2418) (hi : i < 24) (h4 : r_A R 2504 i = nI n) (n60 : n ≤ 60) (hx : x2 < 0 ∨ ∃ k : Nat, n = k + 1 ∧ ¬ r_A R 2506 (60 * i + k) < x2) (h : Q none (rs_I (rs_I R 2400 0) 2400 2)) : rm_X12_input R (nI i) x2 x3 Q := by
  have ck := nI_clamp (n := i) (by omega)
  have v4 : vp_in (nI i) (r_N 2504) := ri_v (n := 24) rfl (by omega) (by decide)
  have h83 : ∀ x : Int32, rb_X12_input_83 (rs_I R 2400 0) (nI i) x2 x3 x Q := fun x => bf_ (by show ¬ (2 : Int32) ≤ 0; decide) h
  refine bf_ hl (bt_ hg (bf_ (nI_pos (by omega)) (bt_ e18 (bt_ (by show (0 : Int32) ≤ 0; decide) ⟨v4, ?_⟩))))
  by_cases c : x2 < 0
  · exact bt_ c (h83 _)
  · obtain ⟨k, rfl, hk⟩ := hx.resolve_left c
    refine bf_ c ?_
    rw [ck, show r_A (rs_I R 2400 0) 2504 i = nI (k + 1) from h4]
    have e6 : (60 : Int32) * nI i + nI (k + 1) - 1 = nI (60 * i + k) := by
      rw [show (60 : Int32) = nI 60 from rfl, pk_mul, nI_add, show 60 * i + (k + 1) = 60 * i + k + 1 by omega, ← nI_1 (a := 60 * i + k)]
      exact Int32.add_sub_cancel _ _
    rw [e6, nI_clamp (n := 60 * i + k) (by omega)]
    exact bf_ (nI_nle (by omega) (by omega)) ⟨ri_v (n := 1440) rfl (by omega) (by decide), bf_ hk (h83 _)⟩
theorem re_inp1 {R : r_S} {x1 x2 x3 : Int32} {Q : Option Value → r_S → Prop} (hl : ¬ r_I R 2413 = 0) (hg : r_I R 2414 = 0) (hx : x1 < 0 ∨ ¬ x1 < r_I R 2418) (h : Q none (rs_I R 2400 1)) : rm_X12_input R x1 x2 x3 Q := by
  have h31 : rb_X12_input_31 R x1 x2 x3 Q := bf_ (by show ¬ (1 : Int32) ≤ 0; decide) h
  refine bf_ hl (bt_ hg ?_)
  by_cases c : x1 < 0
  · exact bt_ c h31
  · exact bf_ c (bf_ (hx.resolve_left c) h31)
theorem re_inp3 {R : r_S} {x1 x2 x3 : Int32} {Q : Option Value → r_S → Prop} (hx : r_I R 2413 = 0 ∨ ¬ r_I R 2414 = 0) (h : Q none (rs_I R 2400 3)) : rm_X12_input R x1 x2 x3 Q := by
  have h15 : rb_X12_input_15 R x1 x2 x3 Q := bf_ (by show ¬ (3 : Int32) ≤ 0; decide) h
  by_cases c : r_I R 2413 = 0
  · exact bt_ c h15
  · exact bf_ c (bf_ (hx.resolve_left c) h15)
theorem nw_WF {m : Nat} {ad : Nat → Nat} {fo : Nat → Option Nat} {st : Nat → Nat} {S : q_S} {f o b : Nat} (w : r_WF m ad fo st S) (hb : q_K S b = 0) (ho : q_K S o ≠ 13) : r_WF m ad fo st (qs_P (qs_R S 21 60 b) f o (some b)) := by
  have qK : ∀ a : Nat, a ≠ b → q_K (qs_P (qs_R S 21 60 b) f o (some b)) a = q_K S a := fun a ha => if_neg ha
  have qN : ∀ a : Nat, a ≠ b → q_N (qs_P (qs_R S 21 60 b) f o (some b)) a = q_N S a := fun a ha => if_neg ha
  have kb : q_K (qs_P (qs_R S 21 60 b) f o (some b)) b = 21 := if_pos rfl
  obtain ⟨w1, w2, w3, w4, w5, w6⟩ := w
  have nb : ∀ a : Nat, q_K S a ≠ 0 → a ≠ b := fun a ha z => ha (by rw [z]; exact hb)
  refine ⟨(qK m (nb m (by rw [w1]; decide))).trans w1, fun f' hf => ?_, w3, fun k hk => ?_, fun b' h => ?_, fun k hk => ?_⟩
  · obtain ⟨a1, a2, a3, a4⟩ := w2 f' hf
    have na := nb (ad f') (by rw [a2]; exact r_Kd1 hf)
    refine ⟨?_, (qK _ na).trans a2, (qN _ na).trans a3, a4⟩
    rw [← a1]
    exact if_neg (fun z => ho (by rw [← z.2]; exact w1))
  · have na := nb (st k) (by rw [(w4 k hk).1]; decide)
    exact ⟨(qK _ na).trans (w4 k hk).1, (qN _ na).trans (w4 k hk).2⟩
  · by_cases e : b' = b
    · rw [e, kb] at h; cases h
    · rw [qK _ e] at h
      rw [qN _ e]
      exact w5 b' h
  · obtain ⟨b', h1, h2⟩ := w6 k hk
    have na := nb b' (by rw [h1]; decide)
    exact ⟨b', (qK _ na).trans h1, (qN _ na).trans h2⟩
theorem nw_Sep {L : c_L} {m : Nat} {fo : Nat → Option Nat} {f c b : Nat} (s : l_Sep L m fo) (hb : fo b = none) : l_Sep (c_nw L f c b) m fo := by
  refine ⟨s.1, fun a f' h => ?_⟩
  show (if a = b then some (f, c) else if a = c_ar L f c then none else c_aw L a) = none
  have : a ≠ b := fun z => by rw [z, hb] at h; cases h
  rw [if_neg this]
  split
  · rfl
  · exact s.2 a f' h
theorem nw_OT {L : c_L} {fo : Nat → Option Nat} {out : Nat} {S : q_S} {f c b o : Nat} (ot : OT0 fo out L S) (hb : q_K S b = 0) (hf : f ≠ 1801) : OT0 fo out (c_nw L f c b) (qs_P (qs_R S 21 60 b) f o (some b)) := by
  have nb : out ≠ b := fun z => by
    have := ot.1
    rw [z, hb] at this
    cases this
  refine ⟨(if_neg nb).trans ot.1, (if_neg nb).trans ot.2.1, ?_, ot.2.2.2⟩
  rw [nw_a (fun z => hf z.1.symm)]
  exact ot.2.2.1
theorem nw_LI {L : c_L} {c b1 b2 : Nat} (h : LI L) : LI (c_nw (c_nw L 213 c b1) 214 c b2) := by
  have q : ∀ f i : Nat, c_ln (c_nw (c_nw L 213 c b1) 214 c b2) f i = if f = 214 ∧ i = c then 60 else if f = 213 ∧ i = c then 60 else c_ln L f i := fun f i => rfl
  refine ⟨fun p m => ?_, fun i m => ?_, fun c' m => ?_, h.2.2.2.1, h.2.2.2.2.1, h.2.2.2.2.2.1, h.2.2.2.2.2.2.1, h.2.2.2.2.2.2.2⟩
  · rw [q, q, if_neg (by omega), if_neg (by omega), if_neg (by omega), if_neg (by omega)]
    exact h.1 p m
  · rw [q, if_neg (by omega), if_neg (by omega)]
    exact h.2.1 i m
  · by_cases z : c' = c
    · rw [q, q, if_neg (by omega), if_pos ⟨rfl, z⟩, if_pos ⟨rfl, z⟩]
      exact Or.inl ⟨rfl, rfl⟩
    · rw [q, q, if_neg (by omega), if_neg (by omega), if_neg (by omega), if_neg (by omega)]
      exact h.2.2.1 c' m
theorem l_input {ob m out : Nat} {ad : Nat → Nat} {fo : Nat → Option Nat} {st : Nat → Nat} : lh_5 ob m out ad fo st := by
  intro Ln x4 B n u v L T K R Z y1 y2 y3 hn li lc vk hu hv
  obtain ⟨lb, w, zi, ot, eo, ht⟩ := li
  have g := lb.1
  have sep := lb.2.2
  have gE : c_G L (r_E m fo R T) := lp_G g
  have m11 := lp_11 g
  have m6 : c_mk L 6 0 := c_gO g 2201 6 rfl (by decide) m11
  have v1 : vp_in (x4 + 1) Ln := vk 1 (by decide)
  have v2 : vp_in (x4 + 2) Ln := vk 2 (by decide)
  have v3 : vp_in (x4 + 3) Ln := vk 3 (by decide)
  have ka : q_K (lp_S m fo L T K R) ob = 12 := by rw [← eo]; exact c_gk gE m11 12 rfl
  have cc := WR_cc w
  have ni24 : z_ni Z ≤ 24 := cc.1.2.1
  have e5 : c_I K 1205 0 = nI (z_ni Z) := cc.2.2.2.1.1
  have e18 : r_I R 2418 = nI (z_ni Z) := cc.2.2.2.1.2
  have e13 : c_I K 1213 0 = r_I R 2413 := (GL_el w).2.2.1.1
  have e14 : c_I K 1214 0 = r_I R 2414 := (GL_el w).2.2.2.1.1
  -- what comes behind the class's call, wherever it ends
  have go : ∀ (c : Int32) (L' : c_L) (T' : q_S) (K' : c_S) (R' : r_S) (Z' : z_C), l_B L' m ad fo st T' → OT fo out L' T' → c_ob L' 11 0 = ob → WR (1000000 * n) L' Z' K' R' → ZI Z' R' → z_tm Z' = z_tm Z → r_I R' 2400 = c → (∀ Q : Option Value → r_S → Prop, Q none R' → rm_X12_input R y1 y2 y3 Q) → ∃ x106_ : Int32, (some (Value.int c)) = some (.int x106_) ∧ (vp_in (x4 + (1 : Int32)) Ln ∧ (vp_in (x4 + (2 : Int32)) Ln ∧ (vp_in (x4 + (3 : Int32)) Ln ∧ (∃ a110_ : Nat, some m = some a110_ ∧ (q_K (lp_S m fo L' T' K' R) a110_ = 13 ∧ (wm_X12_input (lp_S m fo L' T' K' R) a110_ y1 y2 y3 (fun r113_ S114_ => r113_ = none ∧ (q_K S114_ a110_ = 13 ∧ (wm_X12_thrown S114_ a110_ (fun r116_ S117_ => ∃ x118_ : Int32, r116_ = some (.int x118_) ∧ (((x118_ = x106_ → (B (u + 2) (v + 120) S117_)) ∧ (¬ x118_ = x106_ → ((0 : Int32) = 1)))))))))))))) := fun c L' T' K' R' Z' lb' ot' eo' w' zi' tm' rc hr => by
    have sep' := lb'.2.2
    refine ⟨_, rfl, v1, v2, v3, _, rfl, lb'.2.1.1, ?_⟩
    unfold lp_S
    rw [lp_com sep']
    refine (em_X12_input (lp_WF sep' lb'.2.1) R y1 y2 y3 _).mpr (hr _ ⟨rfl, lb'.2.1.1, ?_⟩)
    refine (em_X12_thrown (lp_WF sep' lb'.2.1) _ _).mpr ⟨_, rfl, bt_ rc ?_⟩
    rw [← lp_com sep']
    exact lc L' T' K' R' Z' _ _ ⟨lb', WR_w w' (by omega), zi', ot', eo', by rw [tm']; exact Nat.le_trans ht (by omega)⟩ (by omega) (by omega)
  have bad : ∀ (c : Int32) (R' : r_S) (Z' : z_C), WR (1000000 * n) L Z' K R' → ZI Z' R' → z_tm Z' = z_tm Z → r_I R' 2400 = c → (∀ Q : Option Value → r_S → Prop, Q none R' → rm_X12_input R y1 y2 y3 Q) → _ := fun c R' Z' h1 h2 h3 h4 h5 => go c L T K R' Z' lb ot eo h1 h2 h3 h4 h5
  have w0 := WR_400 (v := 0) w
  refine ⟨v1, v2, v3, 2, 120, ⟨by omega, by omega⟩, _, rfl, ka, 2, 120, ⟨by omega, by omega⟩, ka, c_ob L 6 0, ?_, c_gk gE m6 7 rfl, ?_⟩
  · rw [← eo]; exact c_gp gE 2201 6 rfl rfl (by decide) m11
  have q13 : q_I (lp_S m fo L T K R) 1213 (c_ob L 6 0) = r_I R 2413 := (c_eI m6 rfl).trans e13
  have q14 : q_I (lp_S m fo L T K R) 1214 (c_ob L 6 0) = r_I R 2414 := (c_eI m6 rfl).trans e14
  rw [q13, q14]
  have b3 : (r_I R 2413 = 0 ∨ ¬ r_I R 2414 = 0) → _ := fun hx => bad 3 _ _ (WR_400 (v := 3) w) (ZI_th zi) rfl rfl (fun Q hQ => re_inp3 hx hQ)
  by_cases c13 : r_I R 2413 = 0
  · exact bt_ c13 ⟨⟨by omega, by omega⟩, fun _ => Or.inr (Or.inr ⟨rfl, b3 (Or.inl c13)⟩)⟩
  by_cases c14 : r_I R 2414 = 0
  case neg => exact bf_ c13 (bf_ c14 ⟨⟨by omega, by omega⟩, fun _ => Or.inr (Or.inr ⟨rfl, b3 (Or.inr c14)⟩)⟩)
  refine bf_ c13 (bt_ c14 ?_)
  rcases io_ y1 (n := z_ni Z) (by omega) with ⟨i, hi, rfl⟩ | ho
  case inr =>
    have kno : km_X6_inputAt L K 0 y1 (fun r S => r = none ∧ S = K) := by
      by_cases c : y1 < 0
      · exact bt_ c ⟨rfl, rfl⟩
      · exact bf_ c (bf_ (by rw [e5]; exact nlt_of (ho.resolve_left c)) ⟨rfl, rfl⟩)
    refine um_X6_inputAt gE K 0 y1 m6 kno (fun r K1 h1 => ?_)
    obtain ⟨rfl, rfl⟩ := h1
    exact ⟨_, rfl, nt_ rfl ⟨⟨by omega, by omega⟩, fun _ => Or.inl ⟨rfl, bad 1 _ _ (WR_400 (v := 1) w) (ZI_th zi) rfl rfl (fun Q hQ => re_inp1 c13 c14 (ho.imp id (fun z => by rw [e18]; exact nlt_of z)) hQ)⟩⟩⟩
  case inl =>
    obtain ⟨hc, e4, -, -⟩ := cc.2.2.2.2.2.2.2.1 i hi
    have e4 : c_A K 1204 0 i = nI (z_ic Z i) := e4
    have mc := (CC_c cc hc).1.1
    obtain ⟨k, k', k60, kk, a3, a4, a5, a6, a7, a8⟩ := w.1.2.2.2.1 i hi
    have a3 : c_I K 215 (z_ic Z i) = nI k := a3
    have a4 : r_A R 2504 i = nI k := a4
    have l18 : nI i < r_I R 2418 := by rw [e18]; exact nI_lt hi (by omega)
    have kin : km_X6_inputAt L K 0 (nI i) (fun r S => r = some (z_ic Z i) ∧ S = K) := by
      refine bf_ (nI_pos (by omega)) (bt_ (by rw [e5]; exact nI_lt hi (by omega)) ⟨vp_in_nI (by omega) (by decide), ?_⟩)
      rw [nI_clamp (by omega), e4]
      exact ke_channelAt cc hc ⟨rfl, rfl⟩
    refine um_X6_inputAt gE K 0 (nI i) m6 kin (fun r K1 h1 => ?_)
    obtain ⟨rfl, rfl⟩ := h1
    refine ⟨_, rfl, nf_ (fun z => (by cases z)) ?_⟩
    have b2 : (y2 < 0 ∨ ∃ j : Nat, k = j + 1 ∧ ¬ r_A R 2506 (60 * i + j) < y2) → _ := fun hx => bad 2 _ _ (WR_400 (v := 2) w0) (ZI_th (ZI_th zi)) rfl rfl (fun Q hQ => re_inp2 c13 c14 l18 (by omega) a4 k60 hx hQ)
    by_cases cy : y2 < 0
    · exact bt_ cy ⟨⟨by omega, by omega⟩, fun _ => Or.inr (Or.inl ⟨rfl, b2 (Or.inl cy)⟩)⟩
    refine bf_ cy ⟨_, rfl, c_gk gE mc 2 rfl, ?_⟩
    have y0 : 0 ≤ y2.toInt := by
      have := i_le.mp (i_nlt.mp cy)
      exact this
    -- the latest
    have klast : km_X1_latestInput L K1 (z_ic Z i) (fun x S => ((k = 0 ∧ x = -1) ∨ ∃ j : Nat, k = j + 1 ∧ x = r_A R 2506 (60 * i + j)) ∧ S = K1) := by
      by_cases c : k = 0
      · exact bt_ (by rw [a3, c]; decide) ⟨Or.inl ⟨c, rfl⟩, rfl⟩
      · obtain ⟨j, rfl⟩ : ∃ j : Nat, k = j + 1 := ⟨k - 1, by omega⟩
        have l60 : c_ln L 213 (z_ic Z i) = 60 := (a7.resolve_right (fun z => by omega)).1
        have ej : nI (j + 1) - 1 = nI j := by rw [← nI_1]; exact Int32.add_sub_cancel _ _
        refine bf_ (by rw [a3]; exact nI_nle (by omega) (by omega)) ?_
        rw [a3, l60, ej]
        refine bt_ (nI_le k60 (by decide)) ⟨vp_in_nI (by omega) (by decide), ?_⟩
        rw [nI_clamp (by omega)]
        exact ⟨Or.inr ⟨j, rfl, (a8 j (by omega)).1⟩, rfl⟩
    refine um_X1_latestInput gE K1 (z_ic Z i) mc klast (fun x K2 h2 => ⟨_, rfl, ?_⟩)
    obtain ⟨hx, rfl⟩ := h2
    have lat : ∀ j : Nat, k = j + 1 → x = r_A R 2506 (60 * i + j) := fun j ej => by
      rcases hx with ⟨z, -⟩ | ⟨j', e1, e2⟩
      · omega
      · obtain rfl : j' = j := by omega
        exact e2
    by_cases cl : x < y2
    case neg =>
      refine bf_ cl ⟨⟨by omega, by omega⟩, fun _ => Or.inr (Or.inl ⟨rfl, b2 (Or.inr ?_)⟩)⟩
      rcases hx with ⟨-, rfl⟩ | ⟨j, e1, e2⟩
      · exact absurd (i_lt.mpr (by show (-1 : Int) < y2.toInt; omega)) cl
      · exact ⟨j, e1, by rw [← e2]; exact cl⟩
    refine bt_ cl ⟨c_gk gE mc 2 rfl, ?_⟩
    rw [c_eI mc rfl, a3]
    have hlast : ∀ j : Nat, k = j + 1 → r_A R 2506 (60 * i + j) < y2 := fun j ej => by rw [← lat j ej]; exact cl
    by_cases c60 : k < 60
    case neg =>
      obtain rfl : k = 60 := by omega
      exact bf_ (by decide) ⟨⟨by omega, by omega⟩, fun _ => Or.inr (Or.inr ⟨rfl, bad 3 _ _ (WR_400 (v := 3) w0) (ZI_th (ZI_th zi)) rfl rfl (fun Q hQ => re_inp c13 c14 l18 (by omega) a4 (by omega) cy hlast ⟨fun z => by omega, fun _ => hQ⟩)⟩)⟩
    refine bt_ (nI_lt (a := k) (b := 60) c60 (by decide)) ⟨2, 120, ⟨by omega, by omega⟩, ?_⟩
    have rgo : ∀ Q : Option Value → r_S → Prop, Q none (rs_A (rs_A (rs_A (rs_I (rs_I R 2400 0) 2400 0) 2506 (60 * i + k) y2) 2507 (60 * i + k) y3) 2504 i (nI (k + 1))) → rm_X12_input R (nI i) y2 y3 Q := fun Q hQ => re_inp c13 c14 l18 (by omega) a4 k60 cy hlast ⟨fun _ => hQ, fun z => by omega⟩
    have zi2 : ZI (zs_th (zs_th Z 0) 0) (rs_A (rs_A (rs_A (rs_I (rs_I R 2400 0) 2400 0) 2506 (60 * i + k) y2) 2507 (60 * i + k) y3) 2504 i (nI (k + 1))) := ZI_o zi rfl rfl rfl rfl rfl rfl id (fun j => by rw [r_An (Or.inl (by decide)), r_An (Or.inl (by decide)), r_An (Or.inl (by decide))]; rfl) (fun j => by rw [r_An (Or.inl (by decide)), r_An (Or.inl (by decide)), r_An (Or.inl (by decide))]; rfl)
    have m3 := c_gA g 213 rfl (by decide) mc
    refine ⟨c_gk gE mc 2 rfl, _, c_ga gE 213 rfl rfl (by decide) mc, c_gr gE m3 21 rfl, ?_⟩
    rw [c_gn gE m3]
    rcases a7 with ⟨l3, l4⟩ | ⟨l3, l4, rfl⟩
    · rw [l3]
      have wi := WR_inp (Z := zs_th (zs_th Z 0) 0) (x2 := y2) (x3 := y3) (WR_400 (v := 0) w0) hi a3 c60 ⟨l3, l4⟩ y0
      exact nf_ (by decide) (um_add gE mc a3 c60 ⟨l3, l4⟩ ⟨rfl, rfl, go 0 L T _ _ _ lb ot eo wi zi2 rfl rfl rgo⟩)
    · rw [l3]
      refine nt_ rfl ⟨⟨by omega, by omega⟩, fun b1 hb1 => ⟨⟨by omega, by omega⟩, fun b2 hb2 S eS => ?_⟩⟩
      subst eS
      -- the pool stands for itself
      have gS : c_G L (c_E L K2 (r_E m fo R T)) := c_GE gE
      have tS : lp_T m fo L (c_E L K2 (r_E m fo R T)) K2 R := lp_T0 (c_gw g) sep
      have lbS : l_B L m ad fo st (c_E L K2 (r_E m fo R T)) := ⟨gS, lp_WF sep lb.2.1, sep⟩
      have otS : OT0 fo out L (c_E L K2 (r_E m fo R T)) := ot.1
      have koS : q_K (c_E L K2 (r_E m fo R T)) (c_ob L 1 (z_ic Z i)) = 2 := c_gk gE mc 2 rfl
      have f1 : fo b1 = none := fo_fr lb ot.1 hb1
      have wi0 := WR_nw (Z := zs_th (zs_th Z 0) 0) (b1 := b1) (b2 := b2) (n := 0) (WR_400 (v := 0) w0) hi a3 rfl
      have ll : c_ln (c_nw (c_nw L 213 (z_ic Z i) b1) 214 (z_ic Z i) b2) 213 (z_ic Z i) = 60 ∧ c_ln (c_nw (c_nw L 213 (z_ic Z i) b1) 214 (z_ic Z i) b2) 214 (z_ic Z i) = 60 := by
        constructor
        · show (if 213 = 214 ∧ z_ic Z i = z_ic Z i then 60 else if 213 = 213 ∧ z_ic Z i = z_ic Z i then 60 else c_ln L 213 (z_ic Z i)) = 60
          rw [if_neg (fun z => absurd z.1 (by decide)), if_pos ⟨rfl, rfl⟩]
        · show (if 214 = 214 ∧ z_ic Z i = z_ic Z i then 60 else _) = 60
          rw [if_pos ⟨rfl, rfl⟩]
      have wi := WR_inp (x2 := y2) (x3 := y3) wi0 hi (n := 0) a3 c60 ll y0
      generalize c_E L K2 (r_E m fo R T) = S at gS tS lbS otS koS hb1 hb2 ⊢
      have g1 := nw_G (f := 213) gS (Or.inl rfl) mc hb1
      have t1 : lp_T m fo (c_nw L 213 (z_ic Z i) b1) (qs_P (qs_R S 21 60 b1) 213 (c_ob L 1 (z_ic Z i)) (some b1)) (cs_G K2 213 (z_ic Z i) (fun _ => 0)) R := ⟨nw_E gS (Or.inl rfl) mc hb1 tS.1, nw_R f1 tS.2⟩
      have lb1 : l_B (c_nw L 213 (z_ic Z i) b1) m ad fo st (qs_P (qs_R S 21 60 b1) 213 (c_ob L 1 (z_ic Z i)) (some b1)) := ⟨g1, nw_WF lbS.2.1 hb1 (by rw [koS]; decide), nw_Sep sep f1⟩
      have ot1 : OT0 fo out (c_nw L 213 (z_ic Z i) b1) (qs_P (qs_R S 21 60 b1) 213 (c_ob L 1 (z_ic Z i)) (some b1)) := nw_OT otS hb1 (by decide)
      have f2 : fo b2 = none := fo_fr lb1 ot1 hb2
      have ko1 : q_K (qs_P (qs_R S 21 60 b1) 213 (c_ob L 1 (z_ic Z i)) (some b1)) (c_ob L 1 (z_ic Z i)) = 2 := g1.2.1 1 (z_ic Z i) mc
      have g2 := nw_G (f := 214) g1 (Or.inr rfl) mc hb2
      have t2 : lp_S m fo (c_nw (c_nw L 213 (z_ic Z i) b1) 214 (z_ic Z i) b2) (qs_P (qs_R (qs_P (qs_R S 21 60 b1) 213 (c_ob L 1 (z_ic Z i)) (some b1)) 21 60 b2) 214 (c_ob L 1 (z_ic Z i)) (some b2)) (cs_G (cs_G K2 213 (z_ic Z i) (fun _ => 0)) 214 (z_ic Z i) (fun _ => 0)) R = qs_P (qs_R (qs_P (qs_R S 21 60 b1) 213 (c_ob L 1 (z_ic Z i)) (some b1)) 21 60 b2) 214 (c_ob L 1 (z_ic Z i)) (some b2) := lp_TS ⟨nw_E g1 (Or.inr rfl) mc hb2 t1.1, nw_R (o := c_ob L 1 (z_ic Z i)) (f := 214) f2 t1.2⟩
      have lb2 : l_B (c_nw (c_nw L 213 (z_ic Z i) b1) 214 (z_ic Z i) b2) m ad fo st (qs_P (qs_R (qs_P (qs_R S 21 60 b1) 213 (c_ob L 1 (z_ic Z i)) (some b1)) 21 60 b2) 214 (c_ob L 1 (z_ic Z i)) (some b2)) := ⟨g2, nw_WF lb1.2.1 hb2 (by rw [ko1]; decide), nw_Sep lb1.2.2 f2⟩
      have ot2 : OT0 fo out (c_nw (c_nw L 213 (z_ic Z i) b1) 214 (z_ic Z i) b2) (qs_P (qs_R (qs_P (qs_R S 21 60 b1) 213 (c_ob L 1 (z_ic Z i)) (some b1)) 21 60 b2) 214 (c_ob L 1 (z_ic Z i)) (some b2)) := nw_OT ot1 hb2 (by decide)
      rw [← t2]
      exact um_add (lp_G g2) mc a3 c60 ll ⟨rfl, rfl, go 0 _ _ _ _ _ lb2 ⟨ot2, nw_LI ot.2⟩ eo wi zi2 rfl rfl rgo⟩
