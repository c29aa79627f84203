/-! begin, image and end, within the law. -/
theorem um_begin {L : c_L} {T : q_S} (g : c_G L T) {bc bs : Nat} {Q1 : c_S → Prop} {Q : Option Value → q_S → Prop} {E : String → q_S → Prop} (hQ : ∀ K' : c_S, Q1 K' → Q none (c_E L K' T)) : ∀ (n u v : Nat) (K : c_S) (x : Int32), k_bg L n K x Q1 → wl_X11_begin_40 bc bs n u v (c_E L K T) (c_ob L 11 0) x Q E := by
  have m11 := lp_11 g
  have m6 : c_mk L 6 0 := c_gO g 2201 6 rfl (by decide) m11
  have ma := c_gA g 1200 rfl (by decide) m6
  intro n
  induction n with
  | zero =>
    intro u v K x h
    exact h.elim
  | succ n ih =>
    intro u v K x h
    refine ⟨c_gk g m11 12 rfl, _, c_gp g 2201 6 rfl rfl (by decide) m11, c_gk g m6 7 rfl, ?_⟩
    rw [c_eI m6 rfl]
    refine ⟨fun z => hQ K (h.1 z), fun z => ?_⟩
    obtain ⟨hv, a, ha, m5, hb⟩ := h.2 z
    refine ⟨_, c_ga g 1200 rfl rfl (by decide) m6, c_gr g ma 25 rfl, by rw [c_gN g ma 16 (by decide)]; exact hv, c_ob L 5 a, ?_, c_gk g m5 6 rfl, ?_⟩
    · exact (g.2.2.2.2.2.2.2.2.2.1 x.toNatClampNeg).1.trans (by rw [ha]; rfl)
    · exact um_X5_beginAnew g K a 1 0 0 m5 hb (fun K' h' => ⟨rfl, ih u v K' _ h'⟩)
theorem l_begin {ob m out : Nat} {ad : Nat → Nat} {fo : Nat → Option Nat} {st : Nat → Nat} : lh_6 ob m out ad fo st := by
  intro Ln x4 B n u v L T K R Z y1 y2 y3 hn li lc vk hu hv
  obtain ⟨lb, w, zi, ot, eo, ht⟩ := li
  have g := lb.1
  have sep := lb.2.2
  have gE : c_G L (r_E m fo R T) := lp_G g
  have m11 := lp_11 g
  have m6 : c_mk L 6 0 := c_gO g 2201 6 rfl (by decide) m11
  have gl := GL_el w
  have e13 : c_I K 1213 0 = z_ld Z := gl.2.2.1.1.trans gl.2.2.2.2.2.2.1
  have l01 : z_ld Z = 0 ∨ z_ld Z = 1 := by rw [← gl.2.2.2.2.2.2.1]; exact gl.2.2.1.2.1
  have e14 : c_I K 1214 0 = z_bg Z := gl.2.2.2.1.1.trans gl.2.2.2.2.2.2.2
  have ka : q_K (lp_S m fo L T K R) ob = 12 := by rw [← eo]; exact c_gk gE m11 12 rfl
  refine ⟨1, 6, ⟨by omega, by omega⟩, _, rfl, ka, 1, 6, ⟨by omega, by omega⟩, ka, c_ob L 6 0, ?_, c_gk gE m6 7 rfl, ?_⟩
  · rw [← eo]; exact c_gp gE 2201 6 rfl rfl (by decide) m11
  have q13 : q_I (lp_S m fo L T K R) 1213 (c_ob L 6 0) = z_ld Z := (c_eI m6 rfl).trans e13
  have q14 : q_I (lp_S m fo L T K R) 1214 (c_ob L 6 0) = z_bg Z := (c_eI m6 rfl).trans e14
  rw [q13, q14]
  have bad : (z_ld Z = 0 ∨ ¬ z_bg Z = 0) → ∃ x125_ : Int32, (some (Value.int 1)) = some (.int x125_) ∧ (∃ a126_ : Nat, some m = some a126_ ∧ (q_K (lp_S m fo L T K R) a126_ = 13 ∧ (wm_X12_begin (lp_S m fo L T K R) a126_ (fun r129_ S130_ => r129_ = none ∧ (q_K S130_ a126_ = 13 ∧ (wm_X12_thrown S130_ a126_ (fun r132_ S133_ => ∃ x134_ : Int32, r132_ = some (.int x134_) ∧ (((x134_ = x125_ → (B (u + 1) (v + 6) S133_)) ∧ (¬ x134_ = x125_ → ((0 : Int32) = 1))))))))))) := fun hx => by
    refine ⟨_, rfl, _, rfl, lb.2.1.1, ?_⟩
    unfold lp_S
    rw [lp_com sep]
    refine (em_X12_begin (lp_WF sep lb.2.1) R _).mpr (re_begin1 w hx ⟨rfl, lb.2.1.1, ?_⟩)
    refine (em_X12_thrown (lp_WF sep lb.2.1) _ _).mpr ⟨_, rfl, bt_ rfl ?_⟩
    rw [← lp_com sep]
    exact lc L T K (rs_I R 2400 1) (zs_th Z 1) _ _ ⟨lb, WR_w (WR_400 w) (by omega), ZI_th zi, ot, eo, Nat.le_trans ht (by omega)⟩ (by omega) (by omega)
  by_cases cl : z_ld Z = 0
  · exact bt_ cl ⟨⟨by omega, by omega⟩, fun _ => ⟨rfl, bad (Or.inl cl)⟩⟩
  · by_cases cb : z_bg Z = 0
    case neg => exact bf_ cl (bf_ cb ⟨⟨by omega, by omega⟩, fun _ => ⟨rfl, bad (Or.inr cb)⟩⟩)
    case pos =>
      obtain ⟨⟨n1, n2⟩, n3⟩ := zi.1 cb
      obtain ⟨K', R', f1, f2, f3, -⟩ := P_beg w (lp_gk g) (l01.resolve_left cl) cb n1 n2 (fun p hp => (n3 p hp).1) (by omega)
      refine bf_ cl (bt_ cb ⟨z_np Z + 1, ?_⟩)
      rw [← eo]
      unfold lp_S
      rw [c_eIs (c_gw g) m6 rfl]
      refine um_begin gE (Q1 := fun S => S = K') (fun S eS => ?_) _ 0 0 _ _ (f1 _ rfl)
      subst eS
      refine ⟨rfl, _, rfl, _, rfl, lb.2.1.1, ?_⟩
      rw [lp_com sep]
      refine (em_X12_begin (lp_WF sep lb.2.1) R _).mpr (f2 _ ⟨rfl, lb.2.1.1, ?_⟩)
      have r0 : r_I R' 2400 = 0 := (GL_el f3).2.2.1.2.2
      refine (em_X12_thrown (lp_WF sep lb.2.1) _ _).mpr ⟨_, rfl, bt_ r0 ?_⟩
      rw [← lp_com sep]
      exact lc L T S R' _ _ _ ⟨lb, WR_w f3 (by omega), ⟨fun z => absurd z (by show ¬ (1 : Int32) = 0; decide), fun _ => rfl, zi.2.2.1, fun _ => cl⟩, ot, eo, Nat.le_trans ht (by omega)⟩ (by omega) (by omega)
theorem l_image {ob m out : Nat} {ad : Nat → Nat} {fo : Nat → Option Nat} {st : Nat → Nat} : lh_4 ob m out ad fo st := by
  intro Ln x4 B n u v L T K R Z y1 y2 y3 hn li lc vk hu hv
  obtain ⟨lb, w, zi, ot, eo, ht⟩ := li
  have g := lb.1
  have sep := lb.2.2
  have gE : c_G L (r_E m fo R T) := lp_G g
  have m11 := lp_11 g
  have m6 : c_mk L 6 0 := c_gO g 2201 6 rfl (by decide) m11
  have v1 : vp_in (x4 + 1) Ln := vk 1 (by decide)
  have v2 : vp_in (x4 + 2) Ln := vk 2 (by decide)
  have v3 : vp_in (x4 + 3) Ln := vk 3 (by decide)
  have ka : q_K (lp_S m fo L T K R) ob = 12 := by rw [← eo]; exact c_gk gE m11 12 rfl
  obtain ⟨c, K', R', f1, f2, f3, f4⟩ := P_image (x1 := y1) (x2 := y2) (x3 := y3) w
  have r0 : r_I R' 2400 = c := (GL_el f3).2.2.1.2.2
  have fin : B (u + 1) (v + 6) (r_E m fo R' (c_E L K' T)) := by
    rw [← lp_com sep]
    exact lc L T K' R' _ _ _ ⟨lb, WR_w f3 (by omega), ZI_o zi rfl rfl rfl rfl rfl rfl id (fun i => f4 _ _ (by decide)) (fun i => f4 _ _ (by decide)), ot, eo, Nat.le_trans ht (by omega)⟩ (by omega) (by omega)
  have go : ∃ x84_ : Int32, (some (Value.int c)) = some (.int x84_) ∧ (vp_in (x4 + (1 : Int32)) Ln ∧ (vp_in (x4 + (2 : Int32)) Ln ∧ (vp_in (x4 + (3 : Int32)) Ln ∧ (∃ a88_ : Nat, some m = some a88_ ∧ (q_K (c_E L K' (r_E m fo R T)) a88_ = 13 ∧ (wm_X12_image (c_E L K' (r_E m fo R T)) a88_ y1 y2 y3 (fun r91_ S92_ => r91_ = none ∧ (q_K S92_ a88_ = 13 ∧ (wm_X12_thrown S92_ a88_ (fun r94_ S95_ => ∃ x96_ : Int32, r94_ = some (.int x96_) ∧ (((x96_ = x84_ → (B (u + 1) (v + 6) S95_)) ∧ (¬ x96_ = x84_ → ((0 : Int32) = 1)))))))))))))) := by
    refine ⟨_, rfl, v1, v2, v3, _, rfl, lb.2.1.1, ?_⟩
    rw [lp_com sep]
    refine (em_X12_image (lp_WF sep lb.2.1) R y1 y2 y3 _).mpr (f2 _ ⟨rfl, lb.2.1.1, ?_⟩)
    exact (em_X12_thrown (lp_WF sep lb.2.1) _ _).mpr ⟨_, rfl, bt_ r0 fin⟩
  refine ⟨v1, v2, v3, 1, 6, ⟨by omega, by omega⟩, _, rfl, ka, 1, 6, ⟨by omega, by omega⟩, ka, c_ob L 6 0, ?_, c_gk gE m6 7 rfl, ?_⟩
  · rw [← eo]; exact c_gp gE 2201 6 rfl rfl (by decide) m11
  have q13 : q_I (lp_S m fo L T K R) 1213 (c_ob L 6 0) = c_I K 1213 0 := c_eI m6 rfl
  have q14 : q_I (lp_S m fo L T K R) 1214 (c_ob L 6 0) = c_I K 1214 0 := c_eI m6 rfl
  rw [q13, q14]
  obtain ⟨h1, h2⟩ := f1 (fun x S => x = c ∧ S = K') ⟨rfl, rfl⟩
  refine ⟨fun z => ?_, fun z => ⟨fun z2 => ?_, fun z2 => ?_⟩⟩
  · obtain ⟨e1, e2⟩ := h1 z
    refine ⟨⟨by omega, by omega⟩, fun _ => Or.inr ⟨rfl, ?_⟩⟩
    rw [← e1, ← e2] at go
    exact go
  · refine um_X6_partitionAt gE K 0 y1 m6 ((h2 z).1 z2) (fun r K1 h3 => ⟨_, rfl, fun z3 => ?_, fun z3 => ?_⟩)
    · have z3 : r = none := by cases r with | none => rfl | some a => cases z3
      obtain ⟨e1, e2⟩ := h3.1 z3
      refine ⟨⟨by omega, by omega⟩, fun _ => Or.inl ⟨rfl, ?_⟩⟩
      rw [← e1, ← e2] at go
      exact go
    · obtain ⟨a, ea, m5, hw⟩ := h3.2 (fun y => z3 (by rw [y]; rfl))
      subst ea
      have m4 := lp_54 g a m5
      have ma := c_gA g 802 rfl (by decide) m4
      refine ⟨_, rfl, c_gk gE m5 6 rfl, _, c_gp gE 1002 4 rfl rfl (by decide) m5, c_gk gE m4 5 rfl, ?_⟩
      refine um_X4_hasWord gE K1 a y2 m4 hw (fun x K2 h4 => ⟨_, rfl, fun z4 => ?_, fun z4 => ?_⟩)
      · obtain ⟨hv, e1, e2⟩ := h4.1 z4
        refine ⟨c_gk gE m5 6 rfl, _, c_gp gE 1002 4 rfl rfl (by decide) m5, c_gk gE m4 5 rfl, _, c_ga gE 802 rfl rfl (by decide) m4, c_gr gE ma 21 rfl, ?_, rfl, ?_⟩
        · rw [c_gn gE ma]; exact hv
        · rw [c_eAs (c_gw g) ma]
          rw [← e1, ← e2] at go
          exact go
      · obtain ⟨e1, e2⟩ := h4.2 z4
        refine ⟨⟨by omega, by omega⟩, fun _ => Or.inl ⟨rfl, ?_⟩⟩
        rw [← e1, ← e2] at go
        exact go
  · obtain ⟨e1, e2⟩ := (h2 z).2 z2
    refine ⟨⟨by omega, by omega⟩, fun _ => Or.inr ⟨rfl, ?_⟩⟩
    rw [← e1, ← e2] at go
    exact go
