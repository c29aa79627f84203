/-! run, within the law. -/
theorem q_Bs {S : q_S} {a i : Nat} {v : Int64} : q_B (qs_B S a i v) a i = v := if_pos ⟨rfl, rfl⟩
theorem q_Bn {S : q_S} {a a' i j : Nat} {v : Int64} (h : a' ≠ a) : q_B (qs_B S a i v) a' j = q_B S a' j := if_neg (fun z => h z.1)
theorem lg_self (x : Int64) : lg_cmp x x = 0 := by
  unfold lg_cmp
  simp
theorem um_run {L : c_L} {T : q_S} (g : c_G L T) {bc bs N : Nat} {x2 : Int32} {Q1 : c_S → Prop} {Q : Option Value → q_S → Prop} {E : String → q_S → Prop} (hQ : ∀ K' : c_S, Q1 K' → Q (some (.int (c_I K' 1212 0 - x2))) (c_E L K' T)) (hN : N ≤ 500) : ∀ (n k u v : Nat) (K : c_S), k + n = N → k_run L n K Q1 → wl_X11_run_51 bc bs (n + 1) u v (c_E L K T) (c_ob L 11 0) (nI N) x2 (nI k) Q E := by
  have m11 := lp_11 g
  have m6 : c_mk L 6 0 := c_gO g 2201 6 rfl (by decide) m11
  have k12 : ∀ K : c_S, q_K (c_E L K T) (c_ob L 11 0) = 12 := fun K => c_gk g m11 12 rfl
  have k7 : ∀ K : c_S, q_K (c_E L K T) (c_ob L 6 0) = 7 := fun K => c_gk g m6 7 rfl
  have pl : ∀ K : c_S, q_P (c_E L K T) 2201 (c_ob L 11 0) = some (c_ob L 6 0) := fun K => c_gp g 2201 6 rfl rfl (by decide) m11
  intro n
  induction n with
  | zero =>
    intro k u v K hk h
    refine bt_ (nI_le (by omega) (by omega)) ⟨k12 K, _, pl K, k7 K, ?_⟩
    rw [c_eI m6 rfl]
    exact hQ K h
  | succ n ih =>
    intro k u v K hk h
    refine bf_ (nI_ge (by omega) (by omega)) ⟨k12 K, _, pl K, k7 K, ?_⟩
    refine um_X6_takeInputs g K 0 m6 h (fun K1 h1 => ⟨rfl, k12 K1, _, pl K1, k7 K1, ?_⟩)
    refine um_X6_partitionNow g K1 0 m6 h1 (fun x K2 h2 => ⟨_, rfl, _, pl K1, k7 K2, ?_⟩)
    refine um_X6_partitionAt g K2 0 x m6 h2 (fun r K3 h3 => ⟨_, rfl, k12 K3, ?_⟩)
    refine um_X11_turn g K3 0 r m11 h3 (fun K4 h4 => ⟨rfl, k12 K4, _, pl K4, k7 K4, ?_⟩)
    rw [c_eI m6 rfl, c_eIs (c_gw g) m6 rfl, nI_1]
    exact ih (k + 1) u v _ (by omega) h4
theorem lb_out {L : c_L} {m out : Nat} {ad : Nat → Nat} {fo : Nat → Option Nat} {st : Nat → Nat} {T : q_S} {v : Int64} (lb : l_B L m ad fo st T) (ot : OT fo out L T) : l_B L m ad fo st (qs_B T out 0 v) ∧ OT fo out L (qs_B T out 0 v) := by
  refine ⟨⟨?_, lb.2.1, lb.2.2⟩, ot⟩
  obtain ⟨g1, g2, g3, g4, g5, g6, g7, g8, g9, g10, g11, g12, g13⟩ := lb.1
  refine ⟨g1, g2, g3, g4, g5, g6, g7, g8, g9, g10, g11, g12, fun i => ?_⟩
  rw [← g13 i]
  exact q_Bn (fun z => ot.1.2.2.1 z.symm)
theorem l_run {ob m out : Nat} {ad : Nat → Nat} {fo : Nat → Option Nat} {st : Nat → Nat} : lh_7 ob m out ad fo st := by
  intro Ln x4 B n u v L T K R Z y1 y2 y3 hn li lc vk hu hv
  obtain ⟨lb, w, zi, ot, eo, ht⟩ := li
  have g := lb.1
  have sep := lb.2.2
  have gE : c_G L (r_E m fo R T) := lp_G g
  have m11 := lp_11 g
  have m6 : c_mk L 6 0 := c_gO g 2201 6 rfl (by decide) m11
  have v1 : vp_in (x4 + 1) Ln := vk 1 (by decide)
  have e14 : c_I K 1214 0 = z_bg Z := (GL_el w).2.2.2.1.1.trans (GL_el w).2.2.2.2.2.2.2
  have ka : q_K (lp_S m fo L T K R) ob = 12 := by rw [← eo]; exact c_gk gE m11 12 rfl
  refine ⟨v1, 1, 6, ⟨by omega, by omega⟩, _, rfl, ka, 1, 6, ⟨by omega, by omega⟩, ka, c_ob L 6 0, ?_, c_gk gE m6 7 rfl, ?_⟩
  · rw [← eo]; exact c_gp gE 2201 6 rfl rfl (by decide) m11
  have q14 : q_I (lp_S m fo L T K R) 1214 (c_ob L 6 0) = z_bg Z := (c_eI m6 rfl).trans e14
  have q12 : q_I (lp_S m fo L T K R) 1212 (c_ob L 6 0) = c_I K 1212 0 := c_eI m6 rfl
  rw [q14, q12]
  -- it throws
  have bad : ∀ c : Int32, ¬ c = 0 → (∀ Q : Option Value → r_S → Prop, Q (some (.int 0)) (rs_I R 2400 c) → rm_X12_run R y1 Q) → (∃ x142_ : Int32, (some (Value.int c)) = some (.int x142_) ∧ (vp_in (x4 + (1 : Int32)) Ln ∧ (∃ a144_ : Nat, some m = some a144_ ∧ (q_K (lp_S m fo L T K R) a144_ = 13 ∧ (wm_X12_run (lp_S m fo L T K R) a144_ y1 (fun r147_ S148_ => ∃ x149_ : Int32, r147_ = some (.int x149_) ∧ (q_K S148_ a144_ = 13 ∧ (wm_X12_thrown S148_ a144_ (fun r151_ S152_ => ∃ x153_ : Int32, r151_ = some (.int x153_) ∧ (((x153_ = x142_ → (((¬ x142_ = 0 → (B (u + 1) (v + 6) S152_)) ∧ (x142_ = 0 → (∃ a156_ : Nat, some out = some a156_ ∧ (q_K S152_ a156_ = 23 ∧ (vp_in (0 : Int32) (q_N S152_ a156_) ∧ ((((lg_cmp (q_B S152_ a156_ (0 : Int32).toNatClampNeg) (x149_.toInt64)) = 0 → (B (u + 1) (v + 6) S152_)) ∧ (¬ (lg_cmp (q_B S152_ a156_ (0 : Int32).toNatClampNeg) (x149_.toInt64)) = 0 → ((0 : Int32) = 1))))))))))) ∧ (¬ x153_ = x142_ → ((0 : Int32) = 1))))))))))))) := fun c hc hr => by
    refine ⟨_, rfl, v1, _, rfl, lb.2.1.1, ?_⟩
    unfold lp_S
    rw [lp_com sep]
    refine (em_X12_run (lp_WF sep lb.2.1) R y1 _).mpr (hr _ ⟨_, rfl, lb.2.1.1, ?_⟩)
    refine (em_X12_thrown (lp_WF sep lb.2.1) _ _).mpr ⟨_, rfl, bt_ rfl (nf_ hc ?_)⟩
    rw [← lp_com sep]
    exact lc L T K (rs_I R 2400 c) (zs_th Z c) _ _ ⟨lb, WR_w (WR_400 w) (by omega), ZI_th zi, ot, eo, Nat.le_trans ht (by omega)⟩ (by omega) (by omega)
  by_cases cb : z_bg Z = 0
  · exact nt_ cb ⟨⟨by omega, by omega⟩, fun _ => Or.inl ⟨rfl, bad 1 (by decide) (fun Q hQ => re_run1 w cb hQ)⟩⟩
  · refine nf_ cb ?_
    have bad2 : (y1 < 0 ∨ ¬ y1 ≤ 500) → _ := fun hx => bad 2 (by decide) (fun Q hQ => re_run2 w cb hx hQ)
    by_cases c0 : y1 < 0
    · exact bt_ c0 ⟨⟨by omega, by omega⟩, fun _ => Or.inr ⟨rfl, bad2 (Or.inl c0)⟩⟩
    · by_cases c5 : y1 ≤ 500
      case neg => exact bf_ c0 (bf_ c5 ⟨⟨by omega, by omega⟩, fun _ => Or.inr ⟨rfl, bad2 (Or.inr c5)⟩⟩)
      case pos =>
        obtain ⟨k, hk, rfl⟩ := nI_of c0
        have k5 : k ≤ 500 := by
          have := i_le.mp c5
          rw [nI_toInt hk, show (500 : Int32).toInt = 500 from rfl] at this
          omega
        have zb : ZB Z := ⟨zi.2.2.1 (zi.2.2.2 cb), zi.2.1 cb, cb⟩
        obtain ⟨K', R', f1, f2, f3⟩ := P_run (n := k) w (lp_gk g) (lp_54 g) zb (by omega) k5 (by omega)
        refine bf_ c0 (bt_ c5 ⟨k + 1, ?_⟩)
        rw [← eo]
        refine um_run (N := k) (Q1 := fun S => S = K') gE (fun S eS => ?_) k5 k 0 0 0 K (Nat.zero_add k) (f1 _ rfl)
        subst eS
        obtain ⟨lb', ot'⟩ := lb_out (v := (c_I S 1212 0 - c_I K 1212 0).toInt64) lb ot
        refine ⟨_, rfl, _, rfl, ot.1.1, by rw [show q_N (c_E L S (r_E m fo R T)) out = 1 from ot.1.2.1]; exact vp_in_nI (n := 0) (N := 1) (by decide) (by decide), _, rfl, v1, _, rfl, lb.2.1.1, ?_⟩
        show wm_X12_run (c_E L S (r_E m fo R (qs_B T out 0 (c_I S 1212 0 - c_I K 1212 0).toInt64))) m (nI k) _
        rw [lp_com sep]
        refine (em_X12_run (lp_WF sep lb'.2.1) R (nI k) _).mpr (f2 _ ⟨_, rfl, lb.2.1.1, ?_⟩)
        have r0 : r_I R' 2400 = 0 := (GL_el f3).2.2.1.2.2
        have fin : B (u + 1) (v + 6) (r_E m fo R' (c_E L S (qs_B T out 0 (c_I S 1212 0 - c_I K 1212 0).toInt64))) := by
          rw [← lp_com sep]
          exact lc L _ S R' _ _ _ ⟨lb', WR_w f3 (by omega), ⟨fun z => absurd z cb, zi.2.1, zi.2.2.1, zi.2.2.2⟩, ot', eo, (show z_tm Z + k ≤ 500 * (n + 1) by omega)⟩ (by omega) (by omega)
        refine (em_X12_thrown (lp_WF sep lb'.2.1) _ _).mpr ⟨_, rfl, bt_ (by rw [r0]) (nt_ rfl ⟨_, rfl, ot.1.1, by rw [show q_N (r_E m fo R' (c_E L S (qs_B T out 0 (c_I S 1212 0 - c_I K 1212 0).toInt64))) out = 1 from ot.1.2.1]; exact vp_in_nI (n := 0) (N := 1) (by decide) (by decide), bt_ ?_ fin⟩)⟩
        rw [show q_B (r_E m fo R' (c_E L S (qs_B T out 0 (c_I S 1212 0 - c_I K 1212 0).toInt64))) out (0 : Int32).toNatClampNeg = (c_I S 1212 0 - c_I K 1212 0).toInt64 from q_Bs]
        exact lg_self _
