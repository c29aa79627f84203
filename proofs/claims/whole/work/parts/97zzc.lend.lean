/-! end, within the law. -/
theorem l_end {ob m out : Nat} {ad : Nat → Nat} {fo : Nat → Option Nat} {st : Nat → Nat} : lh_1 ob m out ad fo st := by
  intro Ln x4 B n u v L T K R Z y1 y2 y3 hn li lc vk hu hv
  obtain ⟨lb, w, zi, ot, eo, ht⟩ := li
  have g := lb.1
  have sep := lb.2.2
  have gE : c_G L (r_E m fo R T) := lp_G g
  have m11 := lp_11 g
  have m9 : c_mk L 9 0 := c_gO g 2200 9 rfl (by decide) m11
  have m22 := c_gA g 2204 rfl (by decide) m11
  have m18 := c_gA g 1802 rfl (by decide) m9
  have v1 : vp_in (x4 + 1) Ln := vk 1 (by decide)
  have ka : ∀ K' : c_S, q_K (c_E L K' (r_E m fo R T)) (c_ob L 11 0) = 12 := fun K' => c_gk gE m11 12 rfl
  have k10 : ∀ K' : c_S, q_K (c_E L K' (r_E m fo R T)) (c_ob L 9 0) = 10 := fun K' => c_gk gE m9 10 rfl
  have p9 : ∀ K' : c_S, q_P (c_E L K' (r_E m fo R T)) 2200 (c_ob L 11 0) = some (c_ob L 9 0) := fun K' => c_gp gE 2200 9 rfl rfl (by decide) m11
  have p22 : ∀ K' : c_S, q_P (c_E L K' (r_E m fo R T)) 2204 (c_ob L 11 0) = some (c_ar L 2204 0) := fun K' => c_ga gE 2204 rfl rfl (by decide) m11
  have tx := w.1.2.2.2.2.2.2.2
  obtain ⟨⟨l, l4, e3, r3⟩, -, -, t4, t5, t6, t7⟩ := tx
  have e3 : c_I K 1803 0 = nI l := e3
  have r3 : r_I R 2403 = nI l := r3
  have t5 : ∀ i : Nat, c_A K 2204 0 i = r_A R 2401 i := t5
  have t7 : ∀ i : Nat, fits .byte (.int (r_A R 2401 i)) = true := t7
  -- it is refused
  have no : ∀ Q : Option Value → r_S → Prop, (y1 < 0 ∨ 20 < y1 ∨ ∃ k : Nat, y1 = nI k ∧ k ≤ 20 ∧ ¬ l + k ≤ 4000) → Q (some (.int (-1))) (rs_I R 2400 0) → rm_X12_end_ R y1 Q := fun Q hx hQ => re_end0 r3 hx l4 hQ
  have go : (y1 < 0 ∨ 20 < y1 ∨ ∃ k : Nat, y1 = nI k ∧ k ≤ 20 ∧ ¬ l + k ≤ 4000) → ∃ x29_ : Int32, (some (Value.int (-1))) = some (.int x29_) ∧ (vp_in (x4 + (1 : Int32)) Ln ∧ (∃ a31_ : Nat, some m = some a31_ ∧ (q_K (lp_S m fo L T K R) a31_ = 13 ∧ (wm_X12_end_ (lp_S m fo L T K R) a31_ y1 (fun r34_ S35_ => ∃ x36_ : Int32, r34_ = some (.int x36_) ∧ (((x29_ = x36_ → (B u v S35_)) ∧ (¬ x29_ = x36_ → ((0 : Int32) = 1))))))))) := fun hx => by
    refine ⟨_, rfl, v1, _, rfl, lb.2.1.1, ?_⟩
    unfold lp_S
    rw [lp_com sep]
    refine (em_X12_end_ (lp_WF sep lb.2.1) R y1 _).mpr (no _ hx ⟨_, rfl, bt_ rfl ?_⟩)
    rw [← lp_com sep]
    exact lc L T K (rs_I R 2400 0) (zs_th Z 0) _ _ ⟨lb, WR_w (WR_400 w) (by omega), ZI_th zi, ot, eo, Nat.le_trans ht (by omega)⟩ (by omega) (by omega)
  subst eo
  refine ⟨v1, _, rfl, ka K, ?_⟩
  by_cases c0 : y1 < 0
  · exact bt_ c0 (go (Or.inl c0))
  by_cases c1 : (20 : Int32) < y1
  · exact bf_ c0 (bt_ c1 (go (Or.inr (Or.inl c1))))
  obtain ⟨k, hk, rfl⟩ := nI_of c0
  have k20 : k ≤ 20 := by
    have := i_le.mp (i_nlt.mp c1)
    rw [nI_toInt hk, show (20 : Int32).toInt = 20 from rfl] at this
    omega
  refine bf_ c0 (bf_ c1 ⟨ka K, _, p9 K, k10 K, ?_⟩)
  have ck := nI_clamp (n := k) hk
  have cl := nI_clamp (n := l) (by omega)
  have n22 : q_N (lp_S m fo L T K R) (c_ar L 2204 0) = 20 := c_gN gE m22 20 (by decide)
  have n18 : q_N (lp_S m fo L T K R) (c_ar L 1802 0) = 4000 := c_gN gE m18 4000 (by decide)
  have q3 : q_I (lp_S m fo L T K R) 1803 (c_ob L 9 0) = nI l := (c_eI m9 rfl).trans e3
  refine bf_ c0 ⟨c_ar L 2204 0, p22 K, c_gr gE m22 20 rfl, bf_ (by rw [n22]; exact nI_nlt (a := 20) k20 (by decide)) ⟨k10 K, ?_⟩⟩
  rw [q3, nI_add]
  by_cases c4 : l + k ≤ 4000
  case neg => exact bf_ (nI_ge (a := 4000) (by omega) (by omega)) ⟨_, rfl, nt_ rfl (go (Or.inr (Or.inr ⟨k, rfl, k20, c4⟩)))⟩
  case pos =>
    refine bt_ (nI_le (b := 4000) c4 (by decide)) ⟨c_ar L 1802 0, c_ga gE 1802 rfl rfl (by decide) m9, c_gr gE m18 20 rfl, by decide, nI_pos (by omega), c0, by rw [n22, ck]; show 0 + k ≤ 20; omega, by rw [n18, ck, cl]; exact c4, fun i hi => ?_, fun S eS => ⟨_, rfl, nf_ (by decide) ?_⟩⟩
    · rw [show q_A (lp_S m fo L T K R) (c_ar L 2204 0) ((0 : Int32).toNatClampNeg + i) = c_A K 2204 0 ((0 : Int32).toNatClampNeg + i) from c_eA m22, t5]
      exact t7 _
    · have eS2 : S = c_E L (cs_I (cs_G K 1802 0 (va_cpy (c_A K 2204 0) (c_A K 1802 0) 0 l k)) 1803 0 (nI (l + k))) (r_E m fo R T) := by
        rw [eS, ck, cl]
        unfold lp_S
        rw [c_eAf m22, c_eAf m18, c_eGs (c_gw g) m18, c_eI m9 rfl, c_eIs (c_gw g) m9 rfl]
        rw [show c_I (cs_G K 1802 0 (va_cpy (c_A K 2204 0) (c_A K 1802 0) (0 : Int32).toNatClampNeg l k)) 1803 0 = nI l from e3, nI_add]
        rfl
      rw [eS2]
      refine ⟨ka _, ?_⟩
      rw [p22]
      refine um_J7_fill_031fb gE _ 2204 0 0 m22 (Q1 := fun S => S = k_end K l k) ?_ (fun S eS => ⟨rfl, ka _, _, p9 _, k10 _, ?_⟩)
      · have l20 := c_gl g 2204 20 (by decide) m22
        refine ⟨⟨rfl, by rw [l20]; decide⟩, ?_⟩
        unfold c_fi
        rw [l20]
        rfl
      · subst eS
        rw [show q_I (c_E L (k_end K l k) (r_E m fo R T)) 1803 (c_ob L 9 0) = nI (l + k) from c_eI m9 rfl]
        refine ⟨_, rfl, v1, _, rfl, lb.2.1.1, ?_⟩
        rw [lp_com sep]
        refine (em_X12_end_ (lp_WF sep lb.2.1) R (nI k) _).mpr (re_end r3 k20 c4 t7 ⟨_, rfl, bt_ rfl ?_⟩)
        rw [← lp_com sep]
        have o : ∀ f i : Nat, f ≠ 2401 → f ≠ 2402 → r_A (r_end (rs_I R 2400 0) l k) f i = r_A R f i := fun f i h1 h2 => by
          unfold r_end
          rw [zr_A, if_neg (fun z => h1 z.1)]
          show r_A (r_cp (rs_I R 2400 0) l k) f i = _
          rw [cp_A, if_neg (fun z => h2 z.1)]
          rfl
        exact lc L T (k_end K l k) (r_end (rs_I R 2400 0) l k) (zs_th Z 0) _ _ ⟨lb, WR_w (WR_end (WR_400 w) k20 c4) (by omega), ZI_o zi rfl rfl rfl rfl rfl rfl id (fun i => o _ _ (by decide) (by decide)) (fun i => o _ _ (by decide) (by decide)), ot, rfl, Nat.le_trans ht (by omega)⟩ (by omega) (by omega)
