/-! Bytes made ready. -/
theorem WR_rd {b : Nat} {L : c_L} {Z : z_C} {K : c_S} {R : r_S} {k : Nat} {v : Int32} (h : WR b L Z K R) (hv : fits .byte (.int v) = true) : WR b L Z (cs_A K 2204 0 k v) (rs_A R 2401 k v) := by
  obtain ⟨⟨⟨cq, ct, cc, cm⟩, th, ch, inn, me, jr, gl, tx⟩, dp, op, ti, pd, jb⟩ := h
  refine ⟨⟨⟨?_, ?_, ?_, ?_⟩, ?_, ?_, ?_, ?_, ?_, ?_, ?tx⟩, ?_, ?_, ?_, ?_, ?_⟩
  case tx =>
    obtain ⟨t1, t2, t3, t4, t5, t6, t7⟩ := tx
    refine ⟨t1, t2, t3, fun i => ?_, fun i => ?_, fun i => ?_, fun i => ?_⟩
    · exact t4 i
    · show c_A (cs_A K 2204 0 k v) 2204 0 i = r_A (rs_A R 2401 k v) 2401 i
      by_cases e : i = k
      · rw [e, c_As, r_As]
      · rw [c_AA, if_neg (fun z => e z.2.2), r_An (Or.inr e)]
        exact t5 i
    · exact t6 i
    · show fits .byte (.int (if 2401 = 2401 ∧ i = k then v else r_A R 2401 i)) = true
      by_cases e : i = k
      · rw [if_pos ⟨rfl, e⟩]; exact hv
      · rw [if_neg (fun z => e z.2)]; exact t7 i
  all_goals (simp (disch := decide) only [CQ_I, CQ_A, CQ_G, CQ_P, CQ_J, CQ_i, CQ_a, CQ_z, CT_I, CT_A, CT_G, CT_P, CT_J, CT_i, CT_a, CT_z, CC_I, CC_A, CC_G, CC_P, CC_J, CC_i, CC_a, CC_z, CM_I, CM_A, CM_G, CM_P, CM_J, CM_i, CM_a, CM_z, NM_I, NM_A, NM_G, NM_P, NM_J, NM_i, NM_a, NM_z, TH_I, TH_A, TH_G, TH_P, TH_J, TH_i, TH_a, TH_z, CH_I, CH_A, CH_G, CH_P, CH_J, CH_i, CH_a, CH_z, IN_I, IN_A, IN_G, IN_P, IN_J, IN_i, IN_a, IN_z, ME_I, ME_A, ME_G, ME_P, ME_J, ME_i, ME_a, ME_z, JR_I, JR_A, JR_G, JR_P, JR_J, JR_i, JR_a, JR_z, GL_I, GL_A, GL_G, GL_P, GL_J, GL_i, GL_a, GL_z, TX_I, TX_A, TX_G, TX_P, TX_J, TX_i, TX_a, TX_z, PD_I, PD_A, PD_G, PD_P, PD_J, PD_i, PD_a, PD_z, JB_i, JB_a, JB_z, DP_I, DP_A, DP_G, DP_P, DP_i, DP_a, OP_I, OP_A, OP_G, OP_P, OP_i, OP_a, TI_i, TI_a]; assumption)
def f_v (x : Int32) (m : Nat) : Int32 := vp_nar .byte ((x >>> (((24 : Int32) - ((8 : Int32) * nI m)) &&& 31)).toInt8.toInt32)
theorem f_vb {x : Int32} {m : Nat} : fits .byte (.int (f_v x m)) = true := pk_fb _
def f_x (x1 x2 x3 x4 x5 : Int32) (q : Nat) : Int32 := if q = 0 then x1 else if q = 1 then x2 else if q = 2 then x3 else if q = 3 then x4 else x5
def k_fd (K : c_S) (X : Nat → Int32) : Nat → c_S
  | 0 => K
  | n + 1 => cs_A (k_fd K X n) 2204 0 n (f_v (X (n / 4)) (n % 4))
def r_fd (R : r_S) (X : Nat → Int32) : Nat → r_S
  | 0 => R
  | n + 1 => rs_A (r_fd R X n) 2401 n (f_v (X (n / 4)) (n % 4))
theorem WR_fd {b : Nat} {L : c_L} {Z : z_C} {K : c_S} {R : r_S} {X : Nat → Int32} (h : WR b L Z K R) : ∀ n : Nat, WR b L Z (k_fd K X n) (r_fd R X n)
  | 0 => h
  | n + 1 => WR_rd (WR_fd h n) f_vb
theorem ke_put {L : c_L} {K : c_S} {X : Nat → Int32} {q : Nat} {Q : c_S → Prop} (hq : q < 5) (h : Q (k_fd K X (4 * q + 4))) : km_X11_putReady L (k_fd K X (4 * q)) 0 (nI (4 * q)) (X q) Q := by
  have lp : ∀ d m : Nat, m + d = 4 → kl_X11_putReady_2 L (d + 1) (k_fd K X (4 * q + m)) 0 (nI (4 * q)) (X q) (nI m) Q := by
    intro d
    induction d with
    | zero =>
      intro m hm
      obtain rfl : m = 4 := by omega
      exact bt_ (by decide) h
    | succ d ih =>
      intro m hm
      have nx := ih (m + 1) (by omega)
      rw [← nI_1] at nx
      refine bf_ (nI_ge (a := m) (b := 4) (by omega) (by decide)) (bf_ (nI_pos (by omega)) ?_)
      rw [nI_add, nI_clamp (by omega)]
      refine bf_ (nI_ge (a := 4 * q + m) (b := 20) (by omega) (by decide)) ⟨vp_in_nI (by omega) (by decide), ?_⟩
      have e : k_fd K X (4 * q + (m + 1)) = cs_A (k_fd K X (4 * q + m)) 2204 0 (4 * q + m) (f_v (X q) m) := by
        show cs_A (k_fd K X (4 * q + m)) 2204 0 (4 * q + m) (f_v (X ((4 * q + m) / 4)) ((4 * q + m) % 4)) = _
        rw [show (4 * q + m) / 4 = q by omega, show (4 * q + m) % 4 = m by omega]
      rw [e] at nx
      exact nx
  exact ⟨5, lp 4 0 (by decide)⟩
theorem ke_feed {L : c_L} {K : c_S} {x1 x2 x3 x4 x5 : Int32} {Q : c_S → Prop} (h : Q (k_fd K (f_x x1 x2 x3 x4 x5) 20)) : km_X11_feed L K 0 x1 x2 x3 x4 x5 Q :=
  ke_put (K := K) (X := f_x x1 x2 x3 x4 x5) (q := 0) (by decide) (ke_put (K := K) (X := f_x x1 x2 x3 x4 x5) (q := 1) (by decide) (ke_put (K := K) (X := f_x x1 x2 x3 x4 x5) (q := 2) (by decide) (ke_put (K := K) (X := f_x x1 x2 x3 x4 x5) (q := 3) (by decide) (ke_put (K := K) (X := f_x x1 x2 x3 x4 x5) (q := 4) (by decide) h))))
theorem re_feed {R : r_S} {x1 x2 x3 x4 x5 : Int32} {Q : Option Value → r_S → Prop} (h : Q none (r_fd (rs_I R 2400 0) (f_x x1 x2 x3 x4 x5) 20)) : rm_X12_feed R x1 x2 x3 x4 x5 Q := by
  have lp : ∀ d n : Nat, n + d = 20 → rl_X12_feed_8 (d + 1) (r_fd (rs_I R 2400 0) (f_x x1 x2 x3 x4 x5) n) x1 x2 x3 x4 x5 (nI n) Q := by
    intro d
    induction d with
    | zero =>
      intro n hn
      obtain rfl : n = 20 := by omega
      exact bt_ (by decide) h
    | succ d ih =>
      intro n hn
      have nx := ih (n + 1) (by omega)
      rw [← nI_1] at nx
      have go : ∀ x : Int32, f_x x1 x2 x3 x4 x5 (n / 4) = x → rb_X12_feed_61 (fun S x1 x2 x3 x4 x5 x6 => rl_X12_feed_8 (d + 1) S x1 x2 x3 x4 x5 x6 Q) (r_fd (rs_I R 2400 0) (f_x x1 x2 x3 x4 x5) n) x1 x2 x3 x4 x5 (nI n) x Q := fun x hx => by
        refine ⟨ri_v (n := 20) rfl (by omega) (by decide), ?_⟩
        rw [show nI n - nI n / (4 : Int32) * (4 : Int32) = nI (n % 4) from pk_rem (a := n) (d := 4) (by omega) (by decide) (by decide), nI_clamp (by omega), ← hx]
        exact nx
      refine bf_ (nI_ge (a := n) (b := 20) (by omega) (by decide)) ?_
      have c : n / 4 = 0 ∨ n / 4 = 1 ∨ n / 4 = 2 ∨ n / 4 = 3 ∨ n / 4 = 4 := by omega
      rcases c with c | c | c | c | c
      · exact bf_ (nI_ge (a := n) (b := 4) (by omega) (by decide)) (go _ (by rw [c]; rfl))
      · exact bt_ (nI_le (a := 4) (by omega) (by omega)) (bf_ (nI_ge (a := n) (b := 8) (by omega) (by decide)) (go _ (by rw [c]; rfl)))
      · exact bt_ (nI_le (a := 4) (by omega) (by omega)) (bt_ (nI_le (a := 8) (by omega) (by omega)) (bf_ (nI_ge (a := n) (b := 12) (by omega) (by decide)) (go _ (by rw [c]; rfl))))
      · exact bt_ (nI_le (a := 4) (by omega) (by omega)) (bt_ (nI_le (a := 8) (by omega) (by omega)) (bt_ (nI_le (a := 12) (by omega) (by omega)) (bf_ (nI_ge (a := n) (b := 16) (by omega) (by decide)) (go _ (by rw [c]; rfl)))))
      · exact bt_ (nI_le (a := 4) (by omega) (by omega)) (bt_ (nI_le (a := 8) (by omega) (by omega)) (bt_ (nI_le (a := 12) (by omega) (by omega)) (bt_ (nI_le (a := 16) (by omega) (by omega)) (go _ (by rw [c]; rfl)))))
  exact ⟨21, lp 20 0 (by decide)⟩
