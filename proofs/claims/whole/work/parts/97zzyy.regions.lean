/-! The regions of a memory. -/
theorem nI_sub {a b : Nat} (h : b ≤ a) : nI a - nI b = nI (a - b) := by
  have : nI a = nI (a - b) + nI b := by rw [nI_add]; congr 1; omega
  rw [this]
  exact Int32.add_sub_cancel _ _
theorem fd_255 {w q : Int32} {R0 R : r_S} {p : Nat} {x2 x3 : Int32} {RM : (Option Value → r_S → Prop) → Prop} (hf : FD w q R0 R) (de : r_DE R) (hr : ∀ Q : Option Value → r_S → Prop, rb_X12_readRegions_255 R (nI p) x2 x3 Q → RM Q) : ∃ R' : r_S, FD w q R0 R' ∧ r_DE R' ∧ ∀ Q : Option Value → r_S → Prop, Q none R' → RM Q := by
  unfold rb_X12_readRegions_255 at hr
  have hr := g_nneg hr (de_n0 de)
  unfold rb_X12_readRegions_280 at hr
  obtain ⟨R, hf, de, hr⟩ := fs_sign hf hr
  exact ⟨R, hf, de, hr⟩
theorem fd_188 {w q : Int32} {R0 R : r_S} {p : Nat} {x2 x3 x4 x5 : Int32} {RM : (Option Value → r_S → Prop) → Prop} {B76 : (Option Value → r_S → Prop) → r_S → Int32 → Int32 → Int32 → Prop} (hf : FD w q R0 R) (de : r_DE R) (hr : ∀ Q : Option Value → r_S → Prop, rb_X12_readRegions_188 (B76 Q) R (nI p) x2 x3 x4 x5 Q → RM Q) : ∃ R' : r_S, FD w q R0 R' ∧ r_DE R' ∧ ∀ Q : Option Value → r_S → Prop, Q none R' → RM Q := by
  unfold rb_X12_readRegions_188 at hr
  exact ⟨R, hf, de, g_neg hr (de_nle de)⟩
theorem fd_182 {w q : Int32} {R0 R : r_S} {p : Nat} {x2 x3 x4 x5 : Int32} {RM : (Option Value → r_S → Prop) → Prop} {B76 : (Option Value → r_S → Prop) → r_S → Int32 → Int32 → Int32 → Prop} (hf : FD w q R0 R) (hr : ∀ Q : Option Value → r_S → Prop, rb_X12_readRegions_182 (B76 Q) R (nI p) x2 x3 x4 x5 Q → RM Q) : ∃ R' : r_S, FD w q R0 R' ∧ r_DE R' ∧ ∀ Q : Option Value → r_S → Prop, Q none R' → RM Q := by
  unfold rb_X12_readRegions_182 at hr
  obtain ⟨R, hf, de, hr⟩ := fs_failHere hf hr
  exact fd_188 hf de hr
theorem fd_76 {w q : Int32} {R0 R : r_S} {p d : Nat} {x2 x3 : Int32} {RM : (Option Value → r_S → Prop) → Prop} (p16 : p < 16) (hf : FD w q R0 R) (hr : ∀ Q : Option Value → r_S → Prop, rl_X12_readRegions_76 (d + 1) R (nI p) x2 x3 Q → RM Q) : ∃ R' : r_S, FD w q R0 R' ∧ r_DE R' ∧ ∀ Q : Option Value → r_S → Prop, Q none R' → RM Q := by
  have vp : vp_in (nI p) (r_N 2426) := vp_in_nI (N := 16) p16 (by decide)
  have hr : ∀ Q : Option Value → r_S → Prop, rb_X12_readRegions_76 (fun S x1 x2 x3 => rl_X12_readRegions_76 d S x1 x2 x3 Q) R (nI p) x2 x3 Q → RM Q := hr
  unfold rb_X12_readRegions_76 at hr
  rcases FD_c hf with de | pe
  · exact fd_255 hf de (g_nneg hr (de_n0 de))
  · have hr := g_and (g_npos hr pe.1) vp
    have n101 : ∀ {RM : (Option Value → r_S → Prop) → Prop}, (∀ Q : Option Value → r_S → Prop, rb_X12_readRegions_101 (fun S x1 x2 x3 => rl_X12_readRegions_76 d S x1 x2 x3 Q) R (nI p) x2 x3 Q → RM Q) → ∃ R' : r_S, FD w q R0 R' ∧ r_DE R' ∧ ∀ Q : Option Value → r_S → Prop, Q none R' → RM Q := fun {RM} hr => by
      unfold rb_X12_readRegions_101 at hr
      have hr := g_and hr vp
      by_cases c : r_A R 2426 (nI p).toNatClampNeg = 6
      · obtain ⟨R, hf, de, hr⟩ := fs_failHere hf (g_npos hr c)
        exact ⟨R, hf, de, hr⟩
      · obtain ⟨R', hf, de, hr⟩ := fs_number hf (g_and (g_and (g_nneg hr c) vp) vp)
        exact fd_188 (B76 := fun Q S x1 x2 x3 => rl_X12_readRegions_76 d S x1 x2 x3 Q) hf de (g_nneg hr (de_n0 de))
    by_cases c : r_A R 2426 (nI p).toNatClampNeg = 0
    · exact n101 (g_pos hr c)
    · exact n101 (g_npos (fs_isSign hf (g_neg hr c)) rfl)
def mI (p f i : Nat) : Prop := (1807 ≤ f ∧ f ≤ 1811) ∨ (f = 803 ∧ i = p)
def mA (p f i : Nat) : Prop := (f = 804 ∨ f = 805) ∧ i = p
def mi (f : Nat) : Prop := 2404 ≤ f ∧ f ≤ 2411
def ma (p f i : Nat) : Prop := (f = 2426 ∧ i = p) ∨ ((2427 ≤ f ∧ f ≤ 2429) ∧ i / 6 = p)
theorem PM_t {L : c_L} {K K' : c_S} {R R' : r_S} {p k nr : Nat} {re : Nat → Nat} (h : PM L K R p k nr re) (t : TOKf K K' R R') : PM L K' R' p k nr re := PM_c h (Nat.le_refl _) (Nat.le_refl _) (fun f hf => t.1 f p (fun m => by have := (by decide : ∀ f ∈ [1807, 1808, 1809, 1811], f / 200 ≠ 4) f m; exact this hf)) (fun f j _ => by rw [TOKf_A t]) ⟨TOKf_a t _ _, TOKf_a t _ _⟩ (fun f i _ _ _ => TOKf_a t _ _)
theorem re_le {L : c_L} {K : c_S} {R : r_S} {p k nr : Nat} {re : Nat → Nat} (h : PM L K R p k nr re) : re nr ≤ 256 * k ∧ re nr % 64 = 0 := by
  by_cases z : nr = 0
  · rw [z, h.2.1.2.2.2]; omega
  · have := h.2.2.1 (nr - 1) (by omega)
    rw [show nr - 1 + 1 = nr by omega] at this
    exact ⟨this.2.2.1, this.2.1⟩
theorem ke_cov {L : c_L} {K : c_S} {R : r_S} {p k nr : Nat} {re : Nat → Nat} {Q1 : Int32 → c_S → Prop} (h : PM L K R p k nr re) (hQ : Q1 (nI (re nr)) K) : km_X4_covered L K p Q1 := by
  unfold km_X4_covered
  rw [h.2.1.2.1]
  have n6 := h.2.1.1
  by_cases z : nr = 0
  · refine nt_ (by rw [z]; rfl) ?_
    rw [z, h.2.1.2.2.2] at hQ
    exact hQ
  · refine nf_ (fun y => z ((nI_eq (by omega) (by decide)).mp (y.trans (show (0 : Int32) = nI 0 from rfl)))) ?_
    have e : nI nr - 1 = nI (nr - 1) := by rw [show (1 : Int32) = nI 1 from rfl]; exact nI_sub (by omega)
    rw [e, nI_clamp (by omega)]
    refine ⟨vp_in_nI (by omega) (by decide), ?_⟩
    have := (h.2.2.1 (nr - 1) (by omega)).2.2.2.1
    rw [this, show nr - 1 + 1 = nr by omega]
    exact hQ
/-- a region more -/
def re1 (re : Nat → Nat) (i n j : Nat) : Nat := if j = i + 1 then re i + n else re j
theorem PM_add {L : c_L} {K : c_S} {R : r_S} {p k i n s : Nat} {re : Nat → Nat} (h : PM L K R p k i re) (i6 : i < 6) (hn : 1 ≤ n) (hn2 : re i + n ≤ 256 * k) (h64 : n % 64 = 0) (hs : s ≤ 3) : PM L (cs_I (cs_A (cs_A K 804 p i (nI (re i + n))) 805 p i (nI s)) 803 p (nI (i + 1))) (rs_A (rs_A (rs_A (rs_A R 2427 (6 * p + i) (nI (re i))) 2428 (6 * p + i) (nI n)) 2429 (6 * p + i) (nI s)) 2426 p (nI (i + 1))) p k (i + 1) (re1 re i n) := by
  have rl := re_le h
  obtain ⟨⟨a1, a2, a3, a4, a5, a6⟩, ⟨b1, b2, b3, b4⟩, h3, h4⟩ := h
  have e0 : ∀ j : Nat, j ≤ i → re1 re i n j = re j := fun j hj => if_neg (by omega)
  have e1 : re1 re i n (i + 1) = re i + n := if_pos rfl
  have kA : ∀ f j : Nat, c_A (cs_I (cs_A (cs_A K 804 p i (nI (re i + n))) 805 p i (nI s)) 803 p (nI (i + 1))) f p j = if f = 805 ∧ j = i then nI s else if f = 804 ∧ j = i then nI (re i + n) else c_A K f p j := fun f j => by
    rw [c_AI, c_AA, c_AA]
    by_cases y : f = 805 ∧ j = i
    · rw [if_pos ⟨y.1, rfl, y.2⟩, if_pos y]
    · rw [if_neg (fun z => y ⟨z.1, z.2.2⟩), if_neg y]
      by_cases x : f = 804 ∧ j = i
      · rw [if_pos ⟨x.1, rfl, x.2⟩, if_pos x]
      · rw [if_neg (fun z => x ⟨z.1, z.2.2⟩), if_neg x]
  have rA : ∀ f x : Nat, r_A (rs_A (rs_A (rs_A (rs_A R 2427 (6 * p + i) (nI (re i))) 2428 (6 * p + i) (nI n)) 2429 (6 * p + i) (nI s)) 2426 p (nI (i + 1))) f x = if f = 2426 ∧ x = p then nI (i + 1) else if f = 2429 ∧ x = 6 * p + i then nI s else if f = 2428 ∧ x = 6 * p + i then nI n else if f = 2427 ∧ x = 6 * p + i then nI (re i) else r_A R f x := fun f x => by
    rw [r_AA, r_AA, r_AA, r_AA]
  refine ⟨⟨a1, a2, ?_, ?_, a5, a6⟩, ⟨by omega, if_pos ⟨rfl, rfl⟩, ?_, (e0 0 (by omega)).trans b4⟩, fun j hj => ?_, fun x hx => ?_⟩
  · rw [c_II, if_neg (by omega)]; exact a3
  · rw [rA, if_neg (by omega), if_neg (by omega), if_neg (by omega), if_neg (by omega)]; exact a4
  · rw [rA, if_pos ⟨rfl, rfl⟩]
  · by_cases z : j = i
    · subst z
      rw [e1, e0 j (Nat.le_refl _)]
      refine ⟨by omega, by omega, by omega, ?_, ?_, ?_, ?_, ?_, ?_⟩
      · rw [kA, if_neg (by omega), if_pos ⟨rfl, rfl⟩]
      · rw [rA, if_neg (by omega), if_neg (by omega), if_neg (by omega), if_pos ⟨rfl, rfl⟩]
      · rw [rA, if_neg (by omega), if_neg (by omega), if_pos ⟨rfl, rfl⟩]
        congr 1
        omega
      · rw [kA, if_pos ⟨rfl, rfl⟩, rA, if_neg (by omega), if_pos ⟨rfl, rfl⟩]
      · rw [rA, if_neg (by omega), if_pos ⟨rfl, rfl⟩, nI_toInt (by omega)]
        omega
      · rw [rA, if_neg (by omega), if_pos ⟨rfl, rfl⟩, nI_toInt (by omega)]
        omega
    · have hj' : j < i := by omega
      rw [e0 j (by omega), e0 (j + 1) (by omega), kA, kA, rA, rA, rA, if_neg (by omega), if_neg (by omega), if_neg (by omega), if_neg (by omega), if_neg (by omega), if_neg (by omega), if_neg (by omega), if_neg (by omega), if_neg (by omega), if_neg (by omega), if_neg (by omega), if_neg (by omega), if_neg (by omega), if_neg (by omega), if_neg (by omega), if_neg (by omega)]
      exact h3 j hj'
  · rw [kA, kA, if_neg (by omega), if_neg (by omega), if_neg (by omega), if_neg (by omega)]
    exact h4 x hx
theorem rg_loop {e : EV} {L : c_L} {T : q_S} {B bc bs u v : Nat} {K0 : c_S} {R0 : r_S} {Ks : c_S} {Rs : r_S} {p k : Nat} {wh : Int32} {Q : Option Value → q_S → Prop} {E : String → q_S → Prop} {RM : (Option Value → r_S → Prop) → Prop} (wd : WD e L T) (m4 : c_mk L 4 p) (p16 : p < 16) (hu : u + 1 ≤ bc) (hv : v + 6 ≤ bs)
  (hX : ∀ (K' : c_S) (R' : r_S) (w q : Int32), CZ K0 K' → FD w q R0 R' → r_DE R' → (∀ Q : Option Value → r_S → Prop, Q none R' → RM Q) → E "java/lang/IllegalArgumentException" (c_E L (k_fl K' w q) T))
  (hP : ∀ (K' : c_S) (R' : r_S) (w q : Int32), CZ K0 K' → FD w q R0 R' → (∀ Q : Option Value → r_S → Prop, Q none R' → RM Q) → E "java/lang/IllegalArgumentException" (c_E L (k_fl K' w q) T))
  (hN : ∀ (K' : c_S) (R' : r_S) (nr : Nat) (re : Nat → Nat), AV B K0 R0 K' R' → OF (mI p) (mA p) mi (ma p) Ks Rs K' R' → PM L K' R' p k nr re → 1 ≤ nr → re nr = 256 * k → (∀ Q : Option Value → r_S → Prop, Q none R' → RM Q) → Q none (c_E L K' T)) :
  ∀ (d i : Nat) (K : c_S) (R : r_S) (re : Nat → Nat), i + d = 7 → AV B K0 R0 K R → OF (mI p) (mA p) mi (ma p) Ks Rs K R → PM L K R p k i re → (∀ Q : Option Value → r_S → Prop, rl_X12_readRegions_76 (d + 1) R (nI p) wh (nI (re i)) Q → RM Q) → wl_X9_readRegions_17 bc bs (d + 1) u v (c_E L K T) (c_ob L 9 0) (some (c_ob L 4 p)) wh (nI i) Q E := by
  have g := WD_g wd
  have vp : vp_in (nI p) (r_N 2426) ∧ (nI p).toNatClampNeg = p := ⟨vp_in_nI (N := 16) p16 (by decide), nI_clamp (by omega)⟩
  intro d
  induction d with
  | zero =>
    intro i K R re hi av of pm
    have := pm.2.1.1
    omega
  | succ d ih =>
    intro i K R re hi av of pm hr
    have r0 := av.2.2.2.1
    have rl := re_le pm
    have i6 := pm.2.1.1
    have hr : ∀ Q : Option Value → r_S → Prop, rb_X12_readRegions_76 (fun S x1 x2 x3 => rl_X12_readRegions_76 (d + 1) S x1 x2 x3 Q) R (nI p) wh (nI (re i)) Q → RM Q := hr
    unfold rb_X12_readRegions_76 at hr
    have hr := g_and (g_npos hr r0) vp.1
    rw [vp.2, pm.2.1.2.2.1] at hr
    have c39 : (∀ Q : Option Value → r_S → Prop, rb_X12_readRegions_101 (fun S x1 x2 x3 => rl_X12_readRegions_76 (d + 1) S x1 x2 x3 Q) R (nI p) wh (nI (re i)) Q → RM Q) → wb_X9_readRegions_39 bc bs (fun u v S a0 r1 x2 x3 => wl_X9_readRegions_17 bc bs (d + 1) u v S a0 r1 x2 x3 Q E) u v (c_E L K T) (c_ob L 9 0) (some (c_ob L 4 p)) wh (nI i) Q E := fun hr => by
      unfold rb_X12_readRegions_101 at hr
      have hr := g_and hr vp.1
      rw [vp.2, pm.2.1.2.2.1] at hr
      refine ⟨_, rfl, c_gk g m4 5 rfl, ?_⟩
      rw [c_eI m4 rfl, pm.2.1.2.1]
      by_cases z6 : i < 6
      · have hr := g_and (g_and (g_nneg hr (fun z => by have := (nI_eq (by omega) (by decide)).mp (z.trans (show (6 : Int32) = nI 6 from rfl)); omega)) vp.1) vp.1
        rw [pm.1.2.2.2.1, nI_sub rl.1] at hr
        refine bt_ (by rw [show (6 : Int32) = nI 6 from rfl]; exact nI_lt z6 (by decide)) ⟨_, rfl, c_gk g m4 5 rfl, um_X4_covered g K p m4 (Q1 := fun v K2 => v = nI (re i) ∧ K2 = K) (ke_cov pm ⟨rfl, rfl⟩) (fun v K2 h2 => ⟨_, rfl, K10 g, ?_⟩)⟩
        obtain ⟨rfl, rfl⟩ := h2
        rw [c_eI m4 rfl, pm.1.2.2.1, nI_sub rl.1]
        refine c_num wd av hu hv (by decide) (fun _ _ => Iff.rfl) hr (fun K' R' w q x cz hf hr => ?_) (fun K3 R3 n av3 tf3 hn hr => ⟨K10 g, ?_⟩)
        · rcases FD_c hf with de | pe
          · obtain ⟨R, hf, de, hr⟩ := fd_188 (B76 := fun Q S x1 x2 x3 => rl_X12_readRegions_76 (d + 1) S x1 x2 x3 Q) hf de (g_nneg hr (de_n0 de))
            exact hX K' R w q cz hf de hr
          · obtain ⟨R, hf, de, hr⟩ := fd_182 (B76 := fun Q S x1 x2 x3 => rl_X12_readRegions_76 (d + 1) S x1 x2 x3 Q) hf (g_nneg (g_npos hr pe.1) (by rw [pe.2]; decide))
            exact hX K' R w q cz hf de hr
        · obtain ⟨n0, rfl, n31, n1, n2⟩ := num_of hn.1 (by decide)
          have k32 := pm.1.2.1
          rw [nI_toInt (by omega)] at n2
          have n1 : 64 ≤ n0 := by have : (64 : Int32).toInt = 64 := rfl; omega
          have n2 : n0 ≤ 256 * k - re i := by omega
          have n64 : n0 % 64 = 0 := by
            have h := hn.2
            rw [show (64 : Int32) = nI 64 from rfl, pk_rem n31 (by decide) (by decide)] at h
            exact (nI_eq (by omega) (by decide)).mp (h.trans (show (0 : Int32) = nI 0 from rfl))
          have pm3 := PM_t pm tf3
          have of3 := OF_k of tf3 (fun f i z => Or.inl z) (fun f a b => ⟨a, b⟩)
          have r03 := av3.2.2.2.1
          have hr := g_npos hr r03
          have ix : (6 : Int32) * nI p + nI i = nI (6 * p + i) := by rw [show (6 : Int32) = nI 6 from rfl, pk_mul, nI_add]
          rw [ix] at hr
          have bad : (∀ Q : Option Value → r_S → Prop, rb_X12_readRegions_182 (fun S x1 x2 x3 => rl_X12_readRegions_76 (d + 1) S x1 x2 x3 Q) R3 (nI p) wh (nI (re i)) (nI (6 * p + i)) (nI n0) Q → RM Q) → wb_X9_readRegions_101 bc bs (fun u v S a0 r1 x2 x3 => wl_X9_readRegions_17 bc bs (d + 1) u v S a0 r1 x2 x3 Q E) (u + 0) (v + 0) (c_E L K3 T) (c_ob L 9 0) (some (c_ob L 4 p)) wh (nI i) (nI n0) Q E := fun hr => by
            unfold rb_X12_readRegions_182 at hr
            refine ⟨K10 g, c_flH wd av3 (by omega) (by omega) (by decide) hr (fun R' cz hf hr => ?_)⟩
            have de : r_DE R' := by
              rcases FD_c hf with de | pe
              · exact de
              · rcases hf.2 with h | h
                · unfold r_DE; rw [h.2.1]; exact h.1
                · exact absurd h.2.2.2 (by decide)
            obtain ⟨R, hf, de, hr⟩ := fd_188 (B76 := fun Q S x1 x2 x3 => rl_X12_readRegions_76 (d + 1) S x1 x2 x3 Q) hf de hr
            exact hX K3 R _ _ cz hf de hr
          rw [I9 g 1808 rfl, I9 g 1809 rfl]
          by_cases c5 : c_I K3 1808 0 = 5
          · have r4 := (AV_key av3).1.mp c5
            have ev := (AV_key av3).2 c5
            have hr := g_npos hr r4
            rw [← ev] at hr
            by_cases lo : c_I K3 1809 0 < 3
            · exact nt_ c5 (bt_ lo (bad (g_pos hr lo)))
            · have hr := g_neg hr lo
              by_cases up : c_I K3 1809 0 ≤ 6
              · have hr := g_pos hr up
                refine nt_ c5 (bf_ lo (bt_ up ?_))
                have hval : ∃ s : Nat, s ≤ 3 ∧ c_I K3 1809 0 - 3 = nI s := by
                  obtain ⟨_, hk, _⟩ := AV_kw av3 (Or.inr c5)
                  obtain ⟨j, _, j30, ej⟩ := hk c5
                  rw [ej] at lo up ⊢
                  have a := i_nlt.mp lo
                  have a' := i_le.mp a
                  have b' := i_le.mp up
                  rw [nI_toInt (by omega)] at a' b'
                  have e3 : (3 : Int32).toInt = 3 ∧ (6 : Int32).toInt = 6 := ⟨rfl, rfl⟩
                  exact ⟨j - 3, by omega, by rw [show (3 : Int32) = nI 3 from rfl]; exact nI_sub (by omega)⟩
                obtain ⟨s, s3, es⟩ := hval
                unfold rb_X12_readRegions_188 at hr
                have hr := g_pos hr (by rw [r03]; decide)
                have v6 : ∀ f : Nat, r_N f = 96 → vp_in (nI (6 * p + i)) (r_N f) := fun f h => by rw [h]; exact vp_in_nI (by omega) (by decide)
                have hr := g_and (g_so (g_and (g_and (g_and hr (v6 2427 rfl)) (v6 2428 rfl)) (v6 2429 rfl))) vp.1
                have hr := g_and hr vp.1
                rw [nI_clamp (by omega), vp.2] at hr
                have e08 : r_I (rs_A (rs_A R3 2427 (6 * p + i) (nI (re i))) 2428 (6 * p + i) (nI n0)) 2408 - 3 = nI s := by
                  show r_I R3 2408 - 3 = nI s
                  rw [← ev]
                  exact es
                rw [e08] at hr
                have e26 : r_A (rs_A (rs_A (rs_A R3 2427 (6 * p + i) (nI (re i))) 2428 (6 * p + i) (nI n0)) 2429 (6 * p + i) (nI s)) 2426 p = nI i := by
                  rw [r_AA, if_neg (by omega), r_AA, if_neg (by omega), r_AA, if_neg (by omega)]
                  exact pm3.2.1.2.2.1
                rw [e26, nI_1, nI_add] at hr
                refine ⟨K10 g, _, rfl, c_gk g m4 5 rfl, ?_⟩
                rw [I9 g 1809 rfl, es]
                have pm4 := PM_add (n := n0) (s := s) pm3 z6 (by omega) (by omega) n64 s3
                refine um_X4_addRegion g K3 p (nI n0) (nI s) m4 (Q1 := fun K4 => K4 = cs_I (cs_A (cs_A K3 804 p i (nI (re i + n0))) 805 p i (nI s)) 803 p (nI (i + 1))) ?_ (fun K4 e4 => ⟨rfl, K10 g, ?_⟩)
                · unfold km_X4_addRegion
                  rw [pm3.2.1.2.1]
                  refine bf_ ((by decide : ∀ i : Nat, i < 6 → ¬ (6 : Int32) ≤ nI i) i z6) (ke_cov pm3 ?_)
                  rw [nI_clamp (by omega), nI_add]
                  have e03 : c_I (cs_A K3 804 p i (nI (re i + n0))) 803 p = nI i := pm3.2.1.2.1
                  rw [e03, nI_clamp (by omega)]
                  refine ⟨vp_in_nI z6 (by decide), vp_in_nI z6 (by decide), fun S15 e15 => ?_⟩
                  rw [e15]
                  have e04 : c_I (cs_A (cs_A K3 804 p i (nI (re i + n0))) 805 p i (nI s)) 803 p = nI i := pm3.2.1.2.1
                  rw [e04, nI_1]
                  rfl
                · rw [e4]
                  have av4 : AV B K0 R0 (cs_I (cs_A (cs_A K3 804 p i (nI (re i + n0))) 805 p i (nI s)) 803 p (nI (i + 1))) (rs_A (rs_A (rs_A (rs_A R3 2427 (6 * p + i) (nI (re i))) 2428 (6 * p + i) (nI n0)) 2429 (6 * p + i) (nI s)) 2426 p (nI (i + 1))) := AV_a (AV_a (AV_a (AV_a (AV_I (AV_A (AV_A av3 (by decide)) (by decide)) (by decide)) (by decide)) (by decide)) (by decide)) (by decide)
                  have of4 : OF (mI p) (mA p) mi (ma p) Ks Rs (cs_I (cs_A (cs_A K3 804 p i (nI (re i + n0))) 805 p i (nI s)) 803 p (nI (i + 1))) (rs_A (rs_A (rs_A (rs_A R3 2427 (6 * p + i) (nI (re i))) 2428 (6 * p + i) (nI n0)) 2429 (6 * p + i) (nI s)) 2426 p (nI (i + 1))) := OF_a (OF_a (OF_a (OF_a (OF_I (OF_A (OF_A of3 ⟨Or.inl rfl, rfl⟩) ⟨Or.inr rfl, rfl⟩) (Or.inr ⟨rfl, rfl⟩)) (Or.inr ⟨by omega, by omega⟩)) (Or.inr ⟨by omega, by omega⟩)) (Or.inr ⟨by omega, by omega⟩)) (Or.inl ⟨rfl, rfl⟩)
                  refine c_adv wd av4 (by omega) (by omega) hr (fun K' R w q cz hf pe hr => ?_) (fun K5 R5 av5 tf5 hr => ⟨K10 g, c_sign wd av5 (by omega) (by omega) hr (fun K' R w q x cz hf hr => ?_) (fun K6 R6 av6 tf6 hr => ?_)⟩)
                  · obtain ⟨R, hf, de, hr⟩ := fs_sign hf hr
                    obtain ⟨R, hf, de, hr⟩ := fd_76 p16 hf hr
                    exact hX K' R w q cz hf de hr
                  · obtain ⟨R, hf, de, hr⟩ := fd_76 p16 hf hr
                    exact hX K' R w q cz hf de hr
                  · rw [nI_1]
                    have e1 : re1 re i n0 (i + 1) = re i + n0 := if_pos rfl
                    exact ih (i + 1) K6 R6 (re1 re i n0) (by omega) av6 (OF_k (OF_k of4 tf5 (fun f i z => Or.inl z) (fun f a b => ⟨a, b⟩)) tf6 (fun f i z => Or.inl z) (fun f a b => ⟨a, b⟩)) (PM_t (PM_t pm4 tf5) tf6) (by rw [e1]; exact hr)
              · exact nt_ c5 (bf_ lo (bf_ up (bad (g_neg hr up))))
          · exact nf_ c5 (bad (g_nneg hr (fun z => c5 ((AV_key av3).1.mpr z))))
      · have hr := g_npos hr (by have : i = 6 := by omega
                                 rw [this]; rfl)
        refine bf_ (fun z => z6 (by
          have := i_lt.mp z
          rw [nI_toInt (by omega)] at this
          have e6 : (6 : Int32).toInt = 6 := rfl
          omega)) ⟨K10 g, c_flH wd av hu hv (by decide) hr (fun R' cz hf hr => hP K R' _ _ cz hf hr)⟩
    have ex : (∀ Q : Option Value → r_S → Prop, rb_X12_readRegions_255 R (nI p) wh (nI (re i)) Q → RM Q) → 1 ≤ i → wb_X9_readRegions_138 bc bs u v (c_E L K T) (c_ob L 9 0) (some (c_ob L 4 p)) wh Q E := fun hr hi1 => by
      unfold rb_X12_readRegions_255 at hr
      have hr := g_and (g_npos hr r0) vp.1
      rw [vp.2, pm.1.2.2.2.1] at hr
      refine ⟨_, rfl, c_gk g m4 5 rfl, um_X4_covered g K p m4 (Q1 := fun v K2 => v = nI (re i) ∧ K2 = K) (ke_cov pm ⟨rfl, rfl⟩) (fun v K2 h2 => ⟨_, rfl, c_gk g m4 5 rfl, ?_⟩)⟩
      obtain ⟨rfl, rfl⟩ := h2
      rw [c_eI m4 rfl, pm.1.2.2.1]
      by_cases full : nI (re i) = nI (256 * k)
      · have hr := g_pos hr full
        unfold rb_X12_readRegions_280 at hr
        exact bt_ full ⟨K10 g, c_sign wd av hu hv hr (fun K' R w q x cz hf hr => hP K' R w q cz hf hr) (fun K6 R6 av6 tf6 hr => hN K6 R6 i re av6 (OF_k of tf6 (fun f i z => Or.inl z) (fun f a b => ⟨a, b⟩)) (PM_t pm tf6) hi1 ((nI_eq (by have := pm.1.2.1; omega) (by have := pm.1.2.1; omega)).mp full) hr)⟩
      · have hr := g_neg hr full
        refine bf_ full ⟨K10 g, c_flP wd av hu hv (by decide) rfl hr (fun R' cz hf hr => ?_)⟩
        unfold rb_X12_readRegions_280 at hr
        obtain ⟨R, hf, de, hr⟩ := fs_sign hf hr
        exact hX _ R _ _ cz hf de hr
    show ((6 : Int32) < nI i → _) ∧ (¬ (6 : Int32) < nI i → _)
    refine bf_ ((by decide : ∀ n : Nat, n ≤ 6 → ¬ (6 : Int32) < nI n) _ i6) ?_
    by_cases i0 : i = 0
    · subst i0
      exact bt_ (by decide) (c39 (g_pos hr rfl))
    · have hr := g_neg hr (fun z => i0 ((nI_eq (by omega) (by decide)).mp (z.trans (show (0 : Int32) = nI 0 from rfl))))
      refine bf_ ((by decide : ∀ n : Nat, n ≤ 6 → n ≠ 0 → ¬ nI n ≤ 0) _ i6 i0) ⟨K10 g, ?_⟩
      by_cases c : c_I K 1808 0 = 4 ∧ c_I K 1809 0 = 125
      · have hr : ∀ Q : Option Value → r_S → Prop, _ → RM Q := fun Q h => hr Q (v_sign1 r0 ((AV_S av).mp c) _ ⟨_, rfl, nf_ (by decide) h⟩)
        exact u_seesSign1 g c _ ⟨_, rfl, bf_ (by decide) (ex hr (by omega))⟩
      · have c' := fun z => c ((AV_S (k := 125) av).mpr z)
        have hr : ∀ Q : Option Value → r_S → Prop, _ → RM Q := fun Q h => hr Q (v_sign0 r0 c' _ ⟨_, rfl, nt_ rfl h⟩)
        exact u_seesSign0 g c _ ⟨_, rfl, bt_ rfl (c39 hr)⟩
