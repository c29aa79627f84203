/-! load: the reading as a whole. -/
def k_ld0 (K : c_S) : c_S := cs_I (cs_I (cs_I (cs_I (cs_I (cs_I (cs_I (cs_I (cs_I (cs_I (cs_I (cs_I (cs_I (cs_I (cs_I (cs_I K 1806 0 (c_I K 1803 0)) 1803 0 0) 1807 0 0) 1804 0 0) 1805 0 (-1)) 1201 0 0) 1203 0 0) 1205 0 0) 1206 0 0) 1209 0 0) 1213 0 0) 1211 0 0) 1212 0 0) 1214 0 0) 402 0 0) 403 0 0
theorem c_rd0 {L : c_L} {T : q_S} {K : c_S} {bc bs : Nat} {Q : Option Value → q_S → Prop} {E : String → q_S → Prop} (g : c_G L T) (h : ∃ m54_ m55_ : Nat, (0 + m54_ ≤ bc ∧ 0 + m55_ ≤ bs) ∧ (wm_X9_advance m54_ m55_ (c_E L (k_ld0 K) T) (c_ob L 9 0) (fun r52_ S53_ => r52_ = none ∧ (∃ n57_ : Nat, wl_X9_read_41 bc bs n57_ (0 + m54_) (0 + m55_) S53_ (c_ob L 9 0) (0 : Int32) Q E)) E)) : wm_X9_read bc bs (c_E L K T) (c_ob L 9 0) Q E := by
  have m9 := g_m9 g
  have m6 := g_m6 g
  have m2 : c_mk L 2 0 := c_gO g 1210 2 rfl (by decide) m6
  refine ⟨K10 g, fun S45 e45 => ?_⟩
  rw [I9 g 1803 rfl, c_eIs (c_gw g) m9 rfl, c_eIs (c_gw g) m9 rfl, c_eIs (c_gw g) m9 rfl] at e45
  rw [e45, c_eIs (c_gw g) m9 rfl, c_eIs (c_gw g) m9 rfl]
  refine ⟨_, P18 g, K7 g, K7 g, K7 g, fun S2 e2 S3 e3 => ?_⟩
  rw [c_eIs (c_gw g) m6 rfl, c_eIs (c_gw g) m6 rfl, c_eIs (c_gw g) m6 rfl] at e2
  rw [e2, c_eIs (c_gw g) m6 rfl, c_eIs (c_gw g) m6 rfl, c_eIs (c_gw g) m6 rfl] at e3
  rw [e3]
  refine ⟨rfl, K7 g, fun S5 e5 => ?_⟩
  rw [c_eIs (c_gw g) m6 rfl, c_eIs (c_gw g) m6 rfl, c_eIs (c_gw g) m6 rfl] at e5
  rw [e5]
  refine ⟨_, c_gp g 1210 2 rfl rfl (by decide) m6, c_gk g m2 3 rfl, c_gk g m2 3 rfl, ?_⟩
  rw [c_eIs (c_gw g) m2 rfl, c_eIs (c_gw g) m2 rfl]
  exact ⟨rfl, rfl, K10 g, h⟩
theorem fd_26 {w q : Int32} {R0 R : r_S} {d : Nat} {RM : (Option Value → r_S → Prop) → Prop} (hf : FD w q R0 R) (hr : ∀ Q : Option Value → r_S → Prop, rl_X12_load_26 (d + 1) R Q → RM Q) : ∃ R' : r_S, FD w q R0 R' ∧ r_DE R' ∧ ∀ Q : Option Value → r_S → Prop, rb_X12_load_88 R' 0 Q → RM Q := by
  have hr : ∀ Q : Option Value → r_S → Prop, rb_X12_load_26 (fun S => rl_X12_load_26 d S Q) R Q → RM Q := hr
  unfold rb_X12_load_26 at hr
  obtain ⟨R1, hf, de, hr⟩ := fs_failHere hf (g_pos (fs_isKey hf hr) rfl)
  exact fd_47 (B := fun Q S => rl_X12_load_26 d S Q) hf hr
theorem c_load {e : EV} {L : c_L} {T : q_S} {K : c_S} {R : r_S} {B bc bs : Nat} {Q : Option Value → q_S → Prop} {E : String → q_S → Prop} (wd : WD e L T) (ri : RI K) (hB : B ≤ 4000 ∧ c_I K 1803 0 = nI B ∧ r_I R 2403 = nI B) (ha : ∀ i : Nat, c_A K 1802 0 i = r_A R 2402 i) (hb : ∀ i : Nat, fits .byte (.int (r_A R 2402 i)) = true) (hbc : 4300 ≤ bc) (hbs : 109000 ≤ bs)
  (hX : ∀ (L' : c_L) (T' : q_S) (K' : c_S) (R' : r_S) (w q : Int32), WD e L' T' → CZ (k_ld0 K) K' → FD w q (r_ld0 R) R' → r_DE R' → (∀ Q : Option Value → r_S → Prop, rb_X12_load_88 R' 0 Q → rm_X12_load R Q) → E "java/lang/IllegalArgumentException" (c_E L' (k_fl K' w q) T'))
  (hN : ∀ (L' : c_L) (T' : q_S) (K' : c_S) (R' : r_S) (D : CD) (np lm nc : Nat) (sp : Nat → Option (Nat × Nat)) (gp : Nat → Nat → Option (Nat × Nat)) (ng ic : Nat → Nat) (ni nw : Nat) (wo we : Nat → Nat), RDF e B (k_ld0 K) (r_ld0 R) D np lm nc sp gp ng ic ni nw wo we L' T' K' R' → (c_I K' 1804 0 = 0 ∧ c_I K' 1805 0 = -1 ∧ r_I R' 2412 = -1) → (∀ Q : Option Value → r_S → Prop, rb_X12_load_88 R' 1 Q → rm_X12_load R Q) → Q none (c_E L' (cs_I K' 1213 0 1) T')) :
  wm_X9_read bc bs (c_E L K T) (c_ob L 9 0) Q E := by
  have g := WD_g wd
  have rl : ∀ Q : Option Value → r_S → Prop, rm_X12_next (r_ld0 R) (fun r S => r = none ∧ ∃ n : Nat, rl_X12_load_26 n S Q) → rm_X12_load R Q := fun Q h => re_fgt ⟨rfl, h⟩
  have e02 : ∀ i : Nat, r_A (r_ld0 R) 2402 i = r_A R 2402 i := fun i => st_A (fun o => ⟨rfl, rfl, rfl, rfl, rfl, rfl, rfl⟩)
  have tx : TXr B (k_ld0 K) (r_ld0 R) := ⟨hB.1, hB.2.1, hB.2.2, fun i => (ha i).trans (e02 i).symm⟩
  have hby : ∀ i : Nat, fits .byte (.int (r_A (r_ld0 R) 2402 i)) = true := fun i => by rw [e02]; exact hb i
  refine c_rd0 g ?_
  rcases f_adv0 (K0 := k_ld0 K) (R0 := r_ld0 R) (a := 0) g (WD_2 wd) tx (Nat.zero_le _) rfl rfl rfl ⟨fun _ _ => rfl, fun _ _ _ => rfl⟩ ⟨fun _ _ => rfl, fun _ _ _ => rfl, fun i => by rw [show c_A (k_ld0 K) 1802 0 i = c_A K 1802 0 i from rfl, ha]; exact hb i⟩ with ⟨K1, R1, av1, tf1, a3, a4⟩ | ⟨K1, R1, w, q, cz, ⟨hf, pe⟩, a3, a4⟩
  · refine ⟨0, 0, ⟨by omega, by omega⟩, a3 _ _ _ _ ⟨rfl, 17, ?_⟩⟩
    have ps : PS e B (k_ld0 K) (r_ld0 R) K1 R1 L T K1 R1 0 0 := by
      refine ⟨wd, av1, fun f i x hd h => ri f i x hd (by rw [show c_P K f i = c_P (k_ld0 K) f i from rfl, ← TOKf_P tf1]; exact h), ⟨by omega, ⟨(tf1.1 1201 0 (by decide)).trans rfl, (tf1.2.2.2.1 2415 (by decide)).trans rfl⟩, fun p hp => absurd hp (Nat.not_lt_zero p), fun p p' hp => absurd hp (Nat.not_lt_zero p)⟩, FZ_c FZ_st (Nat.le_refl _) (fun f i _ _ _ => TOKf_a tf1 f i), (tf1.2.2.2.1 2422 (by decide)).trans rfl, by omega, fun p hp => absurd hp (Nat.not_lt_zero p), OF_0⟩
    refine rd_all hbc hbs hby ps ⟨(tf1.1 1203 0 (by decide)).trans rfl, (tf1.1 1205 0 (by decide)).trans rfl, (tf1.1 1206 0 (by decide)).trans rfl, (tf1.1 1209 0 (by decide)).trans rfl⟩ (fun f h1 h2 => ?_) (fun Q h => rl Q (a4 _ ⟨rfl, h⟩)) hX (fun L' T' K' R' D np lm nc sp gp ng ic ni nw wo we rd h3 hr => hN L' T' K' R' D np lm nc sp gp ng ic ni nw wo we rd ⟨h3.1.trans ((tf1.1 1804 0 (by decide)).trans rfl), h3.2.1.trans ((tf1.1 1805 0 (by decide)).trans rfl), h3.2.2.trans ((tf1.2.2.2.1 2412 (by decide)).trans rfl)⟩ hr)
    have : f = 2416 ∨ f = 2417 ∨ f = 2418 ∨ f = 2419 ∨ f = 2420 := by omega
    rcases this with rfl | rfl | rfl | rfl | rfl <;> exact (tf1.2.2.2.1 _ (by decide)).trans rfl
  · obtain ⟨R2, hf, de, hr⟩ := fd_26 (d := 0) hf (fun Q h => rl Q (a4 _ ⟨rfl, 1, h⟩))
    exact ⟨1, 6, ⟨by omega, by omega⟩, a3 _ _ _ _ (by omega) (by omega) (hX L T K1 R2 w q wd cz hf de hr)⟩
