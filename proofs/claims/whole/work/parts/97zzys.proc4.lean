/-! A process, whole. -/
theorem c_perhaps0 {e : EV} {L : c_L} {T : q_S} {B bc bs u v : Nat} {K0 K : c_S} {R0 R : r_S} {k : Int32} {F q0 : Nat} {A : Nat → Nat → q_S → Prop} {E : String → q_S → Prop} {Y : Int32 → r_S → (Option Value → r_S → Prop) → Prop} {RM : (Option Value → r_S → Prop) → Prop} (wd : WD e L T) (av : AV B K0 R0 K R) (m7 : c_mk L 7 q0) (hF : F / 200 = 7) (hu : u + 1 ≤ bc) (hv : v + 6 ≤ bs) (hr : ∀ Q : Option Value → r_S → Prop, rm_X12_perhaps R k (fun r R' => ∃ x : Int32, r = some (.int x) ∧ Y x R' Q) → RM Q)
  (hX : ∀ (K' : c_S) (R' : r_S) (w q x : Int32), CZ K0 K' → FD w q R0 R' → (∀ Q : Option Value → r_S → Prop, Y x R' Q → RM Q) → E "java/lang/IllegalArgumentException" (c_E L (k_fl K' w q) T))
  (hN : ∀ (K' : c_S) (R' : r_S) (x : Int32), AV B K0 R0 K' R' → (0 ≤ x.toInt ∧ x.toInt ≤ 100000) → ((x = 0 ∧ K' = K ∧ R' = R) ∨ TOKf (cs_I K F q0 x) K' R R') → (∀ Q : Option Value → r_S → Prop, Y x R' Q → RM Q) → A u v (c_E L K' T)) :
  q_K (c_E L K T) (c_ob L 9 0) = 10 ∧ (∃ m60_ m61_ : Nat, (u + m60_ ≤ bc ∧ v + m61_ ≤ bs) ∧ (wm_X9_takes m60_ m61_ (c_E L K T) (c_ob L 9 0) k (fun r58_ S59_ => ∃ x63_ : Int32, r58_ = some (.int x63_) ∧ (((x63_ = 0 → (A (u + m60_) (v + m61_) S59_)) ∧ (¬ x63_ = 0 → (q_K S59_ (c_ob L 9 0) = 10 ∧ (∃ m68_ m69_ : Nat, ((u + m60_) + m68_ ≤ bc ∧ (v + m61_) + m69_ ≤ bs) ∧ (wm_X9_number m68_ m69_ S59_ (c_ob L 9 0) (1 : Int32) (100000 : Int32) (1 : Int32) (fun r66_ S67_ => ∃ x71_ : Int32, r66_ = some (.int x71_) ∧ (q_K S67_ (c_ob L 7 q0) = 8 ∧ (q_K (qs_I S67_ F (c_ob L 7 q0) x71_) (c_ob L 9 0) = 10 ∧ (∃ m78_ m79_ : Nat, (((u + m60_) + m68_) + m78_ ≤ bc ∧ ((v + m61_) + m69_) + m79_ ≤ bs) ∧ (wm_X9_expectSign m78_ m79_ (qs_I S67_ F (c_ob L 7 q0) x71_) (c_ob L 9 0) (59 : Int32) (fun r76_ S77_ => r76_ = none ∧ (A (((u + m60_) + m68_) + m78_) (((v + m61_) + m69_) + m79_) S77_)) E))))) E))))))) E)) := by
  have g := WD_g wd
  have nF : F ∉ [1806, 1807, 1808, 1809, 1811, 1803, 402, 403, 1211, 1212, 1214] := fun m => by
    have := (by decide : ∀ f ∈ [1806, 1807, 1808, 1809, 1811, 1803, 402, 403, 1211, 1212, 1214], f / 200 ≠ 7) F m
    exact this hF
  refine ⟨K10 g, c_takes wd av hu hv hr (fun K' R w q cz hf hr => ?_) (fun hr => bt_ rfl (hN K R 0 av (by decide) (Or.inl ⟨rfl, rfl, rfl⟩) (fun Q h => hr Q ⟨_, rfl, h⟩))) (fun K1 R1 av1 tf1 hr => bf_ (by decide) ⟨K10 g, ?_⟩)⟩
  · obtain ⟨R, hf, de, hr⟩ := fs_number hf hr
    obtain ⟨R, hf, de, hr⟩ := fs_sign hf hr
    exact hX K' R w q _ cz hf (fun Q h => hr Q ⟨_, rfl, h⟩)
  · refine c_num wd av1 (by omega) (by omega) (by decide) (fun _ _ => Iff.rfl) hr (fun K' R w q x cz hf hr => ?_) (fun K2 R2 x av2 tf2 hx hr => ⟨c_gk g m7 8 rfl, ?_⟩)
    · obtain ⟨R, hf, de, hr⟩ := fs_sign hf hr
      exact hX K' R w q _ cz hf (fun Q h => hr Q ⟨_, rfl, h⟩)
    · rw [c_eIs (c_gw g) m7 hF]
      refine ⟨K10 g, c_sign wd (AV_I av2 nF) (by omega) (by omega) hr (fun K' R w q y cz hf hr => hX K' R w q _ cz hf (fun Q h => hr Q ⟨_, rfl, h⟩)) (fun K3 R3 av3 tf3 hr => hN K3 R3 x av3 (num_b hx) (Or.inr (TOKf_t (TOKf_I (TOKf_t tf1 tf2)) tf3)) (fun Q h => hr Q ⟨_, rfl, h⟩))⟩
theorem ent_q {k : Nat} (k1 : 1 ≤ k) (k2 : k ≤ 32) (v : Int32) (h : v - v / 4 * 4 = 0) : (¬ v < 0 ∧ ¬ nI (256 * k) - 4 < v) ↔ (¬ v < 0 ∧ ¬ nI (256 * k) - 1 < v) := by
  have e4 : nI (256 * k) - 4 = nI (256 * k - 4) := by
    have : ∀ d : Nat, d ≤ 32 → 1 ≤ d → nI (256 * d) - 4 = nI (256 * d - 4) := by decide
    exact this k k2 k1
  have e1 : nI (256 * k) - 1 = nI (256 * k - 1) := by
    have : ∀ d : Nat, d ≤ 32 → 1 ≤ d → nI (256 * d) - 1 = nI (256 * d - 1) := by decide
    exact this k k2 k1
  rw [e4, e1]
  refine and_congr_right (fun v0 => ?_)
  obtain ⟨m, hm, rfl⟩ := nI_of (x := v) v0
  rw [show (4 : Int32) = nI 4 from rfl, pk_rem hm (by decide) (by decide)] at h
  have h4 : m % 4 = 0 := (nI_eq (by omega) (by decide)).mp (h.trans (show (0 : Int32) = nI 0 from rfl))
  constructor
  · intro z y
    refine z ?_
    have y' := i_lt.mp y
    rw [nI_toInt (by omega), nI_toInt hm] at y'
    exact nI_lt (by omega) hm
  · intro z y
    have y' := i_lt.mp y
    rw [nI_toInt (by omega), nI_toInt hm] at y'
    refine z (nI_lt (by omega) hm)
theorem c_process {e : EV} {L : c_L} {T : q_S} {B bc bs : Nat} {K0 K : c_S} {R0 R : r_S} {p lm tm : Nat} {cn : Nat → Nat} {hd : Option Nat} {k nr : Nat} {re : Nat → Nat} {hp : Prop} {Q : Option Value → q_S → Prop} {E : String → q_S → Prop} {RM : (Option Value → r_S → Prop) → Prop} (wd : WD e L T) (av : AV B K0 R0 K R) (ri : RI K) (rp : RP L K R p lm cn hd k nr re hp) (p16 : p < 16) (hl : lm + 12 ≤ 14000) (h22 : r_I R 2422 = nI lm) (htm : tm = cn 0 + cn 1 + cn 2 + cn 3 + cn 4 + cn 5) (hby : ∀ i : Nat, fits .byte (.int (r_A R0 2402 i)) = true) (hu : 3 ≤ bc) (hv : 58 ≤ bs)
  (hr : ∀ Q : Option Value → r_S → Prop, rm_X12_readProcess R (nI p) Q → RM Q)
  (hX : ∀ (L' : c_L) (T' : q_S) (K' : c_S) (R' : r_S) (w q : Int32), WD e L' T' → CZ K0 K' → FD w q R0 R' → (∀ Q : Option Value → r_S → Prop, Q none R' → RM Q) → E "java/lang/IllegalArgumentException" (c_E L' (k_fl K' w q) T'))
  (hN : ∀ (L' : c_L) (T' : q_S) (K' : c_S) (R' : r_S) (lm' : Nat) (hd' : Option Nat), WD e L' T' → LX L L' → AV B K0 R0 K' R' → OF (qI p (cn 5)) (qA p (cn 5)) xi (qa p (cn 5) tm lm) K R K' R' → lm ≤ lm' → lm' ≤ lm + 12 → r_I R' 2422 = nI lm' → RP L' K' R' p lm' (cn1 cn 5) hd' k nr re hp → cn 5 < 16 → (∀ Q : Option Value → r_S → Prop, Q none R' → RM Q) → Q none (c_E L' K' T')) :
  wm_X9_readProcess bc bs (c_E L K T) (c_ob L 9 0) (some (c_ob L 5 p)) Q E := by
  have g := WD_g wd
  have m5 := rp.1.1.1
  have vp : vp_in (nI p) (r_N 2425) ∧ (nI p).toNatClampNeg = p := ⟨vp_in_nI (N := 16) p16 (by decide), nI_clamp (by omega)⟩
  obtain ⟨n, en⟩ : ∃ n : Nat, n = cn 5 := ⟨_, rfl⟩
  obtain ⟨⟨k1, k2, k3, k4, _⟩, _⟩ := rp.2.2.1
  have tail : ∀ (w q : Int32) (R : r_S) (L' : c_L) (T' : q_S) (K' : c_S), True := fun _ _ _ _ _ _ => trivial
  unfold rm_X12_readProcess at hr
  refine ⟨K10 g, c_newName (s := 5) (mx := 16) wd av rp.2.2.2.1 m5 p16 (by decide) rfl hl h22 htm (by omega) (by omega) hby hr (fun K' R w q cz hf hr => ?_) (fun K1 R1 b sz av1 tf1 hsz hd1 hj hlt nk hr1 => ⟨K10 g, c_gk g m5 6 rfl, 2, 52, ⟨by omega, by omega⟩, ?_⟩)⟩
  · obtain ⟨R, hf, hr⟩ := fd_123 (by have := (v16 (n := 0) p16 (by decide)).1; exact this) p16 hf hr
    exact hX L T K' R w q wd cz hf hr
  · have hlt : cn 5 < 16 := hlt
    have n16 : n < 16 := by omega
    have pn1 := PN_t rp.2.2.2.1 tf1
    have h4 : c_I K1 1004 p = nI (cn 5) := pn1.2.1.1
    have ri1 : RI K1 := fun f i x hd h => ri f i x hd (by rw [← TOKf_P tf1]; exact h)
    rw [c_eJ (g_m9 g) rfl]
    refine c_addProcess wd ri1 m5 p16 hlt h4 (Nat.le_refl _) (Nat.le_refl _) (fun L' T' K2 wd2 lx m7 nq => ⟨_, rfl, ?_⟩)
    obtain ⟨n1, n2, n3, n4, n5, n6, n7, n8, n9, n10⟩ := nq
    have g2 := WD_g wd2
    have m5' := (lx.1 5 p m5).1
    have m4' := lp_54 g2 p m5'
    rw [← (lx.1 9 0 (g_m9 g)).2, ← (lx.1 5 p m5).2]
    have q9 : ∀ f i : Nat, f / 200 ≠ 7 → ¬ (f / 200 = 7 ∧ i = 16 * p + cn 5) := fun f i h z => h z.1
    have av2 : AV B K0 R0 K2 R1 := AV_c av1 (fun f hf => n1 f 0 (q9 f 0 ((by decide : ∀ f ∈ [1806, 1807, 1808, 1809, 1811, 1803, 402, 403, 1211, 1212, 1214], f / 200 ≠ 7) f hf)) (fun z => by have := (by decide : ∀ f ∈ [1806, 1807, 1808, 1809, 1811, 1803, 402, 403, 1211, 1212, 1214], f ≠ 1004) f hf; exact this z.1)) (n2 1810 0 (q9 _ _ (by decide))) (fun f i hf => n3 f 0 i (q9 f 0 ((by decide : ∀ f ∈ [1802, 2204, 400, 401], f / 200 ≠ 7) f hf))) (fun _ _ => rfl) av1.2.2.2.2.1
    have jold : ∀ s' i : Nat, s' ≤ 5 → i < cn s' → c_J K2 (n_f s') (n_i p s' i) = c_J K1 (n_f s') (n_i p s' i) := fun s' i a1 a2 => n2 _ _ (fun z => by
      unfold n_f n_i at z
      by_cases y : s' = 5
      · rw [if_pos y, if_pos y] at z
        rw [y] at a2
        omega
      · rw [if_neg y] at z
        omega)
    have pn2 : PN L' K2 (r_nth R1 p 5 tm (cn 5) b sz lm) p (lm + sz) (cn1 cn 5) := by
      refine PN_add pn1 lx (by decide) rfl hlt htm hsz hd1 (fun s' i a1 a2 => by rw [← hj]; exact nk s' i a1 a2) ?_ (fun s' hs' => ?_) jold ?_ (fun _ => m7) (fun z => absurd z (by decide))
      · unfold cn1
        rw [if_pos rfl]
        exact n5
      · unfold cn1
        rw [if_neg (by omega), n3 1006 p s' (q9 _ _ (by decide))]
        exact (pn1.2.2.1 s' hs').1
      · unfold n_f n_i
        rw [if_pos rfl, if_pos rfl, n6, hj]
    have of1 : OF (qI p (cn 5)) (qA p (cn 5)) xi (qa p (cn 5) tm lm) K R K1 R1 := OF_k OF_0 tf1 (fun f i h => Or.inl h) (fun f h1 h2 => Or.inl ⟨h1, h2⟩)
    have of2 : OF (qI p (cn 5)) (qA p (cn 5)) xi (qa p (cn 5) tm lm) K1 R1 K2 R1 := ⟨fun f i z => ⟨n1 f i (fun y => z (Or.inr (Or.inl y))) (fun y => z (Or.inr (Or.inr ⟨Or.inl y.1, y.2⟩))), n2 f i (fun y => z (Or.inr (Or.inl y))), n4 f i (fun y => z (Or.inr (Or.inl y)))⟩, fun f i j z => n3 f i j (fun y => z y), fun _ _ => rfl, fun _ _ _ => rfl⟩
    have of3 : OF (qI p (cn 5)) (qA p (cn 5)) xi (qa p (cn 5) tm lm) K2 R1 K2 (r_nth R1 p 5 tm (cn 5) b sz lm) := nth_of (Or.inr rfl) (fun _ _ h => Or.inl h)
    have of4 := OF_t of1 (OF_t of2 of3)
    have c8e : c_I K2 1008 p = c_I K 1008 p := (n1 1008 p (q9 _ _ (by decide)) (by omega)).trans (tf1.1 _ _ (by decide))
    have d42e : r_A (r_nth R1 p 5 tm (cn 5) b sz lm) 2442 p = r_A R 2442 p := by
      have e0 : r_A (r_nth R1 p 5 tm (cn 5) b sz lm) 2442 p = r_A R1 2442 p := by
        unfold r_nth
        rw [r_AA, if_neg (by omega), r_AA, if_neg (by omega), r_AA, if_neg (by omega), r_AA, if_neg (by omega), r_AA, if_neg (by omega), r_AA, if_neg (by omega)]
        show (if 2442 = 2421 ∧ lm ≤ p ∧ p < lm + sz then r_A R1 2402 (b + (p - lm)) else R1.2 2442 p) = R1.2 2442 p
        exact if_neg (by omega)
      rw [e0]
      exact TOKf_a tf1 _ _
    have st : QST B K0 R0 L' K R p (cn 5) tm lm (lm + sz) (cn1 cn 5) (fun f => c_I K2 f (16 * p + cn 5)) (fun f => r_A (r_nth R1 p 5 tm (cn 5) b sz lm) f (16 * p + cn 5)) (c_I K 1008 p) (r_A R 2442 p) K2 (r_nth R1 p 5 tm (cn 5) b sz lm) := by
      refine ⟨AV_nth av2, ⟨fun _ _ _ => rfl, n7, ⟨n8.2.2.2.2.2.1, n8.2.2.2.2.2.2.1, n8.2.2.2.2.2.2.2.1, n8.2.2.2.2.2.2.2.2.1, n8.2.2.2.2.2.2.2.2.2⟩, n9, n10⟩, fun _ _ _ => rfl, of4, pn2, rfl, c8e, d42e, of4.2.2.2 2425 p (fun y => by unfold qa xa at y; omega)⟩
    have h8 : c_I K 1008 p = -1 ↔ r_A R 2442 p = -1 := by
      have := rp.1.2.1
      cases hh : hd with
      | none => rw [hh] at this; rw [this.1, this.2]
      | some h =>
        rw [hh] at this
        rw [this.2.1, this.2.2]
        exact ⟨fun z => absurd z (nI_m1 (by omega)), fun z => absurd z (nI_m1 (by omega))⟩
    obtain ⟨vv, evv⟩ : ∃ vv : Nat → Int32, vv = fun f => c_I K2 f (16 * p + cn 5) := ⟨_, rfl⟩
    obtain ⟨ww, eww⟩ : ∃ ww : Nat → Int32, ww = fun f => r_A (r_nth R1 p 5 tm (cn 5) b sz lm) f (16 * p + cn 5) := ⟨_, rfl⟩
    rw [← evv, ← eww] at st
    have z4 : vv 1404 = 0 := by rw [evv]; exact n8.1
    have z5 : vv 1405 = 0 := by rw [evv]; exact n8.2.1
    have z6 : vv 1406 = 0 := by rw [evv]; exact n8.2.2.1
    have z7 : vv 1407 = 0 := by rw [evv]; exact n8.2.2.2.1
    have z8 : vv 1408 = 0 := by rw [evv]; exact n8.2.2.2.2.1
    clear n1 n2 n3 n4 n5 n6 n7 n8 n9 n10 of1 of2 of3 of4 pn2 jold av2 pn1 nk hj hd1 evv eww
    have V := v16 p16 hlt
    refine ⟨K10 g2, c_adv wd2 st.1 (by omega) (by omega) hr1 (fun K' R w q cz hf pe hr => ?_) (fun K3 R3 av3 tf3 hr => ?_)⟩
    · obtain ⟨R, hf, hr⟩ := fd_123 V.1 p16 hf (g_and (g_ex hr (nI (cn 5))) rfl)
      exact hX L' T' K' R w q wd2 cz hf hr
    have hr := g_and (g_ex hr (nI (cn 5))) rfl
    have st3 := QST_t st av3 tf3
    refine ⟨K10 g2, c_sign wd2 av3 (by omega) (by omega) hr (fun K' R w q x cz hf hr => ?_) (fun K4 R4 av4 tf4 hr => ?_)⟩
    · obtain ⟨R, hf, hr⟩ := fd_k8 V.1 p16 hf hr
      exact hX L' T' K' R w q wd2 cz hf hr
    refine ⟨K10 g2, c_key wd2 av4 (by omega) (by omega) hr (fun K' R w q x cz hf hr => ?_) (fun K5 R5 av5 tf5 hr => ?_)⟩
    · obtain ⟨R, hf, hr⟩ := fd_25 V.1 p16 hf hr
      exact hX L' T' K' R w q wd2 cz hf hr
    have st5 := QST_t (QST_t st3 av4 tf4) av5 tf5
    have e800 : c_I K5 800 p = nI (256 * k) := (st5.2.2.2.1.1 800 p (fun y => by unfold qI at y; omega)).1.trans k3
    have hr := g_and hr vp.1
    have e25 : r_A R5 2425 (nI p).toNatClampNeg = nI (256 * k) := by rw [vp.2, st5.2.2.2.2.2.2.2.2, k4]
    rw [e25] at hr
    refine ⟨c_gk g2 m5' 6 rfl, _, c_gp g2 1002 4 rfl rfl (by decide) m5', c_gk g2 m4' 5 rfl, K10 g2, ?_⟩
    rw [c_eI m4' rfl, e800]
    refine c_num wd2 av5 (by omega) (by omega) (by decide) (ent_q k1 k2) hr (fun K' R w q x cz hf hr => ?_) (fun K6 R6 x2 av6 tf6 hx hr => ⟨_, rfl, c_gk g2 m7 8 rfl, ?_⟩)
    · obtain ⟨R, hf, hr⟩ := fd_36 V.1 hf hr
      exact hX L' T' K' R w q wd2 cz hf hr
    rw [c_eIs (c_gw g2) m7 rfl]
    have hr := g_and hr V.1
    rw [V.2] at hr
    have st6 := QST_a (F := 2436) (x := x2) (QST_I (F := 1402) (x := x2) (QST_t st5 av6 tf6) (by decide) (by decide)) (by decide) (by decide)
    refine ⟨K10 g2, c_sign wd2 st6.1 (by omega) (by omega) hr (fun K' R w q x cz hf hr => ?_) (fun K7 R7 av7 tf7 hr => ?_)⟩
    · rw [← V.2] at hr
      obtain ⟨R, hf, hr⟩ := fd_k9 V.1 hf hr
      exact hX L' T' K' R w q wd2 cz hf hr
    refine ⟨K10 g2, c_key wd2 av7 (by omega) (by omega) hr (fun K' R w q x cz hf hr => ?_) (fun K8 R8 av8 tf8 hr => ?_)⟩
    · rw [← V.2] at hr
      obtain ⟨R, hf, hr⟩ := fd_n9 V.1 hf hr
      exact hX L' T' K' R w q wd2 cz hf hr
    refine ⟨K10 g2, c_num wd2 av8 (by omega) (by omega) (by decide) (fun _ _ => Iff.rfl) hr (fun K' R w q x cz hf hr => ?_) (fun K9 R9 x3 av9 tf9 hx3 hr => ⟨c_gk g2 m7 8 rfl, ?_⟩)⟩
    · rw [← V.2] at hr
      obtain ⟨R, hf, hr⟩ := fd_37 V.1 hf hr
      exact hX L' T' K' R w q wd2 cz hf hr
    rw [c_eIs (c_gw g2) m7 rfl]
    have hr := g_and hr V.1
    have st9 := QST_a (F := 2437) (x := x3) (QST_I (F := 1403) (x := x3) (QST_t (QST_t (QST_t st6 av7 tf7) av8 tf8) av9 tf9) (by decide) (by decide)) (by decide) (by decide)
    refine ⟨K10 g2, c_sign wd2 st9.1 (by omega) (by omega) hr (fun K' R w q x cz hf hr => ?_) (fun Ka Ra ava tfa hr => ?_)⟩
    · rw [← V.2] at hr
      obtain ⟨R, hf, hr⟩ := fd_38 V.1 hf (fs_perhaps hf hr)
      exact hX L' T' K' R w q wd2 cz hf hr
    have sta := QST_t st9 ava tfa
    refine c_perhaps0 (F := 1404) (A := fun u v S => wb_X9_readProcess_115 bc bs u v S (c_ob L' 9 0) (some (c_ob L' 5 p)) (some (c_ob L' 7 (16 * p + cn 5))) Q E) wd2 ava m7 rfl (by omega) (by omega) hr (fun K' R w q x cz hf hr => ?_) (fun Kb Rb x4 avb b4 tb hr => ?_)
    · rw [← V.2] at hr
      obtain ⟨R, hf, hr⟩ := fd_38 V.1 hf hr
      exact hX L' T' K' R w q wd2 cz hf hr
    have hr := g_and hr V.1
    have stb := QST_p (F := 1404) (G := 2438) sta avb (by decide) (by decide) (by decide) (by decide) ((if_neg (by decide)).trans ((if_neg (by decide)).trans z4)) tb
    rw [← V.2] at hr
    have stb' := stb
    rw [← V.2] at stb'
    have fin : ∀ (K' : c_S) (R' : r_S) (hd' : Option Nat) (v' w' : Nat → Int32) (c8 d42 : Int32), QST B K0 R0 L' K R p (cn 5) tm lm (lm + sz) (cn1 cn 5) v' w' c8 d42 K' R' → v' 1407 = (if hd' = some (cn 5) then 1 else 0) → (v' 1402 = w' 2436 ∧ v' 1403 = w' 2437 ∧ v' 1404 = w' 2438 ∧ v' 1405 = w' 2439 ∧ v' 1406 = w' 2440 ∧ v' 1408 = w' 2441) → ((0 ≤ (w' 2438).toInt ∧ (w' 2438).toInt ≤ 100000) ∧ (0 ≤ (w' 2439).toInt ∧ (w' 2439).toInt ≤ 100000) ∧ (0 ≤ (w' 2440).toInt ∧ (w' 2440).toInt ≤ 100000)) → ((hd' = hd ∧ c8 = c_I K 1008 p ∧ d42 = r_A R 2442 p) ∨ (hd = none ∧ hd' = some (cn 5) ∧ c8 = nI (cn 5) ∧ d42 = nI (16 * p + cn 5))) → (∀ Q : Option Value → r_S → Prop, Q none R' → RM Q) → Q none (c_E L' K' T') := fun K' R' hd' v' w' c8 d42 s e7 ee bb hh hr => by
      obtain ⟨s1, s2, s3, s4, s5, s6, s7, s8, s9⟩ := s
      refine hN L' T' K' R' (lm + sz) hd' wd2 lx s1 s4 (by omega) (by omega) s6 (RP_proc g rp lx hlt s4 s5 ⟨⟨s2.2.1, (s2.1 1407 (by decide) (by decide)).trans e7⟩, ?_, ?_, s2.2.2.1, s2.2.2.2.1, s2.2.2.2.2⟩ ?_) hlt hr
      · rw [s2.1 1402 (by decide) (by decide), s2.1 1403 (by decide) (by decide), s2.1 1404 (by decide) (by decide), s2.1 1405 (by decide) (by decide), s2.1 1406 (by decide) (by decide), s2.1 1408 (by decide) (by decide), s3 2436 (by decide) (by decide), s3 2437 (by decide) (by decide), s3 2438 (by decide) (by decide), s3 2439 (by decide) (by decide), s3 2440 (by decide) (by decide), s3 2441 (by decide) (by decide)]
        exact ee
      · rw [s3 2438 (by decide) (by decide), s3 2439 (by decide) (by decide), s3 2440 (by decide) (by decide)]
        exact bb
      · rw [s7, s8]
        exact hh
    have hdn : ¬ hd = some (cn 5) := fun z => by
      have := rp.2.2.2.2.1 _ z
      omega
    refine pr_115 wd2 stb' m5' m7 p16 hlt (by omega) (by omega) ?_ ?_ ?_ ?_ x4 b4 h8 hr (fun K' R w q cz hf hr => hX L' T' K' R w q wd2 cz hf hr) (fun K' R' x x5 x6 hx5 b5 b6 s hr => fin K' R' hd _ _ _ _ s ?_ ?_ ?_ (Or.inl ⟨rfl, rfl, rfl⟩) hr) (fun K' R' x x5 x6 hx5 b5 b6 hc s hr => fin K' R' (some (cn 5)) _ _ _ _ s ?_ ?_ ?_ (Or.inr ⟨?_, rfl, rfl, rfl⟩) hr)
    · simp; exact z8
    · simp; exact z7
    · simp; exact z6
    · simp; exact z5
    · simp [hdn]; exact z7
    · simp
    · simp [b4, b5, b6]
    · simp
    · simp
    · simp [b4, b5, b6]
    · have := rp.1.2.1
      cases hh : hd with
      | none => rfl
      | some h =>
        rw [hh] at this
        rw [this.2.1] at hc
        exact absurd hc (nI_m1 (by omega))
