/-! A new name: its checks. -/
theorem NA1_c {R R' : r_S} {lm lm' a n : Nat} {j : Int64} (h : NA1 R lm a n j) (hl : lm ≤ lm') (e : ∀ i : Nat, i < lm → r_A R' 2421 i = r_A R 2421 i) : NA1 R' lm' a n j := by
  obtain ⟨h1, h2, h3⟩ := h
  refine ⟨⟨h1.1, h1.2.1, by omega⟩, fun x hx => by rw [e _ (by omega)]; exact h2 x hx, h3.trans ?_⟩
  have : ∀ m : Nat, m ≤ n → n_v (fun x => r_A R 2421 (a + x)) m = n_v (fun x => r_A R' 2421 (a + x)) m := by
    intro m
    induction m with
    | zero => intro _; rfl
    | succ m ih =>
      intro hm
      show n_v _ m * 37 + (n_d (r_A R 2421 (a + m))).toInt64 = n_v _ m * 37 + (n_d (r_A R' 2421 (a + m))).toInt64
      rw [ih (by omega), e (a + m) (by omega)]
  exact this n (Nat.le_refl n)
theorem PN_c {L L' : c_L} {K K' : c_S} {R R' : r_S} {p lm lm' : Nat} {cn : Nat → Nat} (h : PN L K R p lm cn) (lx : LX L L') (hl : lm ≤ lm') (k4 : c_I K' 1004 p = c_I K 1004 p) (k6 : ∀ s : Nat, s < 5 → c_A K' 1006 p s = c_A K 1006 p s) (j : ∀ s i : Nat, s ≤ 5 → i < cn s → c_J K' (n_f s) (n_i p s i) = c_J K (n_f s) (n_i p s i)) (r35 : ∀ s : Nat, s ≤ 5 → r_A R' 2435 (6 * p + s) = r_A R 2435 (6 * p + s)) (r30 : r_A R' 2430 p = r_A R 2430 p) (rt : ∀ f k : Nat, 2431 ≤ f → f ≤ 2434 → k < 64 → r_A R' f (64 * p + k) = r_A R f (64 * p + k)) (le : ∀ i : Nat, i < lm → r_A R' 2421 i = r_A R 2421 i) : PN L' K' R' p lm' cn := by
  obtain ⟨w1, w2, w3, w4, w5, ⟨tm, w6, w7, w8, w9⟩, w10⟩ := h
  have t64 : tm ≤ 64 := by
    have b0 := w1 0 (by omega)
    have b1 := w1 1 (by omega)
    have b2 := w1 2 (by omega)
    have b3 := w1 3 (by omega)
    have b4 := w1 4 (by omega)
    have b5 := w1 5 (by omega)
    simp at b0 b1 b2 b3 b4 b5
    omega
  refine ⟨w1, ⟨k4.trans w2.1, (r35 5 (by omega)).trans w2.2⟩, fun s hs => ⟨(k6 s hs).trans (w3 s hs).1, (r35 s (by omega)).trans (w3 s hs).2⟩, fun i hi => (lx.1 _ _ (w4 i hi)).1, fun s i hs hi => (lx.1 _ _ (w5 s i hs hi)).1, ⟨tm, w6, r30.trans w7, fun k hk => ?_, fun s i hs hi => ?_⟩, fun s i s' i' a1 a2 a3 a4 z => w10 s i s' i' a1 a2 a3 a4 (by rw [← j s i a1 a2, ← j s' i' a3 a4]; exact z)⟩
  · obtain ⟨s, i, n, a, b1, b2, b3, b4, b5, b6, b7⟩ := w8 k hk
    refine ⟨s, i, n, a, b1, b2, (rt _ _ (by omega) (by omega) (by omega)).trans b3, (rt _ _ (by omega) (by omega) (by omega)).trans b4, (rt _ _ (by omega) (by omega) (by omega)).trans b5, (rt _ _ (by omega) (by omega) (by omega)).trans b6, ?_⟩
    rw [j s i b1 b2]
    exact NA1_c b7 hl le
  · obtain ⟨k, b1, b2, b3⟩ := w9 s i hs hi
    exact ⟨k, b1, (rt _ _ (by omega) (by omega) (by omega)).trans b2, (rt _ _ (by omega) (by omega) (by omega)).trans b3⟩
theorem nf_10 (s : Nat) : n_f s ≠ 1810 := by
  unfold n_f
  split <;> decide
theorem PN_t {L : c_L} {K K' : c_S} {R R' : r_S} {p lm : Nat} {cn : Nat → Nat} (h : PN L K R p lm cn) (t : TOKf K K' R R') : PN L K' R' p lm cn := PN_c h LX_0 (Nat.le_refl _) (t.1 _ _ (by decide)) (fun s _ => by rw [TOKf_A t]) (fun s i _ _ => t.2.1 _ _ (nf_10 s)) (fun s _ => TOKf_a t _ _) (TOKf_a t _ _) (fun f k _ _ _ => TOKf_a t _ _) (fun i _ => TOKf_a t _ _)
theorem AV_wrd {B : Nat} {K0 K : c_S} {R0 R : r_S} (av : AV B K0 R0 K R) (h : c_I K 1808 0 = 2) : ∃ b n : Nat, 1 ≤ n ∧ n ≤ 12 ∧ b + n ≤ 4000 ∧ r_I R 2409 = nI b ∧ r_I R 2410 = nI n ∧ (∀ x : Nat, x < n → n_d (r_A R 2402 (b + x)) ≠ 0) ∧ c_J K 1810 0 = n_v (fun x => r_A R 2402 (b + x)) n := by
  obtain ⟨_, ⟨_, p, _, _, _, _, _, _, tk⟩, _⟩ := av
  rcases tk with z | z | z | z | z | z
  · rw [h] at z; exact absurd z.1 (by decide)
  · rw [h] at z; exact absurd z.1 (by decide)
  · rw [h] at z; exact absurd z.1 (by decide)
  · rw [h] at z; exact absurd z.1 (by decide)
  · rw [h] at z; exact absurd z.1 (by decide)
  · obtain ⟨n, w⟩ := z.2.2.1
    exact ⟨p, n, w⟩
/-- the reference with a thing more: the k-th of p, the n-th of sort s -/
def r_nth (R : r_S) (p s k n b sz lm : Nat) : r_S := rs_A (rs_A (rs_A (rs_A (rs_A (rs_A (rs_I (r_kp R lm b sz) 2422 (nI (lm + sz))) 2431 (64 * p + k) (nI lm)) 2432 (64 * p + k) (nI sz)) 2433 (64 * p + k) (nI s)) 2434 (64 * p + k) (nI n)) 2430 p (nI (k + 1))) 2435 (6 * p + s) (nI (n + 1))
theorem c_newName {e : EV} {L : c_L} {T : q_S} {B bc bs : Nat} {K0 K : c_S} {R0 R : r_S} {p s mx lm tm : Nat} {cn : Nat → Nat} {X : Nat → Nat → Nat → Nat → Nat → q_S → Prop} {E : String → q_S → Prop} {Y : Int32 → r_S → (Option Value → r_S → Prop) → Prop} {RM : (Option Value → r_S → Prop) → Prop} (wd : WD e L T) (av : AV B K0 R0 K R) (pn : PN L K R p lm cn) (m5 : c_mk L 5 p) (hp : p < 16) (hs : s ≤ 5) (hmx : mx = if s = 4 ∨ s = 5 then 16 else 8) (hl : lm + 12 ≤ 14000) (h22 : r_I R 2422 = nI lm) (htm : tm = cn 0 + cn 1 + cn 2 + cn 3 + cn 4 + cn 5) (hu : 1 ≤ bc) (hv : 6 ≤ bs) (hby : ∀ i : Nat, fits .byte (.int (r_A R0 2402 i)) = true)
  (hr : ∀ Q : Option Value → r_S → Prop, rm_X12_newThing R (nI p) (nI s) (nI mx) (fun r R' => ∃ x : Int32, r = some (.int x) ∧ Y x R' Q) → RM Q)
  (hX : ∀ (K' : c_S) (R' : r_S) (w q : Int32), CZ K0 K' → FD w q R0 R' → (∀ Q : Option Value → r_S → Prop, Y 0 R' Q → RM Q) → E "java/lang/IllegalArgumentException" (c_E L (k_fl K' w q) T))
  (hN : ∀ (K' : c_S) (R' : r_S) (b sz : Nat), AV B K0 R0 K' R' → TOKf K K' R R' → (1 ≤ sz ∧ sz ≤ 12) → (∀ x : Nat, x < sz → n_d (r_A R' 2402 (b + x)) ≠ 0) → c_J K' 1810 0 = n_v (fun x => r_A R' 2402 (b + x)) sz → cn s < mx → (∀ s' i : Nat, s' ≤ 5 → i < cn s' → c_J K' (n_f s') (n_i p s' i) ≠ c_J K' 1810 0) → (∀ Q : Option Value → r_S → Prop, rm_X12_next (r_nth R' p s tm (cn s) b sz lm) (fun r R'' => r = none ∧ ∃ x : Int32, some (Value.int (nI (cn s))) = some (.int x) ∧ Y x R'' Q) → RM Q) → X 0 0 (c_ob L 5 p) 0 0 (c_E L K' T)) :
  ∃ m4 m5 : Nat, (0 + m4 ≤ bc ∧ 0 + m5 ≤ bs) ∧ wm_X9_advance m4 m5 (c_E L K T) (c_ob L 9 0) (fun r2 S3 => r2 = none ∧ (∃ a7 : Nat, some (c_ob L 5 p) = some a7 ∧ (q_K S3 a7 = 6 ∧ (wm_X5_isFull S3 a7 (nI s) (fun r10 S11 => ∃ x12 : Int32, r10 = some (.int x12) ∧ (q_K S11 (c_ob L 9 0) = 10 ∧ (∃ m16 m17 : Nat, ((0 + m4) + m16 ≤ bc ∧ (0 + m5) + m17 ≤ bs) ∧ (wm_X9_checkNewName m16 m17 S11 (c_ob L 9 0) (some (c_ob L 5 p)) x12 (fun r14 S15 => r14 = none ∧ X m4 m5 a7 m16 m17 S15) E)))))))) E := by
  have g := WD_g wd
  have vp6 : vp_in ((6 : Int32) * nI p + nI s) (r_N 2435) ∧ ((6 : Int32) * nI p + nI s).toNatClampNeg = 6 * p + s := by
    rw [show (6 : Int32) = nI 6 from rfl, pk_mul, nI_add, nI_clamp (by omega)]
    exact ⟨vp_in_nI (N := 96) (by omega) (by decide), rfl⟩
  have hr := g_pos hr (by rw [av.2.2.2.1]; decide)
  refine c_adv wd av (by omega) (by omega) hr (fun K R w q cz hf pe hr => ?_) (fun K' R' av tf hr => ?_)
  · have hr := g_and hr vp6.1
    by_cases c : r_A R 2435 ((6 : Int32) * nI p + nI s).toNatClampNeg = nI mx
    · obtain ⟨R, hf, de, hr⟩ := fs_failHere hf (g_npos hr c)
      exact hX K R w q cz hf (fun Q h => hr Q ⟨_, rfl, h⟩)
    · obtain ⟨R, hf, de, hr⟩ := fs_failHere hf (g_neg (g_nneg hr c) (by rw [pe.2]; decide))
      exact hX K R w q cz hf (fun Q h => hr Q ⟨_, rfl, h⟩)
  · have pn' := PN_t pn tf
    obtain ⟨w1, w2, w3, w4, w5, ⟨tm', w6, w7, w8, w9⟩, w10⟩ := pn'
    have pn' := PN_t pn tf
    have b := w1 s hs
    rw [← hmx] at b
    have mx16 : mx ≤ 16 := by rw [hmx]; split <;> omega
    have r35 : r_A R' 2435 ((6 : Int32) * nI p + nI s).toNatClampNeg = nI (cn s) := by
      rw [vp6.2]
      by_cases z : s = 5
      · rw [z]; exact w2.2
      · exact (w3 s (by omega)).2
    have hr := g_and hr vp6.1
    rw [r35] at hr
    have full : ∀ Q1 : Int32 → c_S → Prop, Q1 (if cn s < mx then 0 else 1) K' → km_X5_isFull L K' p (nI s) Q1 := fun Q1 h => by
      by_cases z : s = 5
      · have e16 : mx = 16 := by rw [hmx, if_pos (Or.inr z)]
        refine nt_ (by rw [z]; rfl) ?_
        rw [w2.1]
        subst z
        rw [e16] at h
        by_cases c : cn 5 < 16
        · rw [if_pos c] at h
          exact bt_ (by rw [show (16 : Int32) = nI 16 from rfl]; exact nI_lt c (by decide)) ⟨nb_0, h⟩
        · rw [if_neg c] at h
          exact bf_ (by rw [show (16 : Int32) = nI 16 from rfl]; exact nI_nlt (by omega) (by omega)) ⟨nb_1, h⟩
      · refine nf_ ((by decide : ∀ s : Nat, s ≤ 5 → s ≠ 5 → ¬ nI s = 5) s hs z) ⟨vp_in_nI (by omega) (by decide), ?_⟩
        rw [nI_clamp (by omega), (w3 s (by omega)).1]
        have fin : ∀ x : Int32, x = nI mx → kb_X5_isFull_38 L K' (nI (cn s)) x Q1 := fun x hx => by
          rw [hx]
          by_cases c : cn s < mx
          · rw [if_pos c] at h
            exact bt_ (nI_lt c (by omega)) ⟨nb_0, h⟩
          · rw [if_neg c] at h
            exact bf_ (nI_nlt (by omega) (by omega)) ⟨nb_1, h⟩
        by_cases y : s = 4
        · exact nt_ (by rw [y]; rfl) (fin 16 (by rw [hmx, if_pos (Or.inl y)]; rfl))
        · exact nf_ ((by decide : ∀ s : Nat, s ≤ 5 → s ≠ 4 → ¬ nI s = 4) s hs y) (fin 8 (by rw [hmx, if_neg (by omega)]; rfl))
    refine ⟨_, rfl, c_gk g m5 6 rfl, um_X5_isFull g K' p (nI s) m5 (Q1 := fun v K2 => K2 = K' ∧ v = if cn s < mx then 0 else 1) (full _ ⟨rfl, rfl⟩) (fun v K2 h2 => ⟨_, rfl, ?_⟩)⟩
    obtain ⟨rfl, rfl⟩ := h2
    refine ⟨K10 g, ?_⟩
    by_cases c : cn s < mx
    · have nc : ¬ nI (cn s) = nI mx := fun z => by
        have := (nI_eq (by omega) (by omega)).mp z
        omega
      have hr := g_nneg hr nc
      rw [if_pos c]
      by_cases kd : c_I K2 1808 0 = 2
      · obtain ⟨b0, sz, z1, z2, z3, z4, z5, z6, z7⟩ := AV_wrd av kd
        have hr := g_pos hr ((AV_name av).1.mp kd)
        by_cases kn : ∃ s' i : Nat, s' ≤ 5 ∧ i < cn s' ∧ c_J K2 (n_f s') (n_i p s' i) = c_J K2 1810 0
        · have tn : ∀ Q : Option Value → r_S → Prop, (∃ k : Nat, k < 64 ∧ Q (some (.int (nI (64 * p + k)))) R') → rm_X12_thingNamed R' (nI p) Q → True := fun _ _ _ => trivial
          obtain ⟨s', i, y1, y2, y3⟩ := kn
          have hr2 : ∃ k : Nat, k < 64 ∧ ∀ Q : Option Value → r_S → Prop, rm_X12_fail R' 3 (r_I R' 2407) (fun r R'' => ∃ x : Int32, r = some (.int x) ∧ (∃ x : Int32, some (Value.int 0) = some (.int x) ∧ Y x R'' Q)) → RM Q := by
            obtain ⟨k, b1, b2, b3⟩ := w9 s' i y1 y2
            refine ⟨0, by omega, fun Q h => hr Q (re_thingNamed pn' hp (by omega) z4 z5 z2 z3 z6 (fun k' s2 i2 c1 c2 c3 c4 c5 c6 => ⟨_, rfl, bf_ (nI_m1 (by omega)) h⟩) (fun z => absurd (y3.trans z7) (z s' i y1 y2)))⟩
          obtain ⟨_, _, hr2⟩ := hr2
          refine ⟨1, 6, ⟨by omega, by omega⟩, bt_ rfl ⟨K10 g, ?_⟩⟩
          rw [I9 g 1808 rfl]
          refine bt_ kd ⟨K10 g, _, rfl, c_gk g m5 6 rfl, ?_⟩
          rw [c_eJ (g_m9 g) rfl]
          refine um_X5_knows g K2 p _ m5 (Q1 := fun v K3 => K3 = K2 ∧ v = 1) (kn_knows pn' (fun _ => ⟨rfl, rfl⟩) (fun z => absurd y3 (z s' i y1 y2))) (fun v K3 h3 => ⟨_, rfl, ?_⟩)
          obtain ⟨rfl, rfl⟩ := h3
          refine bf_ (by decide) ⟨K10 g, ?_⟩
          rw [I9 g 1811 rfl]
          exact c_flP wd av (by omega) (by omega) (by decide) (AV_pl av) hr2 (fun R3 cz hf hr => hX _ R3 _ _ cz hf (fun Q h => hr Q ⟨_, rfl, h⟩))
        · have nk : ∀ s' i : Nat, s' ≤ 5 → i < cn s' → c_J K2 (n_f s') (n_i p s' i) ≠ c_J K2 1810 0 := fun s' i y1 y2 y3 => kn ⟨s', i, y1, y2, y3⟩
          have et : tm' = tm := by omega
          subst et
          have t64 : tm' < 64 := by
            have b0 := w1 0 (by omega)
            have b1 := w1 1 (by omega)
            have b2 := w1 2 (by omega)
            have b3 := w1 3 (by omega)
            have b4 := w1 4 (by omega)
            have b5 := w1 5 (by omega)
            simp at b0 b1 b2 b3 b4 b5
            have : s = 0 ∨ s = 1 ∨ s = 2 ∨ s = 3 ∨ s = 4 ∨ s = 5 := by omega
            rcases this with rfl | rfl | rfl | rfl | rfl | rfl <;> simp at hmx <;> omega
          have h22' : r_I R' 2422 = nI lm := (tf.2.2.2.1 2422 (by decide)).trans h22
          have hby' : ∀ i : Nat, fits .byte (.int (r_A R' 2402 i)) = true := fun i => by rw [av.2.2.2.2.1.2 2402 i (by decide)]; exact hby i
          have ixk : (64 : Int32) * nI p + nI tm' = nI (64 * p + tm') := by rw [show (64 : Int32) = nI 64 from rfl, pk_mul, nI_add]
          have hr3 : ∀ Q : Option Value → r_S → Prop, rm_X12_next (r_nth R' p s tm' (cn s) b0 sz lm) (fun r R'' => r = none ∧ ∃ x : Int32, some (Value.int (nI (cn s))) = some (.int x) ∧ Y x R'' Q) → RM Q := fun Q h => hr Q (by
            refine re_thingNamed pn' hp (by omega) z4 z5 z2 z3 z6 (fun k' s2 i2 c1 c2 c3 c4 c5 c6 => absurd (c6.trans z7.symm) (nk s2 i2 c2 c3)) (fun _ => ⟨_, rfl, bt_ rfl ⟨vp_in_nI (N := 16) hp (by decide), ?_⟩⟩)
            refine re_keep z4 z5 h22' z2 z3 (by omega) hby' ⟨_, rfl, ?_⟩
            rw [nI_clamp (by omega), w7, ixk, nI_clamp (by omega)]
            refine ⟨vp_in_nI (N := 1024) (by omega) (by decide), vp_in_nI (N := 1024) (by omega) (by decide), fun S33 e33 => ⟨vp_in_nI (N := 1024) (by omega) (by decide), vp_in_nI (N := 1024) (by omega) (by decide), vp_in_nI (N := 16) hp (by decide), vp_in_nI (N := 16) hp (by decide), fun S47 e47 => ⟨vp6.1, vp6.1, ?_⟩⟩⟩
            rw [vp6.2]
            have kp : ∀ f i : Nat, f ≠ 2421 → r_A (rs_I (r_kp R' lm b0 sz) 2422 (nI (lm + sz))) f i = r_A R' f i := fun f i hf => by
              show (if f = 2421 ∧ lm ≤ i ∧ i < lm + sz then r_A R' 2402 (b0 + (i - lm)) else R'.2 f i) = R'.2 f i
              exact if_neg (fun z => hf z.1)
            subst e47 e33
            have q30 : r_A (rs_A (rs_A (rs_A (rs_A (rs_I (r_kp R' lm b0 sz) 2422 (nI (lm + sz))) 2431 (64 * p + tm') (nI lm)) 2432 (64 * p + tm') (r_I (rs_A (rs_I (r_kp R' lm b0 sz) 2422 (nI (lm + sz))) 2431 (64 * p + tm') (nI lm)) 2410)) 2433 (64 * p + tm') (nI s)) 2434 (64 * p + tm') (nI (cn s))) 2430 p = nI tm' := by
              rw [r_AA, if_neg (fun z => absurd z.1 (by decide)), r_AA, if_neg (fun z => absurd z.1 (by decide)), r_AA, if_neg (fun z => absurd z.1 (by decide)), r_AA, if_neg (fun z => absurd z.1 (by decide)), kp 2430 p (by decide)]
              exact w7
            have q10 : r_I (rs_A (rs_I (r_kp R' lm b0 sz) 2422 (nI (lm + sz))) 2431 (64 * p + tm') (nI lm)) 2410 = nI sz := z5
            rw [q30, nI_1, q10]
            have q35 : r_A (rs_A (rs_A (rs_A (rs_A (rs_A (rs_I (r_kp R' lm b0 sz) 2422 (nI (lm + sz))) 2431 (64 * p + tm') (nI lm)) 2432 (64 * p + tm') (nI sz)) 2433 (64 * p + tm') (nI s)) 2434 (64 * p + tm') (nI (cn s))) 2430 p (nI (tm' + 1))) 2435 (6 * p + s) = nI (cn s) := by
              rw [r_AA, if_neg (fun z => absurd z.1 (by decide)), r_AA, if_neg (fun z => absurd z.1 (by decide)), r_AA, if_neg (fun z => absurd z.1 (by decide)), r_AA, if_neg (fun z => absurd z.1 (by decide)), r_AA, if_neg (fun z => absurd z.1 (by decide)), kp 2435 _ (by decide)]
              rw [vp6.2] at r35
              exact r35
            rw [q35, nI_1]
            exact h)
          refine ⟨0, 0, ⟨by omega, by omega⟩, bt_ rfl ⟨K10 g, ?_⟩⟩
          rw [I9 g 1808 rfl]
          refine bt_ kd ⟨K10 g, _, rfl, c_gk g m5 6 rfl, ?_⟩
          rw [c_eJ (g_m9 g) rfl]
          refine um_X5_knows g K2 p _ m5 (Q1 := fun v K3 => K3 = K2 ∧ v = 0) (kn_knows pn' (fun ⟨s', i, y1, y2, y3⟩ => absurd y3 (nk s' i y1 y2)) (fun z => ⟨rfl, rfl⟩)) (fun v K3 h3 => ⟨_, rfl, ?_⟩)
          obtain ⟨rfl, rfl⟩ := h3
          exact bt_ rfl ⟨rfl, hN _ R' b0 sz av tf ⟨z1, z2⟩ z6 z7 c nk hr3⟩
      · have hr := g_neg hr (fun z => kd ((AV_name av).1.mpr z))
        refine ⟨1, 6, ⟨by omega, by omega⟩, bt_ rfl ⟨K10 g, ?_⟩⟩
        rw [I9 g 1808 rfl]
        exact bf_ kd (c_flH wd av (by omega) (by omega) (by decide) hr (fun R3 cz hf hr => hX _ R3 _ _ cz hf (fun Q h => hr Q ⟨_, rfl, h⟩)))
    · have nc : nI (cn s) = nI mx := by
        have : cn s = mx := by omega
        rw [this]
      have hr := g_npos hr nc
      rw [if_neg c]
      exact ⟨1, 6, ⟨by omega, by omega⟩, bf_ (by decide) ⟨K10 g, c_flH wd av (by omega) (by omega) (by decide) hr (fun R3 cz hf hr => hX _ R3 _ _ cz hf (fun Q h => hr Q ⟨_, rfl, h⟩))⟩⟩
