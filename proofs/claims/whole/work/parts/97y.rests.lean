/-! All processes of a partition rest. -/
def zs_mv (Z : z_C) (m : Nat) : z_C := (Z.1, Z.2.1, Z.2.2.1, Z.2.2.2.1, Z.2.2.2.2.1, Z.2.2.2.2.2.1, Z.2.2.2.2.2.2.1, Z.2.2.2.2.2.2.2.1, Z.2.2.2.2.2.2.2.2.1, Z.2.2.2.2.2.2.2.2.2.1, Z.2.2.2.2.2.2.2.2.2.2.1, Z.2.2.2.2.2.2.2.2.2.2.2.1, Z.2.2.2.2.2.2.2.2.2.2.2.2.1, Z.2.2.2.2.2.2.2.2.2.2.2.2.2.1, Z.2.2.2.2.2.2.2.2.2.2.2.2.2.2.1, Z.2.2.2.2.2.2.2.2.2.2.2.2.2.2.2.1, Z.2.2.2.2.2.2.2.2.2.2.2.2.2.2.2.2.1, m, Z.2.2.2.2.2.2.2.2.2.2.2.2.2.2.2.2.2.2.1, Z.2.2.2.2.2.2.2.2.2.2.2.2.2.2.2.2.2.2.2.1, Z.2.2.2.2.2.2.2.2.2.2.2.2.2.2.2.2.2.2.2.2)
theorem zs_id {Z : z_C} : zs_mv Z (z_mv Z) = Z := rfl
/-- things, memories and their queues may change -/
theorem WR_g {b m : Nat} {L : c_L} {Z : z_C} {K K' : c_S} {R R' : r_S} (h : WR b L Z K R) (eI : ∀ f i : Nat, f ∉ [2001, 1602, 1603] → c_I K' f i = c_I K f i) (eA : ∀ f i n : Nat, f ≠ 801 → c_A K' f i n = c_A K f i n) (eP : ∀ f i : Nat, c_P K' f i = c_P K f i) (eJ : ∀ f i : Nat, c_J K' f i = c_J K f i) (rI : ∀ f : Nat, r_I R' f = r_I R f) (rA : ∀ f i : Nat, f ∉ [2466, 2492, 2493, 2494, 2496] → r_A R' f i = r_A R f i) (th : TH Z K' R') (ch : CH Z K' R') (me : ME (zs_mv Z m) K' R') : WR b L (zs_mv Z m) K' R' := by
  have xI : ∀ l : List Nat, (∀ f ∈ l, f ∉ [2001, 1602, 1603]) → m_I l K' = m_I l K := fun l hl => m_Ie fun f i hf => eI f i (hl f hf)
  have xA : ∀ l : List Nat, (∀ f ∈ l, f ≠ 801) → m_A l K' = m_A l K := fun l hl => m_Ae fun f i n hf => eA f i n (hl f hf)
  have xP : ∀ l : List Nat, m_P l K' = m_P l K := fun l => m_Pe fun f i _ => eP f i
  have yI : ∀ l : List Nat, n_I l R' = n_I l R := fun l => n_Ie fun f _ => rI f
  have yA : ∀ l : List Nat, (∀ f ∈ l, f ∉ [2466, 2492, 2493, 2494, 2496]) → n_A l R' = n_A l R := fun l hl => n_Ae fun f i hf => rA f i (hl f hf)
  have pk : ∀ q : Nat, p_k K' q = p_k K q := fun q => funext fun n => by
    unfold p_k
    by_cases hn : n < 20
    · rw [if_pos hn, if_pos hn, eI _ _ (by simp only [List.mem_cons, List.not_mem_nil, or_false]; omega)]
    · rw [if_neg hn, if_neg hn]
  have px : ∀ q : Nat, p_x K' q = p_x K q := fun q => funext fun n => eA _ _ _ (by decide)
  have pr : ∀ q : Nat, p_r R' q = p_r R q := fun q => funext fun n => by
    unfold p_r
    by_cases hn : n < 16 ∧ n ≠ 10
    · rw [if_pos hn, if_pos hn, rA _ _ (by simp only [List.mem_cons, List.not_mem_nil, or_false]; omega)]
    · rw [if_neg hn, if_neg hn]
  have py : ∀ q : Nat, p_y R' q = p_y R q := fun q => funext fun n => by
    unfold p_y
    rw [rA _ _ (by decide)]
  obtain ⟨⟨⟨cq, ct, cc, cm⟩, -, -, inn, -, jr, gl, tx⟩, dp, op, ti, pd, jb⟩ := h
  refine ⟨⟨⟨?_, ?_, ?_, ?_⟩, th, ch, ?_, me, ?_, ?_, ?_⟩, ?_, ?_, ?_, ?_, ?_⟩
  · unfold CQ at cq ⊢; rw [xI _ (by decide), xA _ (by decide), yA _ (by decide)]; exact cq
  · unfold CT at ct ⊢; rw [xI _ (by decide), xA _ (by decide), yA _ (by decide)]; exact ct
  · unfold CC at cc ⊢; rw [xI _ (by decide), xA _ (by decide), xP, yI, yA _ (by decide)]; exact cc
  · refine ⟨?_, ?_⟩
    · have cm := cm.1
      unfold CM at cm ⊢; rw [xI _ (by decide), xA _ (by decide), yA _ (by decide)]; exact cm
    · have nm := cm.2
      unfold NM at nm ⊢; rw [show m_J [1401, 2000] K' = m_J [1401, 2000] K from funext fun f => funext fun i => by unfold m_J; rw [eJ], yA _ (by decide)]; exact nm
  · unfold IN at inn ⊢; rw [xI _ (by decide), xA _ (by decide), yA _ (by decide)]; exact inn
  · unfold JR at jr ⊢; rw [xI _ (by decide), xA _ (by decide), yI, yA _ (by decide)]; exact jr
  · unfold GL at gl ⊢; rw [xI _ (by decide), yI]; exact gl
  · unfold TX at tx ⊢; rw [xI _ (by decide), xA _ (by decide), yI, yA _ (by decide)]; exact tx
  · unfold DP at dp ⊢
    simp only [pk, px, pr, py]; exact dp
  · unfold OP at op ⊢
    rw [show p_k K' = p_k K from funext pk, show p_r R' = p_r R from funext pr, rI, show (fun p => c_I K' 1015 p) = (fun p => c_I K 1015 p) from funext fun p => eI _ _ (by decide)]; exact op
  · unfold TI at ti ⊢
    simp only [pr, rI, rA 2439 _ (by decide), rA 2448 _ (by decide), rA 2450 _ (by decide)]; exact ti
  · unfold PD at pd ⊢
    rw [xI _ (by decide), yA _ (by decide), yA _ (by decide)]; exact pd
  · unfold JB at jb ⊢; rw [yI]; exact jb
def r_slA (R : r_S) (p n : Nat) : r_S := (R.1, fun f i => if 16 * p ≤ i ∧ i < 16 * p + n then (if f = 2472 then -1 else if f = 2467 ∨ f = 2478 ∨ f = 2475 ∨ f = 2470 then 0 else R.2 f i) else R.2 f i)
theorem sl_0 {R : r_S} {p : Nat} : r_slA R p 0 = R := Prod.ext rfl (funext fun f => funext fun i => if_neg (fun z => by omega))
theorem sl_s {R : r_S} {p x : Nat} : r_sl (r_slA R p x) (16 * p + x) = r_slA R p (x + 1) := by
  refine Prod.ext rfl (funext fun f => funext fun i => ?_)
  show (if f = 2470 ∧ i = 16 * p + x then (0 : Int32) else if f = 2475 ∧ i = 16 * p + x then 0 else if f = 2478 ∧ i = 16 * p + x then 0 else if f = 2472 ∧ i = 16 * p + x then -1 else if f = 2467 ∧ i = 16 * p + x then 0 else if 16 * p ≤ i ∧ i < 16 * p + x then (if f = 2472 then -1 else if f = 2467 ∨ f = 2478 ∨ f = 2475 ∨ f = 2470 then 0 else R.2 f i) else R.2 f i) = (if 16 * p ≤ i ∧ i < 16 * p + (x + 1) then (if f = 2472 then -1 else if f = 2467 ∨ f = 2478 ∨ f = 2475 ∨ f = 2470 then 0 else R.2 f i) else R.2 f i)
  repeat' split
  all_goals first | rfl | (exfalso; omega)
theorem sl_o {R : r_S} {p n f i : Nat} (h : f ≠ 2472 ∧ f ≠ 2467 ∧ f ≠ 2478 ∧ f ≠ 2475 ∧ f ≠ 2470) : r_A (r_slA R p n) f i = r_A R f i := by
  show (if 16 * p ≤ i ∧ i < 16 * p + n then (if f = 2472 then -1 else if f = 2467 ∨ f = 2478 ∨ f = 2475 ∨ f = 2470 then 0 else R.2 f i) else R.2 f i) = R.2 f i
  split
  · rw [if_neg h.1, if_neg (fun z => by omega)]
  · rfl
theorem sl_n {R : r_S} {p n f i : Nat} (h : ¬ (16 * p ≤ i ∧ i < 16 * p + n)) : r_A (r_slA R p n) f i = r_A R f i := if_neg h
theorem sl_7 {R : r_S} {p n j : Nat} (h : j < n) : r_A (r_slA R p n) 2467 (16 * p + j) = 0 := by
  show (if 16 * p ≤ 16 * p + j ∧ 16 * p + j < 16 * p + n then (if 2467 = 2472 then -1 else if 2467 = 2467 ∨ 2467 = 2478 ∨ 2467 = 2475 ∨ 2467 = 2470 then (0 : Int32) else R.2 2467 (16 * p + j)) else R.2 2467 (16 * p + j)) = 0
  rw [if_pos ⟨by omega, by omega⟩, if_neg (by decide), if_pos (Or.inl rfl)]
/-- like states rest alike -/
theorem sl_c {R R' : r_S} {p n f : Nat} (h : ∀ i : Nat, r_A R' f i = r_A R f i) (i : Nat) : r_A (r_slA R' p n) f i = r_A (r_slA R p n) f i := by
  show (if 16 * p ≤ i ∧ i < 16 * p + n then (if f = 2472 then -1 else if f = 2467 ∨ f = 2478 ∨ f = 2475 ∨ f = 2470 then 0 else R'.2 f i) else R'.2 f i) = (if 16 * p ≤ i ∧ i < 16 * p + n then (if f = 2472 then -1 else if f = 2467 ∨ f = 2478 ∨ f = 2475 ∨ f = 2470 then 0 else R.2 f i) else R.2 f i)
  rw [show R'.2 f i = R.2 f i from h i]
def k_lvA (K : c_S) (p : Nat) : Nat → c_S
  | 0 => K
  | x + 1 => k_lv (k_lvA K p x) (16 * p + x) 0
theorem lvA_f {K : c_S} {p : Nat} (n : Nat) : (∀ f i : Nat, f ∉ [1409, 1412, 1413, 1418, 1416] → c_I (k_lvA K p n) f i = c_I K f i) ∧ (∀ f i m : Nat, c_A (k_lvA K p n) f i m = c_A K f i m) ∧ (∀ f i : Nat, c_P (k_lvA K p n) f i = c_P K f i) ∧ ∀ f i : Nat, c_J (k_lvA K p n) f i = c_J K f i := by
  induction n with
  | zero => exact ⟨fun _ _ _ => rfl, fun _ _ _ => rfl, fun _ _ => rfl, fun _ _ => rfl⟩
  | succ n ih =>
    refine ⟨fun f i hf => ?_, fun f i m => (ih.2.1 f i m), fun f i => (ih.2.2.1 f i), fun f i => (ih.2.2.2 f i)⟩
    have hf' := hf
    simp only [List.mem_cons, List.not_mem_nil, or_false, not_or] at hf'
    show c_I (k_lv (k_lvA K p n) (16 * p + n) 0) f i = _
    unfold k_lv
    rw [c_In (Or.inl (by omega)), c_In (Or.inl (by omega)), c_In (Or.inl (by omega)), c_In (Or.inl (by omega)), c_In (Or.inl (by omega))]
    exact ih.1 f i hf
theorem W0_rests {b : Nat} {L : c_L} {Z : z_C} {K : c_S} {R : r_S} {p : Nat} (h : W0 b L Z K R) (hb : b < 1999999900) (hp : p < z_np Z) : ∀ x : Nat, x ≤ z_nq Z p → W0 (b + x) L Z (k_lvA K p x) (r_slA R p x) := by
  have n16 := CQ_nq h.1.1.1 p hp
  intro x
  induction x with
  | zero => intro _; rw [sl_0]; exact h
  | succ x ih =>
    intro hx
    rw [← sl_s]
    exact W0_lv0 (b := b + x) (ih (by omega)) (by omega) hp (by omega)
theorem ke_allRest {b : Nat} {L : c_L} {Z : z_C} {K : c_S} {R : r_S} {p : Nat} {Q : c_S → Prop} (w : WR b L Z K R) (hp : p < z_np Z) (h : Q (cs_I (cs_I (cs_I (k_lvA K p (z_nq Z p)) 1013 p 0) 1014 p (-1)) 1016 p (-1))) : km_X5_allRest L K p Q := by
  have cq := WR_cq w
  have n16 := CQ_nq cq p hp
  have hn := (CQ_p cq hp).2.2.1
  have lp : ∀ d x : Nat, x + d = z_nq Z p → kl_X5_allRest_2 L (d + 1) (k_lvA K p x) p (nI x) Q := by
    intro d
    induction d with
    | zero =>
      intro x hx
      obtain rfl : x = z_nq Z p := by omega
      refine bt_ (by rw [(lvA_f _).1 _ _ (by decide), hn]; exact nI_le (Nat.le_refl _) (by omega)) (fun S e => ?_)
      subst e
      exact h
    | succ d ih =>
      intro x hx
      have mi := (CQ_q cq hp (show x < z_nq Z p by omega)).1
      refine bf_ (by rw [(lvA_f _).1 _ _ (by decide), hn]; exact nI_ge (by omega) (by omega)) ⟨vp_in_nI (by omega) (by decide), 16 * p + x, by rw [nI_clamp (by omega), c_m7 (by omega) mi], mi, ke_leave ?_⟩
      rw [nI_1]
      exact ih (x + 1) (by omega)
  exact ⟨z_nq Z p + 1, lp (z_nq Z p) 0 (by omega)⟩
theorem re_sl0 {R : r_S} {p j : Nat} {Q : Option Value → r_S → Prop} (hp : p < 16) (hj : j < 16) (hl : r_A R 2486 p = 0) (h : Q none (r_sl R (16 * p + j))) : rm_X12_sleeps R (nI (16 * p + j)) Q := by
  have e : r_A (r_sl R (16 * p + j)) 2486 p = 0 := by
    unfold r_sl
    rw [r_An (Or.inl (by decide)), r_An (Or.inl (by decide)), r_An (Or.inl (by decide)), r_An (Or.inl (by decide)), r_An (Or.inl (by decide))]
    exact hl
  refine re_sleeps hp hj (fun z => absurd (by rw [e]; decide) z) ?_
  rw [show r_ul (r_sl R (16 * p + j)) p = r_sl R (16 * p + j) from if_neg (fun z => z.1 (by rw [e]; decide))]
  exact h
theorem PDv_rest {Z : z_C} {p : Nat} {k0 r0 s0 k r s : Nat → Int32} (h : PDv Z p k0 r0 s0) (e1 : k 1009 = r 2483 ∧ k 1010 = r 2484 ∧ k 1011 = r 2485 ∧ k 1012 = r 2491) (hm : r 2483 = 0 ∨ r 2483 = 1) (k13 : k 1013 = 0) (r86 : r 2486 = 0) (k14 : k 1014 = -1) (k16 : k 1016 = -1) (r88 : r 2488 = -1 ∨ ∃ j : Nat, j < z_nq Z p ∧ r 2488 = nI (16 * p + j)) (hs : ∀ j : Nat, j < z_nq Z p → s j = 0) : PDv Z p k r s := by
  obtain ⟨-, -, -, -, -, -, -, g8, -⟩ := h
  refine ⟨⟨e1.1, e1.2.1, e1.2.2.1, e1.2.2.2, k13.trans r86.symm⟩, hm, by rw [r86]; decide, fun _ => k14, fun z => absurd k13 z, Or.inl ⟨k16, fun j hj => by rw [hs j hj]; decide⟩, r88, fun i hi => ⟨(g8 i hi).1, Or.inl (hs i (g8 i hi).1)⟩, fun _ j hj => hs j hj⟩
/-- idle -/
theorem P_idle {b : Nat} {L : c_L} {Z : z_C} {K : c_S} {R : r_S} {p : Nat} (w : WR b L Z K R) (hb : b < 1999999900) (hp : p < z_np Z) : ∃ (K' : c_S) (R' : r_S), (∀ Q : c_S → Prop, Q K' → km_X5_goIdle L K p Q) ∧ (∀ Q : Option Value → r_S → Prop, Q none R' → rm_X12_idle R (nI p) Q) ∧ WR (b + 16) L Z K' R' ∧ (∀ f i : Nat, c_P K' f i = c_P K f i) ∧ ∀ f : Nat, r_I R' f = r_I R f := by
  have cq := WR_cq w
  have np16 := CQ_np cq
  have n16 := CQ_nq cq p hp
  obtain ⟨m5, -, hn, hn2⟩ := CQ_p cq hp
  have pv := PD_v w.2.2.2.2.1 hp
  have cp := nI_clamp (n := p) (by omega)
  refine ⟨cs_I (cs_I (cs_I (cs_I (k_lvA K p (z_nq Z p)) 1013 p 0) 1014 p (-1)) 1016 p (-1)) 1009 p 1, rs_A (rs_A (r_slA R p (z_nq Z p)) 2486 p 0) 2483 p 1, fun Q hQ => ke_allRest w hp hQ, fun Q hQ => ?_, ?_, fun f i => (lvA_f _).2.2.1 f i, fun f => rfl⟩
  · -- the reference's sleeps, the lock with its owner's
    have e86 : ∀ x : Nat, r_A (r_slA R p x) 2486 p = r_A R 2486 p := fun x => sl_o (by decide)
    have e87 : ∀ x : Nat, r_A (r_slA R p x) 2487 p = r_A R 2487 p := fun x => sl_o (by decide)
    have e35 : ∀ x : Nat, r_A (r_slA R p x) 2435 (6 * p + 5) = nI (z_nq Z p) := fun x => (sl_o (by decide)).trans hn2
    have e16 : (16 : Int32) * nI p = nI (16 * p + 0) := by rw [show (16 : Int32) = nI 16 from rfl, pk_mul]; rfl
    -- with locks gone
    have l0 : ∀ d x : Nat, x + d = z_nq Z p → rl_X12_idle_5 (d + 1) (rs_A (r_slA R p x) 2486 p 0) (nI p) (nI (16 * p + x)) Q := by
      intro d
      induction d with
      | zero =>
        intro x hx
        obtain rfl : x = z_nq Z p := by omega
        rw [rl_X12_idle_5, rb_X12_idle_5]
        refine re_lastOf (by omega) ((r_An (Or.inl (by decide))).trans (e35 _)) ⟨_, rfl, bt_ (nI_le (Nat.le_refl _) (by omega)) ⟨ri_v rfl (show p < 16 by omega) (by decide), ?_⟩⟩
        rw [cp]
        exact hQ
      | succ d ih =>
        intro x hx
        rw [rl_X12_idle_5, rb_X12_idle_5]
        refine re_lastOf (by omega) ((r_An (Or.inl (by decide))).trans (e35 _)) ⟨_, rfl, bf_ (nI_ge (by omega) (by omega)) (re_sl0 (by omega) (by omega) r_As ⟨rfl, ?_⟩)⟩
        have ec : r_sl (rs_A (r_slA R p x) 2486 p 0) (16 * p + x) = rs_A (r_slA R p (x + 1)) 2486 p 0 := by
          rw [← sl_s]
          unfold r_sl
          rw [rs_c (f := 2486) (f' := 2467) (Or.inl (by decide)), rs_c (f := 2486) (f' := 2472) (Or.inl (by decide)), rs_c (f := 2486) (f' := 2478) (Or.inl (by decide)), rs_c (f := 2486) (f' := 2475) (Or.inl (by decide)), rs_c (f := 2486) (f' := 2470) (Or.inl (by decide))]
        rw [ec, nI_1]
        exact ih (x + 1) (by omega)
    by_cases c0 : c_I K 1013 p = 0
    · have z0 : r_A R 2486 p = 0 := pv.1.2.2.2.2.symm.trans c0
      refine ⟨z_nq Z p + 1, ?_⟩
      have z := l0 (z_nq Z p) 0 (by omega)
      rw [sl_0, show rs_A R 2486 p 0 = R by rw [← z0]; exact rs_self] at z
      rw [e16]
      exact z
    · obtain ⟨i0, a1, a2, a3, a4, a5⟩ := pv.2.2.2.2.1 c0
      have a4 : r_A R 2487 p = nI (16 * p + i0) := a4
      have a5 : r_A R 2467 (16 * p + i0) = 1 := a5
      have lk : ¬ r_A R 2486 p ≤ 0 := fun z => c0 (by
        have g : c_I K 1013 p = r_A R 2486 p := pv.1.2.2.2.2
        have := (PD_lk w hp).2
        rw [g]
        exact Int32.toInt_inj.mp (by have := i_le0.mp z; rw [show (0 : Int32).toInt = 0 from by decide]; omega))
      have l1 : ∀ d x : Nat, x + d = i0 → rl_X12_idle_5 (z_nq Z p - x + 1) (r_slA R p x) (nI p) (nI (16 * p + x)) Q := by
        intro d
        induction d with
        | zero =>
          intro x hx
          obtain rfl : x = i0 := by omega
          rw [show z_nq Z p - x + 1 = (z_nq Z p - (x + 1) + 1) + 1 by omega, rl_X12_idle_5, rb_X12_idle_5]
          have es : r_A (r_sl (r_slA R p x) (16 * p + x)) 2487 p = nI (16 * p + x) := by rw [sl_s, e87, a4]
          refine re_lastOf (by omega) (e35 _) ⟨_, rfl, bf_ (nI_ge (by omega) (by omega)) (re_sleeps (by omega) (by omega) (fun _ => by rw [es]; exact vp_in_nI (by omega) (by decide)) ⟨rfl, ?_⟩)⟩
          have eu : r_ul (r_sl (r_slA R p x) (16 * p + x)) p = rs_A (r_slA R p (x + 1)) 2486 p 0 := by
            unfold r_ul
            rw [es, nI_clamp (by omega), sl_s]
            exact if_pos ⟨by rw [e86]; exact lk, by rw [sl_7 (by omega)]; decide⟩
          rw [eu, nI_1]
          exact l0 (z_nq Z p - (x + 1)) (x + 1) (by omega)
        | succ d ih =>
          intro x hx
          rw [show z_nq Z p - x + 1 = (z_nq Z p - (x + 1) + 1) + 1 by omega, rl_X12_idle_5, rb_X12_idle_5]
          have es : r_A (r_sl (r_slA R p x) (16 * p + x)) 2487 p = nI (16 * p + i0) := by rw [sl_s, e87, a4]
          refine re_lastOf (by omega) (e35 _) ⟨_, rfl, bf_ (nI_ge (by omega) (by omega)) (re_sleeps (by omega) (by omega) (fun _ => by rw [es]; exact vp_in_nI (by omega) (by decide)) ⟨rfl, ?_⟩)⟩
          have eu : r_ul (r_sl (r_slA R p x) (16 * p + x)) p = r_slA R p (x + 1) := by
            unfold r_ul
            rw [es, nI_clamp (by omega), sl_s]
            refine if_neg (fun z => z.2 ?_)
            rw [sl_n (by omega)]
            exact a5
          rw [eu, nI_1]
          exact ih (x + 1) (by omega)
      have z := l1 i0 0 (by omega)
      rw [sl_0] at z
      refine ⟨z_nq Z p - 0 + 1, ?_⟩
      rw [e16]
      exact z
  · have w0 := W0_rests (W0_of w) hb hp (z_nq Z p) (Nat.le_refl _)
    have w1 : W0 (b + z_nq Z p) L Z (cs_I (cs_I (cs_I (cs_I (k_lvA K p (z_nq Z p)) 1013 p 0) 1014 p (-1)) 1016 p (-1)) 1009 p 1) (rs_A (rs_A (r_slA R p (z_nq Z p)) 2486 p 0) 2483 p 1) := W0_pr (by decide) (W0_pr (by decide) (W0_pk (by decide) (W0_pk (by decide) (W0_pk (by decide) (W0_pk (by decide) w0)))))
    have ek : ∀ p' : Nat, pd_k (k_lvA K p (z_nq Z p)) p' = pd_k K p' := pd_ko (m_Ie fun f i hf => (lvA_f _).1 f i (by
      intro z
      simp only [List.mem_cons, List.not_mem_nil, or_false] at hf z
      omega))
    have er : ∀ p' : Nat, pd_r (r_slA R p (z_nq Z p)) p' = pd_r R p' := pd_ro (n_Ae fun f i hf => sl_o (by
      simp only [List.mem_cons, List.not_mem_nil, or_false] at hf
      omega))
    refine WR_w (WR_of w1 (PD_p (p := p) w.2.2.2.2.1 (CQ_nq cq) (fun p' hp' => by rw [pd_kn hp', pd_kn hp', pd_kn hp', pd_kn hp', ek]) (fun p' hp' => by rw [pd_rn hp', pd_rn hp', er]) (fun q hq => by rw [r_An (Or.inl (by decide)), r_An (Or.inl (by decide)), sl_n (by omega)]) (fun _ => ?_))) (by omega)
    rw [pd_kw (by decide), pd_kw (by decide), pd_kw (by decide), pd_kw (by decide), pd_rw (by decide), pd_rw (by decide), ek, er]
    exact PDv_rest pv ⟨rfl, pv.1.2.1, pv.1.2.2.1, pv.1.2.2.2.1⟩ (Or.inr rfl) rfl rfl rfl rfl pv.2.2.2.2.2.2.1 (fun j hj => by
      show r_A (rs_A (rs_A (r_slA R p (z_nq Z p)) 2486 p 0) 2483 p 1) 2467 (16 * p + j) = 0
      rw [r_An (Or.inl (by decide)), r_An (Or.inl (by decide)), sl_7 hj])
