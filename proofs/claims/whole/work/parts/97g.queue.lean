/-! Rows that go round. -/
theorem m_Ie {l : List Nat} {K K' : c_S} (h : ∀ f i : Nat, f ∈ l → c_I K' f i = c_I K f i) : m_I l K' = m_I l K := by
  refine funext fun f => funext fun i => ?_
  unfold m_I
  by_cases e : f ∈ l
  · rw [if_pos e, if_pos e, h f i e]
  · rw [if_neg e, if_neg e]
theorem m_Ae {l : List Nat} {K K' : c_S} (h : ∀ f i n : Nat, f ∈ l → c_A K' f i n = c_A K f i n) : m_A l K' = m_A l K := by
  refine funext fun f => funext fun i => funext fun n => ?_
  unfold m_A
  by_cases e : f ∈ l
  · rw [if_pos e, if_pos e, h f i n e]
  · rw [if_neg e, if_neg e]
theorem m_Pe {l : List Nat} {K K' : c_S} (h : ∀ f i : Nat, f ∈ l → c_P K' f i = c_P K f i) : m_P l K' = m_P l K := by
  refine funext fun f => funext fun i => ?_
  unfold m_P
  by_cases e : f ∈ l
  · rw [if_pos e, if_pos e, h f i e]
  · rw [if_neg e, if_neg e]
theorem n_Ie {l : List Nat} {R R' : r_S} (h : ∀ f : Nat, f ∈ l → r_I R' f = r_I R f) : n_I l R' = n_I l R := by
  refine funext fun f => ?_
  unfold n_I
  by_cases e : f ∈ l
  · rw [if_pos e, if_pos e, h f e]
  · rw [if_neg e, if_neg e]
theorem n_Ae {l : List Nat} {R R' : r_S} (h : ∀ f i : Nat, f ∈ l → r_A R' f i = r_A R f i) : n_A l R' = n_A l R := by
  refine funext fun f => funext fun i => ?_
  unfold n_A
  by_cases e : f ∈ l
  · rw [if_pos e, if_pos e, h f i e]
  · rw [if_neg e, if_neg e]
/-- only queues and their words change -/
theorem WR_e {b : Nat} {L : c_L} {Z : z_C} {K K' : c_S} {R R' : r_S} (h : WR b L Z K R) (eI : ∀ f i : Nat, f ∉ [1602, 1603, 205, 206] → c_I K' f i = c_I K f i) (eA : ∀ f i n : Nat, f ≠ 1600 → c_A K' f i n = c_A K f i n) (eP : ∀ f i : Nat, c_P K' f i = c_P K f i) (rI : ∀ f : Nat, r_I R' f = r_I R f) (rA : ∀ f i : Nat, f ∉ [2494, 2495, 2498, 2499, 2500, 2501, 2502, 2503] → r_A R' f i = r_A R f i) (th : TH Z K' R') (ch : CH Z K' R') (eJ : ∀ f i : Nat, c_J K' f i = c_J K f i := by intros; rfl) : WR b L Z K' R' := by
  have xI : ∀ l : List Nat, (∀ f ∈ l, f ∉ [1602, 1603, 205, 206]) → m_I l K' = m_I l K := fun l hl => m_Ie fun f i hf => eI f i (hl f hf)
  have xA : ∀ l : List Nat, (∀ f ∈ l, f ≠ 1600) → m_A l K' = m_A l K := fun l hl => m_Ae fun f i n hf => eA f i n (hl f hf)
  have xP : ∀ l : List Nat, m_P l K' = m_P l K := fun l => m_Pe fun f i _ => eP f i
  have yI : ∀ l : List Nat, n_I l R' = n_I l R := fun l => n_Ie fun f _ => rI f
  have yA : ∀ l : List Nat, (∀ f ∈ l, f ∉ [2494, 2495, 2498, 2499, 2500, 2501, 2502, 2503]) → n_A l R' = n_A l R := fun l hl => n_Ae fun f i hf => rA f i (hl f hf)
  have pk : ∀ q : Nat, p_k K' q = p_k K q := fun q => funext fun n => by
    unfold p_k
    by_cases hn : n < 20
    · rw [if_pos hn, if_pos hn, eI _ _ (by simp only [List.mem_cons, List.not_mem_nil, or_false]; omega)]
    · rw [if_neg hn, if_neg hn]
  have px : ∀ q : Nat, p_x K' q = p_x K q := fun q => funext fun n => eA _ _ _ (by decide)
  have pr : ∀ q : Nat, p_r R' q = p_r R q := fun q => funext fun n => by
    unfold p_r
    by_cases hn : n < 16 ∧ n ≠ 10
    · rw [if_pos hn, if_pos hn, rA _ _ (by simp only [List.mem_cons, List.not_mem_nil, or_false]; omega)]
    · rw [if_neg hn, if_neg hn]
  have py : ∀ q : Nat, p_y R' q = p_y R q := fun q => funext fun n => by
    unfold p_y
    rw [rA _ _ (by decide)]
  obtain ⟨⟨⟨cq, ct, cc, cm⟩, -, -, inn, me, jr, gl, tx⟩, dp, op, ti, pd, jb⟩ := h
  refine ⟨⟨⟨?_, ?_, ?_, ?_⟩, th, ch, ?_, ?_, ?_, ?_, ?_⟩, ?_, ?_, ?_, ?_, ?_⟩
  · unfold CQ at cq ⊢; rw [xI _ (by decide), xA _ (by decide), yA _ (by decide)]; exact cq
  · unfold CT at ct ⊢; rw [xI _ (by decide), xA _ (by decide), yA _ (by decide)]; exact ct
  · unfold CC at cc ⊢; rw [xI _ (by decide), xA _ (by decide), xP, yI, yA _ (by decide)]; exact cc
  · refine ⟨?_, ?_⟩
    · have cm := cm.1
      unfold CM at cm ⊢; rw [xI _ (by decide), xA _ (by decide), yA _ (by decide)]; exact cm
    · have nm := cm.2
      unfold NM at nm ⊢; rw [show m_J [1401, 2000] K' = m_J [1401, 2000] K from funext fun f => funext fun i => by unfold m_J; rw [eJ], yA _ (by decide)]; exact nm
  · unfold IN at inn ⊢; rw [xI _ (by decide), xA _ (by decide), yA _ (by decide)]; exact inn
  · unfold ME at me ⊢; rw [xA _ (by decide), yA _ (by decide)]; exact me
  · unfold JR at jr ⊢; rw [xI _ (by decide), xA _ (by decide), yI, yA _ (by decide)]; exact jr
  · unfold GL at gl ⊢; rw [xI _ (by decide), yI]; exact gl
  · unfold TX at tx ⊢; rw [xI _ (by decide), xA _ (by decide), yI, yA _ (by decide)]; exact tx
  · unfold DP at dp ⊢
    simp only [pk, px, pr, py]; exact dp
  · unfold OP at op ⊢
    rw [show p_k K' = p_k K from funext pk, show p_r R' = p_r R from funext pr, rI, show (fun p => c_I K' 1015 p) = (fun p => c_I K 1015 p) from funext fun p => eI _ _ (by decide)]; exact op
  · unfold TI at ti ⊢
    simp only [pr, rI, rA 2439 _ (by decide), rA 2448 _ (by decide), rA 2450 _ (by decide)]; exact ti
  · unfold PD at pd ⊢
    rw [xI _ (by decide), yA _ (by decide), yA _ (by decide)]; exact pd
  · unfold JB at jb ⊢; rw [yI]; exact jb
/-- the channels stay, whatever other queues do -/
theorem CH_s {Z : z_C} {K K' : c_S} {R R' : r_S} (h : CH Z K R) (ek : ∀ f c : Nat, f ∈ [205, 206] → c_I K' f c = c_I K f c) (ek2 : ∀ f i : Nat, f ∈ [1602, 1603] → 1000 ≤ i → c_I K' f i = c_I K f i) (ea : ∀ i n : Nat, 1000 ≤ i → c_A K' 1600 i n = c_A K 1600 i n) (er : ∀ f i : Nat, f ∈ [2454, 2498, 2499, 2500, 2501, 2502, 2503] → r_A R' f i = r_A R f i) : CH Z K' R' := by
  intro c hc
  have q := h c hc
  have e1 : m_I [205, 206, 1602, 1603] K' 206 c = m_I [205, 206, 1602, 1603] K 206 c := ek 206 c (by decide)
  have e2 : m_I [205, 206, 1602, 1603] K' 205 c = m_I [205, 206, 1602, 1603] K 205 c := ek 205 c (by decide)
  have e3 : m_I [205, 206, 1602, 1603] K' 1602 (1000 + c) = m_I [205, 206, 1602, 1603] K 1602 (1000 + c) := ek2 1602 _ (by decide) (by omega)
  have e4 : m_I [205, 206, 1602, 1603] K' 1603 (1000 + c) = m_I [205, 206, 1602, 1603] K 1603 (1000 + c) := ek2 1603 _ (by decide) (by omega)
  have e5 : m_A [1600] K' 1600 (1000 + c) = m_A [1600] K 1600 (1000 + c) := funext fun n => ea _ n (by omega)
  have e6 : n_A [2498, 2499, 2500, 2501, 2502, 2503] R' = n_A [2498, 2499, 2500, 2501, 2502, 2503] R := n_Ae fun f i hf => er f i (by revert hf; simp only [List.mem_cons, List.not_mem_nil, or_false]; omega)
  have e7 : n_A [2454] R' 2454 c = n_A [2454] R 2454 c := er 2454 c (by decide)
  simp only [e1, e2, e3, e4, e5, e6, e7]
  exact q
/-- the things stay, whatever the channels' queues do -/
theorem TH_s {Z : z_C} {K K' : c_S} {R R' : r_S} (h : TH Z K R) (nb : NTb Z) (np16 : z_np Z ≤ 16) (ek : ∀ f i : Nat, f ∈ [2001, 2005, 1602, 1603] → i < 1000 → c_I K' f i = c_I K f i) (ea : ∀ i n : Nat, i < 1000 → c_A K' 1600 i n = c_A K 1600 i n) (er : ∀ f i : Nat, f ∈ [2444, 2492, 2493, 2494, 2495, 2496, 2497] → r_A R' f i = r_A R f i) : TH Z K' R' := by
  refine TH_q (p := 16) h nb (fun f i hf _ hi => ek f i hf hi) (fun i n _ hi => ea i n hi) (fun f i hf _ => er f i (by revert hf; simp only [List.mem_cons, List.not_mem_nil, or_false]; omega)) (fun i _ => er _ i (by decide)) np16 (fun z => by omega)
/-- one buffer has changed -/
theorem TH_buf {Z : z_C} {K K' : c_S} {R R' : r_S} {p k : Nat} (h : TH Z K R) (nb : NTb Z) (np16 : z_np Z ≤ 16) (hp : p < z_np Z) (hk : k < z_nt Z p 2) (ek : ∀ f i : Nat, f ∈ [2001, 2005] → c_I K' f i = c_I K f i) (ek2 : ∀ f i : Nat, f ∈ [1602, 1603] → i ≠ 48 * p + (16 + k) → c_I K' f i = c_I K f i) (ea : ∀ i n : Nat, i ≠ 48 * p + (16 + k) → c_A K' 1600 i n = c_A K 1600 i n) (er : ∀ f i : Nat, f ∈ [2444, 2492, 2493, 2496, 2497] → r_A R' f i = r_A R f i) (er2 : ∀ i : Nat, i ≠ 8 * p + k → r_A R' 2494 i = r_A R 2494 i) (er3 : ∀ i : Nat, i / 16 ≠ 8 * p + k → r_A R' 2495 i = r_A R 2495 i)
    (n : QUt (z_dc Z (48 * p + (16 + k))) (c_I K' 1602 (48 * p + (16 + k))) (c_I K' 1603 (48 * p + (16 + k))) (c_A K' 1600 (48 * p + (16 + k))) (r_A R' 2494 (8 * p + k)) (fun x => r_A R' 2495 (16 * (8 * p + k) + x))) : TH Z K' R' := by
  obtain ⟨n0, n1, n2, n3, n4, n5⟩ := nb p hp
  obtain ⟨h0, h1, h2, h3, h4⟩ := TH_v h hp
  refine TH_q (p := p) h nb (fun f i hf hi _ => ?_) (fun i x hi _ => ea i x (fun e => hi (by omega))) (fun f i hf hi => ?_) (fun i hi => er3 i (fun e => hi (by omega))) np16 (fun _ => ⟨fun x hx => ?_, fun x hx => ?_, fun x hx => ?_, fun x hx => ?_, fun x hx => ?_⟩)
  · by_cases c : f ∈ [2001, 2005]
    · exact ek f i c
    · exact ek2 f i (by revert hf c; simp only [List.mem_cons, List.not_mem_nil, or_false]; omega) (fun e => hi (by omega))
  · by_cases c : f = 2494
    · subst c; exact er2 i (fun e => hi (by omega))
    · exact er f i (by revert hf c; simp only [List.mem_cons, List.not_mem_nil, or_false]; omega)
  · rw [ek _ _ (by decide), er 2492 _ (by decide), er 2444 _ (by decide)]; exact h0 x hx
  · rw [ek _ _ (by decide), er _ _ (by decide)]; exact h1 x hx
  · by_cases e : x = k
    · subst e; exact n
    · rw [ek2 1602 _ (by decide) (by omega), ek2 1603 _ (by decide) (by omega), er2 _ (by omega), show c_A K' 1600 (48 * p + (16 + x)) = c_A K 1600 (48 * p + (16 + x)) from funext fun m => ea _ m (by omega)]
      obtain ⟨a, m, q1, q2, q3, q4, q5, q6⟩ := h2 x hx
      have d16 := n5 x hx
      exact ⟨a, m, q1, q2, q3, q4, q5, fun i hi => by simp only; rw [er3 _ (by omega)]; exact q6 i hi⟩
  · rw [ek 2001 _ (by decide), ek 2005 _ (by decide), er 2496 _ (by decide), er 2497 _ (by decide)]; exact h3 x hx
  · rw [ek _ _ (by decide)]; exact h4 x hx
/-- one channel's queue has changed -/
theorem CH_qu {Z : z_C} {K K' : c_S} {R R' : r_S} {c : Nat} (h : CH Z K R) (hc : c < z_nc Z) (hq : r_A R 2454 c = 1) (ek : ∀ f i : Nat, f ∈ [205, 206] → c_I K' f i = c_I K f i) (ek2 : ∀ f i : Nat, f ∈ [1602, 1603] → i ≠ 1000 + c → c_I K' f i = c_I K f i) (ea : ∀ i n : Nat, i ≠ 1000 + c → c_A K' 1600 i n = c_A K 1600 i n) (er : ∀ f i : Nat, f ∈ [2454, 2498, 2499, 2500, 2503] → r_A R' f i = r_A R f i) (er2 : ∀ i : Nat, i ≠ c → r_A R' 2501 i = r_A R 2501 i) (er3 : ∀ i : Nat, i / 32 ≠ c → r_A R' 2502 i = r_A R 2502 i) (d32 : ∀ c : Nat, c < z_nc Z → z_dc Z (1000 + c) ≤ 32)
    (n : QUt (z_dc Z (1000 + c)) (c_I K' 1602 (1000 + c)) (c_I K' 1603 (1000 + c)) (c_A K' 1600 (1000 + c)) (r_A R' 2501 c) (fun x => r_A R' 2502 (32 * c + x))) : CH Z K' R' := by
  intro x hx
  obtain ⟨q1, q2, q3⟩ := h x hx
  have q2 : r_A R 2454 x = 1 → c_I K 205 x = -1 ∧ QUt (z_dc Z (1000 + x)) (c_I K 1602 (1000 + x)) (c_I K 1603 (1000 + x)) (c_A K 1600 (1000 + x)) (r_A R 2501 x) (fun n => r_A R 2502 (32 * x + n)) := q2
  show c_I K' 206 x = r_A R' 2503 x ∧ (r_A R' 2454 x = 1 → c_I K' 205 x = -1 ∧ QUt (z_dc Z (1000 + x)) (c_I K' 1602 (1000 + x)) (c_I K' 1603 (1000 + x)) (c_A K' 1600 (1000 + x)) (r_A R' 2501 x) (fun n => r_A R' 2502 (32 * x + n))) ∧ (r_A R' 2454 x = 0 → (r_A R' 2498 x = 0 ∧ c_I K' 205 x = -1 ∧ c_I K' 1603 (1000 + x) = 0 ∧ c_I K' 1602 (1000 + x) = 0) ∨ (r_A R' 2498 x = 1 ∧ c_I K' 205 x = r_A R' 2500 x ∧ 0 ≤ (r_A R' 2500 x).toInt ∧ c_I K' 1603 (1000 + x) = 1 ∧ c_I K' 1602 (1000 + x) = 0 ∧ c_A K' 1600 (1000 + x) 0 = r_A R' 2499 x))
  rw [ek 206 _ (by decide), ek 205 _ (by decide), er 2503 _ (by decide), er 2454 _ (by decide), er 2498 _ (by decide), er 2500 _ (by decide), er 2499 _ (by decide)]
  by_cases e : x = c
  · subst e
    exact ⟨q1, fun _ => ⟨(q2 hq).1, n⟩, fun z => absurd (hq.symm.trans z) (by decide)⟩
  · rw [ek2 1602 _ (by decide) (by omega), ek2 1603 _ (by decide) (by omega), er2 _ e, show c_A K' 1600 (1000 + x) = c_A K 1600 (1000 + x) from funext fun m => ea _ m (by omega)]
    refine ⟨q1, fun z => ⟨(q2 z).1, ?_⟩, q3⟩
    obtain ⟨a, m, s1, s2, s3, s4, s5, s6⟩ := (q2 z).2
    have := d32 x hx
    exact ⟨a, m, s1, s2, s3, s4, s5, fun i hi => by simp only; rw [er3 _ (by omega)]; exact s6 i hi⟩
/-! the class's queue -/
theorem md_lt {a n d : Nat} (h : a + n < d) : (a + n) % d = a + n := Nat.mod_eq_of_lt h
theorem md_ge {a n d : Nat} (h : d ≤ a + n) (h2 : a + n < d + d) : (a + n) % d = a + n - d := by
  rw [Nat.mod_eq_sub_mod h, Nat.mod_eq_of_lt (by omega)]
theorem ke_indexOf {L : c_L} {K : c_S} {i a d n : Nat} {Q : Int32 → c_S → Prop} (hd : c_I K 1601 i = nI d) (ha : c_I K 1602 i = nI a) (ad : a < d) (nd : n ≤ d) (d31 : d < 2 ^ 30) (h : Q (nI ((a + n) % d)) K) : km_X8_indexOf L K i (nI n) Q := by
  unfold km_X8_indexOf
  rw [hd, ha, nI_add]
  by_cases c : a + n < d
  · rw [md_lt c] at h
    exact ⟨fun _ => h, fun z => absurd (nI_lt c (by omega)) z⟩
  · rw [md_ge (by omega) (by omega)] at h
    refine ⟨fun z => absurd z (nI_nlt (by omega) (by omega)), fun _ => ?_⟩
    show Q (nI (a + n) - nI d) K
    rw [pk_sub (by omega)]
    exact h
theorem ke_add1 {L : c_L} {K : c_S} {i a d n : Nat} {w : Int32} {Q : Int32 → c_S → Prop} (hd : c_I K 1601 i = nI d) (ha : c_I K 1602 i = nI a) (hc : c_I K 1603 i = nI n) (ad : a < d) (nd : n < d) (d31 : d < 2 ^ 30) (hl : d ≤ c_ln L 1600 i) (hl2 : c_ln L 1600 i < 2 ^ 31) (h : Q 1 (cs_I (cs_A K 1600 i ((a + n) % d) w) 1603 i (nI (n + 1)))) : km_X8_add L K i w Q := by
  have ml : (a + n) % d < d := Nat.mod_lt _ (by omega)
  refine ⟨fun _ => ?_, fun z => absurd (by rw [hc, hd]; exact nI_lt nd (by omega)) z⟩
  rw [hc]
  refine ke_indexOf hd ha ad (by omega) d31 ⟨vp_in_nI (by omega) hl2, fun S e => ?_⟩
  rw [nI_clamp (by omega), show c_I (cs_A K 1600 i ((a + n) % d) w) 1603 i = nI n from hc, nI_1] at e
  subst e
  exact h
theorem ke_add0 {L : c_L} {K : c_S} {i d n : Nat} {w : Int32} {Q : Int32 → c_S → Prop} (hd : c_I K 1601 i = nI d) (hc : c_I K 1603 i = nI n) (nd : d ≤ n) (n31 : n < 2 ^ 31) (h : Q 0 K) : km_X8_add L K i w Q := ⟨fun z => absurd z (by rw [hc, hd]; exact nI_nlt nd n31), fun _ => h⟩
theorem ke_at1 {L : c_L} {K : c_S} {i a d n x : Nat} {Q : Int32 → c_S → Prop} (hd : c_I K 1601 i = nI d) (ha : c_I K 1602 i = nI a) (hc : c_I K 1603 i = nI n) (ad : a < d) (nd : n ≤ d) (d31 : d < 2 ^ 30) (hl : d ≤ c_ln L 1600 i) (hl2 : c_ln L 1600 i < 2 ^ 31) (hx : x < n) (h : Q (c_A K 1600 i ((a + x) % d)) K) : km_X8_at L K i (nI x) Q := by
  have ml : (a + x) % d < d := Nat.mod_lt _ (by omega)
  refine ⟨fun z => absurd z (nI_pos (by omega)), fun _ => ⟨fun _ => ke_indexOf hd ha ad (by omega) d31 ⟨vp_in_nI (by omega) hl2, ?_⟩, fun z => absurd (by rw [hc]; exact nI_lt hx (by omega)) z⟩⟩
  rw [nI_clamp (by omega)]
  exact h
theorem ke_at0 {L : c_L} {K : c_S} {i n : Nat} {x : Int32} {Q : Int32 → c_S → Prop} (hc : c_I K 1603 i = nI n) (hx : x < 0 ∨ nI n ≤ x) (h : Q 0 K) : km_X8_at L K i x Q := by
  refine ⟨fun _ => h, fun z => ⟨fun z2 => ?_, fun _ => h⟩⟩
  rw [hc] at z2
  rcases hx with hx | hx
  · exact absurd hx z
  · exact absurd hx (i_nle.mpr z2)
theorem ke_take {L : c_L} {K : c_S} {i a d n : Nat} {Q : Int32 → c_S → Prop} (hd : c_I K 1601 i = nI d) (ha : c_I K 1602 i = nI a) (hc : c_I K 1603 i = nI (n + 1)) (ad : a < d) (nd : n + 1 ≤ d) (d31 : d < 2 ^ 30) (hl : d ≤ c_ln L 1600 i) (hl2 : c_ln L 1600 i < 2 ^ 31) (h : Q (c_A K 1600 i a) (cs_I (cs_I K 1602 i (nI ((a + 1) % d))) 1603 i (nI n))) : km_X8_take L K i Q := by
  unfold km_X8_take
  refine ke_at1 (x := 0) hd ha hc ad nd d31 hl hl2 (by omega) ?_
  rw [Nat.add_zero, Nat.mod_eq_of_lt ad]
  refine ⟨fun z => absurd z (by rw [hc]; exact nI_nle (by omega) (by omega)), fun _ => ke_indexOf (n := 1) hd ha ad (by omega) d31 (fun S e => ?_)⟩
  rw [show c_I (cs_I K 1602 i (nI ((a + 1) % d))) 1603 i = nI (n + 1) from hc, nI_pred] at e
  subst e
  exact h
/-! both sides' queues -/
theorem QU_add {d a n : Nat} {row rr row' rr' : Nat → Int32} {w rc : Int32} (ad : a < d) (nd : n < d) (h : ∀ i : Nat, i < n → row ((a + i) % d) = rr i) (hr : rc = nI n) (e1 : ∀ m : Nat, row' m = if m = (a + n) % d then w else row m) (e2 : ∀ i : Nat, i < d → rr' i = if i = n then w else rr i) : QUt d (nI a) (nI (n + 1)) row' (rc + 1) rr' := by
  refine ⟨a, n + 1, ad, by omega, rfl, rfl, by rw [hr, nI_1], fun i hi => ?_⟩
  rw [e1, e2 i (by omega)]
  by_cases c : i = n
  · subst c; rw [if_pos rfl, if_pos rfl]
  · rw [if_neg c, if_neg]
    · exact h i (by omega)
    · intro z
      have h1 : a + i < d + d := by omega
      have h2 : a + n < d + d := by omega
      by_cases c1 : a + i < d
      · rw [md_lt c1] at z
        by_cases c2 : a + n < d
        · rw [md_lt c2] at z; omega
        · rw [md_ge (by omega) h2] at z; omega
      · rw [md_ge (by omega) h1] at z
        by_cases c2 : a + n < d
        · rw [md_lt c2] at z; omega
        · rw [md_ge (by omega) h2] at z; omega
theorem QU_take {d a n : Nat} {row rr rr' : Nat → Int32} {rc : Int32} (ad : a < d) (nd : n + 1 ≤ d) (h : ∀ i : Nat, i < n + 1 → row ((a + i) % d) = rr i) (hr : rc = nI (n + 1)) (e2 : ∀ i : Nat, i < n → rr' i = rr (i + 1)) : QUt d (nI ((a + 1) % d)) (nI n) row (rc - 1) rr' := by
  refine ⟨(a + 1) % d, n, Nat.mod_lt _ (by omega), by omega, rfl, rfl, by rw [hr, nI_pred], fun i hi => ?_⟩
  rw [e2 i hi, ← h (i + 1) (by omega), Nat.mod_add_mod, show a + 1 + i = a + (i + 1) by omega]
/-- words that go forward by one place -/
def r_sf (f : Nat) (R : r_S) (base m : Nat) : r_S := (R.1, fun g i => if g = f ∧ base ≤ i ∧ i < base + m then R.2 f (i + 1) else R.2 g i)
theorem sf_0 {f : Nat} {R : r_S} {base : Nat} : r_sf f R base 0 = R := by
  refine Prod.ext rfl (funext fun g => funext fun i => ?_)
  exact if_neg (fun z => by omega)
theorem sf_s {f : Nat} {R : r_S} {base m : Nat} : rs_A (r_sf f R base m) f (base + m) (r_A (r_sf f R base m) f (base + m + 1)) = r_sf f R base (m + 1) := by
  have e : r_A (r_sf f R base m) f (base + m + 1) = R.2 f (base + m + 1) := if_neg (fun z => by omega)
  rw [e]
  refine Prod.ext rfl (funext fun g => funext fun i => ?_)
  show (if g = f ∧ i = base + m then R.2 f (base + m + 1) else if g = f ∧ base ≤ i ∧ i < base + m then R.2 f (i + 1) else R.2 g i) = (if g = f ∧ base ≤ i ∧ i < base + (m + 1) then R.2 f (i + 1) else R.2 g i)
  by_cases c : g = f
  · by_cases c1 : i = base + m
    · rw [if_pos ⟨c, c1⟩, if_pos ⟨c, by omega, by omega⟩, c1]
    · rw [if_neg (fun z => c1 z.2)]
      by_cases c2 : base ≤ i ∧ i < base + m
      · rw [if_pos ⟨c, c2⟩, if_pos ⟨c, by omega, by omega⟩]
      · rw [if_neg (fun z => c2 z.2), if_neg (fun z => c2 ⟨z.2.1, by omega⟩)]
  · rw [if_neg (fun z => c z.1), if_neg (fun z => c z.1), if_neg (fun z => c z.1)]
theorem sf_n {f g i : Nat} {R : r_S} {base m : Nat} (h : g ≠ f ∨ i < base ∨ base + m ≤ i) : r_A (r_sf f R base m) g i = r_A R g i := if_neg (fun z => by omega)
theorem sf_w {f i : Nat} {R : r_S} {base m : Nat} (h : i < m) : r_A (r_sf f R base m) f (base + i) = r_A R f (base + i + 1) := if_pos ⟨rfl, by omega, by omega⟩
