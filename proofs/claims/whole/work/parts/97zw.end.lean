/-! Bytes taken in. -/
theorem WR_tx {b : Nat} {L : c_L} {Z : z_C} {K K' : c_S} {R R' : r_S} (h : WR b L Z K R) (eI : ∀ f i : Nat, f ∉ [1803, 1804, 1805] → c_I K' f i = c_I K f i) (eA : ∀ f i n : Nat, f ∉ [1802, 2204] → c_A K' f i n = c_A K f i n) (eP : ∀ f i : Nat, c_P K' f i = c_P K f i) (eJ : ∀ f i : Nat, c_J K' f i = c_J K f i) (rI : ∀ f : Nat, f ∉ [2403, 2411, 2412] → r_I R' f = r_I R f) (rA : ∀ f i : Nat, f ∉ [2401, 2402] → r_A R' f i = r_A R f i) (tx : TX K' R') : WR b L Z K' R' := by
  have xI : ∀ l : List Nat, (∀ f ∈ l, f ∉ [1803, 1804, 1805]) → m_I l K' = m_I l K := fun l hl => m_Ie fun f i hf => eI f i (hl f hf)
  have xA : ∀ l : List Nat, (∀ f ∈ l, f ∉ [1802, 2204]) → m_A l K' = m_A l K := fun l hl => m_Ae fun f i n hf => eA f i n (hl f hf)
  have xP : ∀ l : List Nat, m_P l K' = m_P l K := fun l => m_Pe fun f i _ => eP f i
  have yI : ∀ l : List Nat, (∀ f ∈ l, f ∉ [2403, 2411, 2412]) → n_I l R' = n_I l R := fun l hl => n_Ie fun f hf => rI f (hl f hf)
  have yA : ∀ l : List Nat, (∀ f ∈ l, f ∉ [2401, 2402]) → n_A l R' = n_A l R := fun l hl => n_Ae fun f i hf => rA f i (hl f hf)
  have pk : ∀ q : Nat, p_k K' q = p_k K q := fun q => funext fun n => by
    unfold p_k
    by_cases hn : n < 20
    · rw [if_pos hn, if_pos hn, eI _ _ (by simp only [List.mem_cons, List.not_mem_nil, or_false]; omega)]
    · rw [if_neg hn, if_neg hn]
  have px : ∀ q : Nat, p_x K' q = p_x K q := fun q => funext fun n => eA _ _ _ (by decide)
  have pr : ∀ q : Nat, p_r R' q = p_r R q := fun q => funext fun n => by
    unfold p_r
    by_cases hn : n < 16 ∧ n ≠ 10
    · rw [if_pos hn, if_pos hn, rA _ _ (by simp only [List.mem_cons, List.not_mem_nil, or_false]; omega)]
    · rw [if_neg hn, if_neg hn]
  have py : ∀ q : Nat, p_y R' q = p_y R q := fun q => funext fun n => by
    unfold p_y
    rw [rA _ _ (by decide)]
  obtain ⟨⟨⟨cq, ct, cc, cm⟩, th, ch, inn, me, jr, gl, -⟩, dp, op, ti, pd, jb⟩ := h
  refine ⟨⟨⟨?_, ?_, ?_, ?_⟩, ?_, ?_, ?_, ?_, ?_, ?_, tx⟩, ?_, ?_, ?_, ?_, ?_⟩
  · unfold CQ at cq ⊢; rw [xI _ (by decide), xA _ (by decide), yA _ (by decide)]; exact cq
  · unfold CT at ct ⊢; rw [xI _ (by decide), xA _ (by decide), yA _ (by decide)]; exact ct
  · unfold CC at cc ⊢; rw [xI _ (by decide), xA _ (by decide), xP, yI _ (by decide), yA _ (by decide)]; exact cc
  · refine ⟨?_, ?_⟩
    · have cm := cm.1
      unfold CM at cm ⊢; rw [xI _ (by decide), xA _ (by decide), yA _ (by decide)]; exact cm
    · have nm := cm.2
      unfold NM at nm ⊢; rw [show m_J [1401, 2000] K' = m_J [1401, 2000] K from funext fun f => funext fun i => by unfold m_J; rw [eJ], yA _ (by decide)]; exact nm
  · unfold TH at th ⊢; rw [xI _ (by decide), xA _ (by decide), yA _ (by decide)]; exact th
  · unfold CH at ch ⊢; rw [xI _ (by decide), xA _ (by decide), yA _ (by decide), yA _ (by decide)]; exact ch
  · unfold IN at inn ⊢; rw [xI _ (by decide), xA _ (by decide), yA _ (by decide)]; exact inn
  · unfold ME at me ⊢; rw [xA _ (by decide), yA _ (by decide)]; exact me
  · unfold JR at jr ⊢; rw [xI _ (by decide), xA _ (by decide), yI _ (by decide), yA _ (by decide)]; exact jr
  · unfold GL at gl ⊢; rw [xI _ (by decide), yI _ (by decide)]; exact gl
  · unfold DP at dp ⊢
    simp only [pk, px, pr, py]; exact dp
  · unfold OP at op ⊢
    rw [show p_k K' = p_k K from funext pk, show p_r R' = p_r R from funext pr, rI _ (by decide), show (fun p => c_I K' 1015 p) = (fun p => c_I K 1015 p) from funext fun p => eI _ _ (by decide)]; exact op
  · unfold TI at ti ⊢
    simp only [pr, rI 2463 (by decide), rA 2439 _ (by decide), rA 2448 _ (by decide), rA 2450 _ (by decide)]; exact ti
  · unfold PD at pd ⊢
    rw [xI _ (by decide), yA _ (by decide), yA _ (by decide)]; exact pd
  · unfold JB at jb ⊢; rw [yI _ (by decide)]; exact jb
theorem c_Gn {K : c_S} {f i f' i' j : Nat} {g : Nat → Int32} (h : f' ≠ f) : c_A (cs_G K f i g) f' i' j = c_A K f' i' j := by
  show (if f' = f ∧ i' = i then g else c_A K f' i') j = _
  rw [if_neg (fun z => h z.1)]
def r_cp (R : r_S) (n : Nat) : Nat → r_S
  | 0 => R
  | k + 1 => rs_A (r_cp R n k) 2402 (n + k) (r_A R 2401 k)
theorem cp_I {R : r_S} {n f : Nat} : ∀ k : Nat, r_I (r_cp R n k) f = r_I R f
  | 0 => rfl
  | k + 1 => cp_I k
theorem cp_A {R : r_S} {n f i : Nat} : ∀ k : Nat, r_A (r_cp R n k) f i = if f = 2402 ∧ n ≤ i ∧ i < n + k then r_A R 2401 (i - n) else r_A R f i
  | 0 => by rw [if_neg (fun z => by omega)]; rfl
  | k + 1 => by
    show r_A (rs_A (r_cp R n k) 2402 (n + k) (r_A R 2401 k)) f i = _
    by_cases e : f = 2402 ∧ i = n + k
    · obtain ⟨rfl, rfl⟩ := e
      rw [r_As, if_pos ⟨rfl, by omega, by omega⟩, Nat.add_sub_cancel_left]
    · rw [r_An (Classical.byContradiction fun z => e ⟨Classical.byContradiction fun y => z (Or.inl y), Classical.byContradiction fun y => z (Or.inr y)⟩), cp_A k]
      by_cases c : f = 2402 ∧ n ≤ i ∧ i < n + k
      · rw [if_pos c, if_pos ⟨c.1, c.2.1, by omega⟩]
      · rw [if_neg c, if_neg (fun z => c ⟨z.1, z.2.1, by
          have : i ≠ n + k := fun y => e ⟨z.1, y⟩
          omega⟩)]
def r_zr (R : r_S) : Nat → r_S
  | 0 => R
  | k + 1 => rs_A (r_zr R k) 2401 k 0
theorem zr_I {R : r_S} {f : Nat} : ∀ k : Nat, r_I (r_zr R k) f = r_I R f
  | 0 => rfl
  | k + 1 => zr_I k
theorem zr_A {R : r_S} {f i : Nat} : ∀ k : Nat, r_A (r_zr R k) f i = if f = 2401 ∧ i < k then 0 else r_A R f i
  | 0 => by rw [if_neg (fun z => by omega)]; rfl
  | k + 1 => by
    show r_A (rs_A (r_zr R k) 2401 k 0) f i = _
    by_cases e : f = 2401 ∧ i = k
    · obtain ⟨rfl, rfl⟩ := e
      rw [r_As, if_pos ⟨rfl, by omega⟩]
    · rw [r_An (Classical.byContradiction fun z => e ⟨Classical.byContradiction fun y => z (Or.inl y), Classical.byContradiction fun y => z (Or.inr y)⟩), zr_A k]
      by_cases c : f = 2401 ∧ i < k
      · rw [if_pos c, if_pos ⟨c.1, by omega⟩]
      · rw [if_neg c, if_neg (fun z => c ⟨z.1, by
          have : i ≠ k := fun y => e ⟨z.1, y⟩
          omega⟩)]
def r_end (R : r_S) (n x : Nat) : r_S := r_zr (rs_I (r_cp R n x) 2403 (nI (n + x))) 20
theorem re_end {R : r_S} {n x : Nat} {Q : Option Value → r_S → Prop} (hn : r_I R 2403 = nI n) (hx : x ≤ 20) (hnx : n + x ≤ 4000) (hf : ∀ i : Nat, fits .byte (.int (r_A R 2401 i)) = true) (h : Q (some (.int (nI (n + x)))) (r_end (rs_I R 2400 0) n x)) : rm_X12_end_ R (nI x) Q := by
  have z : ∀ d k : Nat, k + d = 20 → rl_X12_end__71 (d + 1) (r_zr (rs_I (r_cp (rs_I R 2400 0) n x) 2403 (nI (n + x))) k) (nI k) Q := by
    intro d
    induction d with
    | zero =>
      intro k hk
      obtain rfl : k = 20 := by omega
      refine bt_ (by decide) ?_
      rw [zr_I]
      exact h
    | succ d ih =>
      intro k hk
      have nx := ih (k + 1) (by omega)
      rw [← nI_1] at nx
      refine bf_ (nI_ge (a := k) (b := 20) (by omega) (by decide)) ⟨ri_v (n := 20) rfl (by omega) (by decide), ?_⟩
      rw [nI_clamp (by omega)]
      exact nx
  have lp : ∀ d k : Nat, k + d = x → rl_X12_end__31 (d + 1) (r_cp (rs_I R 2400 0) n k) (nI x) (nI k) Q := by
    intro d
    induction d with
    | zero =>
      intro k hk
      obtain rfl : k = x := by omega
      refine bt_ (nI_le (Nat.le_refl _) (by omega)) ⟨21, ?_⟩
      rw [cp_I, show r_I (rs_I R 2400 0) 2403 = nI n from hn, nI_add]
      exact z 20 0 (by decide)
    | succ d ih =>
      intro k hk
      have nx := ih (k + 1) (by omega)
      rw [← nI_1] at nx
      refine bf_ (nI_ge (by omega) (by omega)) ⟨ri_v (n := 20) rfl (by omega) (by decide), ?_⟩
      rw [cp_I, show r_I (rs_I R 2400 0) 2403 = nI n from hn, nI_add, nI_clamp (n := n + k) (by omega), nI_clamp (n := k) (by omega), cp_A, if_neg (fun z => absurd z.1 (by decide)), show r_A (rs_I R 2400 0) 2401 k = r_A R 2401 k from rfl, nar_b (hf k)]
      exact ⟨ri_v (n := 4000) rfl (by omega) (by decide), nx⟩
  refine bf_ (nI_pos (by omega)) (bf_ (nI_nlt (a := 20) hx (by decide)) (bt_ ?_ ⟨x + 1, lp x 0 (by omega)⟩))
  rw [show r_I (rs_I R 2400 0) 2403 = nI n from hn, nI_add]
  exact nI_le (b := 4000) hnx (by decide)
theorem re_end0 {R : r_S} {n : Nat} {x : Int32} {Q : Option Value → r_S → Prop} (hn : r_I R 2403 = nI n) (hx : x < 0 ∨ 20 < x ∨ ∃ k : Nat, x = nI k ∧ k ≤ 20 ∧ ¬ n + k ≤ 4000) (n4 : n ≤ 4000) (h : Q (some (.int (-1))) (rs_I R 2400 0)) : rm_X12_end_ R x Q := by
  by_cases c : x < 0
  · exact bt_ c h
  · by_cases c2 : (20 : Int32) < x
    · exact bf_ c (bt_ c2 h)
    · obtain ⟨k, rfl, k20, hk⟩ := hx.elim (fun z => absurd z c) (fun z => z.elim (fun z => absurd z c2) id)
      refine bf_ c (bf_ c2 (bf_ ?_ h))
      rw [show r_I (rs_I R 2400 0) 2403 = nI n from hn, nI_add]
      exact nI_ge (a := 4000) (by omega) (by omega)
def k_end (K : c_S) (n x : Nat) : c_S := cs_G (cs_I (cs_G K 1802 0 (va_cpy (c_A K 2204 0) (c_A K 1802 0) 0 n x)) 1803 0 (nI (n + x))) 2204 0 (fun j => if j < 20 then 0 else c_A K 2204 0 j)
theorem WR_end {b n x : Nat} {L : c_L} {Z : z_C} {K : c_S} {R : r_S} (w : WR b L Z K R) (hx : x ≤ 20) (hnx : n + x ≤ 4000) : WR b L Z (k_end K n x) (r_end R n x) := by
  have tx := w.1.2.2.2.2.2.2.2
  obtain ⟨-, t2, t3, t4, t5, t6, t7⟩ := tx
  have t4 : ∀ i : Nat, c_A K 1802 0 i = r_A R 2402 i := t4
  have t5 : ∀ i : Nat, c_A K 2204 0 i = r_A R 2401 i := t5
  have t6 : ∀ i : Nat, fits .byte (.int (r_A R 2402 i)) = true := t6
  have t7 : ∀ i : Nat, fits .byte (.int (r_A R 2401 i)) = true := t7
  have eA : ∀ f i : Nat, r_A (r_end R n x) f i = if f = 2401 ∧ i < 20 then 0 else if f = 2402 ∧ n ≤ i ∧ i < n + x then r_A R 2401 (i - n) else r_A R f i := fun f i => by
    unfold r_end
    rw [zr_A]
    by_cases c : f = 2401 ∧ i < 20
    · rw [if_pos c, if_pos c]
    · rw [if_neg c, if_neg c]
      exact cp_A x
  have eI : ∀ f : Nat, r_I (r_end R n x) f = if f = 2403 then nI (n + x) else r_I R f := fun f => by
    unfold r_end
    rw [zr_I]
    show (if f = 2403 then nI (n + x) else r_I (r_cp R n x) f) = _
    rw [cp_I]
  refine WR_tx w (fun f i hf => ?_) (fun f i m hf => ?_) (fun _ _ => rfl) (fun _ _ => rfl) (fun f hf => ?_) (fun f i hf => ?_) ⟨⟨n + x, hnx, ?_, ?_⟩, ?_, ?_, fun i => ?_, fun i => ?_, fun i => ?_, fun i => ?_⟩
  · exact if_neg (fun z => hf (by rw [z.1]; decide))
  · simp only [List.mem_cons, List.not_mem_nil, or_false] at hf
    unfold k_end
    rw [c_Gn (by omega)]
    exact c_Gn (by omega)
  · rw [eI, if_neg (fun z => hf (by rw [z]; decide))]
  · simp only [List.mem_cons, List.not_mem_nil, or_false] at hf
    rw [eA, if_neg (fun z => by omega), if_neg (fun z => by omega)]
  · rfl
  · exact (eI 2403).trans (if_pos rfl)
  · show c_I K 1804 0 = r_I (r_end R n x) 2411
    rw [eI]; exact t2
  · show c_I K 1805 0 = r_I (r_end R n x) 2412
    rw [eI]; exact t3
  · show c_A (k_end K n x) 1802 0 i = r_A (r_end R n x) 2402 i
    rw [eA, if_neg (fun z => absurd z.1 (by decide))]
    unfold k_end
    rw [c_Gn (by decide)]
    show va_cpy (c_A K 2204 0) (c_A K 1802 0) 0 n x i = _
    unfold va_cpy
    by_cases c : n ≤ i ∧ i < n + x
    · rw [if_pos c, if_pos ⟨rfl, c⟩, t5, Nat.zero_add]
    · rw [if_neg c, if_neg (fun z => c z.2), t4]
  · show c_A (k_end K n x) 2204 0 i = r_A (r_end R n x) 2401 i
    rw [eA]
    show (if i < 20 then 0 else c_A K 2204 0 i) = _
    by_cases c : i < 20
    · rw [if_pos c, if_pos ⟨rfl, c⟩]
    · rw [if_neg c, if_neg (fun z => c z.2), if_neg (fun z => absurd z.1 (by decide)), t5]
  · show fits .byte (.int (r_A (r_end R n x) 2402 i)) = true
    rw [eA, if_neg (fun z => absurd z.1 (by decide))]
    split
    · exact t7 _
    · exact t6 i
  · show fits .byte (.int (r_A (r_end R n x) 2401 i)) = true
    rw [eA]
    split
    · decide
    · rw [if_neg (fun z => absurd z.1 (by decide))]; exact t7 i
