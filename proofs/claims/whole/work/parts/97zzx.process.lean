/-! A process made. -/
theorem ag_O {S S1 : q_S} {sa : Nat → Nat → Prop} {c b : Nat} (h : AGR S S1 sa) (hb : q_K S b = 0) : AGR S (qs_O S1 c b) sa := fun a ha => by
  have n : a ≠ b := fun z => ha (z ▸ hb)
  obtain ⟨h1, h2, h3, h4, h5⟩ := h a ha
  exact ⟨(if_neg n).trans h1, h2, fun f => ⟨(if_neg n).trans (h3 f).1, (if_neg n).trans (h3 f).2.1, (if_neg n).trans (h3 f).2.2⟩, h4, h5⟩
theorem ag_R {S S1 : q_S} {sa : Nat → Nat → Prop} {k n b : Nat} (h : AGR S S1 sa) (hb : q_K S b = 0) : AGR S (qs_R S1 k n b) sa := fun a ha => by
  have n : a ≠ b := fun z => ha (z ▸ hb)
  obtain ⟨h1, h2, h3, h4, h5⟩ := h a ha
  exact ⟨(if_neg n).trans h1, (if_neg n).trans h2, h3, fun j => ⟨(if_neg n).trans (h4 j).1, (if_neg n).trans (h4 j).2⟩, fun j hj => (if_neg n).trans (h5 j hj)⟩
theorem ag_P {S S1 : q_S} {sa : Nat → Nat → Prop} {f b : Nat} {v : Option Nat} (h : AGR S S1 sa) (hb : q_K S b = 0) : AGR S (qs_P S1 f b v) sa := fun a ha => by
  have n : a ≠ b := fun z => ha (z ▸ hb)
  obtain ⟨h1, h2, h3, h4, h5⟩ := h a ha
  exact ⟨h1, h2, fun f' => ⟨(h3 f').1, (h3 f').2.1, (if_neg (fun z => n z.2)).trans (h3 f').2.2⟩, h4, h5⟩
theorem ag_C {S S1 : q_S} {sa : Nat → Nat → Prop} {x j : Nat} {v : Option Nat} (h : AGR S S1 sa) (hx : sa x j) : AGR S (qs_C S1 x j v) sa := fun a ha => by
  obtain ⟨h1, h2, h3, h4, h5⟩ := h a ha
  exact ⟨h1, h2, h3, h4, fun j' hj' => (if_neg (fun z => hj' (by rw [z.1, z.2]; exact hx))).trans (h5 j' hj')⟩
theorem ag_0 {S : q_S} {sa : Nat → Nat → Prop} : AGR S S sa := fun a _ => ⟨rfl, rfl, fun _ => ⟨rfl, rfl, rfl⟩, fun _ => ⟨rfl, rfl⟩, fun _ _ => rfl⟩
theorem ag_f {S S1 : q_S} {sa : Nat → Nat → Prop} {b : Nat} (h : AGR S S1 sa) (hb : q_K S1 b = 0) : q_K S b = 0 := by
  by_cases z : q_K S b = 0
  · exact z
  · rw [← (h b z).1]
    exact hb
theorem ag_k {S S1 : q_S} {sa : Nat → Nat → Prop} {a k : Nat} (h : AGR S S1 sa) (hk : q_K S a = k + 1) : q_K S1 a = k + 1 := (h a (by rw [hk]; omega)).1.trans hk
/-- references lead nowhere that is made -/
def RI (K : c_S) : Prop := ∀ f i x : Nat, c_dy f = true → c_P K f i = some x → 1000000 ≤ x
theorem tg_xt {L : c_L} {no na : Nat → Option (Nat × Nat)} {bo ba nl : Nat → Nat → Nat} {f x : Nat} (h1 : ∀ c i : Nat, nO no bo c i → i < 1000000) (h2 : ∀ c i : Nat, nO na ba c i → i < 1000000) (hx : 1000000 ≤ x) : c_tg (c_xt L no na bo ba nl) f x = c_tg L f x := by
  have o : ∀ c : Nat, c_ob (c_xt L no na bo ba nl) c x = c_ob L c x := fun c => xt_obn (fun z => by have := h1 c x z; omega)
  have a : ∀ c : Nat, c_ar (c_xt L no na bo ba nl) c x = c_ar L c x := fun c => xt_arn (fun z => by have := h2 c x z; omega)
  unfold c_tg
  split
  · exact o 6
  · exact o 5
  · exact o 7
  · exact a 1411
  · exact o 5
/-- the layout grows -/
def LX (L L' : c_L) : Prop := (∀ c i : Nat, c_mk L c i → c_mk L' c i ∧ c_ob L' c i = c_ob L c i) ∧ ∀ f i : Nat, f ∈ c_af → c_mk L (f / 200) i → c_ln L f i ≤ c_ln L' f i
theorem LX_0 {L : c_L} : LX L L := ⟨fun _ _ m => ⟨m, rfl⟩, fun _ _ _ _ => Nat.le_refl _⟩
theorem LX_t {L L' L2 : c_L} (h : LX L L') (h2 : LX L' L2) : LX L L2 := ⟨fun c i m => ⟨(h2.1 c i (h.1 c i m).1).1, (h2.1 c i (h.1 c i m).1).2.trans (h.1 c i m).2⟩, fun f i hf m => Nat.le_trans (h.2 f i hf m) (h2.2 f i hf (h.1 _ i m).1)⟩
theorem LX_xt {L : c_L} {S S' : q_S} {no na : Nat → Option (Nat × Nat)} {bo ba nl : Nat → Nat → Nat} (g : c_G L S) (nh : NWH L S S' no na bo ba nl) (hn : ∀ c i : Nat, nO no bo c i → ¬ c_mk L c i) : LX L (c_xt L no na bo ba nl) := by
  obtain ⟨h0, h1, h2, h3, _⟩ := nh
  refine ⟨fun c i m => ?_, fun f i hf m => ?_⟩
  · have n : ¬ nO no bo c i := fun z => hn c i z m
    have : no (c_ob L c i) = none := by
      cases e : no (c_ob L c i) with
      | none => rfl
      | some q =>
        have := (h1 _ _ e).2.1
        rw [g.2.1 c i m] at this
        omega
    exact ⟨(xt_mko n this).mpr m, xt_obn n⟩
  · rw [xt_lnn (fun z => hn _ _ ((h3 f i hf).mp z) m)]
    exact Nat.le_refl _
theorem p_Ps {S : q_S} {f a : Nat} {v : Option Nat} : q_P (qs_P S f a v) f a = v := if_pos ⟨rfl, rfl⟩
theorem p_Pn {S : q_S} {f a f' a' : Nat} {v : Option Nat} (h : ¬ (f' = f ∧ a' = a)) : q_P (qs_P S f a v) f' a' = q_P S f' a' := if_neg h
theorem k_xtI {K : c_S} {no na : Nat → Option (Nat × Nat)} {bo ba : Nat → Nat → Nat} {f i : Nat} (h : ¬ nO no bo (f / 200) i) : c_I (k_xt K no na bo ba) f i = c_I K f i := if_neg h
theorem k_xtJ {K : c_S} {no na : Nat → Option (Nat × Nat)} {bo ba : Nat → Nat → Nat} {f i : Nat} (h : ¬ nO no bo (f / 200) i) : c_J (k_xt K no na bo ba) f i = c_J K f i := if_neg h
theorem k_xtP {K : c_S} {no na : Nat → Option (Nat × Nat)} {bo ba : Nat → Nat → Nat} {f i : Nat} (h : ¬ nO no bo (f / 200) i) : c_P (k_xt K no na bo ba) f i = c_P K f i := if_neg h
theorem k_xtA {K : c_S} {no na : Nat → Option (Nat × Nat)} {bo ba : Nat → Nat → Nat} {f i j : Nat} (h : ¬ nO na ba f i) : c_A (k_xt K no na bo ba) f i j = c_A K f i j := congrFun (if_neg h) j
/-- what changes when a process is made -/
def NQ (K K' : c_S) (p n : Nat) (name : Int64) : Prop :=
  (∀ f i : Nat, ¬ (f / 200 = 7 ∧ i = 16 * p + n) → ¬ (f = 1004 ∧ i = p) → c_I K' f i = c_I K f i) ∧ (∀ f i : Nat, ¬ (f / 200 = 7 ∧ i = 16 * p + n) → c_J K' f i = c_J K f i) ∧ (∀ f i j : Nat, ¬ (f / 200 = 7 ∧ i = 16 * p + n) → c_A K' f i j = c_A K f i j) ∧ (∀ f i : Nat, ¬ (f / 200 = 7 ∧ i = 16 * p + n) → c_P K' f i = c_P K f i) ∧
  c_I K' 1004 p = nI (n + 1) ∧ c_J K' 1401 (16 * p + n) = name ∧ c_I K' 1400 (16 * p + n) = nI n ∧ (c_I K' 1404 (16 * p + n) = 0 ∧ c_I K' 1405 (16 * p + n) = 0 ∧ c_I K' 1406 (16 * p + n) = 0 ∧ c_I K' 1407 (16 * p + n) = 0 ∧ c_I K' 1408 (16 * p + n) = 0 ∧ c_I K' 1409 (16 * p + n) = 0 ∧ c_I K' 1410 (16 * p + n) = 0 ∧ c_I K' 1414 (16 * p + n) = 0 ∧ c_I K' 1415 (16 * p + n) = 0 ∧ c_I K' 1416 (16 * p + n) = 0) ∧ (c_I K' 1412 (16 * p + n) = -1 ∧ c_I K' 1413 (16 * p + n) = -1 ∧ c_I K' 1418 (16 * p + n) = -1) ∧ ∀ j : Nat, j < 32 → c_A K' 1411 (16 * p + n) j = 0
theorem c_addP0 {e : EV} {L : c_L} {T : q_S} {K K1 : c_S} {p n bc bs u v : Nat} {name : Int64} {Q : Option Value → q_S → Prop} (wd : WD e L T) (m5 : c_mk L 5 p) (m7 : c_mk L 7 (16 * p + n)) (h4 : c_I K1 1004 p = nI n)
  (e1 : ∀ f i : Nat, ¬ (f / 200 = 7 ∧ i = 16 * p + n) → c_I K1 f i = c_I K f i) (e2 : ∀ f i : Nat, ¬ (f / 200 = 7 ∧ i = 16 * p + n) → c_J K1 f i = c_J K f i) (e3 : ∀ f i j : Nat, ¬ (f / 200 = 7 ∧ i = 16 * p + n) → c_A K1 f i j = c_A K f i j) (e4 : ∀ f i : Nat, ¬ (f / 200 = 7 ∧ i = 16 * p + n) → c_P K1 f i = c_P K f i)
  (hQ : ∀ K' : c_S, NQ K K' p n name → Q (some (va_rf (some (c_ob L 7 (16 * p + n))))) (c_E L K' T)) : wb_X5_addProcess_35 bc bs u v (c_E L K1 T) (c_ob L 5 p) name (nI n) (some (c_ob L 7 (16 * p + n))) Q := by
  have g := WD_g wd
  refine ⟨_, rfl, c_gk g m7 8 rfl, ?_⟩
  refine um_X7_reset g K1 (16 * p + n) (nI n) name m7 (Q1 := fun K2 => ∀ K3 : c_S, K3 = cs_I K2 1004 p (c_I K2 1004 p + 1) → NQ K K3 p n name) ?_ (fun K2 h2 => ⟨rfl, c_gk g m5 6 rfl, ?_⟩)
  · have ma := c_gA g 1411 rfl (by decide) m7
    have l32 : c_ln L 1411 (16 * p + n) = 32 := c_gl g 1411 32 (by decide) ma
    intro S2 z2 S3 z3
    subst z3 z2
    refine ⟨⟨rfl, by rw [l32]; decide⟩, nt_ rfl ?_⟩
    intro S2 z2 K3 z3
    subst z3 z2
    have kI : ∀ {f i : Nat}, ¬ (f / 200 = 7 ∧ i = 16 * p + n) → ∀ (K : c_S) (f0 : Nat) (v : Int32), f0 / 200 = 7 → c_I (cs_I K f0 (16 * p + n) v) f i = c_I K f i := fun h K f0 v h0 => if_neg (fun z => h ⟨by rw [z.1]; exact h0, z.2⟩)
    have kF : ∀ (K : c_S) (f i : Nat), c_I (c_fi L K 1411 (16 * p + n) 0) f i = c_I K f i := fun K f i => rfl
    have kJ : ∀ (K : c_S) (f0 f i : Nat) (v : Int64), c_I (cs_J K f0 (16 * p + n) v) f i = c_I K f i := fun K f0 f i v => rfl
    refine ⟨fun f i h h' => ?_, fun f i h => ?_, fun f i j h => ?_, e4, ?_, if_pos ⟨rfl, rfl⟩, ?_, ?_, ?_, fun j hj => ?_⟩
    · refine Eq.trans ?_ (e1 f i h)
      rw [c_II, if_neg h']
      repeat rw [kI h _ _ _ (by decide)]
      rw [kF]
      repeat rw [kI h _ _ _ (by decide)]
      rw [kJ, kI h _ _ _ (by decide)]
    · refine Eq.trans ?_ (e2 f i h)
      exact if_neg (fun z => h ⟨by rw [z.1], z.2⟩)
    · refine Eq.trans ?_ (e3 f i j h)
      exact (c_AGr).trans (if_neg (fun z => h ⟨by rw [z.1], z.2⟩))
    · refine (if_pos ⟨rfl, rfl⟩).trans ?_
      rw [← nI_1, ← h4]
      have h : ¬ (1004 / 200 = 7 ∧ p = 16 * p + n) := fun z => absurd z.1 (by decide)
      repeat rw [kI h _ _ _ (by decide)]
      rw [kF]
      repeat rw [kI h _ _ _ (by decide)]
      rw [kJ, kI h _ _ _ (by decide)]
    · simp [c_II, c_IJ, c_IG, c_IA, c_IP, c_fi]
    · simp [c_II, c_IJ, c_IG, c_IA, c_IP, c_fi]
    · simp [c_II, c_IJ, c_IG, c_IA, c_IP, c_fi]
    · exact (c_AGr).trans ((if_pos ⟨rfl, rfl⟩).trans (if_pos (by rw [l32]; exact hj)))
  · rw [c_eI m5 rfl, c_eIs (c_gw g) m5 rfl]
    exact hQ _ (h2 _ rfl)

theorem g_inj {L : c_L} {c i i2 : Nat} (h1 : c_mk L c i) (h2 : c_mk L c i2) (e : c_ob L c i = c_ob L c i2) : i = i2 := by
  have h1 : c_ow L (c_ob L c i) = some (c, i) := h1
  rw [e, show c_ow L (c_ob L c i2) = some (c, i2) from h2] at h1
  injection h1 with h1
  injection h1 with _ h1
  exact h1.symm
theorem g_injA {L : c_L} {c i c2 i2 : Nat} (h1 : c_ma L c i) (h2 : c_ma L c2 i2) (e : c_ar L c i = c_ar L c2 i2) : c = c2 ∧ i = i2 := by
  have h1 : c_aw L (c_ar L c i) = some (c, i) := h1
  rw [e, show c_aw L (c_ar L c2 i2) = some (c2, i2) from h2] at h1
  injection h1 with h1
  injection h1 with h0 h1
  exact ⟨h0.symm, h1.symm⟩
theorem c_addProcess {e : EV} {L : c_L} {T : q_S} {K : c_S} {p n bc bs : Nat} {name : Int64} {Q : Option Value → q_S → Prop} (wd : WD e L T) (ri : RI K) (m5 : c_mk L 5 p) (hp : p < 16) (hn : n < 16) (h4 : c_I K 1004 p = nI n) (hbc : 2 ≤ bc) (hbs : 52 ≤ bs)
  (hQ : ∀ (L' : c_L) (T' : q_S) (K' : c_S), WD e L' T' → LX L L' → c_mk L' 7 (16 * p + n) → NQ K K' p n name → Q (some (va_rf (some (c_ob L' 7 (16 * p + n))))) (c_E L' K' T')) : wm_X5_addProcess bc bs (c_E L K T) (c_ob L 5 p) name Q := by
  have g := WD_g wd
  have ma := c_gA g 1003 rfl (by decide) m5
  have gE := c_GE (K := K) g
  refine ⟨c_gk g m5 6 rfl, _, c_ga g 1003 rfl rfl (by decide) m5, c_gr g ma 26 rfl, ?_⟩
  rw [c_gN g ma 16 (by decide), c_eI m5 rfl, h4, nI_clamp (by omega), c_g7 g m5]
  refine ⟨vp_in_nI hn (by decide), ?_⟩
  by_cases m7 : c_mk L 7 (16 * p + n)
  · rw [c_m7 hn m7]
    exact nf_ (by intro z; cases z) (c_addP0 wd m5 m7 h4 (fun _ _ _ => rfl) (fun _ _ _ => rfl) (fun _ _ _ _ => rfl) (fun _ _ _ => rfl) (fun K' h => hQ L T K' wd LX_0 m7 h))
  · have e7 : c_e7 L p n = none := if_neg (fun z => m7 z.2)
    rw [e7]
    refine nt_ rfl ⟨⟨by omega, by omega⟩, fun b hb => ⟨1, 32, ⟨by omega, by omega⟩, ⟨by omega, by omega⟩, fun b1 hb1 => ?_⟩⟩
    obtain ⟨wd1, cs1⟩ := WD_E (K := K) wd
    have aw : c_ar L 1003 p ≠ b := fun z => by
      have := (gE.2.2.1 1003 p ma).1
      rw [z, hb] at this
      exact absurd this (by decide)
    have kob : ∀ c i : Nat, c_mk L c i → c_ob L c i ≠ b := fun c i m z => by
      have := gE.2.1 c i m
      rw [z, hb] at this
      omega
    have g7C : ∀ p' j : Nat, c_mk L 5 p' → q_C (c_E L K T) (c_ar L 1003 p') j = (c_e7 L p' j).map (c_ob L 7) ∧ q_C (c_E L K T) (c_ar L 1005 p') j = (c_e10 L p' j).map (c_ob L 10) := fun p' j m => gE.2.2.2.2.2.2.2.2.1 p' j m
    have g5C : ∀ j : Nat, q_C (c_E L K T) (c_ar L 1200 0) j = (c_e5 L j).map (c_ob L 5) ∧ q_C (c_E L K T) (c_ar L 1202 0) j = (c_e1 L j).map (c_ob L 1) := fun j => gE.2.2.2.2.2.2.2.2.2.1 j
    have maA : ∀ f : Nat, f ∈ c_af → ∀ i : Nat, c_mk L (f / 200) i → c_ma L f i := fun f hf i m => (gE.2.2.2.2.1 f hf i m).1
    have krA : ∀ f i : Nat, c_ma L f i → q_K (c_E L K T) (c_ar L f i) ≠ 0 := fun f i m => by rw [(gE.2.2.1 f i m).1]; exact c_kd0 f
    have p03 : q_P (c_E L K T) 1003 (c_ob L 5 p) = some (c_ar L 1003 p) := c_ga g 1003 rfl rfl (by decide) m5
    have k6 : q_K (c_E L K T) (c_ob L 5 p) = 6 := c_gk g m5 6 rfl
    have k26 : q_K (c_E L K T) (c_ar L 1003 p) = 26 := c_gr g ma 26 rfl
    have n16 : q_N (c_E L K T) (c_ar L 1003 p) = 16 := c_gN g ma 16 (by decide)
    have m6 := g_m6 g
    have li := wd.2.1.2
    generalize hS : c_E L K T = S at *
    have bb : b1 ≠ b := fun z => by
      rw [z] at hb1
      exact absurd hb1 (by show ¬ (if b = b then 8 else _) = 0; rw [if_pos rfl]; decide)
    have a1 : AGR S (qs_O S 7 b) (fun a j => a = c_ar L 1003 p ∧ j = n) := ag_O ag_0 hb
    have f1 := ag_f a1 hb1
    have a2 : AGR S (qs_P (qs_R (qs_O S 7 b) 21 32 b1) 1411 b (some b1)) (fun a j => a = c_ar L 1003 p ∧ j = n) := ag_P (ag_R a1 f1) hb
    have a3 : AGR S (qs_C (qs_P (qs_R (qs_O S 7 b) 21 32 b1) 1411 b (some b1)) (c_ar L 1003 p) n (some b)) (fun a j => a = c_ar L 1003 p ∧ j = n) := ag_C a2 ⟨rfl, rfl⟩
    have kS : ∀ a : Nat, q_K (qs_C (qs_P (qs_R (qs_O S 7 b) 21 32 b1) 1411 b (some b1)) (c_ar L 1003 p) n (some b)) a = if a = b1 then 21 else if a = b then 8 else q_K S a := fun a => rfl
    refine ⟨(if_neg (Ne.symm bb)).trans (if_pos rfl), rfl, ag_k a2 k6, _, (a2 _ (by rw [k6]; decide)).2.2.1 1003 |>.2.2.trans p03, ag_k a2 k26, (if_neg (Ne.symm bb)).trans (if_pos rfl), ?_, ?_⟩
    · rw [(a2 _ (by rw [k26]; decide)).2.1, n16]
      exact vp_in_nI hn (by decide)
    · have no : lnd [(b, (7, 16 * p + n))] := ⟨by simp, by simp⟩
      have na : lnd [(b1, (1411, 16 * p + n))] := ⟨by simp, by simp⟩
      have ko : ∀ c i : Nat, lk [(b, (7, 16 * p + n))] c i ↔ c = 7 ∧ i = 16 * p + n := fun c i => by simp [lk]
      have ka : ∀ c i : Nat, lk [(b1, (1411, 16 * p + n))] c i ↔ c = 1411 ∧ i = 16 * p + n := fun c i => by simp [lk]
      have nh : NWH L S (qs_C (qs_P (qs_R (qs_O S 7 b) 21 32 b1) 1411 b (some b1)) (c_ar L 1003 p) n (some b)) (lno [(b, (7, 16 * p + n))]) (lno [(b1, (1411, 16 * p + n))]) (lbo [(b, (7, 16 * p + n))]) (lbo [(b1, (1411, 16 * p + n))]) (fun _ _ => 32) := by
        refine NWl gE no na (fun a ha => ?_) (fun x hx => ?_) (fun x hx => ?_) (fun f i hf => ?_) (fun q hq i => ?_) (fun f hf i a b' h h' => ?_) (fun q hq i h => ?_) (fun i => ?_) (fun i => ?_) (fun c i h => ?_) (fun p' j m h => ?_) (fun p' h => ?_) (fun j => ?_)
        · rw [kS, ha]
          split
          · decide
          · split <;> decide
        · simp only [List.mem_singleton] at hx
          subst hx
          exact ⟨hb, by rw [kS, if_neg (Ne.symm bb), if_pos rfl], fun f => ⟨if_pos rfl, if_pos rfl⟩, fun f hd => (if_neg (fun y => by rw [y.1] at hd; exact absurd hd (by decide))).trans (if_pos rfl)⟩
        · simp only [List.mem_singleton] at hx
          subst hx
          exact ⟨f1, by rw [kS, if_pos rfl]; rfl, if_pos rfl, fun j => if_pos rfl⟩
        · rw [ka, ko]
          have : ∀ f ∈ c_af, f / 200 = 7 → f = 1411 := by decide
          exact ⟨fun z => ⟨by rw [z.1], z.2⟩, fun z => ⟨this f hf z.1, z.2⟩⟩
        · rw [ko, ko]
          have : ∀ q ∈ c_pf, q.1 / 200 ≠ 7 ∧ q.2 ≠ 7 := by decide
          exact ⟨⟨fun z => absurd z.1 (this q hq).1, fun z => absurd z.1 (this q hq).2⟩, fun a b' h => absurd ((ko _ _).mp ⟨_, h⟩).1 (this q hq).1⟩
        · simp at h h'
          rw [h.1, h'.1, h'.2.1]
          exact if_pos ⟨rfl, rfl⟩
        · have : ∀ q ∈ c_fl, q.1 = 1411 → 32 = q.2 := by decide
          exact this q hq ((ka _ _).mp h).1
        · rw [ko, ko]
          exact ⟨⟨fun z => absurd z.1 (by decide), fun z => absurd z.1 (by decide)⟩, fun a b' h => absurd ((ko _ _).mp ⟨_, h⟩).1 (by decide)⟩
        · refine ⟨fun j hj => ?_, fun a h => absurd ((ko _ _).mp ⟨_, h⟩).1 (by decide)⟩
          rw [ko, ko]
          exact ⟨fun z => absurd z.1 (by decide), fun z => absurd z.1 (by decide)⟩
        · rw [((ko _ _).mp h).1]
          decide
        · have r3 := krA _ _ (maA 1003 (by decide) p' m)
          have r5 := krA _ _ (maA 1005 (by decide) p' m)
          refine ⟨fun b' hj h => ?_, fun h => ?_, fun b' _ h => absurd ((ko _ _).mp ⟨_, h⟩).1 (by decide), fun _ => ?_⟩
          · have z := (ko _ _).mp ⟨_, h⟩
            have e1 : p' = p := by omega
            have e2 : j = n := by omega
            simp at h
            rw [e1, e2, h.1]
            exact if_pos ⟨rfl, rfl⟩
          · refine (a3 _ r3).2.2.2.2 j (fun z => h ?_)
            have e1 := (g_injA (maA 1003 (by decide) p' m) ma z.1).2
            rw [ko, e1, z.2]
            exact ⟨hn, rfl, rfl⟩
          · exact (a3 _ r5).2.2.2.2 j (fun z => absurd (g_injA (maA 1005 (by decide) p' m) ma z.1).1 (by decide))
        · exact absurd ((ko _ _).mp h).1 (by decide)
        · have r0 := krA _ _ (maA 1200 (by decide) 0 m6)
          have r2 := krA _ _ (maA 1202 (by decide) 0 m6)
          exact ⟨fun b' _ h => absurd ((ko _ _).mp ⟨_, h⟩).1 (by decide), fun _ => (a3 _ r0).2.2.2.2 j (fun z => absurd (g_injA (maA 1200 (by decide) 0 m6) ma z.1).1 (by decide)), fun b' _ h => absurd ((ko _ _).mp ⟨_, h⟩).1 (by decide), fun _ => (a3 _ r2).2.2.2.2 j (fun z => absurd (g_injA (maA 1202 (by decide) 0 m6) ma z.1).1 (by decide))⟩
      have lm : ∀ {c i : Nat}, c_mk (c_xt L (lno [(b, (7, 16 * p + n))]) (lno [(b1, (1411, 16 * p + n))]) (lbo [(b, (7, 16 * p + n))]) (lbo [(b1, (1411, 16 * p + n))]) (fun _ _ => 32)) c i ↔ (c = 7 ∧ i = 16 * p + n) ∨ (¬ (c = 7 ∧ i = 16 * p + n) ∧ c_mk L c i) := fun {c i} => by
        rw [l_mk gE no (fun x hx => by simp only [List.mem_singleton] at hx; subst hx; exact hb), ko]
      have ln : ∀ {f i : Nat}, ¬ (f = 1411 ∧ i = 16 * p + n) → c_ln (c_xt L (lno [(b, (7, 16 * p + n))]) (lno [(b1, (1411, 16 * p + n))]) (lbo [(b, (7, 16 * p + n))]) (lbo [(b1, (1411, 16 * p + n))]) (fun _ _ => 32)) f i = c_ln L f i := fun {f i} h => xt_lnn (fun z => h ((ka _ _).mp ((l_nO na).mp z)))
      have old : ∀ {c i : Nat}, c ≠ 7 → c_mk (c_xt L (lno [(b, (7, 16 * p + n))]) (lno [(b1, (1411, 16 * p + n))]) (lbo [(b, (7, 16 * p + n))]) (lbo [(b1, (1411, 16 * p + n))]) (fun _ _ => 32)) c i → c_mk L c i := fun {c i} hc m => by
        rcases lm.mp m with h | h
        · exact absurd h.1 hc
        · exact h.2
      have up : ∀ {c i : Nat}, c ≠ 7 → c_mk L c i → c_mk (c_xt L (lno [(b, (7, 16 * p + n))]) (lno [(b1, (1411, 16 * p + n))]) (lbo [(b, (7, 16 * p + n))]) (lbo [(b1, (1411, 16 * p + n))]) (fun _ _ => 32)) c i := fun {c i} hc m => lm.mpr (Or.inr ⟨fun z => hc z.1, m⟩)
      have li' : LI (c_xt L (lno [(b, (7, 16 * p + n))]) (lno [(b1, (1411, 16 * p + n))]) (lbo [(b, (7, 16 * p + n))]) (lbo [(b1, (1411, 16 * p + n))]) (fun _ _ => 32)) := by
        refine ⟨fun p' m => ?_, fun i m => ?_, fun c m => ?_, fun p' j hj m => ?_, fun p' j hj m => ?_, fun c i m => ?_, fun i m => ?_, fun p' m => up (by decide) (li.2.2.2.2.2.2.2 p' (old (by decide) m))⟩
        · rw [ln (by omega), ln (by omega)]
          exact li.1 p' (old (by decide) m)
        · rw [ln (by omega)]
          exact li.2.1 i (old (by decide) m)
        · rw [ln (by omega), ln (by omega)]
          exact li.2.2.1 c (old (by decide) m)
        · rcases lm.mp m with h | h
          · have : p' = p := by omega
            rw [this]
            exact up (by decide) m5
          · exact up (by decide) (li.2.2.2.1 p' j hj h.2)
        · exact up (by decide) (li.2.2.2.2.1 p' j hj (old (by decide) m))
        · rcases lm.mp m with h | h
          · omega
          · exact li.2.2.2.2.2.1 c i h.2
        · rcases li.2.2.2.2.2.2.1 i (old (by decide) m) with h | h
          · exact Or.inl ⟨h.1, up (by decide) h.2⟩
          · exact Or.inr ⟨h.1, up (by decide) h.2⟩
      obtain ⟨wd', cs'⟩ := NEW_WD wd1 cs1 a3 nh li' (fun f i x hd _ hx => tg_xt (fun c i z => by have := (ko _ _).mp ((l_nO no).mp z); omega) (fun c i z => by have := (ka _ _).mp ((l_nO na).mp z); omega) (ri f i x hd hx))
      have lx := LX_xt gE nh (fun c i z m => by
        have := (ko _ _).mp ((l_nO no).mp z)
        rw [this.1, this.2] at m
        exact m7 m)
      have m7' := lm.mpr (Or.inl ⟨rfl, rfl⟩)
      have e5 := (lx.1 _ _ m5).2
      have e7' : c_ob (c_xt L (lno [(b, (7, 16 * p + n))]) (lno [(b1, (1411, 16 * p + n))]) (lbo [(b, (7, 16 * p + n))]) (lbo [(b1, (1411, 16 * p + n))]) (fun _ _ => 32)) 7 (16 * p + n) = b := (xt_ob ((l_nO no).mpr ((ko _ _).mpr ⟨rfl, rfl⟩))).trans (lbo_s no (by simp))
      have fin := c_addP0 (K := K) (bc := bc) (bs := bs) (u := 0 + 1 + 1) (v := 0 + 20 + 32) (name := name) (Q := Q) wd' (up (by decide) m5) m7' (show c_I (k_xt K _ _ _ _) 1004 p = nI n from (if_neg (fun z => absurd ((ko _ _).mp ((l_nO no).mp z)).1 (by decide))).trans h4) (fun f i h => if_neg (fun z => h ((ko _ _).mp ((l_nO no).mp z)))) (fun f i h => if_neg (fun z => h ((ko _ _).mp ((l_nO no).mp z)))) (fun f i j h => congrFun (if_neg (fun z => h (by have := (ka _ _).mp ((l_nO na).mp z); exact ⟨by rw [this.1], this.2⟩))) j) (fun f i h => if_neg (fun z => h ((ko _ _).mp ((l_nO no).mp z)))) (fun K' h => hQ _ _ K' wd' lx m7' h)
      rw [cs', e5, e7'] at fin
      exact fin
