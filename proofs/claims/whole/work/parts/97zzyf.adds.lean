/-! A partition, a channel added. -/
def NP (K K' : c_S) (p : Nat) (name : Int64) : Prop :=
  (∀ f i : Nat, ¬ ((f / 200 = 5 ∨ f / 200 = 4) ∧ i = p) → ¬ (f = 1201 ∧ i = 0) → c_I K' f i = c_I K f i) ∧ (∀ f i : Nat, ¬ ((f / 200 = 5 ∨ f / 200 = 4) ∧ i = p) → c_J K' f i = c_J K f i) ∧ (∀ f i j : Nat, ¬ ((f / 200 = 5 ∨ f / 200 = 4) ∧ i = p) → c_A K' f i j = c_A K f i j) ∧ (∀ f i : Nat, ¬ ((f / 200 = 5 ∨ f / 200 = 4) ∧ i = p) → c_P K' f i = c_P K f i) ∧
  c_I K' 1201 0 = nI (p + 1) ∧ c_J K' 1001 p = name ∧ c_I K' 1000 p = nI p ∧ (c_I K' 1004 p = 0 ∧ c_I K' 1009 p = 0 ∧ c_I K' 1011 p = 0 ∧ c_I K' 1012 p = 0 ∧ c_I K' 1013 p = 0 ∧ c_I K' 1015 p = 0) ∧ (c_I K' 1008 p = -1 ∧ c_I K' 1010 p = -1 ∧ c_I K' 1014 p = -1 ∧ c_I K' 1016 p = -1) ∧ ∀ j : Nat, j < 5 → c_A K' 1006 p j = 0 ∧ c_A K' 1007 p j = 0
theorem c_addR0 {e : EV} {L : c_L} {T : q_S} {K K1 : c_S} {p bc bs u v : Nat} {name : Int64} {Q : Option Value → q_S → Prop} (wd : WD e L T) (m5 : c_mk L 5 p) (h4 : c_I K1 1201 0 = nI p)
  (e1 : ∀ f i : Nat, ¬ ((f / 200 = 5 ∨ f / 200 = 4) ∧ i = p) → c_I K1 f i = c_I K f i ∧ c_J K1 f i = c_J K f i ∧ (∀ j : Nat, c_A K1 f i j = c_A K f i j) ∧ c_P K1 f i = c_P K f i)
  (hQ : ∀ K' : c_S, NP K K' p name → Q (some (va_rf (some (c_ob L 5 p)))) (c_E L K' T)) : wb_X6_addPartition_35 bc bs u v (c_E L K1 T) (c_ob L 6 0) name (nI p) (some (c_ob L 5 p)) Q := by
  have g := WD_g wd
  have m6 := g_m6 g
  refine ⟨_, rfl, c_gk g m5 6 rfl, ?_⟩
  have l6 : c_ln L 1006 p = 5 := c_gl g 1006 5 (by decide) (c_gA g 1006 rfl (by decide) m5)
  have l7 : c_ln L 1007 p = 5 := c_gl g 1007 5 (by decide) (c_gA g 1007 rfl (by decide) m5)
  refine um_X5_reset g K1 p (nI p) name m5 (Q1 := fun K2 => NP K (cs_I K2 1201 0 (c_I K2 1201 0 + 1)) p name) ?_ (fun K2 h2 => ⟨rfl, c_gk g m6 7 rfl, ?_⟩)
  · intro S2 z2
    refine ⟨⟨rfl, by rw [l6]; decide⟩, ⟨rfl, by rw [l7]; decide⟩, fun S9 z9 S10 z10 S11 z11 => ?_⟩
    subst z11 z10 z9 z2
    have kI : ∀ {f i : Nat}, ¬ ((f / 200 = 5 ∨ f / 200 = 4) ∧ i = p) → ∀ (K : c_S) (f0 : Nat) (v : Int32), f0 / 200 = 5 → c_I (cs_I K f0 p v) f i = c_I K f i := fun h K f0 v h0 => if_neg (fun z => h ⟨Or.inl (by rw [z.1]; exact h0), z.2⟩)
    have kF : ∀ (K : c_S) (f0 f i : Nat), c_I (c_fi L K f0 p 0) f i = c_I K f i := fun K f0 f i => rfl
    have kJ : ∀ (K : c_S) (f0 f i : Nat) (v : Int64), c_I (cs_J K f0 p v) f i = c_I K f i := fun K f0 f i v => rfl
    have h01 : ¬ ((1201 / 200 = 5 ∨ 1201 / 200 = 4) ∧ 0 = p) := fun z => absurd z.1 (by decide)
    refine ⟨fun f i h h' => ?_, fun f i h => ?_, fun f i j h => ?_, fun f i h => (e1 f i h).2.2.2, ?_, if_pos ⟨rfl, rfl⟩, ?_, ?_, ?_, fun j hj => ⟨?_, ?_⟩⟩
    · refine Eq.trans ?_ (e1 f i h).1
      rw [c_II, if_neg h']
      repeat rw [kI h _ _ _ (by decide)]
      rw [kF, kF]
      repeat rw [kI h _ _ _ (by decide)]
      rw [kJ, kI h _ _ _ (by decide)]
    · refine Eq.trans ?_ (e1 f i h).2.1
      exact if_neg (fun z => h ⟨Or.inl (by rw [z.1]), z.2⟩)
    · refine Eq.trans ?_ ((e1 f i h).2.2.1 j)
      exact (c_AGr).trans ((if_neg (fun z => h ⟨Or.inl (by rw [z.1]), z.2⟩)).trans ((c_AGr).trans (if_neg (fun z => h ⟨Or.inl (by rw [z.1]), z.2⟩))))
    · rw [c_II, if_pos ⟨rfl, rfl⟩, ← nI_1, ← h4]
      repeat rw [kI h01 _ _ _ (by decide)]
      rw [kF, kF]
      repeat rw [kI h01 _ _ _ (by decide)]
      rw [kJ, kI h01 _ _ _ (by decide)]
    · simp [c_II, c_IJ, c_IG, c_IA, c_IP, c_fi]
    · simp [c_II, c_IJ, c_IG, c_IA, c_IP, c_fi]
    · simp [c_II, c_IJ, c_IG, c_IA, c_IP, c_fi]
    · exact (c_AGr).trans ((if_neg (fun z => absurd z.1 (by decide))).trans ((c_AGr).trans ((if_pos ⟨rfl, rfl⟩).trans (if_pos (by rw [l6]; exact hj)))))
    · exact (c_AGr).trans ((if_pos ⟨rfl, rfl⟩).trans (if_pos (by rw [l7]; exact hj)))
  · rw [c_eI m6 rfl, c_eIs (c_gw g) m6 rfl]
    exact hQ _ h2
theorem c_addPartition {e : EV} {L : c_L} {T : q_S} {K : c_S} {p bc bs : Nat} {name : Int64} {Q : Option Value → q_S → Prop} (wd : WD e L T) (ri : RI K) (hp : p < 16) (h4 : c_I K 1201 0 = nI p) (hbc : 10 ≤ bc) (hbs : 111 ≤ bs)
  (hQ : ∀ (L' : c_L) (T' : q_S) (K' : c_S), WD e L' T' → LX L L' → c_mk L' 5 p → NP K K' p name → Q (some (va_rf (some (c_ob L' 5 p)))) (c_E L' K' T')) : wm_X6_addPartition bc bs (c_E L K T) (c_ob L 6 0) name Q := by
  have g := WD_g wd
  have m6 := g_m6 g
  have ma := c_gA g 1200 rfl (by decide) m6
  refine ⟨c_gk g m6 7 rfl, _, c_ga g 1200 rfl rfl (by decide) m6, c_gr g ma 25 rfl, ?_⟩
  rw [c_gN g ma 16 (by decide), c_eI m6 rfl, h4, nI_clamp (by omega), c_g5 g m6]
  refine ⟨vp_in_nI hp (by decide), ?_⟩
  by_cases m5 : c_mk L 5 p
  · rw [c_m5 hp m5]
    exact nf_ (by intro z; cases z) (c_addR0 wd m5 h4 (fun _ _ _ => ⟨rfl, rfl, fun _ => rfl, rfl⟩) (fun K' h => hQ L T K' wd LX_0 m5 h))
  · have e5 : c_e5 L p = none := if_neg (fun z => m5 z.2)
    rw [e5]
    obtain ⟨wd1, cs1⟩ := WD_E (K := K) wd
    have k7 : q_K (c_E L K T) (c_ob L 6 0) = 7 := c_gk g m6 7 rfl
    have p00 : q_P (c_E L K T) 1200 (c_ob L 6 0) = some (c_ar L 1200 0) := c_ga g 1200 rfl rfl (by decide) m6
    have k25 : q_K (c_E L K T) (c_ar L 1200 0) = 25 := c_gr g ma 25 rfl
    have n16 : q_N (c_E L K T) (c_ar L 1200 0) = 16 := c_gN g ma 16 (by decide)
    generalize c_E L K T = S at *
    refine nt_ rfl ⟨⟨by omega, by omega⟩, fun b hb => ⟨9, 92, ⟨by omega, by omega⟩, ⟨by omega, by omega⟩, fun b1 hb1 => ⟨4, 12, ⟨by omega, by omega⟩, ⟨by omega, by omega⟩, fun c1 hc1 => ?_⟩⟩⟩
    have nb : b ≠ b1 := fun z => by
      rw [← z] at hb1
      exact absurd hb1 (by show ¬ (if b = b then 6 else _) = 0; rw [if_pos rfl]; decide)
    have x1 : AGX S (qs_O S 5 b) (fun _ _ => False) (fun a => a = b ∨ a = b1) := ax_O ax_0 hb
    have y1 : AGX (qs_O S 5 b) (qs_O S 5 b) (fun _ _ => False) (fun a => a = b ∨ a = b1) := ax_0
    have x2 := ax_O (c := 4) x1 hb1
    have y2 := ax_O (c := 4) y1 hb1
    have w2 : AGX (qs_O (qs_O S 5 b) 4 b1) (qs_O (qs_O S 5 b) 4 b1) (fun _ _ => False) (fun a => a = b ∨ a = b1) := ax_0
    have w2' := ax_R (k := 21) (n := 0) w2 hc1
    refine ⟨(ax_obj w2').1, ⟨by omega, by omega⟩, fun c2 hc2 S12 e12 => ?_⟩
    subst e12
    refine ⟨⟨by omega, by omega⟩, fun c3 hc3 S18 e18 => ?_⟩
    subst e18
    refine ⟨⟨by omega, by omega⟩, fun c4 hc4 => ⟨rfl, ?_⟩⟩
    have y6 := ax_P (f := 805) (b := b1) (v := some c4) (ax_R (k := 21) (n := 6) (ax_P (f := 804) (b := b1) (v := some c3) (ax_R (k := 21) (n := 6) (ax_P (f := 802) (b := b1) (v := some c2) (ax_R (k := 21) (n := 0) (ax_P (f := 801) (b := b1) (v := some c1) (ax_R (k := 21) (n := 0) y2 hc1) (Or.inr rfl)) hc2) (Or.inr rfl)) hc3) (Or.inr rfl)) hc4) (Or.inr rfl)
    refine ⟨(ax_obj y6).1, ⟨by omega, by omega⟩, fun d1 hd1 S17 e17 => ?_⟩
    subst e17
    refine ⟨⟨by omega, by omega⟩, fun d2 hd2 => ⟨⟨by omega, by omega⟩, fun d3 hd3 S28 e28 => ?_⟩⟩
    subst e28
    refine ⟨⟨by omega, by omega⟩, fun d4 hd4 S34 e34 => ?_⟩
    subst e34
    have y11 := ax_P (f := 1007) (b := b) (v := some d4) (ax_R (k := 21) (n := 5) (ax_P (f := 1006) (b := b) (v := some d3) (ax_R (k := 21) (n := 5) (ax_P (f := 1005) (b := b) (v := some d2) (ax_R (k := 27) (n := 48) (ax_P (f := 1003) (b := b) (v := some d1) (ax_R (k := 26) (n := 16) (ax_P (f := 1002) (b := b) (v := some b1) y6 (Or.inl rfl)) hd1) (Or.inl rfl)) hd2) (Or.inl rfl)) hd3) (Or.inl rfl)) hd4) (Or.inl rfl)
    have x6 := ax_P (f := 805) (b := b1) (v := some c4) (ax_R (k := 21) (n := 6) (ax_P (f := 804) (b := b1) (v := some c3) (ax_R (k := 21) (n := 6) (ax_P (f := 802) (b := b1) (v := some c2) (ax_R (k := 21) (n := 0) (ax_P (f := 801) (b := b1) (v := some c1) (ax_R (k := 21) (n := 0) x2 hc1) (Or.inr rfl)) hc2) (Or.inr rfl)) hc3) (Or.inr rfl)) hc4) (Or.inr rfl)
    have x11 := ax_P (f := 1007) (b := b) (v := some d4) (ax_R (k := 21) (n := 5) (ax_P (f := 1006) (b := b) (v := some d3) (ax_R (k := 21) (n := 5) (ax_P (f := 1005) (b := b) (v := some d2) (ax_R (k := 27) (n := 48) (ax_P (f := 1003) (b := b) (v := some d1) (ax_R (k := 26) (n := 16) (ax_P (f := 1002) (b := b) (v := some b1) x6 (Or.inl rfl)) hd1) (Or.inl rfl)) hd2) (Or.inl rfl)) hd3) (Or.inl rfl)) hd4) (Or.inl rfl)
    have fb1 := ax_f x1 hb1
    have n6 : ¬ (c_ob L 6 0 = b ∨ c_ob L 6 0 = b1) := fun z => by
      rcases z with z | z
      · rw [z, hb] at k7; exact absurd k7 (by decide)
      · rw [z, fb1] at k7; exact absurd k7 (by decide)
    refine ⟨rfl, ax_k x11 k7, _, (((x11 _ (by rw [k7]; decide)).2.2.1 1200).2.2 n6).trans p00, ax_k x11 k25, (ax_obj y11).1, ?_, ?_⟩
    · rw [(x11 _ (by rw [k25]; decide)).2.1, n16]
      exact vp_in_nI hp (by decide)
    · obtain ⟨L', K1, wd', cs', lx, m5', eb, off⟩ := c_newPart wd1 cs1 ri hp m5 hb hb1 hc1 hc2 hc3 hc4 hd1 hd2 hd3 hd4
      have fin := c_addR0 (K := K) (K1 := K1) (bc := bc) (bs := bs) (u := 0 + 1 + 9) (v := 0 + 19 + 92) (name := name) (Q := Q) wd' m5' ((off 1201 0 (fun z => absurd z.1 (by decide))).1.trans h4) off (fun K' h => hQ L' _ K' wd' lx m5' h)
      rw [cs', eb, (lx.1 6 0 m6).2] at fin
      exact fin
def NC (K K' : c_S) (c : Nat) (q : Int32) : Prop :=
  (∀ f i : Nat, ¬ ((f / 200 = 1 ∧ i = c) ∨ (f / 200 = 8 ∧ i = 1000 + c)) → ¬ (f = 1203 ∧ i = 0) → c_I K' f i = c_I K f i) ∧ (∀ f i : Nat, ¬ ((f / 200 = 1 ∧ i = c) ∨ (f / 200 = 8 ∧ i = 1000 + c)) → c_J K' f i = c_J K f i) ∧ (∀ f i j : Nat, ¬ ((f / 200 = 1 ∧ i = c) ∨ (f / 200 = 8 ∧ i = 1000 + c)) → c_A K' f i j = c_A K f i j) ∧ (∀ f i : Nat, ¬ ((f / 200 = 1 ∧ i = c) ∨ (f / 200 = 8 ∧ i = 1000 + c)) → c_P K' f i = c_P K f i) ∧
  c_I K' 1203 0 = nI (c + 1) ∧ c_I K' 200 c = nI c ∧ c_I K' 201 c = q ∧ c_I K' 205 c = -1 ∧ (c_I K' 206 c = 0 ∧ c_I K' 207 c = 0 ∧ c_I K' 208 c = 0 ∧ c_I K' 215 c = 0 ∧ c_I K' 216 c = 0) ∧ c_P K' 209 c = none ∧ c_P K' 211 c = none
theorem c_addK0 {e : EV} {L : c_L} {T : q_S} {K K1 : c_S} {c bc bs u v : Nat} {q : Int32} {Q : Option Value → q_S → Prop} (wd : WD e L T) (m1 : c_mk L 1 c) (hq : q = 0 ∨ q = 1) (h4 : c_I K1 1203 0 = nI c)
  (e1 : ∀ f i : Nat, ¬ ((f / 200 = 1 ∧ i = c) ∨ (f / 200 = 8 ∧ i = 1000 + c)) → c_I K1 f i = c_I K f i ∧ c_J K1 f i = c_J K f i ∧ (∀ j : Nat, c_A K1 f i j = c_A K f i j) ∧ c_P K1 f i = c_P K f i)
  (hQ : ∀ K' : c_S, NC K K' c q → Q (some (va_rf (some (c_ob L 1 c)))) (c_E L K' T)) : wb_X6_addChannel_31 bc bs u v (c_E L K1 T) (c_ob L 6 0) q (nI c) (some (c_ob L 1 c)) Q := by
  have g := WD_g wd
  have m6 := g_m6 g
  refine ⟨_, rfl, c_gk g m1 2 rfl, ?_⟩
  refine um_X1_reset g K1 c (nI c) q m1 (Q1 := fun K2 => NC K (cs_I K2 1203 0 (c_I K2 1203 0 + 1)) c q) ?_ (fun K2 h2 => ⟨rfl, c_gk g m6 7 rfl, ?_⟩)
  · refine ⟨by rcases hq with rfl | rfl <;> exact ⟨rfl, rfl⟩, fun S3 z3 S4 z4 S5 z5 => ?_⟩
    subst z5 z4 z3
    have kI : ∀ {f i : Nat}, ¬ ((f / 200 = 1 ∧ i = c) ∨ (f / 200 = 8 ∧ i = 1000 + c)) → ∀ (K : c_S) (f0 : Nat) (v : Int32), f0 / 200 = 1 → c_I (cs_I K f0 c v) f i = c_I K f i := fun h K f0 v h0 => if_neg (fun z => h (Or.inl ⟨by rw [z.1]; exact h0, z.2⟩))
    have kP : ∀ (K : c_S) (f0 f i : Nat) (v : Option Nat), c_I (cs_P K f0 c v) f i = c_I K f i := fun K f0 f i v => rfl
    have h01 : ¬ ((1203 / 200 = 1 ∧ 0 = c) ∨ (1203 / 200 = 8 ∧ 0 = 1000 + c)) := fun z => by omega
    refine ⟨fun f i h h' => ?_, fun f i h => (e1 f i h).2.1, fun f i j h => (e1 f i h).2.2.1 j, fun f i h => ?_, ?_, ?_, ?_, ?_, ?_, ?_, ?_⟩
    · refine Eq.trans ?_ (e1 f i h).1
      rw [c_II, if_neg h']
      repeat rw [kI h _ _ _ (by decide)]
      rw [kP, kP]
      repeat rw [kI h _ _ _ (by decide)]
    · refine Eq.trans ?_ (e1 f i h).2.2.2
      exact (if_neg (fun z => h (Or.inl ⟨by rw [z.1], z.2⟩))).trans (if_neg (fun z => h (Or.inl ⟨by rw [z.1], z.2⟩)))
    · rw [c_II, if_pos ⟨rfl, rfl⟩, ← nI_1, ← h4]
      repeat rw [kI h01 _ _ _ (by decide)]
      rw [kP, kP]
      repeat rw [kI h01 _ _ _ (by decide)]
    · simp [c_II, c_IJ, c_IG, c_IA, c_IP, c_fi]
    · simp [c_II, c_IJ, c_IG, c_IA, c_IP, c_fi]
    · simp [c_II, c_IJ, c_IG, c_IA, c_IP, c_fi]
    · simp [c_II, c_IJ, c_IG, c_IA, c_IP, c_fi]
    · simp [c_PI, c_PP]
    · simp [c_PI, c_PP]
  · rw [c_eI m6 rfl, c_eIs (c_gw g) m6 rfl]
    exact hQ _ h2
theorem c_addChannel {e : EV} {L : c_L} {T : q_S} {K : c_S} {c bc bs : Nat} {q : Int32} {Q : Option Value → q_S → Prop} (wd : WD e L T) (hc : c < 24) (hq : q = 0 ∨ q = 1) (h4 : c_I K 1203 0 = nI c) (hbc : 5 ≤ bc) (hbs : 21 ≤ bs)
  (hQ : ∀ (L' : c_L) (T' : q_S) (K' : c_S), WD e L' T' → LX L L' → c_mk L' 1 c → NC K K' c q → Q (some (va_rf (some (c_ob L' 1 c)))) (c_E L' K' T')) : wm_X6_addChannel bc bs (c_E L K T) (c_ob L 6 0) q Q := by
  have g := WD_g wd
  have m6 := g_m6 g
  have ma := c_gA g 1202 rfl (by decide) m6
  refine ⟨c_gk g m6 7 rfl, _, c_ga g 1202 rfl rfl (by decide) m6, c_gr g ma 24 rfl, ?_⟩
  rw [c_gN g ma 24 (by decide), c_eI m6 rfl, h4, nI_clamp (by omega), c_g1 g m6]
  refine ⟨vp_in_nI hc (by decide), ?_⟩
  by_cases m1 : c_mk L 1 c
  · rw [c_m1 hc m1]
    exact nf_ (by intro z; cases z) (c_addK0 wd m1 hq h4 (fun _ _ _ => ⟨rfl, rfl, fun _ => rfl, rfl⟩) (fun K' h => hQ L T K' wd LX_0 m1 h))
  · have e5 : c_e1 L c = none := if_neg (fun z => m1 z.2)
    rw [e5]
    obtain ⟨wd1, cs1⟩ := WD_E (K := K) wd
    have k7 : q_K (c_E L K T) (c_ob L 6 0) = 7 := c_gk g m6 7 rfl
    have p00 : q_P (c_E L K T) 1202 (c_ob L 6 0) = some (c_ar L 1202 0) := c_ga g 1202 rfl rfl (by decide) m6
    have k24 : q_K (c_E L K T) (c_ar L 1202 0) = 24 := c_gr g ma 24 rfl
    have n24 : q_N (c_E L K T) (c_ar L 1202 0) = 24 := c_gN g ma 24 (by decide)
    generalize c_E L K T = S at *
    refine nt_ rfl ⟨⟨by omega, by omega⟩, fun b hb => ⟨4, 4, ⟨by omega, by omega⟩, ⟨by omega, by omega⟩, fun b1 hb1 => ⟨1, 0, ⟨by omega, by omega⟩, ⟨by omega, by omega⟩, fun c1 hc1 => ?_⟩⟩⟩
    have x1 : AGX S (qs_O S 1 b) (fun _ _ => False) (fun a => a = b ∨ a = b1) := ax_O ax_0 hb
    have y1 : AGX (qs_O S 1 b) (qs_O S 1 b) (fun _ _ => False) (fun a => a = b ∨ a = b1) := ax_0
    have x2 := ax_O (c := 8) x1 hb1
    have y2 := ax_O (c := 8) y1 hb1
    have w2 : AGX (qs_O (qs_O S 1 b) 8 b1) (qs_O (qs_O S 1 b) 8 b1) (fun _ _ => False) (fun a => a = b ∨ a = b1) := ax_0
    have w2' := ax_R (k := 21) (n := 0) w2 hc1
    have y3 := ax_P (f := 1600) (b := b1) (v := some c1) (ax_R (k := 21) (n := 0) y2 hc1) (Or.inr rfl)
    refine ⟨(ax_obj w2').1, rfl, (ax_obj y3).1, ⟨by omega, by omega⟩, fun d1 hd1 S17 e17 => ?_⟩
    subst e17
    refine ⟨⟨by omega, by omega⟩, fun d2 hd2 => ?_⟩
    have y11 := ax_P (f := 214) (b := b) (v := some d2) (ax_R (k := 21) (n := 0) (ax_P (f := 213) (b := b) (v := some d1) (ax_R (k := 21) (n := 0) (ax_P (f := 204) (b := b) (v := some b1) y3 (Or.inl rfl)) hd1) (Or.inl rfl)) hd2) (Or.inl rfl)
    have x3 := ax_P (f := 1600) (b := b1) (v := some c1) (ax_R (k := 21) (n := 0) x2 hc1) (Or.inr rfl)
    have x11 := ax_P (f := 214) (b := b) (v := some d2) (ax_R (k := 21) (n := 0) (ax_P (f := 213) (b := b) (v := some d1) (ax_R (k := 21) (n := 0) (ax_P (f := 204) (b := b) (v := some b1) x3 (Or.inl rfl)) hd1) (Or.inl rfl)) hd2) (Or.inl rfl)
    have fb1 := ax_f x1 hb1
    have n6 : ¬ (c_ob L 6 0 = b ∨ c_ob L 6 0 = b1) := fun z => by
      rcases z with z | z
      · rw [z, hb] at k7; exact absurd k7 (by decide)
      · rw [z, fb1] at k7; exact absurd k7 (by decide)
    refine ⟨rfl, ax_k x11 k7, _, (((x11 _ (by rw [k7]; decide)).2.2.1 1202).2.2 n6).trans p00, ax_k x11 k24, (ax_obj y11).1, ?_, ?_⟩
    · rw [(x11 _ (by rw [k24]; decide)).2.1, n24]
      exact vp_in_nI hc (by decide)
    · obtain ⟨L', K1, wd', cs', lx, m1', eb, off, _⟩ := c_newChan wd1 cs1 hc m1 hb hb1 hc1 hd1 hd2
      have fin := c_addK0 (K := K) (K1 := K1) (bc := bc) (bs := bs) (u := 0 + 1 + 4) (v := 0 + 17 + 4) (q := q) (Q := Q) wd' m1' hq ((off 1203 0 (fun z => by omega)).1.trans h4) off (fun K' h => hQ L' _ K' wd' lx m1' h)
      rw [cs', eb, (lx.1 6 0 m6).2] at fin
      exact fin
