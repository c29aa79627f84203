/-! The depth of a queue, the size of a memory. -/
def WD0 (e : EV) (L : c_L) (T : q_S) : Prop := l_B L e.2.1 e.2.2.2.1 e.2.2.2.2.1 e.2.2.2.2.2.1 T ∧ OT0 e.2.2.2.2.1 e.2.2.1 L T ∧ c_ob L 11 0 = e.1 ∧ r_E e.2.1 e.2.2.2.2.1 e.2.2.2.2.2.2 T = T
theorem WD_0 {e : EV} {L : c_L} {T : q_S} (h : WD e L T) : WD0 e L T := ⟨h.1, h.2.1.1, h.2.2⟩
theorem WD_1 {e : EV} {L : c_L} {T : q_S} (h : WD0 e L T) (li : LI L) : WD e L T := ⟨h.1, ⟨h.2.1, li⟩, h.2.2⟩
theorem NV_0 {e : EV} {L : c_L} {K : c_S} {S : q_S} {f c b n : Nat} (wd : WD0 e L S) (cs : c_E L K S = S) (hf : f = 801 ∨ f = 802 ∨ f = 1600) (mc : c_mk L (f / 200) c) (hb : q_K S b = 0) : WD0 e (c_nv L f c b n) (qs_P (qs_R S 21 n b) f (c_ob L (f / 200) c) (some b)) ∧ c_E (c_nv L f c b n) (cs_G K f c (fun _ => 0)) (qs_P (qs_R S 21 n b) f (c_ob L (f / 200) c) (some b)) = qs_P (qs_R S 21 n b) f (c_ob L (f / 200) c) (some b) := by
  obtain ⟨lb, ot, eo, er⟩ := wd
  have fb : e.2.2.2.2.1 b = none := fo_fr lb ot hb
  refine ⟨⟨⟨nv_G lb.1 hf mc hb, nv_WF lb.2.1 hb ?_, nv_Sep lb.2.2 fb⟩, nv_OT ot hb ?_, eo, nv_R fb er⟩, nv_E lb.1 hf mc hb cs⟩
  · rw [lb.1.2.1 _ c mc]
    rcases hf with rfl | rfl | rfl <;> decide
  · rcases hf with rfl | rfl | rfl <;> decide
theorem nv_LX {L : c_L} {f c b n : Nat} (h : c_ln L f c ≤ n) : LX L (c_nv L f c b n) := by
  refine ⟨fun c' i m => ⟨m, rfl⟩, fun f' i _ _ => ?_⟩
  show c_ln L f' i ≤ if f' = f ∧ i = c then n else c_ln L f' i
  by_cases z : f' = f ∧ i = c
  · rw [if_pos z, z.1, z.2]
    exact h
  · rw [if_neg z]
    exact Nat.le_refl _
theorem nv_ln {L : c_L} {f c b n f' i : Nat} : c_ln (c_nv L f c b n) f' i = if f' = f ∧ i = c then n else c_ln L f' i := rfl
def ND (K K' : c_S) (i d : Nat) : Prop := (∀ f j : Nat, ¬ (f / 200 = 8 ∧ j = i) → c_I K' f j = c_I K f j) ∧ (∀ f j : Nat, c_J K' f j = c_J K f j) ∧ (∀ f j x : Nat, ¬ (f = 1600 ∧ j = i) → c_A K' f j x = c_A K f j x) ∧ (∀ f j : Nat, c_P K' f j = c_P K f j) ∧ c_I K' 1601 i = nI d ∧ c_I K' 1602 i = 0 ∧ c_I K' 1603 i = 0
theorem c_setDepth {e : EV} {L : c_L} {T : q_S} {K : c_S} {i d bc bs : Nat} {Q : Option Value → q_S → Prop} (wd : WD e L T) (m8 : c_mk L 8 i) (d1 : 1 ≤ d) (d2 : d ≤ 32) (hbc : 1 ≤ bc) (hbs : d ≤ bs)
  (hQ : ∀ (L' : c_L) (T' : q_S) (K' : c_S), WD e L' T' → LX L L' → d ≤ c_ln L' 1600 i → ND K K' i d → Q none (c_E L' K' T')) : wm_X8_setDepth bc bs (c_E L K T) (c_ob L 8 i) (nI d) Q := by
  have g := WD_g wd
  have ma := c_gA g 1600 rfl (by decide) m8
  have li := wd.2.1.2
  have hl := li.2.1 i m8
  have p0 : (0 : Int32) < nI d := by
    have : ∀ d : Nat, d ≤ 32 → 1 ≤ d → (0 : Int32) < nI d := by decide
    exact this d d2 d1
  refine ⟨c_gk g m8 9 rfl, ?_⟩
  rw [if_pos p0, c_eIs (c_gw g) m8 rfl]
  refine ⟨_, c_ga g 1600 rfl rfl (by decide) m8, c_gr g ma 21 rfl, ?_⟩
  rw [c_gn g ma, c_eI m8 rfl]
  have e1 : c_I (cs_I K 1601 i (nI d)) 1601 i = nI d := if_pos ⟨rfl, rfl⟩
  rw [e1]
  have nd : ∀ K2 : c_S, (∀ f j : Nat, ¬ (f / 200 = 8 ∧ j = i) → c_I K2 f j = c_I K f j) → (∀ f j : Nat, c_J K2 f j = c_J K f j) → (∀ f j x : Nat, ¬ (f = 1600 ∧ j = i) → c_A K2 f j x = c_A K f j x) → (∀ f j : Nat, c_P K2 f j = c_P K f j) → c_I K2 1601 i = nI d → ND K (cs_I (cs_I K2 1602 i 0) 1603 i 0) i d := fun K2 h1 h2 h3 h4 h5 => by
    refine ⟨fun f j h => ?_, h2, h3, h4, ?_, ?_, ?_⟩
    · rw [c_II, if_neg (fun z => h ⟨by rw [z.1], z.2⟩), c_II, if_neg (fun z => h ⟨by rw [z.1], z.2⟩)]
      exact h1 f j h
    · rw [c_II, if_neg (fun z => absurd z.1 (by decide)), c_II, if_neg (fun z => absurd z.1 (by decide))]
      exact h5
    · rw [c_II, if_neg (fun z => absurd z.1 (by decide)), c_II, if_pos ⟨rfl, rfl⟩]
    · rw [c_II, if_pos ⟨rfl, rfl⟩]
  have i1 : ∀ f j : Nat, ¬ (f / 200 = 8 ∧ j = i) → c_I (cs_I K 1601 i (nI d)) f j = c_I K f j := fun f j h => if_neg (fun z => h ⟨by rw [z.1], z.2⟩)
  by_cases c : nI d ≤ nI (c_ln L 1600 i)
  · have cle : d ≤ c_ln L 1600 i := Nat.le_of_not_lt (fun z => absurd c (nI_ge z (by omega)))
    refine bt_ c ⟨c_gk g m8 9 rfl, um_X8_empty g _ i m8 (Q1 := fun K' => K' = cs_I (cs_I (cs_I K 1601 i (nI d)) 1602 i 0) 1603 i 0) rfl (fun K' hK' => ⟨rfl, ?_⟩)⟩
    rw [hK']
    exact hQ L T _ wd LX_0 cle (nd _ i1 (fun _ _ => rfl) (fun _ _ _ _ => rfl) (fun _ _ => rfl) e1)
  · have clt : c_ln L 1600 i < d := Nat.lt_of_not_le (fun z => c (nI_le z hl))
    refine bf_ c ⟨d, rfl, by omega, ⟨by omega, by omega⟩, fun b hb S17 eS => ?_⟩
    subst eS
    obtain ⟨wd1, cs1⟩ := WD_E (K := cs_I K 1601 i (nI d)) wd
    obtain ⟨w2, c2⟩ := NV_0 (n := d) (WD_0 wd1) cs1 (Or.inr (Or.inr rfl)) m8 hb
    have li' : LI (c_nv L 1600 i b d) := by
      refine ⟨fun p m => ?_, fun j m => ?_, fun c m => ?_, li.2.2.2⟩
      · rw [nv_ln, nv_ln, if_neg (by omega), if_neg (by omega)]
        exact li.1 p m
      · rw [nv_ln]
        by_cases z : 1600 = 1600 ∧ j = i
        · rw [if_pos z]
          omega
        · rw [if_neg z]
          exact li.2.1 j m
      · rw [nv_ln, nv_ln, if_neg (by omega), if_neg (by omega)]
        exact li.2.2.1 c m
    have w3 := WD_1 w2 li'
    have g3 := WD_g w3
    rw [← c2]
    refine ⟨c_gk g3 (c := 8) (i := i) m8 9 rfl, um_X8_empty g3 _ i m8 (Q1 := fun K' => K' = cs_I (cs_I (cs_G (cs_I K 1601 i (nI d)) 1600 i (fun _ => 0)) 1602 i 0) 1603 i 0) rfl (fun K' hK' => ⟨rfl, ?_⟩)⟩
    rw [hK']
    refine hQ _ _ _ w3 (nv_LX (by omega)) ?_ (nd _ i1 (fun _ _ => rfl) (fun f j x h => ?_) (fun _ _ => rfl) e1)
    · rw [nv_ln, if_pos ⟨rfl, rfl⟩]
      exact Nat.le_refl _
    · rw [c_AGr, if_neg h]
      rfl
def NM' (K K' : c_S) (p n : Nat) : Prop := (∀ f j : Nat, ¬ (f / 200 = 4 ∧ j = p) → c_I K' f j = c_I K f j) ∧ (∀ f j : Nat, c_J K' f j = c_J K f j) ∧ (∀ f j x : Nat, ¬ ((f = 801 ∨ f = 802) ∧ j = p) → c_A K' f j x = c_A K f j x) ∧ (∀ f j : Nat, c_P K' f j = c_P K f j) ∧ c_I K' 800 p = nI n ∧ c_I K' 803 p = 0 ∧ ∀ x : Nat, x < n / 4 → c_A K' 801 p x = 0 ∧ c_A K' 802 p x = 0
theorem c_setBytes {e : EV} {L : c_L} {T : q_S} {K : c_S} {p k bc bs : Nat} {Q : Option Value → q_S → Prop} (wd : WD e L T) (m4 : c_mk L 4 p) (k1 : 1 ≤ k) (k2 : k ≤ 32) (hbc : 2 ≤ bc) (hbs : 4096 ≤ bs)
  (hQ : ∀ (L' : c_L) (T' : q_S) (K' : c_S), WD e L' T' → LX L L' → 64 * k ≤ c_ln L' 801 p → 64 * k ≤ c_ln L' 802 p → NM' K K' p (256 * k) → Q none (c_E L' K' T')) : wm_X4_setBytes bc bs (c_E L K T) (c_ob L 4 p) (nI (256 * k)) Q := by
  have g := WD_g wd
  have m1 := c_gA g 801 rfl (by decide) m4
  have m2 := c_gA g 802 rfl (by decide) m4
  have li := wd.2.1.2
  obtain ⟨l1, l2⟩ := li.1 p m4
  have p0 : (0 : Int32) < nI (256 * k) := by
    have : ∀ d : Nat, d ≤ 32 → 1 ≤ d → (0 : Int32) < nI (256 * d) := by decide
    exact this k k2 k1
  have sh : nI (256 * k) >>> ((2 : Int32) &&& 31) = nI (64 * k) := by
    have : ∀ d : Nat, d ≤ 32 → nI (256 * d) >>> ((2 : Int32) &&& 31) = nI (64 * d) := by decide
    exact this k k2
  refine ⟨c_gk g m4 5 rfl, ?_⟩
  rw [if_pos p0, c_eIs (c_gw g) m4 rfl, c_eIs (c_gw g) m4 rfl]
  refine ⟨_, c_ga g 802 rfl rfl (by decide) m4, c_gr g m2 21 rfl, ?_⟩
  rw [c_gn g m2, c_eI m4 rfl]
  have e1 : c_I (cs_I (cs_I K 800 p (nI (256 * k))) 803 p 0) 800 p = nI (256 * k) := by simp [c_II, c_IJ, c_IG, c_IA, c_IP, c_fi]
  rw [e1, sh]
  have i1 : ∀ f j : Nat, ¬ (f / 200 = 4 ∧ j = p) → c_I (cs_I (cs_I K 800 p (nI (256 * k))) 803 p 0) f j = c_I K f j := fun f j h => by
    rw [c_II, if_neg (fun z => h ⟨by rw [z.1], z.2⟩), c_II, if_neg (fun z => h ⟨by rw [z.1], z.2⟩)]
  have fin : ∀ (L' : c_L) (T' : q_S) (K2 : c_S) (u v : Nat), WD e L' T' → LX L L' → 64 * k ≤ c_ln L' 802 p → c_mk L' 4 p → c_ob L' 4 p = c_ob L 4 p → K2.1 = (cs_I (cs_I K 800 p (nI (256 * k))) 803 p 0).1 → K2.2.1 = K.2.1 → (∀ f j x : Nat, ¬ ((f = 801 ∨ f = 802) ∧ j = p) → c_A K2 f j x = c_A K f j x) → K2.2.2.2 = K.2.2.2 → wb_X4_setBytes_52 bc bs u v (c_E L' K2 T') (c_ob L 4 p) Q := fun L' T' K2 u v w lx ln m4' eo h1 h2 h3 h4 => by
    have g' := WD_g w
    have m1' := c_gA g' 801 rfl (by decide) m4'
    have m2' := c_gA g' 802 rfl (by decide) m4'
    obtain ⟨l1', l2'⟩ := w.2.1.2.1 p m4'
    rw [← eo]
    refine ⟨c_gk g' m4' 5 rfl, ?_⟩
    rw [c_ga g' 802 rfl rfl (by decide) m4']
    refine um_J7_fill_53178 g' K2 802 p 0 m2' (Q1 := fun K3 => K3 = c_fi L' K2 802 p 0) ⟨⟨rfl, by rw [← l1']; exact l2'⟩, rfl⟩ (fun K3 h3' => ⟨rfl, c_gk g' m4' 5 rfl, ?_⟩)
    rw [c_ga g' 801 rfl rfl (by decide) m4']
    refine um_J7_fill_53178 g' K3 801 p 0 m1' (Q1 := fun K4 => K4 = c_fi L' K3 801 p 0) ⟨⟨rfl, l2'⟩, rfl⟩ (fun K4 h4' => ⟨rfl, ?_⟩)
    rw [h4', h3']
    refine hQ L' T' _ w lx (by rw [l1']; exact ln) ln ⟨fun f j h => ?_, fun f j => ?_, fun f j x h => ?_, fun f j => ?_, ?_, ?_, fun x hx => ⟨?_, ?_⟩⟩
    · show K2.1 f j = _
      rw [h1]
      exact i1 f j h
    · show K2.2.1 f j = _
      rw [h2]
      rfl
    · unfold c_fi
      rw [c_AGr, if_neg (fun z => h ⟨Or.inl z.1, z.2⟩), c_AGr, if_neg (fun z => h ⟨Or.inr z.1, z.2⟩)]
      exact h3 f j x h
    · show K2.2.2.2 f j = _
      rw [h4]
      rfl
    · show K2.1 800 p = _
      rw [h1]
      exact e1
    · show K2.1 803 p = _
      rw [h1]
      exact if_pos ⟨rfl, rfl⟩
    · unfold c_fi
      rw [c_AGr, if_pos ⟨rfl, rfl⟩, if_pos (by rw [l1']; omega)]
    · unfold c_fi
      rw [c_AGr, if_neg (fun z => absurd z.1 (by decide)), c_AGr, if_pos ⟨rfl, rfl⟩, if_pos (by omega)]
  by_cases c : nI (64 * k) ≤ nI (c_ln L 802 p)
  · have cle : 64 * k ≤ c_ln L 802 p := Nat.le_of_not_lt (fun z => absurd c (nI_ge z (by omega)))
    exact bt_ c (fin L T _ _ _ wd LX_0 cle m4 rfl rfl rfl (fun _ _ _ _ => rfl) rfl)
  · have clt : c_ln L 802 p < 64 * k := Nat.lt_of_not_le (fun z => c (nI_le z (by rw [← l1]; exact l2)))
    refine bf_ c ⟨64 * k, rfl, by omega, ⟨by omega, by omega⟩, fun b hb S20 eS => ?_⟩
    subst eS
    obtain ⟨wd1, cs1⟩ := WD_E (K := cs_I (cs_I K 800 p (nI (256 * k))) 803 p 0) wd
    obtain ⟨w2, c2⟩ := NV_0 (n := 64 * k) (WD_0 wd1) cs1 (Or.inr (Or.inl rfl)) m4 hb
    have g2 := w2.1.1
    have e2 : q_I (qs_P (qs_R (c_E L (cs_I (cs_I K 800 p (nI (256 * k))) 803 p 0) T) 21 (64 * k) b) 802 (c_ob L 4 p) (some b)) 800 (c_ob L 4 p) = nI (256 * k) := by
      show q_I (c_E L (cs_I (cs_I K 800 p (nI (256 * k))) 803 p 0) T) 800 (c_ob L 4 p) = _
      rw [c_eI m4 rfl]
      exact e1
    rw [e2, sh]
    refine ⟨64 * k, rfl, by omega, ⟨by omega, by omega⟩, fun b2 hb2 S29 eS2 => ?_⟩
    subst eS2
    obtain ⟨w3, c3⟩ := NV_0 (f := 801) (c := p) (n := 64 * k) w2 c2 (Or.inl rfl) m4 hb2
    have q : ∀ f i : Nat, c_ln (c_nv (c_nv L 802 p b (64 * k)) 801 p b2 (64 * k)) f i = if f = 801 ∧ i = p then 64 * k else if f = 802 ∧ i = p then 64 * k else c_ln L f i := fun f i => rfl
    have li' : LI (c_nv (c_nv L 802 p b (64 * k)) 801 p b2 (64 * k)) := by
      refine ⟨fun p' m => ?_, fun j m => ?_, fun c m => ?_, li.2.2.2⟩
      · by_cases z : p' = p
        · rw [q, q, if_pos ⟨rfl, z⟩, if_neg (by omega), if_pos ⟨rfl, z⟩]
          exact ⟨rfl, by omega⟩
        · rw [q, q, if_neg (by omega), if_neg (by omega), if_neg (by omega), if_neg (by omega)]
          exact li.1 p' m
      · rw [q, if_neg (by omega), if_neg (by omega)]
        exact li.2.1 j m
      · rw [q, q, if_neg (by omega), if_neg (by omega), if_neg (by omega), if_neg (by omega)]
        exact li.2.2.1 c m
    have w4 := WD_1 w3 li'
    have f4 := fin _ _ (cs_G (cs_G (cs_I (cs_I K 800 p (nI (256 * k))) 803 p 0) 802 p (fun _ => 0)) 801 p (fun _ => 0)) (0 + 1 + 1) (0 + 64 * k + 64 * k) w4 (LX_t (nv_LX (by omega)) (nv_LX (by rw [nv_ln, if_neg (by omega), l1]; omega))) (by rw [q, if_neg (by omega), if_pos ⟨rfl, rfl⟩]; exact Nat.le_refl _) m4 rfl rfl rfl (fun f j x h => by
      rw [c_AGr, if_neg (fun z => h ⟨Or.inl z.1, z.2⟩), c_AGr, if_neg (fun z => h ⟨Or.inr z.1, z.2⟩)]
      rfl) rfl
    rw [c3] at f4
    exact f4
