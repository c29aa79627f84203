/-! A semaphore, an event, a buffer, a board or a port made. -/
def NT (K K' : c_S) (p s n : Nat) (name : Int64) : Prop :=
  (∀ f i : Nat, ¬ ((f / 200 = 10 ∨ f / 200 = 8) ∧ i = 48 * p + (8 * s + n)) → c_I K' f i = c_I K f i) ∧ (∀ f i : Nat, ¬ ((f / 200 = 10 ∨ f / 200 = 8) ∧ i = 48 * p + (8 * s + n)) → c_J K' f i = c_J K f i) ∧ (∀ f i j : Nat, ¬ ((f / 200 = 10 ∨ f / 200 = 8) ∧ i = 48 * p + (8 * s + n)) → ¬ (f = 1006 ∧ i = p ∧ j = s) → c_A K' f i j = c_A K f i j) ∧ (∀ f i : Nat, ¬ ((f / 200 = 10 ∨ f / 200 = 8) ∧ i = 48 * p + (8 * s + n)) → c_P K' f i = c_P K f i) ∧
  c_A K' 1006 p s = nI (n + 1) ∧ c_J K' 2000 (48 * p + (8 * s + n)) = name ∧ (c_I K' 2001 (48 * p + (8 * s + n)) = 0 ∧ c_I K' 2002 (48 * p + (8 * s + n)) = 0 ∧ c_I K' 2003 (48 * p + (8 * s + n)) = 0 ∧ c_I K' 2004 (48 * p + (8 * s + n)) = 0 ∧ c_I K' 2006 (48 * p + (8 * s + n)) = 0 ∧ c_I K' 2007 (48 * p + (8 * s + n)) = 0) ∧ c_I K' 2008 (48 * p + (8 * s + n)) = -1
theorem c_addT0 {e : EV} {L : c_L} {T : q_S} {K K1 : c_S} {p s n bc bs u v : Nat} {name : Int64} {Q : Option Value → q_S → Prop} (wd : WD e L T) (m5 : c_mk L 5 p) (m10 : c_mk L 10 (48 * p + (8 * s + n))) (hs : s < 5) (h6 : c_A K1 1006 p s = nI n)
  (e1 : ∀ f i : Nat, ¬ ((f / 200 = 10 ∨ f / 200 = 8) ∧ i = 48 * p + (8 * s + n)) → c_I K1 f i = c_I K f i) (e2 : ∀ f i : Nat, ¬ ((f / 200 = 10 ∨ f / 200 = 8) ∧ i = 48 * p + (8 * s + n)) → c_J K1 f i = c_J K f i) (e3 : ∀ f i j : Nat, ¬ ((f / 200 = 10 ∨ f / 200 = 8) ∧ i = 48 * p + (8 * s + n)) → c_A K1 f i j = c_A K f i j) (e4 : ∀ f i : Nat, ¬ ((f / 200 = 10 ∨ f / 200 = 8) ∧ i = 48 * p + (8 * s + n)) → c_P K1 f i = c_P K f i)
  (hQ : ∀ K' : c_S, NT K K' p s n name → Q (some (va_rf (some (c_ob L 10 (48 * p + (8 * s + n)))))) (c_E L K' T)) : wb_X5_addThing_55 bc bs u v (c_E L K1 T) (c_ob L 5 p) (nI s) name (some (c_ob L 10 (48 * p + (8 * s + n)))) Q := by
  have g := WD_g wd
  have m6 := c_gA g 1006 rfl (by decide) m5
  refine ⟨_, rfl, c_gk g m10 11 rfl, ?_⟩
  refine um_X10_reset g K1 (48 * p + (8 * s + n)) name m10 (Q1 := fun K2 => NT K (cs_A K2 1006 p s (c_A K2 1006 p s + 1)) p s n name) ?_ (fun K2 h2 => ⟨rfl, c_gk g m5 6 rfl, _, c_ga g 1006 rfl rfl (by decide) m5, c_gr g m6 21 rfl, ?_⟩)
  · intro S2 z2 S3 z3
    subst z3 z2
    have kI : ∀ {f i : Nat}, ¬ ((f / 200 = 10 ∨ f / 200 = 8) ∧ i = 48 * p + (8 * s + n)) → ∀ (K : c_S) (f0 : Nat) (v : Int32), f0 / 200 = 10 → c_I (cs_I K f0 (48 * p + (8 * s + n)) v) f i = c_I K f i := fun h K f0 v h0 => if_neg (fun z => h ⟨Or.inl (by rw [z.1]; exact h0), z.2⟩)
    have kJ : ∀ (K : c_S) (f0 f i : Nat) (v : Int64), c_I (cs_J K f0 (48 * p + (8 * s + n)) v) f i = c_I K f i := fun K f0 f i v => rfl
    refine ⟨fun f i h => ?_, fun f i h => ?_, fun f i j h h' => ?_, e4, ?_, if_pos ⟨rfl, rfl⟩, ?_, ?_⟩
    · refine Eq.trans ?_ (e1 f i h)
      rw [c_IA]
      repeat rw [kI h _ _ _ (by decide)]
      rw [kJ]
    · refine Eq.trans ?_ (e2 f i h)
      exact if_neg (fun z => h ⟨Or.inl (by rw [z.1]), z.2⟩)
    · refine Eq.trans ?_ (e3 f i j h)
      exact (c_AA).trans (if_neg h')
    · refine (c_AA).trans ((if_pos ⟨rfl, rfl, rfl⟩).trans ?_)
      rw [← nI_1, ← h6]
      rfl
    · simp [c_II, c_IJ, c_IG, c_IA, c_IP, c_fi]
    · simp [c_II, c_IJ, c_IG, c_IA, c_IP, c_fi]
  · rw [c_gN g m6 5 (by decide), c_eA m6, nI_clamp (by omega), c_eAs (c_gw g) m6]
    exact ⟨vp_in_nI hs (by decide), vp_in_nI hs (by decide), hQ _ h2⟩
theorem c_addTN {e : EV} {L : c_L} {S : q_S} {K : c_S} {p s n bc bs u v b : Nat} {name : Int64} {Q : Option Value → q_S → Prop} (wd : WD e L S) (cs : c_E L K S = S) (ri : RI K) (m5 : c_mk L 5 p) (hp : p < 16) (hs : s < 5) (s2 : s ≠ 2) (hn : n < (if s = 4 then 16 else 8)) (h6 : c_A K 1006 p s = nI n) (m10 : ¬ c_mk L 10 (48 * p + (8 * s + n))) (hb : q_K S b = 0)
  (hQ : ∀ (L' : c_L) (T' : q_S) (K' : c_S), WD e L' T' → LX L L' → c_mk L' 10 (48 * p + (8 * s + n)) → NT K K' p s n name → Q (some (va_rf (some (c_ob L' 10 (48 * p + (8 * s + n)))))) (c_E L' K' T')) : wb_X5_addThing_55 bc bs u v (qs_C (qs_P (qs_O S 10 b) 2009 b none) (c_ar L 1005 p) (8 * s + n) (some b)) (c_ob L 5 p) (nI s) name (some b) Q := by
  have gE := WD_g wd
  have ma := c_gA gE 1005 rfl (by decide) m5
  have m6 := g_m6 gE
  have li := wd.2.1.2
  have n8 : 8 * s + n < 48 := by
    by_cases z : s = 4
    · rw [if_pos z] at hn; omega
    · rw [if_neg z] at hn; omega
  have qu : c_qu (48 * p + (8 * s + n)) = none := by
    unfold c_qu
    rw [if_neg]
    by_cases z : s = 4
    · rw [if_pos z] at hn; omega
    · rw [if_neg z] at hn; omega
  have maA : ∀ f : Nat, f ∈ c_af → ∀ i : Nat, c_mk L (f / 200) i → c_ma L f i := fun f hf i m => (gE.2.2.2.2.1 f hf i m).1
  have krA : ∀ f i : Nat, c_ma L f i → q_K S (c_ar L f i) ≠ 0 := fun f i m => by rw [(gE.2.2.1 f i m).1]; exact c_kd0 f
  have a1 : AGR S (qs_O S 10 b) (fun a j => a = c_ar L 1005 p ∧ j = 8 * s + n) := ag_O ag_0 hb
  have a2 : AGR S (qs_P (qs_O S 10 b) 2009 b none) (fun a j => a = c_ar L 1005 p ∧ j = 8 * s + n) := ag_P a1 hb
  have a3 : AGR S (qs_C (qs_P (qs_O S 10 b) 2009 b none) (c_ar L 1005 p) (8 * s + n) (some b)) (fun a j => a = c_ar L 1005 p ∧ j = 8 * s + n) := ag_C a2 ⟨rfl, rfl⟩
  have kS : ∀ a : Nat, q_K (qs_C (qs_P (qs_O S 10 b) 2009 b none) (c_ar L 1005 p) (8 * s + n) (some b)) a = if a = b then 11 else q_K S a := fun a => rfl
  have no : lnd [(b, (10, 48 * p + (8 * s + n)))] := ⟨by simp, by simp⟩
  have na : lnd [] := ⟨by simp, by simp⟩
  have ko : ∀ c i : Nat, lk [(b, (10, 48 * p + (8 * s + n)))] c i ↔ c = 10 ∧ i = 48 * p + (8 * s + n) := fun c i => by simp [lk]
  have ka : ∀ c i : Nat, ¬ lk [] c i := fun c i => by simp [lk]
  have nh : NWH L S (qs_C (qs_P (qs_O S 10 b) 2009 b none) (c_ar L 1005 p) (8 * s + n) (some b)) (lno [(b, (10, 48 * p + (8 * s + n)))]) (lno []) (lbo [(b, (10, 48 * p + (8 * s + n)))]) (lbo []) (fun _ _ => 0) := by
    refine NWl gE no na (fun a ha => ?_) (fun x hx => ?_) (fun x hx => ?_) (fun f i hf => ?_) (fun q hq i => ?_) (fun f hf i a b' h h' => ?_) (fun q hq i h => ?_) (fun i => ?_) (fun i => ?_) (fun c i h => ?_) (fun p' j m h => ?_) (fun p' h => ?_) (fun j => ?_)
    · rw [kS, ha]
      repeat' split
      all_goals decide
    · simp only [List.mem_singleton] at hx
      subst hx
      refine ⟨hb, by rw [kS, if_pos rfl], fun f => ⟨if_pos rfl, if_pos rfl⟩, fun f hd => ?_⟩
      have z1 : f ≠ 2009 := fun y => by rw [y] at hd; exact absurd hd (by decide)
      exact (if_neg (fun y => z1 y.1)).trans (if_pos rfl)
    · cases hx
    · rw [ko]
      have : ∀ f ∈ c_af, f / 200 ≠ 10 := by decide
      exact ⟨fun z => absurd z (ka _ _), fun z => absurd z.1 (this f hf)⟩
    · rw [ko, ko]
      have : ∀ q ∈ c_pf, q.1 / 200 ≠ 10 ∧ q.2 ≠ 10 := by decide
      exact ⟨⟨fun z => absurd z.1 (this q hq).1, fun z => absurd z.1 (this q hq).2⟩, fun a b' h => absurd ((ko _ _).mp ⟨_, h⟩).1 (this q hq).1⟩
    · exact absurd ⟨_, h'⟩ (ka _ _)
    · exact absurd h (ka _ _)
    · rw [ko, ko]
      exact ⟨⟨fun z => absurd z.1 (by decide), fun z => absurd z.1 (by decide)⟩, fun a b' h => absurd ((ko _ _).mp ⟨_, h⟩).1 (by decide)⟩
    · refine ⟨fun j hj => ?_, fun a h => ?_⟩
      · rw [ko, ko]
        refine ⟨fun z => ?_, fun z => absurd z.1 (by decide)⟩
        rw [z.2, qu] at hj
        cases hj
      · have e1 := ((ko _ _).mp ⟨_, h⟩).2
        rw [e1, qu]
        simp at h
        refine ⟨fun j b' hj _ => (by cases hj), fun _ => ?_⟩
        rw [h.1]
        exact if_pos ⟨rfl, rfl⟩
    · rw [((ko _ _).mp h).1]
      decide
    · have r3 := krA _ _ (maA 1003 (by decide) p' m)
      have r5 := krA _ _ (maA 1005 (by decide) p' m)
      refine ⟨fun b' hj h => ?_, fun h => ?_, fun b' hj h => ?_, fun h => ?_⟩
      · have := ((ko _ _).mp ⟨_, h⟩).1
        omega
      · exact (a3 _ r3).2.2.2.2 j (fun z => absurd (g_injA (maA 1003 (by decide) p' m) ma z.1).1 (by decide))
      · have z := (ko _ _).mp ⟨_, h⟩
        have e1 : p' = p := by omega
        have e2 : j = 8 * s + n := by omega
        simp at h
        rw [e1, e2, h.1]
        exact if_pos ⟨rfl, rfl⟩
      · refine (a3 _ r5).2.2.2.2 j (fun z => h ?_)
        have e1 := (g_injA (maA 1005 (by decide) p' m) ma z.1).2
        rw [ko, e1, z.2]
        exact ⟨n8, rfl, rfl⟩
    · have := ((ko _ _).mp h).1
      omega
    · have r0 := krA _ _ (maA 1200 (by decide) 0 m6)
      have r2 := krA _ _ (maA 1202 (by decide) 0 m6)
      exact ⟨fun b' _ h => by have := ((ko _ _).mp ⟨_, h⟩).1; omega, fun _ => (a3 _ r0).2.2.2.2 j (fun z => absurd (g_injA (maA 1200 (by decide) 0 m6) ma z.1).1 (by decide)), fun b' _ h => by have := ((ko _ _).mp ⟨_, h⟩).1; omega, fun _ => (a3 _ r2).2.2.2.2 j (fun z => absurd (g_injA (maA 1202 (by decide) 0 m6) ma z.1).1 (by decide))⟩
  have lm : ∀ {c i : Nat}, c_mk (c_xt L (lno [(b, (10, 48 * p + (8 * s + n)))]) (lno []) (lbo [(b, (10, 48 * p + (8 * s + n)))]) (lbo []) (fun _ _ => 0)) c i ↔ lk [(b, (10, 48 * p + (8 * s + n)))] c i ∨ (¬ lk [(b, (10, 48 * p + (8 * s + n)))] c i ∧ c_mk L c i) := fun {c i} => l_mk gE no (fun x hx => by
    simp only [List.mem_cons, List.not_mem_nil, or_false] at hx
    subst hx
    exact hb
)
  have ln : ∀ {f i : Nat}, f ≠ 1600 → c_ln (c_xt L (lno [(b, (10, 48 * p + (8 * s + n)))]) (lno []) (lbo [(b, (10, 48 * p + (8 * s + n)))]) (lbo []) (fun _ _ => 0)) f i = c_ln L f i := fun {f i} h => xt_lnn (fun z => ka _ _ ((l_nO na).mp z))
  have up : ∀ {c i : Nat}, c_mk L c i → c_mk (c_xt L (lno [(b, (10, 48 * p + (8 * s + n)))]) (lno []) (lbo [(b, (10, 48 * p + (8 * s + n)))]) (lbo []) (fun _ _ => 0)) c i := fun {c i} m => by
    by_cases z : lk [(b, (10, 48 * p + (8 * s + n)))] c i
    · exact lm.mpr (Or.inl z)
    · exact lm.mpr (Or.inr ⟨z, m⟩)
  have old : ∀ {c i : Nat}, c ≠ 10 → c ≠ 8 → c_mk (c_xt L (lno [(b, (10, 48 * p + (8 * s + n)))]) (lno []) (lbo [(b, (10, 48 * p + (8 * s + n)))]) (lbo []) (fun _ _ => 0)) c i → c_mk L c i := fun {c i} hc hd m => by
    rcases lm.mp m with h | h
    · have := ((ko _ _).mp h).1
      omega
    · exact h.2
  have li' : LI (c_xt L (lno [(b, (10, 48 * p + (8 * s + n)))]) (lno []) (lbo [(b, (10, 48 * p + (8 * s + n)))]) (lbo []) (fun _ _ => 0)) := by
    refine ⟨fun p' m => ?_, fun i m => ?_, fun c m => ?_, fun p' j hj m => ?_, fun p' j hj m => ?_, fun c i m => ?_, fun i m => ?_, fun p' m => up (li.2.2.2.2.2.2.2 p' (old (by decide) (by decide) m))⟩
    · rw [ln (by decide), ln (by decide)]
      exact li.1 p' (old (by decide) (by decide) m)
    · rw [xt_lnn (fun z => ka _ _ ((l_nO na).mp z))]
      rcases lm.mp m with h | h
      · exact absurd ((ko _ _).mp h).1 (by decide)
      · exact li.2.1 i h.2
    · rw [ln (by decide), ln (by decide)]
      exact li.2.2.1 c (old (by decide) (by decide) m)
    · exact up (li.2.2.2.1 p' j hj (old (by decide) (by decide) m))
    · rcases lm.mp m with h | h
      · have := ((ko _ _).mp h).2
        have : p' = p := by omega
        rw [this]
        exact up m5
      · exact up (li.2.2.2.2.1 p' j hj h.2)
    · rcases lm.mp m with h | h
      · have := ((ko _ _).mp h).2
        omega
      · exact li.2.2.2.2.2.1 c i h.2
    · rcases lm.mp m with h | h
      · have := ((ko _ _).mp h).2
        exact Or.inl ⟨by omega, (lm.mpr (Or.inl ((ko _ _).mpr ⟨rfl, this⟩)))⟩
      · rcases li.2.2.2.2.2.2.1 i h.2 with h | h
        · exact Or.inl ⟨h.1, up h.2⟩
        · exact Or.inr ⟨h.1, up h.2⟩
  obtain ⟨wd', cs'⟩ := NEW_WD wd cs a3 nh li' (fun f i x hd _ hx => tg_xt (fun c i z => by have := ((ko _ _).mp ((l_nO no).mp z)).2; omega) (fun c i z => by exact absurd ((l_nO na).mp z) (ka _ _)) (ri f i x hd hx))
  have lx : LX L (c_xt L (lno [(b, (10, 48 * p + (8 * s + n)))]) (lno []) (lbo [(b, (10, 48 * p + (8 * s + n)))]) (lbo []) (fun _ _ => 0)) := LX_xt gE nh (fun c i z m => by
    have y := (ko _ _).mp ((l_nO no).mp z)
    rw [y.1, y.2] at m
    exact m10 m)
  have m10' : c_mk (c_xt L (lno [(b, (10, 48 * p + (8 * s + n)))]) (lno []) (lbo [(b, (10, 48 * p + (8 * s + n)))]) (lbo []) (fun _ _ => 0)) 10 (48 * p + (8 * s + n)) := lm.mpr (Or.inl ((ko _ _).mpr ⟨rfl, rfl⟩))
  have e5 := (lx.1 _ _ m5).2
  have e10 : c_ob (c_xt L (lno [(b, (10, 48 * p + (8 * s + n)))]) (lno []) (lbo [(b, (10, 48 * p + (8 * s + n)))]) (lbo []) (fun _ _ => 0)) 10 (48 * p + (8 * s + n)) = b := (xt_ob ((l_nO no).mpr ((ko _ _).mpr ⟨rfl, rfl⟩))).trans (lbo_s no (by simp))
  have fin := c_addT0 (K := K) (bc := bc) (bs := bs) (u := u) (v := v) (name := name) (Q := Q) wd' (up m5) m10' hs (K1 := k_xt K (lno [(b, (10, 48 * p + (8 * s + n)))]) (lno []) (lbo [(b, (10, 48 * p + (8 * s + n)))]) (lbo [])) ((k_xtA (fun z => ka _ _ ((l_nO na).mp z))).trans h6) (fun f i h => k_xtI (fun z => h (by have := (ko _ _).mp ((l_nO no).mp z); omega))) (fun f i h => k_xtJ (fun z => h (by have := (ko _ _).mp ((l_nO no).mp z); omega))) (fun f i j h => k_xtA (fun z => ka _ _ ((l_nO na).mp z))) (fun f i h => k_xtP (fun z => h (by have := (ko _ _).mp ((l_nO no).mp z); omega))) (fun K' h => hQ _ _ K' wd' lx m10' h)
  rw [cs', e5, e10] at fin
  exact fin
theorem c_addTB {e : EV} {L : c_L} {S : q_S} {K : c_S} {p s n bc bs u v b b3 b1 : Nat} {name : Int64} {Q : Option Value → q_S → Prop} (wd : WD e L S) (cs : c_E L K S = S) (ri : RI K) (m5 : c_mk L 5 p) (hp : p < 16) (hs : s < 5) (s2 : s = 2) (hn : n < (if s = 4 then 16 else 8)) (h6 : c_A K 1006 p s = nI n) (m10 : ¬ c_mk L 10 (48 * p + (8 * s + n))) (hb : q_K S b = 0) (hb3 : q_K (qs_O S 10 b) b3 = 0) (hb1 : q_K (qs_O (qs_O S 10 b) 8 b3) b1 = 0)
  (hQ : ∀ (L' : c_L) (T' : q_S) (K' : c_S), WD e L' T' → LX L L' → c_mk L' 10 (48 * p + (8 * s + n)) → NT K K' p s n name → Q (some (va_rf (some (c_ob L' 10 (48 * p + (8 * s + n)))))) (c_E L' K' T')) : wb_X5_addThing_55 bc bs u v (qs_C (qs_P (qs_P (qs_R (qs_O (qs_O S 10 b) 8 b3) 21 0 b1) 1600 b3 (some b1)) 2009 b (some b3)) (c_ar L 1005 p) (8 * s + n) (some b)) (c_ob L 5 p) (nI s) name (some b) Q := by
  have gE := WD_g wd
  have ma := c_gA gE 1005 rfl (by decide) m5
  have m6 := g_m6 gE
  have li := wd.2.1.2
  have n8 : 8 * s + n < 48 := by
    by_cases z : s = 4
    · rw [if_pos z] at hn; omega
    · rw [if_neg z] at hn; omega
  have qu : c_qu (48 * p + (8 * s + n)) = some (48 * p + (8 * s + n)) := by
    unfold c_qu
    rw [if_pos]
    by_cases z : s = 4
    · rw [if_pos z] at hn; omega
    · rw [if_neg z] at hn; omega
  have maA : ∀ f : Nat, f ∈ c_af → ∀ i : Nat, c_mk L (f / 200) i → c_ma L f i := fun f hf i m => (gE.2.2.2.2.1 f hf i m).1
  have krA : ∀ f i : Nat, c_ma L f i → q_K S (c_ar L f i) ≠ 0 := fun f i m => by rw [(gE.2.2.1 f i m).1]; exact c_kd0 f
  have a1 : AGR S (qs_O S 10 b) (fun a j => a = c_ar L 1005 p ∧ j = 8 * s + n) := ag_O ag_0 hb
  have f3 := ag_f a1 hb3
  have a1' : AGR S (qs_O (qs_O S 10 b) 8 b3) (fun a j => a = c_ar L 1005 p ∧ j = 8 * s + n) := ag_O a1 f3
  have f1 := ag_f a1' hb1
  have a2 : AGR S (qs_P (qs_P (qs_R (qs_O (qs_O S 10 b) 8 b3) 21 0 b1) 1600 b3 (some b1)) 2009 b (some b3)) (fun a j => a = c_ar L 1005 p ∧ j = 8 * s + n) := ag_P (ag_P (ag_R a1' f1) f3) hb
  have n3 : b3 ≠ b := fun z => by
    rw [z] at hb3
    exact absurd hb3 (by show ¬ (if b = b then 11 else _) = 0; rw [if_pos rfl]; decide)
  have n1 : b1 ≠ b3 ∧ b1 ≠ b := ⟨fun z => by
    rw [z] at hb1
    exact absurd hb1 (by show ¬ (if b3 = b3 then 9 else _) = 0; rw [if_pos rfl]; decide), fun z => by
    rw [z] at hb1
    exact absurd hb1 (by show ¬ (if b = b3 then 9 else if b = b then 11 else _) = 0; rw [if_neg (Ne.symm n3), if_pos rfl]; decide)⟩
  have a3 : AGR S (qs_C (qs_P (qs_P (qs_R (qs_O (qs_O S 10 b) 8 b3) 21 0 b1) 1600 b3 (some b1)) 2009 b (some b3)) (c_ar L 1005 p) (8 * s + n) (some b)) (fun a j => a = c_ar L 1005 p ∧ j = 8 * s + n) := ag_C a2 ⟨rfl, rfl⟩
  have kS : ∀ a : Nat, q_K (qs_C (qs_P (qs_P (qs_R (qs_O (qs_O S 10 b) 8 b3) 21 0 b1) 1600 b3 (some b1)) 2009 b (some b3)) (c_ar L 1005 p) (8 * s + n) (some b)) a = if a = b1 then 21 else if a = b3 then 9 else if a = b then 11 else q_K S a := fun a => rfl
  have no : lnd [(b, (10, 48 * p + (8 * s + n))), (b3, (8, 48 * p + (8 * s + n)))] := ⟨by simp [Ne.symm n3], by simp⟩
  have na : lnd [(b1, (1600, 48 * p + (8 * s + n)))] := ⟨by simp, by simp⟩
  have ko : ∀ c i : Nat, lk [(b, (10, 48 * p + (8 * s + n))), (b3, (8, 48 * p + (8 * s + n)))] c i ↔ (c = 10 ∨ c = 8) ∧ i = 48 * p + (8 * s + n) := fun c i => by
    constructor
    · rintro ⟨a, h⟩
      simp at h
      omega
    · rintro ⟨h | h, h'⟩
      · exact ⟨b, by simp [h, h']⟩
      · exact ⟨b3, by simp [h, h']⟩
  have ka : ∀ c i : Nat, lk [(b1, (1600, 48 * p + (8 * s + n)))] c i ↔ c = 1600 ∧ i = 48 * p + (8 * s + n) := fun c i => by simp [lk]
  have nh : NWH L S (qs_C (qs_P (qs_P (qs_R (qs_O (qs_O S 10 b) 8 b3) 21 0 b1) 1600 b3 (some b1)) 2009 b (some b3)) (c_ar L 1005 p) (8 * s + n) (some b)) (lno [(b, (10, 48 * p + (8 * s + n))), (b3, (8, 48 * p + (8 * s + n)))]) (lno [(b1, (1600, 48 * p + (8 * s + n)))]) (lbo [(b, (10, 48 * p + (8 * s + n))), (b3, (8, 48 * p + (8 * s + n)))]) (lbo [(b1, (1600, 48 * p + (8 * s + n)))]) (fun _ _ => 0) := by
    refine NWl gE no na (fun a ha => ?_) (fun x hx => ?_) (fun x hx => ?_) (fun f i hf => ?_) (fun q hq i => ?_) (fun f hf i a b' h h' => ?_) (fun q hq i h => ?_) (fun i => ?_) (fun i => ?_) (fun c i h => ?_) (fun p' j m h => ?_) (fun p' h => ?_) (fun j => ?_)
    · rw [kS, ha]
      repeat' split
      all_goals decide
    · simp only [List.mem_cons, List.not_mem_nil, or_false] at hx
      rcases hx with rfl | rfl
      · refine ⟨hb, by rw [kS, if_neg (Ne.symm n1.2), if_neg (Ne.symm n3), if_pos rfl], fun f => ⟨?_, ?_⟩, fun f hd => ?_⟩
        · exact (if_neg (Ne.symm n3)).trans (if_pos rfl)
        · exact (if_neg (Ne.symm n3)).trans (if_pos rfl)
        · have z1 : f ≠ 2009 := fun y => by rw [y] at hd; exact absurd hd (by decide)
          exact (if_neg (fun y => z1 y.1)).trans ((if_neg (fun y => n3 y.2.symm)).trans ((if_neg (Ne.symm n3)).trans (if_pos rfl)))
      · refine ⟨f3, by rw [kS, if_neg (Ne.symm n1.1), if_pos rfl], fun f => ⟨if_pos rfl, if_pos rfl⟩, fun f hd => ?_⟩
        have z1 : f ≠ 1600 := fun y => by rw [y] at hd; exact absurd hd (by decide)
        exact (if_neg (fun y => n3 y.2)).trans ((if_neg (fun y => z1 y.1)).trans (if_pos rfl))
    · simp only [List.mem_singleton] at hx
      subst hx
      exact ⟨f1, by rw [kS, if_pos rfl]; rfl, if_pos rfl, fun j => if_pos rfl⟩
    · rw [ka, ko]
      have : ∀ f ∈ c_af, f / 200 = 10 ∨ f / 200 = 8 → f = 1600 := by decide
      exact ⟨fun z => ⟨by rw [z.1]; decide, z.2⟩, fun z => ⟨this f hf z.1, z.2⟩⟩
    · rw [ko, ko]
      have : ∀ q ∈ c_pf, (q.1 / 200 ≠ 10 ∧ q.1 / 200 ≠ 8) ∧ q.2 ≠ 10 ∧ q.2 ≠ 8 := by decide
      have t := this q hq
      exact ⟨⟨fun z => absurd z.1 (by omega), fun z => absurd z.1 (by omega)⟩, fun a b' h => absurd ((ko _ _).mp ⟨_, h⟩).1 (by omega)⟩
    · have e1 := (ka _ _).mp ⟨_, h'⟩
      simp at h'
      rw [e1.1] at h ⊢
      simp at h
      rw [h.1, h'.1]
      have e0 : ∀ X : q_S, q_P (qs_P (qs_P X 1600 b3 (some b1)) 2009 b (some b3)) 1600 b3 = some b1 := fun X => by rw [p_Pn (fun y => absurd y.1 (by decide)), p_Ps]
      exact e0 _
    · have : ∀ q ∈ c_fl, q.1 ≠ 1600 := by decide
      exact absurd ((ka _ _).mp h).1 (this q hq)
    · rw [ko, ko]
      exact ⟨⟨fun z => absurd z.1 (by decide), fun z => absurd z.2 (by omega)⟩, fun a b' h => absurd ((ko _ _).mp ⟨_, h⟩).1 (by decide)⟩
    · refine ⟨fun j hj => ?_, fun a h => ?_⟩
      · have : i = j := by
          unfold c_qu at hj
          split at hj
          · injection hj
          · cases hj
        rw [ko, ko, this]
        exact ⟨fun z => ⟨Or.inr rfl, z.2⟩, fun z => ⟨Or.inl rfl, z.2⟩⟩
      · have e1 := ((ko _ _).mp ⟨_, h⟩).2
        rw [e1, qu]
        refine ⟨fun j b' hj h' => ?_, fun z => by cases z⟩
        simp at h h'
        rw [h.1, h'.1]
        exact if_pos ⟨rfl, rfl⟩
    · have := ((ko _ _).mp h).1
      omega
    · have r3 := krA _ _ (maA 1003 (by decide) p' m)
      have r5 := krA _ _ (maA 1005 (by decide) p' m)
      refine ⟨fun b' hj h => ?_, fun h => ?_, fun b' hj h => ?_, fun h => ?_⟩
      · have := ((ko _ _).mp ⟨_, h⟩).1
        omega
      · exact (a3 _ r3).2.2.2.2 j (fun z => absurd (g_injA (maA 1003 (by decide) p' m) ma z.1).1 (by decide))
      · have z := (ko _ _).mp ⟨_, h⟩
        have e1 : p' = p := by omega
        have e2 : j = 8 * s + n := by omega
        simp at h
        rw [e1, e2, h.1]
        exact if_pos ⟨rfl, rfl⟩
      · refine (a3 _ r5).2.2.2.2 j (fun z => h ?_)
        have e1 := (g_injA (maA 1005 (by decide) p' m) ma z.1).2
        rw [ko, e1, z.2]
        exact ⟨n8, Or.inl rfl, rfl⟩
    · have := ((ko _ _).mp h).1
      omega
    · have r0 := krA _ _ (maA 1200 (by decide) 0 m6)
      have r2 := krA _ _ (maA 1202 (by decide) 0 m6)
      exact ⟨fun b' _ h => by have := ((ko _ _).mp ⟨_, h⟩).1; omega, fun _ => (a3 _ r0).2.2.2.2 j (fun z => absurd (g_injA (maA 1200 (by decide) 0 m6) ma z.1).1 (by decide)), fun b' _ h => by have := ((ko _ _).mp ⟨_, h⟩).1; omega, fun _ => (a3 _ r2).2.2.2.2 j (fun z => absurd (g_injA (maA 1202 (by decide) 0 m6) ma z.1).1 (by decide))⟩
  have lm : ∀ {c i : Nat}, c_mk (c_xt L (lno [(b, (10, 48 * p + (8 * s + n))), (b3, (8, 48 * p + (8 * s + n)))]) (lno [(b1, (1600, 48 * p + (8 * s + n)))]) (lbo [(b, (10, 48 * p + (8 * s + n))), (b3, (8, 48 * p + (8 * s + n)))]) (lbo [(b1, (1600, 48 * p + (8 * s + n)))]) (fun _ _ => 0)) c i ↔ lk [(b, (10, 48 * p + (8 * s + n))), (b3, (8, 48 * p + (8 * s + n)))] c i ∨ (¬ lk [(b, (10, 48 * p + (8 * s + n))), (b3, (8, 48 * p + (8 * s + n)))] c i ∧ c_mk L c i) := fun {c i} => l_mk gE no (fun x hx => by
    simp only [List.mem_cons, List.not_mem_nil, or_false] at hx
    rcases hx with rfl | rfl
    · exact hb
    · exact f3)
  have ln : ∀ {f i : Nat}, f ≠ 1600 → c_ln (c_xt L (lno [(b, (10, 48 * p + (8 * s + n))), (b3, (8, 48 * p + (8 * s + n)))]) (lno [(b1, (1600, 48 * p + (8 * s + n)))]) (lbo [(b, (10, 48 * p + (8 * s + n))), (b3, (8, 48 * p + (8 * s + n)))]) (lbo [(b1, (1600, 48 * p + (8 * s + n)))]) (fun _ _ => 0)) f i = c_ln L f i := fun {f i} h => xt_lnn (fun z => h ((ka _ _).mp ((l_nO na).mp z)).1)
  have up : ∀ {c i : Nat}, c_mk L c i → c_mk (c_xt L (lno [(b, (10, 48 * p + (8 * s + n))), (b3, (8, 48 * p + (8 * s + n)))]) (lno [(b1, (1600, 48 * p + (8 * s + n)))]) (lbo [(b, (10, 48 * p + (8 * s + n))), (b3, (8, 48 * p + (8 * s + n)))]) (lbo [(b1, (1600, 48 * p + (8 * s + n)))]) (fun _ _ => 0)) c i := fun {c i} m => by
    by_cases z : lk [(b, (10, 48 * p + (8 * s + n))), (b3, (8, 48 * p + (8 * s + n)))] c i
    · exact lm.mpr (Or.inl z)
    · exact lm.mpr (Or.inr ⟨z, m⟩)
  have old : ∀ {c i : Nat}, c ≠ 10 → c ≠ 8 → c_mk (c_xt L (lno [(b, (10, 48 * p + (8 * s + n))), (b3, (8, 48 * p + (8 * s + n)))]) (lno [(b1, (1600, 48 * p + (8 * s + n)))]) (lbo [(b, (10, 48 * p + (8 * s + n))), (b3, (8, 48 * p + (8 * s + n)))]) (lbo [(b1, (1600, 48 * p + (8 * s + n)))]) (fun _ _ => 0)) c i → c_mk L c i := fun {c i} hc hd m => by
    rcases lm.mp m with h | h
    · have := ((ko _ _).mp h).1
      omega
    · exact h.2
  have li' : LI (c_xt L (lno [(b, (10, 48 * p + (8 * s + n))), (b3, (8, 48 * p + (8 * s + n)))]) (lno [(b1, (1600, 48 * p + (8 * s + n)))]) (lbo [(b, (10, 48 * p + (8 * s + n))), (b3, (8, 48 * p + (8 * s + n)))]) (lbo [(b1, (1600, 48 * p + (8 * s + n)))]) (fun _ _ => 0)) := by
    refine ⟨fun p' m => ?_, fun i m => ?_, fun c m => ?_, fun p' j hj m => ?_, fun p' j hj m => ?_, fun c i m => ?_, fun i m => ?_, fun p' m => up (li.2.2.2.2.2.2.2 p' (old (by decide) (by decide) m))⟩
    · rw [ln (by decide), ln (by decide)]
      exact li.1 p' (old (by decide) (by decide) m)
    · by_cases z : i = 48 * p + (8 * s + n)
      · rw [xt_ln ((l_nO na).mpr ((ka _ _).mpr ⟨rfl, z⟩))]
        decide
      · rw [xt_lnn (fun y => z ((ka _ _).mp ((l_nO na).mp y)).2)]
        rcases lm.mp m with h | h
        · exact absurd ((ko _ _).mp h).2 z
        · exact li.2.1 i h.2
    · rw [ln (by decide), ln (by decide)]
      exact li.2.2.1 c (old (by decide) (by decide) m)
    · exact up (li.2.2.2.1 p' j hj (old (by decide) (by decide) m))
    · rcases lm.mp m with h | h
      · have := ((ko _ _).mp h).2
        have : p' = p := by omega
        rw [this]
        exact up m5
      · exact up (li.2.2.2.2.1 p' j hj h.2)
    · rcases lm.mp m with h | h
      · have := ((ko _ _).mp h).2
        omega
      · exact li.2.2.2.2.2.1 c i h.2
    · rcases lm.mp m with h | h
      · have := ((ko _ _).mp h).2
        exact Or.inl ⟨by omega, (lm.mpr (Or.inl ((ko _ _).mpr ⟨Or.inl rfl, this⟩)))⟩
      · rcases li.2.2.2.2.2.2.1 i h.2 with h | h
        · exact Or.inl ⟨h.1, up h.2⟩
        · exact Or.inr ⟨h.1, up h.2⟩
  obtain ⟨wd', cs'⟩ := NEW_WD wd cs a3 nh li' (fun f i x hd _ hx => tg_xt (fun c i z => by have := ((ko _ _).mp ((l_nO no).mp z)).2; omega) (fun c i z => by have := ((ka _ _).mp ((l_nO na).mp z)).2; omega) (ri f i x hd hx))
  have lx : LX L (c_xt L (lno [(b, (10, 48 * p + (8 * s + n))), (b3, (8, 48 * p + (8 * s + n)))]) (lno [(b1, (1600, 48 * p + (8 * s + n)))]) (lbo [(b, (10, 48 * p + (8 * s + n))), (b3, (8, 48 * p + (8 * s + n)))]) (lbo [(b1, (1600, 48 * p + (8 * s + n)))]) (fun _ _ => 0)) := LX_xt gE nh (fun c i z m => by
    have y := (ko _ _).mp ((l_nO no).mp z)
    rcases y with ⟨y | y, y'⟩
    · rw [y, y'] at m
      exact m10 m
    · rw [y, y'] at m
      rcases li.2.2.2.2.2.2.1 _ m with h | h
      · exact m10 h.2
      · omega)
  have m10' : c_mk (c_xt L (lno [(b, (10, 48 * p + (8 * s + n))), (b3, (8, 48 * p + (8 * s + n)))]) (lno [(b1, (1600, 48 * p + (8 * s + n)))]) (lbo [(b, (10, 48 * p + (8 * s + n))), (b3, (8, 48 * p + (8 * s + n)))]) (lbo [(b1, (1600, 48 * p + (8 * s + n)))]) (fun _ _ => 0)) 10 (48 * p + (8 * s + n)) := lm.mpr (Or.inl ((ko _ _).mpr ⟨Or.inl rfl, rfl⟩))
  have e5 := (lx.1 _ _ m5).2
  have e10 : c_ob (c_xt L (lno [(b, (10, 48 * p + (8 * s + n))), (b3, (8, 48 * p + (8 * s + n)))]) (lno [(b1, (1600, 48 * p + (8 * s + n)))]) (lbo [(b, (10, 48 * p + (8 * s + n))), (b3, (8, 48 * p + (8 * s + n)))]) (lbo [(b1, (1600, 48 * p + (8 * s + n)))]) (fun _ _ => 0)) 10 (48 * p + (8 * s + n)) = b := (xt_ob ((l_nO no).mpr ((ko _ _).mpr ⟨Or.inl rfl, rfl⟩))).trans (lbo_s no (by simp))
  have fin := c_addT0 (K := K) (bc := bc) (bs := bs) (u := u) (v := v) (name := name) (Q := Q) wd' (up m5) m10' hs (K1 := k_xt K (lno [(b, (10, 48 * p + (8 * s + n))), (b3, (8, 48 * p + (8 * s + n)))]) (lno [(b1, (1600, 48 * p + (8 * s + n)))]) (lbo [(b, (10, 48 * p + (8 * s + n))), (b3, (8, 48 * p + (8 * s + n)))]) (lbo [(b1, (1600, 48 * p + (8 * s + n)))])) ((k_xtA (fun z => absurd ((ka _ _).mp ((l_nO na).mp z)).1 (by decide))).trans h6) (fun f i h => k_xtI (fun z => h (by have := (ko _ _).mp ((l_nO no).mp z); omega))) (fun f i h => k_xtJ (fun z => h (by have := (ko _ _).mp ((l_nO no).mp z); omega))) (fun f i j h => k_xtA (fun z => h (by have := (ka _ _).mp ((l_nO na).mp z); exact ⟨by rw [this.1]; decide, this.2⟩))) (fun f i h => k_xtP (fun z => h (by have := (ko _ _).mp ((l_nO no).mp z); omega))) (fun K' h => hQ _ _ K' wd' lx m10' h)
  rw [cs', e5, e10] at fin
  exact fin
theorem c_addThing {e : EV} {L : c_L} {T : q_S} {K : c_S} {p s n bc bs : Nat} {name : Int64} {Q : Option Value → q_S → Prop} (wd : WD e L T) (ri : RI K) (m5 : c_mk L 5 p) (hp : p < 16) (hs : s < 5) (hn : n < (if s = 4 then 16 else 8)) (h6 : c_A K 1006 p s = nI n) (hbc : (if s = 2 then 3 else 1) ≤ bc) (hbs : (if s = 2 then 14 else 10) ≤ bs)
  (hQ : ∀ (L' : c_L) (T' : q_S) (K' : c_S), WD e L' T' → LX L L' → c_mk L' 10 (48 * p + (8 * s + n)) → NT K K' p s n name → Q (some (va_rf (some (c_ob L' 10 (48 * p + (8 * s + n)))))) (c_E L' K' T')) : wm_X5_addThing bc bs (c_E L K T) (c_ob L 5 p) (nI s) name Q := by
  have g := WD_g wd
  have ma := c_gA g 1005 rfl (by decide) m5
  have ma6 := c_gA g 1006 rfl (by decide) m5
  have n8 : 8 * s + n < 48 := by
    by_cases z : s = 4
    · rw [if_pos z] at hn; omega
    · rw [if_neg z] at hn; omega
  refine ⟨c_gk g m5 6 rfl, _, c_ga g 1006 rfl rfl (by decide) m5, c_gr g ma6 21 rfl, ?_⟩
  have ix : nI s * 8 + nI n = nI (8 * s + n) := by
    have : ∀ s : Nat, s < 5 → nI s * 8 = nI (8 * s) := by decide
    rw [this s hs, nI_add]
  rw [c_gN g ma6 5 (by decide), nI_clamp (by omega), c_eA ma6, h6, ix]
  refine ⟨vp_in_nI hs (by decide), _, c_ga g 1005 rfl rfl (by decide) m5, c_gr g ma 27 rfl, ?_⟩
  rw [c_gN g ma 48 (by decide), nI_clamp (by omega), c_g10 g m5]
  refine ⟨vp_in_nI n8 (by decide), ?_⟩
  by_cases m10 : c_mk L 10 (48 * p + (8 * s + n))
  · rw [c_m10 n8 m10]
    exact nf_ (by intro z; cases z) (c_addT0 wd m5 m10 hs h6 (fun _ _ _ => rfl) (fun _ _ _ => rfl) (fun _ _ _ _ => rfl) (fun _ _ _ => rfl) (fun K' h => hQ L T K' wd LX_0 m10 h))
  · have e10 : c_e10 L p (8 * s + n) = none := if_neg (fun z => m10 z.2)
    have hb1 : 1 ≤ bc := by
      by_cases z : s = 2
      · rw [if_pos z] at hbc; omega
      · rw [if_neg z] at hbc; omega
    have hb10 : 10 ≤ bs := by
      by_cases z : s = 2
      · rw [if_pos z] at hbs; omega
      · rw [if_neg z] at hbs; omega
    rw [e10]
    obtain ⟨wd1, cs1⟩ := WD_E (K := K) wd
    have k6 : q_K (c_E L K T) (c_ob L 5 p) = 6 := c_gk g m5 6 rfl
    have p05 : q_P (c_E L K T) 1005 (c_ob L 5 p) = some (c_ar L 1005 p) := c_ga g 1005 rfl rfl (by decide) m5
    have k27 : q_K (c_E L K T) (c_ar L 1005 p) = 27 := c_gr g ma 27 rfl
    have n48 : q_N (c_E L K T) (c_ar L 1005 p) = 48 := c_gN g ma 48 (by decide)
    generalize c_E L K T = S at *
    refine nt_ rfl ⟨⟨by omega, by omega⟩, fun b hb => ?_⟩
    have a1 : AGR S (qs_O S 10 b) (fun a j => a = c_ar L 1005 p ∧ j = 8 * s + n) := ag_O ag_0 hb
    by_cases s2 : s = 2
    · rw [if_pos s2] at hbc hbs
      refine nt_ (by rw [s2]; rfl) ⟨_, rfl, 2, 4, ⟨by omega, by omega⟩, bf_ (by decide) ⟨⟨by omega, by omega⟩, fun b3 hb3 => ⟨1, 0, ⟨by omega, by omega⟩, ⟨by omega, by omega⟩, fun b1 hb1 => ?_⟩⟩⟩
      have f3 := ag_f a1 hb3
      have a1' := ag_O (c := 8) a1 f3
      have f1 := ag_f a1' hb1
      have a2 := ag_P (f := 2009) (v := some b3) (ag_P (f := 1600) (v := some b1) (ag_R (k := 21) (n := 0) a1' f1) f3) hb
      have n3 : b3 ≠ b := fun z => by
        rw [z] at hb3
        exact absurd hb3 (by show ¬ (if b = b then 11 else _) = 0; rw [if_pos rfl]; decide)
      have n1 : b1 ≠ b3 ∧ b1 ≠ b := ⟨fun z => by
        rw [z] at hb1
        exact absurd hb1 (by show ¬ (if b3 = b3 then 9 else _) = 0; rw [if_pos rfl]; decide), fun z => by
        rw [z] at hb1
        exact absurd hb1 (by show ¬ (if b = b3 then 9 else if b = b then 11 else _) = 0; rw [if_neg (Ne.symm n3), if_pos rfl]; decide)⟩
      have kb : (if b = b1 then 21 else if b = b3 then 9 else if b = b then 11 else q_K S b) = 11 := by rw [if_neg (Ne.symm n1.2), if_neg (Ne.symm n3), if_pos rfl]
      refine ⟨(if_neg (Ne.symm n1.1)).trans (if_pos rfl), rfl, kb, rfl, ag_k a2 k6, _, ((a2 _ (by rw [k6]; decide)).2.2.1 1005).2.2.trans p05, ag_k a2 k27, _, rfl, kb, ?_, ?_⟩
      · rw [(a2 _ (by rw [k27]; decide)).2.1, n48]
        exact vp_in_nI n8 (by decide)
      · rw [nI_clamp (by omega)]
        exact c_addTB wd1 cs1 ri m5 hp hs s2 hn h6 m10 hb hb3 hb1 hQ
    · refine nf_ ((by decide : ∀ s : Nat, s < 5 → s ≠ 2 → ¬ nI s = 2) s hs s2) ⟨_, rfl, 0, 0, ⟨by omega, by omega⟩, bt_ rfl ⟨if_pos rfl, rfl, ?_⟩⟩
      have a2 := ag_P (f := 2009) (v := none) a1 hb
      refine ⟨ag_k a2 k6, _, ((a2 _ (by rw [k6]; decide)).2.2.1 1005).2.2.trans p05, ag_k a2 k27, _, rfl, if_pos rfl, ?_, ?_⟩
      · rw [(a2 _ (by rw [k27]; decide)).2.1, n48]
        exact vp_in_nI n8 (by decide)
      · rw [nI_clamp (by omega)]
        exact c_addTN wd1 cs1 ri m5 hp hs s2 hn h6 m10 hb hQ
