theorem AV_kind {B : Nat} {K0 : c_S} {R0 : r_S} {K : c_S} {R : r_S} (av : AV B K0 R0 K R) : (c_I K 1808 0 = 0 ∧ r_I R 2406 = 0) ∨ (c_I K 1808 0 = 3 ∧ r_I R 2406 = 2 ∧ c_I K 1809 0 = r_I R 2408) ∨ (c_I K 1808 0 = 4 ∧ r_I R 2406 = 3 ∧ c_I K 1809 0 = r_I R 2408) ∨ (c_I K 1808 0 = 5 ∧ r_I R 2406 = 4 ∧ c_I K 1809 0 = r_I R 2408) ∨ (c_I K 1808 0 = 2 ∧ r_I R 2406 = 1) := by
  obtain ⟨_, ⟨_, _, _, _, _, _, _, _, tk⟩, n1, _⟩ := av
  rcases tk with h | h | h | h | h | h
  · exact Or.inl h
  · exact absurd h.1 n1
  · exact Or.inr (Or.inl h)
  · exact Or.inr (Or.inr (Or.inl h))
  · exact Or.inr (Or.inr (Or.inr (Or.inl ⟨h.1, h.2.1, h.2.2.1⟩)))
  · exact Or.inr (Or.inr (Or.inr (Or.inr ⟨h.1, h.2.1⟩)))
theorem AV_pl {B : Nat} {K0 : c_S} {R0 : r_S} {K : c_S} {R : r_S} (av : AV B K0 R0 K R) : c_I K 1811 0 = r_I R 2407 := by
  obtain ⟨_, ⟨_, _, _, _, _, _, e1, e2, _⟩, _⟩ := av
  rw [e1, e2]
theorem AV_n5 {B : Nat} {K0 : c_S} {R0 : r_S} {K : c_S} {R : r_S} (av : AV B K0 R0 K R) : ¬ r_I R 2406 = 5 := by
  intro z
  rcases AV_kind av with h | h | h | h | h
  · rw [z] at h; exact absurd h.2 (by decide)
  · rw [z] at h; exact absurd h.2.1 (by decide)
  · rw [z] at h; exact absurd h.2.1 (by decide)
  · rw [z] at h; exact absurd h.2.1 (by decide)
  · rw [z] at h; exact absurd h.2 (by decide)
theorem AV_key {B : Nat} {K0 : c_S} {R0 : r_S} {K : c_S} {R : r_S} (av : AV B K0 R0 K R) : (c_I K 1808 0 = 5 ↔ r_I R 2406 = 4) ∧ (c_I K 1808 0 = 5 → c_I K 1809 0 = r_I R 2408) := by
  rcases AV_kind av with h | h | h | h | h <;> (rw [h.1]; first | rw [h.2] | rw [h.2.1]) <;> first | exact ⟨by decide, fun z => absurd z (by decide)⟩ | exact ⟨by decide, fun _ => h.2.2⟩
theorem AV_sign {B : Nat} {K0 : c_S} {R0 : r_S} {K : c_S} {R : r_S} (av : AV B K0 R0 K R) : (c_I K 1808 0 = 4 ↔ r_I R 2406 = 3) ∧ (c_I K 1808 0 = 4 → c_I K 1809 0 = r_I R 2408) := by
  rcases AV_kind av with h | h | h | h | h <;> (rw [h.1]; first | rw [h.2] | rw [h.2.1]) <;> first | exact ⟨by decide, fun z => absurd z (by decide)⟩ | exact ⟨by decide, fun _ => h.2.2⟩
theorem AV_num {B : Nat} {K0 : c_S} {R0 : r_S} {K : c_S} {R : r_S} (av : AV B K0 R0 K R) : (c_I K 1808 0 = 3 ↔ r_I R 2406 = 2) ∧ (c_I K 1808 0 = 3 → c_I K 1809 0 = r_I R 2408) := by
  rcases AV_kind av with h | h | h | h | h <;> (rw [h.1]; first | rw [h.2] | rw [h.2.1]) <;> first | exact ⟨by decide, fun z => absurd z (by decide)⟩ | exact ⟨by decide, fun _ => h.2.2⟩
theorem AV_name {B : Nat} {K0 : c_S} {R0 : r_S} {K : c_S} {R : r_S} (av : AV B K0 R0 K R) : (c_I K 1808 0 = 2 ↔ r_I R 2406 = 1) ∧ (c_I K 1808 0 = 0 ↔ r_I R 2406 = 0) := by
  rcases AV_kind av with h | h | h | h | h <;> (rw [h.1]; first | rw [h.2] | rw [h.2.1]) <;> exact ⟨by decide, by decide⟩
theorem g_m9 {L : c_L} {T : q_S} (g : c_G L T) : c_mk L 9 0 := g.2.2.2.2.2.2.2.2.2.2.1.2.1
theorem g_m6 {L : c_L} {T : q_S} (g : c_G L T) : c_mk L 6 0 := g.2.2.2.2.2.2.2.2.2.2.1.2.2.1
theorem K10 {L : c_L} {T : q_S} {K : c_S} (g : c_G L T) : q_K (c_E L K T) (c_ob L 9 0) = 10 := c_gk g (g_m9 g) 10 rfl
theorem K7 {L : c_L} {T : q_S} {K : c_S} (g : c_G L T) : q_K (c_E L K T) (c_ob L 6 0) = 7 := c_gk g (g_m6 g) 7 rfl
theorem P18 {L : c_L} {T : q_S} {K : c_S} (g : c_G L T) : q_P (c_E L K T) 1800 (c_ob L 9 0) = some (c_ob L 6 0) := c_gp g 1800 6 rfl rfl (by decide) (g_m9 g)
theorem I9 {L : c_L} {T : q_S} {K : c_S} (g : c_G L T) (f : Nat) (h : f / 200 = 9) : q_I (c_E L K T) f (c_ob L 9 0) = c_I K f 0 := c_eI (g_m9 g) h
theorem I6 {L : c_L} {T : q_S} {K : c_S} (g : c_G L T) (f : Nat) (h : f / 200 = 6) : q_I (c_E L K T) f (c_ob L 6 0) = c_I K f 0 := c_eI (g_m6 g) h
theorem u_sees1 {L : c_L} {T : q_S} {K : c_S} {k : Int32} (g : c_G L T) (h : c_I K 1808 0 = 5 ∧ c_I K 1809 0 = k) (Q : Option Value → q_S → Prop) (h' : Q (some (.int 1)) (c_E L K T)) : wm_X9_sees (c_E L K T) (c_ob L 9 0) k Q := ⟨K10 g, by
  rw [I9 g 1808 rfl, I9 g 1809 rfl]
  exact nt_ h.1 (nt_ h.2 ⟨nb_1, h'⟩)⟩
theorem u_sees0 {L : c_L} {T : q_S} {K : c_S} {k : Int32} (g : c_G L T) (h : ¬ (c_I K 1808 0 = 5 ∧ c_I K 1809 0 = k)) (Q : Option Value → q_S → Prop) (h' : Q (some (.int 0)) (c_E L K T)) : wm_X9_sees (c_E L K T) (c_ob L 9 0) k Q := ⟨K10 g, by
  rw [I9 g 1808 rfl, I9 g 1809 rfl]
  by_cases c : c_I K 1808 0 = 5
  · exact nt_ c (nf_ (fun z => h ⟨c, z⟩) ⟨nb_0, h'⟩)
  · exact nf_ c ⟨nb_0, h'⟩⟩
theorem u_seesSign1 {L : c_L} {T : q_S} {K : c_S} {k : Int32} (g : c_G L T) (h : c_I K 1808 0 = 4 ∧ c_I K 1809 0 = k) (Q : Option Value → q_S → Prop) (h' : Q (some (.int 1)) (c_E L K T)) : wm_X9_seesSign (c_E L K T) (c_ob L 9 0) k Q := ⟨K10 g, by
  rw [I9 g 1808 rfl, I9 g 1809 rfl]
  exact nt_ h.1 (nt_ h.2 ⟨nb_1, h'⟩)⟩
theorem u_seesSign0 {L : c_L} {T : q_S} {K : c_S} {k : Int32} (g : c_G L T) (h : ¬ (c_I K 1808 0 = 4 ∧ c_I K 1809 0 = k)) (Q : Option Value → q_S → Prop) (h' : Q (some (.int 0)) (c_E L K T)) : wm_X9_seesSign (c_E L K T) (c_ob L 9 0) k Q := ⟨K10 g, by
  rw [I9 g 1808 rfl, I9 g 1809 rfl]
  by_cases c : c_I K 1808 0 = 4
  · exact nt_ c (nf_ (fun z => h ⟨c, z⟩) ⟨nb_0, h'⟩)
  · exact nf_ c ⟨nb_0, h'⟩⟩
theorem v_key1 {R : r_S} {k : Int32} (r0 : r_I R 2411 = 0) (h : r_I R 2406 = 4 ∧ r_I R 2408 = k) (Q : Option Value → r_S → Prop) (h' : Q (some (.int 1)) R) : rm_X12_isKey R k Q := nt_ r0 (nt_ h.1 (nt_ h.2 ⟨nb_1, h'⟩))
theorem v_key0 {R : r_S} {k : Int32} (r0 : r_I R 2411 = 0) (h : ¬ (r_I R 2406 = 4 ∧ r_I R 2408 = k)) (Q : Option Value → r_S → Prop) (h' : Q (some (.int 0)) R) : rm_X12_isKey R k Q := nt_ r0 (by
  by_cases c : r_I R 2406 = 4
  · exact nt_ c (nf_ (fun z => h ⟨c, z⟩) ⟨nb_0, h'⟩)
  · exact nf_ c ⟨nb_0, h'⟩)
theorem v_sign1 {R : r_S} {k : Int32} (r0 : r_I R 2411 = 0) (h : r_I R 2406 = 3 ∧ r_I R 2408 = k) (Q : Option Value → r_S → Prop) (h' : Q (some (.int 1)) R) : rm_X12_isSign R k Q := nt_ r0 (nt_ h.1 (nt_ h.2 ⟨nb_1, h'⟩))
theorem v_sign0 {R : r_S} {k : Int32} (r0 : r_I R 2411 = 0) (h : ¬ (r_I R 2406 = 3 ∧ r_I R 2408 = k)) (Q : Option Value → r_S → Prop) (h' : Q (some (.int 0)) R) : rm_X12_isSign R k Q := nt_ r0 (by
  by_cases c : r_I R 2406 = 3
  · exact nt_ c (nf_ (fun z => h ⟨c, z⟩) ⟨nb_0, h'⟩)
  · exact nf_ c ⟨nb_0, h'⟩)
theorem AV_K {B : Nat} {K0 : c_S} {R0 : r_S} {K : c_S} {R : r_S} {k : Int32} (av : AV B K0 R0 K R) : (c_I K 1808 0 = 5 ∧ c_I K 1809 0 = k) ↔ (r_I R 2406 = 4 ∧ r_I R 2408 = k) := by
  have := AV_key av
  exact ⟨fun h => ⟨this.1.mp h.1, (this.2 h.1).symm.trans h.2⟩, fun h => ⟨this.1.mpr h.1, (this.2 (this.1.mpr h.1)).trans h.2⟩⟩
theorem AV_S {B : Nat} {K0 : c_S} {R0 : r_S} {K : c_S} {R : r_S} {k : Int32} (av : AV B K0 R0 K R) : (c_I K 1808 0 = 4 ∧ c_I K 1809 0 = k) ↔ (r_I R 2406 = 3 ∧ r_I R 2408 = k) := by
  have := AV_sign av
  exact ⟨fun h => ⟨this.1.mp h.1, (this.2 h.1).symm.trans h.2⟩, fun h => ⟨this.1.mpr h.1, (this.2 (this.1.mpr h.1)).trans h.2⟩⟩
theorem f_adv {L : c_L} {T : q_S} {B : Nat} {K0 K : c_S} {R0 R : r_S} (g : c_G L T) (h2 : ∃ z : Nat, q_K T z = 31 ∧ q_N T z = 2) (av : AV B K0 R0 K R) :
  (∃ (K' : c_S) (R' : r_S), AV B K0 R0 K' R' ∧ TOKf K K' R R' ∧ (∀ (bc bs : Nat) (Q : Option Value → q_S → Prop) (E : String → q_S → Prop), Q none (c_E L K' T) → wm_X9_advance bc bs (c_E L K T) (c_ob L 9 0) Q E) ∧ ∀ Q : Option Value → r_S → Prop, Q none R' → rm_X12_next R Q) ∨
  ∃ (K' : c_S) (R' : r_S) (w q : Int32), CZ K0 K' ∧ (FD w q R0 R' ∧ r_PE R') ∧ (∀ (bc bs : Nat) (Q : Option Value → q_S → Prop) (E : String → q_S → Prop), 1 ≤ bc → 6 ≤ bs → E "java/lang/IllegalArgumentException" (c_E L (k_fl K' w q) T) → wm_X9_advance bc bs (c_E L K T) (c_ob L 9 0) Q E) ∧ ∀ Q : Option Value → r_S → Prop, Q none R' → rm_X12_next R Q := by
  obtain ⟨tx, ⟨a, p, h1, h2', h3, h4, _⟩, _, r11, rz, cz⟩ := av
  exact f_adv0 g h2 tx h2' h3 h4 r11 rz cz
/-- the word at hand is wrong: both fail with w at its place -/
theorem f_fl {L : c_L} {T : q_S} {B : Nat} {K0 K : c_S} {R0 R : r_S} {w z : Int32} (g : c_G L T) (av : AV B K0 R0 K R) (hw : 0 < w.toInt) :
  ∃ R' : r_S, CZ K0 K ∧ FD w z R0 R' ∧ (∀ (bc bs : Nat) (Q : Option Value → q_S → Prop) (E : String → q_S → Prop), 1 ≤ bc → 6 ≤ bs → E "java/lang/IllegalArgumentException" (c_E L (k_fl K w z) T) → wm_X9_fail bc bs (c_E L K T) (c_ob L 9 0) w z Q E) ∧ (∀ Q : Option Value → r_S → Prop, Q (some (.int 0)) R' → rm_X12_fail R w z Q) ∧ (z = r_I R 2407 → ∀ Q : Option Value → r_S → Prop, Q (some (.int 0)) R' → rm_X12_failHere R w Q) := by
  refine ⟨rs_I (rs_I R 2411 w) 2412 z, av.2.2.2.2.2, ⟨RZ_I (RZ_I av.2.2.2.2.1 (by decide)) (by decide), Or.inl ⟨hw, rfl, rfl⟩⟩, fun bc bs Q E hu hv h => um_fail g hu hv h, fun Q h => nt_ av.2.2.2.1 h, fun e Q h => nf_ (AV_n5 av) (nt_ av.2.2.2.1 ⟨_, rfl, nb_0, ?_⟩)⟩
  rw [← e]
  exact h
theorem f_key {L : c_L} {T : q_S} {B : Nat} {K0 K : c_S} {R0 R : r_S} {k : Int32} (g : c_G L T) (h2 : ∃ z : Nat, q_K T z = 31 ∧ q_N T z = 2) (av : AV B K0 R0 K R) :
  (∃ (K' : c_S) (R' : r_S), AV B K0 R0 K' R' ∧ TOKf K K' R R' ∧ (∀ (bc bs : Nat) (Q : Option Value → q_S → Prop) (E : String → q_S → Prop), Q none (c_E L K' T) → wm_X9_expect bc bs (c_E L K T) (c_ob L 9 0) k Q E) ∧ ∀ Q : Option Value → r_S → Prop, Q (some (.int 1)) R' → rm_X12_key R k Q) ∨
  ∃ (K' : c_S) (R' : r_S) (w q x : Int32), CZ K0 K' ∧ FD w q R0 R' ∧ (∀ (bc bs : Nat) (Q : Option Value → q_S → Prop) (E : String → q_S → Prop), 1 ≤ bc → 6 ≤ bs → E "java/lang/IllegalArgumentException" (c_E L (k_fl K' w q) T) → wm_X9_expect bc bs (c_E L K T) (c_ob L 9 0) k Q E) ∧ ∀ Q : Option Value → r_S → Prop, Q (some (.int x)) R' → rm_X12_key R k Q := by
  have r0 := av.2.2.2.1
  have le : r_I R 2411 ≤ 0 := by rw [r0]; decide
  by_cases c : c_I K 1808 0 = 5 ∧ c_I K 1809 0 = k
  · have c' := (AV_K av).mp c
    have cl : ∀ (bc bs : Nat) (Q : Option Value → q_S → Prop) (E : String → q_S → Prop), (∃ m m' : Nat, (0 + m ≤ bc ∧ 0 + m' ≤ bs) ∧ wm_X9_advance m m' (c_E L K T) (c_ob L 9 0) (fun r S' => r = none ∧ Q none S') E) → wm_X9_expect bc bs (c_E L K T) (c_ob L 9 0) k Q E := fun bc bs Q E h => ⟨K10 g, u_sees1 g c _ ⟨_, rfl, nf_ (by decide) ⟨K10 g, h⟩⟩⟩
    have rl : ∀ Q : Option Value → r_S → Prop, rm_X12_next R (fun r R' => r = none ∧ Q (some (.int 1)) R') → rm_X12_key R k Q := fun Q h => bt_ le (v_key1 r0 c' _ ⟨_, rfl, nf_ (by decide) h⟩)
    rcases f_adv g h2 av with ⟨K', R', a1, a2, a3, a4⟩ | ⟨K', R', w, q, a1, ⟨a2, _⟩, a3, a4⟩
    · exact Or.inl ⟨K', R', a1, a2, fun bc bs Q E h => cl bc bs Q E ⟨0, 0, ⟨by omega, by omega⟩, a3 _ _ _ _ ⟨rfl, h⟩⟩, fun Q h => rl Q (a4 _ ⟨rfl, h⟩)⟩
    · exact Or.inr ⟨K', R', w, q, 1, a1, a2, fun bc bs Q E hu hv h => cl bc bs Q E ⟨1, 6, ⟨by omega, by omega⟩, a3 _ _ _ _ (by omega) (by omega) h⟩, fun Q h => rl Q (a4 _ ⟨rfl, h⟩)⟩
  · have c' := fun z => c ((AV_K (k := k) av).mpr z)
    obtain ⟨R', a1, a2, a3, a4, a5⟩ := f_fl (w := 1) (z := r_I R 2407) g av (by decide)
    refine Or.inr ⟨K, R', 1, r_I R 2407, 0, a1, a2, fun bc bs Q E hu hv h => ⟨K10 g, u_sees0 g c _ ⟨_, rfl, nt_ rfl ⟨K10 g, 1, 6, ⟨by omega, by omega⟩, ?_⟩⟩⟩, fun Q h => bt_ le (v_key0 r0 c' _ ⟨_, rfl, nt_ rfl (a5 rfl _ ⟨_, rfl, nb_0, h⟩)⟩)⟩
    rw [I9 g 1811 rfl, AV_pl av]
    exact a3 _ _ _ _ (by omega) (by omega) h
theorem f_sign {L : c_L} {T : q_S} {B : Nat} {K0 K : c_S} {R0 R : r_S} {k : Int32} (g : c_G L T) (h2 : ∃ z : Nat, q_K T z = 31 ∧ q_N T z = 2) (av : AV B K0 R0 K R) :
  (∃ (K' : c_S) (R' : r_S), AV B K0 R0 K' R' ∧ TOKf K K' R R' ∧ (∀ (bc bs : Nat) (Q : Option Value → q_S → Prop) (E : String → q_S → Prop), Q none (c_E L K' T) → wm_X9_expectSign bc bs (c_E L K T) (c_ob L 9 0) k Q E) ∧ ∀ Q : Option Value → r_S → Prop, Q (some (.int 1)) R' → rm_X12_sign R k Q) ∨
  ∃ (K' : c_S) (R' : r_S) (w q x : Int32), CZ K0 K' ∧ FD w q R0 R' ∧ (∀ (bc bs : Nat) (Q : Option Value → q_S → Prop) (E : String → q_S → Prop), 1 ≤ bc → 6 ≤ bs → E "java/lang/IllegalArgumentException" (c_E L (k_fl K' w q) T) → wm_X9_expectSign bc bs (c_E L K T) (c_ob L 9 0) k Q E) ∧ ∀ Q : Option Value → r_S → Prop, Q (some (.int x)) R' → rm_X12_sign R k Q := by
  have r0 := av.2.2.2.1
  have le : r_I R 2411 ≤ 0 := by rw [r0]; decide
  by_cases c : c_I K 1808 0 = 4 ∧ c_I K 1809 0 = k
  · have c' := (AV_S av).mp c
    have cl : ∀ (bc bs : Nat) (Q : Option Value → q_S → Prop) (E : String → q_S → Prop), (∃ m m' : Nat, (0 + m ≤ bc ∧ 0 + m' ≤ bs) ∧ wm_X9_advance m m' (c_E L K T) (c_ob L 9 0) (fun r S' => r = none ∧ Q none S') E) → wm_X9_expectSign bc bs (c_E L K T) (c_ob L 9 0) k Q E := fun bc bs Q E h => ⟨K10 g, u_seesSign1 g c _ ⟨_, rfl, nf_ (by decide) ⟨K10 g, h⟩⟩⟩
    have rl : ∀ Q : Option Value → r_S → Prop, rm_X12_next R (fun r R' => r = none ∧ Q (some (.int 1)) R') → rm_X12_sign R k Q := fun Q h => bt_ le (v_sign1 r0 c' _ ⟨_, rfl, nf_ (by decide) h⟩)
    rcases f_adv g h2 av with ⟨K', R', a1, a2, a3, a4⟩ | ⟨K', R', w, q, a1, ⟨a2, _⟩, a3, a4⟩
    · exact Or.inl ⟨K', R', a1, a2, fun bc bs Q E h => cl bc bs Q E ⟨0, 0, ⟨by omega, by omega⟩, a3 _ _ _ _ ⟨rfl, h⟩⟩, fun Q h => rl Q (a4 _ ⟨rfl, h⟩)⟩
    · exact Or.inr ⟨K', R', w, q, 1, a1, a2, fun bc bs Q E hu hv h => cl bc bs Q E ⟨1, 6, ⟨by omega, by omega⟩, a3 _ _ _ _ (by omega) (by omega) h⟩, fun Q h => rl Q (a4 _ ⟨rfl, h⟩)⟩
  · have c' := fun z => c ((AV_S (k := k) av).mpr z)
    obtain ⟨R', a1, a2, a3, a4, a5⟩ := f_fl (w := 1) (z := r_I R 2407) g av (by decide)
    refine Or.inr ⟨K, R', 1, r_I R 2407, 0, a1, a2, fun bc bs Q E hu hv h => ⟨K10 g, u_seesSign0 g c _ ⟨_, rfl, nt_ rfl ⟨K10 g, 1, 6, ⟨by omega, by omega⟩, ?_⟩⟩⟩, fun Q h => bt_ le (v_sign0 r0 c' _ ⟨_, rfl, nt_ rfl (a5 rfl _ ⟨_, rfl, nb_0, h⟩)⟩)⟩
    rw [I9 g 1811 rfl, AV_pl av]
    exact a3 _ _ _ _ (by omega) (by omega) h
theorem f_num {L : c_L} {T : q_S} {B : Nat} {K0 K : c_S} {R0 R : r_S} {c1 c2 c3 d1 d2 : Int32} (g : c_G L T) (h2 : ∃ z : Nat, q_K T z = 31 ∧ q_N T z = 2) (av : AV B K0 R0 K R) (h3 : ¬ c3 ≤ 0) (hq : ∀ v : Int32, v - v / c3 * c3 = 0 → ((¬ v < c1 ∧ ¬ c2 < v) ↔ (¬ v < d1 ∧ ¬ d2 < v))) :
  (∃ (K' : c_S) (R' : r_S) (n : Int32), AV B K0 R0 K' R' ∧ TOKf K K' R R' ∧ ((¬ n < d1 ∧ ¬ d2 < n) ∧ n - n / c3 * c3 = 0) ∧ (∀ (bc bs : Nat) (Q : Option Value → q_S → Prop) (E : String → q_S → Prop), Q (some (.int n)) (c_E L K' T) → wm_X9_number bc bs (c_E L K T) (c_ob L 9 0) c1 c2 c3 Q E) ∧ ∀ Q : Option Value → r_S → Prop, Q (some (.int n)) R' → rm_X12_number R d1 d2 c3 Q) ∨
  ∃ (K' : c_S) (R' : r_S) (w q x : Int32), CZ K0 K' ∧ FD w q R0 R' ∧ (∀ (bc bs : Nat) (Q : Option Value → q_S → Prop) (E : String → q_S → Prop), 1 ≤ bc → 6 ≤ bs → E "java/lang/IllegalArgumentException" (c_E L (k_fl K' w q) T) → wm_X9_number bc bs (c_E L K T) (c_ob L 9 0) c1 c2 c3 Q E) ∧ ∀ Q : Option Value → r_S → Prop, Q (some (.int x)) R' → rm_X12_number R d1 d2 c3 Q := by
  have r0 := av.2.2.2.1
  have le : r_I R 2411 ≤ 0 := by rw [r0]; decide
  have n0 : ¬ c3 = 0 := fun z => h3 (by rw [z]; decide)
  by_cases c : c_I K 1808 0 = 3
  · have c' := (AV_num av).1.mp c
    have ev := (AV_num av).2 c
    by_cases ok : (¬ r_I R 2408 < d1 ∧ ¬ d2 < r_I R 2408) ∧ r_I R 2408 - r_I R 2408 / c3 * c3 = 0
    · have ok' := (hq _ ok.2).mpr ok.1
      have cl : ∀ (bc bs : Nat) (Q : Option Value → q_S → Prop) (E : String → q_S → Prop), (∃ m m' : Nat, (0 + m ≤ bc ∧ 0 + m' ≤ bs) ∧ wm_X9_advance m m' (c_E L K T) (c_ob L 9 0) (fun r S' => r = none ∧ Q (some (.int (r_I R 2408))) S') E) → wm_X9_number bc bs (c_E L K T) (c_ob L 9 0) c1 c2 c3 Q E := fun bc bs Q E h => ⟨K10 g, by
        unfold wb_X9_number_17 wb_X9_number_55
        rw [I9 g 1808 rfl, I9 g 1809 rfl, ev]
        exact bt_ c ⟨K10 g, bf_ ok'.1 (bf_ ok'.2 (bf_ h3 ⟨n0, bt_ ok.2 ⟨K10 g, h⟩⟩))⟩⟩
      have rl : ∀ Q : Option Value → r_S → Prop, rm_X12_next R (fun r R' => r = none ∧ Q (some (.int (r_I R 2408))) R') → rm_X12_number R d1 d2 c3 Q := fun Q h => bt_ le (bt_ c' (bf_ ok.1.1 (bf_ ok.1.2 ⟨n0, bt_ ok.2 h⟩)))
      rcases f_adv g h2 av with ⟨K', R', a1, a2, a3, a4⟩ | ⟨K', R', w, q, a1, ⟨a2, _⟩, a3, a4⟩
      · exact Or.inl ⟨K', R', _, a1, a2, ok, fun bc bs Q E h => cl bc bs Q E ⟨0, 0, ⟨by omega, by omega⟩, a3 _ _ _ _ ⟨rfl, h⟩⟩, fun Q h => rl Q (a4 _ ⟨rfl, h⟩)⟩
      · exact Or.inr ⟨K', R', w, q, _, a1, a2, fun bc bs Q E hu hv h => cl bc bs Q E ⟨1, 6, ⟨by omega, by omega⟩, a3 _ _ _ _ (by omega) (by omega) h⟩, fun Q h => rl Q (a4 _ ⟨rfl, h⟩)⟩
    · obtain ⟨R', a1, a2, a3, a4, a5⟩ := f_fl (w := 5) (z := r_I R 2407) g av (by decide)
      refine Or.inr ⟨K, R', 5, r_I R 2407, r_I R 2408, a1, a2, fun bc bs Q E hu hv h => ⟨K10 g, ?_⟩, fun Q h => bt_ le (bt_ c' ?_)⟩
      · unfold wb_X9_number_17 wb_X9_number_46
        rw [I9 g 1808 rfl, I9 g 1809 rfl, I9 g 1811 rfl, AV_pl av, ev]
        have f : q_K (c_E L K T) (c_ob L 9 0) = 10 ∧ ∃ m m' : Nat, (0 + m ≤ bc ∧ 0 + m' ≤ bs) ∧ wm_X9_fail m m' (c_E L K T) (c_ob L 9 0) 5 (r_I R 2407) (fun r S' => r = none ∧ wb_X9_number_55 bc bs (0 + m) (0 + m') S' (c_ob L 9 0) Q E) E := ⟨K10 g, 1, 6, ⟨by omega, by omega⟩, a3 _ _ _ _ (by omega) (by omega) h⟩
        refine bt_ c ⟨K10 g, ?_⟩
        by_cases o1 : r_I R 2408 < c1
        · exact bt_ o1 f
        · refine bf_ o1 ?_
          by_cases o2 : c2 < r_I R 2408
          · exact bt_ o2 f
          · exact bf_ o2 (bf_ h3 ⟨n0, bf_ (fun z => ok ⟨(hq _ z).mp ⟨o1, o2⟩, z⟩) f⟩)
      · have f : rb_X12_number_50 R (r_I R 2408) Q := a4 _ ⟨_, rfl, h⟩
        by_cases o1 : r_I R 2408 < d1
        · exact bt_ o1 f
        · refine bf_ o1 ?_
          by_cases o2 : d2 < r_I R 2408
          · exact bt_ o2 f
          · exact bf_ o2 ⟨n0, bf_ (fun z => ok ⟨⟨o1, o2⟩, z⟩) f⟩
  · have c' := fun z => c ((AV_num av).1.mpr z)
    obtain ⟨R', a1, a2, a3, a4, a5⟩ := f_fl (w := 1) (z := r_I R 2407) g av (by decide)
    refine Or.inr ⟨K, R', 1, r_I R 2407, 0, a1, a2, fun bc bs Q E hu hv h => ⟨K10 g, ?_⟩, fun Q h => bt_ le (bf_ c' (a5 rfl _ ⟨_, rfl, h⟩))⟩
    rw [I9 g 1808 rfl, I9 g 1811 rfl, AV_pl av]
    exact bf_ c ⟨1, 6, ⟨by omega, by omega⟩, a3 _ _ _ _ (by omega) (by omega) h⟩
