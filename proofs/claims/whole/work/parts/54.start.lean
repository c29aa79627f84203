/-! Behind both constructors: where all lies, and what it holds. -/
def ci_ol : List (Nat × Nat) := [(0, 11), (1, 9), (2, 6), (8, 2), (13, 3), (14, 0)]
def ci_al : List (Nat × Nat) := [(5, 1204), (6, 1207), (7, 1208), (9, 400), (10, 401), (11, 1802), (15, 2204), (3, 1200), (4, 1202), (12, 1801)]
def ci_o (c : Nat) : Nat := match c with
  | 11 => 0 | 9 => 1 | 6 => 2 | 2 => 8 | 3 => 13 | 0 => 14 | _ => 0
def ci_a (f : Nat) : Nat := match f with
  | 1200 => 3 | 1202 => 4 | 1204 => 5 | 1207 => 6 | 1208 => 7 | 400 => 9 | 401 => 10 | 1802 => 11 | 1801 => 12 | 2204 => 15 | _ => 0
def ci_fd (g : Nat → Nat) (l : List (Nat × Nat)) (a : Nat) : Option (Nat × Nat) := (l.find? (fun q => g q.1 == a)).map (fun q => (q.2, 0))
def ci_L (g : Nat → Nat) : c_L := (fun c _ => g (ci_o c), fun f _ => g (ci_a f), ci_fd g ci_ol, ci_fd g ci_al, fun f _ => ci_ln (ci_a f))
theorem ci_fd1 {g : Nat → Nat} {l : List (Nat × Nat)} {a : Nat} {q : Nat × Nat} (h : ci_fd g l a = some q) : ∃ r ∈ l, g r.1 = a ∧ q = (r.2, 0) := by
  unfold ci_fd at h
  obtain ⟨r, h1, h2⟩ := Option.map_eq_some_iff.mp h
  exact ⟨r, List.mem_of_find?_eq_some h1, by simpa using List.find?_some h1, h2.symm⟩
theorem ci_fd2 {g : Nat → Nat} {l : List (Nat × Nat)} {r : Nat × Nat} (hg : ∀ i j : Nat, i < 16 → j < 16 → g i = g j → i = j) (hl : ∀ r ∈ l, r.1 < 16 ∧ ∀ q ∈ l, q.1 = r.1 → q = r) (hr : r ∈ l) : ci_fd g l (g r.1) = some (r.2, 0) := by
  unfold ci_fd
  cases h : l.find? (fun q => g q.1 == g r.1) with
  | none =>
    have h1 := List.find?_eq_none.mp h r hr
    simp at h1
  | some q =>
    have h1 : g q.1 = g r.1 := by simpa using List.find?_some h
    have h2 := List.mem_of_find?_eq_some h
    have h3 := hg _ _ (hl q h2).1 (hl r hr).1 h1
    rw [(hl r hr).2 q h2 h3]
    rfl
theorem ci_fd3 {g : Nat → Nat} {l : List (Nat × Nat)} {a : Nat} (h : ∀ r ∈ l, g r.1 ≠ a) : ci_fd g l a = none := by
  cases e : ci_fd g l a with
  | none => rfl
  | some q =>
    obtain ⟨r, h1, h2, -⟩ := ci_fd1 e
    exact absurd h2 (h r h1)
theorem ci_olk : ∀ r ∈ ci_ol, (r.1 < 16 ∧ ∀ q ∈ ci_ol, q.1 = r.1 → q = r) ∧ ci_o r.2 = r.1 ∧ ci_kd r.1 = r.2 + 1 := by decide +kernel
theorem ci_alk : ∀ r ∈ ci_al, (r.1 < 16 ∧ ∀ q ∈ ci_al, q.1 = r.1 → q = r) ∧ ci_a r.2 = r.1 ∧ ci_kd r.1 = c_kd r.2 := by decide +kernel
/-- the class's things lie apart from the reference's -/
def l_Sep (L : c_L) (m : Nat) (fo : Nat → Option Nat) : Prop := c_ow L m = none ∧ ∀ a f : Nat, fo a = some f → c_aw L a = none
def l_B (L : c_L) (m : Nat) (ad : Nat → Nat) (fo : Nat → Option Nat) (st : Nat → Nat) (S : q_S) : Prop := c_G L S ∧ r_WF m ad fo st S ∧ l_Sep L m fo
/-- fresh: nothing but zeros -/
def c_Z0 (L : c_L) (S : q_S) : Prop := (∀ c i : Nat, c_mk L c i → i = 0 ∧ (c = 11 ∨ c = 9 ∨ c = 6 ∨ c = 2 ∨ c = 3 ∨ c = 0)) ∧ (∀ f : Nat, c_mk L (f / 200) 0 → q_I S f (c_ob L (f / 200) 0) = if f = 1805 then -1 else 0) ∧ (∀ f i : Nat, c_ma L f 0 → q_A S (c_ar L f 0) i = 0) ∧ ∀ f : Nat, f < 4 → q_P S f (c_ob L 0 0) = none
def r_0 : r_S := (fun f => if f = 2412 then -1 else 0, fun _ _ => 0)
theorem ci_T {S0 S T : q_S} {z : Bool} {g : Nat → Nat} (J : ci_B S0 S z 16 g) (Z : ci_Z S g) (h : q_Ext S T) : ci_C S0 T z 16 g ∧ ci_Z T g := by
  have kn : ∀ k : Nat, k < 16 → q_K S (g k) ≠ 0 := fun k hk => by rw [(J.2.2.1 k hk).2.1]; exact ci_k0 k hk
  have p : ∀ k f : Nat, k < 16 → q_P T f (g k) = q_P S f (g k) := fun k f hk => (h _ (kn k hk)).2.2.2.2.2.2.2 f
  refine ⟨⟨J.1.tr h, J.2.1, fun k hk => ?_⟩, ?_⟩
  · obtain ⟨a1, a2, a3, a4⟩ := J.2.2.1 k hk
    obtain ⟨b1, b2, b3, b4, b5, b6, b7, b8⟩ := h _ (kn k hk)
    exact ⟨a1, b1.trans a2, fun q => ⟨b2.trans (a3 q).1, fun i => (b3 i).trans ((a3 q).2.1 i), fun i => (b5 i).trans ((a3 q).2.2 i)⟩, fun q f => ⟨(b6 f).trans (a4 q f).1, (b7 f).trans (a4 q f).2⟩⟩
  · obtain ⟨z1, z2, z3, z4, z5, z6, z7, z8, z9, z10, z11, z12, z13, z14, z15, z16, z17, z18, z19, z20, z21⟩ := Z
    exact ⟨(p 0 _ (by decide)).trans z1, (p 0 _ (by decide)).trans z2, (p 0 _ (by decide)).trans z3, (p 0 _ (by decide)).trans z4, (p 0 _ (by decide)).trans z5, (p 1 _ (by decide)).trans z6, (p 1 _ (by decide)).trans z7, (p 1 _ (by decide)).trans z8, (p 2 _ (by decide)).trans z9, (p 2 _ (by decide)).trans z10, (p 2 _ (by decide)).trans z11, (p 2 _ (by decide)).trans z12, (p 2 _ (by decide)).trans z13, (p 2 _ (by decide)).trans z14, (p 8 _ (by decide)).trans z15, (p 8 _ (by decide)).trans z16, fun i => ((h _ (kn 12 (by decide))).2.2.2.1 i).trans (z17 i), (p 14 _ (by decide)).trans z18, (p 14 _ (by decide)).trans z19, (p 14 _ (by decide)).trans z20, (p 14 _ (by decide)).trans z21⟩
theorem ci_x1 : ∀ q ∈ c_fl, ∀ r ∈ ci_al, r.2 = q.1 → ci_ln (ci_a q.1) = q.2 := by decide +kernel
theorem ci_x2 : ∀ r ∈ ci_ol, r.2 = 11 ∨ r.2 = 9 ∨ r.2 = 6 ∨ r.2 = 2 ∨ r.2 = 3 ∨ r.2 = 0 := by decide +kernel
theorem ci_all {S0 T : q_S} {g : Nat → Nat} (J : ci_C S0 T true 16 g) (Z : ci_Z T g) : c_G (ci_L g) T ∧ c_Z0 (ci_L g) T := by
  have hg := J.2.1
  have hmk : ∀ r ∈ ci_ol, c_mk (ci_L g) r.2 0 := fun r hr => by
    show ci_fd g ci_ol (g (ci_o r.2)) = some (r.2, 0)
    rw [(ci_olk r hr).2.1]
    exact ci_fd2 hg (fun r hr => (ci_olk r hr).1) hr
  have hma : ∀ r ∈ ci_al, c_ma (ci_L g) r.2 0 := fun r hr => by
    show ci_fd g ci_al (g (ci_a r.2)) = some (r.2, 0)
    rw [(ci_alk r hr).2.1]
    exact ci_fd2 hg (fun r hr => (ci_alk r hr).1) hr
  have hmo : ∀ c i : Nat, c_mk (ci_L g) c i → i = 0 ∧ ∃ r ∈ ci_ol, r.2 = c := fun c i h => by
    obtain ⟨r, h1, -, h3⟩ := ci_fd1 (show ci_fd g ci_ol (c_ob (ci_L g) c i) = some (c, i) from h)
    injection h3 with h3 h4
    exact ⟨h4, r, h1, h3.symm⟩
  have hmr : ∀ f i : Nat, c_ma (ci_L g) f i → i = 0 ∧ ∃ r ∈ ci_al, r.2 = f := fun f i h => by
    obtain ⟨r, h1, -, h3⟩ := ci_fd1 (show ci_fd g ci_al (c_ar (ci_L g) f i) = some (f, i) from h)
    injection h3 with h3 h4
    exact ⟨h4, r, h1, h3.symm⟩
  have hms : ∀ c i : Nat, c_mk (ci_L g) c i → i = 0 ∧ (c = 11 ∨ c = 9 ∨ c = 6 ∨ c = 2 ∨ c = 3 ∨ c = 0) := fun c i h => by
    obtain ⟨h1, r, h2, h3⟩ := hmo c i h
    exact ⟨h1, h3 ▸ ci_x2 r h2⟩
  have no : ∀ c i : Nat, c = 5 ∨ c = 4 ∨ c = 7 ∨ c = 8 ∨ c = 1 ∨ c = 10 → ¬ c_mk (ci_L g) c i := fun c i hc h => by
    have := (hms c i h).2
    omega
  obtain ⟨z1, z2, z3, z4, z5, z6, z7, z8, z9, z10, z11, z12, z13, z14, z15, z16, z17, z18, z19, z20, z21⟩ := Z
  have kd : ∀ k : Nat, k < 16 → q_K T (g k) = ci_kd k := fun k hk => (J.2.2 k hk).2.1
  have ln : ∀ k : Nat, k < 16 → 20 ≤ ci_kd k → q_N T (g k) = ci_ln k := fun k hk h => ((J.2.2 k hk).2.2.1 h).1
  have al20 : ∀ r ∈ ci_al, 20 ≤ ci_kd r.1 := by decide +kernel
  refine ⟨⟨⟨fun a q h => ?_, fun a q h => ?_⟩, fun c i h => ?_, fun f i h => ?_, ?_, ?_, ?_, fun i h => absurd h (no 1 i (by decide)), fun i h => absurd h (no 10 i (by decide)), fun p j h => absurd h (no 5 p (by decide)), fun j => ⟨?_, ?_⟩, ?_, fun c i _ h => (hms c i h).1, z17⟩, ?_⟩
  · obtain ⟨r, h1, h2, h3⟩ := ci_fd1 (show ci_fd g ci_ol a = some q from h)
    rw [h3]
    show a = g (ci_o r.2)
    rw [(ci_olk r h1).2.1, h2]
  · obtain ⟨r, h1, h2, h3⟩ := ci_fd1 (show ci_fd g ci_al a = some q from h)
    rw [h3]
    show a = g (ci_a r.2)
    rw [(ci_alk r h1).2.1, h2]
  · obtain ⟨-, r, h1, h2⟩ := hmo c i h
    show q_K T (g (ci_o c)) = c + 1
    rw [← h2, (ci_olk r h1).2.1, kd _ (ci_olk r h1).1.1, (ci_olk r h1).2.2]
  · obtain ⟨-, r, h1, h2⟩ := hmr f i h
    refine ⟨?_, ?_⟩
    · show q_K T (g (ci_a f)) = c_kd f
      rw [← h2, (ci_alk r h1).2.1, kd _ (ci_alk r h1).1.1, (ci_alk r h1).2.2]
    · show q_N T (g (ci_a f)) = ci_ln (ci_a f)
      rw [← h2, (ci_alk r h1).2.1]
      exact ln _ (ci_alk r h1).1.1 (al20 r h1)
  · intro q hq i h
    unfold c_pf at hq
    simp only [List.mem_cons, List.not_mem_nil, or_false] at hq
    rcases hq with rfl | rfl | rfl | rfl | rfl | rfl | rfl
    · obtain rfl := (hms _ i h).1; exact ⟨hmk (1, 9) (by decide), z1⟩
    · obtain rfl := (hms _ i h).1; exact ⟨hmk (2, 6) (by decide), z2⟩
    · obtain rfl := (hms _ i h).1; exact ⟨hmk (13, 3) (by decide), z3⟩
    · obtain rfl := (hms _ i h).1; exact ⟨hmk (14, 0) (by decide), z4⟩
    · obtain rfl := (hms _ i h).1; exact ⟨hmk (2, 6) (by decide), z6⟩
    · obtain rfl := (hms _ i h).1; exact ⟨hmk (8, 2) (by decide), z14⟩
    · exact absurd h (no _ i (by decide))
  · intro f hf i h
    unfold c_af at hf
    simp only [List.mem_cons, List.not_mem_nil, or_false] at hf
    rcases hf with rfl | rfl | rfl | rfl | rfl | rfl | rfl | rfl | rfl | rfl | rfl | rfl | rfl | rfl | rfl | rfl | rfl | rfl | rfl | rfl | rfl | rfl
    · obtain rfl := (hms _ i h).1; exact ⟨hma (15, 2204) (by decide), z5⟩
    · obtain rfl := (hms _ i h).1; exact ⟨hma (12, 1801) (by decide), z7⟩
    · obtain rfl := (hms _ i h).1; exact ⟨hma (11, 1802) (by decide), z8⟩
    · obtain rfl := (hms _ i h).1; exact ⟨hma (3, 1200) (by decide), z9⟩
    · obtain rfl := (hms _ i h).1; exact ⟨hma (4, 1202) (by decide), z10⟩
    · obtain rfl := (hms _ i h).1; exact ⟨hma (5, 1204) (by decide), z11⟩
    · obtain rfl := (hms _ i h).1; exact ⟨hma (6, 1207) (by decide), z12⟩
    · obtain rfl := (hms _ i h).1; exact ⟨hma (7, 1208) (by decide), z13⟩
    · obtain rfl := (hms _ i h).1; exact ⟨hma (9, 400) (by decide), z15⟩
    · obtain rfl := (hms _ i h).1; exact ⟨hma (10, 401) (by decide), z16⟩
    all_goals exact absurd h (no _ i (by decide))
  · intro q hq i h
    obtain ⟨-, r, h1, h2⟩ := hmr q.1 i h
    exact ci_x1 q hq r h1 h2
  · show q_C T (g 3) j = _
    rw [((J.2.2 3 (by decide)).2.2.1 (by decide)).2.2 j, show c_e5 (ci_L g) j = none from if_neg (fun z => no 5 j (by decide) z.2)]
    rfl
  · show q_C T (g 4) j = _
    rw [((J.2.2 4 (by decide)).2.2.1 (by decide)).2.2 j, show c_e1 (ci_L g) j = none from if_neg (fun z => no 1 j (by decide) z.2)]
    rfl
  · exact ⟨hmk (0, 11) (by decide), hmk (1, 9) (by decide), hmk (2, 6) (by decide), hmk (8, 2) (by decide), hmk (13, 3) (by decide), hmk (14, 0) (by decide)⟩
  · refine ⟨hms, fun f h => ?_, fun f i h => ?_, fun f hf => ?_⟩
    · obtain ⟨-, r, h1, h2⟩ := hmo _ _ h
      have hk := ci_olk r h1
      have h20 : ci_kd r.1 < 20 := by
        have : ∀ r ∈ ci_ol, ci_kd r.1 < 20 := by decide +kernel
        exact this r h1
      show q_I T f (g (ci_o (f / 200))) = _
      rw [← h2, hk.2.1, ((J.2.2 _ hk.1.1).2.2.2 h20 f).1]
      by_cases e : f = 1805
      · have e1 : r.1 = 1 := by
          have : ∀ r ∈ ci_ol, r.2 = 1805 / 200 → r.1 = 1 := by decide +kernel
          exact this r h1 (by rw [h2, e])
        rw [if_pos ⟨rfl, e, e1⟩, if_pos e]
      · rw [if_neg (fun q => e q.2.1), if_neg e]
    · obtain ⟨-, r, h1, h2⟩ := hmr f 0 h
      have hk := ci_alk r h1
      show q_A T (g (ci_a f)) i = 0
      rw [← h2, hk.2.1]
      exact ((J.2.2 _ hk.1.1).2.2.1 (al20 r h1)).2.1 i
    · have : f = 0 ∨ f = 1 ∨ f = 2 ∨ f = 3 := by omega
      rcases this with rfl | rfl | rfl | rfl
      · exact z18
      · exact z19
      · exact z20
      · exact z21
theorem ri_T {m n : Nat} {S0 S : q_S} {g : Nat → Nat} (B : ri_B m S0 S n g) {a : Nat} (hm : a ≠ m) (ha : q_K S0 a ≠ 0) : (q_K S a = q_K S0 a ∧ q_N S a = q_N S0 a ∧ (∀ i : Nat, q_A S a i = q_A S0 a i) ∧ (∀ i : Nat, q_B S a i = q_B S0 a i) ∧ ∀ i : Nat, q_C S a i = q_C S0 a i) ∧ (∀ f : Nat, q_I S f a = q_I S0 f a) ∧ (∀ f : Nat, q_J S f a = q_J S0 f a) ∧ ∀ f : Nat, q_P S f a = q_P S0 f a :=
  ⟨B.2.2.2.1 a (fun k hk e => ha (by rw [e]; exact (B.2.1 k hk).2.1)), fun f => B.2.2.2.2.2.1 f a, fun f => B.2.2.2.2.2.2 f a, fun f => B.2.2.2.2.1 f a hm⟩
def ri_ix (f : Nat) : Nat := ri_F.idxOf f
theorem ri_ixk : ∀ j : Nat, j < 114 → (r_N (2400 + j) == 0) = false → ri_ix (2400 + j) < 87 ∧ ri_f (ri_ix (2400 + j)) = 2400 + j := by decide +kernel
theorem ri_ixn : ∀ k : Nat, k < 87 → ri_ix (ri_f k) = k := by decide +kernel
theorem ri_ixf {f : Nat} (h : (r_N f == 0) = false) : ri_ix f < 87 ∧ ri_f (ri_ix f) = f := by
  have h1 : 2400 ≤ f := by
    refine Nat.le_of_not_lt fun z => ?_
    have e : r_N f = 0 := by
      unfold r_N
      rw [show f - 2400 = 0 by omega]
      rfl
    rw [e] at h
    exact absurd h (by decide)
  have h2 : f - 2400 < 114 := by
    refine Nat.lt_of_not_le fun z => ?_
    have e : r_N f = 0 := by
      unfold r_N
      rw [List.getD_eq_getElem?_getD, List.getElem?_eq_none (by show 114 ≤ f - 2400; exact z)]
      rfl
    rw [e] at h
    exact absurd h (by decide)
  have e : 2400 + (f - 2400) = f := by omega
  have q := ri_ixk (f - 2400) h2
  rw [e] at q
  exact q h
def ri_fo (g : Nat → Nat) (a : Nat) : Option Nat := ((List.range 87).find? (fun k => g k == a)).map ri_f
theorem ri_fo1 {g : Nat → Nat} (hg : ∀ i j : Nat, i < 87 → j < 87 → g i = g j → i = j) {k : Nat} (hk : k < 87) : ri_fo g (g k) = some (ri_f k) := by
  unfold ri_fo
  cases h : (List.range 87).find? (fun j => g j == g k) with
  | none =>
    have h1 := List.find?_eq_none.mp h k (List.mem_range.mpr hk)
    simp at h1
  | some j =>
    have h1 := List.find?_some h
    have h2 := List.mem_range.mp (List.mem_of_find?_eq_some h)
    rw [hg j k h2 hk (by simpa using h1)]
    rfl
theorem ri_fo2 {g : Nat → Nat} {a f : Nat} (h : ri_fo g a = some f) : ∃ k : Nat, k < 87 ∧ g k = a ∧ ri_f k = f := by
  unfold ri_fo at h
  obtain ⟨k, h1, h2⟩ := Option.map_eq_some_iff.mp h
  exact ⟨k, List.mem_range.mp (List.mem_of_find?_eq_some h1), by simpa using List.find?_some h1, h2⟩
set_option maxRecDepth 100000 in
theorem l_start {Ln : Nat} {xs : Nat → Int32} {S : q_S} (h0 : q_P0 S) (h : ∀ (T : q_S) (L : c_L) (m : Nat) (ad : Nat → Nat) (fo : Nat → Option Nat) (st : Nat → Nat) (out : Nat), l_B L m ad fo st T → c_Z0 L T → r_E m fo r_0 T = T → q_K T out = 23 → q_N T out = 1 → out ≠ c_ar L 1801 0 → ∃ n : Nat, wl_L_law_23 Ln xs n (0 + 1 + 15 + 1 + 87 + 1) (0 + 5 + 5496 + 114 + 308032 + 1) T (some (c_ob L 11 0)) (some m) (some out) 0) : wm_L_law Ln xs S := by
  obtain ⟨st, hs1, hs2, hs3, hs4⟩ := h0
  unfold wm_L_law
  refine ⟨⟨by decide, by decide⟩, fun x hx => ⟨15, 5496, ⟨by decide, by decide⟩, ci_init hx hs1 hs3 ⟨Nat.le_refl _, Nat.le_refl _⟩ (fun S1 g hgx J Z => ⟨rfl, ⟨by decide, by decide⟩, fun m hm => ⟨87, 308032, ⟨by decide, by decide⟩, ri_init (S := qs_O S1 12 m) (by rw [pK_O, if_pos rfl]) ⟨Nat.le_refl _, Nat.le_refl _⟩ (fun S2 g2 B => ⟨rfl, ⟨by decide, by decide⟩, fun out hout => ?_⟩)⟩⟩)⟩⟩
  have kS0 : ∀ a : Nat, a ≠ m → q_K (qs_I (qs_O S1 12 m) 2412 m (-1)) a = q_K S1 a := fun a ha => by rw [pK_I, pK_O, if_neg ha]
  have e12 : q_Ext S1 S2 := fun a ha => by
    have hma : a ≠ m := fun e => ha (by rw [e]; exact hm)
    obtain ⟨⟨t1, t2, t3, t4, t5⟩, t6, t7, t8⟩ := ri_T B hma (by rw [kS0 a hma]; exact ha)
    exact ⟨t1.trans (kS0 a hma), t2, t3, t4, t5, fun f => (t6 f).trans (by rw [pI_I, if_neg (fun z => hma z.2), pI_O, if_neg hma]), fun f => (t7 f).trans (by rw [pJ_I, pJ_O, if_neg hma]), fun f => (t8 f).trans (by rw [pP_I, pP_O, if_neg hma])⟩
  have e13 : q_Ext S1 (qs_R S2 23 1 out) := e12.R hout
  have e03 : q_Ext S (qs_R S2 23 1 out) := J.1.tr e13
  obtain ⟨J3, Z3⟩ := ci_T J Z e13
  obtain ⟨a1, a3⟩ := ci_all J3 Z3
  have kn : ∀ k : Nat, k < 16 → q_K S1 (g k) ≠ 0 := fun k hk => by rw [(J.2.2.1 k hk).2.1]; exact ci_k0 k hk
  have gm : ∀ k : Nat, k < 16 → g k ≠ m := fun k hk e => kn k hk (by rw [e]; exact hm)
  have g2m : ∀ j : Nat, j < 87 → g2 j ≠ m := fun j hj => (B.2.1 j hj).1
  have gg : ∀ k j : Nat, k < 16 → j < 87 → g k ≠ g2 j := fun k j hk hj e => kn k hk (by
    have q := (B.2.1 j hj).2.1
    rw [kS0 _ (g2m j hj)] at q
    rw [e]; exact q)
  have om : out ≠ m := fun e => by rw [e, B.1] at hout; exact absurd hout (by decide)
  have o2 : ∀ j : Nat, j < 87 → out ≠ g2 j := fun j hj e => by
    have q := (B.2.1 j hj).2.2.1
    rw [← e, hout] at q
    exact (ri_k0 j hj).1 q.symm
  have o12 : out ≠ g 12 := fun e => by
    have q := (J3.2.2 12 (by decide)).2.1
    have q2 := (e12 _ (kn 12 (by decide))).1
    rw [(J.2.2.1 12 (by decide)).2.1, ← e, hout] at q2
    exact absurd q2 (by decide)
  have hwf : r_WF m (fun f => g2 (ri_ix f)) (ri_fo g2) st (qs_R S2 23 1 out) := by
    refine ⟨by rw [pK_R, if_neg om.symm]; exact B.1, fun f hf => ?_, fun a f hf => ?_, fun k hk => ?_, fun b hb => ?_, fun k hk => ?_⟩
    · obtain ⟨i1, i2⟩ := ri_ixf hf
      obtain ⟨b1, b2, b3, b4, b5, b6⟩ := B.2.1 _ i1
      rw [i2] at b3 b4 b5
      refine ⟨by rw [pP_R]; exact b5, by rw [pK_R, if_neg (o2 _ i1).symm]; exact b3, by rw [pN_R, if_neg (o2 _ i1).symm]; exact b4, ?_⟩
      rw [ri_fo1 B.2.2.1 i1, i2]
    · obtain ⟨k, k1, k2, k3⟩ := ri_fo2 hf
      show a = g2 (ri_ix f)
      rw [← k3, ri_ixn k k1, k2]
    · obtain ⟨c1, c2, -⟩ := e03 (st k) (by rw [(hs1 k hk).1]; decide)
      exact ⟨c1.trans (hs1 k hk).1, c2.trans (hs1 k hk).2⟩
    · have hb0 : q_K S b = 30 := by
        cases hz : q_K S b with
        | zero =>
          exfalso
          rw [pK_R] at hb
          by_cases e1 : b = out
          · rw [if_pos e1] at hb; exact absurd hb (by decide)
          · rw [if_neg e1] at hb
            by_cases e2 : b = m
            · rw [e2, B.1] at hb; exact absurd hb (by decide)
            · by_cases e3 : ∃ j : Nat, j < 87 ∧ b = g2 j
              · obtain ⟨j, hj, e4⟩ := e3
                have q := (B.2.1 j hj).2.2.1
                have q2 : ∀ j : Nat, j < 87 → r_Kd (ri_f j) ≠ 30 := by decide +kernel
                rw [← e4, hb] at q
                exact q2 j hj q.symm
              · have q := (B.2.2.2.1 b (fun j hj e => e3 ⟨j, hj, e⟩)).1
                rw [kS0 b e2, hb] at q
                -- b is of the class's cells then
                have q3 : ∀ k : Nat, k < 16 → b ≠ g k := fun k hk e => by
                  have q4 := (J.2.2.1 k hk).2.1
                  rw [← e, ← q] at q4
                  have q5 : ∀ k : Nat, k < 16 → ci_kd k ≠ 30 := by decide +kernel
                  exact q5 k hk q4.symm
                have q6 := J.2.2.2 b q3
                rw [← q, hz] at q6
                exact absurd q6 (by decide)
        | succ k =>
          have q := (e03 b (by rw [hz]; exact Nat.succ_ne_zero k)).1
          rw [hb, hz] at q
          exact q.symm ▸ rfl
      have q := (e03 b (by rw [hb0]; decide)).2.1
      rw [q]
      exact hs2 b hb0
    · obtain ⟨b, hb1, hb2⟩ := hs3 k hk
      obtain ⟨c1, c2, -⟩ := e03 b (by rw [hb1]; decide)
      exact ⟨b, c1.trans hb1, c2.trans hb2⟩
  have hsep : l_Sep (ci_L g) m (ri_fo g2) := by
    refine ⟨ci_fd3 (fun r hr => gm _ (ci_olk r hr).1.1), fun a f hf => ci_fd3 (fun r hr e => ?_)⟩
    obtain ⟨k, k1, k2, -⟩ := ri_fo2 hf
    exact gg _ k (ci_alk r hr).1.1 k1 (e.trans k2.symm)
  have hE : r_E m (ri_fo g2) r_0 (qs_R S2 23 1 out) = qs_R S2 23 1 out := by
    refine Prod.ext rfl (Prod.ext (funext fun f => funext fun a => ?_) (Prod.ext rfl (Prod.ext rfl (Prod.ext rfl (Prod.ext (funext fun a => funext fun i => ?_) rfl)))))
    · show (if a = m then (if f = 2412 then -1 else 0) else q_I S2 f a) = q_I S2 f a
      by_cases e : a = m
      · rw [if_pos e, B.2.2.2.2.2.1 f a, pI_I, pI_O, if_pos e, e]
        by_cases e2 : f = 2412
        · rw [if_pos e2, if_pos ⟨e2, rfl⟩]
        · rw [if_neg e2, if_neg (fun z => e2 z.1)]
      · rw [if_neg e]
    · show (match ri_fo g2 a with | some f => 0 | none => q_A (qs_R S2 23 1 out) a i) = q_A (qs_R S2 23 1 out) a i
      cases e : ri_fo g2 a with
      | none => rfl
      | some f =>
        obtain ⟨k, k1, k2, -⟩ := ri_fo2 e
        show 0 = _
        rw [pA_R, if_neg (fun z => o2 k k1 (by rw [← z, k2])), ← k2]
        exact ((B.2.1 k k1).2.2.2.2.2 i).symm
  have r := h (qs_R S2 23 1 out) (ci_L g) m _ (ri_fo g2) st out ⟨a1, hwf, hsep⟩ a3 hE (by rw [pK_R, if_pos rfl]) (by rw [pN_R, if_pos rfl]) o12
  rw [show c_ob (ci_L g) 11 0 = x from hgx] at r
  exact r
