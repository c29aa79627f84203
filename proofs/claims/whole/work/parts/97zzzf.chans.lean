/-! Channels as read. -/
def C0 (L : c_L) (K : c_S) (R : r_S) (c : Nat) : Prop := (c_mk L 1 c ∧ c_I K 200 c = nI c ∧ c_I K 201 c = r_A R 2454 c) ∧ (r_A R 2454 c = 0 ∨ r_A R 2454 c = 1) ∧ (c_I K 206 c = 0 ∧ c_I K 205 c = -1 ∧ c_I K 215 c = 0 ∧ c_I K 216 c = 0)
def C1 (L : c_L) (K : c_S) (R : r_S) (c : Nat) : Prop := (c_I K 202 c = r_A R 2456 c ∧ (r_A R 2456 c = 0 ∨ r_A R 2456 c = 1) ∧ c_I K 203 c = r_A R 2455 c ∧ 0 ≤ (r_A R 2455 c).toInt) ∧ ∃ d : Nat, (c_I K 1601 (1000 + c) = nI d ∧ 1 ≤ d ∧ d ≤ 32 ∧ d ≤ c_ln L 1600 (1000 + c) ∧ (r_A R 2454 c = 1 → r_A R 2455 c = nI d) ∧ (r_A R 2454 c = 0 → d = 1)) ∧ c_I K 1602 (1000 + c) = 0 ∧ c_I K 1603 (1000 + c) = 0
/-- the source -/
def C2 (D : CD) (np : Nat) (K : c_S) (R : r_S) (c : Nat) (s : Option (Nat × Nat)) : Prop := match s with
  | none => c_P K 209 c = none ∧ r_A R 2457 c = -2
  | some q => (q.1 < np ∧ q.2 < D.1 q.1 4) ∧ c_P K 209 c = some q.1 ∧ c_I K 210 c = nI (32 + q.2) ∧ r_A R 2457 c = nI (16 * q.1 + q.2) ∧ r_A R 2450 (16 * q.1 + q.2) = nI c ∧ r_A R 2448 (16 * q.1 + q.2) = 1
def C3g (D : CD) (np : Nat) (R : r_S) (c g : Nat) (s : Option (Nat × Nat)) : Prop := match s with
  | none => r_A R 2459 (4 * c + g) = -2
  | some q => (q.1 < np ∧ q.2 < D.1 q.1 4) ∧ r_A R 2459 (4 * c + g) = nI (16 * q.1 + q.2) ∧ r_A R 2450 (16 * q.1 + q.2) = nI c ∧ r_A R 2448 (16 * q.1 + q.2) = 0
def C3q (K : c_S) (c : Nat) (s : Option (Nat × Nat)) : Prop := match s with
  | none => c_P K 211 c = none
  | some q => c_P K 211 c = some q.1 ∧ c_I K 212 c = nI (32 + q.2)
def cno (G : Nat → Option (Nat × Nat)) (n : Nat) : Nat := ((List.range n).filter (fun g => (G g).isNone)).length
/-- the goals -/
def C3 (D : CD) (np : Nat) (K : c_S) (R : r_S) (c : Nat) (G : Nat → Option (Nat × Nat)) (n : Nat) : Prop := (c_I K 207 c = nI n ∧ r_A R 2458 c = nI n ∧ n ≤ 4) ∧ (∀ g : Nat, g < n → C3g D np R c g (G g)) ∧ c_I K 208 c = nI (cno G n) ∧ (r_A R 2454 c = 1 → n ≤ 1) ∧ (1 ≤ n → r_A R 2454 c = 1 → C3q K c (G 0)) ∧ (n = 0 → c_P K 211 c = none)
def CHN (D : CD) (np : Nat) (L : c_L) (K : c_S) (R : r_S) (c : Nat) (s : Option (Nat × Nat)) (G : Nat → Option (Nat × Nat)) (n : Nat) : Prop := C0 L K R c ∧ C1 L K R c ∧ C2 D np K R c s ∧ C3 D np K R c G n
theorem cno_1 {G : Nat → Option (Nat × Nat)} {n : Nat} : cno G (n + 1) = cno G n + (if (G n).isNone = true then 1 else 0) := by
  unfold cno
  rw [List.range_succ, List.filter_append, List.length_append]
  congr 1
  by_cases z : (G n).isNone = true
  · rw [if_pos z]; simp [z]
  · rw [if_neg z]; simp at z; simp [z]
theorem cno_c {G G' : Nat → Option (Nat × Nat)} {n : Nat} (h : ∀ g : Nat, g < n → G' g = G g) : cno G' n = cno G n := by
  induction n with
  | zero => rfl
  | succ n ih => rw [cno_1, cno_1, ih (fun g hg => h g (by omega)), h n (by omega)]
theorem cno_le {G : Nat → Option (Nat × Nat)} {n : Nat} : cno G n ≤ n := by
  induction n with
  | zero => exact Nat.le_refl _
  | succ n ih => rw [cno_1]; split <;> omega
theorem C0_c {L L' : c_L} {K K' : c_S} {R R' : r_S} {c : Nat} (h : C0 L K R c) (lx : LX L L') (k : ∀ f : Nat, f ∈ [200, 201, 205, 206, 215, 216] → c_I K' f c = c_I K f c) (r : r_A R' 2454 c = r_A R 2454 c) : C0 L' K' R' c := by
  unfold C0 at h ⊢
  rw [k 200 (by decide), k 201 (by decide), k 205 (by decide), k 206 (by decide), k 215 (by decide), k 216 (by decide), r]
  exact ⟨⟨(lx.1 _ _ h.1.1).1, h.1.2⟩, h.2⟩
theorem C1_c {L L' : c_L} {K K' : c_S} {R R' : r_S} {c : Nat} (h : C1 L K R c) (lx : c_ln L 1600 (1000 + c) ≤ c_ln L' 1600 (1000 + c)) (k : ∀ f : Nat, f ∈ [202, 203] → c_I K' f c = c_I K f c) (k8 : ∀ f : Nat, f / 200 = 8 → c_I K' f (1000 + c) = c_I K f (1000 + c)) (r : ∀ f : Nat, f ∈ [2454, 2455, 2456] → r_A R' f c = r_A R f c) : C1 L' K' R' c := by
  obtain ⟨h1, d, ⟨a1, a2, a3, a4, a5, a6⟩, h3, h4⟩ := h
  unfold C1
  rw [k 202 (by decide), k 203 (by decide), r 2454 (by decide), r 2455 (by decide), r 2456 (by decide)]
  exact ⟨h1, d, ⟨(k8 1601 rfl).trans a1, a2, a3, by omega, a5, a6⟩, (k8 1602 rfl).trans h3, (k8 1603 rfl).trans h4⟩
theorem C2_c {D : CD} {np : Nat} {K K' : c_S} {R R' : r_S} {c : Nat} {s : Option (Nat × Nat)} (h : C2 D np K R c s) (k : c_P K' 209 c = c_P K 209 c ∧ c_I K' 210 c = c_I K 210 c) (r : r_A R' 2457 c = r_A R 2457 c) (mn : ∀ j : Nat, r_A R 2450 j = nI c → r_A R' 2450 j = nI c) (r48 : ∀ j : Nat, r_A R' 2448 j = r_A R 2448 j) : C2 D np K' R' c s := by
  cases s with
  | none => exact ⟨k.1.trans h.1, r.trans h.2⟩
  | some q =>
    obtain ⟨a1, a2, a3, a4, a5, a6⟩ := h
    exact ⟨a1, k.1.trans a2, k.2.trans a3, r.trans a4, mn _ a5, (r48 _).trans a6⟩
theorem C3g_c {D : CD} {np : Nat} {R R' : r_S} {c g : Nat} {s : Option (Nat × Nat)} (h : C3g D np R c g s) (r : r_A R' 2459 (4 * c + g) = r_A R 2459 (4 * c + g)) (mn : ∀ j : Nat, r_A R 2450 j = nI c → r_A R' 2450 j = nI c) (r48 : ∀ j : Nat, r_A R' 2448 j = r_A R 2448 j) : C3g D np R' c g s := by
  cases s with
  | none => exact r.trans h
  | some q =>
    obtain ⟨a1, a2, a3, a4⟩ := h
    exact ⟨a1, r.trans a2, mn _ a3, (r48 _).trans a4⟩
theorem C3q_c {K K' : c_S} {c : Nat} {s : Option (Nat × Nat)} (h : C3q K c s) (k : c_P K' 211 c = c_P K 211 c ∧ c_I K' 212 c = c_I K 212 c) : C3q K' c s := by
  cases s with
  | none => exact k.1.trans h
  | some q => exact ⟨k.1.trans h.1, k.2.trans h.2⟩
theorem C3_c {D : CD} {np : Nat} {K K' : c_S} {R R' : r_S} {c n : Nat} {G : Nat → Option (Nat × Nat)} (h : C3 D np K R c G n) (k : ∀ f : Nat, f ∈ [207, 208, 212] → c_I K' f c = c_I K f c) (kP : c_P K' 211 c = c_P K 211 c) (r : r_A R' 2454 c = r_A R 2454 c ∧ r_A R' 2458 c = r_A R 2458 c) (r9 : ∀ g : Nat, g < n → r_A R' 2459 (4 * c + g) = r_A R 2459 (4 * c + g)) (mn : ∀ j : Nat, r_A R 2450 j = nI c → r_A R' 2450 j = nI c) (r48 : ∀ j : Nat, r_A R' 2448 j = r_A R 2448 j) : C3 D np K' R' c G n := by
  obtain ⟨⟨h1, h2, h3⟩, h4, h5, h6, h7, h8⟩ := h
  refine ⟨⟨(k 207 (by decide)).trans h1, r.2.trans h2, h3⟩, fun g hg => C3g_c (h4 g hg) (r9 g hg) mn r48, (k 208 (by decide)).trans h5, fun z => h6 (r.1.symm.trans z), fun z z' => C3q_c (h7 z (r.1.symm.trans z')) ⟨kP, k 212 (by decide)⟩, fun z => kP.trans (h8 z)⟩
theorem CHN_of {D : CD} {np : Nat} {L L' : c_L} {T : q_S} {K K' : c_S} {R R' : r_S} {c n : Nat} {s : Option (Nat × Nat)} {G : Nat → Option (Nat × Nat)} {cI cA : Nat → Nat → Prop} {rI : Nat → Prop} {rA : Nat → Nat → Prop} (h : CHN D np L K R c s G n) (g : c_G L T) (lx : LX L L') (of : OF cI cA rI rA K R K' R') (c1 : ∀ f i : Nat, (f / 200 = 1 ∧ i = c) ∨ (f / 200 = 8 ∧ i = 1000 + c) → ¬ cI f i) (c4 : ∀ f i : Nat, (2454 ≤ f ∧ f ≤ 2458 ∧ i = c) ∨ (f = 2459 ∧ i / 4 = c) ∨ f = 2448 → ¬ rA f i) (mn : ∀ j : Nat, r_A R 2450 j = nI c → r_A R' 2450 j = nI c) : CHN D np L' K' R' c s G n := by
  obtain ⟨h0, h1, h2, h3⟩ := h
  obtain ⟨o1, o2, o3, o4⟩ := of
  have k1 : ∀ f : Nat, f / 200 = 1 → c_I K' f c = c_I K f c := fun f hf => (o1 f c (c1 f c (Or.inl ⟨hf, rfl⟩))).1
  have kP : ∀ f : Nat, f / 200 = 1 → c_P K' f c = c_P K f c := fun f hf => (o1 f c (c1 f c (Or.inl ⟨hf, rfl⟩))).2.2
  have r1 : ∀ f : Nat, 2454 ≤ f → f ≤ 2458 → r_A R' f c = r_A R f c := fun f a b => o4 f c (c4 f c (Or.inl ⟨a, b, rfl⟩))
  have r48 : ∀ j : Nat, r_A R' 2448 j = r_A R 2448 j := fun j => o4 _ _ (c4 _ _ (Or.inr (Or.inr rfl)))
  have n4 : n ≤ 4 := h3.1.2.2
  have m8 := c_gQ g h0.1.1
  refine ⟨C0_c h0 lx (fun f m => k1 f ((by decide : ∀ f ∈ [200, 201, 205, 206, 215, 216], f / 200 = 1) f m)) (r1 _ (by decide) (by decide)), C1_c h1 (lx.2 1600 _ (by decide) m8) (fun f m => k1 f ((by decide : ∀ f ∈ [202, 203], f / 200 = 1) f m)) (fun f hf => (o1 f _ (c1 f _ (Or.inr ⟨hf, rfl⟩))).1) (fun f m => r1 f ((by decide : ∀ f ∈ [2454, 2455, 2456], 2454 ≤ f) f m) ((by decide : ∀ f ∈ [2454, 2455, 2456], f ≤ 2458) f m)), C2_c h2 ⟨kP 209 rfl, k1 210 rfl⟩ (r1 _ (by decide) (by decide)) mn r48, C3_c h3 (fun f m => k1 f ((by decide : ∀ f ∈ [207, 208, 212], f / 200 = 1) f m)) (kP 211 rfl) ⟨r1 _ (by decide) (by decide), r1 _ (by decide) (by decide)⟩ (fun g hg => o4 _ _ (c4 _ _ (Or.inr (Or.inl ⟨rfl, by omega⟩)))) mn r48⟩
/-- ports, and the channels that they are at -/
def PC (D : CD) (np nc : Nat) (sp : Nat → Option (Nat × Nat)) (gp : Nat → Nat → Option (Nat × Nat)) (ng : Nat → Nat) (K : c_S) (R : r_S) : Prop := ∀ p i : Nat, p < np → i < D.1 p 4 → c_I K 2008 (48 * p + (32 + i)) = r_A R 2450 (16 * p + i) ∧ (r_A R 2450 (16 * p + i) = -1 ∨ ∃ c : Nat, c < nc ∧ r_A R 2450 (16 * p + i) = nI c ∧ r_A R 2454 c = r_A R 2449 (16 * p + i) ∧ (r_A R 2448 (16 * p + i) = 1 → sp c = some (p, i)) ∧ (r_A R 2448 (16 * p + i) = 0 → ∃ g : Nat, g < ng c ∧ gp c g = some (p, i)))
theorem PC_c {D : CD} {np nc nc' : Nat} {sp sp' : Nat → Option (Nat × Nat)} {gp gp' : Nat → Nat → Option (Nat × Nat)} {ng ng' : Nat → Nat} {K K' : c_S} {R R' : r_S} (h : PC D np nc sp gp ng K R) (hn : nc ≤ nc') (k : ∀ j : Nat, c_I K' 2008 j = c_I K 2008 j) (r : ∀ f j : Nat, f ∈ [2448, 2449, 2450] → r_A R' f j = r_A R f j) (r54 : ∀ c : Nat, c < nc → r_A R' 2454 c = r_A R 2454 c) (hs : ∀ c : Nat, c < nc → sp' c = sp c ∧ gp' c = gp c ∧ ng' c = ng c) : PC D np nc' sp' gp' ng' K' R' := fun p i hp hi => by
  obtain ⟨h1, h2⟩ := h p i hp hi
  rw [k, r 2450 _ (by decide), r 2448 _ (by decide), r 2449 _ (by decide)]
  refine ⟨h1, h2.elim Or.inl (fun ⟨c, a1, a2, a3, a4, a5⟩ => Or.inr ⟨c, by omega, a2, (r54 c a1).trans a3, fun z => by rw [(hs c a1).1]; exact a4 z, fun z => by rw [(hs c a1).2.1, (hs c a1).2.2]; exact a5 z⟩)⟩
/-- one port more is at a channel -/
theorem PC_add {D : CD} {np nc c p0 i0 : Nat} {sp sp' : Nat → Option (Nat × Nat)} {gp gp' : Nat → Nat → Option (Nat × Nat)} {ng ng' : Nat → Nat} {K K' : c_S} {R R' : r_S} (h : PC D np nc sp gp ng K R) (hc : c < nc) (hp0 : p0 < np) (hi0 : i0 < D.1 p0 4) (n4 : ∀ p : Nat, p < np → D.1 p 4 ≤ 16) (k : ∀ j : Nat, c_I K' 2008 j = if j = 48 * p0 + (32 + i0) then nI c else c_I K 2008 j) (r : ∀ j : Nat, r_A R' 2450 j = if j = 16 * p0 + i0 then nI c else r_A R 2450 j) (r2 : ∀ f j : Nat, f ∈ [2448, 2449, 2454] → r_A R' f j = r_A R f j) (e49 : r_A R 2449 (16 * p0 + i0) = r_A R 2454 c)
  (s1 : ∀ (c' : Nat) (q : Nat × Nat), c' < nc → sp c' = some q → sp' c' = some q) (s2 : ∀ (c' : Nat) (q : Nat × Nat), c' < nc → (∃ g : Nat, g < ng c' ∧ gp c' g = some q) → ∃ g : Nat, g < ng' c' ∧ gp' c' g = some q) (n1 : r_A R 2448 (16 * p0 + i0) = 1 → sp' c = some (p0, i0)) (n0 : r_A R 2448 (16 * p0 + i0) = 0 → ∃ g : Nat, g < ng' c ∧ gp' c g = some (p0, i0)) : PC D np nc sp' gp' ng' K' R' := fun p i hp hi => by
  obtain ⟨h1, h2⟩ := h p i hp hi
  have b := n4 p hp
  have b0 := n4 p0 hp0
  rw [k, r, r2 2448 _ (by decide), r2 2449 _ (by decide)]
  by_cases z : p = p0 ∧ i = i0
  · obtain ⟨rfl, rfl⟩ := z
    rw [if_pos rfl, if_pos rfl]
    exact ⟨rfl, Or.inr ⟨c, hc, rfl, (r2 2454 _ (by decide)).trans e49.symm, n1, n0⟩⟩
  · rw [if_neg (by omega), if_neg (by omega)]
    exact ⟨h1, h2.elim Or.inl (fun ⟨c', a1, a2, a3, a4, a5⟩ => Or.inr ⟨c', a1, a2, (r2 2454 _ (by decide)).trans a3, fun y => s1 c' _ a1 (a4 y), fun y => s2 c' _ a1 (a5 y)⟩)⟩
/-- where reading channel c changes something; reading channels -/
def dI (c f i : Nat) : Prop := (f / 200 = 9 ∧ 1806 < f) ∨ (f / 200 = 1 ∧ i = c) ∨ (f / 200 = 8 ∧ i = 1000 + c) ∨ f = 2008 ∨ f = 1203 ∨ f = 1205 ∨ f = 1206
def dA (c f i : Nat) : Prop := (f / 200 = 1 ∧ i = c) ∨ (f / 200 = 8 ∧ i = 1000 + c) ∨ f = 1204
def di (f : Nat) : Prop := (2404 ≤ f ∧ f ≤ 2411) ∨ f = 2416 ∨ f = 2418 ∨ f = 2419
def da (c f i : Nat) : Prop := f = 2450 ∨ (2454 ≤ f ∧ f ≤ 2458 ∧ i = c) ∨ (f = 2459 ∧ i / 4 = c) ∨ f = 2460
def kI (f i : Nat) : Prop := (f / 200 = 9 ∧ 1806 < f) ∨ f / 200 = 1 ∨ (f / 200 = 8 ∧ 1000 ≤ i) ∨ f = 2008 ∨ f = 1203 ∨ f = 1205 ∨ f = 1206
def kA (f i : Nat) : Prop := f / 200 = 1 ∨ (f / 200 = 8 ∧ 1000 ≤ i) ∨ f = 1204
def ka (f i : Nat) : Prop := f = 2450 ∨ (2454 ≤ f ∧ f ≤ 2460)
/-- what the channels before leave alone -/
def CB (D : CD) (np lm : Nat) (Ks : c_S) (Rs : r_S) (nc : Nat) (sp : Nat → Option (Nat × Nat)) (gp : Nat → Nat → Option (Nat × Nat)) (ng : Nat → Nat) (L : c_L) (K : c_S) (R : r_S) : Prop := PP L K R np lm ∧ (∀ p : Nat, p < np → RQD D L K R p lm) ∧ (∀ c : Nat, c < nc → CHN D np L K R c (sp c) (gp c) (ng c) ∧ 1 ≤ ng c) ∧ OF kI kA di ka Ks Rs K R
theorem CB_of {D : CD} {np lm : Nat} {Ks : c_S} {Rs : r_S} {nc : Nat} {sp sp' : Nat → Option (Nat × Nat)} {gp gp' : Nat → Nat → Option (Nat × Nat)} {ng ng' : Nat → Nat} {L L' : c_L} {T : q_S} {K K' : c_S} {R R' : r_S} (h : CB D np lm Ks Rs nc sp gp ng L K R) (g : c_G L T) (lx : LX L L') (n24 : nc ≤ 24) (of : OF (dI nc) (dA nc) di (da nc) K R K' R') (mn : ∀ j c : Nat, c < nc → r_A R 2450 j = nI c → r_A R' 2450 j = nI c) (hs : ∀ c : Nat, c < nc → sp' c = sp c ∧ gp' c = gp c ∧ ng' c = ng c) : CB D np lm Ks Rs nc sp' gp' ng' L' K' R' := by
  obtain ⟨h1, h2, h3, h4⟩ := h
  have np16 := h1.1
  refine ⟨PP_c h1 lx (Nat.le_refl _) (of.1 1201 0 (fun z => by unfold dI at z; omega)).1 (of.2.2.1 2415 (fun z => by unfold di at z; omega)) (fun p _ => (of.1 1001 p (fun z => by unfold dI at z; omega)).2.1) (fun p _ => ⟨of.2.2.2 _ _ (fun z => by unfold da at z; omega), of.2.2.2 _ _ (fun z => by unfold da at z; omega)⟩) (fun i _ => of.2.2.2 _ _ (fun z => by unfold da at z; omega)), fun p hp => RQD_of (h2 p hp) g lx of (fun f i a b => by unfold sI at a; unfold dI at b; omega) (fun f i a b => by unfold sA at a; unfold dA at b; omega) (fun f i a b => by unfold sa at a; unfold da at b; generalize pst f = x at *; omega), fun c hc => ?_, OF_t h4 (OF_w of (fun f i z => by unfold dI at z; unfold kI; omega) (fun f i z => by unfold dA at z; unfold kA; omega) (fun f z => z) (fun f i z => by unfold da at z; unfold ka; omega))⟩
  rw [(hs c hc).1, (hs c hc).2.1, (hs c hc).2.2]
  exact ⟨CHN_of (h3 c hc).1 g lx of (fun f i a b => by unfold dI at b; omega) (fun f i a b => by unfold da at b; omega) (fun j e => mn j c hc e), (h3 c hc).2⟩
/-- the channels whose source is a device -/
def IC (K : c_S) (R : r_S) (nc ni : Nat) (sp : Nat → Option (Nat × Nat)) (ic : Nat → Nat) : Prop := (∀ i : Nat, i < ni → ic i < nc ∧ c_A K 1204 0 i = nI (ic i) ∧ r_A R 2460 i = nI (ic i) ∧ sp (ic i) = none) ∧ ∀ i j : Nat, i < ni → j < ni → ic i = ic j → i = j
