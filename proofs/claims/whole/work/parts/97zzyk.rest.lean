/-! What holds of a partition that is being read, between two of its things. -/
/-- nothing changes but where it may -/
def OF (cI cA : Nat → Nat → Prop) (rI : Nat → Prop) (rA : Nat → Nat → Prop) (K : c_S) (R : r_S) (K' : c_S) (R' : r_S) : Prop := (∀ f i : Nat, ¬ cI f i → c_I K' f i = c_I K f i ∧ c_J K' f i = c_J K f i ∧ c_P K' f i = c_P K f i) ∧ (∀ f i j : Nat, ¬ cA f i → c_A K' f i j = c_A K f i j) ∧ (∀ f : Nat, ¬ rI f → r_I R' f = r_I R f) ∧ ∀ f i : Nat, ¬ rA f i → r_A R' f i = r_A R f i
theorem OF_0 {cI cA : Nat → Nat → Prop} {rI : Nat → Prop} {rA : Nat → Nat → Prop} {K : c_S} {R : r_S} : OF cI cA rI rA K R K R := ⟨fun _ _ _ => ⟨rfl, rfl, rfl⟩, fun _ _ _ _ => rfl, fun _ _ => rfl, fun _ _ _ => rfl⟩
theorem OF_t {cI cA : Nat → Nat → Prop} {rI : Nat → Prop} {rA : Nat → Nat → Prop} {K K1 K2 : c_S} {R R1 R2 : r_S} (h : OF cI cA rI rA K R K1 R1) (h2 : OF cI cA rI rA K1 R1 K2 R2) : OF cI cA rI rA K R K2 R2 := ⟨fun f i z => ⟨(h2.1 f i z).1.trans (h.1 f i z).1, (h2.1 f i z).2.1.trans (h.1 f i z).2.1, (h2.1 f i z).2.2.trans (h.1 f i z).2.2⟩, fun f i j z => (h2.2.1 f i j z).trans (h.2.1 f i j z), fun f z => (h2.2.2.1 f z).trans (h.2.2.1 f z), fun f i z => (h2.2.2.2 f i z).trans (h.2.2.2 f i z)⟩
theorem OF_w {cI cA cI' cA' : Nat → Nat → Prop} {rI rI' : Nat → Prop} {rA rA' : Nat → Nat → Prop} {K K1 : c_S} {R R1 : r_S} (h : OF cI cA rI rA K R K1 R1) (w1 : ∀ f i : Nat, cI f i → cI' f i) (w2 : ∀ f i : Nat, cA f i → cA' f i) (w3 : ∀ f : Nat, rI f → rI' f) (w4 : ∀ f i : Nat, rA f i → rA' f i) : OF cI' cA' rI' rA' K R K1 R1 := ⟨fun f i z => h.1 f i (fun y => z (w1 f i y)), fun f i j z => h.2.1 f i j (fun y => z (w2 f i y)), fun f z => h.2.2.1 f (fun y => z (w3 f y)), fun f i z => h.2.2.2 f i (fun y => z (w4 f i y))⟩
theorem OF_k {cI cA : Nat → Nat → Prop} {rI : Nat → Prop} {rA : Nat → Nat → Prop} {K K1 K2 : c_S} {R R1 R2 : r_S} (h : OF cI cA rI rA K R K1 R1) (t : TOKf K1 K2 R1 R2) (h1 : ∀ f i : Nat, 1807 ≤ f ∧ f ≤ 1811 → cI f i) (h2 : ∀ f : Nat, 2404 ≤ f → f ≤ 2411 → rI f) : OF cI cA rI rA K R K2 R2 := by
  refine OF_t h ⟨fun f i z => ⟨t.1 f i (fun m => z (h1 f i ((by decide : ∀ f ∈ [1807, 1808, 1809, 1811], 1807 ≤ f ∧ f ≤ 1811) f m))), t.2.1 f i (fun m => z (h1 f i (by rw [m]; decide))), TOKf_P t f i⟩, fun f i j z => by rw [TOKf_A t], fun f z => t.2.2.2.1 f (fun m => z ?_), fun f i z => TOKf_a t f i⟩
  have := (by decide : ∀ f ∈ [2405, 2406, 2407, 2408, 2409, 2410], 2404 ≤ f ∧ f ≤ 2411) f m
  exact h2 f this.1 this.2
theorem OF_I {cI cA : Nat → Nat → Prop} {rI : Nat → Prop} {rA : Nat → Nat → Prop} {K K1 : c_S} {R R1 : r_S} {f i : Nat} {v : Int32} (h : OF cI cA rI rA K R K1 R1) (c : cI f i) : OF cI cA rI rA K R (cs_I K1 f i v) R1 := OF_t h ⟨fun f' i' z => ⟨if_neg (fun y : f' = f ∧ i' = i => z (by rw [y.1, y.2]; exact c)), rfl, rfl⟩, fun _ _ _ _ => rfl, fun _ _ => rfl, fun _ _ _ => rfl⟩
theorem OF_P {cI cA : Nat → Nat → Prop} {rI : Nat → Prop} {rA : Nat → Nat → Prop} {K K1 : c_S} {R R1 : r_S} {f i : Nat} {v : Option Nat} (h : OF cI cA rI rA K R K1 R1) (c : cI f i) : OF cI cA rI rA K R (cs_P K1 f i v) R1 := OF_t h ⟨fun f' i' z => ⟨rfl, rfl, if_neg (fun y : f' = f ∧ i' = i => z (by rw [y.1, y.2]; exact c))⟩, fun _ _ _ _ => rfl, fun _ _ => rfl, fun _ _ _ => rfl⟩
theorem OF_A {cI cA : Nat → Nat → Prop} {rI : Nat → Prop} {rA : Nat → Nat → Prop} {K K1 : c_S} {R R1 : r_S} {f i j : Nat} {v : Int32} (h : OF cI cA rI rA K R K1 R1) (c : cA f i) : OF cI cA rI rA K R (cs_A K1 f i j v) R1 := OF_t h ⟨fun _ _ _ => ⟨rfl, rfl, rfl⟩, fun f' i' j' z => by rw [c_AA, if_neg (fun y : f' = f ∧ i' = i ∧ j' = j => z (by rw [y.1, y.2.1]; exact c))], fun _ _ => rfl, fun _ _ _ => rfl⟩
theorem OF_a {cI cA : Nat → Nat → Prop} {rI : Nat → Prop} {rA : Nat → Nat → Prop} {K K1 : c_S} {R R1 : r_S} {f i : Nat} {v : Int32} (h : OF cI cA rI rA K R K1 R1) (c : rA f i) : OF cI cA rI rA K R K1 (rs_A R1 f i v) := OF_t h ⟨fun _ _ _ => ⟨rfl, rfl, rfl⟩, fun _ _ _ _ => rfl, fun _ _ => rfl, fun f' i' z => if_neg (fun y : f' = f ∧ i' = i => z (by rw [y.1, y.2]; exact c))⟩
theorem OF_i {cI cA : Nat → Nat → Prop} {rI : Nat → Prop} {rA : Nat → Nat → Prop} {K K1 : c_S} {R R1 : r_S} {f : Nat} {v : Int32} (h : OF cI cA rI rA K R K1 R1) (c : rI f) : OF cI cA rI rA K R K1 (rs_I R1 f v) := OF_t h ⟨fun _ _ _ => ⟨rfl, rfl, rfl⟩, fun _ _ _ _ => rfl, fun f' z => if_neg (fun y : f' = f => z (by rw [y]; exact c)), fun _ _ _ => rfl⟩
/-- a process read -/
def PQ1 (K : c_S) (R : r_S) (p : Nat) (hd : Option Nat) (j : Nat) : Prop :=
  (c_I K 1400 (16 * p + j) = nI j ∧ c_I K 1407 (16 * p + j) = (if hd = some j then 1 else 0)) ∧
  (c_I K 1402 (16 * p + j) = r_A R 2436 (16 * p + j) ∧ c_I K 1403 (16 * p + j) = r_A R 2437 (16 * p + j) ∧ c_I K 1404 (16 * p + j) = r_A R 2438 (16 * p + j) ∧ c_I K 1405 (16 * p + j) = r_A R 2439 (16 * p + j) ∧ c_I K 1406 (16 * p + j) = r_A R 2440 (16 * p + j) ∧ c_I K 1408 (16 * p + j) = r_A R 2441 (16 * p + j)) ∧
  ((0 ≤ (r_A R 2438 (16 * p + j)).toInt ∧ (r_A R 2438 (16 * p + j)).toInt ≤ 100000) ∧ (0 ≤ (r_A R 2439 (16 * p + j)).toInt ∧ (r_A R 2439 (16 * p + j)).toInt ≤ 100000) ∧ (0 ≤ (r_A R 2440 (16 * p + j)).toInt ∧ (r_A R 2440 (16 * p + j)).toInt ≤ 100000)) ∧
  (c_I K 1409 (16 * p + j) = 0 ∧ c_I K 1410 (16 * p + j) = 0 ∧ c_I K 1414 (16 * p + j) = 0 ∧ c_I K 1415 (16 * p + j) = 0 ∧ c_I K 1416 (16 * p + j) = 0) ∧ (c_I K 1412 (16 * p + j) = -1 ∧ c_I K 1413 (16 * p + j) = -1 ∧ c_I K 1418 (16 * p + j) = -1) ∧ ∀ x : Nat, x < 32 → c_A K 1411 (16 * p + j) x = 0
theorem PQ1_c {K K' : c_S} {R R' : r_S} {p j : Nat} {hd hd' : Option Nat} (h : PQ1 K R p hd j) (k : ∀ f : Nat, f / 200 = 7 → c_I K' f (16 * p + j) = c_I K f (16 * p + j)) (a : ∀ x : Nat, c_A K' 1411 (16 * p + j) x = c_A K 1411 (16 * p + j) x) (r : ∀ f : Nat, 2436 ≤ f → f ≤ 2441 → r_A R' f (16 * p + j) = r_A R f (16 * p + j)) (e : hd' = some j ↔ hd = some j) : PQ1 K' R' p hd' j := by
  unfold PQ1 at h ⊢
  simp only [k 1400 rfl, k 1407 rfl, k 1402 rfl, k 1403 rfl, k 1404 rfl, k 1405 rfl, k 1406 rfl, k 1408 rfl, k 1409 rfl, k 1410 rfl, k 1414 rfl, k 1415 rfl, k 1416 rfl, k 1412 rfl, k 1413 rfl, k 1418 rfl, a, r 2436 (by decide) (by decide), r 2437 (by decide) (by decide), r 2438 (by decide) (by decide), r 2439 (by decide) (by decide), r 2440 (by decide) (by decide), r 2441 (by decide) (by decide), e]
  exact h
/-- a thing read; x its place -/
def PT1 (L : c_L) (K : c_S) (R : r_S) (p s i : Nat) : Prop :=
  (s = 0 → c_I K 2002 (48 * p + (8 * s + i)) = r_A R 2443 (8 * p + i) ∧ c_I K 2003 (48 * p + (8 * s + i)) = r_A R 2444 (8 * p + i) ∧ c_I K 2004 (48 * p + (8 * s + i)) = r_A R 2445 (8 * p + i) ∧ c_I K 2001 (48 * p + (8 * s + i)) = r_A R 2443 (8 * p + i) ∧ 0 ≤ (r_A R 2443 (8 * p + i)).toInt ∧ (r_A R 2443 (8 * p + i)).toInt ≤ (r_A R 2444 (8 * p + i)).toInt ∧ (r_A R 2444 (8 * p + i)).toInt ≤ 100) ∧
  (s ≠ 0 → c_I K 2002 (48 * p + (8 * s + i)) = 0 ∧ c_I K 2001 (48 * p + (8 * s + i)) = 0) ∧
  (s = 2 → c_I K 2004 (48 * p + (8 * s + i)) = r_A R 2447 (8 * p + i) ∧ ∃ d : Nat, c_I K 1601 (48 * p + (8 * s + i)) = nI d ∧ r_A R 2446 (8 * p + i) = nI d ∧ 1 ≤ d ∧ d ≤ 16 ∧ d ≤ c_ln L 1600 (48 * p + (8 * s + i)) ∧ c_I K 1602 (48 * p + (8 * s + i)) = 0 ∧ c_I K 1603 (48 * p + (8 * s + i)) = 0) ∧
  (s = 4 → c_I K 2006 (48 * p + (8 * s + i)) = r_A R 2448 (16 * p + i) ∧ c_I K 2007 (48 * p + (8 * s + i)) = r_A R 2449 (16 * p + i) ∧ (r_A R 2448 (16 * p + i) = 0 ∨ r_A R 2448 (16 * p + i) = 1) ∧ (r_A R 2449 (16 * p + i) = 0 ∨ r_A R 2449 (16 * p + i) = 1))
theorem PT1_c {L L' : c_L} {K K' : c_S} {R R' : r_S} {p s i : Nat} (h : PT1 L K R p s i) (lx : s = 2 → c_ln L 1600 (48 * p + (8 * s + i)) ≤ c_ln L' 1600 (48 * p + (8 * s + i))) (k : ∀ f : Nat, f / 200 = 10 ∨ f / 200 = 8 → f ≠ 2008 → c_I K' f (48 * p + (8 * s + i)) = c_I K f (48 * p + (8 * s + i))) (r : ∀ f : Nat, (s = 0 ∧ 2443 ≤ f ∧ f ≤ 2445) ∨ (s = 2 ∧ 2446 ≤ f ∧ f ≤ 2447) → r_A R' f (8 * p + i) = r_A R f (8 * p + i)) (r4 : s = 4 → r_A R' 2448 (16 * p + i) = r_A R 2448 (16 * p + i) ∧ r_A R' 2449 (16 * p + i) = r_A R 2449 (16 * p + i)) : PT1 L' K' R' p s i := by
  obtain ⟨h0, h1, h2, h4⟩ := h
  refine ⟨fun z => ?_, fun z => ?_, fun z => ?_, fun z => ?_⟩
  · have h := h0 z
    rw [k 2002 (by decide) (by decide), k 2003 (by decide) (by decide), k 2004 (by decide) (by decide), k 2001 (by decide) (by decide), r 2443 (by omega), r 2444 (by omega), r 2445 (by omega)]
    exact h
  · rw [k 2002 (by decide) (by decide), k 2001 (by decide) (by decide)]
    exact h1 z
  · obtain ⟨a1, d, a2, a3, a4, a5, a6, a7, a8⟩ := h2 z
    rw [k 2004 (by decide) (by decide), r 2447 (by omega)]
    exact ⟨a1, d, (k 1601 (by decide) (by decide)).trans a2, (r 2446 (by omega)).trans a3, a4, a5, Nat.le_trans a6 (lx z), (k 1602 (by decide) (by decide)).trans a7, (k 1603 (by decide) (by decide)).trans a8⟩
  · rw [k 2006 (by decide) (by decide), k 2007 (by decide) (by decide), (r4 z).1, (r4 z).2]
    exact h4 z
/-- the head -/
def PH (L : c_L) (K : c_S) (R : r_S) (p : Nat) (hd : Option Nat) : Prop := (c_mk L 5 p ∧ c_I K 1000 p = nI p) ∧ (match hd with | none => c_I K 1008 p = -1 ∧ r_A R 2442 p = -1 | some h => h < 16 ∧ c_I K 1008 p = nI h ∧ r_A R 2442 p = nI (16 * p + h)) ∧ (c_I K 1009 p = 0 ∧ c_I K 1010 p = -1 ∧ c_I K 1011 p = 0 ∧ c_I K 1012 p = 0 ∧ c_I K 1013 p = 0 ∧ c_I K 1014 p = -1 ∧ c_I K 1015 p = 0 ∧ c_I K 1016 p = -1)
theorem PH_c {L L' : c_L} {K K' : c_S} {R R' : r_S} {p : Nat} {hd : Option Nat} (h : PH L K R p hd) (lx : LX L L') (k : ∀ f : Nat, f / 200 = 5 → f ≠ 1004 → c_I K' f p = c_I K f p) (r : r_A R' 2442 p = r_A R 2442 p) : PH L' K' R' p hd := by
  unfold PH at h ⊢
  rw [k 1000 rfl (by decide), k 1008 rfl (by decide), k 1009 rfl (by decide), k 1010 rfl (by decide), k 1011 rfl (by decide), k 1012 rfl (by decide), k 1013 rfl (by decide), k 1014 rfl (by decide), k 1015 rfl (by decide), k 1016 rfl (by decide), r]
  exact ⟨⟨(lx.1 _ _ h.1.1).1, h.1.2⟩, h.2⟩
/-- the table of errors; hp: where 6 may stand -/
def PA (K : c_S) (R : r_S) (p : Nat) (hp : Prop) : Prop := ∀ j : Nat, j < 5 → c_A K 1007 p j = r_A R 2452 (5 * p + j) ∧ 0 ≤ (r_A R 2452 (5 * p + j)).toInt ∧ (r_A R 2452 (5 * p + j)).toInt ≤ 6 ∧ (r_A R 2452 (5 * p + j) = 6 → hp)
theorem PA_c {K K' : c_S} {R R' : r_S} {p : Nat} {hp hp' : Prop} (h : PA K R p hp) (k : ∀ j : Nat, c_A K' 1007 p j = c_A K 1007 p j) (r : ∀ j : Nat, j < 5 → r_A R' 2452 (5 * p + j) = r_A R 2452 (5 * p + j)) (i : hp → hp') : PA K' R' p hp' := fun j hj => by
  rw [k, r j hj]
  exact ⟨(h j hj).1, (h j hj).2.1, (h j hj).2.2.1, fun z => i ((h j hj).2.2.2 z)⟩
/-- the memory; re: where the regions end -/
def PM (L : c_L) (K : c_S) (R : r_S) (p k nr : Nat) (re : Nat → Nat) : Prop := (1 ≤ k ∧ k ≤ 32 ∧ c_I K 800 p = nI (256 * k) ∧ r_A R 2425 p = nI (256 * k) ∧ 64 * k ≤ c_ln L 801 p ∧ 64 * k ≤ c_ln L 802 p) ∧ (nr ≤ 6 ∧ c_I K 803 p = nI nr ∧ r_A R 2426 p = nI nr ∧ re 0 = 0) ∧
  (∀ i : Nat, i < nr → re i < re (i + 1) ∧ re (i + 1) % 64 = 0 ∧ re (i + 1) ≤ 256 * k ∧ c_A K 804 p i = nI (re (i + 1)) ∧ r_A R 2427 (6 * p + i) = nI (re i) ∧ r_A R 2428 (6 * p + i) = nI (re (i + 1) - re i) ∧ c_A K 805 p i = r_A R 2429 (6 * p + i) ∧ 0 ≤ (r_A R 2429 (6 * p + i)).toInt ∧ (r_A R 2429 (6 * p + i)).toInt ≤ 3) ∧ ∀ x : Nat, x < 64 * k → c_A K 801 p x = 0 ∧ c_A K 802 p x = 0
theorem PM_c {L L' : c_L} {K K' : c_S} {R R' : r_S} {p k nr : Nat} {re : Nat → Nat} (h : PM L K R p k nr re) (l1 : c_ln L 801 p ≤ c_ln L' 801 p) (l2 : c_ln L 802 p ≤ c_ln L' 802 p) (kk : ∀ f : Nat, f / 200 = 4 → c_I K' f p = c_I K f p) (ka : ∀ f j : Nat, f / 200 = 4 → c_A K' f p j = c_A K f p j) (r1 : r_A R' 2425 p = r_A R 2425 p ∧ r_A R' 2426 p = r_A R 2426 p) (r6 : ∀ f i : Nat, 2427 ≤ f → f ≤ 2429 → i < 6 → r_A R' f (6 * p + i) = r_A R f (6 * p + i)) : PM L' K' R' p k nr re := by
  obtain ⟨⟨a1, a2, a3, a4, a5, a6⟩, ⟨b1, b2, b3, b4⟩, h3, h4⟩ := h
  refine ⟨⟨a1, a2, (kk 800 rfl).trans a3, r1.1.trans a4, by omega, by omega⟩, ⟨b1, (kk 803 rfl).trans b2, r1.2.trans b3, b4⟩, fun i hi => ?_, fun x hx => by rw [ka 801 x rfl, ka 802 x rfl]; exact h4 x hx⟩
  rw [ka 804 i rfl, ka 805 i rfl, r6 2427 i (by decide) (by decide) (by omega), r6 2428 i (by decide) (by decide) (by omega), r6 2429 i (by decide) (by decide) (by omega)]
  exact h3 i hi
/-- a partition read so far -/
def RP (L : c_L) (K : c_S) (R : r_S) (p lm : Nat) (cn : Nat → Nat) (hd : Option Nat) (k nr : Nat) (re : Nat → Nat) (hp : Prop) : Prop := PH L K R p hd ∧ PA K R p hp ∧ PM L K R p k nr re ∧ PN L K R p lm cn ∧ (∀ h : Nat, hd = some h → h < cn 5) ∧ (∀ j : Nat, j < cn 5 → PQ1 K R p hd j) ∧ (∀ s i : Nat, s < 5 → i < cn s → PT1 L K R p s i) ∧ ∀ i : Nat, i < cn 4 → c_I K 2008 (48 * p + (32 + i)) = -1 ∧ r_A R 2450 (16 * p + i) = -1
