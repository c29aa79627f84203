/-! The reference's constructor: rows of zeros, and the place of no fault. -/
theorem pK_R {S : q_S} {k n b a : Nat} : q_K (qs_R S k n b) a = if a = b then k else q_K S a := rfl
theorem pN_R {S : q_S} {k n b a : Nat} : q_N (qs_R S k n b) a = if a = b then n else q_N S a := rfl
theorem pA_R {S : q_S} {k n b a i : Nat} : q_A (qs_R S k n b) a i = if a = b then 0 else q_A S a i := rfl
theorem pB_R {S : q_S} {k n b a i : Nat} : q_B (qs_R S k n b) a i = if a = b then 0 else q_B S a i := rfl
theorem pC_R {S : q_S} {k n b a i : Nat} : q_C (qs_R S k n b) a i = if a = b then none else q_C S a i := rfl
theorem pI_R {S : q_S} {k n b f a : Nat} : q_I (qs_R S k n b) f a = q_I S f a := rfl
theorem pJ_R {S : q_S} {k n b f a : Nat} : q_J (qs_R S k n b) f a = q_J S f a := rfl
theorem pP_R {S : q_S} {k n b f a : Nat} : q_P (qs_R S k n b) f a = q_P S f a := rfl
theorem pK_O {S : q_S} {c b a : Nat} : q_K (qs_O S c b) a = if a = b then c + 1 else q_K S a := rfl
theorem pN_O {S : q_S} {c b a : Nat} : q_N (qs_O S c b) a = q_N S a := rfl
theorem pI_O {S : q_S} {c b f a : Nat} : q_I (qs_O S c b) f a = if a = b then 0 else q_I S f a := rfl
theorem pJ_O {S : q_S} {c b f a : Nat} : q_J (qs_O S c b) f a = if a = b then 0 else q_J S f a := rfl
theorem pP_O {S : q_S} {c b f a : Nat} : q_P (qs_O S c b) f a = if a = b then none else q_P S f a := rfl
theorem pA_O {S : q_S} {c b a i : Nat} : q_A (qs_O S c b) a i = q_A S a i := rfl
theorem pB_O {S : q_S} {c b a i : Nat} : q_B (qs_O S c b) a i = q_B S a i := rfl
theorem pC_O {S : q_S} {c b a i : Nat} : q_C (qs_O S c b) a i = q_C S a i := rfl
theorem pK_P {S : q_S} {f a b : Nat} {v : Option Nat} : q_K (qs_P S f a v) b = q_K S b := rfl
theorem pN_P {S : q_S} {f a b : Nat} {v : Option Nat} : q_N (qs_P S f a v) b = q_N S b := rfl
theorem pI_P {S : q_S} {f a g b : Nat} {v : Option Nat} : q_I (qs_P S f a v) g b = q_I S g b := rfl
theorem pJ_P {S : q_S} {f a g b : Nat} {v : Option Nat} : q_J (qs_P S f a v) g b = q_J S g b := rfl
theorem pP_P {S : q_S} {f a g b : Nat} {v : Option Nat} : q_P (qs_P S f a v) g b = if g = f ∧ b = a then v else q_P S g b := rfl
theorem pA_P {S : q_S} {f a b i : Nat} {v : Option Nat} : q_A (qs_P S f a v) b i = q_A S b i := rfl
theorem pB_P {S : q_S} {f a b i : Nat} {v : Option Nat} : q_B (qs_P S f a v) b i = q_B S b i := rfl
theorem pC_P {S : q_S} {f a b i : Nat} {v : Option Nat} : q_C (qs_P S f a v) b i = q_C S b i := rfl
theorem pK_I {S : q_S} {f a b : Nat} {v : Int32} : q_K (qs_I S f a v) b = q_K S b := rfl
theorem pN_I {S : q_S} {f a b : Nat} {v : Int32} : q_N (qs_I S f a v) b = q_N S b := rfl
theorem pI_I {S : q_S} {f a g b : Nat} {v : Int32} : q_I (qs_I S f a v) g b = if g = f ∧ b = a then v else q_I S g b := rfl
theorem pJ_I {S : q_S} {f a g b : Nat} {v : Int32} : q_J (qs_I S f a v) g b = q_J S g b := rfl
theorem pP_I {S : q_S} {f a g b : Nat} {v : Int32} : q_P (qs_I S f a v) g b = q_P S g b := rfl
theorem pA_I {S : q_S} {f a b i : Nat} {v : Int32} : q_A (qs_I S f a v) b i = q_A S b i := rfl
theorem pB_I {S : q_S} {f a b i : Nat} {v : Int32} : q_B (qs_I S f a v) b i = q_B S b i := rfl
theorem pC_I {S : q_S} {f a b i : Nat} {v : Int32} : q_C (qs_I S f a v) b i = q_C S b i := rfl
theorem pK_B {S : q_S} {a i b : Nat} {v : Int64} : q_K (qs_B S a i v) b = q_K S b := rfl
theorem pN_B {S : q_S} {a i b : Nat} {v : Int64} : q_N (qs_B S a i v) b = q_N S b := rfl
theorem pI_B {S : q_S} {a i g b : Nat} {v : Int64} : q_I (qs_B S a i v) g b = q_I S g b := rfl
theorem pJ_B {S : q_S} {a i g b : Nat} {v : Int64} : q_J (qs_B S a i v) g b = q_J S g b := rfl
theorem pP_B {S : q_S} {a i g b : Nat} {v : Int64} : q_P (qs_B S a i v) g b = q_P S g b := rfl
theorem pA_B {S : q_S} {a i b j : Nat} {v : Int64} : q_A (qs_B S a i v) b j = q_A S b j := rfl
theorem pB_B {S : q_S} {a i b j : Nat} {v : Int64} : q_B (qs_B S a i v) b j = if b = a ∧ j = i then v else q_B S b j := rfl
theorem pC_B {S : q_S} {a i b j : Nat} {v : Int64} : q_C (qs_B S a i v) b j = q_C S b j := rfl
def ri_F : List Nat := [2401, 2402, 2421, 2423, 2424, 2425, 2426, 2427, 2428, 2429, 2430, 2431, 2432, 2433, 2434, 2435, 2436, 2437, 2438, 2439, 2440, 2441, 2442, 2443, 2444, 2445, 2446, 2447, 2448, 2449, 2450, 2451, 2452, 2454, 2455, 2456, 2457, 2458, 2459, 2460, 2461, 2462, 2465, 2466, 2467, 2468, 2469, 2470, 2471, 2472, 2473, 2474, 2475, 2476, 2477, 2478, 2479, 2480, 2481, 2482, 2483, 2484, 2485, 2486, 2487, 2488, 2489, 2490, 2491, 2492, 2493, 2494, 2495, 2496, 2497, 2498, 2499, 2500, 2501, 2502, 2503, 2504, 2505, 2506, 2507, 2511, 2512]
def ri_f (k : Nat) : Nat := ri_F.getD k 0
theorem ri_nd : ∀ n : Nat, n < 87 → ∀ i : Nat, i < n → ri_f i ≠ ri_f n := by decide +kernel
theorem ri_k0 : ∀ n : Nat, n < 87 → r_Kd (ri_f n) ≠ 0 ∧ r_N (ri_f n) ≠ 0 ∧ 2400 ≤ ri_f n := by decide +kernel
/-- n rows stand: the k-th at g k; nothing else has changed since S0 -/
def ri_B (m : Nat) (S0 S : q_S) (n : Nat) (g : Nat → Nat) : Prop := q_K S m = 13 ∧ (∀ k : Nat, k < n → g k ≠ m ∧ q_K S0 (g k) = 0 ∧ q_K S (g k) = r_Kd (ri_f k) ∧ q_N S (g k) = r_N (ri_f k) ∧ q_P S (ri_f k) m = some (g k) ∧ ∀ i : Nat, q_A S (g k) i = 0) ∧ (∀ i j : Nat, i < n → j < n → g i = g j → i = j) ∧ (∀ a : Nat, (∀ k : Nat, k < n → a ≠ g k) → q_K S a = q_K S0 a ∧ q_N S a = q_N S0 a ∧ (∀ i : Nat, q_A S a i = q_A S0 a i) ∧ (∀ i : Nat, q_B S a i = q_B S0 a i) ∧ ∀ i : Nat, q_C S a i = q_C S0 a i) ∧ (∀ f a : Nat, a ≠ m → q_P S f a = q_P S0 f a) ∧ (∀ f a : Nat, q_I S f a = q_I S0 f a) ∧ ∀ f a : Nat, q_J S f a = q_J S0 f a
theorem ri_0 {m : Nat} {S : q_S} (h : q_K S m = 13) (g : Nat → Nat) : ri_B m S S 0 g := ⟨h, fun k hk => absurd hk (Nat.not_lt_zero k), fun i j hi => absurd hi (Nat.not_lt_zero i), fun a _ => ⟨rfl, rfl, fun _ => rfl, fun _ => rfl, fun _ => rfl⟩, fun f a _ => rfl, fun f a => rfl, fun f a => rfl⟩
theorem ri_I {m n f : Nat} {v : Int32} {S0 S : q_S} {g : Nat → Nat} (J : ri_B m S0 S n g) : ri_B m (qs_I S0 f m v) (qs_I S f m v) n g := by
  obtain ⟨h1, h2, h3, h4, h5, h6, h7⟩ := J
  refine ⟨h1, h2, h3, h4, h5, fun f' a => ?_, h7⟩
  rw [pI_I, pI_I, h6]
theorem ri_M {m n k len b : Nat} {S0 S : q_S} {g : Nat → Nat} (J : ri_B m S0 S n g) (hb : q_K S b = 0) : q_K (qs_R S k len b) m = 13 := by
  rw [pK_R, if_neg (fun e => by rw [← e, J.1] at hb; exact absurd hb (by decide))]
  exact J.1
theorem ri_step {m n k len f b : Nat} {S0 S : q_S} {g : Nat → Nat} (J : ri_B m S0 S n g) (hb : q_K S b = 0) (hn : n < 87) (hf : ri_f n = f) (hk : r_Kd f = k) (hl : r_N f = len) : ri_B m S0 (qs_P (qs_R S k len b) f m (some b)) (n + 1) (fun i => if i = n then b else g i) := by
  obtain ⟨h1, h2, h3, h4, h5, h6, h7⟩ := id J
  subst hf; subst hk; subst hl
  have hgb : ∀ i : Nat, i < n → g i ≠ b := fun i hi e => by
    have q := (h2 i hi).2.2.1
    rw [e, hb] at q
    exact (ri_k0 i (Nat.lt_trans hi hn)).1 q.symm
  have hbm : b ≠ m := fun e => by rw [e, h1] at hb; exact absurd hb (by decide)
  have hb0 : q_K S0 b = 0 := by rw [← (h4 b (fun i hi e => hgb i hi e.symm)).1]; exact hb
  refine ⟨?_, fun i hi => ?_, fun i j hi hj e => ?_, fun a ha => ?_, fun f a hfa => ?_, fun f a => ?_, fun f a => ?_⟩
  · rw [pK_P]; exact ri_M J hb
  · by_cases e : i = n
    · subst e
      simp only [if_true]
      refine ⟨hbm, hb0, ?_, ?_, ?_, fun j => ?_⟩
      · rw [pK_P, pK_R, if_pos rfl]
      · rw [pN_P, pN_R, if_pos rfl]
      · rw [pP_P, if_pos ⟨rfl, rfl⟩]
      · rw [pA_P, pA_R, if_pos rfl]
    · have hi' : i < n := by omega
      obtain ⟨a1, a2, a3, a4, a5, a6⟩ := h2 i hi'
      have gb := hgb i hi'
      simp only [if_neg e]
      refine ⟨a1, a2, ?_, ?_, ?_, fun j => ?_⟩
      · rw [pK_P, pK_R, if_neg gb]; exact a3
      · rw [pN_P, pN_R, if_neg gb]; exact a4
      · rw [pP_P, if_neg (fun z => ri_nd n hn i hi' z.1), pP_R]; exact a5
      · rw [pA_P, pA_R, if_neg gb]; exact a6 j
  · by_cases e1 : i = n
    · by_cases e2 : j = n
      · rw [e1, e2]
      · simp only [if_pos e1, if_neg e2] at e
        exact absurd e.symm (hgb j (by omega))
    · by_cases e2 : j = n
      · simp only [if_neg e1, if_pos e2] at e
        exact absurd e (hgb i (by omega))
      · simp only [if_neg e1, if_neg e2] at e
        exact h3 i j (by omega) (by omega) e
  · have hab : a ≠ b := by
      have q := ha n (Nat.lt_succ_self n)
      simpa using q
    have q := h4 a (fun i hi e => by
      have q := ha i (by omega)
      simp only [if_neg (Nat.ne_of_lt hi)] at q
      exact q e)
    refine ⟨?_, ?_, fun i => ?_, fun i => ?_, fun i => ?_⟩
    · rw [pK_P, pK_R, if_neg hab]; exact q.1
    · rw [pN_P, pN_R, if_neg hab]; exact q.2.1
    · rw [pA_P, pA_R, if_neg hab]; exact q.2.2.1 i
    · rw [pB_P, pB_R, if_neg hab]; exact q.2.2.2.1 i
    · rw [pC_P, pC_R, if_neg hab]; exact q.2.2.2.2 i
  · rw [pP_P, if_neg (fun z => hfa z.2), pP_R]; exact h5 f a hfa
  · rw [pI_P, pI_R]; exact h6 f a
  · rw [pJ_P, pJ_R]; exact h7 f a
theorem ri_716 {bc bs u v m : Nat} {S0 S : q_S} {g : Nat → Nat} {Q : Option Value → q_S → Prop} (J : ri_B m S0 S 83 g) (hu : u + 4 ≤ bc ∧ v + 4164 ≤ bs) (h : ∀ (S' : q_S) (g : Nat → Nat), ri_B m S0 S' 87 g → Q none S') : wb_X12_init_716 bc bs u v S m Q := by
  unfold wb_X12_init_716
  refine ⟨⟨by omega, by omega⟩, ?_⟩
  intro b hb
  have J84 := ri_step J hb (by decide) (f := 2506) rfl rfl rfl
  refine ⟨ri_M J hb, ?_⟩
  refine ⟨⟨by omega, by omega⟩, ?_⟩
  intro b hb
  have J85 := ri_step J84 hb (by decide) (f := 2507) rfl rfl rfl
  intro S_ hS_
  subst hS_
  refine ⟨⟨by omega, by omega⟩, ?_⟩
  intro b hb
  have J86 := ri_step J85 hb (by decide) (f := 2511) rfl rfl rfl
  intro S_ hS_
  subst hS_
  refine ⟨⟨by omega, by omega⟩, ?_⟩
  intro b hb
  have J87 := ri_step J86 hb (by decide) (f := 2512) rfl rfl rfl
  exact h _ _ J87
theorem ri_615 {bc bs u v m : Nat} {S0 S : q_S} {g : Nat → Nat} {Q : Option Value → q_S → Prop} (J : ri_B m S0 S 71 g) (hu : u + 16 ≤ bc ∧ v + 7532 ≤ bs) (h : ∀ (S' : q_S) (g : Nat → Nat), ri_B m S0 S' 87 g → Q none S') : wb_X12_init_615 bc bs u v S m Q := by
  unfold wb_X12_init_615
  refine ⟨⟨by omega, by omega⟩, ?_⟩
  intro b hb
  have J72 := ri_step J hb (by decide) (f := 2494) rfl rfl rfl
  refine ⟨ri_M J hb, ?_⟩
  refine ⟨⟨by omega, by omega⟩, ?_⟩
  intro b hb
  have J73 := ri_step J72 hb (by decide) (f := 2495) rfl rfl rfl
  intro S_ hS_
  subst hS_
  refine ⟨⟨by omega, by omega⟩, ?_⟩
  intro b hb
  have J74 := ri_step J73 hb (by decide) (f := 2496) rfl rfl rfl
  intro S_ hS_
  subst hS_
  refine ⟨⟨by omega, by omega⟩, ?_⟩
  intro b hb
  have J75 := ri_step J74 hb (by decide) (f := 2497) rfl rfl rfl
  refine ⟨⟨by omega, by omega⟩, ?_⟩
  intro b hb
  have J76 := ri_step J75 hb (by decide) (f := 2498) rfl rfl rfl
  intro S_ hS_
  subst hS_
  refine ⟨⟨by omega, by omega⟩, ?_⟩
  intro b hb
  have J77 := ri_step J76 hb (by decide) (f := 2499) rfl rfl rfl
  intro S_ hS_
  subst hS_
  refine ⟨⟨by omega, by omega⟩, ?_⟩
  intro b hb
  have J78 := ri_step J77 hb (by decide) (f := 2500) rfl rfl rfl
  refine ⟨⟨by omega, by omega⟩, ?_⟩
  intro b hb
  have J79 := ri_step J78 hb (by decide) (f := 2501) rfl rfl rfl
  intro S_ hS_
  subst hS_
  refine ⟨⟨by omega, by omega⟩, ?_⟩
  intro b hb
  have J80 := ri_step J79 hb (by decide) (f := 2502) rfl rfl rfl
  intro S_ hS_
  subst hS_
  refine ⟨⟨by omega, by omega⟩, ?_⟩
  intro b hb
  have J81 := ri_step J80 hb (by decide) (f := 2503) rfl rfl rfl
  refine ⟨⟨by omega, by omega⟩, ?_⟩
  intro b hb
  have J82 := ri_step J81 hb (by decide) (f := 2504) rfl rfl rfl
  intro S_ hS_
  subst hS_
  refine ⟨⟨by omega, by omega⟩, ?_⟩
  intro b hb
  have J83 := ri_step J82 hb (by decide) (f := 2505) rfl rfl rfl
  intro S_ hS_
  subst hS_
  exact ri_716 J83 ⟨by omega, by omega⟩ h
theorem ri_516 {bc bs u v m : Nat} {S0 S : q_S} {g : Nat → Nat} {Q : Option Value → q_S → Prop} (J : ri_B m S0 S 59 g) (hu : u + 28 ≤ bc ∧ v + 8188 ≤ bs) (h : ∀ (S' : q_S) (g : Nat → Nat), ri_B m S0 S' 87 g → Q none S') : wb_X12_init_516 bc bs u v S m Q := by
  unfold wb_X12_init_516
  refine ⟨⟨by omega, by omega⟩, ?_⟩
  intro b hb
  have J60 := ri_step J hb (by decide) (f := 2482) rfl rfl rfl
  refine ⟨ri_M J hb, ?_⟩
  refine ⟨⟨by omega, by omega⟩, ?_⟩
  intro b hb
  have J61 := ri_step J60 hb (by decide) (f := 2483) rfl rfl rfl
  intro S_ hS_
  subst hS_
  refine ⟨⟨by omega, by omega⟩, ?_⟩
  intro b hb
  have J62 := ri_step J61 hb (by decide) (f := 2484) rfl rfl rfl
  intro S_ hS_
  subst hS_
  refine ⟨⟨by omega, by omega⟩, ?_⟩
  intro b hb
  have J63 := ri_step J62 hb (by decide) (f := 2485) rfl rfl rfl
  refine ⟨⟨by omega, by omega⟩, ?_⟩
  intro b hb
  have J64 := ri_step J63 hb (by decide) (f := 2486) rfl rfl rfl
  intro S_ hS_
  subst hS_
  refine ⟨⟨by omega, by omega⟩, ?_⟩
  intro b hb
  have J65 := ri_step J64 hb (by decide) (f := 2487) rfl rfl rfl
  intro S_ hS_
  subst hS_
  refine ⟨⟨by omega, by omega⟩, ?_⟩
  intro b hb
  have J66 := ri_step J65 hb (by decide) (f := 2488) rfl rfl rfl
  refine ⟨⟨by omega, by omega⟩, ?_⟩
  intro b hb
  have J67 := ri_step J66 hb (by decide) (f := 2489) rfl rfl rfl
  intro S_ hS_
  subst hS_
  refine ⟨⟨by omega, by omega⟩, ?_⟩
  intro b hb
  have J68 := ri_step J67 hb (by decide) (f := 2490) rfl rfl rfl
  intro S_ hS_
  subst hS_
  refine ⟨⟨by omega, by omega⟩, ?_⟩
  intro b hb
  have J69 := ri_step J68 hb (by decide) (f := 2491) rfl rfl rfl
  refine ⟨⟨by omega, by omega⟩, ?_⟩
  intro b hb
  have J70 := ri_step J69 hb (by decide) (f := 2492) rfl rfl rfl
  intro S_ hS_
  subst hS_
  refine ⟨⟨by omega, by omega⟩, ?_⟩
  intro b hb
  have J71 := ri_step J70 hb (by decide) (f := 2493) rfl rfl rfl
  intro S_ hS_
  subst hS_
  exact ri_615 J71 ⟨by omega, by omega⟩ h
theorem ri_408 {bc bs u v m : Nat} {S0 S : q_S} {g : Nat → Nat} {Q : Option Value → q_S → Prop} (J : ri_B m S0 S 47 g) (hu : u + 40 ≤ bc ∧ v + 19196 ≤ bs) (h : ∀ (S' : q_S) (g : Nat → Nat), ri_B m S0 S' 87 g → Q none S') : wb_X12_init_408 bc bs u v S m Q := by
  unfold wb_X12_init_408
  refine ⟨⟨by omega, by omega⟩, ?_⟩
  intro b hb
  have J48 := ri_step J hb (by decide) (f := 2470) rfl rfl rfl
  refine ⟨ri_M J hb, ?_⟩
  refine ⟨⟨by omega, by omega⟩, ?_⟩
  intro b hb
  have J49 := ri_step J48 hb (by decide) (f := 2471) rfl rfl rfl
  intro S_ hS_
  subst hS_
  refine ⟨⟨by omega, by omega⟩, ?_⟩
  intro b hb
  have J50 := ri_step J49 hb (by decide) (f := 2472) rfl rfl rfl
  intro S_ hS_
  subst hS_
  refine ⟨⟨by omega, by omega⟩, ?_⟩
  intro b hb
  have J51 := ri_step J50 hb (by decide) (f := 2473) rfl rfl rfl
  refine ⟨⟨by omega, by omega⟩, ?_⟩
  intro b hb
  have J52 := ri_step J51 hb (by decide) (f := 2474) rfl rfl rfl
  intro S_ hS_
  subst hS_
  refine ⟨⟨by omega, by omega⟩, ?_⟩
  intro b hb
  have J53 := ri_step J52 hb (by decide) (f := 2475) rfl rfl rfl
  intro S_ hS_
  subst hS_
  refine ⟨⟨by omega, by omega⟩, ?_⟩
  intro b hb
  have J54 := ri_step J53 hb (by decide) (f := 2476) rfl rfl rfl
  refine ⟨⟨by omega, by omega⟩, ?_⟩
  intro b hb
  have J55 := ri_step J54 hb (by decide) (f := 2477) rfl rfl rfl
  intro S_ hS_
  subst hS_
  refine ⟨⟨by omega, by omega⟩, ?_⟩
  intro b hb
  have J56 := ri_step J55 hb (by decide) (f := 2478) rfl rfl rfl
  intro S_ hS_
  subst hS_
  refine ⟨⟨by omega, by omega⟩, ?_⟩
  intro b hb
  have J57 := ri_step J56 hb (by decide) (f := 2479) rfl rfl rfl
  refine ⟨⟨by omega, by omega⟩, ?_⟩
  intro b hb
  have J58 := ri_step J57 hb (by decide) (f := 2480) rfl rfl rfl
  intro S_ hS_
  subst hS_
  refine ⟨⟨by omega, by omega⟩, ?_⟩
  intro b hb
  have J59 := ri_step J58 hb (by decide) (f := 2481) rfl rfl rfl
  intro S_ hS_
  subst hS_
  exact ri_516 J59 ⟨by omega, by omega⟩ h
theorem ri_309 {bc bs u v m : Nat} {S0 S : q_S} {g : Nat → Nat} {Q : Option Value → q_S → Prop} (J : ri_B m S0 S 35 g) (hu : u + 52 ≤ bc ∧ v + 282348 ≤ bs) (h : ∀ (S' : q_S) (g : Nat → Nat), ri_B m S0 S' 87 g → Q none S') : wb_X12_init_309 bc bs u v S m Q := by
  unfold wb_X12_init_309
  refine ⟨⟨by omega, by omega⟩, ?_⟩
  intro b hb
  have J36 := ri_step J hb (by decide) (f := 2456) rfl rfl rfl
  refine ⟨ri_M J hb, ?_⟩
  refine ⟨⟨by omega, by omega⟩, ?_⟩
  intro b hb
  have J37 := ri_step J36 hb (by decide) (f := 2457) rfl rfl rfl
  intro S_ hS_
  subst hS_
  refine ⟨⟨by omega, by omega⟩, ?_⟩
  intro b hb
  have J38 := ri_step J37 hb (by decide) (f := 2458) rfl rfl rfl
  intro S_ hS_
  subst hS_
  refine ⟨⟨by omega, by omega⟩, ?_⟩
  intro b hb
  have J39 := ri_step J38 hb (by decide) (f := 2459) rfl rfl rfl
  refine ⟨⟨by omega, by omega⟩, ?_⟩
  intro b hb
  have J40 := ri_step J39 hb (by decide) (f := 2460) rfl rfl rfl
  intro S_ hS_
  subst hS_
  refine ⟨⟨by omega, by omega⟩, ?_⟩
  intro b hb
  have J41 := ri_step J40 hb (by decide) (f := 2461) rfl rfl rfl
  intro S_ hS_
  subst hS_
  refine ⟨⟨by omega, by omega⟩, ?_⟩
  intro b hb
  have J42 := ri_step J41 hb (by decide) (f := 2462) rfl rfl rfl
  refine ⟨⟨by omega, by omega⟩, ?_⟩
  intro b hb
  have J43 := ri_step J42 hb (by decide) (f := 2465) rfl rfl rfl
  intro S_ hS_
  subst hS_
  refine ⟨⟨by omega, by omega⟩, ?_⟩
  intro b hb
  have J44 := ri_step J43 hb (by decide) (f := 2466) rfl rfl rfl
  intro S_ hS_
  subst hS_
  refine ⟨⟨by omega, by omega⟩, ?_⟩
  intro b hb
  have J45 := ri_step J44 hb (by decide) (f := 2467) rfl rfl rfl
  refine ⟨⟨by omega, by omega⟩, ?_⟩
  intro b hb
  have J46 := ri_step J45 hb (by decide) (f := 2468) rfl rfl rfl
  intro S_ hS_
  subst hS_
  refine ⟨⟨by omega, by omega⟩, ?_⟩
  intro b hb
  have J47 := ri_step J46 hb (by decide) (f := 2469) rfl rfl rfl
  intro S_ hS_
  subst hS_
  exact ri_408 J47 ⟨by omega, by omega⟩ h
theorem ri_205 {bc bs u v m : Nat} {S0 S : q_S} {g : Nat → Nat} {Q : Option Value → q_S → Prop} (J : ri_B m S0 S 23 g) (hu : u + 64 ≤ bc ∧ v + 283900 ≤ bs) (h : ∀ (S' : q_S) (g : Nat → Nat), ri_B m S0 S' 87 g → Q none S') : wb_X12_init_205 bc bs u v S m Q := by
  unfold wb_X12_init_205
  refine ⟨⟨by omega, by omega⟩, ?_⟩
  intro b hb
  have J24 := ri_step J hb (by decide) (f := 2443) rfl rfl rfl
  refine ⟨ri_M J hb, ?_⟩
  refine ⟨⟨by omega, by omega⟩, ?_⟩
  intro b hb
  have J25 := ri_step J24 hb (by decide) (f := 2444) rfl rfl rfl
  intro S_ hS_
  subst hS_
  refine ⟨⟨by omega, by omega⟩, ?_⟩
  intro b hb
  have J26 := ri_step J25 hb (by decide) (f := 2445) rfl rfl rfl
  intro S_ hS_
  subst hS_
  refine ⟨⟨by omega, by omega⟩, ?_⟩
  intro b hb
  have J27 := ri_step J26 hb (by decide) (f := 2446) rfl rfl rfl
  refine ⟨⟨by omega, by omega⟩, ?_⟩
  intro b hb
  have J28 := ri_step J27 hb (by decide) (f := 2447) rfl rfl rfl
  intro S_ hS_
  subst hS_
  refine ⟨⟨by omega, by omega⟩, ?_⟩
  intro b hb
  have J29 := ri_step J28 hb (by decide) (f := 2448) rfl rfl rfl
  intro S_ hS_
  subst hS_
  refine ⟨⟨by omega, by omega⟩, ?_⟩
  intro b hb
  have J30 := ri_step J29 hb (by decide) (f := 2449) rfl rfl rfl
  refine ⟨⟨by omega, by omega⟩, ?_⟩
  intro b hb
  have J31 := ri_step J30 hb (by decide) (f := 2450) rfl rfl rfl
  intro S_ hS_
  subst hS_
  refine ⟨⟨by omega, by omega⟩, ?_⟩
  intro b hb
  have J32 := ri_step J31 hb (by decide) (f := 2451) rfl rfl rfl
  intro S_ hS_
  subst hS_
  refine ⟨⟨by omega, by omega⟩, ?_⟩
  intro b hb
  have J33 := ri_step J32 hb (by decide) (f := 2452) rfl rfl rfl
  refine ⟨⟨by omega, by omega⟩, ?_⟩
  intro b hb
  have J34 := ri_step J33 hb (by decide) (f := 2454) rfl rfl rfl
  intro S_ hS_
  subst hS_
  refine ⟨⟨by omega, by omega⟩, ?_⟩
  intro b hb
  have J35 := ri_step J34 hb (by decide) (f := 2455) rfl rfl rfl
  intro S_ hS_
  subst hS_
  exact ri_309 J35 ⟨by omega, by omega⟩ h
theorem ri_99 {bc bs u v m : Nat} {S0 S : q_S} {g : Nat → Nat} {Q : Option Value → q_S → Prop} (J : ri_B m S0 S 11 g) (hu : u + 76 ≤ bc ∧ v + 289644 ≤ bs) (h : ∀ (S' : q_S) (g : Nat → Nat), ri_B m S0 S' 87 g → Q none S') : wb_X12_init_99 bc bs u v S m Q := by
  unfold wb_X12_init_99
  refine ⟨⟨by omega, by omega⟩, ?_⟩
  intro b hb
  have J12 := ri_step J hb (by decide) (f := 2431) rfl rfl rfl
  refine ⟨ri_M J hb, ?_⟩
  refine ⟨⟨by omega, by omega⟩, ?_⟩
  intro b hb
  have J13 := ri_step J12 hb (by decide) (f := 2432) rfl rfl rfl
  intro S_ hS_
  subst hS_
  refine ⟨⟨by omega, by omega⟩, ?_⟩
  intro b hb
  have J14 := ri_step J13 hb (by decide) (f := 2433) rfl rfl rfl
  intro S_ hS_
  subst hS_
  refine ⟨⟨by omega, by omega⟩, ?_⟩
  intro b hb
  have J15 := ri_step J14 hb (by decide) (f := 2434) rfl rfl rfl
  refine ⟨⟨by omega, by omega⟩, ?_⟩
  intro b hb
  have J16 := ri_step J15 hb (by decide) (f := 2435) rfl rfl rfl
  intro S_ hS_
  subst hS_
  refine ⟨⟨by omega, by omega⟩, ?_⟩
  intro b hb
  have J17 := ri_step J16 hb (by decide) (f := 2436) rfl rfl rfl
  intro S_ hS_
  subst hS_
  refine ⟨⟨by omega, by omega⟩, ?_⟩
  intro b hb
  have J18 := ri_step J17 hb (by decide) (f := 2437) rfl rfl rfl
  refine ⟨⟨by omega, by omega⟩, ?_⟩
  intro b hb
  have J19 := ri_step J18 hb (by decide) (f := 2438) rfl rfl rfl
  intro S_ hS_
  subst hS_
  refine ⟨⟨by omega, by omega⟩, ?_⟩
  intro b hb
  have J20 := ri_step J19 hb (by decide) (f := 2439) rfl rfl rfl
  intro S_ hS_
  subst hS_
  refine ⟨⟨by omega, by omega⟩, ?_⟩
  intro b hb
  have J21 := ri_step J20 hb (by decide) (f := 2440) rfl rfl rfl
  refine ⟨⟨by omega, by omega⟩, ?_⟩
  intro b hb
  have J22 := ri_step J21 hb (by decide) (f := 2441) rfl rfl rfl
  intro S_ hS_
  subst hS_
  refine ⟨⟨by omega, by omega⟩, ?_⟩
  intro b hb
  have J23 := ri_step J22 hb (by decide) (f := 2442) rfl rfl rfl
  intro S_ hS_
  subst hS_
  exact ri_205 J23 ⟨by omega, by omega⟩ h
theorem ri_init {bc bs m : Nat} {S : q_S} {Q : Option Value → q_S → Prop} (hm : q_K S m = 13) (hu : 87 ≤ bc ∧ 308032 ≤ bs) (h : ∀ (S' : q_S) (g : Nat → Nat), ri_B m (qs_I S 2412 m (-1)) S' 87 g → Q none S') : wm_X12_init bc bs S m Q := by
  have J := ri_0 hm (fun _ => 0)
  unfold wm_X12_init
  refine ⟨⟨by omega, by omega⟩, ?_⟩
  intro b hb
  have J1 := ri_step J hb (by decide) (f := 2401) rfl rfl rfl
  refine ⟨ri_M J hb, ?_⟩
  refine ⟨⟨by omega, by omega⟩, ?_⟩
  intro b hb
  have J2 := ri_step J1 hb (by decide) (f := 2402) rfl rfl rfl
  intro S_ hS_
  subst hS_
  refine ⟨⟨by omega, by omega⟩, ?_⟩
  intro b hb
  have J3 := ri_step J2 hb (by decide) (f := 2421) rfl rfl rfl
  have J3 := ri_I (f := 2412) (v := -1) J3
  intro S_ hS_
  subst hS_
  refine ⟨⟨by omega, by omega⟩, ?_⟩
  intro b hb
  have J4 := ri_step J3 hb (by decide) (f := 2423) rfl rfl rfl
  intro S_ hS_
  subst hS_
  refine ⟨⟨by omega, by omega⟩, ?_⟩
  intro b hb
  have J5 := ri_step J4 hb (by decide) (f := 2424) rfl rfl rfl
  refine ⟨⟨by omega, by omega⟩, ?_⟩
  intro b hb
  have J6 := ri_step J5 hb (by decide) (f := 2425) rfl rfl rfl
  intro S_ hS_
  subst hS_
  refine ⟨⟨by omega, by omega⟩, ?_⟩
  intro b hb
  have J7 := ri_step J6 hb (by decide) (f := 2426) rfl rfl rfl
  intro S_ hS_
  subst hS_
  refine ⟨⟨by omega, by omega⟩, ?_⟩
  intro b hb
  have J8 := ri_step J7 hb (by decide) (f := 2427) rfl rfl rfl
  refine ⟨⟨by omega, by omega⟩, ?_⟩
  intro b hb
  have J9 := ri_step J8 hb (by decide) (f := 2428) rfl rfl rfl
  intro S_ hS_
  subst hS_
  refine ⟨⟨by omega, by omega⟩, ?_⟩
  intro b hb
  have J10 := ri_step J9 hb (by decide) (f := 2429) rfl rfl rfl
  intro S_ hS_
  subst hS_
  refine ⟨⟨by omega, by omega⟩, ?_⟩
  intro b hb
  have J11 := ri_step J10 hb (by decide) (f := 2430) rfl rfl rfl
  exact ri_99 J11 ⟨by omega, by omega⟩ h
