/-! Who waits for what, on both sides. -/
theorem i_sub0 {x : Int32} {n k : Nat} (h : x = nI (n + k)) : x - nI n = nI k := by rw [h, pk_sub (by omega), show n + k - n = k by omega]
theorem DP_w {b : Nat} {L : c_L} {Z : z_C} {K : c_S} {R : r_S} (h : WR b L Z K R) {p i : Nat} (hp : p < z_np Z) (hi : i < z_nq Z p) : PRt p (p_k K (16 * p + i)) (p_x K (16 * p + i)) (p_r R (16 * p + i)) (p_y R (16 * p + i)) := h.2.1.1 p hp i hi
theorem WR_ti {b : Nat} {L : c_L} {Z : z_C} {K : c_S} {R : r_S} (h : WR b L Z K R) {p i : Nat} (hp : p < z_np Z) (hi : i < z_nq Z p) : TIt Z p (r_I R 2463) (r_A R 2439 (16 * p + i)) (fun a => r_A R 2448 (16 * p + a)) (fun a => r_A R 2450 (16 * p + a)) (p_r R (16 * p + i)) := h.2.2.2.1.2 p hp i hi
def b_co (s : Nat) : Nat := if s = 1 then 0 else if s = 2 then 8 else if s = 3 then 16 else if s = 4 then 80 else 24
/-- a process waits for a thing of the partition -/
theorem mt_thing {b : Nat} {L : c_L} {Z : z_C} {K : c_S} {R : r_S} {p i s k : Nat} (h : WR b L Z K R) (hp : p < z_np Z) (hi : i < z_nq Z p) (hs : 1 ≤ s ∧ s ≤ 5) (hk : k < 8) : c_I K 1418 (16 * p + i) = nI (b_co s + k) ↔ r_mt R (nI s) (nI (8 * p + k)) (16 * p + i) = true := by
  have np16 := CQ_np (WR_cq h)
  have pr := DP_w h hp hi
  have wg := (WR_ti h hp hi).2.2.2.2.2
  have nt := fun q (hq : q < z_np Z) => ((WR_ct h) q hq).1 4 (by decide)
  have e18 : c_I K 1418 (16 * p + i) = (if r_A R 2467 (16 * p + i) = 2 then p_wc p (p_r R (16 * p + i)) else -1) := pr.2.2.2.1
  have mI : ∀ {a c : Nat}, a < 2 ^ 31 → c < 2 ^ 31 → (nI a = nI c ↔ a = c) := fun ha hc => nI_eq ha hc
  have bco : b_co s ≤ 80 := by unfold b_co; split <;> (try split) <;> (try split) <;> (try split) <;> omega
  unfold r_mt
  rw [decide_eq_true_eq, e18]
  by_cases c2 : r_A R 2467 (16 * p + i) = 2
  · rw [if_pos c2]
    have w0 := wg c2
    have q11 : p_r R (16 * p + i) 11 = r_A R 2478 (16 * p + i) := rfl
    have q12 : p_r R (16 * p + i) 12 = r_A R 2479 (16 * p + i) := rfl
    have q13 : p_r R (16 * p + i) 13 = r_A R 2480 (16 * p + i) := rfl
    unfold WGt at w0
    unfold p_wc
    rw [q11, q12, q13] at w0 ⊢
    rcases w0 with e | ⟨e, k', hk', e'⟩ | ⟨e, a, ha, e', -⟩ | ⟨e, a, ha, e', -⟩ | e
    · rw [if_pos e, show (128 : Int32) = nI 128 from rfl, mI (by omega) (by omega), e, show (0 : Int32) = nI 0 from rfl, mI (by omega) (by omega)]
      omega
    · have ed := i_sub0 e'
      have key : ∀ s' : Nat, 1 ≤ s' → s' ≤ 5 → r_A R 2478 (16 * p + i) = nI s' → (if r_A R 2478 (16 * p + i) = 0 then (128 : Int32) else if r_A R 2478 (16 * p + i) = 1 then r_A R 2479 (16 * p + i) - nI (8 * p) else if r_A R 2478 (16 * p + i) = 2 then 8 + (r_A R 2479 (16 * p + i) - nI (8 * p)) else if r_A R 2478 (16 * p + i) = 3 then 16 + (r_A R 2479 (16 * p + i) - nI (8 * p)) else if r_A R 2478 (16 * p + i) = 4 then 80 + (r_A R 2479 (16 * p + i) - nI (8 * p)) else if r_A R 2478 (16 * p + i) = 5 then 24 + (r_A R 2479 (16 * p + i) - nI (8 * p)) else if r_A R 2478 (16 * p + i) = 6 then 32 + r_A R 2480 (16 * p + i) else if r_A R 2478 (16 * p + i) = 7 then 96 + r_A R 2480 (16 * p + i) else 129) = nI (b_co s' + k') := by
        intro s' h1 h2 e1
        rw [e1, ed]
        have : s' = 1 ∨ s' = 2 ∨ s' = 3 ∨ s' = 4 ∨ s' = 5 := by omega
        rcases this with rfl | rfl | rfl | rfl | rfl
        · rw [if_neg (by decide), if_pos (by decide), show b_co 1 + k' = k' from Nat.zero_add k']
        · rw [if_neg (by decide), if_neg (by decide), if_pos (by decide), show (8 : Int32) = nI 8 from rfl, nI_add]; rfl
        · rw [if_neg (by decide), if_neg (by decide), if_neg (by decide), if_pos (by decide), show (16 : Int32) = nI 16 from rfl, nI_add]; rfl
        · rw [if_neg (by decide), if_neg (by decide), if_neg (by decide), if_neg (by decide), if_pos (by decide), show (80 : Int32) = nI 80 from rfl, nI_add]; rfl
        · rw [if_neg (by decide), if_neg (by decide), if_neg (by decide), if_neg (by decide), if_neg (by decide), if_pos (by decide), show (24 : Int32) = nI 24 from rfl, nI_add]; rfl
      obtain ⟨s', h1, h2, e1⟩ : ∃ s' : Nat, 1 ≤ s' ∧ s' ≤ 5 ∧ r_A R 2478 (16 * p + i) = nI s' := by
        rcases e with e | e | e | e | e
        · exact ⟨1, by omega, by omega, e⟩
        · exact ⟨2, by omega, by omega, e⟩
        · exact ⟨3, by omega, by omega, e⟩
        · exact ⟨4, by omega, by omega, e⟩
        · exact ⟨5, by omega, by omega, e⟩
      rw [key s' h1 h2 e1, e1, e', mI (by have : b_co s' ≤ 80 := by { unfold b_co; split <;> (try split) <;> (try split) <;> (try split) <;> omega }; omega) (by omega), mI (by omega) (by omega), mI (by omega) (by omega)]
      constructor
      · intro z
        have : s' = s := by
          unfold b_co at z
          have c1 : s' = 1 ∨ s' = 2 ∨ s' = 3 ∨ s' = 4 ∨ s' = 5 := by omega
          have c2 : s = 1 ∨ s = 2 ∨ s = 3 ∨ s = 4 ∨ s = 5 := by omega
          rcases c1 with rfl | rfl | rfl | rfl | rfl <;> rcases c2 with rfl | rfl | rfl | rfl | rfl <;> first | rfl | (simp at z; omega)
        subst this
        exact ⟨c2, rfl, by omega⟩
      · rintro ⟨-, rfl, z⟩
        omega
    · have hb := (nt p hp).1
      rw [if_pos rfl] at hb
      rw [e, if_neg (by decide), if_neg (by decide), if_neg (by decide), if_neg (by decide), if_neg (by decide), if_neg (by decide), if_pos rfl, e', show (32 : Int32) = nI 32 from rfl, nI_add, mI (by omega) (by omega), show (6 : Int32) = nI 6 from rfl, mI (by omega) (by omega)]
      refine ⟨fun z => ?_, fun z => by omega⟩
      exfalso
      unfold b_co at z
      have c2 : s = 1 ∨ s = 2 ∨ s = 3 ∨ s = 4 ∨ s = 5 := by omega
      rcases c2 with rfl | rfl | rfl | rfl | rfl <;> simp at z <;> omega
    · have hb := (nt p hp).1
      rw [if_pos rfl] at hb
      rw [e, if_neg (by decide), if_neg (by decide), if_neg (by decide), if_neg (by decide), if_neg (by decide), if_neg (by decide), if_neg (by decide), if_pos rfl, e', show (96 : Int32) = nI 96 from rfl, nI_add, mI (by omega) (by omega), show (7 : Int32) = nI 7 from rfl, mI (by omega) (by omega)]
      refine ⟨fun z => ?_, fun z => by omega⟩
      exfalso
      unfold b_co at z
      have c2 : s = 1 ∨ s = 2 ∨ s = 3 ∨ s = 4 ∨ s = 5 := by omega
      rcases c2 with rfl | rfl | rfl | rfl | rfl <;> simp at z <;> omega
    · rw [e, if_neg (by decide), if_neg (by decide), if_neg (by decide), if_neg (by decide), if_neg (by decide), if_neg (by decide), if_neg (by decide), if_neg (by decide), show (129 : Int32) = nI 129 from rfl, mI (by omega) (by omega), show (8 : Int32) = nI 8 from rfl, mI (by omega) (by omega)]
      omega
  · rw [if_neg c2]
    exact ⟨fun z => absurd z.symm (nI_m1 (by omega)), fun z => absurd z.1 c2⟩
