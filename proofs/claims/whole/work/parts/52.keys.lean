/-! Words as numbers to the base 37, and the row of the known ones. -/
def c_dig (c : Int32) : Int32 := if c < 97 ∨ 122 < c then (if c < 48 ∨ 57 < c then 0 else (c - 48) + 27) else (c - 97) + 1
theorem c_dig_wm {S : q_S} {x : Int32} {Q : Option Value → q_S → Prop} : wm_X11_nameDigit S x Q ↔ Q (some (.int (c_dig x))) S := by
  unfold wm_X11_nameDigit wb_X11_nameDigit_19 wb_X11_nameDigit_41 wb_X11_nameDigit_42 c_dig
  by_cases h1 : x < 97
  · by_cases h2 : x < 48
    · simp [h1, h2]
    · by_cases h3 : (57 : Int32) < x
      · simp [h1, h2, h3]
      · simp [h1, h2, h3]
  · by_cases h2 : (122 : Int32) < x
    · by_cases h3 : x < 48
      · simp [h1, h2, h3]
      · by_cases h4 : (57 : Int32) < x
        · simp [h1, h2, h3, h4]
        · simp [h1, h2, h3, h4]
    · simp [h1, h2]
/-- the row of longs at a holds g -/
def qs_H (S : q_S) (a : Nat) (g : Nat → Int64) : q_S := (S.1, S.2.1, S.2.2.1, S.2.2.2.1, S.2.2.2.2.1, S.2.2.2.2.2.1, (fun a' i => if a' = a then g i else S.2.2.2.2.2.2.1 a' i), S.2.2.2.2.2.2.2)
theorem pB_H {S : q_S} {a b i : Nat} {g : Nat → Int64} : q_B (qs_H S a g) b i = if b = a then g i else q_B S b i := rfl
theorem qs_HB {S : q_S} {a i : Nat} {g : Nat → Int64} {v : Int64} : qs_B (qs_H S a g) a i v = qs_H S a (qs_1 g i v) := by
  refine Prod.ext rfl (Prod.ext rfl (Prod.ext rfl (Prod.ext rfl (Prod.ext rfl (Prod.ext rfl (Prod.ext (funext fun a' => funext fun j => ?_) rfl))))))
  show (if a' = a ∧ j = i then v else if a' = a then g j else S.2.2.2.2.2.2.1 a' j) = (if a' = a then (if j = i then v else g j) else S.2.2.2.2.2.2.1 a' j)
  by_cases h1 : a' = a
  · by_cases h2 : j = i
    · rw [if_pos ⟨h1, h2⟩, if_pos h1, if_pos h2]
    · rw [if_neg (fun z => h2 z.2), if_pos h1, if_pos h1, if_neg h2]
  · rw [if_neg (fun z => h1 z.1), if_neg h1, if_neg h1]
theorem qs_Hid {S : q_S} {a : Nat} : qs_H S a (q_B S a) = S := by
  refine Prod.ext rfl (Prod.ext rfl (Prod.ext rfl (Prod.ext rfl (Prod.ext rfl (Prod.ext rfl (Prod.ext (funext fun a' => funext fun j => ?_) rfl))))))
  show (if a' = a then S.2.2.2.2.2.2.1 a j else S.2.2.2.2.2.2.1 a' j) = S.2.2.2.2.2.2.1 a' j
  by_cases h : a' = a
  · rw [if_pos h, h]
  · rw [if_neg h]
/-- from the place i on, r letters of the text s: the k-th word is being read -/
def ck_f (s : Nat) : Nat → Nat → Nat → (Nat → Int64) → (Nat → Int64)
  | 0, _, _, g => g
  | r + 1, i, k, g => if c_dig (r_chr s i) = 0 then ck_f s r (i + 1) (k + 1) g else ck_f s r (i + 1) k (if k < 41 then qs_1 g k (g k * 37 + (c_dig (r_chr s i)).toInt64) else g)
theorem ck_loop {s a b : Nat} {S : q_S} {Q : Option Value → q_S → Prop} (hs : s < 15) (hK : q_K S b = 30) (hN : q_N S b = s) (hb : ∃ z : Nat, q_K S z = 31 ∧ q_N S z = s) (hA : q_K S a = 23) (hn : q_N S a = 41) : ∀ (r i k : Nat) (g : Nat → Int64), i + r = q_sl.getD s 0 → k + r < 1000 → Q none (qs_H S a (ck_f s r i k g)) → wl_X9_addKeys_5 (r + 1) (qs_H S a g) (some a) (some b) (nI k) (nI i) Q := by
  have hl := r_slb s hs
  intro r
  induction r with
  | zero =>
    intro i k g hi hk hQ
    unfold wl_X9_addKeys_5 wb_X9_addKeys_5
    refine ⟨b, rfl, hK, (r_lnq (S := qs_H S a g) hs hK hN hb).mpr ⟨_, rfl, fun _ => hQ, fun h => absurd ?_ h⟩⟩
    exact nI_le (by omega) (by omega)
  | succ r ih =>
    intro i k g hi hk hQ
    have hlt : i < q_sl.getD s 0 := by omega
    unfold wl_X9_addKeys_5 wb_X9_addKeys_5
    refine ⟨b, rfl, hK, (r_lnq (S := qs_H S a g) hs hK hN hb).mpr ⟨_, rfl, fun h => absurd h (nI_ge hlt hl), fun _ => ⟨hK, (r_chq (S := qs_H S a g) hs hK hN hb).mpr ⟨vp_in_nI hlt hl, _, rfl, c_dig_wm.mpr ⟨_, rfl, fun hd => ?_, fun hd => ?_⟩⟩⟩⟩⟩
    · rw [nI_clamp (by omega)] at hd
      rw [ck_f, if_neg hd] at hQ
      refine ⟨fun h => absurd h (nI_pos (by omega)), fun _ => ⟨a, rfl, hA, ?_⟩⟩
      have e : q_N (qs_H S a g) a = 41 := hn
      rw [e]
      refine ⟨fun h => ?_, fun h => ?_⟩
      · have hk2 : ¬ k < 41 := fun z => absurd h (nI_ge z (by decide))
        rw [if_neg hk2] at hQ
        unfold wb_X9_addKeys_60
        rw [nI_1]
        exact ih (i + 1) k g (by omega) (by omega) hQ
      · have hk2 : k < 41 := by
          refine Nat.lt_of_not_le fun z => h (nI_le z (by omega))
        rw [if_pos hk2] at hQ
        refine ⟨vp_in_nI hk2 (by decide), vp_in_nI hk2 (by decide), ?_⟩
        unfold wb_X9_addKeys_60
        rw [nI_clamp (by omega), nI_clamp (by omega), nI_1, qs_HB, pB_H, if_pos rfl]
        exact ih (i + 1) k _ (by omega) (by omega) hQ
    · rw [nI_clamp (by omega)] at hd
      rw [ck_f, if_pos hd] at hQ
      unfold wb_X9_addKeys_60
      rw [nI_1, nI_1]
      exact ih (i + 1) (k + 1) g (by omega) (by omega) hQ
theorem ck_add {s a b k : Nat} {S : q_S} {Q : Option Value → q_S → Prop} (hs : s < 15) (hk : k < 100) (hK : q_K S b = 30) (hN : q_N S b = s) (hb : ∃ z : Nat, q_K S z = 31 ∧ q_N S z = s) (hA : q_K S a = 23) (hn : q_N S a = 41) (hQ : Q none (qs_H S a (ck_f s (q_sl.getD s 0) 0 k (q_B S a)))) : wm_X9_addKeys S (some a) (nI k) (some b) Q := by
  refine ⟨q_sl.getD s 0 + 1, ?_⟩
  have h := ck_loop (Q := Q) hs hK hN hb hA hn (q_sl.getD s 0) 0 k (q_B S a) (by omega) (by
    have : ∀ s : Nat, s < 15 → q_sl.getD s 0 < 900 := by decide +kernel
    have := this s hs
    omega) hQ
  rw [qs_Hid] at h
  exact h
/-- the numbers of the words, as the constructor makes them -/
def ck_keys : Nat → Int64 := ck_f 1 64 0 30 (ck_f 0 203 0 0 (fun _ => 0))
