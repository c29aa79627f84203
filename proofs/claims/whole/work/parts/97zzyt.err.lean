/-! The table of errors. -/
/-- the word at hand among the class's known ones -/
def kw (K : c_S) : Option Nat := kx (c_J K 1810 0) 41
theorem AV_kw {B : Nat} {K0 K : c_S} {R0 R : r_S} (av : AV B K0 R0 K R) (h : c_I K 1808 0 = 2 ∨ c_I K 1808 0 = 5) : (∃ b n : Nat, 1 ≤ n ∧ n ≤ 12 ∧ b + n ≤ 4000 ∧ r_I R 2409 = nI b ∧ r_I R 2410 = nI n ∧ (∀ x : Nat, x < n → n_d (r_A R 2402 (b + x)) ≠ 0) ∧ c_J K 1810 0 = n_v (fun x => r_A R 2402 (b + x)) n) ∧ (c_I K 1808 0 = 5 → ∃ i : Nat, kw K = some i ∧ i < 30 ∧ c_I K 1809 0 = nI i) ∧ (c_I K 1808 0 = 2 → c_I K 1809 0 = kx_c (kw K) ∧ ∀ i : Nat, kw K = some i → 30 ≤ i) := by
  obtain ⟨_, ⟨_, p, _, _, _, _, _, _, tk⟩, _⟩ := av
  have no : ∀ x : Int32, c_I K 1808 0 = x → x ≠ 2 → x ≠ 5 → False := fun x e h2 h5 => by
    rcases h with h | h
    · exact h2 (e.symm.trans h)
    · exact h5 (e.symm.trans h)
  rcases tk with z | z | z | z | z | z
  · exact (no 0 z.1 (by decide) (by decide)).elim
  · exact (no 1 z.1 (by decide) (by decide)).elim
  · exact (no 3 z.1 (by decide) (by decide)).elim
  · exact (no 4 z.1 (by decide) (by decide)).elim
  · obtain ⟨z1, z2, z3, ⟨n, w⟩, i, z4, z5, z6⟩ := z
    exact ⟨⟨p, n, w⟩, fun _ => ⟨i, z5, z4, z6⟩, fun y => by rw [z1] at y; exact absurd y (by decide)⟩
  · obtain ⟨z1, z2, ⟨n, w⟩, z4, z5⟩ := z
    exact ⟨⟨p, n, w⟩, fun y => by rw [z1] at y; exact absurd y (by decide), fun _ => ⟨z4, z5⟩⟩
theorem re_n13 {R : r_S} {K : c_S} {b n : Nat} {Q : Option Value → r_S → Prop} (hn : n ≤ 12) (hb : b + n ≤ 4000) (h9 : r_I R 2409 = nI b) (h10 : r_I R 2410 = nI n) (hd : ∀ x : Nat, x < n → n_d (r_A R 2402 (b + x)) ≠ 0) (hj : c_J K 1810 0 = n_v (fun x => r_A R 2402 (b + x)) n) (h1 : ∀ i : Nat, i < 5 → kw K = some (e13 i) → Q (some (.int (nI i))) R) (h0 : (∀ i : Nat, i < 5 → kw K ≠ some (e13 i)) → Q (some (.int (-1))) R) : rm_X12_numberOf R 13 Q := by
  have e41 : ∀ i : Nat, i < 5 → e13 i < 41 := by decide
  have m : ∀ i : Nat, i < 5 → (w_M 13 s13 l13 R b n i ↔ kw K = some (e13 i)) := fun i hi => by
    rw [w_Mv (d13 i hi).1.2 (d13 i hi).2 hn hd, ← ck13 i hi, ← hj]
    exact ⟨fun z => kx_e (e41 i hi) z, fun z => (kx_s z).2⟩
  exact re_numberOf F13 h9 h10 hb ⟨fun i hi w _ => h1 i hi ((m i hi).mp w), fun z => h0 (fun i hi y => z i hi ((m i hi).mpr y))⟩
theorem re_n14 {R : r_S} {K : c_S} {b n : Nat} {Q : Option Value → r_S → Prop} (hn : n ≤ 12) (hb : b + n ≤ 4000) (h9 : r_I R 2409 = nI b) (h10 : r_I R 2410 = nI n) (hd : ∀ x : Nat, x < n → n_d (r_A R 2402 (b + x)) ≠ 0) (hj : c_J K 1810 0 = n_v (fun x => r_A R 2402 (b + x)) n) (h1 : ∀ i : Nat, i < 7 → kw K = some (34 + i) → Q (some (.int (nI i))) R) (h0 : (∀ i : Nat, i < 7 → kw K ≠ some (34 + i)) → Q (some (.int (-1))) R) : rm_X12_numberOf R 14 Q := by
  have m : ∀ i : Nat, i < 7 → (w_M 14 s14 l14 R b n i ↔ kw K = some (34 + i)) := fun i hi => by
    rw [w_Mv (d14 i hi).1.2 (d14 i hi).2 hn hd, ← ck14 i hi, ← hj]
    exact ⟨fun z => kx_e (by omega) z, fun z => (kx_s z).2⟩
  exact re_numberOf F14 h9 h10 hb ⟨fun i hi w _ => h1 i hi ((m i hi).mp w), fun z => h0 (fun i hi y => z i hi ((m i hi).mpr y))⟩
/-- the kind of error that the word at hand names; the same for both -/
theorem f_kind {B : Nat} {L : c_L} {K0 K : c_S} {R0 R : r_S} (av : AV B K0 R0 K R) : (∃ j : Nat, j < 5 ∧ (∀ Q1 : Int32 → c_S → Prop, Q1 (nI j) K → km_X9_errorKind L K 0 Q1) ∧ ∀ (B41 : r_S → Int32 → Int32 → Prop) (x1 x2 : Int32) (Q : Option Value → r_S → Prop), rb_X12_readErrors_88 B41 R x1 x2 (nI j) Q → rb_X12_readErrors_61 B41 R x1 x2 Q) ∨ ((∀ Q1 : Int32 → c_S → Prop, Q1 (-1) K → km_X9_errorKind L K 0 Q1) ∧ ∀ (B41 : r_S → Int32 → Int32 → Prop) (x1 x2 : Int32) (Q : Option Value → r_S → Prop), rb_X12_readErrors_88 B41 R x1 x2 (-1) Q → rb_X12_readErrors_61 B41 R x1 x2 Q) := by
  by_cases c5 : c_I K 1808 0 = 5
  · obtain ⟨⟨b, n, w1, w2, w3, w4, w5, w6, w7⟩, ⟨i, k1, k2, k3⟩, _⟩ := (AV_kw av (Or.inr c5)) |> fun h => (⟨h.1, h.2.1 c5, h.2.2⟩ : _ ∧ _ ∧ _)
    have r4 := (AV_key av).1.mp c5
    have rn : ∀ (B41 : r_S → Int32 → Int32 → Prop) (x1 x2 : Int32) (Q : Option Value → r_S → Prop), rb_X12_readErrors_77 B41 R x1 x2 Q → rb_X12_readErrors_61 B41 R x1 x2 Q := fun B41 x1 x2 Q h => bf_ (by rw [r4]; decide) (nt_ r4 h)
    by_cases e : i = 1
    · subst e
      refine Or.inl ⟨1, by decide, fun Q1 h => nt_ c5 (nt_ (k3.trans rfl) ⟨nb_1, bf_ (by decide) h⟩), fun B41 x1 x2 Q h => rn _ _ _ _ (re_n13 w2 w3 w4 w5 w6 w7 (fun i hi z => ⟨_, rfl, ?_⟩) (fun z => absurd k1 (z 1 (by decide))))⟩
      rw [k1] at z
      have : ∀ i : Nat, i < 5 → some 1 = some (e13 i) → i = 1 := by decide
      rw [this i hi z]
      exact h
    · refine Or.inr ⟨fun Q1 h => nt_ c5 (nf_ (fun z => e ((nI_eq (by omega) (by decide)).mp (k3.symm.trans (z.trans rfl)))) ⟨nb_0, bt_ rfl (nf_ (by rw [c5]; decide) ⟨fun _ => h, fun z => absurd z (by decide), fun z => absurd z (by decide), fun z => absurd z (by decide), fun z => absurd z (by decide)⟩)⟩), fun B41 x1 x2 Q h => rn _ _ _ _ (re_n13 w2 w3 w4 w5 w6 w7 (fun j hj z => ?_) (fun z => ⟨_, rfl, h⟩))⟩
      rw [k1] at z
      have : ∀ j : Nat, j < 5 → ∀ i : Nat, i < 30 → i ≠ 1 → some i ≠ some (e13 j) := by decide
      exact absurd z (this j hj i k2 e)
  · by_cases c2 : c_I K 1808 0 = 2
    · obtain ⟨⟨b, n, w1, w2, w3, w4, w5, w6, w7⟩, _, k⟩ := AV_kw av (Or.inl c2)
      obtain ⟨k1, k2⟩ := k c2
      have r1 := (AV_name av).1.mp c2
      have rn : ∀ (B41 : r_S → Int32 → Int32 → Prop) (x1 x2 : Int32) (Q : Option Value → r_S → Prop), rb_X12_readErrors_77 B41 R x1 x2 Q → rb_X12_readErrors_61 B41 R x1 x2 Q := fun B41 x1 x2 Q h => bt_ r1 h
      have cl : ∀ Q1 : Int32 → c_S → Prop, kb_X9_errorKind_26 L K (c_I K 1809 0) Q1 → km_X9_errorKind L K 0 Q1 := fun Q1 h => nf_ c5 ⟨nb_0, bt_ rfl (nt_ c2 h)⟩
      rw [k1] at cl
      have rx : ∀ (j : Nat), j < 5 → kw K = some (e13 j) → ∀ (B41 : r_S → Int32 → Int32 → Prop) (x1 x2 : Int32) (Q : Option Value → r_S → Prop), rb_X12_readErrors_88 B41 R x1 x2 (nI j) Q → rb_X12_readErrors_61 B41 R x1 x2 Q := fun j hj ek B41 x1 x2 Q h => rn _ _ _ _ (re_n13 w2 w3 w4 w5 w6 w7 (fun i hi z => ⟨_, rfl, by
        have : ∀ i : Nat, i < 5 → ∀ j : Nat, j < 5 → e13 j = e13 i → i = j := by decide
        rw [ek] at z
        injection z with z
        rw [this i hi j hj z]
        exact h⟩) (fun z => absurd ek (z j hj)))
      by_cases h30 : kw K = some 30
      · rw [h30] at cl
        exact Or.inl ⟨0, by decide, fun Q1 h => cl Q1 ⟨fun z => absurd z (by decide), fun _ => h, fun z => absurd z (by decide), fun z => absurd z (by decide), fun z => absurd z (by decide)⟩, rx 0 (by decide) h30⟩
      · by_cases h31 : kw K = some 31
        · rw [h31] at cl
          exact Or.inl ⟨2, by decide, fun Q1 h => cl Q1 ⟨fun z => absurd z (by decide), fun z => absurd z (by decide), fun _ => h, fun z => absurd z (by decide), fun z => absurd z (by decide)⟩, rx 2 (by decide) h31⟩
        · by_cases h32 : kw K = some 32
          · rw [h32] at cl
            exact Or.inl ⟨3, by decide, fun Q1 h => cl Q1 ⟨fun z => absurd z (by decide), fun z => absurd z (by decide), fun z => absurd z (by decide), fun _ => h, fun z => absurd z (by decide)⟩, rx 3 (by decide) h32⟩
          · by_cases h33 : kw K = some 33
            · rw [h33] at cl
              exact Or.inl ⟨4, by decide, fun Q1 h => cl Q1 ⟨fun z => absurd z (by decide), fun z => absurd z (by decide), fun z => absurd z (by decide), fun z => absurd z (by decide), fun _ => h⟩, rx 4 (by decide) h33⟩
            · refine Or.inr ⟨fun Q1 h => cl Q1 ?_, fun B41 x1 x2 Q h => rn _ _ _ _ (re_n13 w2 w3 w4 w5 w6 w7 (fun j hj z => ?_) (fun z => ⟨_, rfl, h⟩))⟩
              · cases ho : kw K with
                | none => exact ⟨fun _ => h, fun z => absurd z (by decide), fun z => absurd z (by decide), fun z => absurd z (by decide), fun z => absurd z (by decide)⟩
                | some i =>
                  have i41 := (kx_s ho).1
                  have i30 := k2 i ho
                  have a0 : i ≠ 30 := fun z => h30 (by rw [ho, z])
                  have a1 : i ≠ 31 := fun z => h31 (by rw [ho, z])
                  have a2 : i ≠ 32 := fun z => h32 (by rw [ho, z])
                  have a3 : i ≠ 33 := fun z => h33 (by rw [ho, z])
                  have t : (kx_c (some i)).toInt = i := nI_toInt (by omega)
                  refine ⟨fun _ => h, fun z => ?_, fun z => ?_, fun z => ?_, fun z => ?_⟩ <;> (have := congrArg Int32.toInt z; rw [t] at this; have e : (30 : Int32).toInt = 30 ∧ (31 : Int32).toInt = 31 ∧ (32 : Int32).toInt = 32 ∧ (33 : Int32).toInt = 33 := ⟨rfl, rfl, rfl, rfl⟩; omega)
              · have : j = 0 ∨ j = 1 ∨ j = 2 ∨ j = 3 ∨ j = 4 := by omega
                rcases this with rfl | rfl | rfl | rfl | rfl
                · exact absurd z h30
                · have := k2 1 z
                  omega
                · exact absurd z h31
                · exact absurd z h32
                · exact absurd z h33
    · refine Or.inr ⟨fun Q1 h => nf_ c5 ⟨nb_0, bt_ rfl (nf_ c2 ⟨fun _ => h, fun z => absurd z (by decide), fun z => absurd z (by decide), fun z => absurd z (by decide), fun z => absurd z (by decide)⟩)⟩, fun B41 x1 x2 Q h => bf_ (fun z => c2 ((AV_name av).1.mpr z)) (nf_ (fun z => c5 ((AV_key av).1.mpr z)) h)⟩
theorem bit_s : ∀ m : Nat, m < 32 → ∀ j : Nat, j < 5 → ((nI m >>> (nI j &&& 31)) &&& (1 : Int32)) = nI (m / 2 ^ j % 2) := by decide +kernel
theorem bit_o : ∀ m : Nat, m < 32 → ∀ j : Nat, j < 5 → m / 2 ^ j % 2 = 0 → nI m ||| ((1 : Int32) <<< (nI j &&& 31)) = nI (m + 2 ^ j) ∧ m + 2 ^ j < 32 := by decide +kernel
def pc (m : Nat) : Nat := m % 2 + m / 2 % 2 + m / 4 % 2 + m / 8 % 2 + m / 16 % 2
theorem pc_o : ∀ m : Nat, m < 32 → ∀ j : Nat, j < 5 → m / 2 ^ j % 2 = 0 → pc (m + 2 ^ j) = pc m + 1 ∧ pc m < 5 := by decide +kernel
theorem pc_0 : ∀ m : Nat, m < 32 → (pc m = 0 ↔ m = 0) ∧ pc m ≤ 5 := by decide +kernel
