/-! The words themselves. -/
def s12 (i : Nat) : Nat := [1, 11, 18, 26, 31, 36, 42, 46, 54, 60, 69, 76, 85, 91, 99, 107, 117, 123, 130, 135, 141, 146, 149, 153, 160, 168, 177, 185, 191, 198, 204].getD i 0
def l12 (i : Nat) : Nat := [9, 6, 7, 4, 4, 5, 3, 7, 5, 8, 6, 8, 5, 7, 7, 9, 5, 6, 4, 5, 4, 2, 3, 6, 7, 8, 7, 5, 6, 5].getD i 0
def s13 (i : Nat) : Nat := [1, 9, 16, 21, 28, 34].getD i 0
def l13 (i : Nat) : Nat := [7, 6, 4, 6, 5].getD i 0
def s14 (i : Nat) : Nat := [1, 6, 11, 17, 22, 27, 32, 39].getD i 0
def l14 (i : Nat) : Nat := [4, 4, 5, 4, 4, 4, 6].getD i 0
theorem F12 : w_F 12 30 s12 l12 := by
  refine ⟨rfl, rfl, by decide, ?_⟩
  decide +kernel
theorem F13 : w_F 13 5 s13 l13 := by
  refine ⟨rfl, rfl, by decide, ?_⟩
  decide +kernel
theorem F14 : w_F 14 7 s14 l14 := by
  refine ⟨rfl, rfl, by decide, ?_⟩
  decide +kernel
theorem ck12 : ∀ i : Nat, i < 30 → ck_keys i = n_v (fun j => r_chr 12 (s12 i + j)) (l12 i) := by decide +kernel
theorem ck14 : ∀ i : Nat, i < 7 → ck_keys (34 + i) = n_v (fun j => r_chr 14 (s14 i + j)) (l14 i) := by decide +kernel
def e13 (i : Nat) : Nat := [30, 1, 31, 32, 33].getD i 0
theorem ck13 : ∀ i : Nat, i < 5 → ck_keys (e13 i) = n_v (fun j => r_chr 13 (s13 i + j)) (l13 i) := by decide +kernel
theorem d12 : ∀ i : Nat, i < 30 → (1 ≤ l12 i ∧ l12 i ≤ 12) ∧ ∀ j : Nat, j < l12 i → n_d (r_chr 12 (s12 i + j)) ≠ 0 := by decide +kernel
theorem d13 : ∀ i : Nat, i < 5 → (1 ≤ l13 i ∧ l13 i ≤ 12) ∧ ∀ j : Nat, j < l13 i → n_d (r_chr 13 (s13 i + j)) ≠ 0 := by decide +kernel
theorem d14 : ∀ i : Nat, i < 7 → (1 ≤ l14 i ∧ l14 i ≤ 12) ∧ ∀ j : Nat, j < l14 i → n_d (r_chr 14 (s14 i + j)) ≠ 0 := by decide +kernel
theorem nv_c {l l' : Nat → Int32} : ∀ {n : Nat}, (∀ j : Nat, j < n → l j = l' j) → n_v l n = n_v l' n
  | 0, _ => rfl
  | n + 1, h => by
    show n_v l n * 37 + (n_d (l n)).toInt64 = n_v l' n * 37 + (n_d (l' n)).toInt64
    rw [nv_c (fun j hj => h j (by omega)), h n (by omega)]
/-- the same letters, or the same number -/
theorem w_Mv {k : Nat} {ws wl : Nat → Nat} {R : r_S} {s n i : Nat} (hw : wl i ≤ 12) (hd : ∀ j : Nat, j < wl i → n_d (r_chr k (ws i + j)) ≠ 0) (hn : n ≤ 12) (hl : ∀ j : Nat, j < n → n_d (r_A R 2402 (s + j)) ≠ 0) : w_M k ws wl R s n i ↔ n_v (fun j => r_chr k (ws i + j)) (wl i) = n_v (fun j => r_A R 2402 (s + j)) n := by
  refine ⟨fun m => ?_, fun e => ?_⟩
  · rw [m.1]
    exact nv_c (fun j hj => m.2 j hj)
  · obtain ⟨e1, e2⟩ := nv_inj hw hn hd hl e
    exact ⟨e1, fun j hj => e2 j (by omega)⟩
/-- the class's own table: the last place of a number -/
def kx (w : Int64) : Nat → Option Nat
  | 0 => none
  | n + 1 => if ck_keys n = w then some n else kx w n
def k_ky (K : c_S) (o : Option Nat) : c_S := match o with
  | none => K
  | some i => cs_I (cs_I K 1809 0 (nI i)) 1808 0 (if 30 ≤ i then 2 else 5)
theorem k_ky_c {K : c_S} {o : Option Nat} {i : Nat} : k_ky (k_ky K o) (some i) = k_ky K (some i) := by
  cases o with
  | none => rfl
  | some i' =>
    refine Prod.ext (funext fun f => funext fun x => ?_) rfl
    show (if f = 1808 ∧ x = 0 then (if 30 ≤ i then (2 : Int32) else 5) else if f = 1809 ∧ x = 0 then nI i else if f = 1808 ∧ x = 0 then (if 30 ≤ i' then (2 : Int32) else 5) else if f = 1809 ∧ x = 0 then nI i' else K.1 f x) = (if f = 1808 ∧ x = 0 then (if 30 ≤ i then (2 : Int32) else 5) else if f = 1809 ∧ x = 0 then nI i else K.1 f x)
    by_cases c1 : f = 1808 ∧ x = 0
    · rw [if_pos c1, if_pos c1]
    · rw [if_neg c1, if_neg c1, if_neg c1]
      by_cases c2 : f = 1809 ∧ x = 0
      · rw [if_pos c2, if_pos c2]
      · rw [if_neg c2, if_neg c2, if_neg c2]
theorem k_ky_J {K : c_S} {o : Option Nat} : c_J (k_ky K o) 1810 0 = c_J K 1810 0 := by cases o <;> rfl
theorem ke_keys {L : c_L} {K : c_S} {w : Int64} {Q : c_S → Prop} (hw : c_J K 1810 0 = w) (h : Q (k_ky K (kx w 41))) : ∃ n : Nat, kl_X9_scanName_104 L n K 0 0 Q := by
  have lp : ∀ d i : Nat, i + d = 41 → kl_X9_scanName_104 L (d + 1) (k_ky K (kx w i)) 0 (nI i) Q := by
    intro d
    induction d with
    | zero =>
      intro i hi
      obtain rfl : i = 41 := by omega
      exact bt_ (by decide) h
    | succ d ih =>
      intro i hi
      have nx := ih (i + 1) (by omega)
      rw [← nI_1] at nx
      refine bf_ (nI_ge (a := i) (b := 41) (by omega) (by decide)) ⟨vp_in_nI (by omega) (by decide), ?_⟩
      rw [nI_clamp (by omega), k_ky_J, hw]
      by_cases e : ck_keys i = w
      · have e0 : lg_cmp (ck_keys i) w = 0 := by rw [e]; exact lg_self _
        have ek : kx w (i + 1) = some i := if_pos e
        rw [ek, ← k_ky_c (o := kx w i)] at nx
        refine nt_ e0 ?_
        by_cases c : 30 ≤ i
        · refine bt_ (nI_le (a := 30) c (by omega)) ?_
          have nx : kl_X9_scanName_104 L (d + 1) (cs_I (cs_I (k_ky K (kx w i)) 1809 0 (nI i)) 1808 0 (if 30 ≤ i then 2 else 5)) 0 (nI i + 1) Q := nx
          rw [if_pos c] at nx
          exact nx
        · refine bf_ (nI_ge (b := 30) (by omega) (by decide)) ?_
          have nx : kl_X9_scanName_104 L (d + 1) (cs_I (cs_I (k_ky K (kx w i)) 1809 0 (nI i)) 1808 0 (if 30 ≤ i then 2 else 5)) 0 (nI i + 1) Q := nx
          rw [if_neg c] at nx
          exact nx
      · have ek : kx w (i + 1) = kx w i := if_neg e
        rw [ek] at nx
        exact nf_ (fun z => e (lg_c0.mp z)) nx
  exact ⟨42, lp 41 0 (by decide)⟩
