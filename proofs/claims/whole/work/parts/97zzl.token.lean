/-! Reading: a name or a word. -/
theorem ck_inj : ∀ i : Nat, i < 41 → ∀ j : Nat, j < 41 → ck_keys i = ck_keys j → i = j := by decide +kernel
theorem kx_s {w : Int64} : ∀ {n i : Nat}, kx w n = some i → i < n ∧ ck_keys i = w
  | 0, _, h => by cases h
  | n + 1, i, h => by
    have h : (if ck_keys n = w then some n else kx w n) = some i := h
    by_cases e : ck_keys n = w
    · rw [if_pos e] at h
      injection h with h
      subst h
      exact ⟨by omega, e⟩
    · rw [if_neg e] at h
      obtain ⟨h1, h2⟩ := kx_s h
      exact ⟨by omega, h2⟩
theorem kx_e {w : Int64} {i : Nat} (hi : i < 41) (e : ck_keys i = w) : kx w 41 = some i := by
  have hn : ∀ n : Nat, kx w n = none → ∀ j : Nat, j < n → ck_keys j ≠ w := by
    intro n
    induction n with
    | zero => intro _ j hj; omega
    | succ n ih =>
      intro h j hj
      have h : (if ck_keys n = w then some n else kx w n) = none := h
      by_cases c : ck_keys n = w
      · rw [if_pos c] at h; cases h
      · rw [if_neg c] at h
        by_cases c2 : j = n
        · rw [c2]; exact c
        · exact ih h j (by omega)
  cases h : kx w 41 with
  | none => exact absurd e (hn 41 h i hi)
  | some j =>
    obtain ⟨h1, h2⟩ := kx_s h
    rw [ck_inj j h1 i hi (h2.trans e.symm)]
/-- a word's number, or -1 -/
def kx_v (o : Option Nat) : Int32 := match o with
  | none => -1
  | some i => if i < 30 then nI i else -1
def kx_k (o : Option Nat) : Int32 := match o with
  | none => 1
  | some i => if i < 30 then 4 else 1
def r_nw (R : r_S) (a n : Nat) (v k : Int32) : r_S := rs_I (rs_I (rs_I (rs_I R 2405 (nI a)) 2410 (nI n)) 2408 v) 2406 k
theorem P_name {L : c_L} {B p : Nat} {K : c_S} {R : r_S} (t : TXr B K R) (hp : p < B) (k7 : c_I K 1807 0 = nI p) (k11 : c_I K 1811 0 = nI p) (r5 : r_I R 2405 = nI p) (r9 : r_I R 2409 = nI p) : ∃ a' : Nat, p ≤ a' ∧ a' ≤ B ∧ ((∀ x : Nat, x < a' - p → n_d (r_A R 2402 (p + x)) ≠ 0) ∧ (a' < B → n_d (r_A R 2402 a') = 0)) ∧ (∀ Q : c_S → Prop, Q (if a' - p ≤ 12 then k_ky (cs_I (k_nw K a' (n_v (fun x => r_A R 2402 (p + x)) (a' - p))) 1808 0 2) (kx (n_v (fun x => r_A R 2402 (p + x)) (a' - p)) 41) else cs_I (k_nw K a' (n_v (fun x => r_A R 2402 (p + x)) (a' - p))) 1808 0 1) → km_X9_scanName L K 0 Q) ∧ (∀ Q : Option Value → r_S → Prop, Q none (if a' - p ≤ 12 then r_nw R a' (a' - p) (kx_v (kx (n_v (fun x => r_A R 2402 (p + x)) (a' - p)) 41)) (kx_k (kx (n_v (fun x => r_A R 2402 (p + x)) (a' - p)) 41)) else r_nw R a' (a' - p) (-1) 5) → ∃ m : Nat, rl_X12_next_104 m R Q) := by
  have b4 := t.1
  obtain ⟨a', h1, h2, h3, h4, h5, h6⟩ := P_nm (L := L) (l := fun x => r_A R 2402 (p + x)) (B - p) p (cs_J K 1810 0 0) R t (fun _ => rfl) (by omega) (Nat.le_refl _) k7 (by rw [Nat.sub_self]; rfl) r5 (fun x hx => by omega)
  have ek : ∀ w : Int64, k_nw (cs_J K 1810 0 0) a' w = k_nw K a' w := fun w => by
    refine Prod.ext rfl (Prod.ext (funext fun f => funext fun i => ?_) rfl)
    show (if f = 1810 ∧ i = 0 then w else if f = 1810 ∧ i = 0 then 0 else K.2.1 f i) = (if f = 1810 ∧ i = 0 then w else K.2.1 f i)
    split <;> rfl
  refine ⟨a', h3, h4, ⟨h5, h6⟩, fun Q hQ => ⟨_, h1 Q ?_⟩, fun Q hQ => ⟨_, h2 Q ?_⟩⟩
  · rw [ek]
    unfold kb_X9_scanName_70
    rw [show c_I (k_nw K a' (n_v (fun x => r_A R 2402 (p + x)) (a' - p))) 1807 0 = nI a' from rfl, show c_I (k_nw K a' (n_v (fun x => r_A R 2402 (p + x)) (a' - p))) 1811 0 = nI p from k11, pk_sub h3]
    by_cases c : a' - p ≤ 12
    · rw [if_pos c] at hQ
      exact bt_ (nI_le (b := 12) c (by decide)) (nf_ (by show ¬ (2 : Int32) = 1; decide) (ke_keys rfl hQ))
    · rw [if_neg c] at hQ
      exact bf_ (nI_ge (a := 12) (by omega) (by omega)) (nt_ rfl hQ)
  · unfold r_nt
    rw [show r_I (rs_I R 2405 (nI a')) 2405 = nI a' from rfl, show r_I (rs_I R 2405 (nI a')) 2409 = nI p from r9, pk_sub h3]
    have fin : ∀ v : Int32, (a' - p ≤ 12 → v = kx_v (kx (n_v (fun x => r_A R 2402 (p + x)) (a' - p)) 41)) → (¬ a' - p ≤ 12 → v = -1) → ∃ x28_ : Int32, (some (Value.int v)) = some (.int x28_) ∧ (((r_I (rs_I (rs_I (rs_I R 2405 (nI a')) 2410 (nI (a' - p))) 2408 x28_) 2410) ≤ (12 : Int32) → (((r_I (rs_I (rs_I (rs_I R 2405 (nI a')) 2410 (nI (a' - p))) 2408 x28_) 2408) < 0 → (rb_X12_next_197 (rs_I (rs_I (rs_I R 2405 (nI a')) 2410 (nI (a' - p))) 2408 x28_) (1 : Int32) Q)) ∧ (¬ (r_I (rs_I (rs_I (rs_I R 2405 (nI a')) 2410 (nI (a' - p))) 2408 x28_) 2408) < 0 → (rb_X12_next_197 (rs_I (rs_I (rs_I R 2405 (nI a')) 2410 (nI (a' - p))) 2408 x28_) (4 : Int32) Q)))) ∧ (¬ (r_I (rs_I (rs_I (rs_I R 2405 (nI a')) 2410 (nI (a' - p))) 2408 x28_) 2410) ≤ (12 : Int32) → (rb_X12_next_197 (rs_I (rs_I (rs_I R 2405 (nI a')) 2410 (nI (a' - p))) 2408 x28_) (5 : Int32) Q))) := fun v v1 v2 => by
      refine ⟨v, rfl, ?_⟩
      rw [show r_I (rs_I (rs_I (rs_I R 2405 (nI a')) 2410 (nI (a' - p))) 2408 v) 2410 = nI (a' - p) from rfl, show r_I (rs_I (rs_I (rs_I R 2405 (nI a')) 2410 (nI (a' - p))) 2408 v) 2408 = v from rfl]
      by_cases c : a' - p ≤ 12
      · rw [if_pos c, ← v1 c] at hQ
        refine bt_ (nI_le (b := 12) c (by decide)) ?_
        have e := v1 c
        cases ho : kx (n_v (fun x => r_A R 2402 (p + x)) (a' - p)) 41 with
        | none =>
          rw [ho] at e hQ
          have e : v = -1 := e
          exact bt_ (by rw [e]; decide) hQ
        | some i =>
          rw [ho] at e hQ
          have e : v = if i < 30 then nI i else -1 := e
          have hQ : Q none (r_nw R a' (a' - p) v (if i < 30 then 4 else 1)) := hQ
          by_cases ci : i < 30
          · rw [if_pos ci] at e hQ
            exact bf_ (by rw [e]; exact nI_pos (by omega)) hQ
          · rw [if_neg ci] at e hQ
            exact bt_ (by rw [e]; decide) hQ
      · rw [if_neg c, ← v2 c] at hQ
        exact bf_ (nI_ge (a := 12) (by omega) (by omega)) hQ
    refine re_numberOf F12 r9 rfl (by omega) ⟨fun i hi m _ => fin _ (fun c => ?_) (fun c => ?_), fun hno => fin _ (fun c => ?_) (fun _ => rfl)⟩
    · have hd := d12 i hi
      have m : w_M 12 s12 l12 R p (a' - p) i := m
      have e := (w_Mv hd.1.2 hd.2 c h5).mp m
      rw [kx_e (i := i) (by omega) ((ck12 i hi).trans e)]
      exact (if_pos hi).symm
    · have m1 : l12 i = a' - p := m.1
      have hd := (d12 i hi).1
      omega
    · cases ho : kx (n_v (fun x => r_A R 2402 (p + x)) (a' - p)) 41 with
      | none => rfl
      | some i =>
        obtain ⟨k1, k2⟩ := kx_s ho
        show (-1 : Int32) = if i < 30 then nI i else -1
        by_cases ci : i < 30
        · have hd := d12 i ci
          exact absurd ((w_Mv hd.1.2 hd.2 c h5).mpr ((ck12 i ci).symm.trans k2)) (hno i ci)
        · rw [if_neg ci]
