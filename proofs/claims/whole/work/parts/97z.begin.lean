/-! A partition begins anew: its things, its memory, its processes. -/
def k_em (S : c_S) (a : Nat) : c_S := if 16 ≤ a % 48 ∧ a % 48 < 24 then cs_I (cs_I (cs_I S 2001 a (c_I S 2002 a)) 1602 a 0) 1603 a 0 else cs_I S 2001 a (c_I S 2002 a)
theorem ke_empty {L : c_L} {S : c_S} {a : Nat} {Q : c_S → Prop} (gk : GK L) (m : c_mk L 10 a) (h : Q (k_em S a)) : km_X10_empty L S a Q := by
  unfold k_em at h
  by_cases c : 16 ≤ a % 48 ∧ a % 48 < 24
  · rw [if_pos c] at h
    have e : c_qu a = some a := if_pos c
    exact bf_ (by rw [e]; intro z; cases z) ⟨a, e, gk.2.1 a a m e, h⟩
  · rw [if_neg c] at h
    exact bt_ (show c_qu a = none from if_neg c) h
theorem k_em_f {S : c_S} {a : Nat} : (∀ f i : Nat, f ∉ [2001, 1602, 1603] ∨ i ≠ a → c_I (k_em S a) f i = c_I S f i) ∧ c_I (k_em S a) 2001 a = c_I S 2002 a ∧ (16 ≤ a % 48 ∧ a % 48 < 24 → c_I (k_em S a) 1602 a = 0 ∧ c_I (k_em S a) 1603 a = 0) ∧ (∀ f i n : Nat, c_A (k_em S a) f i n = c_A S f i n) ∧ (∀ f i : Nat, c_P (k_em S a) f i = c_P S f i) ∧ ∀ f i : Nat, c_J (k_em S a) f i = c_J S f i := by
  unfold k_em
  by_cases c : 16 ≤ a % 48 ∧ a % 48 < 24
  · rw [if_pos c]
    refine ⟨fun f i h => ?_, ?_, fun _ => ⟨?_, ?_⟩, fun _ _ _ => rfl, fun _ _ => rfl, fun _ _ => rfl⟩
    · have h : (f ≠ 1603 ∨ i ≠ a) ∧ (f ≠ 1602 ∨ i ≠ a) ∧ (f ≠ 2001 ∨ i ≠ a) := by
        simp only [List.mem_cons, List.not_mem_nil, or_false, not_or] at h
        omega
      rw [c_In h.1, c_In h.2.1, c_In h.2.2]
    · rw [c_In (Or.inl (by decide)), c_In (Or.inl (by decide)), c_Is]
    · rw [c_In (Or.inl (by decide)), c_Is]
    · rw [c_Is]
  · rw [if_neg c]
    refine ⟨fun f i h => ?_, c_Is, fun z => absurd z c, fun _ _ _ => rfl, fun _ _ => rfl, fun _ _ => rfl⟩
    have h : f ≠ 2001 ∨ i ≠ a := by
      simp only [List.mem_cons, List.not_mem_nil, or_false, not_or] at h
      omega
    rw [c_In h]
/-- things before (s, k) have been emptied -/
def EM (Z : z_C) (p : Nat) (K : c_S) (s k : Nat) (S : c_S) : Prop := (∀ f i : Nat, f ∉ [2001, 1602, 1603] ∨ i / 48 ≠ p → c_I S f i = c_I K f i) ∧ (∀ f i n : Nat, c_A S f i n = c_A K f i n) ∧ (∀ f i : Nat, c_P S f i = c_P K f i) ∧ (∀ f i : Nat, c_J S f i = c_J K f i) ∧ ∀ s' k' : Nat, s' < 5 → k' < z_nt Z p s' → (s' < s ∨ s' = s ∧ k' < k) → c_I S 2001 (48 * p + (8 * s' + k')) = c_I K 2002 (48 * p + (8 * s' + k')) ∧ (s' = 2 → c_I S 1602 (48 * p + (16 + k')) = 0 ∧ c_I S 1603 (48 * p + (16 + k')) = 0)
theorem EM_s {Z : z_C} {p : Nat} {K S : c_S} {s k : Nat} (h : EM Z p K s k S) (hs : s < 5) (hk : k < z_nt Z p s) (nt : ∀ s' : Nat, s' < 5 → z_nt Z p s' ≤ (if s' = 4 then 16 else 8)) : EM Z p K s (k + 1) (k_em S (48 * p + (8 * s + k))) := by
  obtain ⟨h1, h2, h3, h4, h5⟩ := h
  obtain ⟨f1, f2, f3, f4, f5, f6⟩ := k_em_f (S := S) (a := 48 * p + (8 * s + k))
  have b1 := nt s hs
  have k48 : 8 * s + k < 48 := by split at b1 <;> omega
  refine ⟨fun f i hf => ?_, fun f i n => (f4 f i n).trans (h2 f i n), fun f i => (f5 f i).trans (h3 f i), fun f i => (f6 f i).trans (h4 f i), fun s' k' hs' hk' hlt => ?_⟩
  · rw [f1 f i (hf.imp id (fun z e => z (by rw [e]; omega)))]
    exact h1 f i hf
  · have b2 := nt s' hs'
    by_cases e : s' = s ∧ k' = k
    · obtain ⟨e1, e2⟩ := e
      subst e1 e2
      refine ⟨?_, fun e => ?_⟩
      · rw [f2, h1 2002 _ (Or.inl (by decide))]
      · subst e
        exact f3 (by rw [show 48 * p + (8 * 2 + k') = 48 * p + (16 + k') by omega] at *; rw [if_neg (by decide)] at b1; omega)
    · have ne : 48 * p + (8 * s' + k') ≠ 48 * p + (8 * s + k) := fun z => e (by
        split at b1 <;> split at b2 <;> omega)
      obtain ⟨g1, g2⟩ := h5 s' k' hs' hk' (by omega)
      refine ⟨(f1 _ _ (Or.inr ne)).trans g1, fun e2 => ?_⟩
      subst e2
      obtain ⟨q1, q2⟩ := g2 rfl
      exact ⟨(f1 _ _ (Or.inr ne)).trans q1, (f1 _ _ (Or.inr ne)).trans q2⟩
/-- what follows the emptying -/
def k_bf (L : c_L) (p : Nat) (x1 x3 : Int32) (Q : c_S → Prop) (S : c_S) : Prop := (x1 = 0 → kb_X5_beginAnew_82 L S p x3 Q) ∧ (¬ x1 = 0 → km_X4_restore L S p (fun S37_ => kb_X5_beginAnew_82 L S37_ p x3 Q))
theorem ke_things {L : c_L} {Z : z_C} {K : c_S} {p : Nat} {x1 x3 : Int32} (gk : GK L) (nt : ∀ s' : Nat, s' < 5 → z_nt Z p s' ≤ (if s' = 4 then 16 else 8)) (mk : ∀ s i : Nat, s < 5 → i < z_nt Z p s → c_mk L 10 (48 * p + (8 * s + i))) (hc : ∀ s : Nat, s < 5 → c_A K 1006 p s = nI (z_nt Z p s)) : ∃ S' : c_S, EM Z p K 5 0 S' ∧ ∀ Q : c_S → Prop, k_bf L p x1 x3 Q S' → ∃ n : Nat, kl_X5_beginAnew_22 L n K p x1 x3 0 Q := by
  have inn : ∀ (s : Nat), s < 5 → ∀ (d k : Nat) (S : c_S), k + d = z_nt Z p s → EM Z p K s k S → ∃ S' : c_S, EM Z p K s (z_nt Z p s) S' ∧ ∀ (B : c_S → Nat → Int32 → Int32 → Int32 → Prop) (Q : c_S → Prop), B S' p x1 x3 (nI s + 1) → kl_X5_beginAnew_31 L B (d + 1) S p x1 x3 (nI s) (nI k) Q := by
    intro s hs d
    have b1 := nt s hs
    have b16 : z_nt Z p s ≤ 16 ∧ 8 * s + z_nt Z p s ≤ 48 := by split at b1 <;> omega
    induction d with
    | zero =>
      intro k S hk hE
      obtain rfl : k = z_nt Z p s := by omega
      refine ⟨S, hE, fun B Q hB => ⟨vp_in_nI hs (by decide), bt_ ?_ hB⟩⟩
      rw [nI_clamp (by omega), hE.2.1, hc s hs]
      exact nI_le (Nat.le_refl _) (by omega)
    | succ d ih =>
      intro k S hk hE
      have hkn : k < z_nt Z p s := by omega
      obtain ⟨S', h1, h2⟩ := ih (k + 1) _ (by omega) (EM_s hE hs hkn nt)
      refine ⟨S', h1, fun B Q hB => ⟨vp_in_nI hs (by decide), bf_ ?_ ?_⟩⟩
      · rw [nI_clamp (by omega), hE.2.1, hc s hs]
        exact nI_ge hkn (by omega)
      · have e8 : nI s * (8 : Int32) + nI k = nI (8 * s + k) := by rw [show (8 : Int32) = nI 8 from rfl, pk_mul, nI_add, Nat.mul_comm]
        rw [e8, nI_clamp (n := 8 * s + k) (by omega), c_m10 (by omega) (mk s k hs hkn)]
        refine ⟨vp_in_nI (by omega) (by decide), _, rfl, mk s k hs hkn, ke_empty gk (mk s k hs hkn) ?_⟩
        rw [nI_1]
        exact h2 B Q hB
  have out : ∀ (d s : Nat) (S : c_S), s + d = 5 → EM Z p K s 0 S → ∃ S' : c_S, EM Z p K 5 0 S' ∧ ∀ Q : c_S → Prop, k_bf L p x1 x3 Q S' → kl_X5_beginAnew_22 L (d + 1) S p x1 x3 (nI s) Q := by
    intro d
    induction d with
    | zero =>
      intro s S hs hE
      obtain rfl : s = 5 := by omega
      exact ⟨S, hE, fun Q hQ => bt_ (by decide) hQ⟩
    | succ d ih =>
      intro s S hs hE
      obtain ⟨S1, a1, a2⟩ := inn s (by omega) (z_nt Z p s) 0 S (by omega) hE
      have a1' : EM Z p K (s + 1) 0 S1 := ⟨a1.1, a1.2.1, a1.2.2.1, a1.2.2.2.1, fun s' k' hs' hk' hlt => a1.2.2.2.2 s' k' hs' hk' (by
        by_cases e : s' = s
        · subst e; exact Or.inr ⟨rfl, hk'⟩
        · exact Or.inl (by omega))⟩
      obtain ⟨S', b1, b2⟩ := ih (s + 1) S1 (by omega) a1'
      refine ⟨S', b1, fun Q hQ => bf_ (nI_ge (b := 5) (by omega) (by decide)) ⟨z_nt Z p s + 1, a2 _ Q ?_⟩⟩
      rw [nI_1]
      exact b2 Q hQ
  obtain ⟨S', h1, h2⟩ := out 5 0 K rfl ⟨fun _ _ _ => rfl, fun _ _ _ => rfl, fun _ _ => rfl, fun _ _ => rfl, fun s' k' _ _ z => by omega⟩
  exact ⟨S', h1, fun Q hQ => ⟨6, h2 Q hQ⟩⟩
/-- the reference's things, the first n of them -/
def RE (Z : z_C) (p : Nat) (R : r_S) (n : Nat) (S : r_S) : Prop := (∀ f : Nat, r_I S f = r_I R f) ∧ (∀ f i : Nat, f ∉ [2492, 2493, 2494, 2496] ∨ i / 8 ≠ p → r_A S f i = r_A R f i) ∧ ∀ k : Nat, k < n → k < 8 → (k < z_nt Z p 0 → r_A S 2492 (8 * p + k) = r_A R 2443 (8 * p + k)) ∧ r_A S 2493 (8 * p + k) = 0 ∧ r_A S 2494 (8 * p + k) = 0 ∧ r_A S 2496 (8 * p + k) = 0
theorem RE_s {Z : z_C} {p n : Nat} {R S : r_S} {v : Int32} (h : RE Z p R n S) (hn : n < 8) (hv : n < z_nt Z p 0 → v = r_A R 2443 (8 * p + n)) : RE Z p R (n + 1) (rs_A (rs_A (rs_A (rs_A S 2492 (8 * p + n) v) 2493 (8 * p + n) 0) 2494 (8 * p + n) 0) 2496 (8 * p + n) 0) := by
  obtain ⟨h1, h2, h3⟩ := h
  refine ⟨h1, fun f i hf => ?_, fun k hk hk8 => ?_⟩
  · have hf' : (f ≠ 2496 ∨ i ≠ 8 * p + n) ∧ (f ≠ 2494 ∨ i ≠ 8 * p + n) ∧ (f ≠ 2493 ∨ i ≠ 8 * p + n) ∧ (f ≠ 2492 ∨ i ≠ 8 * p + n) := by
      simp only [List.mem_cons, List.not_mem_nil, or_false, not_or] at hf
      omega
    rw [r_An hf'.1, r_An hf'.2.1, r_An hf'.2.2.1, r_An hf'.2.2.2]
    exact h2 f i hf
  · by_cases e : k = n
    · subst e
      refine ⟨fun z => ?_, ?_, ?_, ?_⟩
      · rw [r_An (Or.inl (by decide)), r_An (Or.inl (by decide)), r_An (Or.inl (by decide)), r_As, hv z]
      · rw [r_An (Or.inl (by decide)), r_An (Or.inl (by decide)), r_As]
      · rw [r_An (Or.inl (by decide)), r_As]
      · rw [r_As]
    · have ne : 8 * p + k ≠ 8 * p + n := by omega
      obtain ⟨g1, g2, g3, g4⟩ := h3 k (by omega) hk8
      refine ⟨fun z => ?_, ?_, ?_, ?_⟩
      · rw [r_An (Or.inr ne), r_An (Or.inr ne), r_An (Or.inr ne), r_An (Or.inr ne)]; exact g1 z
      · rw [r_An (Or.inr ne), r_An (Or.inr ne), r_An (Or.inr ne), r_An (Or.inr ne)]; exact g2
      · rw [r_An (Or.inr ne), r_An (Or.inr ne), r_An (Or.inr ne), r_An (Or.inr ne)]; exact g3
      · rw [r_An (Or.inr ne), r_An (Or.inr ne), r_An (Or.inr ne), r_An (Or.inr ne)]; exact g4
theorem re_things {Z : z_C} {R : r_S} {p : Nat} (hp : p < 16) (n8 : z_nt Z p 0 ≤ 8) (h35 : r_A R 2435 (6 * p) = nI (z_nt Z p 0)) : ∃ S' : r_S, RE Z p R 8 S' ∧ ∀ Q : Option Value → r_S → Prop, Q none S' → rm_X12_things R (nI p) Q := by
  have e8 : (8 : Int32) * nI p = nI (8 * p) := by rw [show (8 : Int32) = nI 8 from rfl, pk_mul]
  have e6 : (6 : Int32) * nI p = nI (6 * p) := by rw [show (6 : Int32) = nI 6 from rfl, pk_mul]
  have lp : ∀ (d k : Nat) (S : r_S), k + d = 8 → RE Z p R k S → ∃ S' : r_S, RE Z p R 8 S' ∧ ∀ Q : Option Value → r_S → Prop, Q none S' → rl_X12_things_5 (d + 1) S (nI p) (nI (8 * p + k)) Q := by
    intro d
    induction d with
    | zero =>
      intro k S hk hE
      obtain rfl : k = 8 := by omega
      refine ⟨S, hE, fun Q hQ => bt_ ?_ hQ⟩
      rw [e8, show (8 : Int32) = nI 8 from rfl, nI_add]
      exact nI_le (Nat.le_refl _) (by omega)
    | succ d ih =>
      intro k S hk hE
      have ck := nI_clamp (n := 8 * p + k) (by omega)
      have vk : ∀ f : Nat, r_N f = 128 → vp_in (nI (8 * p + k)) (r_N f) := fun f hf => ri_v hf (by omega) (by decide)
      have e35 : r_A S 2435 (6 * p) = nI (z_nt Z p 0) := (hE.2.1 _ _ (Or.inl (by decide))).trans h35
      have st : ∀ v : Int32, (k < z_nt Z p 0 → v = r_A R 2443 (8 * p + k)) → ∃ S' : r_S, RE Z p R 8 S' ∧ ∀ Q : Option Value → r_S → Prop, Q none S' → rb_X12_things_49 (fun S x1 x2 => rl_X12_things_5 (d + 1) S x1 x2 Q) S (nI p) (nI (8 * p + k)) (nI (8 * p + k)) v Q := fun v hv => by
        obtain ⟨S', a1, a2⟩ := ih (k + 1) _ (by omega) (RE_s hE (by omega) hv)
        refine ⟨S', a1, fun Q hQ => ⟨vk _ rfl, vk _ rfl, vk _ rfl, fun S1 e => ⟨vk _ rfl, ?_⟩⟩⟩
        subst e
        rw [ck, vn_0, nI_1]
        exact a2 Q hQ
      by_cases c : k < z_nt Z p 0
      · obtain ⟨S', a1, a2⟩ := st (r_A S 2443 (8 * p + k)) (fun _ => hE.2.1 _ _ (Or.inl (by decide)))
        refine ⟨S', a1, fun Q hQ => bf_ ?_ ⟨?_, bf_ ?_ ⟨vk _ rfl, ?_⟩⟩⟩
        · rw [e8, show (8 : Int32) = nI 8 from rfl, nI_add]
          exact nI_ge (by omega) (by omega)
        · rw [e6]; exact ri_v (n := 96) rfl (by omega) (by decide)
        · rw [e6, e8, nI_clamp (n := 6 * p) (by omega), e35, pk_sub (by omega), show 8 * p + k - 8 * p = k by omega]
          exact nI_ge c (by omega)
        · rw [ck]; exact a2 Q hQ
      · obtain ⟨S', a1, a2⟩ := st 0 (fun z => absurd z c)
        refine ⟨S', a1, fun Q hQ => bf_ ?_ ⟨?_, bt_ ?_ (a2 Q hQ)⟩⟩
        · rw [e8, show (8 : Int32) = nI 8 from rfl, nI_add]
          exact nI_ge (by omega) (by omega)
        · rw [e6]; exact ri_v (n := 96) rfl (by omega) (by decide)
        · rw [e6, e8, nI_clamp (n := 6 * p) (by omega), e35, pk_sub (by omega), show 8 * p + k - 8 * p = k by omega]
          exact nI_le (by omega) (by omega)
  obtain ⟨S', h1, h2⟩ := lp 8 0 R rfl ⟨fun _ => rfl, fun _ _ _ => rfl, fun k hk => by omega⟩
  refine ⟨S', h1, fun Q hQ => ⟨9, ?_⟩⟩
  rw [e8]
  exact h2 Q hQ
/-- memory out of its image, the first n bytes -/
def r_mm (R : r_S) (p n : Nat) : r_S := (R.1, fun f i => if f = 2466 ∧ 8192 * p ≤ i ∧ i < 8192 * p + n then R.2 2465 i else R.2 f i)
theorem mm_0 {R : r_S} {p : Nat} : r_mm R p 0 = R := Prod.ext rfl (funext fun f => funext fun i => if_neg (fun z => by omega))
theorem mm_s {R : r_S} {p n : Nat} : rs_A (r_mm R p n) 2466 (8192 * p + n) (r_A (r_mm R p n) 2465 (8192 * p + n)) = r_mm R p (n + 1) := by
  refine Prod.ext rfl (funext fun f => funext fun i => ?_)
  show (if f = 2466 ∧ i = 8192 * p + n then (if 2465 = 2466 ∧ 8192 * p ≤ 8192 * p + n ∧ 8192 * p + n < 8192 * p + n then R.2 2465 (8192 * p + n) else R.2 2465 (8192 * p + n)) else if f = 2466 ∧ 8192 * p ≤ i ∧ i < 8192 * p + n then R.2 2465 i else R.2 f i) = (if f = 2466 ∧ 8192 * p ≤ i ∧ i < 8192 * p + (n + 1) then R.2 2465 i else R.2 f i)
  rw [if_neg (c := 2465 = 2466 ∧ 8192 * p ≤ 8192 * p + n ∧ 8192 * p + n < 8192 * p + n) (fun z => by omega)]
  by_cases c : f = 2466 ∧ i = 8192 * p + n
  · rw [if_pos c, if_pos ⟨c.1, by omega, by omega⟩, c.2]
  · rw [if_neg c]
    by_cases c2 : f = 2466 ∧ 8192 * p ≤ i ∧ i < 8192 * p + n
    · rw [if_pos c2, if_pos ⟨c2.1, c2.2.1, by omega⟩]
    · rw [if_neg c2, if_neg (fun z => by omega)]
theorem mm_o {R : r_S} {p n f i : Nat} (h : f ≠ 2466 ∨ ¬ (8192 * p ≤ i ∧ i < 8192 * p + n)) : r_A (r_mm R p n) f i = r_A R f i := if_neg (fun z => by omega)
theorem mm_i {R : r_S} {p n i : Nat} (h : 8192 * p ≤ i ∧ i < 8192 * p + n) : r_A (r_mm R p n) 2466 i = r_A R 2465 i := if_pos ⟨rfl, h⟩
theorem nar_b {x : Int32} (h : fits .byte (.int x) = true) : vp_nar .byte x = x := by
  have l := by_lo h
  have e : vp_nar .byte x = x.toInt8.toInt32 := rfl
  rw [e]
  refine Int32.toInt_inj.mp ?_
  rw [Int8.toInt_toInt32, Int32.toInt_toInt8]
  exact Int.bmod_eq_of_le (by omega) (by omega)
theorem re_mem {R : r_S} {p B : Nat} {x3 : Int32} {Q : Option Value → r_S → Prop} (hp : p < 16) (hB : B ≤ 8192) (h25 : r_A R 2425 p = nI B) (hx : x3 = 0 ∨ x3 = 1) (hf : ∀ i : Nat, fits .byte (.int (r_A R 2465 i)) = true) (h : rb_X12_begins_93 (if x3 = 0 then R else r_mm R p B) (nI p) Q) : ∃ n : Nat, rl_X12_begins_46 n R (nI p) x3 0 Q := by
  have cp := nI_clamp (n := p) (by omega)
  rcases hx with rfl | rfl
  · rw [if_pos rfl] at h
    refine ⟨1, ri_v rfl hp (by decide), ?_⟩
    by_cases c : r_A R 2425 (nI p).toNatClampNeg ≤ 0
    · exact bt_ c h
    · exact bf_ c (bt_ rfl h)
  · rw [if_neg (by decide)] at h
    have lp : ∀ d x : Nat, x + d = B → rl_X12_begins_46 (d + 1) (r_mm R p x) (nI p) 1 (nI x) Q := by
      intro d
      induction d with
      | zero =>
        intro x hx
        obtain rfl : x = B := by omega
        refine ⟨ri_v rfl hp (by decide), bt_ ?_ h⟩
        rw [cp, mm_o (Or.inl (by decide)), h25]
        exact nI_le (Nat.le_refl _) (by omega)
      | succ d ih =>
        intro x hx
        have e : (8192 : Int32) * nI p + nI x = nI (8192 * p + x) := by rw [show (8192 : Int32) = nI 8192 from rfl, pk_mul, nI_add]
        refine ⟨ri_v rfl hp (by decide), bf_ ?_ (bf_ (by decide) ?_)⟩
        · rw [cp, mm_o (Or.inl (by decide)), h25]
          exact nI_ge (by omega) (by omega)
        · rw [e, nI_clamp (n := 8192 * p + x) (by omega), nar_b (by rw [mm_o (Or.inl (by decide))]; exact hf _), mm_s, nI_1]
          exact ⟨ri_v (n := 131072) rfl (by omega) (by decide), ri_v (n := 131072) rfl (by omega) (by decide), ih (x + 1) (by omega)⟩
    have z := lp B 0 (by omega)
    rw [mm_0] at z
    exact ⟨B + 1, z⟩
