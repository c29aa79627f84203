/-! An event or a board; a semaphore; a buffer; a port. -/
theorem vnb {x : Int32} (h : x = 0 ∨ x = 1) : vp_nar .boolean x = x := by rcases h with rfl | rfl <;> rfl
theorem nfb {x : Int32} (h : x = 0 ∨ x = 1) : narrow .boolean (.int x) = .int x ∧ fits .boolean (.int x) = true := by rcases h with rfl | rfl <;> exact ⟨rfl, rfl⟩
/-- what a thing of sort s, the n-th, may change, in all -/
def ya (p s n tm lm f i : Nat) : Prop := xa p s tm lm f i ∨ ((2443 ≤ f ∧ f ≤ 2445) ∧ i = 8 * p + n ∧ s = 0) ∨ ((2446 ≤ f ∧ f ≤ 2447) ∧ i = 8 * p + n ∧ s = 2) ∨ ((2448 ≤ f ∧ f ≤ 2450) ∧ i = 16 * p + n ∧ s = 4)
theorem RP_thing {L L' : c_L} {K K' : c_S} {R R' : r_S} {p lm lm' s tm : Nat} {cn : Nat → Nat} {hd : Option Nat} {k nr : Nat} {re : Nat → Nat} {hp : Prop} {T : q_S} (g : c_G L T) (h : RP L K R p lm cn hd k nr re hp) (lx : LX L L') (hs : s < 5) (hlt : cn s < (if s = 4 ∨ s = 5 then 16 else 8)) (htm : tm = cn 0 + cn 1 + cn 2 + cn 3 + cn 4 + cn 5) (of : OF (xI p s (cn s)) (xA p s (cn s)) xi (ya p s (cn s) tm lm) K R K' R') (pn : PN L' K' R' p lm' (cn1 cn s)) (t1 : PT1 L' K' R' p s (cn s)) (t4 : s = 4 → c_I K' 2008 (48 * p + (32 + cn 4)) = -1 ∧ r_A R' 2450 (16 * p + cn 4) = -1) : RP L' K' R' p lm' (cn1 cn s) hd k nr re hp := by
  obtain ⟨h1, h2, h3, h4, h5, h6, h7, h8⟩ := h
  obtain ⟨o1, o2, o3, o4⟩ := of
  have m5 := h1.1.1
  have c5 : cn1 cn s 5 = cn 5 := if_neg (by omega)
  have hnn : cn s < (if s = 4 then 16 else 8) := by
    by_cases z : s = 4
    · rw [if_pos (Or.inl z)] at hlt; rw [if_pos z]; exact hlt
    · rw [if_neg (by omega)] at hlt; rw [if_neg z]; exact hlt
  have nI9 : ∀ f i : Nat, f / 200 ≠ 9 → f / 200 ≠ 10 → f / 200 ≠ 8 → ¬ xI p s (cn s) f i := fun f i a b c z => by unfold xI at z; omega
  have nA : ∀ f i : Nat, f / 200 ≠ 10 → f / 200 ≠ 8 → f ≠ 1006 → ¬ xA p s (cn s) f i := fun f i a b c z => by unfold xA at z; omega
  have na : ∀ f i : Nat, 2423 ≤ f → f ≤ 2462 → ¬ (2430 ≤ f ∧ f ≤ 2435) → ¬ (2443 ≤ f ∧ f ≤ 2450) → ¬ ya p s (cn s) tm lm f i := fun f i a b c d z => by unfold ya xa at z; omega
  have w1 := h4.1
  refine ⟨PH_c h1 lx (fun f hf _ => (o1 f p (nI9 f p (by omega) (by omega) (by omega))).1) (o4 _ _ (na _ _ (by decide) (by decide) (by decide) (by decide))), PA_c h2 (fun j => o2 _ _ _ (nA _ _ (by decide) (by decide) (by decide))) (fun j _ => o4 _ _ (na _ _ (by decide) (by decide) (by decide) (by decide))) id, PM_c h3 (lx.2 801 p (by decide) (lp_54 g p h1.1.1)) (lx.2 802 p (by decide) (lp_54 g p h1.1.1)) (fun f hf => (o1 f p (nI9 f p (by omega) (by omega) (by omega))).1) (fun f j hf => o2 _ _ _ (nA f p (by omega) (by omega) (by omega))) ⟨o4 _ _ (na _ _ (by decide) (by decide) (by decide) (by decide)), o4 _ _ (na _ _ (by decide) (by decide) (by decide) (by decide))⟩ (fun f i a b _ => o4 _ _ (na _ _ (by omega) (by omega) (by omega) (by omega))), pn, fun h z => by rw [c5]; exact h5 h z, fun j hj => ?_, fun s' i hs' hi => ?_, fun i hi => ?_⟩
  · rw [c5] at hj
    exact PQ1_c (h6 j hj) (fun f hf => (o1 f _ (nI9 f _ (by omega) (by omega) (by omega))).1) (fun x => o2 _ _ _ (nA _ _ (by decide) (by decide) (by decide))) (fun f a b => o4 _ _ (na _ _ (by omega) (by omega) (by omega) (by omega))) Iff.rfl
  · by_cases z : s' = s ∧ i = cn s
    · rw [z.1, z.2]
      exact t1
    · have hi' : i < cn s' := by
        unfold cn1 at hi
        by_cases y : s' = s
        · rw [if_pos y] at hi
          rw [y] at z ⊢
          have : i ≠ cn s := fun x => z ⟨rfl, x⟩
          omega
        · rw [if_neg y] at hi
          exact hi
      have ne : 48 * p + (8 * s' + i) ≠ 48 * p + (8 * s + cn s) := fun y => z (ix_s w1 hs hs' hnn hi' y)
      have b := w1 s' (by omega)
      refine PT1_c (h7 s' i hs' hi') (fun y => lx.2 1600 _ (by decide) (by subst y; exact c_gU g (h4.2.2.2.2.1 2 i (by omega) hi') (by unfold c_qu; rw [if_pos (by have := w1 2 (by omega); simp at this; omega)]))) (fun f hf _ => (o1 f _ (fun y => by unfold xI at y; omega)).1) (fun f a => o4 _ _ (fun y => ?_)) (fun y => ⟨o4 _ _ (fun y2 => ?_), o4 _ _ (fun y2 => ?_)⟩)
      · unfold ya xa at y
        exact z (by omega)
      · unfold ya xa at y2
        have : s = 4 ∧ i = cn s := by omega
        exact z ⟨by omega, this.2⟩
      · unfold ya xa at y2
        have : s = 4 ∧ i = cn s := by omega
        exact z ⟨by omega, this.2⟩
  · by_cases z : s = 4 ∧ i = cn s
    · have e4 : cn 4 = cn s := by rw [z.1]
      rw [z.2, ← e4]
      exact t4 z.1
    · have hi' : i < cn 4 := by
        unfold cn1 at hi
        by_cases y : 4 = s
        · rw [if_pos y] at hi
          have : i ≠ cn s := fun x => z ⟨y.symm, x⟩
          rw [y]
          omega
        · rw [if_neg y] at hi
          exact hi
      have ne : 48 * p + (32 + i) ≠ 48 * p + (8 * s + cn s) := fun y => z (by have := ix_s (s' := 4) (i' := i) w1 hs (by omega) hnn hi' (by omega); exact ⟨this.1.symm, this.2⟩)
      refine ⟨(o1 _ _ (fun y => by unfold xI at y; omega)).1.trans (h8 i hi').1, (o4 _ _ (fun y => ?_)).trans (h8 i hi').2⟩
      unfold ya xa at y
      exact z (by omega)
