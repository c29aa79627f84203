/-! The things of a partition, one after another. -/
theorem g_sw {A0 A1 A2 A3 A4 A5 A6 A7 A8 RM : (Option Value → r_S → Prop) → Prop} {x : Int32} (hr : ∀ Q : Option Value → r_S → Prop, (((x.toInt < 7 ∨ 23 < x.toInt) → A0 Q) ∧ ((x = (7 : Int32)) → A1 Q) ∧ ((x = (8 : Int32) ∨ x = (9 : Int32) ∨ x = (10 : Int32) ∨ x = (11 : Int32) ∨ x = (12 : Int32) ∨ x = (13 : Int32) ∨ x = (14 : Int32) ∨ x = (18 : Int32) ∨ x = (21 : Int32) ∨ x = (22 : Int32)) → A2 Q) ∧ ((x = (15 : Int32)) → A3 Q) ∧ ((x = (16 : Int32)) → A4 Q) ∧ ((x = (17 : Int32)) → A5 Q) ∧ ((x = (19 : Int32)) → A6 Q) ∧ ((x = (20 : Int32)) → A7 Q) ∧ ((x = (23 : Int32)) → A8 Q)) → RM Q) : ((x.toInt < 7 ∨ 23 < x.toInt) → ∀ Q : Option Value → r_S → Prop, A0 Q → RM Q) ∧ ((x = (7 : Int32)) → ∀ Q : Option Value → r_S → Prop, A1 Q → RM Q) ∧ ((x = (8 : Int32) ∨ x = (9 : Int32) ∨ x = (10 : Int32) ∨ x = (11 : Int32) ∨ x = (12 : Int32) ∨ x = (13 : Int32) ∨ x = (14 : Int32) ∨ x = (18 : Int32) ∨ x = (21 : Int32) ∨ x = (22 : Int32)) → ∀ Q : Option Value → r_S → Prop, A2 Q → RM Q) ∧ ((x = (15 : Int32)) → ∀ Q : Option Value → r_S → Prop, A3 Q → RM Q) ∧ ((x = (16 : Int32)) → ∀ Q : Option Value → r_S → Prop, A4 Q → RM Q) ∧ ((x = (17 : Int32)) → ∀ Q : Option Value → r_S → Prop, A5 Q → RM Q) ∧ ((x = (19 : Int32)) → ∀ Q : Option Value → r_S → Prop, A6 Q → RM Q) ∧ ((x = (20 : Int32)) → ∀ Q : Option Value → r_S → Prop, A7 Q → RM Q) ∧ ((x = (23 : Int32)) → ∀ Q : Option Value → r_S → Prop, A8 Q → RM Q) := by
  refine ⟨fun z Q h => hr Q ⟨fun _ => h, fun y => ?_, fun y => ?_, fun y => ?_, fun y => ?_, fun y => ?_, fun y => ?_, fun y => ?_, fun y => ?_⟩, fun z Q h => hr Q ⟨fun y => ?_, fun _ => h, fun y => ?_, fun y => ?_, fun y => ?_, fun y => ?_, fun y => ?_, fun y => ?_, fun y => ?_⟩, fun z Q h => hr Q ⟨fun y => ?_, fun y => ?_, fun _ => h, fun y => ?_, fun y => ?_, fun y => ?_, fun y => ?_, fun y => ?_, fun y => ?_⟩, fun z Q h => hr Q ⟨fun y => ?_, fun y => ?_, fun y => ?_, fun _ => h, fun y => ?_, fun y => ?_, fun y => ?_, fun y => ?_, fun y => ?_⟩, fun z Q h => hr Q ⟨fun y => ?_, fun y => ?_, fun y => ?_, fun y => ?_, fun _ => h, fun y => ?_, fun y => ?_, fun y => ?_, fun y => ?_⟩, fun z Q h => hr Q ⟨fun y => ?_, fun y => ?_, fun y => ?_, fun y => ?_, fun y => ?_, fun _ => h, fun y => ?_, fun y => ?_, fun y => ?_⟩, fun z Q h => hr Q ⟨fun y => ?_, fun y => ?_, fun y => ?_, fun y => ?_, fun y => ?_, fun y => ?_, fun _ => h, fun y => ?_, fun y => ?_⟩, fun z Q h => hr Q ⟨fun y => ?_, fun y => ?_, fun y => ?_, fun y => ?_, fun y => ?_, fun y => ?_, fun y => ?_, fun _ => h, fun y => ?_⟩, fun z Q h => hr Q ⟨fun y => ?_, fun y => ?_, fun y => ?_, fun y => ?_, fun y => ?_, fun y => ?_, fun y => ?_, fun y => ?_, fun _ => h⟩⟩
  · exact absurd z (by rw [y]; decide)
  · exact absurd z (by rcases y with e | e | e | e | e | e | e | e | e | e <;> (rw [e]; decide))
  · exact absurd z (by rw [y]; decide)
  · exact absurd z (by rw [y]; decide)
  · exact absurd z (by rw [y]; decide)
  · exact absurd z (by rw [y]; decide)
  · exact absurd z (by rw [y]; decide)
  · exact absurd z (by rw [y]; decide)
  · exact absurd y (by rw [z]; decide)
  · exact absurd y (by rw [z]; decide)
  · exact absurd y (by rw [z]; decide)
  · exact absurd y (by rw [z]; decide)
  · exact absurd y (by rw [z]; decide)
  · exact absurd y (by rw [z]; decide)
  · exact absurd y (by rw [z]; decide)
  · exact absurd y (by rw [z]; decide)
  · exact absurd y (by rcases z with e | e | e | e | e | e | e | e | e | e <;> (rw [e]; decide))
  · exact absurd y (by rcases z with e | e | e | e | e | e | e | e | e | e <;> (rw [e]; decide))
  · exact absurd y (by rcases z with e | e | e | e | e | e | e | e | e | e <;> (rw [e]; decide))
  · exact absurd y (by rcases z with e | e | e | e | e | e | e | e | e | e <;> (rw [e]; decide))
  · exact absurd y (by rcases z with e | e | e | e | e | e | e | e | e | e <;> (rw [e]; decide))
  · exact absurd y (by rcases z with e | e | e | e | e | e | e | e | e | e <;> (rw [e]; decide))
  · exact absurd y (by rcases z with e | e | e | e | e | e | e | e | e | e <;> (rw [e]; decide))
  · exact absurd y (by rcases z with e | e | e | e | e | e | e | e | e | e <;> (rw [e]; decide))
  · exact absurd y (by rw [z]; decide)
  · exact absurd y (by rw [z]; decide)
  · exact absurd y (by rw [z]; decide)
  · exact absurd y (by rw [z]; decide)
  · exact absurd y (by rw [z]; decide)
  · exact absurd y (by rw [z]; decide)
  · exact absurd y (by rw [z]; decide)
  · exact absurd y (by rw [z]; decide)
  · exact absurd y (by rw [z]; decide)
  · exact absurd y (by rw [z]; decide)
  · exact absurd y (by rw [z]; decide)
  · exact absurd y (by rw [z]; decide)
  · exact absurd y (by rw [z]; decide)
  · exact absurd y (by rw [z]; decide)
  · exact absurd y (by rw [z]; decide)
  · exact absurd y (by rw [z]; decide)
  · exact absurd y (by rw [z]; decide)
  · exact absurd y (by rw [z]; decide)
  · exact absurd y (by rw [z]; decide)
  · exact absurd y (by rw [z]; decide)
  · exact absurd y (by rw [z]; decide)
  · exact absurd y (by rw [z]; decide)
  · exact absurd y (by rw [z]; decide)
  · exact absurd y (by rw [z]; decide)
  · exact absurd y (by rw [z]; decide)
  · exact absurd y (by rw [z]; decide)
  · exact absurd y (by rw [z]; decide)
  · exact absurd y (by rw [z]; decide)
  · exact absurd y (by rw [z]; decide)
  · exact absurd y (by rw [z]; decide)
  · exact absurd y (by rw [z]; decide)
  · exact absurd y (by rw [z]; decide)
  · exact absurd y (by rw [z]; decide)
  · exact absurd y (by rw [z]; decide)
  · exact absurd y (by rw [z]; decide)
  · exact absurd y (by rw [z]; decide)
  · exact absurd y (by rw [z]; decide)
  · exact absurd y (by rw [z]; decide)
  · exact absurd y (by rw [z]; decide)
  · exact absurd y (by rw [z]; decide)
  · exact absurd y (by rw [z]; decide)
  · exact absurd y (by rw [z]; decide)
  · exact absurd y (by rw [z]; decide)
  · exact absurd y (by rw [z]; decide)
  · exact absurd y (by rw [z]; decide)
  · exact absurd y (by rw [z]; decide)
  · exact absurd y (by rw [z]; decide)
  · exact absurd y (by rw [z]; decide)
/-- where reading partition p may change something -/
def pst (f : Nat) : Nat := if (2427 ≤ f ∧ f ≤ 2429) ∨ f = 2435 then 6 else if 2431 ≤ f ∧ f ≤ 2434 then 64 else if (2436 ≤ f ∧ f ≤ 2441) ∨ (2448 ≤ f ∧ f ≤ 2450) then 16 else if 2443 ≤ f ∧ f ≤ 2447 then 8 else if f = 2452 then 5 else 1
def pI (p f i : Nat) : Prop := (f / 200 = 9 ∧ 1806 < f) ∨ ((f / 200 = 5 ∨ f / 200 = 4) ∧ f ≠ 1001 ∧ i = p) ∨ (f / 200 = 7 ∧ i / 16 = p) ∨ ((f / 200 = 10 ∨ f / 200 = 8) ∧ i / 48 = p)
def pA (p f i : Nat) : Prop := ((f / 200 = 5 ∨ f / 200 = 4) ∧ i = p) ∨ (f / 200 = 7 ∧ i / 16 = p) ∨ ((f / 200 = 10 ∨ f / 200 = 8) ∧ i / 48 = p)
def pi (f : Nat) : Prop := (2404 ≤ f ∧ f ≤ 2411) ∨ f = 2422 ∨ f = 2453
def pa (p lm f i : Nat) : Prop := (f = 2421 ∧ lm ≤ i) ∨ (2425 ≤ f ∧ f ≤ 2452 ∧ i / pst f = p)
theorem OF_pt {p s n tm lm lm0 : Nat} {K K' : c_S} {R R' : r_S} (h : OF (xI p s n) (xA p s n) xi (ya p s n tm lm) K R K' R') (hs : s < 5) (hn : n < (if s = 4 then 16 else 8)) (ht : tm < 64) (hl : lm0 ≤ lm) : OF (pI p) (pA p) pi (pa p lm0) K R K' R' := by
  have n8 : 8 * s + n < 48 := by split at hn <;> omega
  refine OF_w h (fun f i z => ?_) (fun f i z => ?_) (fun f z => ?_) (fun f i z => ?_)
  · unfold xI at z; unfold pI; omega
  · unfold xA at z; unfold pA; omega
  · unfold xi at z; unfold pi; omega
  · unfold ya xa at z
    unfold pa
    rcases z with (⟨a, b⟩ | ⟨a, b⟩ | ⟨a, b⟩ | ⟨a, b⟩) | ⟨a, b, c⟩ | ⟨a, b, c⟩ | ⟨a, b, c⟩
    · exact Or.inl ⟨a, by omega⟩
    · refine Or.inr ⟨by omega, by omega, ?_⟩
      have : pst f = 64 := by unfold pst; rw [if_neg (by omega), if_pos (by omega)]
      rw [this]; omega
    · refine Or.inr ⟨by omega, by omega, ?_⟩
      have : pst f = 1 := by rw [a]; rfl
      rw [this]; omega
    · refine Or.inr ⟨by omega, by omega, ?_⟩
      have : pst f = 6 := by rw [a]; rfl
      rw [this]; omega
    · refine Or.inr ⟨by omega, by omega, ?_⟩
      have : pst f = 8 := by unfold pst; rw [if_neg (by omega), if_neg (by omega), if_neg (by omega), if_pos (by omega)]
      rw [this]
      rw [c] at hn; simp at hn; omega
    · refine Or.inr ⟨by omega, by omega, ?_⟩
      have : pst f = 8 := by unfold pst; rw [if_neg (by omega), if_neg (by omega), if_neg (by omega), if_pos (by omega)]
      rw [this]
      rw [c] at hn; simp at hn; omega
    · refine Or.inr ⟨by omega, by omega, ?_⟩
      have : pst f = 16 := by unfold pst; rw [if_neg (by omega), if_neg (by omega), if_pos (by omega)]
      rw [this]
      rw [c] at hn; simp at hn; omega
theorem OF_pq {p n tm lm lm0 : Nat} {K K' : c_S} {R R' : r_S} (h : OF (qI p n) (qA p n) xi (qa p n tm lm) K R K' R') (hn : n < 16) (ht : tm < 64) (hl : lm0 ≤ lm) : OF (pI p) (pA p) pi (pa p lm0) K R K' R' := by
  refine OF_w h (fun f i z => ?_) (fun f i z => ?_) (fun f z => ?_) (fun f i z => ?_)
  · unfold qI at z; unfold pI; omega
  · unfold qA at z; unfold pA; omega
  · unfold xi at z; unfold pi; omega
  · unfold qa xa at z
    unfold pa
    rcases z with (⟨a, b⟩ | ⟨a, b⟩ | ⟨a, b⟩ | ⟨a, b⟩) | ⟨a, b⟩ | ⟨a, b⟩
    · exact Or.inl ⟨a, by omega⟩
    · refine Or.inr ⟨by omega, by omega, ?_⟩
      have : pst f = 64 := by unfold pst; rw [if_neg (by omega), if_pos (by omega)]
      rw [this]; omega
    · refine Or.inr ⟨by omega, by omega, ?_⟩
      have : pst f = 1 := by rw [a]; rfl
      rw [this]; omega
    · refine Or.inr ⟨by omega, by omega, ?_⟩
      have : pst f = 6 := by rw [a]; rfl
      rw [this]; omega
    · refine Or.inr ⟨by omega, by omega, ?_⟩
      have : pst f = 16 := by unfold pst; rw [if_neg (by omega), if_neg (by omega), if_pos (by omega)]
      rw [this]; omega
    · refine Or.inr ⟨by omega, by omega, ?_⟩
      have : pst f = 1 := by rw [a]; rfl
      rw [this]; omega
theorem OF_pe {p lm0 : Nat} {K K' : c_S} {R R' : r_S} (h : OF eI (eA p) ei (ea p) K R K' R') : OF (pI p) (pA p) pi (pa p lm0) K R K' R' := by
  refine OF_w h (fun f i z => ?_) (fun f i z => ?_) (fun f z => ?_) (fun f i z => ?_)
  · unfold eI at z; unfold pI; omega
  · unfold eA at z; unfold pA; omega
  · unfold ei at z; unfold pi; omega
  · unfold ea at z
    unfold pa
    rcases z with ⟨a, b⟩ | ⟨a, b⟩
    · refine Or.inr ⟨by omega, by omega, ?_⟩
      have : pst f = 5 := by rw [a]; rfl
      rw [this]; omega
    · refine Or.inr ⟨by omega, by omega, ?_⟩
      have : pst f = 1 := by rw [a]; rfl
      rw [this]; omega
theorem RI_p {p lm : Nat} {K K' : c_S} {R R' : r_S} (h : OF (pI p) (pA p) pi (pa p lm) K R K' R') (ri : RI K) : RI K' := RI_of h (fun f i hd z => by have := dy_200 hd; unfold pI at z; omega) ri
