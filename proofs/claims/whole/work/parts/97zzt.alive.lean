/-! Reading: the small steps while nothing is wrong. -/
/-- what reading leaves as it was, in the class -/
def CZ (K0 K : c_S) : Prop := (∀ f : Nat, f ∈ [1803, 402, 403, 1211, 1212, 1214] → c_I K f 0 = c_I K0 f 0) ∧ (∀ f i : Nat, f ∈ [1802, 2204, 400, 401] → c_A K f 0 i = c_A K0 f 0 i) ∧ ∀ i : Nat, fits .byte (.int (c_A K0 1802 0 i)) = true
theorem CZ_I {K0 K : c_S} {f i : Nat} {v : Int32} (h : CZ K0 K) (hf : f ∉ [1803, 402, 403, 1211, 1212, 1214]) : CZ K0 (cs_I K f i v) := ⟨fun f' h' => (if_neg (fun z : f' = f ∧ 0 = i => hf (z.1 ▸ h'))).trans (h.1 f' h'), h.2⟩
theorem CZ_J {K0 K : c_S} {f i : Nat} {v : Int64} (h : CZ K0 K) : CZ K0 (cs_J K f i v) := h
theorem CZ_P {K0 K : c_S} {f i : Nat} {v : Option Nat} (h : CZ K0 K) : CZ K0 (cs_P K f i v) := h
theorem CZ_G {K0 K : c_S} {f i : Nat} {v : Nat → Int32} (h : CZ K0 K) (hf : f ∉ [1802, 2204, 400, 401]) : CZ K0 (cs_G K f i v) := ⟨h.1, fun f' i' h' => by
  rw [c_AGr, if_neg (fun z : f' = f ∧ 0 = i => hf (z.1 ▸ h'))]
  exact h.2.1 f' i' h', h.2.2⟩
theorem CZ_A {K0 K : c_S} {f i j : Nat} {v : Int32} (h : CZ K0 K) (hf : f ∉ [1802, 2204, 400, 401]) : CZ K0 (cs_A K f i j v) := CZ_G h hf
theorem CZ_t {K0 K K' : c_S} {R R' : r_S} (h : CZ K0 K) (t : TOKf K K' R R') : CZ K0 K' := by
  refine ⟨fun f hf => (t.1 f 0 ?_).trans (h.1 f hf), fun f i hf => ?_, h.2.2⟩
  · intro z
    have : ∀ f ∈ [1803, 402, 403, 1211, 1212, 1214], f ∉ [1807, 1808, 1809, 1811] := by decide
    exact this f hf z
  · have e : c_A K' f 0 i = c_A K f 0 i := by
      show K'.2.2.1 f 0 i = K.2.2.1 f 0 i
      rw [t.2.2.1]
    rw [e]
    exact h.2.1 f i hf
theorem RZ_t {R0 : r_S} {K K' : c_S} {R R' : r_S} (h : RZ R0 R) (t : TOKf K K' R R') : RZ R0 R' := by
  refine ⟨fun f hf => (t.2.2.2.1 f ?_).trans (h.1 f hf), fun f i hf => ?_⟩
  · intro z
    have : ∀ f ∈ [2405, 2406, 2407, 2408, 2409, 2410], ¬ (f ≤ 2403 ∨ f = 2413 ∨ f = 2414 ∨ 2463 ≤ f) := by decide
    exact this f z hf
  · have e : r_A R' f i = r_A R f i := by
      show R'.2 f i = R.2 f i
      rw [t.2.2.2.2]
    rw [e]
    exact h.2 f i hf
/-- the class has failed -/
def k_fl (K : c_S) (w q : Int32) : c_S := cs_I (cs_I (cs_I (cs_I (cs_I (cs_I (cs_I (cs_I K 1804 0 w) 1805 0 q) 1201 0 0) 1203 0 0) 1205 0 0) 1206 0 0) 1209 0 0) 1213 0 0
theorem um_fail {L : c_L} {T : q_S} {K : c_S} {w q : Int32} {bc bs : Nat} {Q : Option Value → q_S → Prop} {E : String → q_S → Prop} (g : c_G L T) (hu : 1 ≤ bc) (hv : 6 ≤ bs) (hE : E "java/lang/IllegalArgumentException" (c_E L (k_fl K w q) T)) : wm_X9_fail bc bs (c_E L K T) (c_ob L 9 0) w q Q E := by
  have m9 : c_mk L 9 0 := g.2.2.2.2.2.2.2.2.2.2.1.2.1
  have m6 : c_mk L 6 0 := g.2.2.2.2.2.2.2.2.2.2.1.2.2.1
  have wf := c_gw g
  refine ⟨c_gk g m9 10 rfl, ?_⟩
  rw [c_eIs wf m9 rfl, c_eIs wf m9 rfl]
  refine ⟨_, c_gp g 1800 6 rfl rfl (by decide) m9, c_gk g m6 7 rfl, c_gk g m6 7 rfl, fun S2 e2 S3 e3 => ⟨rfl, ⟨by omega, by omega⟩, ?_⟩⟩
  subst e3
  subst e2
  rw [c_eIs wf m6 rfl, c_eIs wf m6 rfl, c_eIs wf m6 rfl, c_eIs wf m6 rfl, c_eIs wf m6 rfl, c_eIs wf m6 rfl]
  exact hE
/-- both at the same word -/
def AV (B : Nat) (K0 : c_S) (R0 : r_S) (K : c_S) (R : r_S) : Prop := TXr B K R ∧ TOK B K R ∧ ¬ c_I K 1808 0 = 1 ∧ r_I R 2411 = 0 ∧ RZ R0 R ∧ CZ K0 K
theorem AV_by {B : Nat} {K0 : c_S} {R0 : r_S} {K : c_S} {R : r_S} (h : CZ K0 K) (i : Nat) : fits .byte (.int (c_A K 1802 0 i)) = true := by
  rw [h.2.1 1802 i (by decide)]
  exact h.2.2 i
theorem TXr_t {B : Nat} {K K' : c_S} {R R' : r_S} (h : TXr B K R) (t : TOKf K K' R R') : TXr B K' R' := by
  obtain ⟨h1, h2, h3, h4⟩ := h
  refine ⟨h1, (t.1 1806 0 (by decide)).trans h2, (t.2.2.2.1 2404 (by decide)).trans h3, fun i => ?_⟩
  show K'.2.2.1 1802 0 i = R'.2 2402 i
  rw [t.2.2.1, t.2.2.2.2]
  exact h4 i
theorem f_adv0 {L : c_L} {T : q_S} {B a : Nat} {K0 K : c_S} {R0 R : r_S} (g : c_G L T) (h2 : ∃ z : Nat, q_K T z = 31 ∧ q_N T z = 2) (tx : TXr B K R) (ha : a ≤ B) (k7 : c_I K 1807 0 = nI a) (r5 : r_I R 2405 = nI a) (r11 : r_I R 2411 = 0) (rz : RZ R0 R) (cz : CZ K0 K) :
  (∃ (K' : c_S) (R' : r_S), AV B K0 R0 K' R' ∧ TOKf K K' R R' ∧ (∀ (bc bs : Nat) (Q : Option Value → q_S → Prop) (E : String → q_S → Prop), Q none (c_E L K' T) → wm_X9_advance bc bs (c_E L K T) (c_ob L 9 0) Q E) ∧ ∀ Q : Option Value → r_S → Prop, Q none R' → rm_X12_next R Q) ∨
  ∃ (K' : c_S) (R' : r_S) (w q : Int32), CZ K0 K' ∧ (FD w q R0 R' ∧ r_PE R') ∧ (∀ (bc bs : Nat) (Q : Option Value → q_S → Prop) (E : String → q_S → Prop), 1 ≤ bc → 6 ≤ bs → E "java/lang/IllegalArgumentException" (c_E L (k_fl K' w q) T) → wm_X9_advance bc bs (c_E L K T) (c_ob L 9 0) Q E) ∧ ∀ Q : Option Value → r_S → Prop, Q none R' → rm_X12_next R Q := by
  obtain ⟨K', R', f1, f2, tok, tf⟩ := P_adv (L := L) (B - a) a K R tx (by omega) k7 r5
  by_cases c : c_I K' 1808 0 = 1
  · right
    have k5 : r_I R' 2406 = 5 := by
      obtain ⟨_, _, _, _, _, _, _, _, tk⟩ := tok
      rcases tk with h | h | h | h | h | h
      · rw [c] at h; exact absurd h.1 (by decide)
      · exact h.2
      · rw [c] at h; exact absurd h.1 (by decide)
      · rw [c] at h; exact absurd h.1 (by decide)
      · rw [c] at h; exact absurd h.1 (by decide)
      · rw [c] at h; exact absurd h.1 (by decide)
    refine ⟨K', R', 2, c_I K' 1811 0, CZ_t cz tf, ⟨⟨RZ_t rz tf, Or.inr ⟨(tf.2.2.2.1 2411 (by decide)).trans r11, k5, ?_, rfl⟩⟩, (tf.2.2.2.1 2411 (by decide)).trans r11, k5⟩, fun bc bs Q E hu hv h => ⟨B - a + 1, ?_⟩, fun Q h => ⟨B - a + 1, f2 _ h⟩⟩
    · obtain ⟨_, _, _, _, _, _, e1, e2, _⟩ := tok
      rw [e1, e2]
    · exact um_adv (Q1 := fun K2 => K2 = K') g h2 (fun K2 e n => absurd (by rw [e]; exact c) n) (fun K2 e _ => ⟨1, 6, ⟨by omega, by omega⟩, um_fail g (by omega) (by omega) (by rw [e]; exact h)⟩) _ K (AV_by (B := B) (R0 := R0) (R := R) cz) (f1 _ rfl)
  · left
    refine ⟨K', R', ⟨TXr_t tx tf, tok, c, (tf.2.2.2.1 2411 (by decide)).trans r11, RZ_t rz tf, CZ_t cz tf⟩, tf, fun bc bs Q E h => ⟨B - a + 1, ?_⟩, fun Q h => ⟨B - a + 1, f2 _ h⟩⟩
    exact um_adv (Q1 := fun K2 => K2 = K') g h2 (fun K2 e _ => by rw [e]; exact h) (fun K2 e n => absurd (by rw [← e]; exact n) c) _ K (AV_by (B := B) (R0 := R0) (R := R) cz) (f1 _ rfl)
