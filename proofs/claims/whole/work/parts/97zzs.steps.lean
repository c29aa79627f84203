/-! Reading: the small steps of both, side by side. hc tells what the class has still to do, hr what the reference has. -/
theorem h_and {P : Prop} {Y : (Option Value → q_S → Prop) → (String → q_S → Prop) → Prop} {WM : (Option Value → q_S → Prop) → (String → q_S → Prop) → Prop} (hc : ∀ (Q : Option Value → q_S → Prop) (E : String → q_S → Prop), (P ∧ Y Q E) → WM Q E) (p : P) : ∀ (Q : Option Value → q_S → Prop) (E : String → q_S → Prop), Y Q E → WM Q E := fun Q E h => hc Q E ⟨p, h⟩
theorem h_pos {c : Prop} {A B : (Option Value → q_S → Prop) → (String → q_S → Prop) → Prop} {WM : (Option Value → q_S → Prop) → (String → q_S → Prop) → Prop} (hc : ∀ (Q : Option Value → q_S → Prop) (E : String → q_S → Prop), ((c → A Q E) ∧ (¬ c → B Q E)) → WM Q E) (p : c) : ∀ (Q : Option Value → q_S → Prop) (E : String → q_S → Prop), A Q E → WM Q E := fun Q E h => hc Q E (bt_ p h)
theorem h_neg {c : Prop} {A B : (Option Value → q_S → Prop) → (String → q_S → Prop) → Prop} {WM : (Option Value → q_S → Prop) → (String → q_S → Prop) → Prop} (hc : ∀ (Q : Option Value → q_S → Prop) (E : String → q_S → Prop), ((c → A Q E) ∧ (¬ c → B Q E)) → WM Q E) (p : ¬ c) : ∀ (Q : Option Value → q_S → Prop) (E : String → q_S → Prop), B Q E → WM Q E := fun Q E h => hc Q E (bf_ p h)
theorem h_npos {c : Prop} {A B : (Option Value → q_S → Prop) → (String → q_S → Prop) → Prop} {WM : (Option Value → q_S → Prop) → (String → q_S → Prop) → Prop} (hc : ∀ (Q : Option Value → q_S → Prop) (E : String → q_S → Prop), ((¬ c → A Q E) ∧ (c → B Q E)) → WM Q E) (p : c) : ∀ (Q : Option Value → q_S → Prop) (E : String → q_S → Prop), B Q E → WM Q E := fun Q E h => hc Q E (nt_ p h)
theorem h_nneg {c : Prop} {A B : (Option Value → q_S → Prop) → (String → q_S → Prop) → Prop} {WM : (Option Value → q_S → Prop) → (String → q_S → Prop) → Prop} (hc : ∀ (Q : Option Value → q_S → Prop) (E : String → q_S → Prop), ((¬ c → A Q E) ∧ (c → B Q E)) → WM Q E) (p : ¬ c) : ∀ (Q : Option Value → q_S → Prop) (E : String → q_S → Prop), A Q E → WM Q E := fun Q E h => hc Q E (nf_ p h)
theorem h_ex {α : Type} {Y : α → (Option Value → q_S → Prop) → (String → q_S → Prop) → Prop} {WM : (Option Value → q_S → Prop) → (String → q_S → Prop) → Prop} (hc : ∀ (Q : Option Value → q_S → Prop) (E : String → q_S → Prop), (∃ a : α, Y a Q E) → WM Q E) (a : α) : ∀ (Q : Option Value → q_S → Prop) (E : String → q_S → Prop), Y a Q E → WM Q E := fun Q E h => hc Q E ⟨a, h⟩
theorem h_so {α : Type} {x : α} {Y : α → (Option Value → q_S → Prop) → (String → q_S → Prop) → Prop} {WM : (Option Value → q_S → Prop) → (String → q_S → Prop) → Prop} (hc : ∀ (Q : Option Value → q_S → Prop) (E : String → q_S → Prop), (∀ a : α, a = x → Y a Q E) → WM Q E) : ∀ (Q : Option Value → q_S → Prop) (E : String → q_S → Prop), Y x Q E → WM Q E := fun Q E h => hc Q E (fun a e => by rw [e]; exact h)
theorem g_and {P : Prop} {Y RM : (Option Value → r_S → Prop) → Prop} (hr : ∀ Q : Option Value → r_S → Prop, (P ∧ Y Q) → RM Q) (p : P) : ∀ Q : Option Value → r_S → Prop, Y Q → RM Q := fun Q h => hr Q ⟨p, h⟩
theorem g_pos {c : Prop} {A B RM : (Option Value → r_S → Prop) → Prop} (hr : ∀ Q : Option Value → r_S → Prop, ((c → A Q) ∧ (¬ c → B Q)) → RM Q) (p : c) : ∀ Q : Option Value → r_S → Prop, A Q → RM Q := fun Q h => hr Q (bt_ p h)
theorem g_neg {c : Prop} {A B RM : (Option Value → r_S → Prop) → Prop} (hr : ∀ Q : Option Value → r_S → Prop, ((c → A Q) ∧ (¬ c → B Q)) → RM Q) (p : ¬ c) : ∀ Q : Option Value → r_S → Prop, B Q → RM Q := fun Q h => hr Q (bf_ p h)
theorem g_npos {c : Prop} {A B RM : (Option Value → r_S → Prop) → Prop} (hr : ∀ Q : Option Value → r_S → Prop, ((¬ c → A Q) ∧ (c → B Q)) → RM Q) (p : c) : ∀ Q : Option Value → r_S → Prop, B Q → RM Q := fun Q h => hr Q (nt_ p h)
theorem g_nneg {c : Prop} {A B RM : (Option Value → r_S → Prop) → Prop} (hr : ∀ Q : Option Value → r_S → Prop, ((¬ c → A Q) ∧ (c → B Q)) → RM Q) (p : ¬ c) : ∀ Q : Option Value → r_S → Prop, A Q → RM Q := fun Q h => hr Q (nf_ p h)
theorem g_ex {α : Type} {Y : α → (Option Value → r_S → Prop) → Prop} {RM : (Option Value → r_S → Prop) → Prop} (hr : ∀ Q : Option Value → r_S → Prop, (∃ a : α, Y a Q) → RM Q) (a : α) : ∀ Q : Option Value → r_S → Prop, Y a Q → RM Q := fun Q h => hr Q ⟨a, h⟩
theorem g_so {α : Type} {x : α} {Y : α → (Option Value → r_S → Prop) → Prop} {RM : (Option Value → r_S → Prop) → Prop} (hr : ∀ Q : Option Value → r_S → Prop, (∀ a : α, a = x → Y a Q) → RM Q) : ∀ Q : Option Value → r_S → Prop, Y x Q → RM Q := fun Q h => hr Q (fun a e => by rw [e]; exact h)
/-- what reading leaves as it was, in the reference -/
def RZ (R0 R : r_S) : Prop := (∀ f : Nat, (f ≤ 2403 ∨ f = 2413 ∨ f = 2414 ∨ 2463 ≤ f) → r_I R f = r_I R0 f) ∧ ∀ f i : Nat, (f ≤ 2402 ∨ 2463 ≤ f) → r_A R f i = r_A R0 f i
theorem RZ_I {R0 R : r_S} {f : Nat} {v : Int32} (h : RZ R0 R) (hf : ¬ (f ≤ 2403 ∨ f = 2413 ∨ f = 2414 ∨ 2463 ≤ f)) : RZ R0 (rs_I R f v) := ⟨fun f' h' => (if_neg (fun z : f' = f => hf (z ▸ h'))).trans (h.1 f' h'), h.2⟩
theorem RZ_A {R0 R : r_S} {f i : Nat} {v : Int32} (h : RZ R0 R) (hf : ¬ (f ≤ 2402 ∨ 2463 ≤ f)) : RZ R0 (rs_A R f i v) := ⟨h.1, fun f' i' h' => (if_neg (fun z : f' = f ∧ i' = i => hf (z.1 ▸ h'))).trans (h.2 f' i' h')⟩
/-- the class has failed with w at q; the reference has noted it, or will -/
def FD (w q : Int32) (R0 R : r_S) : Prop := RZ R0 R ∧ ((0 < w.toInt ∧ r_I R 2411 = w ∧ r_I R 2412 = q) ∨ (r_I R 2411 = 0 ∧ r_I R 2406 = 5 ∧ r_I R 2407 = q ∧ w = 2))
theorem FD_A {w q : Int32} {R0 R : r_S} {f i : Nat} {v : Int32} (h : FD w q R0 R) (hf : ¬ (f ≤ 2402 ∨ 2463 ≤ f)) : FD w q R0 (rs_A R f i v) := ⟨RZ_A h.1 hf, h.2⟩
theorem FD_I {w q : Int32} {R0 R : r_S} {f : Nat} {v : Int32} (h : FD w q R0 R) (hf : ¬ (f ≤ 2403 ∨ f = 2413 ∨ f = 2414 ∨ 2463 ≤ f)) (h2 : f ∉ [2406, 2407, 2411, 2412]) : FD w q R0 (rs_I R f v) := by
  have e : ∀ f' : Nat, f' ∈ [2406, 2407, 2411, 2412] → r_I (rs_I R f v) f' = r_I R f' := fun f' m => if_neg (fun z : f' = f => h2 (z ▸ m))
  refine ⟨RZ_I h.1 hf, ?_⟩
  rw [e 2411 (by decide), e 2412 (by decide), e 2406 (by decide), e 2407 (by decide)]
  exact h.2
theorem FD_bad {w q : Int32} {R0 R : r_S} (h : FD w q R0 R) (p : r_PE R) : FD w q R0 (r_bad R) := by
  refine ⟨RZ_I (RZ_I h.1 (by decide)) (by decide), Or.inl ?_⟩
  rcases h.2 with h2 | h2
  · have := h2.1
    rw [← h2.2.1, p.1] at this
    exact absurd this (by decide)
  · obtain ⟨_, _, h3, rfl⟩ := h2
    exact ⟨by decide, rfl, h3⟩
theorem FD_c {w q : Int32} {R0 R : r_S} (h : FD w q R0 R) : r_DE R ∨ r_PE R := by
  rcases h.2 with h2 | h2
  · exact Or.inl (by unfold r_DE; rw [h2.2.1]; exact h2.1)
  · exact Or.inr ⟨h2.1, h2.2.1⟩
theorem FD_de {w q : Int32} {R0 R : r_S} (h : FD w q R0 R) (d : r_DE R) : 0 < w.toInt ∧ r_I R 2411 = w ∧ r_I R 2412 = q := by
  rcases h.2 with h2 | h2
  · exact h2
  · exact absurd h2.1 (de_n0 d)
theorem fs_sign {w q : Int32} {R0 R : r_S} {c : Int32} {Y : Int32 → r_S → (Option Value → r_S → Prop) → Prop} {RM : (Option Value → r_S → Prop) → Prop} (hf : FD w q R0 R) (hr : ∀ Q : Option Value → r_S → Prop, rm_X12_sign R c (fun r R' => ∃ x : Int32, r = some (.int x) ∧ Y x R' Q) → RM Q) : ∃ R' : r_S, FD w q R0 R' ∧ r_DE R' ∧ ∀ Q : Option Value → r_S → Prop, Y 0 R' Q → RM Q := by
  rcases FD_c hf with d | p
  · exact ⟨R, hf, d, fun Q h => hr Q (re_sign_d d ⟨_, rfl, h⟩)⟩
  · exact ⟨r_bad R, FD_bad hf p, bad_de, fun Q h => hr Q (re_sign_p p ⟨_, rfl, h⟩)⟩
theorem fs_key {w q : Int32} {R0 R : r_S} {c : Int32} {Y : Int32 → r_S → (Option Value → r_S → Prop) → Prop} {RM : (Option Value → r_S → Prop) → Prop} (hf : FD w q R0 R) (hr : ∀ Q : Option Value → r_S → Prop, rm_X12_key R c (fun r R' => ∃ x : Int32, r = some (.int x) ∧ Y x R' Q) → RM Q) : ∃ R' : r_S, FD w q R0 R' ∧ r_DE R' ∧ ∀ Q : Option Value → r_S → Prop, Y 0 R' Q → RM Q := by
  rcases FD_c hf with d | p
  · exact ⟨R, hf, d, fun Q h => hr Q (re_key_d d ⟨_, rfl, h⟩)⟩
  · exact ⟨r_bad R, FD_bad hf p, bad_de, fun Q h => hr Q (re_key_p p ⟨_, rfl, h⟩)⟩
theorem fs_number {w q : Int32} {R0 R : r_S} {c d e : Int32} {Y : Int32 → r_S → (Option Value → r_S → Prop) → Prop} {RM : (Option Value → r_S → Prop) → Prop} (hf : FD w q R0 R) (hr : ∀ Q : Option Value → r_S → Prop, rm_X12_number R c d e (fun r R' => ∃ x : Int32, r = some (.int x) ∧ Y x R' Q) → RM Q) : ∃ R' : r_S, FD w q R0 R' ∧ r_DE R' ∧ ∀ Q : Option Value → r_S → Prop, Y 0 R' Q → RM Q := by
  rcases FD_c hf with d | p
  · exact ⟨R, hf, d, fun Q h => hr Q (re_number_d d ⟨_, rfl, h⟩)⟩
  · exact ⟨r_bad R, FD_bad hf p, bad_de, fun Q h => hr Q (re_number_p p ⟨_, rfl, h⟩)⟩
theorem fs_failHere {w q : Int32} {R0 R : r_S} {c : Int32} {Y : Int32 → r_S → (Option Value → r_S → Prop) → Prop} {RM : (Option Value → r_S → Prop) → Prop} (hf : FD w q R0 R) (hr : ∀ Q : Option Value → r_S → Prop, rm_X12_failHere R c (fun r R' => ∃ x : Int32, r = some (.int x) ∧ Y x R' Q) → RM Q) : ∃ R' : r_S, FD w q R0 R' ∧ r_DE R' ∧ ∀ Q : Option Value → r_S → Prop, Y 0 R' Q → RM Q := by
  rcases FD_c hf with d | p
  · exact ⟨R, hf, d, fun Q h => hr Q (re_failHere_d d ⟨_, rfl, h⟩)⟩
  · exact ⟨r_bad R, FD_bad hf p, bad_de, fun Q h => hr Q (re_failHere_p p ⟨_, rfl, h⟩)⟩
theorem fs_isKey {w q : Int32} {R0 R : r_S} {c : Int32} {Y : Int32 → r_S → (Option Value → r_S → Prop) → Prop} {RM : (Option Value → r_S → Prop) → Prop} (hf : FD w q R0 R) (hr : ∀ Q : Option Value → r_S → Prop, rm_X12_isKey R c (fun r R' => ∃ x : Int32, r = some (.int x) ∧ Y x R' Q) → RM Q) : ∀ Q : Option Value → r_S → Prop, Y 0 R Q → RM Q := by
  rcases FD_c hf with d | p
  · exact fun Q h => hr Q (re_isKey_d d ⟨_, rfl, h⟩)
  · exact fun Q h => hr Q (re_isKey_p p ⟨_, rfl, h⟩)
theorem fs_isSign {w q : Int32} {R0 R : r_S} {c : Int32} {Y : Int32 → r_S → (Option Value → r_S → Prop) → Prop} {RM : (Option Value → r_S → Prop) → Prop} (hf : FD w q R0 R) (hr : ∀ Q : Option Value → r_S → Prop, rm_X12_isSign R c (fun r R' => ∃ x : Int32, r = some (.int x) ∧ Y x R' Q) → RM Q) : ∀ Q : Option Value → r_S → Prop, Y 0 R Q → RM Q := by
  rcases FD_c hf with d | p
  · exact fun Q h => hr Q (re_isSign_d d ⟨_, rfl, h⟩)
  · exact fun Q h => hr Q (re_isSign_p p ⟨_, rfl, h⟩)
theorem fs_perhaps {w q : Int32} {R0 R : r_S} {c : Int32} {Y : Int32 → r_S → (Option Value → r_S → Prop) → Prop} {RM : (Option Value → r_S → Prop) → Prop} (hf : FD w q R0 R) (hr : ∀ Q : Option Value → r_S → Prop, rm_X12_perhaps R c (fun r R' => ∃ x : Int32, r = some (.int x) ∧ Y x R' Q) → RM Q) : ∀ Q : Option Value → r_S → Prop, Y 0 R Q → RM Q := by
  rcases FD_c hf with d | p
  · exact fun Q h => hr Q (re_perhaps_d d ⟨_, rfl, h⟩)
  · exact fun Q h => hr Q (re_perhaps_p p ⟨_, rfl, h⟩)
theorem fs_isFifo {w q : Int32} {R0 R : r_S} {Y : Int32 → r_S → (Option Value → r_S → Prop) → Prop} {RM : (Option Value → r_S → Prop) → Prop} (hf : FD w q R0 R) (hr : ∀ Q : Option Value → r_S → Prop, rm_X12_isFifo R (fun r R' => ∃ x : Int32, r = some (.int x) ∧ Y x R' Q) → RM Q) : ∀ Q : Option Value → r_S → Prop, Y 0 R Q → RM Q := by
  rcases FD_c hf with d | p
  · exact fun Q h => hr Q (re_isKey_d d ⟨_, rfl, nt_ rfl ⟨_, rfl, h⟩⟩)
  · exact fun Q h => hr Q (re_isKey_p p ⟨_, rfl, nt_ rfl ⟨_, rfl, h⟩⟩)
theorem fs_either {w q : Int32} {R0 R : r_S} {c d : Int32} {Y : Int32 → r_S → (Option Value → r_S → Prop) → Prop} {RM : (Option Value → r_S → Prop) → Prop} (hf : FD w q R0 R) (hr : ∀ Q : Option Value → r_S → Prop, rm_X12_either R c d (fun r R' => ∃ x : Int32, r = some (.int x) ∧ Y x R' Q) → RM Q) : ∃ R' : r_S, FD w q R0 R' ∧ r_DE R' ∧ ∀ Q : Option Value → r_S → Prop, Y 0 R' Q → RM Q := by
  rcases FD_c hf with d | p
  · exact ⟨R, hf, d, fun Q h => hr Q (bf_ (de_nle d) ⟨_, rfl, h⟩)⟩
  · exact ⟨r_bad R, FD_bad hf p, bad_de, fun Q h => hr Q (bt_ (pe_le p) (re_isKey_p p ⟨_, rfl, nt_ rfl (re_isKey_p p ⟨_, rfl, nt_ rfl (re_failHere_p p ⟨_, rfl, nb_0, _, rfl, h⟩)⟩)⟩))⟩
theorem fs_fail {w q : Int32} {R0 R : r_S} {c d : Int32} {Y : Int32 → r_S → (Option Value → r_S → Prop) → Prop} {RM : (Option Value → r_S → Prop) → Prop} (de : r_DE R) (hr : ∀ Q : Option Value → r_S → Prop, rm_X12_fail R c d (fun r R' => ∃ x : Int32, r = some (.int x) ∧ Y x R' Q) → RM Q) : ∀ Q : Option Value → r_S → Prop, Y 0 R Q → RM Q := fun Q h => hr Q (re_fail_d de ⟨_, rfl, h⟩)
