/-! Reading: the small steps, the class's as the goal. -/
theorem TXr_c {B : Nat} {K K' : c_S} {R R' : r_S} (h : TXr B K R) (k6 : c_I K' 1806 0 = c_I K 1806 0) (a : ∀ i : Nat, c_A K' 1802 0 i = c_A K 1802 0 i) (r4 : r_I R' 2404 = r_I R 2404) (b : ∀ i : Nat, r_A R' 2402 i = r_A R 2402 i) : TXr B K' R' := ⟨h.1, k6.trans h.2.1, r4.trans h.2.2.1, fun i => by rw [a, b]; exact h.2.2.2 i⟩
theorem TOK_c {B : Nat} {K K' : c_S} {R R' : r_S} (h : TOK B K R) (k : ∀ f : Nat, f ∈ [1807, 1808, 1809, 1811] → c_I K' f 0 = c_I K f 0) (j : c_J K' 1810 0 = c_J K 1810 0) (r : ∀ f : Nat, f ∈ [2405, 2406, 2407, 2408, 2409, 2410] → r_I R' f = r_I R f) (b : ∀ i : Nat, r_A R' 2402 i = r_A R 2402 i) : TOK B K' R' := by
  unfold TOK TOKk WRD at h ⊢
  simp only [k 1807 (by decide), k 1808 (by decide), k 1809 (by decide), k 1811 (by decide), j, r 2405 (by decide), r 2406 (by decide), r 2407 (by decide), r 2408 (by decide), r 2409 (by decide), r 2410 (by decide), b]
  exact h
/-- nothing of the word at hand, or of what stays, changes -/
theorem AV_c {B : Nat} {K0 K K' : c_S} {R0 R R' : r_S} (h : AV B K0 R0 K R) (k : ∀ f : Nat, f ∈ [1806, 1807, 1808, 1809, 1811, 1803, 402, 403, 1211, 1212, 1214] → c_I K' f 0 = c_I K f 0) (j : c_J K' 1810 0 = c_J K 1810 0) (a : ∀ f i : Nat, f ∈ [1802, 2204, 400, 401] → c_A K' f 0 i = c_A K f 0 i) (r : ∀ f : Nat, f ∈ [2404, 2405, 2406, 2407, 2408, 2409, 2410, 2411] → r_I R' f = r_I R f) (rz : RZ R0 R') : AV B K0 R0 K' R' := by
  obtain ⟨h1, h2, h3, h4, h5, h6⟩ := h
  have b : ∀ i : Nat, r_A R' 2402 i = r_A R 2402 i := fun i => (rz.2 2402 i (by decide)).trans (h5.2 2402 i (by decide)).symm
  exact ⟨TXr_c h1 (k 1806 (by decide)) (fun i => a 1802 i (by decide)) (r 2404 (by decide)) b, TOK_c h2 (fun f hf => k f ((by decide : ∀ f ∈ [1807, 1808, 1809, 1811], f ∈ [1806, 1807, 1808, 1809, 1811, 1803, 402, 403, 1211, 1212, 1214]) f hf)) j (fun f hf => r f ((by decide : ∀ f ∈ [2405, 2406, 2407, 2408, 2409, 2410], f ∈ [2404, 2405, 2406, 2407, 2408, 2409, 2410, 2411]) f hf)) b, by rw [k 1808 (by decide)]; exact h3, (r 2411 (by decide)).trans h4, rz, ⟨fun f hf => (k f ((by decide : ∀ f ∈ [1803, 402, 403, 1211, 1212, 1214], f ∈ [1806, 1807, 1808, 1809, 1811, 1803, 402, 403, 1211, 1212, 1214]) f hf)).trans (h6.1 f hf), fun f i hf => (a f i hf).trans (h6.2.1 f i hf), h6.2.2⟩⟩
theorem AV_I {B : Nat} {K0 K : c_S} {R0 R : r_S} {f i : Nat} {v : Int32} (h : AV B K0 R0 K R) (hf : f ∉ [1806, 1807, 1808, 1809, 1811, 1803, 402, 403, 1211, 1212, 1214]) : AV B K0 R0 (cs_I K f i v) R := AV_c h (fun f' m => if_neg (fun z : f' = f ∧ 0 = i => hf (z.1 ▸ m))) rfl (fun _ _ _ => rfl) (fun _ _ => rfl) h.2.2.2.2.1
theorem AV_A {B : Nat} {K0 K : c_S} {R0 R : r_S} {f i j : Nat} {v : Int32} (h : AV B K0 R0 K R) (hf : f ∉ [1802, 2204, 400, 401]) : AV B K0 R0 (cs_A K f i j v) R := AV_c h (fun _ _ => rfl) rfl (fun f' i' m => by
  rw [c_AA, if_neg (fun z : f' = f ∧ 0 = i ∧ i' = j => hf (z.1 ▸ m))]) (fun _ _ => rfl) h.2.2.2.2.1
theorem AV_P {B : Nat} {K0 K : c_S} {R0 R : r_S} {f i : Nat} {v : Option Nat} (h : AV B K0 R0 K R) : AV B K0 R0 (cs_P K f i v) R := AV_c h (fun _ _ => rfl) rfl (fun _ _ _ => rfl) (fun _ _ => rfl) h.2.2.2.2.1
theorem AV_a {B : Nat} {K0 K : c_S} {R0 R : r_S} {f i : Nat} {v : Int32} (h : AV B K0 R0 K R) (hf : ¬ (f ≤ 2402 ∨ 2463 ≤ f)) : AV B K0 R0 K (rs_A R f i v) := AV_c h (fun _ _ => rfl) rfl (fun _ _ _ => rfl) (fun _ _ => rfl) (RZ_A h.2.2.2.2.1 hf)
theorem AV_i {B : Nat} {K0 K : c_S} {R0 R : r_S} {f : Nat} {v : Int32} (h : AV B K0 R0 K R) (hf : ¬ (f ≤ 2403 ∨ f = 2413 ∨ f = 2414 ∨ 2463 ≤ f)) (h2 : f ∉ [2404, 2405, 2406, 2407, 2408, 2409, 2410, 2411]) : AV B K0 R0 K (rs_I R f v) := AV_c h (fun _ _ => rfl) rfl (fun _ _ _ => rfl) (fun f' m => if_neg (fun z : f' = f => h2 (z ▸ m))) (RZ_I h.2.2.2.2.1 hf)
theorem TOKf_0 {K : c_S} {R : r_S} : TOKf K K R R := ⟨fun _ _ _ => rfl, fun _ _ _ => rfl, rfl, fun _ _ => rfl, rfl⟩
theorem TOKf_t {K K1 K2 : c_S} {R R1 R2 : r_S} (h : TOKf K K1 R R1) (h2 : TOKf K1 K2 R1 R2) : TOKf K K2 R R2 := ⟨fun f i z => (h2.1 f i z).trans (h.1 f i z), fun f i z => (h2.2.1 f i z).trans (h.2.1 f i z), h2.2.2.1.trans h.2.2.1, fun f z => (h2.2.2.2.1 f z).trans (h.2.2.2.1 f z), h2.2.2.2.2.trans h.2.2.2.2⟩
theorem TOKf_A {K K' : c_S} {R R' : r_S} (t : TOKf K K' R R') (f i : Nat) : c_A K' f i = c_A K f i := by
  show K'.2.2.1 f i = K.2.2.1 f i
  rw [t.2.2.1]
theorem TOKf_P {K K' : c_S} {R R' : r_S} (t : TOKf K K' R R') (f i : Nat) : c_P K' f i = c_P K f i := by
  show K'.2.2.2 f i = K.2.2.2 f i
  rw [t.2.2.1]
theorem TOKf_a {K K' : c_S} {R R' : r_S} (t : TOKf K K' R R') (f i : Nat) : r_A R' f i = r_A R f i := by
  show R'.2 f i = R.2 f i
  rw [t.2.2.2.2]
theorem c_adv {e : EV} {L : c_L} {T : q_S} {B bc bs u v : Nat} {K0 K : c_S} {R0 R : r_S}  {X : Nat → Nat → q_S → Prop} {E : String → q_S → Prop} {Y : r_S → (Option Value → r_S → Prop) → Prop} {RM : (Option Value → r_S → Prop) → Prop} (wd : WD e L T) (av : AV B K0 R0 K R) (hu : u + 1 ≤ bc) (hv : v + 6 ≤ bs)  (hr : ∀ Q : Option Value → r_S → Prop, rm_X12_next R (fun r R' => r = none ∧ Y R' Q) → RM Q)
  (hX : ∀ (K' : c_S) (R' : r_S) (w q : Int32), CZ K0 K' → FD w q R0 R' → r_PE R' → (∀ Q : Option Value → r_S → Prop, Y R' Q → RM Q) → E "java/lang/IllegalArgumentException" (c_E L (k_fl K' w q) T))
  (hN : ∀ (K' : c_S) (R' : r_S), AV B K0 R0 K' R' → TOKf K K' R R' → (∀ Q : Option Value → r_S → Prop, Y R' Q → RM Q) → X 0 0 (c_E L K' T)) :
  ∃ m m' : Nat, (u + m ≤ bc ∧ v + m' ≤ bs) ∧ wm_X9_advance m m' (c_E L K T) (c_ob L 9 0) (fun r S' => r = none ∧ X m m' S') E := by
  rcases f_adv (WD_g wd) (WD_2 wd) av with ⟨K', R', a1, a2, a3, a4⟩ | ⟨K', R', w, q, a1, ⟨a2, a6⟩, a3, a4⟩
  · exact ⟨0, 0, ⟨by omega, by omega⟩, a3 _ _ _ _ ⟨rfl, hN K' R' a1 a2 (fun Q h => hr Q (a4 _ ⟨rfl, h⟩))⟩⟩
  · exact ⟨1, 6, ⟨hu, hv⟩, a3 _ _ _ _ (by omega) (by omega) (hX K' R' w q a1 a2 a6 (fun Q h => hr Q (a4 _ ⟨rfl, h⟩)))⟩
theorem c_key {e : EV} {L : c_L} {T : q_S} {B bc bs u v : Nat} {K0 K : c_S} {R0 R : r_S} {k : Int32} {X : Nat → Nat → q_S → Prop} {E : String → q_S → Prop} {Y : Int32 → r_S → (Option Value → r_S → Prop) → Prop} {RM : (Option Value → r_S → Prop) → Prop} (wd : WD e L T) (av : AV B K0 R0 K R) (hu : u + 1 ≤ bc) (hv : v + 6 ≤ bs)  (hr : ∀ Q : Option Value → r_S → Prop, rm_X12_key R k (fun r R' => ∃ x : Int32, r = some (.int x) ∧ Y x R' Q) → RM Q)
  (hX : ∀ (K' : c_S) (R' : r_S) (w q x : Int32), CZ K0 K' → FD w q R0 R' → (∀ Q : Option Value → r_S → Prop, Y x R' Q → RM Q) → E "java/lang/IllegalArgumentException" (c_E L (k_fl K' w q) T))
  (hN : ∀ (K' : c_S) (R' : r_S), AV B K0 R0 K' R' → TOKf K K' R R' → (∀ Q : Option Value → r_S → Prop, Y 1 R' Q → RM Q) → X 0 0 (c_E L K' T)) :
  ∃ m m' : Nat, (u + m ≤ bc ∧ v + m' ≤ bs) ∧ wm_X9_expect m m' (c_E L K T) (c_ob L 9 0) k (fun r S' => r = none ∧ X m m' S') E := by
  rcases f_key (WD_g wd) (WD_2 wd) av with ⟨K', R', a1, a2, a3, a4⟩ | ⟨K', R', w, q, x, a1, a2, a3, a4⟩
  · exact ⟨0, 0, ⟨by omega, by omega⟩, a3 _ _ _ _ ⟨rfl, hN K' R' a1 a2 (fun Q h => hr Q (a4 _ ⟨_, rfl, h⟩))⟩⟩
  · exact ⟨1, 6, ⟨hu, hv⟩, a3 _ _ _ _ (by omega) (by omega) (hX K' R' w q x a1 a2 (fun Q h => hr Q (a4 _ ⟨_, rfl, h⟩)))⟩
theorem c_sign {e : EV} {L : c_L} {T : q_S} {B bc bs u v : Nat} {K0 K : c_S} {R0 R : r_S} {k : Int32} {X : Nat → Nat → q_S → Prop} {E : String → q_S → Prop} {Y : Int32 → r_S → (Option Value → r_S → Prop) → Prop} {RM : (Option Value → r_S → Prop) → Prop} (wd : WD e L T) (av : AV B K0 R0 K R) (hu : u + 1 ≤ bc) (hv : v + 6 ≤ bs)  (hr : ∀ Q : Option Value → r_S → Prop, rm_X12_sign R k (fun r R' => ∃ x : Int32, r = some (.int x) ∧ Y x R' Q) → RM Q)
  (hX : ∀ (K' : c_S) (R' : r_S) (w q x : Int32), CZ K0 K' → FD w q R0 R' → (∀ Q : Option Value → r_S → Prop, Y x R' Q → RM Q) → E "java/lang/IllegalArgumentException" (c_E L (k_fl K' w q) T))
  (hN : ∀ (K' : c_S) (R' : r_S), AV B K0 R0 K' R' → TOKf K K' R R' → (∀ Q : Option Value → r_S → Prop, Y 1 R' Q → RM Q) → X 0 0 (c_E L K' T)) :
  ∃ m m' : Nat, (u + m ≤ bc ∧ v + m' ≤ bs) ∧ wm_X9_expectSign m m' (c_E L K T) (c_ob L 9 0) k (fun r S' => r = none ∧ X m m' S') E := by
  rcases f_sign (WD_g wd) (WD_2 wd) av with ⟨K', R', a1, a2, a3, a4⟩ | ⟨K', R', w, q, x, a1, a2, a3, a4⟩
  · exact ⟨0, 0, ⟨by omega, by omega⟩, a3 _ _ _ _ ⟨rfl, hN K' R' a1 a2 (fun Q h => hr Q (a4 _ ⟨_, rfl, h⟩))⟩⟩
  · exact ⟨1, 6, ⟨hu, hv⟩, a3 _ _ _ _ (by omega) (by omega) (hX K' R' w q x a1 a2 (fun Q h => hr Q (a4 _ ⟨_, rfl, h⟩)))⟩
theorem c_num {e : EV} {L : c_L} {T : q_S} {B bc bs u v : Nat} {K0 K : c_S} {R0 R : r_S} {c1 c2 c3 d1 d2 : Int32} {X : Nat → Nat → Int32 → q_S → Prop} {E : String → q_S → Prop} {Y : Int32 → r_S → (Option Value → r_S → Prop) → Prop} {RM : (Option Value → r_S → Prop) → Prop} (wd : WD e L T) (av : AV B K0 R0 K R) (hu : u + 1 ≤ bc) (hv : v + 6 ≤ bs) (h3 : ¬ c3 ≤ 0) (hq : ∀ v : Int32, v - v / c3 * c3 = 0 → ((¬ v < c1 ∧ ¬ c2 < v) ↔ (¬ v < d1 ∧ ¬ d2 < v))) (hr : ∀ Q : Option Value → r_S → Prop, rm_X12_number R d1 d2 c3 (fun r R' => ∃ x : Int32, r = some (.int x) ∧ Y x R' Q) → RM Q)
  (hX : ∀ (K' : c_S) (R' : r_S) (w q x : Int32), CZ K0 K' → FD w q R0 R' → (∀ Q : Option Value → r_S → Prop, Y x R' Q → RM Q) → E "java/lang/IllegalArgumentException" (c_E L (k_fl K' w q) T))
  (hN : ∀ (K' : c_S) (R' : r_S) (n : Int32), AV B K0 R0 K' R' → TOKf K K' R R' → ((¬ n < d1 ∧ ¬ d2 < n) ∧ n - n / c3 * c3 = 0) → (∀ Q : Option Value → r_S → Prop, Y n R' Q → RM Q) → X 0 0 n (c_E L K' T)) :
  ∃ m m' : Nat, (u + m ≤ bc ∧ v + m' ≤ bs) ∧ wm_X9_number m m' (c_E L K T) (c_ob L 9 0) c1 c2 c3 (fun r S' => ∃ x : Int32, r = some (.int x) ∧ X m m' x S') E := by
  rcases f_num (WD_g wd) (WD_2 wd) av h3 hq with ⟨K', R', n, a1, a2, a5, a3, a4⟩ | ⟨K', R', w, q, x, a1, a2, a3, a4⟩
  · exact ⟨0, 0, ⟨by omega, by omega⟩, a3 _ _ _ _ ⟨_, rfl, hN K' R' n a1 a2 a5 (fun Q h => hr Q (a4 _ ⟨_, rfl, h⟩))⟩⟩
  · exact ⟨1, 6, ⟨hu, hv⟩, a3 _ _ _ _ (by omega) (by omega) (hX K' R' w q x a1 a2 (fun Q h => hr Q (a4 _ ⟨_, rfl, h⟩)))⟩
/-- both fail with w at the place of the word at hand -/
theorem c_flH {e : EV} {L : c_L} {T : q_S} {B bc bs u v : Nat} {K0 K : c_S} {R0 R : r_S} {w : Int32} {X : Nat → Nat → q_S → Prop} {E : String → q_S → Prop} {Y : Int32 → r_S → (Option Value → r_S → Prop) → Prop} {RM : (Option Value → r_S → Prop) → Prop} (wd : WD e L T) (av : AV B K0 R0 K R) (hu : u + 1 ≤ bc) (hv : v + 6 ≤ bs) (hw : 0 < w.toInt) (hr : ∀ Q : Option Value → r_S → Prop, rm_X12_failHere R w (fun r R' => ∃ x : Int32, r = some (.int x) ∧ Y x R' Q) → RM Q)
  (hX : ∀ (R' : r_S), CZ K0 K → FD w (c_I K 1811 0) R0 R' → (∀ Q : Option Value → r_S → Prop, Y 0 R' Q → RM Q) → E "java/lang/IllegalArgumentException" (c_E L (k_fl K w (c_I K 1811 0)) T)) :
  ∃ m m' : Nat, (u + m ≤ bc ∧ v + m' ≤ bs) ∧ wm_X9_fail m m' (c_E L K T) (c_ob L 9 0) w (q_I (c_E L K T) 1811 (c_ob L 9 0)) (fun r S' => r = none ∧ X m m' S') E := by
  obtain ⟨R', a1, a2, a3, a4, a5⟩ := f_fl (w := w) (z := c_I K 1811 0) (WD_g wd) av hw
  refine ⟨1, 6, ⟨hu, hv⟩, ?_⟩
  rw [I9 (WD_g wd) 1811 rfl]
  exact a3 _ _ _ _ (by omega) (by omega) (hX R' a1 a2 (fun Q h => hr Q (a5 (AV_pl av) _ ⟨_, rfl, h⟩)))
theorem c_flP {e : EV} {L : c_L} {T : q_S} {B bc bs u v : Nat} {K0 K : c_S} {R0 R : r_S} {w z z' : Int32} {X : Nat → Nat → q_S → Prop} {E : String → q_S → Prop} {Y : Int32 → r_S → (Option Value → r_S → Prop) → Prop} {RM : (Option Value → r_S → Prop) → Prop} (wd : WD e L T) (av : AV B K0 R0 K R) (hu : u + 1 ≤ bc) (hv : v + 6 ≤ bs) (hw : 0 < w.toInt) (hz : z = z') (hr : ∀ Q : Option Value → r_S → Prop, rm_X12_fail R w z' (fun r R' => ∃ x : Int32, r = some (.int x) ∧ Y x R' Q) → RM Q)
  (hX : ∀ (R' : r_S), CZ K0 K → FD w z R0 R' → (∀ Q : Option Value → r_S → Prop, Y 0 R' Q → RM Q) → E "java/lang/IllegalArgumentException" (c_E L (k_fl K w z) T)) :
  ∃ m m' : Nat, (u + m ≤ bc ∧ v + m' ≤ bs) ∧ wm_X9_fail m m' (c_E L K T) (c_ob L 9 0) w z (fun r S' => r = none ∧ X m m' S') E := by
  obtain ⟨R', a1, a2, a3, a4, a5⟩ := f_fl (w := w) (z := z) (WD_g wd) av hw
  subst hz
  exact ⟨1, 6, ⟨hu, hv⟩, a3 _ _ _ _ (by omega) (by omega) (hX R' a1 a2 (fun Q h => hr Q (a4 _ ⟨_, rfl, h⟩)))⟩
/-- takes(k) of the class; the reference asks isKey(k) and goes to the next word -/
theorem c_takes {e : EV} {L : c_L} {T : q_S} {B bc bs u v : Nat} {K0 K : c_S} {R0 R : r_S} {k : Int32} {X : Nat → Nat → Int32 → q_S → Prop} {E : String → q_S → Prop} {Y0 Y1 : r_S → (Option Value → r_S → Prop) → Prop} {RM : (Option Value → r_S → Prop) → Prop} (wd : WD e L T) (av : AV B K0 R0 K R) (hu : u + 1 ≤ bc) (hv : v + 6 ≤ bs) (hr : ∀ Q : Option Value → r_S → Prop, rm_X12_isKey R k (fun r R' => ∃ x : Int32, r = some (.int x) ∧ ((¬ x = 0 → rm_X12_next R' (fun r R' => r = none ∧ Y1 R' Q)) ∧ (x = 0 → Y0 R' Q))) → RM Q)
  (hX : ∀ (K' : c_S) (R' : r_S) (w q : Int32), CZ K0 K' → FD w q R0 R' → (∀ Q : Option Value → r_S → Prop, Y1 R' Q → RM Q) → E "java/lang/IllegalArgumentException" (c_E L (k_fl K' w q) T))
  (h0 : (∀ Q : Option Value → r_S → Prop, Y0 R Q → RM Q) → X 0 0 0 (c_E L K T))
  (h1 : ∀ (K' : c_S) (R' : r_S), AV B K0 R0 K' R' → TOKf K K' R R' → (∀ Q : Option Value → r_S → Prop, Y1 R' Q → RM Q) → X 0 0 1 (c_E L K' T)) :
  ∃ m m' : Nat, (u + m ≤ bc ∧ v + m' ≤ bs) ∧ wm_X9_takes m m' (c_E L K T) (c_ob L 9 0) k (fun r S' => ∃ x : Int32, r = some (.int x) ∧ X m m' x S') E := by
  have g := WD_g wd
  have r0 := av.2.2.2.1
  by_cases c : c_I K 1808 0 = 5 ∧ c_I K 1809 0 = k
  · have c' := (AV_K av).mp c
    have rl : ∀ Q : Option Value → r_S → Prop, rm_X12_next R (fun r R' => r = none ∧ Y1 R' Q) → RM Q := fun Q h => hr Q (v_key1 r0 c' _ ⟨_, rfl, nf_ (by decide) h⟩)
    rcases f_adv g (WD_2 wd) av with ⟨K', R', a1, a2, a3, a4⟩ | ⟨K', R', w, q, a1, ⟨a2, _⟩, a3, a4⟩
    · exact ⟨0, 0, ⟨by omega, by omega⟩, K10 g, u_sees1 g c _ ⟨_, rfl, nf_ (by decide) ⟨K10 g, 0, 0, ⟨by omega, by omega⟩, a3 _ _ _ _ ⟨rfl, _, rfl, h1 K' R' a1 a2 (fun Q h => rl Q (a4 _ ⟨rfl, h⟩))⟩⟩⟩⟩
    · exact ⟨1, 6, ⟨hu, hv⟩, K10 g, u_sees1 g c _ ⟨_, rfl, nf_ (by decide) ⟨K10 g, 1, 6, ⟨by omega, by omega⟩, a3 _ _ _ _ (by omega) (by omega) (hX K' R' w q a1 a2 (fun Q h => rl Q (a4 _ ⟨rfl, h⟩)))⟩⟩⟩
  · have c' := fun z => c ((AV_K (k := k) av).mpr z)
    exact ⟨0, 0, ⟨by omega, by omega⟩, K10 g, u_sees0 g c _ ⟨_, rfl, nt_ rfl ⟨_, rfl, h0 (fun Q h => hr Q (v_key0 r0 c' _ ⟨_, rfl, nt_ rfl h⟩))⟩⟩⟩
