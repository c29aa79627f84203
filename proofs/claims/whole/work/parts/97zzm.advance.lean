/-! Reading: the next word, whatever it is. -/
def sg_ (c : Int32) : Bool := decide (c = 123 ∨ c = 125 ∨ c = 59 ∨ c = 58 ∨ c = 46 ∨ c = 44 ∨ c = 62)
def k_t1 (K : c_S) : c_S := cs_I (cs_I K 1811 0 (c_I K 1807 0)) 1809 0 (-1)
def kt_sg (K : c_S) (c : Int32) (Q : c_S → Prop) : Prop := Q (cs_I (cs_I (cs_I K 1807 0 (c_I K 1807 0 + 1)) 1809 0 c) 1808 0 (if sg_ c = true then 4 else 1))
def kt_111 (L : c_L) (K : c_S) (c : Int32) (Q : c_S → Prop) : Prop := (c < 48 → kt_sg K c Q) ∧ (¬ c < 48 → ((57 : Int32) < c → kt_sg K c Q) ∧ (¬ (57 : Int32) < c → km_X9_scanNumber L K 0 Q))
/-- the class's dispatch, behind the blanks -/
def kt_tok (L : c_L) (K : c_S) (Q : c_S → Prop) : Prop := (c_I (k_t1 K) 1807 0 < c_I (k_t1 K) 1806 0 → vp_in (c_I (k_t1 K) 1807 0) 4000 ∧ ((c_A (k_t1 K) 1802 0 (c_I (k_t1 K) 1807 0).toNatClampNeg < 97 → kt_111 L (k_t1 K) (c_A (k_t1 K) 1802 0 (c_I (k_t1 K) 1807 0).toNatClampNeg) Q) ∧ (¬ c_A (k_t1 K) 1802 0 (c_I (k_t1 K) 1807 0).toNatClampNeg < 97 → ((122 : Int32) < c_A (k_t1 K) 1802 0 (c_I (k_t1 K) 1807 0).toNatClampNeg → kt_111 L (k_t1 K) (c_A (k_t1 K) 1802 0 (c_I (k_t1 K) 1807 0).toNatClampNeg) Q) ∧ (¬ (122 : Int32) < c_A (k_t1 K) 1802 0 (c_I (k_t1 K) 1807 0).toNatClampNeg → km_X9_scanName L (k_t1 K) 0 Q)))) ∧ (¬ c_I (k_t1 K) 1807 0 < c_I (k_t1 K) 1806 0 → Q (cs_I (k_t1 K) 1808 0 0))
/-- what the class notes of a name's number -/
def kx_c (o : Option Nat) : Int32 := match o with
  | none => -1
  | some i => nI i
/-- the words at hand, alike -/
def WRD (p : Nat) (K : c_S) (R : r_S) : Prop := ∃ n : Nat, 1 ≤ n ∧ n ≤ 12 ∧ p + n ≤ 4000 ∧ r_I R 2409 = nI p ∧ r_I R 2410 = nI n ∧ (∀ x : Nat, x < n → n_d (r_A R 2402 (p + x)) ≠ 0) ∧ c_J K 1810 0 = n_v (fun x => r_A R 2402 (p + x)) n
def TOKk (p : Nat) (K : c_S) (R : r_S) : Prop := (c_I K 1808 0 = 0 ∧ r_I R 2406 = 0) ∨ (c_I K 1808 0 = 1 ∧ r_I R 2406 = 5) ∨ (c_I K 1808 0 = 3 ∧ r_I R 2406 = 2 ∧ c_I K 1809 0 = r_I R 2408) ∨ (c_I K 1808 0 = 4 ∧ r_I R 2406 = 3 ∧ c_I K 1809 0 = r_I R 2408) ∨ (c_I K 1808 0 = 5 ∧ r_I R 2406 = 4 ∧ c_I K 1809 0 = r_I R 2408 ∧ WRD p K R ∧ ∃ i : Nat, i < 30 ∧ kx (c_J K 1810 0) 41 = some i ∧ c_I K 1809 0 = nI i) ∨ (c_I K 1808 0 = 2 ∧ r_I R 2406 = 1 ∧ WRD p K R ∧ c_I K 1809 0 = kx_c (kx (c_J K 1810 0) 41) ∧ ∀ i : Nat, kx (c_J K 1810 0) 41 = some i → 30 ≤ i)
def TOK (B : Nat) (K : c_S) (R : r_S) : Prop := ∃ a p : Nat, p ≤ a ∧ a ≤ B ∧ c_I K 1807 0 = nI a ∧ r_I R 2405 = nI a ∧ c_I K 1811 0 = nI p ∧ r_I R 2407 = nI p ∧ TOKk p K R
/-- nothing else changes -/
def TOKf (K K' : c_S) (R R' : r_S) : Prop := (∀ f i : Nat, f ∉ [1807, 1808, 1809, 1811] → c_I K' f i = c_I K f i) ∧ (∀ f i : Nat, f ≠ 1810 → c_J K' f i = c_J K f i) ∧ K'.2.2 = K.2.2 ∧ (∀ f : Nat, f ∉ [2405, 2406, 2407, 2408, 2409, 2410] → r_I R' f = r_I R f) ∧ R'.2 = R.2
theorem TOKf_z {K K' : c_S} {R R' : r_S} (h1 : ∀ f i : Nat, f ∉ [1807, 1808, 1809, 1811] → c_I K' f i = c_I K f i) (h2 : ∀ f i : Nat, f ≠ 1810 → c_J K' f i = c_J K f i) (h3 : K'.2.2 = K.2.2) (h4 : ∀ f : Nat, f ∉ [2405, 2406, 2407, 2408, 2409, 2410] → r_I R' f = r_I R f) (h5 : R'.2 = R.2) : TOKf K K' R R' := ⟨h1, h2, h3, h4, h5⟩
theorem cs_In {K : c_S} {f i f' i' : Nat} {v : Int32} (h : f' ≠ f) : c_I (cs_I K f i v) f' i' = c_I K f' i' := if_neg (fun z => h z.1)
theorem rs_In {R : r_S} {f f' : Nat} {v : Int32} (h : f' ≠ f) : r_I (rs_I R f v) f' = r_I R f' := if_neg h
/-- the reference's sign, or bad -/
theorem re_sg {R : r_S} {c : Int32} {Q : Option Value → r_S → Prop} (h : Q none (rs_I (rs_I (rs_I R 2406 (if sg_ c = true then 3 else 5)) 2408 c) 2405 (r_I R 2405 + 1))) : (c = (123 : Int32) → (rb_X12_next_356 R c Q)) ∧ (¬ c = (123 : Int32) → ((c = (125 : Int32) → (rb_X12_next_356 R c Q)) ∧ (¬ c = (125 : Int32) → ((c = (59 : Int32) → (rb_X12_next_356 R c Q)) ∧ (¬ c = (59 : Int32) → ((c = (58 : Int32) → (rb_X12_next_356 R c Q)) ∧ (¬ c = (58 : Int32) → ((c = (46 : Int32) → (rb_X12_next_356 R c Q)) ∧ (¬ c = (46 : Int32) → ((c = (44 : Int32) → (rb_X12_next_356 R c Q)) ∧ (¬ c = (44 : Int32) → ((¬ c = (62 : Int32) → (rb_X12_next_361 R c (0 : Int32) Q)) ∧ (c = (62 : Int32) → (rb_X12_next_356 R c Q)))))))))))))) := by
  have y : sg_ c = true → rb_X12_next_356 R c Q := fun e => by
    rw [if_pos e] at h
    exact bf_ (by decide) (fun S eS => by rw [eS]; exact h)
  have n : ¬ sg_ c = true → rb_X12_next_361 R c 0 Q := fun e => by
    rw [if_neg e] at h
    exact bt_ rfl (fun S eS => by rw [eS]; exact h)
  have d : ∀ z : c = 123 ∨ c = 125 ∨ c = 59 ∨ c = 58 ∨ c = 46 ∨ c = 44 ∨ c = 62, sg_ c = true := fun z => decide_eq_true z
  refine ⟨fun z => y (d (Or.inl z)), fun z1 => ⟨fun z => y (d (Or.inr (Or.inl z))), fun z2 => ⟨fun z => y (d (Or.inr (Or.inr (Or.inl z)))), fun z3 => ⟨fun z => y (d (Or.inr (Or.inr (Or.inr (Or.inl z))))), fun z4 => ⟨fun z => y (d (Or.inr (Or.inr (Or.inr (Or.inr (Or.inl z)))))), fun z5 => ⟨fun z => y (d (Or.inr (Or.inr (Or.inr (Or.inr (Or.inr (Or.inl z))))))), fun z6 => ⟨fun z7 => n (fun e => ?_), fun z => y (d (Or.inr (Or.inr (Or.inr (Or.inr (Or.inr (Or.inr z)))))))⟩⟩⟩⟩⟩⟩⟩
  have e := of_decide_eq_true e
  exact e.elim z1 (fun e => e.elim z2 (fun e => e.elim z3 (fun e => e.elim z4 (fun e => e.elim z5 (fun e => e.elim z6 z7)))))
