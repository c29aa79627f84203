/-! A process on both sides: its fields, its registers. -/
def p_k (K : c_S) (q n : Nat) : Int32 := if n < 20 then c_I K (1400 + n) q else 0
def p_x (K : c_S) (q i : Nat) : Int32 := c_A K 1411 q i
def p_r (R : r_S) (q n : Nat) : Int32 := if n < 16 ∧ n ≠ 10 then r_A R (2467 + n) q else 0
def p_y (R : r_S) (q i : Nat) : Int32 := if i < 32 then r_A R 2477 (32 * q + i) else 0
theorem pk_v {K : c_S} {q n : Nat} (h : n < 20) : c_I K (1400 + n) q = p_k K q n := (if_pos h).symm
theorem pk_n {K : c_S} {f i q : Nat} {v : Int32} (h : i ≠ q) : p_k (cs_I K f i v) q = p_k K q := by
  refine funext fun n => ?_
  show (if n < 20 then (if 1400 + n = f ∧ q = i then v else c_I K (1400 + n) q) else 0) = _
  rw [if_neg (fun z : 1400 + n = f ∧ q = i => h z.2.symm)]
  rfl
theorem pk_f {K : c_S} {f i q : Nat} {v : Int32} (h : f < 1400 ∨ 1420 ≤ f) : p_k (cs_I K f i v) q = p_k K q := by
  refine funext fun n => ?_
  show (if n < 20 then (if 1400 + n = f ∧ q = i then v else c_I K (1400 + n) q) else 0) = (if n < 20 then c_I K (1400 + n) q else 0)
  by_cases hn : n < 20
  · rw [if_pos hn, if_pos hn, if_neg (fun z => by omega)]
  · rw [if_neg hn, if_neg hn]
theorem pk_w {K : c_S} {m q : Nat} {v : Int32} (h : m < 20) : p_k (cs_I K (1400 + m) q v) q = qs_1 (p_k K q) m v := by
  refine funext fun n => ?_
  show (if n < 20 then (if 1400 + n = 1400 + m ∧ q = q then v else c_I K (1400 + n) q) else 0) = (if n = m then v else if n < 20 then c_I K (1400 + n) q else 0)
  by_cases e : n = m
  · rw [if_pos (by omega), if_pos ⟨by omega, rfl⟩, if_pos e]
  · rw [if_neg e]
    by_cases hn : n < 20
    · rw [if_pos hn, if_pos hn, if_neg (fun z => e (by omega))]
    · rw [if_neg hn, if_neg hn]
theorem pk_J {K : c_S} {f i q : Nat} {v : Int64} : p_k (cs_J K f i v) q = p_k K q := rfl
theorem pk_A {K : c_S} {f i j q : Nat} {v : Int32} : p_k (cs_A K f i j v) q = p_k K q := rfl
theorem pk_G {K : c_S} {f i q : Nat} {g : Nat → Int32} : p_k (cs_G K f i g) q = p_k K q := rfl
theorem pk_P {K : c_S} {f i q : Nat} {v : Option Nat} : p_k (cs_P K f i v) q = p_k K q := rfl
theorem px_I {K : c_S} {f i q : Nat} {v : Int32} : p_x (cs_I K f i v) q = p_x K q := rfl
theorem px_J {K : c_S} {f i q : Nat} {v : Int64} : p_x (cs_J K f i v) q = p_x K q := rfl
theorem px_P {K : c_S} {f i q : Nat} {v : Option Nat} : p_x (cs_P K f i v) q = p_x K q := rfl
theorem px_n {K : c_S} {f i q : Nat} {g : Nat → Int32} (h : f ≠ 1411 ∨ i ≠ q) : p_x (cs_G K f i g) q = p_x K q := by
  refine funext fun j => ?_
  show c_A (cs_G K f i g) 1411 q j = _
  rw [c_AGr, if_neg]
  · rfl
  · intro z; rcases h with h | h
    · exact h z.1.symm
    · exact h z.2.symm
theorem px_w {K : c_S} {q : Nat} {g : Nat → Int32} : p_x (cs_G K 1411 q g) q = g := by
  refine funext fun j => ?_
  show c_A (cs_G K 1411 q g) 1411 q j = _
  rw [c_AGr, if_pos ⟨rfl, rfl⟩]
theorem px_An {K : c_S} {f i j q : Nat} {v : Int32} (h : f ≠ 1411 ∨ i ≠ q) : p_x (cs_A K f i j v) q = p_x K q := px_n h
theorem px_Aw {K : c_S} {j q : Nat} {v : Int32} : p_x (cs_A K 1411 q j v) q = qs_1 (p_x K q) j v := px_w
theorem pr_v {R : r_S} {q n : Nat} (h : n < 16 ∧ n ≠ 10) : r_A R (2467 + n) q = p_r R q n := (if_pos h).symm
theorem pr_n {R : r_S} {f i q : Nat} {v : Int32} (h : i ≠ q) : p_r (rs_A R f i v) q = p_r R q := by
  refine funext fun n => ?_
  show (if n < 16 ∧ n ≠ 10 then (if 2467 + n = f ∧ q = i then v else r_A R (2467 + n) q) else 0) = _
  rw [if_neg (fun z : 2467 + n = f ∧ q = i => h z.2.symm)]
  rfl
theorem pr_f {R : r_S} {f i q : Nat} {v : Int32} (h : f < 2467 ∨ 2483 ≤ f ∨ f = 2477) : p_r (rs_A R f i v) q = p_r R q := by
  refine funext fun n => ?_
  show (if n < 16 ∧ n ≠ 10 then (if 2467 + n = f ∧ q = i then v else r_A R (2467 + n) q) else 0) = (if n < 16 ∧ n ≠ 10 then r_A R (2467 + n) q else 0)
  by_cases hn : n < 16 ∧ n ≠ 10
  · rw [if_pos hn, if_pos hn, if_neg (fun z => by omega)]
  · rw [if_neg hn, if_neg hn]
theorem pr_w {R : r_S} {m q : Nat} {v : Int32} (h : m < 16 ∧ m ≠ 10) : p_r (rs_A R (2467 + m) q v) q = qs_1 (p_r R q) m v := by
  refine funext fun n => ?_
  show (if n < 16 ∧ n ≠ 10 then (if 2467 + n = 2467 + m ∧ q = q then v else r_A R (2467 + n) q) else 0) = (if n = m then v else if n < 16 ∧ n ≠ 10 then r_A R (2467 + n) q else 0)
  by_cases e : n = m
  · rw [if_pos (by omega), if_pos ⟨by omega, rfl⟩, if_pos e]
  · rw [if_neg e]
    by_cases hn : n < 16 ∧ n ≠ 10
    · rw [if_pos hn, if_pos hn, if_neg (fun z => e (by omega))]
    · rw [if_neg hn, if_neg hn]
theorem pr_I {R : r_S} {f q : Nat} {v : Int32} : p_r (rs_I R f v) q = p_r R q := rfl
theorem py_I {R : r_S} {f q : Nat} {v : Int32} : p_y (rs_I R f v) q = p_y R q := rfl
theorem py_f {R : r_S} {f i q : Nat} {v : Int32} (h : f ≠ 2477) : p_y (rs_A R f i v) q = p_y R q := by
  refine funext fun n => ?_
  show (if n < 32 then (if 2477 = f ∧ 32 * q + n = i then v else r_A R 2477 (32 * q + n)) else 0) = _
  rw [if_neg (fun z : 2477 = f ∧ 32 * q + n = i => h z.1.symm)]
  rfl
theorem py_n {R : r_S} {f i q : Nat} {v : Int32} (h : i / 32 ≠ q) : p_y (rs_A R f i v) q = p_y R q := by
  refine funext fun n => ?_
  show (if n < 32 then (if 2477 = f ∧ 32 * q + n = i then v else r_A R 2477 (32 * q + n)) else 0) = (if n < 32 then r_A R 2477 (32 * q + n) else 0)
  by_cases hn : n < 32
  · rw [if_pos hn, if_pos hn, if_neg (fun z => by omega)]
  · rw [if_neg hn, if_neg hn]
theorem py_w {R : r_S} {i q : Nat} {v : Int32} (h : i < 32) : p_y (rs_A R 2477 (32 * q + i) v) q = qs_1 (p_y R q) i v := by
  refine funext fun n => ?_
  show (if n < 32 then (if 2477 = 2477 ∧ 32 * q + n = 32 * q + i then v else r_A R 2477 (32 * q + n)) else 0) = (if n = i then v else if n < 32 then r_A R 2477 (32 * q + n) else 0)
  by_cases e : n = i
  · rw [if_pos (by omega), if_pos ⟨rfl, by omega⟩, if_pos e]
  · rw [if_neg e]
    by_cases hn : n < 32
    · rw [if_pos hn, if_pos hn, if_neg (fun z => e (by omega))]
    · rw [if_neg hn, if_neg hn]
/-- the first k registers of q are 0 -/
def r_z (R : r_S) (q k : Nat) : r_S := (R.1, fun f i => if f = 2477 ∧ 32 * q ≤ i ∧ i < 32 * q + k then 0 else R.2 f i)
theorem rz_0 {R : r_S} {q : Nat} : r_z R q 0 = R := by
  refine Prod.ext rfl (funext fun f => funext fun i => ?_)
  exact if_neg (fun z => by omega)
theorem rz_s {R : r_S} {q k : Nat} : rs_A (r_z R q k) 2477 (32 * q + k) 0 = r_z R q (k + 1) := by
  refine Prod.ext rfl (funext fun f => funext fun i => ?_)
  show (if f = 2477 ∧ i = 32 * q + k then 0 else if f = 2477 ∧ 32 * q ≤ i ∧ i < 32 * q + k then 0 else R.2 f i) = (if f = 2477 ∧ 32 * q ≤ i ∧ i < 32 * q + (k + 1) then 0 else R.2 f i)
  by_cases e : f = 2477
  · by_cases e1 : i = 32 * q + k
    · rw [if_pos ⟨e, e1⟩, if_pos ⟨e, by omega, by omega⟩]
    · rw [if_neg (fun z => e1 z.2)]
      by_cases e2 : 32 * q ≤ i ∧ i < 32 * q + k
      · rw [if_pos ⟨e, e2⟩, if_pos ⟨e, by omega, by omega⟩]
      · rw [if_neg (fun z => e2 z.2), if_neg (fun z => e2 ⟨z.2.1, by omega⟩)]
  · rw [if_neg (fun z => e z.1), if_neg (fun z => e z.1), if_neg (fun z => e z.1)]
theorem rz_f {R : r_S} {q k f i : Nat} (h : f ≠ 2477) : r_A (r_z R q k) f i = r_A R f i := if_neg (fun z => h z.1)
theorem pr_z {R : r_S} {q k q' : Nat} : p_r (r_z R q k) q' = p_r R q' := by
  refine funext fun n => ?_
  show (if n < 16 ∧ n ≠ 10 then r_A (r_z R q k) (2467 + n) q' else 0) = (if n < 16 ∧ n ≠ 10 then r_A R (2467 + n) q' else 0)
  by_cases hn : n < 16 ∧ n ≠ 10
  · rw [if_pos hn, if_pos hn, rz_f (by omega)]
  · rw [if_neg hn, if_neg hn]
theorem py_z {R : r_S} {q : Nat} : p_y (r_z R q 32) q = fun _ => 0 := by
  refine funext fun n => ?_
  show (if n < 32 then (if 2477 = 2477 ∧ 32 * q ≤ 32 * q + n ∧ 32 * q + n < 32 * q + 32 then 0 else R.2 2477 (32 * q + n)) else 0) = 0
  by_cases hn : n < 32
  · rw [if_pos hn, if_pos ⟨rfl, by omega, by omega⟩]
  · rw [if_neg hn]
theorem py_zn {R : r_S} {q q' : Nat} (h : q ≠ q') : p_y (r_z R q 32) q' = p_y R q' := by
  refine funext fun n => ?_
  show (if n < 32 then (if 2477 = 2477 ∧ 32 * q ≤ 32 * q' + n ∧ 32 * q' + n < 32 * q + 32 then 0 else R.2 2477 (32 * q' + n)) else 0) = (if n < 32 then R.2 2477 (32 * q' + n) else 0)
  by_cases hn : n < 32
  · rw [if_pos hn, if_pos hn, if_neg (fun z => h (by omega))]
  · rw [if_neg hn, if_neg hn]
/-! An own relation for what is told of one process; the lines of both sides are functions of the places. -/
def p_wc (p : Nat) (w : Nat → Int32) : Int32 := if w 11 = 0 then 128 else if w 11 = 1 then w 12 - nI (8 * p) else if w 11 = 2 then 8 + (w 12 - nI (8 * p)) else if w 11 = 3 then 16 + (w 12 - nI (8 * p)) else if w 11 = 4 then 80 + (w 12 - nI (8 * p)) else if w 11 = 5 then 24 + (w 12 - nI (8 * p)) else if w 11 = 6 then 32 + w 13 else if w 11 = 7 then 96 + w 13 else 129
/-- priority, state, pc, until, done, release, held; due; what it waits for, with which word; the registers -/
def PRt (p : Nat) (u x w y : Nat → Int32) : Prop :=
  (u 3 = w 2 ∧ u 9 = w 0 ∧ u 10 = w 1 ∧ u 13 = w 5 ∧ u 14 = w 7 ∧ u 15 = w 6 ∧ u 16 = w 8) ∧ (∀ i : Nat, i < 32 → x i = y i) ∧ (u 12 = (if w 3 = 0 then -1 else w 4) ∧ (w 3 ≠ 0 → 0 ≤ (w 4).toInt)) ∧ (u 18 = (if w 0 = 2 then p_wc p w else -1)) ∧ (w 0 = 2 → w 11 = 4 ∨ w 11 = 7 → u 19 = w 15) ∧ ((w 0 = 0 ∨ w 0 = 1 ∨ w 0 = 2 ∨ w 0 = 3) ∧ (w 5 ≠ -1 → w 0 = 2) ∧ (w 8 = 0 ∨ w 8 = 1) ∧ (w 3 = 0 ∨ w 3 = 1))
