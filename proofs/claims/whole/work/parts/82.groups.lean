/-! Views of both states by lists of fields: what is not in the list may change freely. -/
def m_I (l : List Nat) (K : c_S) (f i : Nat) : Int32 := if f ∈ l then c_I K f i else 0
def m_J (l : List Nat) (K : c_S) (f i : Nat) : Int64 := if f ∈ l then c_J K f i else 0
def m_A (l : List Nat) (K : c_S) (f i j : Nat) : Int32 := if f ∈ l then c_A K f i j else 0
def m_P (l : List Nat) (K : c_S) (f i : Nat) : Option Nat := if f ∈ l then c_P K f i else none
def n_I (l : List Nat) (R : r_S) (f : Nat) : Int32 := if f ∈ l then r_I R f else 0
def n_A (l : List Nat) (R : r_S) (f i : Nat) : Int32 := if f ∈ l then r_A R f i else 0
theorem m_In {l : List Nat} {K : c_S} {f i : Nat} {v : Int32} (h : f ∉ l) : m_I l (cs_I K f i v) = m_I l K := by
  refine funext fun g => funext fun j => ?_
  show (if g ∈ l then (if g = f ∧ j = i then v else c_I K g j) else 0) = (if g ∈ l then c_I K g j else 0)
  by_cases e : g ∈ l
  · rw [if_pos e, if_pos e, if_neg (fun z => h (by rw [← z.1]; exact e))]
  · rw [if_neg e, if_neg e]
theorem m_An {l : List Nat} {K : c_S} {f i : Nat} {v : Nat → Int32} (h : f ∉ l) : m_A l (cs_G K f i v) = m_A l K := by
  refine funext fun g => funext fun j => funext fun n => ?_
  show (if g ∈ l then c_A (cs_G K f i v) g j n else 0) = (if g ∈ l then c_A K g j n else 0)
  by_cases e : g ∈ l
  · rw [if_pos e, if_pos e, c_AGr, if_neg (fun z => h (by rw [← z.1]; exact e))]
  · rw [if_neg e, if_neg e]
theorem m_Ap {l : List Nat} {K : c_S} {f i j : Nat} {v : Int32} (h : f ∉ l) : m_A l (cs_A K f i j v) = m_A l K := m_An h
theorem m_Pn {l : List Nat} {K : c_S} {f i : Nat} {v : Option Nat} (h : f ∉ l) : m_P l (cs_P K f i v) = m_P l K := by
  refine funext fun g => funext fun j => ?_
  show (if g ∈ l then (if g = f ∧ j = i then v else c_P K g j) else none) = (if g ∈ l then c_P K g j else none)
  by_cases e : g ∈ l
  · rw [if_pos e, if_pos e, if_neg (fun z => h (by rw [← z.1]; exact e))]
  · rw [if_neg e, if_neg e]
theorem m_Jn {l : List Nat} {K : c_S} {f i : Nat} {v : Int64} (h : f ∉ l) : m_J l (cs_J K f i v) = m_J l K := by
  refine funext fun g => funext fun j => ?_
  show (if g ∈ l then (if g = f ∧ j = i then v else c_J K g j) else 0) = (if g ∈ l then c_J K g j else 0)
  by_cases e : g ∈ l
  · rw [if_pos e, if_pos e, if_neg (fun z => h (by rw [← z.1]; exact e))]
  · rw [if_neg e, if_neg e]
theorem n_In {l : List Nat} {R : r_S} {f : Nat} {v : Int32} (h : f ∉ l) : n_I l (rs_I R f v) = n_I l R := by
  refine funext fun g => ?_
  show (if g ∈ l then (if g = f then v else r_I R g) else 0) = (if g ∈ l then r_I R g else 0)
  by_cases e : g ∈ l
  · rw [if_pos e, if_pos e, if_neg (fun z => h (by rw [← z]; exact e))]
  · rw [if_neg e, if_neg e]
theorem n_An {l : List Nat} {R : r_S} {f i : Nat} {v : Int32} (h : f ∉ l) : n_A l (rs_A R f i v) = n_A l R := by
  refine funext fun g => funext fun j => ?_
  show (if g ∈ l then (if g = f ∧ j = i then v else r_A R g j) else 0) = (if g ∈ l then r_A R g j else 0)
  by_cases e : g ∈ l
  · rw [if_pos e, if_pos e, if_neg (fun z => h (by rw [← z.1]; exact e))]
  · rw [if_neg e, if_neg e]
theorem n_Az {l : List Nat} {R : r_S} {q k : Nat} (h : 2477 ∉ l) : n_A l (r_z R q k) = n_A l R := by
  refine funext fun g => funext fun j => ?_
  show (if g ∈ l then r_A (r_z R q k) g j else 0) = (if g ∈ l then r_A R g j else 0)
  by_cases e : g ∈ l
  · rw [if_pos e, if_pos e, rz_f (fun z => h (z ▸ e))]
  · rw [if_neg e, if_neg e]
/-! What a configuration says, in plain numbers: 1 partitions, 2 processes of each, 3 handlers, 4 things by sort, 5 channels, 6 inputs, 7 windows, 8 the input's channel, 9 bytes, 10 regions, 11 regions' ends, 12 windows' partitions, 13 windows' ends, 14 sources, 15 goals, 16 how many goals, 17 rooms of queues (by the queue's number), 18 how many partitions' memories have begun. -/
def z_C : Type := Nat × (Nat → Nat) × (Nat → Option Nat) × (Nat → Nat → Nat) × Nat × Nat × Nat × (Nat → Nat) × (Nat → Nat) × (Nat → Nat) × (Nat → Nat → Nat) × (Nat → Nat) × (Nat → Nat) × (Nat → Option (Nat × Nat)) × (Nat → Nat → Option (Nat × Nat)) × (Nat → Nat) × (Nat → Nat) × Nat × Nat × Int32 × Int32 × Int32
def z_np (Z : z_C) : Nat := Z.1
def z_nq (Z : z_C) : Nat → Nat := Z.2.1
def z_hd (Z : z_C) : Nat → Option Nat := Z.2.2.1
def z_nt (Z : z_C) : Nat → Nat → Nat := Z.2.2.2.1
def z_nc (Z : z_C) : Nat := Z.2.2.2.2.1
def z_ni (Z : z_C) : Nat := Z.2.2.2.2.2.1
def z_nw (Z : z_C) : Nat := Z.2.2.2.2.2.2.1
def z_ic (Z : z_C) : Nat → Nat := Z.2.2.2.2.2.2.2.1
def z_by (Z : z_C) : Nat → Nat := Z.2.2.2.2.2.2.2.2.1
def z_nr (Z : z_C) : Nat → Nat := Z.2.2.2.2.2.2.2.2.2.1
def z_re (Z : z_C) : Nat → Nat → Nat := Z.2.2.2.2.2.2.2.2.2.2.1
def z_wo (Z : z_C) : Nat → Nat := Z.2.2.2.2.2.2.2.2.2.2.2.1
def z_we (Z : z_C) : Nat → Nat := Z.2.2.2.2.2.2.2.2.2.2.2.2.1
def z_sp (Z : z_C) : Nat → Option (Nat × Nat) := Z.2.2.2.2.2.2.2.2.2.2.2.2.2.1
def z_gp (Z : z_C) : Nat → Nat → Option (Nat × Nat) := Z.2.2.2.2.2.2.2.2.2.2.2.2.2.2.1
def z_ng (Z : z_C) : Nat → Nat := Z.2.2.2.2.2.2.2.2.2.2.2.2.2.2.2.1
def z_dc (Z : z_C) : Nat → Nat := Z.2.2.2.2.2.2.2.2.2.2.2.2.2.2.2.2.1
def z_mv (Z : z_C) : Nat := Z.2.2.2.2.2.2.2.2.2.2.2.2.2.2.2.2.2.1
/-- the time; whether it is loaded, and has begun -/
def z_tm (Z : z_C) : Nat := Z.2.2.2.2.2.2.2.2.2.2.2.2.2.2.2.2.2.2.1
def z_ld (Z : z_C) : Int32 := Z.2.2.2.2.2.2.2.2.2.2.2.2.2.2.2.2.2.2.2.1
def z_bg (Z : z_C) : Int32 := Z.2.2.2.2.2.2.2.2.2.2.2.2.2.2.2.2.2.2.2.2.1
def z_th (Z : z_C) : Int32 := Z.2.2.2.2.2.2.2.2.2.2.2.2.2.2.2.2.2.2.2.2.2
/-! the configuration: partitions and processes -/
def CQf (L : c_L) (Z : z_C) (k : Nat → Nat → Int32) (a : Nat → Nat → Nat → Int32) (r : Nat → Nat → Int32) : Prop :=
  z_np Z ≤ 16 ∧ ∀ p : Nat, p < z_np Z →
    (z_nq Z p ≤ 16 ∧ c_mk L 5 p ∧ k 1000 p = nI p ∧ k 1004 p = nI (z_nq Z p) ∧ r 2435 (6 * p + 5) = nI (z_nq Z p)) ∧
    (match z_hd Z p with | none => k 1008 p = -1 ∧ r 2442 p = -1 | some h => h < z_nq Z p ∧ k 1008 p = nI h ∧ r 2442 p = nI (16 * p + h)) ∧
    (∀ j : Nat, j < 5 → a 1007 p j = r 2452 (5 * p + j) ∧ 0 ≤ (r 2452 (5 * p + j)).toInt ∧ (r 2452 (5 * p + j)).toInt ≤ 6 ∧ (r 2452 (5 * p + j) = 6 → z_hd Z p ≠ none)) ∧
    ∀ j : Nat, j < z_nq Z p →
      (c_mk L 7 (16 * p + j) ∧ c_ln L 1411 (16 * p + j) = 32 ∧ k 1400 (16 * p + j) = nI j ∧ k 1407 (16 * p + j) = (if z_hd Z p = some j then 1 else 0)) ∧
      (k 1402 (16 * p + j) = r 2436 (16 * p + j) ∧ k 1404 (16 * p + j) = r 2438 (16 * p + j) ∧ k 1405 (16 * p + j) = r 2439 (16 * p + j) ∧ k 1406 (16 * p + j) = r 2440 (16 * p + j) ∧ k 1408 (16 * p + j) = r 2441 (16 * p + j)) ∧
      (0 ≤ (r 2438 (16 * p + j)).toInt ∧ (r 2438 (16 * p + j)).toInt ≤ 100000) ∧ (0 ≤ (r 2439 (16 * p + j)).toInt ∧ (r 2439 (16 * p + j)).toInt ≤ 100000) ∧ (0 ≤ (r 2440 (16 * p + j)).toInt ∧ (r 2440 (16 * p + j)).toInt ≤ 100000)
/-! things -/
def CTf (L : c_L) (Z : z_C) (k : Nat → Nat → Int32) (a : Nat → Nat → Nat → Int32) (r : Nat → Nat → Int32) : Prop :=
  ∀ p : Nat, p < z_np Z →
    (∀ s : Nat, s < 5 → z_nt Z p s ≤ (if s = 4 then 16 else 8) ∧ a 1006 p s = nI (z_nt Z p s) ∧ r 2435 (6 * p + s) = nI (z_nt Z p s) ∧ ∀ i : Nat, i < z_nt Z p s → c_mk L 10 (48 * p + (8 * s + i))) ∧
    (∀ i : Nat, i < z_nt Z p 0 → k 2002 (48 * p + i) = r 2443 (8 * p + i) ∧ k 2003 (48 * p + i) = r 2444 (8 * p + i) ∧ k 2004 (48 * p + i) = r 2445 (8 * p + i) ∧ 0 ≤ (r 2443 (8 * p + i)).toInt ∧ (r 2443 (8 * p + i)).toInt ≤ (r 2444 (8 * p + i)).toInt ∧ (r 2444 (8 * p + i)).toInt ≤ 100) ∧
    (∀ i : Nat, i < z_nt Z p 1 → k 2002 (48 * p + (8 + i)) = 0) ∧
    (∀ i : Nat, i < z_nt Z p 2 → k 2002 (48 * p + (16 + i)) = 0 ∧ k 2004 (48 * p + (16 + i)) = r 2447 (8 * p + i) ∧ k 1601 (48 * p + (16 + i)) = nI (z_dc Z (48 * p + (16 + i))) ∧ r 2446 (8 * p + i) = nI (z_dc Z (48 * p + (16 + i))) ∧ 1 ≤ z_dc Z (48 * p + (16 + i)) ∧ z_dc Z (48 * p + (16 + i)) ≤ 16 ∧ z_dc Z (48 * p + (16 + i)) ≤ c_ln L 1600 (48 * p + (16 + i)) ∧ c_ln L 1600 (48 * p + (16 + i)) < 2 ^ 31) ∧
    (∀ i : Nat, i < z_nt Z p 3 → k 2002 (48 * p + (24 + i)) = 0) ∧
    (∀ i : Nat, i < z_nt Z p 4 → k 2002 (48 * p + (32 + i)) = 0 ∧ k 2006 (48 * p + (32 + i)) = r 2448 (16 * p + i) ∧ k 2007 (48 * p + (32 + i)) = r 2449 (16 * p + i) ∧ k 2008 (48 * p + (32 + i)) = r 2450 (16 * p + i) ∧ (r 2448 (16 * p + i) = 0 ∨ r 2448 (16 * p + i) = 1) ∧ (r 2449 (16 * p + i) = 0 ∨ r 2449 (16 * p + i) = 1) ∧
      (r 2450 (16 * p + i) = -1 ∨ ∃ c : Nat, c < z_nc Z ∧ r 2450 (16 * p + i) = nI c ∧ r 2454 c = r 2449 (16 * p + i) ∧ (r 2448 (16 * p + i) = 1 → z_sp Z c = some (p, i)) ∧ (r 2448 (16 * p + i) = 0 → ∃ g : Nat, g < z_ng Z c ∧ z_gp Z c g = some (p, i))))
/-! channels, inputs, windows -/
def CCf (L : c_L) (Z : z_C) (k : Nat → Nat → Int32) (a : Nat → Nat → Nat → Int32) (P : Nat → Nat → Option Nat) (s : Nat → Int32) (r : Nat → Nat → Int32) : Prop :=
  (z_nc Z ≤ 24 ∧ z_ni Z ≤ 24 ∧ z_nw Z ≤ 24) ∧ (k 1201 0 = nI (z_np Z) ∧ s 2415 = nI (z_np Z)) ∧ (k 1203 0 = nI (z_nc Z) ∧ s 2416 = nI (z_nc Z)) ∧ (k 1205 0 = nI (z_ni Z) ∧ s 2418 = nI (z_ni Z)) ∧ (k 1209 0 = nI (z_nw Z) ∧ s 2417 = nI (z_nw Z)) ∧ k 1206 0 = s 2419 ∧
  (∀ c : Nat, c < z_nc Z → (c_mk L 1 c ∧ k 200 c = nI c ∧ k 201 c = r 2454 c ∧ k 202 c = r 2456 c ∧ k 203 c = r 2455 c ∧ k 207 c = nI (z_ng Z c) ∧ r 2458 c = nI (z_ng Z c) ∧ 1 ≤ z_ng Z c ∧ z_ng Z c ≤ 4) ∧ (r 2454 c = 0 ∨ r 2454 c = 1) ∧ (r 2456 c = 0 ∨ r 2456 c = 1) ∧ (0 ≤ (r 2455 c).toInt) ∧
    (k 1601 (1000 + c) = nI (z_dc Z (1000 + c)) ∧ 1 ≤ z_dc Z (1000 + c) ∧ z_dc Z (1000 + c) ≤ 32 ∧ z_dc Z (1000 + c) ≤ c_ln L 1600 (1000 + c) ∧ c_ln L 1600 (1000 + c) < 2 ^ 31 ∧ (r 2454 c = 1 → r 2455 c = nI (z_dc Z (1000 + c)) ∧ z_ng Z c = 1) ∧ (r 2454 c = 0 → z_dc Z (1000 + c) = 1)) ∧
    (match z_sp Z c with | none => P 209 c = none ∧ r 2457 c = -2 | some q => q.1 < z_np Z ∧ q.2 < z_nt Z q.1 4 ∧ P 209 c = some q.1 ∧ k 210 c = nI (32 + q.2) ∧ r 2457 c = nI (16 * q.1 + q.2) ∧ r 2450 (16 * q.1 + q.2) = nI c ∧ r 2448 (16 * q.1 + q.2) = 1) ∧
    (∀ g : Nat, g < z_ng Z c → match z_gp Z c g with | none => r 2459 (4 * c + g) = -2 | some q => q.1 < z_np Z ∧ q.2 < z_nt Z q.1 4 ∧ r 2459 (4 * c + g) = nI (16 * q.1 + q.2) ∧ r 2450 (16 * q.1 + q.2) = nI c ∧ r 2448 (16 * q.1 + q.2) = 0) ∧
    k 208 c = nI (((List.range (z_ng Z c)).filter (fun g => (z_gp Z c g).isNone)).length) ∧
    (r 2454 c = 1 → match z_gp Z c 0 with | none => P 211 c = none | some q => P 211 c = some q.1 ∧ k 212 c = nI (32 + q.2))) ∧
  (∀ i : Nat, i < z_ni Z → z_ic Z i < z_nc Z ∧ a 1204 0 i = nI (z_ic Z i) ∧ r 2460 i = nI (z_ic Z i) ∧ z_sp Z (z_ic Z i) = none) ∧ (∀ i j : Nat, i < z_ni Z → j < z_ni Z → z_ic Z i = z_ic Z j → i = j) ∧
  (z_we Z 0 = 0 ∧ (1 ≤ z_nw Z → s 2420 = nI (z_we Z (z_nw Z))) ∧ ∀ i : Nat, i < z_nw Z → z_wo Z i < z_np Z ∧ a 1207 0 i = nI (z_wo Z i) ∧ r 2461 i = nI (z_wo Z i) ∧ a 1208 0 i = nI (z_we Z (i + 1)) ∧ z_we Z i < z_we Z (i + 1) ∧ z_we Z (i + 1) ≤ z_we Z i + 200 ∧ r 2462 i = nI (z_we Z (i + 1) - z_we Z i))
/-! memory -/
def CMf (L : c_L) (Z : z_C) (k : Nat → Nat → Int32) (a : Nat → Nat → Nat → Int32) (r : Nat → Nat → Int32) : Prop :=
  ∀ p : Nat, p < z_np Z → (z_by Z p ≤ 8192 ∧ 256 ≤ z_by Z p ∧ z_by Z p % 4 = 0 ∧ k 800 p = nI (z_by Z p) ∧ r 2425 p = nI (z_by Z p) ∧ z_by Z p / 4 ≤ c_ln L 801 p ∧ z_by Z p / 4 ≤ c_ln L 802 p ∧ c_ln L 801 p < 2 ^ 31 ∧ c_ln L 802 p < 2 ^ 31) ∧
    (z_nr Z p ≤ 6 ∧ 1 ≤ z_nr Z p ∧ k 803 p = nI (z_nr Z p) ∧ r 2426 p = nI (z_nr Z p) ∧ z_re Z p 0 = 0 ∧ z_re Z p (z_nr Z p) = z_by Z p) ∧
    ∀ i : Nat, i < z_nr Z p → z_re Z p i < z_re Z p (i + 1) ∧ (z_re Z p (i + 1)) % 64 = 0 ∧ a 804 p i = nI (z_re Z p (i + 1)) ∧ r 2427 (6 * p + i) = nI (z_re Z p i) ∧ r 2428 (6 * p + i) = nI (z_re Z p (i + 1) - z_re Z p i) ∧ a 805 p i = r 2429 (6 * p + i) ∧ 0 ≤ (r 2429 (6 * p + i)).toInt ∧ (r 2429 (6 * p + i)).toInt ≤ 3
/-! what changes: locks and the like of a partition; s: the state of a process in the reference -/
def PDv (Z : z_C) (p : Nat) (k r s : Nat → Int32) : Prop :=
    (k 1009 = r 2483 ∧ k 1010 = r 2484 ∧ k 1011 = r 2485 ∧ k 1012 = r 2491 ∧ k 1013 = r 2486) ∧ (r 2483 = 0 ∨ r 2483 = 1) ∧
    (0 ≤ (r 2486).toInt ∧ (r 2486).toInt ≤ 8) ∧ (k 1013 = 0 → k 1014 = -1) ∧ (k 1013 ≠ 0 → ∃ j : Nat, j < z_nq Z p ∧ z_hd Z p ≠ some j ∧ k 1014 = nI j ∧ r 2487 = nI (16 * p + j) ∧ s j = 1) ∧
    ((k 1016 = -1 ∧ ∀ j : Nat, j < z_nq Z p → s j ≠ 3) ∨ ∃ j h : Nat, j < z_nq Z p ∧ z_hd Z p = some h ∧ j ≠ h ∧ k 1016 = nI j ∧ r 2488 = nI (16 * p + j) ∧ (k 1017 = r 2489 ∧ 0 ≤ (r 2489).toInt) ∧ k 1018 = r 2490 ∧ s j = 3 ∧ s h = 1 ∧ ∀ i : Nat, i < z_nq Z p → s i = 3 → i = j) ∧
    (r 2488 = -1 ∨ ∃ j : Nat, j < z_nq Z p ∧ r 2488 = nI (16 * p + j)) ∧
    (∀ h : Nat, z_hd Z p = some h → h < z_nq Z p ∧ (s h = 0 ∨ s h = 1)) ∧ (r 2483 = 1 → ∀ j : Nat, j < z_nq Z p → s j = 0)
def PDf (Z : z_C) (k : Nat → Nat → Int32) (r : Nat → Nat → Int32) (s : Nat → Int32) : Prop := ∀ p : Nat, p < z_np Z → PDv Z p (fun f => k f p) (fun f => r f p) (fun j => s (16 * p + j))
/-- a row of words that go round: room d, the first at place a, c of them -/
def QUt (d : Nat) (f c : Int32) (row : Nat → Int32) (rc : Int32) (rr : Nat → Int32) : Prop := ∃ a n : Nat, a < d ∧ n ≤ d ∧ f = nI a ∧ c = nI n ∧ rc = nI n ∧ ∀ i : Nat, i < n → row ((a + i) % d) = rr i
def THf (Z : z_C) (k : Nat → Nat → Int32) (a : Nat → Nat → Nat → Int32) (r : Nat → Nat → Int32) : Prop :=
  ∀ p : Nat, p < z_np Z → (∀ i : Nat, i < z_nt Z p 0 → k 2001 (48 * p + i) = r 2492 (8 * p + i) ∧ 0 ≤ (r 2492 (8 * p + i)).toInt ∧ (r 2492 (8 * p + i)).toInt ≤ (r 2444 (8 * p + i)).toInt) ∧ (∀ i : Nat, i < z_nt Z p 1 → k 2001 (48 * p + (8 + i)) = r 2493 (8 * p + i) ∧ (r 2493 (8 * p + i) = 0 ∨ r 2493 (8 * p + i) = 1)) ∧
    (∀ i : Nat, i < z_nt Z p 2 → QUt (z_dc Z (48 * p + (16 + i))) (k 1602 (48 * p + (16 + i))) (k 1603 (48 * p + (16 + i))) (a 1600 (48 * p + (16 + i))) (r 2494 (8 * p + i)) (fun n => r 2495 (16 * (8 * p + i) + n))) ∧
    (∀ i : Nat, i < z_nt Z p 3 → k 2001 (48 * p + (24 + i)) = r 2496 (8 * p + i) ∧ (r 2496 (8 * p + i) = 0 ∨ r 2496 (8 * p + i) = 1) ∧ (r 2496 (8 * p + i) = 1 → k 2005 (48 * p + (24 + i)) = r 2497 (8 * p + i))) ∧ (∀ i : Nat, i < z_nt Z p 4 → k 2001 (48 * p + (32 + i)) = 0)
/-- t: whether a channel is a queue -/
def CHf (Z : z_C) (t : Nat → Int32) (k : Nat → Nat → Int32) (a : Nat → Nat → Nat → Int32) (r : Nat → Nat → Int32) : Prop :=
  ∀ c : Nat, c < z_nc Z → k 206 c = r 2503 c ∧
    (t c = 1 → k 205 c = -1 ∧ QUt (z_dc Z (1000 + c)) (k 1602 (1000 + c)) (k 1603 (1000 + c)) (a 1600 (1000 + c)) (r 2501 c) (fun n => r 2502 (32 * c + n))) ∧
    (t c = 0 → (r 2498 c = 0 ∧ k 205 c = -1 ∧ k 1603 (1000 + c) = 0 ∧ k 1602 (1000 + c) = 0) ∨ (r 2498 c = 1 ∧ k 205 c = r 2500 c ∧ 0 ≤ (r 2500 c).toInt ∧ k 1603 (1000 + c) = 1 ∧ k 1602 (1000 + c) = 0 ∧ a 1600 (1000 + c) 0 = r 2499 c))
def INf (L : c_L) (Z : z_C) (k : Nat → Nat → Int32) (a : Nat → Nat → Nat → Int32) (r : Nat → Nat → Int32) : Prop :=
  ∀ i : Nat, i < z_ni Z → ∃ n m : Nat, n ≤ 60 ∧ m ≤ n ∧ k 215 (z_ic Z i) = nI n ∧ r 2504 i = nI n ∧ k 216 (z_ic Z i) = nI m ∧ r 2505 i = nI m ∧ (c_ln L 213 (z_ic Z i) = 60 ∧ c_ln L 214 (z_ic Z i) = 60 ∨ c_ln L 213 (z_ic Z i) = 0 ∧ c_ln L 214 (z_ic Z i) = 0 ∧ n = 0) ∧ ∀ j : Nat, j < n → a 213 (z_ic Z i) j = r 2506 (60 * i + j) ∧ a 214 (z_ic Z i) j = r 2507 (60 * i + j) ∧ 0 ≤ (r 2506 (60 * i + j)).toInt
/-- a word out of its bytes, the lowest first -/
def b_w (b : Nat → Int32) : Int32 := (((b 3 &&& 255) <<< (8 : Int32) ||| (b 2 &&& 255)) <<< (8 : Int32) ||| (b 1 &&& 255)) <<< (8 : Int32) ||| (b 0 &&& 255)
def MEf (Z : z_C) (a : Nat → Nat → Nat → Int32) (r : Nat → Nat → Int32) : Prop := (∀ p : Nat, p < z_np Z → ∀ i : Nat, i < z_by Z p / 4 → (p < z_mv Z → a 801 p i = b_w (fun n => r 2466 (8192 * p + (4 * i + n)))) ∧ a 802 p i = b_w (fun n => r 2465 (8192 * p + (4 * i + n)))) ∧ (∀ i : Nat, fits .byte (.int (r 2465 i)) = true) ∧ ∀ i : Nat, fits .byte (.int (r 2466 i)) = true
def JRf (k : Nat → Nat → Int32) (a : Nat → Nat → Nat → Int32) (s : Nat → Int32) (r : Nat → Nat → Int32) : Prop := k 402 0 = s 2508 ∧ k 403 0 = s 2509 ∧ (∀ i : Nat, a 400 0 i = r 2511 i) ∧ (∀ i : Nat, a 401 0 i = r 2512 i)
/-- b: a bound on the trace's and the errors' number -/
def JBf (b : Nat) (s : Nat → Int32) : Prop := (0 ≤ (s 2508).toInt ∧ (s 2508).toInt ≤ b) ∧ (0 ≤ (s 2509).toInt ∧ (s 2509).toInt ≤ b)
def GLf (Z : z_C) (k : Nat → Nat → Int32) (s : Nat → Int32) : Prop := k 1211 0 = s 2463 ∧ k 1212 0 = s 2510 ∧ (k 1213 0 = s 2413 ∧ (s 2413 = 0 ∨ s 2413 = 1) ∧ s 2400 = z_th Z) ∧ (k 1214 0 = s 2414 ∧ (s 2414 = 0 ∨ s 2414 = 1)) ∧ (s 2414 = 1 → s 2413 = 1) ∧ s 2463 = nI (z_tm Z) ∧ s 2413 = z_ld Z ∧ s 2414 = z_bg Z
def TXf (k : Nat → Nat → Int32) (a : Nat → Nat → Nat → Int32) (s : Nat → Int32) (r : Nat → Nat → Int32) : Prop := (∃ n : Nat, n ≤ 4000 ∧ k 1803 0 = nI n ∧ s 2403 = nI n) ∧ k 1804 0 = s 2411 ∧ k 1805 0 = s 2412 ∧ (∀ i : Nat, a 1802 0 i = r 2402 i) ∧ (∀ i : Nat, a 2204 0 i = r 2401 i) ∧ (∀ i : Nat, fits .byte (.int (r 2402 i)) = true) ∧ ∀ i : Nat, fits .byte (.int (r 2401 i)) = true
/-! names: a letter's digit; a name as a number to the base 37 -/
def n_d (c : Int32) : Int32 := if 97 ≤ c ∧ c ≤ 122 then c - 97 + 1 else if 48 ≤ c ∧ c ≤ 57 then c - 48 + 27 else 0
def n_v (l : Nat → Int32) : Nat → Int64
  | 0 => 0
  | n + 1 => n_v l n * 37 + (n_d (l n)).toInt64
/-- where a name lies: of a process, of a thing -/
def n_f (s : Nat) : Nat := if s = 5 then 1401 else 2000
def n_i (p s i : Nat) : Nat := if s = 5 then 16 * p + i else 48 * p + (8 * s + i)
def n_c (Z : z_C) (p s : Nat) : Nat := if s = 5 then z_nq Z p else z_nt Z p s
def NMf (Z : z_C) (j : Nat → Nat → Int64) (r : Nat → Nat → Int32) : Prop :=
  ∀ p : Nat, p < z_np Z → (∃ m : Nat, m ≤ 64 ∧ r 2430 p = nI m ∧
    (∀ k : Nat, k < m → ∃ s i n a : Nat, s ≤ 5 ∧ i < n_c Z p s ∧ (1 ≤ n ∧ n ≤ 12 ∧ a + n ≤ 14000) ∧ r 2433 (64 * p + k) = nI s ∧ r 2434 (64 * p + k) = nI i ∧ r 2432 (64 * p + k) = nI n ∧ r 2431 (64 * p + k) = nI a ∧ (∀ x : Nat, x < n → n_d (r 2421 (a + x)) ≠ 0) ∧ j (n_f s) (n_i p s i) = n_v (fun x => r 2421 (a + x)) n) ∧
    (∀ s i : Nat, s ≤ 5 → i < n_c Z p s → ∃ k : Nat, k < m ∧ r 2433 (64 * p + k) = nI s ∧ r 2434 (64 * p + k) = nI i)) ∧
    ∀ s i i' : Nat, s ≤ 5 → i < n_c Z p s → i' < n_c Z p s → j (n_f s) (n_i p s i) = j (n_f s) (n_i p s i') → i = i'
