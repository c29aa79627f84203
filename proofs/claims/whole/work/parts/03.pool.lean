/-! A pure pool: what the cells of our classes and arrays hold, by their addresses. K kinds (0: not ours; k + 1: an object of class k; 20 byte rows, 21 int rows, 22 boolean rows, 23 long rows, 24 .. 27 rows of references; 30, 31: the text of that number in q_sr, and its bytes, which lie below lo), I, J, P fields by their numbers, N lengths, A, B, C what rows hold. -/
def q_S : Type := (Nat → Nat) × (Nat → Nat → Int32) × (Nat → Nat → Int64) × (Nat → Nat → Option Nat) × (Nat → Nat) × (Nat → Nat → Int32) × (Nat → Nat → Int64) × (Nat → Nat → Option Nat)
def q_K (S : q_S) (a : Nat) : Nat := S.1 a
def q_I (S : q_S) (f a : Nat) : Int32 := S.2.1 f a
def q_J (S : q_S) (f a : Nat) : Int64 := S.2.2.1 f a
def q_P (S : q_S) (f a : Nat) : Option Nat := S.2.2.2.1 f a
def q_N (S : q_S) (a : Nat) : Nat := S.2.2.2.2.1 a
def q_A (S : q_S) (a i : Nat) : Int32 := S.2.2.2.2.2.1 a i
def q_B (S : q_S) (a i : Nat) : Int64 := S.2.2.2.2.2.2.1 a i
def q_C (S : q_S) (a i : Nat) : Option Nat := S.2.2.2.2.2.2.2 a i
def qs_2 {α : Type} (g : Nat → Nat → α) (f a : Nat) (v : α) : Nat → Nat → α := fun f' a' => if f' = f ∧ a' = a then v else g f' a'
def qs_1 {α : Type} (g : Nat → α) (a : Nat) (v : α) : Nat → α := fun a' => if a' = a then v else g a'
def qs_I (S : q_S) (f a : Nat) (v : Int32) : q_S := (S.1, qs_2 S.2.1 f a v, S.2.2)
def qs_J (S : q_S) (f a : Nat) (v : Int64) : q_S := (S.1, S.2.1, qs_2 S.2.2.1 f a v, S.2.2.2)
def qs_P (S : q_S) (f a : Nat) (v : Option Nat) : q_S := (S.1, S.2.1, S.2.2.1, qs_2 S.2.2.2.1 f a v, S.2.2.2.2)
def qs_A (S : q_S) (a i : Nat) (v : Int32) : q_S := (S.1, S.2.1, S.2.2.1, S.2.2.2.1, S.2.2.2.2.1, qs_2 S.2.2.2.2.2.1 a i v, S.2.2.2.2.2.2)
def qs_B (S : q_S) (a i : Nat) (v : Int64) : q_S := (S.1, S.2.1, S.2.2.1, S.2.2.2.1, S.2.2.2.2.1, S.2.2.2.2.2.1, qs_2 S.2.2.2.2.2.2.1 a i v, S.2.2.2.2.2.2.2)
def qs_C (S : q_S) (a i : Nat) (v : Option Nat) : q_S := (S.1, S.2.1, S.2.2.1, S.2.2.2.1, S.2.2.2.2.1, S.2.2.2.2.2.1, S.2.2.2.2.2.2.1, qs_2 S.2.2.2.2.2.2.2 a i v)
/-- a new object of class ci at a: all its fields 0, null -/
def qs_O (S : q_S) (ci a : Nat) : q_S := (qs_1 S.1 a (ci + 1), (fun f' a' => if a' = a then 0 else S.2.1 f' a'), (fun f' a' => if a' = a then 0 else S.2.2.1 f' a'), (fun f' a' => if a' = a then none else S.2.2.2.1 f' a'), S.2.2.2.2)
/-- a new row of kind k and length n at a: all 0, null -/
def qs_R (S : q_S) (k n a : Nat) : q_S := (qs_1 S.1 a k, S.2.1, S.2.2.1, S.2.2.2.1, qs_1 S.2.2.2.2.1 a n, (fun a' i => if a' = a then 0 else S.2.2.2.2.2.1 a' i), (fun a' i => if a' = a then 0 else S.2.2.2.2.2.2.1 a' i), (fun a' i => if a' = a then none else S.2.2.2.2.2.2.2 a' i))
/-- the texts that stand in the classes: whose, which entry, the text -/
def q_sr : List (String × Nat × String) := [("PartitionWorks$Reader", 34, "partition memory regions code data table all process entry priority period deadline delay handler stopped semaphore event buffer fifo board port in out errors channel sampling queuing input output frame "), ("PartitionWorks$Reader", 40, "illegal late raised align skip stop again warm cold idle handle "), ("PartitionWorks$Reader", 128, "{};:.,>"), ("PartitionWorks$Reader", 108, "a fault of the configuration"), ("PartitionWorks", 80, "not while it runs, or without a configuration"), ("PartitionWorks", 103, "no such partition or place"), ("PartitionWorks", 114, "no such channel from input"), ("PartitionWorks", 124, "the time is not above the latest"), ("PartitionWorks", 130, "there are 60 of it"), ("PartitionWorks", 135, "it has begun, or there is no configuration"), ("PartitionWorks", 145, "it has not begun"), ("PartitionWorks", 147, "n is not 0 .. 500"), ("PartitionWorksModel", 310, " partition memory regions code data table all process entry priority period deadline delay handler stopped semaphore event buffer fifo board port in out errors channel sampling queuing input output frame "), ("PartitionWorksModel", 405, " illegal memory late raised align "), ("PartitionWorksModel", 407, " skip stop again warm cold idle handle ")]
def q_sl : List Nat := [203, 64, 7, 28, 45, 26, 26, 32, 18, 42, 16, 17, 204, 34, 39]
def q_sb : List (List Int32) := [[112, 97, 114, 116, 105, 116, 105, 111, 110, 32, 109, 101, 109, 111, 114, 121, 32, 114, 101, 103, 105, 111, 110, 115, 32, 99, 111, 100, 101, 32, 100, 97, 116, 97, 32, 116, 97, 98, 108, 101, 32, 97, 108, 108, 32, 112, 114, 111, 99, 101, 115, 115, 32, 101, 110, 116, 114, 121, 32, 112, 114, 105, 111, 114, 105, 116, 121, 32, 112, 101, 114, 105, 111, 100, 32, 100, 101, 97, 100, 108, 105, 110, 101, 32, 100, 101, 108, 97, 121, 32, 104, 97, 110, 100, 108, 101, 114, 32, 115, 116, 111, 112, 112, 101, 100, 32, 115, 101, 109, 97, 112, 104, 111, 114, 101, 32, 101, 118, 101, 110, 116, 32, 98, 117, 102, 102, 101, 114, 32, 102, 105, 102, 111, 32, 98, 111, 97, 114, 100, 32, 112, 111, 114, 116, 32, 105, 110, 32, 111, 117, 116, 32, 101, 114, 114, 111, 114, 115, 32, 99, 104, 97, 110, 110, 101, 108, 32, 115, 97, 109, 112, 108, 105, 110, 103, 32, 113, 117, 101, 117, 105, 110, 103, 32, 105, 110, 112, 117, 116, 32, 111, 117, 116, 112, 117, 116, 32, 102, 114, 97, 109, 101, 32], [105, 108, 108, 101, 103, 97, 108, 32, 108, 97, 116, 101, 32, 114, 97, 105, 115, 101, 100, 32, 97, 108, 105, 103, 110, 32, 115, 107, 105, 112, 32, 115, 116, 111, 112, 32, 97, 103, 97, 105, 110, 32, 119, 97, 114, 109, 32, 99, 111, 108, 100, 32, 105, 100, 108, 101, 32, 104, 97, 110, 100, 108, 101, 32], [123, 125, 59, 58, 46, 44, 62], [97, 32, 102, 97, 117, 108, 116, 32, 111, 102, 32, 116, 104, 101, 32, 99, 111, 110, 102, 105, 103, 117, 114, 97, 116, 105, 111, 110], [110, 111, 116, 32, 119, 104, 105, 108, 101, 32, 105, 116, 32, 114, 117, 110, 115, 44, 32, 111, 114, 32, 119, 105, 116, 104, 111, 117, 116, 32, 97, 32, 99, 111, 110, 102, 105, 103, 117, 114, 97, 116, 105, 111, 110], [110, 111, 32, 115, 117, 99, 104, 32, 112, 97, 114, 116, 105, 116, 105, 111, 110, 32, 111, 114, 32, 112, 108, 97, 99, 101], [110, 111, 32, 115, 117, 99, 104, 32, 99, 104, 97, 110, 110, 101, 108, 32, 102, 114, 111, 109, 32, 105, 110, 112, 117, 116], [116, 104, 101, 32, 116, 105, 109, 101, 32, 105, 115, 32, 110, 111, 116, 32, 97, 98, 111, 118, 101, 32, 116, 104, 101, 32, 108, 97, 116, 101, 115, 116], [116, 104, 101, 114, 101, 32, 97, 114, 101, 32, 54, 48, 32, 111, 102, 32, 105, 116], [105, 116, 32, 104, 97, 115, 32, 98, 101, 103, 117, 110, 44, 32, 111, 114, 32, 116, 104, 101, 114, 101, 32, 105, 115, 32, 110, 111, 32, 99, 111, 110, 102, 105, 103, 117, 114, 97, 116, 105, 111, 110], [105, 116, 32, 104, 97, 115, 32, 110, 111, 116, 32, 98, 101, 103, 117, 110], [110, 32, 105, 115, 32, 110, 111, 116, 32, 48, 32, 46, 46, 32, 53, 48, 48], [32, 112, 97, 114, 116, 105, 116, 105, 111, 110, 32, 109, 101, 109, 111, 114, 121, 32, 114, 101, 103, 105, 111, 110, 115, 32, 99, 111, 100, 101, 32, 100, 97, 116, 97, 32, 116, 97, 98, 108, 101, 32, 97, 108, 108, 32, 112, 114, 111, 99, 101, 115, 115, 32, 101, 110, 116, 114, 121, 32, 112, 114, 105, 111, 114, 105, 116, 121, 32, 112, 101, 114, 105, 111, 100, 32, 100, 101, 97, 100, 108, 105, 110, 101, 32, 100, 101, 108, 97, 121, 32, 104, 97, 110, 100, 108, 101, 114, 32, 115, 116, 111, 112, 112, 101, 100, 32, 115, 101, 109, 97, 112, 104, 111, 114, 101, 32, 101, 118, 101, 110, 116, 32, 98, 117, 102, 102, 101, 114, 32, 102, 105, 102, 111, 32, 98, 111, 97, 114, 100, 32, 112, 111, 114, 116, 32, 105, 110, 32, 111, 117, 116, 32, 101, 114, 114, 111, 114, 115, 32, 99, 104, 97, 110, 110, 101, 108, 32, 115, 97, 109, 112, 108, 105, 110, 103, 32, 113, 117, 101, 117, 105, 110, 103, 32, 105, 110, 112, 117, 116, 32, 111, 117, 116, 112, 117, 116, 32, 102, 114, 97, 109, 101, 32], [32, 105, 108, 108, 101, 103, 97, 108, 32, 109, 101, 109, 111, 114, 121, 32, 108, 97, 116, 101, 32, 114, 97, 105, 115, 101, 100, 32, 97, 108, 105, 103, 110, 32], [32, 115, 107, 105, 112, 32, 115, 116, 111, 112, 32, 97, 103, 97, 105, 110, 32, 119, 97, 114, 109, 32, 99, 111, 108, 100, 32, 105, 100, 108, 101, 32, 104, 97, 110, 100, 108, 101, 32]]
/-- a field's value -/
def q_V (S : q_S) (a : Nat) (q : Nat × Nat) : Value := match q.1 with
  | 0 => .int (q_I S q.2 a)
  | 1 => .long (q_J S q.2 a)
  | _ => va_rf (q_P S q.2 a)
def q_E (cy : Nat → ClassId) (S : q_S) (a : Nat) : Option va_E :=
  if q_K S a = 0 then none else
  if 30 ≤ q_K S a then none else
  if q_K S a < 20 then some (.inr (q_K S a - 1, (q_F (q_K S a - 1)).map (q_V S a))) else
  if q_K S a < 23 then some (.inl (cy (q_K S a), q_N S a, .inl (q_A S a))) else
  if q_K S a = 23 then some (.inl (cy (q_K S a), q_N S a, .inr (.inl (q_B S a)))) else
  some (.inl (cy (q_K S a), q_N S a, .inr (.inr (.inr (.inr (q_C S a))))))
theorem q_E_ob {cy : Nat → ClassId} {S : q_S} {a ci : Nat} (h : q_K S a = ci + 1) (hc : ci < 19) : q_E cy S a = some (.inr (ci, (q_F ci).map (q_V S a))) := by
  unfold q_E
  rw [h, if_neg (by omega), if_neg (by omega), if_pos (by omega)]
  rfl
theorem q_E_ir {cy : Nat → ClassId} {S : q_S} {a k : Nat} (h : q_K S a = k) (h1 : 20 ≤ k) (h2 : k < 23) : q_E cy S a = some (.inl (cy k, q_N S a, .inl (q_A S a))) := by
  unfold q_E
  rw [h, if_neg (by omega), if_neg (by omega), if_neg (by omega), if_pos (by omega)]
theorem q_E_jr {cy : Nat → ClassId} {S : q_S} {a : Nat} (h : q_K S a = 23) : q_E cy S a = some (.inl (cy 23, q_N S a, .inr (.inl (q_B S a)))) := by
  unfold q_E
  rw [h, if_neg (by omega), if_neg (by omega), if_neg (by omega), if_neg (by omega), if_pos rfl]
theorem q_E_cr {cy : Nat → ClassId} {S : q_S} {a k : Nat} (h : q_K S a = k) (h1 : 24 ≤ k) (h2 : k < 30) : q_E cy S a = some (.inl (cy k, q_N S a, .inr (.inr (.inr (.inr (q_C S a)))))) := by
  unfold q_E
  rw [h, if_neg (by omega), if_neg (by omega), if_neg (by omega), if_neg (by omega), if_neg (by omega)]
/-- where the texts are -/
def q_SC (cy : Nat → ClassId) (lo : Nat) (S : q_S) : Prop := (∀ i : Nat, i < 15 → q_K S (cy (100 + 2 * i)) = 30 ∧ q_N S (cy (100 + 2 * i)) = i ∧ q_K S (cy (101 + 2 * i)) = 31 ∧ q_N S (cy (101 + 2 * i)) = i ∧ cy (100 + 2 * i) < lo ∧ cy (101 + 2 * i) < lo) ∧ (∀ a : Nat, q_K S a = 30 → a = cy (100 + 2 * q_N S a) ∧ q_N S a < 15) ∧ (∀ a : Nat, q_K S a = 31 → a = cy (101 + 2 * q_N S a) ∧ q_N S a < 15) ∧ ∀ a : Nat, q_K S a < 32
theorem q_SC.same {cy : Nat → ClassId} {lo : Nat} {S S' : q_S} (h : q_SC cy lo S) (hK : ∀ b, q_K S' b = q_K S b) (hN : ∀ b, q_N S' b = q_N S b) : q_SC cy lo S' := by
  refine ⟨fun i hi => ?_, fun a ha => ?_, fun a ha => ?_, fun a => ?_⟩
  · rw [hK, hN, hK, hN]; exact h.1 i hi
  · rw [hN]; rw [hK] at ha; exact h.2.1 a ha
  · rw [hN]; rw [hK] at ha; exact h.2.2.1 a ha
  · rw [hK]; exact h.2.2.2 a
theorem q_SC.grow {cy : Nat → ClassId} {lo n : Nat} {S S' : q_S} (h : q_SC cy lo S) (hn : lo ≤ n) (hK : ∀ b, b ≠ n → q_K S' b = q_K S b) (hN : ∀ b, b ≠ n → q_N S' b = q_N S b) (hk : q_K S' n < 30) : q_SC cy lo S' := by
  refine ⟨fun i hi => ?_, fun a ha => ?_, fun a ha => ?_, fun a => ?_⟩
  · have h1 := h.1 i hi
    have e1 : cy (100 + 2 * i) ≠ n := fun z => Nat.not_lt.mpr hn (z ▸ h1.2.2.2.2.1)
    have e2 : cy (101 + 2 * i) ≠ n := fun z => Nat.not_lt.mpr hn (z ▸ h1.2.2.2.2.2)
    rw [hK _ e1, hN _ e1, hK _ e2, hN _ e2]; exact h1
  · have e : a ≠ n := fun z => by rw [z] at ha; omega
    rw [hN a e]; rw [hK a e] at ha; exact h.2.1 a ha
  · have e : a ≠ n := fun z => by rw [z] at ha; omega
    rw [hN a e]; rw [hK a e] at ha; exact h.2.2.1 a ha
  · by_cases e : a = n
    · rw [e]; omega
    · rw [hK a e]; exact h.2.2.2 a
/-- the heap holds the pool, which lies from lo on -/
def q_W (D : va_G) (cy : Nat → ClassId) (lo : Nat) (S : q_S) (H : Heap) : Prop := (∀ (a : Nat) (e : va_E), q_E cy S a = some e → va_at D vwCl (a, e) H) ∧ (∀ a : Nat, q_K S a ≠ 0 → q_K S a < 30 → lo ≤ a) ∧ q_SC cy lo S
def q_T (cy : Nat → ClassId) : List (ClassId × FieldType) := [(cy 20, .byte), (cy 21, .int), (cy 22, .boolean), (cy 23, .long), (cy 24, .object RX1), (cy 25, .object RX5), (cy 26, .object RX7), (cy 27, .object RX10)]
/-- the good words of the tables, and those of private constructors of nest mates -/
def q_G : List Cond := lw_tbl.filter goodWord
theorem q_tb {i : Nat} {w : Cond} (h : tables_1[i]? = some w) (hg : goodWord w = true) : w ∈ q_G := List.mem_filter.mpr ⟨List.mem_append_right _ (List.mem_of_getElem? h), hg⟩
theorem q_tp {i : Nat} {q : MethodName × Nat} (h : lw_privs[i]? = some q) (hg : goodWord (.selects q.1.cls q.1 q.1) = true) : Cond.selects q.1.cls q.1 q.1 ∈ q_G := List.mem_filter.mpr ⟨List.mem_append_left _ (List.mem_map.mpr ⟨q, List.mem_of_getElem? h, rfl⟩), hg⟩
theorem q_sub {ws : List Cond} (ps : List Nat) (h : ws = ps.filterMap (fun i => tables_1[i]?)) (hg : ws.all goodWord = true) : ∀ w ∈ ws, w ∈ q_G := by
  intro w hw
  have h1 := List.all_eq_true.mp hg w hw
  rw [h] at hw
  obtain ⟨i, -, hi⟩ := List.mem_filterMap.mp hw
  exact q_tb hi h1
theorem q_Gg : ∀ w ∈ q_G, goodWord w = true := fun w hw => (List.mem_filter.mp hw).2
theorem q_GG {y z : MethodName} {b d : ByteArray} {n k : Nat} {r t : Option FieldType} (h : Cond.code y b n r ∈ q_G) : GoodIn (Cond.code z d k t :: q_G) (Cond.code y b n r :: q_G) := by
  intro w hw
  rcases List.mem_cons.mp hw with rfl | hw
  · exact ⟨List.mem_cons_of_mem _ h, good_of_word (q_Gg _ h)⟩
  · exact ⟨List.mem_cons_of_mem _ hw, good_of_word (q_Gg _ hw)⟩
/-- private constructors of nest mates: words that a state keeps but that aren't good ones -/
def q_isN (w : Cond) : Bool := match w with
  | .methodLinkNest _ _ _ _ => true
  | .castable _ _ => true
  | _ => false
def q_Nw : List Cond := tables_1.filter q_isN
/-- what the tables and the heap below lo hold for good -/
def q_NW (cy : Nat → ClassId) (lo : Nat) (U : State) (H : Heap) : Prop := (∀ w ∈ q_Nw, va_Nw w U) ∧ (va_AO RX1 U ∧ va_AO RX5 U ∧ va_AO RX7 U ∧ va_AO RX10 U) ∧ vk_S 15 q_sl q_sb (fun i => cy (100 + 2 * i)) (fun i => cy (101 + 2 * i)) (fun q => lo ≤ q) U H ∧ (∀ (i : Nat) (r : String × Nat × String), q_sr[i]? = some r → vk_R r.1 r.2.1 r.2.2 (cy (100 + 2 * i)) U) ∧ vx_Zq Bundle.tN "UNASSIGNED_STACK" Bundle.steD (fun q => lo ≤ q) U H ∧ vx_Zq Bundle.tN "SUPPRESSED_SENTINEL" Bundle.listD (fun q => lo ≤ q) U H ∧ va_Z "java/lang/String" "COMPACT_STRINGS" "Z" (.int 1) (fun q => lo ≤ q) U H ∧ va_Zq "jdk/internal/util/Preconditions" "SIOOBE_FORMATTER" "Ljava/util/function/BiFunction;" (fun q => lo ≤ q) U H
theorem q_NW.warm {cy : Nat → ClassId} {lo : Nat} {s U : State} {H0 H : Heap} {locs : List Loc} (hW : s.WarmedH U.vm) (hS : va_S (fun q => lo ≤ q) H0 H locs) (h : q_NW cy lo s H0) : q_NW cy lo U H := by
  obtain ⟨h1, ⟨a1, a2, a3, a4⟩, h3, h4, h5, h6, h7, h8⟩ := h
  refine ⟨fun w hw => ?_, ⟨a1.moved hW.alike, a2.moved hW.alike, a3.moved hW.alike, a4.moved hW.alike⟩, (vk_S.moved hW.alike h3).kept hS.2.1, fun i r hi => (h4 i r hi).warm hW, (vx_Zq.moved hW.alike h5).kept hS.2.1, (vx_Zq.moved hW.alike h6).kept hS.2.1, (va_Z.moved hW.alike h7).kept hS.2.1, (va_Zq.moved hW.alike h8).kept hS.2.1⟩
  have h2 := (List.mem_filter.mp hw).2
  cases w <;> first | exact va_Nw.warmM hW (h1 _ hw) | exact va_Nw.warmC hW (h1 _ hw) | (simp [q_isN] at h2; done)
theorem q_NW.same {cy : Nat → ClassId} {lo : Nat} {s U : State} {H : Heap} (hv : s.vm = U.vm) (h : q_NW cy lo s H) : q_NW cy lo U H := by
  obtain ⟨h1, ⟨a1, a2, a3, a4⟩, h3, h4, h5, h6, h7, h8⟩ := h
  have hA : s.vm.Alike U.vm := by rw [hv]; exact Vm.Alike.refl _
  refine ⟨fun w hw => ?_, ⟨a1.moved hA, a2.moved hA, a3.moved hA, a4.moved hA⟩, vk_S.moved hA h3, fun i r hi => (h4 i r hi).same hv.symm, vx_Zq.moved hA h5, vx_Zq.moved hA h6, va_Z.moved hA h7, va_Zq.moved hA h8⟩
  have h2 := (List.mem_filter.mp hw).2
  cases w <;> first | exact va_Nw.same rfl hv (h1 _ hw) | (simp [q_isN] at h2; done)
/-- a state that holds the pool S -/
def q_U (D : va_G) (cy : Nat → ClassId) (lo : Nat) (S : q_S) (U : State) : Prop := va_K D vwCl (q_T cy) U ∧ q_NW cy lo U U.heap ∧ q_W D cy lo S U.heap ∧ lo ≤ U.heap.size
def q_Q (D : va_G) (cy : Nat → ClassId) (lo : Nat) (Post : Option Value → q_S → Prop) : Array Value → State → Outcome → State → Prop := fun _ st oc t => (∃ (r : Option Value) (S' : q_S), oc = .returned r ∧ Post r S' ∧ q_U D cy lo S' t) ∧ va_F (fun q => lo ≤ q) st t
/-- THE CONTRACT of a method: called with As over the pool S it returns r with the pool S' where Post r S'; fr frames, lc words of locals, mc cells and ms slots at most -/
def q_Met (l : Launch) (D : va_G) (cy : Nat → ClassId) (lo : Nat) (y : MethodName) (b : ByteArray) (n : Nat) (r : Option FieldType) (fr lc mc ms : Nat) (As : List Value) (S : q_S) (Post : Option Value → q_S → Prop) : Prop :=
  Met l y (Cond.code y b n r :: q_G) { frames := fr, cells := mc, slots := ms, locals := lc } (va_Pc As (q_U D cy lo S)) (q_Q D cy lo Post) mc ms (fun q => lo ≤ q)
/-- what stands fixed in a method's walk -/
def q_X (p : Program) (s : State) (m : MethodId) (args : Array Value) (meth : Method) (c : Code) (own : String) (cc : ByteArray) (nL : Nat) (ret : Option FieldType) (D : va_G) (cy : Nat → ClassId) (lo : Nat) : Prop :=
  p.tables.exec = Jvm.exec ∧ c.code = cc ∧ c.maxLocals = nL ∧ s.vm.findClass own = some m.cls ∧ (∀ w ∈ q_G, w.before args s = true) ∧ va_K D vwCl (q_T cy) s ∧ q_NW cy lo s s.heap ∧ lo ≤ s.heap.size ∧ meth.sig.returnType = ret ∧ meth.locks = false
/-- where the walk is: the heap holds the pool S, nothing below lo has changed -/
def q_Y (D : va_G) (cy : Nat → ClassId) (lo : Nat) (s : State) (S : q_S) (H : Heap) (locs : List Loc) : Prop := q_W D cy lo S H ∧ va_S (fun q => lo ≤ q) s.heap H locs
theorem q_blind {D : va_G} {cy : Nat → ClassId} {lo : Nat} {S : q_S} {As : List Value} : FrameBlind (va_Pc As (q_U D cy lo S)) := fun a U g mk q => ⟨q.1, va_K.moved (u := U) (U := U.calling g mk a) (Vm.Alike.refl U.vm) q.2.1, q_NW.same (s := U) (U := U.calling g mk a) (H := U.heap) rfl q.2.2.1, q.2.2.2.1, q.2.2.2.2⟩
theorem q_body {l : Launch} {D : va_G} {cy : Nat → ClassId} {lo : Nat} {y : MethodName} {b : ByteArray} {n : Nat} {r : Option FieldType} {fr lc mc ms : Nat} {As : List Value} {S : q_S} {Post : Option Value → q_S → Prop} (hy : plainName y.cls = true) (hn : (lg_sl As).length ≤ n)
    (body : ∀ (p : Program) (e : Env) (s : State) (m : MethodId) (below : List Frame) (meth : Method) (c : Code) (ls : Array Slot), q_X p s m As.toArray meth c y.cls b n r D cy lo → meth.name = y.name → q_Y D cy lo s S s.heap [] → lv_has ls n (lv_args 0 As) →
      W p l e { frames := fr, cells := mc, slots := ms, locals := lc } s m As.toArray below meth c s.heap [] 0 0 (MQ below (q_Q D cy lo Post) As.toArray s mc ms (fun q => lo ≤ q)) (F0 m 0 ls [])) : q_Met l D cy lo y b n r fr lc mc ms As S Post := by
  refine Met.ofW (cc := b) (maxL := n) (ret := r) hy rfl ?_
  intro p e s m args below meth c s₁ B hml hv
  obtain ⟨rfl, hK, hN, hW, hlo⟩ := hv
  have hts := atoms_spec (ws := Cond.code y b n r :: q_G) B.pre
  have hl := lv_entry As (n := n) hn
  rw [lg_entry_eq]
  exact body p e s m below meth c _ ⟨B.exec, B.bytes, hml, findClass_of_methodNamed B.named, fun w hw => hts w (List.mem_cons_of_mem _ hw), hK, hN, hlo, B.returns, B.notSynchronized⟩ (name_of_methodNamed B.named B.method).1 ⟨hW, va_S.rf⟩ hl
