/-! Bits: the kit's family of bits (laws/BITS), pasted; then words of bytes. -/
def bt (x : Int32) (i : Nat) : Bool := x.toBitVec.getLsbD i
theorem b_ext {x y : Int32} (h : ∀ i, i < 32 → bt x i = bt y i) : x = y := Int32.toBitVec_inj.mp (BitVec.eq_of_getLsbD_eq (fun i hi => h i hi))
theorem b_or (x y : Int32) (i : Nat) : bt (x ||| y) i = (bt x i || bt y i) := by unfold bt; rw [Int32.toBitVec_or, BitVec.getLsbD_or]
theorem b_and (x y : Int32) (i : Nat) : bt (x &&& y) i = (bt x i && bt y i) := by unfold bt; rw [Int32.toBitVec_and, BitVec.getLsbD_and]
theorem b_xor (x y : Int32) (i : Nat) : bt (x ^^^ y) i = (bt x i ^^ bt y i) := by unfold bt; rw [Int32.toBitVec_xor, BitVec.getLsbD_xor]
theorem b_big {x : Int32} {i : Nat} (h : 32 ≤ i) : bt x i = false := BitVec.getLsbD_of_ge _ _ h
theorem b_255 (i : Nat) : bt 255 i = decide (i < 8) := by
  rcases Nat.lt_or_ge i 32 with h | h
  · exact (by decide +kernel : ∀ i, i < 32 → bt 255 i = decide (i < 8)) i h
  · rw [b_big h, decide_eq_false (by omega)]
theorem b_65535 (i : Nat) : bt 65535 i = decide (i < 16) := by
  rcases Nat.lt_or_ge i 32 with h | h
  · exact (by decide +kernel : ∀ i, i < 32 → bt 65535 i = decide (i < 16)) i h
  · rw [b_big h, decide_eq_false (by omega)]
theorem b_m1 : ∀ i, i < 32 → bt (-1) i = true := by decide +kernel
theorem b_0 (i : Nat) : bt 0 i = false := BitVec.getLsbD_zero
theorem s_l : ∀ n, n < 32 → ((nI n &&& 31).toBitVec.smod 32).toNat = n := by decide +kernel
theorem s_u : ∀ n, n < 32 → (((nI n).toUInt32 &&& Int32.toUInt32 31).toBitVec % 32).toNat = n := by decide +kernel
theorem b_shl (n : Nat) (hn : n < 32) (x : Int32) {i : Nat} (hi : i < 32) : bt (x <<< (nI n &&& 31)) i = (decide (n ≤ i) && bt x (i - n)) := by
  unfold bt
  rw [Int32.toBitVec_shiftLeft]
  show (x.toBitVec <<< ((nI n &&& 31).toBitVec.smod 32).toNat).getLsbD i = _
  rw [s_l n hn, BitVec.getLsbD_shiftLeft]
  rcases Nat.lt_or_ge i n with h | h
  · simp [h, Nat.not_le.mpr h]
  · simp [hi, h, Nat.not_lt.mpr h]
theorem b_ushr (n : Nat) (hn : n < 32) (x : Int32) (i : Nat) : bt ((x.toUInt32 >>> ((nI n).toUInt32 &&& Int32.toUInt32 31)).toInt32) i = bt x (n + i) := by
  show (x.toUInt32 >>> ((nI n).toUInt32 &&& Int32.toUInt32 31)).toBitVec.getLsbD i = x.toUInt32.toBitVec.getLsbD (n + i)
  rw [UInt32.toBitVec_shiftRight]
  show (x.toUInt32.toBitVec >>> (((nI n).toUInt32 &&& Int32.toUInt32 31).toBitVec % 32).toNat).getLsbD i = _
  rw [s_u n hn, BitVec.getLsbD_ushiftRight]
theorem b_sshr (n : Nat) (hn : n < 32) (x : Int32) {i : Nat} (hi : i < 32) : bt (x >>> (nI n &&& 31)) i = if n + i < 32 then bt x (n + i) else bt x 31 := by
  unfold bt
  rw [Int32.toBitVec_shiftRight]
  show (x.toBitVec.sshiftRight ((nI n &&& 31).toBitVec.smod 32).toNat).getLsbD i = _
  rw [s_l n hn, BitVec.getLsbD_sshiftRight, BitVec.msb_eq_getLsbD_last]
  simp [hi]
theorem b_shl8 (x : Int32) {i : Nat} (hi : i < 32) : bt (x <<< ((8 : Int32) &&& 31)) i = (decide (8 ≤ i) && bt x (i - 8)) := b_shl 8 (by omega) x hi
theorem b_shl16 (x : Int32) {i : Nat} (hi : i < 32) : bt (x <<< ((16 : Int32) &&& 31)) i = (decide (16 ≤ i) && bt x (i - 16)) := b_shl 16 (by omega) x hi
theorem b_shl24 (x : Int32) {i : Nat} (hi : i < 32) : bt (x <<< ((24 : Int32) &&& 31)) i = (decide (24 ≤ i) && bt x (i - 24)) := b_shl 24 (by omega) x hi
theorem b_sshr8 (x : Int32) {i : Nat} (hi : i < 32) : bt (x >>> ((8 : Int32) &&& 31)) i = if 8 + i < 32 then bt x (8 + i) else bt x 31 := b_sshr 8 (by omega) x hi
theorem b_sl8 (x : Int32) {i : Nat} (hi : i < 32) : bt (x <<< (8 : Int32)) i = (decide (8 ≤ i) && bt x (i - 8)) := by
  rw [show (8 : Int32) = (8 : Int32) &&& 31 from by decide]
  exact b_shl8 x hi
theorem bw_b (b : Nat → Int32) {i : Nat} (hi : i < 32) : bt (b_w b) i = (if i < 8 then bt (b 0) i else if i < 16 then bt (b 1) (i - 8) else if i < 24 then bt (b 2) (i - 16) else bt (b 3) (i - 24)) := by
  unfold b_w
  rw [b_or, b_and, b_255, b_sl8 _ hi]
  by_cases h1 : i < 8
  · simp [h1, Nat.not_le.mpr h1]
  · rw [if_neg h1, b_or, b_and, b_255, b_sl8 _ (show i - 8 < 32 by omega)]
    by_cases h2 : i < 16
    · rw [if_pos h2]
      simp [h1, show i - 8 < 8 by omega, show ¬ 8 ≤ i - 8 by omega, show 8 ≤ i by omega]
    · rw [if_neg h2, b_or, b_and, b_255, b_sl8 _ (show i - 8 - 8 < 32 by omega), show i - 8 - 8 = i - 16 by omega]
      by_cases h3 : i < 24
      · rw [if_pos h3]
        simp [h1, show ¬ i - 8 < 8 by omega, show 8 ≤ i - 8 by omega, show i - 16 < 8 by omega, show ¬ 8 ≤ i - 16 by omega, show 8 ≤ i by omega]
      · rw [if_neg h3, b_and, b_255, show i - 16 - 8 = i - 24 by omega]
        simp [h1, show ¬ i - 8 < 8 by omega, show 8 ≤ i - 8 by omega, show ¬ i - 16 < 8 by omega, show 8 ≤ i - 16 by omega, show 8 ≤ i by omega, show i - 24 < 8 by omega]
theorem pt_1 (b : Nat → Int32) {o : Nat} (ho : o < 4) : ((b_w b).toUInt32 >>> ((nI (8 * o)).toUInt32 &&& Int32.toUInt32 31)).toInt32 &&& 255 = b o &&& 255 := by
  refine b_ext (fun i hi => ?_)
  rw [b_and, b_and, b_ushr (8 * o) (by omega), b_255]
  by_cases h : i < 8
  · rw [bw_b b (by omega)]
    have : o = 0 ∨ o = 1 ∨ o = 2 ∨ o = 3 := by omega
    rcases this with rfl | rfl | rfl | rfl
    · rw [if_pos (by omega), show 8 * 0 + i = i by omega]
    · rw [if_neg (by omega), if_pos (by omega), show 8 * 1 + i - 8 = i by omega]
    · rw [if_neg (by omega), if_neg (by omega), if_pos (by omega), show 8 * 2 + i - 16 = i by omega]
    · rw [if_neg (by omega), if_neg (by omega), if_neg (by omega), show 8 * 3 + i - 24 = i by omega]
  · simp [h]
theorem pt_2 (b : Nat → Int32) {o : Nat} (ho : o = 0 ∨ o = 2) : ((b_w b).toUInt32 >>> ((nI (8 * o)).toUInt32 &&& Int32.toUInt32 31)).toInt32 &&& 65535 = ((b (o + 1) &&& 255) <<< ((8 : Int32) &&& 31)) ||| (b o &&& 255) := by
  refine b_ext (fun i hi => ?_)
  rw [b_and, b_or, b_and, b_shl8 _ hi, b_and, b_ushr (8 * o) (by omega), b_255, b_255, b_65535]
  by_cases h : i < 16
  · rw [bw_b b (by omega)]
    rcases ho with rfl | rfl
    · rw [show 8 * 0 + i = i by omega]
      by_cases h1 : i < 8
      · simp [h, h1, show ¬ 8 ≤ i by omega]
      · simp [h, h1, show 8 ≤ i by omega, show i - 8 < 8 by omega]
    · rw [if_neg (by omega), if_neg (by omega)]
      by_cases h1 : i < 8
      · rw [if_pos (by omega), show 8 * 2 + i - 16 = i by omega]
        simp [h, h1, show ¬ 8 ≤ i by omega]
      · rw [if_neg (by omega), show 8 * 2 + i - 24 = i - 8 by omega]
        simp [h, h1, show 8 ≤ i by omega, show i - 8 < 8 by omega]
  · simp [h, show ¬ i < 8 by omega, show ¬ i - 8 < 8 by omega]
theorem pt_4 (b : Nat → Int32) : ((b_w b).toUInt32 >>> ((nI (8 * 0)).toUInt32 &&& Int32.toUInt32 31)).toInt32 &&& (-1) = b_w b := by
  refine b_ext (fun i hi => ?_)
  rw [b_and, b_ushr (8 * 0) (by omega), b_m1 i hi, Bool.and_true, show 8 * 0 + i = i by omega]
theorem s0_8 (x : Int32) : (0 : Int32) <<< ((8 : Int32) &&& 31) ||| x = x := by
  refine b_ext (fun i hi => ?_)
  rw [b_or, b_shl8 _ hi, b_0]
  simp
/-! places: the word, the place in it -/
theorem pl_s {v : Nat} (h : v < 2 ^ 31) : nI v >>> ((2 : Int32) &&& 31) = nI (v / 4) := pk_shrN h _ 2 (by decide)
theorem pl_a {v : Nat} (h : v < 2 ^ 31) : nI v &&& (3 : Int32) = nI (v % 4) := pk_andN (by omega) 2 (by decide)
def m_k (n : Nat) : Int32 := if n = 4 then -1 else if n = 2 then 65535 else 255
theorem ke_maskOf {L : c_L} {K : c_S} {n : Nat} {Q : Int32 → c_S → Prop} (hn : n = 1 ∨ n = 2 ∨ n = 4) (h : Q (m_k n) K) : km_X4_maskOf L K (nI n) Q := by
  rcases hn with rfl | rfl | rfl
  · exact bt_ (by decide) h
  · exact bt_ (by decide) h
  · exact bf_ (by decide) h
theorem ke_holds {L : c_L} {K : c_S} {p B : Nat} {x : Int32} {Q : Int32 → c_S → Prop} (hB : c_I K 800 p = nI B) (B31 : B < 2 ^ 31) (h : Q (if x < 0 ∨ nI B ≤ x then 0 else 1) K) : km_X4_holds L K p x Q := by
  by_cases c : x < 0
  · rw [if_pos (Or.inl c)] at h; exact bt_ c ⟨nb_0, h⟩
  · refine bf_ c ?_
    rw [hB]
    by_cases c2 : nI B ≤ x
    · rw [if_pos (Or.inr c2)] at h; exact bt_ c2 ⟨nb_0, h⟩
    · rw [if_neg (fun z => z.elim c c2)] at h; exact bf_ c2 ⟨nb_1, h⟩
theorem CM_p {L : c_L} {Z : z_C} {K : c_S} {R : r_S} (h : CM L Z K R) {p : Nat} (hp : p < z_np Z) : z_by Z p ≤ 8192 ∧ 256 ≤ z_by Z p ∧ z_by Z p % 4 = 0 ∧ c_I K 800 p = nI (z_by Z p) ∧ r_A R 2425 p = nI (z_by Z p) ∧ z_by Z p / 4 ≤ c_ln L 801 p ∧ z_by Z p / 4 ≤ c_ln L 802 p ∧ c_ln L 801 p < 2 ^ 31 ∧ c_ln L 802 p < 2 ^ 31 := (h p hp).1
theorem ME_w {b : Nat} {L : c_L} {Z : z_C} {K : c_S} {R : r_S} (w : WR b L Z K R) {p i : Nat} (hp : p < z_np Z) (hi : i < z_by Z p / 4) (hv : p < z_mv Z) : c_A K 801 p i = b_w (fun n => r_A R 2466 (8192 * p + (4 * i + n))) := (w.1.2.2.2.2.1.1 p hp i hi).1 hv
/-- n bytes from v on, as the reference reads them -/
def r_by (R : r_S) (p v n : Nat) : Int32 := if n = 4 then b_w (fun i => r_A R 2466 (8192 * p + (v + i))) else if n = 2 then ((r_A R 2466 (8192 * p + (v + 1)) &&& 255) <<< ((8 : Int32) &&& 31)) ||| (r_A R 2466 (8192 * p + v) &&& 255) else r_A R 2466 (8192 * p + v) &&& 255
theorem ke_partAt {b : Nat} {L : c_L} {Z : z_C} {K : c_S} {R : r_S} {p v n : Nat} {Q : Int32 → c_S → Prop} (w : WR b L Z K R) (hp : p < z_np Z) (hm : p < z_mv Z) (hv : v < z_by Z p) (hn : n = 1 ∨ n = 2 ∨ n = 4) (ha : v % n = 0) (h : Q (r_by R p v n) K) : km_X4_partAt L K p (nI v) (nI n) Q := by
  obtain ⟨b1, b2, b3, b4, b5, b6, b7, b8, b9⟩ := CM_p (WR_cm w) hp
  refine ke_holds b4 (by omega) ?_
  rw [if_neg (fun z => z.elim (nI_pos (by omega)) (nI_ge hv (by omega)))]
  refine bf_ (by decide) ?_
  rw [pl_s (by omega), pl_a (by omega), show (8 : Int32) = nI 8 from rfl, pk_mul, nI_clamp (by omega)]
  refine ⟨vp_in_nI (by omega) (by omega), ke_maskOf hn ?_⟩
  rw [ME_w w hp (show v / 4 < z_by Z p / 4 by omega) hm]
  rcases hn with rfl | rfl | rfl
  · show Q (((b_w (fun n => r_A R 2466 (8192 * p + (4 * (v / 4) + n)))).toUInt32 >>> ((nI (8 * (v % 4))).toUInt32 &&& Int32.toUInt32 31)).toInt32 &&& 255) K
    rw [pt_1 _ (by omega), show 4 * (v / 4) + v % 4 = v by omega]
    exact h
  · show Q (((b_w (fun n => r_A R 2466 (8192 * p + (4 * (v / 4) + n)))).toUInt32 >>> ((nI (8 * (v % 4))).toUInt32 &&& Int32.toUInt32 31)).toInt32 &&& 65535) K
    rw [pt_2 _ (by omega), show 4 * (v / 4) + (v % 4 + 1) = v + 1 by omega, show 4 * (v / 4) + v % 4 = v by omega]
    exact h
  · show Q (((b_w (fun n => r_A R 2466 (8192 * p + (4 * (v / 4) + n)))).toUInt32 >>> ((nI (8 * (v % 4))).toUInt32 &&& Int32.toUInt32 31)).toInt32 &&& (-1)) K
    rw [ha, pt_4, show 4 * (v / 4) = v by omega]
    exact h
theorem re_read {R : r_S} {p v n : Nat} {Q : Option Value → r_S → Prop} (hp : p < 16) (hn : n = 1 ∨ n = 2 ∨ n = 4) (hv : v + n ≤ 8192) (h : Q (some (.int (r_by R p v n))) R) : rm_X12_read R (nI p) (nI v) (nI n) Q := by
  have e : ∀ i : Nat, (8192 : Int32) * nI p + nI v + nI i = nI (8192 * p + (v + i)) := fun i => by rw [show (8192 : Int32) = nI 8192 from rfl, pk_mul, nI_add, nI_add, Nat.add_assoc]
  have st : ∀ (d i : Nat) (acc : Int32), i < 4 → v + i < 8192 → rl_X12_read_8 d R (nI p) (nI v) ((acc <<< ((8 : Int32) &&& 31)) ||| (r_A R 2466 (8192 * p + (v + i)) &&& 255)) (nI i + (-1)) Q → rl_X12_read_8 (d + 1) R (nI p) (nI v) acc (nI i) Q := fun d i acc hi hvi hh => by
    refine bf_ (nI_pos (by omega)) ?_
    rw [e, nI_clamp (by omega)]
    exact ⟨ri_v (n := 131072) rfl (by omega) (by decide), hh⟩
  have en : ∀ acc : Int32, Q (some (.int acc)) R → rl_X12_read_8 1 R (nI p) (nI v) acc (-1) Q := fun acc hh => bt_ (by decide) hh
  rcases hn with rfl | rfl | rfl
  · refine ⟨2, st 1 0 0 (by decide) (by omega) ?_⟩
    rw [s0_8]
    exact en _ h
  · refine ⟨3, st 2 1 0 (by decide) (by omega) ?_⟩
    rw [s0_8]
    exact st 1 0 _ (by decide) (by omega) (en _ h)
  · refine ⟨5, st 4 3 0 (by decide) (by omega) ?_⟩
    rw [s0_8]
    exact st 3 2 _ (by decide) (by omega) (st 2 1 _ (by decide) (by omega) (st 1 0 _ (by decide) (by omega) (en _ h)))
