/-! Fetching. -/
theorem sx_8 (x : Int32) : (x <<< ((24 : Int32) &&& 31)) >>> ((24 : Int32) &&& 31) = x.toInt8.toInt32 := by
  refine b_ext (fun i hi => ?_)
  have s : bt ((x <<< ((24 : Int32) &&& 31)) >>> ((24 : Int32) &&& 31)) i = if 24 + i < 32 then bt (x <<< ((24 : Int32) &&& 31)) (24 + i) else bt (x <<< ((24 : Int32) &&& 31)) 31 := b_sshr 24 (by decide) _ hi
  have r : bt x.toInt8.toInt32 i = if i < 8 then bt x i else bt x 7 := by
    show ((x.toBitVec.signExtend 8).signExtend 32).getLsbD i = _
    rw [BitVec.getLsbD_signExtend, BitVec.msb_eq_getLsbD_last, BitVec.getLsbD_signExtend, BitVec.getLsbD_signExtend]
    unfold bt
    by_cases c : i < 8
    · simp [c, hi]
    · simp [c, hi]
  rw [s, r]
  by_cases c : i < 8
  · rw [if_pos (by omega), if_pos c, b_shl24 x (by omega), decide_eq_true (by omega), Bool.true_and, show 24 + i - 24 = i by omega]
  · rw [if_neg (by omega), if_neg c, b_shl24 x (by omega), decide_eq_true (by omega), Bool.true_and]
theorem sx_16 (x : Int32) : (x <<< ((16 : Int32) &&& 31)) >>> ((16 : Int32) &&& 31) = x.toInt16.toInt32 := by
  refine b_ext (fun i hi => ?_)
  have s : bt ((x <<< ((16 : Int32) &&& 31)) >>> ((16 : Int32) &&& 31)) i = if 16 + i < 32 then bt (x <<< ((16 : Int32) &&& 31)) (16 + i) else bt (x <<< ((16 : Int32) &&& 31)) 31 := b_sshr 16 (by decide) _ hi
  have r : bt x.toInt16.toInt32 i = if i < 16 then bt x i else bt x 15 := by
    show ((x.toBitVec.signExtend 16).signExtend 32).getLsbD i = _
    rw [BitVec.getLsbD_signExtend, BitVec.msb_eq_getLsbD_last, BitVec.getLsbD_signExtend, BitVec.getLsbD_signExtend]
    unfold bt
    by_cases c : i < 16
    · simp [c, hi]
    · simp [c, hi]
  rw [s, r]
  by_cases c : i < 16
  · rw [if_pos (by omega), if_pos c, b_shl16 x (by omega), decide_eq_true (by omega), Bool.true_and, show 16 + i - 16 = i by omega]
  · rw [if_neg (by omega), if_neg c, b_shl16 x (by omega), decide_eq_true (by omega), Bool.true_and]
/-- a place of N bytes: wrong on both sides alike, or a place -/
theorem P_place {b : Nat} {L : c_L} {Z : z_C} {K : c_S} {R : r_S} {p j N k : Nat} {v m : Int32} (x : MX b L Z K R p j) (hN : N = 2 ^ k) (hk : k ≤ 2) (hm : nI N - (1 : Int32) = m) (hm2 : m.toBitVec.toNat = 2 ^ k - 1) : (¬ v &&& m = 0 ∧ ¬ v - v / nI N * nI N = 0) ∨ (v &&& m = 0 ∧ v - v / nI N * nI N = 0 ∧ (v < 0 ∨ nI (z_by Z p) ≤ v) ∧ (v < 0 ∨ ¬ v < 0 ∧ r_A R 2425 p - nI N < v)) ∨ (v &&& m = 0 ∧ v - v / nI N * nI N = 0 ∧ ∃ n : Nat, v = nI n ∧ n < z_by Z p ∧ n % N = 0 ∧ ¬ v < 0 ∧ ¬ r_A R 2425 p - nI N < v ∧ n + N ≤ z_by Z p) := by
  have al := al_4 v hN hk rfl hm2
  have N4 : N = 1 ∨ N = 2 ∨ N = 4 := by
    have : k = 0 ∨ k = 1 ∨ k = 2 := by omega
    rcases this with rfl | rfl | rfl
    · exact Or.inl hN
    · exact Or.inr (Or.inl hN)
    · exact Or.inr (Or.inr hN)
  obtain ⟨b1, b2, b3, b4, b5, -⟩ := CM_p (WR_cm x.1) x.2.2.1.1
  by_cases c : v &&& m = 0
  · have c2 := al.mp c
    by_cases v0 : v < 0
    · exact Or.inr (Or.inl ⟨c, c2, Or.inl v0, Or.inl v0⟩)
    · obtain ⟨n, hn, rfl⟩ := nI_of v0
      have nm : n % N = 0 := by
        rw [pk_rem hn (by omega) (by omega), show (0 : Int32) = nI 0 from rfl, nI_eq (by have := Nat.mod_lt n (show N > 0 by omega); omega) (by decide)] at c2
        exact c2
      rw [b5, pk_sub (by omega)]
      by_cases cb : n < z_by Z p
      · have : n + N ≤ z_by Z p := by
          rcases N4 with rfl | rfl | rfl <;> omega
        exact Or.inr (Or.inr ⟨c, c2, n, rfl, cb, nm, v0, nI_nlt (by omega) (by omega), this⟩)
      · exact Or.inr (Or.inl ⟨c, c2, Or.inr (nI_le (by omega) (by omega)), Or.inr ⟨v0, nI_lt (by omega) (by omega)⟩⟩)
  · exact Or.inl ⟨c, fun z => c (al.mpr z)⟩
def fu_ (t : Nat) (u : Int32) : Int32 := if t = 0 then u.toInt8.toInt32 else if t = 1 then u.toInt16.toInt32 else u
theorem XE_3 {b : Nat} {L : c_L} {Z : z_C} {K : c_S} {R : r_S} {p j : Nat} {w : Int32} (x : MX b L Z K R p j) (e6 : c_I K 600 0 = w) : XE (b + 64) L Z p (16 * p + j) (km_X3_fetch L K 0 (some (16 * p + j)) (some p) w) (rb_X12_execute_565 R (nI p) (nI (16 * p + j)) w ((w >>> ((7 : Int32) &&& 31)) &&& (31 : Int32)) ((w >>> ((12 : Int32) &&& 31)) &&& (7 : Int32)) (r_A R 2477 (((32 : Int32) * nI (16 * p + j)) + ((w >>> ((15 : Int32) &&& 31)) &&& (31 : Int32))).toNatClampNeg) (w >>> ((20 : Int32) &&& 31))) := by
  obtain ⟨hp16, hj16, mq, m4⟩ := MX_b x
  have hp := x.2.2.1.1
  obtain ⟨i1, h1, e1⟩ := rg_31 w ((15 : Int32) &&& 31)
  obtain ⟨t, ht, et⟩ := fq_7 w ((12 : Int32) &&& 31)
  have ej := nI_clamp (n := 16 * p + j) (by omega)
  have cp := nI_clamp (n := p) (by omega)
  have vj : vp_in (nI (16 * p + j)) (r_N 2468) := ri_v (n := 256) rfl (by omega) (by decide)
  have vp : vp_in (nI p) (r_N 2425) := ri_v (n := 16) rfl (by omega) (by decide)
  have v1 : vp_in ((w >>> ((15 : Int32) &&& 31)) &&& (31 : Int32)) 32 := by rw [e1]; exact v32 h1
  have x1 : c_A K 1411 (16 * p + j) ((w >>> ((15 : Int32) &&& 31)) &&& (31 : Int32)).toNatClampNeg = r_A R 2477 (32 * (16 * p + j) + i1) := by rw [e1, nI_clamp (by omega)]; exact MX_reg x h1
  have x2 : r_A R 2477 (((32 : Int32) * nI (16 * p + j)) + ((w >>> ((15 : Int32) &&& 31)) &&& (31 : Int32))).toNatClampNeg = r_A R 2477 (32 * (16 * p + j) + i1) := by rw [e1, q_32, nI_clamp (by omega)]
  have bad : XE (b + 64) L Z p (16 * p + j) (fun Q => Q 0 K) (rb_X12_execute_577 R (nI (16 * p + j)) w) := XE_bad (k := 0) x (by decide) e6 (fun Q hQ => hQ) (fun Q hQ => hQ)
  obtain ⟨b1, b2, b3, b4, b5, -⟩ := CM_p (WR_cm x.1) hp
  have hmv : p < z_mv Z := x.2.2.2.2.2.1.2.2.1
  rw [x2]
  by_cases c3 : t = 3
  · have z3 : (w >>> ((12 : Int32) &&& 31)) &&& (7 : Int32) = 3 := by rw [et, c3]; rfl
    exact XE_c bad (fun Q hQ => bt_ z3 hQ) (fun Q hQ => bt_ z3 hQ)
  have n3 : ¬ (w >>> ((12 : Int32) &&& 31)) &&& (7 : Int32) = 3 := fun z => c3 ((lit_8 (by omega) (by decide)).mp (et.symm.trans z))
  by_cases c5 : t ≤ 5
  case neg =>
    have n5 : ¬ (w >>> ((12 : Int32) &&& 31)) &&& (7 : Int32) ≤ 5 := by rw [et]; exact nI_ge (a := 5) (by omega) (by omega)
    exact XE_c bad (fun Q hQ => bf_ n3 (bf_ n5 hQ)) (fun Q hQ => bf_ n3 (bf_ n5 hQ))
  case pos =>
    have l5 : (w >>> ((12 : Int32) &&& 31)) &&& (7 : Int32) ≤ 5 := by rw [et]; exact nI_le (b := 5) c5 (by decide)
    refine XE_c ?_ (fun Q hQ => bf_ n3 (bt_ l5 ⟨_, rfl, mq, v1, _, rfl, m4, hQ⟩)) (fun Q hQ => bf_ n3 (bt_ l5 hQ))
    rw [x1, et]
    generalize r_A R 2477 (32 * (16 * p + j) + i1) + (w >>> ((20 : Int32) &&& 31)) = v
    obtain ⟨N, k, m, hN, hk, hm, hm2, hs⟩ : ∃ (N k : Nat) (m : Int32), N = 2 ^ k ∧ k ≤ 2 ∧ nI N - (1 : Int32) = m ∧ m.toBitVec.toNat = 2 ^ k - 1 ∧ (1 : Int32) <<< ((nI t &&& (3 : Int32)) &&& 31) = nI N := by
      have : t = 0 ∨ t = 1 ∨ t = 2 ∨ t = 4 ∨ t = 5 := by omega
      rcases this with rfl | rfl | rfl | rfl | rfl
      · exact ⟨1, 0, 0, by decide, by decide, by decide, by decide, by decide⟩
      · exact ⟨2, 1, 1, by decide, by decide, by decide, by decide, by decide⟩
      · exact ⟨4, 2, 3, by decide, by decide, by decide, by decide, by decide⟩
      · exact ⟨1, 0, 0, by decide, by decide, by decide, by decide, by decide⟩
      · exact ⟨2, 1, 1, by decide, by decide, by decide, by decide, by decide⟩
    have N4 : N = 1 ∨ N = 2 ∨ N = 4 := by
      have : k = 0 ∨ k = 1 ∨ k = 2 := by omega
      rcases this with rfl | rfl | rfl
      · exact Or.inl hN
      · exact Or.inr (Or.inl hN)
      · exact Or.inr (Or.inr hN)
    have N0 : ¬ nI N = 0 := nI_ne0 (by omega) (by omega)
    have l0 : nI t = 0 ↔ t = 0 := lit_8 (c := 0) (by omega) (by decide)
    have l1 : nI t = 1 ↔ t = 1 := lit_8 (c := 1) (by omega) (by decide)
    unfold rm_X12_load_ km_X3_wrongPlace kb_X3_wrongPlace_14
    rw [hs, hm]
    rcases P_place (v := v) x hN hk hm hm2 with ⟨p1, p2⟩ | ⟨p1, p2, p3, p4⟩ | ⟨p1, p2, n, rfl, p4, p5, p6, p7, p8⟩
    · refine XE_bad (k := 4) (MX_600 (v := v) x) (by decide) c_Is (fun Q hQ => ke_holds b4 (by omega) (nf_ p1 (bf_ p1 ?_))) (fun Q hQ => ⟨N0, bf_ p2 (dmo (drm_X12_fails _ _ _ _) hQ (fun r s h => ⟨h.1, rfl, h.2⟩))⟩)
      exact bf_ (by decide) hQ
    · refine XE_bad (k := 1) (MX_600 (v := v) x) (by decide) c_Is (fun Q hQ => ke_holds b4 (by omega) ?_) (fun Q hQ => ⟨N0, bt_ p2 ?_⟩)
      · rw [if_pos p3]
        exact nt_ p1 (bt_ rfl (bt_ p1 (bf_ (by decide) hQ)))
      · rcases p4 with p4 | p4
        · exact bt_ p4 ⟨nb_0, _, rfl, nt_ rfl (dmo (drm_X12_fails _ _ _ _) hQ (fun r s h => ⟨h.1, rfl, h.2⟩))⟩
        · refine bf_ p4.1 ⟨vp, ?_⟩
          rw [cp]
          exact bt_ p4.2 ⟨nb_0, _, rfl, nt_ rfl (dmo (drm_X12_fails _ _ _ _) hQ (fun r s h => ⟨h.1, rfl, h.2⟩))⟩
    · have nh : ¬ (nI n < 0 ∨ nI (z_by Z p) ≤ nI n) := fun z => z.elim p6 (nI_ge p4 (by omega))
      refine XE_c (XE_fin (w := w) (result := fu_ t (r_by R p n N)) (next := r_A R 2468 (16 * p + j) + 4) x) (fun Q hQ => ke_holds b4 (by omega) ?_) (fun Q hQ => ⟨N0, bt_ p2 (bf_ p6 ⟨vp, ?_⟩)⟩)
      · rw [if_neg nh]
        refine nt_ p1 (bf_ (by decide) (bt_ rfl (ke_partAt x.1 hp hmv p4 N4 p5 ?_)))
        have fin : ∀ u : Int32, u = fu_ t (r_by R p n N) → kb_X3_fetch_109 L K 0 (some (16 * p + j)) w u Q := fun u hu => ⟨_, rfl, mq, by rw [MX_pc x, hu]; exact hQ⟩
        by_cases t0 : t = 0
        · exact nt_ (l0.mpr t0) (fin _ (by unfold fu_; rw [if_pos t0]))
        · by_cases t1 : t = 1
          · exact nf_ (fun z => t0 (l0.mp z)) (nt_ (l1.mpr t1) (fin _ (by unfold fu_; rw [if_neg t0, if_pos t1])))
          · exact nf_ (fun z => t0 (l0.mp z)) (nf_ (fun z => t1 (l1.mp z)) (fin _ (by unfold fu_; rw [if_neg t0, if_neg t1])))
      · rw [cp]
        refine bf_ p7 ⟨nb_1, _, rfl, nf_ (by decide) (re_read hp16 N4 (by omega) ⟨_, rfl, ?_⟩)⟩
        have fin : ∀ u : Int32, u = fu_ t (r_by R p n N) → rb_X12_load__95 R (nI (16 * p + j)) (nI (16 * p + j)) ((w >>> ((7 : Int32) &&& 31)) &&& (31 : Int32)) u (fun r118_ S119_ => r118_ = none ∧ (rb_X12_execute_603 S119_ Q)) := fun u hu => by
          subst hu
          unfold rb_X12_load__95
          unfold rm_X12_set rb_X12_set_16 at hQ ⊢
          rw [ej]
          refine ⟨fun z => ⟨rfl, vj, vj, rfl, ((hQ.1 z).2).2⟩, fun z => ⟨(hQ.2 z).1, rfl, vj, vj, rfl, ?_⟩⟩
          rw [r_An (Or.inl (by decide))]
          exact (hQ.2 z).2.2.2
        by_cases t0 : t = 0
        · exact nt_ (l0.mpr t0) (fin _ (by rw [sx_8]; unfold fu_; rw [if_pos t0]))
        · by_cases t1 : t = 1
          · exact nf_ (fun z => t0 (l0.mp z)) (nt_ (l1.mpr t1) (fin _ (by rw [sx_16]; unfold fu_; rw [if_neg t0, if_pos t1])))
          · exact nf_ (fun z => t0 (l0.mp z)) (nf_ (fun z => t1 (l1.mp z)) (fin _ (by unfold fu_; rw [if_neg t0, if_neg t1])))
/-! Storing. -/
theorem i8_b (x : Int32) {i : Nat} (hi : i < 8) : bt x.toInt8.toInt32 i = bt x i := by
  show ((x.toBitVec.signExtend 8).signExtend 32).getLsbD i = x.toBitVec.getLsbD i
  rw [BitVec.getLsbD_signExtend, BitVec.getLsbD_signExtend]
  simp [hi, show i < 32 by omega]
theorem mk_b {N : Nat} (hN : N = 1 ∨ N = 2 ∨ N = 4) {i : Nat} (hi : i < 32) : bt (m_k N) i = decide (i < 8 * N) := by
  rcases hN with rfl | rfl | rfl
  · exact b_255 i
  · exact b_65535 i
  · rw [show m_k 4 = -1 from rfl, b_m1 i hi, decide_eq_true (by omega)]
theorem pw_b (W V : Int32) {c N i : Nat} (hN : N = 1 ∨ N = 2 ∨ N = 4) (hc : c + N ≤ 4) (hi : i < 32) : bt ((W &&& ((m_k N <<< (nI (8 * c) &&& 31)) ^^^ (-1 : Int32))) ||| ((V <<< (nI (8 * c) &&& 31)) &&& (m_k N <<< (nI (8 * c) &&& 31)))) i = if 8 * c ≤ i ∧ i < 8 * c + 8 * N then bt V (i - 8 * c) else bt W i := by
  have h8 : 8 * c < 32 := by omega
  rw [b_or, b_and, b_xor, b_and, b_shl (8 * c) h8 _ hi, b_shl (8 * c) h8 _ hi, b_m1 i hi]
  by_cases a : 8 * c ≤ i
  · rw [mk_b hN (show i - 8 * c < 32 by omega), decide_eq_true a]
    by_cases d : i < 8 * c + 8 * N
    · rw [if_pos ⟨a, d⟩, decide_eq_true (show i - 8 * c < 8 * N by omega)]
      simp
    · rw [if_neg (fun z => d z.2), decide_eq_false (show ¬ i - 8 * c < 8 * N by omega)]
      simp
  · rw [if_neg (fun z => a z.1), decide_eq_false a]
    simp
def r_sb (R : r_S) (p n : Nat) (V : Int32) : Nat → r_S
  | 0 => R
  | k + 1 => rs_A (r_sb R p n V k) 2466 (8192 * p + (n + k)) ((V >>> (nI (8 * k) &&& 31)).toInt8.toInt32)
theorem sb_I {R : r_S} {p n : Nat} {V : Int32} {f : Nat} (m : Nat) : r_I (r_sb R p n V m) f = r_I R f := by
  induction m with
  | zero => rfl
  | succ m ih => exact ih
theorem sb_o {R : r_S} {p n f i : Nat} {V : Int32} (m : Nat) (h : f ≠ 2466 ∨ ¬ (8192 * p + n ≤ i ∧ i < 8192 * p + n + m)) : r_A (r_sb R p n V m) f i = r_A R f i := by
  induction m with
  | zero => rfl
  | succ m ih =>
    show r_A (rs_A (r_sb R p n V m) 2466 (8192 * p + (n + m)) _) f i = _
    rw [r_An (by omega)]
    exact ih (by omega)
theorem sb_w {R : r_S} {p n : Nat} {V : Int32} (m k : Nat) (h : k < m) : r_A (r_sb R p n V m) 2466 (8192 * p + (n + k)) = (V >>> (nI (8 * k) &&& 31)).toInt8.toInt32 := by
  induction m with
  | zero => omega
  | succ m ih =>
    show r_A (rs_A (r_sb R p n V m) 2466 (8192 * p + (n + m)) _) 2466 (8192 * p + (n + k)) = _
    by_cases c : k = m
    · subst c; rw [r_As]
    · rw [r_An (Or.inr (by omega))]
      exact ih (by omega)
theorem WR_sb {b : Nat} {L : c_L} {Z : z_C} {K : c_S} {R : r_S} {p n N : Nat} {V : Int32} (w : WR b L Z K R) (hp : p < z_np Z) (hmv : p < z_mv Z) (hN : N = 1 ∨ N = 2 ∨ N = 4) (hn : n < z_by Z p) (ha : n % N = 0) : WR b L Z (cs_A K 801 p (n / 4) ((c_A K 801 p (n / 4) &&& ((m_k N <<< (nI (8 * (n % 4)) &&& 31)) ^^^ (-1 : Int32))) ||| ((V <<< (nI (8 * (n % 4)) &&& 31)) &&& (m_k N <<< (nI (8 * (n % 4)) &&& 31))))) (r_sb R p n V N) := by
  have np16 := CQ_np (WR_cq w)
  obtain ⟨b1, b2, b3, b4, b5, -⟩ := CM_p (WR_cm w) hp
  have hc : n % 4 + N ≤ 4 := by rcases hN with rfl | rfl | rfl <;> omega
  have me := w.1.2.2.2.2.1
  have o : ∀ f i : Nat, f ≠ 2466 → r_A (r_sb R p n V N) f i = r_A R f i := fun f i hf => sb_o N (Or.inl hf)
  rw [← zs_id (Z := Z)]
  refine WR_g (m := z_mv Z) w (fun f i _ => rfl) (fun f i m hf => c_An (Or.inl hf)) (fun _ _ => rfl) (fun _ _ => rfl) (fun f => sb_I N) (fun f i hf => o f i (fun z => hf (by rw [z]; decide))) ?_ ?_ ?_
  · exact TH_s w.1.2.1 (NT_of (WR_ct w)) np16 (fun _ _ _ _ => rfl) (fun i m _ => c_An (Or.inl (by decide))) (fun f i hf => o f i (fun z => by rw [z] at hf; exact absurd hf (by decide)))
  · exact CH_s w.1.2.2.1 (fun _ _ _ => rfl) (fun _ _ _ _ => rfl) (fun i m _ => c_An (Or.inl (by decide))) (fun f i hf => o f i (fun z => by rw [z] at hf; exact absurd hf (by decide)))
  · refine ⟨fun p' hp' i hi => ⟨fun hm' => ?_, ?_⟩, fun i => ?_, fun i => ?_⟩
    · show c_A (cs_A K 801 p (n / 4) _) 801 p' i = b_w (fun x => r_A (r_sb R p n V N) 2466 (8192 * p' + (4 * i + x)))
      have hi : i < z_by Z p' / 4 := hi
      have y1' := (CM_p (WR_cm w) (p := p') hp').1
      have e : c_A K 801 p' i = b_w (fun x => r_A R 2466 (8192 * p' + (4 * i + x))) := (me.1 p' hp' i hi).1 hm'
      by_cases c : p' = p ∧ i = n / 4
      · obtain ⟨c1, c2⟩ := c
        subst c1 c2
        rw [c_As]
        refine b_ext (fun y hy => ?_)
        rw [pw_b _ _ hN hc hy, bw_b _ hy, e, bw_b _ hy]
        have key : ∀ z : Nat, z < 4 → 8 * z ≤ y → y < 8 * z + 8 → (if 8 * (n % 4) ≤ y ∧ y < 8 * (n % 4) + 8 * N then bt V (y - 8 * (n % 4)) else bt (r_A R 2466 (8192 * p' + (4 * (n / 4) + z))) (y - 8 * z)) = bt (r_A (r_sb R p' n V N) 2466 (8192 * p' + (4 * (n / 4) + z))) (y - 8 * z) := fun z hz h1 h2 => by
          by_cases d : 8 * (n % 4) ≤ y ∧ y < 8 * (n % 4) + 8 * N
          · rw [if_pos d, show 4 * (n / 4) + z = n + (z - n % 4) by omega, sb_w N (z - n % 4) (by omega), i8_b _ (by omega), b_sshr (8 * (z - n % 4)) (by omega) _ (show y - 8 * z < 32 by omega), if_pos (by omega), show 8 * (z - n % 4) + (y - 8 * z) = y - 8 * (n % 4) by omega]
          · rw [if_neg d, sb_o N (Or.inr (by omega))]
        by_cases y1 : y < 8
        · rw [if_pos y1, if_pos y1]
          have k0 := key 0 (by decide) (by omega) (by omega)
          rw [show y - 8 * 0 = y by omega] at k0
          exact k0
        · rw [if_neg y1, if_neg y1]
          by_cases y2 : y < 16
          · rw [if_pos y2, if_pos y2]
            exact key 1 (by decide) (by omega) (by omega)
          · rw [if_neg y2, if_neg y2]
            by_cases y3 : y < 24
            · rw [if_pos y3, if_pos y3]
              exact key 2 (by decide) (by omega) (by omega)
            · rw [if_neg y3, if_neg y3]
              exact key 3 (by decide) (by omega) (by omega)
      · rw [c_AA, if_neg (fun z => c ⟨z.2.1, z.2.2⟩), e]
        refine bw_c (fun x hx => ?_)
        rw [sb_o N (Or.inr (fun z => c (by omega)))]
    · show c_A (cs_A K 801 p (n / 4) _) 802 p' i = b_w (fun x => r_A (r_sb R p n V N) 2465 (8192 * p' + (4 * i + x)))
      have e : c_A K 802 p' i = b_w (fun x => r_A R 2465 (8192 * p' + (4 * i + x))) := (me.1 p' hp' i hi).2
      rw [c_An (Or.inl (by decide)), e]
      exact bw_c (fun x hx => (o _ _ (by decide)).symm)
    · show fits .byte (.int (r_A (r_sb R p n V N) 2465 i)) = true
      rw [o _ _ (by decide)]
      exact me.2.1 i
    · show fits .byte (.int (r_A (r_sb R p n V N) 2466 i)) = true
      by_cases d : 8192 * p + n ≤ i ∧ i < 8192 * p + n + N
      · rw [show i = 8192 * p + (n + (i - (8192 * p + n))) by omega, sb_w N _ (by omega)]
        exact pk_fb _
      · rw [sb_o N (Or.inr d)]
        exact me.2.2 i
theorem XE_35 {b : Nat} {L : c_L} {Z : z_C} {K : c_S} {R : r_S} {p j : Nat} {w : Int32} (x : MX b L Z K R p j) (e6 : c_I K 600 0 = w) : XE (b + 64) L Z p (16 * p + j) (km_X3_store L K 0 (some (16 * p + j)) (some p) w) (rb_X12_execute_604 R (nI p) (nI (16 * p + j)) w ((w >>> ((12 : Int32) &&& 31)) &&& (7 : Int32)) (r_A R 2477 (((32 : Int32) * nI (16 * p + j)) + ((w >>> ((15 : Int32) &&& 31)) &&& (31 : Int32))).toNatClampNeg) (r_A R 2477 (((32 : Int32) * nI (16 * p + j)) + ((w >>> ((20 : Int32) &&& 31)) &&& (31 : Int32))).toNatClampNeg)) := by
  obtain ⟨hp16, hj16, mq, m4⟩ := MX_b x
  have hp := x.2.2.1.1
  have hj := x.2.2.1.2
  have np16 := CQ_np (WR_cq x.1)
  have cm := WR_cm x.1
  obtain ⟨i1, h1, e1⟩ := rg_31 w ((15 : Int32) &&& 31)
  obtain ⟨i2, h2, e2⟩ := rg_31 w ((20 : Int32) &&& 31)
  obtain ⟨t, ht, et⟩ := fq_7 w ((12 : Int32) &&& 31)
  have ej := nI_clamp (n := 16 * p + j) (by omega)
  have cp := nI_clamp (n := p) (by omega)
  have vj : vp_in (nI (16 * p + j)) (r_N 2468) := ri_v (n := 256) rfl (by omega) (by decide)
  have vp : vp_in (nI p) (r_N 2425) := ri_v (n := 16) rfl (by omega) (by decide)
  have v1 : vp_in ((w >>> ((15 : Int32) &&& 31)) &&& (31 : Int32)) 32 := by rw [e1]; exact v32 h1
  have v2 : vp_in ((w >>> ((20 : Int32) &&& 31)) &&& (31 : Int32)) 32 := by rw [e2]; exact v32 h2
  have x1 : c_A K 1411 (16 * p + j) ((w >>> ((15 : Int32) &&& 31)) &&& (31 : Int32)).toNatClampNeg = r_A R 2477 (32 * (16 * p + j) + i1) := by rw [e1, nI_clamp (by omega)]; exact MX_reg x h1
  have y1 : r_A R 2477 (((32 : Int32) * nI (16 * p + j)) + ((w >>> ((15 : Int32) &&& 31)) &&& (31 : Int32))).toNatClampNeg = r_A R 2477 (32 * (16 * p + j) + i1) := by rw [e1, q_32, nI_clamp (by omega)]
  have x2 : c_A K 1411 (16 * p + j) ((w >>> ((20 : Int32) &&& 31)) &&& (31 : Int32)).toNatClampNeg = r_A R 2477 (32 * (16 * p + j) + i2) := by rw [e2, nI_clamp (by omega)]; exact MX_reg x h2
  have y2 : r_A R 2477 (((32 : Int32) * nI (16 * p + j)) + ((w >>> ((20 : Int32) &&& 31)) &&& (31 : Int32))).toNatClampNeg = r_A R 2477 (32 * (16 * p + j) + i2) := by rw [e2, q_32, nI_clamp (by omega)]
  have bad : XE (b + 64) L Z p (16 * p + j) (fun Q => Q 0 K) (fun Q => rm_X12_fails R (nI (16 * p + j)) (0 : Int32) w (fun r90_ S91_ => r90_ = none ∧ (rb_X12_execute_650 S91_ Q))) := XE_bad (k := 0) x (by decide) e6 (fun Q hQ => hQ) (fun Q hQ => hQ)
  obtain ⟨b1, b2, b3, b4, b5, b6, b7, b8, b9⟩ := CM_p cm hp
  have hmv : p < z_mv Z := x.2.2.2.2.2.1.2.2.1
  rw [y1, y2]
  by_cases c2 : t ≤ 2
  case neg =>
    have n2 : ¬ (w >>> ((12 : Int32) &&& 31)) &&& (7 : Int32) ≤ 2 := by rw [et]; exact nI_ge (a := 2) (by omega) (by omega)
    exact XE_c bad (fun Q hQ => bf_ n2 hQ) (fun Q hQ => bf_ n2 hQ)
  case pos =>
    have l2 : (w >>> ((12 : Int32) &&& 31)) &&& (7 : Int32) ≤ 2 := by rw [et]; exact nI_le (b := 2) c2 (by decide)
    refine XE_c ?_ (fun Q hQ => bt_ l2 ⟨_, rfl, mq, v1, _, rfl, m4, hQ⟩) (fun Q hQ => bt_ l2 hQ)
    rw [x1, et]
    generalize r_A R 2477 (32 * (16 * p + j) + i1) + (((w >>> ((25 : Int32) &&& 31)) <<< ((5 : Int32) &&& 31)) ||| ((w >>> ((7 : Int32) &&& 31)) &&& (31 : Int32))) = v
    obtain ⟨N, k, m, hN, hk, hm, hm2, hs⟩ : ∃ (N k : Nat) (m : Int32), N = 2 ^ k ∧ k ≤ 2 ∧ nI N - (1 : Int32) = m ∧ m.toBitVec.toNat = 2 ^ k - 1 ∧ (1 : Int32) <<< (nI t &&& 31) = nI N := by
      have : t = 0 ∨ t = 1 ∨ t = 2 := by omega
      rcases this with rfl | rfl | rfl
      · exact ⟨1, 0, 0, by decide, by decide, by decide, by decide, by decide⟩
      · exact ⟨2, 1, 1, by decide, by decide, by decide, by decide, by decide⟩
      · exact ⟨4, 2, 3, by decide, by decide, by decide, by decide, by decide⟩
    have N4 : N = 1 ∨ N = 2 ∨ N = 4 := by
      have : k = 0 ∨ k = 1 ∨ k = 2 := by omega
      rcases this with rfl | rfl | rfl
      · exact Or.inl hN
      · exact Or.inr (Or.inl hN)
      · exact Or.inr (Or.inr hN)
    have N0 : ¬ nI N = 0 := nI_ne0 (by omega) (by omega)
    unfold rm_X12_store km_X3_wrongPlace kb_X3_wrongPlace_14
    rw [hs, hm]
    rcases P_place (v := v) x hN hk hm hm2 with ⟨p1, p2⟩ | ⟨p1, p2, p3, p4⟩ | ⟨p1, p2, n, rfl, p4, p5, p6, p7, p8⟩
    · -- not a multiple, wherever it is
      refine XE_bad (k := 4) (MX_600 (v := v) x) (by decide) c_Is (fun Q hQ => ?_) (fun Q hQ => ⟨N0, bf_ p2 (dmo (drm_X12_fails _ _ _ _) hQ (fun r s h => ⟨h.1, rfl, h.2⟩))⟩)
      by_cases inn : v < 0 ∨ nI (z_by Z p) ≤ v
      · exact ke_sortAt0 cm hp inn (bf_ (by decide) (nf_ (by decide) ⟨nb_0, nf_ p1 (bf_ p1 (nf_ (by decide) hQ))⟩))
      · obtain ⟨n, hn, rfl⟩ := nI_of (fun z => inn (Or.inl z))
        have hnb : n < z_by Z p := Classical.byContradiction fun z => inn (Or.inr (nI_le (by omega) hn))
        obtain ⟨i, g1, g2, g3⟩ := re_ex cm hp hnb
        refine ke_sortAt cm hp g1 g2 g3 ?_
        by_cases s1 : r_A R 2429 (6 * p + i) = 1
        · exact bt_ s1 ⟨nb_1, nf_ p1 (bf_ p1 (nf_ (by decide) hQ))⟩
        · by_cases s3 : r_A R 2429 (6 * p + i) = 3
          · exact bf_ s1 (nt_ s3 ⟨nb_1, nf_ p1 (bf_ p1 (nf_ (by decide) hQ))⟩)
          · exact bf_ s1 (nf_ s3 ⟨nb_0, nf_ p1 (bf_ p1 (nf_ (by decide) hQ))⟩)
    · refine XE_bad (k := 1) (MX_600 (v := v) x) (by decide) c_Is (fun Q hQ => ke_sortAt0 cm hp p3 (bf_ (by decide) (nf_ (by decide) ⟨nb_0, nt_ p1 (bt_ rfl (bt_ p1 (nf_ (by decide) hQ)))⟩))) (fun Q hQ => ⟨N0, bt_ p2 ?_⟩)
      have f1 : rm_X12_fails R (nI (16 * p + j)) (1 : Int32) v (fun r2_ S3_ => r2_ = none ∧ ((none : Option Value) = none ∧ (rb_X12_execute_650 S3_ Q))) := dmo (drm_X12_fails _ _ _ _) hQ (fun r s h => ⟨h.1, rfl, h.2⟩)
      rcases p4 with p4 | p4
      · exact bt_ p4 ⟨nb_0, _, rfl, bt_ rfl f1⟩
      · refine bf_ p4.1 ⟨vp, ?_⟩
        rw [cp]
        exact bt_ p4.2 ⟨nb_0, _, rfl, bt_ rfl f1⟩
    · obtain ⟨i, g1, g2, g3⟩ := re_ex cm hp p4
      have within : ∀ Q : Option Value → r_S → Prop, Q (some (.int 1)) R → rm_X12_isWithin R (nI p) (nI n) (nI N) Q := fun Q hQ => bf_ p6 ⟨vp, by rw [cp]; exact bf_ p7 ⟨nb_1, hQ⟩⟩
      by_cases ss : r_A R 2429 (6 * p + i) = 1 ∨ r_A R 2429 (6 * p + i) = 3
      · have ms : ∀ Q : Int32 → c_S → Prop, Q 1 K → km_X4_mayStore L K p (nI n) Q := fun Q hQ => ke_sortAt cm hp g1 g2 g3 (by
          by_cases s1 : r_A R 2429 (6 * p + i) = 1
          · exact bt_ s1 ⟨nb_1, hQ⟩
          · exact bf_ s1 (nt_ (ss.resolve_left s1) ⟨nb_1, hQ⟩))
        have w2 := WR_sb (V := r_A R 2477 (32 * (16 * p + j) + i2)) x.1 hp hmv N4 p4 p5
        have r68 : r_A (r_sb R p n (r_A R 2477 (32 * (16 * p + j) + i2)) N) 2468 (16 * p + j) = r_A R 2468 (16 * p + j) := sb_o N (Or.inl (by decide))
        refine XE_ok _ _ (WR_w (WR_pc (v := r_A R 2468 (16 * p + j) + 4) w2 hp hj) (by omega)) (fun Q hQ => ms _ (nt_ p1 (bf_ (by decide) (nt_ rfl ⟨v2, ke_holds b4 (by omega) ?_⟩)))) (fun Q hQ => ⟨N0, bt_ p2 (within _ ⟨_, rfl, bf_ (by decide) (re_isIn cm np16 hp g1 g2 g3 ⟨_, rfl, nf_ (by rw [if_pos ss]; decide) ⟨N + 1, ?_⟩⟩)⟩)⟩)
        · rw [if_neg (fun z => z.elim p6 (nI_ge p4 (by omega))), x2]
          refine bf_ (by decide) (ke_maskOf N4 ?_)
          rw [pl_s (by omega), pl_a (by omega), show (8 : Int32) = nI 8 from rfl, pk_mul, nI_clamp (n := n / 4) (by omega)]
          refine ⟨vp_in_nI (by omega) (by omega), vp_in_nI (by omega) (by omega), ?_⟩
          show Q (-1) (cs_I (cs_A K 801 p (n / 4) _) 1410 (16 * p + j) (c_I K 1410 (16 * p + j) + 4))
          rw [MX_pc x]
          exact hQ
        · have lp : ∀ d y : Nat, y + d = N → rl_X12_store_57 (d + 1) (r_sb R p n (r_A R 2477 (32 * (16 * p + j) + i2)) y) (nI p) (nI (16 * p + j)) (nI n) (r_A R 2477 (32 * (16 * p + j) + i2)) (nI N) (nI y) (fun r87_ S88_ => r87_ = none ∧ (rb_X12_execute_650 S88_ Q)) := by
            intro d
            induction d with
            | zero =>
              intro y hy
              obtain rfl : y = N := by omega
              refine bt_ (nI_le (Nat.le_refl _) (by omega)) ⟨vj, vj, rfl, ?_⟩
              rw [ej, r68]
              exact hQ
            | succ d ih =>
              intro y hy
              have e : (8192 : Int32) * nI p + nI n + nI y = nI (8192 * p + (n + y)) := by rw [show (8192 : Int32) = nI 8192 from rfl, pk_mul, nI_add, nI_add, Nat.add_assoc]
              refine bf_ (nI_ge (by omega) (by omega)) ?_
              rw [e, nI_clamp (n := 8192 * p + (n + y)) (by omega), nI_1, show (8 : Int32) = nI 8 from rfl, pk_mul, nar_b (pk_fb _)]
              exact ⟨ri_v (n := 131072) rfl (by omega) (by decide), ih (y + 1) (by omega)⟩
          exact lp N 0 (by omega)
      · have ms : ∀ Q : Int32 → c_S → Prop, Q 0 K → km_X4_mayStore L K p (nI n) Q := fun Q hQ => ke_sortAt cm hp g1 g2 g3 (bf_ (fun z => ss (Or.inl z)) (nf_ (fun z => ss (Or.inr z)) ⟨nb_0, hQ⟩))
        refine XE_bad (k := 1) (MX_600 (v := nI n) x) (by decide) c_Is (fun Q hQ => ms _ (nt_ p1 (bt_ rfl (bt_ p1 (nf_ (by decide) hQ))))) (fun Q hQ => ⟨N0, bt_ p2 (within _ ⟨_, rfl, bf_ (by decide) (re_isIn cm np16 hp g1 g2 g3 ⟨_, rfl, nt_ (by rw [if_neg ss]) ?_⟩)⟩)⟩)
        exact dmo (drm_X12_fails _ _ _ _) hQ (fun r s h => ⟨h.1, rfl, h.2⟩)
