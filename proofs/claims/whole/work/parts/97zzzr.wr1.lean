/-! All that is read, as the relation wants it. -/
def Z_1 (D : CD) (np nc ni nw : Nat) (sp : Nat → Option (Nat × Nat)) (gp : Nat → Nat → Option (Nat × Nat)) (ng ic wo we : Nat → Nat) (K : c_S) : z_C := (np, fun p => D.1 p 5, D.2.1, D.1, nc, ni, nw, ic, fun p => 256 * D.2.2.1 p, D.2.2.2.1, D.2.2.2.2, wo, we, sp, gp, ng, fun i => (c_I K 1601 i).toNatClampNeg, 0, 0, 1, 0, 0)
/-- what is read, without the reader -/
def RDX (D : CD) (np lm nc : Nat) (sp : Nat → Option (Nat × Nat)) (gp : Nat → Nat → Option (Nat × Nat)) (ng ic : Nat → Nat) (ni nw : Nat) (wo we : Nat → Nat) (L : c_L) (K : c_S) (R : r_S) : Prop :=
  PP L K R np lm ∧ (∀ p : Nat, p < np → RQD D L K R p lm) ∧ DH D np ∧ (∀ c : Nat, c < nc → CHN D np L K R c (sp c) (gp c) (ng c) ∧ 1 ≤ ng c) ∧ PC D np nc sp gp ng K R ∧ IC K R nc ni sp ic ∧ (nc ≤ 24 ∧ ni ≤ nc ∧ lm ≤ 14000 ∧ 1 ≤ np ∧ 1 ≤ nw) ∧ (c_I K 1203 0 = nI nc ∧ r_I R 2416 = nI nc) ∧ (c_I K 1205 0 = nI ni ∧ r_I R 2418 = nI ni) ∧ c_I K 1206 0 = r_I R 2419 ∧ WNS np K R nw wo we
/-- what the rows of the running system are then -/
def RDY (D : CD) (np : Nat) (R : r_S) : Prop :=
  (∀ q : Nat, q < 256 → (r_A R 2467 q = 0 ∧ r_A R 2468 q = 0 ∧ r_A R 2470 q = 0 ∧ r_A R 2472 q = -1) ∧ r_A R 2473 q = 0 ∧ r_A R 2474 q = 0 ∧ r_A R 2475 q = 0) ∧ (∀ i : Nat, i < 8192 → r_A R 2477 i = 0) ∧
  (∀ p : Nat, p < 16 → (r_A R 2483 p = 0 ∧ r_A R 2484 p = -1 ∧ r_A R 2485 p = 0) ∧ r_A R 2486 p = 0 ∧ r_A R 2488 p = -1 ∧ r_A R 2491 p = 0) ∧
  (∀ c : Nat, c < 24 → r_A R 2498 c = 0 ∧ r_A R 2501 c = 0 ∧ r_A R 2503 c = 0 ∧ r_A R 2504 c = 0 ∧ r_A R 2505 c = 0) ∧
  ((∀ i : Nat, i < 131072 → r_A R 2465 i = 0) ∧ (∀ i : Nat, fits .byte (.int (r_A R 2465 i)) = true) ∧ ∀ i : Nat, fits .byte (.int (r_A R 2466 i)) = true) ∧
  (∀ p i : Nat, p < np → i < 8 → r_A R 2492 (8 * p + i) = (if i < D.1 p 0 then r_A R 2443 (8 * p + i) else 0) ∧ r_A R 2493 (8 * p + i) = 0 ∧ r_A R 2494 (8 * p + i) = 0 ∧ r_A R 2496 (8 * p + i) = 0) ∧ (∀ p j : Nat, p < np → j < D.1 p 5 → r_A R 2469 (16 * p + j) = r_A R 2437 (16 * p + j)) ∧
  (r_I R 2463 = 0 ∧ r_I R 2464 = 0 ∧ r_I R 2508 = 0 ∧ r_I R 2509 = 0 ∧ r_I R 2510 = 0) ∧ (r_I R 2413 = 1 ∧ r_I R 2414 = 0 ∧ r_I R 2400 = 0)
/-- what stands beside -/
def RDJ (K : c_S) (R : r_S) : Prop := (c_I K 402 0 = r_I R 2508 ∧ c_I K 403 0 = r_I R 2509 ∧ (∀ i : Nat, c_A K 400 0 i = r_A R 2511 i) ∧ ∀ i : Nat, c_A K 401 0 i = r_A R 2512 i) ∧ TX K R
theorem m_J2 {K : c_S} {s i : Nat} : m_J [1401, 2000] K (n_f s) i = c_J K (n_f s) i := by
  unfold n_f
  by_cases z : s = 5
  · rw [if_pos z]; rfl
  · rw [if_neg z]; rfl
theorem WR_1 {b : Nat} {D : CD} {np lm nc : Nat} {sp : Nat → Option (Nat × Nat)} {gp : Nat → Nat → Option (Nat × Nat)} {ng ic : Nat → Nat} {ni nw : Nat} {wo we : Nat → Nat} {L : c_L} {T : q_S} {K : c_S} {R : r_S} (g : c_G L T) (li : LI L) (rd : RDX D np lm nc sp gp ng ic ni nw wo we L K R) (ry : RDY D np R) (rj : RDJ K R) (k11 : c_I K 1211 0 = 0 ∧ c_I K 1212 0 = 0 ∧ c_I K 1213 0 = 1 ∧ c_I K 1214 0 = 0) : WR b L (Z_1 D np nc ni nw sp gp ng ic wo we K) K R := by
  obtain ⟨pp, rqs, dh, chs, pc, icc, ⟨c24, hni, hl, np1, nw1⟩, ⟨k03, r16⟩, ⟨k05, r18⟩, k06, ⟨⟨w1, w2, w3⟩, ⟨w4, w5⟩, w6⟩⟩ := rd
  obtain ⟨y1, y2, y3, y4, ⟨y5, y6, y7⟩, y8, y9, ⟨s1, s2, s3, s4, s5⟩, s6, s7, s8⟩ := ry
  have np16 := pp.1
  have q256 : ∀ p j : Nat, p < np → j < D.1 p 5 → 16 * p + j < 256 := fun p j hp hj => by
    have : D.1 p 5 ≤ 16 := (rqs p hp).2.2.2.1.1 5 (by decide)
    omega
  have pr0 : ∀ q : Nat, q < 256 → p_r R q 0 = 0 := fun q hq => (y1 q hq).1.1
  have pr : ∀ p j : Nat, p < np → j < D.1 p 5 → p_r R (16 * p + j) 0 = 0 := fun p j hp hj => pr0 _ (q256 p j hp hj)
  have n0 : ∀ {x : Int32}, x = 0 → x ≠ 1 ∧ x ≠ 2 ∧ x ≠ 3 := fun h => by rw [h]; exact ⟨by decide, by decide, by decide⟩
  refine ⟨⟨⟨?cq, ?ct, ?cc, ?cm, ?nm⟩, ?th, ?ch, ?inn, ?me, ?jr, ?gl, ?tx⟩, ?dp, ?op, ?ti, ?pd, ?jb⟩
  case cq =>
    refine ⟨np16, fun p hp => ?_⟩
    obtain ⟨h1, h2, h3, h4, h5, h6, h7⟩ := rqs p hp
    refine ⟨⟨h4.1 5 (by decide), h1.1.1, h1.1.2, h4.2.1.1, h4.2.1.2⟩, ?_, h2, fun j hj => ?_⟩
    · have h12 := h1.2.1
      show (match D.2.1 p with | none => c_I K 1008 p = -1 ∧ r_A R 2442 p = -1 | some h => h < D.1 p 5 ∧ c_I K 1008 p = nI h ∧ r_A R 2442 p = nI (16 * p + h))
      cases e : D.2.1 p with
      | none => rw [e] at h12; exact h12
      | some h => rw [e] at h12; exact ⟨h5 h e, h12.2.1, h12.2.2⟩
    · obtain ⟨⟨a1, a2⟩, ⟨b1, b2, b3, b4, b5, b6⟩, ⟨d1, d2, d3⟩, _⟩ := h6 j hj
      have m7 := h4.2.2.2.1 j hj
      exact ⟨⟨m7, c_gl g 1411 32 (by decide) (c_gA g 1411 rfl (by decide) m7), a1, a2⟩, ⟨b1, b3, b4, b5, b6⟩, d1, d2, d3⟩
  case ct =>
    intro p hp
    have hp : p < np := hp
    obtain ⟨h1, h2, h3, h4, h5, h6, h7⟩ := rqs p hp
    refine ⟨fun s hs => ⟨?_, (h4.2.2.1 s hs).1, (h4.2.2.1 s hs).2, fun i hi => h4.2.2.2.2.1 s i hs hi⟩, fun i hi => ?_, fun i hi => ((h7 1 i (by decide) hi).2.1 (by decide)).1, fun i hi => ?_, fun i hi => ((h7 3 i (by decide) hi).2.1 (by decide)).1, fun i hi => ?_⟩
    · have := h4.1 s (by omega)
      show D.1 p s ≤ if s = 4 then 16 else 8
      by_cases z : s = 4
      · rw [if_pos z]; rw [if_pos (Or.inl z)] at this; exact this
      · rw [if_neg z]; rw [if_neg (by omega)] at this; exact this
    · have := (h7 0 i (by decide) hi).1 rfl
      rw [show 8 * 0 + i = i by omega] at this
      exact ⟨this.1, this.2.1, this.2.2.1, this.2.2.2.2⟩
    · have := h7 2 i (by decide) hi
      obtain ⟨e04, d, d1, d2, d3, d4, d5, d6, d7⟩ := this.2.2.1 rfl
      have m10 := h4.2.2.2.2.1 2 i (by decide) hi
      have i8 : i < 8 := Nat.lt_of_lt_of_le hi (h4.1 2 (by decide))
      have m8 : c_mk L 8 (48 * p + (16 + i)) := c_gU g m10 (by unfold c_qu; rw [if_pos (by omega)])
      have dc : (c_I K 1601 (48 * p + (16 + i))).toNatClampNeg = d := by
        have : c_I K 1601 (48 * p + (16 + i)) = nI d := d1
        rw [this]
        exact nI_clamp (by omega)
      show c_I K 2002 (48 * p + (16 + i)) = 0 ∧ c_I K 2004 (48 * p + (16 + i)) = r_A R 2447 (8 * p + i) ∧ c_I K 1601 (48 * p + (16 + i)) = nI (c_I K 1601 (48 * p + (16 + i))).toNatClampNeg ∧ r_A R 2446 (8 * p + i) = nI (c_I K 1601 (48 * p + (16 + i))).toNatClampNeg ∧ 1 ≤ (c_I K 1601 (48 * p + (16 + i))).toNatClampNeg ∧ (c_I K 1601 (48 * p + (16 + i))).toNatClampNeg ≤ 16 ∧ (c_I K 1601 (48 * p + (16 + i))).toNatClampNeg ≤ c_ln L 1600 (48 * p + (16 + i)) ∧ c_ln L 1600 (48 * p + (16 + i)) < 2 ^ 31
      rw [dc]
      exact ⟨(this.2.1 (by decide)).1, e04, d1, d2, d3, d4, d5, li.2.1 _ m8⟩
    · have := h7 4 i (by decide) hi
      obtain ⟨a1, a2, a3, a4⟩ := this.2.2.2 rfl
      obtain ⟨p1, p2⟩ := pc p i hp hi
      exact ⟨(this.2.1 (by decide)).1, a1, a2, p1, a3, a4, p2⟩
  case cc =>
    refine ⟨⟨c24, Nat.le_trans hni c24, w1⟩, pp.2.1, ⟨k03, r16⟩, ⟨k05, r18⟩, ⟨w2, w3⟩, k06, fun c hc => ?_, icc.1, icc.2, w4, fun _ => w5, w6⟩
    obtain ⟨⟨⟨⟨m1, a1, a2⟩, a3, a4⟩, ⟨⟨b1, b2, b3, b4⟩, d, ⟨e1, e2, e3, e4, e5, e6⟩, e7⟩, c2, ⟨⟨f1, f2, f3⟩, f4, f5, f6, f7, f8⟩⟩, g1⟩ := chs c hc
    have m8 := c_gQ g m1
    have dc : (c_I K 1601 (1000 + c)).toNatClampNeg = d := by
      rw [e1]
      exact nI_clamp (by omega)
    refine ⟨⟨m1, a1, a2, b1, b3, f1, f2, g1, f3⟩, a3, b2, b4, ?_, ?_, fun q hq => ?_, f5, fun z => ?_⟩
    · show c_I K 1601 (1000 + c) = nI (c_I K 1601 (1000 + c)).toNatClampNeg ∧ 1 ≤ (c_I K 1601 (1000 + c)).toNatClampNeg ∧ (c_I K 1601 (1000 + c)).toNatClampNeg ≤ 32 ∧ (c_I K 1601 (1000 + c)).toNatClampNeg ≤ c_ln L 1600 (1000 + c) ∧ c_ln L 1600 (1000 + c) < 2 ^ 31 ∧ (r_A R 2454 c = 1 → r_A R 2455 c = nI (c_I K 1601 (1000 + c)).toNatClampNeg ∧ ng c = 1) ∧ (r_A R 2454 c = 0 → (c_I K 1601 (1000 + c)).toNatClampNeg = 1)
      rw [dc]
      exact ⟨e1, e2, e3, e4, li.2.1 _ m8, fun z => ⟨e5 z, by have := f6 z; omega⟩, e6⟩
    · show (match sp c with | none => c_P K 209 c = none ∧ r_A R 2457 c = -2 | some q => q.1 < np ∧ q.2 < D.1 q.1 4 ∧ c_P K 209 c = some q.1 ∧ c_I K 210 c = nI (32 + q.2) ∧ r_A R 2457 c = nI (16 * q.1 + q.2) ∧ r_A R 2450 (16 * q.1 + q.2) = nI c ∧ r_A R 2448 (16 * q.1 + q.2) = 1)
      cases e : sp c with
      | none => rw [e] at c2; exact c2
      | some q => rw [e] at c2; exact ⟨c2.1.1, c2.1.2, c2.2⟩
    · have c3 := f4 q hq
      show (match gp c q with | none => r_A R 2459 (4 * c + q) = -2 | some x => x.1 < np ∧ x.2 < D.1 x.1 4 ∧ r_A R 2459 (4 * c + q) = nI (16 * x.1 + x.2) ∧ r_A R 2450 (16 * x.1 + x.2) = nI c ∧ r_A R 2448 (16 * x.1 + x.2) = 0)
      cases e : gp c q with
      | none => rw [e] at c3; exact c3
      | some x => rw [e] at c3; exact ⟨c3.1.1, c3.1.2, c3.2⟩
    · have c3 := f7 g1 z
      show (match gp c 0 with | none => c_P K 211 c = none | some q => c_P K 211 c = some q.1 ∧ c_I K 212 c = nI (32 + q.2))
      cases e : gp c 0 with
      | none => rw [e] at c3; exact c3
      | some q => rw [e] at c3; exact c3
  case cm =>
    intro p hp
    have hp : p < np := hp
    obtain ⟨h1, h2, h3, h4, h5, h6, h7⟩ := rqs p hp
    obtain ⟨⟨a1, a2, a3, a4, a5, a6⟩, ⟨b1, b2, b3, b4⟩, c1, c2⟩ := h3
    obtain ⟨d1, d2⟩ := dh p hp
    have m4 := c_gO g 1002 4 rfl (by decide) h1.1.1
    have l4 := li.1 p m4
    refine ⟨⟨?_, ?_, ?_, a3, a4, ?_, ?_, l4.2, by rw [← l4.1]; exact l4.2⟩, ⟨b1, d1, b2, b3, b4, d2⟩, fun i hi => ?_⟩
    · show 256 * D.2.2.1 p ≤ 8192
      omega
    · show 256 ≤ 256 * D.2.2.1 p
      omega
    · show 256 * D.2.2.1 p % 4 = 0
      omega
    · show 256 * D.2.2.1 p / 4 ≤ c_ln L 801 p
      omega
    · show 256 * D.2.2.1 p / 4 ≤ c_ln L 802 p
      omega
    · obtain ⟨x1, x2, x3, x4⟩ := c1 i hi
      exact ⟨x1, x2, x4⟩
  case nm =>
    intro p hp
    have hp : p < np := hp
    obtain ⟨h1, h2, h3, h4, h5, h6, h7⟩ := rqs p hp
    obtain ⟨a1, a2, a3, a4, a5, ⟨tm, b1, b2, b3, b4⟩, a7⟩ := h4
    have nc' : ∀ s : Nat, n_c (Z_1 D np nc ni nw sp gp ng ic wo we K) p s = D.1 p s := fun s => by
      show (if s = 5 then D.1 p 5 else D.1 p s) = D.1 p s
      by_cases z : s = 5
      · rw [if_pos z, z]
      · rw [if_neg z]
    have z0 : D.1 p 0 ≤ 8 := a1 0 (by decide)
    have z1 : D.1 p 1 ≤ 8 := a1 1 (by decide)
    have z2 : D.1 p 2 ≤ 8 := a1 2 (by decide)
    have z3 : D.1 p 3 ≤ 8 := a1 3 (by decide)
    have z4 : D.1 p 4 ≤ 16 := a1 4 (by decide)
    have z5 : D.1 p 5 ≤ 16 := a1 5 (by decide)
    refine ⟨⟨tm, by omega, b2, fun k hk => ?_, fun s i hs hi => ?_⟩, fun s i i' hs hi hi' e => ?_⟩
    · obtain ⟨s, i, n, a, x1, x2, x3, x4, x5, x6, ⟨x7, x8, x9⟩, x10, x11⟩ := b3 k hk
      refine ⟨s, i, n, a, x1, by rw [nc']; exact x2, ⟨x7, x8, by omega⟩, x3, x4, x5, x6, x10, ?_⟩
      rw [m_J2]
      exact x11
    · rw [nc'] at hi
      exact b4 s i hs hi
    · rw [nc'] at hi hi'
      rw [m_J2, m_J2] at e
      exact (a7 s i s i' hs hi hs hi' e).2
  case th =>
    intro p hp
    have hp : p < np := hp
    obtain ⟨h1, h2, h3, h4, h5, h6, h7⟩ := rqs p hp
    have z0 : D.1 p 0 ≤ 8 := h4.1 0 (by decide)
    have z1 : D.1 p 1 ≤ 8 := h4.1 1 (by decide)
    have z2 : D.1 p 2 ≤ 8 := h4.1 2 (by decide)
    have z3 : D.1 p 3 ≤ 8 := h4.1 3 (by decide)
    refine ⟨fun i hi => ?_, fun i hi => ?_, fun i hi => ?_, fun i hi => ?_, fun i hi => ((h7 4 i (by decide) hi).2.1 (by decide)).2⟩
    · have hi : i < D.1 p 0 := hi
      have := (h7 0 i (by decide) hi).1 rfl
      rw [show 8 * 0 + i = i by omega] at this
      have e := (y8 p i hp (by omega)).1
      rw [if_pos hi] at e
      show c_I K 2001 (48 * p + i) = r_A R 2492 (8 * p + i) ∧ 0 ≤ (r_A R 2492 (8 * p + i)).toInt ∧ (r_A R 2492 (8 * p + i)).toInt ≤ (r_A R 2444 (8 * p + i)).toInt
      rw [e]
      exact ⟨this.2.2.2.1, this.2.2.2.2.1, this.2.2.2.2.2.1⟩
    · have hi : i < D.1 p 1 := hi
      have e := (y8 p i hp (by omega)).2.1
      exact ⟨((h7 1 i (by decide) hi).2.1 (by decide)).2.trans e.symm, Or.inl e⟩
    · have hi : i < D.1 p 2 := hi
      obtain ⟨_, d, d1, d2, d3, d4, d5, d6, d7⟩ := (h7 2 i (by decide) hi).2.2.1 rfl
      have e := (y8 p i hp (by omega)).2.2.1
      have d1 : c_I K 1601 (48 * p + (16 + i)) = nI d := d1
      refine ⟨0, 0, ?_, Nat.zero_le _, d6, d7, e, fun x hx => absurd hx (Nat.not_lt_zero x)⟩
      show 0 < (c_I K 1601 (48 * p + (16 + i))).toNatClampNeg
      rw [d1, nI_clamp (by omega)]
      omega
    · have hi : i < D.1 p 3 := hi
      have e := (y8 p i hp (by omega)).2.2.2
      exact ⟨((h7 3 i (by decide) hi).2.1 (by decide)).2.trans e.symm, Or.inl e, fun z => absurd (e.symm.trans z) (by decide)⟩
  case ch =>
    intro c hc
    have hc : c < nc := hc
    obtain ⟨⟨⟨⟨m1, a1, a2⟩, a3, a4, a5, a6, a7⟩, ⟨⟨b1, b2, b3, b4⟩, d, ⟨e1, e2, e3, e4, e5, e6⟩, e7, e8⟩, c2, c3⟩, g1⟩ := chs c hc
    obtain ⟨r1, r2, r3, r4, r5⟩ := y4 c (by omega)
    refine ⟨a4.trans r3.symm, fun z => ⟨a5, 0, 0, ?_, Nat.zero_le _, e7, e8, r2, fun x hx => absurd hx (Nat.not_lt_zero x)⟩, fun z => Or.inl ⟨r1, a5, e8, e7⟩⟩
    show 0 < (c_I K 1601 (1000 + c)).toNatClampNeg
    rw [e1, nI_clamp (by omega)]
    omega
  case inn =>
    intro i hi
    have hi : i < ni := hi
    obtain ⟨a1, a2, a3, a4⟩ := icc.1 i hi
    obtain ⟨⟨⟨⟨m1, _, _⟩, _, _, _, b6, b7⟩, _⟩, _⟩ := chs (ic i) a1
    obtain ⟨r1, r2, r3, r4, r5⟩ := y4 i (by omega)
    refine ⟨0, 0, by omega, Nat.le_refl _, b6, r4, b7, r5, ?_, fun j hj => absurd hj (Nat.not_lt_zero j)⟩
    rcases li.2.2.1 (ic i) m1 with z | z
    · exact Or.inl z
    · exact Or.inr ⟨z.1, z.2, rfl⟩
  case me =>
    refine ⟨fun p hp i hi => ⟨fun z => absurd z (Nat.not_lt_zero p), ?_⟩, y6, y7⟩
    have hp : p < np := hp
    have hi : i < 256 * D.2.2.1 p / 4 := hi
    obtain ⟨h1, h2, h3, h4, h5, h6, h7⟩ := rqs p hp
    have k2 := h3.1.2.1
    have e := (h3.2.2.2 i (by omega)).2
    show c_A K 802 p i = (((r_A R 2465 (8192 * p + (4 * i + 3)) &&& 255) <<< (8 : Int32) ||| (r_A R 2465 (8192 * p + (4 * i + 2)) &&& 255)) <<< (8 : Int32) ||| (r_A R 2465 (8192 * p + (4 * i + 1)) &&& 255)) <<< (8 : Int32) ||| (r_A R 2465 (8192 * p + (4 * i + 0)) &&& 255)
    rw [y5 _ (by omega), y5 _ (by omega), y5 _ (by omega), y5 _ (by omega), e]
    decide
  case jr => exact rj.1
  case gl => exact ⟨k11.1.trans s1.symm, k11.2.1.trans s5.symm, ⟨k11.2.2.1.trans s6.symm, Or.inr s6, s8⟩, ⟨k11.2.2.2.trans s7.symm, Or.inl s7⟩, fun z => s6, s1, s6, s7⟩
  case tx => exact rj.2
  case dp =>
    refine ⟨fun p hp j hj => ?_, fun q hq _ => pr0 q hq⟩
    have hp : p < np := hp
    have hj : j < D.1 p 5 := hj
    obtain ⟨h1, h2, h3, h4, h5, h6, h7⟩ := rqs p hp
    have q6 := q256 p j hp hj
    obtain ⟨⟨u0, u1, u2, u3⟩, u4, u5, u6⟩ := y1 _ q6
    obtain ⟨⟨a1, a2⟩, ⟨b1, b2, b3, b4, b5, b6⟩, _, ⟨c1, c2, c3, c4, c5⟩, ⟨c6, c7, c8⟩, c9⟩ := h6 j hj
    have w0 : p_r R (16 * p + j) 0 = 0 := u0
    have w3 : p_r R (16 * p + j) 3 = 0 := u2
    refine ⟨⟨b2.trans (y9 p j hp hj).symm, c1.trans u0.symm, c2.trans u1.symm, c7.trans u3.symm, c3.trans u5.symm, c4.trans u4.symm, c5.trans u6.symm⟩, fun i hi => ?_, ⟨?_, fun z => absurd w3 z⟩, ?_, fun z => absurd (w0.symm.trans z) (by decide), ⟨Or.inl w0, fun z => absurd u3 z, Or.inl u6, Or.inl w3⟩⟩
    · show c_A K 1411 (16 * p + j) i = (if i < 32 then r_A R 2477 (32 * (16 * p + j) + i) else 0)
      rw [if_pos hi, y2 _ (by omega)]
      exact c9 i hi
    · rw [if_pos w3]
      exact c6
    · rw [if_neg (by rw [w0]; decide)]
      exact c8
  case op =>
    refine ⟨⟨by rw [s2]; decide, by rw [s2]; exact Int.natCast_nonneg b⟩, fun p hp => ⟨?_, fun j hj => ?_⟩⟩
    · have e : c_I K 1015 p = 0 := (rqs p hp).1.2.2.2.2.2.2.2.2.1
      show 0 ≤ (c_I K 1015 p).toInt ∧ (c_I K 1015 p).toInt ≤ b
      rw [e]
      exact ⟨by decide, Int.natCast_nonneg b⟩
    · have w0 := n0 (pr p j hp hj)
      exact ⟨fun z => absurd z w0.1, fun z => absurd z.1 w0.2.1, fun i hi _ => ⟨fun z => absurd z w0.1, fun z => absurd z.1 w0.2.1⟩⟩
  case ti =>
    refine ⟨⟨by rw [s1]; decide, by rw [s1]; decide⟩, fun p hp j hj => ?_⟩
    have w0 := n0 (pr p j hp hj)
    obtain ⟨⟨u0, u1, u2, u3⟩, u4, u5, u6⟩ := y1 _ (q256 p j hp hj)
    have w3 : p_r R (16 * p + j) 3 = 0 := u2
    have w6 : p_r R (16 * p + j) 6 = 0 := u4
    refine ⟨fun z => z.elim (fun z => absurd z w0.1) (fun z => absurd z w0.2.2), fun z => absurd z w0.2.1, ⟨by rw [w6]; decide, by rw [w6, s1]; decide⟩, fun _ => w3, fun z => absurd w3 z, fun z => absurd z w0.2.1⟩
  case pd =>
    intro p hp
    have hp : p < np := hp
    obtain ⟨h1, h2, h3, h4, h5, h6, h7⟩ := rqs p hp
    obtain ⟨⟨u1, u2, u3⟩, u4, u5, u6⟩ := y3 p (by omega)
    obtain ⟨a1, a2, a3, a4, a5, a6, a7, a8⟩ := h1.2.2
    have sj : ∀ j : Nat, j < D.1 p 5 → r_A R 2467 (16 * p + j) = 0 := fun j hj => (y1 _ (q256 p j hp hj)).1.1
    refine ⟨⟨a1.trans u1.symm, a2.trans u2.symm, a3.trans u3.symm, a4.trans u6.symm, a5.trans u4.symm⟩, Or.inl u1, ?_, fun _ => a6, fun z => absurd a5 z, Or.inl ⟨a8, fun j hj => (n0 (sj j hj)).2.2⟩, Or.inl u5, fun h e => ⟨h5 h e, Or.inl (sj h (h5 h e))⟩, fun z => absurd (u1.symm.trans z) (by decide)⟩
    show 0 ≤ (r_A R 2486 p).toInt ∧ (r_A R 2486 p).toInt ≤ 8
    rw [u4]
    exact ⟨by decide, by decide⟩
  case jb =>
    show (0 ≤ (r_I R 2508).toInt ∧ (r_I R 2508).toInt ≤ b) ∧ (0 ≤ (r_I R 2509).toInt ∧ (r_I R 2509).toInt ≤ b)
    rw [s3, s4]
    exact ⟨⟨by decide, Int.natCast_nonneg b⟩, by decide, Int.natCast_nonneg b⟩
