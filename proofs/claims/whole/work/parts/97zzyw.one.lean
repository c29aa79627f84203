/-! One thing of a partition, whichever. -/
def tmn (cn : Nat → Nat) : Nat := cn 0 + cn 1 + cn 2 + cn 3 + cn 4 + cn 5
def ucn (cn : Nat → Nat) (er : Nat) : Nat := 3 * (cn 0 + cn 1 + cn 3 + cn 4 + cn 5) + 6 * cn 2 + er
def vcn (cn : Nat → Nat) (er : Nat) : Nat := 22 * (cn 0 + cn 1 + cn 3 + cn 4) + 42 * cn 2 + 58 * cn 5 + 6 * er
/-- between two things -/
def LST (e : EV) (B : Nat) (K0 : c_S) (R0 : r_S) (Ls : c_L) (Ks : c_S) (Rs : r_S) (p lm0 k nr : Nat) (re : Nat → Nat) (L : c_L) (T : q_S) (K : c_S) (R : r_S) (cn : Nat → Nat) (hd : Option Nat) (lm er u v : Nat) : Prop :=
  WD e L T ∧ LX Ls L ∧ AV B K0 R0 K R ∧ RI K ∧ RP L K R p lm cn hd k nr re (r_I R 2453 ≠ -1) ∧ (c_I K 1813 0 = r_I R 2453 ∧ c_I K 1812 0 = nI er ∧ r_A R 2451 p = nI er ∧ er ≤ 1) ∧ OF (pI p) (pA p) pi (pa p lm0) Ks Rs K R ∧ r_I R 2422 = nI lm ∧ lm0 ≤ lm ∧ lm ≤ lm0 + 12 * tmn cn ∧ u ≤ ucn cn er ∧ v ≤ vcn cn er
theorem RP_hp {L : c_L} {K : c_S} {R : r_S} {p lm : Nat} {cn : Nat → Nat} {hd : Option Nat} {k nr : Nat} {re : Nat → Nat} {hp hp' : Prop} (h : RP L K R p lm cn hd k nr re hp) (i : hp → hp') : RP L K R p lm cn hd k nr re hp' := ⟨h.1, fun j hj => ⟨(h.2.1 j hj).1, (h.2.1 j hj).2.1, (h.2.1 j hj).2.2.1, fun z => i ((h.2.1 j hj).2.2.2 z)⟩, h.2.2⟩
theorem cn1_t {cn : Nat → Nat} {s : Nat} (hs : s ≤ 5) : tmn (cn1 cn s) = tmn cn + 1 := by
  unfold tmn cn1
  have : s = 0 ∨ s = 1 ∨ s = 2 ∨ s = 3 ∨ s = 4 ∨ s = 5 := by omega
  rcases this with rfl | rfl | rfl | rfl | rfl | rfl <;> simp <;> omega
theorem tm_64 {L : c_L} {K : c_S} {R : r_S} {p lm : Nat} {cn : Nat → Nat} (h : PN L K R p lm cn) : tmn cn ≤ 64 ∧ ∀ er : Nat, er ≤ 1 → ucn cn er ≤ 217 ∧ vcn cn er ≤ 2150 := by
  have w1 := h.1
  have b0 := w1 0 (by omega)
  have b1 := w1 1 (by omega)
  have b2 := w1 2 (by omega)
  have b3 := w1 3 (by omega)
  have b4 := w1 4 (by omega)
  have b5 := w1 5 (by omega)
  simp at b0 b1 b2 b3 b4 b5
  unfold tmn ucn vcn
  exact ⟨by omega, fun er he => ⟨by omega, by omega⟩⟩
theorem th_one {e : EV} {L : c_L} {T : q_S} {B bc bs u v : Nat} {K0 K : c_S} {R0 R : r_S} {Ls : c_L} {Ks : c_S} {Rs : r_S} {p lm0 k nr lm er : Nat} {re : Nat → Nat} {cn : Nat → Nat} {hd : Option Nat} {Q : Option Value → q_S → Prop} {E : String → q_S → Prop} {B12 : Nat → Nat → q_S → Nat → Option Nat → Int32 → Prop} {x2 : Int32} (ls : LST e B K0 R0 Ls Ks Rs p lm0 k nr re L T K R cn hd lm er u v) (p16 : p < 16) (hl0 : lm0 + 780 ≤ 14000) (hbc : 230 ≤ bc) (hbs : 2220 ≤ bs) (hby : ∀ i : Nat, fits .byte (.int (r_A R0 2402 i)) = true)
  (hX : ∀ (L' : c_L) (T' : q_S) (K' : c_S) (R' : r_S) (w q : Int32), WD e L' T' → CZ K0 K' → FD w q R0 R' → (∀ Q : Option Value → r_S → Prop, Q none R' → rm_X12_readThing R (nI p) Q) → E "java/lang/IllegalArgumentException" (c_E L' (k_fl K' w q) T'))
  (hN : ∀ (L' : c_L) (T' : q_S) (K' : c_S) (R' : r_S) (cn' : Nat → Nat) (hd' : Option Nat) (lm' er' u' v' : Nat), LST e B K0 R0 Ls Ks Rs p lm0 k nr re L' T' K' R' cn' hd' lm' er' u' v' → LX L L' → tmn cn' + er' = tmn cn + er + 1 → (∀ Q : Option Value → r_S → Prop, Q none R' → rm_X12_readThing R (nI p) Q) → B12 u' v' (c_E L' K' T') (c_ob L 9 0) (some (c_ob L 5 p)) (x2 + 1)) :
  (¬ c_I K 1808 0 = 5 → wb_X9_readThings_44 bc bs B12 u v (c_E L K T) (c_ob L 9 0) (some (c_ob L 5 p)) x2 (-1) Q E) ∧ (c_I K 1808 0 = 5 → wb_X9_readThings_44 bc bs B12 u v (c_E L K T) (c_ob L 9 0) (some (c_ob L 5 p)) x2 (c_I K 1809 0) Q E) := by
  obtain ⟨wd, lxs, av, ri, rp, ⟨e13, e12, e51, er1⟩, ofs, h22, hl1, hl2, hu, hv⟩ := ls
  have g := WD_g wd
  obtain ⟨t64, cost⟩ := tm_64 rp.2.2.2.1
  obtain ⟨cu, cv⟩ := cost er er1
  have hl : lm + 12 ≤ 14000 := by omega
  have failing : (∀ Q : Option Value → r_S → Prop, rm_X12_failHere R 1 (fun r R' => ∃ x : Int32, r = some (.int x) ∧ Q none R') → rm_X12_readThing R (nI p) Q) → q_K (c_E L K T) (c_ob L 9 0) = 10 ∧ (∃ m4_ m5_ : Nat, (u + m4_ ≤ bc ∧ v + m5_ ≤ bs) ∧ (wm_X9_fail m4_ m5_ (c_E L K T) (c_ob L 9 0) (1 : Int32) (q_I (c_E L K T) 1811 (c_ob L 9 0)) (fun r2_ S3_ => r2_ = none ∧ (wb_X9_readThings_209 bc bs B12 (u + m4_) (v + m5_) S3_ (c_ob L 9 0) (some (c_ob L 5 p)) x2 Q E)) E)) := fun hr => ⟨K10 g, c_flH wd av (by omega) (by omega) (by decide) hr (fun R' cz hf hr => hX L T K R' _ _ wd cz hf hr)⟩
  refine ⟨fun c5 => ?_, fun c5 => ?_⟩
  · have hr : ∀ Q : Option Value → r_S → Prop, rm_X12_failHere R 1 (fun r R' => ∃ x : Int32, r = some (.int x) ∧ Q none R') → rm_X12_readThing R (nI p) Q := fun Q h => bf_ (fun z => c5 ((AV_key av).1.mpr z)) h
    exact ⟨fun _ => failing hr, fun z => absurd z (by decide), fun z => absurd z (by decide), fun z => absurd z (by decide), fun z => absurd z (by decide), fun z => absurd z (by decide), fun z => absurd z (by decide), fun z => absurd z (by decide), fun z => absurd z (by decide)⟩
  · have r4 := (AV_key av).1.mp c5
    have ev := (AV_key av).2 c5
    have hr0 : ∀ Q : Option Value → r_S → Prop, rm_X12_readThing R (nI p) Q → rm_X12_readThing R (nI p) Q := fun Q h => h
    have hr : ∀ Q : Option Value → r_S → Prop, _ → rm_X12_readThing R (nI p) Q := fun Q h => hr0 Q (bt_ r4 h)
    obtain ⟨s0, s7, s8, s15, s16, s17, s19, s20, s23⟩ := g_sw hr
    rw [ev]
    have n16 : ∀ s : Nat, s < 5 → cn s < (if s = 4 then 16 else 8) → tmn cn < 64 := fun s hs hn => by
      have w1 := rp.2.2.2.1.1
      have b0 := w1 0 (by omega)
      have b1 := w1 1 (by omega)
      have b2 := w1 2 (by omega)
      have b3 := w1 3 (by omega)
      have b4 := w1 4 (by omega)
      have b5 := w1 5 (by omega)
      simp at b0 b1 b2 b3 b4 b5
      unfold tmn
      have : s = 0 ∨ s = 1 ∨ s = 2 ∨ s = 3 ∨ s = 4 := by omega
      rcases this with rfl | rfl | rfl | rfl | rfl <;> simp at hn <;> omega
    have thing : ∀ (s : Nat) (L' : c_L) (T' : q_S) (K' : c_S) (R' : r_S) (lm' u' v' : Nat), s < 5 → cn s < (if s = 4 then 16 else 8) → WD e L' T' → LX L L' → AV B K0 R0 K' R' → OF (xI p s (cn s)) (xA p s (cn s)) xi (ya p s (cn s) (tmn cn) lm) K R K' R' → lm ≤ lm' → lm' ≤ lm + 12 → r_I R' 2422 = nI lm' → RP L' K' R' p lm' (cn1 cn s) hd k nr re (r_I R 2453 ≠ -1) → u' ≤ ucn (cn1 cn s) er → v' ≤ vcn (cn1 cn s) er → (∀ Q : Option Value → r_S → Prop, Q none R' → rm_X12_readThing R (nI p) Q) → B12 u' v' (c_E L' K' T') (c_ob L 9 0) (some (c_ob L 5 p)) (x2 + 1) := fun s L' T' K' R' lm' u' v' hs hn wd' lx av' of l1 l2 h22' rp' hu' hv' hr => by
      have ofp := OF_pt (lm0 := lm0) of hs hn (n16 s hs hn) hl1
      have r53 : r_I R' 2453 = r_I R 2453 := of.2.2.1 2453 (fun z => by unfold xi at z; omega)
      have k13 : c_I K' 1813 0 = c_I K 1813 0 := (of.1 1813 0 (fun z => by unfold xI at z; omega)).1
      have k12 : c_I K' 1812 0 = c_I K 1812 0 := (of.1 1812 0 (fun z => by unfold xI at z; omega)).1
      refine hN L' T' K' R' (cn1 cn s) hd lm' er u' v' ⟨wd', LX_t lxs lx, av', RI_p ofp ri, RP_hp rp' (by rw [r53]; exact id), ⟨by rw [k13, r53]; exact e13, k12.trans e12, (of.2.2.2 2451 p (fun z => by unfold ya xa at z; omega)).trans e51, er1⟩, OF_t ofs ofp, h22', by omega, ?_, hu', hv'⟩ lx ?_ hr
      · rw [cn1_t (by omega)]
        omega
      · rw [cn1_t (by omega)]
        omega
    refine ⟨fun z => failing (s0 z), fun z => ⟨K10 g, 3, 58, ⟨by omega, by omega⟩, ?_⟩, fun z => failing (s8 z), fun z => ⟨K10 g, 3, 22, ⟨by omega, by omega⟩, ?_⟩, fun z => ⟨K10 g, ?_⟩, fun z => ⟨K10 g, 6, 42, ⟨by omega, by omega⟩, ?_⟩, fun z => ⟨K10 g, ?_⟩, fun z => ⟨K10 g, 3, 22, ⟨by omega, by omega⟩, ?_⟩, fun z => ⟨K10 g, 1, 6, ⟨by omega, by omega⟩, ?_⟩⟩
    · refine c_process (tm := tmn cn) (RM := rm_X12_readProcess R (nI p)) wd av ri rp p16 hl h22 rfl hby (by omega) (by omega) (fun Q h => h) (fun L' T' K' R' w q wd cz hf hr => hX L' T' K' R' w q wd cz hf (fun Q h => s7 z Q (hr _ ⟨rfl, h⟩))) (fun L' T' K' R' lm' hd' wd' lx av' of l1 l2 h22' rp' hn hr => ⟨rfl, ?_⟩)
      have t63 : tmn cn < 64 := by
        have w1 := rp.2.2.2.1.1
        have b0 := w1 0 (by omega)
        have b1 := w1 1 (by omega)
        have b2 := w1 2 (by omega)
        have b3 := w1 3 (by omega)
        have b4 := w1 4 (by omega)
        simp at b0 b1 b2 b3 b4
        unfold tmn
        omega
      have ofp := OF_pq (lm0 := lm0) of hn t63 hl1
      have r53 : r_I R' 2453 = r_I R 2453 := of.2.2.1 2453 (fun z => by unfold xi at z; omega)
      have k13 : c_I K' 1813 0 = c_I K 1813 0 := (of.1 1813 0 (fun z => by unfold qI at z; omega)).1
      have k12 : c_I K' 1812 0 = c_I K 1812 0 := (of.1 1812 0 (fun z => by unfold qI at z; omega)).1
      refine hN L' T' K' R' (cn1 cn 5) hd' lm' er (u + 3) (v + 58) ⟨wd', LX_t lxs lx, av', RI_p ofp ri, RP_hp rp' (by rw [r53]; exact id), ⟨by rw [k13, r53]; exact e13, k12.trans e12, (of.2.2.2 2451 p (fun z => by unfold qa xa at z; omega)).trans e51, er1⟩, OF_t ofs ofp, h22', by omega, ?_, ?_, ?_⟩ lx ?_ (fun Q h => s7 z Q (hr _ ⟨rfl, h⟩))
      · rw [cn1_t (by omega)]; omega
      · unfold ucn cn1; unfold ucn at hu; simp; omega
      · unfold vcn cn1; unfold vcn at hv; simp; omega
      · rw [cn1_t (by omega)]; omega
    · exact c_semaphore (tm := tmn cn) wd av ri rp p16 hl h22 rfl hby (by omega) (by omega) (s15 z) hX (fun L' T' K' R' lm' wd' lx av' of l1 l2 h22' rp' hn hr => ⟨rfl, thing 0 L' T' K' R' lm' _ _ (by decide) hn wd' lx av' of l1 l2 h22' rp' (by unfold ucn cn1; unfold ucn at hu; simp; omega) (by unfold vcn cn1; unfold vcn at hv; simp; omega) hr⟩)
    · exact c_event (tm := tmn cn) wd av ri rp p16 hl h22 rfl hby (by omega) (by omega) (s16 z) hX (fun L' T' K' R' lm' wd' lx av' of l1 l2 h22' rp' hn hr => thing 1 L' T' K' R' lm' _ _ (by decide) hn wd' lx av' of l1 l2 h22' rp' (by unfold ucn cn1; unfold ucn at hu; simp; omega) (by unfold vcn cn1; unfold vcn at hv; simp; omega) hr)
    · exact c_buffer (tm := tmn cn) wd av ri rp p16 hl h22 rfl hby (by omega) (by omega) (s17 z) hX (fun L' T' K' R' lm' wd' lx av' of l1 l2 h22' rp' hn hr => ⟨rfl, thing 2 L' T' K' R' lm' _ _ (by decide) hn wd' lx av' of l1 l2 h22' rp' (by unfold ucn cn1; unfold ucn at hu; simp; omega) (by unfold vcn cn1; unfold vcn at hv; simp; omega) hr⟩)
    · exact c_board (tm := tmn cn) wd av ri rp p16 hl h22 rfl hby (by omega) (by omega) (s19 z) hX (fun L' T' K' R' lm' wd' lx av' of l1 l2 h22' rp' hn hr => thing 3 L' T' K' R' lm' _ _ (by decide) hn wd' lx av' of l1 l2 h22' rp' (by unfold ucn cn1; unfold ucn at hu; simp; omega) (by unfold vcn cn1; unfold vcn at hv; simp; omega) hr)
    · exact c_port (tm := tmn cn) wd av ri rp p16 hl h22 rfl hby (by omega) (by omega) (s20 z) hX (fun L' T' K' R' lm' wd' lx av' of l1 l2 h22' rp' hn hr => ⟨rfl, thing 4 L' T' K' R' lm' _ _ (by decide) hn wd' lx av' of l1 l2 h22' rp' (by unfold ucn cn1; unfold ucn at hu; simp; omega) (by unfold vcn cn1; unfold vcn at hv; simp; omega) hr⟩)
    · refine c_errors (RM := rm_X12_readErrors R (nI p)) wd av rp p16 e13 (by rw [e12, e51]) (by omega) (by omega) (fun Q h => h) (fun K' R' w q cz hf hr => hX L T K' R' w q wd cz hf (fun Q h => s23 z Q (hr _ ⟨rfl, h⟩))) (fun K' R' av' of rp' k13 z0 k12 z1 hr => ⟨rfl, ?_⟩)
      have er0 : er = 0 := (nI_eq (by omega) (by decide)).mp (e51.symm.trans (z0.trans (show (0 : Int32) = nI 0 from rfl)))
      have ofp := OF_pe (lm0 := lm0) of
      refine hN L T K' R' cn hd lm 1 (u + 1) (v + 6) ⟨wd, lxs, av', RI_p ofp ri, rp', ⟨k13, k12, z1, by omega⟩, OF_t ofs ofp, (of.2.2.1 2422 (fun z => by unfold ei at z; omega)).trans h22, hl1, hl2, ?_, ?_⟩ LX_0 (by omega) (fun Q h => s23 z Q (hr _ ⟨rfl, h⟩))
      · unfold ucn; unfold ucn at hu; omega
      · unfold vcn; unfold vcn at hv; omega
