/-! load, within the law. -/
theorem rj_ex {ob m out : Nat} {ad : Nat → Nat} {fo : Nat → Option Nat} {st : Nat → Nat} {L : c_L} {T : q_S} {K : c_S} {R : r_S} (lb : l_B L m ad fo st T) (ot : OT fo out L T) (eo : c_ob L 11 0 = ob) : ∃ (L' : c_L) (K' : c_S) (T' : q_S), lp_S m fo L T K R = c_E L' K' T' ∧ WD (ob, m, out, ad, fo, st, R) L' T' ∧ RI K' ∧ (∀ f i : Nat, c_I K' f i = c_I K f i) ∧ ∀ f i j : Nat, c_A K' f i j = c_A K f i j := by
  obtain ⟨e1, wd, ri⟩ := rj_all (K := K) (R := R) lb ot eo
  exact ⟨rj L, rjK L K, lp_S m fo L T K R, e1, wd, ri, fun _ _ => rfl, fun _ _ _ => rfl⟩
/-- what stays of the state before -/
def OLD (K : c_S) (R : r_S) : Prop := (∀ i : Nat, c_A K 1802 0 i = r_A R 2402 i) ∧ (∀ i : Nat, c_A K 2204 0 i = r_A R 2401 i) ∧ (∀ i : Nat, fits .byte (.int (r_A R 2402 i)) = true) ∧ (∀ i : Nat, fits .byte (.int (r_A R 2401 i)) = true) ∧ (∀ i : Nat, c_A K 400 0 i = r_A R 2511 i) ∧ (∀ i : Nat, c_A K 401 0 i = r_A R 2512 i) ∧ (∀ i : Nat, fits .byte (.int (r_A R 2465 i)) = true) ∧ ∀ i : Nat, fits .byte (.int (r_A R 2466 i)) = true
theorem OLD_of {b : Nat} {L : c_L} {Z : z_C} {K : c_S} {R : r_S} (w : WR b L Z K R) : OLD K R ∧ ∃ n : Nat, n ≤ 4000 ∧ c_I K 1803 0 = nI n ∧ r_I R 2403 = nI n := by
  obtain ⟨⟨_, th, ch, inn, me, jr, gl, tx⟩, _⟩ := w
  exact ⟨⟨tx.2.2.2.1, tx.2.2.2.2.1, tx.2.2.2.2.2.1, tx.2.2.2.2.2.2, jr.2.2.1, jr.2.2.2, me.2.1, me.2.2⟩, tx.1⟩
/-- the same, behind the reading -/
theorem OLD_r {K0 K : c_S} {R0 R : r_S} (o : OLD K0 R0) (cz : ∀ f i : Nat, f ∈ [1802, 2204, 400, 401] → c_A K f 0 i = c_A (k_ld0 K0) f 0 i) (rz : ∀ f i : Nat, f ∈ [2401, 2402, 2465, 2466, 2511, 2512] → r_A R f i = r_A (r_ld0 R0) f i) : OLD K R := by
  obtain ⟨o1, o2, o3, o4, o5, o6, o7, o8⟩ := o
  have rr : ∀ f i : Nat, f = 2402 ∨ f = 2401 ∨ f = 2511 ∨ f = 2512 ∨ f = 2466 → r_A R f i = r_A R0 f i := fun f i h => by
    rcases h with rfl | rfl | rfl | rfl | rfl <;> exact (rz _ i (by decide)).trans (st_A (fun o => ⟨rfl, rfl, rfl, rfl, rfl, rfl, rfl⟩))
  have kk : ∀ f i : Nat, f ∈ [1802, 2204, 400, 401] → c_A K f 0 i = c_A K0 f 0 i := fun f i m => cz f i m
  refine ⟨fun i => ?_, fun i => ?_, fun i => ?_, fun i => ?_, fun i => ?_, fun i => ?_, fun i => ?_, fun i => ?_⟩
  · rw [kk 1802 i (by decide), rr 2402 i (by omega)]; exact o1 i
  · rw [kk 2204 i (by decide), rr 2401 i (by omega)]; exact o2 i
  · rw [rr 2402 i (by omega)]; exact o3 i
  · rw [rr 2401 i (by omega)]; exact o4 i
  · rw [kk 400 i (by decide), rr 2511 i (by omega)]; exact o5 i
  · rw [kk 401 i (by decide), rr 2512 i (by omega)]; exact o6 i
  · rw [rz 2465 i (by decide), st_77]
    split
    · decide
    · exact o7 i
  · rw [rr 2466 i (by omega)]; exact o8 i
def Z_2 : z_C := (0, fun _ => 0, fun _ => none, fun _ _ => 0, 0, 0, 0, fun _ => 0, fun _ => 0, fun _ => 0, fun _ _ => 0, fun _ => 0, fun _ => 0, fun _ => none, fun _ _ => none, fun _ => 0, fun _ => 0, 0, 0, 0, 0, 1)
theorem WR_2 {b : Nat} {L : c_L} {K : c_S} {R : r_S} (hk : ∀ f : Nat, f ∈ [1201, 1203, 1205, 1206, 1209, 1211, 1212, 1213, 1214, 402, 403, 1803] → c_I K f 0 = 0) (hr : ∀ f : Nat, f ∈ [2415, 2416, 2417, 2418, 2419, 2463, 2464, 2508, 2509, 2510, 2413, 2414, 2403] → r_I R f = 0) (h00 : r_I R 2400 = 1) (h11 : c_I K 1804 0 = r_I R 2411 ∧ c_I K 1805 0 = r_I R 2412) (h67 : ∀ q : Nat, q < 256 → r_A R 2467 q = 0) (o : OLD K R) : WR b L Z_2 K R := by
  obtain ⟨o1, o2, o3, o4, o5, o6, o7, o8⟩ := o
  have np : ∀ p : Nat, ¬ p < z_np Z_2 := fun p => Nat.not_lt_zero p
  have nc : ∀ p : Nat, ¬ p < z_nc Z_2 := fun p => Nat.not_lt_zero p
  have ni : ∀ p : Nat, ¬ p < z_ni Z_2 := fun p => Nat.not_lt_zero p
  have nw : ∀ p : Nat, ¬ p < z_nw Z_2 := fun p => Nat.not_lt_zero p
  have rb : ∀ f : Nat, f ∈ [2415, 2416, 2417, 2418, 2419, 2463, 2464, 2508, 2509, 2510, 2413, 2414, 2403] → 0 ≤ (r_I R f).toInt ∧ (r_I R f).toInt ≤ (b : Int) := fun f m => by
    rw [hr f m]
    exact ⟨by decide, Int.natCast_nonneg b⟩
  refine ⟨⟨⟨?cq, ?ct, ?cc, ?cm, ?nm⟩, ?th, ?ch, ?inn, ?me, ?jr, ?gl, ?tx⟩, ?dp, ?op, ?ti, ?pd, ?jb⟩
  case cq => exact ⟨by decide, fun p hp => absurd hp (np p)⟩
  case ct => exact fun p hp => absurd hp (np p)
  case cc =>
    refine ⟨⟨by decide, by decide, by decide⟩, ⟨hk 1201 (by decide), hr 2415 (by decide)⟩, ⟨hk 1203 (by decide), hr 2416 (by decide)⟩, ⟨hk 1205 (by decide), hr 2418 (by decide)⟩, ⟨hk 1209 (by decide), hr 2417 (by decide)⟩, (hk 1206 (by decide)).trans (hr 2419 (by decide)).symm, fun c hc => absurd hc (nc c), fun i hi => absurd hi (ni i), fun i j hi => absurd hi (ni i), rfl, fun z => absurd z (by decide), fun i hi => absurd hi (nw i)⟩
  case cm => exact fun p hp => absurd hp (np p)
  case nm => exact fun p hp => absurd hp (np p)
  case th => exact fun p hp => absurd hp (np p)
  case ch => exact fun c hc => absurd hc (nc c)
  case inn => exact fun i hi => absurd hi (ni i)
  case me => exact ⟨fun p hp => absurd hp (np p), o7, o8⟩
  case jr => exact ⟨(hk 402 (by decide)).trans (hr 2508 (by decide)).symm, (hk 403 (by decide)).trans (hr 2509 (by decide)).symm, o5, o6⟩
  case gl => exact ⟨(hk 1211 (by decide)).trans (hr 2463 (by decide)).symm, (hk 1212 (by decide)).trans (hr 2510 (by decide)).symm, ⟨(hk 1213 (by decide)).trans (hr 2413 (by decide)).symm, Or.inl (hr 2413 (by decide)), h00⟩, ⟨(hk 1214 (by decide)).trans (hr 2414 (by decide)).symm, Or.inl (hr 2414 (by decide))⟩, fun z => absurd ((hr 2414 (by decide)).symm.trans z) (by decide), hr 2463 (by decide), hr 2413 (by decide), hr 2414 (by decide)⟩
  case tx => exact ⟨⟨0, by decide, hk 1803 (by decide), hr 2403 (by decide)⟩, h11.1, h11.2, o1, o2, o3, o4⟩
  case dp => exact ⟨fun p hp => absurd hp (np p), fun q hq _ => h67 q hq⟩
  case op => exact ⟨rb 2464 (by decide), fun p hp => absurd hp (np p)⟩
  case ti => exact ⟨by rw [hr 2463 (by decide)]; exact ⟨by decide, by decide⟩, fun p hp => absurd hp (np p)⟩
  case pd => exact fun p hp => absurd hp (np p)
  case jb => exact ⟨rb 2508 (by decide), rb 2509 (by decide)⟩
theorem RDX_of {e : EV} {B : Nat} {K0 : c_S} {R0 : r_S} {D : CD} {np lm nc : Nat} {sp : Nat → Option (Nat × Nat)} {gp : Nat → Nat → Option (Nat × Nat)} {ng ic : Nat → Nat} {ni nw : Nat} {wo we : Nat → Nat} {L : c_L} {T : q_S} {K K' : c_S} {R R' : r_S} (rd : RDF e B K0 R0 D np lm nc sp gp ng ic ni nw wo we L T K R) (of : OF (fun f i => f = 1213 ∧ i = 0) (fun _ _ => False) (fun f => f = 2400 ∨ f = 2413) (fun f _ => f = 2492 ∨ f = 2493 ∨ f = 2494 ∨ f = 2496 ∨ f = 2469) K R K' R') : RDX D np lm nc sp gp ng ic ni nw wo we L K' R' := by
  obtain ⟨wd, av, pp, rqs, dh, chs, pc, icc, cnt, ⟨k03, r16⟩, ⟨k05, r18⟩, k06, ⟨⟨w1, w2, w3⟩, ⟨w4, w5⟩, w6⟩⟩ := rd
  have g := WD_g wd
  have kk : ∀ f i : Nat, f ≠ 1213 → c_I K' f i = c_I K f i := fun f i h => (of.1 f i (fun z => h z.1)).1
  have ii : ∀ f : Nat, f ≠ 2400 → f ≠ 2413 → r_I R' f = r_I R f := fun f a b => of.2.2.1 f (fun z => z.elim a b)
  have rr : ∀ f i : Nat, f < 2469 → r_A R' f i = r_A R f i := fun f i h => of.2.2.2 f i (fun z => by omega)
  have aa : ∀ f i j : Nat, c_A K' f i j = c_A K f i j := fun f i j => of.2.1 f i j (fun z => z)
  refine ⟨PP_c pp LX_0 (Nat.le_refl _) (kk _ _ (by decide)) (ii _ (by decide) (by decide)) (fun p _ => (of.1 1001 p (fun z => by omega)).2.1) (fun p _ => ⟨rr _ _ (by decide), rr _ _ (by decide)⟩) (fun i _ => rr _ _ (by decide)), fun p hp => RQD_of (rqs p hp) g LX_0 of (fun f i a b => by unfold sI at a; omega) (fun f i a b => b) (fun f i a b => by unfold sa at a; generalize pst f = x at *; omega), dh, fun c hc => ⟨CHN_of (chs c hc).1 g LX_0 of (fun f i a b => by omega) (fun f i a b => by omega) (fun j h => (rr _ _ (by decide)).trans h), (chs c hc).2⟩, PC_m pc (fun j => kk _ _ (by decide)) (fun f j m => rr f j ((by decide : ∀ f ∈ [2448, 2449, 2450, 2454], f < 2469) f m)) (fun _ _ _ h => h) (fun _ _ _ h => h), ⟨fun i hi => ?_, icc.2⟩, cnt, ⟨(kk _ _ (by decide)).trans k03, (ii _ (by decide) (by decide)).trans r16⟩, ⟨(kk _ _ (by decide)).trans k05, (ii _ (by decide) (by decide)).trans r18⟩, ?_, ⟨⟨w1, (kk _ _ (by decide)).trans w2, (ii _ (by decide) (by decide)).trans w3⟩, ⟨w4, (ii _ (by decide) (by decide)).trans w5⟩, fun i hi => ?_⟩⟩
  · obtain ⟨a1, a2, a3, a4⟩ := icc.1 i hi
    exact ⟨a1, (aa _ _ _).trans a2, (rr _ _ (by decide)).trans a3, a4⟩
  · rw [kk 1206 0 (by decide), ii 2419 (by decide) (by decide)]
    exact k06
  · rw [aa, aa, rr 2461 _ (by decide), rr 2462 _ (by decide)]
    exact w6 i hi
theorem RDY_of {R0 R R3 : r_S} {D : CD} {np : Nat} {K0 K : c_S} (o : OLD K0 R0) (rz : RZ (r_ld0 R0) R) (en : EN np (fun p => D.1 p 0) (fun p => D.1 p 5) (rs_I R 2413 1) R3) : RDY D np (rs_I R3 2400 0) := by
  have e4 : ∀ f i : Nat, ¬ (f = 2492 ∨ f = 2493 ∨ f = 2494 ∨ f = 2496 ∨ f = 2469) → 2463 ≤ f → r_A (rs_I R3 2400 0) f i = r_A (r_ld0 R0) f i := fun f i h h' => (en.2.1 f i h).trans (rz.2 f i (by omega))
  have e5 : ∀ f : Nat, f ≠ 2400 → f ≠ 2413 → (f = 2414 ∨ 2463 ≤ f) → r_I (rs_I R3 2400 0) f = r_I (r_ld0 R0) f := fun f a b c => by
    rw [r_II, if_neg a, en.1 f, r_II, if_neg b]
    exact rz.1 f (by omega)
  refine ⟨fun q hq => ⟨⟨?_, ?_, ?_, ?_⟩, ?_, ?_, ?_⟩, fun i hi => ?_, fun p hp => ⟨⟨?_, ?_, ?_⟩, ?_, ?_, ?_⟩, fun c hc => ⟨?_, ?_, ?_, ?_, ?_⟩, ⟨fun i hi => ?_, fun i => ?_, fun i => ?_⟩, ?_, ?_, ⟨?_, ?_, ?_, ?_, ?_⟩, ?_, ?_, ?_⟩
  all_goals first | exact (e4 _ _ (by decide) (by decide)).trans (st_246 (fun o => ⟨rfl, rfl⟩) hq) | exact (e4 _ _ (by decide) (by decide)).trans (st_98 hi) | exact (e4 _ _ (by decide) (by decide)).trans (st_120 (fun o => ⟨rfl, rfl, rfl, rfl, rfl⟩) hp) | exact (e4 _ _ (by decide) (by decide)).trans (st_317 (fun o => rfl) hc) | exact (e4 _ _ (by decide) (by decide)).trans (st_77.trans (if_pos hi)) | exact (e5 _ (by decide) (by decide) (by decide)).trans rfl | skip
  · rw [e4 2465 i (by decide) (by decide), st_77]
    split
    · decide
    · exact o.2.2.2.2.2.2.1 i
  · rw [e4 2466 i (by decide) (by decide), show r_A (r_ld0 R0) 2466 i = r_A R0 2466 i from st_A (fun o => ⟨rfl, rfl, rfl, rfl, rfl, rfl, rfl⟩)]
    exact o.2.2.2.2.2.2.2 i
  · intro p i hp hi
    obtain ⟨a1, a2⟩ := en.2.2.1 p i hp hi
    refine ⟨a1.trans ?_, a2⟩
    rw [show r_A (rs_I R3 2400 0) 2443 (8 * p + i) = r_A (rs_I R 2413 1) 2443 (8 * p + i) from en.2.1 _ _ (by decide)]
  · intro p j hp hj
    refine (en.2.2.2 p j hp hj).trans ?_
    exact (en.2.1 2437 _ (by decide)).symm
  · rw [r_II, if_neg (by decide), en.1 2413, r_II, if_pos rfl]
  · rw [r_II, if_pos rfl]
theorem l_load {ob m out : Nat} {ad : Nat → Nat} {fo : Nat → Option Nat} {st : Nat → Nat} : lh_2 ob m out ad fo st := by
  intro Ln x4 B n u v L T K R Z y1 y2 y3 hn li lc vk hu hv
  obtain ⟨lb, w, zi, ot, eo, ht⟩ := li
  obtain ⟨old, bn, b4, b3, br⟩ := OLD_of w
  obtain ⟨L1, K1, T1, e1, wd, ri, kI, kA⟩ := rj_ex (K := K) (R := R) lb ot eo
  have old1 : OLD K1 R := by
    obtain ⟨o1, o2, o3, o4, o5, o6, o7, o8⟩ := old
    exact ⟨fun i => (kA _ _ _).trans (o1 i), fun i => (kA _ _ _).trans (o2 i), o3, o4, fun i => (kA _ _ _).trans (o5 i), fun i => (kA _ _ _).trans (o6 i), o7, o8⟩
  have g := WD_g wd
  have m11 := lp_11 g
  have eo1 : c_ob L1 11 0 = ob := wd.2.2.1
  unfold lw_2
  rw [e1]
  have ka : q_K (c_E L1 K1 T1) ob = 12 := by rw [← eo1]; exact c_gk g m11 12 rfl
  have p200 : q_P (c_E L1 K1 T1) 2200 ob = some (c_ob L1 9 0) := by rw [← eo1]; exact c_gp g 2200 9 rfl rfl (by decide) m11
  refine ⟨5000, 109000, ⟨hu, hv⟩, _, rfl, ka, 5000, 109000, ⟨by omega, by omega⟩, ka, _, p200, K10 g, 5000, 109000, ⟨by omega, by omega⟩, c_load wd ri ⟨b4, (kI _ _).trans b3, br⟩ old1.1 old1.2.2.1 (by decide) (by decide) (fun L2 T2 K2 R2 w q wd2 cz hf de hr => ?_) (fun L2 T2 K2 R2 D np lm nc sp gp ng ic ni nw wo we rd h3 hr => ⟨rfl, ?_⟩)⟩
  · have sep2 := wd2.1.2.2
    have wf2 := wd2.1.2.1
    have dd := FD_de hf de
    have rz := hf.1
    have oldf : OLD (k_fl K2 w q) (r_thr R2) := OLD_r old1 (K := k_fl K2 w q) (R := r_thr R2) (fun f i m => cz.2.1 f i m) (fun f i m => rz.2 f i ((by decide : ∀ f ∈ [2401, 2402, 2465, 2466, 2511, 2512], f ≤ 2402 ∨ 2463 ≤ f) f m))
    refine fun _ => ⟨rfl, _, rfl, _, rfl, wf2.1, ?_⟩
    have eT : c_E L2 (k_fl K2 w q) T2 = r_E m fo R (c_E L2 (k_fl K2 w q) T2) := by
      rw [← lp_com sep2]
      exact congrArg (c_E L2 (k_fl K2 w q)) wd2.2.2.2.symm
    rw [eT]
    refine (em_X12_load (lp_WF sep2 wf2) R _).mpr (hr _ (re_88_0 ⟨_, rfl, wf2.1, ?_⟩))
    refine (em_X12_thrown (lp_WF sep2 wf2) _ _).mpr ⟨_, rfl, bt_ rfl (nf_ (by decide) ?_)⟩
    rw [← lp_com sep2]
    refine lc L2 T2 (k_fl K2 w q) (r_thr R2) Z_2 _ _ ⟨wd2.1, WR_2 (fun f m => ?_) (fun f m => ?_) rfl ⟨dd.2.1.symm, dd.2.2.symm⟩ (fun x hx => ?_) oldf, ⟨fun _ => ⟨⟨rfl, rfl⟩, fun p hp => absurd hp (Nat.not_lt_zero p)⟩, fun z => absurd rfl z, fun z => absurd rfl z, fun z => absurd rfl z⟩, wd2.2.1, wd2.2.2.1, Nat.zero_le _⟩ (by omega) (by omega)
    · have hc : f ∈ [1201, 1203, 1205, 1206, 1209, 1213] ∨ f ∈ [1803, 402, 403, 1211, 1212, 1214] := (by decide : ∀ f ∈ [1201, 1203, 1205, 1206, 1209, 1211, 1212, 1213, 1214, 402, 403, 1803], f ∈ [1201, 1203, 1205, 1206, 1209, 1213] ∨ f ∈ [1803, 402, 403, 1211, 1212, 1214]) f m
      rcases hc with hc | hc
      · simp only [List.mem_cons, List.not_mem_nil, or_false] at hc
        rcases hc with rfl | rfl | rfl | rfl | rfl | rfl <;> rfl
      · have e := cz.1 f hc
        have e2 : c_I (k_fl K2 w q) f 0 = c_I K2 f 0 := by
          simp only [List.mem_cons, List.not_mem_nil, or_false] at hc
          rcases hc with rfl | rfl | rfl | rfl | rfl | rfl <;> rfl
        rw [e2, e]
        simp only [List.mem_cons, List.not_mem_nil, or_false] at hc
        rcases hc with rfl | rfl | rfl | rfl | rfl | rfl <;> rfl
    · have hc : f ∈ [2415, 2416, 2417, 2418, 2419, 2413] ∨ f ∈ [2463, 2464, 2508, 2509, 2510, 2414, 2403] := (by decide : ∀ f ∈ [2415, 2416, 2417, 2418, 2419, 2463, 2464, 2508, 2509, 2510, 2413, 2414, 2403], f ∈ [2415, 2416, 2417, 2418, 2419, 2413] ∨ f ∈ [2463, 2464, 2508, 2509, 2510, 2414, 2403]) f m
      rcases hc with hc | hc
      · simp only [List.mem_cons, List.not_mem_nil, or_false] at hc
        rcases hc with rfl | rfl | rfl | rfl | rfl | rfl <;> rfl
      · have e := rz.1 f (by
          have := (by decide : ∀ f ∈ [2463, 2464, 2508, 2509, 2510, 2414, 2403], f ≤ 2403 ∨ f = 2413 ∨ f = 2414 ∨ 2463 ≤ f) f hc
          exact this)
        have e2 : r_I (r_thr R2) f = r_I R2 f := by
          simp only [List.mem_cons, List.not_mem_nil, or_false] at hc
          rcases hc with rfl | rfl | rfl | rfl | rfl | rfl | rfl <;> rfl
        rw [e2, e]
        simp only [List.mem_cons, List.not_mem_nil, or_false] at hc
        rcases hc with rfl | rfl | rfl | rfl | rfl | rfl | rfl <;> rfl
    · exact (rz.2 2467 x (by decide)).trans (st_246 (fun o => ⟨rfl, rfl⟩) hx)
  · have rd0 := rd
    obtain ⟨wd2, av2, pp, rqs, dh, chs, pc, icc, ⟨c24, hni, hl, np1, nw1⟩, _, _, _, ⟨⟨w1, w2, w3⟩, ⟨w4, w5⟩, w6⟩⟩ := rd
    have g2 := WD_g wd2
    have sep2 := wd2.1.2.2
    have wf2 := wd2.1.2.1
    have ot2 := wd2.2.1
    have eo2 : c_ob L2 11 0 = ob := wd2.2.2.1
    have np16 := pp.1
    have cz := av2.2.2.2.2.2
    have rz := av2.2.2.2.2.1
    have ka2 : q_K (c_E L2 (cs_I K2 1213 0 1) T2) ob = 12 := by rw [← eo2]; exact c_gk g2 (lp_11 g2) 12 rfl
    have p201 : q_P (c_E L2 (cs_I K2 1213 0 1) T2) 2201 ob = some (c_ob L2 6 0) := by rw [← eo2]; exact c_gp g2 2201 6 rfl rfl (by decide) (lp_11 g2)
    refine ⟨ka2, _, p201, K7 g2, ?_⟩
    rw [c_eI (g_m6 g2) rfl]
    have e01 : c_I (cs_I K2 1213 0 1) 1201 0 = nI np := pp.2.1.1
    rw [e01]
    obtain ⟨lb', ot'⟩ := lb_out (v := (nI np).toInt64) wd2.1 ot2
    refine ⟨_, rfl, _, rfl, ot2.1.1, by rw [show q_N (c_E L2 (cs_I K2 1213 0 1) T2) out = 1 from ot2.1.2.1]; exact vp_in_nI (n := 0) (N := 1) (by decide) (by decide), _, rfl, _, rfl, wf2.1, ?_⟩
    show wm_X12_load (c_E L2 (cs_I K2 1213 0 1) (qs_B T2 out 0 (nI np).toInt64)) m _
    have eT : c_E L2 (cs_I K2 1213 0 1) (qs_B T2 out 0 (nI np).toInt64) = r_E m fo R (c_E L2 (cs_I K2 1213 0 1) (qs_B T2 out 0 (nI np).toInt64)) := by
      rw [← lp_com sep2]
      exact congrArg (c_E L2 (cs_I K2 1213 0 1)) (congrArg (fun S => qs_B S out 0 (nI np).toInt64) wd2.2.2.2.symm)
    rw [eT]
    refine (em_X12_load (lp_WF sep2 lb'.2.1) R _).mpr (hr _ (re_88_1 (c0 := fun p => D.1 p 0) (c5 := fun p => D.1 p 5) np16 pp.2.1.2 (fun p hp => ⟨((rqs p hp).2.2.2.1.2.2.1 0 (by decide)).2, (rqs p hp).2.2.2.1.2.1.2, (rqs p hp).2.2.2.1.1 0 (by decide), (rqs p hp).2.2.2.1.1 5 (by decide)⟩) (fun R3 en => ⟨_, rfl, wf2.1, ?_⟩)))
    have of : OF (fun f i => f = 1213 ∧ i = 0) (fun _ _ => False) (fun f => f = 2400 ∨ f = 2413) (fun f _ => f = 2492 ∨ f = 2493 ∨ f = 2494 ∨ f = 2496 ∨ f = 2469) K2 R2 (cs_I K2 1213 0 1) (rs_I R3 2400 0) := ⟨fun f i h => ⟨if_neg h, rfl, rfl⟩, fun _ _ _ _ => rfl, fun f h => by rw [r_II, if_neg (fun z => h (Or.inl z)), en.1 f, r_II, if_neg (fun z => h (Or.inr z))], fun f i h => en.2.1 f i h⟩
    have ry := RDY_of (K := K2) old1 rz en
    have old4 : OLD (cs_I K2 1213 0 1) (rs_I R3 2400 0) := OLD_r old1 (fun f i m => cz.2.1 f i m) (fun f i m => (en.2.1 f i (fun z => by
      have := (by decide : ∀ f ∈ [2401, 2402, 2465, 2466, 2511, 2512], ¬ (f = 2492 ∨ f = 2493 ∨ f = 2494 ∨ f = 2496 ∨ f = 2469)) f m
      exact this z)).trans (rz.2 f i ((by decide : ∀ f ∈ [2401, 2402, 2465, 2466, 2511, 2512], f ≤ 2402 ∨ 2463 ≤ f) f m)))
    have kz : ∀ f : Nat, f ∈ [1803, 402, 403, 1211, 1212, 1214] → c_I (cs_I K2 1213 0 1) f 0 = 0 := fun f m => by
      have e := cz.1 f m
      simp only [List.mem_cons, List.not_mem_nil, or_false] at m
      rcases m with rfl | rfl | rfl | rfl | rfl | rfl <;> exact e
    have ii : ∀ f : Nat, f ≠ 2400 → f ≠ 2413 → r_I (rs_I R3 2400 0) f = r_I R2 f := fun f a b => of.2.2.1 f (fun z => z.elim a b)
    have rj : RDJ (cs_I K2 1213 0 1) (rs_I R3 2400 0) := ⟨⟨(kz 402 (by decide)).trans ry.2.2.2.2.2.2.2.1.2.2.1.symm, (kz 403 (by decide)).trans ry.2.2.2.2.2.2.2.1.2.2.2.1.symm, old4.2.2.2.2.1, old4.2.2.2.2.2.1⟩, ⟨0, by decide, kz 1803 (by decide), (ii 2403 (by decide) (by decide)).trans (rz.1 2403 (by decide))⟩, h3.1.trans ((ii 2411 (by decide) (by decide)).trans av2.2.2.2.1).symm, h3.2.1.trans ((ii 2412 (by decide) (by decide)).trans h3.2.2).symm, old4.1, old4.2.1, old4.2.2.1, old4.2.2.2.1⟩
    have wr : WR (1000000 * (n + 1)) L2 (Z_1 D np nc ni nw sp gp ng ic wo we (cs_I K2 1213 0 1)) (cs_I K2 1213 0 1) (rs_I R3 2400 0) := WR_1 g2 ot2.2 (RDX_of rd0 of) ry rj ⟨kz 1211 (by decide), kz 1212 (by decide), rfl, kz 1214 (by decide)⟩
    have q256 : ∀ p j : Nat, p < np → j < D.1 p 5 → 16 * p + j < 256 := fun p j hp hj => by
      have : D.1 p 5 ≤ 16 := (rqs p hp).2.2.2.1.1 5 (by decide)
      omega
    have zw : ZW (Z_1 D np nc ni nw sp gp ng ic wo we (cs_I K2 1213 0 1)) := ⟨⟨nw1, w1⟩, w4, fun i hi => ⟨Nat.lt_of_lt_of_le (w6 i hi).1 np16, (w6 i hi).2.2.2.2.1, (w6 i hi).2.2.2.2.2.1⟩⟩
    have fin : B (u + 5000) (v + 109000) (r_E m fo (rs_I R3 2400 0) (c_E L2 (cs_I K2 1213 0 1) (qs_B T2 out 0 (nI np).toInt64))) := by
      rw [← lp_com sep2]
      exact lc L2 _ (cs_I K2 1213 0 1) (rs_I R3 2400 0) _ _ _ ⟨lb', wr, ⟨fun _ => ⟨⟨rfl, rfl⟩, fun p hp => ⟨(ry.2.2.1 p (Nat.lt_of_lt_of_le hp np16)).1.1, fun j hj => (ry.1 _ (q256 p j hp hj)).1.1⟩⟩, fun z => absurd rfl z, fun _ => zw, fun z => absurd rfl z⟩, ot', eo2, Nat.zero_le _⟩ (by omega) (by omega)
    refine (em_X12_thrown (lp_WF sep2 lb'.2.1) _ _).mpr ⟨_, rfl, bt_ rfl (nt_ rfl ⟨_, rfl, ot2.1.1, by rw [show q_N (r_E m fo (rs_I R3 2400 0) (c_E L2 (cs_I K2 1213 0 1) (qs_B T2 out 0 (nI np).toInt64))) out = 1 from ot2.1.2.1]; exact vp_in_nI (n := 0) (N := 1) (by decide) (by decide), bt_ ?_ fin⟩)⟩
    rw [show q_B (r_E m fo (rs_I R3 2400 0) (c_E L2 (cs_I K2 1213 0 1) (qs_B T2 out 0 (nI np).toInt64))) out (0 : Int32).toNatClampNeg = (nI np).toInt64 from q_Bs]
    exact lg_self _
