/-! The small steps of a process on both sides, as functions; each row: whoever shows the claim on the function's end has shown the row of the program. -/
def k_rdy (K : c_S) (p q : Nat) : c_S := cs_I (cs_I (cs_I (cs_I (cs_I K 1409 q 1) 1418 q (-1)) 1413 q (-1)) 1015 p (c_I K 1015 p + 1)) 1417 q (c_I K 1015 p + 1)
def k_wt (K : c_S) (p q : Nat) (what til : Int32) : c_S := cs_I (cs_I (cs_I (cs_I (cs_I K 1409 q 2) 1418 q what) 1413 q til) 1015 p (c_I K 1015 p + 1)) 1417 q (c_I K 1015 p + 1)
def k_lv (K : c_S) (q : Nat) (s : Int32) : c_S := cs_I (cs_I (cs_I (cs_I (cs_I K 1409 q s) 1412 q (if s = 0 then -1 else c_I K 1412 q)) 1413 q (-1)) 1418 q (-1)) 1416 q 0
def k_ul (K : c_S) (p q : Nat) : c_S := if c_I K 1014 p = c_I K 1400 q then cs_I (cs_I K 1013 p 0) 1014 p (-1) else K
def k_rs (L : c_L) (K : c_S) (q : Nat) : c_S := cs_I (cs_I (c_fi L K 1411 q 0) 1410 q (c_I K 1402 q)) 1416 q 0
def k_sr (K : c_S) (q : Nat) (t : Int32) : c_S := cs_I (cs_I K 1415 q t) 1412 q (if c_I K 1405 q ≤ 0 then -1 else t + c_I K 1405 q)
def k_bk (K : c_S) (p q : Nat) : c_S := cs_I (cs_I K 1015 p (c_I K 1015 p + 1)) 1417 q (c_I K 1015 p + 1)
def k_uf (K : c_S) (p q : Nat) : c_S := if c_I K 1400 q = c_I K 1016 p then cs_I K 1016 p (-1) else K
theorem c_Is {K : c_S} {f i : Nat} {v : Int32} : c_I (cs_I K f i v) f i = v := if_pos ⟨rfl, rfl⟩
theorem r_Is {R : r_S} {f : Nat} {v : Int32} : r_I (rs_I R f v) f = v := if_pos rfl
theorem r_As {R : r_S} {f i : Nat} {v : Int32} : r_A (rs_A R f i v) f i = v := if_pos ⟨rfl, rfl⟩
theorem c_As {K : c_S} {f i j : Nat} {v : Int32} : c_A (cs_A K f i j v) f i j = v := by rw [c_AA, if_pos ⟨rfl, rfl, rfl⟩]
theorem ke_makeReady {L : c_L} {K : c_S} {p q : Nat} {Q : c_S → Prop} (m : c_mk L 7 q) (h : Q (k_rdy K p q)) : km_X5_makeReady L K p (some q) Q := ⟨q, rfl, m, fun _ e _ e2 => by subst e; subst e2; rw [c_Is]; exact h⟩
theorem ke_makeWait {L : c_L} {K : c_S} {p q : Nat} {a b : Int32} {Q : c_S → Prop} (m : c_mk L 7 q) (h : Q (k_wt K p q a b)) : km_X5_makeWait L K p (some q) a b Q := ⟨q, rfl, m, fun _ e _ e2 => by subst e; subst e2; rw [c_Is]; exact h⟩
theorem ke_leave {L : c_L} {K : c_S} {q : Nat} {s : Int32} {Q : c_S → Prop} (h : Q (k_lv K q s)) : km_X7_leave L K q s Q := by
  unfold k_lv at h
  refine ⟨fun n _ e => ?_, fun n _ e => ?_⟩
  · rw [if_neg n] at h; subst e; exact h
  · rw [if_pos n] at h; subst e; exact h
theorem ke_unlockOf {L : c_L} {K : c_S} {p q : Nat} {Q : c_S → Prop} (m : c_mk L 7 q) (h : Q (k_ul K p q)) : km_X5_unlockOf L K p (some q) Q := by
  unfold k_ul at h
  refine ⟨q, rfl, m, fun n => ?_, fun n => ?_⟩
  · rw [if_neg n] at h; exact h
  · rw [if_pos n] at h; exact h
theorem ke_restart {L : c_L} {K : c_S} {q : Nat} {Q : c_S → Prop} (hl : c_ln L 1411 q = 32) (h : Q (k_rs L K q)) : km_X7_restart L K q Q := ⟨⟨rfl, by rw [hl]; decide⟩, h⟩
theorem ke_setRelease {L : c_L} {K : c_S} {q : Nat} {t : Int32} {Q : c_S → Prop} (h : Q (k_sr K q t)) : km_X7_setRelease L K q t Q := by
  unfold k_sr at h
  refine ⟨fun n => ?_, fun n => ?_⟩
  · have n : c_I K 1405 q ≤ 0 := n
    rw [if_pos n] at h; exact h
  · have n : ¬ c_I K 1405 q ≤ 0 := n
    rw [if_neg n] at h
    have e : c_I (cs_I K 1415 q t) 1415 q = t := if_pos ⟨rfl, rfl⟩
    show Q (cs_I (cs_I K 1415 q t) 1412 q (c_I (cs_I K 1415 q t) 1415 q + c_I K 1405 q))
    rw [e]
    exact h
theorem ke_toTheBack {L : c_L} {K : c_S} {p q : Nat} {Q : c_S → Prop} (m : c_mk L 7 q) (h : Q (k_bk K p q)) : km_X5_toTheBack L K p (some q) Q := by
  have e : c_I (cs_I K 1015 p (c_I K 1015 p + 1)) 1015 p = c_I K 1015 p + 1 := if_pos ⟨rfl, rfl⟩
  unfold k_bk at h
  unfold km_X5_toTheBack
  refine ⟨q, rfl, m, ?_⟩
  first
  | exact h
  | (rw [e]; exact h)
  | (intro _ e1; subst e1; first | exact h | (rw [e]; exact h))
theorem ke_answerWaiter {L : c_L} {K : c_S} {p q : Nat} {v : Int32} {Q : c_S → Prop} (m : c_mk L 7 q) (h : Q (cs_A (k_rdy K p q) 1411 q 10 v)) : km_X5_answerWaiter L K p (some q) v Q := ke_makeReady m ⟨q, rfl, m, vp_in_nI (n := 10) (by decide) (by decide), h⟩
/-- a process of the partition, by its number -/
theorem ke_processAt {L : c_L} {K : c_S} {p j n : Nat} {Q : Option Nat → c_S → Prop} (hn : c_I K 1004 p = nI n) (hj : j < n) (h16 : n ≤ 16) (m : c_mk L 7 (16 * p + j)) (h : Q (some (16 * p + j)) K) : km_X5_processAt L K p (nI j) Q := by
  refine ⟨fun z => absurd z (nI_pos (by omega)), fun _ => ⟨fun _ => ⟨vp_in_nI (by omega) (by decide), ?_⟩, fun z => absurd ?_ z⟩⟩
  · show Q (c_e7 L p (nI j).toNatClampNeg) K
    rw [nI_clamp (by omega), c_m7 (by omega) m]
    exact h
  · rw [hn]; exact nI_lt hj (by omega)
theorem ke_processAt0 {L : c_L} {K : c_S} {p n : Nat} {x : Int32} {Q : Option Nat → c_S → Prop} (hn : c_I K 1004 p = nI n) (hx : x < 0 ∨ ¬ x < nI n) (h : Q none K) : km_X5_processAt L K p x Q := by
  refine ⟨fun _ => h, fun z => ⟨fun z2 => ?_, fun _ => h⟩⟩
  rw [hn] at z2
  rcases hx with hx | hx
  · exact absurd hx z
  · exact absurd z2 hx
def k_sx (L : c_L) (K : c_S) (p q : Nat) (t : Int32) : c_S := k_uf (k_sr (k_rs L K q) q t) p q
def k_st (L : c_L) (K : c_S) (p q : Nat) (t now : Int32) : c_S := if t ≤ now then k_rdy (k_sx L K p q t) p q else k_wt (k_sx L K p q t) p q 128 t
theorem ke_start {L : c_L} {K : c_S} {p q : Nat} {t now : Int32} {Q : c_S → Prop} (m : c_mk L 7 q) (hl : c_ln L 1411 q = 32) (h : Q (k_st L K p q t now)) : km_X5_start L K p (some q) t now Q := by
  have g : ∀ S : c_S, k_uf (k_sr (k_rs L K q) q t) p q = S → kb_X5_start_25 L S p (some q) t now Q := by
    intro S e
    unfold k_st k_sx at h
    rw [e] at h
    refine ⟨fun n => ?_, fun n => ?_⟩
    · rw [if_pos n] at h; exact ke_makeReady m h
    · rw [if_neg n] at h; exact ke_makeWait m h
  refine ⟨q, rfl, m, ke_restart hl (ke_setRelease ⟨fun n => g _ ?_, fun n => g _ ?_⟩)⟩
  · exact if_neg n
  · exact if_pos n
/-! the reference's -/
def r_rdy (R : r_S) (q : Nat) : r_S := rs_A (rs_I (rs_A (rs_A (rs_A R 2467 q 1) 2472 q (-1)) 2478 q 0) 2464 (r_I R 2464 + 1)) 2476 q (r_I R 2464 + 1)
def r_ul (R : r_S) (p : Nat) : r_S := if ¬ r_A R 2486 p ≤ 0 ∧ ¬ r_A R 2467 (r_A R 2487 p).toNatClampNeg = 1 then rs_A R 2486 p 0 else R
def r_sl (R : r_S) (q : Nat) : r_S := rs_A (rs_A (rs_A (rs_A (rs_A R 2467 q 0) 2472 q (-1)) 2478 q 0) 2475 q 0) 2470 q 0
theorem ri_v {f n q : Nat} (hf : r_N f = n) (h : q < n) (hn : n < 2 ^ 31) : vp_in (nI q) (r_N f) := by rw [hf]; exact vp_in_nI h hn
theorem re_isReady {R : r_S} {q : Nat} {Q : Option Value → r_S → Prop} (hq : q < 256) (h : Q none (r_rdy R q)) : rm_X12_isReady R (nI q) Q := by
  have c := nI_clamp (n := q) (by omega)
  refine ⟨ri_v rfl hq (by decide), ri_v rfl hq (by decide), ri_v rfl hq (by decide), fun _ e => ⟨ri_v rfl hq (by decide), fun _ e2 => ?_⟩⟩
  subst e; subst e2
  rw [c]
  exact h
theorem re_partitionOf {R : r_S} {p j : Nat} {Q : Option Value → r_S → Prop} (hp : p < 16) (hj : j < 16) (h : Q (some (.int (nI p))) R) : rm_X12_partitionOf R (nI (16 * p + j)) Q := by
  show Q (some (.int (nI (16 * p + j) / nI 16))) R
  rw [pk_div (by omega) (by decide) (by decide), show (16 * p + j) / 16 = p by omega]
  exact h
theorem re_unlock {R : r_S} {p : Nat} {Q : Option Value → r_S → Prop} (hp : p < 16) (hl : ¬ r_A R 2486 p ≤ 0 → vp_in (r_A R 2487 p) 256) (h : Q none (r_ul R p)) : rm_X12_unlock R (nI p) Q := by
  have c := nI_clamp (n := p) (by omega)
  unfold r_ul at h
  refine ⟨ri_v rfl hp (by decide), fun n => ?_, fun n => ⟨ri_v rfl hp (by decide), ?_, fun n2 => ?_, fun n2 => ⟨ri_v rfl hp (by decide), ?_⟩⟩⟩
  · rw [c] at n
    rw [if_neg (fun z => z.1 n)] at h; exact h
  · rw [c] at n ⊢; exact hl n
  · rw [c] at n n2
    rw [if_neg (fun z => z.2 n2)] at h; exact h
  · rw [c] at n n2 ⊢
    rw [if_pos ⟨n, n2⟩] at h; exact h
theorem re_sleeps {R : r_S} {p j : Nat} {Q : Option Value → r_S → Prop} (hp : p < 16) (hj : j < 16) (hl : ¬ r_A (r_sl R (16 * p + j)) 2486 p ≤ 0 → vp_in (r_A (r_sl R (16 * p + j)) 2487 p) 256) (h : Q none (r_ul (r_sl R (16 * p + j)) p)) : rm_X12_sleeps R (nI (16 * p + j)) Q := by
  have c := nI_clamp (n := 16 * p + j) (by omega)
  have hq : 16 * p + j < 256 := by omega
  refine ⟨ri_v rfl hq (by decide), ri_v rfl hq (by decide), ri_v rfl hq (by decide), fun _ e => ⟨ri_v rfl hq (by decide), ri_v rfl hq (by decide), re_partitionOf hp hj ⟨_, rfl, ?_⟩⟩⟩
  subst e
  rw [c]
  exact re_unlock hp hl ⟨rfl, h⟩
def r_s1 (R : r_S) (q : Nat) (t : Int32) : r_S := rs_A (rs_A (rs_A (r_z R q 32) 2468 q (r_A R 2436 q)) 2475 q 0) 2473 q t
def r_s2 (R : r_S) (q : Nat) (t : Int32) : r_S := rs_A (rs_A (r_s1 R q t) 2470 q (if r_A R 2439 q ≤ 0 then 0 else 1)) 2471 q (t + r_A R 2439 q)
def r_s4 (R : r_S) (q : Nat) (t : Int32) : r_S := if t ≤ r_I R 2463 then r_rdy (r_s2 R q t) q else rs_A (rs_A (r_rdy (r_s2 R q t) q) 2467 q 2) 2472 q t
def r_st (R : r_S) (p q : Nat) (t : Int32) : r_S := r_ul (r_s4 R q t) p
theorem vn_0 : vp_nar .boolean (0 : Int32) = 0 := rfl
theorem vn_1 : vp_nar .boolean (1 : Int32) = 1 := rfl
theorem re_startsAt {R : r_S} {p j : Nat} {t : Int32} {Q : Option Value → r_S → Prop} (hp : p < 16) (hj : j < 16) (hl : ¬ r_A (r_s4 R (16 * p + j) t) 2486 p ≤ 0 → vp_in (r_A (r_s4 R (16 * p + j) t) 2487 p) 256) (h : Q none (r_st R p (16 * p + j) t)) : rm_X12_startsAt R (nI (16 * p + j)) t Q := by
  have c := nI_clamp (n := 16 * p + j) (by omega)
  have hq : 16 * p + j < 256 := by omega
  have fin : ∀ S : r_S, S = r_s4 R (16 * p + j) t → rb_X12_startsAt_113 S (nI (16 * p + j)) Q := fun S e => by
    subst e
    exact re_partitionOf hp hj ⟨_, rfl, re_unlock hp hl ⟨rfl, h⟩⟩
  have mid : ∀ (S : r_S) (b : Int32), S = r_s1 R (16 * p + j) t → vp_nar .boolean b = (if r_A R 2439 (16 * p + j) ≤ 0 then 0 else 1) → rb_X12_startsAt_71 S (nI (16 * p + j)) t (nI (16 * p + j)) b Q := fun S b e eb => by
    subst e
    refine ⟨ri_v rfl hq (by decide), ri_v rfl hq (by decide), ri_v rfl hq (by decide), fun S2 e2 => re_isReady hq ⟨rfl, ?_⟩⟩
    rw [c, eb] at e2
    have e2 : S2 = r_s2 R (16 * p + j) t := e2
    subst e2
    refine ⟨fun n => fin _ (if_pos n).symm, fun n => ⟨ri_v rfl hq (by decide), ri_v rfl hq (by decide), fin _ ?_⟩⟩
    rw [c]
    exact (if_neg n).symm
  have lp : ∀ d k : Nat, k + d = 32 → rl_X12_startsAt_2 (d + 1) (r_z R (16 * p + j) k) (nI (16 * p + j)) t (nI k) Q := by
    intro d
    induction d with
    | zero =>
      intro k hk
      obtain rfl : k = 32 := by omega
      refine ⟨fun _ => ⟨ri_v rfl hq (by decide), ri_v rfl hq (by decide), ri_v rfl hq (by decide), ri_v rfl hq (by decide), fun S e => ?_⟩, fun z => absurd (by decide) z⟩
      rw [c, vn_0, rz_f (by decide)] at e
      have e : S = r_s1 R (16 * p + j) t := e
      subst e
      have e9 : r_A (r_s1 R (16 * p + j) t) 2439 (nI (16 * p + j)).toNatClampNeg = r_A R 2439 (16 * p + j) := by
        rw [c]
        show r_A (r_z R (16 * p + j) 32) 2439 (16 * p + j) = _
        exact rz_f (by decide)
      refine ⟨ri_v rfl hq (by decide), fun n => mid _ _ rfl ?_, fun n => mid _ _ rfl ?_⟩
      · rw [e9] at n; rw [if_pos n]; rfl
      · rw [e9] at n; rw [if_neg n]; rfl
    | succ d ih =>
      intro k hk
      refine ⟨fun z => absurd z (nI_ge (a := k) (b := 32) (by omega) (by decide)), fun _ => ?_⟩
      have e : (32 : Int32) * nI (16 * p + j) + nI k = nI (32 * (16 * p + j) + k) := by
        rw [show (32 : Int32) = nI 32 from rfl, pk_mul, nI_add]
      rw [e]
      refine ⟨ri_v (n := 8192) rfl (by omega) (by decide), ?_⟩
      rw [nI_clamp (by omega), rz_s]
      show rl_X12_startsAt_2 (d + 1) _ _ _ (nI k + 1) Q
      rw [nI_1]
      exact ih (k + 1) (by omega)
  have z := lp 32 0 rfl
  rw [rz_0] at z
  exact ⟨33, z⟩
theorem re_answer {R : r_S} {q : Nat} {v : Int32} {Q : Option Value → r_S → Prop} (hq : q < 256) (h : Q none (rs_A R 2477 (32 * q + 10) v)) : rm_X12_answer R (nI q) v Q := by
  have e : (32 : Int32) * nI q + (10 : Int32) = nI (32 * q + 10) := by
    rw [show (32 : Int32) = nI 32 from rfl, show (10 : Int32) = nI 10 from rfl, pk_mul, nI_add]
  unfold rm_X12_answer
  rw [e, nI_clamp (by omega)]
  exact ⟨ri_v (n := 8192) rfl (by omega) (by decide), h⟩
theorem re_gets {R : r_S} {q : Nat} {Q : Option Value → r_S → Prop} (hq : q < 256) (h : Q none (r_rdy (rs_A R 2477 (32 * q + 10) 0) q)) : rm_X12_gets R (nI q) Q := re_answer hq ⟨rfl, re_isReady hq ⟨rfl, h⟩⟩
theorem re_isHandler1 {R : r_S} {p j : Nat} {Q : Option Value → r_S → Prop} (hp : p < 16) (hj : j < 16) (he : r_A R 2442 p = nI (16 * p + j)) (h : Q (some (.int 1)) R) : rm_X12_isHandler R (nI (16 * p + j)) Q := by
  refine re_partitionOf hp hj ⟨_, rfl, ri_v rfl hp (by decide), ?_⟩
  rw [nI_clamp (by omega)]
  exact ⟨fun n => absurd he n, fun _ => ⟨rfl, h⟩⟩
theorem re_isHandler0 {R : r_S} {p j : Nat} {Q : Option Value → r_S → Prop} (hp : p < 16) (hj : j < 16) (he : r_A R 2442 p ≠ nI (16 * p + j)) (h : Q (some (.int 0)) R) : rm_X12_isHandler R (nI (16 * p + j)) Q := by
  refine re_partitionOf hp hj ⟨_, rfl, ri_v rfl hp (by decide), ?_⟩
  rw [nI_clamp (by omega)]
  exact ⟨fun _ => ⟨rfl, h⟩, fun n => absurd n he⟩
def r_wt (R : r_S) (q : Nat) (s th til : Int32) : r_S := rs_A (rs_I (rs_A (rs_A (rs_A (rs_A R 2467 q 2) 2478 q s) 2479 q th) 2472 q til) 2464 (r_I R 2464 + 1)) 2481 q (r_I R 2464 + 1)
def r_wu (R : r_S) (q : Nat) (t : Int32) : r_S := rs_A (rs_A (rs_A R 2467 q 2) 2478 q 0) 2472 q t
/-- a wait that may not be -/
theorem re_waits0 {R : r_S} {q : Nat} {s th : Int32} {Q : Option Value → r_S → Prop} (h : Q (some (.int 2)) R) : rm_X12_waits R (nI q) s th 0 Q := ⟨fun n => absurd rfl n, fun _ => h⟩
theorem re_waitsL {R : r_S} {p j : Nat} {s th t : Int32} {Q : Option Value → r_S → Prop} (hp : p < 16) (hj : j < 16) (ht : t ≠ 0) (hl : 0 < r_A R 2486 p ∨ r_A R 2442 p = nI (16 * p + j)) (h : Q (some (.int 3)) R) : rm_X12_waits R (nI (16 * p + j)) s th t Q := by
  refine ⟨fun _ => re_partitionOf hp hj ⟨_, rfl, ri_v rfl hp (by decide), ?_⟩, fun n => absurd n ht⟩
  rw [nI_clamp (by omega)]
  refine ⟨fun _ => h, fun n => ?_⟩
  have hh : r_A R 2442 p = nI (16 * p + j) := hl.resolve_left n
  exact re_isHandler1 hp hj hh ⟨_, rfl, fun z => absurd z (by decide), fun _ => h⟩
theorem re_waits {R : r_S} {p j : Nat} {s th t : Int32} {Q : Option Value → r_S → Prop} (hp : p < 16) (hj : j < 16) (ht : t ≠ 0) (hl : ¬ 0 < r_A R 2486 p) (hh : r_A R 2442 p ≠ nI (16 * p + j)) (h : Q (some (.int (-1))) (r_wt R (16 * p + j) s th (if 0 ≤ t then r_I R 2463 + t else -1))) : rm_X12_waits R (nI (16 * p + j)) s th t Q := by
  have hq : 16 * p + j < 256 := by omega
  have c := nI_clamp (n := 16 * p + j) (by omega)
  refine ⟨fun _ => re_partitionOf hp hj ⟨_, rfl, ri_v rfl hp (by decide), ?_⟩, fun n => absurd n ht⟩
  rw [nI_clamp (by omega)]
  refine ⟨fun n => absurd n hl, fun _ => re_isHandler0 hp hj hh ⟨_, rfl, fun _ => ⟨ri_v rfl hq (by decide), ri_v rfl hq (by decide), ri_v rfl hq (by decide), fun S e => ?_⟩, fun z => absurd rfl z⟩⟩
  subst e
  rw [c]
  refine ⟨fun n => ⟨ri_v rfl hq (by decide), fun S e => ⟨ri_v rfl hq (by decide), ?_⟩⟩, fun n => ⟨ri_v rfl hq (by decide), fun S e => ⟨ri_v rfl hq (by decide), ?_⟩⟩⟩
  · subst e
    rw [if_pos n] at h
    rw [c, r_Is]
    exact h
  · subst e
    rw [if_neg n] at h
    rw [c, r_Is]
    exact h
theorem re_waitsUL {R : r_S} {p j : Nat} {t : Int32} {Q : Option Value → r_S → Prop} (hp : p < 16) (hj : j < 16) (hl : 0 < r_A R 2486 p ∨ r_A R 2442 p = nI (16 * p + j)) (h : Q (some (.int 3)) R) : rm_X12_waitsUntil R (nI (16 * p + j)) t Q := by
  refine re_partitionOf hp hj ⟨_, rfl, ri_v rfl hp (by decide), ?_⟩
  rw [nI_clamp (by omega)]
  refine ⟨fun _ => h, fun n => ?_⟩
  exact re_isHandler1 hp hj (hl.resolve_left n) ⟨_, rfl, fun z => absurd z (by decide), fun _ => h⟩
theorem re_waitsU {R : r_S} {p j : Nat} {t : Int32} {Q : Option Value → r_S → Prop} (hp : p < 16) (hj : j < 16) (hl : ¬ 0 < r_A R 2486 p) (hh : r_A R 2442 p ≠ nI (16 * p + j)) (h : Q (some (.int 0)) (r_wu R (16 * p + j) t)) : rm_X12_waitsUntil R (nI (16 * p + j)) t Q := by
  have hq : 16 * p + j < 256 := by omega
  have c := nI_clamp (n := 16 * p + j) (by omega)
  refine re_partitionOf hp hj ⟨_, rfl, ri_v rfl hp (by decide), ?_⟩
  rw [nI_clamp (by omega)]
  refine ⟨fun n => absurd n hl, fun _ => re_isHandler0 hp hj hh ⟨_, rfl, fun _ => ⟨ri_v rfl hq (by decide), ri_v rfl hq (by decide), ri_v rfl hq (by decide), fun S e => ?_⟩, fun z => absurd rfl z⟩⟩
  subst e
  rw [c]
  exact h
