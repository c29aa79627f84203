/-! The reference forgets. -/
def ws (R : r_S) (k : Nat) : List (Nat × Int32) → r_S
  | [] => R
  | q :: t => ws (rs_A R q.1 k q.2) k t
def lkw : List (Nat × Int32) → Nat → Int32 → Int32
  | [], _, o => o
  | q :: t, f, o => lkw t f (if f = q.1 then q.2 else o)
theorem ws_A {k : Nat} {l : List (Nat × Int32)} : ∀ {R : r_S} {f i : Nat}, r_A (ws R k l) f i = if i = k then lkw l f (r_A R f i) else r_A R f i := by
  induction l with
  | nil => intro R f i; split <;> rfl
  | cons q t ih =>
    intro R f i
    show r_A (ws (rs_A R q.1 k q.2) k t) f i = if i = k then lkw t f (if f = q.1 then q.2 else r_A R f i) else r_A R f i
    rw [ih, r_AA]
    by_cases z : i = k
    · rw [if_pos z, if_pos z]
      by_cases y : f = q.1
      · rw [if_pos ⟨y, z⟩, if_pos y]
      · rw [if_neg (fun x => y x.1), if_neg y]
    · rw [if_neg z, if_neg z, if_neg (fun x => z x.2)]
theorem ws_I {k : Nat} {l : List (Nat × Int32)} : ∀ {R : r_S} {f : Nat}, r_I (ws R k l) f = r_I R f := by
  induction l with
  | nil => intro R f; rfl
  | cons q t ih =>
    intro R f
    show r_I (ws (rs_A R q.1 k q.2) k t) f = r_I R f
    rw [ih]
    rfl
def FL (l : List (Nat × Int32)) (n : Nat) (R R' : r_S) : Prop := (∀ f : Nat, r_I R' f = r_I R f) ∧ ∀ f i : Nat, r_A R' f i = if i < n then lkw l f (r_A R f i) else r_A R f i
theorem FL_0 {l : List (Nat × Int32)} {R : r_S} : FL l 0 R R := ⟨fun _ => rfl, fun f i => (if_neg (Nat.not_lt_zero i)).symm⟩
theorem FL_s {l : List (Nat × Int32)} {k : Nat} {R R1 : r_S} (h : FL l k R R1) : FL l (k + 1) R (ws R1 k l) := by
  refine ⟨fun f => ws_I.trans (h.1 f), fun f i => ?_⟩
  rw [ws_A, h.2]
  by_cases z : i = k
  · rw [if_pos z, if_neg (by omega), if_pos (by omega)]
  · by_cases y : i < k
    · rw [if_neg z, if_pos y, if_pos (by omega)]
    · rw [if_neg z, if_neg y, if_neg (by omega)]
theorem lp_f {rl : Nat → r_S → Int32 → Prop} {N : Nat} {l : List (Nat × Int32)} {C : r_S → Prop} (hs : ∀ (d k : Nat) (R1 : r_S), k < N → rl d (ws R1 k l) (nI (k + 1)) → rl (d + 1) R1 (nI k)) (he : ∀ (d : Nat) (R1 : r_S), C R1 → rl (d + 1) R1 (nI N)) : ∀ (d k : Nat) (R R1 : r_S), k + d = N → FL l k R R1 → (∀ R' : r_S, FL l N R R' → C R') → rl (d + 1) R1 (nI k) := by
  intro d
  induction d with
  | zero =>
    intro k R R1 hk fl hC
    have : k = N := by omega
    subst this
    exact he 0 R1 (hC R1 fl)
  | succ d ih =>
    intro k R R1 hk fl hC
    exact hs (d + 1) k R1 (by omega) (ih (k + 1) R (ws R1 k l) (by omega) (FL_s fl) hC)
def f_77 : List (Nat × Int32) := [(2465, 0)]
def f_98 : List (Nat × Int32) := [(2477, 0)]
def f_120 : List (Nat × Int32) := [(2430, 0), (2442, -1), (2451, 0), (2483, 0), (2484, -1), (2485, 0), (2486, 0), (2487, -1), (2488, -1), (2491, 0)]
def f_204 : List (Nat × Int32) := [(2435, 0)]
def f_225 : List (Nat × Int32) := [(2452, 0)]
def f_246 : List (Nat × Int32) := [(2467, 0), (2468, 0), (2470, 0), (2472, -1), (2473, 0), (2474, 0), (2475, 0), (2478, 0)]
def f_317 : List (Nat × Int32) := [(2498, 0), (2501, 0), (2503, 0), (2504, 0), (2505, 0)]
/-- what is there when all is forgotten -/
def FG (R R' : r_S) : Prop := ∃ R1 R2 R3 R4 R5 R6 : r_S, FL f_77 131072 R R1 ∧ FL f_98 8192 R1 R2 ∧ FL f_120 16 R2 R3 ∧ FL f_204 96 R3 R4 ∧ FL f_225 80 R4 R5 ∧ FL f_246 256 R5 R6 ∧ FL f_317 24 R6 R'
theorem fg_vp {k N : Nat} (h : k < N) (hN : N < 2 ^ 31) (f : Nat) (e : r_N f = N) : vp_in (nI k) (r_N f) := by
  rw [e]
  exact vp_in_nI h hN
theorem fg_all {R : r_S} {Q : Option Value → r_S → Prop} (h : ∀ R' : r_S, FG R R' → Q none R') : rl_X12_forget_77 131073 R 0 Q := by
  have cl : ∀ k : Nat, k < 2 ^ 31 → (nI k).toNatClampNeg = k := fun k hk => nI_clamp hk
  have h7 : ∀ R1 R2 R3 R4 R5 R6 : r_S, FL f_77 131072 R R1 → FL f_98 8192 R1 R2 → FL f_120 16 R2 R3 → FL f_204 96 R3 R4 → FL f_225 80 R4 R5 → FL f_246 256 R5 R6 → ∃ n : Nat, rl_X12_forget_317 n R6 0 Q := fun R1 R2 R3 R4 R5 R6 a1 a2 a3 a4 a5 a6 => by
    refine ⟨25, lp_f (rl := fun n S x => rl_X12_forget_317 n S x Q) (N := 24) (l := f_317) (C := fun R' => Q none R') (fun d k S hk h => ?_) (fun d S h => ?_) 24 0 R6 R6 rfl FL_0 (fun R' a7 => h R' ⟨R1, R2, R3, R4, R5, R6, a1, a2, a3, a4, a5, a6, a7⟩)⟩
    · show rb_X12_forget_317 (fun S x => rl_X12_forget_317 d S x Q) S (nI k) Q
      unfold rb_X12_forget_317
      rw [cl k (by omega), nI_1]
      have v : ∀ f : Nat, r_N f = 24 → vp_in (nI k) (r_N f) := fun f e => fg_vp hk (by decide) f e
      exact bf_ (nI_ge (b := 24) hk (by decide)) ⟨v _ rfl, v _ rfl, v _ rfl, fun S15 e => by rw [e]; exact ⟨v _ rfl, v _ rfl, h⟩⟩
    · exact bt_ (by decide) h
  have h6 : ∀ R1 R2 R3 R4 R5 : r_S, FL f_77 131072 R R1 → FL f_98 8192 R1 R2 → FL f_120 16 R2 R3 → FL f_204 96 R3 R4 → FL f_225 80 R4 R5 → ∃ n : Nat, rl_X12_forget_246 n R5 0 Q := fun R1 R2 R3 R4 R5 a1 a2 a3 a4 a5 => by
    refine ⟨257, lp_f (rl := fun n S x => rl_X12_forget_246 n S x Q) (N := 256) (l := f_246) (C := fun R' => ∃ n : Nat, rl_X12_forget_317 n R' 0 Q) (fun d k S hk h => ?_) (fun d S h => ?_) 256 0 R5 R5 rfl FL_0 (fun R' a6 => h7 R1 R2 R3 R4 R5 R' a1 a2 a3 a4 a5 a6)⟩
    · show rb_X12_forget_246 (fun S x => rl_X12_forget_246 d S x Q) S (nI k) Q
      unfold rb_X12_forget_246
      rw [cl k (by omega), nI_1]
      have v : ∀ f : Nat, r_N f = 256 → vp_in (nI k) (r_N f) := fun f e => fg_vp hk (by decide) f e
      exact bf_ (nI_ge (b := 256) hk (by decide)) ⟨v _ rfl, v _ rfl, v _ rfl, fun S15 e => by rw [e]; exact ⟨v _ rfl, v _ rfl, v _ rfl, fun S16 e => by rw [e]; exact ⟨v _ rfl, v _ rfl, h⟩⟩⟩
    · exact bt_ (by decide) h
  have h5 : ∀ R1 R2 R3 R4 : r_S, FL f_77 131072 R R1 → FL f_98 8192 R1 R2 → FL f_120 16 R2 R3 → FL f_204 96 R3 R4 → ∃ n : Nat, rl_X12_forget_225 n R4 0 Q := fun R1 R2 R3 R4 a1 a2 a3 a4 => by
    refine ⟨81, lp_f (rl := fun n S x => rl_X12_forget_225 n S x Q) (N := 80) (l := f_225) (C := fun R' => ∃ n : Nat, rl_X12_forget_246 n R' 0 Q) (fun d k S hk h => ?_) (fun d S h => ?_) 80 0 R4 R4 rfl FL_0 (fun R' a5 => h6 R1 R2 R3 R4 R' a1 a2 a3 a4 a5)⟩
    · show rb_X12_forget_225 (fun S x => rl_X12_forget_225 d S x Q) S (nI k) Q
      unfold rb_X12_forget_225
      rw [cl k (by omega), nI_1]
      exact bf_ (nI_ge (b := 80) hk (by decide)) ⟨fg_vp hk (by decide) _ rfl, h⟩
    · exact bt_ (by decide) h
  have h4 : ∀ R1 R2 R3 : r_S, FL f_77 131072 R R1 → FL f_98 8192 R1 R2 → FL f_120 16 R2 R3 → ∃ n : Nat, rl_X12_forget_204 n R3 0 Q := fun R1 R2 R3 a1 a2 a3 => by
    refine ⟨97, lp_f (rl := fun n S x => rl_X12_forget_204 n S x Q) (N := 96) (l := f_204) (C := fun R' => ∃ n : Nat, rl_X12_forget_225 n R' 0 Q) (fun d k S hk h => ?_) (fun d S h => ?_) 96 0 R3 R3 rfl FL_0 (fun R' a4 => h5 R1 R2 R3 R' a1 a2 a3 a4)⟩
    · show rb_X12_forget_204 (fun S x => rl_X12_forget_204 d S x Q) S (nI k) Q
      unfold rb_X12_forget_204
      rw [cl k (by omega), nI_1]
      exact bf_ (nI_ge (b := 96) hk (by decide)) ⟨fg_vp hk (by decide) _ rfl, h⟩
    · exact bt_ (by decide) h
  have h3 : ∀ R1 R2 : r_S, FL f_77 131072 R R1 → FL f_98 8192 R1 R2 → ∃ n : Nat, rl_X12_forget_120 n R2 0 Q := fun R1 R2 a1 a2 => by
    refine ⟨17, lp_f (rl := fun n S x => rl_X12_forget_120 n S x Q) (N := 16) (l := f_120) (C := fun R' => ∃ n : Nat, rl_X12_forget_204 n R' 0 Q) (fun d k S hk h => ?_) (fun d S h => ?_) 16 0 R2 R2 rfl FL_0 (fun R' a3 => h4 R1 R2 R' a1 a2 a3)⟩
    · show rb_X12_forget_120 (fun S x => rl_X12_forget_120 d S x Q) S (nI k) Q
      unfold rb_X12_forget_120
      rw [cl k (by omega), nI_1]
      have v : ∀ f : Nat, r_N f = 16 → vp_in (nI k) (r_N f) := fun f e => fg_vp hk (by decide) f e
      exact bf_ (nI_ge (b := 16) hk (by decide)) ⟨v _ rfl, v _ rfl, v _ rfl, fun S15 e => by rw [e]; exact ⟨v _ rfl, v _ rfl, v _ rfl, fun S16 e => by rw [e]; exact ⟨v _ rfl, v _ rfl, v _ rfl, fun S17 e => by rw [e]; exact ⟨v _ rfl, h⟩⟩⟩⟩
    · exact bt_ (by decide) h
  have h2 : ∀ R1 : r_S, FL f_77 131072 R R1 → ∃ n : Nat, rl_X12_forget_98 n R1 0 Q := fun R1 a1 => by
    refine ⟨8193, lp_f (rl := fun n S x => rl_X12_forget_98 n S x Q) (N := 8192) (l := f_98) (C := fun R' => ∃ n : Nat, rl_X12_forget_120 n R' 0 Q) (fun d k S hk h => ?_) (fun d S h => ?_) 8192 0 R1 R1 rfl FL_0 (fun R' a2 => h3 R1 R' a1 a2)⟩
    · show rb_X12_forget_98 (fun S x => rl_X12_forget_98 d S x Q) S (nI k) Q
      unfold rb_X12_forget_98
      rw [cl k (by omega), nI_1]
      exact bf_ (nI_ge (b := 8192) hk (by decide)) ⟨fg_vp hk (by decide) _ rfl, h⟩
    · exact bt_ (by decide) h
  refine lp_f (rl := fun n S x => rl_X12_forget_77 n S x Q) (N := 131072) (l := f_77) (C := fun R' => ∃ n : Nat, rl_X12_forget_98 n R' 0 Q) (fun d k S hk h => ?_) (fun d S h => ?_) 131072 0 R R rfl FL_0 (fun R' a1 => h2 R' a1)
  · show rb_X12_forget_77 (fun S x => rl_X12_forget_77 d S x Q) S (nI k) Q
    unfold rb_X12_forget_77
    rw [cl k (by omega), nI_1]
    exact bf_ (nI_ge (b := 131072) hk (by decide)) ⟨fg_vp hk (by decide) _ rfl, h⟩
  · exact bt_ (by decide) h
/-- the scalars that are forgotten -/
def r_fs (S : r_S) : r_S := rs_I (rs_I (rs_I (rs_I (rs_I (rs_I (rs_I (rs_I (rs_I (rs_I (rs_I (rs_I (rs_I (rs_I (rs_I S 2411 0) 2412 (-1)) 2414 0) 2415 0) 2416 0) 2417 0) 2418 0) 2419 0) 2420 0) 2422 0) 2463 0) 2464 0) 2508 0) 2509 0) 2510 0
theorem re_forget {R : r_S} {Q : Option Value → r_S → Prop} (h : ∀ R' : r_S, FG (r_fs R) R' → Q none R') : rm_X12_forget R Q := by
  intro S1 e1 S2 e2 S3 e3 S4 e4 S5 e5
  subst e1
  subst e2
  subst e3
  subst e4
  subst e5
  exact ⟨131073, fg_all h⟩
def flw (l : List (Nat × Int32)) (n : Nat) (R : r_S) : r_S := (R.1, fun f i => if i < n then lkw l f (R.2 f i) else R.2 f i)
theorem FL_eq {l : List (Nat × Int32)} {n : Nat} {R R' : r_S} (h : FL l n R R') : R' = flw l n R := Prod.ext (funext h.1) (funext fun f => funext fun i => h.2 f i)
theorem flw_id {l : List (Nat × Int32)} {n f i : Nat} {R : r_S} (h : ∀ o : Int32, lkw l f o = o) : r_A (flw l n R) f i = r_A R f i := by
  show (if i < n then lkw l f (r_A R f i) else r_A R f i) = r_A R f i
  split
  · exact h _
  · rfl
theorem flw_v {l : List (Nat × Int32)} {n f i : Nat} {R : r_S} {v : Int32} (h : ∀ o : Int32, lkw l f o = v) (hi : i < n) : r_A (flw l n R) f i = v := (if_pos hi).trans (h _)
def r_fg (R : r_S) : r_S := flw f_317 24 (flw f_246 256 (flw f_225 80 (flw f_204 96 (flw f_120 16 (flw f_98 8192 (flw f_77 131072 R))))))
theorem FG_eq {R R' : r_S} (h : FG R R') : R' = r_fg R := by
  obtain ⟨R1, R2, R3, R4, R5, R6, h1, h2, h3, h4, h5, h6, h7⟩ := h
  rw [FL_eq h7, FL_eq h6, FL_eq h5, FL_eq h4, FL_eq h3, FL_eq h2, FL_eq h1]
  rfl
theorem re_fgt {R : r_S} {Q : Option Value → r_S → Prop} (h : Q none (r_fg (r_fs R))) : rm_X12_forget R Q := re_forget (fun R' f => by rw [FG_eq f]; exact h)
/-- the reference's state as reading begins -/
def r_ld0 (R : r_S) : r_S := rs_I (r_fg (r_fs (rs_I (rs_I R 2404 (r_I R 2403)) 2403 0))) 2405 0
theorem st_A {R : r_S} {f i : Nat} (h : ∀ o : Int32, lkw f_77 f o = o ∧ lkw f_98 f o = o ∧ lkw f_120 f o = o ∧ lkw f_204 f o = o ∧ lkw f_225 f o = o ∧ lkw f_246 f o = o ∧ lkw f_317 f o = o) : r_A (r_ld0 R) f i = r_A R f i := by
  show r_A (r_fg (r_fs (rs_I (rs_I R 2404 (r_I R 2403)) 2403 0))) f i = r_A R f i
  unfold r_fg
  rw [flw_id (fun o => (h o).2.2.2.2.2.2), flw_id (fun o => (h o).2.2.2.2.2.1), flw_id (fun o => (h o).2.2.2.2.1), flw_id (fun o => (h o).2.2.2.1), flw_id (fun o => (h o).2.2.1), flw_id (fun o => (h o).2.1), flw_id (fun o => (h o).1)]
  rfl
theorem st_317 {R : r_S} {f i : Nat} {v : Int32} (h : ∀ o : Int32, lkw f_317 f o = v) (hi : i < 24) : r_A (r_ld0 R) f i = v := flw_v h hi
theorem st_246 {R : r_S} {f i : Nat} {v : Int32} (h : ∀ o : Int32, lkw f_246 f o = v ∧ lkw f_317 f o = o) (hi : i < 256) : r_A (r_ld0 R) f i = v := by
  show r_A (r_fg (r_fs (rs_I (rs_I R 2404 (r_I R 2403)) 2403 0))) f i = v
  unfold r_fg
  rw [flw_id (fun o => (h o).2)]
  exact flw_v (fun o => (h o).1) hi
theorem st_225 {R : r_S} {f i : Nat} {v : Int32} (h : ∀ o : Int32, lkw f_225 f o = v ∧ lkw f_246 f o = o ∧ lkw f_317 f o = o) (hi : i < 80) : r_A (r_ld0 R) f i = v := by
  show r_A (r_fg (r_fs (rs_I (rs_I R 2404 (r_I R 2403)) 2403 0))) f i = v
  unfold r_fg
  rw [flw_id (fun o => (h o).2.2), flw_id (fun o => (h o).2.1)]
  exact flw_v (fun o => (h o).1) hi
theorem st_204 {R : r_S} {f i : Nat} {v : Int32} (h : ∀ o : Int32, lkw f_204 f o = v ∧ lkw f_225 f o = o ∧ lkw f_246 f o = o ∧ lkw f_317 f o = o) (hi : i < 96) : r_A (r_ld0 R) f i = v := by
  show r_A (r_fg (r_fs (rs_I (rs_I R 2404 (r_I R 2403)) 2403 0))) f i = v
  unfold r_fg
  rw [flw_id (fun o => (h o).2.2.2), flw_id (fun o => (h o).2.2.1), flw_id (fun o => (h o).2.1)]
  exact flw_v (fun o => (h o).1) hi
theorem st_120 {R : r_S} {f i : Nat} {v : Int32} (h : ∀ o : Int32, lkw f_120 f o = v ∧ lkw f_204 f o = o ∧ lkw f_225 f o = o ∧ lkw f_246 f o = o ∧ lkw f_317 f o = o) (hi : i < 16) : r_A (r_ld0 R) f i = v := by
  show r_A (r_fg (r_fs (rs_I (rs_I R 2404 (r_I R 2403)) 2403 0))) f i = v
  unfold r_fg
  rw [flw_id (fun o => (h o).2.2.2.2), flw_id (fun o => (h o).2.2.2.1), flw_id (fun o => (h o).2.2.1), flw_id (fun o => (h o).2.1)]
  exact flw_v (fun o => (h o).1) hi
theorem st_77 {R : r_S} {i : Nat} : r_A (r_ld0 R) 2465 i = if i < 131072 then 0 else r_A R 2465 i := by
  show r_A (r_fg (r_fs (rs_I (rs_I R 2404 (r_I R 2403)) 2403 0))) 2465 i = _
  unfold r_fg
  rw [flw_id (fun o => rfl), flw_id (fun o => rfl), flw_id (fun o => rfl), flw_id (fun o => rfl), flw_id (fun o => rfl), flw_id (fun o => rfl)]
  rfl
theorem st_98 {R : r_S} {i : Nat} (hi : i < 8192) : r_A (r_ld0 R) 2477 i = 0 := by
  show r_A (r_fg (r_fs (rs_I (rs_I R 2404 (r_I R 2403)) 2403 0))) 2477 i = _
  unfold r_fg
  rw [flw_id (fun o => rfl), flw_id (fun o => rfl), flw_id (fun o => rfl), flw_id (fun o => rfl), flw_id (fun o => rfl)]
  exact flw_v (fun o => rfl) hi
theorem FZ_st {R : r_S} : FZ (r_ld0 R) 0 := fun p _ hp => ⟨st_120 (fun o => ⟨rfl, rfl, rfl, rfl, rfl⟩) hp, st_120 (fun o => ⟨rfl, rfl, rfl, rfl, rfl⟩) hp, st_120 (fun o => ⟨rfl, rfl, rfl, rfl, rfl⟩) hp, fun s hs => st_204 (fun o => ⟨rfl, rfl, rfl, rfl⟩) (by omega), fun j hj => st_225 (fun o => ⟨rfl, rfl, rfl⟩) (by omega)⟩
