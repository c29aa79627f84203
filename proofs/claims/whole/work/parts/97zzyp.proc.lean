/-! A process. -/
theorem TOKf_I {K K1 : c_S} {R R1 : r_S} {f i : Nat} {x : Int32} (h : TOKf K K1 R R1) : TOKf (cs_I K f i x) (cs_I K1 f i x) R R1 := by
  refine ⟨fun f' i' z => ?_, h.2.1, h.2.2.1, h.2.2.2.1, h.2.2.2.2⟩
  rw [c_II, c_II]
  by_cases y : f' = f ∧ i' = i
  · rw [if_pos y, if_pos y]
  · rw [if_neg y, if_neg y]
    exact h.1 f' i' z
theorem num_b {x : Int32} (h : (¬ x < 1 ∧ ¬ 100000 < x) ∧ x - x / 1 * 1 = 0) : 0 ≤ x.toInt ∧ x.toInt ≤ 100000 := by
  obtain ⟨m, rfl, m31, m1, m2⟩ := num_of h.1 (by decide)
  rw [nI_toInt m31]
  have : (100000 : Int32).toInt = 100000 := rfl
  omega
theorem c_perhaps {e : EV} {L : c_L} {T : q_S} {B bc bs u v : Nat} {K0 K : c_S} {R0 R : r_S} {k : Int32} {F q0 : Nat} {A : Nat → Nat → q_S → Prop} {E : String → q_S → Prop} {Y : Int32 → r_S → (Option Value → r_S → Prop) → Prop} {RM : (Option Value → r_S → Prop) → Prop} (wd : WD e L T) (av : AV B K0 R0 K R) (m7 : c_mk L 7 q0) (hF : F / 200 = 7) (hu : u + 1 ≤ bc) (hv : v + 6 ≤ bs) (hr : ∀ Q : Option Value → r_S → Prop, rm_X12_perhaps R k (fun r R' => ∃ x : Int32, r = some (.int x) ∧ Y x R' Q) → RM Q)
  (hX : ∀ (K' : c_S) (R' : r_S) (w q x : Int32), CZ K0 K' → FD w q R0 R' → (∀ Q : Option Value → r_S → Prop, Y x R' Q → RM Q) → E "java/lang/IllegalArgumentException" (c_E L (k_fl K' w q) T))
  (hN : ∀ (K' : c_S) (R' : r_S) (x : Int32), AV B K0 R0 K' R' → (0 ≤ x.toInt ∧ x.toInt ≤ 100000) → ((x = 0 ∧ K' = K ∧ R' = R) ∨ TOKf (cs_I K F q0 x) K' R R') → (∀ Q : Option Value → r_S → Prop, Y x R' Q → RM Q) → A u v (c_E L K' T)) :
  q_K (c_E L K T) (c_ob L 9 0) = 10 ∧ (∃ m60_ m61_ : Nat, (u + m60_ ≤ bc ∧ v + m61_ ≤ bs) ∧ (wm_X9_takes m60_ m61_ (c_E L K T) (c_ob L 9 0) k (fun r58_ S59_ => ∃ x63_ : Int32, r58_ = some (.int x63_) ∧ (((x63_ = 0 → (A (u + m60_) (v + m61_) S59_)) ∧ (¬ x63_ = 0 → (q_K S59_ (c_ob L 9 0) = 10 ∧ (∃ m68_ m69_ : Nat, ((u + m60_) + m68_ ≤ bc ∧ (v + m61_) + m69_ ≤ bs) ∧ (wm_X9_number m68_ m69_ S59_ (c_ob L 9 0) (1 : Int32) (100000 : Int32) (1 : Int32) (fun r66_ S67_ => ∃ x71_ : Int32, r66_ = some (.int x71_) ∧ (∃ a72_ : Nat, some (c_ob L 7 q0) = some a72_ ∧ (q_K S67_ a72_ = 8 ∧ (q_K (qs_I S67_ F a72_ x71_) (c_ob L 9 0) = 10 ∧ (∃ m78_ m79_ : Nat, (((u + m60_) + m68_) + m78_ ≤ bc ∧ ((v + m61_) + m69_) + m79_ ≤ bs) ∧ (wm_X9_expectSign m78_ m79_ (qs_I S67_ F a72_ x71_) (c_ob L 9 0) (59 : Int32) (fun r76_ S77_ => r76_ = none ∧ (A (((u + m60_) + m68_) + m78_) (((v + m61_) + m69_) + m79_) S77_)) E)))))) E))))))) E)) := by
  have g := WD_g wd
  have nF : F ∉ [1806, 1807, 1808, 1809, 1811, 1803, 402, 403, 1211, 1212, 1214] := fun m => by
    have := (by decide : ∀ f ∈ [1806, 1807, 1808, 1809, 1811, 1803, 402, 403, 1211, 1212, 1214], f / 200 ≠ 7) F m
    exact this hF
  refine ⟨K10 g, c_takes wd av hu hv hr (fun K' R w q cz hf hr => ?_) (fun hr => bt_ rfl (hN K R 0 av (by decide) (Or.inl ⟨rfl, rfl, rfl⟩) (fun Q h => hr Q ⟨_, rfl, h⟩))) (fun K1 R1 av1 tf1 hr => bf_ (by decide) ⟨K10 g, ?_⟩)⟩
  · obtain ⟨R, hf, de, hr⟩ := fs_number hf hr
    obtain ⟨R, hf, de, hr⟩ := fs_sign hf hr
    exact hX K' R w q _ cz hf (fun Q h => hr Q ⟨_, rfl, h⟩)
  · refine c_num wd av1 (by omega) (by omega) (by decide) (fun _ _ => Iff.rfl) hr (fun K' R w q x cz hf hr => ?_) (fun K2 R2 x av2 tf2 hx hr => ⟨_, rfl, c_gk g m7 8 rfl, ?_⟩)
    · obtain ⟨R, hf, de, hr⟩ := fs_sign hf hr
      exact hX K' R w q _ cz hf (fun Q h => hr Q ⟨_, rfl, h⟩)
    · rw [c_eIs (c_gw g) m7 hF]
      refine ⟨K10 g, c_sign wd (AV_I av2 nF) (by omega) (by omega) hr (fun K' R w q y cz hf hr => hX K' R w q _ cz hf (fun Q h => hr Q ⟨_, rfl, h⟩)) (fun K3 R3 av3 tf3 hr => hN K3 R3 x av3 (num_b hx) (Or.inr (TOKf_t (TOKf_I (TOKf_t tf1 tf2)) tf3)) (fun Q h => hr Q ⟨_, rfl, h⟩))⟩
/-- the values of a process that is being read -/
def QV (K : c_S) (q n : Nat) (v : Nat → Int32) : Prop := (∀ f : Nat, 1402 ≤ f → f ≤ 1408 → c_I K f q = v f) ∧ c_I K 1400 q = nI n ∧ (c_I K 1409 q = 0 ∧ c_I K 1410 q = 0 ∧ c_I K 1414 q = 0 ∧ c_I K 1415 q = 0 ∧ c_I K 1416 q = 0) ∧ (c_I K 1412 q = -1 ∧ c_I K 1413 q = -1 ∧ c_I K 1418 q = -1) ∧ ∀ x : Nat, x < 32 → c_A K 1411 q x = 0
theorem QV_t {K K' : c_S} {R R' : r_S} {q n : Nat} {v : Nat → Int32} (h : QV K q n v) (t : TOKf K K' R R') : QV K' q n v := by
  have e : ∀ f : Nat, f / 200 = 7 → c_I K' f q = c_I K f q := fun f hf => t.1 f q (fun m => by have := (by decide : ∀ f ∈ [1807, 1808, 1809, 1811], f / 200 ≠ 7) f m; exact this hf)
  unfold QV at h ⊢
  rw [e 1400 rfl, e 1409 rfl, e 1410 rfl, e 1414 rfl, e 1415 rfl, e 1416 rfl, e 1412 rfl, e 1413 rfl, e 1418 rfl, TOKf_A t]
  exact ⟨fun f h1 h2 => (e f (by omega)).trans (h.1 f h1 h2), h.2⟩
theorem QV_I {K : c_S} {q n F : Nat} {v : Nat → Int32} {x : Int32} (h : QV K q n v) (h1 : 1402 ≤ F) (h2 : F ≤ 1408) : QV (cs_I K F q x) q n (fun f => if f = F then x else v f) := by
  have e : ∀ f : Nat, f ≠ F → c_I (cs_I K F q x) f q = c_I K f q := fun f hf => if_neg (fun z => hf z.1)
  unfold QV at h ⊢
  rw [e 1400 (by omega), e 1409 (by omega), e 1410 (by omega), e 1414 (by omega), e 1415 (by omega), e 1416 (by omega), e 1412 (by omega), e 1413 (by omega), e 1418 (by omega)]
  refine ⟨fun f a b => ?_, h.2⟩
  show c_I (cs_I K F q x) f q = if f = F then x else v f
  by_cases z : f = F
  · rw [z, if_pos rfl]; exact if_pos ⟨rfl, rfl⟩
  · rw [if_neg z, e f z]; exact h.1 f a b
def RV (R : r_S) (q : Nat) (v : Nat → Int32) : Prop := ∀ f : Nat, 2436 ≤ f → f ≤ 2441 → r_A R f q = v f
theorem RV_t {K K' : c_S} {R R' : r_S} {q : Nat} {v : Nat → Int32} (h : RV R q v) (t : TOKf K K' R R') : RV R' q v := fun f a b => (TOKf_a t f q).trans (h f a b)
theorem RV_a {R : r_S} {q F : Nat} {v : Nat → Int32} {x : Int32} (h : RV R q v) : RV (rs_A R F q x) q (fun f => if f = F then x else v f) := fun f a b => by
  show r_A (rs_A R F q x) f q = if f = F then x else v f
  by_cases z : f = F
  · rw [z, if_pos rfl]; exact if_pos ⟨rfl, rfl⟩
  · rw [if_neg z]; exact (if_neg (fun y => z y.1)).trans (h f a b)
theorem RV_o {R : r_S} {q F i : Nat} {v : Nat → Int32} {x : Int32} (h : RV R q v) (hF : F = 2442) : RV (rs_A R F i x) q v := fun f a b => (if_neg (fun y : f = F ∧ q = i => by omega)).trans (h f a b)
/-- where a process, the n-th, changes something -/
def qI (p n f i : Nat) : Prop := (1807 ≤ f ∧ f ≤ 1811) ∨ (f / 200 = 7 ∧ i = 16 * p + n) ∨ ((f = 1004 ∨ f = 1008) ∧ i = p)
def qA (p n f i : Nat) : Prop := f / 200 = 7 ∧ i = 16 * p + n
def qa (p n tm lm f i : Nat) : Prop := xa p 5 tm lm f i ∨ ((2436 ≤ f ∧ f ≤ 2441) ∧ i = 16 * p + n) ∨ (f = 2442 ∧ i = p)
theorem OF_qk {p n tm lm : Nat} {K K1 K2 : c_S} {R R1 R2 : r_S} (h : OF (qI p n) (qA p n) xi (qa p n tm lm) K R K1 R1) (t : TOKf K1 K2 R1 R2) : OF (qI p n) (qA p n) xi (qa p n tm lm) K R K2 R2 := OF_k h t (fun _ _ z => Or.inl z) (fun _ z1 z2 => Or.inl ⟨z1, z2⟩)
theorem RP_proc {L L' : c_L} {K K' : c_S} {R R' : r_S} {p lm lm' tm : Nat} {cn : Nat → Nat} {hd hd' : Option Nat} {k nr : Nat} {re : Nat → Nat} {hp : Prop} {T : q_S} (g : c_G L T) (h : RP L K R p lm cn hd k nr re hp) (lx : LX L L') (hlt : cn 5 < 16) (of : OF (qI p (cn 5)) (qA p (cn 5)) xi (qa p (cn 5) tm lm) K R K' R') (pn : PN L' K' R' p lm' (cn1 cn 5)) (q1 : PQ1 K' R' p hd' (cn 5)) (hh : (hd' = hd ∧ c_I K' 1008 p = c_I K 1008 p ∧ r_A R' 2442 p = r_A R 2442 p) ∨ (hd = none ∧ hd' = some (cn 5) ∧ c_I K' 1008 p = nI (cn 5) ∧ r_A R' 2442 p = nI (16 * p + cn 5))) : RP L' K' R' p lm' (cn1 cn 5) hd' k nr re hp := by
  obtain ⟨h1, h2, h3, h4, h5, h6, h7, h8⟩ := h
  obtain ⟨o1, o2, o3, o4⟩ := of
  have nI9 : ∀ f i : Nat, f / 200 ≠ 9 → f / 200 ≠ 7 → f ≠ 1004 → f ≠ 1008 → ¬ qI p (cn 5) f i := fun f i a b c d z => by unfold qI at z; omega
  have nA : ∀ f i : Nat, f / 200 ≠ 7 → ¬ qA p (cn 5) f i := fun f i a z => by unfold qA at z; omega
  have na : ∀ f i : Nat, 2423 ≤ f → f ≤ 2462 → ¬ (2430 ≤ f ∧ f ≤ 2442) → ¬ qa p (cn 5) tm lm f i := fun f i a b c z => by unfold qa xa at z; omega
  have c5 : ∀ s : Nat, s < 5 → cn1 cn 5 s = cn s := fun s hs => if_neg (by omega)
  have w1 := h4.1
  have hdj : ∀ j : Nat, j < cn 5 → (hd' = some j ↔ hd = some j) := fun j hj => by
    rcases hh with z | z
    · rw [z.1]
    · rw [z.1, z.2.1]
      exact ⟨fun y => by injection y with y; omega, fun y => by cases y⟩
  have ph : PH L' K' R' p hd' := by
    obtain ⟨⟨a1, a2⟩, a3, a4, a5, a6, a7, a8, a9, a10, a11⟩ := h1
    have e : ∀ f : Nat, f / 200 = 5 → f ≠ 1004 → f ≠ 1008 → c_I K' f p = c_I K f p := fun f b1 b2 b3 => (o1 f p (nI9 f p (by omega) (by omega) b2 b3)).1
    refine ⟨⟨(lx.1 _ _ a1).1, (e 1000 rfl (by decide) (by decide)).trans a2⟩, ?_, (e _ rfl (by decide) (by decide)).trans a4, (e _ rfl (by decide) (by decide)).trans a5, (e _ rfl (by decide) (by decide)).trans a6, (e _ rfl (by decide) (by decide)).trans a7, (e _ rfl (by decide) (by decide)).trans a8, (e _ rfl (by decide) (by decide)).trans a9, (e _ rfl (by decide) (by decide)).trans a10, (e _ rfl (by decide) (by decide)).trans a11⟩
    rcases hh with z | z
    · rw [z.1, z.2.1, z.2.2]
      exact a3
    · rw [z.2.1]
      exact ⟨hlt, z.2.2⟩
  refine ⟨ph, PA_c h2 (fun j => o2 _ _ _ (nA _ _ (by decide))) (fun j _ => o4 _ _ (na _ _ (by decide) (by decide) (by decide))) id, PM_c h3 (lx.2 801 p (by decide) (lp_54 g p h1.1.1)) (lx.2 802 p (by decide) (lp_54 g p h1.1.1)) (fun f hf => (o1 f p (nI9 f p (by omega) (by omega) (by omega) (by omega))).1) (fun f j hf => o2 _ _ _ (nA f p (by omega))) ⟨o4 _ _ (na _ _ (by decide) (by decide) (by decide)), o4 _ _ (na _ _ (by decide) (by decide) (by decide))⟩ (fun f i a b _ => o4 _ _ (na _ _ (by omega) (by omega) (by omega))), pn, fun h z => ?_, fun j hj => ?_, fun s' i hs' hi => ?_, fun i hi => ?_⟩
  · unfold cn1
    rw [if_pos rfl]
    rcases hh with y | y
    · rw [y.1] at z
      have := h5 h z
      omega
    · rw [y.2.1] at z
      injection z with z
      omega
  · unfold cn1 at hj
    rw [if_pos rfl] at hj
    by_cases z : j = cn 5
    · rw [z]; exact q1
    · have hj' : j < cn 5 := by omega
      exact PQ1_c (h6 j hj') (fun f hf => (o1 f _ (fun y => by unfold qI at y; omega)).1) (fun x => o2 _ _ _ (fun y => by unfold qA at y; omega)) (fun f a b => o4 _ _ (fun y => by unfold qa xa at y; omega)) (hdj j hj')
  · rw [c5 s' hs'] at hi
    refine PT1_c (h7 s' i hs' hi) (fun y => lx.2 1600 _ (by decide) (by subst y; exact c_gU g (h4.2.2.2.2.1 2 i (by omega) hi) (by unfold c_qu; rw [if_pos (by have := w1 2 (by omega); simp at this; omega)]))) (fun f hf _ => (o1 f _ (fun y => by unfold qI at y; omega)).1) (fun f a => o4 _ _ (fun y => by unfold qa xa at y; omega)) (fun y => ⟨o4 _ _ (fun y2 => by unfold qa xa at y2; omega), o4 _ _ (fun y2 => by unfold qa xa at y2; omega)⟩)
  · rw [c5 4 (by omega)] at hi
    exact ⟨(o1 _ _ (fun y => by unfold qI at y; omega)).1.trans (h8 i hi).1, (o4 _ _ (fun y => by unfold qa xa at y; omega)).trans (h8 i hi).2⟩
