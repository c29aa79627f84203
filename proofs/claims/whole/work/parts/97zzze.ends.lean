/-! The ends of a channel. -/
/-- things by sort, handlers, pages, regions, their ends -/
def CD : Type := (Nat → Nat → Nat) × (Nat → Option Nat) × (Nat → Nat) × (Nat → Nat) × (Nat → Nat → Nat)
def RQD (D : CD) (L : c_L) (K : c_S) (R : r_S) (p lm : Nat) : Prop := RQ L K R p lm (D.1 p) (D.2.1 p) (D.2.2.1 p) (D.2.2.2.1 p) (D.2.2.2.2 p) (D.2.1 p ≠ none)
theorem TOKf_of {K K' : c_S} {R R' : r_S} (t : TOKf K K' R R') : OF (fun f _ => 1807 ≤ f ∧ f ≤ 1811) (fun _ _ => False) mi (fun _ _ => False) K R K' R' := OF_k OF_0 t (fun _ _ z => z) (fun _ a b => ⟨a, b⟩)
theorem RQD_of {D : CD} {L L' : c_L} {T : q_S} {K K' : c_S} {R R' : r_S} {p lm : Nat} {cI cA : Nat → Nat → Prop} {rI : Nat → Prop} {rA : Nat → Nat → Prop} (h : RQD D L K R p lm) (g : c_G L T) (lx : LX L L') (of : OF cI cA rI rA K R K' R') (c1 : ∀ f i : Nat, sI p f i → ¬ cI f i) (c2 : ∀ f i : Nat, sA p f i → ¬ cA f i) (c4 : ∀ f i : Nat, sa p lm f i → ¬ rA f i) : RQD D L' K' R' p lm := RQ_of h g lx of (Nat.le_refl _) c1 c2 c4
theorem RQD_t {D : CD} {L : c_L} {T : q_S} {K K' : c_S} {R R' : r_S} {p lm : Nat} (h : RQD D L K R p lm) (g : c_G L T) (t : TOKf K K' R R') : RQD D L K' R' p lm := RQD_of h g LX_0 (TOKf_of t) (fun f i a b => by unfold sI at a; omega) (fun f i a b => b) (fun f i a b => b)
theorem PP_t {L : c_L} {K K' : c_S} {R R' : r_S} {np lm : Nat} (h : PP L K R np lm) (t : TOKf K K' R R') : PP L K' R' np lm := PP_c h LX_0 (Nat.le_refl _) (t.1 1201 0 (by decide)) (t.2.2.2.1 2415 (by decide)) (fun p _ => t.2.1 _ _ (by decide)) (fun p _ => ⟨TOKf_a t _ _, TOKf_a t _ _⟩) (fun i _ => TOKf_a t _ _)
theorem fd_end {w q : Int32} {R0 R : r_S} {x1 x2 x3 : Int32} {Y : Int32 → r_S → (Option Value → r_S → Prop) → Prop} {RM : (Option Value → r_S → Prop) → Prop} (hf : FD w q R0 R) (hr : ∀ Q : Option Value → r_S → Prop, rm_X12_end R x1 x2 x3 (fun r R' => ∃ x : Int32, r = some (.int x) ∧ Y x R' Q) → RM Q) : ∃ R' : r_S, FD w q R0 R' ∧ r_DE R' ∧ ∀ Q : Option Value → r_S → Prop, Y (-1) R' Q → RM Q := by
  unfold rm_X12_end at hr
  rcases FD_c hf with de | pe
  · exact ⟨R, hf, de, fun Q h => g_neg hr (de_nle de) Q ⟨_, rfl, h⟩⟩
  · obtain ⟨R, hf, de, hr⟩ := fs_failHere hf (g_neg (g_pos (fs_isKey hf (g_pos hr (pe_le pe))) rfl) (by rw [pe.2]; decide))
    exact ⟨R, hf, de, fun Q h => hr Q ⟨_, rfl, h⟩⟩
theorem fd_en2 {w q : Int32} {R0 R : r_S} {x1 x2 x3 : Int32} {Y : Int32 → r_S → (Option Value → r_S → Prop) → Prop} {RM : (Option Value → r_S → Prop) → Prop} (hf : FD w q R0 R) (hr : ∀ Q : Option Value → r_S → Prop, ((r_I R 2411 ≤ 0 → r_en2 R x1 x2 x3 (fun r R' => ∃ x : Int32, r = some (.int x) ∧ Y x R' Q)) ∧ (¬ r_I R 2411 ≤ 0 → ∃ x : Int32, some (Value.int (-1)) = some (.int x) ∧ Y x R Q)) → RM Q) : ∃ R' : r_S, FD w q R0 R' ∧ r_DE R' ∧ ∀ Q : Option Value → r_S → Prop, Y (-1) R' Q → RM Q := by
  rcases FD_c hf with de | pe
  · exact ⟨R, hf, de, fun Q h => g_neg hr (de_nle de) Q ⟨_, rfl, h⟩⟩
  · have hr := g_pos hr (pe_le pe)
    unfold r_en2 at hr
    obtain ⟨R, hf, de, hr⟩ := fs_failHere hf (g_neg hr (by rw [pe.2]; decide))
    exact ⟨R, hf, de, fun Q h => hr Q ⟨_, rfl, h⟩⟩
theorem c_source {e : EV} {D : CD} {L : c_L} {T : q_S} {B bc bs u v : Nat} {K0 K : c_S} {R0 R : r_S} {np lm c ni : Nat} {X : Nat → Nat → q_S → Prop} {E : String → q_S → Prop} {Y : Int32 → r_S → (Option Value → r_S → Prop) → Prop} {RM : (Option Value → r_S → Prop) → Prop} (wd : WD e L T) (av : AV B K0 R0 K R) (pp : PP L K R np lm) (rqs : ∀ p : Nat, p < np → RQD D L K R p lm) (p8 : ∀ p i : Nat, p < np → i < D.1 p 4 → c_I K 2008 (48 * p + (32 + i)) = r_A R 2450 (16 * p + i)) (m1 : c_mk L 1 c) (k0 : c_I K 200 c = nI c) (k1 : c_I K 201 c = r_A R 2454 c) (k5 : c_I K 1205 0 = nI ni) (c24 : c < 24) (n24 : ni < 24) (hl : lm ≤ 14000) (hu : u + 1 ≤ bc) (hv : v + 6 ≤ bs)
  (hr : ∀ Q : Option Value → r_S → Prop, rm_X12_end R (nI c) 27 1 (fun r R' => ∃ x : Int32, r = some (.int x) ∧ Y x R' Q) → RM Q)
  (hX : ∀ (K' : c_S) (R' : r_S) (w q x : Int32), CZ K0 K' → FD w q R0 R' → (x = -2 → r_I R' 2418 = r_I R 2418) → (∀ Q : Option Value → r_S → Prop, Y x R' Q → RM Q) → E "java/lang/IllegalArgumentException" (c_E L (k_fl K' w q) T))
  (hN0 : ∀ (K1 : c_S) (R' : r_S), AV B K0 R0 K1 R' → TOKf K K1 R R' → (∀ Q : Option Value → r_S → Prop, Y (-2) R' Q → RM Q) → X 1 6 (c_E L (cs_I (cs_A K1 1204 0 ni (nI c)) 1205 0 (nI (ni + 1))) T))
  (hN1 : ∀ (p i : Nat) (K1 K2 : c_S) (R1 R2 : r_S), p < np → i < D.1 p 4 → TOKf K K1 R R1 → AV B K0 R0 K2 R2 → TOKf (cs_I (cs_P K1 209 c (some p)) 2008 (48 * p + (32 + i)) (nI c)) K2 (rs_A R1 2450 (16 * p + i) (nI c)) R2 → r_A R 2448 (16 * p + i) = 1 → r_A R 2449 (16 * p + i) = r_A R 2454 c → r_A R 2450 (16 * p + i) = -1 → (∀ Q : Option Value → r_S → Prop, Y (nI (16 * p + i)) R2 Q → RM Q) → X 1 6 (c_E L (cs_I K2 210 c (nI (32 + i))) T)) :
  ∃ m m' : Nat, (u + m ≤ bc ∧ v + m' ≤ bs) ∧ wm_X9_readSource m m' (c_E L K T) (c_ob L 9 0) (some (c_ob L 1 c)) (fun r S' => r = none ∧ X m m' S') E := by
  have g := WD_g wd
  have np16 := pp.1
  unfold rm_X12_end at hr
  have hr := g_pos hr (by rw [av.2.2.2.1]; decide)
  refine ⟨1, 6, ⟨hu, hv⟩, K10 g, c_takes2 wd av (by omega) (by omega) hr (fun K' R' w q cz hf tf pe hr => hX K' R' w q (-2) cz hf (fun _ => tf.2.2.2.1 2418 (by decide)) (fun Q h => hr Q ⟨_, rfl, h⟩)) (fun hr => bt_ rfl ⟨K10 g, ?_⟩) (fun K1 R1 av1 tf1 hr => bf_ (by decide) ⟨K10 g, _, P18 g, K7 g, ?_⟩)⟩
  · refine c_pname (F := fun _ => R) (Y := fun p R' Q => rm_X12_sign R' 46 (fun r R' => ∃ x : Int32, r = some (.int x) ∧ ((r_I R' 2411 ≤ 0 → r_en2 R' (nI c) (nI p) 1 (fun r R' => ∃ x : Int32, r = some (.int x) ∧ Y x R' Q)) ∧ (¬ r_I R' 2411 ≤ 0 → ∃ x : Int32, some (Value.int (-1)) = some (.int x) ∧ Y x R' Q)))) wd av pp hl (by omega) (by omega) hr (fun p hp => ⟨av, fun Q h => h⟩) (fun p K' R' w q hp cz hf pe tfx hr => ?_) (fun K' R' w q cz hf de hr => hX K' R' w q (-1) cz hf (fun z => absurd z (by decide)) (fun Q h => hr Q ⟨_, rfl, h⟩)) (fun p K1 R1 hp av1 tf1 hr => ⟨K10 g, c_sign wd av1 (by omega) (by omega) hr (fun K' R' w q x cz hf hr => ?_) (fun K2 R2 av2 tf2 hr => ⟨_, rfl, c_gk g m1 2 rfl, ?_⟩)⟩)
    · obtain ⟨R, hf, de, hr⟩ := fs_sign hf hr
      obtain ⟨R, hf, de, hr⟩ := fd_en2 hf hr
      exact hX K' R w q (-1) cz hf (fun z => absurd z (by decide)) hr
    · obtain ⟨R, hf, de, hr⟩ := fd_en2 hf hr
      exact hX K' R w q (-1) cz hf (fun z => absurd z (by decide)) hr
    · have hr := g_pos hr (by rw [av2.2.2.2.1]; decide)
      have tf := TOKf_t tf1 tf2
      have rq2 := RQD_t (rqs p hp) g tf
      rw [show qs_P (c_E L K2 T) 209 (c_ob L 1 c) (some (c_ob L 5 p)) = c_E L (cs_P K2 209 c (some p)) T from c_eDs209 (v := some p) (c_gw g) m1]
      have e2 : ∀ f i : Nat, ¬ f / 200 = 9 → c_I K2 f i = c_I K f i := fun f i h => tf.1 f i (fun m => h ((by decide : ∀ f ∈ [1807, 1808, 1809, 1811], f / 200 = 9) f m))
      refine ⟨K10 g, c_portname (K := cs_P K2 209 c (some p)) (cn := D.1 p) wd (AV_P av2) rq2.2.2.2.1 (fun i hi => rq2.2.2.2.2.2.2 4 i (by decide) hi) (fun i hi => ?_) rq2.1.1.1 m1 ((e2 200 c (by decide)).trans k0) (((e2 201 c (by decide)).trans k1).trans (TOKf_a tf _ _).symm) (by omega) c24 hl (by omega) (by omega) hr (fun K' R' w q x cz hf hx _ hr => hX K' R' w q x cz hf (fun z => absurd z hx) hr) (fun i K3 R3 hi av3 tf3 h48 h49 h50 hr => ⟨c_gk g m1 2 rfl, rfl, ?_⟩)⟩
      · exact ((e2 2008 _ (by decide)).trans (p8 p i hp hi)).trans (TOKf_a tf _ _).symm
      · rw [c_eIs (c_gw g) m1 rfl]
        exact hN1 p i K2 K3 R2 R3 hp hi tf av3 tf3 ((TOKf_a tf _ _).symm.trans h48) ((TOKf_a tf _ _).symm.trans (h49.trans (TOKf_a tf _ _))) ((TOKf_a tf _ _).symm.trans h50) hr
  · have e2 : ∀ f i : Nat, ¬ f / 200 = 9 → c_I K1 f i = c_I K f i := fun f i h => tf1.1 f i (fun m => h ((by decide : ∀ f ∈ [1807, 1808, 1809, 1811], f / 200 = 9) f m))
    refine um_X6_addInput g K1 0 (some c) (g_m6 g) (Q1 := fun K2 => K2 = cs_I (cs_A K1 1204 0 ni (nI c)) 1205 0 (nI (ni + 1))) ?_ (fun K2 h2 => ⟨rfl, rfl, ?_⟩)
    · unfold km_X6_addInput
      rw [e2 1205 0 (by decide), k5, nI_clamp (by omega)]
      refine bf_ (by rw [show (24 : Int32) = nI 24 from rfl]; exact nI_ge n24 (by decide)) ⟨c, rfl, m1, vp_in_nI n24 (by decide), fun S10 e10 => ?_⟩
      rw [e10, e2 200 c (by decide), k0]
      show cs_I (cs_A K1 1204 0 ni (nI c)) 1205 0 (c_I K1 1205 0 + 1) = _
      rw [e2 1205 0 (by decide), k5, nI_1]
    · rw [h2]
      exact hN0 K1 R1 av1 tf1 (fun Q h => hr Q ⟨_, rfl, h⟩)
theorem cs_id {K : c_S} {f i : Nat} {v : Int32} (h : c_I K f i = v) : cs_I K f i v = K := by
  refine Prod.ext (funext fun f' => funext fun i' => ?_) rfl
  show (if f' = f ∧ i' = i then v else c_I K f' i') = c_I K f' i'
  by_cases z : f' = f ∧ i' = i
  · rw [if_pos z, z.1, z.2, h]
  · rw [if_neg z]
theorem c_goal {e : EV} {D : CD} {L : c_L} {T : q_S} {B bc bs u v : Nat} {K0 K : c_S} {R0 R : r_S} {np lm c ng no : Nat} {X : Nat → Nat → q_S → Prop} {E : String → q_S → Prop} {Y : Int32 → r_S → (Option Value → r_S → Prop) → Prop} {RM : (Option Value → r_S → Prop) → Prop} (wd : WD e L T) (av : AV B K0 R0 K R) (pp : PP L K R np lm) (rqs : ∀ p : Nat, p < np → RQD D L K R p lm) (p8 : ∀ p i : Nat, p < np → i < D.1 p 4 → c_I K 2008 (48 * p + (32 + i)) = r_A R 2450 (16 * p + i)) (m1 : c_mk L 1 c) (k0 : c_I K 200 c = nI c) (k1 : c_I K 201 c = r_A R 2454 c) (k7 : c_I K 207 c = nI ng) (k8 : c_I K 208 c = nI no) (hno : no ≤ 4) (c24 : c < 24) (hl : lm ≤ 14000) (hu : u + 1 ≤ bc) (hv : v + 6 ≤ bs)
  (hr : ∀ Q : Option Value → r_S → Prop, rm_X12_end R (nI c) 28 0 (fun r R' => ∃ x : Int32, r = some (.int x) ∧ Y x R' Q) → RM Q)
  (hX : ∀ (K' : c_S) (R' : r_S) (w q x : Int32), CZ K0 K' → FD w q R0 R' → (r_DE R' ∨ ∀ f i : Nat, f ≠ 2450 → r_A R' f i = r_A R f i) → (∀ Q : Option Value → r_S → Prop, Y x R' Q → RM Q) → E "java/lang/IllegalArgumentException" (c_E L (k_fl K' w q) T))
  (hN0 : ∀ (K1 : c_S) (R' : r_S), AV B K0 R0 K1 R' → TOKf (cs_I K 207 c (nI (ng + 1))) K1 R R' → (∀ Q : Option Value → r_S → Prop, Y (-2) R' Q → RM Q) → X 1 6 (c_E L (cs_I (cs_I K1 1206 0 (if no = 0 then c_I K 1206 0 + 1 else c_I K 1206 0)) 208 c (nI (no + 1))) T))
  (hN1 : ∀ (p i : Nat) (K1 K2 : c_S) (R1 R2 : r_S), p < np → i < D.1 p 4 → TOKf (cs_I K 207 c (nI (ng + 1))) K1 R R1 → AV B K0 R0 K2 R2 → TOKf (cs_I (cs_P K1 211 c (some p)) 2008 (48 * p + (32 + i)) (nI c)) K2 (rs_A R1 2450 (16 * p + i) (nI c)) R2 → r_A R 2448 (16 * p + i) = 0 → r_A R 2449 (16 * p + i) = r_A R 2454 c → r_A R 2450 (16 * p + i) = -1 → (∀ Q : Option Value → r_S → Prop, Y (nI (16 * p + i)) R2 Q → RM Q) → X 1 6 (c_E L (cs_I K2 212 c (nI (32 + i))) T)) :
  ∃ m m' : Nat, (u + m ≤ bc ∧ v + m' ≤ bs) ∧ wm_X9_readGoal m m' (c_E L K T) (c_ob L 9 0) (some (c_ob L 1 c)) (fun r S' => r = none ∧ X m m' S') E := by
  have g := WD_g wd
  have np16 := pp.1
  unfold rm_X12_end at hr
  have hr := g_pos hr (by rw [av.2.2.2.1]; decide)
  have av0 : AV B K0 R0 (cs_I K 207 c (nI (ng + 1))) R := AV_I av (by decide)
  have eI : ∀ f i : Nat, f ≠ 207 → c_I (cs_I K 207 c (nI (ng + 1))) f i = c_I K f i := fun f i h => if_neg (fun z => h z.1)
  refine ⟨1, 6, ⟨hu, hv⟩, _, rfl, c_gk g m1 2 rfl, ?_⟩
  rw [c_eI m1 rfl, k7, nI_1, c_eIs (c_gw g) m1 rfl]
  refine ⟨K10 g, c_takes2 wd av0 (by omega) (by omega) hr (fun K' R' w q cz hf tf pe hr => hX K' R' w q (-2) cz hf (Or.inr (fun f i _ => TOKf_a tf f i)) (fun Q h => hr Q ⟨_, rfl, h⟩)) (fun hr => bt_ rfl ⟨K10 g, ?_⟩) (fun K1 R1 av1 tf1 hr => bf_ (by decide) ⟨K10 g, _, P18 g, K7 g, ?_⟩)⟩
  · have of0 : OF (fun f i => f = 207 ∧ i = c) (fun _ _ => False) (fun _ => False) (fun _ _ => False) K R (cs_I K 207 c (nI (ng + 1))) R := OF_I OF_0 ⟨rfl, rfl⟩
    have pp0 : PP L (cs_I K 207 c (nI (ng + 1))) R np lm := PP_c pp LX_0 (Nat.le_refl _) (eI _ _ (by decide)) rfl (fun _ _ => rfl) (fun _ _ => ⟨rfl, rfl⟩) (fun _ _ => rfl)
    refine c_pname (F := fun _ => R) (Y := fun p R' Q => rm_X12_sign R' 46 (fun r R' => ∃ x : Int32, r = some (.int x) ∧ ((r_I R' 2411 ≤ 0 → r_en2 R' (nI c) (nI p) 0 (fun r R' => ∃ x : Int32, r = some (.int x) ∧ Y x R' Q)) ∧ (¬ r_I R' 2411 ≤ 0 → ∃ x : Int32, some (Value.int (-1)) = some (.int x) ∧ Y x R' Q)))) wd av0 pp0 hl (by omega) (by omega) hr (fun p hp => ⟨av0, fun Q h => h⟩) (fun p K' R' w q hp cz hf pe tfx hr => ?_) (fun K' R' w q cz hf de hr => hX K' R' w q (-1) cz hf (Or.inl de) (fun Q h => hr Q ⟨_, rfl, h⟩)) (fun p K1 R1 hp av1 tf1 hr => ⟨K10 g, c_sign wd av1 (by omega) (by omega) hr (fun K' R' w q x cz hf hr => ?_) (fun K2 R2 av2 tf2 hr => ⟨c_gk g m1 2 rfl, ?_⟩)⟩)
    · obtain ⟨R, hf, de, hr⟩ := fs_sign hf hr
      obtain ⟨R, hf, de, hr⟩ := fd_en2 hf hr
      exact hX K' R w q (-1) cz hf (Or.inl de) hr
    · obtain ⟨R, hf, de, hr⟩ := fd_en2 hf hr
      exact hX K' R w q (-1) cz hf (Or.inl de) hr
    · have hr := g_pos hr (by rw [av2.2.2.2.1]; decide)
      have tf := TOKf_t tf1 tf2
      have rq0 : RQD D L (cs_I K 207 c (nI (ng + 1))) R p lm := RQD_of (rqs p hp) g LX_0 of0 (fun f i a b => by unfold sI at a; omega) (fun f i a b => b) (fun f i a b => b)
      have rq2 := RQD_t rq0 g tf
      rw [show qs_P (c_E L K2 T) 211 (c_ob L 1 c) (some (c_ob L 5 p)) = c_E L (cs_P K2 211 c (some p)) T from c_eDs211 (v := some p) (c_gw g) m1]
      have e2 : ∀ f i : Nat, ¬ f / 200 = 9 → f ≠ 207 → c_I K2 f i = c_I K f i := fun f i h h' => (tf.1 f i (fun m => h ((by decide : ∀ f ∈ [1807, 1808, 1809, 1811], f / 200 = 9) f m))).trans (eI f i h')
      refine ⟨K10 g, c_portname (K := cs_P K2 211 c (some p)) (cn := D.1 p) wd (AV_P av2) rq2.2.2.2.1 (fun i hi => rq2.2.2.2.2.2.2 4 i (by decide) hi) (fun i hi => ?_) rq2.1.1.1 m1 ((e2 200 c (by decide) (by decide)).trans k0) (((e2 201 c (by decide) (by decide)).trans k1).trans (TOKf_a tf _ _).symm) (by omega) c24 hl (by omega) (by omega) hr (fun K' R' w q x cz hf hx hd hr => hX K' R' w q x cz hf (hd.elim Or.inl (fun z => Or.inr (fun f i h => (z f i h).trans (TOKf_a tf f i)))) hr) (fun i K3 R3 hi av3 tf3 h48 h49 h50 hr => ⟨c_gk g m1 2 rfl, rfl, ?_⟩)⟩
      · exact ((e2 2008 _ (by decide) (by decide)).trans (p8 p i hp hi)).trans (TOKf_a tf _ _).symm
      · rw [c_eIs (c_gw g) m1 rfl]
        exact hN1 p i K2 K3 R2 R3 hp hi tf av3 tf3 ((TOKf_a tf _ _).symm.trans h48) ((TOKf_a tf _ _).symm.trans (h49.trans (TOKf_a tf _ _))) ((TOKf_a tf _ _).symm.trans h50) hr
  · have e2 : ∀ f i : Nat, ¬ f / 200 = 9 → f ≠ 207 → c_I K1 f i = c_I K f i := fun f i h h' => (tf1.1 f i (fun m => h ((by decide : ∀ f ∈ [1807, 1808, 1809, 1811], f / 200 = 9) f m))).trans (eI f i h')
    refine um_X6_addOutput g K1 0 (some c) (g_m6 g) (Q1 := fun K2 => K2 = cs_I (cs_I K1 1206 0 (if no = 0 then c_I K 1206 0 + 1 else c_I K 1206 0)) 208 c (nI (no + 1))) ?_ (fun K2 h2 => ⟨rfl, rfl, ?_⟩)
    · refine ⟨c, rfl, m1, ?_⟩
      rw [e2 208 c (by decide) (by decide), k8, e2 1206 0 (by decide) (by decide)]
      by_cases z : no = 0
      · rw [if_pos z]
        refine nt_ (by rw [z]; rfl) ⟨c, rfl, m1, ?_⟩
        have : c_I (cs_I K1 1206 0 (c_I K 1206 0 + 1)) 208 c = nI no := (e2 208 c (by decide) (by decide)).trans k8
        rw [this, nI_1]
      · rw [if_neg z]
        refine nf_ (fun y => z ((nI_eq (by omega) (by decide)).mp (y.trans (show (0 : Int32) = nI 0 from rfl)))) ⟨c, rfl, m1, ?_⟩
        rw [e2 208 c (by decide) (by decide), k8, nI_1, cs_id (e2 1206 0 (by decide) (by decide))]
    · rw [h2]
      exact hN0 K1 R1 av1 tf1 (fun Q h => hr Q ⟨_, rfl, h⟩)
