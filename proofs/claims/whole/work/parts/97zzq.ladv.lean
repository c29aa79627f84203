/-! Reading: the class's advance, in the pool. -/
theorem w_16 {c : Int32} (h0 : 0 < c.toInt) (h1 : c.toInt ≤ 127) : (c.toUInt32 % 65536).toInt32 = c := by
  obtain ⟨n, hn, rfl⟩ := nI_of (x := c) (fun z => by have := i_lt0.mp z; omega)
  rw [nI_toInt hn] at h1
  have : ∀ k : Nat, k < 128 → ((nI k).toUInt32 % 65536).toInt32 = nI k := by decide +kernel
  exact this n (by omega)
theorem um_adv {L : c_L} {T : q_S} (g : c_G L T) (h2 : ∃ z : Nat, q_K T z = 31 ∧ q_N T z = 2) {bc bs u v : Nat} {Q1 : c_S → Prop} {Q : Option Value → q_S → Prop} {E : String → q_S → Prop} (hQ : ∀ K' : c_S, Q1 K' → ¬ c_I K' 1808 0 = 1 → Q none (c_E L K' T)) (hF : ∀ K' : c_S, Q1 K' → c_I K' 1808 0 = 1 → ∃ m6 m7 : Nat, (u + m6 ≤ bc ∧ v + m7 ≤ bs) ∧ wm_X9_fail m6 m7 (c_E L K' T) (c_ob L 9 0) 2 (c_I K' 1811 0) (fun r S => r = none ∧ Q none S) E) : ∀ (n : Nat) (K : c_S), (∀ i : Nat, fits .byte (.int (c_A K 1802 0 i)) = true) → kt_bl L n K Q1 → wl_X9_advance_0 bc bs n u v (c_E L K T) (c_ob L 9 0) Q E := by
  have m9 : c_mk L 9 0 := g.2.2.2.2.2.2.2.2.2.2.1.2.1
  have m18 := c_gA g 1802 rfl (by decide) m9
  have k10 : ∀ K : c_S, q_K (c_E L K T) (c_ob L 9 0) = 10 := fun K => c_gk g m9 10 rfl
  have p18 : ∀ K : c_S, q_P (c_E L K T) 1802 (c_ob L 9 0) = some (c_ar L 1802 0) := fun K => c_ga g 1802 rfl rfl (by decide) m9
  have k20 : ∀ K : c_S, q_K (c_E L K T) (c_ar L 1802 0) = 20 := fun K => c_gr g m18 20 rfl
  have n18 : ∀ K : c_S, q_N (c_E L K T) (c_ar L 1802 0) = 4000 := fun K => c_gN g m18 4000 (by decide)
  have fin : ∀ K : c_S, Q1 K → wb_X9_advance_168 bc bs u v (c_E L K T) (c_ob L 9 0) Q E := fun K h => by
    refine ⟨k10 K, ?_⟩
    rw [c_eI m9 rfl, c_eI m9 rfl]
    exact ⟨fun z => hQ K h z, fun z => hF K h z⟩
  have sg : ∀ (K : c_S) (c : Int32), (-128 ≤ c.toInt ∧ c.toInt ≤ 127) → kt_sg K c Q1 → wb_X9_advance_130 bc bs u v (c_E L K T) (c_ob L 9 0) c Q E := fun K c hc h => by
    refine ⟨k10 K, ?_⟩
    rw [c_eI m9 rfl, c_eIs (c_gw g) m9 rfl, c_eIs (c_gw g) m9 rfl]
    have h : Q1 (cs_I (cs_I (cs_I K 1807 0 (c_I K 1807 0 + 1)) 1809 0 c) 1808 0 (if sg_ c = true then 4 else 1)) := h
    have e165 : ∀ x : Int32, x = (if sg_ c = true then 4 else 1) → wb_X9_advance_165 bc bs u v (c_E L (cs_I (cs_I K 1807 0 (c_I K 1807 0 + 1)) 1809 0 c) T) (c_ob L 9 0) (c_ob L 9 0) x Q E := fun x ex => by
      refine ⟨k10 _, ?_⟩
      rw [c_eIs (c_gw g) m9 rfl, ex]
      exact fin _ h
    refine ⟨fun z => e165 1 ?_, fun z b kb nb => ?_⟩
    · rw [if_neg]
      intro y
      have y := of_decide_eq_true y
      rcases y with e | e | e | e | e | e | e <;> (rw [e] at z; exact absurd z (by decide))
    · have c0 : 0 < c.toInt := by
        have := i_lt.mp (i_nle.mp z)
        exact this
      have e16 : (c.toUInt32 % 65536).toInt32 = c := w_16 c0 hc.2
      rw [e16]
      refine w_idx kb nb h2 ⟨c0, hc.2⟩ (fun x hx => ⟨_, rfl, fun y => e165 1 ?_, fun y => e165 4 ?_⟩)
      · rw [if_neg (hx.mp y)]
      · rw [if_pos (Classical.byContradiction fun e => y (hx.mpr e))]
  have d111 : ∀ (K : c_S) (c : Int32), (-128 ≤ c.toInt ∧ c.toInt ≤ 127) → kt_111 L K c Q1 → wb_X9_advance_111 bc bs u v (c_E L K T) (c_ob L 9 0) c Q E := fun K c hc h => by
    refine ⟨fun z => sg K c hc (h.1 z), fun z => ⟨fun z2 => sg K c hc ((h.2 z).1 z2), fun z2 => ⟨k10 K, ?_⟩⟩⟩
    exact um_X9_scanNumber g K 0 m9 ((h.2 z).2 z2) (fun K' h' => ⟨rfl, fin K' h'⟩)
  have tok : ∀ K : c_S, (∀ i : Nat, fits .byte (.int (c_A K 1802 0 i)) = true) → kt_tok L K Q1 → wb_X9_advance_52 bc bs u v (c_E L K T) (c_ob L 9 0) Q E := fun K hf h => by
    refine ⟨k10 K, ?_⟩
    have ek : qs_I (qs_I (c_E L K T) 1811 (c_ob L 9 0) (q_I (c_E L K T) 1807 (c_ob L 9 0))) 1809 (c_ob L 9 0) (-1) = c_E L (k_t1 K) T := by
      rw [c_eI m9 rfl, c_eIs (c_gw g) m9 rfl, c_eIs (c_gw g) m9 rfl]
      rfl
    have e7 : q_I (c_E L (k_t1 K) T) 1807 (c_ob L 9 0) = c_I (k_t1 K) 1807 0 := c_eI m9 rfl
    have e6 : q_I (c_E L (k_t1 K) T) 1806 (c_ob L 9 0) = c_I (k_t1 K) 1806 0 := c_eI m9 rfl
    have eA : q_A (c_E L (k_t1 K) T) (c_ar L 1802 0) (c_I (k_t1 K) 1807 0).toNatClampNeg = c_A (k_t1 K) 1802 0 (c_I (k_t1 K) 1807 0).toNatClampNeg := c_eA m18
    rw [ek, e7, e6]
    have by_ : ∀ i : Nat, -128 ≤ (c_A (k_t1 K) 1802 0 i).toInt ∧ (c_A (k_t1 K) 1802 0 i).toInt ≤ 127 := fun i => by_lo (hf i)
    refine ⟨fun z => ⟨_, p18 _, k20 _, by rw [n18]; exact (h.1 z).1, ?_⟩, fun z S eS => ?_⟩
    · rw [eA]
      exact ⟨fun z1 => d111 _ _ (by_ _) ((h.1 z).2.1 z1), fun z1 => ⟨fun z2 => d111 _ _ (by_ _) (((h.1 z).2.2 z1).1 z2), fun z2 => um_X9_scanName g (k_t1 K) 0 m9 (((h.1 z).2.2 z1).2 z2) (fun K' h' => ⟨rfl, fin K' h'⟩)⟩⟩
    · have hq := h.2 z
      rw [eS, c_eIs (c_gw g) m9 rfl]
      exact hQ _ hq (by show ¬ (0 : Int32) = 1; decide)
  intro n
  induction n with
  | zero => intro K _ h; exact h.elim
  | succ n ih =>
    intro K hf h
    refine ⟨k10 K, ?_⟩
    rw [c_eI m9 rfl, c_eI m9 rfl]
    have nx : ∀ h' : kt_bl L n (cs_I K 1807 0 (c_I K 1807 0 + 1)) Q1, wb_X9_advance_39 bc bs (fun u v S a0 => wl_X9_advance_0 bc bs n u v S a0 Q E) u v (c_E L K T) (c_ob L 9 0) Q E := fun h' => by
      refine ⟨k10 K, ?_⟩
      rw [c_eI m9 rfl, c_eIs (c_gw g) m9 rfl]
      exact ih _ hf h'
    refine ⟨fun z => tok K hf (h.1 z), fun z => ⟨_, p18 K, k20 K, by rw [n18]; exact (h.2 z).1, ?_⟩⟩
    rw [c_eA m18]
    exact ⟨fun z1 => nx ((h.2 z).2.1 z1), fun z1 => ⟨by rw [n18]; exact (h.2 z).1, fun z2 => tok K hf (((h.2 z).2.2 z1).2.1 z2), fun z2 => nx (((h.2 z).2.2 z1).2.2 z2)⟩⟩
