/-! Reading: the signs, as the class looks them up. -/
theorem w_lat {S : q_S} {b : Nat} {Q : Option Value → q_S → Prop} (hK : q_K S b = 30) (h : Q (some (.int 1)) S) : wm_J0_isLatin1_aae02 S b Q := by
  refine bf_ (by decide) ⟨hK, nt_ rfl ?_⟩
  exact ⟨nb_1, h⟩
theorem w_idx {S : q_S} {b : Nat} {c : Int32} {Q : Option Value → q_S → Prop} (hK : q_K S b = 30) (hN : q_N S b = 2) (hb : ∃ z : Nat, q_K S z = 31 ∧ q_N S z = 2) (hc : 0 < c.toInt ∧ c.toInt ≤ 127) (h : ∀ x : Int32, (x < 0 ↔ ¬ sg_ c = true) → Q (some (.int x)) S) : wm_J0_indexOf_0f7a4 S b c Q := by
  refine ⟨hK, hK, w_lat hK ⟨_, rfl, bf_ (by decide) ⟨hK, fun b' k31 n2 => ?_⟩⟩⟩
  have n2 : q_N S b' = 2 := n2.trans hN
  refine (r_lnq (k := 2) (by decide) hK hN hb).mpr ⟨_, rfl, ?_⟩
  have c8 : c.toInt8.toInt32 = c := by
    refine Int32.toInt_inj.mp ?_
    rw [Int8.toInt_toInt32, Int32.toInt_toInt8]
    exact Int.bmod_eq_of_le (by omega) (by omega)
  refine bf_ (fun z => ?_) (bf_ (fun z => ?_) ⟨nb_1, _, rfl, nf_ (by decide) ⟨b', rfl, k31, ?_⟩⟩)
  · have := i_lt0.mp z
    omega
  · have := i_lt.mp z
    rw [show (255 : Int32).toInt = 255 from rfl] at this
    omega
  rw [n2]
  refine bt_ (by decide) ?_
  have st : ∀ (i m : Nat), i < 7 → (¬ (q_sb.getD 2 []).getD i 0 = c → wl_J1_indexOfChar_4cfef_7 m S (some b') 7 c (nI (i + 1)) (fun r9_ S10_ => ∃ x11_ : Int32, r9_ = some (.int x11_) ∧ (∃ x22_ : Int32, (some (Value.int x11_)) = some (.int x22_) ∧ (∃ x4_ : Int32, (some (Value.int x22_)) = some (.int x4_) ∧ (Q (some (.int x4_)) S10_))))) → ((q_sb.getD 2 []).getD i 0 = c → sg_ c = true) → wl_J1_indexOfChar_4cfef_7 (m + 1) S (some b') 7 c (nI i) (fun r9_ S10_ => ∃ x11_ : Int32, r9_ = some (.int x11_) ∧ (∃ x22_ : Int32, (some (Value.int x11_)) = some (.int x22_) ∧ (∃ x4_ : Int32, (some (Value.int x22_)) = some (.int x4_) ∧ (Q (some (.int x4_)) S10_)))) := fun i m hi h1 h2 => by
    refine bf_ (nI_ge (b := 7) hi (by decide)) ⟨b', rfl, k31, ?_⟩
    rw [n2, nI_clamp (by omega)]
    refine ⟨vp_in_nI (N := 7) hi (by decide), fun z => ?_, fun z => ?_⟩
    · have := h1 z
      rw [← nI_1] at this
      exact this
    · exact ⟨_, rfl, _, rfl, _, rfl, h _ ⟨fun y => absurd y (nI_pos (by omega)), fun y => absurd (h2 z) y⟩⟩
  refine ⟨8, ?_⟩
  rw [c8]
  refine st 0 7 (by decide) (fun z0 => st 1 6 (by decide) (fun z1 => st 2 5 (by decide) (fun z2 => st 3 4 (by decide) (fun z3 => st 4 3 (by decide) (fun z4 => st 5 2 (by decide) (fun z5 => st 6 1 (by decide) (fun z6 => ?_) ?_) ?_) ?_) ?_) ?_) ?_) ?_
  · refine bt_ (by decide) ⟨_, rfl, _, rfl, _, rfl, h _ ⟨fun _ y => ?_, fun _ => by decide⟩⟩
    have y := of_decide_eq_true y
    rcases y with e | e | e | e | e | e | e
    · exact z0 e.symm
    · exact z1 e.symm
    · exact z2 e.symm
    · exact z3 e.symm
    · exact z4 e.symm
    · exact z5 e.symm
    · exact z6 e.symm
  · exact fun z => decide_eq_true (Or.inr (Or.inr (Or.inr (Or.inr (Or.inr (Or.inr z.symm))))))
  · exact fun z => decide_eq_true (Or.inr (Or.inr (Or.inr (Or.inr (Or.inr (Or.inl z.symm))))))
  · exact fun z => decide_eq_true (Or.inr (Or.inr (Or.inr (Or.inr (Or.inl z.symm)))))
  · exact fun z => decide_eq_true (Or.inr (Or.inr (Or.inr (Or.inl z.symm))))
  · exact fun z => decide_eq_true (Or.inr (Or.inr (Or.inl z.symm)))
  · exact fun z => decide_eq_true (Or.inr (Or.inl z.symm))
  · exact fun z => decide_eq_true (Or.inl z.symm)
