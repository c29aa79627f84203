/-! The reference's own state: its scalars and its rows, by their fields; and the pool that it makes over another. -/
def r_S : Type := (Nat → Int32) × (Nat → Nat → Int32)
def r_I (S : r_S) (f : Nat) : Int32 := S.1 f
def r_A (S : r_S) (f i : Nat) : Int32 := S.2 f i
def rs_I (S : r_S) (f : Nat) (v : Int32) : r_S := (qs_1 S.1 f v, S.2)
def rs_A (S : r_S) (f i : Nat) (v : Int32) : r_S := (S.1, qs_2 S.2 f i v)
def r_Nl : List Nat := [0, 20, 4000, 0, 0, 0, 0, 0, 0, 0, 0, 0, 0, 0, 0, 0, 0, 0, 0, 0, 0, 14000, 0, 16, 16, 16, 16, 96, 96, 96, 16, 1024, 1024, 1024, 1024, 96, 256, 256, 256, 256, 256, 256, 16, 128, 128, 128, 128, 128, 256, 256, 256, 16, 80, 0, 24, 24, 24, 24, 24, 96, 24, 24, 24, 0, 0, 131072, 131072, 256, 256, 256, 256, 256, 256, 256, 256, 256, 256, 8192, 256, 256, 256, 256, 256, 16, 16, 16, 16, 16, 16, 16, 16, 16, 128, 128, 128, 2048, 128, 128, 24, 24, 24, 24, 768, 24, 24, 24, 1440, 1440, 0, 0, 0, 900, 384, 0]
def r_Kl : List Nat := [0, 20, 20, 0, 0, 0, 0, 0, 0, 0, 0, 0, 0, 0, 0, 0, 0, 0, 0, 0, 0, 20, 0, 21, 21, 21, 21, 21, 21, 21, 21, 21, 21, 21, 21, 21, 21, 21, 21, 21, 21, 22, 21, 21, 21, 22, 21, 22, 22, 22, 21, 22, 21, 0, 22, 21, 22, 21, 21, 21, 21, 21, 21, 0, 0, 20, 20, 21, 21, 21, 22, 21, 21, 21, 21, 22, 21, 21, 21, 21, 21, 21, 21, 21, 21, 21, 21, 21, 21, 21, 21, 21, 21, 22, 21, 21, 22, 21, 22, 21, 21, 21, 21, 21, 21, 21, 21, 21, 0, 0, 0, 21, 21, 0]
def r_N (f : Nat) : Nat := r_Nl.getD (f - 2400) 0
def r_Kd (f : Nat) : Nat := r_Kl.getD (f - 2400) 0
def r_E (m : Nat) (fo : Nat → Option Nat) (R : r_S) (S0 : q_S) : q_S := (S0.1, (fun f a => if a = m then R.1 f else S0.2.1 f a), S0.2.2.1, S0.2.2.2.1, S0.2.2.2.2.1, (fun a i => match fo a with | some f => R.2 f i | none => S0.2.2.2.2.2.1 a i), S0.2.2.2.2.2.2)
/-- where the reference's object and its rows lie, and the texts -/
def r_WF (m : Nat) (ad : Nat → Nat) (fo : Nat → Option Nat) (st : Nat → Nat) (S0 : q_S) : Prop := q_K S0 m = 13 ∧ (∀ f : Nat, (r_N f == 0) = false → q_P S0 f m = some (ad f) ∧ q_K S0 (ad f) = r_Kd f ∧ q_N S0 (ad f) = r_N f ∧ fo (ad f) = some f) ∧ (∀ a f : Nat, fo a = some f → a = ad f) ∧ (∀ k : Nat, k < 15 → q_K S0 (st k) = 30 ∧ q_N S0 (st k) = k) ∧ (∀ b : Nat, q_K S0 b = 30 → b = st (q_N S0 b)) ∧ ∀ k : Nat, k < 15 → ∃ b : Nat, q_K S0 b = 31 ∧ q_N S0 b = k
theorem r_eK {m : Nat} {fo : Nat → Option Nat} {R : r_S} {S0 : q_S} {a : Nat} : q_K (r_E m fo R S0) a = q_K S0 a := rfl
theorem r_eP {m : Nat} {fo : Nat → Option Nat} {R : r_S} {S0 : q_S} {f a : Nat} : q_P (r_E m fo R S0) f a = q_P S0 f a := rfl
theorem r_eN {m : Nat} {fo : Nat → Option Nat} {R : r_S} {S0 : q_S} {a : Nat} : q_N (r_E m fo R S0) a = q_N S0 a := rfl
theorem r_eI {m : Nat} {fo : Nat → Option Nat} {R : r_S} {S0 : q_S} {f : Nat} : q_I (r_E m fo R S0) f m = r_I R f := if_pos rfl
theorem r_eIs {m : Nat} {fo : Nat → Option Nat} {R : r_S} {S0 : q_S} {f : Nat} {v : Int32} : qs_I (r_E m fo R S0) f m v = r_E m fo (rs_I R f v) S0 := by
  refine Prod.ext rfl (Prod.ext (funext fun f' => funext fun a' => ?_) rfl)
  show (if f' = f ∧ a' = m then v else if a' = m then R.1 f' else S0.2.1 f' a') = (if a' = m then (if f' = f then v else R.1 f') else S0.2.1 f' a')
  by_cases h1 : a' = m
  · by_cases h2 : f' = f
    · rw [if_pos ⟨h2, h1⟩, if_pos h1, if_pos h2]
    · rw [if_neg (fun z => h2 z.1), if_pos h1, if_pos h1, if_neg h2]
  · rw [if_neg (fun z => h1 z.2), if_neg h1, if_neg h1]
theorem r_w1 {m : Nat} {ad : Nat → Nat} {fo : Nat → Option Nat} {st : Nat → Nat} {S0 : q_S} (w : r_WF m ad fo st S0) (f : Nat) (h : (r_N f == 0) = false) : q_P S0 f m = some (ad f) := (w.2.1 f h).1
theorem r_w2 {m : Nat} {ad : Nat → Nat} {fo : Nat → Option Nat} {st : Nat → Nat} {S0 : q_S} (w : r_WF m ad fo st S0) (f k : Nat) (h : (r_N f == 0) = false) (hk : r_Kd f = k) : q_K S0 (ad f) = k := (w.2.1 f h).2.1.trans hk
theorem r_w3 {m : Nat} {ad : Nat → Nat} {fo : Nat → Option Nat} {st : Nat → Nat} {S0 : q_S} (w : r_WF m ad fo st S0) (f : Nat) (h : (r_N f == 0) = false) : q_N S0 (ad f) = r_N f := (w.2.1 f h).2.2.1
theorem r_eA {m : Nat} {ad : Nat → Nat} {fo : Nat → Option Nat} {st : Nat → Nat} {S0 : q_S} (w : r_WF m ad fo st S0) (f : Nat) (h : (r_N f == 0) = false) {R : r_S} {i : Nat} : q_A (r_E m fo R S0) (ad f) i = r_A R f i := by
  show (match fo (ad f) with | some f => R.2 f i | none => S0.2.2.2.2.2.1 (ad f) i) = R.2 f i
  rw [(w.2.1 f h).2.2.2]
theorem r_eAs {m : Nat} {ad : Nat → Nat} {fo : Nat → Option Nat} {st : Nat → Nat} {S0 : q_S} (w : r_WF m ad fo st S0) (f : Nat) (h : (r_N f == 0) = false) {R : r_S} {i : Nat} {v : Int32} : qs_A (r_E m fo R S0) (ad f) i v = r_E m fo (rs_A R f i v) S0 := by
  refine Prod.ext rfl (Prod.ext rfl (Prod.ext rfl (Prod.ext rfl (Prod.ext rfl (Prod.ext (funext fun a => funext fun j => ?_) rfl)))))
  show (if a = ad f ∧ j = i then v else match fo a with | some g => R.2 g j | none => S0.2.2.2.2.2.1 a j) = (match fo a with | some g => (if g = f ∧ j = i then v else R.2 g j) | none => S0.2.2.2.2.2.1 a j)
  have e := (w.2.1 f h).2.2.2
  cases hf : fo a with
  | none =>
    have n : a ≠ ad f := fun z => by rw [z, e] at hf; cases hf
    rw [if_neg (fun z => n z.1)]
  | some g =>
    have ha := w.2.2.1 a g hf
    by_cases hg : g = f
    · subst hg
      by_cases hj : j = i
      · rw [if_pos ⟨ha, hj⟩]; exact (if_pos ⟨rfl, hj⟩).symm
      · rw [if_neg (fun z => hj z.2)]; exact (if_neg (fun z => hj z.2)).symm
    · have n : a ≠ ad f := fun z => by rw [z, e] at hf; exact hg (Option.some.inj hf).symm
      rw [if_neg (fun z => n z.1)]; exact (if_neg (fun z => hg z.1)).symm
theorem r_all {m : Nat} {fo : Nat → Option Nat} {X : r_S} {S0 : q_S} {P : q_S → Prop} : (∀ S : q_S, S = r_E m fo X S0 → P S) ↔ ∀ S : r_S, S = X → P (r_E m fo S S0) := ⟨fun h _ e => h _ (e ▸ rfl), fun h _ e => e ▸ h X rfl⟩
theorem r_ws {m : Nat} {ad : Nat → Nat} {fo : Nat → Option Nat} {st : Nat → Nat} {S0 : q_S} (w : r_WF m ad fo st S0) {k : Nat} (hk : k < 15) {P : Nat → Prop} : (∀ b : Nat, q_K S0 b = 30 → q_N S0 b = k → P b) ↔ P (st k) := ⟨fun h => h _ (w.2.2.2.1 k hk).1 (w.2.2.2.1 k hk).2, fun h b h1 h2 => by rw [w.2.2.2.2.1 b h1, h2]; exact h⟩
def r_chr (k i : Nat) : Int32 := (q_sb.getD k []).getD i 0
def r_ch (k : Nat) (S : r_S) (x : Int32) (K : Option Value → r_S → Prop) : Prop := vp_in x (q_sl.getD k 0) ∧ K (some (.int (r_chr k x.toNatClampNeg))) S
def r_ln (k : Nat) (S : r_S) (K : Option Value → r_S → Prop) : Prop := K (some (.int (nI (q_sl.getD k 0)))) S
theorem r_chv : ∀ k : Nat, k < 15 → ∀ i : Nat, i < q_sl.getD k 0 → (((((q_sb.getD k []).getD i 0) &&& (255 : Int32)).toUInt32 % 65536).toInt32 = r_chr k i ∧ (r_chr k i).toUInt32.toUInt16.toUInt32.toInt32 = r_chr k i) := by decide +kernel
theorem r_slb : ∀ k : Nat, k < 15 → q_sl.getD k 0 < 2 ^ 31 := by decide +kernel
theorem r_chq {S : q_S} {a k : Nat} {x : Int32} {Q : Option Value → q_S → Prop} (hk : k < 15) (hK : q_K S a = 30) (hN : q_N S a = k) (hb : ∃ b : Nat, q_K S b = 31 ∧ q_N S b = k) : wm_J0_charAt_5068e S a x Q ↔ (vp_in x (q_sl.getD k 0) ∧ Q (some (.int (r_chr k x.toNatClampNeg))) S) := by
  have cv : vp_in x (q_sl.getD k 0) → (((((q_sb.getD k []).getD x.toNatClampNeg 0) &&& (255 : Int32)).toUInt32 % 65536).toInt32 = r_chr k x.toNatClampNeg ∧ narrow .char (.int (r_chr k x.toNatClampNeg)) = .int (r_chr k x.toNatClampNeg)) := fun hin => by
    have hlt : x.toNatClampNeg < q_sl.getD k 0 := Nat.lt_of_not_le (fun z => hin (Or.inr z))
    have c := r_chv k hk _ hlt
    exact ⟨c.1, congrArg Value.int c.2⟩
  constructor
  · intro h
    obtain ⟨b, hb1, hb2⟩ := hb
    unfold wm_J0_charAt_5068e wm_J0_isLatin1_aae02 wb_J0_isLatin1_aae02_18 at h
    obtain ⟨_, x4, e, h2⟩ := (h.2.2 (by decide)).2.2 rfl
    obtain rfl : 1 = x4 := by injection e with e; injection e
    have h3 := (h2.2 (by decide)).2 b hb1 (hb2.trans hN.symm)
    unfold wm_J1_charAt_3b067 wm_J0_checkIndex_df160 wm_J3_checkIndex_8e157 at h3
    obtain ⟨a1, e1, -, h4⟩ := h3
    obtain rfl : b = a1 := Option.some.inj e1
    rw [hb2] at h4
    have h5 := h4 none
    have hx : ¬ x < 0 := fun z => h5.1 z
    have hlt : x < nI (q_sl.getD k 0) := Classical.byContradiction fun z => (h5.2 hx).2 z
    obtain ⟨_, _, _, _, hin, _, x16, e16, _, hQ⟩ := (h5.2 hx).1 hlt
    injection e16 with e16; injection e16 with e16
    rw [← e16] at hQ
    rw [hb2] at hin hQ
    exact ⟨hin, (cv hin).1 ▸ hQ⟩
  · intro ⟨hin, hQ⟩
    obtain ⟨c1, c2⟩ := cv hin
    have hx : ¬ x < 0 := fun z => hin (Or.inl z)
    have hlt : x < nI (q_sl.getD k 0) := by
      obtain ⟨j, hj, rfl⟩ := vp_in_of hin (r_slb k hk)
      exact nI_lt hj (r_slb k hk)
    refine ⟨hK, fun z => absurd z (by decide), fun _ => ⟨hK, fun z => absurd rfl z, fun _ => ⟨rfl, 1, rfl, fun z => absurd z (by decide), fun _ => ⟨hK, fun b hb1 hb2 => ⟨b, rfl, hb1, fun r1_ => ⟨fun z => absurd z hx, fun _ => ⟨fun _ => ⟨x, rfl, rfl, hb1, ?_⟩, fun z => absurd (show x < nI (q_sl.getD (q_N S b) 0) by rw [hb2, hN]; exact hlt) z⟩⟩⟩⟩⟩⟩⟩
    rw [hb2, hN, c1]
    exact ⟨hin, c2, _, rfl, c2, hQ⟩
theorem r_chx {m : Nat} {ad : Nat → Nat} {fo : Nat → Option Nat} {st : Nat → Nat} {S0 : q_S} (w : r_WF m ad fo st S0) {k : Nat} {R : r_S} {x : Int32} {Q : Option Value → q_S → Prop} (hk : k < 15) : wm_J0_charAt_5068e (r_E m fo R S0) (st k) x Q ↔ r_ch k R x (fun r S => Q r (r_E m fo S S0)) := r_chq hk (w.2.2.2.1 k hk).1 (w.2.2.2.1 k hk).2 (w.2.2.2.2.2 k hk)
theorem r_lnq {S : q_S} {a k : Nat} {Q : Option Value → q_S → Prop} (hk : k < 15) (hK : q_K S a = 30) (hN : q_N S a = k) (hb : ∃ b : Nat, q_K S b = 31 ∧ q_N S b = k) : wm_J0_length_8abf5 S a Q ↔ Q (some (.int (nI (q_sl.getD k 0)))) S := by
  constructor
  · intro h
    obtain ⟨b, hb1, hb2⟩ := hb
    have h1 := h.2 b hb1 (hb2.trans hN.symm)
    unfold wm_J0_coder_7d493 wb_J0_coder_7d493_14 at h1
    obtain ⟨-, -, x, e, hQ⟩ := h1.2 (by decide)
    injection e with e; injection e with e
    rw [← e, hb2, sc_shr0 (r_slb k hk)] at hQ
    exact hQ
  · intro h
    refine ⟨hK, fun b hb1 hb2 => ⟨fun z => absurd z (by decide), fun _ => ⟨hK, rfl, 0, rfl, ?_⟩⟩⟩
    rw [hb2, hN, sc_shr0 (r_slb k hk)]
    exact h
theorem r_lnx {m : Nat} {ad : Nat → Nat} {fo : Nat → Option Nat} {st : Nat → Nat} {S0 : q_S} (w : r_WF m ad fo st S0) {k : Nat} {R : r_S} {Q : Option Value → q_S → Prop} (hk : k < 15) : wm_J0_length_8abf5 (r_E m fo R S0) (st k) Q ↔ r_ln k R (fun r S => Q r (r_E m fo S S0)) := r_lnq hk (w.2.2.2.1 k hk).1 (w.2.2.2.1 k hk).2 (w.2.2.2.2.2 k hk)
