/-! Deterministic: what it ends in, it ends in for every claim on the end. -/
def dt2 {V S : Type} (p : (V → S → Prop) → Prop) : Prop := ∀ P : V → S → Prop, p P → ∃ (v : V) (s : S), P v s ∧ ∀ Q : V → S → Prop, Q v s → p Q
def dt1 {S : Type} (p : (S → Prop) → Prop) : Prop := ∀ P : S → Prop, p P → ∃ s : S, P s ∧ ∀ Q : S → Prop, Q s → p Q
theorem lf2 {V S : Type} {v : V} {s : S} : dt2 (fun Q : V → S → Prop => Q v s) := fun _ h => ⟨v, s, h, fun _ q => q⟩
theorem lf1 {S : Type} {s : S} : dt1 (fun Q : S → Prop => Q s) := fun _ h => ⟨s, h, fun _ q => q⟩
theorem fa2 {V S : Type} : dt2 (fun _ : V → S → Prop => False) := fun _ h => h.elim
theorem fa1 {S : Type} : dt1 (fun _ : S → Prop => False) := fun _ h => h.elim
theorem gd2 {V S : Type} {g : Prop} {p : (V → S → Prop) → Prop} (d : dt2 p) : dt2 (fun Q => g ∧ p Q) := fun P h => by
  obtain ⟨v, s, a, b⟩ := d P h.2
  exact ⟨v, s, a, fun Q q => ⟨h.1, b Q q⟩⟩
theorem gd1 {S : Type} {g : Prop} {p : (S → Prop) → Prop} (d : dt1 p) : dt1 (fun Q => g ∧ p Q) := fun P h => by
  obtain ⟨s, a, b⟩ := d P h.2
  exact ⟨s, a, fun Q q => ⟨h.1, b Q q⟩⟩
theorem if2 {V S : Type} {c : Prop} {p q : (V → S → Prop) → Prop} (d : dt2 p) (e : dt2 q) : dt2 (fun Q => (c → p Q) ∧ (¬ c → q Q)) := fun P h => by
  by_cases hc : c
  · obtain ⟨v, s, a, b⟩ := d P (h.1 hc)
    exact ⟨v, s, a, fun Q z => ⟨fun _ => b Q z, fun n => absurd hc n⟩⟩
  · obtain ⟨v, s, a, b⟩ := e P (h.2 hc)
    exact ⟨v, s, a, fun Q z => ⟨fun n => absurd n hc, fun _ => b Q z⟩⟩
theorem if1 {S : Type} {c : Prop} {p q : (S → Prop) → Prop} (d : dt1 p) (e : dt1 q) : dt1 (fun Q => (c → p Q) ∧ (¬ c → q Q)) := fun P h => by
  by_cases hc : c
  · obtain ⟨s, a, b⟩ := d P (h.1 hc)
    exact ⟨s, a, fun Q z => ⟨fun _ => b Q z, fun n => absurd hc n⟩⟩
  · obtain ⟨s, a, b⟩ := e P (h.2 hc)
    exact ⟨s, a, fun Q z => ⟨fun n => absurd n hc, fun _ => b Q z⟩⟩
theorem ifn2 {V S : Type} {c : Prop} {p q : (V → S → Prop) → Prop} (d : dt2 p) (e : dt2 q) : dt2 (fun Q => (¬ c → p Q) ∧ (c → q Q)) := fun P h => by
  by_cases hc : c
  · obtain ⟨v, s, a, b⟩ := e P (h.2 hc)
    exact ⟨v, s, a, fun Q z => ⟨fun n => absurd hc n, fun _ => b Q z⟩⟩
  · obtain ⟨v, s, a, b⟩ := d P (h.1 hc)
    exact ⟨v, s, a, fun Q z => ⟨fun _ => b Q z, fun n => absurd n hc⟩⟩
theorem ifn1 {S : Type} {c : Prop} {p q : (S → Prop) → Prop} (d : dt1 p) (e : dt1 q) : dt1 (fun Q => (¬ c → p Q) ∧ (c → q Q)) := fun P h => by
  by_cases hc : c
  · obtain ⟨s, a, b⟩ := e P (h.2 hc)
    exact ⟨s, a, fun Q z => ⟨fun n => absurd hc n, fun _ => b Q z⟩⟩
  · obtain ⟨s, a, b⟩ := d P (h.1 hc)
    exact ⟨s, a, fun Q z => ⟨fun _ => b Q z, fun n => absurd n hc⟩⟩
theorem ex2 {V S : Type} {r : Option Nat} {p : Nat → (V → S → Prop) → Prop} (d : ∀ i : Nat, dt2 (p i)) : dt2 (fun Q => ∃ i : Nat, r = some i ∧ p i Q) := fun P h => by
  obtain ⟨i, e, h⟩ := h
  obtain ⟨v, s, a, b⟩ := d i P h
  exact ⟨v, s, a, fun Q q => ⟨i, e, b Q q⟩⟩
theorem ex1 {S : Type} {r : Option Nat} {p : Nat → (S → Prop) → Prop} (d : ∀ i : Nat, dt1 (p i)) : dt1 (fun Q => ∃ i : Nat, r = some i ∧ p i Q) := fun P h => by
  obtain ⟨i, e, h⟩ := h
  obtain ⟨s, a, b⟩ := d i P h
  exact ⟨s, a, fun Q q => ⟨i, e, b Q q⟩⟩
theorem exi2 {V S : Type} {r : Option Value} {p : Int32 → (V → S → Prop) → Prop} (d : ∀ i : Int32, dt2 (p i)) : dt2 (fun Q => ∃ i : Int32, r = some (.int i) ∧ p i Q) := fun P h => by
  obtain ⟨i, e, h⟩ := h
  obtain ⟨v, s, a, b⟩ := d i P h
  exact ⟨v, s, a, fun Q q => ⟨i, e, b Q q⟩⟩
theorem exn2 {V S : Type} {p : Nat → (V → S → Prop) → Prop} (d : ∀ i : Nat, dt2 (p i)) : dt2 (fun Q => ∃ i : Nat, p i Q) := fun P h => by
  obtain ⟨i, h⟩ := h
  obtain ⟨v, s, a, b⟩ := d i P h
  exact ⟨v, s, a, fun Q q => ⟨i, b Q q⟩⟩
theorem exn1 {S : Type} {p : Nat → (S → Prop) → Prop} (d : ∀ i : Nat, dt1 (p i)) : dt1 (fun Q => ∃ i : Nat, p i Q) := fun P h => by
  obtain ⟨i, h⟩ := h
  obtain ⟨s, a, b⟩ := d i P h
  exact ⟨s, a, fun Q q => ⟨i, b Q q⟩⟩
theorem al2 {V S U : Type} {e : U} {p : U → (V → S → Prop) → Prop} (d : ∀ u : U, dt2 (p u)) : dt2 (fun Q => ∀ u : U, u = e → p u Q) := fun P h => by
  obtain ⟨v, s, a, b⟩ := d e P (h e rfl)
  exact ⟨v, s, a, fun Q q u hu => by subst hu; exact b Q q⟩
theorem al1 {S U : Type} {e : U} {p : U → (S → Prop) → Prop} (d : ∀ u : U, dt1 (p u)) : dt1 (fun Q => ∀ u : U, u = e → p u Q) := fun P h => by
  obtain ⟨s, a, b⟩ := d e P (h e rfl)
  exact ⟨s, a, fun Q q u hu => by subst hu; exact b Q q⟩
theorem b22 {V S W T : Type} {m : (W → T → Prop) → Prop} {k : W → T → (V → S → Prop) → Prop} (d : dt2 m) (e : ∀ w t, dt2 (k w t)) : dt2 (fun Q => m (fun w t => k w t Q)) := fun P h => by
  obtain ⟨w, t, a, b⟩ := d _ h
  obtain ⟨v, s, a2, b2⟩ := e w t P a
  exact ⟨v, s, a2, fun Q q => b _ (b2 Q q)⟩
theorem b21 {S W T : Type} {m : (W → T → Prop) → Prop} {k : W → T → (S → Prop) → Prop} (d : dt2 m) (e : ∀ w t, dt1 (k w t)) : dt1 (fun Q => m (fun w t => k w t Q)) := fun P h => by
  obtain ⟨w, t, a, b⟩ := d _ h
  obtain ⟨s, a2, b2⟩ := e w t P a
  exact ⟨s, a2, fun Q q => b _ (b2 Q q)⟩
theorem b12 {V S T : Type} {m : (T → Prop) → Prop} {k : T → (V → S → Prop) → Prop} (d : dt1 m) (e : ∀ t, dt2 (k t)) : dt2 (fun Q => m (fun t => k t Q)) := fun P h => by
  obtain ⟨t, a, b⟩ := d _ h
  obtain ⟨v, s, a2, b2⟩ := e t P a
  exact ⟨v, s, a2, fun Q q => b _ (b2 Q q)⟩
theorem b11 {S T : Type} {m : (T → Prop) → Prop} {k : T → (S → Prop) → Prop} (d : dt1 m) (e : ∀ t, dt1 (k t)) : dt1 (fun Q => m (fun t => k t Q)) := fun P h => by
  obtain ⟨t, a, b⟩ := d _ h
  obtain ⟨s, a2, b2⟩ := e t P a
  exact ⟨s, a2, fun Q q => b _ (b2 Q q)⟩
theorem sw_iff {x k : Int32} {n : Int} (h : k.toInt = n) : (x = k) ↔ x.toInt = n := ⟨fun e => by rw [e, h], fun e => Int32.toInt_inj.mp (e.trans h.symm)⟩
theorem dr_ch (k : Nat) (S : r_S) (x : Int32) : dt2 (fun Q => r_ch k S x Q) := gd2 lf2
theorem dr_ln (k : Nat) (S : r_S) : dt2 (fun Q => r_ln k S Q) := lf2
theorem dm_J6_compareUnsigned_7cf53 {L : c_L} {S : c_S} {x0 x1 : Int32} : dt2 (fun Q => km_J6_compareUnsigned_7cf53 L S x0 x1 Q) := lf2
theorem dm_J7_fill_53178 {L : c_L} {S : c_S} {f i : Nat} {x1 : Int32} : dt1 (fun Q => km_J7_fill_53178 L S f i x1 Q) := gd1 lf1
theorem dm_J7_fill_031fb {L : c_L} {S : c_S} {f i : Nat} {x1 : Int32} : dt1 (fun Q => km_J7_fill_031fb L S f i x1 Q) := gd1 lf1
