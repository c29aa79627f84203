/-! what is made, how it hangs together -/
def c_kd (f : Nat) : Nat := if f = 2204 ∨ f = 1802 then 20 else if f = 1003 then 26 else if f = 1005 then 27 else if f = 1200 then 25 else if f = 1202 then 24 else if f = 1801 then 23 else 21
def c_e7 (L : c_L) (p j : Nat) : Option Nat := if j < 16 ∧ c_ow L (c_ob L 7 (16 * p + j)) = some (7, 16 * p + j) then some (16 * p + j) else none
def c_e10 (L : c_L) (p j : Nat) : Option Nat := if j < 48 ∧ c_ow L (c_ob L 10 (48 * p + j)) = some (10, 48 * p + j) then some (48 * p + j) else none
def c_e5 (L : c_L) (j : Nat) : Option Nat := if j < 16 ∧ c_ow L (c_ob L 5 j) = some (5, j) then some j else none
def c_e1 (L : c_L) (j : Nat) : Option Nat := if j < 24 ∧ c_ow L (c_ob L 1 j) = some (1, j) then some j else none
def c_qu (i : Nat) : Option Nat := if 16 ≤ i % 48 ∧ i % 48 < 24 then some i else none
theorem c_m7 {L : c_L} {p j : Nat} (hj : j < 16) (h : c_mk L 7 (16 * p + j)) : c_e7 L p j = some (16 * p + j) := if_pos ⟨hj, h⟩
theorem c_m10 {L : c_L} {p j : Nat} (hj : j < 48) (h : c_mk L 10 (48 * p + j)) : c_e10 L p j = some (48 * p + j) := if_pos ⟨hj, h⟩
theorem c_m5 {L : c_L} {j : Nat} (hj : j < 16) (h : c_mk L 5 j) : c_e5 L j = some j := if_pos ⟨hj, h⟩
theorem c_m1 {L : c_L} {j : Nat} (hj : j < 24) (h : c_mk L 1 j) : c_e1 L j = some j := if_pos ⟨hj, h⟩
/-- fields that lead to an object of the same number -/
def c_pf : List (Nat × Nat) := [(2200, 9), (2201, 6), (2202, 3), (2203, 0), (1800, 6), (1210, 2), (1002, 4)]
/-- fields that lead to rows -/
def c_af : List Nat := [2204, 1801, 1802, 1200, 1202, 1204, 1207, 1208, 400, 401, 1003, 1005, 1006, 1007, 801, 802, 804, 805, 1411, 1600, 213, 214]
/-- rows whose lengths are fixed -/
def c_fl : List (Nat × Nat) := [(2204, 20), (1801, 41), (1802, 4000), (1200, 16), (1202, 24), (1204, 24), (1207, 24), (1208, 24), (400, 900), (401, 384), (1003, 16), (1005, 48), (1006, 5), (1007, 5), (804, 6), (805, 6), (1411, 32)]
def c_G (L : c_L) (S : q_S) : Prop :=
  c_WF L ∧ (∀ c i : Nat, c_mk L c i → q_K S (c_ob L c i) = c + 1) ∧ (∀ f i : Nat, c_ma L f i → q_K S (c_ar L f i) = c_kd f ∧ q_N S (c_ar L f i) = c_ln L f i) ∧
  (∀ q ∈ c_pf, ∀ i : Nat, c_mk L (q.1 / 200) i → c_mk L q.2 i ∧ q_P S q.1 (c_ob L (q.1 / 200) i) = some (c_ob L q.2 i)) ∧
  (∀ f ∈ c_af, ∀ i : Nat, c_mk L (f / 200) i → c_ma L f i ∧ q_P S f (c_ob L (f / 200) i) = some (c_ar L f i)) ∧
  (∀ q ∈ c_fl, ∀ i : Nat, c_ma L q.1 i → c_ln L q.1 i = q.2) ∧
  (∀ i : Nat, c_mk L 1 i → c_mk L 8 (1000 + i) ∧ q_P S 204 (c_ob L 1 i) = some (c_ob L 8 (1000 + i))) ∧
  (∀ i : Nat, c_mk L 10 i → (∀ j : Nat, c_qu i = some j → c_mk L 8 j) ∧ q_P S 2009 (c_ob L 10 i) = (c_qu i).map (c_ob L 8)) ∧
  (∀ p j : Nat, c_mk L 5 p → q_C S (c_ar L 1003 p) j = (c_e7 L p j).map (c_ob L 7) ∧ q_C S (c_ar L 1005 p) j = (c_e10 L p j).map (c_ob L 10)) ∧
  (∀ j : Nat, q_C S (c_ar L 1200 0) j = (c_e5 L j).map (c_ob L 5) ∧ q_C S (c_ar L 1202 0) j = (c_e1 L j).map (c_ob L 1)) ∧
  (c_mk L 11 0 ∧ c_mk L 9 0 ∧ c_mk L 6 0 ∧ c_mk L 2 0 ∧ c_mk L 3 0 ∧ c_mk L 0 0) ∧
  (∀ c i : Nat, c = 11 ∨ c = 9 ∨ c = 6 ∨ c = 2 ∨ c = 3 ∨ c = 0 → c_mk L c i → i = 0) ∧ ∀ i : Nat, q_B S (c_ar L 1801 0) i = ck_keys i
theorem c_gw {L : c_L} {S : q_S} (g : c_G L S) : c_WF L := g.1
theorem c_gk {L : c_L} {K : c_S} {S : q_S} (g : c_G L S) {c i : Nat} (m : c_mk L c i) (k : Nat) (h : c + 1 = k) : q_K (c_E L K S) (c_ob L c i) = k := (g.2.1 c i m).trans h
theorem c_gr {L : c_L} {K : c_S} {S : q_S} (g : c_G L S) {f i : Nat} (m : c_ma L f i) (k : Nat) (h : c_kd f = k) : q_K (c_E L K S) (c_ar L f i) = k := (g.2.2.1 f i m).1.trans h
theorem c_gn {L : c_L} {K : c_S} {S : q_S} (g : c_G L S) {f i : Nat} (m : c_ma L f i) : q_N (c_E L K S) (c_ar L f i) = c_ln L f i := (g.2.2.1 f i m).2
theorem c_gO {L : c_L} {S : q_S} (g : c_G L S) (f c : Nat) {c0 i : Nat} (hc : f / 200 = c0) (h : (f, c) ∈ c_pf) (m : c_mk L c0 i) : c_mk L c i := (g.2.2.2.1 _ h i (by subst hc; exact m)).1
theorem c_gp {L : c_L} {K : c_S} {S : q_S} (g : c_G L S) (f c : Nat) {c0 i : Nat} (hd : c_dy f = false) (hc : f / 200 = c0) (h : (f, c) ∈ c_pf) (m : c_mk L c0 i) : q_P (c_E L K S) f (c_ob L c0 i) = some (c_ob L c i) := (c_eP hd).trans (by subst hc; exact (g.2.2.2.1 _ h i m).2)
theorem c_gA {L : c_L} {S : q_S} (g : c_G L S) (f : Nat) {c0 i : Nat} (hc : f / 200 = c0) (h : f ∈ c_af) (m : c_mk L c0 i) : c_ma L f i := (g.2.2.2.2.1 _ h i (by subst hc; exact m)).1
theorem c_ga {L : c_L} {K : c_S} {S : q_S} (g : c_G L S) (f : Nat) {c0 i : Nat} (hd : c_dy f = false) (hc : f / 200 = c0) (h : f ∈ c_af) (m : c_mk L c0 i) : q_P (c_E L K S) f (c_ob L c0 i) = some (c_ar L f i) := (c_eP hd).trans (by subst hc; exact (g.2.2.2.2.1 _ h i m).2)
theorem c_gl {L : c_L} {S : q_S} (g : c_G L S) (f n : Nat) {i : Nat} (h : (f, n) ∈ c_fl) (m : c_ma L f i) : c_ln L f i = n := g.2.2.2.2.2.1 _ h i m
theorem c_gN {L : c_L} {K : c_S} {S : q_S} (g : c_G L S) {f i : Nat} (m : c_ma L f i) (n : Nat) (h : (f, n) ∈ c_fl) : q_N (c_E L K S) (c_ar L f i) = n := (g.2.2.1 f i m).2.trans (c_gl g f n h m)
theorem c_gQ {L : c_L} {S : q_S} (g : c_G L S) {i : Nat} (m : c_mk L 1 i) : c_mk L 8 (1000 + i) := (g.2.2.2.2.2.2.1 i m).1
theorem c_gq {L : c_L} {K : c_S} {S : q_S} (g : c_G L S) {i : Nat} (m : c_mk L 1 i) : q_P (c_E L K S) 204 (c_ob L 1 i) = some (c_ob L 8 (1000 + i)) := (c_eP rfl).trans (g.2.2.2.2.2.2.1 i m).2
theorem c_gu {L : c_L} {K : c_S} {S : q_S} (g : c_G L S) {i : Nat} (m : c_mk L 10 i) : q_P (c_E L K S) 2009 (c_ob L 10 i) = (c_qu i).map (c_ob L 8) := (c_eP rfl).trans (g.2.2.2.2.2.2.2.1 i m).2
theorem c_gU {L : c_L} {S : q_S} (g : c_G L S) {i j : Nat} (m : c_mk L 10 i) (h : c_qu i = some j) : c_mk L 8 j := (g.2.2.2.2.2.2.2.1 i m).1 j h
theorem c_g7 {L : c_L} {K : c_S} {S : q_S} (g : c_G L S) {p j : Nat} (m : c_mk L 5 p) : q_C (c_E L K S) (c_ar L 1003 p) j = (c_e7 L p j).map (c_ob L 7) := (g.2.2.2.2.2.2.2.2.1 p j m).1
theorem c_g10 {L : c_L} {K : c_S} {S : q_S} (g : c_G L S) {p j : Nat} (m : c_mk L 5 p) : q_C (c_E L K S) (c_ar L 1005 p) j = (c_e10 L p j).map (c_ob L 10) := (g.2.2.2.2.2.2.2.2.1 p j m).2
theorem c_g0 {L : c_L} {S : q_S} (g : c_G L S) (c : Nat) (h : c = 11 ∨ c = 9 ∨ c = 6 ∨ c = 2 ∨ c = 3 ∨ c = 0) {i : Nat} (m : c_mk L c i) : i = 0 := g.2.2.2.2.2.2.2.2.2.2.2.1 c i h m
theorem c_g5 {L : c_L} {K : c_S} {S : q_S} (g : c_G L S) {i j : Nat} (m : c_mk L 6 i) : q_C (c_E L K S) (c_ar L 1200 i) j = (c_e5 L j).map (c_ob L 5) := by
  rw [c_g0 g 6 (by decide) m]
  exact (g.2.2.2.2.2.2.2.2.2.1 j).1
theorem c_g1 {L : c_L} {K : c_S} {S : q_S} (g : c_G L S) {i j : Nat} (m : c_mk L 6 i) : q_C (c_E L K S) (c_ar L 1202 i) j = (c_e1 L j).map (c_ob L 1) := by
  rw [c_g0 g 6 (by decide) m]
  exact (g.2.2.2.2.2.2.2.2.2.1 j).2
theorem c_gs {L : c_L} {S : q_S} (g : c_G L S) : c_mk L 11 0 ∧ c_mk L 9 0 ∧ c_mk L 6 0 ∧ c_mk L 2 0 ∧ c_mk L 3 0 ∧ c_mk L 0 0 := g.2.2.2.2.2.2.2.2.2.2.1
theorem c_gb {L : c_L} {K : c_S} {S : q_S} (g : c_G L S) {i j : Nat} (m : c_mk L 9 i) : q_B (c_E L K S) (c_ar L 1801 i) j = ck_keys j := by
  rw [c_g0 g 9 (by decide) m]
  exact g.2.2.2.2.2.2.2.2.2.2.2.2 j
theorem c_Gr {L : c_L} {m : Nat} {fo : Nat → Option Nat} {R : r_S} {S : q_S} (g : c_G L S) : c_G L (r_E m fo R S) := g
theorem c_xm {r : Option Nat} {g : Nat → Nat} {P : Nat → Prop} : (∃ a : Nat, r.map g = some a ∧ P a) ↔ ∃ i : Nat, r = some i ∧ P (g i) := by
  cases r with
  | none => exact ⟨fun ⟨_, h, _⟩ => (by cases h), fun ⟨_, h, _⟩ => (by cases h)⟩
  | some x => exact ⟨fun ⟨a, h, p⟩ => ⟨x, rfl, by injection h with h; rw [show g x = a from h]; exact p⟩, fun ⟨i, h, p⟩ => ⟨g x, rfl, by injection h with h; rw [h]; exact p⟩⟩
theorem c_xn {r : Option Nat} {g : Nat → Nat} : (r.map g = none) = (r = none) := by
  cases r with
  | none => exact propext ⟨fun _ => rfl, fun _ => rfl⟩
  | some x => exact propext ⟨fun h => (by cases h), fun h => (by cases h)⟩
theorem c_xs {L : c_L} {X : c_S} {S : q_S} {P : q_S → Prop} : (∀ T : q_S, T = c_E L X S → P T) ↔ ∀ T : c_S, T = X → P (c_E L T S) := ⟨fun h _ e => h _ (e ▸ rfl), fun h _ e => e ▸ h X rfl⟩
theorem c_xe {L : c_L} (w : c_WF L) {c : Nat} {r s : Option Nat} (hr : ∀ i : Nat, r = some i → c_mk L c i) (hs : ∀ i : Nat, s = some i → c_mk L c i) : (r.map (c_ob L c) = s.map (c_ob L c)) = (r = s) := by
  refine propext ⟨fun h => ?_, fun h => by rw [h]⟩
  cases r with
  | none => cases s with
    | none => rfl
    | some y => cases h
  | some x => cases s with
    | none => cases h
    | some y =>
      injection h with h
      have h1 := hr x rfl
      have h2 := hs y rfl
      unfold c_mk at h1 h2
      rw [show c_ob L c x = c_ob L c y from h, h2] at h1
      injection h1 with h1; injection h1 with _ h1
      rw [h1]
