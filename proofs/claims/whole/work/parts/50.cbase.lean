/-! The class's own state: int, long and changing reference fields by the field and the number of the object, rows by the field that holds them and the number of its object; where objects and rows lie (c_L: of objects by class and number, of rows by field and number, and back, and the rows' lengths); and the pool that it makes over another. -/
def c_S : Type := (Nat → Nat → Int32) × (Nat → Nat → Int64) × (Nat → Nat → Nat → Int32) × (Nat → Nat → Option Nat)
def c_I (K : c_S) (f i : Nat) : Int32 := K.1 f i
def c_J (K : c_S) (f i : Nat) : Int64 := K.2.1 f i
def c_A (K : c_S) (f i : Nat) : Nat → Int32 := K.2.2.1 f i
def c_P (K : c_S) (f i : Nat) : Option Nat := K.2.2.2 f i
def cs_I (K : c_S) (f i : Nat) (v : Int32) : c_S := (qs_2 K.1 f i v, K.2)
def cs_J (K : c_S) (f i : Nat) (v : Int64) : c_S := (K.1, qs_2 K.2.1 f i v, K.2.2)
def cs_G (K : c_S) (f i : Nat) (g : Nat → Int32) : c_S := (K.1, K.2.1, qs_2 K.2.2.1 f i g, K.2.2.2)
def cs_A (K : c_S) (f i j : Nat) (v : Int32) : c_S := cs_G K f i (qs_1 (c_A K f i) j v)
def cs_P (K : c_S) (f i : Nat) (v : Option Nat) : c_S := (K.1, K.2.1, K.2.2.1, qs_2 K.2.2.2 f i v)
def c_L : Type := (Nat → Nat → Nat) × (Nat → Nat → Nat) × (Nat → Option (Nat × Nat)) × (Nat → Option (Nat × Nat)) × (Nat → Nat → Nat)
def c_ob (L : c_L) (c i : Nat) : Nat := L.1 c i
def c_ar (L : c_L) (f i : Nat) : Nat := L.2.1 f i
def c_ow (L : c_L) (a : Nat) : Option (Nat × Nat) := L.2.2.1 a
def c_aw (L : c_L) (a : Nat) : Option (Nat × Nat) := L.2.2.2.1 a
def c_ln (L : c_L) (f i : Nat) : Nat := L.2.2.2.2 f i
/-- it has been made -/
def c_mk (L : c_L) (c i : Nat) : Prop := c_ow L (c_ob L c i) = some (c, i)
def c_ma (L : c_L) (f i : Nat) : Prop := c_aw L (c_ar L f i) = some (f, i)
/-- the reference fields that change, and what they lead to -/
def c_dy (f : Nat) : Bool := match f with
  | 0 => true | 1 => true | 2 => true | 3 => true | 209 => true | 211 => true | _ => false
def c_tg (L : c_L) (f : Nat) : Nat → Nat := match f with
  | 0 => c_ob L 6 | 1 => c_ob L 5 | 2 => c_ob L 7 | 3 => c_ar L 1411 | _ => c_ob L 5
def c_E (L : c_L) (K : c_S) (S : q_S) : q_S := (S.1, (fun f a => match c_ow L a with | some q => (if f / 200 = q.1 then K.1 f q.2 else S.2.1 f a) | none => S.2.1 f a), (fun f a => match c_ow L a with | some q => (if f / 200 = q.1 then K.2.1 f q.2 else S.2.2.1 f a) | none => S.2.2.1 f a), (fun f a => if c_dy f = true then (match c_ow L a with | some q => (if f / 200 = q.1 then (K.2.2.2 f q.2).map (c_tg L f) else S.2.2.2.1 f a) | none => S.2.2.2.1 f a) else S.2.2.2.1 f a), S.2.2.2.2.1, (fun a j => match c_aw L a with | some q => K.2.2.1 q.1 q.2 j | none => S.2.2.2.2.2.1 a j), S.2.2.2.2.2.2)
/-- the places are told apart -/
def c_WF (L : c_L) : Prop := (∀ (a : Nat) (q : Nat × Nat), c_ow L a = some q → a = c_ob L q.1 q.2) ∧ ∀ (a : Nat) (q : Nat × Nat), c_aw L a = some q → a = c_ar L q.1 q.2
theorem c_eK {L : c_L} {K : c_S} {S : q_S} {a : Nat} : q_K (c_E L K S) a = q_K S a := rfl
theorem c_eP {L : c_L} {K : c_S} {S : q_S} {f a : Nat} (h : c_dy f = false) : q_P (c_E L K S) f a = q_P S f a := if_neg (by rw [h]; decide)
theorem c_eN {L : c_L} {K : c_S} {S : q_S} {a : Nat} : q_N (c_E L K S) a = q_N S a := rfl
theorem c_eB {L : c_L} {K : c_S} {S : q_S} {a i : Nat} : q_B (c_E L K S) a i = q_B S a i := rfl
theorem c_eC {L : c_L} {K : c_S} {S : q_S} {a i : Nat} : q_C (c_E L K S) a i = q_C S a i := rfl
theorem c_eBs {L : c_L} {K : c_S} {S : q_S} {a i : Nat} {v : Int64} : qs_B (c_E L K S) a i v = c_E L K (qs_B S a i v) := rfl
theorem c_eCs {L : c_L} {K : c_S} {S : q_S} {a i : Nat} {v : Option Nat} : qs_C (c_E L K S) a i v = c_E L K (qs_C S a i v) := rfl
theorem c_eI {L : c_L} {K : c_S} {S : q_S} {f c i : Nat} (h : c_mk L c i) (hf : f / 200 = c) : q_I (c_E L K S) f (c_ob L c i) = c_I K f i := by
  show (match c_ow L (c_ob L c i) with | some q => (if f / 200 = q.1 then K.1 f q.2 else S.2.1 f (c_ob L c i)) | none => S.2.1 f (c_ob L c i)) = K.1 f i
  rw [h]
  exact if_pos hf
theorem c_eJ {L : c_L} {K : c_S} {S : q_S} {f c i : Nat} (h : c_mk L c i) (hf : f / 200 = c) : q_J (c_E L K S) f (c_ob L c i) = c_J K f i := by
  show (match c_ow L (c_ob L c i) with | some q => (if f / 200 = q.1 then K.2.1 f q.2 else S.2.2.1 f (c_ob L c i)) | none => S.2.2.1 f (c_ob L c i)) = K.2.1 f i
  rw [h]
  exact if_pos hf
theorem c_eA {L : c_L} {K : c_S} {S : q_S} {f i j : Nat} (h : c_ma L f i) : q_A (c_E L K S) (c_ar L f i) j = c_A K f i j := by
  show (match c_aw L (c_ar L f i) with | some q => K.2.2.1 q.1 q.2 j | none => S.2.2.2.2.2.1 (c_ar L f i) j) = K.2.2.1 f i j
  rw [h]
theorem c_eI2 {α : Type} {L : c_L} {G : Nat → Nat → α} {g : Nat → Nat → α} {f c i : Nat} {v : α} (w : c_WF L) (h : c_mk L c i) (hf : f / 200 = c) : qs_2 (fun f a => match c_ow L a with | some q => (if f / 200 = q.1 then G f q.2 else g f a) | none => g f a) f (c_ob L c i) v = (fun f' a => match c_ow L a with | some q => (if f' / 200 = q.1 then qs_2 G f i v f' q.2 else g f' a) | none => g f' a) := by
  refine funext fun f' => funext fun a => ?_
  show (if f' = f ∧ a = c_ob L c i then v else match c_ow L a with | some q => (if f' / 200 = q.1 then G f' q.2 else g f' a) | none => g f' a) = _
  cases ho : c_ow L a with
  | none =>
    have n : a ≠ c_ob L c i := fun z => by rw [z, h] at ho; cases ho
    rw [if_neg (fun z => n z.2)]
  | some q =>
    obtain ⟨c', i'⟩ := q
    have ha : a = c_ob L c' i' := w.1 a _ ho
    show _ = (if f' / 200 = c' then (if f' = f ∧ i' = i then v else G f' i') else g f' a)
    by_cases e : f' = f ∧ a = c_ob L c i
    · have h2 : some (c', i') = some (c, i) := by rw [← ho, e.2]; exact h
      injection h2 with h2; injection h2 with h3 h4
      rw [if_pos e, if_pos (by rw [e.1, hf, h3]), if_pos ⟨e.1, h4⟩]
    · rw [if_neg e]
      show (if f' / 200 = c' then G f' i' else g f' a) = _
      by_cases e2 : f' / 200 = c'
      · rw [if_pos e2, if_pos e2, if_neg]
        intro z
        exact e ⟨z.1, by rw [ha, z.2, ← e2, z.1, hf]⟩
      · rw [if_neg e2, if_neg e2]
theorem c_eIs {L : c_L} {K : c_S} {S : q_S} {f c i : Nat} {v : Int32} (w : c_WF L) (h : c_mk L c i) (hf : f / 200 = c) : qs_I (c_E L K S) f (c_ob L c i) v = c_E L (cs_I K f i v) S := Prod.ext rfl (Prod.ext (c_eI2 w h hf) rfl)
theorem c_eJs {L : c_L} {K : c_S} {S : q_S} {f c i : Nat} {v : Int64} (w : c_WF L) (h : c_mk L c i) (hf : f / 200 = c) : qs_J (c_E L K S) f (c_ob L c i) v = c_E L (cs_J K f i v) S := Prod.ext rfl (Prod.ext rfl (Prod.ext (c_eI2 w h hf) rfl))
theorem c_eGs {L : c_L} {K : c_S} {S : q_S} {f i : Nat} {g : Nat → Int32} (w : c_WF L) (h : c_ma L f i) : qs_G (c_E L K S) (c_ar L f i) g = c_E L (cs_G K f i g) S := by
  refine Prod.ext rfl (Prod.ext rfl (Prod.ext rfl (Prod.ext rfl (Prod.ext rfl (Prod.ext (funext fun a => funext fun j => ?_) rfl)))))
  show (if a = c_ar L f i then g j else match c_aw L a with | some q => K.2.2.1 q.1 q.2 j | none => S.2.2.2.2.2.1 a j) = (match c_aw L a with | some q => (if q.1 = f ∧ q.2 = i then g else K.2.2.1 q.1 q.2) j | none => S.2.2.2.2.2.1 a j)
  cases ho : c_aw L a with
  | none =>
    have n : a ≠ c_ar L f i := fun z => by rw [z, h] at ho; cases ho
    rw [if_neg n]
  | some q =>
    obtain ⟨f', i'⟩ := q
    have ha : a = c_ar L f' i' := w.2 a _ ho
    show _ = (if f' = f ∧ i' = i then g else K.2.2.1 f' i') j
    by_cases e : a = c_ar L f i
    · have h2 : some (f', i') = some (f, i) := by rw [← ho, e]; exact h
      injection h2 with h2; injection h2 with h3 h4
      rw [if_pos e, if_pos ⟨h3, h4⟩]
    · rw [if_neg e, if_neg]
      intro z
      exact e (by rw [ha, z.1, z.2])
theorem c_eD {L : c_L} {K : c_S} {S : q_S} {f c i : Nat} (h : c_mk L c i) (hf : f / 200 = c) (hd : c_dy f = true) : q_P (c_E L K S) f (c_ob L c i) = (c_P K f i).map (c_tg L f) := by
  show (if c_dy f = true then (match c_ow L (c_ob L c i) with | some q => (if f / 200 = q.1 then (K.2.2.2 f q.2).map (c_tg L f) else S.2.2.2.1 f (c_ob L c i)) | none => S.2.2.2.1 f (c_ob L c i)) else S.2.2.2.1 f (c_ob L c i)) = (K.2.2.2 f i).map (c_tg L f)
  rw [if_pos hd, h]
  exact if_pos hf
theorem c_eDs {L : c_L} {K : c_S} {S : q_S} {f c i : Nat} {v : Option Nat} (w : c_WF L) (h : c_mk L c i) (hf : f / 200 = c) (hd : c_dy f = true) : qs_P (c_E L K S) f (c_ob L c i) (v.map (c_tg L f)) = c_E L (cs_P K f i v) S := by
  refine Prod.ext rfl (Prod.ext rfl (Prod.ext rfl (Prod.ext (funext fun f' => funext fun a => ?_) rfl)))
  show (if f' = f ∧ a = c_ob L c i then v.map (c_tg L f) else if c_dy f' = true then (match c_ow L a with | some q => (if f' / 200 = q.1 then (K.2.2.2 f' q.2).map (c_tg L f') else S.2.2.2.1 f' a) | none => S.2.2.2.1 f' a) else S.2.2.2.1 f' a) = (if c_dy f' = true then (match c_ow L a with | some q => (if f' / 200 = q.1 then (if f' = f ∧ q.2 = i then v else K.2.2.2 f' q.2).map (c_tg L f') else S.2.2.2.1 f' a) | none => S.2.2.2.1 f' a) else S.2.2.2.1 f' a)
  by_cases e1 : c_dy f' = true
  · rw [if_pos e1, if_pos e1]
    cases ho : c_ow L a with
    | none =>
      have n : a ≠ c_ob L c i := fun z => by rw [z, h] at ho; cases ho
      rw [if_neg (fun z => n z.2)]
    | some q =>
      obtain ⟨c', i'⟩ := q
      have ha : a = c_ob L c' i' := w.1 a _ ho
      show (if f' = f ∧ a = c_ob L c i then v.map (c_tg L f) else if f' / 200 = c' then (K.2.2.2 f' i').map (c_tg L f') else S.2.2.2.1 f' a) = (if f' / 200 = c' then (if f' = f ∧ i' = i then v else K.2.2.2 f' i').map (c_tg L f') else S.2.2.2.1 f' a)
      by_cases e : f' = f ∧ a = c_ob L c i
      · have h2 : some (c', i') = some (c, i) := by rw [← ho, e.2]; exact h
        injection h2 with h2; injection h2 with h3 h4
        rw [if_pos e, if_pos (by rw [e.1, hf, h3]), if_pos ⟨e.1, h4⟩, e.1]
      · rw [if_neg e]
        by_cases e2 : f' / 200 = c'
        · rw [if_pos e2, if_pos e2, if_neg]
          intro z
          exact e ⟨z.1, by rw [ha, z.2, ← e2, z.1, hf]⟩
        · rw [if_neg e2, if_neg e2]
  · rw [if_neg e1, if_neg e1, if_neg]
    intro z
    exact e1 (by rw [z.1]; exact hd)
theorem c_eD0 {L : c_L} {K : c_S} {S : q_S} {i : Nat} (h : c_mk L 0 i) : q_P (c_E L K S) 0 (c_ob L 0 i) = (c_P K 0 i).map (c_ob L 6) := c_eD h rfl rfl
theorem c_eD1 {L : c_L} {K : c_S} {S : q_S} {i : Nat} (h : c_mk L 0 i) : q_P (c_E L K S) 1 (c_ob L 0 i) = (c_P K 1 i).map (c_ob L 5) := c_eD h rfl rfl
theorem c_eD2 {L : c_L} {K : c_S} {S : q_S} {i : Nat} (h : c_mk L 0 i) : q_P (c_E L K S) 2 (c_ob L 0 i) = (c_P K 2 i).map (c_ob L 7) := c_eD h rfl rfl
theorem c_eD3 {L : c_L} {K : c_S} {S : q_S} {i : Nat} (h : c_mk L 0 i) : q_P (c_E L K S) 3 (c_ob L 0 i) = (c_P K 3 i).map (c_ar L 1411) := c_eD h rfl rfl
theorem c_eD209 {L : c_L} {K : c_S} {S : q_S} {i : Nat} (h : c_mk L 1 i) : q_P (c_E L K S) 209 (c_ob L 1 i) = (c_P K 209 i).map (c_ob L 5) := c_eD h rfl rfl
theorem c_eD211 {L : c_L} {K : c_S} {S : q_S} {i : Nat} (h : c_mk L 1 i) : q_P (c_E L K S) 211 (c_ob L 1 i) = (c_P K 211 i).map (c_ob L 5) := c_eD h rfl rfl
theorem c_eDs0 {L : c_L} {K : c_S} {S : q_S} {i : Nat} {v : Option Nat} (w : c_WF L) (h : c_mk L 0 i) : qs_P (c_E L K S) 0 (c_ob L 0 i) (v.map (c_ob L 6)) = c_E L (cs_P K 0 i v) S := c_eDs w h rfl rfl
theorem c_eDs1 {L : c_L} {K : c_S} {S : q_S} {i : Nat} {v : Option Nat} (w : c_WF L) (h : c_mk L 0 i) : qs_P (c_E L K S) 1 (c_ob L 0 i) (v.map (c_ob L 5)) = c_E L (cs_P K 1 i v) S := c_eDs w h rfl rfl
theorem c_eDs2 {L : c_L} {K : c_S} {S : q_S} {i : Nat} {v : Option Nat} (w : c_WF L) (h : c_mk L 0 i) : qs_P (c_E L K S) 2 (c_ob L 0 i) (v.map (c_ob L 7)) = c_E L (cs_P K 2 i v) S := c_eDs w h rfl rfl
theorem c_eDs3 {L : c_L} {K : c_S} {S : q_S} {i j : Nat} (w : c_WF L) (h : c_mk L 0 i) : qs_P (c_E L K S) 3 (c_ob L 0 i) (some (c_ar L 1411 j)) = c_E L (cs_P K 3 i (some j)) S := c_eDs (v := some j) w h rfl rfl
theorem c_eDs209 {L : c_L} {K : c_S} {S : q_S} {i : Nat} {v : Option Nat} (w : c_WF L) (h : c_mk L 1 i) : qs_P (c_E L K S) 209 (c_ob L 1 i) (v.map (c_ob L 5)) = c_E L (cs_P K 209 i v) S := c_eDs w h rfl rfl
theorem c_eDs211 {L : c_L} {K : c_S} {S : q_S} {i : Nat} {v : Option Nat} (w : c_WF L) (h : c_mk L 1 i) : qs_P (c_E L K S) 211 (c_ob L 1 i) (v.map (c_ob L 5)) = c_E L (cs_P K 211 i v) S := c_eDs w h rfl rfl
theorem c_eDs209n {L : c_L} {K : c_S} {S : q_S} {i : Nat} (w : c_WF L) (h : c_mk L 1 i) : qs_P (c_E L K S) 209 (c_ob L 1 i) none = c_E L (cs_P K 209 i none) S := c_eDs (v := none) w h rfl rfl
theorem c_eDs211n {L : c_L} {K : c_S} {S : q_S} {i : Nat} (w : c_WF L) (h : c_mk L 1 i) : qs_P (c_E L K S) 211 (c_ob L 1 i) none = c_E L (cs_P K 211 i none) S := c_eDs (v := none) w h rfl rfl
theorem c_AG {S : q_S} {a i : Nat} {v : Int32} : qs_A S a i v = qs_G S a (qs_1 (q_A S a) i v) := by
  refine Prod.ext rfl (Prod.ext rfl (Prod.ext rfl (Prod.ext rfl (Prod.ext rfl (Prod.ext (funext fun a' => funext fun j => ?_) rfl)))))
  show (if a' = a ∧ j = i then v else S.2.2.2.2.2.1 a' j) = (if a' = a then (if j = i then v else S.2.2.2.2.2.1 a j) else S.2.2.2.2.2.1 a' j)
  by_cases h1 : a' = a
  · by_cases h2 : j = i
    · rw [if_pos ⟨h1, h2⟩, if_pos h1, if_pos h2]
    · rw [if_neg (fun z => h2 z.2), if_pos h1, if_neg h2, h1]
  · rw [if_neg (fun z => h1 z.1), if_neg h1]
theorem c_eAf {L : c_L} {K : c_S} {S : q_S} {f i : Nat} (h : c_ma L f i) : q_A (c_E L K S) (c_ar L f i) = c_A K f i := funext fun _ => c_eA h
theorem c_eAs {L : c_L} {K : c_S} {S : q_S} {f i j : Nat} {v : Int32} (w : c_WF L) (h : c_ma L f i) : qs_A (c_E L K S) (c_ar L f i) j v = c_E L (cs_A K f i j v) S := by
  rw [c_AG, c_eAf h, c_eGs w h]
  rfl
/-- the class's state that a pool holds -/
def c_of (L : c_L) (S : q_S) : c_S := (fun f i => q_I S f (c_ob L (f / 200) i), fun f i => q_J S f (c_ob L (f / 200) i), fun f i j => q_A S (c_ar L f i) j, fun _ _ => none)
theorem c_id {L : c_L} (w : c_WF L) (S : q_S) (hd : ∀ f i : Nat, c_dy f = true → c_mk L (f / 200) i → q_P S f (c_ob L (f / 200) i) = none) : c_E L (c_of L S) S = S := by
  refine Prod.ext rfl (Prod.ext (funext fun f => funext fun a => ?_) (Prod.ext (funext fun f => funext fun a => ?_) (Prod.ext (funext fun f => funext fun a => ?_) (Prod.ext rfl (Prod.ext (funext fun a => funext fun j => ?_) rfl)))))
  · show (match c_ow L a with | some q => (if f / 200 = q.1 then S.2.1 f (c_ob L (f / 200) q.2) else S.2.1 f a) | none => S.2.1 f a) = S.2.1 f a
    cases ho : c_ow L a with
    | none => rfl
    | some q =>
      show (if f / 200 = q.1 then S.2.1 f (c_ob L (f / 200) q.2) else S.2.1 f a) = _
      by_cases e : f / 200 = q.1
      · rw [if_pos e, e, ← w.1 a q ho]
      · rw [if_neg e]
  · show (match c_ow L a with | some q => (if f / 200 = q.1 then S.2.2.1 f (c_ob L (f / 200) q.2) else S.2.2.1 f a) | none => S.2.2.1 f a) = S.2.2.1 f a
    cases ho : c_ow L a with
    | none => rfl
    | some q =>
      show (if f / 200 = q.1 then S.2.2.1 f (c_ob L (f / 200) q.2) else S.2.2.1 f a) = _
      by_cases e : f / 200 = q.1
      · rw [if_pos e, e, ← w.1 a q ho]
      · rw [if_neg e]
  · show (if c_dy f = true then (match c_ow L a with | some q => (if f / 200 = q.1 then none else S.2.2.2.1 f a) | none => S.2.2.2.1 f a) else S.2.2.2.1 f a) = S.2.2.2.1 f a
    by_cases e1 : c_dy f = true
    · rw [if_pos e1]
      cases ho : c_ow L a with
      | none => rfl
      | some q =>
        show (if f / 200 = q.1 then none else S.2.2.2.1 f a) = _
        by_cases e : f / 200 = q.1
        · have ha := w.1 a q ho
          have m : c_mk L (f / 200) q.2 := by
            show c_ow L (c_ob L (f / 200) q.2) = some (f / 200, q.2)
            rw [e, ← ha, ho]
          rw [if_pos e, ha, ← e]
          exact (hd f q.2 e1 m).symm
        · rw [if_neg e]
    · rw [if_neg e1]
  · show (match c_aw L a with | some q => S.2.2.2.2.2.1 (c_ar L q.1 q.2) j | none => S.2.2.2.2.2.1 a j) = S.2.2.2.2.2.1 a j
    cases ho : c_aw L a with
    | none => rfl
    | some q =>
      show S.2.2.2.2.2.1 (c_ar L q.1 q.2) j = _
      rw [← w.2 a q ho]
/-- what a state reads behind a change -/
theorem c_II {K : c_S} {f i f' i' : Nat} {v : Int32} : c_I (cs_I K f i v) f' i' = if f' = f ∧ i' = i then v else c_I K f' i' := rfl
theorem c_IJ {K : c_S} {f i f' i' : Nat} {v : Int64} : c_I (cs_J K f i v) f' i' = c_I K f' i' := rfl
theorem c_IG {K : c_S} {f i f' i' : Nat} {g : Nat → Int32} : c_I (cs_G K f i g) f' i' = c_I K f' i' := rfl
theorem c_IA {K : c_S} {f i j f' i' : Nat} {v : Int32} : c_I (cs_A K f i j v) f' i' = c_I K f' i' := rfl
theorem c_JI {K : c_S} {f i f' i' : Nat} {v : Int32} : c_J (cs_I K f i v) f' i' = c_J K f' i' := rfl
theorem c_JJ {K : c_S} {f i f' i' : Nat} {v : Int64} : c_J (cs_J K f i v) f' i' = if f' = f ∧ i' = i then v else c_J K f' i' := rfl
theorem c_JG {K : c_S} {f i f' i' : Nat} {g : Nat → Int32} : c_J (cs_G K f i g) f' i' = c_J K f' i' := rfl
theorem c_JA {K : c_S} {f i j f' i' : Nat} {v : Int32} : c_J (cs_A K f i j v) f' i' = c_J K f' i' := rfl
theorem c_AI {K : c_S} {f i f' i' : Nat} {v : Int32} : c_A (cs_I K f i v) f' i' = c_A K f' i' := rfl
theorem c_AJ {K : c_S} {f i f' i' : Nat} {v : Int64} : c_A (cs_J K f i v) f' i' = c_A K f' i' := rfl
theorem c_AGr {K : c_S} {f i f' i' j' : Nat} {g : Nat → Int32} : c_A (cs_G K f i g) f' i' j' = if f' = f ∧ i' = i then g j' else c_A K f' i' j' := by
  show (if f' = f ∧ i' = i then g else K.2.2.1 f' i') j' = _
  by_cases h : f' = f ∧ i' = i
  · rw [if_pos h, if_pos h]
  · rw [if_neg h, if_neg h]; rfl
theorem c_AA {K : c_S} {f i j f' i' j' : Nat} {v : Int32} : c_A (cs_A K f i j v) f' i' j' = if f' = f ∧ i' = i ∧ j' = j then v else c_A K f' i' j' := by
  show c_A (cs_G K f i (qs_1 (c_A K f i) j v)) f' i' j' = _
  rw [c_AGr]
  by_cases h : f' = f ∧ i' = i
  · rw [if_pos h]
    show (if j' = j then v else c_A K f i j') = _
    by_cases h2 : j' = j
    · rw [if_pos h2, if_pos ⟨h.1, h.2, h2⟩]
    · rw [if_neg h2, if_neg (fun z => h2 z.2.2), h.1, h.2]
  · rw [if_neg h, if_neg (fun z => h ⟨z.1, z.2.1⟩)]
theorem r_II {R : r_S} {f f' : Nat} {v : Int32} : r_I (rs_I R f v) f' = if f' = f then v else r_I R f' := rfl
theorem r_IA {R : r_S} {f i f' : Nat} {v : Int32} : r_I (rs_A R f i v) f' = r_I R f' := rfl
theorem r_AI {R : r_S} {f f' i' : Nat} {v : Int32} : r_A (rs_I R f v) f' i' = r_A R f' i' := rfl
theorem r_AA {R : r_S} {f i f' i' : Nat} {v : Int32} : r_A (rs_A R f i v) f' i' = if f' = f ∧ i' = i then v else r_A R f' i' := rfl
theorem c_IP {K : c_S} {f i f' i' : Nat} {v : Option Nat} : c_I (cs_P K f i v) f' i' = c_I K f' i' := rfl
theorem c_JP {K : c_S} {f i f' i' : Nat} {v : Option Nat} : c_J (cs_P K f i v) f' i' = c_J K f' i' := rfl
theorem c_AP {K : c_S} {f i f' i' : Nat} {v : Option Nat} : c_A (cs_P K f i v) f' i' = c_A K f' i' := rfl
theorem c_PI {K : c_S} {f i f' i' : Nat} {v : Int32} : c_P (cs_I K f i v) f' i' = c_P K f' i' := rfl
theorem c_PJ {K : c_S} {f i f' i' : Nat} {v : Int64} : c_P (cs_J K f i v) f' i' = c_P K f' i' := rfl
theorem c_PG {K : c_S} {f i f' i' : Nat} {g : Nat → Int32} : c_P (cs_G K f i g) f' i' = c_P K f' i' := rfl
theorem c_PA {K : c_S} {f i j f' i' : Nat} {v : Int32} : c_P (cs_A K f i j v) f' i' = c_P K f' i' := rfl
theorem c_PP {K : c_S} {f i f' i' : Nat} {v : Option Nat} : c_P (cs_P K f i v) f' i' = if f' = f ∧ i' = i then v else c_P K f' i' := rfl
