def NWH (L : c_L) (S S' : q_S) (no na : Nat → Option (Nat × Nat)) (bo ba nl : Nat → Nat → Nat) : Prop :=
  (∀ a : Nat, q_K S a = 0 → q_K S' a ≠ 30) ∧
  (∀ (a : Nat) (q : Nat × Nat), no a = some q → a = bo q.1 q.2 ∧ q_K S a = 0 ∧ q_K S' a = q.1 + 1 ∧ (∀ f : Nat, q_I S' f a = 0 ∧ q_J S' f a = 0) ∧ ∀ f : Nat, c_dy f = true → q_P S' f a = none) ∧
  (∀ (a : Nat) (q : Nat × Nat), na a = some q → a = ba q.1 q.2 ∧ q_K S a = 0 ∧ q_K S' a = c_kd q.1 ∧ q_N S' a = nl q.1 q.2 ∧ ∀ j : Nat, q_A S' a j = 0) ∧
  (∀ f i : Nat, f ∈ c_af → (nO na ba f i ↔ nO no bo (f / 200) i)) ∧
  (∀ q ∈ c_pf, ∀ i : Nat, (nO no bo (q.1 / 200) i ↔ nO no bo q.2 i) ∧ (nO no bo (q.1 / 200) i → q_P S' q.1 (bo (q.1 / 200) i) = some (bo q.2 i))) ∧
  (∀ f ∈ c_af, ∀ i : Nat, nO no bo (f / 200) i → q_P S' f (bo (f / 200) i) = some (ba f i)) ∧
  (∀ q ∈ c_fl, ∀ i : Nat, nO na ba q.1 i → nl q.1 i = q.2) ∧
  (∀ i : Nat, (nO no bo 1 i ↔ nO no bo 8 (1000 + i)) ∧ (nO no bo 1 i → q_P S' 204 (bo 1 i) = some (bo 8 (1000 + i)))) ∧
  (∀ i : Nat, (∀ j : Nat, c_qu i = some j → (nO no bo 10 i ↔ nO no bo 8 j)) ∧ (nO no bo 10 i → q_P S' 2009 (bo 10 i) = (c_qu i).map (bo 8))) ∧
  (∀ c i : Nat, nO no bo c i → ¬ (c = 11 ∨ c = 9 ∨ c = 6 ∨ c = 2 ∨ c = 3 ∨ c = 0)) ∧
  (∀ p j : Nat, c_mk (c_xt L no na bo ba nl) 5 p → q_C S' (c_ar (c_xt L no na bo ba nl) 1003 p) j = (c_e7 (c_xt L no na bo ba nl) p j).map (c_ob (c_xt L no na bo ba nl) 7) ∧ q_C S' (c_ar (c_xt L no na bo ba nl) 1005 p) j = (c_e10 (c_xt L no na bo ba nl) p j).map (c_ob (c_xt L no na bo ba nl) 10)) ∧
  (∀ j : Nat, q_C S' (c_ar (c_xt L no na bo ba nl) 1200 0) j = (c_e5 (c_xt L no na bo ba nl) j).map (c_ob (c_xt L no na bo ba nl) 5) ∧ q_C S' (c_ar (c_xt L no na bo ba nl) 1202 0) j = (c_e1 (c_xt L no na bo ba nl) j).map (c_ob (c_xt L no na bo ba nl) 1))
theorem r_Efix {m : Nat} {fo : Nat → Option Nat} {R : r_S} {S : q_S} : r_E m fo R S = S ↔ (∀ f : Nat, q_I S f m = r_I R f) ∧ ∀ a f i : Nat, fo a = some f → q_A S a i = r_A R f i := by
  constructor
  · intro h
    refine ⟨fun f => ?_, fun a f i hf => ?_⟩
    · have e : (if m = m then R.1 f else S.2.1 f m) = S.2.1 f m := congrFun (congrFun (congrArg (fun T : q_S => T.2.1) h) f) m
      rw [if_pos rfl] at e
      exact e.symm
    · have e : (match fo a with | some f => R.2 f i | none => S.2.2.2.2.2.1 a i) = S.2.2.2.2.2.1 a i := congrFun (congrFun (congrArg (fun T : q_S => T.2.2.2.2.2.1) h) a) i
      rw [hf] at e
      exact e.symm
  · intro h
    refine Prod.ext rfl (Prod.ext (funext fun f => funext fun a => ?_) (Prod.ext rfl (Prod.ext rfl (Prod.ext rfl (Prod.ext (funext fun a => funext fun i => ?_) rfl)))))
    · show (if a = m then R.1 f else S.2.1 f a) = S.2.1 f a
      by_cases z : a = m
      · rw [if_pos z, z]; exact (h.1 f).symm
      · rw [if_neg z]
    · show (match fo a with | some f => R.2 f i | none => S.2.2.2.2.2.1 a i) = S.2.2.2.2.2.1 a i
      cases e : fo a with
      | none => rfl
      | some f => exact (h.2 a f i e).symm
theorem NEW_WD {e : EV} {L : c_L} {K : c_S} {S S' : q_S} {sa : Nat → Nat → Prop} {no na : Nat → Option (Nat × Nat)} {bo ba nl : Nat → Nat → Nat} (wd : WD e L S) (cs : c_E L K S = S) (ag : AGR S S' sa) (nh : NWH L S S' no na bo ba nl) (li : LI (c_xt L no na bo ba nl)) (rp : ∀ f i x : Nat, c_dy f = true → c_mk L (f / 200) i → c_P K f i = some x → c_tg (c_xt L no na bo ba nl) f x = c_tg L f x) : WD e (c_xt L no na bo ba nl) S' ∧ c_E (c_xt L no na bo ba nl) (k_xt K no na bo ba) S' = S' := by
  obtain ⟨h0, h1, h2, h3, h4, h5, h6, h7, h8, h12, h9, h10⟩ := nh
  obtain ⟨⟨g, w, s⟩, ot, eo, er⟩ := wd
  obtain ⟨g1, g2, g3, g4, g5, g6, g7, g8, g9, g10, g11, g12, g13⟩ := g
  have g := c_G
  -- old ones
  have fr : ∀ a : Nat, q_K S a ≠ 0 → no a = none ∧ na a = none := fun a ha => by
    constructor
    · cases e : no a with
      | none => rfl
      | some q => exact absurd (h1 a q e).2.1 ha
    · cases e : na a with
      | none => rfl
      | some q => exact absurd (h2 a q e).2.1 ha
  have kO : ∀ c i : Nat, c_mk L c i → q_K S (c_ob L c i) ≠ 0 := fun c i m => by rw [g2 c i m]; omega
  have kA : ∀ f i : Nat, c_ma L f i → q_K S (c_ar L f i) ≠ 0 := fun f i m => by rw [(g3 f i m).1]; exact c_kd0 f
  have mO : ∀ c i : Nat, c_mk L c i → ¬ nO no bo c i → c_mk (c_xt L no na bo ba nl) c i := fun c i m n => (xt_mko n (fr _ (kO c i m)).1).mpr m
  have mA : ∀ f i : Nat, c_ma L f i → ¬ nO na ba f i → c_ma (c_xt L no na bo ba nl) f i := fun f i m n => (xt_mao n (fr _ (kA f i m)).2).mpr m
  have cO : ∀ {c i : Nat}, c_mk (c_xt L no na bo ba nl) c i → nO no bo c i ∨ (¬ nO no bo c i ∧ c_mk L c i) := fun m => xt_mkc (fun a q h => (h1 a q h).1) m
  have cA : ∀ {c i : Nat}, c_ma (c_xt L no na bo ba nl) c i → nO na ba c i ∨ (¬ nO na ba c i ∧ c_ma L c i) := fun m => xt_mac (fun a q h => (h2 a q h).1) m
  have single : ∀ c i : Nat, c = 11 ∨ c = 9 ∨ c = 6 ∨ c = 2 ∨ c = 3 ∨ c = 0 → ¬ nO no bo c i := fun c i hc n => h12 c i n hc
  have wf : c_WF (c_xt L no na bo ba nl) := by
    constructor
    · intro a q h
      have h : (match no a with | some q => some q | none => (match c_ow L a with | some q => if no (bo q.1 q.2) = some q then none else some q | none => none)) = some q := h
      cases e : no a with
      | some q' =>
        rw [e] at h
        have h : some q' = some q := h
        injection h with h
        subst h
        have z := (h1 a q' e).1
        rw [xt_ob (by unfold nO; rw [← z]; exact e)]
        exact z
      | none =>
        rw [e] at h
        have h : (match c_ow L a with | some q => if no (bo q.1 q.2) = some q then none else some q | none => none) = some q := h
        cases e2 : c_ow L a with
        | none => rw [e2] at h; cases h
        | some q' =>
          rw [e2] at h
          have h : (if no (bo q'.1 q'.2) = some q' then none else some q') = some q := h
          by_cases z : no (bo q'.1 q'.2) = some q'
          · rw [if_pos z] at h; cases h
          · rw [if_neg z] at h
            injection h with h
            subst h
            rw [xt_obn z]
            exact g1.1 a q' e2
    · intro a q h
      have h : (match na a with | some q => some q | none => (match c_aw L a with | some q => if na (ba q.1 q.2) = some q then none else some q | none => none)) = some q := h
      cases e : na a with
      | some q' =>
        rw [e] at h
        have h : some q' = some q := h
        injection h with h
        subst h
        have z := (h2 a q' e).1
        rw [xt_ar (by unfold nO; rw [← z]; exact e)]
        exact z
      | none =>
        rw [e] at h
        have h : (match c_aw L a with | some q => if na (ba q.1 q.2) = some q then none else some q | none => none) = some q := h
        cases e2 : c_aw L a with
        | none => rw [e2] at h; cases h
        | some q' =>
          rw [e2] at h
          have h : (if na (ba q'.1 q'.2) = some q' then none else some q') = some q := h
          by_cases z : na (ba q'.1 q'.2) = some q'
          · rw [if_pos z] at h; cases h
          · rw [if_neg z] at h
            injection h with h
            subst h
            rw [xt_arn z]
            exact g1.2 a q' e2
  have lnk : ∀ {f a : Nat}, q_K S a ≠ 0 → q_P S' f a = q_P S f a := fun {f a} ha => ((ag a ha).2.2.1 f).2.2
  have G : c_G (c_xt L no na bo ba nl) S' := by
    refine ⟨wf, fun c i m => ?_, fun f i m => ?_, fun q hq i m => ?_, fun f hf i m => ?_, fun q hq i m => ?_, fun i m => ?_, fun i m => ?_, h9, h10, ?_, fun c i hc m => ?_, fun i => ?_⟩
    · rcases cO m with n | ⟨n, m'⟩
      · rw [xt_ob n]
        exact (h1 _ _ n).2.2.1
      · rw [xt_obn n, (ag _ (kO c i m')).1]
        exact g2 c i m'
    · rcases cA m with n | ⟨n, m'⟩
      · rw [xt_ar n, xt_ln n]
        exact ⟨(h2 _ _ n).2.2.1, (h2 _ _ n).2.2.2.1⟩
      · rw [xt_arn n, xt_lnn n, (ag _ (kA f i m')).1, (ag _ (kA f i m')).2.1]
        exact g3 f i m'
    · rcases cO m with n | ⟨n, m'⟩
      · have n2 := ((h4 q hq i).1).mp n
        rw [xt_ob n, xt_ob n2]
        exact ⟨xt_mk n2, (h4 q hq i).2 n⟩
      · have n2 : ¬ nO no bo q.2 i := fun z => n (((h4 q hq i).1).mpr z)
        have o := g4 q hq i m'
        rw [xt_obn n, xt_obn n2, lnk (kO _ _ m')]
        exact ⟨mO _ _ o.1 n2, o.2⟩
    · rcases cO m with n | ⟨n, m'⟩
      · have n2 := (h3 f i hf).mpr n
        rw [xt_ob n, xt_ar n2]
        exact ⟨xt_ma n2, h5 f hf i n⟩
      · have n2 : ¬ nO na ba f i := fun z => n ((h3 f i hf).mp z)
        have o := g5 f hf i m'
        rw [xt_obn n, xt_arn n2, lnk (kO _ _ m')]
        exact ⟨mA _ _ o.1 n2, o.2⟩
    · rcases cA m with n | ⟨n, m'⟩
      · rw [xt_ln n]
        exact h6 q hq i n
      · rw [xt_lnn n]
        exact g6 q hq i m'
    · rcases cO m with n | ⟨n, m'⟩
      · have n2 := ((h7 i).1).mp n
        rw [xt_ob n, xt_ob n2]
        exact ⟨xt_mk n2, (h7 i).2 n⟩
      · have n2 : ¬ nO no bo 8 (1000 + i) := fun z => n (((h7 i).1).mpr z)
        have o := g7 i m'
        rw [xt_obn n, xt_obn n2, lnk (kO _ _ m')]
        exact ⟨mO _ _ o.1 n2, o.2⟩
    · rcases cO m with n | ⟨n, m'⟩
      · refine ⟨fun j hj => xt_mk (((h8 i).1 j hj).mp n), ?_⟩
        rw [xt_ob n, (h8 i).2 n]
        cases hq : c_qu i with
        | none => rfl
        | some j => exact congrArg some (xt_ob (((h8 i).1 j hq).mp n)).symm
      · have o := g8 i m'
        refine ⟨fun j hj => mO _ _ (o.1 j hj) (fun z => n (((h8 i).1 j hj).mpr z)), ?_⟩
        rw [xt_obn n, lnk (kO _ _ m'), o.2]
        cases hq : c_qu i with
        | none => rfl
        | some j => exact congrArg some (xt_obn (fun z => n (((h8 i).1 j hq).mpr z))).symm
    · exact ⟨mO _ _ g11.1 (single _ _ (by decide)), mO _ _ g11.2.1 (single _ _ (by decide)), mO _ _ g11.2.2.1 (single _ _ (by decide)), mO _ _ g11.2.2.2.1 (single _ _ (by decide)), mO _ _ g11.2.2.2.2.1 (single _ _ (by decide)), mO _ _ g11.2.2.2.2.2 (single _ _ (by decide))⟩
    · rcases cO m with n | ⟨n, m'⟩
      · exact absurd n (single c i hc)
      · exact g12 c i hc m'
    · have n2 : ¬ nO na ba 1801 0 := fun z => single 9 0 (by decide) ((h3 1801 0 (by decide)).mp z)
      rw [xt_arn n2, ((ag _ (kA _ _ (g5 1801 (by decide) 0 g11.2.1).1)).2.2.2.1 i).2]
      exact g13 i
  have n18 : ¬ nO na ba 1801 0 := fun z => single 9 0 (by decide) ((h3 1801 0 (by decide)).mp z)
  obtain ⟨w1, w2, w3, w4, w5, w6⟩ := w
  have k13 : q_K S e.2.1 ≠ 0 := by rw [w1]; decide
  have fok : ∀ a f : Nat, e.2.2.2.2.1 a = some f → q_K S a ≠ 0 := fun a f h => by
    have nf := ot.1.2.2.2 a f h
    rw [w3 a f h, (w2 f nf).2.1]
    exact r_Kd1 nf
  have rE := r_Efix.mp er
  refine ⟨⟨⟨G, ⟨?_, fun f nf => ?_, w3, fun k hk => ?_, fun b hb => ?_, fun k hk => ?_⟩, ?_, fun a f h => ?_⟩, ⟨⟨?_, ?_, ?_, ot.1.2.2.2⟩, li⟩, ?_, r_Efix.mpr ⟨fun f => ?_, fun a f i h => ?_⟩⟩, ?_⟩
  · exact (ag _ k13).1.trans w1
  · obtain ⟨a1, a2, a3, a4⟩ := w2 f nf
    have kz : q_K S (e.2.2.2.1 f) ≠ 0 := by rw [a2]; exact r_Kd1 nf
    exact ⟨(lnk k13).trans a1, (ag _ kz).1.trans a2, (ag _ kz).2.1.trans a3, a4⟩
  · have kz : q_K S (e.2.2.2.2.2.1 k) ≠ 0 := by rw [(w4 k hk).1]; decide
    exact ⟨(ag _ kz).1.trans (w4 k hk).1, (ag _ kz).2.1.trans (w4 k hk).2⟩
  · by_cases z : q_K S b = 0
    · exact absurd hb (h0 b z)
    · rw [(ag b z).2.1]
      exact w5 b ((ag b z).1.symm.trans hb)
  · obtain ⟨b, b1, b2⟩ := w6 k hk
    have kz : q_K S b ≠ 0 := by rw [b1]; decide
    exact ⟨b, (ag _ kz).1.trans b1, (ag _ kz).2.1.trans b2⟩
  · show (match no e.2.1 with | some q => some q | none => (match c_ow L e.2.1 with | some q => if no (bo q.1 q.2) = some q then none else some q | none => none)) = none
    rw [(fr _ k13).1, s.1]
  · show (match na a with | some q => some q | none => (match c_aw L a with | some q => if na (ba q.1 q.2) = some q then none else some q | none => none)) = none
    rw [(fr _ (fok a f h)).2, s.2 a f h]
  · have kz : q_K S e.2.2.1 ≠ 0 := by rw [ot.1.1]; decide
    exact (ag _ kz).1.trans ot.1.1
  · have kz : q_K S e.2.2.1 ≠ 0 := by rw [ot.1.1]; decide
    exact (ag _ kz).2.1.trans ot.1.2.1
  · rw [xt_arn n18]
    exact ot.1.2.2.1
  · rw [xt_obn (single 11 0 (by decide))]
    exact eo
  · rw [((ag _ k13).2.2.1 f).1]
    exact rE.1 f
  · rw [((ag _ (fok a f h)).2.2.2.1 i).1]
    exact rE.2 a f i h
  · have vI : ∀ f i : Nat, c_mk L (f / 200) i → q_I S f (c_ob L (f / 200) i) = c_I K f i := fun f i m => by
      conv => lhs; rw [← cs]
      exact c_eI m rfl
    have vJ : ∀ f i : Nat, c_mk L (f / 200) i → q_J S f (c_ob L (f / 200) i) = c_J K f i := fun f i m => by
      conv => lhs; rw [← cs]
      exact c_eJ m rfl
    have vP : ∀ f i : Nat, c_dy f = true → c_mk L (f / 200) i → q_P S f (c_ob L (f / 200) i) = (c_P K f i).map (c_tg L f) := fun f i hd m => by
      conv => lhs; rw [← cs]
      exact c_eD m rfl hd
    have vA : ∀ f i j : Nat, c_ma L f i → q_A S (c_ar L f i) j = c_A K f i j := fun f i j m => by
      conv => lhs; rw [← cs]
      exact c_eA m
    refine c_same wf (fun f i m => ?_) (fun f i m => ?_) (fun f i hd m => ?_) (fun f i j m => ?_)
    · rcases cO m with n | ⟨n, m'⟩
      · rw [xt_ob n]
        exact ((h1 _ _ n).2.2.2.1 f).1.trans (if_pos n).symm
      · rw [xt_obn n, ((ag _ (kO _ _ m')).2.2.1 f).1]
        exact (vI f i m').trans (if_neg n).symm
    · rcases cO m with n | ⟨n, m'⟩
      · rw [xt_ob n]
        exact ((h1 _ _ n).2.2.2.1 f).2.trans (if_pos n).symm
      · rw [xt_obn n, ((ag _ (kO _ _ m')).2.2.1 f).2.1]
        exact (vJ f i m').trans (if_neg n).symm
    · rcases cO m with n | ⟨n, m'⟩
      · rw [xt_ob n, (h1 _ _ n).2.2.2.2 f hd]
        have : c_P (k_xt K no na bo ba) f i = none := if_pos n
        rw [this]
        rfl
      · rw [xt_obn n, lnk (kO _ _ m'), vP f i hd m']
        have : c_P (k_xt K no na bo ba) f i = c_P K f i := if_neg n
        rw [this]
        cases hq : c_P K f i with
        | none => rfl
        | some x => exact congrArg some (rp f i x hd m' hq).symm
    · rcases cA m with n | ⟨n, m'⟩
      · have : c_A (k_xt K no na bo ba) f i = fun _ => 0 := if_pos n
        rw [xt_ar n, this]
        exact (h2 _ _ n).2.2.2.2 j
      · have : c_A (k_xt K no na bo ba) f i = c_A K f i := if_neg n
        rw [xt_arn n, this, ((ag _ (kA _ _ m')).2.2.2.1 j).1]
        exact vA f i j m'
