/-! A new thing. -/
def cn1 (cn : Nat → Nat) (s s' : Nat) : Nat := if s' = s then cn s + 1 else cn s'
theorem PN_add {L L' : c_L} {K K' : c_S} {R : r_S} {p s mx lm tm b sz : Nat} {cn : Nat → Nat} (h : PN L K R p lm cn) (lx : LX L L') (hs : s ≤ 5) (hmx : mx = if s = 4 ∨ s = 5 then 16 else 8) (hlt : cn s < mx) (htm : tm = cn 0 + cn 1 + cn 2 + cn 3 + cn 4 + cn 5) (hsz : 1 ≤ sz ∧ sz ≤ 12) (hd : ∀ x : Nat, x < sz → n_d (r_A R 2402 (b + x)) ≠ 0) (nk : ∀ s' i : Nat, s' ≤ 5 → i < cn s' → c_J K (n_f s') (n_i p s' i) ≠ n_v (fun x => r_A R 2402 (b + x)) sz)
  (k4 : c_I K' 1004 p = nI (cn1 cn s 5)) (k6 : ∀ s' : Nat, s' < 5 → c_A K' 1006 p s' = nI (cn1 cn s s')) (j : ∀ s' i : Nat, s' ≤ 5 → i < cn s' → c_J K' (n_f s') (n_i p s' i) = c_J K (n_f s') (n_i p s' i)) (jn : c_J K' (n_f s) (n_i p s (cn s)) = n_v (fun x => r_A R 2402 (b + x)) sz)
  (m7 : s = 5 → c_mk L' 7 (16 * p + cn s)) (m10 : s < 5 → c_mk L' 10 (48 * p + (8 * s + cn s))) : PN L' K' (r_nth R p s tm (cn s) b sz lm) p (lm + sz) (cn1 cn s) := by
  obtain ⟨w1, w2, w3, w4, w5, ⟨tm', w6, w7, w8, w9⟩, w10⟩ := h
  have et : tm' = tm := by omega
  subst et
  have t64 : tm' < 64 := by
    have b0 := w1 0 (by omega)
    have b1 := w1 1 (by omega)
    have b2 := w1 2 (by omega)
    have b3 := w1 3 (by omega)
    have b4 := w1 4 (by omega)
    have b5 := w1 5 (by omega)
    simp at b0 b1 b2 b3 b4 b5
    have : s = 0 ∨ s = 1 ∨ s = 2 ∨ s = 3 ∨ s = 4 ∨ s = 5 := by omega
    rcases this with rfl | rfl | rfl | rfl | rfl | rfl <;> simp at hmx <;> omega
  have kp : ∀ f i : Nat, f ≠ 2421 → r_A (rs_I (r_kp R lm b sz) 2422 (nI (lm + sz))) f i = r_A R f i := fun f i hf => by
    show (if f = 2421 ∧ lm ≤ i ∧ i < lm + sz then r_A R 2402 (b + (i - lm)) else R.2 f i) = R.2 f i
    exact if_neg (fun z => hf z.1)
  have kl : ∀ i : Nat, r_A (r_nth R p s tm' (cn s) b sz lm) 2421 i = if lm ≤ i ∧ i < lm + sz then r_A R 2402 (b + (i - lm)) else r_A R 2421 i := fun i => by
    unfold r_nth
    rw [r_AA, if_neg (by omega), r_AA, if_neg (by omega), r_AA, if_neg (by omega), r_AA, if_neg (by omega), r_AA, if_neg (by omega), r_AA, if_neg (by omega)]
    show (if 2421 = 2421 ∧ lm ≤ i ∧ i < lm + sz then r_A R 2402 (b + (i - lm)) else R.2 2421 i) = _
    by_cases z : lm ≤ i ∧ i < lm + sz
    · rw [if_pos ⟨rfl, z⟩, if_pos z]
    · rw [if_neg (fun y => z y.2), if_neg z]; rfl
  have rr : ∀ f i : Nat, f ≠ 2421 → r_A (r_nth R p s tm' (cn s) b sz lm) f i = if f = 2435 ∧ i = 6 * p + s then nI (cn s + 1) else if f = 2430 ∧ i = p then nI (tm' + 1) else if f = 2434 ∧ i = 64 * p + tm' then nI (cn s) else if f = 2433 ∧ i = 64 * p + tm' then nI s else if f = 2432 ∧ i = 64 * p + tm' then nI sz else if f = 2431 ∧ i = 64 * p + tm' then nI lm else r_A R f i := fun f i hf => by
    unfold r_nth
    rw [r_AA, r_AA, r_AA, r_AA, r_AA, r_AA, kp f i hf]
  have nam : ∀ {a n : Nat} {jj : Int64}, NA1 R lm a n jj → NA1 (r_nth R p s tm' (cn s) b sz lm) (lm + sz) a n jj := fun h => NA1_c h (by omega) (fun i hi => by rw [kl, if_neg (by omega)])
  refine ⟨fun s' hs' => ?_, ⟨k4, ?_⟩, fun s' hs' => ⟨k6 s' hs', ?_⟩, fun i hi => ?_, fun s' i hs' hi => ?_, ⟨tm' + 1, ?_, ?_, fun k hk => ?_, fun s' i hs' hi => ?_⟩, fun s1 i1 s2 i2 a1 a2 a3 a4 z => ?_⟩
  · unfold cn1
    by_cases z : s' = s
    · rw [if_pos z, z, ← hmx]; omega
    · rw [if_neg z]; exact w1 s' hs'
  · rw [rr 2435 _ (by decide)]
    unfold cn1
    by_cases z : 5 = s
    · rw [if_pos ⟨rfl, by omega⟩, if_pos z]
    · rw [if_neg (by omega), if_neg (by omega), if_neg (by omega), if_neg (by omega), if_neg (by omega), if_neg (by omega), if_neg z]
      exact w2.2
  · rw [rr 2435 _ (by decide)]
    unfold cn1
    by_cases z : s' = s
    · rw [if_pos ⟨rfl, by omega⟩, if_pos z]
    · rw [if_neg (by omega), if_neg (by omega), if_neg (by omega), if_neg (by omega), if_neg (by omega), if_neg (by omega), if_neg z]
      exact (w3 s' hs').2
  · unfold cn1 at hi
    by_cases z : 5 = s
    · rw [if_pos z] at hi
      by_cases y : i < cn 5
      · exact (lx.1 _ _ (w4 i y)).1
      · have : i = cn s := by rw [← z] at hi ⊢; omega
        rw [this]
        exact m7 z.symm
    · rw [if_neg z] at hi
      exact (lx.1 _ _ (w4 i hi)).1
  · unfold cn1 at hi
    by_cases z : s' = s
    · rw [if_pos z] at hi
      by_cases y : i < cn s'
      · exact (lx.1 _ _ (w5 s' i hs' y)).1
      · have : i = cn s := by rw [z] at y; omega
        rw [this, z]
        exact m10 (by omega)
    · rw [if_neg z] at hi
      exact (lx.1 _ _ (w5 s' i hs' hi)).1
  · unfold cn1
    have : s = 0 ∨ s = 1 ∨ s = 2 ∨ s = 3 ∨ s = 4 ∨ s = 5 := by omega
    rcases this with rfl | rfl | rfl | rfl | rfl | rfl <;> simp <;> omega
  · rw [rr 2430 _ (by decide), if_neg (by omega), if_pos ⟨rfl, rfl⟩]
  · by_cases y : k < tm'
    · obtain ⟨s', i, n, a, b1, b2, b3, b4, b5, b6, b7⟩ := w8 k y
      refine ⟨s', i, n, a, b1, ?_, ?_, ?_, ?_, ?_, ?_⟩
      · unfold cn1
        by_cases z : s' = s
        · rw [if_pos z, ← z]; omega
        · rw [if_neg z]; exact b2
      · rw [rr 2433 _ (by decide), if_neg (by omega), if_neg (by omega), if_neg (by omega), if_neg (by omega), if_neg (by omega), if_neg (by omega)]; exact b3
      · rw [rr 2434 _ (by decide), if_neg (by omega), if_neg (by omega), if_neg (by omega), if_neg (by omega), if_neg (by omega), if_neg (by omega)]; exact b4
      · rw [rr 2432 _ (by decide), if_neg (by omega), if_neg (by omega), if_neg (by omega), if_neg (by omega), if_neg (by omega), if_neg (by omega)]; exact b5
      · rw [rr 2431 _ (by decide), if_neg (by omega), if_neg (by omega), if_neg (by omega), if_neg (by omega), if_neg (by omega), if_neg (by omega)]; exact b6
      · rw [j s' i b1 b2]
        exact nam b7
    · have : k = tm' := by omega
      subst this
      refine ⟨s, cn s, sz, lm, hs, ?_, ?_, ?_, ?_, ?_, ?_⟩
      · unfold cn1; rw [if_pos rfl]; omega
      · rw [rr 2433 _ (by decide), if_neg (by omega), if_neg (by omega), if_neg (by omega), if_pos ⟨rfl, rfl⟩]
      · rw [rr 2434 _ (by decide), if_neg (by omega), if_neg (by omega), if_pos ⟨rfl, rfl⟩]
      · rw [rr 2432 _ (by decide), if_neg (by omega), if_neg (by omega), if_neg (by omega), if_neg (by omega), if_pos ⟨rfl, rfl⟩]
      · rw [rr 2431 _ (by decide), if_neg (by omega), if_neg (by omega), if_neg (by omega), if_neg (by omega), if_neg (by omega), if_pos ⟨rfl, rfl⟩]
      · have el : ∀ x : Nat, x < sz → r_A (r_nth R p s k (cn s) b sz lm) 2421 (lm + x) = r_A R 2402 (b + x) := fun x hx => by
          rw [kl, if_pos (by omega)]
          congr 2
          omega
        refine ⟨⟨hsz.1, hsz.2, by omega⟩, fun x hx => by rw [el x hx]; exact hd x hx, ?_⟩
        rw [jn]
        have : ∀ m : Nat, m ≤ sz → n_v (fun x => r_A R 2402 (b + x)) m = n_v (fun x => r_A (r_nth R p s k (cn s) b sz lm) 2421 (lm + x)) m := by
          intro m
          induction m with
          | zero => intro _; rfl
          | succ m ih =>
            intro hm
            show n_v _ m * 37 + (n_d (r_A R 2402 (b + m))).toInt64 = n_v _ m * 37 + (n_d (r_A (r_nth R p s k (cn s) b sz lm) 2421 (lm + m))).toInt64
            rw [ih (by omega), el m (by omega)]
        exact this sz (Nat.le_refl sz)
  · unfold cn1 at hi
    have old : i < cn s' → ∃ k : Nat, k < tm' + 1 ∧ r_A (r_nth R p s tm' (cn s) b sz lm) 2433 (64 * p + k) = nI s' ∧ r_A (r_nth R p s tm' (cn s) b sz lm) 2434 (64 * p + k) = nI i := fun y => by
      obtain ⟨k, b1, b2, b3⟩ := w9 s' i hs' y
      refine ⟨k, by omega, ?_, ?_⟩
      · rw [rr 2433 _ (by decide), if_neg (by omega), if_neg (by omega), if_neg (by omega), if_neg (by omega), if_neg (by omega), if_neg (by omega)]; exact b2
      · rw [rr 2434 _ (by decide), if_neg (by omega), if_neg (by omega), if_neg (by omega), if_neg (by omega), if_neg (by omega), if_neg (by omega)]; exact b3
    by_cases z : s' = s
    · rw [if_pos z] at hi
      by_cases y : i < cn s'
      · exact old y
      · have e : i = cn s := by rw [z] at y; omega
        refine ⟨tm', by omega, ?_, ?_⟩
        · rw [rr 2433 _ (by decide), if_neg (by omega), if_neg (by omega), if_neg (by omega), if_pos ⟨rfl, rfl⟩, z]
        · rw [rr 2434 _ (by decide), if_neg (by omega), if_neg (by omega), if_pos ⟨rfl, rfl⟩, e]
    · rw [if_neg z] at hi
      exact old hi
  · have cs : ∀ s' i : Nat, i < cn1 cn s s' → i < cn s' ∨ (s' = s ∧ i = cn s) := fun s' i h => by
      unfold cn1 at h
      by_cases z : s' = s
      · rw [if_pos z] at h
        rw [z]
        omega
      · rw [if_neg z] at h
        exact Or.inl h
    rcases cs s1 i1 a2 with c1 | c1
    · rcases cs s2 i2 a4 with c2 | c2
      · rw [j s1 i1 a1 c1, j s2 i2 a3 c2] at z
        exact w10 s1 i1 s2 i2 a1 c1 a3 c2 z
      · rw [j s1 i1 a1 c1, c2.1, c2.2, jn] at z
        exact absurd z (nk s1 i1 a1 c1)
    · rcases cs s2 i2 a4 with c2 | c2
      · rw [j s2 i2 a3 c2, c1.1, c1.2, jn] at z
        exact absurd z.symm (nk s2 i2 a3 c2)
      · exact ⟨by omega, by omega⟩
theorem ix_s {p s i s' i' : Nat} {cn : Nat → Nat} (w1 : ∀ s : Nat, s ≤ 5 → cn s ≤ (if s = 4 ∨ s = 5 then 16 else 8)) (hs : s < 5) (hs' : s' < 5) (hi : i < (if s = 4 then 16 else 8)) (hi' : i' < cn s') (e : 48 * p + (8 * s' + i') = 48 * p + (8 * s + i)) : s' = s ∧ i' = i := by
  have b := w1 s' (by omega)
  have h1 : s' = 0 ∨ s' = 1 ∨ s' = 2 ∨ s' = 3 ∨ s' = 4 := by omega
  have h2 : s = 0 ∨ s = 1 ∨ s = 2 ∨ s = 3 ∨ s = 4 := by omega
  rcases h1 with rfl | rfl | rfl | rfl | rfl <;> rcases h2 with rfl | rfl | rfl | rfl | rfl <;> simp at b hi <;> omega
/-- where a new thing of sort s, the n-th, changes something -/
def xI (p s n f i : Nat) : Prop := (1807 ≤ f ∧ f ≤ 1811) ∨ ((f / 200 = 10 ∨ f / 200 = 8) ∧ i = 48 * p + (8 * s + n))
def xA (p s n f i : Nat) : Prop := ((f / 200 = 10 ∨ f / 200 = 8) ∧ i = 48 * p + (8 * s + n)) ∨ (f = 1006 ∧ i = p)
def xi (f : Nat) : Prop := (2404 ≤ f ∧ f ≤ 2411) ∨ f = 2422
def xa (p s tm lm f i : Nat) : Prop := (f = 2421 ∧ lm ≤ i) ∨ ((2431 ≤ f ∧ f ≤ 2434) ∧ i = 64 * p + tm) ∨ (f = 2430 ∧ i = p) ∨ (f = 2435 ∧ i = 6 * p + s)
theorem nth_of {R : r_S} {K : c_S} {p s tm n b sz lm : Nat} {cI cA : Nat → Nat → Prop} {rI : Nat → Prop} {rA : Nat → Nat → Prop} (h1 : rI 2422) (h2 : ∀ f i : Nat, xa p s tm lm f i → rA f i) : OF cI cA rI rA K R K (r_nth R p s tm n b sz lm) := by
  have h0 : OF cI cA rI rA K R K (rs_I (r_kp R lm b sz) 2422 (nI (lm + sz))) := by
    refine ⟨fun _ _ _ => ⟨rfl, rfl, rfl⟩, fun _ _ _ _ => rfl, fun f z => if_neg (fun y : f = 2422 => z (by rw [y]; exact h1)), fun f i z => ?_⟩
    show (if f = 2421 ∧ lm ≤ i ∧ i < lm + sz then r_A R 2402 (b + (i - lm)) else R.2 f i) = R.2 f i
    exact if_neg (fun y => z (h2 f i (Or.inl ⟨y.1, y.2.1⟩)))
  unfold r_nth
  exact OF_a (OF_a (OF_a (OF_a (OF_a (OF_a h0 (h2 _ _ (Or.inr (Or.inl ⟨by omega, rfl⟩)))) (h2 _ _ (Or.inr (Or.inl ⟨by omega, rfl⟩)))) (h2 _ _ (Or.inr (Or.inl ⟨by omega, rfl⟩)))) (h2 _ _ (Or.inr (Or.inl ⟨by omega, rfl⟩)))) (h2 _ _ (Or.inr (Or.inr (Or.inl ⟨rfl, rfl⟩))))) (h2 _ _ (Or.inr (Or.inr (Or.inr ⟨rfl, rfl⟩))))
theorem nth_rz {R0 R : r_S} {p s tm n b sz lm : Nat} (h : RZ R0 R) : RZ R0 (r_nth R p s tm n b sz lm) := by
  have h0 : RZ R0 (rs_I (r_kp R lm b sz) 2422 (nI (lm + sz))) := RZ_I ⟨h.1, fun f i z => by
    have e : r_A (r_kp R lm b sz) f i = r_A R f i := by
      show (if f = 2421 ∧ lm ≤ i ∧ i < lm + sz then r_A R 2402 (b + (i - lm)) else R.2 f i) = R.2 f i
      exact if_neg (fun y => by omega)
    rw [e]
    exact h.2 f i z⟩ (by decide)
  exact RZ_A (RZ_A (RZ_A (RZ_A (RZ_A (RZ_A h0 (by decide)) (by decide)) (by decide)) (by decide)) (by decide)) (by decide)
theorem AV_nth {B : Nat} {K0 K : c_S} {R0 R : r_S} {p s tm n b sz lm : Nat} (h : AV B K0 R0 K R) : AV B K0 R0 K (r_nth R p s tm n b sz lm) := AV_c h (fun _ _ => rfl) rfl (fun _ _ _ => rfl) (fun f m => if_neg (fun z : f = 2422 => by rw [z] at m; exact absurd m (by decide))) (nth_rz h.2.2.2.2.1)
theorem c_rnt {e : EV} {L : c_L} {T : q_S} {B bc bs : Nat} {K0 K : c_S} {R0 R : r_S} {p s mx lm tm : Nat} {cn : Nat → Nat} {Q : Option Value → q_S → Prop} {E : String → q_S → Prop} {Y : Int32 → r_S → (Option Value → r_S → Prop) → Prop} {RM : (Option Value → r_S → Prop) → Prop} (wd : WD e L T) (av : AV B K0 R0 K R) (ri : RI K) (pn : PN L K R p lm cn) (m5 : c_mk L 5 p) (hp : p < 16) (hs : s < 5) (hmx : mx = if s = 4 ∨ s = 5 then 16 else 8) (hl : lm + 12 ≤ 14000) (h22 : r_I R 2422 = nI lm) (htm : tm = cn 0 + cn 1 + cn 2 + cn 3 + cn 4 + cn 5) (hu : (if s = 2 then 4 else 2) ≤ bc) (hv : (if s = 2 then 20 else 16) ≤ bs) (hby : ∀ i : Nat, fits .byte (.int (r_A R0 2402 i)) = true)
  (hr : ∀ Q : Option Value → r_S → Prop, rm_X12_newThing R (nI p) (nI s) (nI mx) (fun r R' => ∃ x : Int32, r = some (.int x) ∧ Y x R' Q) → RM Q)
  (hX : ∀ (L' : c_L) (T' : q_S) (K' : c_S) (R' : r_S) (w q : Int32) (j : Nat), WD e L' T' → CZ K0 K' → FD w q R0 R' → j < mx → (∀ Q : Option Value → r_S → Prop, Y (nI j) R' Q → RM Q) → E "java/lang/IllegalArgumentException" (c_E L' (k_fl K' w q) T'))
  (hN : ∀ (L' : c_L) (T' : q_S) (K' : c_S) (R' : r_S) (sz : Nat), WD e L' T' → LX L L' → AV B K0 R0 K' R' → c_mk L' 10 (48 * p + (8 * s + cn s)) → cn s < mx → OF (xI p s (cn s)) (xA p s (cn s)) xi (xa p s tm lm) K R K' R' → sz ≤ 12 → PN L' K' R' p (lm + sz) (cn1 cn s) → r_I R' 2422 = nI (lm + sz) → ((c_I K' 2001 (48 * p + (8 * s + cn s)) = 0 ∧ c_I K' 2002 (48 * p + (8 * s + cn s)) = 0 ∧ c_I K' 2003 (48 * p + (8 * s + cn s)) = 0 ∧ c_I K' 2004 (48 * p + (8 * s + cn s)) = 0 ∧ c_I K' 2006 (48 * p + (8 * s + cn s)) = 0 ∧ c_I K' 2007 (48 * p + (8 * s + cn s)) = 0) ∧ c_I K' 2008 (48 * p + (8 * s + cn s)) = -1) → (∀ Q : Option Value → r_S → Prop, Y (nI (cn s)) R' Q → RM Q) → Q (some (va_rf (some (c_ob L' 10 (48 * p + (8 * s + cn s)))))) (c_E L' K' T')) :
  wm_X9_readNewThing bc bs (c_E L K T) (c_ob L 9 0) (some (c_ob L 5 p)) (nI s) Q E := by
  have g := WD_g wd
  have u1 : 2 ≤ bc := by split at hu <;> omega
  have v1 : 16 ≤ bs := by split at hv <;> omega
  have mx0 : 0 < mx := by rw [hmx]; split <;> omega
  refine ⟨K10 g, c_newName wd av pn m5 hp (by omega) hmx hl h22 htm (by omega) (by omega) hby hr (fun K' R' w q cz hf hr => hX L T K' R' w q 0 wd cz hf mx0 hr) (fun K1 R1 b sz av1 tf1 hsz hd hj hlt nk hr1 => ⟨K10 g, c_gk g m5 6 rfl, (if s = 2 then 3 else 1), (if s = 2 then 14 else 10), ⟨by split <;> (split at hu <;> omega), by split <;> (split at hv <;> omega)⟩, ?_⟩)⟩
  have hnn : cn s < (if s = 4 then 16 else 8) := by
    rw [hmx] at hlt
    by_cases z : s = 4
    · rw [if_pos (Or.inl z)] at hlt; rw [if_pos z]; exact hlt
    · rw [if_neg (by omega)] at hlt; rw [if_neg z]; exact hlt
  have pn1 := PN_t pn tf1
  have h6 : c_A K1 1006 p s = nI (cn s) := (pn1.2.2.1 s hs).1
  have ri1 : RI K1 := fun f i x hd h => ri f i x hd (by rw [← TOKf_P tf1]; exact h)
  rw [c_eJ (g_m9 g) rfl]
  refine c_addThing wd ri1 m5 hp hs hnn h6 (Nat.le_refl _) (Nat.le_refl _) (fun L' T' K2 wd2 lx m10 nt => ⟨_, rfl, ?_⟩)
  obtain ⟨n1, n2, n3, n4, n5, n6, n7, n8⟩ := nt
  rw [← (lx.1 9 0 (g_m9 g)).2]
  have g2 := WD_g wd2
  have q9 : ∀ f i : Nat, f / 200 ≠ 10 → f / 200 ≠ 8 → ¬ ((f / 200 = 10 ∨ f / 200 = 8) ∧ i = 48 * p + (8 * s + cn s)) := fun f i h1 h2 z => by omega
  have av2 : AV B K0 R0 K2 R1 := AV_c av1 (fun f hf => n1 f 0 (by
    have := (by decide : ∀ f ∈ [1806, 1807, 1808, 1809, 1811, 1803, 402, 403, 1211, 1212, 1214], f / 200 ≠ 10 ∧ f / 200 ≠ 8) f hf
    exact q9 f 0 this.1 this.2)) (n2 1810 0 (q9 _ _ (by decide) (by decide))) (fun f i hf => n3 f 0 i (by
    have := (by decide : ∀ f ∈ [1802, 2204, 400, 401], f / 200 ≠ 10 ∧ f / 200 ≠ 8) f hf
    exact q9 f 0 this.1 this.2) (by
    have := (by decide : ∀ f ∈ [1802, 2204, 400, 401], f ≠ 1006) f hf
    omega)) (fun _ _ => rfl) av1.2.2.2.2.1
  have jold : ∀ s' i : Nat, s' ≤ 5 → i < cn s' → c_J K2 (n_f s') (n_i p s' i) = c_J K1 (n_f s') (n_i p s' i) := fun s' i a1 a2 => n2 _ _ (fun z => by
    unfold n_f n_i at z
    by_cases y : s' = 5
    · rw [if_pos y] at z
      omega
    · rw [if_neg y, if_neg y] at z
      have := ix_s pn.1 hs (by omega) hnn a2 z.2
      rw [this.1] at a2
      omega)
  have pn2 : PN L' K2 (r_nth R1 p s tm (cn s) b sz lm) p (lm + sz) (cn1 cn s) := by
    refine PN_add pn1 lx (by omega) hmx hlt htm hsz hd (fun s' i a1 a2 => by rw [← hj]; exact nk s' i a1 a2) ?_ (fun s' hs' => ?_) jold ?_ (fun z => by omega) (fun _ => m10)
    · rw [n1 1004 p (q9 _ _ (by decide) (by decide))]
      unfold cn1
      rw [if_neg (by omega)]
      exact pn1.2.1.1
    · unfold cn1
      by_cases z : s' = s
      · rw [if_pos z, z]; exact n5
      · rw [if_neg z, n3 1006 p s' (q9 _ _ (by decide) (by decide)) (by omega)]
        exact (pn1.2.2.1 s' hs').1
    · unfold n_f n_i
      rw [if_neg (by omega), if_neg (by omega), n6, hj]
  have of1 : OF (xI p s (cn s)) (xA p s (cn s)) xi (xa p s tm lm) K R K1 R1 := OF_k OF_0 tf1 (fun f i h => Or.inl h) (fun f h1 h2 => Or.inl ⟨h1, h2⟩)
  have of2 : OF (xI p s (cn s)) (xA p s (cn s)) xi (xa p s tm lm) K1 R1 K2 R1 := ⟨fun f i z => ⟨n1 f i (fun y => z (Or.inr y)), n2 f i (fun y => z (Or.inr y)), n4 f i (fun y => z (Or.inr y))⟩, fun f i j z => n3 f i j (fun y => z (Or.inl y)) (fun y => z (Or.inr ⟨y.1, y.2.1⟩)), fun _ _ => rfl, fun _ _ _ => rfl⟩
  have of3 : OF (xI p s (cn s)) (xA p s (cn s)) xi (xa p s tm lm) K2 R1 K2 (r_nth R1 p s tm (cn s) b sz lm) := nth_of (Or.inr rfl) (fun _ _ h => h)
  refine ⟨K10 g2, c_adv wd2 (AV_nth av2) (by have : (if s = 2 then 3 else 1) + 1 ≤ bc := (by split <;> (split at hu <;> omega)); omega) (by have : (if s = 2 then 14 else 10) + 6 ≤ bs := (by split <;> (split at hv <;> omega)); omega) hr1 (fun K' R' w q cz hf pe hr => hX L' T' K' R' w q (cn s) wd2 cz hf hlt (fun Q h => hr Q ⟨_, rfl, h⟩)) (fun K3 R3 av3 tf3 hr => ?_)⟩
  refine hN L' T' K3 R3 sz wd2 lx av3 m10 hlt (OF_k (OF_t of1 (OF_t of2 of3)) tf3 (fun f i h => Or.inl h) (fun f h1 h2 => Or.inl ⟨h1, h2⟩)) hsz.2 (PN_t pn2 tf3) ((tf3.2.2.2.1 2422 (by decide)).trans rfl) ?_ (fun Q h => hr Q ⟨_, rfl, h⟩)
  rw [tf3.1 2001 _ (by decide), tf3.1 2002 _ (by decide), tf3.1 2003 _ (by decide), tf3.1 2004 _ (by decide), tf3.1 2006 _ (by decide), tf3.1 2007 _ (by decide), tf3.1 2008 _ (by decide)]
  exact ⟨n7, n8⟩
