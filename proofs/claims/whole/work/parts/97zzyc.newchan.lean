/-! A channel's objects and rows, made. -/
theorem c_newChan {e : EV} {L : c_L} {S : q_S} {K : c_S} {c0 b b1 c1 d1 d2 : Nat} (wd : WD e L S) (cs : c_E L K S = S) (hp : c0 < 24) (m5 : ¬ c_mk L 1 c0) (hb : q_K S b = 0) (hb1 : q_K (qs_O S 1 b) b1 = 0) (hc1 : q_K (qs_O (qs_O S 1 b) 8 b1) c1 = 0) (hd1 : q_K (qs_P (qs_P (qs_R (qs_O (qs_O S 1 b) 8 b1) 21 0 c1) 1600 b1 (some c1)) 204 b (some b1)) d1 = 0) (hd2 : q_K (qs_P (qs_R (qs_P (qs_P (qs_R (qs_O (qs_O S 1 b) 8 b1) 21 0 c1) 1600 b1 (some c1)) 204 b (some b1)) 21 0 d1) 213 b (some d1)) d2 = 0) :
  ∃ (L' : c_L) (K1 : c_S), WD e L' (qs_C (qs_P (qs_R (qs_P (qs_R (qs_P (qs_P (qs_R (qs_O (qs_O S 1 b) 8 b1) 21 0 c1) 1600 b1 (some c1)) 204 b (some b1)) 21 0 d1) 213 b (some d1)) 21 0 d2) 214 b (some d2)) (c_ar L 1202 0) c0 (some b)) ∧ c_E L' K1 (qs_C (qs_P (qs_R (qs_P (qs_R (qs_P (qs_P (qs_R (qs_O (qs_O S 1 b) 8 b1) 21 0 c1) 1600 b1 (some c1)) 204 b (some b1)) 21 0 d1) 213 b (some d1)) 21 0 d2) 214 b (some d2)) (c_ar L 1202 0) c0 (some b)) = (qs_C (qs_P (qs_R (qs_P (qs_R (qs_P (qs_P (qs_R (qs_O (qs_O S 1 b) 8 b1) 21 0 c1) 1600 b1 (some c1)) 204 b (some b1)) 21 0 d1) 213 b (some d1)) 21 0 d2) 214 b (some d2)) (c_ar L 1202 0) c0 (some b)) ∧ LX L L' ∧ c_mk L' 1 c0 ∧ c_ob L' 1 c0 = b ∧ (∀ f i : Nat, ¬ ((f / 200 = 1 ∧ i = c0) ∨ (f / 200 = 8 ∧ i = 1000 + c0)) → c_I K1 f i = c_I K f i ∧ c_J K1 f i = c_J K f i ∧ (∀ j : Nat, c_A K1 f i j = c_A K f i j) ∧ c_P K1 f i = c_P K f i) ∧ c_ln L' 213 c0 = 0 ∧ c_ln L' 214 c0 = 0 := by
  have gE := WD_g wd
  have m6 := g_m6 gE
  have li := wd.2.1.2
  have maA : ∀ f : Nat, f ∈ c_af → ∀ i : Nat, c_mk L (f / 200) i → c_ma L f i := fun f hf i m => (gE.2.2.2.2.1 f hf i m).1
  have krA : ∀ f i : Nat, c_ma L f i → q_K S (c_ar L f i) ≠ 0 := fun f i m => by rw [(gE.2.2.1 f i m).1]; exact c_kd0 f
  have ma := maA 1202 (by decide) 0 m6
  have nb : b ≠ b1 := fun z => by
    rw [← z] at hb1
    exact absurd hb1 (by show ¬ (if b = b then 2 else _) = 0; rw [if_pos rfl]; decide)
  have nb' : b1 ≠ b := Ne.symm nb
  have xA : AGX S (qs_C (qs_P (qs_R (qs_P (qs_R (qs_P (qs_P (qs_R (qs_O (qs_O S 1 b) 8 b1) 21 0 c1) 1600 b1 (some c1)) 204 b (some b1)) 21 0 d1) 213 b (some d1)) 21 0 d2) 214 b (some d2)) (c_ar L 1202 0) c0 (some b)) (fun a j => a = c_ar L 1202 0 ∧ j = c0) (fun a => a = b ∨ a = b1) := ax_C (ax_P (ax_R (ax_P (ax_R (ax_P (ax_P (ax_R (ax_O (ax_O ax_0 hb) hb1) hc1) (by simp)) (by simp)) hd1) (by simp)) hd2) (by simp)) ⟨rfl, rfl⟩
  have xb : AGX (qs_O S 1 b) (qs_C (qs_P (qs_R (qs_P (qs_R (qs_P (qs_P (qs_R (qs_O (qs_O S 1 b) 8 b1) 21 0 c1) 1600 b1 (some c1)) 204 b (some b1)) 21 0 d1) 213 b (some d1)) 21 0 d2) 214 b (some d2)) (c_ar L 1202 0) c0 (some b)) (fun a j => a = c_ar L 1202 0 ∧ j = c0) (fun a => a = b ∨ a = b1) := ax_C (ax_P (ax_R (ax_P (ax_R (ax_P (ax_P (ax_R (ax_O ax_0 hb1) hc1) (by simp)) (by simp)) hd1) (by simp)) hd2) (by simp)) ⟨rfl, rfl⟩
  have xb1 : AGX (qs_O (qs_O S 1 b) 8 b1) (qs_C (qs_P (qs_R (qs_P (qs_R (qs_P (qs_P (qs_R (qs_O (qs_O S 1 b) 8 b1) 21 0 c1) 1600 b1 (some c1)) 204 b (some b1)) 21 0 d1) 213 b (some d1)) 21 0 d2) 214 b (some d2)) (c_ar L 1202 0) c0 (some b)) (fun a j => a = c_ar L 1202 0 ∧ j = c0) (fun a => a = b ∨ a = b1) := ax_C (ax_P (ax_R (ax_P (ax_R (ax_P (ax_P (ax_R ax_0 hc1) (by simp)) (by simp)) hd1) (by simp)) hd2) (by simp)) ⟨rfl, rfl⟩
  have xc1 : AGX (qs_R (qs_O (qs_O S 1 b) 8 b1) 21 0 c1) (qs_C (qs_P (qs_R (qs_P (qs_R (qs_P (qs_P (qs_R (qs_O (qs_O S 1 b) 8 b1) 21 0 c1) 1600 b1 (some c1)) 204 b (some b1)) 21 0 d1) 213 b (some d1)) 21 0 d2) 214 b (some d2)) (c_ar L 1202 0) c0 (some b)) (fun a j => a = c_ar L 1202 0 ∧ j = c0) (fun a => a = b ∨ a = b1) := ax_C (ax_P (ax_R (ax_P (ax_R (ax_P (ax_P ax_0 (by simp)) (by simp)) hd1) (by simp)) hd2) (by simp)) ⟨rfl, rfl⟩
  have xd1 : AGX (qs_R (qs_P (qs_P (qs_R (qs_O (qs_O S 1 b) 8 b1) 21 0 c1) 1600 b1 (some c1)) 204 b (some b1)) 21 0 d1) (qs_C (qs_P (qs_R (qs_P (qs_R (qs_P (qs_P (qs_R (qs_O (qs_O S 1 b) 8 b1) 21 0 c1) 1600 b1 (some c1)) 204 b (some b1)) 21 0 d1) 213 b (some d1)) 21 0 d2) 214 b (some d2)) (c_ar L 1202 0) c0 (some b)) (fun a j => a = c_ar L 1202 0 ∧ j = c0) (fun a => a = b ∨ a = b1) := ax_C (ax_P (ax_R (ax_P ax_0 (by simp)) hd2) (by simp)) ⟨rfl, rfl⟩
  have xd2 : AGX (qs_R (qs_P (qs_R (qs_P (qs_P (qs_R (qs_O (qs_O S 1 b) 8 b1) 21 0 c1) 1600 b1 (some c1)) 204 b (some b1)) 21 0 d1) 213 b (some d1)) 21 0 d2) (qs_C (qs_P (qs_R (qs_P (qs_R (qs_P (qs_P (qs_R (qs_O (qs_O S 1 b) 8 b1) 21 0 c1) 1600 b1 (some c1)) 204 b (some b1)) 21 0 d1) 213 b (some d1)) 21 0 d2) 214 b (some d2)) (c_ar L 1202 0) c0 (some b)) (fun a j => a = c_ar L 1202 0 ∧ j = c0) (fun a => a = b ∨ a = b1) := ax_C (ax_P ax_0 (by simp)) ⟨rfl, rfl⟩
  have fb1 : q_K S b1 = 0 := ax_f (ax_O (sa := fun _ _ => False) (pa := (fun a => a = b ∨ a = b1)) ax_0 hb) hb1
  have fc1 : q_K S c1 = 0 := ax_f (ax_O (ax_O (sa := fun _ _ => False) (pa := (fun a => a = b ∨ a = b1)) ax_0 hb) hb1) hc1
  have fd1 : q_K S d1 = 0 := ax_f (ax_P (ax_P (ax_R (ax_O (ax_O (sa := fun _ _ => False) (pa := (fun a => a = b ∨ a = b1)) ax_0 hb) hb1) hc1) (by simp)) (by simp)) hd1
  have fd2 : q_K S d2 = 0 := ax_f (ax_P (ax_R (ax_P (ax_P (ax_R (ax_O (ax_O (sa := fun _ _ => False) (pa := (fun a => a = b ∨ a = b1)) ax_0 hb) hb1) hc1) (by simp)) (by simp)) hd1) (by simp)) hd2
  have a3 : AGR S (qs_C (qs_P (qs_R (qs_P (qs_R (qs_P (qs_P (qs_R (qs_O (qs_O S 1 b) 8 b1) 21 0 c1) 1600 b1 (some c1)) 204 b (some b1)) 21 0 d1) 213 b (some d1)) 21 0 d2) 214 b (some d2)) (c_ar L 1202 0) c0 (some b)) (fun a j => a = c_ar L 1202 0 ∧ j = c0) := ax_ag xA (fun a h => by rcases h with h | h <;> rw [h] <;> assumption)
  have u0 : ∀ x ∈ ([] : List Nat), q_K (qs_O (qs_O S 1 b) 8 b1) x ≠ 0 := fun x hx => by cases hx
  obtain ⟨uc1, nc1⟩ := us_1 (k := 21) (n := 0) (f := 1600) (a := b1) (v := some c1) u0 hc1 (by decide)
  have uP := us_P (f := 204) (a := b) (v := some b1) uc1
  obtain ⟨ud1, nd1⟩ := us_1 (k := 21) (n := 0) (f := 213) (a := b) (v := some d1) uP hd1 (by decide)
  obtain ⟨ud2, nd2⟩ := us_1 (k := 21) (n := 0) (f := 214) (a := b) (v := some d2) ud1 hd2 (by decide)
  have sc1 : ∀ j : Nat, ¬ (c1 = c_ar L 1202 0 ∧ j = c0) := fun j z => krA _ _ ma (z.1 ▸ fc1)
  obtain ⟨kc1, lc1, zc1, yc1⟩ := ax_row xc1 (by decide) sc1
  have sd1 : ∀ j : Nat, ¬ (d1 = c_ar L 1202 0 ∧ j = c0) := fun j z => krA _ _ ma (z.1 ▸ fd1)
  obtain ⟨kd1, ld1, zd1, yd1⟩ := ax_row xd1 (by decide) sd1
  have sd2 : ∀ j : Nat, ¬ (d2 = c_ar L 1202 0 ∧ j = c0) := fun j z => krA _ _ ma (z.1 ▸ fd2)
  obtain ⟨kd2, ld2, zd2, yd2⟩ := ax_row xd2 (by decide) sd2
  obtain ⟨kb, zb⟩ := ax_obj xb
  obtain ⟨kb1, zb1⟩ := ax_obj xb1
  have no : lnd [(b1, (8, 1000 + c0)), (b, (1, c0))] := ⟨by simp [nb, nb'], by simp⟩
  have na : lnd [(d2, (214, c0)), (d1, (213, c0)), (c1, (1600, 1000 + c0))] := ⟨(List.nodup_cons.mpr ⟨nd2, (List.nodup_cons.mpr ⟨nd1, (List.nodup_cons.mpr ⟨nc1, List.nodup_nil⟩)⟩)⟩), by simp⟩
  have ko : ∀ c i : Nat, lk [(b1, (8, 1000 + c0)), (b, (1, c0))] c i ↔ (c = 1 ∧ i = c0) ∨ (c = 8 ∧ i = 1000 + c0) := fun c i => by
    constructor
    · rintro ⟨a, h⟩
      simp at h
      omega
    · rintro (h | h)
      · exact ⟨b, by simp [h.1, h.2]⟩
      · exact ⟨b1, by simp [h.1, h.2]⟩
  have ka : ∀ f i : Nat, lk [(d2, (214, c0)), (d1, (213, c0)), (c1, (1600, 1000 + c0))] f i ↔ ((f = 213 ∨ f = 214) ∧ i = c0) ∨ (f = 1600 ∧ i = 1000 + c0) := fun f i => by
    constructor
    · rintro ⟨a, h⟩
      simp at h
      omega
    · rintro (⟨h | h, h'⟩ | ⟨h, h'⟩)
      · exact ⟨d1, by simp [h, h']⟩
      · exact ⟨d2, by simp [h, h']⟩
      · exact ⟨c1, by simp [h, h']⟩
  have k30 : ∀ a : Nat, q_K S a = 0 → q_K (qs_C (qs_P (qs_R (qs_P (qs_R (qs_P (qs_P (qs_R (qs_O (qs_O S 1 b) 8 b1) 21 0 c1) 1600 b1 (some c1)) 204 b (some b1)) 21 0 d1) 213 b (some d1)) 21 0 d2) 214 b (some d2)) (c_ar L 1202 0) c0 (some b)) a ≠ 30 := fun a ha => by
    have : q_K (qs_C (qs_P (qs_R (qs_P (qs_R (qs_P (qs_P (qs_R (qs_O (qs_O S 1 b) 8 b1) 21 0 c1) 1600 b1 (some c1)) 204 b (some b1)) 21 0 d1) 213 b (some d1)) 21 0 d2) 214 b (some d2)) (c_ar L 1202 0) c0 (some b)) a = if a = d2 then 21 else if a = d1 then 21 else if a = c1 then 21 else if a = b1 then 9 else if a = b then 2 else q_K S a := rfl
    rw [this, ha]
    repeat' split
    all_goals decide
  have nh : NWH L S (qs_C (qs_P (qs_R (qs_P (qs_R (qs_P (qs_P (qs_R (qs_O (qs_O S 1 b) 8 b1) 21 0 c1) 1600 b1 (some c1)) 204 b (some b1)) 21 0 d1) 213 b (some d1)) 21 0 d2) 214 b (some d2)) (c_ar L 1202 0) c0 (some b)) (lno [(b1, (8, 1000 + c0)), (b, (1, c0))]) (lno [(d2, (214, c0)), (d1, (213, c0)), (c1, (1600, 1000 + c0))]) (lbo [(b1, (8, 1000 + c0)), (b, (1, c0))]) (lbo [(d2, (214, c0)), (d1, (213, c0)), (c1, (1600, 1000 + c0))]) (fun _ _ => 0) := by
    refine NWl gE no na k30 (fun x hx => ?_) (fun x hx => ?_) (fun f i hf => ?_) (fun q hq i => ?_) (fun f hf i a b' h h' => ?_) (fun q hq i h => ?_) (fun i => ?_) (fun i => ?_) (fun c i h => ?_) (fun p' j m h => ?_) (fun p' h => ?_) (fun j => ?_)
    · simp only [List.mem_cons, List.not_mem_nil, or_false] at hx
      rcases hx with rfl | rfl
      · refine ⟨fb1, kb1, zb1, fun f hd => ?_⟩
        have z : ∀ x : Nat, c_dy x = false → f ≠ x := fun x hx y => by rw [y, hx] at hd; cases hd
        simp [p_P, p_R, p_C, p_O, nb, nb', z 1600 rfl]
      · refine ⟨hb, kb, zb, fun f hd => ?_⟩
        have z : ∀ x : Nat, c_dy x = false → f ≠ x := fun x hx y => by rw [y, hx] at hd; cases hd
        simp [p_P, p_R, p_C, p_O, nb, nb', z 213 rfl, z 214 rfl, z 204 rfl]
    · simp only [List.mem_cons, List.not_mem_nil, or_false] at hx
      rcases hx with rfl | rfl | rfl
      · exact ⟨fd2, kd2, ld2, zd2⟩
      · exact ⟨fd1, kd1, ld1, zd1⟩
      · exact ⟨fc1, kc1, lc1, zc1⟩
    · rw [ka, ko]
      have : ∀ f ∈ c_af, ((f = 213 ∨ f = 214) ↔ f / 200 = 1) ∧ (f = 1600 ↔ f / 200 = 8) := by decide
      rw [(this f hf).1, (this f hf).2]
    · rw [ko, ko]
      have : ∀ q ∈ c_pf, (q.1 / 200 ≠ 1 ∧ q.1 / 200 ≠ 8) ∧ q.2 ≠ 1 ∧ q.2 ≠ 8 := by decide
      have t := this q hq
      refine ⟨by omega, fun a b' h h' => ?_⟩
      have := (ko _ _).mp ⟨_, h⟩
      omega
    · have e1 := (ka _ _).mp ⟨_, h'⟩
      rcases e1 with ⟨rfl | rfl, e2⟩ | ⟨rfl, e2⟩ <;> (simp at h h'; rw [h.1, h'.1]; simp [p_P, p_R, p_C, p_O, nb, nb'])
    · have : ∀ q ∈ c_fl, q.1 ≠ 213 ∧ q.1 ≠ 214 ∧ q.1 ≠ 1600 := by decide
      have t := this q hq
      have := (ka _ _).mp h
      omega
    · rw [ko, ko]
      refine ⟨by omega, fun a b' h h' => ?_⟩
      simp at h h'
      rw [h.1, h'.1]
      simp [p_P, p_R, p_C, p_O, nb, nb']
    · refine ⟨fun j hj => ?_, fun a h => by have := (ko _ _).mp ⟨_, h⟩; omega⟩
      rw [ko, ko]
      have : i = j ∧ 16 ≤ i % 48 ∧ i % 48 < 24 := by
        unfold c_qu at hj
        split at hj
        · injection hj with hj; exact ⟨hj, by assumption⟩
        · cases hj
      omega
    · have := (ko _ _).mp h
      omega
    · have r3 := krA _ _ (maA 1003 (by decide) p' m)
      have r5 := krA _ _ (maA 1005 (by decide) p' m)
      exact ⟨fun b' _ h => by have := (ko _ _).mp ⟨_, h⟩; omega, fun _ => (a3 _ r3).2.2.2.2 j (fun z => absurd (g_injA (maA 1003 (by decide) p' m) ma z.1).1 (by decide)), fun b' _ h => by have := (ko _ _).mp ⟨_, h⟩; omega, fun _ => (a3 _ r5).2.2.2.2 j (fun z => absurd (g_injA (maA 1005 (by decide) p' m) ma z.1).1 (by decide))⟩
    · have := (ko _ _).mp h
      omega
    · have r0 := krA _ _ (maA 1200 (by decide) 0 m6)
      have r2 := krA _ _ (maA 1202 (by decide) 0 m6)
      refine ⟨fun b' _ h => by have := (ko _ _).mp ⟨_, h⟩; omega, fun _ => (a3 _ r0).2.2.2.2 j (fun z => absurd (g_injA (maA 1200 (by decide) 0 m6) ma z.1).1 (by decide)), fun b' _ h => ?_, fun h => ?_⟩
      · simp at h
        rw [h.1, h.2]
        exact if_pos ⟨rfl, rfl⟩
      · refine (a3 _ r2).2.2.2.2 j (fun z => h ?_)
        rw [z.2, ko]
        exact ⟨hp, Or.inl ⟨rfl, rfl⟩⟩
  have lm : ∀ {c i : Nat}, c_mk (c_xt L (lno [(b1, (8, 1000 + c0)), (b, (1, c0))]) (lno [(d2, (214, c0)), (d1, (213, c0)), (c1, (1600, 1000 + c0))]) (lbo [(b1, (8, 1000 + c0)), (b, (1, c0))]) (lbo [(d2, (214, c0)), (d1, (213, c0)), (c1, (1600, 1000 + c0))]) (fun _ _ => 0)) c i ↔ lk [(b1, (8, 1000 + c0)), (b, (1, c0))] c i ∨ (¬ lk [(b1, (8, 1000 + c0)), (b, (1, c0))] c i ∧ c_mk L c i) := fun {c i} => l_mk gE no (fun x hx => by
    simp only [List.mem_cons, List.not_mem_nil, or_false] at hx
    rcases hx with rfl | rfl
    · exact fb1
    · exact hb)
  have up : ∀ {c i : Nat}, c_mk L c i → c_mk (c_xt L (lno [(b1, (8, 1000 + c0)), (b, (1, c0))]) (lno [(d2, (214, c0)), (d1, (213, c0)), (c1, (1600, 1000 + c0))]) (lbo [(b1, (8, 1000 + c0)), (b, (1, c0))]) (lbo [(d2, (214, c0)), (d1, (213, c0)), (c1, (1600, 1000 + c0))]) (fun _ _ => 0)) c i := fun {c i} m => by
    by_cases z : lk [(b1, (8, 1000 + c0)), (b, (1, c0))] c i
    · exact lm.mpr (Or.inl z)
    · exact lm.mpr (Or.inr ⟨z, m⟩)
  have lnN : ∀ {f i : Nat}, lk [(d2, (214, c0)), (d1, (213, c0)), (c1, (1600, 1000 + c0))] f i → c_ln (c_xt L (lno [(b1, (8, 1000 + c0)), (b, (1, c0))]) (lno [(d2, (214, c0)), (d1, (213, c0)), (c1, (1600, 1000 + c0))]) (lbo [(b1, (8, 1000 + c0)), (b, (1, c0))]) (lbo [(d2, (214, c0)), (d1, (213, c0)), (c1, (1600, 1000 + c0))]) (fun _ _ => 0)) f i = (fun _ _ => 0) f i := fun {f i} h => xt_ln ((l_nO na).mpr h)
  have lnO : ∀ {f i : Nat}, ¬ lk [(d2, (214, c0)), (d1, (213, c0)), (c1, (1600, 1000 + c0))] f i → c_ln (c_xt L (lno [(b1, (8, 1000 + c0)), (b, (1, c0))]) (lno [(d2, (214, c0)), (d1, (213, c0)), (c1, (1600, 1000 + c0))]) (lbo [(b1, (8, 1000 + c0)), (b, (1, c0))]) (lbo [(d2, (214, c0)), (d1, (213, c0)), (c1, (1600, 1000 + c0))]) (fun _ _ => 0)) f i = c_ln L f i := fun {f i} h => xt_lnn (fun z => h ((l_nO na).mp z))
  have li' : LI (c_xt L (lno [(b1, (8, 1000 + c0)), (b, (1, c0))]) (lno [(d2, (214, c0)), (d1, (213, c0)), (c1, (1600, 1000 + c0))]) (lbo [(b1, (8, 1000 + c0)), (b, (1, c0))]) (lbo [(d2, (214, c0)), (d1, (213, c0)), (c1, (1600, 1000 + c0))]) (fun _ _ => 0)) := by
    refine ⟨fun p' m => ?_, fun i m => ?_, fun c m => ?_, fun p' j hj m => ?_, fun p' j hj m => ?_, fun c i m => ?_, fun i m => ?_, fun p' m => ?_⟩
    · rw [lnO (fun y => by have := (ka _ _).mp y; omega), lnO (fun y => by have := (ka _ _).mp y; omega)]
      rcases lm.mp m with h | h
      · have := (ko _ _).mp h
        omega
      · exact li.1 p' h.2
    · by_cases z : i = 1000 + c0
      · rw [lnN ((ka _ _).mpr (Or.inr ⟨rfl, z⟩))]
        exact (by decide : 0 < 2 ^ 31)
      · rw [lnO (fun y => by have := (ka _ _).mp y; omega)]
        rcases lm.mp m with h | h
        · have := (ko _ _).mp h
          omega
        · exact li.2.1 i h.2
    · by_cases z : c = c0
      · rw [lnN ((ka _ _).mpr (Or.inl ⟨Or.inl rfl, z⟩)), lnN ((ka _ _).mpr (Or.inl ⟨Or.inr rfl, z⟩))]
        exact Or.inr ⟨rfl, rfl⟩
      · rw [lnO (fun y => by have := (ka _ _).mp y; omega), lnO (fun y => by have := (ka _ _).mp y; omega)]
        rcases lm.mp m with h | h
        · have := (ko _ _).mp h
          omega
        · exact li.2.2.1 c h.2
    · rcases lm.mp m with h | h
      · have := (ko _ _).mp h
        omega
      · exact up (li.2.2.2.1 p' j hj h.2)
    · rcases lm.mp m with h | h
      · have := (ko _ _).mp h
        omega
      · exact up (li.2.2.2.2.1 p' j hj h.2)
    · rcases lm.mp m with h | h
      · have := (ko _ _).mp h
        omega
      · exact li.2.2.2.2.2.1 c i h.2
    · rcases lm.mp m with h | h
      · have := (ko _ _).mp h
        exact Or.inr ⟨by omega, lm.mpr (Or.inl ((ko _ _).mpr (Or.inl ⟨rfl, by omega⟩)))⟩
      · rcases li.2.2.2.2.2.2.1 i h.2 with h | h
        · exact Or.inl ⟨h.1, up h.2⟩
        · exact Or.inr ⟨h.1, up h.2⟩
    · rcases lm.mp m with h | h
      · have := (ko _ _).mp h
        omega
      · exact up (li.2.2.2.2.2.2.2 p' h.2)
  obtain ⟨wd', cs'⟩ := NEW_WD wd cs a3 nh li' (fun f i x hd _ hx => by
    have o : ∀ c : Nat, c ≠ 1 → c ≠ 8 → c_ob (c_xt L (lno [(b1, (8, 1000 + c0)), (b, (1, c0))]) (lno [(d2, (214, c0)), (d1, (213, c0)), (c1, (1600, 1000 + c0))]) (lbo [(b1, (8, 1000 + c0)), (b, (1, c0))]) (lbo [(d2, (214, c0)), (d1, (213, c0)), (c1, (1600, 1000 + c0))]) (fun _ _ => 0)) c x = c_ob L c x := fun c h1 h8 => xt_obn (fun z => by have := (ko _ _).mp ((l_nO no).mp z); omega)
    have a : c_ar (c_xt L (lno [(b1, (8, 1000 + c0)), (b, (1, c0))]) (lno [(d2, (214, c0)), (d1, (213, c0)), (c1, (1600, 1000 + c0))]) (lbo [(b1, (8, 1000 + c0)), (b, (1, c0))]) (lbo [(d2, (214, c0)), (d1, (213, c0)), (c1, (1600, 1000 + c0))]) (fun _ _ => 0)) 1411 x = c_ar L 1411 x := xt_arn (fun z => by have := (ka _ _).mp ((l_nO na).mp z); omega)
    unfold c_tg
    split
    · exact o 6 (by decide) (by decide)
    · exact o 5 (by decide) (by decide)
    · exact o 7 (by decide) (by decide)
    · exact a
    · exact o 5 (by decide) (by decide))
  have lx : LX L (c_xt L (lno [(b1, (8, 1000 + c0)), (b, (1, c0))]) (lno [(d2, (214, c0)), (d1, (213, c0)), (c1, (1600, 1000 + c0))]) (lbo [(b1, (8, 1000 + c0)), (b, (1, c0))]) (lbo [(d2, (214, c0)), (d1, (213, c0)), (c1, (1600, 1000 + c0))]) (fun _ _ => 0)) := LX_xt gE nh (fun c i z m => by
    have y := (ko _ _).mp ((l_nO no).mp z)
    rcases y with ⟨y, y'⟩ | ⟨y, y'⟩
    · rw [y, y'] at m
      exact m5 m
    · rw [y, y'] at m
      rcases li.2.2.2.2.2.2.1 _ m with h | h
      · omega
      · exact m5 (by have := h.2; rw [Nat.add_sub_cancel_left] at this; exact this))
  exact ⟨_, _, wd', cs', lx, lm.mpr (Or.inl ((ko _ _).mpr (Or.inl ⟨rfl, rfl⟩))), (xt_ob ((l_nO no).mpr ((ko _ _).mpr (Or.inl ⟨rfl, rfl⟩)))).trans (lbo_s no (by simp)), fun f i h => ⟨k_xtI (fun z => h ((ko _ _).mp ((l_nO no).mp z))), k_xtJ (fun z => h ((ko _ _).mp ((l_nO no).mp z))), fun j => k_xtA (fun z => h (by have := (ka _ _).mp ((l_nO na).mp z); omega)), k_xtP (fun z => h ((ko _ _).mp ((l_nO no).mp z)))⟩, lnN ((ka _ _).mpr (Or.inl ⟨Or.inl rfl, rfl⟩)), lnN ((ka _ _).mpr (Or.inl ⟨Or.inr rfl, rfl⟩))⟩
