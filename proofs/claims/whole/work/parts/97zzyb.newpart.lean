/-! A partition's objects and rows, made. -/
theorem c_newPart {e : EV} {L : c_L} {S : q_S} {K : c_S} {p b b1 c1 c2 c3 c4 d1 d2 d3 d4 : Nat} (wd : WD e L S) (cs : c_E L K S = S) (ri : RI K) (hp : p < 16) (m5 : ¬ c_mk L 5 p) (hb : q_K S b = 0) (hb1 : q_K (qs_O S 5 b) b1 = 0) (hc1 : q_K (qs_O (qs_O S 5 b) 4 b1) c1 = 0) (hc2 : q_K (qs_P (qs_R (qs_O (qs_O S 5 b) 4 b1) 21 0 c1) 801 b1 (some c1)) c2 = 0) (hc3 : q_K (qs_P (qs_R (qs_P (qs_R (qs_O (qs_O S 5 b) 4 b1) 21 0 c1) 801 b1 (some c1)) 21 0 c2) 802 b1 (some c2)) c3 = 0) (hc4 : q_K (qs_P (qs_R (qs_P (qs_R (qs_P (qs_R (qs_O (qs_O S 5 b) 4 b1) 21 0 c1) 801 b1 (some c1)) 21 0 c2) 802 b1 (some c2)) 21 6 c3) 804 b1 (some c3)) c4 = 0) (hd1 : q_K (qs_P (qs_P (qs_R (qs_P (qs_R (qs_P (qs_R (qs_P (qs_R (qs_O (qs_O S 5 b) 4 b1) 21 0 c1) 801 b1 (some c1)) 21 0 c2) 802 b1 (some c2)) 21 6 c3) 804 b1 (some c3)) 21 6 c4) 805 b1 (some c4)) 1002 b (some b1)) d1 = 0) (hd2 : q_K (qs_P (qs_R (qs_P (qs_P (qs_R (qs_P (qs_R (qs_P (qs_R (qs_P (qs_R (qs_O (qs_O S 5 b) 4 b1) 21 0 c1) 801 b1 (some c1)) 21 0 c2) 802 b1 (some c2)) 21 6 c3) 804 b1 (some c3)) 21 6 c4) 805 b1 (some c4)) 1002 b (some b1)) 26 16 d1) 1003 b (some d1)) d2 = 0) (hd3 : q_K (qs_P (qs_R (qs_P (qs_R (qs_P (qs_P (qs_R (qs_P (qs_R (qs_P (qs_R (qs_P (qs_R (qs_O (qs_O S 5 b) 4 b1) 21 0 c1) 801 b1 (some c1)) 21 0 c2) 802 b1 (some c2)) 21 6 c3) 804 b1 (some c3)) 21 6 c4) 805 b1 (some c4)) 1002 b (some b1)) 26 16 d1) 1003 b (some d1)) 27 48 d2) 1005 b (some d2)) d3 = 0) (hd4 : q_K (qs_P (qs_R (qs_P (qs_R (qs_P (qs_R (qs_P (qs_P (qs_R (qs_P (qs_R (qs_P (qs_R (qs_P (qs_R (qs_O (qs_O S 5 b) 4 b1) 21 0 c1) 801 b1 (some c1)) 21 0 c2) 802 b1 (some c2)) 21 6 c3) 804 b1 (some c3)) 21 6 c4) 805 b1 (some c4)) 1002 b (some b1)) 26 16 d1) 1003 b (some d1)) 27 48 d2) 1005 b (some d2)) 21 5 d3) 1006 b (some d3)) d4 = 0) :
  ∃ (L' : c_L) (K1 : c_S), WD e L' (qs_C (qs_P (qs_R (qs_P (qs_R (qs_P (qs_R (qs_P (qs_R (qs_P (qs_P (qs_R (qs_P (qs_R (qs_P (qs_R (qs_P (qs_R (qs_O (qs_O S 5 b) 4 b1) 21 0 c1) 801 b1 (some c1)) 21 0 c2) 802 b1 (some c2)) 21 6 c3) 804 b1 (some c3)) 21 6 c4) 805 b1 (some c4)) 1002 b (some b1)) 26 16 d1) 1003 b (some d1)) 27 48 d2) 1005 b (some d2)) 21 5 d3) 1006 b (some d3)) 21 5 d4) 1007 b (some d4)) (c_ar L 1200 0) p (some b)) ∧ c_E L' K1 (qs_C (qs_P (qs_R (qs_P (qs_R (qs_P (qs_R (qs_P (qs_R (qs_P (qs_P (qs_R (qs_P (qs_R (qs_P (qs_R (qs_P (qs_R (qs_O (qs_O S 5 b) 4 b1) 21 0 c1) 801 b1 (some c1)) 21 0 c2) 802 b1 (some c2)) 21 6 c3) 804 b1 (some c3)) 21 6 c4) 805 b1 (some c4)) 1002 b (some b1)) 26 16 d1) 1003 b (some d1)) 27 48 d2) 1005 b (some d2)) 21 5 d3) 1006 b (some d3)) 21 5 d4) 1007 b (some d4)) (c_ar L 1200 0) p (some b)) = (qs_C (qs_P (qs_R (qs_P (qs_R (qs_P (qs_R (qs_P (qs_R (qs_P (qs_P (qs_R (qs_P (qs_R (qs_P (qs_R (qs_P (qs_R (qs_O (qs_O S 5 b) 4 b1) 21 0 c1) 801 b1 (some c1)) 21 0 c2) 802 b1 (some c2)) 21 6 c3) 804 b1 (some c3)) 21 6 c4) 805 b1 (some c4)) 1002 b (some b1)) 26 16 d1) 1003 b (some d1)) 27 48 d2) 1005 b (some d2)) 21 5 d3) 1006 b (some d3)) 21 5 d4) 1007 b (some d4)) (c_ar L 1200 0) p (some b)) ∧ LX L L' ∧ c_mk L' 5 p ∧ c_ob L' 5 p = b ∧ (∀ f i : Nat, ¬ ((f / 200 = 5 ∨ f / 200 = 4) ∧ i = p) → c_I K1 f i = c_I K f i ∧ c_J K1 f i = c_J K f i ∧ (∀ j : Nat, c_A K1 f i j = c_A K f i j) ∧ c_P K1 f i = c_P K f i) := by
  have gE := WD_g wd
  have m6 := g_m6 gE
  have li := wd.2.1.2
  have maA : ∀ f : Nat, f ∈ c_af → ∀ i : Nat, c_mk L (f / 200) i → c_ma L f i := fun f hf i m => (gE.2.2.2.2.1 f hf i m).1
  have krA : ∀ f i : Nat, c_ma L f i → q_K S (c_ar L f i) ≠ 0 := fun f i m => by rw [(gE.2.2.1 f i m).1]; exact c_kd0 f
  have ma := maA 1200 (by decide) 0 m6
  have nb : b ≠ b1 := fun z => by
    rw [← z] at hb1
    exact absurd hb1 (by show ¬ (if b = b then 6 else _) = 0; rw [if_pos rfl]; decide)
  have nb' : b1 ≠ b := Ne.symm nb
  have xA : AGX S (qs_C (qs_P (qs_R (qs_P (qs_R (qs_P (qs_R (qs_P (qs_R (qs_P (qs_P (qs_R (qs_P (qs_R (qs_P (qs_R (qs_P (qs_R (qs_O (qs_O S 5 b) 4 b1) 21 0 c1) 801 b1 (some c1)) 21 0 c2) 802 b1 (some c2)) 21 6 c3) 804 b1 (some c3)) 21 6 c4) 805 b1 (some c4)) 1002 b (some b1)) 26 16 d1) 1003 b (some d1)) 27 48 d2) 1005 b (some d2)) 21 5 d3) 1006 b (some d3)) 21 5 d4) 1007 b (some d4)) (c_ar L 1200 0) p (some b)) (fun a j => a = c_ar L 1200 0 ∧ j = p) (fun a => a = b ∨ a = b1) := ax_C (ax_P (ax_R (ax_P (ax_R (ax_P (ax_R (ax_P (ax_R (ax_P (ax_P (ax_R (ax_P (ax_R (ax_P (ax_R (ax_P (ax_R (ax_O (ax_O ax_0 hb) hb1) hc1) (by simp)) hc2) (by simp)) hc3) (by simp)) hc4) (by simp)) (by simp)) hd1) (by simp)) hd2) (by simp)) hd3) (by simp)) hd4) (by simp)) ⟨rfl, rfl⟩
  have xb : AGX (qs_O S 5 b) (qs_C (qs_P (qs_R (qs_P (qs_R (qs_P (qs_R (qs_P (qs_R (qs_P (qs_P (qs_R (qs_P (qs_R (qs_P (qs_R (qs_P (qs_R (qs_O (qs_O S 5 b) 4 b1) 21 0 c1) 801 b1 (some c1)) 21 0 c2) 802 b1 (some c2)) 21 6 c3) 804 b1 (some c3)) 21 6 c4) 805 b1 (some c4)) 1002 b (some b1)) 26 16 d1) 1003 b (some d1)) 27 48 d2) 1005 b (some d2)) 21 5 d3) 1006 b (some d3)) 21 5 d4) 1007 b (some d4)) (c_ar L 1200 0) p (some b)) (fun a j => a = c_ar L 1200 0 ∧ j = p) (fun a => a = b ∨ a = b1) := ax_C (ax_P (ax_R (ax_P (ax_R (ax_P (ax_R (ax_P (ax_R (ax_P (ax_P (ax_R (ax_P (ax_R (ax_P (ax_R (ax_P (ax_R (ax_O ax_0 hb1) hc1) (by simp)) hc2) (by simp)) hc3) (by simp)) hc4) (by simp)) (by simp)) hd1) (by simp)) hd2) (by simp)) hd3) (by simp)) hd4) (by simp)) ⟨rfl, rfl⟩
  have xb1 : AGX (qs_O (qs_O S 5 b) 4 b1) (qs_C (qs_P (qs_R (qs_P (qs_R (qs_P (qs_R (qs_P (qs_R (qs_P (qs_P (qs_R (qs_P (qs_R (qs_P (qs_R (qs_P (qs_R (qs_O (qs_O S 5 b) 4 b1) 21 0 c1) 801 b1 (some c1)) 21 0 c2) 802 b1 (some c2)) 21 6 c3) 804 b1 (some c3)) 21 6 c4) 805 b1 (some c4)) 1002 b (some b1)) 26 16 d1) 1003 b (some d1)) 27 48 d2) 1005 b (some d2)) 21 5 d3) 1006 b (some d3)) 21 5 d4) 1007 b (some d4)) (c_ar L 1200 0) p (some b)) (fun a j => a = c_ar L 1200 0 ∧ j = p) (fun a => a = b ∨ a = b1) := ax_C (ax_P (ax_R (ax_P (ax_R (ax_P (ax_R (ax_P (ax_R (ax_P (ax_P (ax_R (ax_P (ax_R (ax_P (ax_R (ax_P (ax_R ax_0 hc1) (by simp)) hc2) (by simp)) hc3) (by simp)) hc4) (by simp)) (by simp)) hd1) (by simp)) hd2) (by simp)) hd3) (by simp)) hd4) (by simp)) ⟨rfl, rfl⟩
  have xc1 : AGX (qs_R (qs_O (qs_O S 5 b) 4 b1) 21 0 c1) (qs_C (qs_P (qs_R (qs_P (qs_R (qs_P (qs_R (qs_P (qs_R (qs_P (qs_P (qs_R (qs_P (qs_R (qs_P (qs_R (qs_P (qs_R (qs_O (qs_O S 5 b) 4 b1) 21 0 c1) 801 b1 (some c1)) 21 0 c2) 802 b1 (some c2)) 21 6 c3) 804 b1 (some c3)) 21 6 c4) 805 b1 (some c4)) 1002 b (some b1)) 26 16 d1) 1003 b (some d1)) 27 48 d2) 1005 b (some d2)) 21 5 d3) 1006 b (some d3)) 21 5 d4) 1007 b (some d4)) (c_ar L 1200 0) p (some b)) (fun a j => a = c_ar L 1200 0 ∧ j = p) (fun a => a = b ∨ a = b1) := ax_C (ax_P (ax_R (ax_P (ax_R (ax_P (ax_R (ax_P (ax_R (ax_P (ax_P (ax_R (ax_P (ax_R (ax_P (ax_R (ax_P ax_0 (by simp)) hc2) (by simp)) hc3) (by simp)) hc4) (by simp)) (by simp)) hd1) (by simp)) hd2) (by simp)) hd3) (by simp)) hd4) (by simp)) ⟨rfl, rfl⟩
  have xc2 : AGX (qs_R (qs_P (qs_R (qs_O (qs_O S 5 b) 4 b1) 21 0 c1) 801 b1 (some c1)) 21 0 c2) (qs_C (qs_P (qs_R (qs_P (qs_R (qs_P (qs_R (qs_P (qs_R (qs_P (qs_P (qs_R (qs_P (qs_R (qs_P (qs_R (qs_P (qs_R (qs_O (qs_O S 5 b) 4 b1) 21 0 c1) 801 b1 (some c1)) 21 0 c2) 802 b1 (some c2)) 21 6 c3) 804 b1 (some c3)) 21 6 c4) 805 b1 (some c4)) 1002 b (some b1)) 26 16 d1) 1003 b (some d1)) 27 48 d2) 1005 b (some d2)) 21 5 d3) 1006 b (some d3)) 21 5 d4) 1007 b (some d4)) (c_ar L 1200 0) p (some b)) (fun a j => a = c_ar L 1200 0 ∧ j = p) (fun a => a = b ∨ a = b1) := ax_C (ax_P (ax_R (ax_P (ax_R (ax_P (ax_R (ax_P (ax_R (ax_P (ax_P (ax_R (ax_P (ax_R (ax_P ax_0 (by simp)) hc3) (by simp)) hc4) (by simp)) (by simp)) hd1) (by simp)) hd2) (by simp)) hd3) (by simp)) hd4) (by simp)) ⟨rfl, rfl⟩
  have xc3 : AGX (qs_R (qs_P (qs_R (qs_P (qs_R (qs_O (qs_O S 5 b) 4 b1) 21 0 c1) 801 b1 (some c1)) 21 0 c2) 802 b1 (some c2)) 21 6 c3) (qs_C (qs_P (qs_R (qs_P (qs_R (qs_P (qs_R (qs_P (qs_R (qs_P (qs_P (qs_R (qs_P (qs_R (qs_P (qs_R (qs_P (qs_R (qs_O (qs_O S 5 b) 4 b1) 21 0 c1) 801 b1 (some c1)) 21 0 c2) 802 b1 (some c2)) 21 6 c3) 804 b1 (some c3)) 21 6 c4) 805 b1 (some c4)) 1002 b (some b1)) 26 16 d1) 1003 b (some d1)) 27 48 d2) 1005 b (some d2)) 21 5 d3) 1006 b (some d3)) 21 5 d4) 1007 b (some d4)) (c_ar L 1200 0) p (some b)) (fun a j => a = c_ar L 1200 0 ∧ j = p) (fun a => a = b ∨ a = b1) := ax_C (ax_P (ax_R (ax_P (ax_R (ax_P (ax_R (ax_P (ax_R (ax_P (ax_P (ax_R (ax_P ax_0 (by simp)) hc4) (by simp)) (by simp)) hd1) (by simp)) hd2) (by simp)) hd3) (by simp)) hd4) (by simp)) ⟨rfl, rfl⟩
  have xc4 : AGX (qs_R (qs_P (qs_R (qs_P (qs_R (qs_P (qs_R (qs_O (qs_O S 5 b) 4 b1) 21 0 c1) 801 b1 (some c1)) 21 0 c2) 802 b1 (some c2)) 21 6 c3) 804 b1 (some c3)) 21 6 c4) (qs_C (qs_P (qs_R (qs_P (qs_R (qs_P (qs_R (qs_P (qs_R (qs_P (qs_P (qs_R (qs_P (qs_R (qs_P (qs_R (qs_P (qs_R (qs_O (qs_O S 5 b) 4 b1) 21 0 c1) 801 b1 (some c1)) 21 0 c2) 802 b1 (some c2)) 21 6 c3) 804 b1 (some c3)) 21 6 c4) 805 b1 (some c4)) 1002 b (some b1)) 26 16 d1) 1003 b (some d1)) 27 48 d2) 1005 b (some d2)) 21 5 d3) 1006 b (some d3)) 21 5 d4) 1007 b (some d4)) (c_ar L 1200 0) p (some b)) (fun a j => a = c_ar L 1200 0 ∧ j = p) (fun a => a = b ∨ a = b1) := ax_C (ax_P (ax_R (ax_P (ax_R (ax_P (ax_R (ax_P (ax_R (ax_P (ax_P ax_0 (by simp)) (by simp)) hd1) (by simp)) hd2) (by simp)) hd3) (by simp)) hd4) (by simp)) ⟨rfl, rfl⟩
  have xd1 : AGX (qs_R (qs_P (qs_P (qs_R (qs_P (qs_R (qs_P (qs_R (qs_P (qs_R (qs_O (qs_O S 5 b) 4 b1) 21 0 c1) 801 b1 (some c1)) 21 0 c2) 802 b1 (some c2)) 21 6 c3) 804 b1 (some c3)) 21 6 c4) 805 b1 (some c4)) 1002 b (some b1)) 26 16 d1) (qs_C (qs_P (qs_R (qs_P (qs_R (qs_P (qs_R (qs_P (qs_R (qs_P (qs_P (qs_R (qs_P (qs_R (qs_P (qs_R (qs_P (qs_R (qs_O (qs_O S 5 b) 4 b1) 21 0 c1) 801 b1 (some c1)) 21 0 c2) 802 b1 (some c2)) 21 6 c3) 804 b1 (some c3)) 21 6 c4) 805 b1 (some c4)) 1002 b (some b1)) 26 16 d1) 1003 b (some d1)) 27 48 d2) 1005 b (some d2)) 21 5 d3) 1006 b (some d3)) 21 5 d4) 1007 b (some d4)) (c_ar L 1200 0) p (some b)) (fun a j => a = c_ar L 1200 0 ∧ j = p) (fun a => a = b ∨ a = b1) := ax_C (ax_P (ax_R (ax_P (ax_R (ax_P (ax_R (ax_P ax_0 (by simp)) hd2) (by simp)) hd3) (by simp)) hd4) (by simp)) ⟨rfl, rfl⟩
  have xd2 : AGX (qs_R (qs_P (qs_R (qs_P (qs_P (qs_R (qs_P (qs_R (qs_P (qs_R (qs_P (qs_R (qs_O (qs_O S 5 b) 4 b1) 21 0 c1) 801 b1 (some c1)) 21 0 c2) 802 b1 (some c2)) 21 6 c3) 804 b1 (some c3)) 21 6 c4) 805 b1 (some c4)) 1002 b (some b1)) 26 16 d1) 1003 b (some d1)) 27 48 d2) (qs_C (qs_P (qs_R (qs_P (qs_R (qs_P (qs_R (qs_P (qs_R (qs_P (qs_P (qs_R (qs_P (qs_R (qs_P (qs_R (qs_P (qs_R (qs_O (qs_O S 5 b) 4 b1) 21 0 c1) 801 b1 (some c1)) 21 0 c2) 802 b1 (some c2)) 21 6 c3) 804 b1 (some c3)) 21 6 c4) 805 b1 (some c4)) 1002 b (some b1)) 26 16 d1) 1003 b (some d1)) 27 48 d2) 1005 b (some d2)) 21 5 d3) 1006 b (some d3)) 21 5 d4) 1007 b (some d4)) (c_ar L 1200 0) p (some b)) (fun a j => a = c_ar L 1200 0 ∧ j = p) (fun a => a = b ∨ a = b1) := ax_C (ax_P (ax_R (ax_P (ax_R (ax_P ax_0 (by simp)) hd3) (by simp)) hd4) (by simp)) ⟨rfl, rfl⟩
  have xd3 : AGX (qs_R (qs_P (qs_R (qs_P (qs_R (qs_P (qs_P (qs_R (qs_P (qs_R (qs_P (qs_R (qs_P (qs_R (qs_O (qs_O S 5 b) 4 b1) 21 0 c1) 801 b1 (some c1)) 21 0 c2) 802 b1 (some c2)) 21 6 c3) 804 b1 (some c3)) 21 6 c4) 805 b1 (some c4)) 1002 b (some b1)) 26 16 d1) 1003 b (some d1)) 27 48 d2) 1005 b (some d2)) 21 5 d3) (qs_C (qs_P (qs_R (qs_P (qs_R (qs_P (qs_R (qs_P (qs_R (qs_P (qs_P (qs_R (qs_P (qs_R (qs_P (qs_R (qs_P (qs_R (qs_O (qs_O S 5 b) 4 b1) 21 0 c1) 801 b1 (some c1)) 21 0 c2) 802 b1 (some c2)) 21 6 c3) 804 b1 (some c3)) 21 6 c4) 805 b1 (some c4)) 1002 b (some b1)) 26 16 d1) 1003 b (some d1)) 27 48 d2) 1005 b (some d2)) 21 5 d3) 1006 b (some d3)) 21 5 d4) 1007 b (some d4)) (c_ar L 1200 0) p (some b)) (fun a j => a = c_ar L 1200 0 ∧ j = p) (fun a => a = b ∨ a = b1) := ax_C (ax_P (ax_R (ax_P ax_0 (by simp)) hd4) (by simp)) ⟨rfl, rfl⟩
  have xd4 : AGX (qs_R (qs_P (qs_R (qs_P (qs_R (qs_P (qs_R (qs_P (qs_P (qs_R (qs_P (qs_R (qs_P (qs_R (qs_P (qs_R (qs_O (qs_O S 5 b) 4 b1) 21 0 c1) 801 b1 (some c1)) 21 0 c2) 802 b1 (some c2)) 21 6 c3) 804 b1 (some c3)) 21 6 c4) 805 b1 (some c4)) 1002 b (some b1)) 26 16 d1) 1003 b (some d1)) 27 48 d2) 1005 b (some d2)) 21 5 d3) 1006 b (some d3)) 21 5 d4) (qs_C (qs_P (qs_R (qs_P (qs_R (qs_P (qs_R (qs_P (qs_R (qs_P (qs_P (qs_R (qs_P (qs_R (qs_P (qs_R (qs_P (qs_R (qs_O (qs_O S 5 b) 4 b1) 21 0 c1) 801 b1 (some c1)) 21 0 c2) 802 b1 (some c2)) 21 6 c3) 804 b1 (some c3)) 21 6 c4) 805 b1 (some c4)) 1002 b (some b1)) 26 16 d1) 1003 b (some d1)) 27 48 d2) 1005 b (some d2)) 21 5 d3) 1006 b (some d3)) 21 5 d4) 1007 b (some d4)) (c_ar L 1200 0) p (some b)) (fun a j => a = c_ar L 1200 0 ∧ j = p) (fun a => a = b ∨ a = b1) := ax_C (ax_P ax_0 (by simp)) ⟨rfl, rfl⟩
  have fb1 : q_K S b1 = 0 := ax_f (ax_O (sa := fun _ _ => False) (pa := (fun a => a = b ∨ a = b1)) ax_0 hb) hb1
  have fc1 : q_K S c1 = 0 := ax_f (ax_O (ax_O (sa := fun _ _ => False) (pa := (fun a => a = b ∨ a = b1)) ax_0 hb) hb1) hc1
  have fc2 : q_K S c2 = 0 := ax_f (ax_P (ax_R (ax_O (ax_O (sa := fun _ _ => False) (pa := (fun a => a = b ∨ a = b1)) ax_0 hb) hb1) hc1) (by simp)) hc2
  have fc3 : q_K S c3 = 0 := ax_f (ax_P (ax_R (ax_P (ax_R (ax_O (ax_O (sa := fun _ _ => False) (pa := (fun a => a = b ∨ a = b1)) ax_0 hb) hb1) hc1) (by simp)) hc2) (by simp)) hc3
  have fc4 : q_K S c4 = 0 := ax_f (ax_P (ax_R (ax_P (ax_R (ax_P (ax_R (ax_O (ax_O (sa := fun _ _ => False) (pa := (fun a => a = b ∨ a = b1)) ax_0 hb) hb1) hc1) (by simp)) hc2) (by simp)) hc3) (by simp)) hc4
  have fd1 : q_K S d1 = 0 := ax_f (ax_P (ax_P (ax_R (ax_P (ax_R (ax_P (ax_R (ax_P (ax_R (ax_O (ax_O (sa := fun _ _ => False) (pa := (fun a => a = b ∨ a = b1)) ax_0 hb) hb1) hc1) (by simp)) hc2) (by simp)) hc3) (by simp)) hc4) (by simp)) (by simp)) hd1
  have fd2 : q_K S d2 = 0 := ax_f (ax_P (ax_R (ax_P (ax_P (ax_R (ax_P (ax_R (ax_P (ax_R (ax_P (ax_R (ax_O (ax_O (sa := fun _ _ => False) (pa := (fun a => a = b ∨ a = b1)) ax_0 hb) hb1) hc1) (by simp)) hc2) (by simp)) hc3) (by simp)) hc4) (by simp)) (by simp)) hd1) (by simp)) hd2
  have fd3 : q_K S d3 = 0 := ax_f (ax_P (ax_R (ax_P (ax_R (ax_P (ax_P (ax_R (ax_P (ax_R (ax_P (ax_R (ax_P (ax_R (ax_O (ax_O (sa := fun _ _ => False) (pa := (fun a => a = b ∨ a = b1)) ax_0 hb) hb1) hc1) (by simp)) hc2) (by simp)) hc3) (by simp)) hc4) (by simp)) (by simp)) hd1) (by simp)) hd2) (by simp)) hd3
  have fd4 : q_K S d4 = 0 := ax_f (ax_P (ax_R (ax_P (ax_R (ax_P (ax_R (ax_P (ax_P (ax_R (ax_P (ax_R (ax_P (ax_R (ax_P (ax_R (ax_O (ax_O (sa := fun _ _ => False) (pa := (fun a => a = b ∨ a = b1)) ax_0 hb) hb1) hc1) (by simp)) hc2) (by simp)) hc3) (by simp)) hc4) (by simp)) (by simp)) hd1) (by simp)) hd2) (by simp)) hd3) (by simp)) hd4
  have a3 : AGR S (qs_C (qs_P (qs_R (qs_P (qs_R (qs_P (qs_R (qs_P (qs_R (qs_P (qs_P (qs_R (qs_P (qs_R (qs_P (qs_R (qs_P (qs_R (qs_O (qs_O S 5 b) 4 b1) 21 0 c1) 801 b1 (some c1)) 21 0 c2) 802 b1 (some c2)) 21 6 c3) 804 b1 (some c3)) 21 6 c4) 805 b1 (some c4)) 1002 b (some b1)) 26 16 d1) 1003 b (some d1)) 27 48 d2) 1005 b (some d2)) 21 5 d3) 1006 b (some d3)) 21 5 d4) 1007 b (some d4)) (c_ar L 1200 0) p (some b)) (fun a j => a = c_ar L 1200 0 ∧ j = p) := ax_ag xA (fun a h => by rcases h with h | h <;> rw [h] <;> assumption)
  have u0 : ∀ x ∈ ([] : List Nat), q_K (qs_O (qs_O S 5 b) 4 b1) x ≠ 0 := fun x hx => by cases hx
  obtain ⟨uc1, nc1⟩ := us_1 (k := 21) (n := 0) (f := 801) (a := b1) (v := some c1) u0 hc1 (by decide)
  obtain ⟨uc2, nc2⟩ := us_1 (k := 21) (n := 0) (f := 802) (a := b1) (v := some c2) uc1 hc2 (by decide)
  obtain ⟨uc3, nc3⟩ := us_1 (k := 21) (n := 6) (f := 804) (a := b1) (v := some c3) uc2 hc3 (by decide)
  obtain ⟨uc4, nc4⟩ := us_1 (k := 21) (n := 6) (f := 805) (a := b1) (v := some c4) uc3 hc4 (by decide)
  have uP := us_P (f := 1002) (a := b) (v := some b1) uc4
  obtain ⟨ud1, nd1⟩ := us_1 (k := 26) (n := 16) (f := 1003) (a := b) (v := some d1) uP hd1 (by decide)
  obtain ⟨ud2, nd2⟩ := us_1 (k := 27) (n := 48) (f := 1005) (a := b) (v := some d2) ud1 hd2 (by decide)
  obtain ⟨ud3, nd3⟩ := us_1 (k := 21) (n := 5) (f := 1006) (a := b) (v := some d3) ud2 hd3 (by decide)
  obtain ⟨ud4, nd4⟩ := us_1 (k := 21) (n := 5) (f := 1007) (a := b) (v := some d4) ud3 hd4 (by decide)
  have sc1 : ∀ j : Nat, ¬ (c1 = c_ar L 1200 0 ∧ j = p) := fun j z => krA _ _ ma (z.1 ▸ fc1)
  obtain ⟨kc1, lc1, zc1, yc1⟩ := ax_row xc1 (by decide) sc1
  have sc2 : ∀ j : Nat, ¬ (c2 = c_ar L 1200 0 ∧ j = p) := fun j z => krA _ _ ma (z.1 ▸ fc2)
  obtain ⟨kc2, lc2, zc2, yc2⟩ := ax_row xc2 (by decide) sc2
  have sc3 : ∀ j : Nat, ¬ (c3 = c_ar L 1200 0 ∧ j = p) := fun j z => krA _ _ ma (z.1 ▸ fc3)
  obtain ⟨kc3, lc3, zc3, yc3⟩ := ax_row xc3 (by decide) sc3
  have sc4 : ∀ j : Nat, ¬ (c4 = c_ar L 1200 0 ∧ j = p) := fun j z => krA _ _ ma (z.1 ▸ fc4)
  obtain ⟨kc4, lc4, zc4, yc4⟩ := ax_row xc4 (by decide) sc4
  have sd1 : ∀ j : Nat, ¬ (d1 = c_ar L 1200 0 ∧ j = p) := fun j z => krA _ _ ma (z.1 ▸ fd1)
  obtain ⟨kd1, ld1, zd1, yd1⟩ := ax_row xd1 (by decide) sd1
  have sd2 : ∀ j : Nat, ¬ (d2 = c_ar L 1200 0 ∧ j = p) := fun j z => krA _ _ ma (z.1 ▸ fd2)
  obtain ⟨kd2, ld2, zd2, yd2⟩ := ax_row xd2 (by decide) sd2
  have sd3 : ∀ j : Nat, ¬ (d3 = c_ar L 1200 0 ∧ j = p) := fun j z => krA _ _ ma (z.1 ▸ fd3)
  obtain ⟨kd3, ld3, zd3, yd3⟩ := ax_row xd3 (by decide) sd3
  have sd4 : ∀ j : Nat, ¬ (d4 = c_ar L 1200 0 ∧ j = p) := fun j z => krA _ _ ma (z.1 ▸ fd4)
  obtain ⟨kd4, ld4, zd4, yd4⟩ := ax_row xd4 (by decide) sd4
  obtain ⟨kb, zb⟩ := ax_obj xb
  obtain ⟨kb1, zb1⟩ := ax_obj xb1
  have no : lnd [(b1, (4, p)), (b, (5, p))] := ⟨by simp [nb, nb'], by simp⟩
  have na : lnd [(d4, (1007, p)), (d3, (1006, p)), (d2, (1005, p)), (d1, (1003, p)), (c4, (805, p)), (c3, (804, p)), (c2, (802, p)), (c1, (801, p))] := ⟨(List.nodup_cons.mpr ⟨nd4, (List.nodup_cons.mpr ⟨nd3, (List.nodup_cons.mpr ⟨nd2, (List.nodup_cons.mpr ⟨nd1, (List.nodup_cons.mpr ⟨nc4, (List.nodup_cons.mpr ⟨nc3, (List.nodup_cons.mpr ⟨nc2, (List.nodup_cons.mpr ⟨nc1, List.nodup_nil⟩)⟩)⟩)⟩)⟩)⟩)⟩)⟩), by simp⟩
  have ko : ∀ c i : Nat, lk [(b1, (4, p)), (b, (5, p))] c i ↔ (c = 5 ∨ c = 4) ∧ i = p := fun c i => by
    constructor
    · rintro ⟨a, h⟩
      simp at h
      omega
    · rintro ⟨h | h, h'⟩
      · exact ⟨b, by simp [h, h']⟩
      · exact ⟨b1, by simp [h, h']⟩
  have ka : ∀ f i : Nat, lk [(d4, (1007, p)), (d3, (1006, p)), (d2, (1005, p)), (d1, (1003, p)), (c4, (805, p)), (c3, (804, p)), (c2, (802, p)), (c1, (801, p))] f i ↔ (f = 1007 ∨ f = 1006 ∨ f = 1005 ∨ f = 1003 ∨ f = 805 ∨ f = 804 ∨ f = 802 ∨ f = 801) ∧ i = p := fun f i => by
    constructor
    · rintro ⟨a, h⟩
      simp at h
      omega
    · rintro ⟨h, h'⟩
      rcases h with h | h | h | h | h | h | h | h
      · exact ⟨d4, by simp [h, h']⟩
      · exact ⟨d3, by simp [h, h']⟩
      · exact ⟨d2, by simp [h, h']⟩
      · exact ⟨d1, by simp [h, h']⟩
      · exact ⟨c4, by simp [h, h']⟩
      · exact ⟨c3, by simp [h, h']⟩
      · exact ⟨c2, by simp [h, h']⟩
      · exact ⟨c1, by simp [h, h']⟩
  have k30 : ∀ a : Nat, q_K S a = 0 → q_K (qs_C (qs_P (qs_R (qs_P (qs_R (qs_P (qs_R (qs_P (qs_R (qs_P (qs_P (qs_R (qs_P (qs_R (qs_P (qs_R (qs_P (qs_R (qs_O (qs_O S 5 b) 4 b1) 21 0 c1) 801 b1 (some c1)) 21 0 c2) 802 b1 (some c2)) 21 6 c3) 804 b1 (some c3)) 21 6 c4) 805 b1 (some c4)) 1002 b (some b1)) 26 16 d1) 1003 b (some d1)) 27 48 d2) 1005 b (some d2)) 21 5 d3) 1006 b (some d3)) 21 5 d4) 1007 b (some d4)) (c_ar L 1200 0) p (some b)) a ≠ 30 := fun a ha => by
    have : q_K (qs_C (qs_P (qs_R (qs_P (qs_R (qs_P (qs_R (qs_P (qs_R (qs_P (qs_P (qs_R (qs_P (qs_R (qs_P (qs_R (qs_P (qs_R (qs_O (qs_O S 5 b) 4 b1) 21 0 c1) 801 b1 (some c1)) 21 0 c2) 802 b1 (some c2)) 21 6 c3) 804 b1 (some c3)) 21 6 c4) 805 b1 (some c4)) 1002 b (some b1)) 26 16 d1) 1003 b (some d1)) 27 48 d2) 1005 b (some d2)) 21 5 d3) 1006 b (some d3)) 21 5 d4) 1007 b (some d4)) (c_ar L 1200 0) p (some b)) a = if a = d4 then 21 else if a = d3 then 21 else if a = d2 then 27 else if a = d1 then 26 else if a = c4 then 21 else if a = c3 then 21 else if a = c2 then 21 else if a = c1 then 21 else if a = b1 then 5 else if a = b then 6 else q_K S a := rfl
    rw [this, ha]
    repeat' split
    all_goals decide
  have nh : NWH L S (qs_C (qs_P (qs_R (qs_P (qs_R (qs_P (qs_R (qs_P (qs_R (qs_P (qs_P (qs_R (qs_P (qs_R (qs_P (qs_R (qs_P (qs_R (qs_O (qs_O S 5 b) 4 b1) 21 0 c1) 801 b1 (some c1)) 21 0 c2) 802 b1 (some c2)) 21 6 c3) 804 b1 (some c3)) 21 6 c4) 805 b1 (some c4)) 1002 b (some b1)) 26 16 d1) 1003 b (some d1)) 27 48 d2) 1005 b (some d2)) 21 5 d3) 1006 b (some d3)) 21 5 d4) 1007 b (some d4)) (c_ar L 1200 0) p (some b)) (lno [(b1, (4, p)), (b, (5, p))]) (lno [(d4, (1007, p)), (d3, (1006, p)), (d2, (1005, p)), (d1, (1003, p)), (c4, (805, p)), (c3, (804, p)), (c2, (802, p)), (c1, (801, p))]) (lbo [(b1, (4, p)), (b, (5, p))]) (lbo [(d4, (1007, p)), (d3, (1006, p)), (d2, (1005, p)), (d1, (1003, p)), (c4, (805, p)), (c3, (804, p)), (c2, (802, p)), (c1, (801, p))]) (fun f _ => if f = 801 ∨ f = 802 then 0 else if f = 804 ∨ f = 805 then 6 else if f = 1003 then 16 else if f = 1005 then 48 else 5) := by
    refine NWl gE no na k30 (fun x hx => ?_) (fun x hx => ?_) (fun f i hf => ?_) (fun q hq i => ?_) (fun f hf i a b' h h' => ?_) (fun q hq i h => ?_) (fun i => ?_) (fun i => ?_) (fun c i h => ?_) (fun p' j m h => ?_) (fun p' h => ?_) (fun j => ?_)
    · simp only [List.mem_cons, List.not_mem_nil, or_false] at hx
      rcases hx with rfl | rfl
      · refine ⟨fb1, kb1, zb1, fun f hd => ?_⟩
        have z : ∀ x : Nat, c_dy x = false → f ≠ x := fun x hx y => by rw [y, hx] at hd; cases hd
        simp [p_P, p_R, p_C, p_O, nb, nb', z 801 rfl, z 802 rfl, z 804 rfl, z 805 rfl]
      · refine ⟨hb, kb, zb, fun f hd => ?_⟩
        have z : ∀ x : Nat, c_dy x = false → f ≠ x := fun x hx y => by rw [y, hx] at hd; cases hd
        simp [p_P, p_R, p_C, p_O, nb, nb', z 1003 rfl, z 1005 rfl, z 1006 rfl, z 1007 rfl, z 1002 rfl]
    · simp only [List.mem_cons, List.not_mem_nil, or_false] at hx
      rcases hx with rfl | rfl | rfl | rfl | rfl | rfl | rfl | rfl
      · exact ⟨fd4, kd4, ld4, zd4⟩
      · exact ⟨fd3, kd3, ld3, zd3⟩
      · exact ⟨fd2, kd2, ld2, zd2⟩
      · exact ⟨fd1, kd1, ld1, zd1⟩
      · exact ⟨fc4, kc4, lc4, zc4⟩
      · exact ⟨fc3, kc3, lc3, zc3⟩
      · exact ⟨fc2, kc2, lc2, zc2⟩
      · exact ⟨fc1, kc1, lc1, zc1⟩
    · rw [ka, ko]
      have : ∀ f ∈ c_af, (f = 1007 ∨ f = 1006 ∨ f = 1005 ∨ f = 1003 ∨ f = 805 ∨ f = 804 ∨ f = 802 ∨ f = 801) ↔ (f / 200 = 5 ∨ f / 200 = 4) := by decide
      rw [this f hf]
    · rw [ko, ko]
      have : ∀ q ∈ c_pf, ((q.1 / 200 = 5 ∨ q.1 / 200 = 4) ↔ (q.2 = 5 ∨ q.2 = 4)) ∧ ((q.1 / 200 = 5 ∨ q.1 / 200 = 4) → q = (1002, 4)) := by decide
      have t := this q hq
      refine ⟨by rw [t.1], fun a b' h h' => ?_⟩
      have e1 := t.2 ((ko _ _).mp ⟨_, h⟩).1
      subst e1
      simp at h h'
      rw [h.1, h'.1]
      simp [p_P, p_R, p_C, p_O, nb, nb']
    · have e1 := ((ka _ _).mp ⟨_, h'⟩).1
      rcases e1 with rfl | rfl | rfl | rfl | rfl | rfl | rfl | rfl <;> (simp at h h'; rw [h.1, h'.1]; simp [p_P, p_R, p_C, p_O, nb, nb'])
    · have : ∀ q ∈ c_fl, (q.1 = 1007 ∨ q.1 = 1006 ∨ q.1 = 1005 ∨ q.1 = 1003 ∨ q.1 = 805 ∨ q.1 = 804 ∨ q.1 = 802 ∨ q.1 = 801) → (if q.1 = 801 ∨ q.1 = 802 then 0 else if q.1 = 804 ∨ q.1 = 805 then 6 else if q.1 = 1003 then 16 else if q.1 = 1005 then 48 else 5) = q.2 := by decide
      exact this q hq ((ka _ _).mp h).1
    · rw [ko, ko]
      exact ⟨⟨fun z => absurd z.1 (by decide), fun z => absurd z.1 (by decide)⟩, fun a b' h => absurd ((ko _ _).mp ⟨_, h⟩).1 (by decide)⟩
    · refine ⟨fun j hj => ?_, fun a h => absurd ((ko _ _).mp ⟨_, h⟩).1 (by decide)⟩
      rw [ko, ko]
      exact ⟨fun z => absurd z.1 (by decide), fun z => absurd z.1 (by decide)⟩
    · have := ((ko _ _).mp h).1
      omega
    · have r3 := krA _ _ (maA 1003 (by decide) p' m)
      have r5 := krA _ _ (maA 1005 (by decide) p' m)
      exact ⟨fun b' _ h => absurd ((ko _ _).mp ⟨_, h⟩).1 (by decide), fun _ => (a3 _ r3).2.2.2.2 j (fun z => absurd (g_injA (maA 1003 (by decide) p' m) ma z.1).1 (by decide)), fun b' _ h => absurd ((ko _ _).mp ⟨_, h⟩).1 (by decide), fun _ => (a3 _ r5).2.2.2.2 j (fun z => absurd (g_injA (maA 1005 (by decide) p' m) ma z.1).1 (by decide))⟩
    · have e1 := ((ko _ _).mp h).2
      rw [e1]
      refine ⟨fun a j h => ?_, fun j hj => ⟨fun z => absurd ((ko _ _).mp z).1 (by decide), fun z => m5 (li.2.2.2.1 p j hj z)⟩, fun j hj => ⟨fun z => absurd ((ko _ _).mp z).1 (by decide), fun z => m5 (li.2.2.2.2.1 p j hj z)⟩⟩
      rcases h with h | h
      · simp at h
        rw [h]
        exact yd1 j
      · simp at h
        rw [h]
        exact yd2 j
    · have r0 := krA _ _ (maA 1200 (by decide) 0 m6)
      have r2 := krA _ _ (maA 1202 (by decide) 0 m6)
      refine ⟨fun b' _ h => ?_, fun h => ?_, fun b' _ h => absurd ((ko _ _).mp ⟨_, h⟩).1 (by decide), fun _ => (a3 _ r2).2.2.2.2 j (fun z => absurd (g_injA (maA 1202 (by decide) 0 m6) ma z.1).1 (by decide))⟩
      · simp at h
        rw [h.1, h.2]
        exact if_pos ⟨rfl, rfl⟩
      · refine (a3 _ r0).2.2.2.2 j (fun z => h ?_)
        rw [z.2, ko]
        exact ⟨hp, Or.inl rfl, rfl⟩
  have lm : ∀ {c i : Nat}, c_mk (c_xt L (lno [(b1, (4, p)), (b, (5, p))]) (lno [(d4, (1007, p)), (d3, (1006, p)), (d2, (1005, p)), (d1, (1003, p)), (c4, (805, p)), (c3, (804, p)), (c2, (802, p)), (c1, (801, p))]) (lbo [(b1, (4, p)), (b, (5, p))]) (lbo [(d4, (1007, p)), (d3, (1006, p)), (d2, (1005, p)), (d1, (1003, p)), (c4, (805, p)), (c3, (804, p)), (c2, (802, p)), (c1, (801, p))]) (fun f _ => if f = 801 ∨ f = 802 then 0 else if f = 804 ∨ f = 805 then 6 else if f = 1003 then 16 else if f = 1005 then 48 else 5)) c i ↔ lk [(b1, (4, p)), (b, (5, p))] c i ∨ (¬ lk [(b1, (4, p)), (b, (5, p))] c i ∧ c_mk L c i) := fun {c i} => l_mk gE no (fun x hx => by
    simp only [List.mem_cons, List.not_mem_nil, or_false] at hx
    rcases hx with rfl | rfl
    · exact fb1
    · exact hb)
  have up : ∀ {c i : Nat}, c_mk L c i → c_mk (c_xt L (lno [(b1, (4, p)), (b, (5, p))]) (lno [(d4, (1007, p)), (d3, (1006, p)), (d2, (1005, p)), (d1, (1003, p)), (c4, (805, p)), (c3, (804, p)), (c2, (802, p)), (c1, (801, p))]) (lbo [(b1, (4, p)), (b, (5, p))]) (lbo [(d4, (1007, p)), (d3, (1006, p)), (d2, (1005, p)), (d1, (1003, p)), (c4, (805, p)), (c3, (804, p)), (c2, (802, p)), (c1, (801, p))]) (fun f _ => if f = 801 ∨ f = 802 then 0 else if f = 804 ∨ f = 805 then 6 else if f = 1003 then 16 else if f = 1005 then 48 else 5)) c i := fun {c i} m => by
    by_cases z : lk [(b1, (4, p)), (b, (5, p))] c i
    · exact lm.mpr (Or.inl z)
    · exact lm.mpr (Or.inr ⟨z, m⟩)
  have lnN : ∀ {f i : Nat}, lk [(d4, (1007, p)), (d3, (1006, p)), (d2, (1005, p)), (d1, (1003, p)), (c4, (805, p)), (c3, (804, p)), (c2, (802, p)), (c1, (801, p))] f i → c_ln (c_xt L (lno [(b1, (4, p)), (b, (5, p))]) (lno [(d4, (1007, p)), (d3, (1006, p)), (d2, (1005, p)), (d1, (1003, p)), (c4, (805, p)), (c3, (804, p)), (c2, (802, p)), (c1, (801, p))]) (lbo [(b1, (4, p)), (b, (5, p))]) (lbo [(d4, (1007, p)), (d3, (1006, p)), (d2, (1005, p)), (d1, (1003, p)), (c4, (805, p)), (c3, (804, p)), (c2, (802, p)), (c1, (801, p))]) (fun f _ => if f = 801 ∨ f = 802 then 0 else if f = 804 ∨ f = 805 then 6 else if f = 1003 then 16 else if f = 1005 then 48 else 5)) f i = (fun f _ => if f = 801 ∨ f = 802 then 0 else if f = 804 ∨ f = 805 then 6 else if f = 1003 then 16 else if f = 1005 then 48 else 5) f i := fun {f i} h => xt_ln ((l_nO na).mpr h)
  have lnO : ∀ {f i : Nat}, ¬ lk [(d4, (1007, p)), (d3, (1006, p)), (d2, (1005, p)), (d1, (1003, p)), (c4, (805, p)), (c3, (804, p)), (c2, (802, p)), (c1, (801, p))] f i → c_ln (c_xt L (lno [(b1, (4, p)), (b, (5, p))]) (lno [(d4, (1007, p)), (d3, (1006, p)), (d2, (1005, p)), (d1, (1003, p)), (c4, (805, p)), (c3, (804, p)), (c2, (802, p)), (c1, (801, p))]) (lbo [(b1, (4, p)), (b, (5, p))]) (lbo [(d4, (1007, p)), (d3, (1006, p)), (d2, (1005, p)), (d1, (1003, p)), (c4, (805, p)), (c3, (804, p)), (c2, (802, p)), (c1, (801, p))]) (fun f _ => if f = 801 ∨ f = 802 then 0 else if f = 804 ∨ f = 805 then 6 else if f = 1003 then 16 else if f = 1005 then 48 else 5)) f i = c_ln L f i := fun {f i} h => xt_lnn (fun z => h ((l_nO na).mp z))
  have li' : LI (c_xt L (lno [(b1, (4, p)), (b, (5, p))]) (lno [(d4, (1007, p)), (d3, (1006, p)), (d2, (1005, p)), (d1, (1003, p)), (c4, (805, p)), (c3, (804, p)), (c2, (802, p)), (c1, (801, p))]) (lbo [(b1, (4, p)), (b, (5, p))]) (lbo [(d4, (1007, p)), (d3, (1006, p)), (d2, (1005, p)), (d1, (1003, p)), (c4, (805, p)), (c3, (804, p)), (c2, (802, p)), (c1, (801, p))]) (fun f _ => if f = 801 ∨ f = 802 then 0 else if f = 804 ∨ f = 805 then 6 else if f = 1003 then 16 else if f = 1005 then 48 else 5)) := by
    refine ⟨fun p' m => ?_, fun i m => ?_, fun c m => ?_, fun p' j hj m => ?_, fun p' j hj m => ?_, fun c i m => ?_, fun i m => ?_, fun p' m => ?_⟩
    · by_cases z : p' = p
      · rw [z, lnN ((ka _ _).mpr ⟨by decide, rfl⟩), lnN ((ka _ _).mpr ⟨by decide, rfl⟩)]
        exact ⟨rfl, (by decide : 0 < 2 ^ 31)⟩
      · rw [lnO (fun y => z ((ka _ _).mp y).2), lnO (fun y => z ((ka _ _).mp y).2)]
        rcases lm.mp m with h | h
        · exact absurd ((ko _ _).mp h).2 z
        · exact li.1 p' h.2
    · rw [lnO (fun y => absurd ((ka _ _).mp y).1 (by decide))]
      rcases lm.mp m with h | h
      · exact absurd ((ko _ _).mp h).1 (by decide)
      · exact li.2.1 i h.2
    · rw [lnO (fun y => absurd ((ka _ _).mp y).1 (by decide)), lnO (fun y => absurd ((ka _ _).mp y).1 (by decide))]
      rcases lm.mp m with h | h
      · exact absurd ((ko _ _).mp h).1 (by decide)
      · exact li.2.2.1 c h.2
    · rcases lm.mp m with h | h
      · exact absurd ((ko _ _).mp h).1 (by decide)
      · exact up (li.2.2.2.1 p' j hj h.2)
    · rcases lm.mp m with h | h
      · exact absurd ((ko _ _).mp h).1 (by decide)
      · exact up (li.2.2.2.2.1 p' j hj h.2)
    · rcases lm.mp m with h | h
      · have := ((ko _ _).mp h).2
        omega
      · exact li.2.2.2.2.2.1 c i h.2
    · rcases lm.mp m with h | h
      · exact absurd ((ko _ _).mp h).1 (by decide)
      · rcases li.2.2.2.2.2.2.1 i h.2 with h | h
        · exact Or.inl ⟨h.1, up h.2⟩
        · exact Or.inr ⟨h.1, up h.2⟩
    · rcases lm.mp m with h | h
      · exact lm.mpr (Or.inl ((ko _ _).mpr ⟨Or.inl rfl, ((ko _ _).mp h).2⟩))
      · exact up (li.2.2.2.2.2.2.2 p' h.2)
  obtain ⟨wd', cs'⟩ := NEW_WD wd cs a3 nh li' (fun f i x hd _ hx => tg_xt (fun c i z => by have := ((ko _ _).mp ((l_nO no).mp z)).2; omega) (fun c i z => by have := ((ka _ _).mp ((l_nO na).mp z)).2; omega) (ri f i x hd hx))
  have lx : LX L (c_xt L (lno [(b1, (4, p)), (b, (5, p))]) (lno [(d4, (1007, p)), (d3, (1006, p)), (d2, (1005, p)), (d1, (1003, p)), (c4, (805, p)), (c3, (804, p)), (c2, (802, p)), (c1, (801, p))]) (lbo [(b1, (4, p)), (b, (5, p))]) (lbo [(d4, (1007, p)), (d3, (1006, p)), (d2, (1005, p)), (d1, (1003, p)), (c4, (805, p)), (c3, (804, p)), (c2, (802, p)), (c1, (801, p))]) (fun f _ => if f = 801 ∨ f = 802 then 0 else if f = 804 ∨ f = 805 then 6 else if f = 1003 then 16 else if f = 1005 then 48 else 5)) := LX_xt gE nh (fun c i z m => by
    have y := (ko _ _).mp ((l_nO no).mp z)
    rcases y with ⟨y | y, y'⟩
    · rw [y, y'] at m
      exact m5 m
    · rw [y, y'] at m
      exact m5 (li.2.2.2.2.2.2.2 p m))
  exact ⟨_, _, wd', cs', lx, lm.mpr (Or.inl ((ko _ _).mpr ⟨Or.inl rfl, rfl⟩)), (xt_ob ((l_nO no).mpr ((ko _ _).mpr ⟨Or.inl rfl, rfl⟩))).trans (lbo_s no (by simp)), fun f i h => ⟨k_xtI (fun z => h ((ko _ _).mp ((l_nO no).mp z))), k_xtJ (fun z => h ((ko _ _).mp ((l_nO no).mp z))), fun j => k_xtA (fun z => h (by have := (ka _ _).mp ((l_nO na).mp z); omega)), k_xtP (fun z => h ((ko _ _).mp ((l_nO no).mp z)))⟩⟩
