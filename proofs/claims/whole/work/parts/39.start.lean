theorem en_u : en_fl[9]? = some (Cond.isRef (.static Bundle.tN "UNASSIGNED_STACK" Bundle.steD)) := by decide +kernel
theorem en_s : en_fl[10]? = some (Cond.isRef (.static Bundle.tN "SUPPRESSED_SENTINEL" Bundle.listD)) := by decide +kernel
theorem en_c : en_fl[4]? = some (Cond.eq (.static "java/lang/String" "COMPACT_STRINGS" "Z") (.int 1)) := by decide +kernel
theorem en_o : en_fl[5]? = some (Cond.isRef (.static "jdk/internal/util/Preconditions" "SIOOBE_FORMATTER" "Ljava/util/function/BiFunction;")) := by decide +kernel
theorem en_n1 : en_fl[40]? = some (Cond.not (.castable "java/lang/IllegalStateException" "java/lang/IndexOutOfBoundsException")) := by decide +kernel
theorem en_n2 : en_fl[33]? = some (Cond.not (.castable "java/lang/IllegalArgumentException" "java/lang/IndexOutOfBoundsException")) := by decide +kernel
theorem en_n3 : en_fl[24]? = some (Cond.not (.castable "java/lang/IllegalStateException" "java/lang/IllegalArgumentException")) := by decide +kernel
theorem en_n4 : en_fl[48]? = some (Cond.not (.castable "java/lang/IllegalArgumentException" "java/lang/IllegalStateException")) := by decide +kernel
theorem en_a1 : Cond.arrayOver (.object RX1) ∈ lw_tbl := by decide +kernel
theorem en_a5 : Cond.arrayOver (.object RX5) ∈ lw_tbl := by decide +kernel
theorem en_a7 : Cond.arrayOver (.object RX7) ∈ lw_tbl := by decide +kernel
theorem en_a10 : Cond.arrayOver (.object RX10) ∈ lw_tbl := by decide +kernel
theorem en_l1 : Cond.laysStatic Bundle.tN "UNASSIGNED_STACK" Bundle.steD ∈ lw_tbl := by decide +kernel
theorem en_l2 : Cond.laysStatic Bundle.tN "SUPPRESSED_SENTINEL" Bundle.listD ∈ lw_tbl := by decide +kernel
theorem en_l3 : Cond.laysStatic "java/lang/String" "COMPACT_STRINGS" "Z" ∈ lw_tbl := by decide +kernel
theorem en_l4 : Cond.laysStatic "jdk/internal/util/Preconditions" "SIOOBE_FORMATTER" "Ljava/util/function/BiFunction;" ∈ lw_tbl := by decide +kernel
theorem en_i1 : Cond.initialized Bundle.tN ∈ lw_tbl := by decide +kernel
theorem en_i3 : Cond.initialized "java/lang/String" ∈ lw_tbl := by decide +kernel
theorem en_i4 : Cond.initialized "jdk/internal/util/Preconditions" ∈ lw_tbl := by decide +kernel
theorem en_srl : q_sr.length = 15 := by decide +kernel
set_option maxHeartbeats 4000000 in
/-- THE LAW, from its entry: all that is left is pure -/
theorem en_start {p : Program} {e : Env} {s : State} {m : MethodId} {below : List Frame} {meth : Method} {c : Code} (l : Launch) {b L : Nat} {xs : Nat → Int32} (hst : l.stackTraces = false) (hhf : heapFits s = true) (C0 : lw_At p s m meth c b L xs) (hp : ∀ S : q_S, q_P0 S → wm_L_law L xs S) : W p l e room_1 s m #[Value.ref b] below meth c s.heap [] 0 0 (lw_Z below #[Value.ref b] s) (entryFrame m ([Value.ref b] : List Value).toArray 7) := by
  obtain ⟨hx, hb, hr, hml, hown, hts, hX, hbl, hlocks, hgv⟩ := id C0
  have hfl : ∀ w ∈ en_fl, w.before #[Value.ref b] s = true := flat_of_before _ hgv
  have hat : ∀ {i : Nat} {w : Cond}, en_fl[i]? = some w → w.before #[Value.ref b] s = true := fun h => hfl _ (List.mem_of_getElem? h)
  have hG : ∀ w ∈ q_G, w.before #[Value.ref b] s = true := fun w hw => hts w (List.mem_filter.mp hw).1
  have hA : ∀ a : Nat, a < s.heap.size → ¬ (fun q : Nat => s.heap.size ≤ q) a := fun a h => Nat.not_le.mpr h
  obtain ⟨ak, av, hS, hev⟩ := vk_Sof (args := #[Value.ref b]) (s := s) (N := 15) (tm := en_tm) (len := q_sl) (byt := q_sb) (A := fun q => s.heap.size ≤ q) en_slb (fun i hi => hat (en_ex i hi)) (fun i hi => hat (en_co i hi)) (fun i hi => hat (en_ar i hi)) (fun i hi => hat (en_le i hi)) (fun i hi j hj => hat (en_el i hi j hj)) (fun i j hi hj hij => by
    rcases Nat.lt_trichotomy i j with g | g | g
    · exact Or.inl (hat (en_ne j hj i g))
    · exact absurd g hij
    · exact Or.inr (hat (en_ne i hi j g))) hA
  have h1 := hS.2
  have h2 := en_av hS
  have h3 := en_kv hhf hS
  have hcl : ∀ k : Nat, ∃ q : ClassId × (Nat → Nat), ∀ r : vw_C, vwCl[k]? = some r → u_Kn s r.1 r.2.1 r.2.2 q.1 q.2 := by
    intro k
    match k with
    | 0 => exact en_kn hG kX0 ib_X0
    | 1 => exact en_kn hG kX1 ib_X1
    | 2 => exact en_kn hG kX2 ib_X2
    | 3 => exact en_kn hG kX3 ib_X3
    | 4 => exact en_kn hG kX4 ib_X4
    | 5 => exact en_kn hG kX5 ib_X5
    | 6 => exact en_kn hG kX6 ib_X6
    | 7 => exact en_kn hG kX7 ib_X7
    | 8 => exact en_kn hG kX8 ib_X8
    | 9 => exact en_kn hG kX9 ib_X9
    | 10 => exact en_kn hG kX10 ib_X10
    | 11 => exact en_kn hG kX11 ib_X11
    | 12 => exact en_kn hG kX12 ib_X12
    | k + 13 => exact ⟨(0, fun _ => 0), fun r hr => by simp [vwCl] at hr⟩
  obtain ⟨fD, hfD⟩ := Classical.axiomOfChoice hcl
  obtain ⟨c20, a20⟩ := en_arP (hG _ ar_byte) (fun cA h => h)
  obtain ⟨c21, a21⟩ := en_arP (hG _ ar_int) (fun cA h => h)
  obtain ⟨c22, a22⟩ := en_arP (hG _ ar_boolean) (fun cA h => h)
  obtain ⟨c23, a23⟩ := en_arP (hG _ ar_long) (fun cA h => h)
  obtain ⟨c24, a24⟩ := en_arO (hts _ en_a1)
  obtain ⟨c25, a25⟩ := en_arO (hts _ en_a5)
  obtain ⟨c26, a26⟩ := en_arO (hts _ en_a7)
  obtain ⟨c27, a27⟩ := en_arO (hts _ en_a10)
  obtain ⟨cy, y20, y21, y22, y23, y24, y25, y26, y27, hk, hv⟩ : ∃ cy : Nat → ClassId, cy 20 = c20 ∧ cy 21 = c21 ∧ cy 22 = c22 ∧ cy 23 = c23 ∧ cy 24 = c24 ∧ cy 25 = c25 ∧ cy 26 = c26 ∧ cy 27 = c27 ∧ (∀ i : Nat, cy (100 + 2 * i) = ak i) ∧ ∀ i : Nat, cy (101 + 2 * i) = av i := by
    refine ⟨fun k => if k < 100 then (if k = 20 then c20 else if k = 21 then c21 else if k = 22 then c22 else if k = 23 then c23 else if k = 24 then c24 else if k = 25 then c25 else if k = 26 then c26 else c27) else if k % 2 = 0 then ak ((k - 100) / 2) else av ((k - 101) / 2), rfl, rfl, rfl, rfl, rfl, rfl, rfl, rfl, fun i => ?_, fun i => ?_⟩
    · show (if 100 + 2 * i < 100 then _ else if (100 + 2 * i) % 2 = 0 then ak ((100 + 2 * i - 100) / 2) else _) = ak i
      rw [if_neg (by omega), if_pos (by omega)]
      congr 1
      omega
    · show (if 101 + 2 * i < 100 then _ else if (101 + 2 * i) % 2 = 0 then _ else av ((101 + 2 * i - 101) / 2)) = av i
      rw [if_neg (by omega), if_neg (by omega)]
      congr 1
      omega
  have hK : va_K (fun k => (fD k).1, fun k => (fD k).2) vwCl (q_T cy) s := by
    refine ⟨fun k r hr => hfD k r hr, fun k q hq => ?_⟩
    match k, hq with
    | 0, hq => cases hq; rw [y20]; exact a20
    | 1, hq => cases hq; rw [y21]; exact a21
    | 2, hq => cases hq; rw [y22]; exact a22
    | 3, hq => cases hq; rw [y23]; exact a23
    | 4, hq => cases hq; rw [y24]; exact a24
    | 5, hq => cases hq; rw [y25]; exact a25
    | 6, hq => cases hq; rw [y26]; exact a26
    | 7, hq => cases hq; rw [y27]; exact a27
    | k + 8, hq => simp [q_T] at hq
  have hN : q_NW cy s.heap.size s s.heap := by
    refine ⟨fun w hw => va_Nw.of (en_nt w hw) (hts w (en_nw w hw)), ⟨va_AO.of (hts _ en_a1), va_AO.of (hts _ en_a5), va_AO.of (hts _ en_a7), va_AO.of (hts _ en_a10)⟩, ?_, fun i r hi => ?_, vx_Zqof (hts _ en_l1) (hts _ en_i1) (hat en_u) hA, vx_Zqof (hts _ en_l2) (hts _ en_i1) (hat en_s) hA, va_Zof (args := #[Value.ref b]) (hts _ en_l3) (hts _ en_i3) ?_ hA, va_Zqof (hts _ en_l4) (hts _ en_i4) (hat en_o) hA⟩
    · have e1 : (fun i => cy (100 + 2 * i)) = ak := funext hk
      have e2 : (fun i => cy (101 + 2 * i)) = av := funext hv
      rw [e1, e2]
      exact hS
    · have hi15 : i < 15 := en_srl ▸ (List.getElem?_eq_some_iff.mp hi).1
      have e1 : q_sr.getD i ("", 0, "") = r := by rw [List.getD_eq_getElem?_getD, hi]; rfl
      have w1 := hts _ (en_sr i hi15)
      have w2 := hev i hi15
      unfold en_tm at w2
      rw [e1] at w1 w2
      rw [hk]
      exact vk_R.of w1 w2
    · obtain ⟨w, g1, g2⟩ := Cond.eq_one (show (Cond.eq (.static "java/lang/String" "COMPACT_STRINGS" "Z") (.int 1)).holds #[Value.ref b] s none s [] = true from hat en_c)
      cases (show some (Value.int 1) = some w from g2)
      exact g1
  have hNc : q_Nc s := ⟨va_Nc.of (hat en_n1), va_Nc.of (hat en_n2), va_Nc.of (hat en_n3), va_Nc.of (hat en_n4)⟩
  have hlt : ∀ i : Nat, i < 15 → ak i < s.heap.size ∧ av i < s.heap.size := fun i hi => by
    obtain ⟨c1, g1, -⟩ := (hS.1 i hi).1
    obtain ⟨c2, g2, -⟩ := (hS.1 i hi).2.2.2
    exact ⟨(Array.getElem?_eq_some_iff.mp g1).1, (Array.getElem?_eq_some_iff.mp g2).1⟩
  have X : q_X p s m #[Value.ref b] meth c RL cL_law 7 (some .boolean) (fun k => (fD k).1, fun k => (fD k).2) cy s.heap.size := ⟨hx, hb.trans en_code, hml, hown, hG, hK, hN, Nat.le_refl _, hr.trans en_ret, hlocks⟩
  have Y : q_Y (fun k => (fD k).1, fun k => (fD k).2) cy s.heap.size s (en_S ak av) s.heap [] := ⟨en_W h1 h2 h3 hk hv hlt, va_S.rf⟩
  have hl := lv_entry ([.ref b]) (n := 7) (Nat.le_of_ble_eq_true rfl)
  rw [lg_entry_eq]
  exact cm_L_law X hNc hst hX hbl Y hl (hp _ (en_P0 h1 h2 h3))
