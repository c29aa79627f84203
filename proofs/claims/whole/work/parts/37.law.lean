-- L_law
theorem cl_L_8 : Cond.classLink RL 8 RX11 ∈ q_G := q_tb (i := 29) (by decide +kernel) (by decide +kernel)
theorem cl_L_34 : Cond.classLink RL 34 RX12 ∈ q_G := q_tb (i := 1727) (by decide +kernel) (by decide +kernel)
def wb_L_law_1058 (L : Nat) (xs : Nat → Int32) (B23 : Nat → Nat → q_S → Option Nat → Option Nat → Option Nat → Int32 → Prop) (u v : Nat) (S : q_S) (r1 : Option Nat) (r2 : Option Nat) (r3 : Option Nat) (x4 : Int32)  : Prop := B23 u v S r1 r2 r3 (x4 + 6)
set_option maxHeartbeats 4000000 in
set_option maxRecDepth 100000 in
theorem cb_L_law_1058 {p : Program} {l : Launch} {e : Env} {s : State} {m : MethodId} {below : List Frame} {meth : Method} {c : Code} {D : va_G} {cy : Nat → ClassId} {b L : Nat} {xs : Nat → Int32} {B23 : Nat → Nat → q_S → Option Nat → Option Nat → Option Nat → Int32 → Prop} {u v : Nat} {S : q_S} {r1 : Option Nat} {r2 : Option Nat} {r3 : Option Nat} {x4 : Int32}  {H : Heap} {locs : List Loc} {ls : Array Slot} (X : q_X p s m #[Value.ref b] meth c RL cL_law 7 (some .boolean) D cy s.heap.size) (hNc : q_Nc s) (hst : l.stackTraces = false) (hX : va_X b L xs s s.heap) (hbl : b < s.heap.size) (hB23 : ∀ (u v : Nat) (S : q_S) (r1 : Option Nat) (r2 : Option Nat) (r3 : Option Nat) (x4 : Int32) (H : Heap) (locs : List Loc) (ls : Array Slot), B23 u v S r1 r2 r3 x4 → (u ≤ 600128 ∧ v ≤ 7301098) → q_Y D cy s.heap.size s S H locs → lv_has ls 7 [(0, .ref b), (1, va_rf r1), (2, va_rf r2), (3, va_rf r3), (4, .int x4)] → W p l e room_1 s m #[Value.ref b] below meth c H locs u v (lw_Z below #[Value.ref b] s) (F0 m 23 ls [])) (hu : u ≤ 600128 ∧ v ≤ 7301098) (Y : q_Y D cy s.heap.size s S H locs) (hl : lv_has ls 7 [(0, .ref b), (1, va_rf r1), (2, va_rf r2), (3, va_rf r3), (4, .int x4)]) (h : wb_L_law_1058 L xs B23 u v S r1 r2 r3 x4 ) : W p l e room_1 s m #[Value.ref b] below meth c H locs u v (lw_Z below #[Value.ref b] s) (F0 m 1058 ls []) := by
  have hx := X.1
  have hb := X.2.1
  unfold wb_L_law_1058 at h
  refine lv_iinc (v := (x4 + 6)) (lv' := [(4, .int (x4 + 6)), (0, .ref b), (1, va_rf r1), (2, va_rf r2), (3, va_rf r3)]) hx hb dL_law_1058 hl (k := 4) rfl (by first | rfl | decide) (by decide) (by first | rfl | simp [q_cat, q_catI, q_catJ, q_catR]) (fun ls hl => ?_)
  refine lv_goto (tgt := 23) hx hb dL_law_1061 (by decide) ?_
  exact hB23 _ _ _ _ _ _ _ _ _ _ h hu Y (lv_sub hl [1, 2, 3, 4, 0] rfl)
def wb_L_law_502 (L : Nat) (xs : Nat → Int32) (B23 : Nat → Nat → q_S → Option Nat → Option Nat → Option Nat → Int32 → Prop) (u v : Nat) (S : q_S) (r1 : Option Nat) (r2 : Option Nat) (r3 : Option Nat) (x4 : Int32)  : Prop := wb_L_law_1058 L xs B23 u v S r1 r2 r3 x4 
set_option maxHeartbeats 4000000 in
set_option maxRecDepth 100000 in
theorem cb_L_law_502 {p : Program} {l : Launch} {e : Env} {s : State} {m : MethodId} {below : List Frame} {meth : Method} {c : Code} {D : va_G} {cy : Nat → ClassId} {b L : Nat} {xs : Nat → Int32} {B23 : Nat → Nat → q_S → Option Nat → Option Nat → Option Nat → Int32 → Prop} {u v : Nat} {S : q_S} {r1 : Option Nat} {r2 : Option Nat} {r3 : Option Nat} {x4 : Int32}  {H : Heap} {locs : List Loc} {ls : Array Slot} (X : q_X p s m #[Value.ref b] meth c RL cL_law 7 (some .boolean) D cy s.heap.size) (hNc : q_Nc s) (hst : l.stackTraces = false) (hX : va_X b L xs s s.heap) (hbl : b < s.heap.size) (hB23 : ∀ (u v : Nat) (S : q_S) (r1 : Option Nat) (r2 : Option Nat) (r3 : Option Nat) (x4 : Int32) (H : Heap) (locs : List Loc) (ls : Array Slot), B23 u v S r1 r2 r3 x4 → (u ≤ 600128 ∧ v ≤ 7301098) → q_Y D cy s.heap.size s S H locs → lv_has ls 7 [(0, .ref b), (1, va_rf r1), (2, va_rf r2), (3, va_rf r3), (4, .int x4)] → W p l e room_1 s m #[Value.ref b] below meth c H locs u v (lw_Z below #[Value.ref b] s) (F0 m 23 ls [])) (hu : u ≤ 600128 ∧ v ≤ 7301098) (Y : q_Y D cy s.heap.size s S H locs) (hl : lv_has ls 7 [(0, .ref b), (1, va_rf r1), (2, va_rf r2), (3, va_rf r3), (4, .int x4)]) (h : wb_L_law_502 L xs B23 u v S r1 r2 r3 x4 ) : W p l e room_1 s m #[Value.ref b] below meth c H locs u v (lw_Z below #[Value.ref b] s) (F0 m 502 ls []) := by
  have hx := X.1
  have hb := X.2.1
  unfold wb_L_law_502 at h
  refine lv_goto (tgt := 1058) hx hb dL_law_502 (by decide) ?_
  exact cb_L_law_1058 X hNc hst hX hbl hB23 hu Y (lv_sub hl [0, 1, 2, 3, 4] rfl) h
def wb_L_law_277 (L : Nat) (xs : Nat → Int32) (B23 : Nat → Nat → q_S → Option Nat → Option Nat → Option Nat → Int32 → Prop) (u v : Nat) (S : q_S) (r1 : Option Nat) (r2 : Option Nat) (r3 : Option Nat) (x4 : Int32)  : Prop := wb_L_law_1058 L xs B23 u v S r1 r2 r3 x4 
set_option maxHeartbeats 4000000 in
set_option maxRecDepth 100000 in
theorem cb_L_law_277 {p : Program} {l : Launch} {e : Env} {s : State} {m : MethodId} {below : List Frame} {meth : Method} {c : Code} {D : va_G} {cy : Nat → ClassId} {b L : Nat} {xs : Nat → Int32} {B23 : Nat → Nat → q_S → Option Nat → Option Nat → Option Nat → Int32 → Prop} {u v : Nat} {S : q_S} {r1 : Option Nat} {r2 : Option Nat} {r3 : Option Nat} {x4 : Int32}  {H : Heap} {locs : List Loc} {ls : Array Slot} (X : q_X p s m #[Value.ref b] meth c RL cL_law 7 (some .boolean) D cy s.heap.size) (hNc : q_Nc s) (hst : l.stackTraces = false) (hX : va_X b L xs s s.heap) (hbl : b < s.heap.size) (hB23 : ∀ (u v : Nat) (S : q_S) (r1 : Option Nat) (r2 : Option Nat) (r3 : Option Nat) (x4 : Int32) (H : Heap) (locs : List Loc) (ls : Array Slot), B23 u v S r1 r2 r3 x4 → (u ≤ 600128 ∧ v ≤ 7301098) → q_Y D cy s.heap.size s S H locs → lv_has ls 7 [(0, .ref b), (1, va_rf r1), (2, va_rf r2), (3, va_rf r3), (4, .int x4)] → W p l e room_1 s m #[Value.ref b] below meth c H locs u v (lw_Z below #[Value.ref b] s) (F0 m 23 ls [])) (hu : u ≤ 600128 ∧ v ≤ 7301098) (Y : q_Y D cy s.heap.size s S H locs) (hl : lv_has ls 7 [(0, .ref b), (1, va_rf r1), (2, va_rf r2), (3, va_rf r3), (4, .int x4)]) (h : wb_L_law_277 L xs B23 u v S r1 r2 r3 x4 ) : W p l e room_1 s m #[Value.ref b] below meth c H locs u v (lw_Z below #[Value.ref b] s) (F0 m 277 ls []) := by
  have hx := X.1
  have hb := X.2.1
  unfold wb_L_law_277 at h
  refine lv_goto (tgt := 1058) hx hb dL_law_277 (by decide) ?_
  exact cb_L_law_1058 X hNc hst hX hbl hB23 hu Y (lv_sub hl [0, 1, 2, 3, 4] rfl) h
def wb_L_law_23 (L : Nat) (xs : Nat → Int32) (B23 : Nat → Nat → q_S → Option Nat → Option Nat → Option Nat → Int32 → Prop) (u v : Nat) (S : q_S) (r1 : Option Nat) (r2 : Option Nat) (r3 : Option Nat) (x4 : Int32)  : Prop := ((((nI L) - (6 : Int32)) < x4 → ((1 : Int32) = 1)) ∧ (¬ ((nI L) - (6 : Int32)) < x4 → (vp_in x4 L ∧ ((((((xs x4.toNatClampNeg) &&& (31 : Int32)).toInt < 0 ∨ 20 < ((xs x4.toNatClampNeg) &&& (31 : Int32)).toInt) → (wb_L_law_1058 L xs B23 u v S r1 r2 r3 x4 )) ∧ ((((xs x4.toNatClampNeg) &&& (31 : Int32)) = (0 : Int32)) → (vp_in (x4 + (1 : Int32)) L ∧ (vp_in (x4 + (2 : Int32)) L ∧ (vp_in (x4 + (3 : Int32)) L ∧ (vp_in (x4 + (4 : Int32)) L ∧ (vp_in (x4 + (5 : Int32)) L ∧ (∃ a8_ : Nat, r1 = some a8_ ∧ (q_K S a8_ = 12 ∧ (wm_X11_feed S a8_ (xs (x4 + (1 : Int32)).toNatClampNeg) (xs (x4 + (2 : Int32)).toNatClampNeg) (xs (x4 + (3 : Int32)).toNatClampNeg) (xs (x4 + (4 : Int32)).toNatClampNeg) (xs (x4 + (5 : Int32)).toNatClampNeg) (fun r11_ S12_ => r11_ = none ∧ (vp_in (x4 + (1 : Int32)) L ∧ (vp_in (x4 + (2 : Int32)) L ∧ (vp_in (x4 + (3 : Int32)) L ∧ (vp_in (x4 + (4 : Int32)) L ∧ (vp_in (x4 + (5 : Int32)) L ∧ (∃ a18_ : Nat, r2 = some a18_ ∧ (q_K S12_ a18_ = 13 ∧ (wm_X12_feed S12_ a18_ (xs (x4 + (1 : Int32)).toNatClampNeg) (xs (x4 + (2 : Int32)).toNatClampNeg) (xs (x4 + (3 : Int32)).toNatClampNeg) (xs (x4 + (4 : Int32)).toNatClampNeg) (xs (x4 + (5 : Int32)).toNatClampNeg) (fun r21_ S22_ => r21_ = none ∧ (wb_L_law_1058 L xs B23 u v S22_ r1 r2 r3 x4 )))))))))))))))))))) ∧ ((((xs x4.toNatClampNeg) &&& (31 : Int32)) = (1 : Int32)) → (vp_in (x4 + (1 : Int32)) L ∧ (∃ a24_ : Nat, r1 = some a24_ ∧ (q_K S a24_ = 12 ∧ (wm_X11_end S a24_ (xs (x4 + (1 : Int32)).toNatClampNeg) (fun r27_ S28_ => ∃ x29_ : Int32, r27_ = some (.int x29_) ∧ (vp_in (x4 + (1 : Int32)) L ∧ (∃ a31_ : Nat, r2 = some a31_ ∧ (q_K S28_ a31_ = 13 ∧ (wm_X12_end_ S28_ a31_ (xs (x4 + (1 : Int32)).toNatClampNeg) (fun r34_ S35_ => ∃ x36_ : Int32, r34_ = some (.int x36_) ∧ (((x29_ = x36_ → (wb_L_law_1058 L xs B23 u v S35_ r1 r2 r3 x4 )) ∧ (¬ x29_ = x36_ → ((0 : Int32) = 1))))))))))))))) ∧ ((((xs x4.toNatClampNeg) &&& (31 : Int32)) = (2 : Int32)) → (∃ m40_ m41_ : Nat, (u + m40_ ≤ 600128 ∧ v + m41_ ≤ 7301098) ∧ (wm_L_load m40_ m41_ S r1 r3 (fun r38_ S39_ => ∃ x43_ : Int32, r38_ = some (.int x43_) ∧ (∃ a44_ : Nat, r2 = some a44_ ∧ (q_K S39_ a44_ = 13 ∧ (wm_X12_load S39_ a44_ (fun r47_ S48_ => ∃ x49_ : Int32, r47_ = some (.int x49_) ∧ (q_K S48_ a44_ = 13 ∧ (wm_X12_thrown S48_ a44_ (fun r51_ S52_ => ∃ x53_ : Int32, r51_ = some (.int x53_) ∧ (((x53_ = x43_ → (((¬ x43_ = 0 → (wb_L_law_277 L xs B23 (u + m40_) (v + m41_) S52_ r1 r2 r3 x4 )) ∧ (x43_ = 0 → (∃ a56_ : Nat, r3 = some a56_ ∧ (q_K S52_ a56_ = 23 ∧ (vp_in (0 : Int32) (q_N S52_ a56_) ∧ ((((lg_cmp (q_B S52_ a56_ (0 : Int32).toNatClampNeg) (x49_.toInt64)) = 0 → (wb_L_law_277 L xs B23 (u + m40_) (v + m41_) S52_ r1 r2 r3 x4 )) ∧ (¬ (lg_cmp (q_B S52_ a56_ (0 : Int32).toNatClampNeg) (x49_.toInt64)) = 0 → ((0 : Int32) = 1))))))))))) ∧ (¬ x53_ = x43_ → ((0 : Int32) = 1))))))))))))))) ∧ ((((xs x4.toNatClampNeg) &&& (31 : Int32)) = (3 : Int32)) → (vp_in (x4 + (1 : Int32)) L ∧ (∃ a62_ : Nat, r1 = some a62_ ∧ (q_K S a62_ = 12 ∧ (wm_X11_fault S a62_ (xs (x4 + (1 : Int32)).toNatClampNeg) (fun r65_ S66_ => ∃ x67_ : Int32, r65_ = some (.int x67_) ∧ (vp_in (x4 + (1 : Int32)) L ∧ (∃ a69_ : Nat, r2 = some a69_ ∧ (q_K S66_ a69_ = 13 ∧ (wm_X12_fault S66_ a69_ (xs (x4 + (1 : Int32)).toNatClampNeg) (fun r72_ S73_ => ∃ x74_ : Int32, r72_ = some (.int x74_) ∧ (((x67_ = x74_ → (wb_L_law_1058 L xs B23 u v S73_ r1 r2 r3 x4 )) ∧ (¬ x67_ = x74_ → ((0 : Int32) = 1))))))))))))))) ∧ ((((xs x4.toNatClampNeg) &&& (31 : Int32)) = (4 : Int32)) → (vp_in (x4 + (1 : Int32)) L ∧ (vp_in (x4 + (2 : Int32)) L ∧ (vp_in (x4 + (3 : Int32)) L ∧ (∃ m81_ m82_ : Nat, (u + m81_ ≤ 600128 ∧ v + m82_ ≤ 7301098) ∧ (wm_L_image m81_ m82_ S r1 (xs (x4 + (1 : Int32)).toNatClampNeg) (xs (x4 + (2 : Int32)).toNatClampNeg) (xs (x4 + (3 : Int32)).toNatClampNeg) (fun r79_ S80_ => ∃ x84_ : Int32, r79_ = some (.int x84_) ∧ (vp_in (x4 + (1 : Int32)) L ∧ (vp_in (x4 + (2 : Int32)) L ∧ (vp_in (x4 + (3 : Int32)) L ∧ (∃ a88_ : Nat, r2 = some a88_ ∧ (q_K S80_ a88_ = 13 ∧ (wm_X12_image S80_ a88_ (xs (x4 + (1 : Int32)).toNatClampNeg) (xs (x4 + (2 : Int32)).toNatClampNeg) (xs (x4 + (3 : Int32)).toNatClampNeg) (fun r91_ S92_ => r91_ = none ∧ (q_K S92_ a88_ = 13 ∧ (wm_X12_thrown S92_ a88_ (fun r94_ S95_ => ∃ x96_ : Int32, r94_ = some (.int x96_) ∧ (((x96_ = x84_ → (wb_L_law_1058 L xs B23 (u + m81_) (v + m82_) S95_ r1 r2 r3 x4 )) ∧ (¬ x96_ = x84_ → ((0 : Int32) = 1))))))))))))))))))))) ∧ ((((xs x4.toNatClampNeg) &&& (31 : Int32)) = (5 : Int32)) → (vp_in (x4 + (1 : Int32)) L ∧ (vp_in (x4 + (2 : Int32)) L ∧ (vp_in (x4 + (3 : Int32)) L ∧ (∃ m103_ m104_ : Nat, (u + m103_ ≤ 600128 ∧ v + m104_ ≤ 7301098) ∧ (wm_L_input m103_ m104_ S r1 (xs (x4 + (1 : Int32)).toNatClampNeg) (xs (x4 + (2 : Int32)).toNatClampNeg) (xs (x4 + (3 : Int32)).toNatClampNeg) (fun r101_ S102_ => ∃ x106_ : Int32, r101_ = some (.int x106_) ∧ (vp_in (x4 + (1 : Int32)) L ∧ (vp_in (x4 + (2 : Int32)) L ∧ (vp_in (x4 + (3 : Int32)) L ∧ (∃ a110_ : Nat, r2 = some a110_ ∧ (q_K S102_ a110_ = 13 ∧ (wm_X12_input S102_ a110_ (xs (x4 + (1 : Int32)).toNatClampNeg) (xs (x4 + (2 : Int32)).toNatClampNeg) (xs (x4 + (3 : Int32)).toNatClampNeg) (fun r113_ S114_ => r113_ = none ∧ (q_K S114_ a110_ = 13 ∧ (wm_X12_thrown S114_ a110_ (fun r116_ S117_ => ∃ x118_ : Int32, r116_ = some (.int x118_) ∧ (((x118_ = x106_ → (wb_L_law_1058 L xs B23 (u + m103_) (v + m104_) S117_ r1 r2 r3 x4 )) ∧ (¬ x118_ = x106_ → ((0 : Int32) = 1))))))))))))))))))))) ∧ ((((xs x4.toNatClampNeg) &&& (31 : Int32)) = (6 : Int32)) → (∃ m122_ m123_ : Nat, (u + m122_ ≤ 600128 ∧ v + m123_ ≤ 7301098) ∧ (wm_L_begin m122_ m123_ S r1 (fun r120_ S121_ => ∃ x125_ : Int32, r120_ = some (.int x125_) ∧ (∃ a126_ : Nat, r2 = some a126_ ∧ (q_K S121_ a126_ = 13 ∧ (wm_X12_begin S121_ a126_ (fun r129_ S130_ => r129_ = none ∧ (q_K S130_ a126_ = 13 ∧ (wm_X12_thrown S130_ a126_ (fun r132_ S133_ => ∃ x134_ : Int32, r132_ = some (.int x134_) ∧ (((x134_ = x125_ → (wb_L_law_1058 L xs B23 (u + m122_) (v + m123_) S133_ r1 r2 r3 x4 )) ∧ (¬ x134_ = x125_ → ((0 : Int32) = 1))))))))))))))) ∧ ((((xs x4.toNatClampNeg) &&& (31 : Int32)) = (7 : Int32)) → (vp_in (x4 + (1 : Int32)) L ∧ (∃ m139_ m140_ : Nat, (u + m139_ ≤ 600128 ∧ v + m140_ ≤ 7301098) ∧ (wm_L_run m139_ m140_ S r1 (xs (x4 + (1 : Int32)).toNatClampNeg) r3 (fun r137_ S138_ => ∃ x142_ : Int32, r137_ = some (.int x142_) ∧ (vp_in (x4 + (1 : Int32)) L ∧ (∃ a144_ : Nat, r2 = some a144_ ∧ (q_K S138_ a144_ = 13 ∧ (wm_X12_run S138_ a144_ (xs (x4 + (1 : Int32)).toNatClampNeg) (fun r147_ S148_ => ∃ x149_ : Int32, r147_ = some (.int x149_) ∧ (q_K S148_ a144_ = 13 ∧ (wm_X12_thrown S148_ a144_ (fun r151_ S152_ => ∃ x153_ : Int32, r151_ = some (.int x153_) ∧ (((x153_ = x142_ → (((¬ x142_ = 0 → (wb_L_law_502 L xs B23 (u + m139_) (v + m140_) S152_ r1 r2 r3 x4 )) ∧ (x142_ = 0 → (∃ a156_ : Nat, r3 = some a156_ ∧ (q_K S152_ a156_ = 23 ∧ (vp_in (0 : Int32) (q_N S152_ a156_) ∧ ((((lg_cmp (q_B S152_ a156_ (0 : Int32).toNatClampNeg) (x149_.toInt64)) = 0 → (wb_L_law_502 L xs B23 (u + m139_) (v + m140_) S152_ r1 r2 r3 x4 )) ∧ (¬ (lg_cmp (q_B S152_ a156_ (0 : Int32).toNatClampNeg) (x149_.toInt64)) = 0 → ((0 : Int32) = 1))))))))))) ∧ (¬ x153_ = x142_ → ((0 : Int32) = 1))))))))))))))))) ∧ ((((xs x4.toNatClampNeg) &&& (31 : Int32)) = (8 : Int32)) → (vp_in (x4 + (1 : Int32)) L ∧ (vp_in (x4 + (2 : Int32)) L ∧ (∃ a163_ : Nat, r1 = some a163_ ∧ (q_K S a163_ = 12 ∧ (wm_X11_peek S a163_ (xs (x4 + (1 : Int32)).toNatClampNeg) (xs (x4 + (2 : Int32)).toNatClampNeg) (fun r166_ S167_ => ∃ x168_ : Int32, r166_ = some (.int x168_) ∧ (vp_in (x4 + (1 : Int32)) L ∧ (vp_in (x4 + (2 : Int32)) L ∧ (∃ a171_ : Nat, r2 = some a171_ ∧ (q_K S167_ a171_ = 13 ∧ (wm_X12_peek S167_ a171_ (xs (x4 + (1 : Int32)).toNatClampNeg) (xs (x4 + (2 : Int32)).toNatClampNeg) (fun r174_ S175_ => ∃ x176_ : Int32, r174_ = some (.int x176_) ∧ (((x168_ = x176_ → (wb_L_law_1058 L xs B23 u v S175_ r1 r2 r3 x4 )) ∧ (¬ x168_ = x176_ → ((0 : Int32) = 1))))))))))))))))) ∧ ((((xs x4.toNatClampNeg) &&& (31 : Int32)) = (9 : Int32)) → (vp_in (x4 + (1 : Int32)) L ∧ (vp_in (x4 + (2 : Int32)) L ∧ (vp_in (x4 + (3 : Int32)) L ∧ (∃ a181_ : Nat, r1 = some a181_ ∧ (q_K S a181_ = 12 ∧ (wm_X11_register S a181_ (xs (x4 + (1 : Int32)).toNatClampNeg) (xs (x4 + (2 : Int32)).toNatClampNeg) (xs (x4 + (3 : Int32)).toNatClampNeg) (fun r184_ S185_ => ∃ x186_ : Int32, r184_ = some (.int x186_) ∧ (vp_in (x4 + (1 : Int32)) L ∧ (vp_in (x4 + (2 : Int32)) L ∧ (vp_in (x4 + (3 : Int32)) L ∧ (∃ a190_ : Nat, r2 = some a190_ ∧ (q_K S185_ a190_ = 13 ∧ (wm_X12_register S185_ a190_ (xs (x4 + (1 : Int32)).toNatClampNeg) (xs (x4 + (2 : Int32)).toNatClampNeg) (xs (x4 + (3 : Int32)).toNatClampNeg) (fun r193_ S194_ => ∃ x195_ : Int32, r193_ = some (.int x195_) ∧ (((x186_ = x195_ → (wb_L_law_1058 L xs B23 u v S194_ r1 r2 r3 x4 )) ∧ (¬ x186_ = x195_ → ((0 : Int32) = 1))))))))))))))))))) ∧ ((((xs x4.toNatClampNeg) &&& (31 : Int32)) = (10 : Int32)) → (vp_in (x4 + (1 : Int32)) L ∧ (vp_in (x4 + (2 : Int32)) L ∧ (vp_in (x4 + (3 : Int32)) L ∧ (∃ a200_ : Nat, r1 = some a200_ ∧ (q_K S a200_ = 12 ∧ (wm_X11_state S a200_ (xs (x4 + (1 : Int32)).toNatClampNeg) (xs (x4 + (2 : Int32)).toNatClampNeg) (xs (x4 + (3 : Int32)).toNatClampNeg) (fun r203_ S204_ => ∃ x205_ : Int32, r203_ = some (.int x205_) ∧ (vp_in (x4 + (1 : Int32)) L ∧ (vp_in (x4 + (2 : Int32)) L ∧ (vp_in (x4 + (3 : Int32)) L ∧ (∃ a209_ : Nat, r2 = some a209_ ∧ (q_K S204_ a209_ = 13 ∧ (wm_X12_state S204_ a209_ (xs (x4 + (1 : Int32)).toNatClampNeg) (xs (x4 + (2 : Int32)).toNatClampNeg) (xs (x4 + (3 : Int32)).toNatClampNeg) (fun r212_ S213_ => ∃ x214_ : Int32, r212_ = some (.int x214_) ∧ (((x205_ = x214_ → (wb_L_law_1058 L xs B23 u v S213_ r1 r2 r3 x4 )) ∧ (¬ x205_ = x214_ → ((0 : Int32) = 1))))))))))))))))))) ∧ ((((xs x4.toNatClampNeg) &&& (31 : Int32)) = (11 : Int32)) → (vp_in (x4 + (1 : Int32)) L ∧ (vp_in (x4 + (2 : Int32)) L ∧ (∃ a218_ : Nat, r1 = some a218_ ∧ (q_K S a218_ = 12 ∧ (wm_X11_partition S a218_ (xs (x4 + (1 : Int32)).toNatClampNeg) (xs (x4 + (2 : Int32)).toNatClampNeg) (fun r221_ S222_ => ∃ x223_ : Int32, r221_ = some (.int x223_) ∧ (vp_in (x4 + (1 : Int32)) L ∧ (vp_in (x4 + (2 : Int32)) L ∧ (∃ a226_ : Nat, r2 = some a226_ ∧ (q_K S222_ a226_ = 13 ∧ (wm_X12_partition S222_ a226_ (xs (x4 + (1 : Int32)).toNatClampNeg) (xs (x4 + (2 : Int32)).toNatClampNeg) (fun r229_ S230_ => ∃ x231_ : Int32, r229_ = some (.int x231_) ∧ (((x223_ = x231_ → (wb_L_law_1058 L xs B23 u v S230_ r1 r2 r3 x4 )) ∧ (¬ x223_ = x231_ → ((0 : Int32) = 1))))))))))))))))) ∧ ((((xs x4.toNatClampNeg) &&& (31 : Int32)) = (12 : Int32)) → (vp_in (x4 + (1 : Int32)) L ∧ (vp_in (x4 + (2 : Int32)) L ∧ (vp_in (x4 + (3 : Int32)) L ∧ (∃ a236_ : Nat, r1 = some a236_ ∧ (q_K S a236_ = 12 ∧ (wm_X11_thing S a236_ (xs (x4 + (1 : Int32)).toNatClampNeg) (xs (x4 + (2 : Int32)).toNatClampNeg) (xs (x4 + (3 : Int32)).toNatClampNeg) (fun r239_ S240_ => ∃ x241_ : Int32, r239_ = some (.int x241_) ∧ (vp_in (x4 + (1 : Int32)) L ∧ (vp_in (x4 + (2 : Int32)) L ∧ (vp_in (x4 + (3 : Int32)) L ∧ (∃ a245_ : Nat, r2 = some a245_ ∧ (q_K S240_ a245_ = 13 ∧ (wm_X12_thing S240_ a245_ (xs (x4 + (1 : Int32)).toNatClampNeg) (xs (x4 + (2 : Int32)).toNatClampNeg) (xs (x4 + (3 : Int32)).toNatClampNeg) (fun r248_ S249_ => ∃ x250_ : Int32, r248_ = some (.int x250_) ∧ (((x241_ = x250_ → (wb_L_law_1058 L xs B23 u v S249_ r1 r2 r3 x4 )) ∧ (¬ x241_ = x250_ → ((0 : Int32) = 1))))))))))))))))))) ∧ ((((xs x4.toNatClampNeg) &&& (31 : Int32)) = (13 : Int32)) → (vp_in (x4 + (1 : Int32)) L ∧ (vp_in (x4 + (2 : Int32)) L ∧ (vp_in (x4 + (3 : Int32)) L ∧ (∃ a255_ : Nat, r1 = some a255_ ∧ (q_K S a255_ = 12 ∧ (wm_X11_waiting S a255_ (xs (x4 + (1 : Int32)).toNatClampNeg) (xs (x4 + (2 : Int32)).toNatClampNeg) (xs (x4 + (3 : Int32)).toNatClampNeg) (fun r258_ S259_ => ∃ x260_ : Int32, r258_ = some (.int x260_) ∧ (vp_in (x4 + (1 : Int32)) L ∧ (vp_in (x4 + (2 : Int32)) L ∧ (vp_in (x4 + (3 : Int32)) L ∧ (∃ a264_ : Nat, r2 = some a264_ ∧ (q_K S259_ a264_ = 13 ∧ (wm_X12_waiting S259_ a264_ (xs (x4 + (1 : Int32)).toNatClampNeg) (xs (x4 + (2 : Int32)).toNatClampNeg) (xs (x4 + (3 : Int32)).toNatClampNeg) (fun r267_ S268_ => ∃ x269_ : Int32, r267_ = some (.int x269_) ∧ (((x260_ = x269_ → (wb_L_law_1058 L xs B23 u v S268_ r1 r2 r3 x4 )) ∧ (¬ x260_ = x269_ → ((0 : Int32) = 1))))))))))))))))))) ∧ ((((xs x4.toNatClampNeg) &&& (31 : Int32)) = (14 : Int32)) → (vp_in (x4 + (1 : Int32)) L ∧ (vp_in (x4 + (2 : Int32)) L ∧ (vp_in (x4 + (3 : Int32)) L ∧ (∃ a274_ : Nat, r1 = some a274_ ∧ (q_K S a274_ = 12 ∧ (wm_X11_region S a274_ (xs (x4 + (1 : Int32)).toNatClampNeg) (xs (x4 + (2 : Int32)).toNatClampNeg) (xs (x4 + (3 : Int32)).toNatClampNeg) (fun r277_ S278_ => ∃ x279_ : Int32, r277_ = some (.int x279_) ∧ (vp_in (x4 + (1 : Int32)) L ∧ (vp_in (x4 + (2 : Int32)) L ∧ (vp_in (x4 + (3 : Int32)) L ∧ (∃ a283_ : Nat, r2 = some a283_ ∧ (q_K S278_ a283_ = 13 ∧ (wm_X12_region S278_ a283_ (xs (x4 + (1 : Int32)).toNatClampNeg) (xs (x4 + (2 : Int32)).toNatClampNeg) (xs (x4 + (3 : Int32)).toNatClampNeg) (fun r286_ S287_ => ∃ x288_ : Int32, r286_ = some (.int x288_) ∧ (((x279_ = x288_ → (wb_L_law_1058 L xs B23 u v S287_ r1 r2 r3 x4 )) ∧ (¬ x279_ = x288_ → ((0 : Int32) = 1))))))))))))))))))) ∧ ((((xs x4.toNatClampNeg) &&& (31 : Int32)) = (15 : Int32)) → (vp_in (x4 + (1 : Int32)) L ∧ (vp_in (x4 + (2 : Int32)) L ∧ (vp_in (x4 + (3 : Int32)) L ∧ (vp_in (x4 + (4 : Int32)) L ∧ (∃ a294_ : Nat, r1 = some a294_ ∧ (q_K S a294_ = 12 ∧ (wm_X11_wordOf S a294_ (xs (x4 + (1 : Int32)).toNatClampNeg) (xs (x4 + (2 : Int32)).toNatClampNeg) (xs (x4 + (3 : Int32)).toNatClampNeg) (xs (x4 + (4 : Int32)).toNatClampNeg) (fun r297_ S298_ => ∃ x299_ : Int32, r297_ = some (.int x299_) ∧ (vp_in (x4 + (1 : Int32)) L ∧ (vp_in (x4 + (2 : Int32)) L ∧ (vp_in (x4 + (3 : Int32)) L ∧ (vp_in (x4 + (4 : Int32)) L ∧ (∃ a304_ : Nat, r2 = some a304_ ∧ (q_K S298_ a304_ = 13 ∧ (wm_X12_wordOf S298_ a304_ (xs (x4 + (1 : Int32)).toNatClampNeg) (xs (x4 + (2 : Int32)).toNatClampNeg) (xs (x4 + (3 : Int32)).toNatClampNeg) (xs (x4 + (4 : Int32)).toNatClampNeg) (fun r307_ S308_ => ∃ x309_ : Int32, r307_ = some (.int x309_) ∧ (((x299_ = x309_ → (wb_L_law_1058 L xs B23 u v S308_ r1 r2 r3 x4 )) ∧ (¬ x299_ = x309_ → ((0 : Int32) = 1))))))))))))))))))))) ∧ ((((xs x4.toNatClampNeg) &&& (31 : Int32)) = (16 : Int32)) → (vp_in (x4 + (1 : Int32)) L ∧ (vp_in (x4 + (2 : Int32)) L ∧ (∃ a313_ : Nat, r1 = some a313_ ∧ (q_K S a313_ = 12 ∧ (wm_X11_channel S a313_ (xs (x4 + (1 : Int32)).toNatClampNeg) (xs (x4 + (2 : Int32)).toNatClampNeg) (fun r316_ S317_ => ∃ x318_ : Int32, r316_ = some (.int x318_) ∧ (vp_in (x4 + (1 : Int32)) L ∧ (vp_in (x4 + (2 : Int32)) L ∧ (∃ a321_ : Nat, r2 = some a321_ ∧ (q_K S317_ a321_ = 13 ∧ (wm_X12_channel S317_ a321_ (xs (x4 + (1 : Int32)).toNatClampNeg) (xs (x4 + (2 : Int32)).toNatClampNeg) (fun r324_ S325_ => ∃ x326_ : Int32, r324_ = some (.int x326_) ∧ (((x318_ = x326_ → (wb_L_law_1058 L xs B23 u v S325_ r1 r2 r3 x4 )) ∧ (¬ x318_ = x326_ → ((0 : Int32) = 1))))))))))))))))) ∧ ((((xs x4.toNatClampNeg) &&& (31 : Int32)) = (17 : Int32)) → (vp_in (x4 + (1 : Int32)) L ∧ (vp_in (x4 + (2 : Int32)) L ∧ (∃ a330_ : Nat, r1 = some a330_ ∧ (q_K S a330_ = 12 ∧ (wm_X11_wordAt S a330_ (xs (x4 + (1 : Int32)).toNatClampNeg) (xs (x4 + (2 : Int32)).toNatClampNeg) (fun r333_ S334_ => ∃ x335_ : Int32, r333_ = some (.int x335_) ∧ (vp_in (x4 + (1 : Int32)) L ∧ (vp_in (x4 + (2 : Int32)) L ∧ (∃ a338_ : Nat, r2 = some a338_ ∧ (q_K S334_ a338_ = 13 ∧ (wm_X12_wordAt S334_ a338_ (xs (x4 + (1 : Int32)).toNatClampNeg) (xs (x4 + (2 : Int32)).toNatClampNeg) (fun r341_ S342_ => ∃ x343_ : Int32, r341_ = some (.int x343_) ∧ (((x335_ = x343_ → (wb_L_law_1058 L xs B23 u v S342_ r1 r2 r3 x4 )) ∧ (¬ x335_ = x343_ → ((0 : Int32) = 1))))))))))))))))) ∧ ((((xs x4.toNatClampNeg) &&& (31 : Int32)) = (18 : Int32)) → (vp_in (x4 + (1 : Int32)) L ∧ (vp_in (x4 + (2 : Int32)) L ∧ (∃ a347_ : Nat, r1 = some a347_ ∧ (q_K S a347_ = 12 ∧ (wm_X11_trace S a347_ (xs (x4 + (1 : Int32)).toNatClampNeg) (xs (x4 + (2 : Int32)).toNatClampNeg) (fun r350_ S351_ => ∃ x352_ : Int32, r350_ = some (.int x352_) ∧ (vp_in (x4 + (1 : Int32)) L ∧ (vp_in (x4 + (2 : Int32)) L ∧ (∃ a355_ : Nat, r2 = some a355_ ∧ (q_K S351_ a355_ = 13 ∧ (wm_X12_trace S351_ a355_ (xs (x4 + (1 : Int32)).toNatClampNeg) (xs (x4 + (2 : Int32)).toNatClampNeg) (fun r358_ S359_ => ∃ x360_ : Int32, r358_ = some (.int x360_) ∧ (((x352_ = x360_ → (wb_L_law_1058 L xs B23 u v S359_ r1 r2 r3 x4 )) ∧ (¬ x352_ = x360_ → ((0 : Int32) = 1))))))))))))))))) ∧ ((((xs x4.toNatClampNeg) &&& (31 : Int32)) = (19 : Int32)) → (vp_in (x4 + (1 : Int32)) L ∧ (vp_in (x4 + (2 : Int32)) L ∧ (∃ a364_ : Nat, r1 = some a364_ ∧ (q_K S a364_ = 12 ∧ (wm_X11_error S a364_ (xs (x4 + (1 : Int32)).toNatClampNeg) (xs (x4 + (2 : Int32)).toNatClampNeg) (fun r367_ S368_ => ∃ x369_ : Int32, r367_ = some (.int x369_) ∧ (vp_in (x4 + (1 : Int32)) L ∧ (vp_in (x4 + (2 : Int32)) L ∧ (∃ a372_ : Nat, r2 = some a372_ ∧ (q_K S368_ a372_ = 13 ∧ (wm_X12_error S368_ a372_ (xs (x4 + (1 : Int32)).toNatClampNeg) (xs (x4 + (2 : Int32)).toNatClampNeg) (fun r375_ S376_ => ∃ x377_ : Int32, r375_ = some (.int x377_) ∧ (((x369_ = x377_ → (wb_L_law_1058 L xs B23 u v S376_ r1 r2 r3 x4 )) ∧ (¬ x369_ = x377_ → ((0 : Int32) = 1))))))))))))))))) ∧ ((((xs x4.toNatClampNeg) &&& (31 : Int32)) = (20 : Int32)) → (vp_in (x4 + (1 : Int32)) L ∧ (∃ a380_ : Nat, r1 = some a380_ ∧ (q_K S a380_ = 12 ∧ (wm_X11_about S a380_ (xs (x4 + (1 : Int32)).toNatClampNeg) (fun r383_ S384_ => ∃ x385_ : Int32, r383_ = some (.int x385_) ∧ (vp_in (x4 + (1 : Int32)) L ∧ (∃ a387_ : Nat, r2 = some a387_ ∧ (q_K S384_ a387_ = 13 ∧ (wm_X12_about S384_ a387_ (xs (x4 + (1 : Int32)).toNatClampNeg) (fun r390_ S391_ => ∃ x392_ : Int32, r390_ = some (.int x392_) ∧ (((x385_ = x392_ → (wb_L_law_1058 L xs B23 u v S391_ r1 r2 r3 x4 )) ∧ (¬ x385_ = x392_ → ((0 : Int32) = 1))))))))))))))))))))
set_option maxHeartbeats 4000000 in
set_option maxRecDepth 100000 in
theorem cb_L_law_23 {p : Program} {l : Launch} {e : Env} {s : State} {m : MethodId} {below : List Frame} {meth : Method} {c : Code} {D : va_G} {cy : Nat → ClassId} {b L : Nat} {xs : Nat → Int32} {B23 : Nat → Nat → q_S → Option Nat → Option Nat → Option Nat → Int32 → Prop} {u v : Nat} {S : q_S} {r1 : Option Nat} {r2 : Option Nat} {r3 : Option Nat} {x4 : Int32}  {H : Heap} {locs : List Loc} {ls : Array Slot} (X : q_X p s m #[Value.ref b] meth c RL cL_law 7 (some .boolean) D cy s.heap.size) (hNc : q_Nc s) (hst : l.stackTraces = false) (hX : va_X b L xs s s.heap) (hbl : b < s.heap.size) (hB23 : ∀ (u v : Nat) (S : q_S) (r1 : Option Nat) (r2 : Option Nat) (r3 : Option Nat) (x4 : Int32) (H : Heap) (locs : List Loc) (ls : Array Slot), B23 u v S r1 r2 r3 x4 → (u ≤ 600128 ∧ v ≤ 7301098) → q_Y D cy s.heap.size s S H locs → lv_has ls 7 [(0, .ref b), (1, va_rf r1), (2, va_rf r2), (3, va_rf r3), (4, .int x4)] → W p l e room_1 s m #[Value.ref b] below meth c H locs u v (lw_Z below #[Value.ref b] s) (F0 m 23 ls [])) (hu : u ≤ 600128 ∧ v ≤ 7301098) (Y : q_Y D cy s.heap.size s S H locs) (hl : lv_has ls 7 [(0, .ref b), (1, va_rf r1), (2, va_rf r2), (3, va_rf r3), (4, .int x4)]) (h : wb_L_law_23 L xs B23 u v S r1 r2 r3 x4 ) : W p l e room_1 s m #[Value.ref b] below meth c H locs u v (lw_Z below #[Value.ref b] s) (F0 m 23 ls []) := by
  have hx := X.1
  have hb := X.2.1
  unfold wb_L_law_23 at h
  refine lv_iload hx hb dL_law_23 (lv_at hl 4 rfl) ?_
  refine lv_aload_n hx hb dL_law_25 rfl (lv_at hl 0 rfl) ?_
  refine va_slen hx hb hX hbl (Nat.not_le.mpr hbl) Y.2 dL_law_26 ?_
  refine lv_bipush (v := 6) hx hb dL_law_27 (by decide) ?_
  refine lv_isub hx hb dL_law_29 ?_
  refine lv_icmp_gt (tgt := 1064) hx hb dL_law_30 (by decide) (fun c1_ => ?_) (fun c1_ => ?_)
  · replace h := h.1 c1_
    refine lv_iconst (v := 1) hx hb dL_law_1064 (by decide) ?_
    exact q_lawret X Y hu h dL_law_1065
  · replace h := h.2 c1_
    refine lv_aload_n hx hb dL_law_33 rfl (lv_at hl 0 rfl) ?_
    refine lv_iload hx hb dL_law_34 (lv_at hl 4 rfl) ?_
    obtain ⟨i2_, h⟩ := h
    refine va_sld hx hb hX hbl (Nat.not_le.mpr hbl) Y.2 i2_ dL_law_36 ?_
    refine lv_bipush (v := 31) hx hb dL_law_37 (by decide) ?_
    refine lv_iand hx hb dL_law_39 ?_
    refine q_tsw (tgt := 1058) hx hb dL_law_40 (by decide) (by decide) (fun c394_ => ?_) (fun j395_ hj_ c394_ => ?_)
    · replace h := h.1 c394_
      exact cb_L_law_1058 X hNc hst hX hbl hB23 hu Y (lv_sub hl [0, 1, 2, 3, 4] rfl) h
    · match j395_, hj_, c394_ with
      | 0, _, c394_ =>
        refine ⟨100, 140, rfl, by decide, ?_⟩
        replace h := h.2.1 (q_eqI c394_ (by decide))
        refine q_aload_n hx hb dL_law_140 rfl (lv_at hl 1 rfl) ?_
        refine lv_aload_n hx hb dL_law_141 rfl (lv_at hl 0 rfl) ?_
        refine lv_iload hx hb dL_law_142 (lv_at hl 4 rfl) ?_
        refine lv_iconst (v := 1) hx hb dL_law_144 (by decide) ?_
        refine lv_iadd hx hb dL_law_145 ?_
        obtain ⟨i3_, h⟩ := h
        refine va_sld hx hb hX hbl (Nat.not_le.mpr hbl) Y.2 i3_ dL_law_146 ?_
        refine lv_aload_n hx hb dL_law_147 rfl (lv_at hl 0 rfl) ?_
        refine lv_iload hx hb dL_law_148 (lv_at hl 4 rfl) ?_
        refine lv_iconst (v := 2) hx hb dL_law_150 (by decide) ?_
        refine lv_iadd hx hb dL_law_151 ?_
        obtain ⟨i4_, h⟩ := h
        refine va_sld hx hb hX hbl (Nat.not_le.mpr hbl) Y.2 i4_ dL_law_152 ?_
        refine lv_aload_n hx hb dL_law_153 rfl (lv_at hl 0 rfl) ?_
        refine lv_iload hx hb dL_law_154 (lv_at hl 4 rfl) ?_
        refine lv_iconst (v := 3) hx hb dL_law_156 (by decide) ?_
        refine lv_iadd hx hb dL_law_157 ?_
        obtain ⟨i5_, h⟩ := h
        refine va_sld hx hb hX hbl (Nat.not_le.mpr hbl) Y.2 i5_ dL_law_158 ?_
        refine lv_aload_n hx hb dL_law_159 rfl (lv_at hl 0 rfl) ?_
        refine lv_iload hx hb dL_law_160 (lv_at hl 4 rfl) ?_
        refine lv_iconst (v := 4) hx hb dL_law_162 (by decide) ?_
        refine lv_iadd hx hb dL_law_163 ?_
        obtain ⟨i6_, h⟩ := h
        refine va_sld hx hb hX hbl (Nat.not_le.mpr hbl) Y.2 i6_ dL_law_164 ?_
        refine lv_aload_n hx hb dL_law_165 rfl (lv_at hl 0 rfl) ?_
        refine lv_iload hx hb dL_law_166 (lv_at hl 4 rfl) ?_
        refine lv_iconst (v := 5) hx hb dL_law_168 (by decide) ?_
        refine lv_iadd hx hb dL_law_169 ?_
        obtain ⟨i7_, h⟩ := h
        refine va_sld hx hb hX hbl (Nat.not_le.mpr hbl) Y.2 i7_ dL_law_170 ?_
        obtain ⟨a8_, e9_, h⟩ := h
        refine q_nn [.int (xs (x4 + (5 : Int32)).toNatClampNeg), .int (xs (x4 + (4 : Int32)).toNatClampNeg), .int (xs (x4 + (3 : Int32)).toNatClampNeg), .int (xs (x4 + (2 : Int32)).toNatClampNeg), .int (xs (x4 + (1 : Int32)).toNatClampNeg)] e9_ ?_
        obtain ⟨k10_, h⟩ := h
        refine q_callV X Y hl (cm_X11_feed h) mt_X11_feed mi_X11_feed ml_L_37 (ci := 11) rfl k10_ (by decide) rfl rfl (by first | exact Nat.le_of_ble_eq_true rfl | simp [q_cat, q_catI, q_catJ, q_catR]) ⟨Nat.le_of_ble_eq_true rfl, Nat.le_of_ble_eq_true rfl⟩ hu dL_law_171 (fun r11_ S12_ H locs hp Y => ?_)
        obtain ⟨rfl, h⟩ := hp
        refine W.eq (g2 := F0 m 174 ls []) rfl ?_
        refine q_aload_n hx hb dL_law_174 rfl (lv_at hl 2 rfl) ?_
        refine lv_aload_n hx hb dL_law_175 rfl (lv_at hl 0 rfl) ?_
        refine lv_iload hx hb dL_law_176 (lv_at hl 4 rfl) ?_
        refine lv_iconst (v := 1) hx hb dL_law_178 (by decide) ?_
        refine lv_iadd hx hb dL_law_179 ?_
        obtain ⟨i13_, h⟩ := h
        refine va_sld hx hb hX hbl (Nat.not_le.mpr hbl) Y.2 i13_ dL_law_180 ?_
        refine lv_aload_n hx hb dL_law_181 rfl (lv_at hl 0 rfl) ?_
        refine lv_iload hx hb dL_law_182 (lv_at hl 4 rfl) ?_
        refine lv_iconst (v := 2) hx hb dL_law_184 (by decide) ?_
        refine lv_iadd hx hb dL_law_185 ?_
        obtain ⟨i14_, h⟩ := h
        refine va_sld hx hb hX hbl (Nat.not_le.mpr hbl) Y.2 i14_ dL_law_186 ?_
        refine lv_aload_n hx hb dL_law_187 rfl (lv_at hl 0 rfl) ?_
        refine lv_iload hx hb dL_law_188 (lv_at hl 4 rfl) ?_
        refine lv_iconst (v := 3) hx hb dL_law_190 (by decide) ?_
        refine lv_iadd hx hb dL_law_191 ?_
        obtain ⟨i15_, h⟩ := h
        refine va_sld hx hb hX hbl (Nat.not_le.mpr hbl) Y.2 i15_ dL_law_192 ?_
        refine lv_aload_n hx hb dL_law_193 rfl (lv_at hl 0 rfl) ?_
        refine lv_iload hx hb dL_law_194 (lv_at hl 4 rfl) ?_
        refine lv_iconst (v := 4) hx hb dL_law_196 (by decide) ?_
        refine lv_iadd hx hb dL_law_197 ?_
        obtain ⟨i16_, h⟩ := h
        refine va_sld hx hb hX hbl (Nat.not_le.mpr hbl) Y.2 i16_ dL_law_198 ?_
        refine lv_aload_n hx hb dL_law_199 rfl (lv_at hl 0 rfl) ?_
        refine lv_iload hx hb dL_law_200 (lv_at hl 4 rfl) ?_
        refine lv_iconst (v := 5) hx hb dL_law_202 (by decide) ?_
        refine lv_iadd hx hb dL_law_203 ?_
        obtain ⟨i17_, h⟩ := h
        refine va_sld hx hb hX hbl (Nat.not_le.mpr hbl) Y.2 i17_ dL_law_204 ?_
        obtain ⟨a18_, e19_, h⟩ := h
        refine q_nn [.int (xs (x4 + (5 : Int32)).toNatClampNeg), .int (xs (x4 + (4 : Int32)).toNatClampNeg), .int (xs (x4 + (3 : Int32)).toNatClampNeg), .int (xs (x4 + (2 : Int32)).toNatClampNeg), .int (xs (x4 + (1 : Int32)).toNatClampNeg)] e19_ ?_
        obtain ⟨k20_, h⟩ := h
        refine q_callV X Y hl (cm_X12_feed h) mt_X12_feed mi_X12_feed ml_L_41 (ci := 12) rfl k20_ (by decide) rfl rfl (by first | exact Nat.le_of_ble_eq_true rfl | simp [q_cat, q_catI, q_catJ, q_catR]) ⟨Nat.le_of_ble_eq_true rfl, Nat.le_of_ble_eq_true rfl⟩ hu dL_law_205 (fun r21_ S22_ H locs hp Y => ?_)
        obtain ⟨rfl, h⟩ := hp
        refine W.eq (g2 := F0 m 208 ls []) rfl ?_
        refine lv_goto (tgt := 1058) hx hb dL_law_208 (by decide) ?_
        exact cb_L_law_1058 X hNc hst hX hbl hB23 hu Y (lv_sub hl [0, 1, 2, 3, 4] rfl) h
      | 1, _, c394_ =>
        refine ⟨171, 211, rfl, by decide, ?_⟩
        replace h := h.2.2.1 (q_eqI c394_ (by decide))
        refine q_aload_n hx hb dL_law_211 rfl (lv_at hl 1 rfl) ?_
        refine lv_aload_n hx hb dL_law_212 rfl (lv_at hl 0 rfl) ?_
        refine lv_iload hx hb dL_law_213 (lv_at hl 4 rfl) ?_
        refine lv_iconst (v := 1) hx hb dL_law_215 (by decide) ?_
        refine lv_iadd hx hb dL_law_216 ?_
        obtain ⟨i23_, h⟩ := h
        refine va_sld hx hb hX hbl (Nat.not_le.mpr hbl) Y.2 i23_ dL_law_217 ?_
        obtain ⟨a24_, e25_, h⟩ := h
        refine q_nn [.int (xs (x4 + (1 : Int32)).toNatClampNeg)] e25_ ?_
        obtain ⟨k26_, h⟩ := h
        refine q_callV X Y hl (cm_X11_end h) mt_X11_end mi_X11_end ml_L_42 (ci := 11) rfl k26_ (by decide) rfl rfl (by first | exact Nat.le_of_ble_eq_true rfl | simp [q_cat, q_catI, q_catJ, q_catR]) ⟨Nat.le_of_ble_eq_true rfl, Nat.le_of_ble_eq_true rfl⟩ hu dL_law_218 (fun r27_ S28_ H locs hp Y => ?_)
        obtain ⟨x29_, rfl, h⟩ := hp
        refine W.eq (g2 := F0 m 221 ls [.int x29_]) rfl ?_
        refine q_aload_n hx hb dL_law_221 rfl (lv_at hl 2 rfl) ?_
        refine lv_aload_n hx hb dL_law_222 rfl (lv_at hl 0 rfl) ?_
        refine lv_iload hx hb dL_law_223 (lv_at hl 4 rfl) ?_
        refine lv_iconst (v := 1) hx hb dL_law_225 (by decide) ?_
        refine lv_iadd hx hb dL_law_226 ?_
        obtain ⟨i30_, h⟩ := h
        refine va_sld hx hb hX hbl (Nat.not_le.mpr hbl) Y.2 i30_ dL_law_227 ?_
        obtain ⟨a31_, e32_, h⟩ := h
        refine q_nn [.int (xs (x4 + (1 : Int32)).toNatClampNeg)] e32_ ?_
        obtain ⟨k33_, h⟩ := h
        refine q_callV X Y hl (cm_X12_end_ h) mt_X12_end_ mi_X12_end_ ml_L_45 (ci := 12) rfl k33_ (by decide) rfl rfl (by first | exact Nat.le_of_ble_eq_true rfl | simp [q_cat, q_catI, q_catJ, q_catR]) ⟨Nat.le_of_ble_eq_true rfl, Nat.le_of_ble_eq_true rfl⟩ hu dL_law_228 (fun r34_ S35_ H locs hp Y => ?_)
        obtain ⟨x36_, rfl, h⟩ := hp
        refine W.eq (g2 := F0 m 231 ls [.int x36_, .int x29_]) rfl ?_
        refine lv_icmp_eq (tgt := 1058) hx hb dL_law_231 (by decide) (fun c37_ => ?_) (fun c37_ => ?_)
        · replace h := h.1 c37_
          exact cb_L_law_1058 X hNc hst hX hbl hB23 hu Y (lv_sub hl [0, 1, 2, 3, 4] rfl) h
        · replace h := h.2 c37_
          refine lv_iconst (v := 0) hx hb dL_law_234 (by decide) ?_
          exact q_lawret X Y hu h dL_law_235
      | 2, _, c394_ =>
        refine ⟨196, 236, rfl, by decide, ?_⟩
        replace h := h.2.2.2.1 (q_eqI c394_ (by decide))
        refine q_aload_n hx hb dL_law_236 rfl (lv_at hl 1 rfl) ?_
        refine q_aload_n hx hb dL_law_237 rfl (lv_at hl 3 rfl) ?_
        obtain ⟨m40_, m41_, w42_, h⟩ := h
        refine q_callW X hNc Y hl (cm_L_load hst h) mw_L_load ms_L_load ml_L_46 rfl rfl (by first | exact Nat.le_of_ble_eq_true rfl | simp [q_cat, q_catI, q_catJ, q_catR]) ⟨Nat.le_of_ble_eq_true rfl, Nat.le_of_ble_eq_true rfl⟩ w42_ dL_law_238 (fun r38_ S39_ H locs hp Y => ?_)
        obtain ⟨x43_, rfl, h⟩ := hp
        replace hu := w42_
        refine W.eq (g2 := F0 m 241 ls [.int x43_]) rfl ?_
        refine lv_istore (i := 5) (lv' := [(5, .int x43_), (0, .ref b), (1, va_rf r1), (2, va_rf r2), (3, va_rf r3), (4, .int x4)]) hx hb dL_law_241 hl (by decide) (by first | rfl | simp [q_cat, q_catI, q_catJ, q_catR]) (fun ls hl => ?_)
        refine q_aload_n hx hb dL_law_243 rfl (lv_at hl 3 rfl) ?_
        obtain ⟨a44_, e45_, h⟩ := h
        refine q_nn [] e45_ ?_
        obtain ⟨k46_, h⟩ := h
        refine q_callV X Y hl (cm_X12_load h) mt_X12_load mi_X12_load ml_L_51 (ci := 12) rfl k46_ (by decide) rfl rfl (by first | exact Nat.le_of_ble_eq_true rfl | simp [q_cat, q_catI, q_catJ, q_catR]) ⟨Nat.le_of_ble_eq_true rfl, Nat.le_of_ble_eq_true rfl⟩ hu dL_law_244 (fun r47_ S48_ H locs hp Y => ?_)
        obtain ⟨x49_, rfl, h⟩ := hp
        refine W.eq (g2 := F0 m 247 ls [.int x49_]) rfl ?_
        refine lv_istore (i := 6) (lv' := [(6, .int x49_), (5, .int x43_), (0, .ref b), (1, va_rf r1), (2, va_rf r2), (3, va_rf r3), (4, .int x4)]) hx hb dL_law_247 hl (by decide) (by first | rfl | simp [q_cat, q_catI, q_catJ, q_catR]) (fun ls hl => ?_)
        refine q_aload_n hx hb dL_law_249 rfl (lv_at hl 4 rfl) ?_
        refine q_nn [] e45_ ?_
        obtain ⟨k50_, h⟩ := h
        refine q_callV X Y hl (cm_X12_thrown h) mt_X12_thrown mi_X12_thrown ml_L_52 (ci := 12) rfl k50_ (by decide) rfl rfl (by first | exact Nat.le_of_ble_eq_true rfl | simp [q_cat, q_catI, q_catJ, q_catR]) ⟨Nat.le_of_ble_eq_true rfl, Nat.le_of_ble_eq_true rfl⟩ hu dL_law_250 (fun r51_ S52_ H locs hp Y => ?_)
        obtain ⟨x53_, rfl, h⟩ := hp
        refine W.eq (g2 := F0 m 253 ls [.int x53_]) rfl ?_
        refine lv_iload hx hb dL_law_253 (lv_at hl 1 rfl) ?_
        refine lv_icmp_eq (tgt := 260) hx hb dL_law_255 (by decide) (fun c54_ => ?_) (fun c54_ => ?_)
        · replace h := h.1 c54_
          refine lv_iload hx hb dL_law_260 (lv_at hl 1 rfl) ?_
          refine lv_if_ne (tgt := 277) hx hb dL_law_262 (by decide) (fun c55_ => ?_) (fun c55_ => ?_)
          · replace h := h.1 c55_
            exact cb_L_law_277 X hNc hst hX hbl hB23 hu Y (lv_sub hl [2, 3, 4, 5, 6] rfl) h
          · replace h := h.2 c55_
            refine q_aload_n hx hb dL_law_265 rfl (lv_at hl 5 rfl) ?_
            refine lv_iconst (v := 0) hx hb dL_law_266 (by decide) ?_
            obtain ⟨a56_, e57_, h⟩ := h
            refine q_nn [.int (0 : Int32)] e57_ ?_
            obtain ⟨k58_, h⟩ := h
            obtain ⟨i59_, h⟩ := h
            refine q_lld X Y k58_ i59_ dL_law_267 ?_
            refine lv_iload hx hb dL_law_268 (lv_at hl 0 rfl) ?_
            refine lv_i2l hx hb dL_law_270 rfl ?_
            refine W.lcmp hx hb dL_law_271 ?_
            refine lv_if_eq (tgt := 277) hx hb dL_law_272 (by decide) (fun c60_ => ?_) (fun c60_ => ?_)
            · replace h := h.1 c60_
              exact cb_L_law_277 X hNc hst hX hbl hB23 hu Y (lv_sub hl [2, 3, 4, 5, 6] rfl) h
            · replace h := h.2 c60_
              refine lv_iconst (v := 0) hx hb dL_law_275 (by decide) ?_
              exact q_lawret X Y hu h dL_law_276
        · replace h := h.2 c54_
          refine lv_iconst (v := 0) hx hb dL_law_258 (by decide) ?_
          exact q_lawret X Y hu h dL_law_259
      | 3, _, c394_ =>
        refine ⟨240, 280, rfl, by decide, ?_⟩
        replace h := h.2.2.2.2.1 (q_eqI c394_ (by decide))
        refine q_aload_n hx hb dL_law_280 rfl (lv_at hl 1 rfl) ?_
        refine lv_aload_n hx hb dL_law_281 rfl (lv_at hl 0 rfl) ?_
        refine lv_iload hx hb dL_law_282 (lv_at hl 4 rfl) ?_
        refine lv_iconst (v := 1) hx hb dL_law_284 (by decide) ?_
        refine lv_iadd hx hb dL_law_285 ?_
        obtain ⟨i61_, h⟩ := h
        refine va_sld hx hb hX hbl (Nat.not_le.mpr hbl) Y.2 i61_ dL_law_286 ?_
        obtain ⟨a62_, e63_, h⟩ := h
        refine q_nn [.int (xs (x4 + (1 : Int32)).toNatClampNeg)] e63_ ?_
        obtain ⟨k64_, h⟩ := h
        refine q_callV X Y hl (cm_X11_fault h) mt_X11_fault mi_X11_fault ml_L_55 (ci := 11) rfl k64_ (by decide) rfl rfl (by first | exact Nat.le_of_ble_eq_true rfl | simp [q_cat, q_catI, q_catJ, q_catR]) ⟨Nat.le_of_ble_eq_true rfl, Nat.le_of_ble_eq_true rfl⟩ hu dL_law_287 (fun r65_ S66_ H locs hp Y => ?_)
        obtain ⟨x67_, rfl, h⟩ := hp
        refine W.eq (g2 := F0 m 290 ls [.int x67_]) rfl ?_
        refine q_aload_n hx hb dL_law_290 rfl (lv_at hl 2 rfl) ?_
        refine lv_aload_n hx hb dL_law_291 rfl (lv_at hl 0 rfl) ?_
        refine lv_iload hx hb dL_law_292 (lv_at hl 4 rfl) ?_
        refine lv_iconst (v := 1) hx hb dL_law_294 (by decide) ?_
        refine lv_iadd hx hb dL_law_295 ?_
        obtain ⟨i68_, h⟩ := h
        refine va_sld hx hb hX hbl (Nat.not_le.mpr hbl) Y.2 i68_ dL_law_296 ?_
        obtain ⟨a69_, e70_, h⟩ := h
        refine q_nn [.int (xs (x4 + (1 : Int32)).toNatClampNeg)] e70_ ?_
        obtain ⟨k71_, h⟩ := h
        refine q_callV X Y hl (cm_X12_fault h) mt_X12_fault mi_X12_fault ml_L_58 (ci := 12) rfl k71_ (by decide) rfl rfl (by first | exact Nat.le_of_ble_eq_true rfl | simp [q_cat, q_catI, q_catJ, q_catR]) ⟨Nat.le_of_ble_eq_true rfl, Nat.le_of_ble_eq_true rfl⟩ hu dL_law_297 (fun r72_ S73_ H locs hp Y => ?_)
        obtain ⟨x74_, rfl, h⟩ := hp
        refine W.eq (g2 := F0 m 300 ls [.int x74_, .int x67_]) rfl ?_
        refine lv_icmp_eq (tgt := 1058) hx hb dL_law_300 (by decide) (fun c75_ => ?_) (fun c75_ => ?_)
        · replace h := h.1 c75_
          exact cb_L_law_1058 X hNc hst hX hbl hB23 hu Y (lv_sub hl [0, 1, 2, 3, 4] rfl) h
        · replace h := h.2 c75_
          refine lv_iconst (v := 0) hx hb dL_law_303 (by decide) ?_
          exact q_lawret X Y hu h dL_law_304
      | 4, _, c394_ =>
        refine ⟨265, 305, rfl, by decide, ?_⟩
        replace h := h.2.2.2.2.2.1 (q_eqI c394_ (by decide))
        refine q_aload_n hx hb dL_law_305 rfl (lv_at hl 1 rfl) ?_
        refine lv_aload_n hx hb dL_law_306 rfl (lv_at hl 0 rfl) ?_
        refine lv_iload hx hb dL_law_307 (lv_at hl 4 rfl) ?_
        refine lv_iconst (v := 1) hx hb dL_law_309 (by decide) ?_
        refine lv_iadd hx hb dL_law_310 ?_
        obtain ⟨i76_, h⟩ := h
        refine va_sld hx hb hX hbl (Nat.not_le.mpr hbl) Y.2 i76_ dL_law_311 ?_
        refine lv_aload_n hx hb dL_law_312 rfl (lv_at hl 0 rfl) ?_
        refine lv_iload hx hb dL_law_313 (lv_at hl 4 rfl) ?_
        refine lv_iconst (v := 2) hx hb dL_law_315 (by decide) ?_
        refine lv_iadd hx hb dL_law_316 ?_
        obtain ⟨i77_, h⟩ := h
        refine va_sld hx hb hX hbl (Nat.not_le.mpr hbl) Y.2 i77_ dL_law_317 ?_
        refine lv_aload_n hx hb dL_law_318 rfl (lv_at hl 0 rfl) ?_
        refine lv_iload hx hb dL_law_319 (lv_at hl 4 rfl) ?_
        refine lv_iconst (v := 3) hx hb dL_law_321 (by decide) ?_
        refine lv_iadd hx hb dL_law_322 ?_
        obtain ⟨i78_, h⟩ := h
        refine va_sld hx hb hX hbl (Nat.not_le.mpr hbl) Y.2 i78_ dL_law_323 ?_
        obtain ⟨m81_, m82_, w83_, h⟩ := h
        refine q_callW X hNc Y hl (cm_L_image hst h) mw_L_image ms_L_image ml_L_59 rfl rfl (by first | exact Nat.le_of_ble_eq_true rfl | simp [q_cat, q_catI, q_catJ, q_catR]) ⟨Nat.le_of_ble_eq_true rfl, Nat.le_of_ble_eq_true rfl⟩ w83_ dL_law_324 (fun r79_ S80_ H locs hp Y => ?_)
        obtain ⟨x84_, rfl, h⟩ := hp
        replace hu := w83_
        refine W.eq (g2 := F0 m 327 ls [.int x84_]) rfl ?_
        refine lv_istore (i := 5) (lv' := [(5, .int x84_), (0, .ref b), (1, va_rf r1), (2, va_rf r2), (3, va_rf r3), (4, .int x4)]) hx hb dL_law_327 hl (by decide) (by first | rfl | simp [q_cat, q_catI, q_catJ, q_catR]) (fun ls hl => ?_)
        refine q_aload_n hx hb dL_law_329 rfl (lv_at hl 3 rfl) ?_
        refine lv_aload_n hx hb dL_law_330 rfl (lv_at hl 1 rfl) ?_
        refine lv_iload hx hb dL_law_331 (lv_at hl 5 rfl) ?_
        refine lv_iconst (v := 1) hx hb dL_law_333 (by decide) ?_
        refine lv_iadd hx hb dL_law_334 ?_
        obtain ⟨i85_, h⟩ := h
        refine va_sld hx hb hX hbl (Nat.not_le.mpr hbl) Y.2 i85_ dL_law_335 ?_
        refine lv_aload_n hx hb dL_law_336 rfl (lv_at hl 1 rfl) ?_
        refine lv_iload hx hb dL_law_337 (lv_at hl 5 rfl) ?_
        refine lv_iconst (v := 2) hx hb dL_law_339 (by decide) ?_
        refine lv_iadd hx hb dL_law_340 ?_
        obtain ⟨i86_, h⟩ := h
        refine va_sld hx hb hX hbl (Nat.not_le.mpr hbl) Y.2 i86_ dL_law_341 ?_
        refine lv_aload_n hx hb dL_law_342 rfl (lv_at hl 1 rfl) ?_
        refine lv_iload hx hb dL_law_343 (lv_at hl 5 rfl) ?_
        refine lv_iconst (v := 3) hx hb dL_law_345 (by decide) ?_
        refine lv_iadd hx hb dL_law_346 ?_
        obtain ⟨i87_, h⟩ := h
        refine va_sld hx hb hX hbl (Nat.not_le.mpr hbl) Y.2 i87_ dL_law_347 ?_
        obtain ⟨a88_, e89_, h⟩ := h
        refine q_nn [.int (xs (x4 + (3 : Int32)).toNatClampNeg), .int (xs (x4 + (2 : Int32)).toNatClampNeg), .int (xs (x4 + (1 : Int32)).toNatClampNeg)] e89_ ?_
        obtain ⟨k90_, h⟩ := h
        refine q_callV X Y hl (cm_X12_image h) mt_X12_image mi_X12_image ml_L_62 (ci := 12) rfl k90_ (by decide) rfl rfl (by first | exact Nat.le_of_ble_eq_true rfl | simp [q_cat, q_catI, q_catJ, q_catR]) ⟨Nat.le_of_ble_eq_true rfl, Nat.le_of_ble_eq_true rfl⟩ hu dL_law_348 (fun r91_ S92_ H locs hp Y => ?_)
        obtain ⟨rfl, h⟩ := hp
        refine W.eq (g2 := F0 m 351 ls []) rfl ?_
        refine q_aload_n hx hb dL_law_351 rfl (lv_at hl 3 rfl) ?_
        refine q_nn [] e89_ ?_
        obtain ⟨k93_, h⟩ := h
        refine q_callV X Y hl (cm_X12_thrown h) mt_X12_thrown mi_X12_thrown ml_L_52 (ci := 12) rfl k93_ (by decide) rfl rfl (by first | exact Nat.le_of_ble_eq_true rfl | simp [q_cat, q_catI, q_catJ, q_catR]) ⟨Nat.le_of_ble_eq_true rfl, Nat.le_of_ble_eq_true rfl⟩ hu dL_law_352 (fun r94_ S95_ H locs hp Y => ?_)
        obtain ⟨x96_, rfl, h⟩ := hp
        refine W.eq (g2 := F0 m 355 ls [.int x96_]) rfl ?_
        refine lv_iload hx hb dL_law_355 (lv_at hl 0 rfl) ?_
        refine lv_icmp_eq (tgt := 362) hx hb dL_law_357 (by decide) (fun c97_ => ?_) (fun c97_ => ?_)
        · replace h := h.1 c97_
          refine lv_goto (tgt := 1058) hx hb dL_law_362 (by decide) ?_
          exact cb_L_law_1058 X hNc hst hX hbl hB23 hu Y (lv_sub hl [1, 2, 3, 4, 5] rfl) h
        · replace h := h.2 c97_
          refine lv_iconst (v := 0) hx hb dL_law_360 (by decide) ?_
          exact q_lawret X Y hu h dL_law_361
      | 5, _, c394_ =>
        refine ⟨325, 365, rfl, by decide, ?_⟩
        replace h := h.2.2.2.2.2.2.1 (q_eqI c394_ (by decide))
        refine q_aload_n hx hb dL_law_365 rfl (lv_at hl 1 rfl) ?_
        refine lv_aload_n hx hb dL_law_366 rfl (lv_at hl 0 rfl) ?_
        refine lv_iload hx hb dL_law_367 (lv_at hl 4 rfl) ?_
        refine lv_iconst (v := 1) hx hb dL_law_369 (by decide) ?_
        refine lv_iadd hx hb dL_law_370 ?_
        obtain ⟨i98_, h⟩ := h
        refine va_sld hx hb hX hbl (Nat.not_le.mpr hbl) Y.2 i98_ dL_law_371 ?_
        refine lv_aload_n hx hb dL_law_372 rfl (lv_at hl 0 rfl) ?_
        refine lv_iload hx hb dL_law_373 (lv_at hl 4 rfl) ?_
        refine lv_iconst (v := 2) hx hb dL_law_375 (by decide) ?_
        refine lv_iadd hx hb dL_law_376 ?_
        obtain ⟨i99_, h⟩ := h
        refine va_sld hx hb hX hbl (Nat.not_le.mpr hbl) Y.2 i99_ dL_law_377 ?_
        refine lv_aload_n hx hb dL_law_378 rfl (lv_at hl 0 rfl) ?_
        refine lv_iload hx hb dL_law_379 (lv_at hl 4 rfl) ?_
        refine lv_iconst (v := 3) hx hb dL_law_381 (by decide) ?_
        refine lv_iadd hx hb dL_law_382 ?_
        obtain ⟨i100_, h⟩ := h
        refine va_sld hx hb hX hbl (Nat.not_le.mpr hbl) Y.2 i100_ dL_law_383 ?_
        obtain ⟨m103_, m104_, w105_, h⟩ := h
        refine q_callW X hNc Y hl (cm_L_input hst h) mw_L_input ms_L_input ml_L_63 rfl rfl (by first | exact Nat.le_of_ble_eq_true rfl | simp [q_cat, q_catI, q_catJ, q_catR]) ⟨Nat.le_of_ble_eq_true rfl, Nat.le_of_ble_eq_true rfl⟩ w105_ dL_law_384 (fun r101_ S102_ H locs hp Y => ?_)
        obtain ⟨x106_, rfl, h⟩ := hp
        replace hu := w105_
        refine W.eq (g2 := F0 m 387 ls [.int x106_]) rfl ?_
        refine lv_istore (i := 5) (lv' := [(5, .int x106_), (0, .ref b), (1, va_rf r1), (2, va_rf r2), (3, va_rf r3), (4, .int x4)]) hx hb dL_law_387 hl (by decide) (by first | rfl | simp [q_cat, q_catI, q_catJ, q_catR]) (fun ls hl => ?_)
        refine q_aload_n hx hb dL_law_389 rfl (lv_at hl 3 rfl) ?_
        refine lv_aload_n hx hb dL_law_390 rfl (lv_at hl 1 rfl) ?_
        refine lv_iload hx hb dL_law_391 (lv_at hl 5 rfl) ?_
        refine lv_iconst (v := 1) hx hb dL_law_393 (by decide) ?_
        refine lv_iadd hx hb dL_law_394 ?_
        obtain ⟨i107_, h⟩ := h
        refine va_sld hx hb hX hbl (Nat.not_le.mpr hbl) Y.2 i107_ dL_law_395 ?_
        refine lv_aload_n hx hb dL_law_396 rfl (lv_at hl 1 rfl) ?_
        refine lv_iload hx hb dL_law_397 (lv_at hl 5 rfl) ?_
        refine lv_iconst (v := 2) hx hb dL_law_399 (by decide) ?_
        refine lv_iadd hx hb dL_law_400 ?_
        obtain ⟨i108_, h⟩ := h
        refine va_sld hx hb hX hbl (Nat.not_le.mpr hbl) Y.2 i108_ dL_law_401 ?_
        refine lv_aload_n hx hb dL_law_402 rfl (lv_at hl 1 rfl) ?_
        refine lv_iload hx hb dL_law_403 (lv_at hl 5 rfl) ?_
        refine lv_iconst (v := 3) hx hb dL_law_405 (by decide) ?_
        refine lv_iadd hx hb dL_law_406 ?_
        obtain ⟨i109_, h⟩ := h
        refine va_sld hx hb hX hbl (Nat.not_le.mpr hbl) Y.2 i109_ dL_law_407 ?_
        obtain ⟨a110_, e111_, h⟩ := h
        refine q_nn [.int (xs (x4 + (3 : Int32)).toNatClampNeg), .int (xs (x4 + (2 : Int32)).toNatClampNeg), .int (xs (x4 + (1 : Int32)).toNatClampNeg)] e111_ ?_
        obtain ⟨k112_, h⟩ := h
        refine q_callV X Y hl (cm_X12_input h) mt_X12_input mi_X12_input ml_L_65 (ci := 12) rfl k112_ (by decide) rfl rfl (by first | exact Nat.le_of_ble_eq_true rfl | simp [q_cat, q_catI, q_catJ, q_catR]) ⟨Nat.le_of_ble_eq_true rfl, Nat.le_of_ble_eq_true rfl⟩ hu dL_law_408 (fun r113_ S114_ H locs hp Y => ?_)
        obtain ⟨rfl, h⟩ := hp
        refine W.eq (g2 := F0 m 411 ls []) rfl ?_
        refine q_aload_n hx hb dL_law_411 rfl (lv_at hl 3 rfl) ?_
        refine q_nn [] e111_ ?_
        obtain ⟨k115_, h⟩ := h
        refine q_callV X Y hl (cm_X12_thrown h) mt_X12_thrown mi_X12_thrown ml_L_52 (ci := 12) rfl k115_ (by decide) rfl rfl (by first | exact Nat.le_of_ble_eq_true rfl | simp [q_cat, q_catI, q_catJ, q_catR]) ⟨Nat.le_of_ble_eq_true rfl, Nat.le_of_ble_eq_true rfl⟩ hu dL_law_412 (fun r116_ S117_ H locs hp Y => ?_)
        obtain ⟨x118_, rfl, h⟩ := hp
        refine W.eq (g2 := F0 m 415 ls [.int x118_]) rfl ?_
        refine lv_iload hx hb dL_law_415 (lv_at hl 0 rfl) ?_
        refine lv_icmp_eq (tgt := 422) hx hb dL_law_417 (by decide) (fun c119_ => ?_) (fun c119_ => ?_)
        · replace h := h.1 c119_
          refine lv_goto (tgt := 1058) hx hb dL_law_422 (by decide) ?_
          exact cb_L_law_1058 X hNc hst hX hbl hB23 hu Y (lv_sub hl [1, 2, 3, 4, 5] rfl) h
        · replace h := h.2 c119_
          refine lv_iconst (v := 0) hx hb dL_law_420 (by decide) ?_
          exact q_lawret X Y hu h dL_law_421
      | 6, _, c394_ =>
        refine ⟨385, 425, rfl, by decide, ?_⟩
        replace h := h.2.2.2.2.2.2.2.1 (q_eqI c394_ (by decide))
        refine q_aload_n hx hb dL_law_425 rfl (lv_at hl 1 rfl) ?_
        obtain ⟨m122_, m123_, w124_, h⟩ := h
        refine q_callW X hNc Y hl (cm_L_begin hst h) mw_L_begin ms_L_begin ml_L_66 rfl rfl (by first | exact Nat.le_of_ble_eq_true rfl | simp [q_cat, q_catI, q_catJ, q_catR]) ⟨Nat.le_of_ble_eq_true rfl, Nat.le_of_ble_eq_true rfl⟩ w124_ dL_law_426 (fun r120_ S121_ H locs hp Y => ?_)
        obtain ⟨x125_, rfl, h⟩ := hp
        replace hu := w124_
        refine W.eq (g2 := F0 m 429 ls [.int x125_]) rfl ?_
        refine lv_istore (i := 5) (lv' := [(5, .int x125_), (0, .ref b), (1, va_rf r1), (2, va_rf r2), (3, va_rf r3), (4, .int x4)]) hx hb dL_law_429 hl (by decide) (by first | rfl | simp [q_cat, q_catI, q_catJ, q_catR]) (fun ls hl => ?_)
        refine q_aload_n hx hb dL_law_431 rfl (lv_at hl 3 rfl) ?_
        obtain ⟨a126_, e127_, h⟩ := h
        refine q_nn [] e127_ ?_
        obtain ⟨k128_, h⟩ := h
        refine q_callV X Y hl (cm_X12_begin h) mt_X12_begin mi_X12_begin ml_L_69 (ci := 12) rfl k128_ (by decide) rfl rfl (by first | exact Nat.le_of_ble_eq_true rfl | simp [q_cat, q_catI, q_catJ, q_catR]) ⟨Nat.le_of_ble_eq_true rfl, Nat.le_of_ble_eq_true rfl⟩ hu dL_law_432 (fun r129_ S130_ H locs hp Y => ?_)
        obtain ⟨rfl, h⟩ := hp
        refine W.eq (g2 := F0 m 435 ls []) rfl ?_
        refine q_aload_n hx hb dL_law_435 rfl (lv_at hl 3 rfl) ?_
        refine q_nn [] e127_ ?_
        obtain ⟨k131_, h⟩ := h
        refine q_callV X Y hl (cm_X12_thrown h) mt_X12_thrown mi_X12_thrown ml_L_52 (ci := 12) rfl k131_ (by decide) rfl rfl (by first | exact Nat.le_of_ble_eq_true rfl | simp [q_cat, q_catI, q_catJ, q_catR]) ⟨Nat.le_of_ble_eq_true rfl, Nat.le_of_ble_eq_true rfl⟩ hu dL_law_436 (fun r132_ S133_ H locs hp Y => ?_)
        obtain ⟨x134_, rfl, h⟩ := hp
        refine W.eq (g2 := F0 m 439 ls [.int x134_]) rfl ?_
        refine lv_iload hx hb dL_law_439 (lv_at hl 0 rfl) ?_
        refine lv_icmp_eq (tgt := 446) hx hb dL_law_441 (by decide) (fun c135_ => ?_) (fun c135_ => ?_)
        · replace h := h.1 c135_
          refine lv_goto (tgt := 1058) hx hb dL_law_446 (by decide) ?_
          exact cb_L_law_1058 X hNc hst hX hbl hB23 hu Y (lv_sub hl [1, 2, 3, 4, 5] rfl) h
        · replace h := h.2 c135_
          refine lv_iconst (v := 0) hx hb dL_law_444 (by decide) ?_
          exact q_lawret X Y hu h dL_law_445
      | 7, _, c394_ =>
        refine ⟨409, 449, rfl, by decide, ?_⟩
        replace h := h.2.2.2.2.2.2.2.2.1 (q_eqI c394_ (by decide))
        refine q_aload_n hx hb dL_law_449 rfl (lv_at hl 1 rfl) ?_
        refine lv_aload_n hx hb dL_law_450 rfl (lv_at hl 0 rfl) ?_
        refine lv_iload hx hb dL_law_451 (lv_at hl 4 rfl) ?_
        refine lv_iconst (v := 1) hx hb dL_law_453 (by decide) ?_
        refine lv_iadd hx hb dL_law_454 ?_
        obtain ⟨i136_, h⟩ := h
        refine va_sld hx hb hX hbl (Nat.not_le.mpr hbl) Y.2 i136_ dL_law_455 ?_
        refine q_aload_n hx hb dL_law_456 rfl (lv_at hl 3 rfl) ?_
        obtain ⟨m139_, m140_, w141_, h⟩ := h
        refine q_callW X hNc Y hl (cm_L_run hst h) mw_L_run ms_L_run ml_L_70 rfl rfl (by first | exact Nat.le_of_ble_eq_true rfl | simp [q_cat, q_catI, q_catJ, q_catR]) ⟨Nat.le_of_ble_eq_true rfl, Nat.le_of_ble_eq_true rfl⟩ w141_ dL_law_457 (fun r137_ S138_ H locs hp Y => ?_)
        obtain ⟨x142_, rfl, h⟩ := hp
        replace hu := w141_
        refine W.eq (g2 := F0 m 460 ls [.int x142_]) rfl ?_
        refine lv_istore (i := 5) (lv' := [(5, .int x142_), (0, .ref b), (1, va_rf r1), (2, va_rf r2), (3, va_rf r3), (4, .int x4)]) hx hb dL_law_460 hl (by decide) (by first | rfl | simp [q_cat, q_catI, q_catJ, q_catR]) (fun ls hl => ?_)
        refine q_aload_n hx hb dL_law_462 rfl (lv_at hl 3 rfl) ?_
        refine lv_aload_n hx hb dL_law_463 rfl (lv_at hl 1 rfl) ?_
        refine lv_iload hx hb dL_law_464 (lv_at hl 5 rfl) ?_
        refine lv_iconst (v := 1) hx hb dL_law_466 (by decide) ?_
        refine lv_iadd hx hb dL_law_467 ?_
        obtain ⟨i143_, h⟩ := h
        refine va_sld hx hb hX hbl (Nat.not_le.mpr hbl) Y.2 i143_ dL_law_468 ?_
        obtain ⟨a144_, e145_, h⟩ := h
        refine q_nn [.int (xs (x4 + (1 : Int32)).toNatClampNeg)] e145_ ?_
        obtain ⟨k146_, h⟩ := h
        refine q_callV X Y hl (cm_X12_run h) mt_X12_run mi_X12_run ml_L_73 (ci := 12) rfl k146_ (by decide) rfl rfl (by first | exact Nat.le_of_ble_eq_true rfl | simp [q_cat, q_catI, q_catJ, q_catR]) ⟨Nat.le_of_ble_eq_true rfl, Nat.le_of_ble_eq_true rfl⟩ hu dL_law_469 (fun r147_ S148_ H locs hp Y => ?_)
        obtain ⟨x149_, rfl, h⟩ := hp
        refine W.eq (g2 := F0 m 472 ls [.int x149_]) rfl ?_
        refine lv_istore (i := 6) (lv' := [(6, .int x149_), (5, .int x142_), (0, .ref b), (1, va_rf r1), (2, va_rf r2), (3, va_rf r3), (4, .int x4)]) hx hb dL_law_472 hl (by decide) (by first | rfl | simp [q_cat, q_catI, q_catJ, q_catR]) (fun ls hl => ?_)
        refine q_aload_n hx hb dL_law_474 rfl (lv_at hl 4 rfl) ?_
        refine q_nn [] e145_ ?_
        obtain ⟨k150_, h⟩ := h
        refine q_callV X Y hl (cm_X12_thrown h) mt_X12_thrown mi_X12_thrown ml_L_52 (ci := 12) rfl k150_ (by decide) rfl rfl (by first | exact Nat.le_of_ble_eq_true rfl | simp [q_cat, q_catI, q_catJ, q_catR]) ⟨Nat.le_of_ble_eq_true rfl, Nat.le_of_ble_eq_true rfl⟩ hu dL_law_475 (fun r151_ S152_ H locs hp Y => ?_)
        obtain ⟨x153_, rfl, h⟩ := hp
        refine W.eq (g2 := F0 m 478 ls [.int x153_]) rfl ?_
        refine lv_iload hx hb dL_law_478 (lv_at hl 1 rfl) ?_
        refine lv_icmp_eq (tgt := 485) hx hb dL_law_480 (by decide) (fun c154_ => ?_) (fun c154_ => ?_)
        · replace h := h.1 c154_
          refine lv_iload hx hb dL_law_485 (lv_at hl 1 rfl) ?_
          refine lv_if_ne (tgt := 502) hx hb dL_law_487 (by decide) (fun c155_ => ?_) (fun c155_ => ?_)
          · replace h := h.1 c155_
            exact cb_L_law_502 X hNc hst hX hbl hB23 hu Y (lv_sub hl [2, 3, 4, 5, 6] rfl) h
          · replace h := h.2 c155_
            refine q_aload_n hx hb dL_law_490 rfl (lv_at hl 5 rfl) ?_
            refine lv_iconst (v := 0) hx hb dL_law_491 (by decide) ?_
            obtain ⟨a156_, e157_, h⟩ := h
            refine q_nn [.int (0 : Int32)] e157_ ?_
            obtain ⟨k158_, h⟩ := h
            obtain ⟨i159_, h⟩ := h
            refine q_lld X Y k158_ i159_ dL_law_492 ?_
            refine lv_iload hx hb dL_law_493 (lv_at hl 0 rfl) ?_
            refine lv_i2l hx hb dL_law_495 rfl ?_
            refine W.lcmp hx hb dL_law_496 ?_
            refine lv_if_eq (tgt := 502) hx hb dL_law_497 (by decide) (fun c160_ => ?_) (fun c160_ => ?_)
            · replace h := h.1 c160_
              exact cb_L_law_502 X hNc hst hX hbl hB23 hu Y (lv_sub hl [2, 3, 4, 5, 6] rfl) h
            · replace h := h.2 c160_
              refine lv_iconst (v := 0) hx hb dL_law_500 (by decide) ?_
              exact q_lawret X Y hu h dL_law_501
        · replace h := h.2 c154_
          refine lv_iconst (v := 0) hx hb dL_law_483 (by decide) ?_
          exact q_lawret X Y hu h dL_law_484
      | 8, _, c394_ =>
        refine ⟨465, 505, rfl, by decide, ?_⟩
        replace h := h.2.2.2.2.2.2.2.2.2.1 (q_eqI c394_ (by decide))
        refine q_aload_n hx hb dL_law_505 rfl (lv_at hl 1 rfl) ?_
        refine lv_aload_n hx hb dL_law_506 rfl (lv_at hl 0 rfl) ?_
        refine lv_iload hx hb dL_law_507 (lv_at hl 4 rfl) ?_
        refine lv_iconst (v := 1) hx hb dL_law_509 (by decide) ?_
        refine lv_iadd hx hb dL_law_510 ?_
        obtain ⟨i161_, h⟩ := h
        refine va_sld hx hb hX hbl (Nat.not_le.mpr hbl) Y.2 i161_ dL_law_511 ?_
        refine lv_aload_n hx hb dL_law_512 rfl (lv_at hl 0 rfl) ?_
        refine lv_iload hx hb dL_law_513 (lv_at hl 4 rfl) ?_
        refine lv_iconst (v := 2) hx hb dL_law_515 (by decide) ?_
        refine lv_iadd hx hb dL_law_516 ?_
        obtain ⟨i162_, h⟩ := h
        refine va_sld hx hb hX hbl (Nat.not_le.mpr hbl) Y.2 i162_ dL_law_517 ?_
        obtain ⟨a163_, e164_, h⟩ := h
        refine q_nn [.int (xs (x4 + (2 : Int32)).toNatClampNeg), .int (xs (x4 + (1 : Int32)).toNatClampNeg)] e164_ ?_
        obtain ⟨k165_, h⟩ := h
        refine q_callV X Y hl (cm_X11_peek h) mt_X11_peek mi_X11_peek ml_L_74 (ci := 11) rfl k165_ (by decide) rfl rfl (by first | exact Nat.le_of_ble_eq_true rfl | simp [q_cat, q_catI, q_catJ, q_catR]) ⟨Nat.le_of_ble_eq_true rfl, Nat.le_of_ble_eq_true rfl⟩ hu dL_law_518 (fun r166_ S167_ H locs hp Y => ?_)
        obtain ⟨x168_, rfl, h⟩ := hp
        refine W.eq (g2 := F0 m 521 ls [.int x168_]) rfl ?_
        refine q_aload_n hx hb dL_law_521 rfl (lv_at hl 2 rfl) ?_
        refine lv_aload_n hx hb dL_law_522 rfl (lv_at hl 0 rfl) ?_
        refine lv_iload hx hb dL_law_523 (lv_at hl 4 rfl) ?_
        refine lv_iconst (v := 1) hx hb dL_law_525 (by decide) ?_
        refine lv_iadd hx hb dL_law_526 ?_
        obtain ⟨i169_, h⟩ := h
        refine va_sld hx hb hX hbl (Nat.not_le.mpr hbl) Y.2 i169_ dL_law_527 ?_
        refine lv_aload_n hx hb dL_law_528 rfl (lv_at hl 0 rfl) ?_
        refine lv_iload hx hb dL_law_529 (lv_at hl 4 rfl) ?_
        refine lv_iconst (v := 2) hx hb dL_law_531 (by decide) ?_
        refine lv_iadd hx hb dL_law_532 ?_
        obtain ⟨i170_, h⟩ := h
        refine va_sld hx hb hX hbl (Nat.not_le.mpr hbl) Y.2 i170_ dL_law_533 ?_
        obtain ⟨a171_, e172_, h⟩ := h
        refine q_nn [.int (xs (x4 + (2 : Int32)).toNatClampNeg), .int (xs (x4 + (1 : Int32)).toNatClampNeg)] e172_ ?_
        obtain ⟨k173_, h⟩ := h
        refine q_callV X Y hl (cm_X12_peek h) mt_X12_peek mi_X12_peek ml_L_78 (ci := 12) rfl k173_ (by decide) rfl rfl (by first | exact Nat.le_of_ble_eq_true rfl | simp [q_cat, q_catI, q_catJ, q_catR]) ⟨Nat.le_of_ble_eq_true rfl, Nat.le_of_ble_eq_true rfl⟩ hu dL_law_534 (fun r174_ S175_ H locs hp Y => ?_)
        obtain ⟨x176_, rfl, h⟩ := hp
        refine W.eq (g2 := F0 m 537 ls [.int x176_, .int x168_]) rfl ?_
        refine lv_icmp_eq (tgt := 1058) hx hb dL_law_537 (by decide) (fun c177_ => ?_) (fun c177_ => ?_)
        · replace h := h.1 c177_
          exact cb_L_law_1058 X hNc hst hX hbl hB23 hu Y (lv_sub hl [0, 1, 2, 3, 4] rfl) h
        · replace h := h.2 c177_
          refine lv_iconst (v := 0) hx hb dL_law_540 (by decide) ?_
          exact q_lawret X Y hu h dL_law_541
      | 9, _, c394_ =>
        refine ⟨502, 542, rfl, by decide, ?_⟩
        replace h := h.2.2.2.2.2.2.2.2.2.2.1 (q_eqI c394_ (by decide))
        refine q_aload_n hx hb dL_law_542 rfl (lv_at hl 1 rfl) ?_
        refine lv_aload_n hx hb dL_law_543 rfl (lv_at hl 0 rfl) ?_
        refine lv_iload hx hb dL_law_544 (lv_at hl 4 rfl) ?_
        refine lv_iconst (v := 1) hx hb dL_law_546 (by decide) ?_
        refine lv_iadd hx hb dL_law_547 ?_
        obtain ⟨i178_, h⟩ := h
        refine va_sld hx hb hX hbl (Nat.not_le.mpr hbl) Y.2 i178_ dL_law_548 ?_
        refine lv_aload_n hx hb dL_law_549 rfl (lv_at hl 0 rfl) ?_
        refine lv_iload hx hb dL_law_550 (lv_at hl 4 rfl) ?_
        refine lv_iconst (v := 2) hx hb dL_law_552 (by decide) ?_
        refine lv_iadd hx hb dL_law_553 ?_
        obtain ⟨i179_, h⟩ := h
        refine va_sld hx hb hX hbl (Nat.not_le.mpr hbl) Y.2 i179_ dL_law_554 ?_
        refine lv_aload_n hx hb dL_law_555 rfl (lv_at hl 0 rfl) ?_
        refine lv_iload hx hb dL_law_556 (lv_at hl 4 rfl) ?_
        refine lv_iconst (v := 3) hx hb dL_law_558 (by decide) ?_
        refine lv_iadd hx hb dL_law_559 ?_
        obtain ⟨i180_, h⟩ := h
        refine va_sld hx hb hX hbl (Nat.not_le.mpr hbl) Y.2 i180_ dL_law_560 ?_
        obtain ⟨a181_, e182_, h⟩ := h
        refine q_nn [.int (xs (x4 + (3 : Int32)).toNatClampNeg), .int (xs (x4 + (2 : Int32)).toNatClampNeg), .int (xs (x4 + (1 : Int32)).toNatClampNeg)] e182_ ?_
        obtain ⟨k183_, h⟩ := h
        refine q_callV X Y hl (cm_X11_register h) mt_X11_register mi_X11_register ml_L_79 (ci := 11) rfl k183_ (by decide) rfl rfl (by first | exact Nat.le_of_ble_eq_true rfl | simp [q_cat, q_catI, q_catJ, q_catR]) ⟨Nat.le_of_ble_eq_true rfl, Nat.le_of_ble_eq_true rfl⟩ hu dL_law_561 (fun r184_ S185_ H locs hp Y => ?_)
        obtain ⟨x186_, rfl, h⟩ := hp
        refine W.eq (g2 := F0 m 564 ls [.int x186_]) rfl ?_
        refine q_aload_n hx hb dL_law_564 rfl (lv_at hl 2 rfl) ?_
        refine lv_aload_n hx hb dL_law_565 rfl (lv_at hl 0 rfl) ?_
        refine lv_iload hx hb dL_law_566 (lv_at hl 4 rfl) ?_
        refine lv_iconst (v := 1) hx hb dL_law_568 (by decide) ?_
        refine lv_iadd hx hb dL_law_569 ?_
        obtain ⟨i187_, h⟩ := h
        refine va_sld hx hb hX hbl (Nat.not_le.mpr hbl) Y.2 i187_ dL_law_570 ?_
        refine lv_aload_n hx hb dL_law_571 rfl (lv_at hl 0 rfl) ?_
        refine lv_iload hx hb dL_law_572 (lv_at hl 4 rfl) ?_
        refine lv_iconst (v := 2) hx hb dL_law_574 (by decide) ?_
        refine lv_iadd hx hb dL_law_575 ?_
        obtain ⟨i188_, h⟩ := h
        refine va_sld hx hb hX hbl (Nat.not_le.mpr hbl) Y.2 i188_ dL_law_576 ?_
        refine lv_aload_n hx hb dL_law_577 rfl (lv_at hl 0 rfl) ?_
        refine lv_iload hx hb dL_law_578 (lv_at hl 4 rfl) ?_
        refine lv_iconst (v := 3) hx hb dL_law_580 (by decide) ?_
        refine lv_iadd hx hb dL_law_581 ?_
        obtain ⟨i189_, h⟩ := h
        refine va_sld hx hb hX hbl (Nat.not_le.mpr hbl) Y.2 i189_ dL_law_582 ?_
        obtain ⟨a190_, e191_, h⟩ := h
        refine q_nn [.int (xs (x4 + (3 : Int32)).toNatClampNeg), .int (xs (x4 + (2 : Int32)).toNatClampNeg), .int (xs (x4 + (1 : Int32)).toNatClampNeg)] e191_ ?_
        obtain ⟨k192_, h⟩ := h
        refine q_callV X Y hl (cm_X12_register h) mt_X12_register mi_X12_register ml_L_83 (ci := 12) rfl k192_ (by decide) rfl rfl (by first | exact Nat.le_of_ble_eq_true rfl | simp [q_cat, q_catI, q_catJ, q_catR]) ⟨Nat.le_of_ble_eq_true rfl, Nat.le_of_ble_eq_true rfl⟩ hu dL_law_583 (fun r193_ S194_ H locs hp Y => ?_)
        obtain ⟨x195_, rfl, h⟩ := hp
        refine W.eq (g2 := F0 m 586 ls [.int x195_, .int x186_]) rfl ?_
        refine lv_icmp_eq (tgt := 1058) hx hb dL_law_586 (by decide) (fun c196_ => ?_) (fun c196_ => ?_)
        · replace h := h.1 c196_
          exact cb_L_law_1058 X hNc hst hX hbl hB23 hu Y (lv_sub hl [0, 1, 2, 3, 4] rfl) h
        · replace h := h.2 c196_
          refine lv_iconst (v := 0) hx hb dL_law_589 (by decide) ?_
          exact q_lawret X Y hu h dL_law_590
      | 10, _, c394_ =>
        refine ⟨551, 591, rfl, by decide, ?_⟩
        replace h := h.2.2.2.2.2.2.2.2.2.2.2.1 (q_eqI c394_ (by decide))
        refine q_aload_n hx hb dL_law_591 rfl (lv_at hl 1 rfl) ?_
        refine lv_aload_n hx hb dL_law_592 rfl (lv_at hl 0 rfl) ?_
        refine lv_iload hx hb dL_law_593 (lv_at hl 4 rfl) ?_
        refine lv_iconst (v := 1) hx hb dL_law_595 (by decide) ?_
        refine lv_iadd hx hb dL_law_596 ?_
        obtain ⟨i197_, h⟩ := h
        refine va_sld hx hb hX hbl (Nat.not_le.mpr hbl) Y.2 i197_ dL_law_597 ?_
        refine lv_aload_n hx hb dL_law_598 rfl (lv_at hl 0 rfl) ?_
        refine lv_iload hx hb dL_law_599 (lv_at hl 4 rfl) ?_
        refine lv_iconst (v := 2) hx hb dL_law_601 (by decide) ?_
        refine lv_iadd hx hb dL_law_602 ?_
        obtain ⟨i198_, h⟩ := h
        refine va_sld hx hb hX hbl (Nat.not_le.mpr hbl) Y.2 i198_ dL_law_603 ?_
        refine lv_aload_n hx hb dL_law_604 rfl (lv_at hl 0 rfl) ?_
        refine lv_iload hx hb dL_law_605 (lv_at hl 4 rfl) ?_
        refine lv_iconst (v := 3) hx hb dL_law_607 (by decide) ?_
        refine lv_iadd hx hb dL_law_608 ?_
        obtain ⟨i199_, h⟩ := h
        refine va_sld hx hb hX hbl (Nat.not_le.mpr hbl) Y.2 i199_ dL_law_609 ?_
        obtain ⟨a200_, e201_, h⟩ := h
        refine q_nn [.int (xs (x4 + (3 : Int32)).toNatClampNeg), .int (xs (x4 + (2 : Int32)).toNatClampNeg), .int (xs (x4 + (1 : Int32)).toNatClampNeg)] e201_ ?_
        obtain ⟨k202_, h⟩ := h
        refine q_callV X Y hl (cm_X11_state h) mt_X11_state mi_X11_state ml_L_84 (ci := 11) rfl k202_ (by decide) rfl rfl (by first | exact Nat.le_of_ble_eq_true rfl | simp [q_cat, q_catI, q_catJ, q_catR]) ⟨Nat.le_of_ble_eq_true rfl, Nat.le_of_ble_eq_true rfl⟩ hu dL_law_610 (fun r203_ S204_ H locs hp Y => ?_)
        obtain ⟨x205_, rfl, h⟩ := hp
        refine W.eq (g2 := F0 m 613 ls [.int x205_]) rfl ?_
        refine q_aload_n hx hb dL_law_613 rfl (lv_at hl 2 rfl) ?_
        refine lv_aload_n hx hb dL_law_614 rfl (lv_at hl 0 rfl) ?_
        refine lv_iload hx hb dL_law_615 (lv_at hl 4 rfl) ?_
        refine lv_iconst (v := 1) hx hb dL_law_617 (by decide) ?_
        refine lv_iadd hx hb dL_law_618 ?_
        obtain ⟨i206_, h⟩ := h
        refine va_sld hx hb hX hbl (Nat.not_le.mpr hbl) Y.2 i206_ dL_law_619 ?_
        refine lv_aload_n hx hb dL_law_620 rfl (lv_at hl 0 rfl) ?_
        refine lv_iload hx hb dL_law_621 (lv_at hl 4 rfl) ?_
        refine lv_iconst (v := 2) hx hb dL_law_623 (by decide) ?_
        refine lv_iadd hx hb dL_law_624 ?_
        obtain ⟨i207_, h⟩ := h
        refine va_sld hx hb hX hbl (Nat.not_le.mpr hbl) Y.2 i207_ dL_law_625 ?_
        refine lv_aload_n hx hb dL_law_626 rfl (lv_at hl 0 rfl) ?_
        refine lv_iload hx hb dL_law_627 (lv_at hl 4 rfl) ?_
        refine lv_iconst (v := 3) hx hb dL_law_629 (by decide) ?_
        refine lv_iadd hx hb dL_law_630 ?_
        obtain ⟨i208_, h⟩ := h
        refine va_sld hx hb hX hbl (Nat.not_le.mpr hbl) Y.2 i208_ dL_law_631 ?_
        obtain ⟨a209_, e210_, h⟩ := h
        refine q_nn [.int (xs (x4 + (3 : Int32)).toNatClampNeg), .int (xs (x4 + (2 : Int32)).toNatClampNeg), .int (xs (x4 + (1 : Int32)).toNatClampNeg)] e210_ ?_
        obtain ⟨k211_, h⟩ := h
        refine q_callV X Y hl (cm_X12_state h) mt_X12_state mi_X12_state ml_L_87 (ci := 12) rfl k211_ (by decide) rfl rfl (by first | exact Nat.le_of_ble_eq_true rfl | simp [q_cat, q_catI, q_catJ, q_catR]) ⟨Nat.le_of_ble_eq_true rfl, Nat.le_of_ble_eq_true rfl⟩ hu dL_law_632 (fun r212_ S213_ H locs hp Y => ?_)
        obtain ⟨x214_, rfl, h⟩ := hp
        refine W.eq (g2 := F0 m 635 ls [.int x214_, .int x205_]) rfl ?_
        refine lv_icmp_eq (tgt := 1058) hx hb dL_law_635 (by decide) (fun c215_ => ?_) (fun c215_ => ?_)
        · replace h := h.1 c215_
          exact cb_L_law_1058 X hNc hst hX hbl hB23 hu Y (lv_sub hl [0, 1, 2, 3, 4] rfl) h
        · replace h := h.2 c215_
          refine lv_iconst (v := 0) hx hb dL_law_638 (by decide) ?_
          exact q_lawret X Y hu h dL_law_639
      | 11, _, c394_ =>
        refine ⟨600, 640, rfl, by decide, ?_⟩
        replace h := h.2.2.2.2.2.2.2.2.2.2.2.2.1 (q_eqI c394_ (by decide))
        refine q_aload_n hx hb dL_law_640 rfl (lv_at hl 1 rfl) ?_
        refine lv_aload_n hx hb dL_law_641 rfl (lv_at hl 0 rfl) ?_
        refine lv_iload hx hb dL_law_642 (lv_at hl 4 rfl) ?_
        refine lv_iconst (v := 1) hx hb dL_law_644 (by decide) ?_
        refine lv_iadd hx hb dL_law_645 ?_
        obtain ⟨i216_, h⟩ := h
        refine va_sld hx hb hX hbl (Nat.not_le.mpr hbl) Y.2 i216_ dL_law_646 ?_
        refine lv_aload_n hx hb dL_law_647 rfl (lv_at hl 0 rfl) ?_
        refine lv_iload hx hb dL_law_648 (lv_at hl 4 rfl) ?_
        refine lv_iconst (v := 2) hx hb dL_law_650 (by decide) ?_
        refine lv_iadd hx hb dL_law_651 ?_
        obtain ⟨i217_, h⟩ := h
        refine va_sld hx hb hX hbl (Nat.not_le.mpr hbl) Y.2 i217_ dL_law_652 ?_
        obtain ⟨a218_, e219_, h⟩ := h
        refine q_nn [.int (xs (x4 + (2 : Int32)).toNatClampNeg), .int (xs (x4 + (1 : Int32)).toNatClampNeg)] e219_ ?_
        obtain ⟨k220_, h⟩ := h
        refine q_callV X Y hl (cm_X11_partition h) mt_X11_partition mi_X11_partition ml_L_88 (ci := 11) rfl k220_ (by decide) rfl rfl (by first | exact Nat.le_of_ble_eq_true rfl | simp [q_cat, q_catI, q_catJ, q_catR]) ⟨Nat.le_of_ble_eq_true rfl, Nat.le_of_ble_eq_true rfl⟩ hu dL_law_653 (fun r221_ S222_ H locs hp Y => ?_)
        obtain ⟨x223_, rfl, h⟩ := hp
        refine W.eq (g2 := F0 m 656 ls [.int x223_]) rfl ?_
        refine q_aload_n hx hb dL_law_656 rfl (lv_at hl 2 rfl) ?_
        refine lv_aload_n hx hb dL_law_657 rfl (lv_at hl 0 rfl) ?_
        refine lv_iload hx hb dL_law_658 (lv_at hl 4 rfl) ?_
        refine lv_iconst (v := 1) hx hb dL_law_660 (by decide) ?_
        refine lv_iadd hx hb dL_law_661 ?_
        obtain ⟨i224_, h⟩ := h
        refine va_sld hx hb hX hbl (Nat.not_le.mpr hbl) Y.2 i224_ dL_law_662 ?_
        refine lv_aload_n hx hb dL_law_663 rfl (lv_at hl 0 rfl) ?_
        refine lv_iload hx hb dL_law_664 (lv_at hl 4 rfl) ?_
        refine lv_iconst (v := 2) hx hb dL_law_666 (by decide) ?_
        refine lv_iadd hx hb dL_law_667 ?_
        obtain ⟨i225_, h⟩ := h
        refine va_sld hx hb hX hbl (Nat.not_le.mpr hbl) Y.2 i225_ dL_law_668 ?_
        obtain ⟨a226_, e227_, h⟩ := h
        refine q_nn [.int (xs (x4 + (2 : Int32)).toNatClampNeg), .int (xs (x4 + (1 : Int32)).toNatClampNeg)] e227_ ?_
        obtain ⟨k228_, h⟩ := h
        refine q_callV X Y hl (cm_X12_partition h) mt_X12_partition mi_X12_partition ml_L_91 (ci := 12) rfl k228_ (by decide) rfl rfl (by first | exact Nat.le_of_ble_eq_true rfl | simp [q_cat, q_catI, q_catJ, q_catR]) ⟨Nat.le_of_ble_eq_true rfl, Nat.le_of_ble_eq_true rfl⟩ hu dL_law_669 (fun r229_ S230_ H locs hp Y => ?_)
        obtain ⟨x231_, rfl, h⟩ := hp
        refine W.eq (g2 := F0 m 672 ls [.int x231_, .int x223_]) rfl ?_
        refine lv_icmp_eq (tgt := 1058) hx hb dL_law_672 (by decide) (fun c232_ => ?_) (fun c232_ => ?_)
        · replace h := h.1 c232_
          exact cb_L_law_1058 X hNc hst hX hbl hB23 hu Y (lv_sub hl [0, 1, 2, 3, 4] rfl) h
        · replace h := h.2 c232_
          refine lv_iconst (v := 0) hx hb dL_law_675 (by decide) ?_
          exact q_lawret X Y hu h dL_law_676
      | 12, _, c394_ =>
        refine ⟨637, 677, rfl, by decide, ?_⟩
        replace h := h.2.2.2.2.2.2.2.2.2.2.2.2.2.1 (q_eqI c394_ (by decide))
        refine q_aload_n hx hb dL_law_677 rfl (lv_at hl 1 rfl) ?_
        refine lv_aload_n hx hb dL_law_678 rfl (lv_at hl 0 rfl) ?_
        refine lv_iload hx hb dL_law_679 (lv_at hl 4 rfl) ?_
        refine lv_iconst (v := 1) hx hb dL_law_681 (by decide) ?_
        refine lv_iadd hx hb dL_law_682 ?_
        obtain ⟨i233_, h⟩ := h
        refine va_sld hx hb hX hbl (Nat.not_le.mpr hbl) Y.2 i233_ dL_law_683 ?_
        refine lv_aload_n hx hb dL_law_684 rfl (lv_at hl 0 rfl) ?_
        refine lv_iload hx hb dL_law_685 (lv_at hl 4 rfl) ?_
        refine lv_iconst (v := 2) hx hb dL_law_687 (by decide) ?_
        refine lv_iadd hx hb dL_law_688 ?_
        obtain ⟨i234_, h⟩ := h
        refine va_sld hx hb hX hbl (Nat.not_le.mpr hbl) Y.2 i234_ dL_law_689 ?_
        refine lv_aload_n hx hb dL_law_690 rfl (lv_at hl 0 rfl) ?_
        refine lv_iload hx hb dL_law_691 (lv_at hl 4 rfl) ?_
        refine lv_iconst (v := 3) hx hb dL_law_693 (by decide) ?_
        refine lv_iadd hx hb dL_law_694 ?_
        obtain ⟨i235_, h⟩ := h
        refine va_sld hx hb hX hbl (Nat.not_le.mpr hbl) Y.2 i235_ dL_law_695 ?_
        obtain ⟨a236_, e237_, h⟩ := h
        refine q_nn [.int (xs (x4 + (3 : Int32)).toNatClampNeg), .int (xs (x4 + (2 : Int32)).toNatClampNeg), .int (xs (x4 + (1 : Int32)).toNatClampNeg)] e237_ ?_
        obtain ⟨k238_, h⟩ := h
        refine q_callV X Y hl (cm_X11_thing h) mt_X11_thing mi_X11_thing ml_L_92 (ci := 11) rfl k238_ (by decide) rfl rfl (by first | exact Nat.le_of_ble_eq_true rfl | simp [q_cat, q_catI, q_catJ, q_catR]) ⟨Nat.le_of_ble_eq_true rfl, Nat.le_of_ble_eq_true rfl⟩ hu dL_law_696 (fun r239_ S240_ H locs hp Y => ?_)
        obtain ⟨x241_, rfl, h⟩ := hp
        refine W.eq (g2 := F0 m 699 ls [.int x241_]) rfl ?_
        refine q_aload_n hx hb dL_law_699 rfl (lv_at hl 2 rfl) ?_
        refine lv_aload_n hx hb dL_law_700 rfl (lv_at hl 0 rfl) ?_
        refine lv_iload hx hb dL_law_701 (lv_at hl 4 rfl) ?_
        refine lv_iconst (v := 1) hx hb dL_law_703 (by decide) ?_
        refine lv_iadd hx hb dL_law_704 ?_
        obtain ⟨i242_, h⟩ := h
        refine va_sld hx hb hX hbl (Nat.not_le.mpr hbl) Y.2 i242_ dL_law_705 ?_
        refine lv_aload_n hx hb dL_law_706 rfl (lv_at hl 0 rfl) ?_
        refine lv_iload hx hb dL_law_707 (lv_at hl 4 rfl) ?_
        refine lv_iconst (v := 2) hx hb dL_law_709 (by decide) ?_
        refine lv_iadd hx hb dL_law_710 ?_
        obtain ⟨i243_, h⟩ := h
        refine va_sld hx hb hX hbl (Nat.not_le.mpr hbl) Y.2 i243_ dL_law_711 ?_
        refine lv_aload_n hx hb dL_law_712 rfl (lv_at hl 0 rfl) ?_
        refine lv_iload hx hb dL_law_713 (lv_at hl 4 rfl) ?_
        refine lv_iconst (v := 3) hx hb dL_law_715 (by decide) ?_
        refine lv_iadd hx hb dL_law_716 ?_
        obtain ⟨i244_, h⟩ := h
        refine va_sld hx hb hX hbl (Nat.not_le.mpr hbl) Y.2 i244_ dL_law_717 ?_
        obtain ⟨a245_, e246_, h⟩ := h
        refine q_nn [.int (xs (x4 + (3 : Int32)).toNatClampNeg), .int (xs (x4 + (2 : Int32)).toNatClampNeg), .int (xs (x4 + (1 : Int32)).toNatClampNeg)] e246_ ?_
        obtain ⟨k247_, h⟩ := h
        refine q_callV X Y hl (cm_X12_thing h) mt_X12_thing mi_X12_thing ml_L_95 (ci := 12) rfl k247_ (by decide) rfl rfl (by first | exact Nat.le_of_ble_eq_true rfl | simp [q_cat, q_catI, q_catJ, q_catR]) ⟨Nat.le_of_ble_eq_true rfl, Nat.le_of_ble_eq_true rfl⟩ hu dL_law_718 (fun r248_ S249_ H locs hp Y => ?_)
        obtain ⟨x250_, rfl, h⟩ := hp
        refine W.eq (g2 := F0 m 721 ls [.int x250_, .int x241_]) rfl ?_
        refine lv_icmp_eq (tgt := 1058) hx hb dL_law_721 (by decide) (fun c251_ => ?_) (fun c251_ => ?_)
        · replace h := h.1 c251_
          exact cb_L_law_1058 X hNc hst hX hbl hB23 hu Y (lv_sub hl [0, 1, 2, 3, 4] rfl) h
        · replace h := h.2 c251_
          refine lv_iconst (v := 0) hx hb dL_law_724 (by decide) ?_
          exact q_lawret X Y hu h dL_law_725
      | 13, _, c394_ =>
        refine ⟨686, 726, rfl, by decide, ?_⟩
        replace h := h.2.2.2.2.2.2.2.2.2.2.2.2.2.2.1 (q_eqI c394_ (by decide))
        refine q_aload_n hx hb dL_law_726 rfl (lv_at hl 1 rfl) ?_
        refine lv_aload_n hx hb dL_law_727 rfl (lv_at hl 0 rfl) ?_
        refine lv_iload hx hb dL_law_728 (lv_at hl 4 rfl) ?_
        refine lv_iconst (v := 1) hx hb dL_law_730 (by decide) ?_
        refine lv_iadd hx hb dL_law_731 ?_
        obtain ⟨i252_, h⟩ := h
        refine va_sld hx hb hX hbl (Nat.not_le.mpr hbl) Y.2 i252_ dL_law_732 ?_
        refine lv_aload_n hx hb dL_law_733 rfl (lv_at hl 0 rfl) ?_
        refine lv_iload hx hb dL_law_734 (lv_at hl 4 rfl) ?_
        refine lv_iconst (v := 2) hx hb dL_law_736 (by decide) ?_
        refine lv_iadd hx hb dL_law_737 ?_
        obtain ⟨i253_, h⟩ := h
        refine va_sld hx hb hX hbl (Nat.not_le.mpr hbl) Y.2 i253_ dL_law_738 ?_
        refine lv_aload_n hx hb dL_law_739 rfl (lv_at hl 0 rfl) ?_
        refine lv_iload hx hb dL_law_740 (lv_at hl 4 rfl) ?_
        refine lv_iconst (v := 3) hx hb dL_law_742 (by decide) ?_
        refine lv_iadd hx hb dL_law_743 ?_
        obtain ⟨i254_, h⟩ := h
        refine va_sld hx hb hX hbl (Nat.not_le.mpr hbl) Y.2 i254_ dL_law_744 ?_
        obtain ⟨a255_, e256_, h⟩ := h
        refine q_nn [.int (xs (x4 + (3 : Int32)).toNatClampNeg), .int (xs (x4 + (2 : Int32)).toNatClampNeg), .int (xs (x4 + (1 : Int32)).toNatClampNeg)] e256_ ?_
        obtain ⟨k257_, h⟩ := h
        refine q_callV X Y hl (cm_X11_waiting h) mt_X11_waiting mi_X11_waiting ml_L_96 (ci := 11) rfl k257_ (by decide) rfl rfl (by first | exact Nat.le_of_ble_eq_true rfl | simp [q_cat, q_catI, q_catJ, q_catR]) ⟨Nat.le_of_ble_eq_true rfl, Nat.le_of_ble_eq_true rfl⟩ hu dL_law_745 (fun r258_ S259_ H locs hp Y => ?_)
        obtain ⟨x260_, rfl, h⟩ := hp
        refine W.eq (g2 := F0 m 748 ls [.int x260_]) rfl ?_
        refine q_aload_n hx hb dL_law_748 rfl (lv_at hl 2 rfl) ?_
        refine lv_aload_n hx hb dL_law_749 rfl (lv_at hl 0 rfl) ?_
        refine lv_iload hx hb dL_law_750 (lv_at hl 4 rfl) ?_
        refine lv_iconst (v := 1) hx hb dL_law_752 (by decide) ?_
        refine lv_iadd hx hb dL_law_753 ?_
        obtain ⟨i261_, h⟩ := h
        refine va_sld hx hb hX hbl (Nat.not_le.mpr hbl) Y.2 i261_ dL_law_754 ?_
        refine lv_aload_n hx hb dL_law_755 rfl (lv_at hl 0 rfl) ?_
        refine lv_iload hx hb dL_law_756 (lv_at hl 4 rfl) ?_
        refine lv_iconst (v := 2) hx hb dL_law_758 (by decide) ?_
        refine lv_iadd hx hb dL_law_759 ?_
        obtain ⟨i262_, h⟩ := h
        refine va_sld hx hb hX hbl (Nat.not_le.mpr hbl) Y.2 i262_ dL_law_760 ?_
        refine lv_aload_n hx hb dL_law_761 rfl (lv_at hl 0 rfl) ?_
        refine lv_iload hx hb dL_law_762 (lv_at hl 4 rfl) ?_
        refine lv_iconst (v := 3) hx hb dL_law_764 (by decide) ?_
        refine lv_iadd hx hb dL_law_765 ?_
        obtain ⟨i263_, h⟩ := h
        refine va_sld hx hb hX hbl (Nat.not_le.mpr hbl) Y.2 i263_ dL_law_766 ?_
        obtain ⟨a264_, e265_, h⟩ := h
        refine q_nn [.int (xs (x4 + (3 : Int32)).toNatClampNeg), .int (xs (x4 + (2 : Int32)).toNatClampNeg), .int (xs (x4 + (1 : Int32)).toNatClampNeg)] e265_ ?_
        obtain ⟨k266_, h⟩ := h
        refine q_callV X Y hl (cm_X12_waiting h) mt_X12_waiting mi_X12_waiting ml_L_99 (ci := 12) rfl k266_ (by decide) rfl rfl (by first | exact Nat.le_of_ble_eq_true rfl | simp [q_cat, q_catI, q_catJ, q_catR]) ⟨Nat.le_of_ble_eq_true rfl, Nat.le_of_ble_eq_true rfl⟩ hu dL_law_767 (fun r267_ S268_ H locs hp Y => ?_)
        obtain ⟨x269_, rfl, h⟩ := hp
        refine W.eq (g2 := F0 m 770 ls [.int x269_, .int x260_]) rfl ?_
        refine lv_icmp_eq (tgt := 1058) hx hb dL_law_770 (by decide) (fun c270_ => ?_) (fun c270_ => ?_)
        · replace h := h.1 c270_
          exact cb_L_law_1058 X hNc hst hX hbl hB23 hu Y (lv_sub hl [0, 1, 2, 3, 4] rfl) h
        · replace h := h.2 c270_
          refine lv_iconst (v := 0) hx hb dL_law_773 (by decide) ?_
          exact q_lawret X Y hu h dL_law_774
      | 14, _, c394_ =>
        refine ⟨735, 775, rfl, by decide, ?_⟩
        replace h := h.2.2.2.2.2.2.2.2.2.2.2.2.2.2.2.1 (q_eqI c394_ (by decide))
        refine q_aload_n hx hb dL_law_775 rfl (lv_at hl 1 rfl) ?_
        refine lv_aload_n hx hb dL_law_776 rfl (lv_at hl 0 rfl) ?_
        refine lv_iload hx hb dL_law_777 (lv_at hl 4 rfl) ?_
        refine lv_iconst (v := 1) hx hb dL_law_779 (by decide) ?_
        refine lv_iadd hx hb dL_law_780 ?_
        obtain ⟨i271_, h⟩ := h
        refine va_sld hx hb hX hbl (Nat.not_le.mpr hbl) Y.2 i271_ dL_law_781 ?_
        refine lv_aload_n hx hb dL_law_782 rfl (lv_at hl 0 rfl) ?_
        refine lv_iload hx hb dL_law_783 (lv_at hl 4 rfl) ?_
        refine lv_iconst (v := 2) hx hb dL_law_785 (by decide) ?_
        refine lv_iadd hx hb dL_law_786 ?_
        obtain ⟨i272_, h⟩ := h
        refine va_sld hx hb hX hbl (Nat.not_le.mpr hbl) Y.2 i272_ dL_law_787 ?_
        refine lv_aload_n hx hb dL_law_788 rfl (lv_at hl 0 rfl) ?_
        refine lv_iload hx hb dL_law_789 (lv_at hl 4 rfl) ?_
        refine lv_iconst (v := 3) hx hb dL_law_791 (by decide) ?_
        refine lv_iadd hx hb dL_law_792 ?_
        obtain ⟨i273_, h⟩ := h
        refine va_sld hx hb hX hbl (Nat.not_le.mpr hbl) Y.2 i273_ dL_law_793 ?_
        obtain ⟨a274_, e275_, h⟩ := h
        refine q_nn [.int (xs (x4 + (3 : Int32)).toNatClampNeg), .int (xs (x4 + (2 : Int32)).toNatClampNeg), .int (xs (x4 + (1 : Int32)).toNatClampNeg)] e275_ ?_
        obtain ⟨k276_, h⟩ := h
        refine q_callV X Y hl (cm_X11_region h) mt_X11_region mi_X11_region ml_L_100 (ci := 11) rfl k276_ (by decide) rfl rfl (by first | exact Nat.le_of_ble_eq_true rfl | simp [q_cat, q_catI, q_catJ, q_catR]) ⟨Nat.le_of_ble_eq_true rfl, Nat.le_of_ble_eq_true rfl⟩ hu dL_law_794 (fun r277_ S278_ H locs hp Y => ?_)
        obtain ⟨x279_, rfl, h⟩ := hp
        refine W.eq (g2 := F0 m 797 ls [.int x279_]) rfl ?_
        refine q_aload_n hx hb dL_law_797 rfl (lv_at hl 2 rfl) ?_
        refine lv_aload_n hx hb dL_law_798 rfl (lv_at hl 0 rfl) ?_
        refine lv_iload hx hb dL_law_799 (lv_at hl 4 rfl) ?_
        refine lv_iconst (v := 1) hx hb dL_law_801 (by decide) ?_
        refine lv_iadd hx hb dL_law_802 ?_
        obtain ⟨i280_, h⟩ := h
        refine va_sld hx hb hX hbl (Nat.not_le.mpr hbl) Y.2 i280_ dL_law_803 ?_
        refine lv_aload_n hx hb dL_law_804 rfl (lv_at hl 0 rfl) ?_
        refine lv_iload hx hb dL_law_805 (lv_at hl 4 rfl) ?_
        refine lv_iconst (v := 2) hx hb dL_law_807 (by decide) ?_
        refine lv_iadd hx hb dL_law_808 ?_
        obtain ⟨i281_, h⟩ := h
        refine va_sld hx hb hX hbl (Nat.not_le.mpr hbl) Y.2 i281_ dL_law_809 ?_
        refine lv_aload_n hx hb dL_law_810 rfl (lv_at hl 0 rfl) ?_
        refine lv_iload hx hb dL_law_811 (lv_at hl 4 rfl) ?_
        refine lv_iconst (v := 3) hx hb dL_law_813 (by decide) ?_
        refine lv_iadd hx hb dL_law_814 ?_
        obtain ⟨i282_, h⟩ := h
        refine va_sld hx hb hX hbl (Nat.not_le.mpr hbl) Y.2 i282_ dL_law_815 ?_
        obtain ⟨a283_, e284_, h⟩ := h
        refine q_nn [.int (xs (x4 + (3 : Int32)).toNatClampNeg), .int (xs (x4 + (2 : Int32)).toNatClampNeg), .int (xs (x4 + (1 : Int32)).toNatClampNeg)] e284_ ?_
        obtain ⟨k285_, h⟩ := h
        refine q_callV X Y hl (cm_X12_region h) mt_X12_region mi_X12_region ml_L_103 (ci := 12) rfl k285_ (by decide) rfl rfl (by first | exact Nat.le_of_ble_eq_true rfl | simp [q_cat, q_catI, q_catJ, q_catR]) ⟨Nat.le_of_ble_eq_true rfl, Nat.le_of_ble_eq_true rfl⟩ hu dL_law_816 (fun r286_ S287_ H locs hp Y => ?_)
        obtain ⟨x288_, rfl, h⟩ := hp
        refine W.eq (g2 := F0 m 819 ls [.int x288_, .int x279_]) rfl ?_
        refine lv_icmp_eq (tgt := 1058) hx hb dL_law_819 (by decide) (fun c289_ => ?_) (fun c289_ => ?_)
        · replace h := h.1 c289_
          exact cb_L_law_1058 X hNc hst hX hbl hB23 hu Y (lv_sub hl [0, 1, 2, 3, 4] rfl) h
        · replace h := h.2 c289_
          refine lv_iconst (v := 0) hx hb dL_law_822 (by decide) ?_
          exact q_lawret X Y hu h dL_law_823
      | 15, _, c394_ =>
        refine ⟨784, 824, rfl, by decide, ?_⟩
        replace h := h.2.2.2.2.2.2.2.2.2.2.2.2.2.2.2.2.1 (q_eqI c394_ (by decide))
        refine q_aload_n hx hb dL_law_824 rfl (lv_at hl 1 rfl) ?_
        refine lv_aload_n hx hb dL_law_825 rfl (lv_at hl 0 rfl) ?_
        refine lv_iload hx hb dL_law_826 (lv_at hl 4 rfl) ?_
        refine lv_iconst (v := 1) hx hb dL_law_828 (by decide) ?_
        refine lv_iadd hx hb dL_law_829 ?_
        obtain ⟨i290_, h⟩ := h
        refine va_sld hx hb hX hbl (Nat.not_le.mpr hbl) Y.2 i290_ dL_law_830 ?_
        refine lv_aload_n hx hb dL_law_831 rfl (lv_at hl 0 rfl) ?_
        refine lv_iload hx hb dL_law_832 (lv_at hl 4 rfl) ?_
        refine lv_iconst (v := 2) hx hb dL_law_834 (by decide) ?_
        refine lv_iadd hx hb dL_law_835 ?_
        obtain ⟨i291_, h⟩ := h
        refine va_sld hx hb hX hbl (Nat.not_le.mpr hbl) Y.2 i291_ dL_law_836 ?_
        refine lv_aload_n hx hb dL_law_837 rfl (lv_at hl 0 rfl) ?_
        refine lv_iload hx hb dL_law_838 (lv_at hl 4 rfl) ?_
        refine lv_iconst (v := 3) hx hb dL_law_840 (by decide) ?_
        refine lv_iadd hx hb dL_law_841 ?_
        obtain ⟨i292_, h⟩ := h
        refine va_sld hx hb hX hbl (Nat.not_le.mpr hbl) Y.2 i292_ dL_law_842 ?_
        refine lv_aload_n hx hb dL_law_843 rfl (lv_at hl 0 rfl) ?_
        refine lv_iload hx hb dL_law_844 (lv_at hl 4 rfl) ?_
        refine lv_iconst (v := 4) hx hb dL_law_846 (by decide) ?_
        refine lv_iadd hx hb dL_law_847 ?_
        obtain ⟨i293_, h⟩ := h
        refine va_sld hx hb hX hbl (Nat.not_le.mpr hbl) Y.2 i293_ dL_law_848 ?_
        obtain ⟨a294_, e295_, h⟩ := h
        refine q_nn [.int (xs (x4 + (4 : Int32)).toNatClampNeg), .int (xs (x4 + (3 : Int32)).toNatClampNeg), .int (xs (x4 + (2 : Int32)).toNatClampNeg), .int (xs (x4 + (1 : Int32)).toNatClampNeg)] e295_ ?_
        obtain ⟨k296_, h⟩ := h
        refine q_callV X Y hl (cm_X11_wordOf h) mt_X11_wordOf mi_X11_wordOf ml_L_104 (ci := 11) rfl k296_ (by decide) rfl rfl (by first | exact Nat.le_of_ble_eq_true rfl | simp [q_cat, q_catI, q_catJ, q_catR]) ⟨Nat.le_of_ble_eq_true rfl, Nat.le_of_ble_eq_true rfl⟩ hu dL_law_849 (fun r297_ S298_ H locs hp Y => ?_)
        obtain ⟨x299_, rfl, h⟩ := hp
        refine W.eq (g2 := F0 m 852 ls [.int x299_]) rfl ?_
        refine q_aload_n hx hb dL_law_852 rfl (lv_at hl 2 rfl) ?_
        refine lv_aload_n hx hb dL_law_853 rfl (lv_at hl 0 rfl) ?_
        refine lv_iload hx hb dL_law_854 (lv_at hl 4 rfl) ?_
        refine lv_iconst (v := 1) hx hb dL_law_856 (by decide) ?_
        refine lv_iadd hx hb dL_law_857 ?_
        obtain ⟨i300_, h⟩ := h
        refine va_sld hx hb hX hbl (Nat.not_le.mpr hbl) Y.2 i300_ dL_law_858 ?_
        refine lv_aload_n hx hb dL_law_859 rfl (lv_at hl 0 rfl) ?_
        refine lv_iload hx hb dL_law_860 (lv_at hl 4 rfl) ?_
        refine lv_iconst (v := 2) hx hb dL_law_862 (by decide) ?_
        refine lv_iadd hx hb dL_law_863 ?_
        obtain ⟨i301_, h⟩ := h
        refine va_sld hx hb hX hbl (Nat.not_le.mpr hbl) Y.2 i301_ dL_law_864 ?_
        refine lv_aload_n hx hb dL_law_865 rfl (lv_at hl 0 rfl) ?_
        refine lv_iload hx hb dL_law_866 (lv_at hl 4 rfl) ?_
        refine lv_iconst (v := 3) hx hb dL_law_868 (by decide) ?_
        refine lv_iadd hx hb dL_law_869 ?_
        obtain ⟨i302_, h⟩ := h
        refine va_sld hx hb hX hbl (Nat.not_le.mpr hbl) Y.2 i302_ dL_law_870 ?_
        refine lv_aload_n hx hb dL_law_871 rfl (lv_at hl 0 rfl) ?_
        refine lv_iload hx hb dL_law_872 (lv_at hl 4 rfl) ?_
        refine lv_iconst (v := 4) hx hb dL_law_874 (by decide) ?_
        refine lv_iadd hx hb dL_law_875 ?_
        obtain ⟨i303_, h⟩ := h
        refine va_sld hx hb hX hbl (Nat.not_le.mpr hbl) Y.2 i303_ dL_law_876 ?_
        obtain ⟨a304_, e305_, h⟩ := h
        refine q_nn [.int (xs (x4 + (4 : Int32)).toNatClampNeg), .int (xs (x4 + (3 : Int32)).toNatClampNeg), .int (xs (x4 + (2 : Int32)).toNatClampNeg), .int (xs (x4 + (1 : Int32)).toNatClampNeg)] e305_ ?_
        obtain ⟨k306_, h⟩ := h
        refine q_callV X Y hl (cm_X12_wordOf h) mt_X12_wordOf mi_X12_wordOf ml_L_108 (ci := 12) rfl k306_ (by decide) rfl rfl (by first | exact Nat.le_of_ble_eq_true rfl | simp [q_cat, q_catI, q_catJ, q_catR]) ⟨Nat.le_of_ble_eq_true rfl, Nat.le_of_ble_eq_true rfl⟩ hu dL_law_877 (fun r307_ S308_ H locs hp Y => ?_)
        obtain ⟨x309_, rfl, h⟩ := hp
        refine W.eq (g2 := F0 m 880 ls [.int x309_, .int x299_]) rfl ?_
        refine lv_icmp_eq (tgt := 1058) hx hb dL_law_880 (by decide) (fun c310_ => ?_) (fun c310_ => ?_)
        · replace h := h.1 c310_
          exact cb_L_law_1058 X hNc hst hX hbl hB23 hu Y (lv_sub hl [0, 1, 2, 3, 4] rfl) h
        · replace h := h.2 c310_
          refine lv_iconst (v := 0) hx hb dL_law_883 (by decide) ?_
          exact q_lawret X Y hu h dL_law_884
      | 16, _, c394_ =>
        refine ⟨845, 885, rfl, by decide, ?_⟩
        replace h := h.2.2.2.2.2.2.2.2.2.2.2.2.2.2.2.2.2.1 (q_eqI c394_ (by decide))
        refine q_aload_n hx hb dL_law_885 rfl (lv_at hl 1 rfl) ?_
        refine lv_aload_n hx hb dL_law_886 rfl (lv_at hl 0 rfl) ?_
        refine lv_iload hx hb dL_law_887 (lv_at hl 4 rfl) ?_
        refine lv_iconst (v := 1) hx hb dL_law_889 (by decide) ?_
        refine lv_iadd hx hb dL_law_890 ?_
        obtain ⟨i311_, h⟩ := h
        refine va_sld hx hb hX hbl (Nat.not_le.mpr hbl) Y.2 i311_ dL_law_891 ?_
        refine lv_aload_n hx hb dL_law_892 rfl (lv_at hl 0 rfl) ?_
        refine lv_iload hx hb dL_law_893 (lv_at hl 4 rfl) ?_
        refine lv_iconst (v := 2) hx hb dL_law_895 (by decide) ?_
        refine lv_iadd hx hb dL_law_896 ?_
        obtain ⟨i312_, h⟩ := h
        refine va_sld hx hb hX hbl (Nat.not_le.mpr hbl) Y.2 i312_ dL_law_897 ?_
        obtain ⟨a313_, e314_, h⟩ := h
        refine q_nn [.int (xs (x4 + (2 : Int32)).toNatClampNeg), .int (xs (x4 + (1 : Int32)).toNatClampNeg)] e314_ ?_
        obtain ⟨k315_, h⟩ := h
        refine q_callV X Y hl (cm_X11_channel h) mt_X11_channel mi_X11_channel ml_L_109 (ci := 11) rfl k315_ (by decide) rfl rfl (by first | exact Nat.le_of_ble_eq_true rfl | simp [q_cat, q_catI, q_catJ, q_catR]) ⟨Nat.le_of_ble_eq_true rfl, Nat.le_of_ble_eq_true rfl⟩ hu dL_law_898 (fun r316_ S317_ H locs hp Y => ?_)
        obtain ⟨x318_, rfl, h⟩ := hp
        refine W.eq (g2 := F0 m 901 ls [.int x318_]) rfl ?_
        refine q_aload_n hx hb dL_law_901 rfl (lv_at hl 2 rfl) ?_
        refine lv_aload_n hx hb dL_law_902 rfl (lv_at hl 0 rfl) ?_
        refine lv_iload hx hb dL_law_903 (lv_at hl 4 rfl) ?_
        refine lv_iconst (v := 1) hx hb dL_law_905 (by decide) ?_
        refine lv_iadd hx hb dL_law_906 ?_
        obtain ⟨i319_, h⟩ := h
        refine va_sld hx hb hX hbl (Nat.not_le.mpr hbl) Y.2 i319_ dL_law_907 ?_
        refine lv_aload_n hx hb dL_law_908 rfl (lv_at hl 0 rfl) ?_
        refine lv_iload hx hb dL_law_909 (lv_at hl 4 rfl) ?_
        refine lv_iconst (v := 2) hx hb dL_law_911 (by decide) ?_
        refine lv_iadd hx hb dL_law_912 ?_
        obtain ⟨i320_, h⟩ := h
        refine va_sld hx hb hX hbl (Nat.not_le.mpr hbl) Y.2 i320_ dL_law_913 ?_
        obtain ⟨a321_, e322_, h⟩ := h
        refine q_nn [.int (xs (x4 + (2 : Int32)).toNatClampNeg), .int (xs (x4 + (1 : Int32)).toNatClampNeg)] e322_ ?_
        obtain ⟨k323_, h⟩ := h
        refine q_callV X Y hl (cm_X12_channel h) mt_X12_channel mi_X12_channel ml_L_112 (ci := 12) rfl k323_ (by decide) rfl rfl (by first | exact Nat.le_of_ble_eq_true rfl | simp [q_cat, q_catI, q_catJ, q_catR]) ⟨Nat.le_of_ble_eq_true rfl, Nat.le_of_ble_eq_true rfl⟩ hu dL_law_914 (fun r324_ S325_ H locs hp Y => ?_)
        obtain ⟨x326_, rfl, h⟩ := hp
        refine W.eq (g2 := F0 m 917 ls [.int x326_, .int x318_]) rfl ?_
        refine lv_icmp_eq (tgt := 1058) hx hb dL_law_917 (by decide) (fun c327_ => ?_) (fun c327_ => ?_)
        · replace h := h.1 c327_
          exact cb_L_law_1058 X hNc hst hX hbl hB23 hu Y (lv_sub hl [0, 1, 2, 3, 4] rfl) h
        · replace h := h.2 c327_
          refine lv_iconst (v := 0) hx hb dL_law_920 (by decide) ?_
          exact q_lawret X Y hu h dL_law_921
      | 17, _, c394_ =>
        refine ⟨882, 922, rfl, by decide, ?_⟩
        replace h := h.2.2.2.2.2.2.2.2.2.2.2.2.2.2.2.2.2.2.1 (q_eqI c394_ (by decide))
        refine q_aload_n hx hb dL_law_922 rfl (lv_at hl 1 rfl) ?_
        refine lv_aload_n hx hb dL_law_923 rfl (lv_at hl 0 rfl) ?_
        refine lv_iload hx hb dL_law_924 (lv_at hl 4 rfl) ?_
        refine lv_iconst (v := 1) hx hb dL_law_926 (by decide) ?_
        refine lv_iadd hx hb dL_law_927 ?_
        obtain ⟨i328_, h⟩ := h
        refine va_sld hx hb hX hbl (Nat.not_le.mpr hbl) Y.2 i328_ dL_law_928 ?_
        refine lv_aload_n hx hb dL_law_929 rfl (lv_at hl 0 rfl) ?_
        refine lv_iload hx hb dL_law_930 (lv_at hl 4 rfl) ?_
        refine lv_iconst (v := 2) hx hb dL_law_932 (by decide) ?_
        refine lv_iadd hx hb dL_law_933 ?_
        obtain ⟨i329_, h⟩ := h
        refine va_sld hx hb hX hbl (Nat.not_le.mpr hbl) Y.2 i329_ dL_law_934 ?_
        obtain ⟨a330_, e331_, h⟩ := h
        refine q_nn [.int (xs (x4 + (2 : Int32)).toNatClampNeg), .int (xs (x4 + (1 : Int32)).toNatClampNeg)] e331_ ?_
        obtain ⟨k332_, h⟩ := h
        refine q_callV X Y hl (cm_X11_wordAt h) mt_X11_wordAt mi_X11_wordAt ml_L_113 (ci := 11) rfl k332_ (by decide) rfl rfl (by first | exact Nat.le_of_ble_eq_true rfl | simp [q_cat, q_catI, q_catJ, q_catR]) ⟨Nat.le_of_ble_eq_true rfl, Nat.le_of_ble_eq_true rfl⟩ hu dL_law_935 (fun r333_ S334_ H locs hp Y => ?_)
        obtain ⟨x335_, rfl, h⟩ := hp
        refine W.eq (g2 := F0 m 938 ls [.int x335_]) rfl ?_
        refine q_aload_n hx hb dL_law_938 rfl (lv_at hl 2 rfl) ?_
        refine lv_aload_n hx hb dL_law_939 rfl (lv_at hl 0 rfl) ?_
        refine lv_iload hx hb dL_law_940 (lv_at hl 4 rfl) ?_
        refine lv_iconst (v := 1) hx hb dL_law_942 (by decide) ?_
        refine lv_iadd hx hb dL_law_943 ?_
        obtain ⟨i336_, h⟩ := h
        refine va_sld hx hb hX hbl (Nat.not_le.mpr hbl) Y.2 i336_ dL_law_944 ?_
        refine lv_aload_n hx hb dL_law_945 rfl (lv_at hl 0 rfl) ?_
        refine lv_iload hx hb dL_law_946 (lv_at hl 4 rfl) ?_
        refine lv_iconst (v := 2) hx hb dL_law_948 (by decide) ?_
        refine lv_iadd hx hb dL_law_949 ?_
        obtain ⟨i337_, h⟩ := h
        refine va_sld hx hb hX hbl (Nat.not_le.mpr hbl) Y.2 i337_ dL_law_950 ?_
        obtain ⟨a338_, e339_, h⟩ := h
        refine q_nn [.int (xs (x4 + (2 : Int32)).toNatClampNeg), .int (xs (x4 + (1 : Int32)).toNatClampNeg)] e339_ ?_
        obtain ⟨k340_, h⟩ := h
        refine q_callV X Y hl (cm_X12_wordAt h) mt_X12_wordAt mi_X12_wordAt ml_L_116 (ci := 12) rfl k340_ (by decide) rfl rfl (by first | exact Nat.le_of_ble_eq_true rfl | simp [q_cat, q_catI, q_catJ, q_catR]) ⟨Nat.le_of_ble_eq_true rfl, Nat.le_of_ble_eq_true rfl⟩ hu dL_law_951 (fun r341_ S342_ H locs hp Y => ?_)
        obtain ⟨x343_, rfl, h⟩ := hp
        refine W.eq (g2 := F0 m 954 ls [.int x343_, .int x335_]) rfl ?_
        refine lv_icmp_eq (tgt := 1058) hx hb dL_law_954 (by decide) (fun c344_ => ?_) (fun c344_ => ?_)
        · replace h := h.1 c344_
          exact cb_L_law_1058 X hNc hst hX hbl hB23 hu Y (lv_sub hl [0, 1, 2, 3, 4] rfl) h
        · replace h := h.2 c344_
          refine lv_iconst (v := 0) hx hb dL_law_957 (by decide) ?_
          exact q_lawret X Y hu h dL_law_958
      | 18, _, c394_ =>
        refine ⟨919, 959, rfl, by decide, ?_⟩
        replace h := h.2.2.2.2.2.2.2.2.2.2.2.2.2.2.2.2.2.2.2.1 (q_eqI c394_ (by decide))
        refine q_aload_n hx hb dL_law_959 rfl (lv_at hl 1 rfl) ?_
        refine lv_aload_n hx hb dL_law_960 rfl (lv_at hl 0 rfl) ?_
        refine lv_iload hx hb dL_law_961 (lv_at hl 4 rfl) ?_
        refine lv_iconst (v := 1) hx hb dL_law_963 (by decide) ?_
        refine lv_iadd hx hb dL_law_964 ?_
        obtain ⟨i345_, h⟩ := h
        refine va_sld hx hb hX hbl (Nat.not_le.mpr hbl) Y.2 i345_ dL_law_965 ?_
        refine lv_aload_n hx hb dL_law_966 rfl (lv_at hl 0 rfl) ?_
        refine lv_iload hx hb dL_law_967 (lv_at hl 4 rfl) ?_
        refine lv_iconst (v := 2) hx hb dL_law_969 (by decide) ?_
        refine lv_iadd hx hb dL_law_970 ?_
        obtain ⟨i346_, h⟩ := h
        refine va_sld hx hb hX hbl (Nat.not_le.mpr hbl) Y.2 i346_ dL_law_971 ?_
        obtain ⟨a347_, e348_, h⟩ := h
        refine q_nn [.int (xs (x4 + (2 : Int32)).toNatClampNeg), .int (xs (x4 + (1 : Int32)).toNatClampNeg)] e348_ ?_
        obtain ⟨k349_, h⟩ := h
        refine q_callV X Y hl (cm_X11_trace h) mt_X11_trace mi_X11_trace ml_L_117 (ci := 11) rfl k349_ (by decide) rfl rfl (by first | exact Nat.le_of_ble_eq_true rfl | simp [q_cat, q_catI, q_catJ, q_catR]) ⟨Nat.le_of_ble_eq_true rfl, Nat.le_of_ble_eq_true rfl⟩ hu dL_law_972 (fun r350_ S351_ H locs hp Y => ?_)
        obtain ⟨x352_, rfl, h⟩ := hp
        refine W.eq (g2 := F0 m 975 ls [.int x352_]) rfl ?_
        refine q_aload_n hx hb dL_law_975 rfl (lv_at hl 2 rfl) ?_
        refine lv_aload_n hx hb dL_law_976 rfl (lv_at hl 0 rfl) ?_
        refine lv_iload hx hb dL_law_977 (lv_at hl 4 rfl) ?_
        refine lv_iconst (v := 1) hx hb dL_law_979 (by decide) ?_
        refine lv_iadd hx hb dL_law_980 ?_
        obtain ⟨i353_, h⟩ := h
        refine va_sld hx hb hX hbl (Nat.not_le.mpr hbl) Y.2 i353_ dL_law_981 ?_
        refine lv_aload_n hx hb dL_law_982 rfl (lv_at hl 0 rfl) ?_
        refine lv_iload hx hb dL_law_983 (lv_at hl 4 rfl) ?_
        refine lv_iconst (v := 2) hx hb dL_law_985 (by decide) ?_
        refine lv_iadd hx hb dL_law_986 ?_
        obtain ⟨i354_, h⟩ := h
        refine va_sld hx hb hX hbl (Nat.not_le.mpr hbl) Y.2 i354_ dL_law_987 ?_
        obtain ⟨a355_, e356_, h⟩ := h
        refine q_nn [.int (xs (x4 + (2 : Int32)).toNatClampNeg), .int (xs (x4 + (1 : Int32)).toNatClampNeg)] e356_ ?_
        obtain ⟨k357_, h⟩ := h
        refine q_callV X Y hl (cm_X12_trace h) mt_X12_trace mi_X12_trace ml_L_120 (ci := 12) rfl k357_ (by decide) rfl rfl (by first | exact Nat.le_of_ble_eq_true rfl | simp [q_cat, q_catI, q_catJ, q_catR]) ⟨Nat.le_of_ble_eq_true rfl, Nat.le_of_ble_eq_true rfl⟩ hu dL_law_988 (fun r358_ S359_ H locs hp Y => ?_)
        obtain ⟨x360_, rfl, h⟩ := hp
        refine W.eq (g2 := F0 m 991 ls [.int x360_, .int x352_]) rfl ?_
        refine lv_icmp_eq (tgt := 1058) hx hb dL_law_991 (by decide) (fun c361_ => ?_) (fun c361_ => ?_)
        · replace h := h.1 c361_
          exact cb_L_law_1058 X hNc hst hX hbl hB23 hu Y (lv_sub hl [0, 1, 2, 3, 4] rfl) h
        · replace h := h.2 c361_
          refine lv_iconst (v := 0) hx hb dL_law_994 (by decide) ?_
          exact q_lawret X Y hu h dL_law_995
      | 19, _, c394_ =>
        refine ⟨956, 996, rfl, by decide, ?_⟩
        replace h := h.2.2.2.2.2.2.2.2.2.2.2.2.2.2.2.2.2.2.2.2.1 (q_eqI c394_ (by decide))
        refine q_aload_n hx hb dL_law_996 rfl (lv_at hl 1 rfl) ?_
        refine lv_aload_n hx hb dL_law_997 rfl (lv_at hl 0 rfl) ?_
        refine lv_iload hx hb dL_law_998 (lv_at hl 4 rfl) ?_
        refine lv_iconst (v := 1) hx hb dL_law_1000 (by decide) ?_
        refine lv_iadd hx hb dL_law_1001 ?_
        obtain ⟨i362_, h⟩ := h
        refine va_sld hx hb hX hbl (Nat.not_le.mpr hbl) Y.2 i362_ dL_law_1002 ?_
        refine lv_aload_n hx hb dL_law_1003 rfl (lv_at hl 0 rfl) ?_
        refine lv_iload hx hb dL_law_1004 (lv_at hl 4 rfl) ?_
        refine lv_iconst (v := 2) hx hb dL_law_1006 (by decide) ?_
        refine lv_iadd hx hb dL_law_1007 ?_
        obtain ⟨i363_, h⟩ := h
        refine va_sld hx hb hX hbl (Nat.not_le.mpr hbl) Y.2 i363_ dL_law_1008 ?_
        obtain ⟨a364_, e365_, h⟩ := h
        refine q_nn [.int (xs (x4 + (2 : Int32)).toNatClampNeg), .int (xs (x4 + (1 : Int32)).toNatClampNeg)] e365_ ?_
        obtain ⟨k366_, h⟩ := h
        refine q_callV X Y hl (cm_X11_error h) mt_X11_error mi_X11_error ml_L_121 (ci := 11) rfl k366_ (by decide) rfl rfl (by first | exact Nat.le_of_ble_eq_true rfl | simp [q_cat, q_catI, q_catJ, q_catR]) ⟨Nat.le_of_ble_eq_true rfl, Nat.le_of_ble_eq_true rfl⟩ hu dL_law_1009 (fun r367_ S368_ H locs hp Y => ?_)
        obtain ⟨x369_, rfl, h⟩ := hp
        refine W.eq (g2 := F0 m 1012 ls [.int x369_]) rfl ?_
        refine q_aload_n hx hb dL_law_1012 rfl (lv_at hl 2 rfl) ?_
        refine lv_aload_n hx hb dL_law_1013 rfl (lv_at hl 0 rfl) ?_
        refine lv_iload hx hb dL_law_1014 (lv_at hl 4 rfl) ?_
        refine lv_iconst (v := 1) hx hb dL_law_1016 (by decide) ?_
        refine lv_iadd hx hb dL_law_1017 ?_
        obtain ⟨i370_, h⟩ := h
        refine va_sld hx hb hX hbl (Nat.not_le.mpr hbl) Y.2 i370_ dL_law_1018 ?_
        refine lv_aload_n hx hb dL_law_1019 rfl (lv_at hl 0 rfl) ?_
        refine lv_iload hx hb dL_law_1020 (lv_at hl 4 rfl) ?_
        refine lv_iconst (v := 2) hx hb dL_law_1022 (by decide) ?_
        refine lv_iadd hx hb dL_law_1023 ?_
        obtain ⟨i371_, h⟩ := h
        refine va_sld hx hb hX hbl (Nat.not_le.mpr hbl) Y.2 i371_ dL_law_1024 ?_
        obtain ⟨a372_, e373_, h⟩ := h
        refine q_nn [.int (xs (x4 + (2 : Int32)).toNatClampNeg), .int (xs (x4 + (1 : Int32)).toNatClampNeg)] e373_ ?_
        obtain ⟨k374_, h⟩ := h
        refine q_callV X Y hl (cm_X12_error h) mt_X12_error mi_X12_error ml_L_124 (ci := 12) rfl k374_ (by decide) rfl rfl (by first | exact Nat.le_of_ble_eq_true rfl | simp [q_cat, q_catI, q_catJ, q_catR]) ⟨Nat.le_of_ble_eq_true rfl, Nat.le_of_ble_eq_true rfl⟩ hu dL_law_1025 (fun r375_ S376_ H locs hp Y => ?_)
        obtain ⟨x377_, rfl, h⟩ := hp
        refine W.eq (g2 := F0 m 1028 ls [.int x377_, .int x369_]) rfl ?_
        refine lv_icmp_eq (tgt := 1058) hx hb dL_law_1028 (by decide) (fun c378_ => ?_) (fun c378_ => ?_)
        · replace h := h.1 c378_
          exact cb_L_law_1058 X hNc hst hX hbl hB23 hu Y (lv_sub hl [0, 1, 2, 3, 4] rfl) h
        · replace h := h.2 c378_
          refine lv_iconst (v := 0) hx hb dL_law_1031 (by decide) ?_
          exact q_lawret X Y hu h dL_law_1032
      | 20, _, c394_ =>
        refine ⟨993, 1033, rfl, by decide, ?_⟩
        replace h := h.2.2.2.2.2.2.2.2.2.2.2.2.2.2.2.2.2.2.2.2.2 (q_eqI c394_ (by decide))
        refine q_aload_n hx hb dL_law_1033 rfl (lv_at hl 1 rfl) ?_
        refine lv_aload_n hx hb dL_law_1034 rfl (lv_at hl 0 rfl) ?_
        refine lv_iload hx hb dL_law_1035 (lv_at hl 4 rfl) ?_
        refine lv_iconst (v := 1) hx hb dL_law_1037 (by decide) ?_
        refine lv_iadd hx hb dL_law_1038 ?_
        obtain ⟨i379_, h⟩ := h
        refine va_sld hx hb hX hbl (Nat.not_le.mpr hbl) Y.2 i379_ dL_law_1039 ?_
        obtain ⟨a380_, e381_, h⟩ := h
        refine q_nn [.int (xs (x4 + (1 : Int32)).toNatClampNeg)] e381_ ?_
        obtain ⟨k382_, h⟩ := h
        refine q_callV X Y hl (cm_X11_about h) mt_X11_about mi_X11_about ml_L_125 (ci := 11) rfl k382_ (by decide) rfl rfl (by first | exact Nat.le_of_ble_eq_true rfl | simp [q_cat, q_catI, q_catJ, q_catR]) ⟨Nat.le_of_ble_eq_true rfl, Nat.le_of_ble_eq_true rfl⟩ hu dL_law_1040 (fun r383_ S384_ H locs hp Y => ?_)
        obtain ⟨x385_, rfl, h⟩ := hp
        refine W.eq (g2 := F0 m 1043 ls [.int x385_]) rfl ?_
        refine q_aload_n hx hb dL_law_1043 rfl (lv_at hl 2 rfl) ?_
        refine lv_aload_n hx hb dL_law_1044 rfl (lv_at hl 0 rfl) ?_
        refine lv_iload hx hb dL_law_1045 (lv_at hl 4 rfl) ?_
        refine lv_iconst (v := 1) hx hb dL_law_1047 (by decide) ?_
        refine lv_iadd hx hb dL_law_1048 ?_
        obtain ⟨i386_, h⟩ := h
        refine va_sld hx hb hX hbl (Nat.not_le.mpr hbl) Y.2 i386_ dL_law_1049 ?_
        obtain ⟨a387_, e388_, h⟩ := h
        refine q_nn [.int (xs (x4 + (1 : Int32)).toNatClampNeg)] e388_ ?_
        obtain ⟨k389_, h⟩ := h
        refine q_callV X Y hl (cm_X12_about h) mt_X12_about mi_X12_about ml_L_128 (ci := 12) rfl k389_ (by decide) rfl rfl (by first | exact Nat.le_of_ble_eq_true rfl | simp [q_cat, q_catI, q_catJ, q_catR]) ⟨Nat.le_of_ble_eq_true rfl, Nat.le_of_ble_eq_true rfl⟩ hu dL_law_1050 (fun r390_ S391_ H locs hp Y => ?_)
        obtain ⟨x392_, rfl, h⟩ := hp
        refine W.eq (g2 := F0 m 1053 ls [.int x392_, .int x385_]) rfl ?_
        refine lv_icmp_eq (tgt := 1058) hx hb dL_law_1053 (by decide) (fun c393_ => ?_) (fun c393_ => ?_)
        · replace h := h.1 c393_
          exact cb_L_law_1058 X hNc hst hX hbl hB23 hu Y (lv_sub hl [0, 1, 2, 3, 4] rfl) h
        · replace h := h.2 c393_
          refine lv_iconst (v := 0) hx hb dL_law_1056 (by decide) ?_
          exact q_lawret X Y hu h dL_law_1057
      | z_ + 21, hj_, _ => exact absurd hj_ (by simp)
def wl_L_law_23 (L : Nat) (xs : Nat → Int32)  : Nat → Nat → Nat → q_S → Option Nat → Option Nat → Option Nat → Int32 → Prop
  | 0, _, _, _, _, _, _, _ => False
  | n + 1, u, v, S, r1, r2, r3, x4 => wb_L_law_23 L xs (fun u v S r1 r2 r3 x4 => wl_L_law_23 L xs n u v S r1 r2 r3 x4 ) u v S r1 r2 r3 x4 
set_option maxHeartbeats 4000000 in
set_option maxRecDepth 100000 in
theorem cl_L_law_23 {p : Program} {l : Launch} {e : Env} {s : State} {m : MethodId} {below : List Frame} {meth : Method} {c : Code} {D : va_G} {cy : Nat → ClassId} {b L : Nat} {xs : Nat → Int32}   (X : q_X p s m #[Value.ref b] meth c RL cL_law 7 (some .boolean) D cy s.heap.size) (hNc : q_Nc s) (hst : l.stackTraces = false) (hX : va_X b L xs s s.heap) (hbl : b < s.heap.size)  : ∀ (n : Nat) (u v : Nat) (S : q_S) (r1 : Option Nat) (r2 : Option Nat) (r3 : Option Nat) (x4 : Int32) (H : Heap) (locs : List Loc) (ls : Array Slot), wl_L_law_23 L xs n u v S r1 r2 r3 x4  → (u ≤ 600128 ∧ v ≤ 7301098) → q_Y D cy s.heap.size s S H locs → lv_has ls 7 [(0, .ref b), (1, va_rf r1), (2, va_rf r2), (3, va_rf r3), (4, .int x4)] → W p l e room_1 s m #[Value.ref b] below meth c H locs u v (lw_Z below #[Value.ref b] s) (F0 m 23 ls []) := by
  intro n
  induction n with
  | zero => intro u v S r1 r2 r3 x4 H locs ls h; exact absurd h id
  | succ n ih => intro u v S r1 r2 r3 x4 H locs ls h hu Y hl; exact cb_L_law_23 X hNc hst hX hbl ih hu Y hl h
def wm_L_law (L : Nat) (xs : Nat → Int32) (S : q_S)  : Prop := (0 + 1 ≤ 600128 ∧ 0 + 5 ≤ 7301098) ∧ (∀ b396_ : Nat, q_K S b396_ = 0 → (∃ m403_ m404_ : Nat, ((0 + 1) + m403_ ≤ 600128 ∧ (0 + 5) + m404_ ≤ 7301098) ∧ (wm_X11_init m403_ m404_ (qs_O S 11 b396_) b396_ (fun r401_ S402_ => r401_ = none ∧ ((((0 + 1) + m403_) + 1 ≤ 600128 ∧ ((0 + 5) + m404_) + 114 ≤ 7301098) ∧ (∀ b406_ : Nat, q_K S402_ b406_ = 0 → (∃ m413_ m414_ : Nat, ((((0 + 1) + m403_) + 1) + m413_ ≤ 600128 ∧ (((0 + 5) + m404_) + 114) + m414_ ≤ 7301098) ∧ (wm_X12_init m413_ m414_ (qs_O S402_ 12 b406_) b406_ (fun r411_ S412_ => r411_ = none ∧ ((((((0 + 1) + m403_) + 1) + m413_) + 1 ≤ 600128 ∧ ((((0 + 5) + m404_) + 114) + m414_) + 1 ≤ 7301098) ∧ (∀ b416_ : Nat, q_K S412_ b416_ = 0 → (∃ n421_ : Nat, wl_L_law_23 L xs n421_ (((((0 + 1) + m403_) + 1) + m413_) + 1) (((((0 + 5) + m404_) + 114) + m414_) + 1) (qs_R S412_ 23 1 b416_) (some b396_) (some b406_) (some b416_) (0 : Int32) ))))))))))))
set_option maxHeartbeats 4000000 in
set_option maxRecDepth 100000 in
theorem cm_L_law {p : Program} {l : Launch} {e : Env} {s : State} {m : MethodId} {below : List Frame} {meth : Method} {c : Code} {D : va_G} {cy : Nat → ClassId} {b L : Nat} {xs : Nat → Int32} {S : q_S} {H : Heap} {locs : List Loc} {ls : Array Slot} (X : q_X p s m #[Value.ref b] meth c RL cL_law 7 (some .boolean) D cy s.heap.size) (hNc : q_Nc s) (hst : l.stackTraces = false) (hX : va_X b L xs s s.heap) (hbl : b < s.heap.size) (Y : q_Y D cy s.heap.size s S H locs) (hl : lv_has ls 7 [(0, .ref b)]) (h : wm_L_law L xs S) : W p l e room_1 s m #[Value.ref b] below meth c H locs 0 0 (lw_Z below #[Value.ref b] s) (F0 m 0 ls []) := by
  have hx := X.1
  have hb := X.2.1
  have hu : 0 ≤ 600128 ∧ 0 ≤ 7301098 := ⟨Nat.zero_le _, Nat.zero_le _⟩
  unfold wm_L_law at h
  obtain ⟨w399_, h⟩ := h
  refine q_new X Y kX11 tyX11 tyX11_ok dv_X11 cl_L_8 ib_X11 in_X11 w399_ dL_law_0 (fun b396_ H h397_ h398_ Y => ?_)
  replace h := h b396_ h397_
  replace hu := w399_
  have k400_ : q_K (qs_O S 11 b396_) b396_ = 12 := qs_O_Ks
  refine lv_dup hx hb dL_law_3 rfl ?_
  obtain ⟨m403_, m404_, w405_, h⟩ := h
  refine q_callI X Y hl (cm_X11_init h) mt_X11_init mj_X11_init rfl ml_L_33 rfl rfl (by first | exact Nat.le_of_ble_eq_true rfl | simp [q_cat, q_catI, q_catJ, q_catR]) ⟨Nat.le_of_ble_eq_true rfl, Nat.le_of_ble_eq_true rfl⟩ w405_ dL_law_4 (fun r401_ S402_ H locs hp Y => ?_)
  obtain ⟨rfl, h⟩ := hp
  replace hu := w405_
  refine W.eq (g2 := F0 m 7 ls [.ref b396_]) rfl ?_
  refine lv_astore_n (i := 1) (lv' := [(1, .ref b396_), (0, .ref b)]) hx hb dL_law_7 rfl hl (by decide) (by first | rfl | simp [q_cat, q_catI, q_catJ, q_catR]) (fun ls hl => ?_)
  obtain ⟨w409_, h⟩ := h
  refine q_new X Y kX12 tyX12 tyX12_ok dv_X12 cl_L_34 ib_X12 in_X12 w409_ dL_law_8 (fun b406_ H h407_ h408_ Y => ?_)
  replace h := h b406_ h407_
  replace hu := w409_
  have k410_ : q_K (qs_O S402_ 12 b406_) b406_ = 13 := qs_O_Ks
  refine lv_dup hx hb dL_law_11 rfl ?_
  obtain ⟨m413_, m414_, w415_, h⟩ := h
  refine q_callI X Y hl (cm_X12_init h) mt_X12_init mj_X12_init rfl ml_L_36 rfl rfl (by first | exact Nat.le_of_ble_eq_true rfl | simp [q_cat, q_catI, q_catJ, q_catR]) ⟨Nat.le_of_ble_eq_true rfl, Nat.le_of_ble_eq_true rfl⟩ w415_ dL_law_12 (fun r411_ S412_ H locs hp Y => ?_)
  obtain ⟨rfl, h⟩ := hp
  replace hu := w415_
  refine W.eq (g2 := F0 m 15 ls [.ref b406_]) rfl ?_
  refine lv_astore_n (i := 2) (lv' := [(2, .ref b406_), (1, .ref b396_), (0, .ref b)]) hx hb dL_law_15 rfl hl (by decide) (by first | rfl | simp [q_cat, q_catI, q_catJ, q_catR]) (fun ls hl => ?_)
  refine lv_iconst (v := 1) hx hb dL_law_16 (by decide) ?_
  obtain ⟨w419_, h⟩ := h
  refine q_newa X Y (k := 23) (t := 3) (n := 1) (ty := .long) rfl (by decide) rfl (fun _ _ => rfl) (by first | exact rfl | decide | simp [defaultValue]) ar_long (by decide) (by decide) (by decide) w419_ dL_law_17 (fun b416_ H h417_ h418_ Y => ?_)
  replace h := h b416_ h417_
  replace hu := w419_
  have k420_ : q_K (qs_R S412_ 23 1 b416_) b416_ = 23 := qs_R_Ks
  refine lv_astore_n (i := 3) (lv' := [(3, .ref b416_), (2, .ref b406_), (1, .ref b396_), (0, .ref b)]) hx hb dL_law_19 rfl hl (by decide) (by first | rfl | simp [q_cat, q_catI, q_catJ, q_catR]) (fun ls hl => ?_)
  refine lv_iconst (v := 0) hx hb dL_law_20 (by decide) ?_
  refine lv_istore (i := 4) (lv' := [(4, .int (0 : Int32)), (3, .ref b416_), (2, .ref b406_), (1, .ref b396_), (0, .ref b)]) hx hb dL_law_21 hl (by decide) (by first | rfl | simp [q_cat, q_catI, q_catJ, q_catR]) (fun ls hl => ?_)
  obtain ⟨n421_, h⟩ := h
  exact cl_L_law_23 X hNc hst hX hbl n421_ _ _ _ _ _ _ _ _ _ _ h hu Y (lv_sub hl [4, 3, 2, 1, 0] rfl)
