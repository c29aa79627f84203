/-! All that is read. -/
def RDF (e : EV) (B : Nat) (K0 : c_S) (R0 : r_S) (D : CD) (np lm nc : Nat) (sp : Nat → Option (Nat × Nat)) (gp : Nat → Nat → Option (Nat × Nat)) (ng ic : Nat → Nat) (ni nw : Nat) (wo we : Nat → Nat) (L : c_L) (T : q_S) (K : c_S) (R : r_S) : Prop :=
  WD e L T ∧ AV B K0 R0 K R ∧ PP L K R np lm ∧ (∀ p : Nat, p < np → RQD D L K R p lm) ∧ DH D np ∧ (∀ c : Nat, c < nc → CHN D np L K R c (sp c) (gp c) (ng c) ∧ 1 ≤ ng c) ∧ PC D np nc sp gp ng K R ∧ IC K R nc ni sp ic ∧ (nc ≤ 24 ∧ ni ≤ nc ∧ lm ≤ 14000 ∧ 1 ≤ np ∧ 1 ≤ nw) ∧ (c_I K 1203 0 = nI nc ∧ r_I R 2416 = nI nc) ∧ (c_I K 1205 0 = nI ni ∧ r_I R 2418 = nI ni) ∧ c_I K 1206 0 = r_I R 2419 ∧ WNS np K R nw wo we
theorem rd_all {e : EV} {B bc bs : Nat} {K0 K : c_S} {R0 R : r_S} {L : c_L} {T : q_S} {Q : Option Value → q_S → Prop} {E : String → q_S → Prop} {RM : (Option Value → r_S → Prop) → Prop} (hbc : 4300 ≤ bc) (hbs : 109000 ≤ bs) (hby : ∀ i : Nat, fits .byte (.int (r_A R0 2402 i)) = true) (ps : PS e B K0 R0 K R L T K R 0 0) (kz : c_I K 1203 0 = 0 ∧ c_I K 1205 0 = 0 ∧ c_I K 1206 0 = 0 ∧ c_I K 1209 0 = 0) (rz : ∀ f : Nat, 2416 ≤ f → f ≤ 2420 → r_I R f = 0)
  (hr : ∀ Q : Option Value → r_S → Prop, (∃ n : Nat, rl_X12_load_26 n R Q) → RM Q)
  (hX : ∀ (L' : c_L) (T' : q_S) (K' : c_S) (R' : r_S) (w q : Int32), WD e L' T' → CZ K0 K' → FD w q R0 R' → r_DE R' → (∀ Q : Option Value → r_S → Prop, rb_X12_load_88 R' 0 Q → RM Q) → E "java/lang/IllegalArgumentException" (c_E L' (k_fl K' w q) T'))
  (hN : ∀ (L' : c_L) (T' : q_S) (K' : c_S) (R' : r_S) (D : CD) (np lm nc : Nat) (sp : Nat → Option (Nat × Nat)) (gp : Nat → Nat → Option (Nat × Nat)) (ng ic : Nat → Nat) (ni nw : Nat) (wo we : Nat → Nat), RDF e B K0 R0 D np lm nc sp gp ng ic ni nw wo we L' T' K' R' → (c_I K' 1804 0 = c_I K 1804 0 ∧ c_I K' 1805 0 = c_I K 1805 0 ∧ r_I R' 2412 = r_I R 2412) → (∀ Q : Option Value → r_S → Prop, rb_X12_load_88 R' 1 Q → RM Q) → Q none (c_E L' (cs_I K' 1213 0 1) T')) :
  wl_X9_read_41 bc bs 17 0 0 (c_E L K T) (c_ob L 9 0) 0 Q E := by
  refine pt_all (by omega) hbs hby ps hr hX (fun L1 T1 K1 R1 np lm u v ps1 h1 hu hv hr => ?_)
  have of1 := ps1.2.2.2.2.2.2.2.2
  have k1 : ∀ f : Nat, f = 1203 ∨ f = 1205 ∨ f = 1206 ∨ f = 1209 → c_I K1 f 0 = c_I K f 0 := fun f h => (of1.1 f 0 (fun z => by unfold gI at z; omega)).1
  have r1 : ∀ f : Nat, 2416 ≤ f → f ≤ 2420 → r_I R1 f = 0 := fun f a b => (of1.2.2.1 f (fun z => by unfold hi pi at z; omega)).trans (rz f a b)
  obtain ⟨D, dh, cs⟩ := ch_start ps1 ⟨(k1 1203 (by omega)).trans kz.1, (k1 1205 (by omega)).trans kz.2.1, (k1 1206 (by omega)).trans kz.2.2.1⟩ ⟨r1 2416 (by omega) (by omega), r1 2418 (by omega) (by omega), r1 2419 (by omega) (by omega)⟩
  refine ⟨25, ch_loop (u0 := u) (v0 := v) (by omega) (by omega) hX (fun L2 T2 K2 R2 nc sp gp ng ic ni u' v' cs2 hu' hv' hr => ?_) 25 0 L1 T1 K1 R1 _ _ _ _ 0 rfl cs (fun Q h => hr Q ⟨26, h⟩)⟩
  obtain ⟨wd, av, ⟨pp, rqs, chs, of2⟩, pc, icc, ⟨c24, hl⟩, ⟨k03, r16⟩, ⟨hni, k05, r18⟩, k06⟩ := cs2
  have g := WD_g wd
  have k09 : c_I K2 1209 0 = 0 := (of2.1 1209 0 (fun z => by unfold kI at z; omega)).1.trans ((k1 1209 (by omega)).trans kz.2.2.2)
  have r17 : r_I R2 2417 = 0 := (of2.2.2.1 2417 (fun z => by unfold di at z; omega)).trans (r1 2417 (by omega) (by omega))
  have r20 : r_I R2 2420 = 0 := (of2.2.2.1 2420 (fun z => by unfold di at z; omega)).trans (r1 2420 (by omega) (by omega))
  have np16 := pp.1
  have fs : FS e B K0 R0 np lm K2 R2 L2 T2 K2 R2 0 (fun _ => 0) (fun _ => 0) := ⟨wd, av, pp, fun p hp => (rqs p hp).1.1.2, ⟨⟨by omega, k09, r17⟩, ⟨rfl, r20⟩, fun i hi => absurd hi (Nat.not_lt_zero i)⟩, OF_0, hl⟩
  refine ⟨K10 g, 1, 6, ⟨by omega, by omega⟩, c_frame (RM := rm_X12_readFrame R2) fs (Nat.le_refl _) (Nat.le_refl _) (fun Q h => h) (fun K' R3 w q cz hf de hr' => ?_) (fun K3 R3 nw wo we fs3 n1 hr' => ⟨rfl, K10 g, _, P18 g, K7 g, ?_⟩)⟩
  · exact hX L2 T2 K' R3 w q wd cz hf de (fun Q h => hr Q (hr' _ ⟨rfl, nf_ (de_n0 de) h⟩))
  · obtain ⟨wd3, av3, pp3, p13, wn3, of3, _⟩ := fs3
    rw [c_eIs (c_gw g) (g_m6 g) rfl]
    have kk : ∀ f i : Nat, f / 200 ≠ 9 → f ≠ 1209 → c_I K3 f i = c_I K2 f i := fun f i a b => (of3.1 f i (fun z => by unfold uI at z; omega)).1
    have rr : ∀ f i : Nat, f ≠ 2461 → f ≠ 2462 → r_A R3 f i = r_A R2 f i := fun f i a b => of3.2.2.2 f i (fun z => by unfold ua at z; omega)
    have ii : ∀ f : Nat, ¬ (2404 ≤ f ∧ f ≤ 2411) → f ≠ 2417 → f ≠ 2420 → r_I R3 f = r_I R2 f := fun f a b c => of3.2.2.1 f (fun z => by unfold ui mi at z; omega)
    have k45 : ∀ f : Nat, f = 1804 ∨ f = 1805 → c_I K3 f 0 = c_I K f 0 := fun f h => (of3.1 f 0 (fun z => by unfold uI at z; omega)).1.trans ((of2.1 f 0 (fun z => by unfold kI at z; omega)).1.trans (of1.1 f 0 (fun z => by unfold gI at z; omega)).1)
    have r12 : r_I R3 2412 = r_I R 2412 := (of3.2.2.1 2412 (fun z => by unfold ui mi at z; omega)).trans ((of2.2.2.1 2412 (fun z => by unfold di at z; omega)).trans (of1.2.2.1 2412 (fun z => by unfold hi pi at z; omega)))
    refine hN L2 T2 K3 R3 D np lm nc sp gp ng ic ni nw wo we ⟨wd3, av3, pp3, fun p hp => RQD_of (rqs p hp) g LX_0 of3 (fun f i a b => by unfold sI at a; unfold uI at b; omega) (fun f i a b => by unfold sA at a; unfold uA at b; omega) (fun f i a b => by unfold sa at a; unfold ua at b; generalize pst f = x at *; omega), dh, fun c hc => ⟨CHN_of (chs c hc).1 g LX_0 of3 (fun f i a b => by unfold uI at b; omega) (fun f i a b => by unfold ua at b; omega) (fun j h => (rr _ _ (by decide) (by decide)).trans h), (chs c hc).2⟩, PC_m pc (fun j => kk _ _ (by decide) (by decide)) (fun f j m => rr f j (fun z => by rw [z] at m; exact absurd m (by decide)) (fun z => by rw [z] at m; exact absurd m (by decide))) (fun _ _ _ h => h) (fun _ _ _ h => h), ⟨fun i hi => ?_, icc.2⟩, ⟨c24, hni, hl, h1, n1⟩, ⟨(kk _ _ (by decide) (by decide)).trans k03, (ii _ (by omega) (by omega) (by omega)).trans r16⟩, ⟨(kk _ _ (by decide) (by decide)).trans k05, (ii _ (by omega) (by omega) (by omega)).trans r18⟩, ?_, wn3⟩ ⟨k45 1804 (by omega), k45 1805 (by omega), r12⟩ (fun Q h => hr Q (hr' _ ⟨rfl, nt_ av3.2.2.2.1 h⟩))
    · obtain ⟨a1, a2, a3, a4⟩ := icc.1 i hi
      exact ⟨a1, (of3.2.1 1204 0 i (fun z => by unfold uA at z; omega)).trans a2, (rr _ _ (by decide) (by decide)).trans a3, a4⟩
    · rw [kk 1206 0 (by decide) (by decide), ii 2419 (by omega) (by omega) (by omega)]
      exact k06
