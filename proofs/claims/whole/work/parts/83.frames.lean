/-! The groups over the views, and that nothing else touches them. -/
def CQ (L : c_L) (Z : z_C) (K : c_S) (R : r_S) : Prop := CQf L Z (m_I [1000, 1004, 1008, 1400, 1402, 1404, 1405, 1406, 1407, 1408] K) (m_A [1007] K) (n_A [2435, 2436, 2438, 2439, 2440, 2441, 2442, 2452] R)
theorem CQ_I {L : c_L} {Z : z_C} {K : c_S} {R : r_S} {f i : Nat} {v : Int32} (h : f ∉ [1000, 1004, 1008, 1400, 1402, 1404, 1405, 1406, 1407, 1408]) : CQ L Z (cs_I K f i v) R = CQ L Z K R := by
  unfold CQ
  rw [m_In h] <;> rfl
theorem CQ_A {L : c_L} {Z : z_C} {K : c_S} {R : r_S} {f i j : Nat} {v : Int32} (h : f ∉ [1007]) : CQ L Z (cs_A K f i j v) R = CQ L Z K R := by
  unfold CQ
  rw [m_Ap h] <;> rfl
theorem CQ_G {L : c_L} {Z : z_C} {K : c_S} {R : r_S} {f i : Nat} {v : Nat → Int32} (h : f ∉ [1007]) : CQ L Z (cs_G K f i v) R = CQ L Z K R := by
  unfold CQ
  rw [m_An h] <;> rfl
theorem CQ_P {L : c_L} {Z : z_C} {K : c_S} {R : r_S} {f i : Nat} {v : Option Nat} : CQ L Z (cs_P K f i v) R = CQ L Z K R := by
  unfold CQ
  rfl
theorem CQ_J {L : c_L} {Z : z_C} {K : c_S} {R : r_S} {f i : Nat} {v : Int64} : CQ L Z (cs_J K f i v) R = CQ L Z K R := by
  unfold CQ
  rfl
theorem CQ_i {L : c_L} {Z : z_C} {K : c_S} {R : r_S} {f : Nat} {v : Int32} : CQ L Z K (rs_I R f v) = CQ L Z K R := by
  unfold CQ
  rfl
theorem CQ_a {L : c_L} {Z : z_C} {K : c_S} {R : r_S} {f i : Nat} {v : Int32} (h : f ∉ [2435, 2436, 2438, 2439, 2440, 2441, 2442, 2452]) : CQ L Z K (rs_A R f i v) = CQ L Z K R := by
  unfold CQ
  rw [n_An h]
theorem CQ_z {L : c_L} {Z : z_C} {K : c_S} {R : r_S} {q n : Nat} : CQ L Z K (r_z R q n) = CQ L Z K R := by
  unfold CQ
  rw [n_Az (by decide)]
def CT (L : c_L) (Z : z_C) (K : c_S) (R : r_S) : Prop := CTf L Z (m_I [2002, 2003, 2004, 2006, 2007, 2008, 1601] K) (m_A [1006] K) (n_A [2435, 2443, 2444, 2445, 2446, 2447, 2448, 2449, 2450, 2454] R)
theorem CT_I {L : c_L} {Z : z_C} {K : c_S} {R : r_S} {f i : Nat} {v : Int32} (h : f ∉ [2002, 2003, 2004, 2006, 2007, 2008, 1601]) : CT L Z (cs_I K f i v) R = CT L Z K R := by
  unfold CT
  rw [m_In h] <;> rfl
theorem CT_A {L : c_L} {Z : z_C} {K : c_S} {R : r_S} {f i j : Nat} {v : Int32} (h : f ∉ [1006]) : CT L Z (cs_A K f i j v) R = CT L Z K R := by
  unfold CT
  rw [m_Ap h] <;> rfl
theorem CT_G {L : c_L} {Z : z_C} {K : c_S} {R : r_S} {f i : Nat} {v : Nat → Int32} (h : f ∉ [1006]) : CT L Z (cs_G K f i v) R = CT L Z K R := by
  unfold CT
  rw [m_An h] <;> rfl
theorem CT_P {L : c_L} {Z : z_C} {K : c_S} {R : r_S} {f i : Nat} {v : Option Nat} : CT L Z (cs_P K f i v) R = CT L Z K R := by
  unfold CT
  rfl
theorem CT_J {L : c_L} {Z : z_C} {K : c_S} {R : r_S} {f i : Nat} {v : Int64} : CT L Z (cs_J K f i v) R = CT L Z K R := by
  unfold CT
  rfl
theorem CT_i {L : c_L} {Z : z_C} {K : c_S} {R : r_S} {f : Nat} {v : Int32} : CT L Z K (rs_I R f v) = CT L Z K R := by
  unfold CT
  rfl
theorem CT_a {L : c_L} {Z : z_C} {K : c_S} {R : r_S} {f i : Nat} {v : Int32} (h : f ∉ [2435, 2443, 2444, 2445, 2446, 2447, 2448, 2449, 2450, 2454]) : CT L Z K (rs_A R f i v) = CT L Z K R := by
  unfold CT
  rw [n_An h]
theorem CT_z {L : c_L} {Z : z_C} {K : c_S} {R : r_S} {q n : Nat} : CT L Z K (r_z R q n) = CT L Z K R := by
  unfold CT
  rw [n_Az (by decide)]
def CC (L : c_L) (Z : z_C) (K : c_S) (R : r_S) : Prop := CCf L Z (m_I [200, 201, 202, 203, 207, 208, 210, 212, 1201, 1203, 1205, 1206, 1209, 1601] K) (m_A [1204, 1207, 1208] K) (m_P [209, 211] K) (n_I [2415, 2416, 2417, 2418, 2419, 2420] R) (n_A [2448, 2450, 2454, 2455, 2456, 2457, 2458, 2459, 2460, 2461, 2462] R)
theorem CC_I {L : c_L} {Z : z_C} {K : c_S} {R : r_S} {f i : Nat} {v : Int32} (h : f ∉ [200, 201, 202, 203, 207, 208, 210, 212, 1201, 1203, 1205, 1206, 1209, 1601]) : CC L Z (cs_I K f i v) R = CC L Z K R := by
  unfold CC
  rw [m_In h] <;> rfl
theorem CC_A {L : c_L} {Z : z_C} {K : c_S} {R : r_S} {f i j : Nat} {v : Int32} (h : f ∉ [1204, 1207, 1208]) : CC L Z (cs_A K f i j v) R = CC L Z K R := by
  unfold CC
  rw [m_Ap h] <;> rfl
theorem CC_G {L : c_L} {Z : z_C} {K : c_S} {R : r_S} {f i : Nat} {v : Nat → Int32} (h : f ∉ [1204, 1207, 1208]) : CC L Z (cs_G K f i v) R = CC L Z K R := by
  unfold CC
  rw [m_An h] <;> rfl
theorem CC_P {L : c_L} {Z : z_C} {K : c_S} {R : r_S} {f i : Nat} {v : Option Nat} (h : f ∉ [209, 211]) : CC L Z (cs_P K f i v) R = CC L Z K R := by
  unfold CC
  rw [m_Pn h] <;> rfl
theorem CC_J {L : c_L} {Z : z_C} {K : c_S} {R : r_S} {f i : Nat} {v : Int64} : CC L Z (cs_J K f i v) R = CC L Z K R := by
  unfold CC
  rfl
theorem CC_i {L : c_L} {Z : z_C} {K : c_S} {R : r_S} {f : Nat} {v : Int32} (h : f ∉ [2415, 2416, 2417, 2418, 2419, 2420]) : CC L Z K (rs_I R f v) = CC L Z K R := by
  unfold CC
  rw [n_In h] <;> rfl
theorem CC_a {L : c_L} {Z : z_C} {K : c_S} {R : r_S} {f i : Nat} {v : Int32} (h : f ∉ [2448, 2450, 2454, 2455, 2456, 2457, 2458, 2459, 2460, 2461, 2462]) : CC L Z K (rs_A R f i v) = CC L Z K R := by
  unfold CC
  rw [n_An h] <;> rfl
theorem CC_z {L : c_L} {Z : z_C} {K : c_S} {R : r_S} {q n : Nat} : CC L Z K (r_z R q n) = CC L Z K R := by
  unfold CC
  rw [n_Az (by decide)] <;> rfl
def CM (L : c_L) (Z : z_C) (K : c_S) (R : r_S) : Prop := CMf L Z (m_I [800, 803] K) (m_A [804, 805] K) (n_A [2425, 2426, 2427, 2428, 2429] R)
theorem CM_I {L : c_L} {Z : z_C} {K : c_S} {R : r_S} {f i : Nat} {v : Int32} (h : f ∉ [800, 803]) : CM L Z (cs_I K f i v) R = CM L Z K R := by
  unfold CM
  rw [m_In h] <;> rfl
theorem CM_A {L : c_L} {Z : z_C} {K : c_S} {R : r_S} {f i j : Nat} {v : Int32} (h : f ∉ [804, 805]) : CM L Z (cs_A K f i j v) R = CM L Z K R := by
  unfold CM
  rw [m_Ap h] <;> rfl
theorem CM_G {L : c_L} {Z : z_C} {K : c_S} {R : r_S} {f i : Nat} {v : Nat → Int32} (h : f ∉ [804, 805]) : CM L Z (cs_G K f i v) R = CM L Z K R := by
  unfold CM
  rw [m_An h] <;> rfl
theorem CM_P {L : c_L} {Z : z_C} {K : c_S} {R : r_S} {f i : Nat} {v : Option Nat} : CM L Z (cs_P K f i v) R = CM L Z K R := by
  unfold CM
  rfl
theorem CM_J {L : c_L} {Z : z_C} {K : c_S} {R : r_S} {f i : Nat} {v : Int64} : CM L Z (cs_J K f i v) R = CM L Z K R := by
  unfold CM
  rfl
theorem CM_i {L : c_L} {Z : z_C} {K : c_S} {R : r_S} {f : Nat} {v : Int32} : CM L Z K (rs_I R f v) = CM L Z K R := by
  unfold CM
  rfl
theorem CM_a {L : c_L} {Z : z_C} {K : c_S} {R : r_S} {f i : Nat} {v : Int32} (h : f ∉ [2425, 2426, 2427, 2428, 2429]) : CM L Z K (rs_A R f i v) = CM L Z K R := by
  unfold CM
  rw [n_An h]
theorem CM_z {L : c_L} {Z : z_C} {K : c_S} {R : r_S} {q n : Nat} : CM L Z K (r_z R q n) = CM L Z K R := by
  unfold CM
  rw [n_Az (by decide)]
def NM (Z : z_C) (K : c_S) (R : r_S) : Prop := NMf Z (m_J [1401, 2000] K) (n_A [2421, 2430, 2431, 2432, 2433, 2434] R)
theorem NM_I {Z : z_C} {K : c_S} {R : r_S} {f i : Nat} {v : Int32} : NM Z (cs_I K f i v) R = NM Z K R := by
  unfold NM
  rfl
theorem NM_A {Z : z_C} {K : c_S} {R : r_S} {f i j : Nat} {v : Int32} : NM Z (cs_A K f i j v) R = NM Z K R := by
  unfold NM
  rfl
theorem NM_G {Z : z_C} {K : c_S} {R : r_S} {f i : Nat} {v : Nat → Int32} : NM Z (cs_G K f i v) R = NM Z K R := by
  unfold NM
  rfl
theorem NM_P {Z : z_C} {K : c_S} {R : r_S} {f i : Nat} {v : Option Nat} : NM Z (cs_P K f i v) R = NM Z K R := by
  unfold NM
  rfl
theorem NM_J {Z : z_C} {K : c_S} {R : r_S} {f i : Nat} {v : Int64} (h : f ∉ [1401, 2000]) : NM Z (cs_J K f i v) R = NM Z K R := by
  unfold NM
  rw [m_Jn h] <;> rfl
theorem NM_i {Z : z_C} {K : c_S} {R : r_S} {f : Nat} {v : Int32} : NM Z K (rs_I R f v) = NM Z K R := by
  unfold NM
  rfl
theorem NM_a {Z : z_C} {K : c_S} {R : r_S} {f i : Nat} {v : Int32} (h : f ∉ [2421, 2430, 2431, 2432, 2433, 2434]) : NM Z K (rs_A R f i v) = NM Z K R := by
  unfold NM
  rw [n_An h]
theorem NM_z {Z : z_C} {K : c_S} {R : r_S} {q n : Nat} : NM Z K (r_z R q n) = NM Z K R := by
  unfold NM
  rw [n_Az (by decide)]
def TH (Z : z_C) (K : c_S) (R : r_S) : Prop := THf Z (m_I [2001, 2005, 1602, 1603] K) (m_A [1600] K) (n_A [2444, 2492, 2493, 2494, 2495, 2496, 2497] R)
theorem TH_I {Z : z_C} {K : c_S} {R : r_S} {f i : Nat} {v : Int32} (h : f ∉ [2001, 2005, 1602, 1603]) : TH Z (cs_I K f i v) R = TH Z K R := by
  unfold TH
  rw [m_In h] <;> rfl
theorem TH_A {Z : z_C} {K : c_S} {R : r_S} {f i j : Nat} {v : Int32} (h : f ∉ [1600]) : TH Z (cs_A K f i j v) R = TH Z K R := by
  unfold TH
  rw [m_Ap h] <;> rfl
theorem TH_G {Z : z_C} {K : c_S} {R : r_S} {f i : Nat} {v : Nat → Int32} (h : f ∉ [1600]) : TH Z (cs_G K f i v) R = TH Z K R := by
  unfold TH
  rw [m_An h] <;> rfl
theorem TH_P {Z : z_C} {K : c_S} {R : r_S} {f i : Nat} {v : Option Nat} : TH Z (cs_P K f i v) R = TH Z K R := by
  unfold TH
  rfl
theorem TH_J {Z : z_C} {K : c_S} {R : r_S} {f i : Nat} {v : Int64} : TH Z (cs_J K f i v) R = TH Z K R := by
  unfold TH
  rfl
theorem TH_i {Z : z_C} {K : c_S} {R : r_S} {f : Nat} {v : Int32} : TH Z K (rs_I R f v) = TH Z K R := by
  unfold TH
  rfl
theorem TH_a {Z : z_C} {K : c_S} {R : r_S} {f i : Nat} {v : Int32} (h : f ∉ [2444, 2492, 2493, 2494, 2495, 2496, 2497]) : TH Z K (rs_A R f i v) = TH Z K R := by
  unfold TH
  rw [n_An h]
theorem TH_z {Z : z_C} {K : c_S} {R : r_S} {q n : Nat} : TH Z K (r_z R q n) = TH Z K R := by
  unfold TH
  rw [n_Az (by decide)]
def IN (L : c_L) (Z : z_C) (K : c_S) (R : r_S) : Prop := INf L Z (m_I [215, 216] K) (m_A [213, 214] K) (n_A [2504, 2505, 2506, 2507] R)
theorem IN_I {L : c_L} {Z : z_C} {K : c_S} {R : r_S} {f i : Nat} {v : Int32} (h : f ∉ [215, 216]) : IN L Z (cs_I K f i v) R = IN L Z K R := by
  unfold IN
  rw [m_In h] <;> rfl
theorem IN_A {L : c_L} {Z : z_C} {K : c_S} {R : r_S} {f i j : Nat} {v : Int32} (h : f ∉ [213, 214]) : IN L Z (cs_A K f i j v) R = IN L Z K R := by
  unfold IN
  rw [m_Ap h] <;> rfl
theorem IN_G {L : c_L} {Z : z_C} {K : c_S} {R : r_S} {f i : Nat} {v : Nat → Int32} (h : f ∉ [213, 214]) : IN L Z (cs_G K f i v) R = IN L Z K R := by
  unfold IN
  rw [m_An h] <;> rfl
theorem IN_P {L : c_L} {Z : z_C} {K : c_S} {R : r_S} {f i : Nat} {v : Option Nat} : IN L Z (cs_P K f i v) R = IN L Z K R := by
  unfold IN
  rfl
theorem IN_J {L : c_L} {Z : z_C} {K : c_S} {R : r_S} {f i : Nat} {v : Int64} : IN L Z (cs_J K f i v) R = IN L Z K R := by
  unfold IN
  rfl
theorem IN_i {L : c_L} {Z : z_C} {K : c_S} {R : r_S} {f : Nat} {v : Int32} : IN L Z K (rs_I R f v) = IN L Z K R := by
  unfold IN
  rfl
theorem IN_a {L : c_L} {Z : z_C} {K : c_S} {R : r_S} {f i : Nat} {v : Int32} (h : f ∉ [2504, 2505, 2506, 2507]) : IN L Z K (rs_A R f i v) = IN L Z K R := by
  unfold IN
  rw [n_An h]
theorem IN_z {L : c_L} {Z : z_C} {K : c_S} {R : r_S} {q n : Nat} : IN L Z K (r_z R q n) = IN L Z K R := by
  unfold IN
  rw [n_Az (by decide)]
def ME (Z : z_C) (K : c_S) (R : r_S) : Prop := MEf Z (m_A [801, 802] K) (n_A [2465, 2466] R)
theorem ME_I {Z : z_C} {K : c_S} {R : r_S} {f i : Nat} {v : Int32} : ME Z (cs_I K f i v) R = ME Z K R := by
  unfold ME
  rfl
theorem ME_A {Z : z_C} {K : c_S} {R : r_S} {f i j : Nat} {v : Int32} (h : f ∉ [801, 802]) : ME Z (cs_A K f i j v) R = ME Z K R := by
  unfold ME
  rw [m_Ap h] <;> rfl
theorem ME_G {Z : z_C} {K : c_S} {R : r_S} {f i : Nat} {v : Nat → Int32} (h : f ∉ [801, 802]) : ME Z (cs_G K f i v) R = ME Z K R := by
  unfold ME
  rw [m_An h] <;> rfl
theorem ME_P {Z : z_C} {K : c_S} {R : r_S} {f i : Nat} {v : Option Nat} : ME Z (cs_P K f i v) R = ME Z K R := by
  unfold ME
  rfl
theorem ME_J {Z : z_C} {K : c_S} {R : r_S} {f i : Nat} {v : Int64} : ME Z (cs_J K f i v) R = ME Z K R := by
  unfold ME
  rfl
theorem ME_i {Z : z_C} {K : c_S} {R : r_S} {f : Nat} {v : Int32} : ME Z K (rs_I R f v) = ME Z K R := by
  unfold ME
  rfl
theorem ME_a {Z : z_C} {K : c_S} {R : r_S} {f i : Nat} {v : Int32} (h : f ∉ [2465, 2466]) : ME Z K (rs_A R f i v) = ME Z K R := by
  unfold ME
  rw [n_An h]
theorem ME_z {Z : z_C} {K : c_S} {R : r_S} {q n : Nat} : ME Z K (r_z R q n) = ME Z K R := by
  unfold ME
  rw [n_Az (by decide)]
def JR (K : c_S) (R : r_S) : Prop := JRf  (m_I [402, 403] K) (m_A [400, 401] K) (n_I [2508, 2509] R) (n_A [2511, 2512] R)
theorem JR_I {K : c_S} {R : r_S} {f i : Nat} {v : Int32} (h : f ∉ [402, 403]) : JR  (cs_I K f i v) R = JR  K R := by
  unfold JR
  rw [m_In h] <;> rfl
theorem JR_A {K : c_S} {R : r_S} {f i j : Nat} {v : Int32} (h : f ∉ [400, 401]) : JR  (cs_A K f i j v) R = JR  K R := by
  unfold JR
  rw [m_Ap h] <;> rfl
theorem JR_G {K : c_S} {R : r_S} {f i : Nat} {v : Nat → Int32} (h : f ∉ [400, 401]) : JR  (cs_G K f i v) R = JR  K R := by
  unfold JR
  rw [m_An h] <;> rfl
theorem JR_P {K : c_S} {R : r_S} {f i : Nat} {v : Option Nat} : JR  (cs_P K f i v) R = JR  K R := by
  unfold JR
  rfl
theorem JR_J {K : c_S} {R : r_S} {f i : Nat} {v : Int64} : JR  (cs_J K f i v) R = JR  K R := by
  unfold JR
  rfl
theorem JR_i {K : c_S} {R : r_S} {f : Nat} {v : Int32} (h : f ∉ [2508, 2509]) : JR  K (rs_I R f v) = JR  K R := by
  unfold JR
  rw [n_In h] <;> rfl
theorem JR_a {K : c_S} {R : r_S} {f i : Nat} {v : Int32} (h : f ∉ [2511, 2512]) : JR  K (rs_A R f i v) = JR  K R := by
  unfold JR
  rw [n_An h] <;> rfl
theorem JR_z {K : c_S} {R : r_S} {q n : Nat} : JR  K (r_z R q n) = JR  K R := by
  unfold JR
  rw [n_Az (by decide)] <;> rfl
def JB (b : Nat) (R : r_S) : Prop := JBf b (n_I [2508, 2509] R)
theorem JB_i {b : Nat} {R : r_S} {f : Nat} {v : Int32} (h : f ∉ [2508, 2509]) : JB b (rs_I R f v) = JB b R := by
  unfold JB
  rw [n_In h]
theorem JB_a {b : Nat} {R : r_S} {f i : Nat} {v : Int32} : JB b (rs_A R f i v) = JB b R := by
  unfold JB
  rfl
theorem JB_z {b : Nat} {R : r_S} {q n : Nat} : JB b (r_z R q n) = JB b R := by
  unfold JB
  rfl
def GL (Z : z_C) (K : c_S) (R : r_S) : Prop := GLf Z (m_I [1211, 1212, 1213, 1214] K) (n_I [2463, 2510, 2413, 2414, 2400] R)
theorem GL_I {Z : z_C} {K : c_S} {R : r_S} {f i : Nat} {v : Int32} (h : f ∉ [1211, 1212, 1213, 1214]) : GL Z (cs_I K f i v) R = GL Z K R := by
  unfold GL
  rw [m_In h]
theorem GL_A {Z : z_C} {K : c_S} {R : r_S} {f i j : Nat} {v : Int32} : GL Z (cs_A K f i j v) R = GL Z K R := by
  unfold GL
  rfl
theorem GL_G {Z : z_C} {K : c_S} {R : r_S} {f i : Nat} {v : Nat → Int32} : GL Z (cs_G K f i v) R = GL Z K R := by
  unfold GL
  rfl
theorem GL_P {Z : z_C} {K : c_S} {R : r_S} {f i : Nat} {v : Option Nat} : GL Z (cs_P K f i v) R = GL Z K R := by
  unfold GL
  rfl
theorem GL_J {Z : z_C} {K : c_S} {R : r_S} {f i : Nat} {v : Int64} : GL Z (cs_J K f i v) R = GL Z K R := by
  unfold GL
  rfl
theorem GL_i {Z : z_C} {K : c_S} {R : r_S} {f : Nat} {v : Int32} (h : f ∉ [2463, 2510, 2413, 2414, 2400]) : GL Z K (rs_I R f v) = GL Z K R := by
  unfold GL
  rw [n_In h]
theorem GL_a {Z : z_C} {K : c_S} {R : r_S} {f i : Nat} {v : Int32} : GL Z K (rs_A R f i v) = GL Z K R := by
  unfold GL
  rfl
theorem GL_z {Z : z_C} {K : c_S} {R : r_S} {q n : Nat} : GL Z K (r_z R q n) = GL Z K R := by
  unfold GL
  rfl
def TX (K : c_S) (R : r_S) : Prop := TXf  (m_I [1803, 1804, 1805] K) (m_A [1802, 2204] K) (n_I [2403, 2411, 2412] R) (n_A [2401, 2402] R)
theorem TX_I {K : c_S} {R : r_S} {f i : Nat} {v : Int32} (h : f ∉ [1803, 1804, 1805]) : TX  (cs_I K f i v) R = TX  K R := by
  unfold TX
  rw [m_In h] <;> rfl
theorem TX_A {K : c_S} {R : r_S} {f i j : Nat} {v : Int32} (h : f ∉ [1802, 2204]) : TX  (cs_A K f i j v) R = TX  K R := by
  unfold TX
  rw [m_Ap h] <;> rfl
theorem TX_G {K : c_S} {R : r_S} {f i : Nat} {v : Nat → Int32} (h : f ∉ [1802, 2204]) : TX  (cs_G K f i v) R = TX  K R := by
  unfold TX
  rw [m_An h] <;> rfl
theorem TX_P {K : c_S} {R : r_S} {f i : Nat} {v : Option Nat} : TX  (cs_P K f i v) R = TX  K R := by
  unfold TX
  rfl
theorem TX_J {K : c_S} {R : r_S} {f i : Nat} {v : Int64} : TX  (cs_J K f i v) R = TX  K R := by
  unfold TX
  rfl
theorem TX_i {K : c_S} {R : r_S} {f : Nat} {v : Int32} (h : f ∉ [2403, 2411, 2412]) : TX  K (rs_I R f v) = TX  K R := by
  unfold TX
  rw [n_In h] <;> rfl
theorem TX_a {K : c_S} {R : r_S} {f i : Nat} {v : Int32} (h : f ∉ [2401, 2402]) : TX  K (rs_A R f i v) = TX  K R := by
  unfold TX
  rw [n_An h] <;> rfl
theorem TX_z {K : c_S} {R : r_S} {q n : Nat} : TX  K (r_z R q n) = TX  K R := by
  unfold TX
  rw [n_Az (by decide)] <;> rfl
def PD (Z : z_C) (K : c_S) (R : r_S) : Prop := PDf Z (m_I [1009, 1010, 1011, 1012, 1013, 1014, 1016, 1017, 1018] K) (n_A [2483, 2484, 2485, 2486, 2487, 2488, 2489, 2490, 2491] R) (fun q => n_A [2467] R 2467 q)
theorem PD_I {Z : z_C} {K : c_S} {R : r_S} {f i : Nat} {v : Int32} (h : f ∉ [1009, 1010, 1011, 1012, 1013, 1014, 1016, 1017, 1018]) : PD Z (cs_I K f i v) R = PD Z K R := by
  unfold PD
  rw [m_In h]
theorem PD_A {Z : z_C} {K : c_S} {R : r_S} {f i j : Nat} {v : Int32} : PD Z (cs_A K f i j v) R = PD Z K R := by
  unfold PD
  rfl
theorem PD_G {Z : z_C} {K : c_S} {R : r_S} {f i : Nat} {v : Nat → Int32} : PD Z (cs_G K f i v) R = PD Z K R := by
  unfold PD
  rfl
theorem PD_P {Z : z_C} {K : c_S} {R : r_S} {f i : Nat} {v : Option Nat} : PD Z (cs_P K f i v) R = PD Z K R := by
  unfold PD
  rfl
theorem PD_J {Z : z_C} {K : c_S} {R : r_S} {f i : Nat} {v : Int64} : PD Z (cs_J K f i v) R = PD Z K R := by
  unfold PD
  rfl
theorem PD_i {Z : z_C} {K : c_S} {R : r_S} {f : Nat} {v : Int32} : PD Z K (rs_I R f v) = PD Z K R := by
  unfold PD
  rfl
theorem PD_a {Z : z_C} {K : c_S} {R : r_S} {f i : Nat} {v : Int32} (h : f ∉ [2483, 2484, 2485, 2486, 2487, 2488, 2489, 2490, 2491]) (h2 : f ∉ [2467]) : PD Z K (rs_A R f i v) = PD Z K R := by
  unfold PD
  rw [n_An h, n_An h2]
theorem PD_z {Z : z_C} {K : c_S} {R : r_S} {q n : Nat} : PD Z K (r_z R q n) = PD Z K R := by
  unfold PD
  rw [n_Az (by decide), n_Az (by decide)]
def CH (Z : z_C) (K : c_S) (R : r_S) : Prop := CHf Z (fun c => n_A [2454] R 2454 c) (m_I [205, 206, 1602, 1603] K) (m_A [1600] K) (n_A [2498, 2499, 2500, 2501, 2502, 2503] R)
theorem CH_I {Z : z_C} {K : c_S} {R : r_S} {f i : Nat} {v : Int32} (h : f ∉ [205, 206, 1602, 1603]) : CH Z (cs_I K f i v) R = CH Z K R := by
  unfold CH
  rw [m_In h] <;> rfl
theorem CH_A {Z : z_C} {K : c_S} {R : r_S} {f i j : Nat} {v : Int32} (h : f ∉ [1600]) : CH Z (cs_A K f i j v) R = CH Z K R := by
  unfold CH
  rw [m_Ap h] <;> rfl
theorem CH_G {Z : z_C} {K : c_S} {R : r_S} {f i : Nat} {v : Nat → Int32} (h : f ∉ [1600]) : CH Z (cs_G K f i v) R = CH Z K R := by
  unfold CH
  rw [m_An h] <;> rfl
theorem CH_P {Z : z_C} {K : c_S} {R : r_S} {f i : Nat} {v : Option Nat} : CH Z (cs_P K f i v) R = CH Z K R := by
  unfold CH
  rfl
theorem CH_J {Z : z_C} {K : c_S} {R : r_S} {f i : Nat} {v : Int64} : CH Z (cs_J K f i v) R = CH Z K R := by
  unfold CH
  rfl
theorem CH_i {Z : z_C} {K : c_S} {R : r_S} {f : Nat} {v : Int32} : CH Z K (rs_I R f v) = CH Z K R := by
  unfold CH
  rfl
theorem CH_a {Z : z_C} {K : c_S} {R : r_S} {f i : Nat} {v : Int32} (h : f ∉ [2498, 2499, 2500, 2501, 2502, 2503]) (h2 : f ∉ [2454]) : CH Z K (rs_A R f i v) = CH Z K R := by
  unfold CH
  rw [n_An h, n_An h2]
theorem CH_z {Z : z_C} {K : c_S} {R : r_S} {q n : Nat} : CH Z K (r_z R q n) = CH Z K R := by
  unfold CH
  rw [n_Az (by decide), n_Az (by decide)]
