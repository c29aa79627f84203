def kb_X11_channel_68 (L : c_L) (S : c_S) (xs0 : Int32) (Q : Int32 → c_S → Prop) : Prop := Q xs0 S
set_option maxRecDepth 100000 in
set_option maxHeartbeats 4000000 in
theorem ub_X11_channel_68 {L : c_L} {T : q_S} (g : c_G L T) (S : c_S) (xs0 : Int32)  {Q1 : Int32 → c_S → Prop} {Q : Option Value → q_S → Prop} (h : kb_X11_channel_68 L  S xs0 Q1) (hQ : ∀ (v : Int32) (K : c_S), Q1 v K → Q (some (.int v)) (c_E L K T)) : wb_X11_channel_68  (c_E L S T) xs0 Q := by
  unfold wb_X11_channel_68
  unfold kb_X11_channel_68 at h
  try simp only [true_and, Option.some.injEq, exists_eq_left', c_xm, c_xn, c_xs]
  exact hQ _ _ h
def km_X11_channel (L : c_L) (S : c_S) (a0 : Nat) (x1 : Int32) (x2 : Int32) (Q : Int32 → c_S → Prop) : Prop := km_X6_channelAt L S a0 x1 (fun r7_ S6_ => ((¬ r7_ = none → ((x2.toInt < 0 ∨ 5 < x2.toInt → (Q (-1 : Int32) S6_)) ∧ (x2 = (0 : Int32) → (∃ a9_ : Nat, r7_ = some a9_ ∧ (c_mk L 1 a9_ ∧ (((c_I S6_ 201 a9_) = 0 → (kb_X11_channel_68 L S6_ (0 : Int32) Q)) ∧ (¬ (c_I S6_ 201 a9_) = 0 → (kb_X11_channel_68 L S6_ (1 : Int32) Q)))))) ∧ (x2 = (1 : Int32) → (∃ a13_ : Nat, r7_ = some a13_ ∧ (c_mk L 1 a13_ ∧ (Q (c_I S6_ 1603 (1000 + a13_)) S6_)))) ∧ (x2 = (2 : Int32) → (∃ a19_ : Nat, r7_ = some a19_ ∧ (c_mk L 1 a19_ ∧ (Q (c_I S6_ 203 a19_) S6_)))) ∧ (x2 = (3 : Int32) → (∃ a22_ : Nat, r7_ = some a22_ ∧ (c_mk L 1 a22_ ∧ (Q (c_I S6_ 205 a22_) S6_)))) ∧ (x2 = (4 : Int32) → (∃ a25_ : Nat, r7_ = some a25_ ∧ (c_mk L 1 a25_ ∧ (Q (c_I S6_ 206 a25_) S6_)))) ∧ (x2 = (5 : Int32) → (∃ a28_ : Nat, r7_ = some a28_ ∧ (c_mk L 1 a28_ ∧ (Q (c_I S6_ 207 a28_) S6_)))))) ∧ (r7_ = none → (Q (-1 : Int32) S6_))))
set_option maxRecDepth 100000 in
set_option maxHeartbeats 4000000 in
theorem um_X11_channel {L : c_L} {T : q_S} (g : c_G L T) (S : c_S) (a0 : Nat) (x1 : Int32) (x2 : Int32) (m_a0 : c_mk L 11 a0) {Q1 : Int32 → c_S → Prop} {Q : Option Value → q_S → Prop} (h : km_X11_channel L  S a0 x1 x2 Q1) (hQ : ∀ (v : Int32) (K : c_S), Q1 v K → Q (some (.int v)) (c_E L K T)) : wm_X11_channel  (c_E L S T) (c_ob L 11 a0) x1 x2 Q := by
  unfold wm_X11_channel
  unfold km_X11_channel at h
  try simp only [c_gk g m_a0 12 rfl, true_and, Option.some.injEq, exists_eq_left', c_xm, c_xn, c_xs]
  have n2201_a0 := c_gO g 2201 6 rfl (by decide) m_a0
  try simp only [c_gk g m_a0 12 rfl, c_gk g n2201_a0 7 rfl, c_gp g 2201 6 rfl rfl (by decide) m_a0, true_and, Option.some.injEq, exists_eq_left', c_xm, c_xn, c_xs]
  refine um_X6_channelAt g _ a0 _ n2201_a0 h (fun r7_ S6_ h => ?_)
  refine ⟨_, rfl, ?_⟩
  try simp only [c_gk g m_a0 12 rfl, c_gk g n2201_a0 7 rfl, c_gp g 2201 6 rfl rfl (by decide) m_a0, true_and, Option.some.injEq, exists_eq_left', c_xm, c_xn, c_xs]
  refine ⟨fun hc => ?_, fun hc => ?_⟩
  · have h := h.1 hc
    refine ⟨fun hc => ?_, fun hc => ?_, fun hc => ?_, fun hc => ?_, fun hc => ?_, fun hc => ?_, fun hc => ?_⟩
    · have h := h.1 hc
      exact hQ _ _ h
    · have h := h.2.1 hc
      obtain ⟨a9_, e_a9_, m_a9_, h⟩ := h
      refine ⟨a9_, e_a9_, ?_⟩
      try simp only [c_gk g m_a0 12 rfl, c_gk g n2201_a0 7 rfl, c_gk g m_a9_ 2 rfl, c_gp g 2201 6 rfl rfl (by decide) m_a0, c_eI (f := 201) m_a9_ rfl, c_eI (f := 203) m_a9_ rfl, c_eI (f := 205) m_a9_ rfl, c_eI (f := 206) m_a9_ rfl, c_eI (f := 207) m_a9_ rfl, true_and, Option.some.injEq, exists_eq_left', c_xm, c_xn, c_xs]
      refine ⟨fun hc => ?_, fun hc => ?_⟩
      · have h := h.1 hc
        exact ub_X11_channel_68 g _ _  h hQ
      · have h := h.2 hc
        exact ub_X11_channel_68 g _ _  h hQ
    · have h := h.2.2.1 hc
      obtain ⟨a13_, e_a13_, m_a13_, h⟩ := h
      refine ⟨a13_, e_a13_, ?_⟩
      try simp only [c_gk g m_a0 12 rfl, c_gk g n2201_a0 7 rfl, c_gk g m_a13_ 2 rfl, c_gp g 2201 6 rfl rfl (by decide) m_a0, c_eI (f := 201) m_a13_ rfl, c_eI (f := 203) m_a13_ rfl, c_eI (f := 205) m_a13_ rfl, c_eI (f := 206) m_a13_ rfl, c_eI (f := 207) m_a13_ rfl, true_and, Option.some.injEq, exists_eq_left', c_xm, c_xn, c_xs]
      have n204_a13_ := c_gQ g m_a13_
      try simp only [c_gk g m_a0 12 rfl, c_gk g n2201_a0 7 rfl, c_gk g m_a13_ 2 rfl, c_gk g n204_a13_ 9 rfl, c_gp g 2201 6 rfl rfl (by decide) m_a0, c_gq g m_a13_, c_eI (f := 201) m_a13_ rfl, c_eI (f := 203) m_a13_ rfl, c_eI (f := 205) m_a13_ rfl, c_eI (f := 206) m_a13_ rfl, c_eI (f := 207) m_a13_ rfl, c_eI (f := 1603) n204_a13_ rfl, true_and, Option.some.injEq, exists_eq_left', c_xm, c_xn, c_xs]
      exact hQ _ _ h
    · have h := h.2.2.2.1 hc
      obtain ⟨a19_, e_a19_, m_a19_, h⟩ := h
      refine ⟨a19_, e_a19_, ?_⟩
      try simp only [c_gk g m_a0 12 rfl, c_gk g n2201_a0 7 rfl, c_gk g m_a19_ 2 rfl, c_gp g 2201 6 rfl rfl (by decide) m_a0, c_eI (f := 201) m_a19_ rfl, c_eI (f := 203) m_a19_ rfl, c_eI (f := 205) m_a19_ rfl, c_eI (f := 206) m_a19_ rfl, c_eI (f := 207) m_a19_ rfl, true_and, Option.some.injEq, exists_eq_left', c_xm, c_xn, c_xs]
      exact hQ _ _ h
    · have h := h.2.2.2.2.1 hc
      obtain ⟨a22_, e_a22_, m_a22_, h⟩ := h
      refine ⟨a22_, e_a22_, ?_⟩
      try simp only [c_gk g m_a0 12 rfl, c_gk g n2201_a0 7 rfl, c_gk g m_a22_ 2 rfl, c_gp g 2201 6 rfl rfl (by decide) m_a0, c_eI (f := 201) m_a22_ rfl, c_eI (f := 203) m_a22_ rfl, c_eI (f := 205) m_a22_ rfl, c_eI (f := 206) m_a22_ rfl, c_eI (f := 207) m_a22_ rfl, true_and, Option.some.injEq, exists_eq_left', c_xm, c_xn, c_xs]
      exact hQ _ _ h
    · have h := h.2.2.2.2.2.1 hc
      obtain ⟨a25_, e_a25_, m_a25_, h⟩ := h
      refine ⟨a25_, e_a25_, ?_⟩
      try simp only [c_gk g m_a0 12 rfl, c_gk g n2201_a0 7 rfl, c_gk g m_a25_ 2 rfl, c_gp g 2201 6 rfl rfl (by decide) m_a0, c_eI (f := 201) m_a25_ rfl, c_eI (f := 203) m_a25_ rfl, c_eI (f := 205) m_a25_ rfl, c_eI (f := 206) m_a25_ rfl, c_eI (f := 207) m_a25_ rfl, true_and, Option.some.injEq, exists_eq_left', c_xm, c_xn, c_xs]
      exact hQ _ _ h
    · have h := h.2.2.2.2.2.2 hc
      obtain ⟨a28_, e_a28_, m_a28_, h⟩ := h
      refine ⟨a28_, e_a28_, ?_⟩
      try simp only [c_gk g m_a0 12 rfl, c_gk g n2201_a0 7 rfl, c_gk g m_a28_ 2 rfl, c_gp g 2201 6 rfl rfl (by decide) m_a0, c_eI (f := 201) m_a28_ rfl, c_eI (f := 203) m_a28_ rfl, c_eI (f := 205) m_a28_ rfl, c_eI (f := 206) m_a28_ rfl, c_eI (f := 207) m_a28_ rfl, true_and, Option.some.injEq, exists_eq_left', c_xm, c_xn, c_xs]
      exact hQ _ _ h
  · have h := h.2 hc
    exact hQ _ _ h
def kb_X11_wordAt_25 (L : c_L) (S : c_S) (xs0 : Int32) (Q : Int32 → c_S → Prop) : Prop := Q xs0 S
set_option maxRecDepth 100000 in
set_option maxHeartbeats 4000000 in
theorem ub_X11_wordAt_25 {L : c_L} {T : q_S} (g : c_G L T) (S : c_S) (xs0 : Int32)  {Q1 : Int32 → c_S → Prop} {Q : Option Value → q_S → Prop} (h : kb_X11_wordAt_25 L  S xs0 Q1) (hQ : ∀ (v : Int32) (K : c_S), Q1 v K → Q (some (.int v)) (c_E L K T)) : wb_X11_wordAt_25  (c_E L S T) xs0 Q := by
  unfold wb_X11_wordAt_25
  unfold kb_X11_wordAt_25 at h
  try simp only [true_and, Option.some.injEq, exists_eq_left', c_xm, c_xn, c_xs]
  exact hQ _ _ h
def km_X11_wordAt (L : c_L) (S : c_S) (a0 : Nat) (x1 : Int32) (x2 : Int32) (Q : Int32 → c_S → Prop) : Prop := km_X6_channelAt L S a0 x1 (fun r7_ S6_ => ((¬ r7_ = none → (∃ a9_ : Nat, r7_ = some a9_ ∧ (c_mk L 1 a9_ ∧ (km_X8_at L S6_ (1000 + a9_) x2 (fun x17_ S16_ => (kb_X11_wordAt_25 L S16_ x17_ Q)))))) ∧ (r7_ = none → (kb_X11_wordAt_25 L S6_ (0 : Int32) Q))))
set_option maxRecDepth 100000 in
set_option maxHeartbeats 4000000 in
theorem um_X11_wordAt {L : c_L} {T : q_S} (g : c_G L T) (S : c_S) (a0 : Nat) (x1 : Int32) (x2 : Int32) (m_a0 : c_mk L 11 a0) {Q1 : Int32 → c_S → Prop} {Q : Option Value → q_S → Prop} (h : km_X11_wordAt L  S a0 x1 x2 Q1) (hQ : ∀ (v : Int32) (K : c_S), Q1 v K → Q (some (.int v)) (c_E L K T)) : wm_X11_wordAt  (c_E L S T) (c_ob L 11 a0) x1 x2 Q := by
  unfold wm_X11_wordAt
  unfold km_X11_wordAt at h
  try simp only [c_gk g m_a0 12 rfl, true_and, Option.some.injEq, exists_eq_left', c_xm, c_xn, c_xs]
  have n2201_a0 := c_gO g 2201 6 rfl (by decide) m_a0
  try simp only [c_gk g m_a0 12 rfl, c_gk g n2201_a0 7 rfl, c_gp g 2201 6 rfl rfl (by decide) m_a0, true_and, Option.some.injEq, exists_eq_left', c_xm, c_xn, c_xs]
  refine um_X6_channelAt g _ a0 _ n2201_a0 h (fun r7_ S6_ h => ?_)
  refine ⟨_, rfl, ?_⟩
  try simp only [c_gk g m_a0 12 rfl, c_gk g n2201_a0 7 rfl, c_gp g 2201 6 rfl rfl (by decide) m_a0, true_and, Option.some.injEq, exists_eq_left', c_xm, c_xn, c_xs]
  refine ⟨fun hc => ?_, fun hc => ?_⟩
  · have h := h.1 hc
    obtain ⟨a9_, e_a9_, m_a9_, h⟩ := h
    refine ⟨a9_, e_a9_, ?_⟩
    try simp only [c_gk g m_a0 12 rfl, c_gk g n2201_a0 7 rfl, c_gk g m_a9_ 2 rfl, c_gp g 2201 6 rfl rfl (by decide) m_a0, true_and, Option.some.injEq, exists_eq_left', c_xm, c_xn, c_xs]
    have n204_a9_ := c_gQ g m_a9_
    try simp only [c_gk g m_a0 12 rfl, c_gk g n2201_a0 7 rfl, c_gk g m_a9_ 2 rfl, c_gk g n204_a9_ 9 rfl, c_gp g 2201 6 rfl rfl (by decide) m_a0, c_gq g m_a9_, true_and, Option.some.injEq, exists_eq_left', c_xm, c_xn, c_xs]
    refine um_X8_at g _ (1000 + a9_) _ n204_a9_ h (fun x17_ S16_ h => ?_)
    refine ⟨_, rfl, ?_⟩
    try simp only [c_gk g m_a0 12 rfl, c_gk g n2201_a0 7 rfl, c_gk g m_a9_ 2 rfl, c_gk g n204_a9_ 9 rfl, c_gp g 2201 6 rfl rfl (by decide) m_a0, c_gq g m_a9_, true_and, Option.some.injEq, exists_eq_left', c_xm, c_xn, c_xs]
    exact ub_X11_wordAt_25 g _ _  h hQ
  · have h := h.2 hc
    exact ub_X11_wordAt_25 g _ _  h hQ
def km_X11_trace (L : c_L) (S : c_S) (a0 : Nat) (x1 : Int32) (x2 : Int32) (Q : Int32 → c_S → Prop) : Prop := km_X2_shown L S a0 x1 x2 (fun x10_ S9_ => (Q x10_ S9_))
set_option maxRecDepth 100000 in
set_option maxHeartbeats 4000000 in
theorem um_X11_trace {L : c_L} {T : q_S} (g : c_G L T) (S : c_S) (a0 : Nat) (x1 : Int32) (x2 : Int32) (m_a0 : c_mk L 11 a0) {Q1 : Int32 → c_S → Prop} {Q : Option Value → q_S → Prop} (h : km_X11_trace L  S a0 x1 x2 Q1) (hQ : ∀ (v : Int32) (K : c_S), Q1 v K → Q (some (.int v)) (c_E L K T)) : wm_X11_trace  (c_E L S T) (c_ob L 11 a0) x1 x2 Q := by
  unfold wm_X11_trace
  unfold km_X11_trace at h
  try simp only [c_gk g m_a0 12 rfl, true_and, Option.some.injEq, exists_eq_left', c_xm, c_xn, c_xs]
  have n2201_a0 := c_gO g 2201 6 rfl (by decide) m_a0
  try simp only [c_gk g m_a0 12 rfl, c_gk g n2201_a0 7 rfl, c_gp g 2201 6 rfl rfl (by decide) m_a0, true_and, Option.some.injEq, exists_eq_left', c_xm, c_xn, c_xs]
  have n1210_n2201_a0 := c_gO g 1210 2 rfl (by decide) n2201_a0
  try simp only [c_gk g m_a0 12 rfl, c_gk g n2201_a0 7 rfl, c_gk g n1210_n2201_a0 3 rfl, c_gp g 2201 6 rfl rfl (by decide) m_a0, c_gp g 1210 2 rfl rfl (by decide) n2201_a0, true_and, Option.some.injEq, exists_eq_left', c_xm, c_xn, c_xs]
  refine um_X2_shown g _ a0 _ _ n1210_n2201_a0 h (fun x10_ S9_ h => ?_)
  refine ⟨_, rfl, ?_⟩
  try simp only [c_gk g m_a0 12 rfl, c_gk g n2201_a0 7 rfl, c_gk g n1210_n2201_a0 3 rfl, c_gp g 2201 6 rfl rfl (by decide) m_a0, c_gp g 1210 2 rfl rfl (by decide) n2201_a0, true_and, Option.some.injEq, exists_eq_left', c_xm, c_xn, c_xs]
  exact hQ _ _ h
def km_X11_error (L : c_L) (S : c_S) (a0 : Nat) (x1 : Int32) (x2 : Int32) (Q : Int32 → c_S → Prop) : Prop := km_X2_noted L S a0 x1 x2 (fun x10_ S9_ => (Q x10_ S9_))
set_option maxRecDepth 100000 in
set_option maxHeartbeats 4000000 in
theorem um_X11_error {L : c_L} {T : q_S} (g : c_G L T) (S : c_S) (a0 : Nat) (x1 : Int32) (x2 : Int32) (m_a0 : c_mk L 11 a0) {Q1 : Int32 → c_S → Prop} {Q : Option Value → q_S → Prop} (h : km_X11_error L  S a0 x1 x2 Q1) (hQ : ∀ (v : Int32) (K : c_S), Q1 v K → Q (some (.int v)) (c_E L K T)) : wm_X11_error  (c_E L S T) (c_ob L 11 a0) x1 x2 Q := by
  unfold wm_X11_error
  unfold km_X11_error at h
  try simp only [c_gk g m_a0 12 rfl, true_and, Option.some.injEq, exists_eq_left', c_xm, c_xn, c_xs]
  have n2201_a0 := c_gO g 2201 6 rfl (by decide) m_a0
  try simp only [c_gk g m_a0 12 rfl, c_gk g n2201_a0 7 rfl, c_gp g 2201 6 rfl rfl (by decide) m_a0, true_and, Option.some.injEq, exists_eq_left', c_xm, c_xn, c_xs]
  have n1210_n2201_a0 := c_gO g 1210 2 rfl (by decide) n2201_a0
  try simp only [c_gk g m_a0 12 rfl, c_gk g n2201_a0 7 rfl, c_gk g n1210_n2201_a0 3 rfl, c_gp g 2201 6 rfl rfl (by decide) m_a0, c_gp g 1210 2 rfl rfl (by decide) n2201_a0, true_and, Option.some.injEq, exists_eq_left', c_xm, c_xn, c_xs]
  refine um_X2_noted g _ a0 _ _ n1210_n2201_a0 h (fun x10_ S9_ h => ?_)
  refine ⟨_, rfl, ?_⟩
  try simp only [c_gk g m_a0 12 rfl, c_gk g n2201_a0 7 rfl, c_gk g n1210_n2201_a0 3 rfl, c_gp g 2201 6 rfl rfl (by decide) m_a0, c_gp g 1210 2 rfl rfl (by decide) n2201_a0, true_and, Option.some.injEq, exists_eq_left', c_xm, c_xn, c_xs]
  exact hQ _ _ h
def kb_X11_about_104 (L : c_L) (S : c_S) (xs0 : Int32) (Q : Int32 → c_S → Prop) : Prop := Q xs0 S
set_option maxRecDepth 100000 in
set_option maxHeartbeats 4000000 in
theorem ub_X11_about_104 {L : c_L} {T : q_S} (g : c_G L T) (S : c_S) (xs0 : Int32)  {Q1 : Int32 → c_S → Prop} {Q : Option Value → q_S → Prop} (h : kb_X11_about_104 L  S xs0 Q1) (hQ : ∀ (v : Int32) (K : c_S), Q1 v K → Q (some (.int v)) (c_E L K T)) : wb_X11_about_104  (c_E L S T) xs0 Q := by
  unfold wb_X11_about_104
  unfold kb_X11_about_104 at h
  try simp only [true_and, Option.some.injEq, exists_eq_left', c_xm, c_xn, c_xs]
  exact hQ _ _ h
def km_X11_about (L : c_L) (S : c_S) (a0 : Nat) (x1 : Int32) (Q : Int32 → c_S → Prop) : Prop := (x1.toInt < 0 ∨ 9 < x1.toInt → (Q (-1 : Int32) S)) ∧ (x1 = (0 : Int32) → (Q (c_I S 1211 a0) S)) ∧ (x1 = (1 : Int32) → (Q (c_I S 403 a0) S)) ∧ (x1 = (2 : Int32) → (Q (c_I S 1212 a0) S)) ∧ (x1 = (3 : Int32) → (((c_I S 1214 a0) = 0 → (kb_X11_about_104 L S (-1 : Int32) Q)) ∧ (¬ (c_I S 1214 a0) = 0 → (km_X6_partitionNow L S a0 (fun x23_ S22_ => (kb_X11_about_104 L S22_ x23_ Q)))))) ∧ (x1 = (4 : Int32) → (Q (c_I S 402 a0) S)) ∧ (x1 = (5 : Int32) → (Q (c_I S 1201 a0) S)) ∧ (x1 = (6 : Int32) → (Q (c_I S 1203 a0) S)) ∧ (x1 = (7 : Int32) → (Q (c_I S 1209 a0) S)) ∧ (x1 = (8 : Int32) → (Q (c_I S 1205 a0) S)) ∧ (x1 = (9 : Int32) → (Q (c_I S 1206 a0) S))
set_option maxRecDepth 100000 in
set_option maxHeartbeats 4000000 in
theorem um_X11_about {L : c_L} {T : q_S} (g : c_G L T) (S : c_S) (a0 : Nat) (x1 : Int32) (m_a0 : c_mk L 11 a0) {Q1 : Int32 → c_S → Prop} {Q : Option Value → q_S → Prop} (h : km_X11_about L  S a0 x1 Q1) (hQ : ∀ (v : Int32) (K : c_S), Q1 v K → Q (some (.int v)) (c_E L K T)) : wm_X11_about  (c_E L S T) (c_ob L 11 a0) x1 Q := by
  unfold wm_X11_about
  unfold km_X11_about at h
  try simp only [c_gk g m_a0 12 rfl, true_and, Option.some.injEq, exists_eq_left', c_xm, c_xn, c_xs]
  refine ⟨fun hc => ?_, fun hc => ?_, fun hc => ?_, fun hc => ?_, fun hc => ?_, fun hc => ?_, fun hc => ?_, fun hc => ?_, fun hc => ?_, fun hc => ?_, fun hc => ?_⟩
  · have h := h.1 hc
    exact hQ _ _ h
  · have h := h.2.1 hc
    have n2201_a0 := c_gO g 2201 6 rfl (by decide) m_a0
    try simp only [c_gk g m_a0 12 rfl, c_gk g n2201_a0 7 rfl, c_gp g 2201 6 rfl rfl (by decide) m_a0, c_eI (f := 1201) n2201_a0 rfl, c_eI (f := 1203) n2201_a0 rfl, c_eI (f := 1205) n2201_a0 rfl, c_eI (f := 1206) n2201_a0 rfl, c_eI (f := 1209) n2201_a0 rfl, c_eI (f := 1211) n2201_a0 rfl, c_eI (f := 1212) n2201_a0 rfl, c_eI (f := 1214) n2201_a0 rfl, true_and, Option.some.injEq, exists_eq_left', c_xm, c_xn, c_xs]
    exact hQ _ _ h
  · have h := h.2.2.1 hc
    have n2201_a0 := c_gO g 2201 6 rfl (by decide) m_a0
    try simp only [c_gk g m_a0 12 rfl, c_gk g n2201_a0 7 rfl, c_gp g 2201 6 rfl rfl (by decide) m_a0, c_eI (f := 1201) n2201_a0 rfl, c_eI (f := 1203) n2201_a0 rfl, c_eI (f := 1205) n2201_a0 rfl, c_eI (f := 1206) n2201_a0 rfl, c_eI (f := 1209) n2201_a0 rfl, c_eI (f := 1211) n2201_a0 rfl, c_eI (f := 1212) n2201_a0 rfl, c_eI (f := 1214) n2201_a0 rfl, true_and, Option.some.injEq, exists_eq_left', c_xm, c_xn, c_xs]
    have n1210_n2201_a0 := c_gO g 1210 2 rfl (by decide) n2201_a0
    try simp only [c_gk g m_a0 12 rfl, c_gk g n2201_a0 7 rfl, c_gk g n1210_n2201_a0 3 rfl, c_gp g 2201 6 rfl rfl (by decide) m_a0, c_gp g 1210 2 rfl rfl (by decide) n2201_a0, c_eI (f := 1201) n2201_a0 rfl, c_eI (f := 1203) n2201_a0 rfl, c_eI (f := 1205) n2201_a0 rfl, c_eI (f := 1206) n2201_a0 rfl, c_eI (f := 1209) n2201_a0 rfl, c_eI (f := 1211) n2201_a0 rfl, c_eI (f := 1212) n2201_a0 rfl, c_eI (f := 1214) n2201_a0 rfl, c_eI (f := 402) n1210_n2201_a0 rfl, c_eI (f := 403) n1210_n2201_a0 rfl, true_and, Option.some.injEq, exists_eq_left', c_xm, c_xn, c_xs]
    exact hQ _ _ h
  · have h := h.2.2.2.1 hc
    have n2201_a0 := c_gO g 2201 6 rfl (by decide) m_a0
    try simp only [c_gk g m_a0 12 rfl, c_gk g n2201_a0 7 rfl, c_gp g 2201 6 rfl rfl (by decide) m_a0, c_eI (f := 1201) n2201_a0 rfl, c_eI (f := 1203) n2201_a0 rfl, c_eI (f := 1205) n2201_a0 rfl, c_eI (f := 1206) n2201_a0 rfl, c_eI (f := 1209) n2201_a0 rfl, c_eI (f := 1211) n2201_a0 rfl, c_eI (f := 1212) n2201_a0 rfl, c_eI (f := 1214) n2201_a0 rfl, true_and, Option.some.injEq, exists_eq_left', c_xm, c_xn, c_xs]
    exact hQ _ _ h
  · have h := h.2.2.2.2.1 hc
    have n2201_a0 := c_gO g 2201 6 rfl (by decide) m_a0
    try simp only [c_gk g m_a0 12 rfl, c_gk g n2201_a0 7 rfl, c_gp g 2201 6 rfl rfl (by decide) m_a0, c_eI (f := 1201) n2201_a0 rfl, c_eI (f := 1203) n2201_a0 rfl, c_eI (f := 1205) n2201_a0 rfl, c_eI (f := 1206) n2201_a0 rfl, c_eI (f := 1209) n2201_a0 rfl, c_eI (f := 1211) n2201_a0 rfl, c_eI (f := 1212) n2201_a0 rfl, c_eI (f := 1214) n2201_a0 rfl, true_and, Option.some.injEq, exists_eq_left', c_xm, c_xn, c_xs]
    refine ⟨fun hc => ?_, fun hc => ?_⟩
    · have h := h.1 hc
      exact ub_X11_about_104 g _ _  h hQ
    · have h := h.2 hc
      refine um_X6_partitionNow g _ a0 n2201_a0 h (fun x23_ S22_ h => ?_)
      refine ⟨_, rfl, ?_⟩
      try simp only [c_gk g m_a0 12 rfl, c_gk g n2201_a0 7 rfl, c_gp g 2201 6 rfl rfl (by decide) m_a0, c_eI (f := 1201) n2201_a0 rfl, c_eI (f := 1203) n2201_a0 rfl, c_eI (f := 1205) n2201_a0 rfl, c_eI (f := 1206) n2201_a0 rfl, c_eI (f := 1209) n2201_a0 rfl, c_eI (f := 1211) n2201_a0 rfl, c_eI (f := 1212) n2201_a0 rfl, c_eI (f := 1214) n2201_a0 rfl, true_and, Option.some.injEq, exists_eq_left', c_xm, c_xn, c_xs]
      exact ub_X11_about_104 g _ _  h hQ
  · have h := h.2.2.2.2.2.1 hc
    have n2201_a0 := c_gO g 2201 6 rfl (by decide) m_a0
    try simp only [c_gk g m_a0 12 rfl, c_gk g n2201_a0 7 rfl, c_gp g 2201 6 rfl rfl (by decide) m_a0, c_eI (f := 1201) n2201_a0 rfl, c_eI (f := 1203) n2201_a0 rfl, c_eI (f := 1205) n2201_a0 rfl, c_eI (f := 1206) n2201_a0 rfl, c_eI (f := 1209) n2201_a0 rfl, c_eI (f := 1211) n2201_a0 rfl, c_eI (f := 1212) n2201_a0 rfl, c_eI (f := 1214) n2201_a0 rfl, true_and, Option.some.injEq, exists_eq_left', c_xm, c_xn, c_xs]
    have n1210_n2201_a0 := c_gO g 1210 2 rfl (by decide) n2201_a0
    try simp only [c_gk g m_a0 12 rfl, c_gk g n2201_a0 7 rfl, c_gk g n1210_n2201_a0 3 rfl, c_gp g 2201 6 rfl rfl (by decide) m_a0, c_gp g 1210 2 rfl rfl (by decide) n2201_a0, c_eI (f := 1201) n2201_a0 rfl, c_eI (f := 1203) n2201_a0 rfl, c_eI (f := 1205) n2201_a0 rfl, c_eI (f := 1206) n2201_a0 rfl, c_eI (f := 1209) n2201_a0 rfl, c_eI (f := 1211) n2201_a0 rfl, c_eI (f := 1212) n2201_a0 rfl, c_eI (f := 1214) n2201_a0 rfl, c_eI (f := 402) n1210_n2201_a0 rfl, c_eI (f := 403) n1210_n2201_a0 rfl, true_and, Option.some.injEq, exists_eq_left', c_xm, c_xn, c_xs]
    exact hQ _ _ h
  · have h := h.2.2.2.2.2.2.1 hc
    have n2201_a0 := c_gO g 2201 6 rfl (by decide) m_a0
    try simp only [c_gk g m_a0 12 rfl, c_gk g n2201_a0 7 rfl, c_gp g 2201 6 rfl rfl (by decide) m_a0, c_eI (f := 1201) n2201_a0 rfl, c_eI (f := 1203) n2201_a0 rfl, c_eI (f := 1205) n2201_a0 rfl, c_eI (f := 1206) n2201_a0 rfl, c_eI (f := 1209) n2201_a0 rfl, c_eI (f := 1211) n2201_a0 rfl, c_eI (f := 1212) n2201_a0 rfl, c_eI (f := 1214) n2201_a0 rfl, true_and, Option.some.injEq, exists_eq_left', c_xm, c_xn, c_xs]
    exact hQ _ _ h
  · have h := h.2.2.2.2.2.2.2.1 hc
    have n2201_a0 := c_gO g 2201 6 rfl (by decide) m_a0
    try simp only [c_gk g m_a0 12 rfl, c_gk g n2201_a0 7 rfl, c_gp g 2201 6 rfl rfl (by decide) m_a0, c_eI (f := 1201) n2201_a0 rfl, c_eI (f := 1203) n2201_a0 rfl, c_eI (f := 1205) n2201_a0 rfl, c_eI (f := 1206) n2201_a0 rfl, c_eI (f := 1209) n2201_a0 rfl, c_eI (f := 1211) n2201_a0 rfl, c_eI (f := 1212) n2201_a0 rfl, c_eI (f := 1214) n2201_a0 rfl, true_and, Option.some.injEq, exists_eq_left', c_xm, c_xn, c_xs]
    exact hQ _ _ h
  · have h := h.2.2.2.2.2.2.2.2.1 hc
    have n2201_a0 := c_gO g 2201 6 rfl (by decide) m_a0
    try simp only [c_gk g m_a0 12 rfl, c_gk g n2201_a0 7 rfl, c_gp g 2201 6 rfl rfl (by decide) m_a0, c_eI (f := 1201) n2201_a0 rfl, c_eI (f := 1203) n2201_a0 rfl, c_eI (f := 1205) n2201_a0 rfl, c_eI (f := 1206) n2201_a0 rfl, c_eI (f := 1209) n2201_a0 rfl, c_eI (f := 1211) n2201_a0 rfl, c_eI (f := 1212) n2201_a0 rfl, c_eI (f := 1214) n2201_a0 rfl, true_and, Option.some.injEq, exists_eq_left', c_xm, c_xn, c_xs]
    exact hQ _ _ h
  · have h := h.2.2.2.2.2.2.2.2.2.1 hc
    have n2201_a0 := c_gO g 2201 6 rfl (by decide) m_a0
    try simp only [c_gk g m_a0 12 rfl, c_gk g n2201_a0 7 rfl, c_gp g 2201 6 rfl rfl (by decide) m_a0, c_eI (f := 1201) n2201_a0 rfl, c_eI (f := 1203) n2201_a0 rfl, c_eI (f := 1205) n2201_a0 rfl, c_eI (f := 1206) n2201_a0 rfl, c_eI (f := 1209) n2201_a0 rfl, c_eI (f := 1211) n2201_a0 rfl, c_eI (f := 1212) n2201_a0 rfl, c_eI (f := 1214) n2201_a0 rfl, true_and, Option.some.injEq, exists_eq_left', c_xm, c_xn, c_xs]
    exact hQ _ _ h
  · have h := h.2.2.2.2.2.2.2.2.2.2 hc
    have n2201_a0 := c_gO g 2201 6 rfl (by decide) m_a0
    try simp only [c_gk g m_a0 12 rfl, c_gk g n2201_a0 7 rfl, c_gp g 2201 6 rfl rfl (by decide) m_a0, c_eI (f := 1201) n2201_a0 rfl, c_eI (f := 1203) n2201_a0 rfl, c_eI (f := 1205) n2201_a0 rfl, c_eI (f := 1206) n2201_a0 rfl, c_eI (f := 1209) n2201_a0 rfl, c_eI (f := 1211) n2201_a0 rfl, c_eI (f := 1212) n2201_a0 rfl, c_eI (f := 1214) n2201_a0 rfl, true_and, Option.some.injEq, exists_eq_left', c_xm, c_xn, c_xs]
    exact hQ _ _ h
