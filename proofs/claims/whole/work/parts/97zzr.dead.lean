/-! Reading: the reference when something is wrong already, or when the word at hand is none. -/
def r_DE (R : r_S) : Prop := 0 < (r_I R 2411).toInt
def r_PE (R : r_S) : Prop := r_I R 2411 = 0 ∧ r_I R 2406 = 5
/-- what becomes of it -/
def r_bad (R : r_S) : r_S := rs_I (rs_I R 2411 2) 2412 (r_I R 2407)
theorem de_n0 {R : r_S} (h : r_DE R) : ¬ r_I R 2411 = 0 := fun z => by
  unfold r_DE at h
  rw [z] at h
  exact absurd h (by decide)
theorem de_nle {R : r_S} (h : r_DE R) : ¬ r_I R 2411 ≤ 0 := fun z => by
  have := i_le0.mp z
  unfold r_DE at h
  omega
theorem pe_le {R : r_S} (h : r_PE R) : r_I R 2411 ≤ 0 := by rw [h.1]; decide
theorem bad_de {R : r_S} : r_DE (r_bad R) := by
  show 0 < (2 : Int32).toInt
  decide
theorem re_fail_d {R : r_S} {x y : Int32} {Q : Option Value → r_S → Prop} (h : r_DE R) (hQ : Q (some (.int 0)) R) : rm_X12_fail R x y Q := nf_ (de_n0 h) hQ
theorem re_failHere_d {R : r_S} {x : Int32} {Q : Option Value → r_S → Prop} (h : r_DE R) (hQ : Q (some (.int 0)) R) : rm_X12_failHere R x Q := by
  by_cases c : r_I R 2406 = 5
  · exact nt_ c (re_fail_d h ⟨_, rfl, nb_0, hQ⟩)
  · exact nf_ c (re_fail_d h ⟨_, rfl, nb_0, hQ⟩)
theorem re_isKey_d {R : r_S} {x : Int32} {Q : Option Value → r_S → Prop} (h : r_DE R) (hQ : Q (some (.int 0)) R) : rm_X12_isKey R x Q := nf_ (de_n0 h) ⟨nb_0, hQ⟩
theorem re_isSign_d {R : r_S} {x : Int32} {Q : Option Value → r_S → Prop} (h : r_DE R) (hQ : Q (some (.int 0)) R) : rm_X12_isSign R x Q := nf_ (de_n0 h) ⟨nb_0, hQ⟩
theorem re_sign_d {R : r_S} {x : Int32} {Q : Option Value → r_S → Prop} (h : r_DE R) (hQ : Q (some (.int 0)) R) : rm_X12_sign R x Q := bf_ (de_nle h) hQ
theorem re_key_d {R : r_S} {x : Int32} {Q : Option Value → r_S → Prop} (h : r_DE R) (hQ : Q (some (.int 0)) R) : rm_X12_key R x Q := bf_ (de_nle h) hQ
theorem re_failHere_p {R : r_S} {x : Int32} {Q : Option Value → r_S → Prop} (h : r_PE R) (hQ : Q (some (.int 0)) (r_bad R)) : rm_X12_failHere R x Q := nt_ h.2 (nt_ h.1 ⟨_, rfl, nb_0, hQ⟩)
theorem re_isKey_p {R : r_S} {x : Int32} {Q : Option Value → r_S → Prop} (h : r_PE R) (hQ : Q (some (.int 0)) R) : rm_X12_isKey R x Q := nt_ h.1 (nf_ (by rw [h.2]; decide) ⟨nb_0, hQ⟩)
theorem re_isSign_p {R : r_S} {x : Int32} {Q : Option Value → r_S → Prop} (h : r_PE R) (hQ : Q (some (.int 0)) R) : rm_X12_isSign R x Q := nt_ h.1 (nf_ (by rw [h.2]; decide) ⟨nb_0, hQ⟩)
theorem re_sign_p {R : r_S} {x : Int32} {Q : Option Value → r_S → Prop} (h : r_PE R) (hQ : Q (some (.int 0)) (r_bad R)) : rm_X12_sign R x Q := bt_ (pe_le h) (re_isSign_p h ⟨_, rfl, nt_ rfl (re_failHere_p h ⟨_, rfl, nb_0, hQ⟩)⟩)
theorem re_key_p {R : r_S} {x : Int32} {Q : Option Value → r_S → Prop} (h : r_PE R) (hQ : Q (some (.int 0)) (r_bad R)) : rm_X12_key R x Q := bt_ (pe_le h) (re_isKey_p h ⟨_, rfl, nt_ rfl (re_failHere_p h ⟨_, rfl, nb_0, hQ⟩)⟩)
theorem re_number_d {R : r_S} {x y z : Int32} {Q : Option Value → r_S → Prop} (h : r_DE R) (hQ : Q (some (.int 0)) R) : rm_X12_number R x y z Q := bf_ (de_nle h) hQ
theorem re_number_p {R : r_S} {x y z : Int32} {Q : Option Value → r_S → Prop} (h : r_PE R) (hQ : Q (some (.int 0)) (r_bad R)) : rm_X12_number R x y z Q := bt_ (pe_le h) (bf_ (by rw [h.2]; decide) (re_failHere_p h ⟨_, rfl, hQ⟩))
theorem re_perhaps_d {R : r_S} {x : Int32} {Q : Option Value → r_S → Prop} (h : r_DE R) (hQ : Q (some (.int 0)) R) : rm_X12_perhaps R x Q := re_isKey_d h ⟨_, rfl, nt_ rfl hQ⟩
theorem re_perhaps_p {R : r_S} {x : Int32} {Q : Option Value → r_S → Prop} (h : r_PE R) (hQ : Q (some (.int 0)) R) : rm_X12_perhaps R x Q := re_isKey_p h ⟨_, rfl, nt_ rfl hQ⟩
