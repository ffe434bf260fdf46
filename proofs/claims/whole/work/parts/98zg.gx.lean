/-! guest, where it throws -/
section PGX'
variable {A' : v_A} {X' : p_X} {I' : p_I}
theorem m_guestX (h' : v_V A' I' X') (a' b' : Int32) (hn' : t_inr a' (t_ng A'.1) = false ∨ t_inr b' 6 = false) : F_X11_guest 36 a' b' (I', X') = none ∧ T_X11_guest 36 a' b' (I', X') = some () := by
  have hB' := h'.1
  have hc' := s_hasGuest (X' := X') hB' h'.2.2.2.1.2.1 a'
  unfold F_X11_guest T_X11_guest
  cases hga' : t_inr a' (t_ng A'.1)
  · constructor
    · simp (disch := omega) only [↓ce_36 hB', rf_36 hB', ↓ce_39 hB', rf_39 hB', ↓nn_38, ↓nn_40, ↓nn_41, ↓nn_42, ↓nn_43, ↓nn_44, ↓nn_45, ↓nn_50, ↓nn_52, ↓nn_53, ↓nn_54, ↓nn_56, ↓nn_58, ↓nn_64, ↓nn_67, ↓nn_68, ↓nn_84, p_bs, p_rq0, p_rq1, p_rz0, p_rz1, p_us, p_un, p_uj, ↓reduceIte, hc', hga', t_b0]
    · simp (disch := omega) only [↓ce_36 hB', rf_36 hB', ↓ce_39 hB', rf_39 hB', ↓nn_38, ↓nn_40, ↓nn_41, ↓nn_42, ↓nn_43, ↓nn_44, ↓nn_45, ↓nn_50, ↓nn_52, ↓nn_53, ↓nn_54, ↓nn_56, ↓nn_58, ↓nn_64, ↓nn_67, ↓nn_68, ↓nn_84, p_bs, p_rq0, p_rq1, p_rz0, p_rz1, p_us, p_un, p_uj, ↓reduceIte, hc', hga', t_b0]
  · have hb' : t_inr b' 6 = false := hn'.elim (fun e' => by rw [hga'] at e'; cases e') id
    have n0' : (b' = 0) = False := eq_false (fun e' => by rw [e'] at hb'; revert hb'; decide)
    have n1' : (b' = 1) = False := eq_false (fun e' => by rw [e'] at hb'; revert hb'; decide)
    have n2' : (b' = 2) = False := eq_false (fun e' => by rw [e'] at hb'; revert hb'; decide)
    have n3' : (b' = 3) = False := eq_false (fun e' => by rw [e'] at hb'; revert hb'; decide)
    have n4' : (b' = 4) = False := eq_false (fun e' => by rw [e'] at hb'; revert hb'; decide)
    have n5' : (b' = 5) = False := eq_false (fun e' => by rw [e'] at hb'; revert hb'; decide)
    constructor
    · simp (disch := omega) only [↓ce_36 hB', rf_36 hB', ↓ce_39 hB', rf_39 hB', ↓nn_38, ↓nn_40, ↓nn_41, ↓nn_42, ↓nn_43, ↓nn_44, ↓nn_45, ↓nn_50, ↓nn_52, ↓nn_53, ↓nn_54, ↓nn_56, ↓nn_58, ↓nn_64, ↓nn_67, ↓nn_68, ↓nn_84, p_bs, p_rq0, p_rq1, p_rz0, p_rz1, p_us, p_un, p_uj, ↓reduceIte, hc', hga', t_b0, Bool.true_eq_false, n0', n1', n2', n3', n4', n5']
    · simp (disch := omega) only [↓ce_36 hB', rf_36 hB', ↓ce_39 hB', rf_39 hB', ↓nn_38, ↓nn_40, ↓nn_41, ↓nn_42, ↓nn_43, ↓nn_44, ↓nn_45, ↓nn_50, ↓nn_52, ↓nn_53, ↓nn_54, ↓nn_56, ↓nn_58, ↓nn_64, ↓nn_67, ↓nn_68, ↓nn_84, p_bs, p_rq0, p_rq1, p_rz0, p_rz1, p_us, p_un, p_uj, ↓reduceIte, hc', hga', t_b0, Bool.true_eq_false, n0', n1', n2', n3', n4', n5']
end PGX'
