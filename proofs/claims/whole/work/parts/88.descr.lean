/-! EXPLORATIONS: the class describes a state -/
section DSC
variable {b E J m k n i : Nat} {μ ν μ' : zM} {c s f : Nat → Int32} {ρ : zE}
noncomputable def trN (μ : zM) (b : Nat) (c : Nat → Int32) : Nat := 16 * cWn c 6 + 8 * b01 (errS c) + b01 (noS c (cN μ b)) + 2 * b01 (noS c (cN μ b) ∧ ¬ findP μ b c) + 4 * b01 (noS c (cN μ b) ∧ ¬ μ (b + 1) 8 = nI 0 ∧ ¬ kepS μ b c)
theorem e_waitM : ∀ Q, wr (M_X5_waitingNodes b [] μ) Q = Q (nI (cWn (μ (b + 8)) 6)) μ := by
  intro Q
  have := e_waiting (b := b) (μ := μ) (c := μ (b + 8)) (Q := Q)
  rw [m_id] at this
  exact this
theorem e_errM : ∀ Q, wr (M_X5_hasError b [] μ) Q = Q (nI (b01 (errS (μ (b + 8))))) μ := by
  intro Q
  have := e_hasErr (b := b) (μ := μ) (c := μ (b + 8))
  rw [m_id] at this
  obtain ⟨r, m, e, t, rfl⟩ := wr_get this
  rw [e, ← tv_b t]
  rfl
theorem e_endM (C : Ctx b m μ ν) (W : Wn μ b (μ (b + 8)) s) : ∀ Q, wr (M_X5_isAtEnd b [] μ) Q = Q (nI (b01 (noS (μ (b + 8)) (cN μ b)))) μ := by
  intro Q
  by_cases h : noS (μ (b + 8)) (cN μ b)
  · rw [e_endT C W h, b01_T h]
  · rw [e_endF C W h, b01_F h]
theorem or_tr : ∀ w x y z u : Nat, w < 7 → x < 2 → y < 2 → z < 2 → u < 2 → nI (w * 2 ^ 4) ||| nI (8 * x) ||| nI y ||| nI (2 * z) ||| nI (4 * u) = nI (16 * w + 8 * x + y + 2 * z + 4 * u) := by
  intro w x y z u hw hx hy hz hu
  rcases (show w = 0 ∨ w = 1 ∨ w = 2 ∨ w = 3 ∨ w = 4 ∨ w = 5 ∨ w = 6 by omega) with rfl | rfl | rfl | rfl | rfl | rfl | rfl <;> rcases (show x = 0 ∨ x = 1 by omega) with rfl | rfl <;> rcases (show y = 0 ∨ y = 1 by omega) with rfl | rfl <;> rcases (show z = 0 ∨ z = 1 by omega) with rfl | rfl <;> rcases (show u = 0 ∨ u = 1 by omega) with rfl | rfl <;> decide
theorem or_0 (x : Int32) : x ||| nI 0 = x := by
  apply Int32.toBitVec_inj.mp
  rw [Int32.toBitVec_or]
  simp [nI]

theorem EqJ.fol (h : EqJ μ μ' b) {c : Nat → Int32} {l : List Nat} {q : Nat} (hq : b = q + 1) : folP μ' q c l ↔ folP μ q c l := by
  subst hq
  unfold folP
  rw [h.sv, h.all, show μ' (q + 1 + 4) = μ (q + 1 + 4) from h 4 (by omega), h.y0]
theorem EqJ.find (h : EqJ μ μ' b) {c : Nat → Int32} {q : Nat} (hq : b = q + 1) : findP μ' q c ↔ findP μ q c := by
  subst hq
  unfold findP
  rw [h.sv, h.all, h.isC, show μ' (q + 1 + 4) = μ (q + 1 + 4) from h 4 (by omega), h.y0, show μ' (q + 1) = μ (q + 1) from h 0 (by omega)]
theorem cOk_cg (h : ∀ k, k < 7 → μ' (b + 1 + k) = μ (b + 1 + k)) : cOk μ' b = cOk μ b := by
  funext t
  unfold cOk cN
  rw [h 4 (by omega)]
theorem cN_cg (h : ∀ k, k < 7 → μ' (b + 1 + k) = μ (b + 1 + k)) : cN μ' b = cN μ b := by
  funext t
  unfold cN
  rw [h 4 (by omega)]
theorem kepS_cg (h : ∀ k, k < 7 → μ' (b + 1 + k) = μ (b + 1 + k)) : kepS μ' b c ↔ kepS μ b c := by
  have J : EqJ μ μ' (b + 1) := h
  unfold kepS
  rw [cOk_cg h]
  exact exists_congr fun l => and_congr_right fun _ => and_congr_right fun _ => and_congr_right fun _ => and_congr_right fun _ => J.fol rfl
theorem findP_cg (h : ∀ k, k < 7 → μ' (b + 1 + k) = μ (b + 1 + k)) : findP μ' b c ↔ findP μ b c := EqJ.find h rfl
theorem mkN_cg (h : ∀ k, k < 7 → μ' (b + 1 + k) = μ (b + 1 + k)) : mkN μ' b c = mkN μ b c := by
  have e0 : μ' (b + 1) = μ (b + 1) := h 0 (by omega)
  unfold mkN
  rw [cN_cg h, e0, b01_cg (and_congr_right fun _ => findP_cg h), b01_cg (and_congr_right fun _ => and_congr_right fun _ => kepS_cg h)]
theorem trN_cg (h : ∀ k, k < 7 → μ' (b + 1 + k) = μ (b + 1 + k)) : trN μ' b c = trN μ b c := by
  have e0 : μ' (b + 1) = μ (b + 1) := h 0 (by omega)
  unfold trN
  rw [cN_cg h, e0, b01_cg (and_congr_right fun _ => not_congr (findP_cg h)), b01_cg (and_congr_right fun _ => and_congr_right fun _ => not_congr (kepS_cg h))]
theorem e_describe (C : Ctx (E + 1) m μ ν) (W : Wn μ (E + 1) (μ (E + 1 + 8)) s) (hi : i < 1500) (hJ : J + 8 < E) : ∃ μ', (∀ Q, wr (M_X1_describe E J [nI i] μ) Q = Q 0 μ') ∧ μ' (E + 15) = upd (μ (E + 15)) i (nI (trN μ (E + 1) (μ (E + 1 + 8)))) ∧ μ' E = upd (μ E) 12 (zmax (μ E 12) (nI (cWn (μ (E + 1 + 8)) 6))) ∧ ∀ a, a ≠ E → a ≠ E + 15 → (a < J + 2 ∨ J + 8 < a) → μ' a = μ a := by
  by_cases hr : errS (μ (E + 1 + 8))
  · by_cases hE : noS (μ (E + 1 + 8)) (cN μ (E + 1))
    · obtain ⟨μ1, E1, F1⟩ := e_agrS (J := J) C (by omega)
      have e8 : μ1 (E + 1 + 8) = μ (E + 1 + 8) := F1 _ (by omega)
      by_cases hm : μ (E + 1 + 1) 8 = nI 0
      · have hm0 : μ (E + 1 + 1) 8 = 0 := hm
        by_cases hf : findP μ (E + 1) (μ (E + 1 + 8))
        · have tr : trN μ (E + 1) (μ (E + 1 + 8)) = 16 * cWn (μ (E + 1 + 8)) 6 + 8 * 1 + 1 + 2 * 0 + 4 * 0 := by
            unfold trN
            rw [b01_T hr, b01_T hE, b01_F (P := noS (μ (E + 1 + 8)) (cN μ (E + 1)) ∧ ¬ findP μ (E + 1) (μ (E + 1 + 8))) (fun h => h.2 hf), b01_F (P := noS (μ (E + 1 + 8)) (cN μ (E + 1)) ∧ ¬ μ (E + 1 + 1) 8 = nI 0 ∧ ¬ kepS μ (E + 1) (μ (E + 1 + 8))) (fun h => h.2.1 hm)]
          have ot := or_tr (cWn (μ (E + 1 + 8)) 6) 1 1 0 0 (by have := cWn_le (μ (E + 1 + 8)) 6; omega) (by omega) (by omega) (by omega) (by omega)
          rw [← tr] at ot
          simp only [or_0, Nat.mul_zero, Nat.mul_one] at ot
          have key : ∀ Q, wr (M_X1_describe E J [nI i] μ) Q = Q 0 (zsa (zsa μ1 (E + 15) (upd (μ1 (E + 15)) i (nI (trN μ (E + 1) (μ (E + 1 + 8)))))) E (upd (μ1 E) 12 (zmax (μ1 E 12) (nI (cWn (μ (E + 1 + 8)) 6))))) := by
            intro Q
            simp only [M_X1_describe, B_X1_describe]
            simp -implicitDefEqProofs (disch := omega) only [zA0_ap, zA1_ap, zA2_ap, zA3_ap, zA4_ap, zA5_ap, v_fi, v_fz, v_fv, w_k, v_l, v_bin, v_biq, v_ald, v_tb, w_al, w_fd, v_cond, v_call, v_pi, w_an, v_ai, v_aq, v_cmp, v_cm0, w_cb, v_nt, v_and, v_or, w_sk, w_bk, w_cn, w_rv, v_rt, v_sq, v_se, v_ex, v_as, v_az, v_ao, v_pf, v_pz, v_fo, v_if, v_sw, v_lw, v_fl, v_cy, v_cyd, w_lr, wl_some, k_sq0, k_sq1, k_sq2, k_sq3, k_se, k_ex, k_rt, k_l, k_b2, k_b1, k_q2, k_q1, k_ald, k_tb, k_pi, k_condT, k_condF, k_condK, k_call, k_ac, k_ai, k_aq, k_c2, k_c1, k_c0, k_nt, k_andT, k_andF, k_orT, k_orF, k_as2, k_as1, k_az2, k_az1, k_ao2, k_ao1, k_pf, k_pz, k_fo, k_ifT, k_ifF, k_br0, k_br1, k_br2, k_br3, k_s0, k_s1, k_t1, k_s4, k_t4, k_s20, k_t20, zpk_n, zpk_z, zpk_s, k_lw, k_fl, k_cy3, k_cy2, k_cy1, k_cd2, k_cd1, k_w3, k_w20, k_w21, k_w22, k_w23, k_w1T, k_w1F, k_fi, k_fz1, k_fz0, k_fzi, k_fz, k_fv0, k_fv3, k_I, k_B0, k_B1, k_B2, k_B3, k_C, k_E, zenv, zup, ze0, n_add, n_mul, m_st, m_sa, m_ne, m_ss, mm_s, mm_f, mm_ne, mm_ss, mm_sf, Nat.zero_add, u_at, u_ne, if_true, if_false, ite_true, ite_false, reduceIte, and_self, and_true, true_and, or_true, true_or, or_false, false_or, or_self, and_false, false_and, Bool.not_true, Bool.not_false, decide_true, decide_false, ne_eq, n_eqT, n_eqF, n_ltT, n_ltF, n_leT, n_leF, n_z0, n_zF, n_o1, n_oF, n_p0, n_pF, n_lt0, n_ge0, zeq, zne, zlt, zle, zge, zgt, ziadd, zisub, zimul, ziand, zior, zixor, zishl, zishr, ziushr, zidiv, zirem, zmax, zmin, Bool.false_eq_true, not_true_eq_false, not_false_eq_true, Nat.reduceEqDiff, Nat.reduceAdd, Nat.reduceMul, Nat.reduceSub, e_waitM, e_errM, e_endM C W, n_shl, b01_T hr, b01_T hE, E1, b01_T hf, F1 (E + 1 + 1) (by omega), hm0, ot]
          have F : ∀ a, (a < J + 2 ∨ J + 8 < a) → μ1 a = μ a := F1
          refine ⟨_, key, ?_, ?_, fun a h1 h2 h3 => ?_⟩
          · rw [m_ne (by omega), m_sa, F _ (by omega)]
          · rw [m_sa, F _ (by omega)]
          · rw [m_ne h1, m_ne h2, F _ h3]
        · have tr : trN μ (E + 1) (μ (E + 1 + 8)) = 16 * cWn (μ (E + 1 + 8)) 6 + 8 * 1 + 1 + 2 * 1 + 4 * 0 := by
            unfold trN
            rw [b01_T hr, b01_T hE, b01_T (P := noS (μ (E + 1 + 8)) (cN μ (E + 1)) ∧ ¬ findP μ (E + 1) (μ (E + 1 + 8))) ⟨hE, hf⟩, b01_F (P := noS (μ (E + 1 + 8)) (cN μ (E + 1)) ∧ ¬ μ (E + 1 + 1) 8 = nI 0 ∧ ¬ kepS μ (E + 1) (μ (E + 1 + 8))) (fun h => h.2.1 hm)]
          have ot := or_tr (cWn (μ (E + 1 + 8)) 6) 1 1 1 0 (by have := cWn_le (μ (E + 1 + 8)) 6; omega) (by omega) (by omega) (by omega) (by omega)
          rw [← tr] at ot
          simp only [or_0, Nat.mul_zero, Nat.mul_one] at ot
          have key : ∀ Q, wr (M_X1_describe E J [nI i] μ) Q = Q 0 (zsa (zsa μ1 (E + 15) (upd (μ1 (E + 15)) i (nI (trN μ (E + 1) (μ (E + 1 + 8)))))) E (upd (μ1 E) 12 (zmax (μ1 E 12) (nI (cWn (μ (E + 1 + 8)) 6))))) := by
            intro Q
            simp only [M_X1_describe, B_X1_describe]
            simp -implicitDefEqProofs (disch := omega) only [zA0_ap, zA1_ap, zA2_ap, zA3_ap, zA4_ap, zA5_ap, v_fi, v_fz, v_fv, w_k, v_l, v_bin, v_biq, v_ald, v_tb, w_al, w_fd, v_cond, v_call, v_pi, w_an, v_ai, v_aq, v_cmp, v_cm0, w_cb, v_nt, v_and, v_or, w_sk, w_bk, w_cn, w_rv, v_rt, v_sq, v_se, v_ex, v_as, v_az, v_ao, v_pf, v_pz, v_fo, v_if, v_sw, v_lw, v_fl, v_cy, v_cyd, w_lr, wl_some, k_sq0, k_sq1, k_sq2, k_sq3, k_se, k_ex, k_rt, k_l, k_b2, k_b1, k_q2, k_q1, k_ald, k_tb, k_pi, k_condT, k_condF, k_condK, k_call, k_ac, k_ai, k_aq, k_c2, k_c1, k_c0, k_nt, k_andT, k_andF, k_orT, k_orF, k_as2, k_as1, k_az2, k_az1, k_ao2, k_ao1, k_pf, k_pz, k_fo, k_ifT, k_ifF, k_br0, k_br1, k_br2, k_br3, k_s0, k_s1, k_t1, k_s4, k_t4, k_s20, k_t20, zpk_n, zpk_z, zpk_s, k_lw, k_fl, k_cy3, k_cy2, k_cy1, k_cd2, k_cd1, k_w3, k_w20, k_w21, k_w22, k_w23, k_w1T, k_w1F, k_fi, k_fz1, k_fz0, k_fzi, k_fz, k_fv0, k_fv3, k_I, k_B0, k_B1, k_B2, k_B3, k_C, k_E, zenv, zup, ze0, n_add, n_mul, m_st, m_sa, m_ne, m_ss, mm_s, mm_f, mm_ne, mm_ss, mm_sf, Nat.zero_add, u_at, u_ne, if_true, if_false, ite_true, ite_false, reduceIte, and_self, and_true, true_and, or_true, true_or, or_false, false_or, or_self, and_false, false_and, Bool.not_true, Bool.not_false, decide_true, decide_false, ne_eq, n_eqT, n_eqF, n_ltT, n_ltF, n_leT, n_leF, n_z0, n_zF, n_o1, n_oF, n_p0, n_pF, n_lt0, n_ge0, zeq, zne, zlt, zle, zge, zgt, ziadd, zisub, zimul, ziand, zior, zixor, zishl, zishr, ziushr, zidiv, zirem, zmax, zmin, Bool.false_eq_true, not_true_eq_false, not_false_eq_true, Nat.reduceEqDiff, Nat.reduceAdd, Nat.reduceMul, Nat.reduceSub, e_waitM, e_errM, e_endM C W, n_shl, b01_T hr, b01_T hE, E1, b01_F hf, F1 (E + 1 + 1) (by omega), hm0, ot]
          have F : ∀ a, (a < J + 2 ∨ J + 8 < a) → μ1 a = μ a := F1
          refine ⟨_, key, ?_, ?_, fun a h1 h2 h3 => ?_⟩
          · rw [m_ne (by omega), m_sa, F _ (by omega)]
          · rw [m_sa, F _ (by omega)]
          · rw [m_ne h1, m_ne h2, F _ h3]
      · have hm0 : ¬ μ (E + 1 + 1) 8 = 0 := hm
        have C1 : Ctx (E + 1) m μ1 ν := C.cg fun k hk => F1 _ (by omega)
        have W1 : Wn μ1 (E + 1) (μ1 (E + 1 + 8)) s := by rw [e8]; exact W.cg (F1 _ (by omega)) (F1 _ (by omega))
        obtain ⟨μ2, E2, F2⟩ := e_kepS (J := J) C1 W1 (by rw [F1 _ (by omega)]; exact hm) (by omega)
        have ek : kepS μ1 (E + 1) (μ1 (E + 1 + 8)) ↔ kepS μ (E + 1) (μ (E + 1 + 8)) := by rw [e8]; exact kepS_cg (fun k hk => F1 _ (by omega))
        rw [b01_cg ek] at E2
        by_cases hf : findP μ (E + 1) (μ (E + 1 + 8))
        · by_cases hk : kepS μ (E + 1) (μ (E + 1 + 8))
          · have tr : trN μ (E + 1) (μ (E + 1 + 8)) = 16 * cWn (μ (E + 1 + 8)) 6 + 8 * 1 + 1 + 2 * 0 + 4 * 0 := by
              unfold trN
              rw [b01_T hr, b01_T hE, b01_F (P := noS (μ (E + 1 + 8)) (cN μ (E + 1)) ∧ ¬ findP μ (E + 1) (μ (E + 1 + 8))) (fun h => h.2 hf), b01_F (P := noS (μ (E + 1 + 8)) (cN μ (E + 1)) ∧ ¬ μ (E + 1 + 1) 8 = nI 0 ∧ ¬ kepS μ (E + 1) (μ (E + 1 + 8))) (fun h => h.2.2 hk)]
            have ot := or_tr (cWn (μ (E + 1 + 8)) 6) 1 1 0 0 (by have := cWn_le (μ (E + 1 + 8)) 6; omega) (by omega) (by omega) (by omega) (by omega)
            rw [← tr] at ot
            simp only [or_0, Nat.mul_zero, Nat.mul_one] at ot
            have key : ∀ Q, wr (M_X1_describe E J [nI i] μ) Q = Q 0 (zsa (zsa μ2 (E + 15) (upd (μ2 (E + 15)) i (nI (trN μ (E + 1) (μ (E + 1 + 8)))))) E (upd (μ2 E) 12 (zmax (μ2 E 12) (nI (cWn (μ (E + 1 + 8)) 6))))) := by
              intro Q
              simp only [M_X1_describe, B_X1_describe]
              simp -implicitDefEqProofs (disch := omega) only [zA0_ap, zA1_ap, zA2_ap, zA3_ap, zA4_ap, zA5_ap, v_fi, v_fz, v_fv, w_k, v_l, v_bin, v_biq, v_ald, v_tb, w_al, w_fd, v_cond, v_call, v_pi, w_an, v_ai, v_aq, v_cmp, v_cm0, w_cb, v_nt, v_and, v_or, w_sk, w_bk, w_cn, w_rv, v_rt, v_sq, v_se, v_ex, v_as, v_az, v_ao, v_pf, v_pz, v_fo, v_if, v_sw, v_lw, v_fl, v_cy, v_cyd, w_lr, wl_some, k_sq0, k_sq1, k_sq2, k_sq3, k_se, k_ex, k_rt, k_l, k_b2, k_b1, k_q2, k_q1, k_ald, k_tb, k_pi, k_condT, k_condF, k_condK, k_call, k_ac, k_ai, k_aq, k_c2, k_c1, k_c0, k_nt, k_andT, k_andF, k_orT, k_orF, k_as2, k_as1, k_az2, k_az1, k_ao2, k_ao1, k_pf, k_pz, k_fo, k_ifT, k_ifF, k_br0, k_br1, k_br2, k_br3, k_s0, k_s1, k_t1, k_s4, k_t4, k_s20, k_t20, zpk_n, zpk_z, zpk_s, k_lw, k_fl, k_cy3, k_cy2, k_cy1, k_cd2, k_cd1, k_w3, k_w20, k_w21, k_w22, k_w23, k_w1T, k_w1F, k_fi, k_fz1, k_fz0, k_fzi, k_fz, k_fv0, k_fv3, k_I, k_B0, k_B1, k_B2, k_B3, k_C, k_E, zenv, zup, ze0, n_add, n_mul, m_st, m_sa, m_ne, m_ss, mm_s, mm_f, mm_ne, mm_ss, mm_sf, Nat.zero_add, u_at, u_ne, if_true, if_false, ite_true, ite_false, reduceIte, and_self, and_true, true_and, or_true, true_or, or_false, false_or, or_self, and_false, false_and, Bool.not_true, Bool.not_false, decide_true, decide_false, ne_eq, n_eqT, n_eqF, n_ltT, n_ltF, n_leT, n_leF, n_z0, n_zF, n_o1, n_oF, n_p0, n_pF, n_lt0, n_ge0, zeq, zne, zlt, zle, zge, zgt, ziadd, zisub, zimul, ziand, zior, zixor, zishl, zishr, ziushr, zidiv, zirem, zmax, zmin, Bool.false_eq_true, not_true_eq_false, not_false_eq_true, Nat.reduceEqDiff, Nat.reduceAdd, Nat.reduceMul, Nat.reduceSub, e_waitM, e_errM, e_endM C W, n_shl, b01_T hr, b01_T hE, E1, b01_T hf, F1 (E + 1 + 1) (by omega), hm0, E2, b01_T hk, ot]
            have F : ∀ a, (a < J + 2 ∨ J + 8 < a) → μ2 a = μ a := fun a h => (F2 a h).trans (F1 a h)
            refine ⟨_, key, ?_, ?_, fun a h1 h2 h3 => ?_⟩
            · rw [m_ne (by omega), m_sa, F _ (by omega)]
            · rw [m_sa, F _ (by omega)]
            · rw [m_ne h1, m_ne h2, F _ h3]
          · have tr : trN μ (E + 1) (μ (E + 1 + 8)) = 16 * cWn (μ (E + 1 + 8)) 6 + 8 * 1 + 1 + 2 * 0 + 4 * 1 := by
              unfold trN
              rw [b01_T hr, b01_T hE, b01_F (P := noS (μ (E + 1 + 8)) (cN μ (E + 1)) ∧ ¬ findP μ (E + 1) (μ (E + 1 + 8))) (fun h => h.2 hf), b01_T (P := noS (μ (E + 1 + 8)) (cN μ (E + 1)) ∧ ¬ μ (E + 1 + 1) 8 = nI 0 ∧ ¬ kepS μ (E + 1) (μ (E + 1 + 8))) ⟨hE, hm, hk⟩]
            have ot := or_tr (cWn (μ (E + 1 + 8)) 6) 1 1 0 1 (by have := cWn_le (μ (E + 1 + 8)) 6; omega) (by omega) (by omega) (by omega) (by omega)
            rw [← tr] at ot
            simp only [or_0, Nat.mul_zero, Nat.mul_one] at ot
            have key : ∀ Q, wr (M_X1_describe E J [nI i] μ) Q = Q 0 (zsa (zsa μ2 (E + 15) (upd (μ2 (E + 15)) i (nI (trN μ (E + 1) (μ (E + 1 + 8)))))) E (upd (μ2 E) 12 (zmax (μ2 E 12) (nI (cWn (μ (E + 1 + 8)) 6))))) := by
              intro Q
              simp only [M_X1_describe, B_X1_describe]
              simp -implicitDefEqProofs (disch := omega) only [zA0_ap, zA1_ap, zA2_ap, zA3_ap, zA4_ap, zA5_ap, v_fi, v_fz, v_fv, w_k, v_l, v_bin, v_biq, v_ald, v_tb, w_al, w_fd, v_cond, v_call, v_pi, w_an, v_ai, v_aq, v_cmp, v_cm0, w_cb, v_nt, v_and, v_or, w_sk, w_bk, w_cn, w_rv, v_rt, v_sq, v_se, v_ex, v_as, v_az, v_ao, v_pf, v_pz, v_fo, v_if, v_sw, v_lw, v_fl, v_cy, v_cyd, w_lr, wl_some, k_sq0, k_sq1, k_sq2, k_sq3, k_se, k_ex, k_rt, k_l, k_b2, k_b1, k_q2, k_q1, k_ald, k_tb, k_pi, k_condT, k_condF, k_condK, k_call, k_ac, k_ai, k_aq, k_c2, k_c1, k_c0, k_nt, k_andT, k_andF, k_orT, k_orF, k_as2, k_as1, k_az2, k_az1, k_ao2, k_ao1, k_pf, k_pz, k_fo, k_ifT, k_ifF, k_br0, k_br1, k_br2, k_br3, k_s0, k_s1, k_t1, k_s4, k_t4, k_s20, k_t20, zpk_n, zpk_z, zpk_s, k_lw, k_fl, k_cy3, k_cy2, k_cy1, k_cd2, k_cd1, k_w3, k_w20, k_w21, k_w22, k_w23, k_w1T, k_w1F, k_fi, k_fz1, k_fz0, k_fzi, k_fz, k_fv0, k_fv3, k_I, k_B0, k_B1, k_B2, k_B3, k_C, k_E, zenv, zup, ze0, n_add, n_mul, m_st, m_sa, m_ne, m_ss, mm_s, mm_f, mm_ne, mm_ss, mm_sf, Nat.zero_add, u_at, u_ne, if_true, if_false, ite_true, ite_false, reduceIte, and_self, and_true, true_and, or_true, true_or, or_false, false_or, or_self, and_false, false_and, Bool.not_true, Bool.not_false, decide_true, decide_false, ne_eq, n_eqT, n_eqF, n_ltT, n_ltF, n_leT, n_leF, n_z0, n_zF, n_o1, n_oF, n_p0, n_pF, n_lt0, n_ge0, zeq, zne, zlt, zle, zge, zgt, ziadd, zisub, zimul, ziand, zior, zixor, zishl, zishr, ziushr, zidiv, zirem, zmax, zmin, Bool.false_eq_true, not_true_eq_false, not_false_eq_true, Nat.reduceEqDiff, Nat.reduceAdd, Nat.reduceMul, Nat.reduceSub, e_waitM, e_errM, e_endM C W, n_shl, b01_T hr, b01_T hE, E1, b01_T hf, F1 (E + 1 + 1) (by omega), hm0, E2, b01_F hk, ot]
            have F : ∀ a, (a < J + 2 ∨ J + 8 < a) → μ2 a = μ a := fun a h => (F2 a h).trans (F1 a h)
            refine ⟨_, key, ?_, ?_, fun a h1 h2 h3 => ?_⟩
            · rw [m_ne (by omega), m_sa, F _ (by omega)]
            · rw [m_sa, F _ (by omega)]
            · rw [m_ne h1, m_ne h2, F _ h3]
        · by_cases hk : kepS μ (E + 1) (μ (E + 1 + 8))
          · have tr : trN μ (E + 1) (μ (E + 1 + 8)) = 16 * cWn (μ (E + 1 + 8)) 6 + 8 * 1 + 1 + 2 * 1 + 4 * 0 := by
              unfold trN
              rw [b01_T hr, b01_T hE, b01_T (P := noS (μ (E + 1 + 8)) (cN μ (E + 1)) ∧ ¬ findP μ (E + 1) (μ (E + 1 + 8))) ⟨hE, hf⟩, b01_F (P := noS (μ (E + 1 + 8)) (cN μ (E + 1)) ∧ ¬ μ (E + 1 + 1) 8 = nI 0 ∧ ¬ kepS μ (E + 1) (μ (E + 1 + 8))) (fun h => h.2.2 hk)]
            have ot := or_tr (cWn (μ (E + 1 + 8)) 6) 1 1 1 0 (by have := cWn_le (μ (E + 1 + 8)) 6; omega) (by omega) (by omega) (by omega) (by omega)
            rw [← tr] at ot
            simp only [or_0, Nat.mul_zero, Nat.mul_one] at ot
            have key : ∀ Q, wr (M_X1_describe E J [nI i] μ) Q = Q 0 (zsa (zsa μ2 (E + 15) (upd (μ2 (E + 15)) i (nI (trN μ (E + 1) (μ (E + 1 + 8)))))) E (upd (μ2 E) 12 (zmax (μ2 E 12) (nI (cWn (μ (E + 1 + 8)) 6))))) := by
              intro Q
              simp only [M_X1_describe, B_X1_describe]
              simp -implicitDefEqProofs (disch := omega) only [zA0_ap, zA1_ap, zA2_ap, zA3_ap, zA4_ap, zA5_ap, v_fi, v_fz, v_fv, w_k, v_l, v_bin, v_biq, v_ald, v_tb, w_al, w_fd, v_cond, v_call, v_pi, w_an, v_ai, v_aq, v_cmp, v_cm0, w_cb, v_nt, v_and, v_or, w_sk, w_bk, w_cn, w_rv, v_rt, v_sq, v_se, v_ex, v_as, v_az, v_ao, v_pf, v_pz, v_fo, v_if, v_sw, v_lw, v_fl, v_cy, v_cyd, w_lr, wl_some, k_sq0, k_sq1, k_sq2, k_sq3, k_se, k_ex, k_rt, k_l, k_b2, k_b1, k_q2, k_q1, k_ald, k_tb, k_pi, k_condT, k_condF, k_condK, k_call, k_ac, k_ai, k_aq, k_c2, k_c1, k_c0, k_nt, k_andT, k_andF, k_orT, k_orF, k_as2, k_as1, k_az2, k_az1, k_ao2, k_ao1, k_pf, k_pz, k_fo, k_ifT, k_ifF, k_br0, k_br1, k_br2, k_br3, k_s0, k_s1, k_t1, k_s4, k_t4, k_s20, k_t20, zpk_n, zpk_z, zpk_s, k_lw, k_fl, k_cy3, k_cy2, k_cy1, k_cd2, k_cd1, k_w3, k_w20, k_w21, k_w22, k_w23, k_w1T, k_w1F, k_fi, k_fz1, k_fz0, k_fzi, k_fz, k_fv0, k_fv3, k_I, k_B0, k_B1, k_B2, k_B3, k_C, k_E, zenv, zup, ze0, n_add, n_mul, m_st, m_sa, m_ne, m_ss, mm_s, mm_f, mm_ne, mm_ss, mm_sf, Nat.zero_add, u_at, u_ne, if_true, if_false, ite_true, ite_false, reduceIte, and_self, and_true, true_and, or_true, true_or, or_false, false_or, or_self, and_false, false_and, Bool.not_true, Bool.not_false, decide_true, decide_false, ne_eq, n_eqT, n_eqF, n_ltT, n_ltF, n_leT, n_leF, n_z0, n_zF, n_o1, n_oF, n_p0, n_pF, n_lt0, n_ge0, zeq, zne, zlt, zle, zge, zgt, ziadd, zisub, zimul, ziand, zior, zixor, zishl, zishr, ziushr, zidiv, zirem, zmax, zmin, Bool.false_eq_true, not_true_eq_false, not_false_eq_true, Nat.reduceEqDiff, Nat.reduceAdd, Nat.reduceMul, Nat.reduceSub, e_waitM, e_errM, e_endM C W, n_shl, b01_T hr, b01_T hE, E1, b01_F hf, F1 (E + 1 + 1) (by omega), hm0, E2, b01_T hk, ot]
            have F : ∀ a, (a < J + 2 ∨ J + 8 < a) → μ2 a = μ a := fun a h => (F2 a h).trans (F1 a h)
            refine ⟨_, key, ?_, ?_, fun a h1 h2 h3 => ?_⟩
            · rw [m_ne (by omega), m_sa, F _ (by omega)]
            · rw [m_sa, F _ (by omega)]
            · rw [m_ne h1, m_ne h2, F _ h3]
          · have tr : trN μ (E + 1) (μ (E + 1 + 8)) = 16 * cWn (μ (E + 1 + 8)) 6 + 8 * 1 + 1 + 2 * 1 + 4 * 1 := by
              unfold trN
              rw [b01_T hr, b01_T hE, b01_T (P := noS (μ (E + 1 + 8)) (cN μ (E + 1)) ∧ ¬ findP μ (E + 1) (μ (E + 1 + 8))) ⟨hE, hf⟩, b01_T (P := noS (μ (E + 1 + 8)) (cN μ (E + 1)) ∧ ¬ μ (E + 1 + 1) 8 = nI 0 ∧ ¬ kepS μ (E + 1) (μ (E + 1 + 8))) ⟨hE, hm, hk⟩]
            have ot := or_tr (cWn (μ (E + 1 + 8)) 6) 1 1 1 1 (by have := cWn_le (μ (E + 1 + 8)) 6; omega) (by omega) (by omega) (by omega) (by omega)
            rw [← tr] at ot
            simp only [or_0, Nat.mul_zero, Nat.mul_one] at ot
            have key : ∀ Q, wr (M_X1_describe E J [nI i] μ) Q = Q 0 (zsa (zsa μ2 (E + 15) (upd (μ2 (E + 15)) i (nI (trN μ (E + 1) (μ (E + 1 + 8)))))) E (upd (μ2 E) 12 (zmax (μ2 E 12) (nI (cWn (μ (E + 1 + 8)) 6))))) := by
              intro Q
              simp only [M_X1_describe, B_X1_describe]
              simp -implicitDefEqProofs (disch := omega) only [zA0_ap, zA1_ap, zA2_ap, zA3_ap, zA4_ap, zA5_ap, v_fi, v_fz, v_fv, w_k, v_l, v_bin, v_biq, v_ald, v_tb, w_al, w_fd, v_cond, v_call, v_pi, w_an, v_ai, v_aq, v_cmp, v_cm0, w_cb, v_nt, v_and, v_or, w_sk, w_bk, w_cn, w_rv, v_rt, v_sq, v_se, v_ex, v_as, v_az, v_ao, v_pf, v_pz, v_fo, v_if, v_sw, v_lw, v_fl, v_cy, v_cyd, w_lr, wl_some, k_sq0, k_sq1, k_sq2, k_sq3, k_se, k_ex, k_rt, k_l, k_b2, k_b1, k_q2, k_q1, k_ald, k_tb, k_pi, k_condT, k_condF, k_condK, k_call, k_ac, k_ai, k_aq, k_c2, k_c1, k_c0, k_nt, k_andT, k_andF, k_orT, k_orF, k_as2, k_as1, k_az2, k_az1, k_ao2, k_ao1, k_pf, k_pz, k_fo, k_ifT, k_ifF, k_br0, k_br1, k_br2, k_br3, k_s0, k_s1, k_t1, k_s4, k_t4, k_s20, k_t20, zpk_n, zpk_z, zpk_s, k_lw, k_fl, k_cy3, k_cy2, k_cy1, k_cd2, k_cd1, k_w3, k_w20, k_w21, k_w22, k_w23, k_w1T, k_w1F, k_fi, k_fz1, k_fz0, k_fzi, k_fz, k_fv0, k_fv3, k_I, k_B0, k_B1, k_B2, k_B3, k_C, k_E, zenv, zup, ze0, n_add, n_mul, m_st, m_sa, m_ne, m_ss, mm_s, mm_f, mm_ne, mm_ss, mm_sf, Nat.zero_add, u_at, u_ne, if_true, if_false, ite_true, ite_false, reduceIte, and_self, and_true, true_and, or_true, true_or, or_false, false_or, or_self, and_false, false_and, Bool.not_true, Bool.not_false, decide_true, decide_false, ne_eq, n_eqT, n_eqF, n_ltT, n_ltF, n_leT, n_leF, n_z0, n_zF, n_o1, n_oF, n_p0, n_pF, n_lt0, n_ge0, zeq, zne, zlt, zle, zge, zgt, ziadd, zisub, zimul, ziand, zior, zixor, zishl, zishr, ziushr, zidiv, zirem, zmax, zmin, Bool.false_eq_true, not_true_eq_false, not_false_eq_true, Nat.reduceEqDiff, Nat.reduceAdd, Nat.reduceMul, Nat.reduceSub, e_waitM, e_errM, e_endM C W, n_shl, b01_T hr, b01_T hE, E1, b01_F hf, F1 (E + 1 + 1) (by omega), hm0, E2, b01_F hk, ot]
            have F : ∀ a, (a < J + 2 ∨ J + 8 < a) → μ2 a = μ a := fun a h => (F2 a h).trans (F1 a h)
            refine ⟨_, key, ?_, ?_, fun a h1 h2 h3 => ?_⟩
            · rw [m_ne (by omega), m_sa, F _ (by omega)]
            · rw [m_sa, F _ (by omega)]
            · rw [m_ne h1, m_ne h2, F _ h3]
    · have tr : trN μ (E + 1) (μ (E + 1 + 8)) = 16 * cWn (μ (E + 1 + 8)) 6 + 8 * 1 + 0 + 2 * 0 + 4 * 0 := by
        unfold trN
        rw [b01_T hr, b01_F hE, b01_F (P := noS (μ (E + 1 + 8)) (cN μ (E + 1)) ∧ ¬ findP μ (E + 1) (μ (E + 1 + 8))) (fun h => hE h.1), b01_F (P := noS (μ (E + 1 + 8)) (cN μ (E + 1)) ∧ ¬ μ (E + 1 + 1) 8 = nI 0 ∧ ¬ kepS μ (E + 1) (μ (E + 1 + 8))) (fun h => hE h.1)]
      have ot := or_tr (cWn (μ (E + 1 + 8)) 6) 1 0 0 0 (by have := cWn_le (μ (E + 1 + 8)) 6; omega) (by omega) (by omega) (by omega) (by omega)
      rw [← tr] at ot
      simp only [or_0, Nat.mul_zero, Nat.mul_one] at ot
      have key : ∀ Q, wr (M_X1_describe E J [nI i] μ) Q = Q 0 (zsa (zsa μ (E + 15) (upd (μ (E + 15)) i (nI (trN μ (E + 1) (μ (E + 1 + 8)))))) E (upd (μ E) 12 (zmax (μ E 12) (nI (cWn (μ (E + 1 + 8)) 6))))) := by
        intro Q
        simp only [M_X1_describe, B_X1_describe]
        simp -implicitDefEqProofs (disch := omega) only [zA0_ap, zA1_ap, zA2_ap, zA3_ap, zA4_ap, zA5_ap, v_fi, v_fz, v_fv, w_k, v_l, v_bin, v_biq, v_ald, v_tb, w_al, w_fd, v_cond, v_call, v_pi, w_an, v_ai, v_aq, v_cmp, v_cm0, w_cb, v_nt, v_and, v_or, w_sk, w_bk, w_cn, w_rv, v_rt, v_sq, v_se, v_ex, v_as, v_az, v_ao, v_pf, v_pz, v_fo, v_if, v_sw, v_lw, v_fl, v_cy, v_cyd, w_lr, wl_some, k_sq0, k_sq1, k_sq2, k_sq3, k_se, k_ex, k_rt, k_l, k_b2, k_b1, k_q2, k_q1, k_ald, k_tb, k_pi, k_condT, k_condF, k_condK, k_call, k_ac, k_ai, k_aq, k_c2, k_c1, k_c0, k_nt, k_andT, k_andF, k_orT, k_orF, k_as2, k_as1, k_az2, k_az1, k_ao2, k_ao1, k_pf, k_pz, k_fo, k_ifT, k_ifF, k_br0, k_br1, k_br2, k_br3, k_s0, k_s1, k_t1, k_s4, k_t4, k_s20, k_t20, zpk_n, zpk_z, zpk_s, k_lw, k_fl, k_cy3, k_cy2, k_cy1, k_cd2, k_cd1, k_w3, k_w20, k_w21, k_w22, k_w23, k_w1T, k_w1F, k_fi, k_fz1, k_fz0, k_fzi, k_fz, k_fv0, k_fv3, k_I, k_B0, k_B1, k_B2, k_B3, k_C, k_E, zenv, zup, ze0, n_add, n_mul, m_st, m_sa, m_ne, m_ss, mm_s, mm_f, mm_ne, mm_ss, mm_sf, Nat.zero_add, u_at, u_ne, if_true, if_false, ite_true, ite_false, reduceIte, and_self, and_true, true_and, or_true, true_or, or_false, false_or, or_self, and_false, false_and, Bool.not_true, Bool.not_false, decide_true, decide_false, ne_eq, n_eqT, n_eqF, n_ltT, n_ltF, n_leT, n_leF, n_z0, n_zF, n_o1, n_oF, n_p0, n_pF, n_lt0, n_ge0, zeq, zne, zlt, zle, zge, zgt, ziadd, zisub, zimul, ziand, zior, zixor, zishl, zishr, ziushr, zidiv, zirem, zmax, zmin, Bool.false_eq_true, not_true_eq_false, not_false_eq_true, Nat.reduceEqDiff, Nat.reduceAdd, Nat.reduceMul, Nat.reduceSub, e_waitM, e_errM, e_endM C W, n_shl, b01_T hr, b01_F hE, ot]
      have F : ∀ a, (a < J + 2 ∨ J + 8 < a) → μ a = μ a := fun a _ => rfl
      refine ⟨_, key, ?_, ?_, fun a h1 h2 h3 => ?_⟩
      · rw [m_ne (by omega), m_sa, F _ (by omega)]
      · rw [m_sa, F _ (by omega)]
      · rw [m_ne h1, m_ne h2, F _ h3]
  · by_cases hE : noS (μ (E + 1 + 8)) (cN μ (E + 1))
    · obtain ⟨μ1, E1, F1⟩ := e_agrS (J := J) C (by omega)
      have e8 : μ1 (E + 1 + 8) = μ (E + 1 + 8) := F1 _ (by omega)
      by_cases hm : μ (E + 1 + 1) 8 = nI 0
      · have hm0 : μ (E + 1 + 1) 8 = 0 := hm
        by_cases hf : findP μ (E + 1) (μ (E + 1 + 8))
        · have tr : trN μ (E + 1) (μ (E + 1 + 8)) = 16 * cWn (μ (E + 1 + 8)) 6 + 8 * 0 + 1 + 2 * 0 + 4 * 0 := by
            unfold trN
            rw [b01_F hr, b01_T hE, b01_F (P := noS (μ (E + 1 + 8)) (cN μ (E + 1)) ∧ ¬ findP μ (E + 1) (μ (E + 1 + 8))) (fun h => h.2 hf), b01_F (P := noS (μ (E + 1 + 8)) (cN μ (E + 1)) ∧ ¬ μ (E + 1 + 1) 8 = nI 0 ∧ ¬ kepS μ (E + 1) (μ (E + 1 + 8))) (fun h => h.2.1 hm)]
          have ot := or_tr (cWn (μ (E + 1 + 8)) 6) 0 1 0 0 (by have := cWn_le (μ (E + 1 + 8)) 6; omega) (by omega) (by omega) (by omega) (by omega)
          rw [← tr] at ot
          simp only [or_0, Nat.mul_zero, Nat.mul_one] at ot
          have key : ∀ Q, wr (M_X1_describe E J [nI i] μ) Q = Q 0 (zsa (zsa μ1 (E + 15) (upd (μ1 (E + 15)) i (nI (trN μ (E + 1) (μ (E + 1 + 8)))))) E (upd (μ1 E) 12 (zmax (μ1 E 12) (nI (cWn (μ (E + 1 + 8)) 6))))) := by
            intro Q
            simp only [M_X1_describe, B_X1_describe]
            simp -implicitDefEqProofs (disch := omega) only [zA0_ap, zA1_ap, zA2_ap, zA3_ap, zA4_ap, zA5_ap, v_fi, v_fz, v_fv, w_k, v_l, v_bin, v_biq, v_ald, v_tb, w_al, w_fd, v_cond, v_call, v_pi, w_an, v_ai, v_aq, v_cmp, v_cm0, w_cb, v_nt, v_and, v_or, w_sk, w_bk, w_cn, w_rv, v_rt, v_sq, v_se, v_ex, v_as, v_az, v_ao, v_pf, v_pz, v_fo, v_if, v_sw, v_lw, v_fl, v_cy, v_cyd, w_lr, wl_some, k_sq0, k_sq1, k_sq2, k_sq3, k_se, k_ex, k_rt, k_l, k_b2, k_b1, k_q2, k_q1, k_ald, k_tb, k_pi, k_condT, k_condF, k_condK, k_call, k_ac, k_ai, k_aq, k_c2, k_c1, k_c0, k_nt, k_andT, k_andF, k_orT, k_orF, k_as2, k_as1, k_az2, k_az1, k_ao2, k_ao1, k_pf, k_pz, k_fo, k_ifT, k_ifF, k_br0, k_br1, k_br2, k_br3, k_s0, k_s1, k_t1, k_s4, k_t4, k_s20, k_t20, zpk_n, zpk_z, zpk_s, k_lw, k_fl, k_cy3, k_cy2, k_cy1, k_cd2, k_cd1, k_w3, k_w20, k_w21, k_w22, k_w23, k_w1T, k_w1F, k_fi, k_fz1, k_fz0, k_fzi, k_fz, k_fv0, k_fv3, k_I, k_B0, k_B1, k_B2, k_B3, k_C, k_E, zenv, zup, ze0, n_add, n_mul, m_st, m_sa, m_ne, m_ss, mm_s, mm_f, mm_ne, mm_ss, mm_sf, Nat.zero_add, u_at, u_ne, if_true, if_false, ite_true, ite_false, reduceIte, and_self, and_true, true_and, or_true, true_or, or_false, false_or, or_self, and_false, false_and, Bool.not_true, Bool.not_false, decide_true, decide_false, ne_eq, n_eqT, n_eqF, n_ltT, n_ltF, n_leT, n_leF, n_z0, n_zF, n_o1, n_oF, n_p0, n_pF, n_lt0, n_ge0, zeq, zne, zlt, zle, zge, zgt, ziadd, zisub, zimul, ziand, zior, zixor, zishl, zishr, ziushr, zidiv, zirem, zmax, zmin, Bool.false_eq_true, not_true_eq_false, not_false_eq_true, Nat.reduceEqDiff, Nat.reduceAdd, Nat.reduceMul, Nat.reduceSub, e_waitM, e_errM, e_endM C W, n_shl, b01_F hr, b01_T hE, E1, b01_T hf, F1 (E + 1 + 1) (by omega), hm0, ot]
          have F : ∀ a, (a < J + 2 ∨ J + 8 < a) → μ1 a = μ a := F1
          refine ⟨_, key, ?_, ?_, fun a h1 h2 h3 => ?_⟩
          · rw [m_ne (by omega), m_sa, F _ (by omega)]
          · rw [m_sa, F _ (by omega)]
          · rw [m_ne h1, m_ne h2, F _ h3]
        · have tr : trN μ (E + 1) (μ (E + 1 + 8)) = 16 * cWn (μ (E + 1 + 8)) 6 + 8 * 0 + 1 + 2 * 1 + 4 * 0 := by
            unfold trN
            rw [b01_F hr, b01_T hE, b01_T (P := noS (μ (E + 1 + 8)) (cN μ (E + 1)) ∧ ¬ findP μ (E + 1) (μ (E + 1 + 8))) ⟨hE, hf⟩, b01_F (P := noS (μ (E + 1 + 8)) (cN μ (E + 1)) ∧ ¬ μ (E + 1 + 1) 8 = nI 0 ∧ ¬ kepS μ (E + 1) (μ (E + 1 + 8))) (fun h => h.2.1 hm)]
          have ot := or_tr (cWn (μ (E + 1 + 8)) 6) 0 1 1 0 (by have := cWn_le (μ (E + 1 + 8)) 6; omega) (by omega) (by omega) (by omega) (by omega)
          rw [← tr] at ot
          simp only [or_0, Nat.mul_zero, Nat.mul_one] at ot
          have key : ∀ Q, wr (M_X1_describe E J [nI i] μ) Q = Q 0 (zsa (zsa μ1 (E + 15) (upd (μ1 (E + 15)) i (nI (trN μ (E + 1) (μ (E + 1 + 8)))))) E (upd (μ1 E) 12 (zmax (μ1 E 12) (nI (cWn (μ (E + 1 + 8)) 6))))) := by
            intro Q
            simp only [M_X1_describe, B_X1_describe]
            simp -implicitDefEqProofs (disch := omega) only [zA0_ap, zA1_ap, zA2_ap, zA3_ap, zA4_ap, zA5_ap, v_fi, v_fz, v_fv, w_k, v_l, v_bin, v_biq, v_ald, v_tb, w_al, w_fd, v_cond, v_call, v_pi, w_an, v_ai, v_aq, v_cmp, v_cm0, w_cb, v_nt, v_and, v_or, w_sk, w_bk, w_cn, w_rv, v_rt, v_sq, v_se, v_ex, v_as, v_az, v_ao, v_pf, v_pz, v_fo, v_if, v_sw, v_lw, v_fl, v_cy, v_cyd, w_lr, wl_some, k_sq0, k_sq1, k_sq2, k_sq3, k_se, k_ex, k_rt, k_l, k_b2, k_b1, k_q2, k_q1, k_ald, k_tb, k_pi, k_condT, k_condF, k_condK, k_call, k_ac, k_ai, k_aq, k_c2, k_c1, k_c0, k_nt, k_andT, k_andF, k_orT, k_orF, k_as2, k_as1, k_az2, k_az1, k_ao2, k_ao1, k_pf, k_pz, k_fo, k_ifT, k_ifF, k_br0, k_br1, k_br2, k_br3, k_s0, k_s1, k_t1, k_s4, k_t4, k_s20, k_t20, zpk_n, zpk_z, zpk_s, k_lw, k_fl, k_cy3, k_cy2, k_cy1, k_cd2, k_cd1, k_w3, k_w20, k_w21, k_w22, k_w23, k_w1T, k_w1F, k_fi, k_fz1, k_fz0, k_fzi, k_fz, k_fv0, k_fv3, k_I, k_B0, k_B1, k_B2, k_B3, k_C, k_E, zenv, zup, ze0, n_add, n_mul, m_st, m_sa, m_ne, m_ss, mm_s, mm_f, mm_ne, mm_ss, mm_sf, Nat.zero_add, u_at, u_ne, if_true, if_false, ite_true, ite_false, reduceIte, and_self, and_true, true_and, or_true, true_or, or_false, false_or, or_self, and_false, false_and, Bool.not_true, Bool.not_false, decide_true, decide_false, ne_eq, n_eqT, n_eqF, n_ltT, n_ltF, n_leT, n_leF, n_z0, n_zF, n_o1, n_oF, n_p0, n_pF, n_lt0, n_ge0, zeq, zne, zlt, zle, zge, zgt, ziadd, zisub, zimul, ziand, zior, zixor, zishl, zishr, ziushr, zidiv, zirem, zmax, zmin, Bool.false_eq_true, not_true_eq_false, not_false_eq_true, Nat.reduceEqDiff, Nat.reduceAdd, Nat.reduceMul, Nat.reduceSub, e_waitM, e_errM, e_endM C W, n_shl, b01_F hr, b01_T hE, E1, b01_F hf, F1 (E + 1 + 1) (by omega), hm0, ot]
          have F : ∀ a, (a < J + 2 ∨ J + 8 < a) → μ1 a = μ a := F1
          refine ⟨_, key, ?_, ?_, fun a h1 h2 h3 => ?_⟩
          · rw [m_ne (by omega), m_sa, F _ (by omega)]
          · rw [m_sa, F _ (by omega)]
          · rw [m_ne h1, m_ne h2, F _ h3]
      · have hm0 : ¬ μ (E + 1 + 1) 8 = 0 := hm
        have C1 : Ctx (E + 1) m μ1 ν := C.cg fun k hk => F1 _ (by omega)
        have W1 : Wn μ1 (E + 1) (μ1 (E + 1 + 8)) s := by rw [e8]; exact W.cg (F1 _ (by omega)) (F1 _ (by omega))
        obtain ⟨μ2, E2, F2⟩ := e_kepS (J := J) C1 W1 (by rw [F1 _ (by omega)]; exact hm) (by omega)
        have ek : kepS μ1 (E + 1) (μ1 (E + 1 + 8)) ↔ kepS μ (E + 1) (μ (E + 1 + 8)) := by rw [e8]; exact kepS_cg (fun k hk => F1 _ (by omega))
        rw [b01_cg ek] at E2
        by_cases hf : findP μ (E + 1) (μ (E + 1 + 8))
        · by_cases hk : kepS μ (E + 1) (μ (E + 1 + 8))
          · have tr : trN μ (E + 1) (μ (E + 1 + 8)) = 16 * cWn (μ (E + 1 + 8)) 6 + 8 * 0 + 1 + 2 * 0 + 4 * 0 := by
              unfold trN
              rw [b01_F hr, b01_T hE, b01_F (P := noS (μ (E + 1 + 8)) (cN μ (E + 1)) ∧ ¬ findP μ (E + 1) (μ (E + 1 + 8))) (fun h => h.2 hf), b01_F (P := noS (μ (E + 1 + 8)) (cN μ (E + 1)) ∧ ¬ μ (E + 1 + 1) 8 = nI 0 ∧ ¬ kepS μ (E + 1) (μ (E + 1 + 8))) (fun h => h.2.2 hk)]
            have ot := or_tr (cWn (μ (E + 1 + 8)) 6) 0 1 0 0 (by have := cWn_le (μ (E + 1 + 8)) 6; omega) (by omega) (by omega) (by omega) (by omega)
            rw [← tr] at ot
            simp only [or_0, Nat.mul_zero, Nat.mul_one] at ot
            have key : ∀ Q, wr (M_X1_describe E J [nI i] μ) Q = Q 0 (zsa (zsa μ2 (E + 15) (upd (μ2 (E + 15)) i (nI (trN μ (E + 1) (μ (E + 1 + 8)))))) E (upd (μ2 E) 12 (zmax (μ2 E 12) (nI (cWn (μ (E + 1 + 8)) 6))))) := by
              intro Q
              simp only [M_X1_describe, B_X1_describe]
              simp -implicitDefEqProofs (disch := omega) only [zA0_ap, zA1_ap, zA2_ap, zA3_ap, zA4_ap, zA5_ap, v_fi, v_fz, v_fv, w_k, v_l, v_bin, v_biq, v_ald, v_tb, w_al, w_fd, v_cond, v_call, v_pi, w_an, v_ai, v_aq, v_cmp, v_cm0, w_cb, v_nt, v_and, v_or, w_sk, w_bk, w_cn, w_rv, v_rt, v_sq, v_se, v_ex, v_as, v_az, v_ao, v_pf, v_pz, v_fo, v_if, v_sw, v_lw, v_fl, v_cy, v_cyd, w_lr, wl_some, k_sq0, k_sq1, k_sq2, k_sq3, k_se, k_ex, k_rt, k_l, k_b2, k_b1, k_q2, k_q1, k_ald, k_tb, k_pi, k_condT, k_condF, k_condK, k_call, k_ac, k_ai, k_aq, k_c2, k_c1, k_c0, k_nt, k_andT, k_andF, k_orT, k_orF, k_as2, k_as1, k_az2, k_az1, k_ao2, k_ao1, k_pf, k_pz, k_fo, k_ifT, k_ifF, k_br0, k_br1, k_br2, k_br3, k_s0, k_s1, k_t1, k_s4, k_t4, k_s20, k_t20, zpk_n, zpk_z, zpk_s, k_lw, k_fl, k_cy3, k_cy2, k_cy1, k_cd2, k_cd1, k_w3, k_w20, k_w21, k_w22, k_w23, k_w1T, k_w1F, k_fi, k_fz1, k_fz0, k_fzi, k_fz, k_fv0, k_fv3, k_I, k_B0, k_B1, k_B2, k_B3, k_C, k_E, zenv, zup, ze0, n_add, n_mul, m_st, m_sa, m_ne, m_ss, mm_s, mm_f, mm_ne, mm_ss, mm_sf, Nat.zero_add, u_at, u_ne, if_true, if_false, ite_true, ite_false, reduceIte, and_self, and_true, true_and, or_true, true_or, or_false, false_or, or_self, and_false, false_and, Bool.not_true, Bool.not_false, decide_true, decide_false, ne_eq, n_eqT, n_eqF, n_ltT, n_ltF, n_leT, n_leF, n_z0, n_zF, n_o1, n_oF, n_p0, n_pF, n_lt0, n_ge0, zeq, zne, zlt, zle, zge, zgt, ziadd, zisub, zimul, ziand, zior, zixor, zishl, zishr, ziushr, zidiv, zirem, zmax, zmin, Bool.false_eq_true, not_true_eq_false, not_false_eq_true, Nat.reduceEqDiff, Nat.reduceAdd, Nat.reduceMul, Nat.reduceSub, e_waitM, e_errM, e_endM C W, n_shl, b01_F hr, b01_T hE, E1, b01_T hf, F1 (E + 1 + 1) (by omega), hm0, E2, b01_T hk, ot]
            have F : ∀ a, (a < J + 2 ∨ J + 8 < a) → μ2 a = μ a := fun a h => (F2 a h).trans (F1 a h)
            refine ⟨_, key, ?_, ?_, fun a h1 h2 h3 => ?_⟩
            · rw [m_ne (by omega), m_sa, F _ (by omega)]
            · rw [m_sa, F _ (by omega)]
            · rw [m_ne h1, m_ne h2, F _ h3]
          · have tr : trN μ (E + 1) (μ (E + 1 + 8)) = 16 * cWn (μ (E + 1 + 8)) 6 + 8 * 0 + 1 + 2 * 0 + 4 * 1 := by
              unfold trN
              rw [b01_F hr, b01_T hE, b01_F (P := noS (μ (E + 1 + 8)) (cN μ (E + 1)) ∧ ¬ findP μ (E + 1) (μ (E + 1 + 8))) (fun h => h.2 hf), b01_T (P := noS (μ (E + 1 + 8)) (cN μ (E + 1)) ∧ ¬ μ (E + 1 + 1) 8 = nI 0 ∧ ¬ kepS μ (E + 1) (μ (E + 1 + 8))) ⟨hE, hm, hk⟩]
            have ot := or_tr (cWn (μ (E + 1 + 8)) 6) 0 1 0 1 (by have := cWn_le (μ (E + 1 + 8)) 6; omega) (by omega) (by omega) (by omega) (by omega)
            rw [← tr] at ot
            simp only [or_0, Nat.mul_zero, Nat.mul_one] at ot
            have key : ∀ Q, wr (M_X1_describe E J [nI i] μ) Q = Q 0 (zsa (zsa μ2 (E + 15) (upd (μ2 (E + 15)) i (nI (trN μ (E + 1) (μ (E + 1 + 8)))))) E (upd (μ2 E) 12 (zmax (μ2 E 12) (nI (cWn (μ (E + 1 + 8)) 6))))) := by
              intro Q
              simp only [M_X1_describe, B_X1_describe]
              simp -implicitDefEqProofs (disch := omega) only [zA0_ap, zA1_ap, zA2_ap, zA3_ap, zA4_ap, zA5_ap, v_fi, v_fz, v_fv, w_k, v_l, v_bin, v_biq, v_ald, v_tb, w_al, w_fd, v_cond, v_call, v_pi, w_an, v_ai, v_aq, v_cmp, v_cm0, w_cb, v_nt, v_and, v_or, w_sk, w_bk, w_cn, w_rv, v_rt, v_sq, v_se, v_ex, v_as, v_az, v_ao, v_pf, v_pz, v_fo, v_if, v_sw, v_lw, v_fl, v_cy, v_cyd, w_lr, wl_some, k_sq0, k_sq1, k_sq2, k_sq3, k_se, k_ex, k_rt, k_l, k_b2, k_b1, k_q2, k_q1, k_ald, k_tb, k_pi, k_condT, k_condF, k_condK, k_call, k_ac, k_ai, k_aq, k_c2, k_c1, k_c0, k_nt, k_andT, k_andF, k_orT, k_orF, k_as2, k_as1, k_az2, k_az1, k_ao2, k_ao1, k_pf, k_pz, k_fo, k_ifT, k_ifF, k_br0, k_br1, k_br2, k_br3, k_s0, k_s1, k_t1, k_s4, k_t4, k_s20, k_t20, zpk_n, zpk_z, zpk_s, k_lw, k_fl, k_cy3, k_cy2, k_cy1, k_cd2, k_cd1, k_w3, k_w20, k_w21, k_w22, k_w23, k_w1T, k_w1F, k_fi, k_fz1, k_fz0, k_fzi, k_fz, k_fv0, k_fv3, k_I, k_B0, k_B1, k_B2, k_B3, k_C, k_E, zenv, zup, ze0, n_add, n_mul, m_st, m_sa, m_ne, m_ss, mm_s, mm_f, mm_ne, mm_ss, mm_sf, Nat.zero_add, u_at, u_ne, if_true, if_false, ite_true, ite_false, reduceIte, and_self, and_true, true_and, or_true, true_or, or_false, false_or, or_self, and_false, false_and, Bool.not_true, Bool.not_false, decide_true, decide_false, ne_eq, n_eqT, n_eqF, n_ltT, n_ltF, n_leT, n_leF, n_z0, n_zF, n_o1, n_oF, n_p0, n_pF, n_lt0, n_ge0, zeq, zne, zlt, zle, zge, zgt, ziadd, zisub, zimul, ziand, zior, zixor, zishl, zishr, ziushr, zidiv, zirem, zmax, zmin, Bool.false_eq_true, not_true_eq_false, not_false_eq_true, Nat.reduceEqDiff, Nat.reduceAdd, Nat.reduceMul, Nat.reduceSub, e_waitM, e_errM, e_endM C W, n_shl, b01_F hr, b01_T hE, E1, b01_T hf, F1 (E + 1 + 1) (by omega), hm0, E2, b01_F hk, ot]
            have F : ∀ a, (a < J + 2 ∨ J + 8 < a) → μ2 a = μ a := fun a h => (F2 a h).trans (F1 a h)
            refine ⟨_, key, ?_, ?_, fun a h1 h2 h3 => ?_⟩
            · rw [m_ne (by omega), m_sa, F _ (by omega)]
            · rw [m_sa, F _ (by omega)]
            · rw [m_ne h1, m_ne h2, F _ h3]
        · by_cases hk : kepS μ (E + 1) (μ (E + 1 + 8))
          · have tr : trN μ (E + 1) (μ (E + 1 + 8)) = 16 * cWn (μ (E + 1 + 8)) 6 + 8 * 0 + 1 + 2 * 1 + 4 * 0 := by
              unfold trN
              rw [b01_F hr, b01_T hE, b01_T (P := noS (μ (E + 1 + 8)) (cN μ (E + 1)) ∧ ¬ findP μ (E + 1) (μ (E + 1 + 8))) ⟨hE, hf⟩, b01_F (P := noS (μ (E + 1 + 8)) (cN μ (E + 1)) ∧ ¬ μ (E + 1 + 1) 8 = nI 0 ∧ ¬ kepS μ (E + 1) (μ (E + 1 + 8))) (fun h => h.2.2 hk)]
            have ot := or_tr (cWn (μ (E + 1 + 8)) 6) 0 1 1 0 (by have := cWn_le (μ (E + 1 + 8)) 6; omega) (by omega) (by omega) (by omega) (by omega)
            rw [← tr] at ot
            simp only [or_0, Nat.mul_zero, Nat.mul_one] at ot
            have key : ∀ Q, wr (M_X1_describe E J [nI i] μ) Q = Q 0 (zsa (zsa μ2 (E + 15) (upd (μ2 (E + 15)) i (nI (trN μ (E + 1) (μ (E + 1 + 8)))))) E (upd (μ2 E) 12 (zmax (μ2 E 12) (nI (cWn (μ (E + 1 + 8)) 6))))) := by
              intro Q
              simp only [M_X1_describe, B_X1_describe]
              simp -implicitDefEqProofs (disch := omega) only [zA0_ap, zA1_ap, zA2_ap, zA3_ap, zA4_ap, zA5_ap, v_fi, v_fz, v_fv, w_k, v_l, v_bin, v_biq, v_ald, v_tb, w_al, w_fd, v_cond, v_call, v_pi, w_an, v_ai, v_aq, v_cmp, v_cm0, w_cb, v_nt, v_and, v_or, w_sk, w_bk, w_cn, w_rv, v_rt, v_sq, v_se, v_ex, v_as, v_az, v_ao, v_pf, v_pz, v_fo, v_if, v_sw, v_lw, v_fl, v_cy, v_cyd, w_lr, wl_some, k_sq0, k_sq1, k_sq2, k_sq3, k_se, k_ex, k_rt, k_l, k_b2, k_b1, k_q2, k_q1, k_ald, k_tb, k_pi, k_condT, k_condF, k_condK, k_call, k_ac, k_ai, k_aq, k_c2, k_c1, k_c0, k_nt, k_andT, k_andF, k_orT, k_orF, k_as2, k_as1, k_az2, k_az1, k_ao2, k_ao1, k_pf, k_pz, k_fo, k_ifT, k_ifF, k_br0, k_br1, k_br2, k_br3, k_s0, k_s1, k_t1, k_s4, k_t4, k_s20, k_t20, zpk_n, zpk_z, zpk_s, k_lw, k_fl, k_cy3, k_cy2, k_cy1, k_cd2, k_cd1, k_w3, k_w20, k_w21, k_w22, k_w23, k_w1T, k_w1F, k_fi, k_fz1, k_fz0, k_fzi, k_fz, k_fv0, k_fv3, k_I, k_B0, k_B1, k_B2, k_B3, k_C, k_E, zenv, zup, ze0, n_add, n_mul, m_st, m_sa, m_ne, m_ss, mm_s, mm_f, mm_ne, mm_ss, mm_sf, Nat.zero_add, u_at, u_ne, if_true, if_false, ite_true, ite_false, reduceIte, and_self, and_true, true_and, or_true, true_or, or_false, false_or, or_self, and_false, false_and, Bool.not_true, Bool.not_false, decide_true, decide_false, ne_eq, n_eqT, n_eqF, n_ltT, n_ltF, n_leT, n_leF, n_z0, n_zF, n_o1, n_oF, n_p0, n_pF, n_lt0, n_ge0, zeq, zne, zlt, zle, zge, zgt, ziadd, zisub, zimul, ziand, zior, zixor, zishl, zishr, ziushr, zidiv, zirem, zmax, zmin, Bool.false_eq_true, not_true_eq_false, not_false_eq_true, Nat.reduceEqDiff, Nat.reduceAdd, Nat.reduceMul, Nat.reduceSub, e_waitM, e_errM, e_endM C W, n_shl, b01_F hr, b01_T hE, E1, b01_F hf, F1 (E + 1 + 1) (by omega), hm0, E2, b01_T hk, ot]
            have F : ∀ a, (a < J + 2 ∨ J + 8 < a) → μ2 a = μ a := fun a h => (F2 a h).trans (F1 a h)
            refine ⟨_, key, ?_, ?_, fun a h1 h2 h3 => ?_⟩
            · rw [m_ne (by omega), m_sa, F _ (by omega)]
            · rw [m_sa, F _ (by omega)]
            · rw [m_ne h1, m_ne h2, F _ h3]
          · have tr : trN μ (E + 1) (μ (E + 1 + 8)) = 16 * cWn (μ (E + 1 + 8)) 6 + 8 * 0 + 1 + 2 * 1 + 4 * 1 := by
              unfold trN
              rw [b01_F hr, b01_T hE, b01_T (P := noS (μ (E + 1 + 8)) (cN μ (E + 1)) ∧ ¬ findP μ (E + 1) (μ (E + 1 + 8))) ⟨hE, hf⟩, b01_T (P := noS (μ (E + 1 + 8)) (cN μ (E + 1)) ∧ ¬ μ (E + 1 + 1) 8 = nI 0 ∧ ¬ kepS μ (E + 1) (μ (E + 1 + 8))) ⟨hE, hm, hk⟩]
            have ot := or_tr (cWn (μ (E + 1 + 8)) 6) 0 1 1 1 (by have := cWn_le (μ (E + 1 + 8)) 6; omega) (by omega) (by omega) (by omega) (by omega)
            rw [← tr] at ot
            simp only [or_0, Nat.mul_zero, Nat.mul_one] at ot
            have key : ∀ Q, wr (M_X1_describe E J [nI i] μ) Q = Q 0 (zsa (zsa μ2 (E + 15) (upd (μ2 (E + 15)) i (nI (trN μ (E + 1) (μ (E + 1 + 8)))))) E (upd (μ2 E) 12 (zmax (μ2 E 12) (nI (cWn (μ (E + 1 + 8)) 6))))) := by
              intro Q
              simp only [M_X1_describe, B_X1_describe]
              simp -implicitDefEqProofs (disch := omega) only [zA0_ap, zA1_ap, zA2_ap, zA3_ap, zA4_ap, zA5_ap, v_fi, v_fz, v_fv, w_k, v_l, v_bin, v_biq, v_ald, v_tb, w_al, w_fd, v_cond, v_call, v_pi, w_an, v_ai, v_aq, v_cmp, v_cm0, w_cb, v_nt, v_and, v_or, w_sk, w_bk, w_cn, w_rv, v_rt, v_sq, v_se, v_ex, v_as, v_az, v_ao, v_pf, v_pz, v_fo, v_if, v_sw, v_lw, v_fl, v_cy, v_cyd, w_lr, wl_some, k_sq0, k_sq1, k_sq2, k_sq3, k_se, k_ex, k_rt, k_l, k_b2, k_b1, k_q2, k_q1, k_ald, k_tb, k_pi, k_condT, k_condF, k_condK, k_call, k_ac, k_ai, k_aq, k_c2, k_c1, k_c0, k_nt, k_andT, k_andF, k_orT, k_orF, k_as2, k_as1, k_az2, k_az1, k_ao2, k_ao1, k_pf, k_pz, k_fo, k_ifT, k_ifF, k_br0, k_br1, k_br2, k_br3, k_s0, k_s1, k_t1, k_s4, k_t4, k_s20, k_t20, zpk_n, zpk_z, zpk_s, k_lw, k_fl, k_cy3, k_cy2, k_cy1, k_cd2, k_cd1, k_w3, k_w20, k_w21, k_w22, k_w23, k_w1T, k_w1F, k_fi, k_fz1, k_fz0, k_fzi, k_fz, k_fv0, k_fv3, k_I, k_B0, k_B1, k_B2, k_B3, k_C, k_E, zenv, zup, ze0, n_add, n_mul, m_st, m_sa, m_ne, m_ss, mm_s, mm_f, mm_ne, mm_ss, mm_sf, Nat.zero_add, u_at, u_ne, if_true, if_false, ite_true, ite_false, reduceIte, and_self, and_true, true_and, or_true, true_or, or_false, false_or, or_self, and_false, false_and, Bool.not_true, Bool.not_false, decide_true, decide_false, ne_eq, n_eqT, n_eqF, n_ltT, n_ltF, n_leT, n_leF, n_z0, n_zF, n_o1, n_oF, n_p0, n_pF, n_lt0, n_ge0, zeq, zne, zlt, zle, zge, zgt, ziadd, zisub, zimul, ziand, zior, zixor, zishl, zishr, ziushr, zidiv, zirem, zmax, zmin, Bool.false_eq_true, not_true_eq_false, not_false_eq_true, Nat.reduceEqDiff, Nat.reduceAdd, Nat.reduceMul, Nat.reduceSub, e_waitM, e_errM, e_endM C W, n_shl, b01_F hr, b01_T hE, E1, b01_F hf, F1 (E + 1 + 1) (by omega), hm0, E2, b01_F hk, ot]
            have F : ∀ a, (a < J + 2 ∨ J + 8 < a) → μ2 a = μ a := fun a h => (F2 a h).trans (F1 a h)
            refine ⟨_, key, ?_, ?_, fun a h1 h2 h3 => ?_⟩
            · rw [m_ne (by omega), m_sa, F _ (by omega)]
            · rw [m_sa, F _ (by omega)]
            · rw [m_ne h1, m_ne h2, F _ h3]
    · have tr : trN μ (E + 1) (μ (E + 1 + 8)) = 16 * cWn (μ (E + 1 + 8)) 6 + 8 * 0 + 0 + 2 * 0 + 4 * 0 := by
        unfold trN
        rw [b01_F hr, b01_F hE, b01_F (P := noS (μ (E + 1 + 8)) (cN μ (E + 1)) ∧ ¬ findP μ (E + 1) (μ (E + 1 + 8))) (fun h => hE h.1), b01_F (P := noS (μ (E + 1 + 8)) (cN μ (E + 1)) ∧ ¬ μ (E + 1 + 1) 8 = nI 0 ∧ ¬ kepS μ (E + 1) (μ (E + 1 + 8))) (fun h => hE h.1)]
      have ot := or_tr (cWn (μ (E + 1 + 8)) 6) 0 0 0 0 (by have := cWn_le (μ (E + 1 + 8)) 6; omega) (by omega) (by omega) (by omega) (by omega)
      rw [← tr] at ot
      simp only [or_0, Nat.mul_zero, Nat.mul_one] at ot
      have key : ∀ Q, wr (M_X1_describe E J [nI i] μ) Q = Q 0 (zsa (zsa μ (E + 15) (upd (μ (E + 15)) i (nI (trN μ (E + 1) (μ (E + 1 + 8)))))) E (upd (μ E) 12 (zmax (μ E 12) (nI (cWn (μ (E + 1 + 8)) 6))))) := by
        intro Q
        simp only [M_X1_describe, B_X1_describe]
        simp -implicitDefEqProofs (disch := omega) only [zA0_ap, zA1_ap, zA2_ap, zA3_ap, zA4_ap, zA5_ap, v_fi, v_fz, v_fv, w_k, v_l, v_bin, v_biq, v_ald, v_tb, w_al, w_fd, v_cond, v_call, v_pi, w_an, v_ai, v_aq, v_cmp, v_cm0, w_cb, v_nt, v_and, v_or, w_sk, w_bk, w_cn, w_rv, v_rt, v_sq, v_se, v_ex, v_as, v_az, v_ao, v_pf, v_pz, v_fo, v_if, v_sw, v_lw, v_fl, v_cy, v_cyd, w_lr, wl_some, k_sq0, k_sq1, k_sq2, k_sq3, k_se, k_ex, k_rt, k_l, k_b2, k_b1, k_q2, k_q1, k_ald, k_tb, k_pi, k_condT, k_condF, k_condK, k_call, k_ac, k_ai, k_aq, k_c2, k_c1, k_c0, k_nt, k_andT, k_andF, k_orT, k_orF, k_as2, k_as1, k_az2, k_az1, k_ao2, k_ao1, k_pf, k_pz, k_fo, k_ifT, k_ifF, k_br0, k_br1, k_br2, k_br3, k_s0, k_s1, k_t1, k_s4, k_t4, k_s20, k_t20, zpk_n, zpk_z, zpk_s, k_lw, k_fl, k_cy3, k_cy2, k_cy1, k_cd2, k_cd1, k_w3, k_w20, k_w21, k_w22, k_w23, k_w1T, k_w1F, k_fi, k_fz1, k_fz0, k_fzi, k_fz, k_fv0, k_fv3, k_I, k_B0, k_B1, k_B2, k_B3, k_C, k_E, zenv, zup, ze0, n_add, n_mul, m_st, m_sa, m_ne, m_ss, mm_s, mm_f, mm_ne, mm_ss, mm_sf, Nat.zero_add, u_at, u_ne, if_true, if_false, ite_true, ite_false, reduceIte, and_self, and_true, true_and, or_true, true_or, or_false, false_or, or_self, and_false, false_and, Bool.not_true, Bool.not_false, decide_true, decide_false, ne_eq, n_eqT, n_eqF, n_ltT, n_ltF, n_leT, n_leF, n_z0, n_zF, n_o1, n_oF, n_p0, n_pF, n_lt0, n_ge0, zeq, zne, zlt, zle, zge, zgt, ziadd, zisub, zimul, ziand, zior, zixor, zishl, zishr, ziushr, zidiv, zirem, zmax, zmin, Bool.false_eq_true, not_true_eq_false, not_false_eq_true, Nat.reduceEqDiff, Nat.reduceAdd, Nat.reduceMul, Nat.reduceSub, e_waitM, e_errM, e_endM C W, n_shl, b01_F hr, b01_F hE, ot]
      have F : ∀ a, (a < J + 2 ∨ J + 8 < a) → μ a = μ a := fun a _ => rfl
      refine ⟨_, key, ?_, ?_, fun a h1 h2 h3 => ?_⟩
      · rw [m_ne (by omega), m_sa, F _ (by omega)]
      · rw [m_sa, F _ (by omega)]
      · rw [m_ne h1, m_ne h2, F _ h3]
end DSC
