/-! PROGRAMS BEING WRITTEN: the calls -/
section PR2
variable {x m k n : Nat} {μ ν μ' : zM} {v w u y z : Int32} {Q : Int32 → zM → Prop} {p' : Nat → Int32}
theorem s_model (I : StI x m μ ν) : wr (M_X8_model x [v] μ) (fun r μ' => wr (M_X9_model m [v] ν) (fun r' ν' => r' = r ∧ OkS x m μ ν μ' ν')) := by
  simp only [M_X8_model, B_X8_model, M_X9_model, B_X9_model]
  obtain ⟨⟨R1, R2, R3, R4, R5, R6, R7, R8, R9⟩, V1, V2, V3, V4, V5, V6, V7, V8⟩ := I.1
  by_cases h : nI 0 ≤ v ∧ v ≤ nI 4
  · obtain ⟨k, hk, rfl⟩ := i_in (by omega) h
    simp -implicitDefEqProofs (disch := omega) only [zA0_ap, zA1_ap, zA2_ap, zA3_ap, zA4_ap, zA5_ap, v_fi, v_fz, v_fv, w_k, v_l, v_bin, v_biq, v_ald, v_tb, w_al, w_fd, v_cond, v_call, v_pi, w_an, v_ai, v_aq, v_cmp, v_cm0, w_cb, v_nt, v_and, v_or, w_sk, w_bk, w_cn, w_rv, v_rt, v_sq, v_se, v_ex, v_as, v_az, v_ao, v_pf, v_pz, v_fo, v_if, v_sw, v_lw, v_fl, v_cy, v_cyd, w_lr, wl_some, k_sq0, k_sq1, k_sq2, k_sq3, k_se, k_ex, k_rt, k_l, k_b2, k_b1, k_q2, k_q1, k_ald, k_tb, k_pi, k_condT, k_condF, k_condK, k_call, k_ac, k_ai, k_aq, k_c2, k_c1, k_c0, k_nt, k_andT, k_andF, k_orT, k_orF, k_as2, k_as1, k_az2, k_az1, k_ao2, k_ao1, k_pf, k_pz, k_fo, k_ifT, k_ifF, k_br0, k_br1, k_br2, k_br3, k_s0, k_s1, k_t1, k_s4, k_t4, k_s20, k_t20, zpk_n, zpk_z, zpk_s, k_lw, k_fl, k_cy3, k_cy2, k_cy1, k_cd2, k_cd1, k_w3, k_w20, k_w21, k_w22, k_w23, k_w1T, k_w1F, k_fi, k_fz1, k_fz0, k_fzi, k_fz, k_fv0, k_fv3, k_I, k_B0, k_B1, k_B2, k_B3, k_C, k_E, zenv, zup, ze0, n_add, n_mul, m_st, m_sa, m_ne, m_ss, mm_s, mm_f, mm_ne, mm_ss, mm_sf, Nat.zero_add, u_at, u_ne, if_true, if_false, ite_true, ite_false, reduceIte, and_self, and_true, true_and, or_true, true_or, or_false, false_or, or_self, and_false, false_and, Bool.not_true, Bool.not_false, decide_true, decide_false, ne_eq, n_eqT, n_eqF, n_ltT, n_ltF, n_leT, n_leF, n_z0, n_zF, n_o1, n_oF, n_p0, n_pF, n_lt0, n_ge0, zeq, zne, zlt, zle, zge, zgt, ziadd, zisub, zimul, ziand, zior, zixor, zishl, zishr, ziushr, zidiv, zirem, zmax, zmin, Bool.false_eq_true, not_true_eq_false, not_false_eq_true, Nat.reduceEqDiff, Nat.reduceAdd, Nat.reduceMul, Nat.reduceSub, g_in]
    refine ⟨R9, OkS.plan I (fun a ha => ?_) (fun i hi => ?_) ?_ ?_⟩
    · simp (disch := omega) only [m_ne]
    · simp (disch := omega) only [u_ne]
    · refine ⟨fun r hr => ?_, fun r n j hr hn hj => ?_, fun r n hr hn => ?_, fun r hr => ?_, fun t ht => ?_, fun t i ht hi => ?_, ?_, ?_, ?_⟩
      · simp (disch := omega) only [m_ne, m_at, u_ne, u_at]
        exact R1 r hr
      · simp (disch := omega) only [m_ne, m_at, u_ne, u_at]
        exact R2 r n j hr hn hj
      · simp (disch := omega) only [m_ne, m_at, u_ne, u_at]
        exact R3 r n hr hn
      · simp (disch := omega) only [m_ne, m_at, u_ne, u_at]
        exact R4 r hr
      · simp (disch := omega) only [m_ne, m_at, u_ne, u_at]
        exact R5 t ht
      · have h3 : i ≤ 3 := by split at hi <;> omega
        simp (disch := omega) only [m_ne, m_at, u_ne, u_at]
        exact R6 t i ht hi
      · simp (disch := omega) only [m_ne, m_at, u_ne, u_at]
        exact R7
      · simp (disch := omega) only [m_ne, m_at, u_ne, u_at]
        exact R8
      · simp (disch := omega) only [m_ne, m_at, u_ne, u_at]
    · refine ⟨fun r hr => ?_, fun r p hr hp => ?_, fun r hr => ?_, ?_, fun i hi => ?_, ?_, ?_, ?_⟩
      · simp (disch := omega) only [m_ne, m_at, u_ne, u_at]
        exact V1 r hr
      · simp (disch := omega) only [m_ne, m_at, u_ne, u_at]
        exact V2 r p hr hp
      · simp (disch := omega) only [m_ne, m_at, u_ne, u_at]
        exact V3 r hr
      · simp (disch := omega) only [m_ne, m_at, u_ne, u_at]
        exact V4
      · simp (disch := omega) only [m_ne, m_at, u_ne, u_at]
        exact V5 i hi
      · simp (disch := omega) only [m_ne, m_at, u_ne, u_at]
        exact V6
      · simp (disch := omega) only [m_ne, m_at, u_ne, u_at]
        exact V7
      · simp (disch := omega) only [m_ne, m_at, u_ne, u_at]
        exact ⟨k, by omega, rfl⟩
  · rcases i_out (by omega) h with ⟨o1, o2, o3⟩ | ⟨o1, o2, o3, o4, o5, o6, o7⟩
    · simp -implicitDefEqProofs (disch := omega) only [zA0_ap, zA1_ap, zA2_ap, zA3_ap, zA4_ap, zA5_ap, v_fi, v_fz, v_fv, w_k, v_l, v_bin, v_biq, v_ald, v_tb, w_al, w_fd, v_cond, v_call, v_pi, w_an, v_ai, v_aq, v_cmp, v_cm0, w_cb, v_nt, v_and, v_or, w_sk, w_bk, w_cn, w_rv, v_rt, v_sq, v_se, v_ex, v_as, v_az, v_ao, v_pf, v_pz, v_fo, v_if, v_sw, v_lw, v_fl, v_cy, v_cyd, w_lr, wl_some, k_sq0, k_sq1, k_sq2, k_sq3, k_se, k_ex, k_rt, k_l, k_b2, k_b1, k_q2, k_q1, k_ald, k_tb, k_pi, k_condT, k_condF, k_condK, k_call, k_ac, k_ai, k_aq, k_c2, k_c1, k_c0, k_nt, k_andT, k_andF, k_orT, k_orF, k_as2, k_as1, k_az2, k_az1, k_ao2, k_ao1, k_pf, k_pz, k_fo, k_ifT, k_ifF, k_br0, k_br1, k_br2, k_br3, k_s0, k_s1, k_t1, k_s4, k_t4, k_s20, k_t20, zpk_n, zpk_z, zpk_s, k_lw, k_fl, k_cy3, k_cy2, k_cy1, k_cd2, k_cd1, k_w3, k_w20, k_w21, k_w22, k_w23, k_w1T, k_w1F, k_fi, k_fz1, k_fz0, k_fzi, k_fz, k_fv0, k_fv3, k_I, k_B0, k_B1, k_B2, k_B3, k_C, k_E, zenv, zup, ze0, n_add, n_mul, m_st, m_sa, m_ne, m_ss, mm_s, mm_f, mm_ne, mm_ss, mm_sf, Nat.zero_add, u_at, u_ne, if_true, if_false, ite_true, ite_false, reduceIte, and_self, and_true, true_and, or_true, true_or, or_false, false_or, or_self, and_false, false_and, Bool.not_true, Bool.not_false, decide_true, decide_false, ne_eq, n_eqT, n_eqF, n_ltT, n_ltF, n_leT, n_leF, n_z0, n_zF, n_o1, n_oF, n_p0, n_pF, n_lt0, n_ge0, zeq, zne, zlt, zle, zge, zgt, ziadd, zisub, zimul, ziand, zior, zixor, zishl, zishr, ziushr, zidiv, zirem, zmax, zmin, Bool.false_eq_true, not_true_eq_false, not_false_eq_true, Nat.reduceEqDiff, Nat.reduceAdd, Nat.reduceMul, Nat.reduceSub, g_in, h, o1, o2, o3]
      exact OkS.rf I
    · simp -implicitDefEqProofs (disch := omega) only [zA0_ap, zA1_ap, zA2_ap, zA3_ap, zA4_ap, zA5_ap, v_fi, v_fz, v_fv, w_k, v_l, v_bin, v_biq, v_ald, v_tb, w_al, w_fd, v_cond, v_call, v_pi, w_an, v_ai, v_aq, v_cmp, v_cm0, w_cb, v_nt, v_and, v_or, w_sk, w_bk, w_cn, w_rv, v_rt, v_sq, v_se, v_ex, v_as, v_az, v_ao, v_pf, v_pz, v_fo, v_if, v_sw, v_lw, v_fl, v_cy, v_cyd, w_lr, wl_some, k_sq0, k_sq1, k_sq2, k_sq3, k_se, k_ex, k_rt, k_l, k_b2, k_b1, k_q2, k_q1, k_ald, k_tb, k_pi, k_condT, k_condF, k_condK, k_call, k_ac, k_ai, k_aq, k_c2, k_c1, k_c0, k_nt, k_andT, k_andF, k_orT, k_orF, k_as2, k_as1, k_az2, k_az1, k_ao2, k_ao1, k_pf, k_pz, k_fo, k_ifT, k_ifF, k_br0, k_br1, k_br2, k_br3, k_s0, k_s1, k_t1, k_s4, k_t4, k_s20, k_t20, zpk_n, zpk_z, zpk_s, k_lw, k_fl, k_cy3, k_cy2, k_cy1, k_cd2, k_cd1, k_w3, k_w20, k_w21, k_w22, k_w23, k_w1T, k_w1F, k_fi, k_fz1, k_fz0, k_fzi, k_fz, k_fv0, k_fv3, k_I, k_B0, k_B1, k_B2, k_B3, k_C, k_E, zenv, zup, ze0, n_add, n_mul, m_st, m_sa, m_ne, m_ss, mm_s, mm_f, mm_ne, mm_ss, mm_sf, Nat.zero_add, u_at, u_ne, if_true, if_false, ite_true, ite_false, reduceIte, and_self, and_true, true_and, or_true, true_or, or_false, false_or, or_self, and_false, false_and, Bool.not_true, Bool.not_false, decide_true, decide_false, ne_eq, n_eqT, n_eqF, n_ltT, n_ltF, n_leT, n_leF, n_z0, n_zF, n_o1, n_oF, n_p0, n_pF, n_lt0, n_ge0, zeq, zne, zlt, zle, zge, zgt, ziadd, zisub, zimul, ziand, zior, zixor, zishl, zishr, ziushr, zidiv, zirem, zmax, zmin, Bool.false_eq_true, not_true_eq_false, not_false_eq_true, Nat.reduceEqDiff, Nat.reduceAdd, Nat.reduceMul, Nat.reduceSub, g_in, h, o1, o2, o3, o4, o5, o6, o7]
      exact OkS.rf I
theorem s_late (I : StI x m μ ν) (hk : k < 2) : wr (M_X8_late x [nI k] μ) (fun r μ' => wr (M_X9_late m [nI k] ν) (fun r' ν' => r' = r ∧ OkS x m μ ν μ' ν')) := by
  simp only [M_X8_late, B_X8_late, M_X9_late, B_X9_late]
  obtain ⟨⟨R1, R2, R3, R4, R5, R6, R7, R8, R9⟩, V1, V2, V3, V4, V5, V6, V7, V8⟩ := I.1
  obtain ⟨l, hl, e⟩ := V7
  have e : μ (x + 1) 7 = nI l := e
  have e' : ν (m + 1) 949 = nI l := R8.trans e
  have V7 : ∃ k, k < 2 ∧ μ (x + 1) 7 = nI k := ⟨l, hl, e⟩
  rcases (show l = 0 ∨ l = 1 by omega) with rfl | rfl <;> rcases (show k = 0 ∨ k = 1 by omega) with rfl | rfl
  · simp -implicitDefEqProofs (disch := omega) only [zA0_ap, zA1_ap, zA2_ap, zA3_ap, zA4_ap, zA5_ap, v_fi, v_fz, v_fv, w_k, v_l, v_bin, v_biq, v_ald, v_tb, w_al, w_fd, v_cond, v_call, v_pi, w_an, v_ai, v_aq, v_cmp, v_cm0, w_cb, v_nt, v_and, v_or, w_sk, w_bk, w_cn, w_rv, v_rt, v_sq, v_se, v_ex, v_as, v_az, v_ao, v_pf, v_pz, v_fo, v_if, v_sw, v_lw, v_fl, v_cy, v_cyd, w_lr, wl_some, k_sq0, k_sq1, k_sq2, k_sq3, k_se, k_ex, k_rt, k_l, k_b2, k_b1, k_q2, k_q1, k_ald, k_tb, k_pi, k_condT, k_condF, k_condK, k_call, k_ac, k_ai, k_aq, k_c2, k_c1, k_c0, k_nt, k_andT, k_andF, k_orT, k_orF, k_as2, k_as1, k_az2, k_az1, k_ao2, k_ao1, k_pf, k_pz, k_fo, k_ifT, k_ifF, k_br0, k_br1, k_br2, k_br3, k_s0, k_s1, k_t1, k_s4, k_t4, k_s20, k_t20, zpk_n, zpk_z, zpk_s, k_lw, k_fl, k_cy3, k_cy2, k_cy1, k_cd2, k_cd1, k_w3, k_w20, k_w21, k_w22, k_w23, k_w1T, k_w1F, k_fi, k_fz1, k_fz0, k_fzi, k_fz, k_fv0, k_fv3, k_I, k_B0, k_B1, k_B2, k_B3, k_C, k_E, zenv, zup, ze0, n_add, n_mul, m_st, m_sa, m_ne, m_ss, mm_s, mm_f, mm_ne, mm_ss, mm_sf, Nat.zero_add, u_at, u_ne, if_true, if_false, ite_true, ite_false, reduceIte, and_self, and_true, true_and, or_true, true_or, or_false, false_or, or_self, and_false, false_and, Bool.not_true, Bool.not_false, decide_true, decide_false, ne_eq, n_eqT, n_eqF, n_ltT, n_ltF, n_leT, n_leF, n_z0, n_zF, n_o1, n_oF, n_p0, n_pF, n_lt0, n_ge0, zeq, zne, zlt, zle, zge, zgt, ziadd, zisub, zimul, ziand, zior, zixor, zishl, zishr, ziushr, zidiv, zirem, zmax, zmin, Bool.false_eq_true, not_true_eq_false, not_false_eq_true, Nat.reduceEqDiff, Nat.reduceAdd, Nat.reduceMul, Nat.reduceSub, e, e']
    refine (OkS.plan I (fun a ha => ?_) (fun i hi => ?_) ?_ ?_)
    · simp (disch := omega) only [m_ne]
    · simp (disch := omega) only [u_ne]
    · refine ⟨fun r hr => ?_, fun r n j hr hn hj => ?_, fun r n hr hn => ?_, fun r hr => ?_, fun t ht => ?_, fun t i ht hi => ?_, ?_, ?_, ?_⟩
      · simp (disch := omega) only [m_ne, m_at, u_ne, u_at]
        exact R1 r hr
      · simp (disch := omega) only [m_ne, m_at, u_ne, u_at]
        exact R2 r n j hr hn hj
      · simp (disch := omega) only [m_ne, m_at, u_ne, u_at]
        exact R3 r n hr hn
      · simp (disch := omega) only [m_ne, m_at, u_ne, u_at]
        exact R4 r hr
      · simp (disch := omega) only [m_ne, m_at, u_ne, u_at]
        exact R5 t ht
      · have h3 : i ≤ 3 := by split at hi <;> omega
        simp (disch := omega) only [m_ne, m_at, u_ne, u_at]
        exact R6 t i ht hi
      · simp (disch := omega) only [m_ne, m_at, u_ne, u_at]
        exact R7
      · simp (disch := omega) only [m_ne, m_at, u_ne, u_at]
      · simp (disch := omega) only [m_ne, m_at, u_ne, u_at]
        exact R9
    · refine ⟨fun r hr => ?_, fun r p hr hp => ?_, fun r hr => ?_, ?_, fun i hi => ?_, ?_, ?_, ?_⟩
      · simp (disch := omega) only [m_ne, m_at, u_ne, u_at]
        exact V1 r hr
      · simp (disch := omega) only [m_ne, m_at, u_ne, u_at]
        exact V2 r p hr hp
      · simp (disch := omega) only [m_ne, m_at, u_ne, u_at]
        exact V3 r hr
      · simp (disch := omega) only [m_ne, m_at, u_ne, u_at]
        exact V4
      · simp (disch := omega) only [m_ne, m_at, u_ne, u_at]
        exact V5 i hi
      · simp (disch := omega) only [m_ne, m_at, u_ne, u_at]
        exact V6
      · simp (disch := omega) only [m_ne, m_at, u_ne, u_at]
        exact ⟨0, by omega, rfl⟩
      · simp (disch := omega) only [m_ne, m_at, u_ne, u_at]
        exact V8
  · simp -implicitDefEqProofs (disch := omega) only [zA0_ap, zA1_ap, zA2_ap, zA3_ap, zA4_ap, zA5_ap, v_fi, v_fz, v_fv, w_k, v_l, v_bin, v_biq, v_ald, v_tb, w_al, w_fd, v_cond, v_call, v_pi, w_an, v_ai, v_aq, v_cmp, v_cm0, w_cb, v_nt, v_and, v_or, w_sk, w_bk, w_cn, w_rv, v_rt, v_sq, v_se, v_ex, v_as, v_az, v_ao, v_pf, v_pz, v_fo, v_if, v_sw, v_lw, v_fl, v_cy, v_cyd, w_lr, wl_some, k_sq0, k_sq1, k_sq2, k_sq3, k_se, k_ex, k_rt, k_l, k_b2, k_b1, k_q2, k_q1, k_ald, k_tb, k_pi, k_condT, k_condF, k_condK, k_call, k_ac, k_ai, k_aq, k_c2, k_c1, k_c0, k_nt, k_andT, k_andF, k_orT, k_orF, k_as2, k_as1, k_az2, k_az1, k_ao2, k_ao1, k_pf, k_pz, k_fo, k_ifT, k_ifF, k_br0, k_br1, k_br2, k_br3, k_s0, k_s1, k_t1, k_s4, k_t4, k_s20, k_t20, zpk_n, zpk_z, zpk_s, k_lw, k_fl, k_cy3, k_cy2, k_cy1, k_cd2, k_cd1, k_w3, k_w20, k_w21, k_w22, k_w23, k_w1T, k_w1F, k_fi, k_fz1, k_fz0, k_fzi, k_fz, k_fv0, k_fv3, k_I, k_B0, k_B1, k_B2, k_B3, k_C, k_E, zenv, zup, ze0, n_add, n_mul, m_st, m_sa, m_ne, m_ss, mm_s, mm_f, mm_ne, mm_ss, mm_sf, Nat.zero_add, u_at, u_ne, if_true, if_false, ite_true, ite_false, reduceIte, and_self, and_true, true_and, or_true, true_or, or_false, false_or, or_self, and_false, false_and, Bool.not_true, Bool.not_false, decide_true, decide_false, ne_eq, n_eqT, n_eqF, n_ltT, n_ltF, n_leT, n_leF, n_z0, n_zF, n_o1, n_oF, n_p0, n_pF, n_lt0, n_ge0, zeq, zne, zlt, zle, zge, zgt, ziadd, zisub, zimul, ziand, zior, zixor, zishl, zishr, ziushr, zidiv, zirem, zmax, zmin, Bool.false_eq_true, not_true_eq_false, not_false_eq_true, Nat.reduceEqDiff, Nat.reduceAdd, Nat.reduceMul, Nat.reduceSub, e, e']
    refine (OkS.plan I (fun a ha => ?_) (fun i hi => ?_) ?_ ?_)
    · simp (disch := omega) only [m_ne]
    · simp (disch := omega) only [u_ne]
    · refine ⟨fun r hr => ?_, fun r n j hr hn hj => ?_, fun r n hr hn => ?_, fun r hr => ?_, fun t ht => ?_, fun t i ht hi => ?_, ?_, ?_, ?_⟩
      · simp (disch := omega) only [m_ne, m_at, u_ne, u_at]
        exact R1 r hr
      · simp (disch := omega) only [m_ne, m_at, u_ne, u_at]
        exact R2 r n j hr hn hj
      · simp (disch := omega) only [m_ne, m_at, u_ne, u_at]
        exact R3 r n hr hn
      · simp (disch := omega) only [m_ne, m_at, u_ne, u_at]
        exact R4 r hr
      · simp (disch := omega) only [m_ne, m_at, u_ne, u_at]
        exact R5 t ht
      · have h3 : i ≤ 3 := by split at hi <;> omega
        simp (disch := omega) only [m_ne, m_at, u_ne, u_at]
        exact R6 t i ht hi
      · simp (disch := omega) only [m_ne, m_at, u_ne, u_at]
        exact R7
      · simp (disch := omega) only [m_ne, m_at, u_ne, u_at]
      · simp (disch := omega) only [m_ne, m_at, u_ne, u_at]
        exact R9
    · refine ⟨fun r hr => ?_, fun r p hr hp => ?_, fun r hr => ?_, ?_, fun i hi => ?_, ?_, ?_, ?_⟩
      · simp (disch := omega) only [m_ne, m_at, u_ne, u_at]
        exact V1 r hr
      · simp (disch := omega) only [m_ne, m_at, u_ne, u_at]
        exact V2 r p hr hp
      · simp (disch := omega) only [m_ne, m_at, u_ne, u_at]
        exact V3 r hr
      · simp (disch := omega) only [m_ne, m_at, u_ne, u_at]
        exact V4
      · simp (disch := omega) only [m_ne, m_at, u_ne, u_at]
        exact V5 i hi
      · simp (disch := omega) only [m_ne, m_at, u_ne, u_at]
        exact V6
      · simp (disch := omega) only [m_ne, m_at, u_ne, u_at]
        exact ⟨1, by omega, rfl⟩
      · simp (disch := omega) only [m_ne, m_at, u_ne, u_at]
        exact V8
  · simp -implicitDefEqProofs (disch := omega) only [zA0_ap, zA1_ap, zA2_ap, zA3_ap, zA4_ap, zA5_ap, v_fi, v_fz, v_fv, w_k, v_l, v_bin, v_biq, v_ald, v_tb, w_al, w_fd, v_cond, v_call, v_pi, w_an, v_ai, v_aq, v_cmp, v_cm0, w_cb, v_nt, v_and, v_or, w_sk, w_bk, w_cn, w_rv, v_rt, v_sq, v_se, v_ex, v_as, v_az, v_ao, v_pf, v_pz, v_fo, v_if, v_sw, v_lw, v_fl, v_cy, v_cyd, w_lr, wl_some, k_sq0, k_sq1, k_sq2, k_sq3, k_se, k_ex, k_rt, k_l, k_b2, k_b1, k_q2, k_q1, k_ald, k_tb, k_pi, k_condT, k_condF, k_condK, k_call, k_ac, k_ai, k_aq, k_c2, k_c1, k_c0, k_nt, k_andT, k_andF, k_orT, k_orF, k_as2, k_as1, k_az2, k_az1, k_ao2, k_ao1, k_pf, k_pz, k_fo, k_ifT, k_ifF, k_br0, k_br1, k_br2, k_br3, k_s0, k_s1, k_t1, k_s4, k_t4, k_s20, k_t20, zpk_n, zpk_z, zpk_s, k_lw, k_fl, k_cy3, k_cy2, k_cy1, k_cd2, k_cd1, k_w3, k_w20, k_w21, k_w22, k_w23, k_w1T, k_w1F, k_fi, k_fz1, k_fz0, k_fzi, k_fz, k_fv0, k_fv3, k_I, k_B0, k_B1, k_B2, k_B3, k_C, k_E, zenv, zup, ze0, n_add, n_mul, m_st, m_sa, m_ne, m_ss, mm_s, mm_f, mm_ne, mm_ss, mm_sf, Nat.zero_add, u_at, u_ne, if_true, if_false, ite_true, ite_false, reduceIte, and_self, and_true, true_and, or_true, true_or, or_false, false_or, or_self, and_false, false_and, Bool.not_true, Bool.not_false, decide_true, decide_false, ne_eq, n_eqT, n_eqF, n_ltT, n_ltF, n_leT, n_leF, n_z0, n_zF, n_o1, n_oF, n_p0, n_pF, n_lt0, n_ge0, zeq, zne, zlt, zle, zge, zgt, ziadd, zisub, zimul, ziand, zior, zixor, zishl, zishr, ziushr, zidiv, zirem, zmax, zmin, Bool.false_eq_true, not_true_eq_false, not_false_eq_true, Nat.reduceEqDiff, Nat.reduceAdd, Nat.reduceMul, Nat.reduceSub, e, e']
    refine (OkS.plan I (fun a ha => ?_) (fun i hi => ?_) ?_ ?_)
    · simp (disch := omega) only [m_ne]
    · simp (disch := omega) only [u_ne]
    · refine ⟨fun r hr => ?_, fun r n j hr hn hj => ?_, fun r n hr hn => ?_, fun r hr => ?_, fun t ht => ?_, fun t i ht hi => ?_, ?_, ?_, ?_⟩
      · simp (disch := omega) only [m_ne, m_at, u_ne, u_at]
        exact R1 r hr
      · simp (disch := omega) only [m_ne, m_at, u_ne, u_at]
        exact R2 r n j hr hn hj
      · simp (disch := omega) only [m_ne, m_at, u_ne, u_at]
        exact R3 r n hr hn
      · simp (disch := omega) only [m_ne, m_at, u_ne, u_at]
        exact R4 r hr
      · simp (disch := omega) only [m_ne, m_at, u_ne, u_at]
        exact R5 t ht
      · have h3 : i ≤ 3 := by split at hi <;> omega
        simp (disch := omega) only [m_ne, m_at, u_ne, u_at]
        exact R6 t i ht hi
      · simp (disch := omega) only [m_ne, m_at, u_ne, u_at]
        exact R7
      · simp (disch := omega) only [m_ne, m_at, u_ne, u_at]
      · simp (disch := omega) only [m_ne, m_at, u_ne, u_at]
        exact R9
    · refine ⟨fun r hr => ?_, fun r p hr hp => ?_, fun r hr => ?_, ?_, fun i hi => ?_, ?_, ?_, ?_⟩
      · simp (disch := omega) only [m_ne, m_at, u_ne, u_at]
        exact V1 r hr
      · simp (disch := omega) only [m_ne, m_at, u_ne, u_at]
        exact V2 r p hr hp
      · simp (disch := omega) only [m_ne, m_at, u_ne, u_at]
        exact V3 r hr
      · simp (disch := omega) only [m_ne, m_at, u_ne, u_at]
        exact V4
      · simp (disch := omega) only [m_ne, m_at, u_ne, u_at]
        exact V5 i hi
      · simp (disch := omega) only [m_ne, m_at, u_ne, u_at]
        exact V6
      · simp (disch := omega) only [m_ne, m_at, u_ne, u_at]
        exact ⟨0, by omega, rfl⟩
      · simp (disch := omega) only [m_ne, m_at, u_ne, u_at]
        exact V8
  · simp -implicitDefEqProofs (disch := omega) only [zA0_ap, zA1_ap, zA2_ap, zA3_ap, zA4_ap, zA5_ap, v_fi, v_fz, v_fv, w_k, v_l, v_bin, v_biq, v_ald, v_tb, w_al, w_fd, v_cond, v_call, v_pi, w_an, v_ai, v_aq, v_cmp, v_cm0, w_cb, v_nt, v_and, v_or, w_sk, w_bk, w_cn, w_rv, v_rt, v_sq, v_se, v_ex, v_as, v_az, v_ao, v_pf, v_pz, v_fo, v_if, v_sw, v_lw, v_fl, v_cy, v_cyd, w_lr, wl_some, k_sq0, k_sq1, k_sq2, k_sq3, k_se, k_ex, k_rt, k_l, k_b2, k_b1, k_q2, k_q1, k_ald, k_tb, k_pi, k_condT, k_condF, k_condK, k_call, k_ac, k_ai, k_aq, k_c2, k_c1, k_c0, k_nt, k_andT, k_andF, k_orT, k_orF, k_as2, k_as1, k_az2, k_az1, k_ao2, k_ao1, k_pf, k_pz, k_fo, k_ifT, k_ifF, k_br0, k_br1, k_br2, k_br3, k_s0, k_s1, k_t1, k_s4, k_t4, k_s20, k_t20, zpk_n, zpk_z, zpk_s, k_lw, k_fl, k_cy3, k_cy2, k_cy1, k_cd2, k_cd1, k_w3, k_w20, k_w21, k_w22, k_w23, k_w1T, k_w1F, k_fi, k_fz1, k_fz0, k_fzi, k_fz, k_fv0, k_fv3, k_I, k_B0, k_B1, k_B2, k_B3, k_C, k_E, zenv, zup, ze0, n_add, n_mul, m_st, m_sa, m_ne, m_ss, mm_s, mm_f, mm_ne, mm_ss, mm_sf, Nat.zero_add, u_at, u_ne, if_true, if_false, ite_true, ite_false, reduceIte, and_self, and_true, true_and, or_true, true_or, or_false, false_or, or_self, and_false, false_and, Bool.not_true, Bool.not_false, decide_true, decide_false, ne_eq, n_eqT, n_eqF, n_ltT, n_ltF, n_leT, n_leF, n_z0, n_zF, n_o1, n_oF, n_p0, n_pF, n_lt0, n_ge0, zeq, zne, zlt, zle, zge, zgt, ziadd, zisub, zimul, ziand, zior, zixor, zishl, zishr, ziushr, zidiv, zirem, zmax, zmin, Bool.false_eq_true, not_true_eq_false, not_false_eq_true, Nat.reduceEqDiff, Nat.reduceAdd, Nat.reduceMul, Nat.reduceSub, e, e']
    refine (OkS.plan I (fun a ha => ?_) (fun i hi => ?_) ?_ ?_)
    · simp (disch := omega) only [m_ne]
    · simp (disch := omega) only [u_ne]
    · refine ⟨fun r hr => ?_, fun r n j hr hn hj => ?_, fun r n hr hn => ?_, fun r hr => ?_, fun t ht => ?_, fun t i ht hi => ?_, ?_, ?_, ?_⟩
      · simp (disch := omega) only [m_ne, m_at, u_ne, u_at]
        exact R1 r hr
      · simp (disch := omega) only [m_ne, m_at, u_ne, u_at]
        exact R2 r n j hr hn hj
      · simp (disch := omega) only [m_ne, m_at, u_ne, u_at]
        exact R3 r n hr hn
      · simp (disch := omega) only [m_ne, m_at, u_ne, u_at]
        exact R4 r hr
      · simp (disch := omega) only [m_ne, m_at, u_ne, u_at]
        exact R5 t ht
      · have h3 : i ≤ 3 := by split at hi <;> omega
        simp (disch := omega) only [m_ne, m_at, u_ne, u_at]
        exact R6 t i ht hi
      · simp (disch := omega) only [m_ne, m_at, u_ne, u_at]
        exact R7
      · simp (disch := omega) only [m_ne, m_at, u_ne, u_at]
      · simp (disch := omega) only [m_ne, m_at, u_ne, u_at]
        exact R9
    · refine ⟨fun r hr => ?_, fun r p hr hp => ?_, fun r hr => ?_, ?_, fun i hi => ?_, ?_, ?_, ?_⟩
      · simp (disch := omega) only [m_ne, m_at, u_ne, u_at]
        exact V1 r hr
      · simp (disch := omega) only [m_ne, m_at, u_ne, u_at]
        exact V2 r p hr hp
      · simp (disch := omega) only [m_ne, m_at, u_ne, u_at]
        exact V3 r hr
      · simp (disch := omega) only [m_ne, m_at, u_ne, u_at]
        exact V4
      · simp (disch := omega) only [m_ne, m_at, u_ne, u_at]
        exact V5 i hi
      · simp (disch := omega) only [m_ne, m_at, u_ne, u_at]
        exact V6
      · simp (disch := omega) only [m_ne, m_at, u_ne, u_at]
        exact ⟨1, by omega, rfl⟩
      · simp (disch := omega) only [m_ne, m_at, u_ne, u_at]
        exact V8
theorem s_means (I : StI x m μ ν) : wr (M_X8_means x [v, w] μ) (fun r μ' => wr (M_X9_means m [v, w] ν) (fun r' ν' => r' = r ∧ OkS x m μ ν μ' ν')) := by
  simp only [M_X8_means, B_X8_means, M_X9_means, B_X9_means]
  obtain ⟨⟨R1, R2, R3, R4, R5, R6, R7, R8, R9⟩, V1, V2, V3, V4, V5, V6, V7, V8⟩ := I.1
  by_cases h : nI 0 ≤ v ∧ v ≤ nI 5
  · obtain ⟨r0, hr0, rfl⟩ := i_in (by omega) h
    by_cases h : nI 0 ≤ w ∧ w ≤ nI 2
    · obtain ⟨k, hk, rfl⟩ := i_in (by omega) h
      simp -implicitDefEqProofs (disch := omega) only [zA0_ap, zA1_ap, zA2_ap, zA3_ap, zA4_ap, zA5_ap, v_fi, v_fz, v_fv, w_k, v_l, v_bin, v_biq, v_ald, v_tb, w_al, w_fd, v_cond, v_call, v_pi, w_an, v_ai, v_aq, v_cmp, v_cm0, w_cb, v_nt, v_and, v_or, w_sk, w_bk, w_cn, w_rv, v_rt, v_sq, v_se, v_ex, v_as, v_az, v_ao, v_pf, v_pz, v_fo, v_if, v_sw, v_lw, v_fl, v_cy, v_cyd, w_lr, wl_some, k_sq0, k_sq1, k_sq2, k_sq3, k_se, k_ex, k_rt, k_l, k_b2, k_b1, k_q2, k_q1, k_ald, k_tb, k_pi, k_condT, k_condF, k_condK, k_call, k_ac, k_ai, k_aq, k_c2, k_c1, k_c0, k_nt, k_andT, k_andF, k_orT, k_orF, k_as2, k_as1, k_az2, k_az1, k_ao2, k_ao1, k_pf, k_pz, k_fo, k_ifT, k_ifF, k_br0, k_br1, k_br2, k_br3, k_s0, k_s1, k_t1, k_s4, k_t4, k_s20, k_t20, zpk_n, zpk_z, zpk_s, k_lw, k_fl, k_cy3, k_cy2, k_cy1, k_cd2, k_cd1, k_w3, k_w20, k_w21, k_w22, k_w23, k_w1T, k_w1F, k_fi, k_fz1, k_fz0, k_fzi, k_fz, k_fv0, k_fv3, k_I, k_B0, k_B1, k_B2, k_B3, k_C, k_E, zenv, zup, ze0, n_add, n_mul, m_st, m_sa, m_ne, m_ss, mm_s, mm_f, mm_ne, mm_ss, mm_sf, Nat.zero_add, u_at, u_ne, if_true, if_false, ite_true, ite_false, reduceIte, and_self, and_true, true_and, or_true, true_or, or_false, false_or, or_self, and_false, false_and, Bool.not_true, Bool.not_false, decide_true, decide_false, ne_eq, n_eqT, n_eqF, n_ltT, n_ltF, n_leT, n_leF, n_z0, n_zF, n_o1, n_oF, n_p0, n_pF, n_lt0, n_ge0, zeq, zne, zlt, zle, zge, zgt, ziadd, zisub, zimul, ziand, zior, zixor, zishl, zishr, ziushr, zidiv, zirem, zmax, zmin, Bool.false_eq_true, not_true_eq_false, not_false_eq_true, Nat.reduceEqDiff, Nat.reduceAdd, Nat.reduceMul, Nat.reduceSub, g_in, e_isR, g_isR]
      refine ⟨R4 r0 (by omega), OkS.plan I (fun a ha => ?_) (fun i hi => ?_) ?_ ?_⟩
      · simp (disch := omega) only [m_ne]
      · simp (disch := omega) only [u_ne]
      · refine ⟨fun r hr => ?_, fun r n j hr hn hj => ?_, fun r n hr hn => ?_, fun r hr => ?_, fun t ht => ?_, fun t i ht hi => ?_, ?_, ?_, ?_⟩
        · simp (disch := omega) only [m_ne, m_at, u_ne, u_at]
          exact R1 r hr
        · simp (disch := omega) only [m_ne, m_at, u_ne, u_at]
          exact R2 r n j hr hn hj
        · simp (disch := omega) only [m_ne, m_at, u_ne, u_at]
          exact R3 r n hr hn
        · by_cases e : r = r0
          · simp (disch := omega) only [m_ne, m_at, u_ne, u_at]
          · simp (disch := omega) only [m_ne, m_at, u_ne, u_at]
            exact R4 r hr
        · simp (disch := omega) only [m_ne, m_at, u_ne, u_at]
          exact R5 t ht
        · have h3 : i ≤ 3 := by split at hi <;> omega
          simp (disch := omega) only [m_ne, m_at, u_ne, u_at]
          exact R6 t i ht hi
        · simp (disch := omega) only [m_ne, m_at, u_ne, u_at]
          exact R7
        · simp (disch := omega) only [m_ne, m_at, u_ne, u_at]
          exact R8
        · simp (disch := omega) only [m_ne, m_at, u_ne, u_at]
          exact R9
      · refine ⟨fun r hr => ?_, fun r p hr hp => ?_, fun r hr => ?_, ?_, fun i hi => ?_, ?_, ?_, ?_⟩
        · simp (disch := omega) only [m_ne, m_at, u_ne, u_at]
          exact V1 r hr
        · simp (disch := omega) only [m_ne, m_at, u_ne, u_at]
          exact V2 r p hr hp
        · by_cases e : r = r0
          · simp (disch := omega) only [m_ne, m_at, u_ne, u_at]
            exact ⟨k, by omega, rfl⟩
          · simp (disch := omega) only [m_ne, m_at, u_ne, u_at]
            exact V3 r hr
        · simp (disch := omega) only [m_ne, m_at, u_ne, u_at]
          exact V4
        · simp (disch := omega) only [m_ne, m_at, u_ne, u_at]
          exact V5 i hi
        · simp (disch := omega) only [m_ne, m_at, u_ne, u_at]
          exact V6
        · simp (disch := omega) only [m_ne, m_at, u_ne, u_at]
          exact V7
        · simp (disch := omega) only [m_ne, m_at, u_ne, u_at]
          exact V8
    · rcases i_out (by omega) h with ⟨o1, o2, o3⟩ | ⟨o1, o2, o3, o4, o5, o6, o7⟩
      · simp -implicitDefEqProofs (disch := omega) only [zA0_ap, zA1_ap, zA2_ap, zA3_ap, zA4_ap, zA5_ap, v_fi, v_fz, v_fv, w_k, v_l, v_bin, v_biq, v_ald, v_tb, w_al, w_fd, v_cond, v_call, v_pi, w_an, v_ai, v_aq, v_cmp, v_cm0, w_cb, v_nt, v_and, v_or, w_sk, w_bk, w_cn, w_rv, v_rt, v_sq, v_se, v_ex, v_as, v_az, v_ao, v_pf, v_pz, v_fo, v_if, v_sw, v_lw, v_fl, v_cy, v_cyd, w_lr, wl_some, k_sq0, k_sq1, k_sq2, k_sq3, k_se, k_ex, k_rt, k_l, k_b2, k_b1, k_q2, k_q1, k_ald, k_tb, k_pi, k_condT, k_condF, k_condK, k_call, k_ac, k_ai, k_aq, k_c2, k_c1, k_c0, k_nt, k_andT, k_andF, k_orT, k_orF, k_as2, k_as1, k_az2, k_az1, k_ao2, k_ao1, k_pf, k_pz, k_fo, k_ifT, k_ifF, k_br0, k_br1, k_br2, k_br3, k_s0, k_s1, k_t1, k_s4, k_t4, k_s20, k_t20, zpk_n, zpk_z, zpk_s, k_lw, k_fl, k_cy3, k_cy2, k_cy1, k_cd2, k_cd1, k_w3, k_w20, k_w21, k_w22, k_w23, k_w1T, k_w1F, k_fi, k_fz1, k_fz0, k_fzi, k_fz, k_fv0, k_fv3, k_I, k_B0, k_B1, k_B2, k_B3, k_C, k_E, zenv, zup, ze0, n_add, n_mul, m_st, m_sa, m_ne, m_ss, mm_s, mm_f, mm_ne, mm_ss, mm_sf, Nat.zero_add, u_at, u_ne, if_true, if_false, ite_true, ite_false, reduceIte, and_self, and_true, true_and, or_true, true_or, or_false, false_or, or_self, and_false, false_and, Bool.not_true, Bool.not_false, decide_true, decide_false, ne_eq, n_eqT, n_eqF, n_ltT, n_ltF, n_leT, n_leF, n_z0, n_zF, n_o1, n_oF, n_p0, n_pF, n_lt0, n_ge0, zeq, zne, zlt, zle, zge, zgt, ziadd, zisub, zimul, ziand, zior, zixor, zishl, zishr, ziushr, zidiv, zirem, zmax, zmin, Bool.false_eq_true, not_true_eq_false, not_false_eq_true, Nat.reduceEqDiff, Nat.reduceAdd, Nat.reduceMul, Nat.reduceSub, g_in, h, o1, o2, o3, e_isR (show r0 < 6 by omega), g_isR (show r0 < 6 by omega)]
        exact OkS.rf I
      · simp -implicitDefEqProofs (disch := omega) only [zA0_ap, zA1_ap, zA2_ap, zA3_ap, zA4_ap, zA5_ap, v_fi, v_fz, v_fv, w_k, v_l, v_bin, v_biq, v_ald, v_tb, w_al, w_fd, v_cond, v_call, v_pi, w_an, v_ai, v_aq, v_cmp, v_cm0, w_cb, v_nt, v_and, v_or, w_sk, w_bk, w_cn, w_rv, v_rt, v_sq, v_se, v_ex, v_as, v_az, v_ao, v_pf, v_pz, v_fo, v_if, v_sw, v_lw, v_fl, v_cy, v_cyd, w_lr, wl_some, k_sq0, k_sq1, k_sq2, k_sq3, k_se, k_ex, k_rt, k_l, k_b2, k_b1, k_q2, k_q1, k_ald, k_tb, k_pi, k_condT, k_condF, k_condK, k_call, k_ac, k_ai, k_aq, k_c2, k_c1, k_c0, k_nt, k_andT, k_andF, k_orT, k_orF, k_as2, k_as1, k_az2, k_az1, k_ao2, k_ao1, k_pf, k_pz, k_fo, k_ifT, k_ifF, k_br0, k_br1, k_br2, k_br3, k_s0, k_s1, k_t1, k_s4, k_t4, k_s20, k_t20, zpk_n, zpk_z, zpk_s, k_lw, k_fl, k_cy3, k_cy2, k_cy1, k_cd2, k_cd1, k_w3, k_w20, k_w21, k_w22, k_w23, k_w1T, k_w1F, k_fi, k_fz1, k_fz0, k_fzi, k_fz, k_fv0, k_fv3, k_I, k_B0, k_B1, k_B2, k_B3, k_C, k_E, zenv, zup, ze0, n_add, n_mul, m_st, m_sa, m_ne, m_ss, mm_s, mm_f, mm_ne, mm_ss, mm_sf, Nat.zero_add, u_at, u_ne, if_true, if_false, ite_true, ite_false, reduceIte, and_self, and_true, true_and, or_true, true_or, or_false, false_or, or_self, and_false, false_and, Bool.not_true, Bool.not_false, decide_true, decide_false, ne_eq, n_eqT, n_eqF, n_ltT, n_ltF, n_leT, n_leF, n_z0, n_zF, n_o1, n_oF, n_p0, n_pF, n_lt0, n_ge0, zeq, zne, zlt, zle, zge, zgt, ziadd, zisub, zimul, ziand, zior, zixor, zishl, zishr, ziushr, zidiv, zirem, zmax, zmin, Bool.false_eq_true, not_true_eq_false, not_false_eq_true, Nat.reduceEqDiff, Nat.reduceAdd, Nat.reduceMul, Nat.reduceSub, g_in, h, o1, o2, o3, o4, o5, o6, o7, e_isR (show r0 < 6 by omega), g_isR (show r0 < 6 by omega)]
        exact OkS.rf I
  · rcases i_out (by omega) h with ⟨o1, o2, o3⟩ | ⟨o1, o2, o3, o4, o5, o6, o7⟩
    · simp -implicitDefEqProofs (disch := omega) only [zA0_ap, zA1_ap, zA2_ap, zA3_ap, zA4_ap, zA5_ap, v_fi, v_fz, v_fv, w_k, v_l, v_bin, v_biq, v_ald, v_tb, w_al, w_fd, v_cond, v_call, v_pi, w_an, v_ai, v_aq, v_cmp, v_cm0, w_cb, v_nt, v_and, v_or, w_sk, w_bk, w_cn, w_rv, v_rt, v_sq, v_se, v_ex, v_as, v_az, v_ao, v_pf, v_pz, v_fo, v_if, v_sw, v_lw, v_fl, v_cy, v_cyd, w_lr, wl_some, k_sq0, k_sq1, k_sq2, k_sq3, k_se, k_ex, k_rt, k_l, k_b2, k_b1, k_q2, k_q1, k_ald, k_tb, k_pi, k_condT, k_condF, k_condK, k_call, k_ac, k_ai, k_aq, k_c2, k_c1, k_c0, k_nt, k_andT, k_andF, k_orT, k_orF, k_as2, k_as1, k_az2, k_az1, k_ao2, k_ao1, k_pf, k_pz, k_fo, k_ifT, k_ifF, k_br0, k_br1, k_br2, k_br3, k_s0, k_s1, k_t1, k_s4, k_t4, k_s20, k_t20, zpk_n, zpk_z, zpk_s, k_lw, k_fl, k_cy3, k_cy2, k_cy1, k_cd2, k_cd1, k_w3, k_w20, k_w21, k_w22, k_w23, k_w1T, k_w1F, k_fi, k_fz1, k_fz0, k_fzi, k_fz, k_fv0, k_fv3, k_I, k_B0, k_B1, k_B2, k_B3, k_C, k_E, zenv, zup, ze0, n_add, n_mul, m_st, m_sa, m_ne, m_ss, mm_s, mm_f, mm_ne, mm_ss, mm_sf, Nat.zero_add, u_at, u_ne, if_true, if_false, ite_true, ite_false, reduceIte, and_self, and_true, true_and, or_true, true_or, or_false, false_or, or_self, and_false, false_and, Bool.not_true, Bool.not_false, decide_true, decide_false, ne_eq, n_eqT, n_eqF, n_ltT, n_ltF, n_leT, n_leF, n_z0, n_zF, n_o1, n_oF, n_p0, n_pF, n_lt0, n_ge0, zeq, zne, zlt, zle, zge, zgt, ziadd, zisub, zimul, ziand, zior, zixor, zishl, zishr, ziushr, zidiv, zirem, zmax, zmin, Bool.false_eq_true, not_true_eq_false, not_false_eq_true, Nat.reduceEqDiff, Nat.reduceAdd, Nat.reduceMul, Nat.reduceSub, g_in, h, o1, o2, o3, e_isRF h, g_isRF h]
      exact OkS.rf I
    · simp -implicitDefEqProofs (disch := omega) only [zA0_ap, zA1_ap, zA2_ap, zA3_ap, zA4_ap, zA5_ap, v_fi, v_fz, v_fv, w_k, v_l, v_bin, v_biq, v_ald, v_tb, w_al, w_fd, v_cond, v_call, v_pi, w_an, v_ai, v_aq, v_cmp, v_cm0, w_cb, v_nt, v_and, v_or, w_sk, w_bk, w_cn, w_rv, v_rt, v_sq, v_se, v_ex, v_as, v_az, v_ao, v_pf, v_pz, v_fo, v_if, v_sw, v_lw, v_fl, v_cy, v_cyd, w_lr, wl_some, k_sq0, k_sq1, k_sq2, k_sq3, k_se, k_ex, k_rt, k_l, k_b2, k_b1, k_q2, k_q1, k_ald, k_tb, k_pi, k_condT, k_condF, k_condK, k_call, k_ac, k_ai, k_aq, k_c2, k_c1, k_c0, k_nt, k_andT, k_andF, k_orT, k_orF, k_as2, k_as1, k_az2, k_az1, k_ao2, k_ao1, k_pf, k_pz, k_fo, k_ifT, k_ifF, k_br0, k_br1, k_br2, k_br3, k_s0, k_s1, k_t1, k_s4, k_t4, k_s20, k_t20, zpk_n, zpk_z, zpk_s, k_lw, k_fl, k_cy3, k_cy2, k_cy1, k_cd2, k_cd1, k_w3, k_w20, k_w21, k_w22, k_w23, k_w1T, k_w1F, k_fi, k_fz1, k_fz0, k_fzi, k_fz, k_fv0, k_fv3, k_I, k_B0, k_B1, k_B2, k_B3, k_C, k_E, zenv, zup, ze0, n_add, n_mul, m_st, m_sa, m_ne, m_ss, mm_s, mm_f, mm_ne, mm_ss, mm_sf, Nat.zero_add, u_at, u_ne, if_true, if_false, ite_true, ite_false, reduceIte, and_self, and_true, true_and, or_true, true_or, or_false, false_or, or_self, and_false, false_and, Bool.not_true, Bool.not_false, decide_true, decide_false, ne_eq, n_eqT, n_eqF, n_ltT, n_ltF, n_leT, n_leF, n_z0, n_zF, n_o1, n_oF, n_p0, n_pF, n_lt0, n_ge0, zeq, zne, zlt, zle, zge, zgt, ziadd, zisub, zimul, ziand, zior, zixor, zishl, zishr, ziushr, zidiv, zirem, zmax, zmin, Bool.false_eq_true, not_true_eq_false, not_false_eq_true, Nat.reduceEqDiff, Nat.reduceAdd, Nat.reduceMul, Nat.reduceSub, g_in, h, o1, o2, o3, o4, o5, o6, o7, e_isRF h, g_isRF h]
      exact OkS.rf I
theorem e_sizeN {q r l : Nat} (hr : r < 6) (h : μ (q + 2) r = nI l) (hl : l ≤ 30) : wr (M_X6_size q [nI r] μ) Q = Q (nI l) μ := by
  simp only [M_X6_size, B_X6_size]
  by_cases h0 : l = 0
  · simp -implicitDefEqProofs (disch := omega) only [zA0_ap, zA1_ap, zA2_ap, zA3_ap, zA4_ap, zA5_ap, v_fi, v_fz, v_fv, w_k, v_l, v_bin, v_biq, v_ald, v_tb, w_al, w_fd, v_cond, v_call, v_pi, w_an, v_ai, v_aq, v_cmp, v_cm0, w_cb, v_nt, v_and, v_or, w_sk, w_bk, w_cn, w_rv, v_rt, v_sq, v_se, v_ex, v_as, v_az, v_ao, v_pf, v_pz, v_fo, v_if, v_sw, v_lw, v_fl, v_cy, v_cyd, w_lr, wl_some, k_sq0, k_sq1, k_sq2, k_sq3, k_se, k_ex, k_rt, k_l, k_b2, k_b1, k_q2, k_q1, k_ald, k_tb, k_pi, k_condT, k_condF, k_condK, k_call, k_ac, k_ai, k_aq, k_c2, k_c1, k_c0, k_nt, k_andT, k_andF, k_orT, k_orF, k_as2, k_as1, k_az2, k_az1, k_ao2, k_ao1, k_pf, k_pz, k_fo, k_ifT, k_ifF, k_br0, k_br1, k_br2, k_br3, k_s0, k_s1, k_t1, k_s4, k_t4, k_s20, k_t20, zpk_n, zpk_z, zpk_s, k_lw, k_fl, k_cy3, k_cy2, k_cy1, k_cd2, k_cd1, k_w3, k_w20, k_w21, k_w22, k_w23, k_w1T, k_w1F, k_fi, k_fz1, k_fz0, k_fzi, k_fz, k_fv0, k_fv3, k_I, k_B0, k_B1, k_B2, k_B3, k_C, k_E, zenv, zup, ze0, n_add, n_mul, m_st, m_sa, m_ne, m_ss, mm_s, mm_f, mm_ne, mm_ss, mm_sf, Nat.zero_add, u_at, u_ne, if_true, if_false, ite_true, ite_false, reduceIte, and_self, and_true, true_and, or_true, true_or, or_false, false_or, or_self, and_false, false_and, Bool.not_true, Bool.not_false, decide_true, decide_false, ne_eq, n_eqT, n_eqF, n_ltT, n_ltF, n_leT, n_leF, n_z0, n_zF, n_o1, n_oF, n_p0, n_pF, n_lt0, n_ge0, zeq, zne, zlt, zle, zge, zgt, ziadd, zisub, zimul, ziand, zior, zixor, zishl, zishr, ziushr, zidiv, zirem, zmax, zmin, Bool.false_eq_true, not_true_eq_false, not_false_eq_true, Nat.reduceEqDiff, Nat.reduceAdd, Nat.reduceMul, Nat.reduceSub, h, h0]
  · simp -implicitDefEqProofs (disch := omega) only [zA0_ap, zA1_ap, zA2_ap, zA3_ap, zA4_ap, zA5_ap, v_fi, v_fz, v_fv, w_k, v_l, v_bin, v_biq, v_ald, v_tb, w_al, w_fd, v_cond, v_call, v_pi, w_an, v_ai, v_aq, v_cmp, v_cm0, w_cb, v_nt, v_and, v_or, w_sk, w_bk, w_cn, w_rv, v_rt, v_sq, v_se, v_ex, v_as, v_az, v_ao, v_pf, v_pz, v_fo, v_if, v_sw, v_lw, v_fl, v_cy, v_cyd, w_lr, wl_some, k_sq0, k_sq1, k_sq2, k_sq3, k_se, k_ex, k_rt, k_l, k_b2, k_b1, k_q2, k_q1, k_ald, k_tb, k_pi, k_condT, k_condF, k_condK, k_call, k_ac, k_ai, k_aq, k_c2, k_c1, k_c0, k_nt, k_andT, k_andF, k_orT, k_orF, k_as2, k_as1, k_az2, k_az1, k_ao2, k_ao1, k_pf, k_pz, k_fo, k_ifT, k_ifF, k_br0, k_br1, k_br2, k_br3, k_s0, k_s1, k_t1, k_s4, k_t4, k_s20, k_t20, zpk_n, zpk_z, zpk_s, k_lw, k_fl, k_cy3, k_cy2, k_cy1, k_cd2, k_cd1, k_w3, k_w20, k_w21, k_w22, k_w23, k_w1T, k_w1F, k_fi, k_fz1, k_fz0, k_fzi, k_fz, k_fv0, k_fv3, k_I, k_B0, k_B1, k_B2, k_B3, k_C, k_E, zenv, zup, ze0, n_add, n_mul, m_st, m_sa, m_ne, m_ss, mm_s, mm_f, mm_ne, mm_ss, mm_sf, Nat.zero_add, u_at, u_ne, if_true, if_false, ite_true, ite_false, reduceIte, and_self, and_true, true_and, or_true, true_or, or_false, false_or, or_self, and_false, false_and, Bool.not_true, Bool.not_false, decide_true, decide_false, ne_eq, n_eqT, n_eqF, n_ltT, n_ltF, n_leT, n_leF, n_z0, n_zF, n_o1, n_oF, n_p0, n_pF, n_lt0, n_ge0, zeq, zne, zlt, zle, zge, zgt, ziadd, zisub, zimul, ziand, zior, zixor, zishl, zishr, ziushr, zidiv, zirem, zmax, zmin, Bool.false_eq_true, not_true_eq_false, not_false_eq_true, Nat.reduceEqDiff, Nat.reduceAdd, Nat.reduceMul, Nat.reduceSub, h, show 0 < l by omega]
theorem e_sizeG {q r : Nat} (hr : r < 6) (h : μ (q + 2) r = -1) : wr (M_X6_size q [nI r] μ) Q = Q (nI 0) μ := by
  simp only [M_X6_size, B_X6_size]
  simp -implicitDefEqProofs (disch := omega) only [zA0_ap, zA1_ap, zA2_ap, zA3_ap, zA4_ap, zA5_ap, v_fi, v_fz, v_fv, w_k, v_l, v_bin, v_biq, v_ald, v_tb, w_al, w_fd, v_cond, v_call, v_pi, w_an, v_ai, v_aq, v_cmp, v_cm0, w_cb, v_nt, v_and, v_or, w_sk, w_bk, w_cn, w_rv, v_rt, v_sq, v_se, v_ex, v_as, v_az, v_ao, v_pf, v_pz, v_fo, v_if, v_sw, v_lw, v_fl, v_cy, v_cyd, w_lr, wl_some, k_sq0, k_sq1, k_sq2, k_sq3, k_se, k_ex, k_rt, k_l, k_b2, k_b1, k_q2, k_q1, k_ald, k_tb, k_pi, k_condT, k_condF, k_condK, k_call, k_ac, k_ai, k_aq, k_c2, k_c1, k_c0, k_nt, k_andT, k_andF, k_orT, k_orF, k_as2, k_as1, k_az2, k_az1, k_ao2, k_ao1, k_pf, k_pz, k_fo, k_ifT, k_ifF, k_br0, k_br1, k_br2, k_br3, k_s0, k_s1, k_t1, k_s4, k_t4, k_s20, k_t20, zpk_n, zpk_z, zpk_s, k_lw, k_fl, k_cy3, k_cy2, k_cy1, k_cd2, k_cd1, k_w3, k_w20, k_w21, k_w22, k_w23, k_w1T, k_w1F, k_fi, k_fz1, k_fz0, k_fzi, k_fz, k_fv0, k_fv3, k_I, k_B0, k_B1, k_B2, k_B3, k_C, k_E, zenv, zup, ze0, n_add, n_mul, m_st, m_sa, m_ne, m_ss, mm_s, mm_f, mm_ne, mm_ss, mm_sf, Nat.zero_add, u_at, u_ne, if_true, if_false, ite_true, ite_false, reduceIte, and_self, and_true, true_and, or_true, true_or, or_false, false_or, or_self, and_false, false_and, Bool.not_true, Bool.not_false, decide_true, decide_false, ne_eq, n_eqT, n_eqF, n_ltT, n_ltF, n_leT, n_leF, n_z0, n_zF, n_o1, n_oF, n_p0, n_pF, n_lt0, n_ge0, zeq, zne, zlt, zle, zge, zgt, ziadd, zisub, zimul, ziand, zior, zixor, zishl, zishr, ziushr, zidiv, zirem, zmax, zmin, Bool.false_eq_true, not_true_eq_false, not_false_eq_true, Nat.reduceEqDiff, Nat.reduceAdd, Nat.reduceMul, Nat.reduceSub, h, show ¬ (nI 0 < (-1 : Int32)) by decide]
theorem i_m1 {v : Int32} (h : v < 0) (h1 : ¬ v = -1) : v < -1 ∧ ¬ -1 ≤ v := by
  simp only [Int32.lt_iff_toInt_lt, Int32.le_iff_toInt_le, show (0 : Int32).toInt = 0 from rfl, show (-1 : Int32).toInt = -1 from rfl] at h ⊢
  have : ¬ v.toInt = -1 := fun e => h1 (Int32.toInt_inj.mp e)
  omega
theorem i_ge {v : Int32} (h : ¬ v < 0) : ¬ v < -1 ∧ -1 ≤ v := by
  simp only [Int32.lt_iff_toInt_lt, Int32.le_iff_toInt_le, show (0 : Int32).toInt = 0 from rfl, show (-1 : Int32).toInt = -1 from rfl] at h ⊢
  omega
theorem m1_le {l : Nat} (h : l < 2147483648) : ((-1 : Int32) ≤ nI l) ∧ ¬ nI l < (-1 : Int32) ∧ ¬ nI l < -1 ∧ ¬ nI l = -1 := by
  refine ⟨?_, ?_, ?_, ?_⟩
  · rw [Int32.le_iff_toInt_le, n_toInt h, show (-1 : Int32).toInt = -1 from rfl]; omega
  · rw [Int32.lt_iff_toInt_lt, n_toInt h, show (-1 : Int32).toInt = -1 from rfl]; omega
  · rw [Int32.lt_iff_toInt_lt, n_toInt h, show (-1 : Int32).toInt = -1 from rfl]; omega
  · intro e
    have := congrArg Int32.toInt e
    rw [n_toInt h, show (-1 : Int32).toInt = -1 from rfl] at this
    omega
theorem s_tear (I : StI x m μ ν) : wr (M_X8_tear x [v, w] μ) (fun r μ' => wr (M_X9_tear m [v, w] ν) (fun r' ν' => r' = r ∧ OkS x m μ ν μ' ν')) := by
  simp only [M_X8_tear, B_X8_tear, M_X9_tear, B_X9_tear]
  obtain ⟨⟨R1, R2, R3, R4, R5, R6, R7, R8, R9⟩, V1, V2, V3, V4, V5, V6, V7, V8⟩ := I.1
  by_cases h : nI 0 ≤ v ∧ v ≤ nI 5
  · obtain ⟨r0, hr0, rfl⟩ := i_in (by omega) h
    rcases V1 r0 (by omega) with hT | ⟨L, hL, hT⟩
    · have hT : μ (x + 1 + 2) r0 = -1 := hT
      have hM : ν (m + 1) r0 = -1 := (R1 r0 (by omega)).trans hT
      by_cases h1 : w = -1
      · subst h1
        simp -implicitDefEqProofs (disch := omega) only [zA0_ap, zA1_ap, zA2_ap, zA3_ap, zA4_ap, zA5_ap, v_fi, v_fz, v_fv, w_k, v_l, v_bin, v_biq, v_ald, v_tb, w_al, w_fd, v_cond, v_call, v_pi, w_an, v_ai, v_aq, v_cmp, v_cm0, w_cb, v_nt, v_and, v_or, w_sk, w_bk, w_cn, w_rv, v_rt, v_sq, v_se, v_ex, v_as, v_az, v_ao, v_pf, v_pz, v_fo, v_if, v_sw, v_lw, v_fl, v_cy, v_cyd, w_lr, wl_some, k_sq0, k_sq1, k_sq2, k_sq3, k_se, k_ex, k_rt, k_l, k_b2, k_b1, k_q2, k_q1, k_ald, k_tb, k_pi, k_condT, k_condF, k_condK, k_call, k_ac, k_ai, k_aq, k_c2, k_c1, k_c0, k_nt, k_andT, k_andF, k_orT, k_orF, k_as2, k_as1, k_az2, k_az1, k_ao2, k_ao1, k_pf, k_pz, k_fo, k_ifT, k_ifF, k_br0, k_br1, k_br2, k_br3, k_s0, k_s1, k_t1, k_s4, k_t4, k_s20, k_t20, zpk_n, zpk_z, zpk_s, k_lw, k_fl, k_cy3, k_cy2, k_cy1, k_cd2, k_cd1, k_w3, k_w20, k_w21, k_w22, k_w23, k_w1T, k_w1F, k_fi, k_fz1, k_fz0, k_fzi, k_fz, k_fv0, k_fv3, k_I, k_B0, k_B1, k_B2, k_B3, k_C, k_E, zenv, zup, ze0, n_add, n_mul, m_st, m_sa, m_ne, m_ss, mm_s, mm_f, mm_ne, mm_ss, mm_sf, Nat.zero_add, u_at, u_ne, if_true, if_false, ite_true, ite_false, reduceIte, and_self, and_true, true_and, or_true, true_or, or_false, false_or, or_self, and_false, false_and, Bool.not_true, Bool.not_false, decide_true, decide_false, ne_eq, n_eqT, n_eqF, n_ltT, n_ltF, n_leT, n_leF, n_z0, n_zF, n_o1, n_oF, n_p0, n_pF, n_lt0, n_ge0, zeq, zne, zlt, zle, zge, zgt, ziadd, zisub, zimul, ziand, zior, zixor, zishl, zishr, ziushr, zidiv, zirem, zmax, zmin, Bool.false_eq_true, not_true_eq_false, not_false_eq_true, Nat.reduceEqDiff, Nat.reduceAdd, Nat.reduceMul, Nat.reduceSub, g_in, e_isR, g_isR, hM, e_sizeG (show r0 < 6 by omega) hT, m1_lt, show ¬ ((-1 : Int32) < -1) by decide, show ((-1 : Int32) ≤ -1) by decide, m1_le, show ¬ (nI 0 < (-1 : Int32)) from (m1_le (by omega)).2.1, show ((-1 : Int32) ≤ nI 0) from (m1_le (by omega)).1]
        refine (OkS.plan I (fun a ha => ?_) (fun i hi => ?_) ?_ ?_)
        · simp (disch := omega) only [m_ne]
        · simp (disch := omega) only [u_ne]
        · refine ⟨fun r hr => ?_, fun r n j hr hn hj => ?_, fun r n hr hn => ?_, fun r hr => ?_, fun t ht => ?_, fun t i ht hi => ?_, ?_, ?_, ?_⟩
          · by_cases e : r = r0
            · simp (disch := omega) only [m_ne, m_at, u_ne, u_at]
            · simp (disch := omega) only [m_ne, m_at, u_ne, u_at]
              exact R1 r hr
          · simp (disch := omega) only [m_ne, m_at, u_ne, u_at]
            exact R2 r n j hr hn hj
          · simp (disch := omega) only [m_ne, m_at, u_ne, u_at]
            exact R3 r n hr hn
          · simp (disch := omega) only [m_ne, m_at, u_ne, u_at]
            exact R4 r hr
          · simp (disch := omega) only [m_ne, m_at, u_ne, u_at]
            exact R5 t ht
          · have h3 : i ≤ 3 := by split at hi <;> omega
            simp (disch := omega) only [m_ne, m_at, u_ne, u_at]
            exact R6 t i ht hi
          · simp (disch := omega) only [m_ne, m_at, u_ne, u_at]
            exact R7
          · simp (disch := omega) only [m_ne, m_at, u_ne, u_at]
            exact R8
          · simp (disch := omega) only [m_ne, m_at, u_ne, u_at]
            exact R9
        · refine ⟨fun r hr => ?_, fun r p hr hp => ?_, fun r hr => ?_, ?_, fun i hi => ?_, ?_, ?_, ?_⟩
          · by_cases e : r = r0
            · simp (disch := omega) only [m_ne, m_at, u_ne, u_at]
              exact Or.inl trivial
            · simp (disch := omega) only [m_ne, m_at, u_ne, u_at]
              exact V1 r hr
          · simp (disch := omega) only [m_ne, m_at, u_ne, u_at]
            exact V2 r p hr hp
          · simp (disch := omega) only [m_ne, m_at, u_ne, u_at]
            exact V3 r hr
          · simp (disch := omega) only [m_ne, m_at, u_ne, u_at]
            exact V4
          · simp (disch := omega) only [m_ne, m_at, u_ne, u_at]
            exact V5 i hi
          · simp (disch := omega) only [m_ne, m_at, u_ne, u_at]
            exact V6
          · simp (disch := omega) only [m_ne, m_at, u_ne, u_at]
            exact V7
          · simp (disch := omega) only [m_ne, m_at, u_ne, u_at]
            exact V8
      · by_cases h : nI 0 ≤ w ∧ w ≤ nI 0
        · obtain ⟨k, hk, rfl⟩ := i_in (by omega) h
          simp -implicitDefEqProofs (disch := omega) only [zA0_ap, zA1_ap, zA2_ap, zA3_ap, zA4_ap, zA5_ap, v_fi, v_fz, v_fv, w_k, v_l, v_bin, v_biq, v_ald, v_tb, w_al, w_fd, v_cond, v_call, v_pi, w_an, v_ai, v_aq, v_cmp, v_cm0, w_cb, v_nt, v_and, v_or, w_sk, w_bk, w_cn, w_rv, v_rt, v_sq, v_se, v_ex, v_as, v_az, v_ao, v_pf, v_pz, v_fo, v_if, v_sw, v_lw, v_fl, v_cy, v_cyd, w_lr, wl_some, k_sq0, k_sq1, k_sq2, k_sq3, k_se, k_ex, k_rt, k_l, k_b2, k_b1, k_q2, k_q1, k_ald, k_tb, k_pi, k_condT, k_condF, k_condK, k_call, k_ac, k_ai, k_aq, k_c2, k_c1, k_c0, k_nt, k_andT, k_andF, k_orT, k_orF, k_as2, k_as1, k_az2, k_az1, k_ao2, k_ao1, k_pf, k_pz, k_fo, k_ifT, k_ifF, k_br0, k_br1, k_br2, k_br3, k_s0, k_s1, k_t1, k_s4, k_t4, k_s20, k_t20, zpk_n, zpk_z, zpk_s, k_lw, k_fl, k_cy3, k_cy2, k_cy1, k_cd2, k_cd1, k_w3, k_w20, k_w21, k_w22, k_w23, k_w1T, k_w1F, k_fi, k_fz1, k_fz0, k_fzi, k_fz, k_fv0, k_fv3, k_I, k_B0, k_B1, k_B2, k_B3, k_C, k_E, zenv, zup, ze0, n_add, n_mul, m_st, m_sa, m_ne, m_ss, mm_s, mm_f, mm_ne, mm_ss, mm_sf, Nat.zero_add, u_at, u_ne, if_true, if_false, ite_true, ite_false, reduceIte, and_self, and_true, true_and, or_true, true_or, or_false, false_or, or_self, and_false, false_and, Bool.not_true, Bool.not_false, decide_true, decide_false, ne_eq, n_eqT, n_eqF, n_ltT, n_ltF, n_leT, n_leF, n_z0, n_zF, n_o1, n_oF, n_p0, n_pF, n_lt0, n_ge0, zeq, zne, zlt, zle, zge, zgt, ziadd, zisub, zimul, ziand, zior, zixor, zishl, zishr, ziushr, zidiv, zirem, zmax, zmin, Bool.false_eq_true, not_true_eq_false, not_false_eq_true, Nat.reduceEqDiff, Nat.reduceAdd, Nat.reduceMul, Nat.reduceSub, g_in, e_isR, g_isR, hM, e_sizeG (show r0 < 6 by omega) hT, m1_lt, (m1_le (show k < 2147483648 by omega))]
          refine (OkS.plan I (fun a ha => ?_) (fun i hi => ?_) ?_ ?_)
          · simp (disch := omega) only [m_ne]
          · simp (disch := omega) only [u_ne]
          · refine ⟨fun r hr => ?_, fun r n j hr hn hj => ?_, fun r n hr hn => ?_, fun r hr => ?_, fun t ht => ?_, fun t i ht hi => ?_, ?_, ?_, ?_⟩
            · by_cases e : r = r0
              · simp (disch := omega) only [m_ne, m_at, u_ne, u_at]
              · simp (disch := omega) only [m_ne, m_at, u_ne, u_at]
                exact R1 r hr
            · simp (disch := omega) only [m_ne, m_at, u_ne, u_at]
              exact R2 r n j hr hn hj
            · simp (disch := omega) only [m_ne, m_at, u_ne, u_at]
              exact R3 r n hr hn
            · simp (disch := omega) only [m_ne, m_at, u_ne, u_at]
              exact R4 r hr
            · simp (disch := omega) only [m_ne, m_at, u_ne, u_at]
              exact R5 t ht
            · have h3 : i ≤ 3 := by split at hi <;> omega
              simp (disch := omega) only [m_ne, m_at, u_ne, u_at]
              exact R6 t i ht hi
            · simp (disch := omega) only [m_ne, m_at, u_ne, u_at]
              exact R7
            · simp (disch := omega) only [m_ne, m_at, u_ne, u_at]
              exact R8
            · simp (disch := omega) only [m_ne, m_at, u_ne, u_at]
              exact R9
          · refine ⟨fun r hr => ?_, fun r p hr hp => ?_, fun r hr => ?_, ?_, fun i hi => ?_, ?_, ?_, ?_⟩
            · by_cases e : r = r0
              · simp (disch := omega) only [m_ne, m_at, u_ne, u_at]
                exact Or.inr ⟨k, by omega, rfl⟩
              · simp (disch := omega) only [m_ne, m_at, u_ne, u_at]
                exact V1 r hr
            · simp (disch := omega) only [m_ne, m_at, u_ne, u_at]
              exact V2 r p hr hp
            · simp (disch := omega) only [m_ne, m_at, u_ne, u_at]
              exact V3 r hr
            · simp (disch := omega) only [m_ne, m_at, u_ne, u_at]
              exact V4
            · simp (disch := omega) only [m_ne, m_at, u_ne, u_at]
              exact V5 i hi
            · simp (disch := omega) only [m_ne, m_at, u_ne, u_at]
              exact V6
            · simp (disch := omega) only [m_ne, m_at, u_ne, u_at]
              exact V7
            · simp (disch := omega) only [m_ne, m_at, u_ne, u_at]
              exact V8
        · rcases i_out (by omega) h with ⟨o1, o2, o3⟩ | ⟨o1, o2, o3, o4, o5, o6, o7⟩
          · simp -implicitDefEqProofs (disch := omega) only [zA0_ap, zA1_ap, zA2_ap, zA3_ap, zA4_ap, zA5_ap, v_fi, v_fz, v_fv, w_k, v_l, v_bin, v_biq, v_ald, v_tb, w_al, w_fd, v_cond, v_call, v_pi, w_an, v_ai, v_aq, v_cmp, v_cm0, w_cb, v_nt, v_and, v_or, w_sk, w_bk, w_cn, w_rv, v_rt, v_sq, v_se, v_ex, v_as, v_az, v_ao, v_pf, v_pz, v_fo, v_if, v_sw, v_lw, v_fl, v_cy, v_cyd, w_lr, wl_some, k_sq0, k_sq1, k_sq2, k_sq3, k_se, k_ex, k_rt, k_l, k_b2, k_b1, k_q2, k_q1, k_ald, k_tb, k_pi, k_condT, k_condF, k_condK, k_call, k_ac, k_ai, k_aq, k_c2, k_c1, k_c0, k_nt, k_andT, k_andF, k_orT, k_orF, k_as2, k_as1, k_az2, k_az1, k_ao2, k_ao1, k_pf, k_pz, k_fo, k_ifT, k_ifF, k_br0, k_br1, k_br2, k_br3, k_s0, k_s1, k_t1, k_s4, k_t4, k_s20, k_t20, zpk_n, zpk_z, zpk_s, k_lw, k_fl, k_cy3, k_cy2, k_cy1, k_cd2, k_cd1, k_w3, k_w20, k_w21, k_w22, k_w23, k_w1T, k_w1F, k_fi, k_fz1, k_fz0, k_fzi, k_fz, k_fv0, k_fv3, k_I, k_B0, k_B1, k_B2, k_B3, k_C, k_E, zenv, zup, ze0, n_add, n_mul, m_st, m_sa, m_ne, m_ss, mm_s, mm_f, mm_ne, mm_ss, mm_sf, Nat.zero_add, u_at, u_ne, if_true, if_false, ite_true, ite_false, reduceIte, and_self, and_true, true_and, or_true, true_or, or_false, false_or, or_self, and_false, false_and, Bool.not_true, Bool.not_false, decide_true, decide_false, ne_eq, n_eqT, n_eqF, n_ltT, n_ltF, n_leT, n_leF, n_z0, n_zF, n_o1, n_oF, n_p0, n_pF, n_lt0, n_ge0, zeq, zne, zlt, zle, zge, zgt, ziadd, zisub, zimul, ziand, zior, zixor, zishl, zishr, ziushr, zidiv, zirem, zmax, zmin, Bool.false_eq_true, not_true_eq_false, not_false_eq_true, Nat.reduceEqDiff, Nat.reduceAdd, Nat.reduceMul, Nat.reduceSub, g_in, e_isR, g_isR, hM, e_sizeG (show r0 < 6 by omega) hT, m1_lt, i_m1 o1 h1]
            exact OkS.rf I
          · simp -implicitDefEqProofs (disch := omega) only [zA0_ap, zA1_ap, zA2_ap, zA3_ap, zA4_ap, zA5_ap, v_fi, v_fz, v_fv, w_k, v_l, v_bin, v_biq, v_ald, v_tb, w_al, w_fd, v_cond, v_call, v_pi, w_an, v_ai, v_aq, v_cmp, v_cm0, w_cb, v_nt, v_and, v_or, w_sk, w_bk, w_cn, w_rv, v_rt, v_sq, v_se, v_ex, v_as, v_az, v_ao, v_pf, v_pz, v_fo, v_if, v_sw, v_lw, v_fl, v_cy, v_cyd, w_lr, wl_some, k_sq0, k_sq1, k_sq2, k_sq3, k_se, k_ex, k_rt, k_l, k_b2, k_b1, k_q2, k_q1, k_ald, k_tb, k_pi, k_condT, k_condF, k_condK, k_call, k_ac, k_ai, k_aq, k_c2, k_c1, k_c0, k_nt, k_andT, k_andF, k_orT, k_orF, k_as2, k_as1, k_az2, k_az1, k_ao2, k_ao1, k_pf, k_pz, k_fo, k_ifT, k_ifF, k_br0, k_br1, k_br2, k_br3, k_s0, k_s1, k_t1, k_s4, k_t4, k_s20, k_t20, zpk_n, zpk_z, zpk_s, k_lw, k_fl, k_cy3, k_cy2, k_cy1, k_cd2, k_cd1, k_w3, k_w20, k_w21, k_w22, k_w23, k_w1T, k_w1F, k_fi, k_fz1, k_fz0, k_fzi, k_fz, k_fv0, k_fv3, k_I, k_B0, k_B1, k_B2, k_B3, k_C, k_E, zenv, zup, ze0, n_add, n_mul, m_st, m_sa, m_ne, m_ss, mm_s, mm_f, mm_ne, mm_ss, mm_sf, Nat.zero_add, u_at, u_ne, if_true, if_false, ite_true, ite_false, reduceIte, and_self, and_true, true_and, or_true, true_or, or_false, false_or, or_self, and_false, false_and, Bool.not_true, Bool.not_false, decide_true, decide_false, ne_eq, n_eqT, n_eqF, n_ltT, n_ltF, n_leT, n_leF, n_z0, n_zF, n_o1, n_oF, n_p0, n_pF, n_lt0, n_ge0, zeq, zne, zlt, zle, zge, zgt, ziadd, zisub, zimul, ziand, zior, zixor, zishl, zishr, ziushr, zidiv, zirem, zmax, zmin, Bool.false_eq_true, not_true_eq_false, not_false_eq_true, Nat.reduceEqDiff, Nat.reduceAdd, Nat.reduceMul, Nat.reduceSub, g_in, e_isR, g_isR, hM, e_sizeG (show r0 < 6 by omega) hT, m1_lt, i_ge o1, o4, o5]
            exact OkS.rf I
    · have hT : μ (x + 1 + 2) r0 = nI L := hT
      have hM : ν (m + 1) r0 = nI L := (R1 r0 (by omega)).trans hT
      by_cases h1 : w = -1
      · subst h1
        simp -implicitDefEqProofs (disch := omega) only [zA0_ap, zA1_ap, zA2_ap, zA3_ap, zA4_ap, zA5_ap, v_fi, v_fz, v_fv, w_k, v_l, v_bin, v_biq, v_ald, v_tb, w_al, w_fd, v_cond, v_call, v_pi, w_an, v_ai, v_aq, v_cmp, v_cm0, w_cb, v_nt, v_and, v_or, w_sk, w_bk, w_cn, w_rv, v_rt, v_sq, v_se, v_ex, v_as, v_az, v_ao, v_pf, v_pz, v_fo, v_if, v_sw, v_lw, v_fl, v_cy, v_cyd, w_lr, wl_some, k_sq0, k_sq1, k_sq2, k_sq3, k_se, k_ex, k_rt, k_l, k_b2, k_b1, k_q2, k_q1, k_ald, k_tb, k_pi, k_condT, k_condF, k_condK, k_call, k_ac, k_ai, k_aq, k_c2, k_c1, k_c0, k_nt, k_andT, k_andF, k_orT, k_orF, k_as2, k_as1, k_az2, k_az1, k_ao2, k_ao1, k_pf, k_pz, k_fo, k_ifT, k_ifF, k_br0, k_br1, k_br2, k_br3, k_s0, k_s1, k_t1, k_s4, k_t4, k_s20, k_t20, zpk_n, zpk_z, zpk_s, k_lw, k_fl, k_cy3, k_cy2, k_cy1, k_cd2, k_cd1, k_w3, k_w20, k_w21, k_w22, k_w23, k_w1T, k_w1F, k_fi, k_fz1, k_fz0, k_fzi, k_fz, k_fv0, k_fv3, k_I, k_B0, k_B1, k_B2, k_B3, k_C, k_E, zenv, zup, ze0, n_add, n_mul, m_st, m_sa, m_ne, m_ss, mm_s, mm_f, mm_ne, mm_ss, mm_sf, Nat.zero_add, u_at, u_ne, if_true, if_false, ite_true, ite_false, reduceIte, and_self, and_true, true_and, or_true, true_or, or_false, false_or, or_self, and_false, false_and, Bool.not_true, Bool.not_false, decide_true, decide_false, ne_eq, n_eqT, n_eqF, n_ltT, n_ltF, n_leT, n_leF, n_z0, n_zF, n_o1, n_oF, n_p0, n_pF, n_lt0, n_ge0, zeq, zne, zlt, zle, zge, zgt, ziadd, zisub, zimul, ziand, zior, zixor, zishl, zishr, ziushr, zidiv, zirem, zmax, zmin, Bool.false_eq_true, not_true_eq_false, not_false_eq_true, Nat.reduceEqDiff, Nat.reduceAdd, Nat.reduceMul, Nat.reduceSub, g_in, e_isR, g_isR, hM, e_sizeN (show r0 < 6 by omega) hT hL, m1_lt, show ¬ ((-1 : Int32) < -1) by decide, show ((-1 : Int32) ≤ -1) by decide, m1_le, show ¬ (nI L < (-1 : Int32)) from (m1_le (by omega)).2.1, show ((-1 : Int32) ≤ nI L) from (m1_le (by omega)).1]
        refine (OkS.plan I (fun a ha => ?_) (fun i hi => ?_) ?_ ?_)
        · simp (disch := omega) only [m_ne]
        · simp (disch := omega) only [u_ne]
        · refine ⟨fun r hr => ?_, fun r n j hr hn hj => ?_, fun r n hr hn => ?_, fun r hr => ?_, fun t ht => ?_, fun t i ht hi => ?_, ?_, ?_, ?_⟩
          · by_cases e : r = r0
            · simp (disch := omega) only [m_ne, m_at, u_ne, u_at]
            · simp (disch := omega) only [m_ne, m_at, u_ne, u_at]
              exact R1 r hr
          · simp (disch := omega) only [m_ne, m_at, u_ne, u_at]
            exact R2 r n j hr hn hj
          · simp (disch := omega) only [m_ne, m_at, u_ne, u_at]
            exact R3 r n hr hn
          · simp (disch := omega) only [m_ne, m_at, u_ne, u_at]
            exact R4 r hr
          · simp (disch := omega) only [m_ne, m_at, u_ne, u_at]
            exact R5 t ht
          · have h3 : i ≤ 3 := by split at hi <;> omega
            simp (disch := omega) only [m_ne, m_at, u_ne, u_at]
            exact R6 t i ht hi
          · simp (disch := omega) only [m_ne, m_at, u_ne, u_at]
            exact R7
          · simp (disch := omega) only [m_ne, m_at, u_ne, u_at]
            exact R8
          · simp (disch := omega) only [m_ne, m_at, u_ne, u_at]
            exact R9
        · refine ⟨fun r hr => ?_, fun r p hr hp => ?_, fun r hr => ?_, ?_, fun i hi => ?_, ?_, ?_, ?_⟩
          · by_cases e : r = r0
            · simp (disch := omega) only [m_ne, m_at, u_ne, u_at]
              exact Or.inl trivial
            · simp (disch := omega) only [m_ne, m_at, u_ne, u_at]
              exact V1 r hr
          · simp (disch := omega) only [m_ne, m_at, u_ne, u_at]
            exact V2 r p hr hp
          · simp (disch := omega) only [m_ne, m_at, u_ne, u_at]
            exact V3 r hr
          · simp (disch := omega) only [m_ne, m_at, u_ne, u_at]
            exact V4
          · simp (disch := omega) only [m_ne, m_at, u_ne, u_at]
            exact V5 i hi
          · simp (disch := omega) only [m_ne, m_at, u_ne, u_at]
            exact V6
          · simp (disch := omega) only [m_ne, m_at, u_ne, u_at]
            exact V7
          · simp (disch := omega) only [m_ne, m_at, u_ne, u_at]
            exact V8
      · by_cases h : nI 0 ≤ w ∧ w ≤ nI L
        · obtain ⟨k, hk, rfl⟩ := i_in (by omega) h
          simp -implicitDefEqProofs (disch := omega) only [zA0_ap, zA1_ap, zA2_ap, zA3_ap, zA4_ap, zA5_ap, v_fi, v_fz, v_fv, w_k, v_l, v_bin, v_biq, v_ald, v_tb, w_al, w_fd, v_cond, v_call, v_pi, w_an, v_ai, v_aq, v_cmp, v_cm0, w_cb, v_nt, v_and, v_or, w_sk, w_bk, w_cn, w_rv, v_rt, v_sq, v_se, v_ex, v_as, v_az, v_ao, v_pf, v_pz, v_fo, v_if, v_sw, v_lw, v_fl, v_cy, v_cyd, w_lr, wl_some, k_sq0, k_sq1, k_sq2, k_sq3, k_se, k_ex, k_rt, k_l, k_b2, k_b1, k_q2, k_q1, k_ald, k_tb, k_pi, k_condT, k_condF, k_condK, k_call, k_ac, k_ai, k_aq, k_c2, k_c1, k_c0, k_nt, k_andT, k_andF, k_orT, k_orF, k_as2, k_as1, k_az2, k_az1, k_ao2, k_ao1, k_pf, k_pz, k_fo, k_ifT, k_ifF, k_br0, k_br1, k_br2, k_br3, k_s0, k_s1, k_t1, k_s4, k_t4, k_s20, k_t20, zpk_n, zpk_z, zpk_s, k_lw, k_fl, k_cy3, k_cy2, k_cy1, k_cd2, k_cd1, k_w3, k_w20, k_w21, k_w22, k_w23, k_w1T, k_w1F, k_fi, k_fz1, k_fz0, k_fzi, k_fz, k_fv0, k_fv3, k_I, k_B0, k_B1, k_B2, k_B3, k_C, k_E, zenv, zup, ze0, n_add, n_mul, m_st, m_sa, m_ne, m_ss, mm_s, mm_f, mm_ne, mm_ss, mm_sf, Nat.zero_add, u_at, u_ne, if_true, if_false, ite_true, ite_false, reduceIte, and_self, and_true, true_and, or_true, true_or, or_false, false_or, or_self, and_false, false_and, Bool.not_true, Bool.not_false, decide_true, decide_false, ne_eq, n_eqT, n_eqF, n_ltT, n_ltF, n_leT, n_leF, n_z0, n_zF, n_o1, n_oF, n_p0, n_pF, n_lt0, n_ge0, zeq, zne, zlt, zle, zge, zgt, ziadd, zisub, zimul, ziand, zior, zixor, zishl, zishr, ziushr, zidiv, zirem, zmax, zmin, Bool.false_eq_true, not_true_eq_false, not_false_eq_true, Nat.reduceEqDiff, Nat.reduceAdd, Nat.reduceMul, Nat.reduceSub, g_in, e_isR, g_isR, hM, e_sizeN (show r0 < 6 by omega) hT hL, m1_lt, (m1_le (show k < 2147483648 by omega))]
          refine (OkS.plan I (fun a ha => ?_) (fun i hi => ?_) ?_ ?_)
          · simp (disch := omega) only [m_ne]
          · simp (disch := omega) only [u_ne]
          · refine ⟨fun r hr => ?_, fun r n j hr hn hj => ?_, fun r n hr hn => ?_, fun r hr => ?_, fun t ht => ?_, fun t i ht hi => ?_, ?_, ?_, ?_⟩
            · by_cases e : r = r0
              · simp (disch := omega) only [m_ne, m_at, u_ne, u_at]
              · simp (disch := omega) only [m_ne, m_at, u_ne, u_at]
                exact R1 r hr
            · simp (disch := omega) only [m_ne, m_at, u_ne, u_at]
              exact R2 r n j hr hn hj
            · simp (disch := omega) only [m_ne, m_at, u_ne, u_at]
              exact R3 r n hr hn
            · simp (disch := omega) only [m_ne, m_at, u_ne, u_at]
              exact R4 r hr
            · simp (disch := omega) only [m_ne, m_at, u_ne, u_at]
              exact R5 t ht
            · have h3 : i ≤ 3 := by split at hi <;> omega
              simp (disch := omega) only [m_ne, m_at, u_ne, u_at]
              exact R6 t i ht hi
            · simp (disch := omega) only [m_ne, m_at, u_ne, u_at]
              exact R7
            · simp (disch := omega) only [m_ne, m_at, u_ne, u_at]
              exact R8
            · simp (disch := omega) only [m_ne, m_at, u_ne, u_at]
              exact R9
          · refine ⟨fun r hr => ?_, fun r p hr hp => ?_, fun r hr => ?_, ?_, fun i hi => ?_, ?_, ?_, ?_⟩
            · by_cases e : r = r0
              · simp (disch := omega) only [m_ne, m_at, u_ne, u_at]
                exact Or.inr ⟨k, by omega, rfl⟩
              · simp (disch := omega) only [m_ne, m_at, u_ne, u_at]
                exact V1 r hr
            · simp (disch := omega) only [m_ne, m_at, u_ne, u_at]
              exact V2 r p hr hp
            · simp (disch := omega) only [m_ne, m_at, u_ne, u_at]
              exact V3 r hr
            · simp (disch := omega) only [m_ne, m_at, u_ne, u_at]
              exact V4
            · simp (disch := omega) only [m_ne, m_at, u_ne, u_at]
              exact V5 i hi
            · simp (disch := omega) only [m_ne, m_at, u_ne, u_at]
              exact V6
            · simp (disch := omega) only [m_ne, m_at, u_ne, u_at]
              exact V7
            · simp (disch := omega) only [m_ne, m_at, u_ne, u_at]
              exact V8
        · rcases i_out (by omega) h with ⟨o1, o2, o3⟩ | ⟨o1, o2, o3, o4, o5, o6, o7⟩
          · simp -implicitDefEqProofs (disch := omega) only [zA0_ap, zA1_ap, zA2_ap, zA3_ap, zA4_ap, zA5_ap, v_fi, v_fz, v_fv, w_k, v_l, v_bin, v_biq, v_ald, v_tb, w_al, w_fd, v_cond, v_call, v_pi, w_an, v_ai, v_aq, v_cmp, v_cm0, w_cb, v_nt, v_and, v_or, w_sk, w_bk, w_cn, w_rv, v_rt, v_sq, v_se, v_ex, v_as, v_az, v_ao, v_pf, v_pz, v_fo, v_if, v_sw, v_lw, v_fl, v_cy, v_cyd, w_lr, wl_some, k_sq0, k_sq1, k_sq2, k_sq3, k_se, k_ex, k_rt, k_l, k_b2, k_b1, k_q2, k_q1, k_ald, k_tb, k_pi, k_condT, k_condF, k_condK, k_call, k_ac, k_ai, k_aq, k_c2, k_c1, k_c0, k_nt, k_andT, k_andF, k_orT, k_orF, k_as2, k_as1, k_az2, k_az1, k_ao2, k_ao1, k_pf, k_pz, k_fo, k_ifT, k_ifF, k_br0, k_br1, k_br2, k_br3, k_s0, k_s1, k_t1, k_s4, k_t4, k_s20, k_t20, zpk_n, zpk_z, zpk_s, k_lw, k_fl, k_cy3, k_cy2, k_cy1, k_cd2, k_cd1, k_w3, k_w20, k_w21, k_w22, k_w23, k_w1T, k_w1F, k_fi, k_fz1, k_fz0, k_fzi, k_fz, k_fv0, k_fv3, k_I, k_B0, k_B1, k_B2, k_B3, k_C, k_E, zenv, zup, ze0, n_add, n_mul, m_st, m_sa, m_ne, m_ss, mm_s, mm_f, mm_ne, mm_ss, mm_sf, Nat.zero_add, u_at, u_ne, if_true, if_false, ite_true, ite_false, reduceIte, and_self, and_true, true_and, or_true, true_or, or_false, false_or, or_self, and_false, false_and, Bool.not_true, Bool.not_false, decide_true, decide_false, ne_eq, n_eqT, n_eqF, n_ltT, n_ltF, n_leT, n_leF, n_z0, n_zF, n_o1, n_oF, n_p0, n_pF, n_lt0, n_ge0, zeq, zne, zlt, zle, zge, zgt, ziadd, zisub, zimul, ziand, zior, zixor, zishl, zishr, ziushr, zidiv, zirem, zmax, zmin, Bool.false_eq_true, not_true_eq_false, not_false_eq_true, Nat.reduceEqDiff, Nat.reduceAdd, Nat.reduceMul, Nat.reduceSub, g_in, e_isR, g_isR, hM, e_sizeN (show r0 < 6 by omega) hT hL, m1_lt, i_m1 o1 h1]
            exact OkS.rf I
          · simp -implicitDefEqProofs (disch := omega) only [zA0_ap, zA1_ap, zA2_ap, zA3_ap, zA4_ap, zA5_ap, v_fi, v_fz, v_fv, w_k, v_l, v_bin, v_biq, v_ald, v_tb, w_al, w_fd, v_cond, v_call, v_pi, w_an, v_ai, v_aq, v_cmp, v_cm0, w_cb, v_nt, v_and, v_or, w_sk, w_bk, w_cn, w_rv, v_rt, v_sq, v_se, v_ex, v_as, v_az, v_ao, v_pf, v_pz, v_fo, v_if, v_sw, v_lw, v_fl, v_cy, v_cyd, w_lr, wl_some, k_sq0, k_sq1, k_sq2, k_sq3, k_se, k_ex, k_rt, k_l, k_b2, k_b1, k_q2, k_q1, k_ald, k_tb, k_pi, k_condT, k_condF, k_condK, k_call, k_ac, k_ai, k_aq, k_c2, k_c1, k_c0, k_nt, k_andT, k_andF, k_orT, k_orF, k_as2, k_as1, k_az2, k_az1, k_ao2, k_ao1, k_pf, k_pz, k_fo, k_ifT, k_ifF, k_br0, k_br1, k_br2, k_br3, k_s0, k_s1, k_t1, k_s4, k_t4, k_s20, k_t20, zpk_n, zpk_z, zpk_s, k_lw, k_fl, k_cy3, k_cy2, k_cy1, k_cd2, k_cd1, k_w3, k_w20, k_w21, k_w22, k_w23, k_w1T, k_w1F, k_fi, k_fz1, k_fz0, k_fzi, k_fz, k_fv0, k_fv3, k_I, k_B0, k_B1, k_B2, k_B3, k_C, k_E, zenv, zup, ze0, n_add, n_mul, m_st, m_sa, m_ne, m_ss, mm_s, mm_f, mm_ne, mm_ss, mm_sf, Nat.zero_add, u_at, u_ne, if_true, if_false, ite_true, ite_false, reduceIte, and_self, and_true, true_and, or_true, true_or, or_false, false_or, or_self, and_false, false_and, Bool.not_true, Bool.not_false, decide_true, decide_false, ne_eq, n_eqT, n_eqF, n_ltT, n_ltF, n_leT, n_leF, n_z0, n_zF, n_o1, n_oF, n_p0, n_pF, n_lt0, n_ge0, zeq, zne, zlt, zle, zge, zgt, ziadd, zisub, zimul, ziand, zior, zixor, zishl, zishr, ziushr, zidiv, zirem, zmax, zmin, Bool.false_eq_true, not_true_eq_false, not_false_eq_true, Nat.reduceEqDiff, Nat.reduceAdd, Nat.reduceMul, Nat.reduceSub, g_in, e_isR, g_isR, hM, e_sizeN (show r0 < 6 by omega) hT hL, m1_lt, i_ge o1, o4, o5]
            exact OkS.rf I
  · rcases i_out (by omega) h with ⟨o1, o2, o3⟩ | ⟨o1, o2, o3, o4, o5, o6, o7⟩
    · simp -implicitDefEqProofs (disch := omega) only [zA0_ap, zA1_ap, zA2_ap, zA3_ap, zA4_ap, zA5_ap, v_fi, v_fz, v_fv, w_k, v_l, v_bin, v_biq, v_ald, v_tb, w_al, w_fd, v_cond, v_call, v_pi, w_an, v_ai, v_aq, v_cmp, v_cm0, w_cb, v_nt, v_and, v_or, w_sk, w_bk, w_cn, w_rv, v_rt, v_sq, v_se, v_ex, v_as, v_az, v_ao, v_pf, v_pz, v_fo, v_if, v_sw, v_lw, v_fl, v_cy, v_cyd, w_lr, wl_some, k_sq0, k_sq1, k_sq2, k_sq3, k_se, k_ex, k_rt, k_l, k_b2, k_b1, k_q2, k_q1, k_ald, k_tb, k_pi, k_condT, k_condF, k_condK, k_call, k_ac, k_ai, k_aq, k_c2, k_c1, k_c0, k_nt, k_andT, k_andF, k_orT, k_orF, k_as2, k_as1, k_az2, k_az1, k_ao2, k_ao1, k_pf, k_pz, k_fo, k_ifT, k_ifF, k_br0, k_br1, k_br2, k_br3, k_s0, k_s1, k_t1, k_s4, k_t4, k_s20, k_t20, zpk_n, zpk_z, zpk_s, k_lw, k_fl, k_cy3, k_cy2, k_cy1, k_cd2, k_cd1, k_w3, k_w20, k_w21, k_w22, k_w23, k_w1T, k_w1F, k_fi, k_fz1, k_fz0, k_fzi, k_fz, k_fv0, k_fv3, k_I, k_B0, k_B1, k_B2, k_B3, k_C, k_E, zenv, zup, ze0, n_add, n_mul, m_st, m_sa, m_ne, m_ss, mm_s, mm_f, mm_ne, mm_ss, mm_sf, Nat.zero_add, u_at, u_ne, if_true, if_false, ite_true, ite_false, reduceIte, and_self, and_true, true_and, or_true, true_or, or_false, false_or, or_self, and_false, false_and, Bool.not_true, Bool.not_false, decide_true, decide_false, ne_eq, n_eqT, n_eqF, n_ltT, n_ltF, n_leT, n_leF, n_z0, n_zF, n_o1, n_oF, n_p0, n_pF, n_lt0, n_ge0, zeq, zne, zlt, zle, zge, zgt, ziadd, zisub, zimul, ziand, zior, zixor, zishl, zishr, ziushr, zidiv, zirem, zmax, zmin, Bool.false_eq_true, not_true_eq_false, not_false_eq_true, Nat.reduceEqDiff, Nat.reduceAdd, Nat.reduceMul, Nat.reduceSub, g_in, h, o1, o2, o3, e_isRF h, g_isRF h]
      exact OkS.rf I
    · simp -implicitDefEqProofs (disch := omega) only [zA0_ap, zA1_ap, zA2_ap, zA3_ap, zA4_ap, zA5_ap, v_fi, v_fz, v_fv, w_k, v_l, v_bin, v_biq, v_ald, v_tb, w_al, w_fd, v_cond, v_call, v_pi, w_an, v_ai, v_aq, v_cmp, v_cm0, w_cb, v_nt, v_and, v_or, w_sk, w_bk, w_cn, w_rv, v_rt, v_sq, v_se, v_ex, v_as, v_az, v_ao, v_pf, v_pz, v_fo, v_if, v_sw, v_lw, v_fl, v_cy, v_cyd, w_lr, wl_some, k_sq0, k_sq1, k_sq2, k_sq3, k_se, k_ex, k_rt, k_l, k_b2, k_b1, k_q2, k_q1, k_ald, k_tb, k_pi, k_condT, k_condF, k_condK, k_call, k_ac, k_ai, k_aq, k_c2, k_c1, k_c0, k_nt, k_andT, k_andF, k_orT, k_orF, k_as2, k_as1, k_az2, k_az1, k_ao2, k_ao1, k_pf, k_pz, k_fo, k_ifT, k_ifF, k_br0, k_br1, k_br2, k_br3, k_s0, k_s1, k_t1, k_s4, k_t4, k_s20, k_t20, zpk_n, zpk_z, zpk_s, k_lw, k_fl, k_cy3, k_cy2, k_cy1, k_cd2, k_cd1, k_w3, k_w20, k_w21, k_w22, k_w23, k_w1T, k_w1F, k_fi, k_fz1, k_fz0, k_fzi, k_fz, k_fv0, k_fv3, k_I, k_B0, k_B1, k_B2, k_B3, k_C, k_E, zenv, zup, ze0, n_add, n_mul, m_st, m_sa, m_ne, m_ss, mm_s, mm_f, mm_ne, mm_ss, mm_sf, Nat.zero_add, u_at, u_ne, if_true, if_false, ite_true, ite_false, reduceIte, and_self, and_true, true_and, or_true, true_or, or_false, false_or, or_self, and_false, false_and, Bool.not_true, Bool.not_false, decide_true, decide_false, ne_eq, n_eqT, n_eqF, n_ltT, n_ltF, n_leT, n_leF, n_z0, n_zF, n_o1, n_oF, n_p0, n_pF, n_lt0, n_ge0, zeq, zne, zlt, zle, zge, zgt, ziadd, zisub, zimul, ziand, zior, zixor, zishl, zishr, ziushr, zidiv, zirem, zmax, zmin, Bool.false_eq_true, not_true_eq_false, not_false_eq_true, Nat.reduceEqDiff, Nat.reduceAdd, Nat.reduceMul, Nat.reduceSub, g_in, h, o1, o2, o3, o4, o5, o6, o7, e_isRF h, g_isRF h]
      exact OkS.rf I
end PR2
