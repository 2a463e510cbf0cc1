/-! BEGINNING A RUN -/
section BGN
variable {x b m k n ch t q : Nat} {μ ν μ' ν' : zM} {c s f c' s' : Nat → Int32} {v w u : Int32} {Q : Int32 → zM → Prop}
theorem usd_at {i : Nat} (h : i < 960) : usd ν m q (m + 2) i = ν (m + 1) (960 * q + i) := by
  rw [usd_2, ovr_in h]
theorem stM_out {a : Nat} (h : a < b ∨ b + 8 < a) : stM μ b q c a = μ a := by
  unfold stM
  rw [m_ne (by omega), m_ne (by omega), mCp_out (by omega)]
theorem stM_c : stM μ b q c (b + 8) = c := m_sa
theorem pl_use (P : PlI x m μ ν) : PRel (fun k => μ (x + 1 + k)) (usd ν m 0 (m + 2)) := by
  refine PEq.rfl'.rel (fun i hi => ?_) P.1
  rw [usd_at hi, Nat.mul_zero, Nat.zero_add]
theorem pl_cnt (P : PlI x m μ ν) : ∃ c : Nat → Nat, (∀ t, t < 4 → μ (x + 1 + 4) t = nI (c t) ∧ ν (m + 1) (912 + t) = nI (c t)) ∧ c 0 ≤ 3 ∧ c 1 ≤ 3 ∧ c 2 ≤ 3 ∧ c 3 ≤ 4 ∧ c 0 + c 1 + c 2 ≤ 6 := by
  obtain ⟨⟨-, -, -, -, R5, -⟩, -, -, -, ⟨c, c0, h⟩, -⟩ := P
  exact ⟨c, fun t ht => ⟨c0 t ht, (R5 t ht).trans (c0 t ht)⟩, h⟩
theorem e_totalC {c : Nat → Nat} (h : ∀ t, t < 4 → μ (x + 4) t = nI (c t)) : wr (M_X6_total x [] μ) Q = Q (nI (c 0 + c 1 + c 2)) μ := by
  simp only [M_X6_total, B_X6_total]
  simp -implicitDefEqProofs (disch := omega) only [zA0_ap, zA1_ap, zA2_ap, zA3_ap, zA4_ap, zA5_ap, v_fi, v_fz, v_fv, w_k, v_l, v_bin, v_biq, v_ald, v_tb, w_al, w_fd, v_cond, v_call, v_pi, w_an, v_ai, v_aq, v_cmp, v_cm0, w_cb, v_nt, v_and, v_or, w_sk, w_bk, w_cn, w_rv, v_rt, v_sq, v_se, v_ex, v_as, v_az, v_ao, v_pf, v_pz, v_fo, v_if, v_sw, v_lw, v_fl, v_cy, v_cyd, w_lr, wl_some, k_sq0, k_sq1, k_sq2, k_sq3, k_se, k_ex, k_rt, k_l, k_b2, k_b1, k_q2, k_q1, k_ald, k_tb, k_pi, k_condT, k_condF, k_condK, k_call, k_ac, k_ai, k_aq, k_c2, k_c1, k_c0, k_nt, k_andT, k_andF, k_orT, k_orF, k_as2, k_as1, k_az2, k_az1, k_ao2, k_ao1, k_pf, k_pz, k_fo, k_ifT, k_ifF, k_br0, k_br1, k_br2, k_br3, k_s0, k_s1, k_t1, k_s4, k_t4, k_s20, k_t20, zpk_n, zpk_z, zpk_s, k_lw, k_fl, k_cy3, k_cy2, k_cy1, k_cd2, k_cd1, k_w3, k_w20, k_w21, k_w22, k_w23, k_w1T, k_w1F, k_fi, k_fz1, k_fz0, k_fzi, k_fz, k_fv0, k_fv3, k_I, k_B0, k_B1, k_B2, k_B3, k_C, k_E, zenv, zup, ze0, n_add, n_mul, m_st, m_sa, m_ne, m_ss, mm_s, mm_f, mm_ne, mm_ss, mm_sf, Nat.zero_add, u_at, u_ne, if_true, if_false, ite_true, ite_false, reduceIte, and_self, and_true, true_and, or_true, true_or, or_false, false_or, or_self, and_false, false_and, Bool.not_true, Bool.not_false, decide_true, decide_false, ne_eq, n_eqT, n_eqF, n_ltT, n_ltF, n_leT, n_leF, n_z0, n_zF, n_o1, n_oF, n_p0, n_pF, n_lt0, n_ge0, zeq, zne, zlt, zle, zge, zgt, ziadd, zisub, zimul, ziand, zior, zixor, zishl, zishr, ziushr, zidiv, zirem, zmax, zmin, Bool.false_eq_true, not_true_eq_false, not_false_eq_true, Nat.reduceEqDiff, Nat.reduceAdd, Nat.reduceMul, Nat.reduceSub, h 0 (by omega), h 1 (by omega), h 2 (by omega)]
theorem g_many {c : Nat → Nat} (h : ∀ t, t < 4 → ν (m + 2) (912 + t) = nI (c t)) : wr (M_X9_callMany m [] (zmm ν m s f)) Q = Q (nI (c 0 + c 1 + c 2)) (zmm ν m s f) := by
  simp only [M_X9_callMany, B_X9_callMany]
  simp -implicitDefEqProofs (disch := omega) only [zA0_ap, zA1_ap, zA2_ap, zA3_ap, zA4_ap, zA5_ap, v_fi, v_fz, v_fv, w_k, v_l, v_bin, v_biq, v_ald, v_tb, w_al, w_fd, v_cond, v_call, v_pi, w_an, v_ai, v_aq, v_cmp, v_cm0, w_cb, v_nt, v_and, v_or, w_sk, w_bk, w_cn, w_rv, v_rt, v_sq, v_se, v_ex, v_as, v_az, v_ao, v_pf, v_pz, v_fo, v_if, v_sw, v_lw, v_fl, v_cy, v_cyd, w_lr, wl_some, k_sq0, k_sq1, k_sq2, k_sq3, k_se, k_ex, k_rt, k_l, k_b2, k_b1, k_q2, k_q1, k_ald, k_tb, k_pi, k_condT, k_condF, k_condK, k_call, k_ac, k_ai, k_aq, k_c2, k_c1, k_c0, k_nt, k_andT, k_andF, k_orT, k_orF, k_as2, k_as1, k_az2, k_az1, k_ao2, k_ao1, k_pf, k_pz, k_fo, k_ifT, k_ifF, k_br0, k_br1, k_br2, k_br3, k_s0, k_s1, k_t1, k_s4, k_t4, k_s20, k_t20, zpk_n, zpk_z, zpk_s, k_lw, k_fl, k_cy3, k_cy2, k_cy1, k_cd2, k_cd1, k_w3, k_w20, k_w21, k_w22, k_w23, k_w1T, k_w1F, k_fi, k_fz1, k_fz0, k_fzi, k_fz, k_fv0, k_fv3, k_I, k_B0, k_B1, k_B2, k_B3, k_C, k_E, zenv, zup, ze0, n_add, n_mul, m_st, m_sa, m_ne, m_ss, mm_s, mm_f, mm_ne, mm_ss, mm_sf, Nat.zero_add, u_at, u_ne, if_true, if_false, ite_true, ite_false, reduceIte, and_self, and_true, true_and, or_true, true_or, or_false, false_or, or_self, and_false, false_and, Bool.not_true, Bool.not_false, decide_true, decide_false, ne_eq, n_eqT, n_eqF, n_ltT, n_ltF, n_leT, n_leF, n_z0, n_zF, n_o1, n_oF, n_p0, n_pF, n_lt0, n_ge0, zeq, zne, zlt, zle, zge, zgt, ziadd, zisub, zimul, ziand, zior, zixor, zishl, zishr, ziushr, zidiv, zirem, zmax, zmin, Bool.false_eq_true, not_true_eq_false, not_false_eq_true, Nat.reduceEqDiff, Nat.reduceAdd, Nat.reduceMul, Nat.reduceSub, show ν (m + 2) 912 = nI (c 0) from h 0 (by omega), show ν (m + 2) 913 = nI (c 1) from h 1 (by omega), show ν (m + 2) 914 = nI (c 2) from h 2 (by omega)]
/-- the plan, where only what lies behind it has changed -/
theorem PlI.cg (P : PlI x m μ ν) (h1 : ∀ a, x + 1 ≤ a → a ≤ x + 7 → μ' a = μ a) (h2 : ∀ i, i < 960 → ν' (m + 1) i = ν (m + 1) i) : PlI x m μ' ν' := by
  have E : PEq (fun k => μ' (x + 1 + k)) (fun k => μ (x + 1 + k)) := by
    refine ⟨fun j _ => ?_, fun j _ => ?_, fun j _ => ?_, fun j _ => ?_, fun j _ => ?_, fun j _ => ?_, ?_, ?_, ?_⟩ <;> (dsimp only; rw [h1 _ (by omega) (by omega)])
  exact ⟨E.rel h2 P.1, E.val P.2⟩
theorem s_begin (I : StI x m μ ν) : wr (M_X8_begin x [] μ) (fun r μ' => wr (M_X9_begin m [] ν) (fun r' ν' => r' = r ∧ OkS x m μ ν μ' ν')) := by
  simp only [M_X8_begin, B_X8_begin, M_X9_begin, B_X9_begin]
  obtain ⟨c, c0, c1, c2, c3, c4, c5⟩ := pl_cnt I.1
  have d0 : ∀ t, t < 4 → usd ν m 0 (m + 2) (912 + t) = nI (c t) := fun t ht => by rw [usd_at (by omega), Nat.mul_zero, Nat.zero_add]; exact (c0 t ht).2
  by_cases hz : c 0 + c 1 + c 2 = 0
  · simp -implicitDefEqProofs (disch := omega) only [zA0_ap, zA1_ap, zA2_ap, zA3_ap, zA4_ap, zA5_ap, v_fi, v_fz, v_fv, w_k, v_l, v_bin, v_biq, v_ald, v_tb, w_al, w_fd, v_cond, v_call, v_pi, w_an, v_ai, v_aq, v_cmp, v_cm0, w_cb, v_nt, v_and, v_or, w_sk, w_bk, w_cn, w_rv, v_rt, v_sq, v_se, v_ex, v_as, v_az, v_ao, v_pf, v_pz, v_fo, v_if, v_sw, v_lw, v_fl, v_cy, v_cyd, w_lr, wl_some, k_sq0, k_sq1, k_sq2, k_sq3, k_se, k_ex, k_rt, k_l, k_b2, k_b1, k_q2, k_q1, k_ald, k_tb, k_pi, k_condT, k_condF, k_condK, k_call, k_ac, k_ai, k_aq, k_c2, k_c1, k_c0, k_nt, k_andT, k_andF, k_orT, k_orF, k_as2, k_as1, k_az2, k_az1, k_ao2, k_ao1, k_pf, k_pz, k_fo, k_ifT, k_ifF, k_br0, k_br1, k_br2, k_br3, k_s0, k_s1, k_t1, k_s4, k_t4, k_s20, k_t20, zpk_n, zpk_z, zpk_s, k_lw, k_fl, k_cy3, k_cy2, k_cy1, k_cd2, k_cd1, k_w3, k_w20, k_w21, k_w22, k_w23, k_w1T, k_w1F, k_fi, k_fz1, k_fz0, k_fzi, k_fz, k_fv0, k_fv3, k_I, k_B0, k_B1, k_B2, k_B3, k_C, k_E, zenv, zup, ze0, n_add, n_mul, m_st, m_sa, m_ne, m_ss, mm_s, mm_f, mm_ne, mm_ss, mm_sf, Nat.zero_add, u_at, u_ne, if_true, if_false, ite_true, ite_false, reduceIte, and_self, and_true, true_and, or_true, true_or, or_false, false_or, or_self, and_false, false_and, Bool.not_true, Bool.not_false, decide_true, decide_false, ne_eq, n_eqT, n_eqF, n_ltT, n_ltF, n_leT, n_leF, n_z0, n_zF, n_o1, n_oF, n_p0, n_pF, n_lt0, n_ge0, zeq, zne, zlt, zle, zge, zgt, ziadd, zisub, zimul, ziand, zior, zixor, zishl, zishr, ziushr, zidiv, zirem, zmax, zmin, Bool.false_eq_true, not_true_eq_false, not_false_eq_true, Nat.reduceEqDiff, Nat.reduceAdd, Nat.reduceMul, Nat.reduceSub, e_totalC (x := x + 1) (fun t ht => (c0 t ht).1), g_useU (show 0 < 3 by omega), g_many d0, hz]
    exact OkS.sc I (fun _ _ => rfl) (sc_zmm fun _ _ _ _ _ _ _ => rfl) (by rw [mm_f]; exact I.2.2)
  · obtain ⟨e, c', s', f', e6, E1, E2, F, ⟨⟨CR, CV⟩, C2, C3⟩, W⟩ := s_start (b := x + 8) (q := x + 1) (m := m) (by omega) (pl_use I.1) I.1.2 (ν (m + 3)) (ν m)
    have o8 : ∀ a, a < x + 8 ∨ x + 16 < a → stM μ (x + 8) (x + 1) c' a = μ a := fun a h => stM_out (by omega)
    by_cases h0 : e = 0
    · subst h0
      simp -implicitDefEqProofs (disch := omega) only [zA0_ap, zA1_ap, zA2_ap, zA3_ap, zA4_ap, zA5_ap, v_fi, v_fz, v_fv, w_k, v_l, v_bin, v_biq, v_ald, v_tb, w_al, w_fd, v_cond, v_call, v_pi, w_an, v_ai, v_aq, v_cmp, v_cm0, w_cb, v_nt, v_and, v_or, w_sk, w_bk, w_cn, w_rv, v_rt, v_sq, v_se, v_ex, v_as, v_az, v_ao, v_pf, v_pz, v_fo, v_if, v_sw, v_lw, v_fl, v_cy, v_cyd, w_lr, wl_some, k_sq0, k_sq1, k_sq2, k_sq3, k_se, k_ex, k_rt, k_l, k_b2, k_b1, k_q2, k_q1, k_ald, k_tb, k_pi, k_condT, k_condF, k_condK, k_call, k_ac, k_ai, k_aq, k_c2, k_c1, k_c0, k_nt, k_andT, k_andF, k_orT, k_orF, k_as2, k_as1, k_az2, k_az1, k_ao2, k_ao1, k_pf, k_pz, k_fo, k_ifT, k_ifF, k_br0, k_br1, k_br2, k_br3, k_s0, k_s1, k_t1, k_s4, k_t4, k_s20, k_t20, zpk_n, zpk_z, zpk_s, k_lw, k_fl, k_cy3, k_cy2, k_cy1, k_cd2, k_cd1, k_w3, k_w20, k_w21, k_w22, k_w23, k_w1T, k_w1F, k_fi, k_fz1, k_fz0, k_fzi, k_fz, k_fv0, k_fv3, k_I, k_B0, k_B1, k_B2, k_B3, k_C, k_E, zenv, zup, ze0, n_add, n_mul, m_st, m_sa, m_ne, m_ss, mm_s, mm_f, mm_ne, mm_ss, mm_sf, Nat.zero_add, u_at, u_ne, if_true, if_false, ite_true, ite_false, reduceIte, and_self, and_true, true_and, or_true, true_or, or_false, false_or, or_self, and_false, false_and, Bool.not_true, Bool.not_false, decide_true, decide_false, ne_eq, n_eqT, n_eqF, n_ltT, n_ltF, n_leT, n_leF, n_z0, n_zF, n_o1, n_oF, n_p0, n_pF, n_lt0, n_ge0, zeq, zne, zlt, zle, zge, zgt, ziadd, zisub, zimul, ziand, zior, zixor, zishl, zishr, ziushr, zidiv, zirem, zmax, zmin, Bool.false_eq_true, not_true_eq_false, not_false_eq_true, Nat.reduceEqDiff, Nat.reduceAdd, Nat.reduceMul, Nat.reduceSub, e_totalC (x := x + 1) (fun t ht => (c0 t ht).1), g_useU (show 0 < 3 by omega), g_many d0, hz, E1, E2, g_keepProgram (show 1 < 3 by omega) (show 0 < 1 by omega), mm_out, g_keepRun]
      have W := W rfl
      have PE : ∀ fx : Nat → Int32, PEq (fun k => zsa (stM μ (x + 8) (x + 1) c') x fx (x + 8 + 1 + k)) (fun k => stM μ (x + 8) (x + 1) c' (x + 8 + 1 + k)) := by
        intro fx
        refine ⟨fun j _ => ?_, fun j _ => ?_, fun j _ => ?_, fun j _ => ?_, fun j _ => ?_, fun j _ => ?_, ?_, ?_, ?_⟩ <;> (dsimp only; rw [m_ne (by omega)])
      refine ⟨⟨?_, Or.inr ⟨?_, ?_, ?_, ?_, ?_, ?_, 0, by omega, ?_, ?_, Or.inl ⟨?_, ?_⟩⟩, ?_⟩, ⟨fun a ha => ?_, ?_⟩, fun k hk => ?_, fun j hj => ?_, fun i hi => ?_⟩
      · refine I.1.cg (fun a h1 h2 => ?_) (fun i hi => ?_)
        · rw [m_ne (by omega), o8 a (by omega)]
        · rw [mm_ne (by omega) (by omega), m_ne (by omega), m_sa, ovr_out (by omega), usd_ne (by omega)]
      · simp (disch := omega) only [m_sa, u_ne, u_at]
      · simp (disch := omega) only [mm_f, u_ne, u_at]
      · refine (PE _).rel (fun i hi => ?_) CR
        unfold pgm
        rw [mm_ne (by omega) (by omega), m_ne (by omega), m_sa, ovr_at (by omega) (by omega), usd_ne (by omega), usd_at hi]
        exact congrArg (ν (m + 1)) (by omega)
      · exact (PE _).val CV
      · rw [m_ne (by omega), m_ne (by omega)]; exact C2
      · rw [m_ne (by omega), show x + 8 + 8 = (x + 8) + 8 from rfl, stM_c, mm_ne (by omega) (by omega), m_sa]
        refine (W.sx (fun i hi => ovr_in hi)).cg ?_ ?_
        · rw [m_ne (by omega)]
        · rw [m_ne (by omega)]
      · simp (disch := omega) only [m_sa, u_ne, u_at]
      · simp (disch := omega) only [mm_f, u_ne, u_at]
      · simp (disch := omega) only [m_sa, u_ne, u_at]
      · simp (disch := omega) only [mm_f, u_ne, u_at]
      · simp (disch := omega) only [mm_f, u_ne, u_at]; exact C3
      · rw [m_ne (by omega), o8 a (by omega)]
      · simp (disch := omega) only [m_sa, u_ne, u_at]
        rw [o8 x (by omega)]
      · rw [mm_ne (by omega) (by omega), m_ne (by omega), m_ne (by omega), usd_ne (by omega)]
      · simp (disch := omega) only [mm_f, u_ne, u_at]
        exact F j (by omega) (by omega) (by omega)
      · rw [mm_ne (by omega) (by omega), m_ne (by omega), m_sa, ovr_out (by omega), usd_ne (by omega)]
    · simp -implicitDefEqProofs (disch := omega) only [zA0_ap, zA1_ap, zA2_ap, zA3_ap, zA4_ap, zA5_ap, v_fi, v_fz, v_fv, w_k, v_l, v_bin, v_biq, v_ald, v_tb, w_al, w_fd, v_cond, v_call, v_pi, w_an, v_ai, v_aq, v_cmp, v_cm0, w_cb, v_nt, v_and, v_or, w_sk, w_bk, w_cn, w_rv, v_rt, v_sq, v_se, v_ex, v_as, v_az, v_ao, v_pf, v_pz, v_fo, v_if, v_sw, v_lw, v_fl, v_cy, v_cyd, w_lr, wl_some, k_sq0, k_sq1, k_sq2, k_sq3, k_se, k_ex, k_rt, k_l, k_b2, k_b1, k_q2, k_q1, k_ald, k_tb, k_pi, k_condT, k_condF, k_condK, k_call, k_ac, k_ai, k_aq, k_c2, k_c1, k_c0, k_nt, k_andT, k_andF, k_orT, k_orF, k_as2, k_as1, k_az2, k_az1, k_ao2, k_ao1, k_pf, k_pz, k_fo, k_ifT, k_ifF, k_br0, k_br1, k_br2, k_br3, k_s0, k_s1, k_t1, k_s4, k_t4, k_s20, k_t20, zpk_n, zpk_z, zpk_s, k_lw, k_fl, k_cy3, k_cy2, k_cy1, k_cd2, k_cd1, k_w3, k_w20, k_w21, k_w22, k_w23, k_w1T, k_w1F, k_fi, k_fz1, k_fz0, k_fzi, k_fz, k_fv0, k_fv3, k_I, k_B0, k_B1, k_B2, k_B3, k_C, k_E, zenv, zup, ze0, n_add, n_mul, m_st, m_sa, m_ne, m_ss, mm_s, mm_f, mm_ne, mm_ss, mm_sf, Nat.zero_add, u_at, u_ne, if_true, if_false, ite_true, ite_false, reduceIte, and_self, and_true, true_and, or_true, true_or, or_false, false_or, or_self, and_false, false_and, Bool.not_true, Bool.not_false, decide_true, decide_false, ne_eq, n_eqT, n_eqF, n_ltT, n_ltF, n_leT, n_leF, n_z0, n_zF, n_o1, n_oF, n_p0, n_pF, n_lt0, n_ge0, zeq, zne, zlt, zle, zge, zgt, ziadd, zisub, zimul, ziand, zior, zixor, zishl, zishr, ziushr, zidiv, zirem, zmax, zmin, Bool.false_eq_true, not_true_eq_false, not_false_eq_true, Nat.reduceEqDiff, Nat.reduceAdd, Nat.reduceMul, Nat.reduceSub, e_totalC (x := x + 1) (fun t ht => (c0 t ht).1), g_useU (show 0 < 3 by omega), g_many d0, hz, E1, E2, h0, show 0 < e by omega]
      refine ⟨⟨?_, Or.inl ⟨?_, ?_⟩, ?_⟩, ⟨fun a ha => ?_, ?_⟩, fun k hk => ?_, fun j hj => ?_, fun i hi => ?_⟩
      · refine I.1.cg (fun a h1 h2 => ?_) (fun i hi => ?_)
        · rw [m_ne (by omega), o8 a (by omega)]
        · rw [mm_ne (by omega) (by omega), usd_ne (by omega)]
      · simp (disch := omega) only [m_sa, u_ne, u_at]
      · simp (disch := omega) only [mm_f, u_ne, u_at]
      · simp (disch := omega) only [mm_f, u_ne, u_at]; exact C3
      · rw [m_ne (by omega), o8 a (by omega)]
      · simp (disch := omega) only [m_sa, u_ne, u_at]
        rw [o8 x (by omega)]
      · rw [mm_ne (by omega) (by omega), usd_ne (by omega)]
      · simp (disch := omega) only [mm_f, u_ne, u_at]
        exact F j (by omega) (by omega) (by omega)
      · rw [mm_ne (by omega) (by omega), usd_ne (by omega)]
end BGN
