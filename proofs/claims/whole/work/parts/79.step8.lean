/-! STEPS AND ENDS OF A RUN -/
section ST8
variable {x b m k n ch t : Nat} {μ ν μ' ν' : zM} {c s f c' s' : Nat → Int32} {v w u : Int32} {Q : Int32 → zM → Prop}
theorem RnI.mk {fx g : Nat → Int32} {made : Nat} (r4 : PRel (fun k => μ (x + 8 + 1 + k)) (pgm ν m 1)) (r5 : PVal (fun k => μ (x + 8 + 1 + k))) (r6 : μ (x + 8) 2 = μ (x + 8 + 1) 7) (W : Wn μ (x + 8) c s) (hn : made ≤ 100) (f4 : fx 4 = nI 1) (f5 : fx 5 = nI made) (hl : lastR (fx 6) (f 13)) (g1 : f 11 = nI 1) (g2 : f 12 = nI made) (hg : ∀ i, i < 100 → g i = s i) {q : Nat} {s0 : Nat → Int32} : RnI x m (zsa (zsa μ (x + 8 + 8) c) x fx) (zmm (zsa (usd ν m q) (m + 6) g) m s0 f) := by
  refine Or.inr ⟨by rw [m_sa]; exact f4, by rw [mm_f]; exact g1, ?_, ?_, ?_, ?_, made, hn, by rw [m_sa]; exact f5, by rw [mm_f]; exact g2, by rw [m_sa, mm_f]; exact hl⟩
  · have E : PEq (fun k => zsa (zsa μ (x + 8 + 8) c) x fx (x + 8 + 1 + k)) (fun k => μ (x + 8 + 1 + k)) := by
      refine ⟨fun j _ => ?_, fun j _ => ?_, fun j _ => ?_, fun j _ => ?_, fun j _ => ?_, fun j _ => ?_, ?_, ?_, ?_⟩ <;> (dsimp only; rw [m_ne (by omega), m_ne (by omega)])
    refine E.rel (fun i hi => ?_) r4
    unfold pgm
    rw [mm_ne (by omega) (by omega), m_ne (by omega), usd_ne (by omega)]
  · have E : PEq (fun k => zsa (zsa μ (x + 8 + 8) c) x fx (x + 8 + 1 + k)) (fun k => μ (x + 8 + 1 + k)) := by
      refine ⟨fun j _ => ?_, fun j _ => ?_, fun j _ => ?_, fun j _ => ?_, fun j _ => ?_, fun j _ => ?_, ?_, ?_, ?_⟩ <;> (dsimp only; rw [m_ne (by omega), m_ne (by omega)])
    exact E.val r5
  · rw [m_ne (by omega), m_ne (by omega), m_ne (by omega), m_ne (by omega)]; exact r6
  · rw [m_ne (by omega), m_sa, mm_ne (by omega) (by omega), m_sa]
    refine (W.sx hg).cg ?_ ?_
    · rw [m_ne (by omega), m_ne (by omega)]
    · rw [m_ne (by omega), m_ne (by omega)]
theorem OkS.run {fx g : Nat → Int32} {q : Nat} {s0 : Nat → Int32} (I : StI x m μ ν) (R : RnI x m (zsa (zsa μ (x + 8 + 8) c) x fx) (zmm (zsa (usd ν m q) (m + 6) g) m s0 f)) (h7 : fx 7 = μ x 7) (h3 : f 3 = nI 0) (hf : ∀ j, 15 ≤ j → f j = ν m j) : OkS x m μ ν (zsa (zsa μ (x + 8 + 8) c) x fx) (zmm (zsa (usd ν m q) (m + 6) g) m s0 f) := by
  obtain ⟨P, -, -⟩ := I
  have E : PEq (fun k => zsa (zsa μ (x + 8 + 8) c) x fx (x + 1 + k)) (fun k => μ (x + 1 + k)) := by
    refine ⟨fun j _ => ?_, fun j _ => ?_, fun j _ => ?_, fun j _ => ?_, fun j _ => ?_, fun j _ => ?_, ?_, ?_, ?_⟩ <;> (dsimp only; rw [m_ne (by omega), m_ne (by omega)])
  have e1 : zmm (zsa (usd ν m q) (m + 6) g) m s0 f (m + 1) = ν (m + 1) := by rw [mm_ne (by omega) (by omega), m_ne (by omega), usd_ne (by omega)]
  refine ⟨⟨⟨?_, E.val P.2⟩, R, by rw [mm_f]; exact h3⟩, ⟨fun a ha => by rw [m_ne (by omega), m_ne (by omega)], by rw [m_sa]; exact h7⟩, fun k hk => ?_, fun j hj => by rw [mm_f]; exact hf j hj, fun i hi => by rw [e1]⟩
  · rw [e1]; exact E.rel (fun _ _ => rfl) P.1
  · rw [mm_ne (by omega) (by omega), m_ne (by omega), usd_ne (by omega)]
theorem s_stepC (I : StI x m μ ν) : wr (M_X8_step x [v] μ) (fun r μ' => wr (M_X9_step m [v] ν) (fun r' ν' => r' = r ∧ OkS x m μ ν μ' ν')) := by
  simp only [M_X8_step, B_X8_step, M_X9_step, B_X9_step]
  have OK := OkS.rf I
  by_cases h : nI 0 ≤ v ∧ v ≤ nI 5
  · obtain ⟨ch, hch, rfl⟩ := i_in (by omega) h
    rcases I.2.1 with ⟨r1, r2⟩ | ⟨r1, r2, r3, r4, r5, W, n, hn, r7, r8, r9⟩
    · simp -implicitDefEqProofs (disch := omega) only [zA0_ap, zA1_ap, zA2_ap, zA3_ap, zA4_ap, zA5_ap, v_fi, v_fz, v_fv, w_k, v_l, v_bin, v_biq, v_ald, v_tb, w_al, w_fd, v_cond, v_call, v_pi, w_an, v_ai, v_aq, v_cmp, v_cm0, w_cb, v_nt, v_and, v_or, w_sk, w_bk, w_cn, w_rv, v_rt, v_sq, v_se, v_ex, v_as, v_az, v_ao, v_pf, v_pz, v_fo, v_if, v_sw, v_lw, v_fl, v_cy, v_cyd, w_lr, wl_some, k_sq0, k_sq1, k_sq2, k_sq3, k_se, k_ex, k_rt, k_l, k_b2, k_b1, k_q2, k_q1, k_ald, k_tb, k_pi, k_condT, k_condF, k_condK, k_call, k_ac, k_ai, k_aq, k_c2, k_c1, k_c0, k_nt, k_andT, k_andF, k_orT, k_orF, k_as2, k_as1, k_az2, k_az1, k_ao2, k_ao1, k_pf, k_pz, k_fo, k_ifT, k_ifF, k_br0, k_br1, k_br2, k_br3, k_s0, k_s1, k_t1, k_s4, k_t4, k_s20, k_t20, zpk_n, zpk_z, zpk_s, k_lw, k_fl, k_cy3, k_cy2, k_cy1, k_cd2, k_cd1, k_w3, k_w20, k_w21, k_w22, k_w23, k_w1T, k_w1F, k_fi, k_fz1, k_fz0, k_fzi, k_fz, k_fv0, k_fv3, k_I, k_B0, k_B1, k_B2, k_B3, k_C, k_E, zenv, zup, ze0, n_add, n_mul, m_st, m_sa, m_ne, m_ss, mm_s, mm_f, mm_ne, mm_ss, mm_sf, Nat.zero_add, u_at, u_ne, if_true, if_false, ite_true, ite_false, reduceIte, and_self, and_true, true_and, or_true, true_or, or_false, false_or, or_self, and_false, false_and, Bool.not_true, Bool.not_false, decide_true, decide_false, ne_eq, n_eqT, n_eqF, n_ltT, n_ltF, n_leT, n_leF, n_z0, n_zF, n_o1, n_oF, n_p0, n_pF, n_lt0, n_ge0, zeq, zne, zlt, zle, zge, zgt, ziadd, zisub, zimul, ziand, zior, zixor, zishl, zishr, ziushr, zidiv, zirem, zmax, zmin, Bool.false_eq_true, not_true_eq_false, not_false_eq_true, Nat.reduceEqDiff, Nat.reduceAdd, Nat.reduceMul, Nat.reduceSub, g_in, e_isC, r1, r2]
      exact OK
    · have C := usd_ctx (m := m) r3 r4
      have W' := W.sx (s' := ovr (ν (m + 3)) 0 100 (ν (m + 6))) (fun i hi => ovr_in hi)
      have OK' : OkS x m μ ν μ (zmm (usd ν m 1) m (ovr (ν (m + 3)) 0 100 (ν (m + 6))) (ν m)) := OkS.sc I (fun _ _ => rfl) (sc_zmm fun _ _ _ _ _ _ _ => rfl) (by rw [mm_f]; exact I.2.2)
      by_cases hp : psb (μ (x + 8 + 8)) (cN μ (x + 8)) ch
      · by_cases h100 : n = 100
        · simp -implicitDefEqProofs (disch := omega) only [zA0_ap, zA1_ap, zA2_ap, zA3_ap, zA4_ap, zA5_ap, v_fi, v_fz, v_fv, w_k, v_l, v_bin, v_biq, v_ald, v_tb, w_al, w_fd, v_cond, v_call, v_pi, w_an, v_ai, v_aq, v_cmp, v_cm0, w_cb, v_nt, v_and, v_or, w_sk, w_bk, w_cn, w_rv, v_rt, v_sq, v_se, v_ex, v_as, v_az, v_ao, v_pf, v_pz, v_fo, v_if, v_sw, v_lw, v_fl, v_cy, v_cyd, w_lr, wl_some, k_sq0, k_sq1, k_sq2, k_sq3, k_se, k_ex, k_rt, k_l, k_b2, k_b1, k_q2, k_q1, k_ald, k_tb, k_pi, k_condT, k_condF, k_condK, k_call, k_ac, k_ai, k_aq, k_c2, k_c1, k_c0, k_nt, k_andT, k_andF, k_orT, k_orF, k_as2, k_as1, k_az2, k_az1, k_ao2, k_ao1, k_pf, k_pz, k_fo, k_ifT, k_ifF, k_br0, k_br1, k_br2, k_br3, k_s0, k_s1, k_t1, k_s4, k_t4, k_s20, k_t20, zpk_n, zpk_z, zpk_s, k_lw, k_fl, k_cy3, k_cy2, k_cy1, k_cd2, k_cd1, k_w3, k_w20, k_w21, k_w22, k_w23, k_w1T, k_w1F, k_fi, k_fz1, k_fz0, k_fzi, k_fz, k_fv0, k_fv3, k_I, k_B0, k_B1, k_B2, k_B3, k_C, k_E, zenv, zup, ze0, n_add, n_mul, m_st, m_sa, m_ne, m_ss, mm_s, mm_f, mm_ne, mm_ss, mm_sf, Nat.zero_add, u_at, u_ne, if_true, if_false, ite_true, ite_false, reduceIte, and_self, and_true, true_and, or_true, true_or, or_false, false_or, or_self, and_false, false_and, Bool.not_true, Bool.not_false, decide_true, decide_false, ne_eq, n_eqT, n_eqF, n_ltT, n_ltF, n_leT, n_leF, n_z0, n_zF, n_o1, n_oF, n_p0, n_pF, n_lt0, n_ge0, zeq, zne, zlt, zle, zge, zgt, ziadd, zisub, zimul, ziand, zior, zixor, zishl, zishr, ziushr, zidiv, zirem, zmax, zmin, Bool.false_eq_true, not_true_eq_false, not_false_eq_true, Nat.reduceEqDiff, Nat.reduceAdd, Nat.reduceMul, Nat.reduceSub, g_in, e_isC, r1, r2, e_psbT C W' (show ch < 6 by omega) hp, g_takeU, g_psbT C W' (show ch < 6 by omega) hp, r7, r8, h100]
          exact OK'
        · obtain ⟨c', s', f', e, k1, k2, W2, k3, -⟩ := Wn.choose (f := ν m) ⟨C, r5, I.2.2⟩ W' (show ch < 6 by omega) hp
          simp only [m_id] at k1
          have j12 : f' 12 = nI n := (k3 12 (by omega) (by omega)).trans r8
          simp -implicitDefEqProofs (disch := omega) only [zA0_ap, zA1_ap, zA2_ap, zA3_ap, zA4_ap, zA5_ap, v_fi, v_fz, v_fv, w_k, v_l, v_bin, v_biq, v_ald, v_tb, w_al, w_fd, v_cond, v_call, v_pi, w_an, v_ai, v_aq, v_cmp, v_cm0, w_cb, v_nt, v_and, v_or, w_sk, w_bk, w_cn, w_rv, v_rt, v_sq, v_se, v_ex, v_as, v_az, v_ao, v_pf, v_pz, v_fo, v_if, v_sw, v_lw, v_fl, v_cy, v_cyd, w_lr, wl_some, k_sq0, k_sq1, k_sq2, k_sq3, k_se, k_ex, k_rt, k_l, k_b2, k_b1, k_q2, k_q1, k_ald, k_tb, k_pi, k_condT, k_condF, k_condK, k_call, k_ac, k_ai, k_aq, k_c2, k_c1, k_c0, k_nt, k_andT, k_andF, k_orT, k_orF, k_as2, k_as1, k_az2, k_az1, k_ao2, k_ao1, k_pf, k_pz, k_fo, k_ifT, k_ifF, k_br0, k_br1, k_br2, k_br3, k_s0, k_s1, k_t1, k_s4, k_t4, k_s20, k_t20, zpk_n, zpk_z, zpk_s, k_lw, k_fl, k_cy3, k_cy2, k_cy1, k_cd2, k_cd1, k_w3, k_w20, k_w21, k_w22, k_w23, k_w1T, k_w1F, k_fi, k_fz1, k_fz0, k_fzi, k_fz, k_fv0, k_fv3, k_I, k_B0, k_B1, k_B2, k_B3, k_C, k_E, zenv, zup, ze0, n_add, n_mul, m_st, m_sa, m_ne, m_ss, mm_s, mm_f, mm_ne, mm_ss, mm_sf, Nat.zero_add, u_at, u_ne, if_true, if_false, ite_true, ite_false, reduceIte, and_self, and_true, true_and, or_true, true_or, or_false, false_or, or_self, and_false, false_and, Bool.not_true, Bool.not_false, decide_true, decide_false, ne_eq, n_eqT, n_eqF, n_ltT, n_ltF, n_leT, n_leF, n_z0, n_zF, n_o1, n_oF, n_p0, n_pF, n_lt0, n_ge0, zeq, zne, zlt, zle, zge, zgt, ziadd, zisub, zimul, ziand, zior, zixor, zishl, zishr, ziushr, zidiv, zirem, zmax, zmin, Bool.false_eq_true, not_true_eq_false, not_false_eq_true, Nat.reduceEqDiff, Nat.reduceAdd, Nat.reduceMul, Nat.reduceSub, g_in, e_isC, r1, r2, e_psbT C W' (show ch < 6 by omega) hp, g_takeU, g_psbT C W' (show ch < 6 by omega) hp, r7, r8, M_X8_choose, B_X8_choose, k1, k2, g_keepRun, j12]
          refine OkS.run I (RnI.mk r3 r4 r5 W2 (made := n + 1) (by omega) ?_ ?_ ?_ ?_ ?_ (fun i hi => ovr_in hi)) ?_ ?_ ?_
          · simp (disch := omega) only [u_ne, u_at]; exact r1
          · simp (disch := omega) only [u_ne, u_at]
          · simp (disch := omega) only [u_ne, u_at]; exact Or.inr ⟨ch, by omega, rfl, rfl⟩
          · simp (disch := omega) only [u_ne, u_at]; exact (k3 11 (by omega) (by omega)).trans r2
          · simp (disch := omega) only [u_ne, u_at]
          · simp (disch := omega) only [u_ne, u_at]
          · simp (disch := omega) only [u_ne, u_at]; exact (k3 3 (by omega) (by omega)).trans I.2.2
          · intro j hj; simp (disch := omega) only [u_ne, u_at]; exact k3 j (by omega) (by omega)
      · simp -implicitDefEqProofs (disch := omega) only [zA0_ap, zA1_ap, zA2_ap, zA3_ap, zA4_ap, zA5_ap, v_fi, v_fz, v_fv, w_k, v_l, v_bin, v_biq, v_ald, v_tb, w_al, w_fd, v_cond, v_call, v_pi, w_an, v_ai, v_aq, v_cmp, v_cm0, w_cb, v_nt, v_and, v_or, w_sk, w_bk, w_cn, w_rv, v_rt, v_sq, v_se, v_ex, v_as, v_az, v_ao, v_pf, v_pz, v_fo, v_if, v_sw, v_lw, v_fl, v_cy, v_cyd, w_lr, wl_some, k_sq0, k_sq1, k_sq2, k_sq3, k_se, k_ex, k_rt, k_l, k_b2, k_b1, k_q2, k_q1, k_ald, k_tb, k_pi, k_condT, k_condF, k_condK, k_call, k_ac, k_ai, k_aq, k_c2, k_c1, k_c0, k_nt, k_andT, k_andF, k_orT, k_orF, k_as2, k_as1, k_az2, k_az1, k_ao2, k_ao1, k_pf, k_pz, k_fo, k_ifT, k_ifF, k_br0, k_br1, k_br2, k_br3, k_s0, k_s1, k_t1, k_s4, k_t4, k_s20, k_t20, zpk_n, zpk_z, zpk_s, k_lw, k_fl, k_cy3, k_cy2, k_cy1, k_cd2, k_cd1, k_w3, k_w20, k_w21, k_w22, k_w23, k_w1T, k_w1F, k_fi, k_fz1, k_fz0, k_fzi, k_fz, k_fv0, k_fv3, k_I, k_B0, k_B1, k_B2, k_B3, k_C, k_E, zenv, zup, ze0, n_add, n_mul, m_st, m_sa, m_ne, m_ss, mm_s, mm_f, mm_ne, mm_ss, mm_sf, Nat.zero_add, u_at, u_ne, if_true, if_false, ite_true, ite_false, reduceIte, and_self, and_true, true_and, or_true, true_or, or_false, false_or, or_self, and_false, false_and, Bool.not_true, Bool.not_false, decide_true, decide_false, ne_eq, n_eqT, n_eqF, n_ltT, n_ltF, n_leT, n_leF, n_z0, n_zF, n_o1, n_oF, n_p0, n_pF, n_lt0, n_ge0, zeq, zne, zlt, zle, zge, zgt, ziadd, zisub, zimul, ziand, zior, zixor, zishl, zishr, ziushr, zidiv, zirem, zmax, zmin, Bool.false_eq_true, not_true_eq_false, not_false_eq_true, Nat.reduceEqDiff, Nat.reduceAdd, Nat.reduceMul, Nat.reduceSub, g_in, e_isC, r1, r2, e_psbF C W' (show ch < 6 by omega) hp, g_takeU, g_psbF C W' (show ch < 6 by omega) hp]
        exact OK'
  · simp -implicitDefEqProofs (disch := omega) only [zA0_ap, zA1_ap, zA2_ap, zA3_ap, zA4_ap, zA5_ap, v_fi, v_fz, v_fv, w_k, v_l, v_bin, v_biq, v_ald, v_tb, w_al, w_fd, v_cond, v_call, v_pi, w_an, v_ai, v_aq, v_cmp, v_cm0, w_cb, v_nt, v_and, v_or, w_sk, w_bk, w_cn, w_rv, v_rt, v_sq, v_se, v_ex, v_as, v_az, v_ao, v_pf, v_pz, v_fo, v_if, v_sw, v_lw, v_fl, v_cy, v_cyd, w_lr, wl_some, k_sq0, k_sq1, k_sq2, k_sq3, k_se, k_ex, k_rt, k_l, k_b2, k_b1, k_q2, k_q1, k_ald, k_tb, k_pi, k_condT, k_condF, k_condK, k_call, k_ac, k_ai, k_aq, k_c2, k_c1, k_c0, k_nt, k_andT, k_andF, k_orT, k_orF, k_as2, k_as1, k_az2, k_az1, k_ao2, k_ao1, k_pf, k_pz, k_fo, k_ifT, k_ifF, k_br0, k_br1, k_br2, k_br3, k_s0, k_s1, k_t1, k_s4, k_t4, k_s20, k_t20, zpk_n, zpk_z, zpk_s, k_lw, k_fl, k_cy3, k_cy2, k_cy1, k_cd2, k_cd1, k_w3, k_w20, k_w21, k_w22, k_w23, k_w1T, k_w1F, k_fi, k_fz1, k_fz0, k_fzi, k_fz, k_fv0, k_fv3, k_I, k_B0, k_B1, k_B2, k_B3, k_C, k_E, zenv, zup, ze0, n_add, n_mul, m_st, m_sa, m_ne, m_ss, mm_s, mm_f, mm_ne, mm_ss, mm_sf, Nat.zero_add, u_at, u_ne, if_true, if_false, ite_true, ite_false, reduceIte, and_self, and_true, true_and, or_true, true_or, or_false, false_or, or_self, and_false, false_and, Bool.not_true, Bool.not_false, decide_true, decide_false, ne_eq, n_eqT, n_eqF, n_ltT, n_ltF, n_leT, n_leF, n_z0, n_zF, n_o1, n_oF, n_p0, n_pF, n_lt0, n_ge0, zeq, zne, zlt, zle, zge, zgt, ziadd, zisub, zimul, ziand, zior, zixor, zishl, zishr, ziushr, zidiv, zirem, zmax, zmin, Bool.false_eq_true, not_true_eq_false, not_false_eq_true, Nat.reduceEqDiff, Nat.reduceAdd, Nat.reduceMul, Nat.reduceSub, g_in, e_isCF h, h]
    exact OK
/-! ends -/
theorem e_endT (C : Ctx b m μ ν) (W : Wn μ b (μ (b + 8)) s) (h : noS (μ (b + 8)) (cN μ b)) : wr (M_X5_isAtEnd b [] μ) Q = Q (nI 1) μ := by
  have k := e_isEnd C W
  rw [m_id] at k
  obtain ⟨r, q, e, ⟨rfl, -⟩ | ⟨-, h2⟩, rfl⟩ := wr_get k
  · rw [e]; rfl
  · exact absurd h h2
theorem e_endF (C : Ctx b m μ ν) (W : Wn μ b (μ (b + 8)) s) (h : ¬ noS (μ (b + 8)) (cN μ b)) : wr (M_X5_isAtEnd b [] μ) Q = Q (nI 0) μ := by
  have k := e_isEnd C W
  rw [m_id] at k
  obtain ⟨r, q, e, ⟨-, h2⟩ | ⟨rfl, -⟩, rfl⟩ := wr_get k
  · exact absurd h2 h
  · rw [e]; rfl
theorem g_endT (C : Ctx b m μ ν) (W : Wn μ b c s) (h : noS c (cN μ b)) : wr (M_X9_isEnd m [] (zmm ν m s f)) Q = Q (nI 1) (zmm ν m s f) := by
  obtain ⟨r, q, e, ⟨rfl, -⟩ | ⟨-, h2⟩, rfl⟩ := wr_get (g_isEnd (f := f) C W)
  · rw [e]; rfl
  · exact absurd h h2
theorem g_endF (C : Ctx b m μ ν) (W : Wn μ b c s) (h : ¬ noS c (cN μ b)) : wr (M_X9_isEnd m [] (zmm ν m s f)) Q = Q (nI 0) (zmm ν m s f) := by
  obtain ⟨r, q, e, ⟨-, h2⟩ | ⟨rfl, -⟩, rfl⟩ := wr_get (g_isEnd (f := f) C W)
  · exact absurd h2 h
  · rw [e]; rfl
theorem mm_mj : zmm ν m s f = zmj (zsa (zsa ν (m + 3) s) (m + 5) (ν (m + 5))) m (ν (m + 4)) f := by
  funext a
  by_cases h3 : a = m + 3
  · subst h3; simp (disch := omega) only [mm_s, mj_ne, m_ne, m_sa]
  · by_cases h0 : a = m
    · subst h0; simp (disch := omega) only [mm_f, mj_f]
    · by_cases h4 : a = m + 4
      · subst h4; simp (disch := omega) only [mm_ne, mj_p]
      · by_cases h5 : a = m + 5
        · subst h5; simp (disch := omega) only [mm_ne, mj_ne, m_sa]
        · rw [mm_ne h3 h0, mj_ne h4 h0, m_ne h5, m_ne h3]
/-- what the judge leaves in the model -/
theorem memA_sc (h : memA (zsa ν (m + 3) s) m f μ') : ∃ ν1 f', μ' = zmm ν1 m s f' ∧ (∀ j, j ≠ 7 → j ≠ 8 → j ≠ 9 → f' j = f j) ∧ ∀ a, a ≠ m → a ≠ m + 3 → a ≠ m + 4 → a ≠ m + 5 → ν1 a = ν a := by
  obtain ⟨tr, pl, f', h1, rfl⟩ := h
  refine ⟨zsa (zsa ν (m + 5) tr) (m + 4) pl, f', ?_, h1, fun a h2 h3 h4 h5 => ?_⟩
  · funext a
    by_cases h3 : a = m + 3
    · subst h3; simp (disch := omega) only [mm_s, mj_ne, m_ne, m_sa]
    · by_cases h0 : a = m
      · subst h0; simp (disch := omega) only [mm_f, mj_f]
      · by_cases h4 : a = m + 4
        · subst h4; simp (disch := omega) only [mm_ne, mj_p, m_sa]
        · by_cases h5 : a = m + 5
          · subst h5; simp (disch := omega) only [mm_ne, mj_ne, m_sa, m_ne]
          · rw [mm_ne h3 h0, mj_ne h4 h0, m_ne h5, m_ne h3, m_ne h4, m_ne h5]
  · rw [m_ne h4, m_ne h5]
theorem Ctx.s3 {g : Nat → Int32} (C : Ctx b m μ ν) : Ctx b m μ (zsa ν (m + 3) g) := by
  unfold Ctx at C ⊢
  rw [m_ne (by omega)]
  exact C
/-- both judges of orders, at an end -/
theorem s_find2 {J : Nat} (C : Ctx b m μ ν) (W : Wn μ b (μ (b + 8)) s) (hE : noS (μ (b + 8)) (cN μ b)) (hJ : J + 8 < b ∨ b + 9 < J + 2) : ∃ (r : Int32) (μ1 : zM), (r = nI 0 ∨ r = nI 1) ∧ (∀ Q, wr (M_X3_findsOrder J b [] μ) Q = Q r μ1) ∧ (∀ a, (a < J + 2 ∨ J + 8 < a) → μ1 a = μ a) ∧ ∀ f, ∃ ν1 f', (∀ Q, wr (M_X9_agreesNow m [] (zmm ν m s f)) Q = Q r (zmm ν1 m s f')) ∧ (∀ j, j ≠ 7 → j ≠ 8 → j ≠ 9 → f' j = f j) ∧ ∀ a, a ≠ m → a ≠ m + 3 → a ≠ m + 4 → a ≠ m + 5 → ν1 a = ν a := by
  obtain ⟨r, μ1, e1, t1, f1⟩ := wr_get (e_finds (J := J) (fun h => C.pj h) hJ rfl)
  have C3 : Ctx b m μ (zsa ν (m + 3) s) := C.s3
  have PP : ¬ zsa ν (m + 3) s (m + 2) 950 = 0 → PN (zsa ν (m + 3) s) m ∧ PC (zsa ν (m + 3) s) m := fun h => ⟨C3.pn (by rw [← C3.mdE]; exact h), C3.pc⟩
  have same := find_same C3 W (fun he => hE.over he)
  refine ⟨r, μ1, ?_, fun Q => by rw [e1]; rfl, f1, fun f => ?_⟩
  · rcases t1 with ⟨q, -⟩ | ⟨q, -⟩
    · exact Or.inr q
    · exact Or.inl q
  · have G := g_agrees (tr := ν (m + 5)) (pl := ν (m + 4)) (f := f) PP (show zsa ν (m + 3) s (m + 3) = s from m_sa)
    rw [← mm_mj] at G
    obtain ⟨r', ν', e2, t2, mA⟩ := wr_get G
    obtain ⟨ν1, f', rfl, h1, h2⟩ := memA_sc mA
    refine ⟨ν1, f', fun Q => ?_, h1, h2⟩
    have er : r' = r := by
      rcases t1 with ⟨rfl, q1⟩ | ⟨rfl, q1⟩ <;> rcases t2 with ⟨rfl, q2⟩ | ⟨rfl, q2⟩
      · rfl
      · exact absurd (same.mp q1) q2
      · exact absurd (same.mpr q2) q1
      · rfl
    rw [e2, er]; rfl
/-- where all calls have answers no thread has met an error -/
theorem kep_nf {l : List Nat} (C : Ctx b m μ ν) (W : Wn μ b c s) (h : kepP ν m s l) : ¬ fndM s := by
  rintro ⟨t, ht, h0⟩
  obtain ⟨e, e6, e1, e2⟩ := W.err ht
  obtain ⟨o, ho, o1, o2⟩ := W.over ht
  have c3 : cN μ b t ≤ 3 := by
    have := C.cnt
    rcases (show t = 0 ∨ t = 1 ∨ t = 2 by omega) with rfl | rfl | rfl <;> omega
  rw [e2, n_gt0 (by omega)] at h0
  have T := (W.2.2.1 t ht).1
  rw [show 46 + 18 * t + 12 = 58 + 18 * t by omega, show 46 + 18 * t + 10 = 56 + 18 * t by omega, e1, o1] at T
  have ne : ¬ o = cN μ b t := fun q => T (fun q2 => by have := (n_eq (by omega) (by omega)).mp q2; omega) (by rw [q])
  have A := W.2.2.2 t o ht (by omega)
  rw [o1] at A
  have z : s (82 + 2 * (3 * t + o)) = nI 0 := Classical.byContradiction fun q => Int32.lt_irrefl (A.mp q)
  have K := h.2.1 (3 * t + o) (by omega) (by
    unfold isCN
    rw [show (3 * t + o) % 3 = o by omega, show (3 * t + o) / 3 = t by omega, (C.cnt.1 t (by omega)).2, n_tn (by omega)]
    omega)
  rw [show 81 + 2 * (3 * t + o) + 1 = 82 + 2 * (3 * t + o) by omega, z] at K
  exact absurd K (by decide)
/-- both judges of moments, at an end -/
theorem s_fol2 {J : Nat} (C : Ctx b m μ ν) (W : Wn μ b (μ (b + 8)) s) (hE : noS (μ (b + 8)) (cN μ b)) (hm : ¬ μ (b + 1) 8 = nI 0) (hJ : J + 8 < b ∨ b + 9 < J + 2) : ∃ (r : Int32) (μ1 : zM), (r = nI 0 ∨ r = nI 1) ∧ (∀ Q, wr (M_X3_followsMoments J b [] μ) Q = Q r μ1) ∧ (∀ a, (a < J + 2 ∨ J + 8 < a) → μ1 a = μ a) ∧ ∀ f, ∃ ν1 f', (∀ Q, wr (M_X9_keepsNow m [] (zmm ν m s f)) Q = Q r (zmm ν1 m s f')) ∧ (∀ j, j ≠ 7 → j ≠ 8 → j ≠ 9 → f' j = f j) ∧ ∀ a, a ≠ m → a ≠ m + 3 → a ≠ m + 4 → a ≠ m + 5 → ν1 a = ν a := by
  have ho := W.1 99 (by omega)
  obtain ⟨l, nd, hl, l6, o1, o2⟩ : relO (cOk μ b) (μ (b + 8) 27) (s 99) := by
    unfold rl at ho
    rw [show pos false 99 = 27 by decide] at ho
    simpa using ho
  obtain ⟨r, μ1, e1, t1, f1⟩ := wr_get (e_follows (J := J) (C.pj hm) hJ rfl (fun x hx => (hl x hx).1) l6 o1)
  have C3 : Ctx b m μ (zsa ν (m + 3) s) := C.s3
  have same := fol_same (l := l) C3 W (fun he => hE.over he) hm nd hl
  refine ⟨r, μ1, ?_, fun Q => by rw [e1]; rfl, f1, fun f => ?_⟩
  · rcases t1 with ⟨q, -⟩ | ⟨q, -⟩
    · exact Or.inr q
    · exact Or.inl q
  · have G := g_keeps (tr := ν (m + 5)) (pl := ν (m + 4)) (f := f) (C3.pn hm) C3.pc (show zsa ν (m + 3) s (m + 3) = s from m_sa) (fun x hx => (hl x hx).1) l6 o2
    rw [← mm_mj] at G
    obtain ⟨r', ν', e2, t2, mA⟩ := wr_get G
    obtain ⟨ν1, f', rfl, h1, h2⟩ := memA_sc mA
    refine ⟨ν1, f', fun Q => ?_, h1, h2⟩
    have er : r' = r := by
      rcases t1 with ⟨rfl, q1⟩ | ⟨rfl, q1⟩ <;> rcases t2 with ⟨rfl, q2⟩ | ⟨rfl, q2⟩
      · rfl
      · exact absurd (same.mp q1).2 q2
      · exact absurd (same.mpr ⟨kep_nf C3 W q2, q2⟩) q1
      · rfl
    rw [e2, er]; rfl
/-! agrees and keeps -/
theorem sc_fin {ν1 : zM} {q : Nat} (h1 : ∀ j, j ≠ 7 → j ≠ 8 → j ≠ 9 → f j = ν m j) (h2 : ∀ a, a ≠ m → a ≠ m + 3 → a ≠ m + 4 → a ≠ m + 5 → ν1 a = usd ν m q a) : ScM m ν (zmm ν1 m s f) := by
  refine ⟨fun a g1 g2 g3 g4 g5 => ?_, fun j g1 g2 g3 g4 g5 g6 => ?_⟩
  · rw [mm_ne g3 g1, h2 a g1 g3 g4 g5, usd_ne g2]
  · rw [mm_f]; exact h1 j g4 g5 g6
theorem s_agrees (I : StI x m μ ν) : wr (M_X8_agrees x [] μ) (fun r μ' => wr (M_X9_agrees m [] ν) (fun r' ν' => r' = r ∧ OkS x m μ ν μ' ν')) := by
  simp only [M_X8_agrees, B_X8_agrees, M_X9_agrees, B_X9_agrees]
  have OK := OkS.rf I
  rcases I.2.1 with ⟨r1, r2⟩ | ⟨r1, r2, r3, r4, r5, W, -⟩
  · simp -implicitDefEqProofs (disch := omega) only [zA0_ap, zA1_ap, zA2_ap, zA3_ap, zA4_ap, zA5_ap, v_fi, v_fz, v_fv, w_k, v_l, v_bin, v_biq, v_ald, v_tb, w_al, w_fd, v_cond, v_call, v_pi, w_an, v_ai, v_aq, v_cmp, v_cm0, w_cb, v_nt, v_and, v_or, w_sk, w_bk, w_cn, w_rv, v_rt, v_sq, v_se, v_ex, v_as, v_az, v_ao, v_pf, v_pz, v_fo, v_if, v_sw, v_lw, v_fl, v_cy, v_cyd, w_lr, wl_some, k_sq0, k_sq1, k_sq2, k_sq3, k_se, k_ex, k_rt, k_l, k_b2, k_b1, k_q2, k_q1, k_ald, k_tb, k_pi, k_condT, k_condF, k_condK, k_call, k_ac, k_ai, k_aq, k_c2, k_c1, k_c0, k_nt, k_andT, k_andF, k_orT, k_orF, k_as2, k_as1, k_az2, k_az1, k_ao2, k_ao1, k_pf, k_pz, k_fo, k_ifT, k_ifF, k_br0, k_br1, k_br2, k_br3, k_s0, k_s1, k_t1, k_s4, k_t4, k_s20, k_t20, zpk_n, zpk_z, zpk_s, k_lw, k_fl, k_cy3, k_cy2, k_cy1, k_cd2, k_cd1, k_w3, k_w20, k_w21, k_w22, k_w23, k_w1T, k_w1F, k_fi, k_fz1, k_fz0, k_fzi, k_fz, k_fv0, k_fv3, k_I, k_B0, k_B1, k_B2, k_B3, k_C, k_E, zenv, zup, ze0, n_add, n_mul, m_st, m_sa, m_ne, m_ss, mm_s, mm_f, mm_ne, mm_ss, mm_sf, Nat.zero_add, u_at, u_ne, if_true, if_false, ite_true, ite_false, reduceIte, and_self, and_true, true_and, or_true, true_or, or_false, false_or, or_self, and_false, false_and, Bool.not_true, Bool.not_false, decide_true, decide_false, ne_eq, n_eqT, n_eqF, n_ltT, n_ltF, n_leT, n_leF, n_z0, n_zF, n_o1, n_oF, n_p0, n_pF, n_lt0, n_ge0, zeq, zne, zlt, zle, zge, zgt, ziadd, zisub, zimul, ziand, zior, zixor, zishl, zishr, ziushr, zidiv, zirem, zmax, zmin, Bool.false_eq_true, not_true_eq_false, not_false_eq_true, Nat.reduceEqDiff, Nat.reduceAdd, Nat.reduceMul, Nat.reduceSub, r1, r2]
    exact OK
  · have C := usd_ctx (m := m) r3 r4
    have W' := W.sx (s' := ovr (ν (m + 3)) 0 100 (ν (m + 6))) (fun i hi => ovr_in hi)
    by_cases hE : noS (μ (x + 8 + 8)) (cN μ (x + 8))
    · obtain ⟨r, μ1, hr, E1, F1, H⟩ := s_find2 (J := x + 17) C W' hE (by omega)
      obtain ⟨ν1, f', E2, F2, F3⟩ := H (ν m)
      have OK' : OkS x m μ ν μ1 (zmm ν1 m (ovr (ν (m + 3)) 0 100 (ν (m + 6))) f') := OkS.sc I (fun a ha => F1 a (by omega)) (sc_fin F2 F3) (by rw [mm_f, F2 3 (by omega) (by omega) (by omega)]; exact I.2.2)
      rcases hr with rfl | rfl
      · simp -implicitDefEqProofs (disch := omega) only [zA0_ap, zA1_ap, zA2_ap, zA3_ap, zA4_ap, zA5_ap, v_fi, v_fz, v_fv, w_k, v_l, v_bin, v_biq, v_ald, v_tb, w_al, w_fd, v_cond, v_call, v_pi, w_an, v_ai, v_aq, v_cmp, v_cm0, w_cb, v_nt, v_and, v_or, w_sk, w_bk, w_cn, w_rv, v_rt, v_sq, v_se, v_ex, v_as, v_az, v_ao, v_pf, v_pz, v_fo, v_if, v_sw, v_lw, v_fl, v_cy, v_cyd, w_lr, wl_some, k_sq0, k_sq1, k_sq2, k_sq3, k_se, k_ex, k_rt, k_l, k_b2, k_b1, k_q2, k_q1, k_ald, k_tb, k_pi, k_condT, k_condF, k_condK, k_call, k_ac, k_ai, k_aq, k_c2, k_c1, k_c0, k_nt, k_andT, k_andF, k_orT, k_orF, k_as2, k_as1, k_az2, k_az1, k_ao2, k_ao1, k_pf, k_pz, k_fo, k_ifT, k_ifF, k_br0, k_br1, k_br2, k_br3, k_s0, k_s1, k_t1, k_s4, k_t4, k_s20, k_t20, zpk_n, zpk_z, zpk_s, k_lw, k_fl, k_cy3, k_cy2, k_cy1, k_cd2, k_cd1, k_w3, k_w20, k_w21, k_w22, k_w23, k_w1T, k_w1F, k_fi, k_fz1, k_fz0, k_fzi, k_fz, k_fv0, k_fv3, k_I, k_B0, k_B1, k_B2, k_B3, k_C, k_E, zenv, zup, ze0, n_add, n_mul, m_st, m_sa, m_ne, m_ss, mm_s, mm_f, mm_ne, mm_ss, mm_sf, Nat.zero_add, u_at, u_ne, if_true, if_false, ite_true, ite_false, reduceIte, and_self, and_true, true_and, or_true, true_or, or_false, false_or, or_self, and_false, false_and, Bool.not_true, Bool.not_false, decide_true, decide_false, ne_eq, n_eqT, n_eqF, n_ltT, n_ltF, n_leT, n_leF, n_z0, n_zF, n_o1, n_oF, n_p0, n_pF, n_lt0, n_ge0, zeq, zne, zlt, zle, zge, zgt, ziadd, zisub, zimul, ziand, zior, zixor, zishl, zishr, ziushr, zidiv, zirem, zmax, zmin, Bool.false_eq_true, not_true_eq_false, not_false_eq_true, Nat.reduceEqDiff, Nat.reduceAdd, Nat.reduceMul, Nat.reduceSub, r1, r2, e_endT C W' hE, g_takeU, g_endT C W' hE, E1, E2]
        exact OK'
      · simp -implicitDefEqProofs (disch := omega) only [zA0_ap, zA1_ap, zA2_ap, zA3_ap, zA4_ap, zA5_ap, v_fi, v_fz, v_fv, w_k, v_l, v_bin, v_biq, v_ald, v_tb, w_al, w_fd, v_cond, v_call, v_pi, w_an, v_ai, v_aq, v_cmp, v_cm0, w_cb, v_nt, v_and, v_or, w_sk, w_bk, w_cn, w_rv, v_rt, v_sq, v_se, v_ex, v_as, v_az, v_ao, v_pf, v_pz, v_fo, v_if, v_sw, v_lw, v_fl, v_cy, v_cyd, w_lr, wl_some, k_sq0, k_sq1, k_sq2, k_sq3, k_se, k_ex, k_rt, k_l, k_b2, k_b1, k_q2, k_q1, k_ald, k_tb, k_pi, k_condT, k_condF, k_condK, k_call, k_ac, k_ai, k_aq, k_c2, k_c1, k_c0, k_nt, k_andT, k_andF, k_orT, k_orF, k_as2, k_as1, k_az2, k_az1, k_ao2, k_ao1, k_pf, k_pz, k_fo, k_ifT, k_ifF, k_br0, k_br1, k_br2, k_br3, k_s0, k_s1, k_t1, k_s4, k_t4, k_s20, k_t20, zpk_n, zpk_z, zpk_s, k_lw, k_fl, k_cy3, k_cy2, k_cy1, k_cd2, k_cd1, k_w3, k_w20, k_w21, k_w22, k_w23, k_w1T, k_w1F, k_fi, k_fz1, k_fz0, k_fzi, k_fz, k_fv0, k_fv3, k_I, k_B0, k_B1, k_B2, k_B3, k_C, k_E, zenv, zup, ze0, n_add, n_mul, m_st, m_sa, m_ne, m_ss, mm_s, mm_f, mm_ne, mm_ss, mm_sf, Nat.zero_add, u_at, u_ne, if_true, if_false, ite_true, ite_false, reduceIte, and_self, and_true, true_and, or_true, true_or, or_false, false_or, or_self, and_false, false_and, Bool.not_true, Bool.not_false, decide_true, decide_false, ne_eq, n_eqT, n_eqF, n_ltT, n_ltF, n_leT, n_leF, n_z0, n_zF, n_o1, n_oF, n_p0, n_pF, n_lt0, n_ge0, zeq, zne, zlt, zle, zge, zgt, ziadd, zisub, zimul, ziand, zior, zixor, zishl, zishr, ziushr, zidiv, zirem, zmax, zmin, Bool.false_eq_true, not_true_eq_false, not_false_eq_true, Nat.reduceEqDiff, Nat.reduceAdd, Nat.reduceMul, Nat.reduceSub, r1, r2, e_endT C W' hE, g_takeU, g_endT C W' hE, E1, E2]
        exact OK'
    · have OK' : OkS x m μ ν μ (zmm (usd ν m 1) m (ovr (ν (m + 3)) 0 100 (ν (m + 6))) (ν m)) := OkS.sc I (fun _ _ => rfl) (sc_zmm fun _ _ _ _ _ _ _ => rfl) (by rw [mm_f]; exact I.2.2)
      simp -implicitDefEqProofs (disch := omega) only [zA0_ap, zA1_ap, zA2_ap, zA3_ap, zA4_ap, zA5_ap, v_fi, v_fz, v_fv, w_k, v_l, v_bin, v_biq, v_ald, v_tb, w_al, w_fd, v_cond, v_call, v_pi, w_an, v_ai, v_aq, v_cmp, v_cm0, w_cb, v_nt, v_and, v_or, w_sk, w_bk, w_cn, w_rv, v_rt, v_sq, v_se, v_ex, v_as, v_az, v_ao, v_pf, v_pz, v_fo, v_if, v_sw, v_lw, v_fl, v_cy, v_cyd, w_lr, wl_some, k_sq0, k_sq1, k_sq2, k_sq3, k_se, k_ex, k_rt, k_l, k_b2, k_b1, k_q2, k_q1, k_ald, k_tb, k_pi, k_condT, k_condF, k_condK, k_call, k_ac, k_ai, k_aq, k_c2, k_c1, k_c0, k_nt, k_andT, k_andF, k_orT, k_orF, k_as2, k_as1, k_az2, k_az1, k_ao2, k_ao1, k_pf, k_pz, k_fo, k_ifT, k_ifF, k_br0, k_br1, k_br2, k_br3, k_s0, k_s1, k_t1, k_s4, k_t4, k_s20, k_t20, zpk_n, zpk_z, zpk_s, k_lw, k_fl, k_cy3, k_cy2, k_cy1, k_cd2, k_cd1, k_w3, k_w20, k_w21, k_w22, k_w23, k_w1T, k_w1F, k_fi, k_fz1, k_fz0, k_fzi, k_fz, k_fv0, k_fv3, k_I, k_B0, k_B1, k_B2, k_B3, k_C, k_E, zenv, zup, ze0, n_add, n_mul, m_st, m_sa, m_ne, m_ss, mm_s, mm_f, mm_ne, mm_ss, mm_sf, Nat.zero_add, u_at, u_ne, if_true, if_false, ite_true, ite_false, reduceIte, and_self, and_true, true_and, or_true, true_or, or_false, false_or, or_self, and_false, false_and, Bool.not_true, Bool.not_false, decide_true, decide_false, ne_eq, n_eqT, n_eqF, n_ltT, n_ltF, n_leT, n_leF, n_z0, n_zF, n_o1, n_oF, n_p0, n_pF, n_lt0, n_ge0, zeq, zne, zlt, zle, zge, zgt, ziadd, zisub, zimul, ziand, zior, zixor, zishl, zishr, ziushr, zidiv, zirem, zmax, zmin, Bool.false_eq_true, not_true_eq_false, not_false_eq_true, Nat.reduceEqDiff, Nat.reduceAdd, Nat.reduceMul, Nat.reduceSub, r1, r2, e_endF C W' hE, g_takeU, g_endF C W' hE]
      exact OK'
theorem s_keeps (I : StI x m μ ν) : wr (M_X8_keeps x [] μ) (fun r μ' => wr (M_X9_keeps m [] ν) (fun r' ν' => r' = r ∧ OkS x m μ ν μ' ν')) := by
  simp only [M_X8_keeps, B_X8_keeps, M_X9_keeps, B_X9_keeps]
  have OK := OkS.rf I
  rcases I.2.1 with ⟨r1, r2⟩ | ⟨r1, r2, r3, r4, r5, W, -⟩
  · simp -implicitDefEqProofs (disch := omega) only [zA0_ap, zA1_ap, zA2_ap, zA3_ap, zA4_ap, zA5_ap, v_fi, v_fz, v_fv, w_k, v_l, v_bin, v_biq, v_ald, v_tb, w_al, w_fd, v_cond, v_call, v_pi, w_an, v_ai, v_aq, v_cmp, v_cm0, w_cb, v_nt, v_and, v_or, w_sk, w_bk, w_cn, w_rv, v_rt, v_sq, v_se, v_ex, v_as, v_az, v_ao, v_pf, v_pz, v_fo, v_if, v_sw, v_lw, v_fl, v_cy, v_cyd, w_lr, wl_some, k_sq0, k_sq1, k_sq2, k_sq3, k_se, k_ex, k_rt, k_l, k_b2, k_b1, k_q2, k_q1, k_ald, k_tb, k_pi, k_condT, k_condF, k_condK, k_call, k_ac, k_ai, k_aq, k_c2, k_c1, k_c0, k_nt, k_andT, k_andF, k_orT, k_orF, k_as2, k_as1, k_az2, k_az1, k_ao2, k_ao1, k_pf, k_pz, k_fo, k_ifT, k_ifF, k_br0, k_br1, k_br2, k_br3, k_s0, k_s1, k_t1, k_s4, k_t4, k_s20, k_t20, zpk_n, zpk_z, zpk_s, k_lw, k_fl, k_cy3, k_cy2, k_cy1, k_cd2, k_cd1, k_w3, k_w20, k_w21, k_w22, k_w23, k_w1T, k_w1F, k_fi, k_fz1, k_fz0, k_fzi, k_fz, k_fv0, k_fv3, k_I, k_B0, k_B1, k_B2, k_B3, k_C, k_E, zenv, zup, ze0, n_add, n_mul, m_st, m_sa, m_ne, m_ss, mm_s, mm_f, mm_ne, mm_ss, mm_sf, Nat.zero_add, u_at, u_ne, if_true, if_false, ite_true, ite_false, reduceIte, and_self, and_true, true_and, or_true, true_or, or_false, false_or, or_self, and_false, false_and, Bool.not_true, Bool.not_false, decide_true, decide_false, ne_eq, n_eqT, n_eqF, n_ltT, n_ltF, n_leT, n_leF, n_z0, n_zF, n_o1, n_oF, n_p0, n_pF, n_lt0, n_ge0, zeq, zne, zlt, zle, zge, zgt, ziadd, zisub, zimul, ziand, zior, zixor, zishl, zishr, ziushr, zidiv, zirem, zmax, zmin, Bool.false_eq_true, not_true_eq_false, not_false_eq_true, Nat.reduceEqDiff, Nat.reduceAdd, Nat.reduceMul, Nat.reduceSub, r1, r2]
    exact OK
  · have C := usd_ctx (m := m) r3 r4
    have W' := W.sx (s' := ovr (ν (m + 3)) 0 100 (ν (m + 6))) (fun i hi => ovr_in hi)
    have OK' : OkS x m μ ν μ (zmm (usd ν m 1) m (ovr (ν (m + 3)) 0 100 (ν (m + 6))) (ν m)) := OkS.sc I (fun _ _ => rfl) (sc_zmm fun _ _ _ _ _ _ _ => rfl) (by rw [mm_f]; exact I.2.2)
    have md : usd ν m 1 (m + 2) 950 = μ (x + 8 + 1) 8 := C.mdE
    by_cases hE : noS (μ (x + 8 + 8)) (cN μ (x + 8))
    · by_cases hm : μ (x + 8 + 1) 8 = nI 0
      · simp -implicitDefEqProofs (disch := omega) only [zA0_ap, zA1_ap, zA2_ap, zA3_ap, zA4_ap, zA5_ap, v_fi, v_fz, v_fv, w_k, v_l, v_bin, v_biq, v_ald, v_tb, w_al, w_fd, v_cond, v_call, v_pi, w_an, v_ai, v_aq, v_cmp, v_cm0, w_cb, v_nt, v_and, v_or, w_sk, w_bk, w_cn, w_rv, v_rt, v_sq, v_se, v_ex, v_as, v_az, v_ao, v_pf, v_pz, v_fo, v_if, v_sw, v_lw, v_fl, v_cy, v_cyd, w_lr, wl_some, k_sq0, k_sq1, k_sq2, k_sq3, k_se, k_ex, k_rt, k_l, k_b2, k_b1, k_q2, k_q1, k_ald, k_tb, k_pi, k_condT, k_condF, k_condK, k_call, k_ac, k_ai, k_aq, k_c2, k_c1, k_c0, k_nt, k_andT, k_andF, k_orT, k_orF, k_as2, k_as1, k_az2, k_az1, k_ao2, k_ao1, k_pf, k_pz, k_fo, k_ifT, k_ifF, k_br0, k_br1, k_br2, k_br3, k_s0, k_s1, k_t1, k_s4, k_t4, k_s20, k_t20, zpk_n, zpk_z, zpk_s, k_lw, k_fl, k_cy3, k_cy2, k_cy1, k_cd2, k_cd1, k_w3, k_w20, k_w21, k_w22, k_w23, k_w1T, k_w1F, k_fi, k_fz1, k_fz0, k_fzi, k_fz, k_fv0, k_fv3, k_I, k_B0, k_B1, k_B2, k_B3, k_C, k_E, zenv, zup, ze0, n_add, n_mul, m_st, m_sa, m_ne, m_ss, mm_s, mm_f, mm_ne, mm_ss, mm_sf, Nat.zero_add, u_at, u_ne, if_true, if_false, ite_true, ite_false, reduceIte, and_self, and_true, true_and, or_true, true_or, or_false, false_or, or_self, and_false, false_and, Bool.not_true, Bool.not_false, decide_true, decide_false, ne_eq, n_eqT, n_eqF, n_ltT, n_ltF, n_leT, n_leF, n_z0, n_zF, n_o1, n_oF, n_p0, n_pF, n_lt0, n_ge0, zeq, zne, zlt, zle, zge, zgt, ziadd, zisub, zimul, ziand, zior, zixor, zishl, zishr, ziushr, zidiv, zirem, zmax, zmin, Bool.false_eq_true, not_true_eq_false, not_false_eq_true, Nat.reduceEqDiff, Nat.reduceAdd, Nat.reduceMul, Nat.reduceSub, r1, r2, e_endT C W' hE, g_takeU, g_endT C W' hE, hm, md]
        exact OK'
      · obtain ⟨r, μ1, hr, E1, F1, H⟩ := s_fol2 (J := x + 17) C W' hE hm (by omega)
        obtain ⟨ν1, f', E2, F2, F3⟩ := H (ν m)
        have OK' : OkS x m μ ν μ1 (zmm ν1 m (ovr (ν (m + 3)) 0 100 (ν (m + 6))) f') := OkS.sc I (fun a ha => F1 a (by omega)) (sc_fin F2 F3) (by rw [mm_f, F2 3 (by omega) (by omega) (by omega)]; exact I.2.2)
        have hm0 : ¬ μ (x + 8 + 1) 8 = 0 := hm
        rcases hr with rfl | rfl
        · simp -implicitDefEqProofs (disch := omega) only [zA0_ap, zA1_ap, zA2_ap, zA3_ap, zA4_ap, zA5_ap, v_fi, v_fz, v_fv, w_k, v_l, v_bin, v_biq, v_ald, v_tb, w_al, w_fd, v_cond, v_call, v_pi, w_an, v_ai, v_aq, v_cmp, v_cm0, w_cb, v_nt, v_and, v_or, w_sk, w_bk, w_cn, w_rv, v_rt, v_sq, v_se, v_ex, v_as, v_az, v_ao, v_pf, v_pz, v_fo, v_if, v_sw, v_lw, v_fl, v_cy, v_cyd, w_lr, wl_some, k_sq0, k_sq1, k_sq2, k_sq3, k_se, k_ex, k_rt, k_l, k_b2, k_b1, k_q2, k_q1, k_ald, k_tb, k_pi, k_condT, k_condF, k_condK, k_call, k_ac, k_ai, k_aq, k_c2, k_c1, k_c0, k_nt, k_andT, k_andF, k_orT, k_orF, k_as2, k_as1, k_az2, k_az1, k_ao2, k_ao1, k_pf, k_pz, k_fo, k_ifT, k_ifF, k_br0, k_br1, k_br2, k_br3, k_s0, k_s1, k_t1, k_s4, k_t4, k_s20, k_t20, zpk_n, zpk_z, zpk_s, k_lw, k_fl, k_cy3, k_cy2, k_cy1, k_cd2, k_cd1, k_w3, k_w20, k_w21, k_w22, k_w23, k_w1T, k_w1F, k_fi, k_fz1, k_fz0, k_fzi, k_fz, k_fv0, k_fv3, k_I, k_B0, k_B1, k_B2, k_B3, k_C, k_E, zenv, zup, ze0, n_add, n_mul, m_st, m_sa, m_ne, m_ss, mm_s, mm_f, mm_ne, mm_ss, mm_sf, Nat.zero_add, u_at, u_ne, if_true, if_false, ite_true, ite_false, reduceIte, and_self, and_true, true_and, or_true, true_or, or_false, false_or, or_self, and_false, false_and, Bool.not_true, Bool.not_false, decide_true, decide_false, ne_eq, n_eqT, n_eqF, n_ltT, n_ltF, n_leT, n_leF, n_z0, n_zF, n_o1, n_oF, n_p0, n_pF, n_lt0, n_ge0, zeq, zne, zlt, zle, zge, zgt, ziadd, zisub, zimul, ziand, zior, zixor, zishl, zishr, ziushr, zidiv, zirem, zmax, zmin, Bool.false_eq_true, not_true_eq_false, not_false_eq_true, Nat.reduceEqDiff, Nat.reduceAdd, Nat.reduceMul, Nat.reduceSub, r1, r2, e_endT C W' hE, g_takeU, g_endT C W' hE, hm0, md, E1, E2]
          exact OK'
        · simp -implicitDefEqProofs (disch := omega) only [zA0_ap, zA1_ap, zA2_ap, zA3_ap, zA4_ap, zA5_ap, v_fi, v_fz, v_fv, w_k, v_l, v_bin, v_biq, v_ald, v_tb, w_al, w_fd, v_cond, v_call, v_pi, w_an, v_ai, v_aq, v_cmp, v_cm0, w_cb, v_nt, v_and, v_or, w_sk, w_bk, w_cn, w_rv, v_rt, v_sq, v_se, v_ex, v_as, v_az, v_ao, v_pf, v_pz, v_fo, v_if, v_sw, v_lw, v_fl, v_cy, v_cyd, w_lr, wl_some, k_sq0, k_sq1, k_sq2, k_sq3, k_se, k_ex, k_rt, k_l, k_b2, k_b1, k_q2, k_q1, k_ald, k_tb, k_pi, k_condT, k_condF, k_condK, k_call, k_ac, k_ai, k_aq, k_c2, k_c1, k_c0, k_nt, k_andT, k_andF, k_orT, k_orF, k_as2, k_as1, k_az2, k_az1, k_ao2, k_ao1, k_pf, k_pz, k_fo, k_ifT, k_ifF, k_br0, k_br1, k_br2, k_br3, k_s0, k_s1, k_t1, k_s4, k_t4, k_s20, k_t20, zpk_n, zpk_z, zpk_s, k_lw, k_fl, k_cy3, k_cy2, k_cy1, k_cd2, k_cd1, k_w3, k_w20, k_w21, k_w22, k_w23, k_w1T, k_w1F, k_fi, k_fz1, k_fz0, k_fzi, k_fz, k_fv0, k_fv3, k_I, k_B0, k_B1, k_B2, k_B3, k_C, k_E, zenv, zup, ze0, n_add, n_mul, m_st, m_sa, m_ne, m_ss, mm_s, mm_f, mm_ne, mm_ss, mm_sf, Nat.zero_add, u_at, u_ne, if_true, if_false, ite_true, ite_false, reduceIte, and_self, and_true, true_and, or_true, true_or, or_false, false_or, or_self, and_false, false_and, Bool.not_true, Bool.not_false, decide_true, decide_false, ne_eq, n_eqT, n_eqF, n_ltT, n_ltF, n_leT, n_leF, n_z0, n_zF, n_o1, n_oF, n_p0, n_pF, n_lt0, n_ge0, zeq, zne, zlt, zle, zge, zgt, ziadd, zisub, zimul, ziand, zior, zixor, zishl, zishr, ziushr, zidiv, zirem, zmax, zmin, Bool.false_eq_true, not_true_eq_false, not_false_eq_true, Nat.reduceEqDiff, Nat.reduceAdd, Nat.reduceMul, Nat.reduceSub, r1, r2, e_endT C W' hE, g_takeU, g_endT C W' hE, hm0, md, E1, E2]
          exact OK'
    · simp -implicitDefEqProofs (disch := omega) only [zA0_ap, zA1_ap, zA2_ap, zA3_ap, zA4_ap, zA5_ap, v_fi, v_fz, v_fv, w_k, v_l, v_bin, v_biq, v_ald, v_tb, w_al, w_fd, v_cond, v_call, v_pi, w_an, v_ai, v_aq, v_cmp, v_cm0, w_cb, v_nt, v_and, v_or, w_sk, w_bk, w_cn, w_rv, v_rt, v_sq, v_se, v_ex, v_as, v_az, v_ao, v_pf, v_pz, v_fo, v_if, v_sw, v_lw, v_fl, v_cy, v_cyd, w_lr, wl_some, k_sq0, k_sq1, k_sq2, k_sq3, k_se, k_ex, k_rt, k_l, k_b2, k_b1, k_q2, k_q1, k_ald, k_tb, k_pi, k_condT, k_condF, k_condK, k_call, k_ac, k_ai, k_aq, k_c2, k_c1, k_c0, k_nt, k_andT, k_andF, k_orT, k_orF, k_as2, k_as1, k_az2, k_az1, k_ao2, k_ao1, k_pf, k_pz, k_fo, k_ifT, k_ifF, k_br0, k_br1, k_br2, k_br3, k_s0, k_s1, k_t1, k_s4, k_t4, k_s20, k_t20, zpk_n, zpk_z, zpk_s, k_lw, k_fl, k_cy3, k_cy2, k_cy1, k_cd2, k_cd1, k_w3, k_w20, k_w21, k_w22, k_w23, k_w1T, k_w1F, k_fi, k_fz1, k_fz0, k_fzi, k_fz, k_fv0, k_fv3, k_I, k_B0, k_B1, k_B2, k_B3, k_C, k_E, zenv, zup, ze0, n_add, n_mul, m_st, m_sa, m_ne, m_ss, mm_s, mm_f, mm_ne, mm_ss, mm_sf, Nat.zero_add, u_at, u_ne, if_true, if_false, ite_true, ite_false, reduceIte, and_self, and_true, true_and, or_true, true_or, or_false, false_or, or_self, and_false, false_and, Bool.not_true, Bool.not_false, decide_true, decide_false, ne_eq, n_eqT, n_eqF, n_ltT, n_ltF, n_leT, n_leF, n_z0, n_zF, n_o1, n_oF, n_p0, n_pF, n_lt0, n_ge0, zeq, zne, zlt, zle, zge, zgt, ziadd, zisub, zimul, ziand, zior, zixor, zishl, zishr, ziushr, zidiv, zirem, zmax, zmin, Bool.false_eq_true, not_true_eq_false, not_false_eq_true, Nat.reduceEqDiff, Nat.reduceAdd, Nat.reduceMul, Nat.reduceSub, r1, r2, e_endF C W' hE, g_takeU, g_endF C W' hE]
      exact OK'
end ST8
